/-! the reference: a month -/
def ctN (At : Nat → Nat) (k : Nat) : Nat → Nat
  | 0 => 0
  | i + 1 => ctN At k i + if At i = k then 1 else 0
theorem pop_ct {At : Nat → Nat} {k : Nat} : ∀ i, i ≤ 3 → popN (gbN At k i) = ctN At k i := by
  intro i hi
  rcases (show i = 0 ∨ i = 1 ∨ i = 2 ∨ i = 3 by omega) with rfl | rfl | rfl | rfl
  · show popN 0 = 0
    decide
  · show popN (0 + if At 0 = k then 2 ^ 0 else 0) = 0 + if At 0 = k then 1 else 0
    split <;> decide
  · show popN (0 + (if At 0 = k then 2 ^ 0 else 0) + if At 1 = k then 2 ^ 1 else 0) = 0 + (if At 0 = k then 1 else 0) + if At 1 = k then 1 else 0
    split <;> split <;> decide
  · show popN (0 + (if At 0 = k then 2 ^ 0 else 0) + (if At 1 = k then 2 ^ 1 else 0) + if At 2 = k then 2 ^ 2 else 0) = 0 + (if At 0 = k then 1 else 0) + (if At 1 = k then 1 else 0) + if At 2 = k then 1 else 0
    split <;> split <;> split <;> decide
theorem wrM_self {M : mM} {k n : Nat} {f : Nat → Nat} (h : ∀ i, i < n → M.1 k i = nI (f i)) : wrM M k n f = M := by
  refine mM_ext (fun a i => ?_) rfl
  show (if a = k ∧ i < n then nI (f i) else M.1 a i) = M.1 a i
  by_cases e : a = k ∧ i < n
  · rw [if_pos e, e.1]; exact (h i e.2).symm
  · rw [if_neg e]
/-- after i governesses' lessons -/
def lsN (K Z At : Nat → Nat) (mo i k : Nat) : Nat := if brkN (K k) = 0 ∨ mo % 2 = 0 then Z k - ctN At k i else Z k
/-- what the model makes of the first k reaches in a third month -/
def thN (K Z At : Nat → Nat) (g mo k j : Nat) : Nat := if j < k then pmN K Z At g mo j else lsN K Z At mo g j
def frH (M M1 : mM) : Prop := frC M M1 ∧ M1.2 = M.2
theorem frH_refl (M : mM) : frH M M := ⟨frC_refl M, rfl⟩
theorem frH_trans {M M1 M2 : mM} (h : frH M M1) (h2 : frH M1 M2) : frH M M2 := ⟨frC_trans h.1 h2.1, h2.2.trans h.2⟩
theorem RelM_wr {s : St} {M : mM} {k n : Nat} {f : Nat → Nat} (h : RelM s M) (hk : (62 ≤ k ∧ k ≤ 67) ∨ k = 69) : RelM s (wrM M k n f) := RelM_o h (fun a i _ => wrM_o (by omega))
theorem frH_wr {M M1 : mM} {k n : Nat} {f : Nat → Nat} (h : frH M M1) (hk : 55 ≤ k) : frH M (wrM M1 k n f) := ⟨frC_wr h.1 hk, h.2⟩
section
variable {X : (Nat → Int32) × Nat} {d : Nat} {Q : mM → Option Value → Prop} {M : mM} {s : St} {n g mo : Nat} {K Z At : Nat → Nat}
theorem l_Mo_isTended {k : Nat} (hk : k < 2 ^ 31) (hg : M.1 55 4 = nI g) (hg3 : g ≤ 3) (hA : ∀ i, i < g → M.1 64 i = nI (At i)) (hAb : ∀ i, i < g → At i < 2 ^ 31) (hQ : Q M (some (.int (nI (if ctN At k g = 0 then 0 else 1))))) (i : Nat) (hi : i ≤ g) : wp X (d + 1) n_Mo_isTended Q 4 [.ref 55, .int (nI k), .int (nI (if ctN At k i = 0 then 0 else 1)), .int (nI i)] [] M := by
  have hs : (if ctN At k i = 0 then 0 else 1) ≤ 1 := by split <;> omega
  have e1 : ctN At k (i + 1) = ctN At k i + if At i = k then 1 else 0 := rfl
  refine x_il3 f_Mo_isTended_4 ?_
  refine x_al0 f_Mo_isTended_5 ?_
  refine x_getIV f_Mo_isTended_6 rfl rfl (Or.inl rfl) (hg) ?_
  refine x_cmp_geN f_Mo_isTended_9 (by omega) (by omega) (fun h9 => ?_) (fun h9 => ?_)
  · have e : i = g := by omega
    subst e
    refine x_il2 f_Mo_isTended_38 ?_
    exact x_zreturn f_Mo_isTended_39 rfl (z01 hs) hQ
  · have hb := hAb i h9
    have hh := l_Mo_isTended hk hg hg3 hA hAb hQ (i + 1) (by omega)
    refine x_il2 f_Mo_isTended_12 ?_
    refine x_if_neN f_Mo_isTended_13 (by omega) (fun h => ?_) (fun h => ?_)
    · refine x_iconst (v := (nI 1)) f_Mo_isTended_26 rfl ?_
      refine x_goto f_Mo_isTended_27 ?_
      refine x_is2 f_Mo_isTended_31 rfl ?_
      refine x_incN3 f_Mo_isTended_32 rfl ?_
      refine x_goto f_Mo_isTended_35 ?_
      have e : ¬ ctN At k i = 0 := fun z => by rw [if_pos z] at h; omega
      rw [if_neg (by omega)] at hh
      exact hh
    · have e : ctN At k i = 0 := Decidable.not_not.mp (fun z => by rw [if_neg z] at h; omega)
      refine x_al0 f_Mo_isTended_16 ?_
      refine x_getR f_Mo_isTended_17 rfl rfl ?_
      refine x_il3 f_Mo_isTended_20 ?_
      refine x_ialdV f_Mo_isTended_21 rfl (by omega) (hA i h9) ?_
      refine x_il1 f_Mo_isTended_22 ?_
      refine x_cmp_neN f_Mo_isTended_23 (by omega) (by omega) (fun h1 => ?_) (fun h1 => ?_)
      · refine x_iconst (v := (nI 0)) f_Mo_isTended_30 rfl ?_
        refine x_is2 f_Mo_isTended_31 rfl ?_
        refine x_incN3 f_Mo_isTended_32 rfl ?_
        refine x_goto f_Mo_isTended_35 ?_
        rw [if_neg h1] at e1
        rw [if_pos (by omega)] at hh
        exact hh
      · refine x_iconst (v := (nI 1)) f_Mo_isTended_26 rfl ?_
        refine x_goto f_Mo_isTended_27 ?_
        refine x_is2 f_Mo_isTended_31 rfl ?_
        refine x_incN3 f_Mo_isTended_32 rfl ?_
        refine x_goto f_Mo_isTended_35 ?_
        rw [if_pos h1] at e1
        rw [if_neg (by omega)] at hh
        exact hh
termination_by g - i
decreasing_by all_goals omega
theorem c_Mo_isTended {M : mM} {k : Nat} (hk : k < 2 ^ 31) (hg : M.1 55 4 = nI g) (hg3 : g ≤ 3) (hA : ∀ i, i < g → M.1 64 i = nI (At i)) (hAb : ∀ i, i < g → At i < 2 ^ 31) (hQ : Q M (some (.int (nI (if ctN At k g = 0 then 0 else 1))))) : wp X (d + 1) n_Mo_isTended Q 0 [.ref 55, .int (nI k), .null, .null] [] M := by
  refine x_iconst (v := (nI 0)) f_Mo_isTended_0 rfl ?_
  refine x_is2 f_Mo_isTended_1 rfl ?_
  refine x_iconst (v := (nI 0)) f_Mo_isTended_2 rfl ?_
  refine x_is3 f_Mo_isTended_3 rfl ?_
  exact l_Mo_isTended hk hg hg3 hA hAb hQ 0 (by omega)
theorem c_Mo_begin {M : mM} (hQ : Q (crM (crM M 59 63 7) 61 64 3) none) : wp X (d + 2) n_Mo_begin Q 0 [.ref 55] [] M := by
  refine x_al0 f_Mo_begin_0 ?_
  refine x_getR f_Mo_begin_1 rfl rfl ?_
  refine x_al0 f_Mo_begin_4 ?_
  refine x_getR f_Mo_begin_5 rfl rfl ?_
  refine x_cS2v f_Mo_begin_8 (by decide) (Nat.le_of_ble_eq_true rfl) (Nat.le_of_ble_eq_true rfl) rfl (c_Mo_copy (k0 := 59) (k1 := 63) (z := 7) rfl rfl (by omega) (by omega) ⟨rfl, ?_⟩)
  refine x_al0 f_Mo_begin_11 ?_
  refine x_getR f_Mo_begin_12 rfl rfl ?_
  refine x_al0 f_Mo_begin_15 ?_
  refine x_getR f_Mo_begin_16 rfl rfl ?_
  refine x_cS2v f_Mo_begin_19 (by decide) (Nat.le_of_ble_eq_true rfl) (Nat.le_of_ble_eq_true rfl) rfl (c_Mo_copy (k0 := 61) (k1 := 64) (z := 3) rfl rfl (by omega) (by omega) ⟨rfl, ?_⟩)
  refine x_return f_Mo_begin_22 rfl ?_
  exact hQ
theorem l_Mo_goOn2 (hm : mo < 100000) (hm3 : mo % 3 = 0) (hn : M.1 55 3 = nI n) (hn7 : n ≤ 7) (hg : M.1 55 4 = nI g) (hg3 : g ≤ 3) (hA : ∀ i, i < g → M.1 64 i = nI (At i)) (hAb : ∀ i, i < g → At i < n) (hZb : ∀ i, i < n → Z i ≤ 9) (hQ : Q (wrM M 63 n (pmN K Z At g mo)) none) (v3 v4 : Value) (k : Nat) (hk : k ≤ n) : wp X (d + 2) n_Mo_goOn Q 86 [.ref 55, .int (nI mo), .int (nI k), v3, v4] [] (wrM M 63 n (thN K Z At g mo k)) := by
  have o : ∀ a i, a ≠ 63 → (wrM M 63 n (thN K Z At g mo k)).1 a i = M.1 a i := fun a i h => wrM_o h
  refine x_il2 f_Mo_goOn_86 ?_
  refine x_al0 f_Mo_goOn_87 ?_
  refine x_getIV f_Mo_goOn_88 rfl rfl (Or.inl rfl) ((o _ _ (by omega)).trans hn) ?_
  refine x_cmp_geN f_Mo_goOn_91 (by omega) (by omega) (fun h => ?_) (fun h => ?_)
  · have e : k = n := by omega
    subst e
    refine x_return f_Mo_goOn_139 rfl ?_
    have e2 : wrM M 63 k (thN K Z At g mo k) = wrM M 63 k (pmN K Z At g mo) := wrM_congr (fun i hi => if_pos hi)
    rw [e2]
    exact hQ
  · refine x_il1 f_Mo_goOn_94 ?_
    refine x_iconst (v := (nI 3)) f_Mo_goOn_95 rfl ?_
    refine x_iremN f_Mo_goOn_96 (by omega) (by omega) (by omega) ?_
    refine x_if_neN f_Mo_goOn_97 (by omega) (fun h1 => absurd h1 (by omega)) (fun _ => ?_)
    have hzk := hZb k h
    have ev : thN K Z At g mo k k = lsN K Z At mo g k := if_neg (Nat.lt_irrefl k)
    have ep : pmN K Z At g mo k = wafN (K k) (Z k) mo (ctN At k g) := by
      show wafN (K k) (Z k) mo (popN (gbN At k g)) = _
      rw [pop_ct g hg3]
    have el : lsN K Z At mo g k ≤ 9 := by unfold lsN; split <;> omega
    have fin : ∀ v, v = pmN K Z At g mo k → wp X (d + 2) n_Mo_goOn Q 133 [.ref 55, .int (nI mo), .int (nI k), v3, v4] [] (stM (wrM M 63 n (thN K Z At g mo k)) 63 k (nI v)) := by
      intro v hv
      rw [st_wr2 h]
      refine x_incN2 f_Mo_goOn_133 rfl ?_
      refine x_goto f_Mo_goOn_136 ?_
      have e : wrM M 63 n (fun i => if i = k then v else thN K Z At g mo k i) = wrM M 63 n (thN K Z At g mo (k + 1)) := wrM_congr (fun i hi => by
        unfold thN
        by_cases a : i = k
        · rw [if_pos a, if_pos (by omega), hv, a]
        · rw [if_neg a]
          by_cases b : i < k
          · rw [if_pos b, if_pos (by omega)]
          · rw [if_neg b, if_neg (by omega)])
      rw [e]
      exact l_Mo_goOn2 hm hm3 hn hn7 hg hg3 hA hAb hZb hQ v3 v4 (k + 1) (by omega)
    refine x_al0 f_Mo_goOn_100 ?_
    refine x_getR f_Mo_goOn_101 rfl rfl ?_
    refine x_il2 f_Mo_goOn_104 ?_
    refine x_dup2 f_Mo_goOn_105 rfl rfl ?_
    refine x_ialdV f_Mo_goOn_106 rfl (by omega) (wrM_at h) ?_
    refine x_al0 f_Mo_goOn_107 ?_
    refine x_il2 f_Mo_goOn_108 ?_
    refine x_cV1i f_Mo_goOn_109 rfl rfl (by decide) (Nat.le_of_ble_eq_true rfl) (Nat.le_of_ble_eq_true rfl) rfl (c_Mo_isTended (At := At) (by omega) ((o _ _ (by omega)).trans hg) hg3 (fun i hi => (o _ _ (by omega)).trans (hA i hi)) (fun i hi => by have := hAb i hi; omega) ⟨_, rfl, ?_⟩)
    rw [ev]
    refine x_if_neN f_Mo_goOn_112 (by split <;> omega) (fun h1 => ?_) (fun h1 => ?_)
    · have hc : ¬ ctN At k g = 0 := fun z => by rw [if_pos z] at h1; omega
      refine x_iconst (v := (nI 0)) f_Mo_goOn_130 rfl ?_
      first | refine x_iaddN f_Mo_goOn_131 ?_ | refine x_iadd f_Mo_goOn_131 ?_
      refine x_iastN f_Mo_goOn_132 rfl (by omega) ?_
      refine fin _ ?_
      rw [ep]
      unfold lsN wafN
      rw [if_neg hc]
      rfl
    · have hc : ctN At k g = 0 := Decidable.not_not.mp (fun z => by rw [if_neg z] at h1; omega)
      have e9 : lsN K Z At mo g k = Z k := by unfold lsN; rw [hc]; split <;> omega
      refine x_al0 f_Mo_goOn_115 ?_
      refine x_getR f_Mo_goOn_116 rfl rfl ?_
      refine x_il2 f_Mo_goOn_119 ?_
      refine x_ialdV f_Mo_goOn_120 rfl (by omega) (wrM_at h) ?_
      refine x_bipush (v := (nI 9)) f_Mo_goOn_121 rfl ?_
      rw [ev, e9]
      refine x_cmp_geN f_Mo_goOn_123 (by omega) (by omega) (fun h2 => ?_) (fun h2 => ?_)
      · refine x_iconst (v := (nI 0)) f_Mo_goOn_130 rfl ?_
        first | refine x_iaddN f_Mo_goOn_131 ?_ | refine x_iadd f_Mo_goOn_131 ?_
        refine x_iastN f_Mo_goOn_132 rfl (by omega) ?_
        refine fin _ ?_
        rw [ep]
        unfold wafN
        rw [if_pos hc, if_pos hm3]
        split <;> omega
      · refine x_iconst (v := (nI 1)) f_Mo_goOn_126 rfl ?_
        refine x_goto f_Mo_goOn_127 ?_
        first | refine x_iaddN f_Mo_goOn_131 ?_ | refine x_iadd f_Mo_goOn_131 ?_
        refine x_iastN f_Mo_goOn_132 rfl (by omega) ?_
        refine fin _ ?_
        rw [ep]
        unfold wafN
        rw [if_pos hc, if_pos hm3]
        split <;> omega
termination_by n - k
decreasing_by all_goals omega
theorem l_Mo_goOn1 (hm : mo < 100000) (hn : M.1 55 3 = nI n) (hn7 : n ≤ 7) (hg : M.1 55 4 = nI g) (hg3 : g ≤ 3) (hK : ∀ i, i < n → M.1 57 i = nI (K i)) (hKb : ∀ i, i < n → K i < 10) (hA : ∀ i, i < g → M.1 64 i = nI (At i)) (hAb : ∀ i, i < g → At i < n) (hZb : ∀ i, i < n → Z i ≤ 9) (hQ : Q (wrM M 63 n (pmN K Z At g mo)) none) (v3 v4 : Value) (hv : okst [v3] 1 = true) (i : Nat) (hi : i ≤ g) : wp X (d + 2) n_Mo_goOn Q 2 [.ref 55, .int (nI mo), .int (nI i), v3, v4] [] (wrM M 63 n (lsN K Z At mo i)) := by
  have o : ∀ a j, a ≠ 63 → (wrM M 63 n (lsN K Z At mo i)).1 a j = M.1 a j := fun a j h => wrM_o h
  refine x_il2 f_Mo_goOn_2 ?_
  refine x_al0 f_Mo_goOn_3 ?_
  refine x_getIV f_Mo_goOn_4 rfl rfl (Or.inl rfl) ((o _ _ (by omega)).trans hg) ?_
  refine x_cmp_geN f_Mo_goOn_7 (by omega) (by omega) (fun h => ?_) (fun h => ?_)
  · have e : i = g := by omega
    subst e
    refine x_iconst (v := (nI 0)) f_Mo_goOn_84 rfl ?_
    refine x_is2 f_Mo_goOn_85 rfl ?_
    by_cases hm3 : mo % 3 = 0
    · have e2 : wrM M 63 n (lsN K Z At mo i) = wrM M 63 n (thN K Z At i mo 0) := wrM_congr (fun j _ => (if_neg (Nat.not_lt_zero j)).symm)
      rw [e2]
      exact l_Mo_goOn2 hm hm3 hn hn7 hg hg3 hA hAb hZb hQ _ _ 0 (by omega)
    · have e2 : wrM M 63 n (lsN K Z At mo i) = wrM M 63 n (pmN K Z At i mo) := wrM_congr (fun j hj => by
        show _ = wafN (K j) (Z j) mo (popN (gbN At j i))
        rw [pop_ct i hg3]
        unfold lsN wafN
        by_cases hc : ctN At j i = 0
        · rw [if_pos hc, if_neg hm3, hc]; split <;> omega
        · rw [if_neg hc])
      rw [e2]
      refine x_il2 f_Mo_goOn_86 ?_
      refine x_al0 f_Mo_goOn_87 ?_
      refine x_getIV f_Mo_goOn_88 rfl rfl (Or.inl rfl) ((wrM_o (by omega)).trans hn) ?_
      refine x_cmp_geN f_Mo_goOn_91 (by omega) (by omega) (fun h => ?_) (fun h => ?_)
      · refine x_return f_Mo_goOn_139 rfl ?_
        exact hQ
      · refine x_il1 f_Mo_goOn_94 ?_
        refine x_iconst (v := (nI 3)) f_Mo_goOn_95 rfl ?_
        refine x_iremN f_Mo_goOn_96 (by omega) (by omega) (by omega) ?_
        refine x_if_neN f_Mo_goOn_97 (by omega) (fun _ => ?_) (fun h1 => absurd h1 hm3)
        refine x_return f_Mo_goOn_139 rfl ?_
        exact hQ
  · have ha := hAb i h
    have hk := hKb (At i) ha
    have hz := hZb (At i) ha
    have hl : lsN K Z At mo i (At i) ≤ 9 := by unfold lsN; split <;> omega
    have hb : brkN (K (At i)) = if K (At i) = 1 ∨ K (At i) = 4 then 1 else 0 := rfl
    have fin : ∀ v (u4 : Value), v = lsN K Z At mo (i + 1) (At i) → wp X (d + 2) n_Mo_goOn Q 78 [.ref 55, .int (nI mo), .int (nI i), .int (nI (At i)), u4] [] (stM (wrM M 63 n (lsN K Z At mo i)) 63 (At i) (nI v)) := by
      intro v u4 hv
      rw [st_wr2 ha]
      refine x_incN2 f_Mo_goOn_78 rfl ?_
      refine x_goto f_Mo_goOn_81 ?_
      have e : wrM M 63 n (fun j => if j = At i then v else lsN K Z At mo i j) = wrM M 63 n (lsN K Z At mo (i + 1)) := wrM_congr (fun j hj => by
        by_cases a : j = At i
        · rw [if_pos a, hv, a]
        · rw [if_neg a]
          unfold lsN
          have e1 : ctN At j (i + 1) = ctN At j i + if At i = j then 1 else 0 := rfl
          rw [if_neg (fun z => a z.symm), Nat.add_zero] at e1
          rw [e1]; rfl)
      rw [e]
      exact l_Mo_goOn1 hm hn hn7 hg hg3 hK hKb hA hAb hZb hQ _ _ rfl (i + 1) (by omega)
    have e1 : ctN At (At i) (i + 1) = ctN At (At i) i + 1 := by
      show _ + (if At i = At i then 1 else 0) = _
      rw [if_pos rfl]
    have yes : (brkN (K (At i)) = 0 ∨ mo % 2 = 0) → wp X (d + 2) n_Mo_goOn Q 43 [.ref 55, .int (nI mo), .int (nI i), .int (nI (At i)), v4] [] (wrM M 63 n (lsN K Z At mo i)) := by
      intro hy
      refine x_iconst (v := (nI 1)) f_Mo_goOn_43 rfl ?_
      refine x_goto f_Mo_goOn_44 ?_
      refine x_is4 f_Mo_goOn_48 rfl ?_
      refine x_al0 f_Mo_goOn_50 ?_
      refine x_getR f_Mo_goOn_51 rfl rfl ?_
      refine x_il3 f_Mo_goOn_54 ?_
      refine x_dup2 f_Mo_goOn_55 rfl rfl ?_
      refine x_ialdV f_Mo_goOn_56 rfl (by omega) (wrM_at ha) ?_
      refine x_il4 f_Mo_goOn_57 ?_
      refine x_if_eqN f_Mo_goOn_59 (by omega) (fun h => absurd h (by omega)) (fun _ => ?_)
      refine x_al0 f_Mo_goOn_62 ?_
      refine x_getR f_Mo_goOn_63 rfl rfl ?_
      refine x_il3 f_Mo_goOn_66 ?_
      refine x_ialdV f_Mo_goOn_67 rfl (by omega) (wrM_at ha) ?_
      refine x_if_leN f_Mo_goOn_68 (by omega) (fun h1 => ?_) (fun h1 => ?_)
      · refine x_iconst (v := (nI 0)) f_Mo_goOn_75 rfl ?_
        refine x_isubN f_Mo_goOn_76 (by omega) ?_
        refine x_iastN f_Mo_goOn_77 rfl (by omega) ?_
        refine fin _ _ ?_
        unfold lsN at h1 ⊢
        rw [if_pos hy] at h1 ⊢
        rw [if_pos hy, e1]
        omega
      · refine x_iconst (v := (nI 1)) f_Mo_goOn_71 rfl ?_
        refine x_goto f_Mo_goOn_72 ?_
        refine x_isubN f_Mo_goOn_76 (by omega) ?_
        refine x_iastN f_Mo_goOn_77 rfl (by omega) ?_
        refine fin _ _ ?_
        unfold lsN at h1 ⊢
        rw [if_pos hy] at h1 ⊢
        rw [if_pos hy, e1]
        omega
    have no : ¬ (brkN (K (At i)) = 0 ∨ mo % 2 = 0) → wp X (d + 2) n_Mo_goOn Q 47 [.ref 55, .int (nI mo), .int (nI i), .int (nI (At i)), v4] [] (wrM M 63 n (lsN K Z At mo i)) := by
      intro hy
      refine x_iconst (v := (nI 0)) f_Mo_goOn_47 rfl ?_
      refine x_is4 f_Mo_goOn_48 rfl ?_
      refine x_al0 f_Mo_goOn_50 ?_
      refine x_getR f_Mo_goOn_51 rfl rfl ?_
      refine x_il3 f_Mo_goOn_54 ?_
      refine x_dup2 f_Mo_goOn_55 rfl rfl ?_
      refine x_ialdV f_Mo_goOn_56 rfl (by omega) (wrM_at ha) ?_
      refine x_il4 f_Mo_goOn_57 ?_
      refine x_if_eqN f_Mo_goOn_59 (by omega) (fun _ => ?_) (fun h => absurd h (by omega))
      refine x_iconst (v := (nI 0)) f_Mo_goOn_75 rfl ?_
      refine x_isubN f_Mo_goOn_76 (by omega) ?_
      refine x_iastN f_Mo_goOn_77 rfl (by omega) ?_
      refine fin _ _ ?_
      unfold lsN
      rw [if_neg hy, if_neg hy]; rfl
    refine x_al0 f_Mo_goOn_10 ?_
    refine x_getR f_Mo_goOn_11 rfl rfl ?_
    refine x_il2 f_Mo_goOn_14 ?_
    refine x_ialdV f_Mo_goOn_15 rfl (by omega) ((o _ _ (by omega)).trans (hA i h)) ?_
    refine x_is3 f_Mo_goOn_16 rfl ?_
    refine x_al0 f_Mo_goOn_17 ?_
    refine x_getR f_Mo_goOn_18 rfl rfl ?_
    refine x_il3 f_Mo_goOn_21 ?_
    refine x_ialdV f_Mo_goOn_22 rfl (by omega) ((o _ _ (by omega)).trans (hK _ ha)) ?_
    refine x_iconst (v := (nI 1)) f_Mo_goOn_23 rfl ?_
    have mid : (K (At i) = 1 ∨ K (At i) = 4) → wp X (d + 2) n_Mo_goOn Q 37 [.ref 55, .int (nI mo), .int (nI i), .int (nI (At i)), v4] [] (wrM M 63 n (lsN K Z At mo i)) := by
      intro hy
      rw [if_pos hy] at hb
      refine x_il1 f_Mo_goOn_37 ?_
      refine x_iconst (v := (nI 2)) f_Mo_goOn_38 rfl ?_
      refine x_iremN f_Mo_goOn_39 (by omega) (by omega) (by omega) ?_
      refine x_if_neN f_Mo_goOn_40 (by omega) (fun h1 => no (by omega)) (fun h1 => yes (Or.inr h1))
    refine x_cmp_eqN f_Mo_goOn_24 (by omega) (by omega) (fun h1 => mid (Or.inl h1)) (fun h1 => ?_)
    refine x_al0 f_Mo_goOn_27 ?_
    refine x_getR f_Mo_goOn_28 rfl rfl ?_
    refine x_il3 f_Mo_goOn_31 ?_
    refine x_ialdV f_Mo_goOn_32 rfl (by omega) ((o _ _ (by omega)).trans (hK _ ha)) ?_
    refine x_iconst (v := (nI 4)) f_Mo_goOn_33 rfl ?_
    refine x_cmp_neN f_Mo_goOn_34 (by omega) (by omega) (fun h2 => ?_) (fun h2 => mid (Or.inr h2))
    rw [if_neg (by omega)] at hb
    exact yes (Or.inl hb)
termination_by g - i
decreasing_by all_goals omega
theorem c_Mo_goOn {M : mM} (hm : mo < 100000) (hn : M.1 55 3 = nI n) (hn7 : n ≤ 7) (hg : M.1 55 4 = nI g) (hg3 : g ≤ 3) (hK : ∀ i, i < n → M.1 57 i = nI (K i)) (hKb : ∀ i, i < n → K i < 10) (hA : ∀ i, i < g → M.1 64 i = nI (At i)) (hAb : ∀ i, i < g → At i < n) (hZ : ∀ i, i < n → M.1 63 i = nI (Z i)) (hZb : ∀ i, i < n → Z i ≤ 9) (hQ : Q (wrM M 63 n (pmN K Z At g mo)) none) : wp X (d + 2) n_Mo_goOn Q 0 [.ref 55, .int (nI mo), .null, .null, .null] [] M := by
  refine x_iconst (v := (nI 0)) f_Mo_goOn_0 rfl ?_
  refine x_is2 f_Mo_goOn_1 rfl ?_
  have h := l_Mo_goOn1 (X := X) (d := d) (Q := Q) (M := M) (mo := mo) (K := K) (Z := Z) hm hn hn7 hg hg3 hK hKb hA hAb hZb hQ .null .null rfl 0 (by omega)
  have e : wrM M 63 n (lsN K Z At mo 0) = M := (wrM_congr (fun i _ => by unfold lsN; exact ite_self _)).trans (wrM_self hZ)
  rw [e] at h
  exact h
end
