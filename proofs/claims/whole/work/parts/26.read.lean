/-! a river is read from the page -/
/-- all but the cells lo to hi is as it was -/
def frM (M M1 : mM) (lo hi : Nat) : Prop := (∀ a i, (a < lo ∨ hi < a) → M1.1 a i = M.1 a i) ∧ M1.2 = M.2
theorem frM_refl (M : mM) (lo hi : Nat) : frM M M lo hi := ⟨fun _ _ _ => rfl, rfl⟩
theorem frM_st {M M1 : mM} {lo hi k j : Nat} {v : Int32} (h : frM M M1 lo hi) (h1 : lo ≤ k) (h2 : k ≤ hi) : frM M (stM M1 k j v) lo hi := ⟨fun a i ha => (stM_ne _ _ (Or.inl (by omega))).trans (h.1 a i ha), h.2⟩
theorem frM_wr {M M1 : mM} {lo hi k n : Nat} {f : Nat → Nat} (h : frM M M1 lo hi) (h1 : lo ≤ k) (h2 : k ≤ hi) : frM M (wrM M1 k n f) lo hi := ⟨fun a i ha => (wrM_o (by omega)).trans (h.1 a i ha), h.2⟩
theorem frM_trans {M M1 M2 : mM} {lo hi : Nat} (h : frM M M1 lo hi) (h2 : frM M1 M2 lo hi) : frM M M2 lo hi := ⟨fun a i ha => (h2.1 a i ha).trans (h.1 a i ha), h2.2.trans h.2⟩
theorem frM_wide {M M1 : mM} {lo hi lo2 hi2 : Nat} (h : frM M M1 lo hi) (h1 : lo2 ≤ lo) (h2 : hi ≤ hi2) : frM M M1 lo2 hi2 := ⟨fun a i ha => h.1 a i (by omega), h.2⟩
def RvC (M : mM) (r n g mo le : Nat) (K F Z Rn W At : Nat → Nat) : Prop :=
  M.1 r 0 = nI n ∧ M.1 r 1 = nI g ∧ M.1 r 2 = nI mo ∧ M.1 r 3 = nI le ∧ (∀ i, i < n → M.1 (r + 1) i = nI (K i)) ∧ (∀ i, i < n → M.1 (r + 2) i = nI (F i)) ∧ (∀ i, i < n → M.1 (r + 3) i = nI (Z i)) ∧ (∀ i, i < n → M.1 (r + 4) i = iv (Rn i)) ∧ (∀ i, i < n → M.1 (r + 5) i = nI (W i)) ∧ (∀ i, i < g → M.1 (r + 6) i = nI (At i))
def rdK (C : Nat → Nat) (i : Nat) : Nat := kndN (C (i * 5)) - 1
def rdF (C : Nat → Nat) (i : Nat) : Nat := C (i * 5 + 1) - 48
def rdZ (C : Nat → Nat) (i : Nat) : Nat := C (i * 5 + 2) - 48
def rdR (C : Nat → Nat) (i : Nat) : Nat := if C (i * 5 + 3) = 45 then 0 else C (i * 5 + 3) - 48 + 1
def rdA (C : Nat → Nat) (n i : Nat) : Nat := C (n * 5 + 2 * i) - 48
def rdG (n pn : Nat) : Nat := (pn - n * 5 + 1) / 2
/-- the page is a river of n reaches -/
def rdOk (C : Nat → Nat) (n pn : Nat) : Prop := pn ≤ 42 ∧ 2 ≤ n ∧ n ≤ 7 ∧ n * 5 < pn ∧ 1 ≤ rdG n pn ∧ rdG n pn ≤ 3 ∧ (∀ i, i < pn → C i < 200) ∧ (∀ i, i < n → kndN (C (i * 5)) ≠ 0 ∧ 49 ≤ C (i * 5 + 1) ∧ C (i * 5 + 1) ≤ 57 ∧ 48 ≤ C (i * 5 + 2) ∧ C (i * 5 + 2) ≤ 57 ∧ (C (i * 5 + 3) = 45 ∨ (48 ≤ C (i * 5 + 3) ∧ C (i * 5 + 3) < 48 + i))) ∧ ∀ j, j < rdG n pn → 48 ≤ C (n * 5 + 2 * j) ∧ C (n * 5 + 2 * j) < 48 + n
section
variable {X : (Nat → Int32) × Nat} {d : Nat} {Q : mM → Option Value → Prop} {M : mM} {r n pn : Nat} {C : Nat → Nat}
def rdI1 (C : Nat → Nat) (r i : Nat) (M : mM) : Prop := (∀ j, j < i → M.1 (r + 1) j = nI (rdK C j)) ∧ (∀ j, j < i → M.1 (r + 2) j = nI (rdF C j)) ∧ (∀ j, j < i → M.1 (r + 3) j = nI (rdZ C j)) ∧ (∀ j, j < i → M.1 (r + 4) j = iv (rdR C j))
theorem rdI1_st {i : Nat} {v1 v2 v3 v4 : Int32} (h : rdI1 C r i M) (h1 : v1 = nI (rdK C i)) (h2 : v2 = nI (rdF C i)) (h3 : v3 = nI (rdZ C i)) (h4 : v4 = iv (rdR C i)) : rdI1 C r (i + 1) (stM (stM (stM (stM M (r + 1) i v1) (r + 2) i v2) (r + 3) i v3) (r + 4) i v4) := by
  obtain ⟨a1, a2, a3, a4⟩ := h
  refine ⟨fun j hj => ?_, fun j hj => ?_, fun j hj => ?_, fun j hj => ?_⟩ <;> rw [stM_def, stM_def, stM_def, stM_def] <;> by_cases e : j = i
  · subst e; rw [if_neg (by omega), if_neg (by omega), if_neg (by omega), if_pos (by omega)]; exact h1
  · rw [if_neg (by omega), if_neg (by omega), if_neg (by omega), if_neg (by omega)]; exact a1 j (by omega)
  · subst e; rw [if_neg (by omega), if_neg (by omega), if_pos (by omega)]; exact h2
  · rw [if_neg (by omega), if_neg (by omega), if_neg (by omega), if_neg (by omega)]; exact a2 j (by omega)
  · subst e; rw [if_neg (by omega), if_pos (by omega)]; exact h3
  · rw [if_neg (by omega), if_neg (by omega), if_neg (by omega), if_neg (by omega)]; exact a3 j (by omega)
  · subst e; rw [if_pos (by omega)]; exact h4
  · rw [if_neg (by omega), if_neg (by omega), if_neg (by omega), if_neg (by omega)]; exact a4 j (by omega)
theorem l_River_readFrom2 (hr : isRv r) (hok : rdOk C n pn) {v2 : Value} (M : mM) (i : Nat) (hi : i ≤ rdG n pn) (hg : M.1 r 1 = nI (rdG n pn)) (hC : ∀ i, i < pn → M.1 2 i = nI (C i)) (hA : ∀ j, j < i → M.1 (r + 6) j = nI (rdA C n j)) (hQ : ∀ M1, frM M M1 (r + 6) (r + 6) → (∀ j, j < rdG n pn → M1.1 (r + 6) j = nI (rdA C n j)) → wp X (d + 4) n_River_readFrom Q 197 [.ref r, .ref 1, v2, .int (nI (n * 5)), .int (nI (rdG n pn))] [] M1) : wp X (d + 4) n_River_readFrom Q 161 [.ref r, .ref 1, v2, .int (nI (n * 5)), .int (nI i)] [] M := by
  have hr3 : 3 ≤ r := by rcases hr with rfl | rfl | rfl <;> omega
  obtain ⟨h42, hn2, hn7, hnp, hg1, hg3, hcb, hv, hw⟩ := id hok
  refine x_il4 f_River_readFrom_161 ?_
  refine x_al0 f_River_readFrom_163 ?_
  refine x_getIV f_River_readFrom_164 (rv_sh hr) rfl (Or.inl rfl) (hg) ?_
  refine x_cmp_geN f_River_readFrom_167 (by omega) (by omega) (fun h9 => ?_) (fun h9 => ?_)
  · have e : i = rdG n pn := by omega
    subst e
    exact hQ M (frM_refl _ _ _) hA
  · have hwi := hw i h9
    have hG : rdG n pn = (pn - n * 5 + 1) / 2 := rfl
    refine x_al0 f_River_readFrom_170 ?_
    refine x_getR f_River_readFrom_171 (rv_sh hr) rfl ?_
    refine x_il4 f_River_readFrom_174 ?_
    refine x_al1 f_River_readFrom_176 ?_
    refine x_getR f_River_readFrom_177 rfl rfl ?_
    refine x_il3 f_River_readFrom_180 ?_
    refine x_iconst (v := (nI 2)) f_River_readFrom_181 rfl ?_
    refine x_il4 f_River_readFrom_182 ?_
    first | refine x_imulN f_River_readFrom_184 ?_ | refine x_imul f_River_readFrom_184 ?_
    first | refine x_iaddN f_River_readFrom_185 ?_ | refine x_iadd f_River_readFrom_185 ?_
    refine x_ialdV f_River_readFrom_186 rfl (by omega) (hC (n * 5 + 2 * i) (by omega)) ?_
    refine x_bipush (v := (nI 48)) f_River_readFrom_187 rfl ?_
    refine x_isubN f_River_readFrom_189 (by omega) ?_
    refine x_iastN f_River_readFrom_190 (rvA6 hr) (by omega) ?_
    refine x_incN4 f_River_readFrom_191 rfl ?_
    refine x_goto f_River_readFrom_194 ?_
    refine l_River_readFrom2 hr hok _ (i + 1) (by omega) ((stM_ne _ _ (Or.inl (by omega))).trans hg) (fun j hj => (stM_ne _ _ (Or.inl (by omega))).trans (hC j hj)) (fun j hj => ?_) (fun M1 h1 h2 => hQ M1 (frM_trans (frM_st (frM_refl _ _ _) (by omega) (by omega)) h1) h2)
    by_cases e : j = i
    · subst e; rw [stM_at]; rfl
    · rw [stM_ne _ _ (Or.inr e)]; exact hA j (by omega)
  termination_by rdG n pn - i
  decreasing_by all_goals omega
theorem l_River_readFrom1 (hr : isRv r) (hok : rdOk C n pn) (v4 : Value) (M : mM) (i : Nat) (hi : i ≤ n) (hn : M.1 r 0 = nI n) (hC : ∀ i, i < pn → M.1 2 i = nI (C i)) (hI : rdI1 C r i M) (hQ : ∀ (M1 : mM) (u4 : Value), frM M M1 (r + 1) (r + 4) → rdI1 C r n M1 → wp X (d + 4) n_River_readFrom Q 133 [.ref r, .ref 1, .int (nI n), .int (nI n), u4] [] M1) : wp X (d + 4) n_River_readFrom Q 22 [.ref r, .ref 1, .int (nI n), .int (nI i), v4] [] M := by
  have hr3 : 3 ≤ r := by rcases hr with rfl | rfl | rfl <;> omega
  obtain ⟨h42, hn2, hn7, hnp, hg1, hg3, hcb, hv, hw⟩ := id hok
  refine x_il3 f_River_readFrom_22 ?_
  refine x_al0 f_River_readFrom_23 ?_
  refine x_getIV f_River_readFrom_24 (rv_sh hr) rfl (Or.inl rfl) (hn) ?_
  refine x_cmp_geN f_River_readFrom_27 (by omega) (by omega) (fun h9 => ?_) (fun h9 => ?_)
  · have e : i = n := by omega
    subst e
    exact hQ M _ (frM_refl _ _ _) hI
  · obtain ⟨w0, w1, w1', w2, w2', w3⟩ := hv i h9
    obtain ⟨t, ht⟩ : ∃ t, kndN (C (i * 5)) = t + 1 := ⟨kndN (C (i * 5)) - 1, by omega⟩
    have htb := kndN_le (C (i * 5))
    have c0 := hcb (i * 5) (by omega)
    have c3 := hcb (i * 5 + 3) (by omega)
    refine x_il3 f_River_readFrom_30 ?_
    refine x_iconst (v := (nI 5)) f_River_readFrom_31 rfl ?_
    first | refine x_imulN f_River_readFrom_32 ?_ | refine x_imul f_River_readFrom_32 ?_
    refine x_is4 f_River_readFrom_33 rfl ?_
    refine x_al0 f_River_readFrom_35 ?_
    refine x_getR f_River_readFrom_36 (rv_sh hr) rfl ?_
    refine x_il3 f_River_readFrom_39 ?_
    refine x_al1 f_River_readFrom_40 ?_
    refine x_getR f_River_readFrom_41 rfl rfl ?_
    refine x_il4 f_River_readFrom_44 ?_
    refine x_ialdV f_River_readFrom_46 rfl (by omega) (hC (i * 5) (by omega)) ?_
    refine x_cS1i f_River_readFrom_47 (by decide) (Nat.le_of_ble_eq_true rfl) (Nat.le_of_ble_eq_true rfl) rfl (c_Page_kindTold c0 ⟨_, rfl, ?_⟩)
    rw [ht]
    refine x_iconst (v := (nI 0)) f_River_readFrom_50 rfl ?_
    refine x_mmax f_River_readFrom_51 (Nat.le_of_ble_eq_true rfl) ?_
    rw [show iv (t + 1) = nI t from rfl, if_neg (show ¬ nI t < nI 0 from nI_pos (by omega))]
    have o1 : ∀ (v : Int32) (j : Nat), j < pn → (stM M (r + 1) i v).1 2 j = nI (C j) := fun v j hj => (stM_ne _ _ (Or.inl (by omega))).trans (hC j hj)
    have o2 : ∀ (v v2 : Int32) (j : Nat), j < pn → (stM (stM M (r + 1) i v) (r + 2) i v2).1 2 j = nI (C j) := fun v v2 j hj => (stM_ne _ _ (Or.inl (by omega))).trans (o1 v j hj)
    have o3 : ∀ (v v2 v3 : Int32) (j : Nat), j < pn → (stM (stM (stM M (r + 1) i v) (r + 2) i v2) (r + 3) i v3).1 2 j = nI (C j) := fun v v2 v3 j hj => (stM_ne _ _ (Or.inl (by omega))).trans (o2 v v2 j hj)
    refine x_iastN f_River_readFrom_54 (rvA1 hr) (by omega) ?_
    refine x_al0 f_River_readFrom_55 ?_
    refine x_getR f_River_readFrom_56 (rv_sh hr) rfl ?_
    refine x_il3 f_River_readFrom_59 ?_
    refine x_al1 f_River_readFrom_60 ?_
    refine x_getR f_River_readFrom_61 rfl rfl ?_
    refine x_il4 f_River_readFrom_64 ?_
    refine x_iconst (v := (nI 1)) f_River_readFrom_66 rfl ?_
    first | refine x_iaddN f_River_readFrom_67 ?_ | refine x_iadd f_River_readFrom_67 ?_
    refine x_ialdV f_River_readFrom_68 rfl (by omega) (o1 _ (i * 5 + 1) (by omega)) ?_
    refine x_bipush (v := (nI 48)) f_River_readFrom_69 rfl ?_
    refine x_isubN f_River_readFrom_71 (by omega) ?_
    refine x_iastN f_River_readFrom_72 (rvA2 hr) (by omega) ?_
    refine x_al0 f_River_readFrom_73 ?_
    refine x_getR f_River_readFrom_74 (rv_sh hr) rfl ?_
    refine x_il3 f_River_readFrom_77 ?_
    refine x_al1 f_River_readFrom_78 ?_
    refine x_getR f_River_readFrom_79 rfl rfl ?_
    refine x_il4 f_River_readFrom_82 ?_
    refine x_iconst (v := (nI 2)) f_River_readFrom_84 rfl ?_
    first | refine x_iaddN f_River_readFrom_85 ?_ | refine x_iadd f_River_readFrom_85 ?_
    refine x_ialdV f_River_readFrom_86 rfl (by omega) (o2 _ _ (i * 5 + 2) (by omega)) ?_
    refine x_bipush (v := (nI 48)) f_River_readFrom_87 rfl ?_
    refine x_isubN f_River_readFrom_89 (by omega) ?_
    refine x_iastN f_River_readFrom_90 (rvA3 hr) (by omega) ?_
    refine x_al0 f_River_readFrom_91 ?_
    refine x_getR f_River_readFrom_92 (rv_sh hr) rfl ?_
    refine x_il3 f_River_readFrom_95 ?_
    refine x_al1 f_River_readFrom_96 ?_
    refine x_getR f_River_readFrom_97 rfl rfl ?_
    refine x_il4 f_River_readFrom_100 ?_
    refine x_iconst (v := (nI 3)) f_River_readFrom_102 rfl ?_
    first | refine x_iaddN f_River_readFrom_103 ?_ | refine x_iadd f_River_readFrom_103 ?_
    refine x_ialdV f_River_readFrom_104 rfl (by omega) (o3 _ _ _ (i * 5 + 3) (by omega)) ?_
    refine x_bipush (v := (nI 45)) f_River_readFrom_105 rfl ?_
    have fin : ∀ v4' : Int32, v4' = iv (rdR C i) → wp X (d + 4) n_River_readFrom Q 127 [.ref r, .ref 1, .int (nI n), .int (nI i), .int (nI (i * 5))] [] (stM (stM (stM (stM M (r + 1) i (nI t)) (r + 2) i (nI (C (i * 5 + 1) - 48))) (r + 3) i (nI (C (i * 5 + 2) - 48))) (r + 4) i v4') := by
      intro v4' hv4
      refine x_incN3 f_River_readFrom_127 rfl ?_
      refine x_goto f_River_readFrom_130 ?_
      refine l_River_readFrom1 hr hok _ _ (i + 1) (by omega) ?_ (fun j hj => ?_) (rdI1_st hI (by unfold rdK; rw [ht]; rfl) rfl rfl hv4) (fun M1 u4 h1 h2 => hQ M1 u4 (frM_trans (frM_st (frM_st (frM_st (frM_st (frM_refl _ _ _) (by omega) (by omega)) (by omega) (by omega)) (by omega) (by omega)) (by omega) (by omega)) h1) h2)
      · rw [stM_ne _ _ (Or.inl (by omega)), stM_ne _ _ (Or.inl (by omega)), stM_ne _ _ (Or.inl (by omega)), stM_ne _ _ (Or.inl (by omega))]
        exact hn
      · rw [stM_ne _ _ (Or.inl (by omega))]
        exact o3 _ _ _ j hj
    refine x_cmp_neN f_River_readFrom_107 (by omega) (by omega) (fun h => ?_) (fun h => ?_)
    · refine x_al1 f_River_readFrom_114 ?_
      refine x_getR f_River_readFrom_115 rfl rfl ?_
      refine x_il4 f_River_readFrom_118 ?_
      refine x_iconst (v := (nI 3)) f_River_readFrom_120 rfl ?_
      first | refine x_iaddN f_River_readFrom_121 ?_ | refine x_iadd f_River_readFrom_121 ?_
      refine x_ialdV f_River_readFrom_122 rfl (by omega) (o3 _ _ _ (i * 5 + 3) (by omega)) ?_
      refine x_bipush (v := (nI 48)) f_River_readFrom_123 rfl ?_
      refine x_isubN f_River_readFrom_125 (by omega) ?_
      refine x_iastN f_River_readFrom_126 (rvA4 hr) (by omega) ?_
      refine fin _ ?_
      unfold rdR
      rw [if_neg h]
      rfl
    · refine x_iconst (v := (-1)) f_River_readFrom_110 rfl ?_
      refine x_goto f_River_readFrom_111 ?_
      refine x_iastN f_River_readFrom_126 (rvA4 hr) (by omega) ?_
      refine fin _ ?_
      unfold rdR
      rw [if_pos h]
      rfl
  termination_by n - i
  decreasing_by all_goals omega
theorem c_River_readFrom (hr : isRv r) (hok : rdOk C n pn) (hS : M.1 1 1 = nI pn) (hC : ∀ i, i < pn → M.1 2 i = nI (C i)) (hQ : ∀ M1, RvC M1 r n (rdG n pn) 0 0 (rdK C) (rdF C) (rdZ C) (rdR C) (wat n (rdK C) (rdF C) (rdR C)) (rdA C n) → frM M M1 r (r + 6) → Q M1 none) : wp X (d + 4) n_River_readFrom Q 0 [.ref r, .ref 1, .int (nI n), .null, .null] [] M := by
  have hr3 : 3 ≤ r := by rcases hr with rfl | rfl | rfl <;> omega
  obtain ⟨h42, hn2, hn7, hnp, hg1, hg3, hcb, hv, hw⟩ := id hok
  refine x_al0 f_River_readFrom_0 ?_
  refine x_il2 f_River_readFrom_1 ?_
  refine x_bipush (v := (nI 7)) f_River_readFrom_2 rfl ?_
  refine x_mminN f_River_readFrom_4 (Nat.le_of_ble_eq_true rfl) (by omega) (by omega) ?_
  refine x_putI f_River_readFrom_7 (rv_sh hr) rfl ?_
  refine x_al0 f_River_readFrom_10 ?_
  refine x_iconst (v := (nI 0)) f_River_readFrom_11 rfl ?_
  refine x_putI f_River_readFrom_12 (rv_sh hr) rfl ?_
  refine x_al0 f_River_readFrom_15 ?_
  refine x_iconst (v := (nI 0)) f_River_readFrom_16 rfl ?_
  refine x_putI f_River_readFrom_17 (rv_sh hr) rfl ?_
  refine x_iconst (v := (nI 0)) f_River_readFrom_20 rfl ?_
  refine x_is3 f_River_readFrom_21 rfl ?_
  rw [if_neg (by omega)]
  refine l_River_readFrom1 hr hok _ _ 0 (by omega) ?_ (fun j hj => ?_) ⟨fun j hj => absurd hj (by omega), fun j hj => absurd hj (by omega), fun j hj => absurd hj (by omega), fun j hj => absurd hj (by omega)⟩ (fun M1 u4 f1 I1 => ?_)
  · rw [stM_ne _ _ (by omega), stM_ne _ _ (by omega), stM_at]
  · rw [stM_ne _ _ (by omega), stM_ne _ _ (by omega), stM_ne _ _ (by omega)]
    exact hC j hj
  have e0 : M1.1 r 0 = nI n := by rw [f1.1 _ _ (by omega), stM_ne _ _ (by omega), stM_ne _ _ (by omega), stM_at]
  have e2 : M1.1 r 2 = nI 0 := by rw [f1.1 _ _ (by omega), stM_ne _ _ (by omega), stM_at]
  have e3 : M1.1 r 3 = nI 0 := by rw [f1.1 _ _ (by omega), stM_at]
  have eS : M1.1 1 1 = nI pn := by rw [f1.1 _ _ (by omega), stM_ne _ _ (by omega), stM_ne _ _ (by omega), stM_ne _ _ (by omega)]; exact hS
  have eC : ∀ i, i < pn → M1.1 2 i = nI (C i) := fun i hi => by rw [f1.1 _ _ (by omega), stM_ne _ _ (by omega), stM_ne _ _ (by omega), stM_ne _ _ (by omega)]; exact hC i hi
  have hG : rdG n pn = (pn - n * 5 + 1) / 2 := rfl
  refine x_al0 f_River_readFrom_133 ?_
  refine x_getIV f_River_readFrom_134 (rv_sh hr) rfl (Or.inl rfl) (e0) ?_
  refine x_iconst (v := (nI 5)) f_River_readFrom_137 rfl ?_
  first | refine x_imulN f_River_readFrom_138 ?_ | refine x_imul f_River_readFrom_138 ?_
  refine x_is3 f_River_readFrom_139 rfl ?_
  refine x_al0 f_River_readFrom_140 ?_
  refine x_al1 f_River_readFrom_141 ?_
  refine x_getIV f_River_readFrom_142 rfl rfl (Or.inl rfl) (eS) ?_
  refine x_il3 f_River_readFrom_145 ?_
  refine x_isubN f_River_readFrom_146 (by omega) ?_
  refine x_iconst (v := (nI 1)) f_River_readFrom_147 rfl ?_
  first | refine x_iaddN f_River_readFrom_148 ?_ | refine x_iadd f_River_readFrom_148 ?_
  refine x_iconst (v := (nI 2)) f_River_readFrom_149 rfl ?_
  refine x_idivN f_River_readFrom_150 (by omega) (by omega) (by omega) ?_
  refine x_iconst (v := (nI 3)) f_River_readFrom_151 rfl ?_
  refine x_mminN f_River_readFrom_152 (Nat.le_of_ble_eq_true rfl) (by omega) (by omega) ?_
  rw [show (if 3 < (pn - n * 5 + 1) / 2 then 3 else (pn - n * 5 + 1) / 2) = rdG n pn by rw [if_neg (by omega)]; rfl]
  refine x_putI f_River_readFrom_155 (rv_sh hr) rfl ?_
  refine x_iconst (v := (nI 0)) f_River_readFrom_158 rfl ?_
  refine x_is4 f_River_readFrom_159 rfl ?_
  refine l_River_readFrom2 hr hok _ 0 (by omega) (stM_at _ _ _ _) (fun j hj => (stM_ne _ _ (by omega)).trans (eC j hj)) (fun j hj => absurd hj (by omega)) (fun M2 f2 A2 => ?_)
  have s0 : ∀ a i, (a ≠ r + 6 ∧ (a ≠ r ∨ i ≠ 1)) → M2.1 a i = M1.1 a i := fun a i h => (f2.1 a i (by omega)).trans (stM_ne _ _ (by omega))
  have g1 : M2.1 r 1 = nI (rdG n pn) := (f2.1 _ _ (by omega)).trans (stM_at _ _ _ _)
  obtain ⟨a1, a2, a3, a4⟩ := I1
  have kb : ∀ i, i < n → rdK C i < 10 := fun i hi => by have := kndN_le (C (i * 5)); unfold rdK; omega
  have fb : ∀ i, i < n → rdF C i ≤ 20 := fun i hi => by have := hv i hi; unfold rdF; omega
  have rb : ∀ i, i < n → rdR C i ≤ i := fun i hi => by have := hv i hi; unfold rdR; split <;> omega
  refine x_al0 f_River_readFrom_197 ?_
  refine x_cV0v f_River_readFrom_198 (rv_sh hr) rfl (by decide) (Nat.le_of_ble_eq_true rfl) (Nat.le_of_ble_eq_true rfl) rfl (c_River_measure hr ((s0 _ _ (by omega)).trans e0) hn7 (fun i hi => (s0 _ _ (by omega)).trans (a1 i hi)) kb (fun i hi => (s0 _ _ (by omega)).trans (a2 i hi)) fb (fun i hi => (s0 _ _ (by omega)).trans (a4 i hi)) rb ⟨rfl, ?_⟩)
  refine x_return f_River_readFrom_201 rfl ?_
  refine hQ _ ⟨(wrM_o (by omega)).trans ((s0 _ _ (by omega)).trans e0), (wrM_o (by omega)).trans g1, (wrM_o (by omega)).trans ((s0 _ _ (by omega)).trans e2), (wrM_o (by omega)).trans ((s0 _ _ (by omega)).trans e3), fun i hi => (wrM_o (by omega)).trans ((s0 _ _ (by omega)).trans (a1 i hi)), fun i hi => (wrM_o (by omega)).trans ((s0 _ _ (by omega)).trans (a2 i hi)), fun i hi => (wrM_o (by omega)).trans ((s0 _ _ (by omega)).trans (a3 i hi)), fun i hi => (wrM_o (by omega)).trans ((s0 _ _ (by omega)).trans (a4 i hi)), fun i hi => wrM_at hi, fun i hi => (wrM_o (by omega)).trans (A2 i hi)⟩ ?_
  refine frM_wr (frM_trans (frM_trans (frM_st (frM_st (frM_st (frM_refl _ _ _) (by omega) (by omega)) (by omega) (by omega)) (by omega) (by omega)) (frM_wide f1 (by omega) (by omega))) (frM_trans (frM_st (frM_refl _ _ _) (by omega) (by omega)) (frM_wide f2 (by omega) (by omega)))) (by omega) (by omega)
end
