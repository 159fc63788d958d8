/-! the reference: odds -/
def OmC (M : mM) (n : Nat) (V : Nat → Nat → Nat) : Prop := ∀ r, r < n → ∀ u, u < 90 → M.1 66 (90 * r + u) = nI (V r u)
def frW (M M1 : mM) : Prop := (∀ a i, a ≠ 66 → a ≠ 67 → M1.1 a i = M.1 a i) ∧ M1.2 = M.2
theorem frW_refl (M : mM) : frW M M := ⟨fun _ _ _ _ => rfl, rfl⟩
theorem frW_trans {M M1 M2 : mM} (h : frW M M1) (h2 : frW M1 M2) : frW M M2 := ⟨fun a i x y => (h2.1 a i x y).trans (h.1 a i x y), h2.2.trans h.2⟩
theorem frW_st {M M1 : mM} {k j : Nat} {v : Int32} (h : frW M M1) (hk : k = 66 ∨ k = 67) : frW M (stM M1 k j v) := ⟨fun a i x y => (stM_ne _ _ (by omega)).trans (h.1 a i x y), h.2⟩
section
variable {X : (Nat → Int32) × Nat} {d : Nat} {Q : mM → Option Value → Prop} {n : Nat} {K F Z Rn : Nat → Nat} {V : Nat → Nat → Nat}
theorem l_Mo_pour1 {k t : Nat} {v4 v5 : Value} (M0 : mM) (hQ : wp X (d + 2) n_Mo_pour Q 21 [.ref 55, .int (nI k), .int (nI t), .int (nI 90), v4, v5] [] (wrM M0 67 90 (fun _ => 0))) (i : Nat) (hi : i ≤ 90) : wp X (d + 2) n_Mo_pour Q 2 [.ref 55, .int (nI k), .int (nI t), .int (nI i), v4, v5] [] (wrM M0 67 i (fun _ => 0)) := by
  refine x_il3 f_Mo_pour_2 ?_
  refine x_bipush (v := (nI 90)) f_Mo_pour_3 rfl ?_
  refine x_cmp_geN f_Mo_pour_5 (by omega) (by omega) (fun h => ?_) (fun h => ?_)
  · have e : i = 90 := by omega
    subst e
    exact hQ
  · refine x_al0 f_Mo_pour_8 ?_
    refine x_getR f_Mo_pour_9 rfl rfl ?_
    refine x_il3 f_Mo_pour_12 ?_
    refine x_iconst (v := (nI 0)) f_Mo_pour_13 rfl ?_
    refine x_iastN f_Mo_pour_14 rfl (by omega) ?_
    refine x_incN3 f_Mo_pour_15 rfl ?_
    refine x_goto f_Mo_pour_18 ?_
    rw [st_wr1 (f := fun _ => 0)]
    exact l_Mo_pour1 M0 hQ (i + 1) (by omega)
termination_by 90 - i
decreasing_by all_goals omega
/-- what the inner loop has added after v steps -/
def adN (J fr T : Nat → Nat) (o w v : Nat) : Nat → Nat := fun x => if o ≤ x ∧ x < o + v then J x + fr w * T (x - o) else J x
theorem l_Mo_pour2 {k t w o : Nat} {J : Nat → Nat} (hk : k < n) (ht : t < n) (hn7 : n ≤ 7) (hw : w < 90) (ho : o ≤ 90) (M0 : mM) (hV : OmC M0 n V) (hQ : ∀ v5 : Value, wp X (d + 2) n_Mo_pour Q 97 [.ref 55, .int (nI k), .int (nI t), .int (nI w), .int (nI o), v5] [] (wrM M0 67 90 (adN J (V k) (V t) o w (90 - o)))) (v : Nat) (hv : v + o ≤ 90) : wp X (d + 2) n_Mo_pour Q 44 [.ref 55, .int (nI k), .int (nI t), .int (nI w), .int (nI o), .int (nI v)] [] (wrM M0 67 90 (adN J (V k) (V t) o w v)) := by
  have e66 : ∀ i, (wrM M0 67 90 (adN J (V k) (V t) o w v)).1 66 i = M0.1 66 i := fun i => wrM_o (by omega)
  refine x_il5 f_Mo_pour_44 ?_
  refine x_il4 f_Mo_pour_46 ?_
  first | refine x_iaddN f_Mo_pour_48 ?_ | refine x_iadd f_Mo_pour_48 ?_
  refine x_bipush (v := (nI 90)) f_Mo_pour_49 rfl ?_
  refine x_cmp_geN f_Mo_pour_51 (by omega) (by omega) (fun h => ?_) (fun h => ?_)
  · have e : v = 90 - o := by omega
    subst e
    exact hQ _
  · refine x_al0 f_Mo_pour_54 ?_
    refine x_getR f_Mo_pour_55 rfl rfl ?_
    refine x_il5 f_Mo_pour_58 ?_
    refine x_il4 f_Mo_pour_60 ?_
    first | refine x_iaddN f_Mo_pour_62 ?_ | refine x_iadd f_Mo_pour_62 ?_
    refine x_dup2 f_Mo_pour_63 rfl rfl ?_
    refine x_ialdV f_Mo_pour_64 rfl (by omega) (wrM_at (by omega)) ?_
    refine x_al0 f_Mo_pour_65 ?_
    refine x_getR f_Mo_pour_66 rfl rfl ?_
    refine x_bipush (v := (nI 90)) f_Mo_pour_69 rfl ?_
    refine x_il1 f_Mo_pour_71 ?_
    first | refine x_imulN f_Mo_pour_72 ?_ | refine x_imul f_Mo_pour_72 ?_
    refine x_il3 f_Mo_pour_73 ?_
    first | refine x_iaddN f_Mo_pour_74 ?_ | refine x_iadd f_Mo_pour_74 ?_
    refine x_ialdV f_Mo_pour_75 rfl (by omega) ((e66 _).trans (hV k hk w hw)) ?_
    refine x_al0 f_Mo_pour_76 ?_
    refine x_getR f_Mo_pour_77 rfl rfl ?_
    refine x_bipush (v := (nI 90)) f_Mo_pour_80 rfl ?_
    refine x_il2 f_Mo_pour_82 ?_
    first | refine x_imulN f_Mo_pour_83 ?_ | refine x_imul f_Mo_pour_83 ?_
    refine x_il5 f_Mo_pour_84 ?_
    first | refine x_iaddN f_Mo_pour_86 ?_ | refine x_iadd f_Mo_pour_86 ?_
    refine x_ialdV f_Mo_pour_87 rfl (by omega) ((e66 _).trans (hV t ht v (by omega))) ?_
    first | refine x_imulN f_Mo_pour_88 ?_ | refine x_imul f_Mo_pour_88 ?_
    first | refine x_iaddN f_Mo_pour_89 ?_ | refine x_iadd f_Mo_pour_89 ?_
    refine x_iastN f_Mo_pour_90 rfl (by omega) ?_
    rw [st_wr2 (by omega)]
    have e : wrM M0 67 90 (fun i => if i = v + o then adN J (V k) (V t) o w v (v + o) + V k w * V t v else adN J (V k) (V t) o w v i) = wrM M0 67 90 (adN J (V k) (V t) o w (v + 1)) := wrM_congr (fun i _ => by
      unfold adN
      by_cases a : i = v + o
      · rw [if_pos a, if_neg (by omega), if_pos (by omega), a, show v + o - o = v by omega]
      · rw [if_neg a]
        by_cases b : o ≤ i ∧ i < o + v
        · rw [if_pos b, if_pos (by omega)]
        · rw [if_neg b, if_neg (by omega)])
    rw [e]
    refine x_incN5 f_Mo_pour_91 rfl ?_
    refine x_goto f_Mo_pour_94 ?_
    exact l_Mo_pour2 hk ht hn7 hw ho M0 hV hQ (v + 1) (by omega)
termination_by 90 - v
decreasing_by all_goals omega
theorem l_Mo_pour3 {k t : Nat} (hk : k < n) (ht : t < n) (hn7 : n ≤ 7) (hKb : K k < 10) (M0 : mM) (hK : M0.1 57 k = nI (K k)) (hV : OmC M0 n V) (hQ : ∀ v4 v5 : Value, wp X (d + 2) n_Mo_pour Q 103 [.ref 55, .int (nI k), .int (nI t), .int (nI 90), v4, v5] [] (wrM M0 67 90 (jnN (K k) (V k) (V t) 90))) (w : Nat) (hw : w ≤ 90) (v4 v5 : Value) (hv : okst [v4] 1 = true) : wp X (d + 2) n_Mo_pour Q 23 [.ref 55, .int (nI k), .int (nI t), .int (nI w), v4, v5] [] (wrM M0 67 90 (jnN (K k) (V k) (V t) w)) := by
  refine x_il3 f_Mo_pour_23 ?_
  refine x_bipush (v := (nI 90)) f_Mo_pour_24 rfl ?_
  refine x_cmp_geN f_Mo_pour_26 (by omega) (by omega) (fun h => ?_) (fun h => ?_)
  · have e : w = 90 := by omega
    subst e
    exact hQ _ _
  · have hol := outN_le (K k) w
    refine x_al0 f_Mo_pour_29 ?_
    refine x_getR f_Mo_pour_30 rfl rfl ?_
    refine x_il1 f_Mo_pour_33 ?_
    refine x_ialdV f_Mo_pour_34 rfl (by omega) ((wrM_o (by omega)).trans hK) ?_
    refine x_il3 f_Mo_pour_35 ?_
    refine x_cS2i f_Mo_pour_36 (by decide) (Nat.le_of_ble_eq_true rfl) (Nat.le_of_ble_eq_true rfl) rfl (c_Mo_out hKb (by omega) ⟨_, rfl, ?_⟩)
    refine x_is4 f_Mo_pour_39 rfl ?_
    refine x_iconst (v := (nI 0)) f_Mo_pour_41 rfl ?_
    refine x_is5 f_Mo_pour_42 rfl ?_
    have e0 : wrM M0 67 90 (jnN (K k) (V k) (V t) w) = wrM M0 67 90 (adN (jnN (K k) (V k) (V t) w) (V k) (V t) (outN (K k) w) w 0) := wrM_congr (fun i _ => by unfold adN; rw [if_neg (by omega)])
    rw [e0]
    refine l_Mo_pour2 hk ht hn7 h (by omega) M0 hV (fun u5 => ?_) 0 (by omega)
    have e1 : wrM M0 67 90 (adN (jnN (K k) (V k) (V t) w) (V k) (V t) (outN (K k) w) w (90 - outN (K k) w)) = wrM M0 67 90 (jnN (K k) (V k) (V t) (w + 1)) := wrM_congr (fun i hi => by
      show (if outN (K k) w ≤ i ∧ i < outN (K k) w + (90 - outN (K k) w) then jnN (K k) (V k) (V t) w i + V k w * V t (i - outN (K k) w) else jnN (K k) (V k) (V t) w i) = jnN (K k) (V k) (V t) w i + (if outN (K k) w ≤ i then V k w * V t (i - outN (K k) w) else 0)
      by_cases a : outN (K k) w ≤ i
      · rw [if_pos (by omega), if_pos a]
      · rw [if_neg (by omega), if_neg a]; rfl)
    rw [e1]
    refine x_incN3 f_Mo_pour_97 rfl ?_
    refine x_goto f_Mo_pour_100 ?_
    exact l_Mo_pour3 hk ht hn7 hKb M0 hK hV hQ (w + 1) (by omega) _ _ rfl
termination_by 90 - w
decreasing_by all_goals omega
theorem l_Mo_pour4 {k t : Nat} {v4 v5 : Value} {J : Nat → Nat} (ht : t < n) (hn7 : n ≤ 7) (M0 : mM) (hV : OmC M0 n V) (hQ : ∀ M1, frW M0 M1 → OmC M1 n (fun r => if r = t then J else V r) → Q M1 none) (M : mM) (i : Nat) (hi : i ≤ 90) (hf : frW M0 M) (h67 : ∀ u, u < 90 → M.1 67 u = nI (J u)) (hr : ∀ r, r < n → r ≠ t → ∀ u, u < 90 → M.1 66 (90 * r + u) = nI (V r u)) (hd : ∀ u, u < i → M.1 66 (90 * t + u) = nI (J u)) : wp X (d + 2) n_Mo_pour Q 105 [.ref 55, .int (nI k), .int (nI t), .int (nI i), v4, v5] [] M := by
  refine x_il3 f_Mo_pour_105 ?_
  refine x_bipush (v := (nI 90)) f_Mo_pour_106 rfl ?_
  refine x_cmp_geN f_Mo_pour_108 (by omega) (by omega) (fun h => ?_) (fun h => ?_)
  · have e : i = 90 := by omega
    subst e
    refine x_return f_Mo_pour_134 rfl ?_
    refine hQ M hf (fun r hr2 u hu => ?_)
    by_cases a : r = t
    · subst a
      show _ = nI ((if r = r then J else V r) u)
      rw [if_pos rfl]; exact hd u hu
    · show _ = nI ((if r = t then J else V r) u)
      rw [if_neg a]; exact hr r hr2 a u hu
  · refine x_al0 f_Mo_pour_111 ?_
    refine x_getR f_Mo_pour_112 rfl rfl ?_
    refine x_bipush (v := (nI 90)) f_Mo_pour_115 rfl ?_
    refine x_il2 f_Mo_pour_117 ?_
    first | refine x_imulN f_Mo_pour_118 ?_ | refine x_imul f_Mo_pour_118 ?_
    refine x_il3 f_Mo_pour_119 ?_
    first | refine x_iaddN f_Mo_pour_120 ?_ | refine x_iadd f_Mo_pour_120 ?_
    refine x_al0 f_Mo_pour_121 ?_
    refine x_getR f_Mo_pour_122 rfl rfl ?_
    refine x_il3 f_Mo_pour_125 ?_
    refine x_ialdV f_Mo_pour_126 rfl (by omega) (h67 i h) ?_
    refine x_iastN f_Mo_pour_127 rfl (by omega) ?_
    refine x_incN3 f_Mo_pour_128 rfl ?_
    refine x_goto f_Mo_pour_131 ?_
    refine l_Mo_pour4 ht hn7 M0 hV hQ _ (i + 1) (by omega) (frW_st hf (by omega)) (fun u hu => (stM_ne _ _ (by omega)).trans (h67 u hu)) (fun r hr2 a u hu => (stM_ne _ _ (by omega)).trans (hr r hr2 a u hu)) (fun u hu => ?_)
    by_cases a : u = i
    · rw [a, stM_at]
    · rw [stM_ne _ _ (by omega)]; exact hd u (by omega)
termination_by 90 - i
decreasing_by all_goals omega
theorem c_Mo_pour {M : mM} {k t : Nat} (hk : k < n) (ht : t < n) (hn7 : n ≤ 7) (hKb : K k < 10) (hK : M.1 57 k = nI (K k)) (hV : OmC M n V) (hQ : ∀ M1, frW M M1 → OmC M1 n (fun r => if r = t then jnN (K k) (V k) (V t) 90 else V r) → Q M1 none) : wp X (d + 2) n_Mo_pour Q 0 [.ref 55, .int (nI k), .int (nI t), .null, .null, .null] [] M := by
  refine x_iconst (v := (nI 0)) f_Mo_pour_0 rfl ?_
  refine x_is3 f_Mo_pour_1 rfl ?_
  have h := l_Mo_pour1 (X := X) (d := d) (Q := Q) (k := k) (t := t) (v4 := .null) (v5 := .null) M ?_ 0 (by omega)
  · rw [wrM_0] at h
    exact h
  · refine x_iconst (v := (nI 0)) f_Mo_pour_21 rfl ?_
    refine x_is3 f_Mo_pour_22 rfl ?_
    refine l_Mo_pour3 hk ht hn7 hKb M hK hV (fun v4 v5 => ?_) 0 (by omega) _ _ rfl
    refine x_iconst (v := (nI 0)) f_Mo_pour_103 rfl ?_
    refine x_is3 f_Mo_pour_104 rfl ?_
    exact l_Mo_pour4 ht hn7 M hV hQ _ 0 (by omega) ⟨fun a i x y => wrM_o y, rfl⟩ (fun u hu => wrM_at hu) (fun r hr a u hu => (wrM_o (by omega)).trans (hV r hr u hu)) (fun u hu => absurd hu (Nat.not_lt_zero u))
theorem l_Mo_layWays2 (hn7 : n ≤ 7) (hKb : ∀ i, i < n → K i < 10) (hRb : ∀ i, i < n → Rn i ≤ i) (M0 : mM) (hK : ∀ i, i < n → M0.1 57 i = nI (K i)) (hR : ∀ i, i < n → M0.1 60 i = iv (Rn i)) (v2 v3 : Value) (k : Nat) (V : Nat → Nat → Nat) (hk : k ≤ n) (hQ : ∀ M1, frW M0 M1 → OmC M1 n (vlo 90 K Rn k V) → Q M1 none) (M : mM) (hf : frW M0 M) (hV : OmC M n V) : wp X (d + 3) n_Mo_layWays Q 86 [.ref 55, .int (iv k), v2, v3] [] M := by
  match k, hk, hQ with
  | 0, _, hQ =>
    refine x_il1 f_Mo_layWays_86 ?_
    refine x_if_le f_Mo_layWays_87 (fun _ => ?_) (fun hh => absurd (by decide) hh)
    refine x_return f_Mo_layWays_117 rfl ?_
    exact hQ M hf hV
  | 1, hk, hQ =>
    show wp X (d + 3) n_Mo_layWays Q 86 [.ref 55, .int (nI 0), v2, v3] [] M
    refine x_il1 f_Mo_layWays_86 ?_
    refine x_if_le f_Mo_layWays_87 (fun _ => ?_) (fun hh => absurd (by decide) hh)
    refine x_return f_Mo_layWays_117 rfl ?_
    refine hQ M hf (fun r hr u hu => ?_)
    have h0 := hRb 0 (by omega)
    show _ = nI (jst 90 K Rn V 0 r u)
    unfold jst
    rw [if_neg (by omega)]
    exact hV r hr u hu
  | k + 2, hk, hQ =>
    have hRk := hRb (k + 1) (by omega)
    show wp X (d + 3) n_Mo_layWays Q 86 [.ref 55, .int (nI (k + 1)), v2, v3] [] M
    refine x_il1 f_Mo_layWays_86 ?_
    refine x_if_leN f_Mo_layWays_87 (by omega) (fun h => absurd h (by omega)) (fun _ => ?_)
    have hRM : M.1 60 (k + 1) = iv (Rn (k + 1)) := (hf.1 _ _ (by omega) (by omega)).trans (hR (k + 1) (by omega))
    refine x_al0 f_Mo_layWays_90 ?_
    refine x_getR f_Mo_layWays_91 rfl rfl ?_
    refine x_il1 f_Mo_layWays_94 ?_
    refine x_ialdV f_Mo_layWays_95 rfl (by omega) (hRM) ?_
    refine x_iconst (v := (-1)) f_Mo_layWays_96 rfl ?_
    refine x_cmp_eq f_Mo_layWays_97 (fun h => ?_) (fun h => ?_)
    · have h0 := (iv_eqm1 (by omega)).mp h
      refine x_inc1 f_Mo_layWays_111 rfl (iv_dec (k + 1)) ?_
      refine x_goto f_Mo_layWays_114 ?_
      refine l_Mo_layWays2 hn7 hKb hRb M0 hK hR v2 v3 (k + 1) (jst 90 K Rn V (k + 1)) (by omega) hQ M hf (fun r hr u hu => ?_)
      unfold jst
      rw [if_neg (by omega)]
      exact hV r hr u hu
    · obtain ⟨t, ht⟩ : ∃ t, Rn (k + 1) = t + 1 := by
        cases hc : Rn (k + 1) with
        | zero => exact absurd ((iv_eqm1 (by omega)).mpr hc) h
        | succ t => exact ⟨t, rfl⟩
      refine x_al0 f_Mo_layWays_100 ?_
      refine x_il1 f_Mo_layWays_101 ?_
      refine x_al0 f_Mo_layWays_102 ?_
      refine x_getR f_Mo_layWays_103 rfl rfl ?_
      refine x_il1 f_Mo_layWays_106 ?_
      refine x_ialdV f_Mo_layWays_107 rfl (by omega) (hRM.trans (by rw [ht]; rfl : _ = nI t)) ?_
      refine x_cV2v f_Mo_layWays_108 rfl rfl (by decide) (Nat.le_of_ble_eq_true rfl) (Nat.le_of_ble_eq_true rfl) rfl (c_Mo_pour (K := K) (k := k + 1) (t := t) (by omega) (by omega) hn7 (hKb _ (by omega)) ((hf.1 _ _ (by omega) (by omega)).trans (hK _ (by omega))) hV (fun M1 f1 v1 => ⟨rfl, ?_⟩))
      refine x_inc1 f_Mo_layWays_111 rfl (iv_dec (k + 1)) ?_
      refine x_goto f_Mo_layWays_114 ?_
      refine l_Mo_layWays2 hn7 hKb hRb M0 hK hR v2 v3 (k + 1) (jst 90 K Rn V (k + 1)) (by omega) hQ M1 (frW_trans hf f1) (fun r hr u hu => ?_)
      have hh := v1 r hr u hu
      rw [hh]
      show nI ((if r = t then jnN (K (k + 1)) (V (k + 1)) (V t) 90 else V r) u) = nI ((if r + 1 = Rn (k + 1) then jnN (K (k + 1)) (V (k + 1)) (V r) 90 else V r) u)
      by_cases a : r = t
      · rw [if_pos a, if_pos (by omega), a]
      · rw [if_neg a, if_neg (by omega)]
termination_by k
decreasing_by all_goals omega
theorem l_Mo_layWays1b {k : Nat} (hn7 : n ≤ 7) (hk : k < n) (hFb : ∀ i, i < n → F i ≤ 20) (hRb : ∀ i, i < n → Rn i ≤ i) (M0 : mM) (hn : M0.1 55 3 = nI n) (hF : ∀ i, i < n → M0.1 58 i = nI (F i)) (hR : ∀ i, i < n → M0.1 60 i = iv (Rn i)) (hQ : ∀ (M1 : mM) (v3 : Value), frW M0 M1 → OmC M1 (k + 1) (fun r => swN F (srcN Rn r n) r) → wp X (d + 3) n_Mo_layWays Q 73 [.ref 55, .int (nI k), .int (nI 90), v3] [] M1) (M : mM) (w : Nat) (hw : w ≤ 90) (v3 : Value) (hf : frW M0 M) (hV : OmC M k (fun r => swN F (srcN Rn r n) r)) (hd : ∀ u, u < w → M.1 66 (90 * k + u) = nI (swN F (srcN Rn k n) k u)) : wp X (d + 3) n_Mo_layWays Q 12 [.ref 55, .int (nI k), .int (nI w), v3] [] M := by
  refine x_il2 f_Mo_layWays_12 ?_
  refine x_bipush (v := (nI 90)) f_Mo_layWays_13 rfl ?_
  refine x_cmp_geN f_Mo_layWays_15 (by omega) (by omega) (fun h => ?_) (fun h => ?_)
  · have e : w = 90 := by omega
    subst e
    refine hQ M _ hf (fun r hr u hu => ?_)
    by_cases a : r = k
    · subst a; exact hd u hu
    · exact hV r (by omega) u hu
  · have hfk := hFb k hk
    have hs := srcN_le Rn k n
    have hti : (nI w - nI (F k)).toInt = (w : Int) - F k := pk_sub_toInt (by omega) (by omega)
    have fin : ∀ v (u3 : Int32), v = swN F (srcN Rn k n) k w → wp X (d + 3) n_Mo_layWays Q 66 [.ref 55, .int (nI k), .int (nI w), .int u3] [.int (nI v), .int (nI (90 * k + w)), .ref 66] M := by
      intro v u3 hv
      refine x_iastN f_Mo_layWays_66 rfl (by omega) ?_
      refine x_incN2 f_Mo_layWays_67 rfl ?_
      refine x_goto f_Mo_layWays_70 ?_
      refine l_Mo_layWays1b hn7 hk hFb hRb M0 hn hF hR hQ _ (w + 1) (by omega) _ (frW_st hf (by omega)) (fun r hr u hu => (stM_ne _ _ (by omega)).trans (hV r hr u hu)) (fun u hu => ?_)
      by_cases a : u = w
      · rw [a, stM_at, hv]
      · rw [stM_ne _ _ (by omega)]; exact hd u (by omega)
    have esw : swN F (srcN Rn k n) k w = if F k ≤ w ∧ w ≤ F k + 3 * srcN Rn k n then 1 else 0 := rfl
    refine x_il2 f_Mo_layWays_18 ?_
    refine x_al0 f_Mo_layWays_19 ?_
    refine x_getR f_Mo_layWays_20 rfl rfl ?_
    refine x_il1 f_Mo_layWays_23 ?_
    refine x_ialdV f_Mo_layWays_24 rfl (by omega) ((hf.1 _ _ (by omega) (by omega)).trans (hF k hk)) ?_
    refine x_isub f_Mo_layWays_25 ?_
    refine x_is3 f_Mo_layWays_26 rfl ?_
    refine x_al0 f_Mo_layWays_27 ?_
    refine x_getR f_Mo_layWays_28 rfl rfl ?_
    refine x_bipush (v := (nI 90)) f_Mo_layWays_31 rfl ?_
    refine x_il1 f_Mo_layWays_33 ?_
    first | refine x_imulN f_Mo_layWays_34 ?_ | refine x_imul f_Mo_layWays_34 ?_
    refine x_il2 f_Mo_layWays_35 ?_
    first | refine x_iaddN f_Mo_layWays_36 ?_ | refine x_iadd f_Mo_layWays_36 ?_
    refine x_il3 f_Mo_layWays_37 ?_
    refine x_if_eq f_Mo_layWays_38 (fun h1 => ?_) (fun h1 => ?_)
    · have h2 := congrArg Int32.toInt h1
      rw [hti] at h2
      have h2 : (w : Int) - F k = 0 := h2
      refine x_iconst (v := (nI 1)) f_Mo_layWays_61 rfl ?_
      refine x_goto f_Mo_layWays_62 ?_
      refine fin _ _ ?_
      rw [esw, if_pos (by omega)]
    · have h2 : ¬ (w : Int) - F k = 0 := fun z => h1 (Int32.toInt_inj.mp (by rw [hti, z]; rfl))
      refine x_al0 f_Mo_layWays_41 ?_
      refine x_il1 f_Mo_layWays_42 ?_
      refine x_cV1i f_Mo_layWays_43 rfl rfl (by decide) (Nat.le_of_ble_eq_true rfl) (Nat.le_of_ble_eq_true rfl) rfl (c_Mo_isSource (Rn := Rn) (by omega) ((hf.1 _ _ (by omega) (by omega)).trans hn) hn7 (fun i hi => (hf.1 _ _ (by omega) (by omega)).trans (hR i hi)) (fun i hi => by have := hRb i hi; omega) ⟨_, rfl, ?_⟩)
      refine x_if_eqN f_Mo_layWays_46 (by omega) (fun h3 => ?_) (fun h3 => ?_)
      · refine x_iconst (v := (nI 0)) f_Mo_layWays_65 rfl ?_
        refine fin _ _ ?_
        rw [esw, if_neg (by omega)]
      · refine x_il3 f_Mo_layWays_49 ?_
        refine x_i2l f_Mo_layWays_50 ?_
        refine x_lconst (v := 0) f_Mo_layWays_51 rfl ?_
        refine x_ldc2 (v := 3) f_Mo_layWays_52 (by decide) ?_
        refine x_cS3i f_Mo_layWays_55 (by decide) (Nat.le_of_ble_eq_true rfl) (Nat.le_of_ble_eq_true rfl) rfl (c_Mo_in (lo := 0) (hi := 3) (by decide) (by decide) ⟨_, rfl, ?_⟩)
        have ein : inN (nI w - nI (F k)) 0 3 = if (0 : Int) ≤ (w : Int) - F k ∧ (w : Int) - F k ≤ 3 then 1 else 0 := by unfold inN; rw [hti]
        rw [ein]
        by_cases a : (0 : Int) ≤ (w : Int) - F k ∧ (w : Int) - F k ≤ 3
        · rw [if_pos a]
          refine x_if_eqN f_Mo_layWays_58 (by omega) (fun h4 => absurd h4 (by omega)) (fun _ => ?_)
          refine x_iconst (v := (nI 1)) f_Mo_layWays_61 rfl ?_
          refine x_goto f_Mo_layWays_62 ?_
          refine fin _ _ ?_
          rw [esw, if_pos (by omega)]
        · rw [if_neg a]
          refine x_if_eqN f_Mo_layWays_58 (by omega) (fun _ => ?_) (fun h4 => absurd h4 (by omega))
          refine x_iconst (v := (nI 0)) f_Mo_layWays_65 rfl ?_
          refine fin _ _ ?_
          rw [esw, if_neg (by omega)]
termination_by 90 - w
decreasing_by all_goals omega
theorem l_Mo_layWays1 (hn7 : n ≤ 7) (hFb : ∀ i, i < n → F i ≤ 20) (hRb : ∀ i, i < n → Rn i ≤ i) (M0 : mM) (hn : M0.1 55 3 = nI n) (hF : ∀ i, i < n → M0.1 58 i = nI (F i)) (hR : ∀ i, i < n → M0.1 60 i = iv (Rn i)) (hQ : ∀ (M1 : mM) (v2 v3 : Value), frW M0 M1 → OmC M1 n (fun r => swN F (srcN Rn r n) r) → wp X (d + 3) n_Mo_layWays Q 79 [.ref 55, .int (nI n), v2, v3] [] M1) (M : mM) (k : Nat) (hk : k ≤ n) (v2 v3 : Value) (hf : frW M0 M) (hV : OmC M k (fun r => swN F (srcN Rn r n) r)) : wp X (d + 3) n_Mo_layWays Q 2 [.ref 55, .int (nI k), v2, v3] [] M := by
  refine x_il1 f_Mo_layWays_2 ?_
  refine x_al0 f_Mo_layWays_3 ?_
  refine x_getIV f_Mo_layWays_4 rfl rfl (Or.inl rfl) ((hf.1 _ _ (by omega) (by omega)).trans hn) ?_
  refine x_cmp_geN f_Mo_layWays_7 (by omega) (by omega) (fun h => ?_) (fun h => ?_)
  · have e : k = n := by omega
    subst e
    exact hQ M _ _ hf hV
  · refine x_iconst (v := (nI 0)) f_Mo_layWays_10 rfl ?_
    refine x_is2 f_Mo_layWays_11 rfl ?_
    refine l_Mo_layWays1b hn7 h hFb hRb M0 hn hF hR (fun M1 u3 f1 o1 => ?_) M 0 (by omega) _ hf hV (fun u hu => absurd hu (Nat.not_lt_zero u))
    refine x_incN1 f_Mo_layWays_73 rfl ?_
    refine x_goto f_Mo_layWays_76 ?_
    exact l_Mo_layWays1 hn7 hFb hRb M0 hn hF hR hQ M1 (k + 1) (by omega) _ _ f1 o1
termination_by n - k
decreasing_by all_goals omega
theorem c_Mo_layWays {M : mM} (h : MwC M n K F Rn) (hQ : ∀ M1, frW M M1 → OmC M1 n (vlo 90 K Rn n (fun r => swN F (srcN Rn r n) r)) → Q M1 none) : wp X (d + 3) n_Mo_layWays Q 0 [.ref 55, .null, .null, .null] [] M := by
  obtain ⟨hn, hn7, hK, hKb, hF, hFb, hR, hRb⟩ := id h
  refine x_iconst (v := (nI 0)) f_Mo_layWays_0 rfl ?_
  refine x_is1 f_Mo_layWays_1 rfl ?_
  refine l_Mo_layWays1 hn7 hFb hRb M hn hF hR (fun M1 v2 v3 f1 o1 => ?_) M 0 (by omega) _ _ (frW_refl _) (fun r hr => absurd hr (Nat.not_lt_zero r))
  refine x_al0 f_Mo_layWays_79 ?_
  refine x_getIV f_Mo_layWays_80 rfl rfl (Or.inl rfl) ((f1.1 _ _ (by omega) (by omega)).trans hn) ?_
  refine x_iconst (v := (nI 1)) f_Mo_layWays_83 rfl ?_
  refine x_isub f_Mo_layWays_84 ?_
  rw [iv_sub1]
  refine x_is1 f_Mo_layWays_85 rfl ?_
  exact l_Mo_layWays2 hn7 hKb hRb M hK hR v2 v3 n _ (Nat.le_refl _) hQ M1 f1 o1
end
