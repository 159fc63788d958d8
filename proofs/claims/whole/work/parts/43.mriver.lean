/-! the reference: river() -/
theorem ffn_le2 {C : Nat → Nat} : ∀ k i e, (ffn C k i e).1 ≤ i + k
  | 0, i, e => Nat.le_refl _
  | k + 1, i, e => by
    show (if fitN e i (C i) = 0 then (i, e) else ffn C k (i + 1) (if C i = 59 then i + 1 else e)).1 ≤ i + (k + 1)
    split
    · show i ≤ i + (k + 1); omega
    · have := ffn_le2 (C := C) k (i + 1) (if C i = 59 then i + 1 else e); omega
theorem told_0 {C : Nat → Nat} {pn : Nat} (hp : pn ≤ 42) (h : toldN C pn = 0) : (ffn C pn 0 0).1 < pn ∨ (ffn C pn 0 0).2 = 0 ∨ (pn - ((ffn C pn 0 0).2 - 1)) % 2 ≠ 0 := by
  unfold toldN at h
  by_cases c1 : scn C pn 0 = 0 ∨ (ffn C pn 0 0).1 < pn
  · rcases c1 with c | c
    · exact Or.inr (Or.inl (ffn_0 pn 0 c))
    · exact Or.inl c
  · rw [if_neg c1] at h
    obtain ⟨s, hs⟩ : ∃ s, scn C pn 0 = s + 1 := ⟨scn C pn 0 - 1, by omega⟩
    have hf : (ffn C pn 0 0).1 = 0 + pn := by have := ffn_le2 (C := C) pn 0 0; omega
    obtain ⟨a1, a2, a3, a4, a5, a6⟩ := ffn_1 pn 0 s hf hs
    have h59 := rfit_59 (s := s) (by omega) (by have := a4 s (by omega) (by omega); rw [a3] at this; exact this)
    rw [hs] at h
    by_cases c2 : (pn - (s + 1 - 1)) % 2 = 0
    · rw [if_pos c2] at h; omega
    · rw [a6] at hf ⊢
      have hb := ffn_2 (C := C) (s := s) (by omega) (0 + pn - (s + 1)) (s + 1) (Nat.le_refl _) (by rw [hf]; omega)
      rw [hb.1]
      exact Or.inr (Or.inr c2)
section
variable {X : (Nat → Int32) × Nat} {d : Nat} {Q : mM → Option Value → Prop} {M : mM} {s : St} {C : Nat → Nat} {n pn : Nat}
theorem l_Mo_river2 (hok : rdOk C n pn) (M : mM) (i : Nat) (hi : i ≤ rdG n pn) (hg : M.1 55 4 = nI (rdG n pn)) (he : M.1 55 2 = nI (n * 5 - 1)) (hC : ∀ i, i < pn → M.1 56 i = nI (C i)) (hA : ∀ j, j < i → M.1 61 j = nI (rdA C n j)) (hQ : ∀ M1, (∀ a j, a ≠ 61 → M1.1 a j = M.1 a j) → (∀ j, j < rdG n pn → M1.1 61 j = nI (rdA C n j)) → wp X (d + 5) n_Mo_river Q 211 [.ref 55, .int (nI (rdG n pn))] [] M1) : wp X (d + 5) n_Mo_river Q 173 [.ref 55, .int (nI i)] [] M := by
  obtain ⟨h42, hn2, hn7, hnp, hg1, hg3, hcb, hv, hw⟩ := id hok
  refine x_il1 f_Mo_river_173 ?_
  refine x_al0 f_Mo_river_174 ?_
  refine x_getIV f_Mo_river_175 rfl rfl (Or.inl rfl) (hg) ?_
  refine x_cmp_geN f_Mo_river_178 (by omega) (by omega) (fun h => ?_) (fun h => ?_)
  · have e : i = rdG n pn := by omega
    subst e
    exact hQ M (fun _ _ _ => rfl) hA
  · have hwi := hw i h
    have hG : rdG n pn = (pn - n * 5 + 1) / 2 := rfl
    have hv : M.1 56 (n * 5 - 1 + 1 + 2 * i) = nI (C (n * 5 + 2 * i)) := by
      rw [show n * 5 - 1 + 1 + 2 * i = n * 5 + 2 * i by omega]
      exact hC _ (by omega)
    refine x_al0 f_Mo_river_181 ?_
    refine x_getR f_Mo_river_182 rfl rfl ?_
    refine x_il1 f_Mo_river_185 ?_
    refine x_al0 f_Mo_river_186 ?_
    refine x_getR f_Mo_river_187 rfl rfl ?_
    refine x_al0 f_Mo_river_190 ?_
    refine x_getIV f_Mo_river_191 rfl rfl (Or.inl rfl) (he) ?_
    refine x_iconst (v := (nI 1)) f_Mo_river_194 rfl ?_
    first | refine x_iaddN f_Mo_river_195 ?_ | refine x_iadd f_Mo_river_195 ?_
    refine x_iconst (v := (nI 2)) f_Mo_river_196 rfl ?_
    refine x_il1 f_Mo_river_197 ?_
    first | refine x_imulN f_Mo_river_198 ?_ | refine x_imul f_Mo_river_198 ?_
    first | refine x_iaddN f_Mo_river_199 ?_ | refine x_iadd f_Mo_river_199 ?_
    refine x_ialdV f_Mo_river_200 rfl (by omega) (hv) ?_
    refine x_bipush (v := (nI 48)) f_Mo_river_201 rfl ?_
    refine x_isubN f_Mo_river_203 (by omega) ?_
    refine x_iastN f_Mo_river_204 rfl (by omega) ?_
    refine x_incN1 f_Mo_river_205 rfl ?_
    refine x_goto f_Mo_river_208 ?_
    refine l_Mo_river2 hok _ (i + 1) (by omega) ((stM_ne _ _ (by omega)).trans hg) ((stM_ne _ _ (by omega)).trans he) (fun j hj => (stM_ne _ _ (by omega)).trans (hC j hj)) (fun j hj => ?_) (fun M1 h1 h2 => hQ M1 (fun a j ha => (h1 a j ha).trans (stM_ne _ _ (by omega))) h2)
    by_cases e : j = i
    · subst e; rw [stM_at]; rfl
    · rw [stM_ne _ _ (Or.inr e)]; exact hA j (by omega)
termination_by rdG n pn - i
decreasing_by all_goals omega
theorem l_Mo_river1 (hok : rdOk C n pn) (M : mM) (i : Nat) (hi : i ≤ n) (hn : M.1 55 3 = nI n) (hC : ∀ i, i < pn → M.1 56 i = nI (C i)) (hI : rdI1 C 56 i M) (hQ : ∀ M1, (∀ a j, (a < 57 ∨ 60 < a) → M1.1 a j = M.1 a j) → rdI1 C 56 n M1 → wp X (d + 5) n_Mo_river Q 171 [.ref 55, .int (nI n)] [] M1) : wp X (d + 5) n_Mo_river Q 64 [.ref 55, .int (nI i)] [] M := by
  obtain ⟨h42, hn2, hn7, hnp, hg1, hg3, hcb, hv, hw⟩ := id hok
  refine x_il1 f_Mo_river_64 ?_
  refine x_al0 f_Mo_river_65 ?_
  refine x_getIV f_Mo_river_66 rfl rfl (Or.inl rfl) (hn) ?_
  refine x_cmp_geN f_Mo_river_69 (by omega) (by omega) (fun h => ?_) (fun h => ?_)
  · have e : i = n := by omega
    subst e
    exact hQ M (fun _ _ _ => rfl) hI
  · obtain ⟨w0, w1, w1', w2, w2', w3⟩ := hv i h
    obtain ⟨t, ht⟩ : ∃ t, kndN (C (i * 5)) = t + 1 := ⟨kndN (C (i * 5)) - 1, by omega⟩
    have c0 := hcb (i * 5) (by omega)
    have c3 := hcb (i * 5 + 3) (by omega)
    have o0 : M.1 56 (5 * i) = nI (C (i * 5)) := by rw [Nat.mul_comm 5 i]; exact hC _ (by omega)
    have o1 : ∀ v : Int32, (stM M 57 i v).1 56 (5 * i + 1) = nI (C (i * 5 + 1)) := fun v => by rw [stM_ne _ _ (by omega), Nat.mul_comm 5 i]; exact hC _ (by omega)
    have o2 : ∀ v v2 : Int32, (stM (stM M 57 i v) 58 i v2).1 56 (5 * i + 2) = nI (C (i * 5 + 2)) := fun v v2 => by rw [stM_ne _ _ (by omega), stM_ne _ _ (by omega), Nat.mul_comm 5 i]; exact hC _ (by omega)
    have o3 : ∀ v v2 v3 : Int32, (stM (stM (stM M 57 i v) 58 i v2) 59 i v3).1 56 (5 * i + 3) = nI (C (i * 5 + 3)) := fun v v2 v3 => by rw [stM_ne _ _ (by omega), stM_ne _ _ (by omega), stM_ne _ _ (by omega), Nat.mul_comm 5 i]; exact hC _ (by omega)
    refine x_al0 f_Mo_river_72 ?_
    refine x_getR f_Mo_river_73 rfl rfl ?_
    refine x_il1 f_Mo_river_76 ?_
    refine x_al0 f_Mo_river_77 ?_
    refine x_getR f_Mo_river_78 rfl rfl ?_
    refine x_iconst (v := (nI 5)) f_Mo_river_81 rfl ?_
    refine x_il1 f_Mo_river_82 ?_
    first | refine x_imulN f_Mo_river_83 ?_ | refine x_imul f_Mo_river_83 ?_
    refine x_ialdV f_Mo_river_84 rfl (by omega) (o0) ?_
    refine x_cS1i f_Mo_river_85 (by decide) (Nat.le_of_ble_eq_true rfl) (Nat.le_of_ble_eq_true rfl) rfl (c_Mo_kindBy c0 ⟨_, rfl, ?_⟩)
    refine x_iastN f_Mo_river_88 rfl (by omega) ?_
    refine x_al0 f_Mo_river_89 ?_
    refine x_getR f_Mo_river_90 rfl rfl ?_
    refine x_il1 f_Mo_river_93 ?_
    refine x_al0 f_Mo_river_94 ?_
    refine x_getR f_Mo_river_95 rfl rfl ?_
    refine x_iconst (v := (nI 5)) f_Mo_river_98 rfl ?_
    refine x_il1 f_Mo_river_99 ?_
    first | refine x_imulN f_Mo_river_100 ?_ | refine x_imul f_Mo_river_100 ?_
    refine x_iconst (v := (nI 1)) f_Mo_river_101 rfl ?_
    first | refine x_iaddN f_Mo_river_102 ?_ | refine x_iadd f_Mo_river_102 ?_
    refine x_ialdV f_Mo_river_103 rfl (by omega) (o1 _) ?_
    refine x_bipush (v := (nI 48)) f_Mo_river_104 rfl ?_
    refine x_isubN f_Mo_river_106 (by omega) ?_
    refine x_iastN f_Mo_river_107 rfl (by omega) ?_
    refine x_al0 f_Mo_river_108 ?_
    refine x_getR f_Mo_river_109 rfl rfl ?_
    refine x_il1 f_Mo_river_112 ?_
    refine x_al0 f_Mo_river_113 ?_
    refine x_getR f_Mo_river_114 rfl rfl ?_
    refine x_iconst (v := (nI 5)) f_Mo_river_117 rfl ?_
    refine x_il1 f_Mo_river_118 ?_
    first | refine x_imulN f_Mo_river_119 ?_ | refine x_imul f_Mo_river_119 ?_
    refine x_iconst (v := (nI 2)) f_Mo_river_120 rfl ?_
    first | refine x_iaddN f_Mo_river_121 ?_ | refine x_iadd f_Mo_river_121 ?_
    refine x_ialdV f_Mo_river_122 rfl (by omega) (o2 _ _) ?_
    refine x_bipush (v := (nI 48)) f_Mo_river_123 rfl ?_
    refine x_isubN f_Mo_river_125 (by omega) ?_
    refine x_iastN f_Mo_river_126 rfl (by omega) ?_
    refine x_al0 f_Mo_river_127 ?_
    refine x_getR f_Mo_river_128 rfl rfl ?_
    refine x_il1 f_Mo_river_131 ?_
    refine x_al0 f_Mo_river_132 ?_
    refine x_getR f_Mo_river_133 rfl rfl ?_
    refine x_iconst (v := (nI 5)) f_Mo_river_136 rfl ?_
    refine x_il1 f_Mo_river_137 ?_
    first | refine x_imulN f_Mo_river_138 ?_ | refine x_imul f_Mo_river_138 ?_
    refine x_iconst (v := (nI 3)) f_Mo_river_139 rfl ?_
    first | refine x_iaddN f_Mo_river_140 ?_ | refine x_iadd f_Mo_river_140 ?_
    refine x_ialdV f_Mo_river_141 rfl (by omega) (o3 _ _ _) ?_
    refine x_bipush (v := (nI 45)) f_Mo_river_142 rfl ?_
    have fin : ∀ v4' : Int32, v4' = iv (rdR C i) → wp X (d + 5) n_Mo_river Q 165 [.ref 55, .int (nI i)] [] (stM (stM (stM (stM M 57 i (iv (kndN (C (i * 5))))) 58 i (nI (C (i * 5 + 1) - 48))) 59 i (nI (C (i * 5 + 2) - 48))) 60 i v4') := by
      intro v4' hv4
      refine x_incN1 f_Mo_river_165 rfl ?_
      refine x_goto f_Mo_river_168 ?_
      refine l_Mo_river1 hok _ (i + 1) (by omega) ?_ (fun j hj => ?_) (rdI1_st (r := 56) hI (by unfold rdK; rw [ht]; rfl) rfl rfl hv4) (fun M1 h1 h2 => hQ M1 (fun a j ha => (h1 a j ha).trans ?_) h2)
      · rw [stM_ne _ _ (by omega), stM_ne _ _ (by omega), stM_ne _ _ (by omega), stM_ne _ _ (by omega)]; exact hn
      · rw [stM_ne _ _ (by omega), stM_ne _ _ (by omega), stM_ne _ _ (by omega), stM_ne _ _ (by omega)]; exact hC j hj
      · rw [stM_ne _ _ (by omega), stM_ne _ _ (by omega), stM_ne _ _ (by omega), stM_ne _ _ (by omega)]
    refine x_cmp_neN f_Mo_river_144 (by omega) (by omega) (fun h1 => ?_) (fun h1 => ?_)
    · refine x_al0 f_Mo_river_151 ?_
      refine x_getR f_Mo_river_152 rfl rfl ?_
      refine x_iconst (v := (nI 5)) f_Mo_river_155 rfl ?_
      refine x_il1 f_Mo_river_156 ?_
      first | refine x_imulN f_Mo_river_157 ?_ | refine x_imul f_Mo_river_157 ?_
      refine x_iconst (v := (nI 3)) f_Mo_river_158 rfl ?_
      first | refine x_iaddN f_Mo_river_159 ?_ | refine x_iadd f_Mo_river_159 ?_
      refine x_ialdV f_Mo_river_160 rfl (by omega) (o3 _ _ _) ?_
      refine x_bipush (v := (nI 48)) f_Mo_river_161 rfl ?_
      refine x_isubN f_Mo_river_163 (by omega) ?_
      refine x_iastN f_Mo_river_164 rfl (by omega) ?_
      refine fin _ ?_
      unfold rdR
      rw [if_neg h1]; rfl
    · refine x_iconst (v := (-1)) f_Mo_river_147 rfl ?_
      refine x_goto f_Mo_river_148 ?_
      refine x_iastN f_Mo_river_164 rfl (by omega) ?_
      refine fin _ ?_
      unfold rdR
      rw [if_pos h1]; rfl
termination_by n - i
decreasing_by all_goals omega
theorem c_Mo_river (hI : Inv s) (hR : RelM s M) (hQ : ∀ M1, RelM (rvS s) M1 → frC M M1 → Q M1 (some (.int (rvA s)))) : wp X (d + 5) n_Mo_river Q 0 [.ref 55, .null] [] M := by
  have hpn := hI.1.1
  have hCb := hI.1.2
  unfold rvS rvA at hQ
  refine x_al0 f_Mo_river_0 ?_
  refine x_cV0i f_Mo_river_1 rfl rfl (by decide) (Nat.le_of_ble_eq_true rfl) (Nat.le_of_ble_eq_true rfl) rfl (c_Mo_faultOf hpn hR.1.1 hR.1.2 (fun i hi => by have := hCb i hi; omega) (fun M1 ho hE he => ⟨_, rfl, ?_⟩))
  have hfl := ffn_le2 (C := s 0) (s 1 0) 0 0
  have R1 : RelM s M1 := RelM_o hR (fun a i h => ho a i (by omega))
  have f1 : frC M M1 := fun a i h => ho a i (by omega)
  refine x_al0 f_Mo_river_4 ?_
  refine x_getIV f_Mo_river_5 rfl rfl (Or.inl rfl) (R1.1.1) ?_
  by_cases ht : toldN (s 0) (s 1 0) = 0
  · rw [if_pos ht, if_pos ht] at hQ
    have h0 := told_0 hpn ht
    have out : wp X (d + 5) n_Mo_river Q 32 [.ref 55, .null] [] M1 := by
      refine x_bipush (v := (-103)) f_Mo_river_32 rfl ?_
      refine x_ireturn f_Mo_river_34 rfl ?_
      exact hQ M1 R1 f1
    refine x_cmp_ltN f_Mo_river_8 (by omega) (by omega) (fun _ => out) (fun h1 => ?_)
    refine x_al0 f_Mo_river_11 ?_
    refine x_getIV f_Mo_river_12 rfl rfl (Or.inl rfl) (hE) ?_
    refine x_if_eqN f_Mo_river_15 (by omega) (fun _ => out) (fun h2 => ?_)
    refine x_al0 f_Mo_river_18 ?_
    refine x_getIV f_Mo_river_19 rfl rfl (Or.inl rfl) (R1.1.1) ?_
    refine x_al0 f_Mo_river_22 ?_
    refine x_getIV f_Mo_river_23 rfl rfl (Or.inl rfl) (hE) ?_
    refine x_isubN f_Mo_river_26 (by omega) ?_
    refine x_iconst (v := (nI 2)) f_Mo_river_27 rfl ?_
    refine x_iremN f_Mo_river_28 (by omega) (by omega) (by omega) ?_
    refine x_if_eqN f_Mo_river_29 (by omega) (fun h3 => absurd h3 (by omega)) (fun _ => out)
  · rw [if_neg ht, if_neg ht] at hQ
    obtain ⟨hok, b1, b2, b3⟩ := told_ok hpn (fun i hi => (hCb i hi).2) ht
    obtain ⟨h42, hn2, hn7, hnp, hg1, hg3, hcb, hv, hw⟩ := id hok
    rw [b2] at hE he
    rw [b1]
    generalize hN : toldN (s 0) (s 1 0) = N at *
    refine x_cmp_ltN f_Mo_river_8 (by omega) (by omega) (fun h => absurd h (by omega)) (fun _ => ?_)
    refine x_al0 f_Mo_river_11 ?_
    refine x_getIV f_Mo_river_12 rfl rfl (Or.inl rfl) (hE) ?_
    refine x_if_eqN f_Mo_river_15 (by omega) (fun h => absurd h (by omega)) (fun _ => ?_)
    refine x_al0 f_Mo_river_18 ?_
    refine x_getIV f_Mo_river_19 rfl rfl (Or.inl rfl) (R1.1.1) ?_
    refine x_al0 f_Mo_river_22 ?_
    refine x_getIV f_Mo_river_23 rfl rfl (Or.inl rfl) (hE) ?_
    refine x_isubN f_Mo_river_26 (by omega) ?_
    refine x_iconst (v := (nI 2)) f_Mo_river_27 rfl ?_
    refine x_iremN f_Mo_river_28 (by omega) (by omega) (by omega) ?_
    refine x_if_eqN f_Mo_river_29 (by omega) (fun _ => ?_) (fun h => absurd h (by omega))
    refine x_al0 f_Mo_river_35 ?_
    refine x_al0 f_Mo_river_36 ?_
    refine x_getIV f_Mo_river_37 rfl rfl (Or.inl rfl) (hE) ?_
    refine x_iconst (v := (nI 1)) f_Mo_river_40 rfl ?_
    first | refine x_iaddN f_Mo_river_41 ?_ | refine x_iadd f_Mo_river_41 ?_
    refine x_iconst (v := (nI 5)) f_Mo_river_42 rfl ?_
    refine x_idivN f_Mo_river_43 (by omega) (by omega) (by omega) ?_
    rw [show (N * 5 - 1 + 1) / 5 = N by omega]
    refine x_putI f_Mo_river_44 rfl rfl ?_
    refine x_al0 f_Mo_river_47 ?_
    refine x_al0 f_Mo_river_48 ?_
    refine x_getIV f_Mo_river_49 rfl rfl (Or.inl rfl) ((stM_ne _ _ (by omega)).trans R1.1.1) ?_
    refine x_al0 f_Mo_river_52 ?_
    refine x_getIV f_Mo_river_53 rfl rfl (Or.inl rfl) ((stM_ne _ _ (by omega)).trans hE) ?_
    refine x_isubN f_Mo_river_56 (by omega) ?_
    refine x_iconst (v := (nI 2)) f_Mo_river_57 rfl ?_
    refine x_idivN f_Mo_river_58 (by omega) (by omega) (by omega) ?_
    have hG : (s 1 0 - (N * 5 - 1)) / 2 = rdG N (s 1 0) := by
      show _ = (s 1 0 - N * 5 + 1) / 2
      omega
    rw [hG]
    refine x_putI f_Mo_river_59 rfl rfl ?_
    refine x_iconst (v := (nI 0)) f_Mo_river_62 rfl ?_
    refine x_is1 f_Mo_river_63 rfl ?_
    have o2 : ∀ a i, (a ≠ 55 ∨ (i ≠ 3 ∧ i ≠ 4)) → (stM (stM M1 55 3 (nI N)) 55 4 (nI (rdG N (s 1 0)))).1 a i = M1.1 a i := fun a i h => (stM_ne _ _ (by omega)).trans (stM_ne _ _ (by omega))
    have n2 : (stM (stM M1 55 3 (nI N)) 55 4 (nI (rdG N (s 1 0)))).1 55 3 = nI N := (stM_ne _ _ (by omega)).trans (stM_at _ _ _ _)
    have g2 : (stM (stM M1 55 3 (nI N)) 55 4 (nI (rdG N (s 1 0)))).1 55 4 = nI (rdG N (s 1 0)) := stM_at _ _ _ _
    generalize (stM (stM M1 55 3 (nI N)) 55 4 (nI (rdG N (s 1 0)))) = M2 at o2 n2 g2
    refine l_Mo_river1 hok M2 0 (by omega) n2 (fun i hi => (o2 _ _ (by omega)).trans (R1.1.2 i hi)) ⟨fun j hj => absurd hj (Nat.not_lt_zero j), fun j hj => absurd hj (Nat.not_lt_zero j), fun j hj => absurd hj (Nat.not_lt_zero j), fun j hj => absurd hj (Nat.not_lt_zero j)⟩ (fun M3 o3 r3 => ?_)
    refine x_iconst (v := (nI 0)) f_Mo_river_171 rfl ?_
    refine x_is1 f_Mo_river_172 rfl ?_
    refine l_Mo_river2 hok M3 0 (by omega) ((o3 _ _ (by omega)).trans g2) ((o3 _ _ (by omega)).trans ((o2 _ _ (by omega)).trans hE)) (fun i hi => (o3 _ _ (by omega)).trans ((o2 _ _ (by omega)).trans (R1.1.2 i hi))) (fun j hj => absurd hj (Nat.not_lt_zero j)) (fun M4 o4 a4 => ?_)
    have o14 : ∀ a i, (a < 57 ∨ 61 < a) → (a ≠ 55 ∨ (i ≠ 3 ∧ i ≠ 4)) → M4.1 a i = M1.1 a i := fun a i p q => (o4 a i (by omega)).trans ((o3 a i (by omega)).trans (o2 a i q))
    have e7 : M4.1 55 7 = nI (s 1 5) := (o14 _ _ (by omega) (by omega)).trans R1.2.1.2.2.2.2.1
    refine x_al0 f_Mo_river_211 ?_
    refine x_iconst (v := (nI 0)) f_Mo_river_212 rfl ?_
    refine x_putI f_Mo_river_213 rfl rfl ?_
    refine x_al0 f_Mo_river_216 ?_
    refine x_iconst (v := (nI 0)) f_Mo_river_217 rfl ?_
    refine x_putI f_Mo_river_218 rfl rfl ?_
    refine x_al0 f_Mo_river_221 ?_
    refine x_iconst (v := (nI 0)) f_Mo_river_222 rfl ?_
    refine x_putI f_Mo_river_223 rfl rfl ?_
    refine x_al0 f_Mo_river_226 ?_
    refine x_dup f_Mo_river_227 rfl ?_
    refine x_getIV f_Mo_river_228 rfl rfl (Or.inl rfl) ((stM_ne _ _ (by omega)).trans ((stM_ne _ _ (by omega)).trans ((stM_ne _ _ (by omega)).trans e7))) ?_
    refine x_iconst (v := (nI 1)) f_Mo_river_231 rfl ?_
    first | refine x_iaddN f_Mo_river_232 ?_ | refine x_iadd f_Mo_river_232 ?_
    refine x_putI f_Mo_river_233 rfl rfl ?_
    refine x_al0 f_Mo_river_236 ?_
    refine x_iconst (v := (nI 0)) f_Mo_river_237 rfl ?_
    refine x_putI f_Mo_river_238 rfl rfl ?_
    refine x_al0 f_Mo_river_241 ?_
    have o5 : ∀ a i, (a ≠ 55 ∨ (i ≠ 5 ∧ i ≠ 6 ∧ i ≠ 19 ∧ i ≠ 7 ∧ i ≠ 1)) → (stM (stM (stM (stM (stM M4 55 5 (nI 0)) 55 6 (nI 0)) 55 19 (nI 0)) 55 7 (nI (s 1 5 + 1))) 55 1 (nI 0)).1 a i = M4.1 a i := fun a i h => by rw [stM_ne _ _ (by omega), stM_ne _ _ (by omega), stM_ne _ _ (by omega), stM_ne _ _ (by omega), stM_ne _ _ (by omega)]
    have e3 : (stM (stM (stM (stM (stM M4 55 5 (nI 0)) 55 6 (nI 0)) 55 19 (nI 0)) 55 7 (nI (s 1 5 + 1))) 55 1 (nI 0)).1 55 3 = nI N := (o5 _ _ (by omega)).trans ((o4 _ _ (by omega)).trans ((o3 _ _ (by omega)).trans n2))
    refine x_getIV f_Mo_river_242 rfl rfl (Or.inl rfl) (e3) ?_
    refine x_ireturn f_Mo_river_245 rfl ?_
    refine hQ _ ?_ (fun a i h => (o5 a i (by omega)).trans ((o14 a i (by omega) (by omega)).trans (f1 a i h)))
    refine ⟨⟨stM_at _ _ _ _, fun i hi => absurd hi (Nat.not_lt_zero i)⟩, ⟨e3, (o5 _ _ (by omega)).trans ((o4 _ _ (by omega)).trans ((o3 _ _ (by omega)).trans g2)), ?_, ?_, ?_, ?_, (o5 _ _ (by omega)).trans ((o14 _ _ (by omega) (by omega)).trans R1.2.1.2.2.2.2.2.2)⟩, ⟨fun i hi => (o5 _ _ (by omega)).trans ((o4 _ _ (by omega)).trans (r3.1 i hi)), fun i hi => (o5 _ _ (by omega)).trans ((o4 _ _ (by omega)).trans (r3.2.1 i hi)), fun i hi => (o5 _ _ (by omega)).trans ((o4 _ _ (by omega)).trans (r3.2.2.1 i hi)), fun i hi => (o5 _ _ (by omega)).trans (a4 i hi)⟩, fun i hi => (o5 _ _ (by omega)).trans ((o4 _ _ (by omega)).trans (r3.2.2.2 i hi)), fun i hi => absurd hi (Nat.not_lt_zero i), fun hi => ?_⟩
    · rw [stM_ne _ _ (by omega), stM_ne _ _ (by omega), stM_ne _ _ (by omega), stM_ne _ _ (by omega), stM_at]; rfl
    · rw [stM_ne _ _ (by omega), stM_ne _ _ (by omega), stM_ne _ _ (by omega), stM_at]; rfl
    · rw [stM_ne _ _ (by omega), stM_at]; rfl
    · rw [stM_ne _ _ (by omega), stM_ne _ _ (by omega), stM_at]; rfl
    · exfalso
      have i7 := hI.2.2.2.2.2.1
      have hi : (if s 1 7 = s 1 5 + 1 + 1 then 1 else 0) = 1 := hi
      rw [if_neg (by omega)] at hi
      omega
end
