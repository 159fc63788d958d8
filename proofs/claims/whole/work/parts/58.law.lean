/-! the law -/
section
variable {X : (Nat → Int32) × Nat} {d : Nat} {Q : mM → Option Value → Prop} {M : mM} {s : St}
theorem x_sldN {pc nx j : Nat} {tg : List Nat} {L S : List Value} {M : mM} (hf : fx n_Law_law pc = some (.iaload, nx, tg)) (hj : j < X.2) (hX : X.2 < 2 ^ 30) (n0 : wp X (d + 1) n_Law_law Q nx L (.int (X.1 j) :: S) M) : wp X (d + 1) n_Law_law Q pc L (.int (nI j) :: .ref 1000 :: S) M := by
  refine x_sld hf rfl (vp_in_nI hj (by omega)) ?_
  rw [nI_clamp (by omega)]
  exact n0
theorem join_M {s : St} {M M1 : mM} (h : RelM s M) (hf : frM M M1 0 54) : RelM s M1 := RelM_o h (fun a i hh => hf.1 a i (by omega))
theorem join_C {s : St} {M M1 : mM} (h : RelC s M) (hf : frC M M1) : RelC s M1 := RelC_scr h (fun a i hh => hf a i (by omega))
theorem Inv_bl (h : Inv s) : Inv (sus s 0 0) := by
  obtain ⟨a1, a2⟩ := h
  exact ⟨⟨Nat.zero_le _, fun i hi => absurd hi (Nat.not_lt_zero i)⟩, a2⟩
theorem k_letter {i : Nat} (hX : X.2 < 2 ^ 30) (hi : i + 4 ≤ X.2) (hI : Inv s) (hC : RelC s M) (hM : RelM s M) (nxt : ∀ s2 M2, Inv s2 → RelC s2 M2 → RelM s2 M2 → s2 1 5 ≤ s 1 5 + 1 → wp X (d + 11) n_Law_law Q 736 [.ref 1000, .ref 0, .ref 55, .int (nI i)] [] M2) : wp X (d + 11) n_Law_law Q 140 [.ref 1000, .ref 0, .ref 55, .int (nI i)] [] M := by
  refine x_al1 f_Law_law_140 ?_
  refine x_al0 f_Law_law_141 ?_
  refine x_il3 f_Law_law_142 ?_
  refine x_iconst (v := (nI 1)) f_Law_law_143 rfl ?_
  first | refine x_iaddN f_Law_law_144 ?_ | refine x_iadd f_Law_law_144 ?_
  refine x_sldN f_Law_law_145 (by omega) hX ?_
  refine x_cV1i f_Law_law_146 rfl rfl (by decide) (Nat.le_of_ble_eq_true rfl) (Nat.le_of_ble_eq_true rfl) rfl (c_RL_letter hI hC (fun M1 c1 f1 => ⟨_, rfl, ?_⟩))
  refine x_al2 f_Law_law_149 ?_
  refine x_al0 f_Law_law_150 ?_
  refine x_il3 f_Law_law_151 ?_
  refine x_iconst (v := (nI 1)) f_Law_law_152 rfl ?_
  first | refine x_iaddN f_Law_law_153 ?_ | refine x_iadd f_Law_law_153 ?_
  refine x_sldN f_Law_law_154 (by omega) hX ?_
  refine x_cV1i f_Law_law_155 rfl rfl (by decide) (Nat.le_of_ble_eq_true rfl) (Nat.le_of_ble_eq_true rfl) rfl (c_Mo_letter hI (join_M hM f1) (fun M2 r2 f2 => ⟨_, rfl, ?_⟩))
  refine x_cmp_eq f_Law_law_158 (fun _ => ?_) (fun z => absurd rfl z)
  refine nxt _ M2 (Inv_lt hI) (join_C c1 f2) r2 ?_
  unfold ltS
  (repeat' split) <;> exact Nat.le_succ _
end
