/-! the law's loop -/
section
variable {X : (Nat → Int32) × Nat} {d : Nat} {Q : mM → Option Value → Prop} {M : mM} {s : St}
theorem seS_5 {x y b : Int32} : seS s x y b 1 5 ≤ s 1 5 + 1 := by
  unfold seS
  (repeat' split) <;> exact Nat.le_succ _
theorem k_see {i : Nat} (hX : X.2 < 2 ^ 30) (hi : i + 4 ≤ X.2) (hI : Inv s) (hC : RelC s M) (hM : RelM s M) (nxt : ∀ s2 M2, Inv s2 → RelC s2 M2 → RelM s2 M2 → s2 1 5 ≤ s 1 5 + 1 → wp X (d + 11) n_Law_law Q 736 [.ref 1000, .ref 0, .ref 55, .int (nI i)] [] M2) : wp X (d + 11) n_Law_law Q 558 [.ref 1000, .ref 0, .ref 55, .int (nI i)] [] M := by
  refine x_al1 f_Law_law_558 ?_
  refine x_al0 f_Law_law_559 ?_
  refine x_il3 f_Law_law_560 ?_
  refine x_iconst (v := (nI 1)) f_Law_law_561 rfl ?_
  first | refine x_iaddN f_Law_law_562 ?_ | refine x_iadd f_Law_law_562 ?_
  refine x_sldN f_Law_law_563 (by omega) hX ?_
  refine x_al0 f_Law_law_564 ?_
  refine x_il3 f_Law_law_565 ?_
  refine x_iconst (v := (nI 2)) f_Law_law_566 rfl ?_
  first | refine x_iaddN f_Law_law_567 ?_ | refine x_iadd f_Law_law_567 ?_
  refine x_sldN f_Law_law_568 (by omega) hX ?_
  refine x_al0 f_Law_law_569 ?_
  refine x_il3 f_Law_law_570 ?_
  refine x_iconst (v := (nI 3)) f_Law_law_571 rfl ?_
  first | refine x_iaddN f_Law_law_572 ?_ | refine x_iadd f_Law_law_572 ?_
  refine x_sldN f_Law_law_573 (by omega) hX ?_
  refine x_if_eq f_Law_law_574 (fun z => ?_) (fun z => ?_)
  · refine x_iconst (v := (nI 0)) f_Law_law_581 rfl ?_
    refine x_cV3i f_Law_law_582 rfl rfl (by decide) (Nat.le_of_ble_eq_true rfl) (Nat.le_of_ble_eq_true rfl) rfl (c_RL_see (Or.inl rfl) hI hC (fun M1 c1 f1 => ⟨_, rfl, ?_⟩))
    refine x_al2 f_Law_law_585 ?_
    refine x_al0 f_Law_law_586 ?_
    refine x_il3 f_Law_law_587 ?_
    refine x_iconst (v := (nI 1)) f_Law_law_588 rfl ?_
    first | refine x_iaddN f_Law_law_589 ?_ | refine x_iadd f_Law_law_589 ?_
    refine x_sldN f_Law_law_590 (by omega) hX ?_
    refine x_al0 f_Law_law_591 ?_
    refine x_il3 f_Law_law_592 ?_
    refine x_iconst (v := (nI 2)) f_Law_law_593 rfl ?_
    first | refine x_iaddN f_Law_law_594 ?_ | refine x_iadd f_Law_law_594 ?_
    refine x_sldN f_Law_law_595 (by omega) hX ?_
    refine x_al0 f_Law_law_596 ?_
    refine x_il3 f_Law_law_597 ?_
    refine x_iconst (v := (nI 3)) f_Law_law_598 rfl ?_
    first | refine x_iaddN f_Law_law_599 ?_ | refine x_iadd f_Law_law_599 ?_
    refine x_sldN f_Law_law_600 (by omega) hX ?_
    refine x_if_eq f_Law_law_601 (fun _ => ?_) (fun y => absurd z y)
    refine x_iconst (v := (nI 0)) f_Law_law_608 rfl ?_
    refine x_cV3i f_Law_law_609 rfl rfl (by decide) (Nat.le_of_ble_eq_true rfl) (Nat.le_of_ble_eq_true rfl) rfl (c_Mo_see (Or.inl rfl) hI (join_M hM f1) (fun M2 r2 f2 => ⟨_, rfl, ?_⟩))
    refine x_cmp_eq f_Law_law_612 (fun _ => ?_) (fun z => absurd rfl z)
    exact nxt _ M2 (Inv_se (Or.inl rfl) hI) (join_C c1 f2) r2 seS_5
  · refine x_iconst (v := (nI 1)) f_Law_law_577 rfl ?_
    refine x_goto f_Law_law_578 ?_
    refine x_cV3i f_Law_law_582 rfl rfl (by decide) (Nat.le_of_ble_eq_true rfl) (Nat.le_of_ble_eq_true rfl) rfl (c_RL_see (Or.inr rfl) hI hC (fun M1 c1 f1 => ⟨_, rfl, ?_⟩))
    refine x_al2 f_Law_law_585 ?_
    refine x_al0 f_Law_law_586 ?_
    refine x_il3 f_Law_law_587 ?_
    refine x_iconst (v := (nI 1)) f_Law_law_588 rfl ?_
    first | refine x_iaddN f_Law_law_589 ?_ | refine x_iadd f_Law_law_589 ?_
    refine x_sldN f_Law_law_590 (by omega) hX ?_
    refine x_al0 f_Law_law_591 ?_
    refine x_il3 f_Law_law_592 ?_
    refine x_iconst (v := (nI 2)) f_Law_law_593 rfl ?_
    first | refine x_iaddN f_Law_law_594 ?_ | refine x_iadd f_Law_law_594 ?_
    refine x_sldN f_Law_law_595 (by omega) hX ?_
    refine x_al0 f_Law_law_596 ?_
    refine x_il3 f_Law_law_597 ?_
    refine x_iconst (v := (nI 3)) f_Law_law_598 rfl ?_
    first | refine x_iaddN f_Law_law_599 ?_ | refine x_iadd f_Law_law_599 ?_
    refine x_sldN f_Law_law_600 (by omega) hX ?_
    refine x_if_eq f_Law_law_601 (fun y => absurd y z) (fun _ => ?_)
    refine x_iconst (v := (nI 1)) f_Law_law_604 rfl ?_
    refine x_goto f_Law_law_605 ?_
    refine x_cV3i f_Law_law_609 rfl rfl (by decide) (Nat.le_of_ble_eq_true rfl) (Nat.le_of_ble_eq_true rfl) rfl (c_Mo_see (Or.inr rfl) hI (join_M hM f1) (fun M2 r2 f2 => ⟨_, rfl, ?_⟩))
    refine x_cmp_eq f_Law_law_612 (fun _ => ?_) (fun z => absurd rfl z)
    exact nxt _ M2 (Inv_se (Or.inr rfl) hI) (join_C c1 f2) r2 seS_5
theorem k_digest {i : Nat} (hI : Inv s) (hC : RelC s M) (hM : RelM s M) (nxt : ∀ s2 M2, Inv s2 → RelC s2 M2 → RelM s2 M2 → s2 1 5 ≤ s 1 5 + 1 → wp X (d + 11) n_Law_law Q 736 [.ref 1000, .ref 0, .ref 55, .int (nI i)] [] M2) : wp X (d + 11) n_Law_law Q 722 [.ref 1000, .ref 0, .ref 55, .int (nI i)] [] M := by
  refine x_al1 f_Law_law_722 ?_
  refine x_cV0l f_Law_law_723 rfl rfl (by decide) (Nat.le_of_ble_eq_true rfl) (Nat.le_of_ble_eq_true rfl) rfl (c_RL_digest hI hC (fun M1 c1 f1 => ⟨_, rfl, ?_⟩))
  refine x_al2 f_Law_law_726 ?_
  refine x_cV0l f_Law_law_727 rfl rfl (by decide) (Nat.le_of_ble_eq_true rfl) (Nat.le_of_ble_eq_true rfl) rfl (c_Mo_digest hI (join_M hM f1) (fun M2 r2 f2 => ⟨_, rfl, ?_⟩))
  refine x_lcmp f_Law_law_730 ?_
  refine x_if_eq f_Law_law_731 (fun _ => ?_) (fun z => absurd ((lg_cmp_eq _ _).mpr rfl) z)
  exact nxt s M2 hI (join_C c1 f2) r2 (Nat.le_succ _)
theorem in4 (i : Nat) : nI i + Int32.ofInt 4 = nI (i + 4) := (Int32.ofNat_add _ _).symm
theorem l_Law (hX : X.2 < 300000) (hQ : ∀ M1, Q M1 (some (.int 1))) (M : mM) (s : St) (i : Nat) (hi : i ≤ X.2) (h5 : 4 * s 1 5 ≤ i) (hI : Inv s) (hC : RelC s M) (hM : RelM s M) : wp X (d + 11) n_Law_law Q 18 [.ref 1000, .ref 0, .ref 55, .int (nI i)] [] M := by
  refine x_il3 f_Law_law_18 ?_
  refine x_al0 f_Law_law_19 ?_
  refine x_slen f_Law_law_20 rfl ?_
  refine x_iconst (v := (nI 4)) f_Law_law_21 rfl ?_
  refine x_isub f_Law_law_22 ?_
  have hti : (nI X.2 - nI 4).toInt = (X.2 : Int) - 4 := pk_sub_toInt (by omega) (by omega)
  have hii : (nI i).toInt = (i : Int) := nI_toInt (by omega)
  refine x_cmp_gt f_Law_law_23 (fun h => ?_) (fun h => ?_)
  · refine x_iconst (v := (nI 1)) f_Law_law_742 rfl ?_
    refine x_zreturn f_Law_law_743 rfl (by decide) ?_
    exact hQ M
  · have h4 : i + 4 ≤ X.2 := by
      rw [Int32.lt_iff_toInt_lt, hti, hii] at h
      omega
    have hX2 : X.2 < 2 ^ 30 := by omega
    have h51 : s 1 5 + 1 < 100000 := by omega
    have nxt : ∀ s2 M2, Inv s2 → RelC s2 M2 → RelM s2 M2 → s2 1 5 ≤ s 1 5 + 1 → wp X (d + 11) n_Law_law Q 736 [.ref 1000, .ref 0, .ref 55, .int (nI i)] [] M2 := by
      intro s2 M2 i2 c2 m2 l2
      refine x_inc3 f_Law_law_736 rfl (in4 i) ?_
      refine x_goto f_Law_law_739 ?_
      exact l_Law hX hQ M2 s2 (i + 4) h4 (by omega) i2 c2 m2
    have hX := hX2
    refine x_al0 f_Law_law_26 ?_
    refine x_il3 f_Law_law_27 ?_
    refine x_sldN f_Law_law_28 (by omega) hX2 ?_
    refine x_bipush (v := (nI 31)) f_Law_law_29 rfl ?_
    refine x_iand f_Law_law_31 ?_
    obtain ⟨j, hj, e⟩ := vp_in_of (pk_andIn (X.1 i) (m := nI 31) 5 (by decide) (by omega)) (by decide)
    rw [e]
    rcases (show j = 0 ∨ j = 1 ∨ j = 2 ∨ j = 3 ∨ j = 4 ∨ j = 5 ∨ j = 6 ∨ j = 7 ∨ j = 8 ∨ j = 9 ∨ j = 10 ∨ j = 11 ∨ j = 12 ∨ j = 13 ∨ j = 14 ∨ j = 15 ∨ j = 16 ∨ j = 17 ∨ j = 18 ∨ j = 19 ∨ j = 20 ∨ j = 21 ∨ j = 22 ∨ 23 ≤ j by omega) with rfl | rfl | rfl | rfl | rfl | rfl | rfl | rfl | rfl | rfl | rfl | rfl | rfl | rfl | rfl | rfl | rfl | rfl | rfl | rfl | rfl | rfl | rfl | hj23
    · exact x_swIn (t := 140) f_Law_law_32 (by decide) (by decide) rfl (k_letter hX2 h4 h51 hI hC hM nxt)
    · exact x_swIn (t := 163) f_Law_law_32 (by decide) (by decide) rfl (k_blank hX2 h4 h51 hI hC hM nxt)
    · exact x_swIn (t := 176) f_Law_law_32 (by decide) (by decide) rfl (k_fault hX2 h4 h51 hI hC hM nxt)
    · exact x_swIn (t := 189) f_Law_law_32 (by decide) (by decide) rfl (k_river hX2 h4 h51 hI hC hM nxt)
    · exact x_swIn (t := 202) f_Law_law_32 (by decide) (by decide) rfl (k_reach hX2 h4 h51 hI hC hM nxt)
    · exact x_swIn (t := 235) f_Law_law_32 (by decide) (by decide) rfl (k_as hX2 h4 h51 hI hC hM nxt)
    · exact x_swIn (t := 268) f_Law_law_32 (by decide) (by decide) rfl (k_governess hX2 h4 h51 hI hC hM nxt)
    · exact x_swIn (t := 291) f_Law_law_32 (by decide) (by decide) rfl (k_send hX2 h4 h51 hI hC hM nxt)
    · exact x_swIn (t := 324) f_Law_law_32 (by decide) (by decide) rfl (k_month hX2 h4 h51 hI hC hM nxt)
    · exact x_swIn (t := 337) f_Law_law_32 (by decide) (by decide) rfl (k_rain hX2 h4 h51 hI hC hM nxt)
    · exact x_swIn (t := 370) f_Law_law_32 (by decide) (by decide) rfl (k_make hX2 h4 h51 hI hC hM nxt)
    · exact x_swIn (t := 403) f_Law_law_32 (by decide) (by decide) rfl (k_spoil hX2 h4 h51 hI hC hM nxt)
    · exact x_swIn (t := 436) f_Law_law_32 (by decide) (by decide) rfl (k_plan hX2 h4 h51 hI hC hM nxt)
    · exact x_swIn (t := 479) f_Law_law_32 (by decide) (by decide) rfl (k_place hX2 h4 h51 hI hC hM nxt)
    · exact x_swIn (t := 502) f_Law_law_32 (by decide) (by decide) rfl (k_weirs hX2 h4 h51 hI hC hM nxt)
    · exact x_swIn (t := 525) f_Law_law_32 (by decide) (by decide) rfl (k_odds hX2 h4 h51 hI hC hM nxt)
    · exact x_swIn (t := 558) f_Law_law_32 (by decide) (by decide) rfl (k_see hX2 h4 hI hC hM nxt)
    · exact x_swIn (t := 617) f_Law_law_32 (by decide) (by decide) rfl (k_forget hX2 h4 h51 hI hC hM nxt)
    · exact x_swIn (t := 630) f_Law_law_32 (by decide) (by decide) rfl (k_years hX2 h4 h51 hI hC hM nxt)
    · exact x_swIn (t := 673) f_Law_law_32 (by decide) (by decide) rfl (k_image hX2 h4 h51 hI hC hM nxt)
    · exact x_swIn (t := 686) f_Law_law_32 (by decide) (by decide) rfl (k_restore hX2 h4 h51 hI hC hM nxt)
    · exact x_swIn (t := 699) f_Law_law_32 (by decide) (by decide) rfl (k_count hX2 h4 h51 hI hC hM nxt)
    · exact x_swIn (t := 722) f_Law_law_32 (by decide) (by decide) rfl (k_digest hI hC hM nxt)
    · refine x_swOut (t := 736) f_Law_law_32 (sw_out (n := 23) (by omega) (by omega) (Or.inr ?_)) rfl (nxt s M hI hC hM (Nat.le_succ _))
      rw [Int32.le_iff_toInt_le, nI_toInt (by omega), nI_toInt (by omega)]
      omega
termination_by X.2 - i
decreasing_by all_goals omega
end
