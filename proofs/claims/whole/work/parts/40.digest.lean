/-! the digest -/
def mxL (h : Int64) (x : Int32) : Int64 := 31 * h + x.toInt64
def dg0 (s : St) (j : Nat) (w : Nat) (h : Int64) : Int64 := mxL h (rchN s j w)
def dg1 (s : St) (j : Nat) (h : Int64) : Int64 := mxL (mxL (foldN (dg0 s j) 13 h) (nI (odN s j 0))) (nI (odN s j 1))
def dg2 (s : St) (g : Nat) (h : Int64) : Int64 := mxL (mxL (mxL (mxL (mxL h (nI (s 6 g))) (tellN (plD s g 2) 2 0)) (tellN (plD s g 2) 2 1)) (tellN (plD s g 2) 2 10)) (tellN (plD s g 2) 2 11)
def dg3 (s : St) (h : Int64) : Int64 := mxL (mxL (mxL (mxL (mxL (mxL (mxL h (tellN (pcD s) (s 1 2) 0)) (tellN (pcD s) (s 1 2) 1)) (tellN (pcD s) (s 1 2) 10)) (tellN (pcD s) (s 1 2) 11)) (tellN (pcD s) (s 1 2) 12)) (hmI (wrD s))) (iv (wrD s))
def dg4 (s : St) (i : Nat) (h : Int64) : Int64 := mxL h (nI (s 0 i))
def dg5 (s : St) (w : Nat) (h : Int64) : Int64 := mxL h (nI (cntN s w))
def dgH (s : St) : Int64 := foldN (dg2 s) (s 1 2) (foldN (dg1 s) (s 1 1) 1231)
def dgA (s : St) : Int64 := foldN (dg5 s) 11 (foldN (dg4 s) (s 1 0) (if s 1 1 = 0 then dgH s else dg3 s (dgH s)))
theorem foldN_0 {α : Type} (f : Nat → α → α) (a : α) : foldN f 0 a = a := rfl
section
variable {X : (Nat → Int32) × Nat} {d : Nat} {Q : mM → Option Value → Prop} {M : mM} {s : St}
theorem c_RL_mixed {M : mM} {h : Int64} {x : Int32} (hQ : Q M (some (.long (mxL h x)))) : wp X (d + 1) n_RL_mixed Q 0 [.long h, .null, .long x.toInt64, .null] [] M := by
  refine x_ldc2 (v := 31) f_RL_mixed_0 (by decide) ?_
  refine x_ll0 f_RL_mixed_3 ?_
  refine x_lmul f_RL_mixed_4 ?_
  refine x_ll2 f_RL_mixed_5 ?_
  refine x_ladd f_RL_mixed_6 ?_
  refine x_lreturn f_RL_mixed_7 rfl ?_
  exact hQ
theorem l_RL_dg0 {M : mM} {j : Nat} {h0 : Int64} {v1 : Int64} (hI : Inv s) (hR : RelC s M) (hj : j < s 1 1) (hQ : wp X (d + 6) n_RL_digestReaches Q 58 [.ref 0, .long v1, .null, .long (foldN (dg0 s j) 13 h0), .null, .int (nI j), .int (nI 13)] [] M) (w : Nat) (hw : w ≤ 13) : wp X (d + 6) n_RL_digestReaches Q 31 [.ref 0, .long v1, .null, .long (foldN (dg0 s j) w h0), .null, .int (nI j), .int (nI w)] [] M := by
  refine x_il6 f_RL_digestReaches_31 ?_
  refine x_bipush (v := (nI 13)) f_RL_digestReaches_33 rfl ?_
  refine x_cmp_geN f_RL_digestReaches_35 (by omega) (by omega) (fun hge => ?_) (fun hlt => ?_)
  · have e : w = 13 := by omega
    subst e
    exact hQ
  · refine x_ll3 f_RL_digestReaches_38 ?_
    refine x_al0 f_RL_digestReaches_39 ?_
    refine x_il5 f_RL_digestReaches_40 ?_
    refine x_il6 f_RL_digestReaches_42 ?_
    refine x_cV2i f_RL_digestReaches_44 rfl rfl (by decide) (Nat.le_of_ble_eq_true rfl) (Nat.le_of_ble_eq_true rfl) rfl (c_RL_reachN hI hR hj hlt ⟨_, rfl, ?_⟩)
    refine x_i2l f_RL_digestReaches_47 ?_
    refine x_cS2l f_RL_digestReaches_48 (by decide) (Nat.le_of_ble_eq_true rfl) (Nat.le_of_ble_eq_true rfl) rfl (c_RL_mixed ⟨_, rfl, ?_⟩)
    refine x_ls3 f_RL_digestReaches_51 rfl ?_
    refine x_incN6 f_RL_digestReaches_52 rfl ?_
    refine x_goto f_RL_digestReaches_55 ?_
    exact l_RL_dg0 hI hR hj hQ (w + 1) (by omega)
termination_by 13 - w
decreasing_by all_goals omega
theorem l_RL_dg1 {v1 h0 : Int64} (hI : Inv s) (M0 : mM) (hQ : ∀ M1, RelC s M1 → frM M0 M1 0 54 → Q M1 (some (.long (foldN (dg1 s) (s 1 1) h0)))) (M : mM) (j : Nat) (hj : j ≤ s 1 1) (v6 : Value) (hR : RelC s M) (hf : frM M0 M 0 54) (hO : OdC M (s 1 1) (sV s)) : wp X (d + 6) n_RL_digestReaches Q 16 [.ref 0, .long v1, .null, .long (foldN (dg1 s) j h0), .null, .int (nI j), v6] [] M := by
  have hn7 := (Inv_n hI).1
  refine x_il5 f_RL_digestReaches_16 ?_
  refine x_al0 f_RL_digestReaches_18 ?_
  refine x_getR f_RL_digestReaches_19 rfl rfl ?_
  refine x_getIV f_RL_digestReaches_22 rfl rfl (Or.inl rfl) (hR.2.1.1) ?_
  refine x_cmp_geN f_RL_digestReaches_25 (by omega) (by omega) (fun hge => ?_) (fun hlt => ?_)
  · have e : j = s 1 1 := by omega
    subst e
    refine x_ll3 f_RL_digestReaches_101 ?_
    refine x_lreturn f_RL_digestReaches_102 rfl ?_
    exact hQ M hR hf
  · refine x_iconst (v := (nI 0)) f_RL_digestReaches_28 rfl ?_
    refine x_is6 f_RL_digestReaches_29 rfl ?_
    refine l_RL_dg0 hI hR hlt ?_ 0 (by omega)
    refine x_al0 f_RL_digestReaches_58 ?_
    refine x_getR f_RL_digestReaches_59 rfl rfl ?_
    refine x_al0 f_RL_digestReaches_62 ?_
    refine x_getR f_RL_digestReaches_63 rfl rfl ?_
    refine x_il5 f_RL_digestReaches_66 ?_
    refine x_cV2v f_RL_digestReaches_68 rfl rfl (by decide) (Nat.le_of_ble_eq_true rfl) (Nat.le_of_ble_eq_true rfl) rfl (c_parts hI hR hlt hO (fun M2 r2 f2 o2 a2 b2 => ⟨rfl, ?_⟩))
    refine x_ll3 f_RL_digestReaches_71 ?_
    refine x_al0 f_RL_digestReaches_72 ?_
    refine x_getR f_RL_digestReaches_73 rfl rfl ?_
    refine x_getIV f_RL_digestReaches_76 rfl rfl (Or.inl rfl) (a2) ?_
    refine x_i2l f_RL_digestReaches_79 ?_
    refine x_cS2l f_RL_digestReaches_80 (by decide) (Nat.le_of_ble_eq_true rfl) (Nat.le_of_ble_eq_true rfl) rfl (c_RL_mixed ⟨_, rfl, ?_⟩)
    refine x_al0 f_RL_digestReaches_83 ?_
    refine x_getR f_RL_digestReaches_84 rfl rfl ?_
    refine x_getIV f_RL_digestReaches_87 rfl rfl (Or.inl rfl) (b2) ?_
    refine x_i2l f_RL_digestReaches_90 ?_
    refine x_cS2l f_RL_digestReaches_91 (by decide) (Nat.le_of_ble_eq_true rfl) (Nat.le_of_ble_eq_true rfl) rfl (c_RL_mixed ⟨_, rfl, ?_⟩)
    refine x_ls3 f_RL_digestReaches_94 rfl ?_
    refine x_incN5 f_RL_digestReaches_95 rfl ?_
    refine x_goto f_RL_digestReaches_98 ?_
    exact l_RL_dg1 hI M0 hQ M2 (j + 1) (by omega) _ r2 (frM_trans hf f2) o2
termination_by s 1 1 - j
decreasing_by all_goals omega
theorem c_RL_digestReaches {M : mM} {h0 : Int64} (hI : Inv s) (hR : RelC s M) (hQ : ∀ M1, RelC s M1 → frM M M1 0 54 → Q M1 (some (.long (foldN (dg1 s) (s 1 1) h0)))) : wp X (d + 6) n_RL_digestReaches Q 0 [.ref 0, .long h0, .null, .null, .null, .null, .null] [] M := by
  refine x_ll1 f_RL_digestReaches_0 ?_
  refine x_ls3 f_RL_digestReaches_1 rfl ?_
  refine x_al0 f_RL_digestReaches_2 ?_
  refine x_getR f_RL_digestReaches_3 rfl rfl ?_
  refine x_al0 f_RL_digestReaches_6 ?_
  refine x_getR f_RL_digestReaches_7 rfl rfl ?_
  refine x_cV1v f_RL_digestReaches_10 rfl rfl (by decide) (Nat.le_of_ble_eq_true rfl) (Nat.le_of_ble_eq_true rfl) rfl (c_ways hI hR (fun M1 r1 f1 o1 => ⟨rfl, ?_⟩))
  refine x_iconst (v := (nI 0)) f_RL_digestReaches_13 rfl ?_
  refine x_is5 f_RL_digestReaches_14 rfl ?_
  exact l_RL_dg1 hI M hQ M1 0 (by omega) _ r1 f1 o1
theorem l_RL_dg2 {v1 h0 : Int64} (hI : Inv s) (M0 : mM) (hQ : ∀ M1, RelC s M1 → frM M0 M1 0 54 → Q M1 (some (.long (foldN (dg2 s) (s 1 2) h0)))) (M : mM) (g : Nat) (hg : g ≤ s 1 2) (hR : RelC s M) (hf : frM M0 M 0 54) : wp X (d + 9) n_RL_digestGovernesses Q 5 [.ref 0, .long v1, .null, .long (foldN (dg2 s) g h0), .null, .int (nI g)] [] M := by
  have hg3 := (Inv_n hI).2.1
  refine x_il5 f_RL_digestGovernesses_5 ?_
  refine x_al0 f_RL_digestGovernesses_7 ?_
  refine x_getR f_RL_digestGovernesses_8 rfl rfl ?_
  refine x_getIV f_RL_digestGovernesses_11 rfl rfl (Or.inl rfl) (hR.2.1.2.1) ?_
  refine x_cmp_geN f_RL_digestGovernesses_14 (by omega) (by omega) (fun hge => ?_) (fun hlt => ?_)
  · have e : g = s 1 2 := by omega
    subst e
    refine x_ll3 f_RL_digestGovernesses_107 ?_
    refine x_lreturn f_RL_digestGovernesses_108 rfl ?_
    exact hQ M hR hf
  · refine x_ll3 f_RL_digestGovernesses_17 ?_
    refine x_al0 f_RL_digestGovernesses_18 ?_
    refine x_getR f_RL_digestGovernesses_19 rfl rfl ?_
    refine x_getR f_RL_digestGovernesses_22 rfl rfl ?_
    refine x_il5 f_RL_digestGovernesses_25 ?_
    refine x_ialdV f_RL_digestGovernesses_27 rfl (by omega) (hR.2.1.2.2.2.2.2.2.2.2.2 g hlt) ?_
    refine x_i2l f_RL_digestGovernesses_28 ?_
    refine x_cS2l f_RL_digestGovernesses_29 (by decide) (Nat.le_of_ble_eq_true rfl) (Nat.le_of_ble_eq_true rfl) rfl (c_RL_mixed ⟨_, rfl, ?_⟩)
    refine x_ls3 f_RL_digestGovernesses_32 rfl ?_
    refine x_al0 f_RL_digestGovernesses_33 ?_
    refine x_getR f_RL_digestGovernesses_34 rfl rfl ?_
    refine x_al0 f_RL_digestGovernesses_37 ?_
    refine x_getR f_RL_digestGovernesses_38 rfl rfl ?_
    refine x_il5 f_RL_digestGovernesses_41 ?_
    refine x_iconst (v := (nI 2)) f_RL_digestGovernesses_43 rfl ?_
    refine x_cV3v f_RL_digestGovernesses_44 rfl rfl (by decide) (Nat.le_of_ble_eq_true rfl) (Nat.le_of_ble_eq_true rfl) rfl (c_plan hI hR hlt (by omega) (by omega) (fun M1 hs => ⟨rfl, ?_⟩))
    refine x_ll3 f_RL_digestGovernesses_47 ?_
    refine x_al0 f_RL_digestGovernesses_48 ?_
    refine x_getR f_RL_digestGovernesses_49 rfl rfl ?_
    refine x_iconst (v := (nI 0)) f_RL_digestGovernesses_52 rfl ?_
    refine x_cV1i f_RL_digestGovernesses_53 rfl rfl (by decide) (Nat.le_of_ble_eq_true rfl) (Nat.le_of_ble_eq_true rfl) rfl (c_told (plD_lt hI g 2) (by omega) hs (by omega) ⟨_, rfl, ?_⟩)
    refine x_i2l f_RL_digestGovernesses_56 ?_
    refine x_cS2l f_RL_digestGovernesses_57 (by decide) (Nat.le_of_ble_eq_true rfl) (Nat.le_of_ble_eq_true rfl) rfl (c_RL_mixed ⟨_, rfl, ?_⟩)
    refine x_al0 f_RL_digestGovernesses_60 ?_
    refine x_getR f_RL_digestGovernesses_61 rfl rfl ?_
    refine x_iconst (v := (nI 1)) f_RL_digestGovernesses_64 rfl ?_
    refine x_cV1i f_RL_digestGovernesses_65 rfl rfl (by decide) (Nat.le_of_ble_eq_true rfl) (Nat.le_of_ble_eq_true rfl) rfl (c_told (plD_lt hI g 2) (by omega) hs (by omega) ⟨_, rfl, ?_⟩)
    refine x_i2l f_RL_digestGovernesses_68 ?_
    refine x_cS2l f_RL_digestGovernesses_69 (by decide) (Nat.le_of_ble_eq_true rfl) (Nat.le_of_ble_eq_true rfl) rfl (c_RL_mixed ⟨_, rfl, ?_⟩)
    refine x_ls3 f_RL_digestGovernesses_72 rfl ?_
    refine x_ll3 f_RL_digestGovernesses_73 ?_
    refine x_al0 f_RL_digestGovernesses_74 ?_
    refine x_getR f_RL_digestGovernesses_75 rfl rfl ?_
    refine x_bipush (v := (nI 10)) f_RL_digestGovernesses_78 rfl ?_
    refine x_cV1i f_RL_digestGovernesses_80 rfl rfl (by decide) (Nat.le_of_ble_eq_true rfl) (Nat.le_of_ble_eq_true rfl) rfl (c_told (plD_lt hI g 2) (by omega) hs (by omega) ⟨_, rfl, ?_⟩)
    refine x_i2l f_RL_digestGovernesses_83 ?_
    refine x_cS2l f_RL_digestGovernesses_84 (by decide) (Nat.le_of_ble_eq_true rfl) (Nat.le_of_ble_eq_true rfl) rfl (c_RL_mixed ⟨_, rfl, ?_⟩)
    refine x_al0 f_RL_digestGovernesses_87 ?_
    refine x_getR f_RL_digestGovernesses_88 rfl rfl ?_
    refine x_bipush (v := (nI 11)) f_RL_digestGovernesses_91 rfl ?_
    refine x_cV1i f_RL_digestGovernesses_93 rfl rfl (by decide) (Nat.le_of_ble_eq_true rfl) (Nat.le_of_ble_eq_true rfl) rfl (c_told (plD_lt hI g 2) (by omega) hs (by omega) ⟨_, rfl, ?_⟩)
    refine x_i2l f_RL_digestGovernesses_96 ?_
    refine x_cS2l f_RL_digestGovernesses_97 (by decide) (Nat.le_of_ble_eq_true rfl) (Nat.le_of_ble_eq_true rfl) rfl (c_RL_mixed ⟨_, rfl, ?_⟩)
    refine x_ls3 f_RL_digestGovernesses_100 rfl ?_
    refine x_incN5 f_RL_digestGovernesses_101 rfl ?_
    refine x_goto f_RL_digestGovernesses_104 ?_
    exact l_RL_dg2 hI M0 hQ M1 (g + 1) (by omega) (RelC_sd hR hs) (frM_trans hf (frM_wide hs.1 (by omega) (by omega)))
termination_by s 1 2 - g
decreasing_by all_goals omega
theorem c_RL_digestGovernesses {M : mM} {h0 : Int64} (hI : Inv s) (hR : RelC s M) (hQ : ∀ M1, RelC s M1 → frM M M1 0 54 → Q M1 (some (.long (foldN (dg2 s) (s 1 2) h0)))) : wp X (d + 9) n_RL_digestGovernesses Q 0 [.ref 0, .long h0, .null, .null, .null, .null] [] M := by
  refine x_ll1 f_RL_digestGovernesses_0 ?_
  refine x_ls3 f_RL_digestGovernesses_1 rfl ?_
  refine x_iconst (v := (nI 0)) f_RL_digestGovernesses_2 rfl ?_
  refine x_is5 f_RL_digestGovernesses_3 rfl ?_
  exact l_RL_dg2 hI M hQ M 0 (by omega) hR (frM_refl _ _ _)
theorem c_RL_digestRiver {M : mM} {h0 : Int64} (hI : Inv s) (hR : RelC s M) (hQ : ∀ M1, RelC s M1 → frM M M1 0 54 → Q M1 (some (.long (dg3 s h0)))) : wp X (d + 9) n_RL_digestRiver Q 0 [.ref 0, .long h0, .null, .null, .null, .null] [] M := by
  have hg3 := (Inv_n hI).2.1
  refine x_al0 f_RL_digestRiver_0 ?_
  refine x_getR f_RL_digestRiver_1 rfl rfl ?_
  refine x_al0 f_RL_digestRiver_4 ?_
  refine x_getR f_RL_digestRiver_5 rfl rfl ?_
  refine x_cV1v f_RL_digestRiver_8 rfl rfl (by decide) (Nat.le_of_ble_eq_true rfl) (Nat.le_of_ble_eq_true rfl) rfl (c_place hI hR (fun M1 hs => ⟨rfl, ?_⟩))
  refine x_ll1 f_RL_digestRiver_11 ?_
  refine x_al0 f_RL_digestRiver_12 ?_
  refine x_getR f_RL_digestRiver_13 rfl rfl ?_
  refine x_iconst (v := (nI 0)) f_RL_digestRiver_16 rfl ?_
  refine x_cV1i f_RL_digestRiver_17 rfl rfl (by decide) (Nat.le_of_ble_eq_true rfl) (Nat.le_of_ble_eq_true rfl) rfl (c_told (pcD_lt hI) (by omega) hs (by omega) ⟨_, rfl, ?_⟩)
  refine x_i2l f_RL_digestRiver_20 ?_
  refine x_cS2l f_RL_digestRiver_21 (by decide) (Nat.le_of_ble_eq_true rfl) (Nat.le_of_ble_eq_true rfl) rfl (c_RL_mixed ⟨_, rfl, ?_⟩)
  refine x_al0 f_RL_digestRiver_24 ?_
  refine x_getR f_RL_digestRiver_25 rfl rfl ?_
  refine x_iconst (v := (nI 1)) f_RL_digestRiver_28 rfl ?_
  refine x_cV1i f_RL_digestRiver_29 rfl rfl (by decide) (Nat.le_of_ble_eq_true rfl) (Nat.le_of_ble_eq_true rfl) rfl (c_told (pcD_lt hI) (by omega) hs (by omega) ⟨_, rfl, ?_⟩)
  refine x_i2l f_RL_digestRiver_32 ?_
  refine x_cS2l f_RL_digestRiver_33 (by decide) (Nat.le_of_ble_eq_true rfl) (Nat.le_of_ble_eq_true rfl) rfl (c_RL_mixed ⟨_, rfl, ?_⟩)
  refine x_ls3 f_RL_digestRiver_36 rfl ?_
  refine x_iconst (v := (nI 0)) f_RL_digestRiver_37 rfl ?_
  refine x_is5 f_RL_digestRiver_38 rfl ?_
  refine x_il5 f_RL_digestRiver_40 ?_
  refine x_iconst (v := (nI 3)) f_RL_digestRiver_42 rfl ?_
  refine x_cmp_geN f_RL_digestRiver_43 (by omega) (by omega) (fun hge => absurd hge (by omega)) (fun _ => ?_)
  refine x_ll3 f_RL_digestRiver_46 ?_
  refine x_al0 f_RL_digestRiver_47 ?_
  refine x_getR f_RL_digestRiver_48 rfl rfl ?_
  refine x_bipush (v := (nI 10)) f_RL_digestRiver_51 rfl ?_
  refine x_il5 f_RL_digestRiver_53 ?_
  first | refine x_iaddN f_RL_digestRiver_55 ?_ | refine x_iadd f_RL_digestRiver_55 ?_
  refine x_cV1i f_RL_digestRiver_56 rfl rfl (by decide) (Nat.le_of_ble_eq_true rfl) (Nat.le_of_ble_eq_true rfl) rfl (c_told (pcD_lt hI) (by omega) hs (by omega) ⟨_, rfl, ?_⟩)
  refine x_i2l f_RL_digestRiver_59 ?_
  refine x_cS2l f_RL_digestRiver_60 (by decide) (Nat.le_of_ble_eq_true rfl) (Nat.le_of_ble_eq_true rfl) rfl (c_RL_mixed ⟨_, rfl, ?_⟩)
  refine x_ls3 f_RL_digestRiver_63 rfl ?_
  refine x_incN5 f_RL_digestRiver_64 rfl ?_
  refine x_goto f_RL_digestRiver_67 ?_
  refine x_il5 f_RL_digestRiver_40 ?_
  refine x_iconst (v := (nI 3)) f_RL_digestRiver_42 rfl ?_
  refine x_cmp_geN f_RL_digestRiver_43 (by omega) (by omega) (fun hge => absurd hge (by omega)) (fun _ => ?_)
  refine x_ll3 f_RL_digestRiver_46 ?_
  refine x_al0 f_RL_digestRiver_47 ?_
  refine x_getR f_RL_digestRiver_48 rfl rfl ?_
  refine x_bipush (v := (nI 10)) f_RL_digestRiver_51 rfl ?_
  refine x_il5 f_RL_digestRiver_53 ?_
  first | refine x_iaddN f_RL_digestRiver_55 ?_ | refine x_iadd f_RL_digestRiver_55 ?_
  refine x_cV1i f_RL_digestRiver_56 rfl rfl (by decide) (Nat.le_of_ble_eq_true rfl) (Nat.le_of_ble_eq_true rfl) rfl (c_told (pcD_lt hI) (by omega) hs (by omega) ⟨_, rfl, ?_⟩)
  refine x_i2l f_RL_digestRiver_59 ?_
  refine x_cS2l f_RL_digestRiver_60 (by decide) (Nat.le_of_ble_eq_true rfl) (Nat.le_of_ble_eq_true rfl) rfl (c_RL_mixed ⟨_, rfl, ?_⟩)
  refine x_ls3 f_RL_digestRiver_63 rfl ?_
  refine x_incN5 f_RL_digestRiver_64 rfl ?_
  refine x_goto f_RL_digestRiver_67 ?_
  refine x_il5 f_RL_digestRiver_40 ?_
  refine x_iconst (v := (nI 3)) f_RL_digestRiver_42 rfl ?_
  refine x_cmp_geN f_RL_digestRiver_43 (by omega) (by omega) (fun hge => absurd hge (by omega)) (fun _ => ?_)
  refine x_ll3 f_RL_digestRiver_46 ?_
  refine x_al0 f_RL_digestRiver_47 ?_
  refine x_getR f_RL_digestRiver_48 rfl rfl ?_
  refine x_bipush (v := (nI 10)) f_RL_digestRiver_51 rfl ?_
  refine x_il5 f_RL_digestRiver_53 ?_
  first | refine x_iaddN f_RL_digestRiver_55 ?_ | refine x_iadd f_RL_digestRiver_55 ?_
  refine x_cV1i f_RL_digestRiver_56 rfl rfl (by decide) (Nat.le_of_ble_eq_true rfl) (Nat.le_of_ble_eq_true rfl) rfl (c_told (pcD_lt hI) (by omega) hs (by omega) ⟨_, rfl, ?_⟩)
  refine x_i2l f_RL_digestRiver_59 ?_
  refine x_cS2l f_RL_digestRiver_60 (by decide) (Nat.le_of_ble_eq_true rfl) (Nat.le_of_ble_eq_true rfl) rfl (c_RL_mixed ⟨_, rfl, ?_⟩)
  refine x_ls3 f_RL_digestRiver_63 rfl ?_
  refine x_incN5 f_RL_digestRiver_64 rfl ?_
  refine x_goto f_RL_digestRiver_67 ?_
  refine x_il5 f_RL_digestRiver_40 ?_
  refine x_iconst (v := (nI 3)) f_RL_digestRiver_42 rfl ?_
  refine x_cmp_geN f_RL_digestRiver_43 (by omega) (by omega) (fun _ => ?_) (fun hlt => absurd hlt (by omega))
  refine x_al0 f_RL_digestRiver_70 ?_
  refine x_getR f_RL_digestRiver_71 rfl rfl ?_
  refine x_al0 f_RL_digestRiver_74 ?_
  refine x_getR f_RL_digestRiver_75 rfl rfl ?_
  refine x_al0 f_RL_digestRiver_78 ?_
  refine x_getR f_RL_digestRiver_79 rfl rfl ?_
  refine x_cV2v f_RL_digestRiver_82 rfl rfl (by decide) (Nat.le_of_ble_eq_true rfl) (Nat.le_of_ble_eq_true rfl) rfl (c_weirs hI (RelC_sd hR hs) (fun M2 r2 f2 w0 w1 => ⟨rfl, ?_⟩))
  refine x_ll3 f_RL_digestRiver_85 ?_
  refine x_al0 f_RL_digestRiver_86 ?_
  refine x_getR f_RL_digestRiver_87 rfl rfl ?_
  refine x_iconst (v := (nI 0)) f_RL_digestRiver_90 rfl ?_
  refine x_cV1i f_RL_digestRiver_91 rfl rfl (by decide) (Nat.le_of_ble_eq_true rfl) (Nat.le_of_ble_eq_true rfl) rfl (c_Weirs_told ⟨_, rfl, ?_⟩)
  rw [if_pos (show nI 0 = (0 : Int32) from rfl), w0]
  refine x_i2l f_RL_digestRiver_94 ?_
  refine x_cS2l f_RL_digestRiver_95 (by decide) (Nat.le_of_ble_eq_true rfl) (Nat.le_of_ble_eq_true rfl) rfl (c_RL_mixed ⟨_, rfl, ?_⟩)
  refine x_al0 f_RL_digestRiver_98 ?_
  refine x_getR f_RL_digestRiver_99 rfl rfl ?_
  refine x_iconst (v := (nI 1)) f_RL_digestRiver_102 rfl ?_
  refine x_cV1i f_RL_digestRiver_103 rfl rfl (by decide) (Nat.le_of_ble_eq_true rfl) (Nat.le_of_ble_eq_true rfl) rfl (c_Weirs_told ⟨_, rfl, ?_⟩)
  rw [if_neg (show ¬ nI 1 = (0 : Int32) by decide), w1]
  refine x_i2l f_RL_digestRiver_106 ?_
  refine x_cS2l f_RL_digestRiver_107 (by decide) (Nat.le_of_ble_eq_true rfl) (Nat.le_of_ble_eq_true rfl) rfl (c_RL_mixed ⟨_, rfl, ?_⟩)
  refine x_lreturn f_RL_digestRiver_110 rfl ?_
  exact hQ M2 r2 (frM_trans (frM_wide hs.1 (by omega) (by omega)) f2)
theorem l_RL_dg5 {h0 : Int64} (hI : Inv s) (hR : RelC s M) (hQ : Q M (some (.long (foldN (dg5 s) 11 h0)))) (w : Nat) (hw : w ≤ 11) : wp X (d + 10) n_RL_digest Q 63 [.ref 0, .long (foldN (dg5 s) w h0), .null, .int (nI w)] [] M := by
  refine x_il3 f_RL_digest_63 ?_
  refine x_bipush (v := (nI 11)) f_RL_digest_64 rfl ?_
  refine x_cmp_geN f_RL_digest_66 (by omega) (by omega) (fun hge => ?_) (fun hlt => ?_)
  · have e : w = 11 := by omega
    subst e
    refine x_ll1 f_RL_digest_86 ?_
    refine x_lreturn f_RL_digest_87 rfl ?_
    exact hQ
  · refine x_ll1 f_RL_digest_69 ?_
    refine x_al0 f_RL_digest_70 ?_
    refine x_il3 f_RL_digest_71 ?_
    refine x_cV1i f_RL_digest_72 rfl rfl (by decide) (Nat.le_of_ble_eq_true rfl) (Nat.le_of_ble_eq_true rfl) rfl (c_RL_countN hI hR hlt ⟨_, rfl, ?_⟩)
    refine x_i2l f_RL_digest_75 ?_
    refine x_cS2l f_RL_digest_76 (by decide) (Nat.le_of_ble_eq_true rfl) (Nat.le_of_ble_eq_true rfl) rfl (c_RL_mixed ⟨_, rfl, ?_⟩)
    refine x_ls1 f_RL_digest_79 rfl ?_
    refine x_incN3 f_RL_digest_80 rfl ?_
    refine x_goto f_RL_digest_83 ?_
    exact l_RL_dg5 hI hR hQ (w + 1) (by omega)
termination_by 11 - w
decreasing_by all_goals omega
theorem l_RL_dg4 {h0 : Int64} (hI : Inv s) (hR : RelC s M) (hQ : Q M (some (.long (foldN (dg5 s) 11 (foldN (dg4 s) (s 1 0) h0))))) (i : Nat) (hi : i ≤ s 1 0) : wp X (d + 10) n_RL_digest Q 29 [.ref 0, .long (foldN (dg4 s) i h0), .null, .int (nI i)] [] M := by
  have hp := hI.1.1
  refine x_il3 f_RL_digest_29 ?_
  refine x_al0 f_RL_digest_30 ?_
  refine x_getR f_RL_digest_31 rfl rfl ?_
  refine x_getIV f_RL_digest_34 rfl rfl (Or.inl rfl) (hR.1.1) ?_
  refine x_cmp_geN f_RL_digest_37 (by omega) (by omega) (fun hge => ?_) (fun hlt => ?_)
  · have e : i = s 1 0 := by omega
    subst e
    refine x_iconst (v := (nI 0)) f_RL_digest_61 rfl ?_
    refine x_is3 f_RL_digest_62 rfl ?_
    exact l_RL_dg5 hI hR hQ 0 (by omega)
  · refine x_ll1 f_RL_digest_40 ?_
    refine x_al0 f_RL_digest_41 ?_
    refine x_getR f_RL_digest_42 rfl rfl ?_
    refine x_getR f_RL_digest_45 rfl rfl ?_
    refine x_il3 f_RL_digest_48 ?_
    refine x_ialdV f_RL_digest_49 rfl (by omega) (hR.1.2 i hlt) ?_
    refine x_i2l f_RL_digest_50 ?_
    refine x_cS2l f_RL_digest_51 (by decide) (Nat.le_of_ble_eq_true rfl) (Nat.le_of_ble_eq_true rfl) rfl (c_RL_mixed ⟨_, rfl, ?_⟩)
    refine x_ls1 f_RL_digest_54 rfl ?_
    refine x_incN3 f_RL_digest_55 rfl ?_
    refine x_goto f_RL_digest_58 ?_
    exact l_RL_dg4 hI hR hQ (i + 1) (by omega)
termination_by s 1 0 - i
decreasing_by all_goals omega
theorem c_RL_digest {M : mM} (hI : Inv s) (hR : RelC s M) (hQ : ∀ M1, RelC s M1 → frM M M1 0 54 → Q M1 (some (.long (dgA s)))) : wp X (d + 10) n_RL_digest Q 0 [.ref 0, .null, .null, .null] [] M := by
  have hn7 := (Inv_n hI).1
  unfold dgA dgH at hQ
  refine x_al0 f_RL_digest_0 ?_
  refine x_ldc2 (v := 1231) f_RL_digest_1 (by decide) ?_
  refine x_cV1l f_RL_digest_4 rfl rfl (by decide) (Nat.le_of_ble_eq_true rfl) (Nat.le_of_ble_eq_true rfl) rfl (c_RL_digestReaches hI hR (fun M1 r1 f1 => ⟨_, rfl, ?_⟩))
  refine x_ls1 f_RL_digest_7 rfl ?_
  refine x_al0 f_RL_digest_8 ?_
  refine x_ll1 f_RL_digest_9 ?_
  refine x_cV1l f_RL_digest_10 rfl rfl (by decide) (Nat.le_of_ble_eq_true rfl) (Nat.le_of_ble_eq_true rfl) rfl (c_RL_digestGovernesses hI r1 (fun M2 r2 f2 => ⟨_, rfl, ?_⟩))
  refine x_ls1 f_RL_digest_13 rfl ?_
  refine x_al0 f_RL_digest_14 ?_
  refine x_cV0i f_RL_digest_15 rfl rfl (by decide) (Nat.le_of_ble_eq_true rfl) (Nat.le_of_ble_eq_true rfl) rfl (c_RL_hasRiver hn7 r2.2.1.1 ⟨_, rfl, ?_⟩)
  by_cases h0 : s 1 1 = 0
  · rw [if_pos h0] at hQ ⊢
    refine x_if_eqN f_RL_digest_18 (by omega) (fun _ => ?_) (fun h => absurd h (by omega))
    refine x_iconst (v := (nI 0)) f_RL_digest_27 rfl ?_
    refine x_is3 f_RL_digest_28 rfl ?_
    have h := l_RL_dg4 (X := X) (d := d) (h0 := foldN (dg2 s) (s 1 2) (foldN (dg1 s) (s 1 1) 1231)) hI r2 (hQ M2 r2 (frM_trans f1 f2)) 0 (by omega)
    rw [foldN_0] at h
    exact h
  · rw [if_neg h0] at hQ ⊢
    refine x_if_eqN f_RL_digest_18 (by omega) (fun h => absurd h (by omega)) (fun _ => ?_)
    refine x_al0 f_RL_digest_21 ?_
    refine x_ll1 f_RL_digest_22 ?_
    refine x_cV1l f_RL_digest_23 rfl rfl (by decide) (Nat.le_of_ble_eq_true rfl) (Nat.le_of_ble_eq_true rfl) rfl (c_RL_digestRiver hI r2 (fun M3 r3 f3 => ⟨_, rfl, ?_⟩))
    refine x_ls1 f_RL_digest_26 rfl ?_
    refine x_iconst (v := (nI 0)) f_RL_digest_27 rfl ?_
    refine x_is3 f_RL_digest_28 rfl ?_
    have h := l_RL_dg4 (X := X) (d := d) (h0 := dg3 s (foldN (dg2 s) (s 1 2) (foldN (dg1 s) (s 1 1) 1231))) hI r3 (hQ M3 r3 (frM_trans f1 (frM_trans f2 f3))) 0 (by omega)
    rw [foldN_0] at h
    exact h
end
