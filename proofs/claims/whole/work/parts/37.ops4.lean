/-! plans, places, weirs -/
section
variable {X : (Nat → Int32) × Nat} {d : Nat} {Q : mM → Option Value → Prop} {M : mM} {s : St}
def plD (s : St) (g m : Nat) : Nat × (Nat → Nat) := dfs (plSc (s 1 1) (s 2) (sW s) (s 4) (s 6) (s 1 2) g (s 1 3) m) (s 1 1) 0 m 0 (fun _ => 0) (0, fun _ => 0)
def pcD (s : St) : Nat × (Nat → Nat) := dfs (pcSc (s 1 1) (s 2) (sW s) (s 4) (s 1 3)) (s 1 1) 1 (s 1 2) 0 (fun _ => 0) (0, fun _ => 0)
def plA (s : St) (x m y : Int32) : Int32 := if hasI x (s 1 2) = 0 then -101 else if m < nI 1 then -102 else if nI 4 < m then -102 else if askN y 4 = 0 then -102 else tellN (plD s x.toNatClampNeg m.toNatClampNeg) m.toNatClampNeg y.toNatClampNeg
def pcA (s : St) (y : Int32) : Int32 := if askN y 3 = 0 then -102 else if s 1 1 = 0 then -103 else tellN (pcD s) (s 1 2) y.toNatClampNeg
def wrD (s : St) : Nat := wfl (clN2 (s 1 1) (s 2) (s 3) (s 4) (s 5)) (2 ^ (s 1 1))
def wrA (s : St) (y : Int32) : Int32 := if hasI y 2 = 0 then -102 else if s 1 1 = 0 then -103 else if y = 0 then hmI (wrD s) else iv (wrD s)
theorem plD_lt (hI : Inv s) (g m : Nat) : (plD s g m).1 < 2 ^ 30 := dfs_lt (plSc_le (Inv_k hI).2.2.1) (Inv_n hI).1 _ _ _ _ (by decide)
theorem pcD_lt (hI : Inv s) : (pcD s).1 < 2 ^ 30 := dfs_lt (pcSc_le (Inv_k hI).2.2.1) (Inv_n hI).1 _ _ _ _ (by decide)
theorem nI_back4 {x : Int32} (h : ¬ x < nI 1) (h2 : ¬ nI 4 < x) : ∃ c, 1 ≤ c ∧ c ≤ 4 ∧ x = nI c := by
  obtain ⟨c, c1, c2, rfl⟩ := nI_back h (fun z => h2 (Int32.lt_trans (by decide : nI 4 < nI 126) z))
  refine ⟨c, c1, ?_, rfl⟩
  rw [Int32.lt_iff_toInt_lt, nI_toInt (by omega), nI_toInt (by omega)] at h2
  omega
theorem RelC_sd {M1 : mM} {m : Nat} {acc : Nat × (Nat → Nat)} (hR : RelC s M) (h : SdC M M1 m acc) : RelC s M1 := RelC_scr hR (fun a i hh => h.1.1 a i (by omega))
theorem c_plan {M : mM} {g m : Nat} (hI : Inv s) (hR : RelC s M) (hg : g < s 1 2) (hm1 : 1 ≤ m) (hm4 : m ≤ 4) (hQ : ∀ M1, SdC M M1 m (plD s g m) → Q M1 none) : wp X (d + 8) n_Search_findPlan Q 0 [.ref 32, .ref 3, .int (nI g), .int (nI m), .null, .null, .null] [] M := by
  obtain ⟨hn7, hg3, hmo⟩ := Inv_n hI
  obtain ⟨kb, fb, zb, rb, wb, ab⟩ := Inv_k hI
  exact c_Search_findPlan hn7 hg3 hm1 hm4 kb (fun i hi => by have := wb i hi; omega) zb (fun i hi => by have := ab i hi; omega) (by omega) hg hR.2.1 hQ
theorem c_place {M : mM} (hI : Inv s) (hR : RelC s M) (hQ : ∀ M1, SdC M M1 (s 1 2) (pcD s) → Q M1 none) : wp X (d + 8) n_Search_findPlaces Q 0 [.ref 32, .ref 3, .null, .null, .null] [] M := by
  obtain ⟨hn7, hg3, hmo⟩ := Inv_n hI
  obtain ⟨kb, fb, zb, rb, wb, ab⟩ := Inv_k hI
  exact c_Search_findPlaces hn7 hg3 kb (fun i hi => by have := wb i hi; omega) zb (by omega) hR.2.1 hQ
theorem c_weirs {M : mM} (hI : Inv s) (hR : RelC s M) (hQ : ∀ M1, RelC s M1 → frM M M1 0 54 → M1.1 54 0 = hmI (wrD s) → M1.1 54 1 = iv (wrD s) → Q M1 none) : wp X (d + 5) n_Weirs_find Q 0 [.ref 54, .ref 3, .ref 17, .null, .null] [] M := by
  obtain ⟨hn7, hg3, hmo⟩ := Inv_n hI
  obtain ⟨kb, fb, zb, rb, wb, ab⟩ := Inv_k hI
  exact c_Weirs_find hn7 kb fb (fun i hi => by have := zb i hi; omega) rb hR.2.1 (fun M1 h1 h2 h3 h4 => hQ M1 (RelC_scr hR (fun a i hh => h1 a i (by omega) (by omega))) ⟨fun a i h => h1 a i (by omega) (by omega), h2⟩ h3 h4)
theorem c_told {M M1 : mM} {m w : Nat} {acc : Nat × (Nat → Nat)} (ha : acc.1 < 2 ^ 30) (hm4 : m ≤ 4) (hs : SdC M M1 m acc) (hw : w = 0 ∨ w = 1 ∨ (10 ≤ w ∧ w < 14)) (hQ : Q M1 (some (.int (tellN acc m w)))) : wp X (d + 1) n_Search_told Q 0 [.ref 32, .int (nI w), .null] [] M1 :=
  c_Search_told ha hs.2.1 hm4 hs.2.2.1 hs.2.2.2 hw hQ
theorem c_RL_plan {x m y : Int32} (hI : Inv s) (hR : RelC s M) (hQ : ∀ M1, RelC s M1 → frM M M1 0 54 → Q M1 (some (.int (plA s x m y)))) : wp X (d + 9) n_RL_plan Q 0 [.ref 0, .int x, .int m, .int y] [] M := by
  obtain ⟨hn7, hg3, hmo⟩ := Inv_n hI
  unfold plA at hQ
  refine x_al0 f_RL_plan_0 ?_
  refine x_getR f_RL_plan_1 rfl rfl ?_
  refine x_il1 f_RL_plan_4 ?_
  refine x_cV1i f_RL_plan_5 rfl rfl (by decide) (Nat.le_of_ble_eq_true rfl) (Nat.le_of_ble_eq_true rfl) rfl (c_River_hasGoverness (Or.inl rfl) hR.2.1.2.1 ⟨_, rfl, ?_⟩)
  refine x_if_neN f_RL_plan_8 (by have := hasI_le x (s 1 2); omega) (fun hx => ?_) (fun hx => ?_)
  · rw [if_neg (by omega)] at hQ
    refine x_il2 f_RL_plan_14 ?_
    refine x_iconst (v := (nI 1)) f_RL_plan_15 rfl ?_
    refine x_cmp_lt f_RL_plan_16 (fun h1 => ?_) (fun h1 => ?_)
    · rw [if_pos h1] at hQ
      refine x_bipush (v := (-102)) f_RL_plan_32 rfl ?_
      refine x_ireturn f_RL_plan_34 rfl ?_
      exact hQ M hR (frM_refl _ _ _)
    · rw [if_neg h1] at hQ
      refine x_il2 f_RL_plan_19 ?_
      refine x_iconst (v := (nI 4)) f_RL_plan_20 rfl ?_
      refine x_cmp_gt f_RL_plan_21 (fun h2 => ?_) (fun h2 => ?_)
      · rw [if_pos h2] at hQ
        refine x_bipush (v := (-102)) f_RL_plan_32 rfl ?_
        refine x_ireturn f_RL_plan_34 rfl ?_
        exact hQ M hR (frM_refl _ _ _)
      · rw [if_neg h2] at hQ
        refine x_il3 f_RL_plan_24 ?_
        refine x_iconst (v := (nI 4)) f_RL_plan_25 rfl ?_
        refine x_cS2i f_RL_plan_26 (by decide) (Nat.le_of_ble_eq_true rfl) (Nat.le_of_ble_eq_true rfl) rfl (c_Search_isAsked ⟨_, rfl, ?_⟩)
        refine x_if_neN f_RL_plan_29 (by have := askN_le y 4; omega) (fun h3 => ?_) (fun h3 => ?_)
        · rw [if_neg (by omega)] at hQ
          obtain ⟨g, hg, rfl⟩ := hasI_of (by omega) hx
          obtain ⟨k, k1, k2, rfl⟩ := nI_back4 h1 h2
          obtain ⟨w, rfl, hw⟩ := askN_of (by omega) h3
          rw [nI_clamp (by omega), nI_clamp (by omega), nI_clamp (by omega)] at hQ
          refine x_al0 f_RL_plan_35 ?_
          refine x_getR f_RL_plan_36 rfl rfl ?_
          refine x_al0 f_RL_plan_39 ?_
          refine x_getR f_RL_plan_40 rfl rfl ?_
          refine x_il1 f_RL_plan_43 ?_
          refine x_il2 f_RL_plan_44 ?_
          refine x_cV3v f_RL_plan_45 rfl rfl (by decide) (Nat.le_of_ble_eq_true rfl) (Nat.le_of_ble_eq_true rfl) rfl (c_plan hI hR hg k1 k2 (fun M1 hs => ⟨rfl, ?_⟩))
          refine x_al0 f_RL_plan_48 ?_
          refine x_getR f_RL_plan_49 rfl rfl ?_
          refine x_il3 f_RL_plan_52 ?_
          refine x_cV1i f_RL_plan_53 rfl rfl (by decide) (Nat.le_of_ble_eq_true rfl) (Nat.le_of_ble_eq_true rfl) rfl (c_told (plD_lt hI g k) k2 hs (by omega) ⟨_, rfl, ?_⟩)
          refine x_ireturn f_RL_plan_56 rfl ?_
          exact hQ M1 (RelC_sd hR hs) (frM_wide hs.1 (by omega) (by omega))
        · rw [if_pos h3] at hQ
          refine x_bipush (v := (-102)) f_RL_plan_32 rfl ?_
          refine x_ireturn f_RL_plan_34 rfl ?_
          exact hQ M hR (frM_refl _ _ _)
  · rw [if_pos hx] at hQ
    refine x_bipush (v := (-101)) f_RL_plan_11 rfl ?_
    refine x_ireturn f_RL_plan_13 rfl ?_
    exact hQ M hR (frM_refl _ _ _)
theorem c_RL_place {y : Int32} (hI : Inv s) (hR : RelC s M) (hQ : ∀ M1, RelC s M1 → frM M M1 0 54 → Q M1 (some (.int (pcA s y)))) : wp X (d + 9) n_RL_place Q 0 [.ref 0, .int y] [] M := by
  obtain ⟨hn7, hg3, hmo⟩ := Inv_n hI
  unfold pcA at hQ
  refine x_il1 f_RL_place_0 ?_
  refine x_iconst (v := (nI 3)) f_RL_place_1 rfl ?_
  refine x_cS2i f_RL_place_2 (by decide) (Nat.le_of_ble_eq_true rfl) (Nat.le_of_ble_eq_true rfl) rfl (c_Search_isAsked ⟨_, rfl, ?_⟩)
  refine x_if_neN f_RL_place_5 (by have := askN_le y 3; omega) (fun h3 => ?_) (fun h3 => ?_)
  · rw [if_neg (by omega)] at hQ
    refine x_al0 f_RL_place_11 ?_
    refine x_cV0i f_RL_place_12 rfl rfl (by decide) (Nat.le_of_ble_eq_true rfl) (Nat.le_of_ble_eq_true rfl) rfl (c_RL_hasRiver hn7 hR.2.1.1 ⟨_, rfl, ?_⟩)
    by_cases h0 : s 1 1 = 0
    · rw [if_pos h0] at hQ ⊢
      refine x_if_neN f_RL_place_15 (by omega) (fun h => absurd h (by omega)) (fun _ => ?_)
      refine x_bipush (v := (-103)) f_RL_place_18 rfl ?_
      refine x_ireturn f_RL_place_20 rfl ?_
      exact hQ M hR (frM_refl _ _ _)
    · rw [if_neg h0] at hQ ⊢
      refine x_if_neN f_RL_place_15 (by omega) (fun _ => ?_) (fun h => absurd h (by omega))
      obtain ⟨w, rfl, hw⟩ := askN_of (by omega) h3
      rw [nI_clamp (by omega)] at hQ
      refine x_al0 f_RL_place_21 ?_
      refine x_getR f_RL_place_22 rfl rfl ?_
      refine x_al0 f_RL_place_25 ?_
      refine x_getR f_RL_place_26 rfl rfl ?_
      refine x_cV1v f_RL_place_29 rfl rfl (by decide) (Nat.le_of_ble_eq_true rfl) (Nat.le_of_ble_eq_true rfl) rfl (c_place hI hR (fun M1 hs => ⟨rfl, ?_⟩))
      refine x_al0 f_RL_place_32 ?_
      refine x_getR f_RL_place_33 rfl rfl ?_
      refine x_il1 f_RL_place_36 ?_
      refine x_cV1i f_RL_place_37 rfl rfl (by decide) (Nat.le_of_ble_eq_true rfl) (Nat.le_of_ble_eq_true rfl) rfl (c_told (pcD_lt hI) (by omega) hs (by omega) ⟨_, rfl, ?_⟩)
      refine x_ireturn f_RL_place_40 rfl ?_
      exact hQ M1 (RelC_sd hR hs) (frM_wide hs.1 (by omega) (by omega))
  · rw [if_pos h3] at hQ
    refine x_bipush (v := (-102)) f_RL_place_8 rfl ?_
    refine x_ireturn f_RL_place_10 rfl ?_
    exact hQ M hR (frM_refl _ _ _)
theorem c_RL_weirs {y : Int32} (hI : Inv s) (hR : RelC s M) (hQ : ∀ M1, RelC s M1 → frM M M1 0 54 → Q M1 (some (.int (wrA s y)))) : wp X (d + 6) n_RL_weirs Q 0 [.ref 0, .int y] [] M := by
  obtain ⟨hn7, hg3, hmo⟩ := Inv_n hI
  unfold wrA at hQ
  have out : hasI y 2 = 0 → wp X (d + 6) n_RL_weirs Q 9 [.ref 0, .int y] [] M := by
    intro hy
    refine x_bipush (v := (-102)) f_RL_weirs_9 rfl ?_
    refine x_ireturn f_RL_weirs_11 rfl ?_
    rw [if_pos hy] at hQ
    exact hQ M hR (frM_refl _ _ _)
  refine x_il1 f_RL_weirs_0 ?_
  refine x_if_lt f_RL_weirs_1 (fun h1 => out (by unfold hasI; rw [if_pos h1])) (fun h1 => ?_)
  refine x_il1 f_RL_weirs_4 ?_
  refine x_iconst (v := (nI 1)) f_RL_weirs_5 rfl ?_
  refine x_cmp_le f_RL_weirs_6 (fun h2 => ?_) (fun h2 => out ?_)
  · have hy : hasI y 2 = 1 := by unfold hasI; rw [if_neg h1, if_neg ((nI_lep (by omega)).mp h2)]
    rw [if_neg (by omega)] at hQ
    refine x_al0 f_RL_weirs_12 ?_
    refine x_cV0i f_RL_weirs_13 rfl rfl (by decide) (Nat.le_of_ble_eq_true rfl) (Nat.le_of_ble_eq_true rfl) rfl (c_RL_hasRiver hn7 hR.2.1.1 ⟨_, rfl, ?_⟩)
    by_cases h0 : s 1 1 = 0
    · rw [if_pos h0] at hQ ⊢
      refine x_if_neN f_RL_weirs_16 (by omega) (fun h => absurd h (by omega)) (fun _ => ?_)
      refine x_bipush (v := (-103)) f_RL_weirs_19 rfl ?_
      refine x_ireturn f_RL_weirs_21 rfl ?_
      exact hQ M hR (frM_refl _ _ _)
    · rw [if_neg h0] at hQ ⊢
      refine x_if_neN f_RL_weirs_16 (by omega) (fun _ => ?_) (fun h => absurd h (by omega))
      refine x_al0 f_RL_weirs_22 ?_
      refine x_getR f_RL_weirs_23 rfl rfl ?_
      refine x_al0 f_RL_weirs_26 ?_
      refine x_getR f_RL_weirs_27 rfl rfl ?_
      refine x_al0 f_RL_weirs_30 ?_
      refine x_getR f_RL_weirs_31 rfl rfl ?_
      refine x_cV2v f_RL_weirs_34 rfl rfl (by decide) (Nat.le_of_ble_eq_true rfl) (Nat.le_of_ble_eq_true rfl) rfl (c_weirs hI hR (fun M1 hr hf w0 w1 => ⟨rfl, ?_⟩))
      refine x_al0 f_RL_weirs_37 ?_
      refine x_getR f_RL_weirs_38 rfl rfl ?_
      refine x_il1 f_RL_weirs_41 ?_
      refine x_cV1i f_RL_weirs_42 rfl rfl (by decide) (Nat.le_of_ble_eq_true rfl) (Nat.le_of_ble_eq_true rfl) rfl (c_Weirs_told ⟨_, rfl, ?_⟩)
      refine x_ireturn f_RL_weirs_45 rfl ?_
      have h := hQ M1 hr hf
      by_cases e : y = 0
      · rw [if_pos e] at h ⊢; rw [w0]; exact h
      · rw [if_neg e] at h ⊢; rw [w1]; exact h
  · unfold hasI
    rw [if_neg h1, if_pos (Decidable.not_not.mp (fun z => h2 ((nI_lep (by omega)).mpr z)))]
end
