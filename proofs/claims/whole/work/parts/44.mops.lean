/-! the reference: what is done -/
theorem RelM_v {s s2 : St} {M M1 : mM} (h : RelM s M) (hs : ∀ a, a ≠ 2 → a ≠ 3 → a ≠ 4 → a ≠ 6 → s2 a = s a) (hv : MvC M1 (s 1 1) (s 1 2) 57 58 59 61 (s2 2) (s2 3) (s2 4) (s2 6)) (ho : ∀ a i, ((a = 55 ∧ i ≠ 2 ∧ i ≠ 21) ∨ a = 56 ∨ a = 60 ∨ a = 68 ∨ (70 ≤ a ∧ a ≤ 74)) → M1.1 a i = M.1 a i) : RelM s2 M1 := by
  obtain ⟨⟨p1, p2⟩, ⟨a1, a2, a3, a4, a5, a6, a7⟩, v, r, sn, im⟩ := h
  unfold RelM imgN
  rw [hs 0 (by omega) (by omega) (by omega) (by omega), hs 1 (by omega) (by omega) (by omega) (by omega), hs 5 (by omega) (by omega) (by omega) (by omega), hs 7 (by omega) (by omega) (by omega) (by omega), hs 8 (by omega) (by omega) (by omega) (by omega), hs 9 (by omega) (by omega) (by omega) (by omega), hs 10 (by omega) (by omega) (by omega) (by omega), hs 11 (by omega) (by omega) (by omega) (by omega), hs 12 (by omega) (by omega) (by omega) (by omega), hs 13 (by omega) (by omega) (by omega) (by omega), hs 14 (by omega) (by omega) (by omega) (by omega), hs 15 (by omega) (by omega) (by omega) (by omega), hs 16 (by omega) (by omega) (by omega) (by omega)]
  exact ⟨⟨(ho _ _ (by omega)).trans p1, fun i hi => (ho _ _ (by omega)).trans (p2 i hi)⟩, ⟨(ho _ _ (by omega)).trans a1, (ho _ _ (by omega)).trans a2, (ho _ _ (by omega)).trans a3, (ho _ _ (by omega)).trans a4, (ho _ _ (by omega)).trans a5, (ho _ _ (by omega)).trans a6, (ho _ _ (by omega)).trans a7⟩, hv, fun i hi => (ho _ _ (by omega)).trans (r i hi), MsC_o sn (fun i => ho _ _ (by omega)), fun hi => ⟨⟨(ho _ _ (by omega)).trans (im hi).1.1, (ho _ _ (by omega)).trans (im hi).1.2.1, (ho _ _ (by omega)).trans (im hi).1.2.2⟩, MvC_o (im hi).2.1 (fun a i h => ho a i (by omega)), MsC_o (im hi).2.2 (fun i => ho _ _ (by omega))⟩⟩
theorem st_upd {M : mM} {k j v i : Nat} {f : Nat → Nat} (h : M.1 k i = nI (f i)) : (stM M k j (nI v)).1 k i = nI (updN f j v i) := by
  rw [stM_def]
  unfold updN
  by_cases e : i = j
  · rw [if_pos ⟨rfl, e⟩, if_pos e]
  · rw [if_neg (fun z => e z.2), if_neg e]; exact h
section
variable {X : (Nat → Int32) × Nat} {d : Nat} {Q : mM → Option Value → Prop} {M : mM} {s : St}
theorem c_Mo_as {x y : Int32} (hI : Inv s) (hR : RelM s M) (hQ : Q M (some (.int (asA s x y)))) : wp X (d + 3) n_Mo_as Q 0 [.ref 55, .int x, .int y, .null] [] M := by
  have hn7 := (Inv_n hI).1
  unfold asA at hQ
  refine x_al0 f_Mo_as_0 ?_
  refine x_il1 f_Mo_as_1 ?_
  refine x_cV1i f_Mo_as_2 rfl rfl (by decide) (Nat.le_of_ble_eq_true rfl) (Nat.le_of_ble_eq_true rfl) rfl (c_Mo_isReach hn7 hR.2.1.1 ⟨_, rfl, ?_⟩)
  refine x_if_neN f_Mo_as_5 (by have := hasI_le x (s 1 1); omega) (fun hx => ?_) (fun hx => ?_)
  · rw [if_neg (by omega)] at hQ
    refine x_il2 f_Mo_as_11 ?_
    refine x_i2l f_Mo_as_12 ?_
    refine x_lconst (v := 0) f_Mo_as_13 rfl ?_
    refine x_ldc2 (v := 4) f_Mo_as_14 (by decide) ?_
    refine x_cS3i f_Mo_as_17 (by decide) (Nat.le_of_ble_eq_true rfl) (Nat.le_of_ble_eq_true rfl) rfl (c_Mo_in (lo := 0) (hi := ((5 : Nat) : Int) - 1) (by decide) (by decide) ⟨_, rfl, ?_⟩)
    rw [inN_has (by omega)]
    refine x_if_neN f_Mo_as_20 (by have := hasI_le y 5; omega) (fun hy => ?_) (fun hy => ?_)
    · rw [if_neg (by omega)] at hQ
      obtain ⟨j, hj, rfl⟩ := hasI_of (by omega) hx
      obtain ⟨k, hk, rfl⟩ := hasI_of (n := 5) (by omega) hy
      rw [nI_clamp (by omega), nI_clamp (by omega)] at hQ
      have kb := (hI.2.2.2.1.2.1 j hj).1
      unfold asN at hQ
      have hb : brkN (s 2 j) = if s 2 j = 1 ∨ s 2 j = 4 then 1 else 0 := rfl
      refine x_il2 f_Mo_as_26 ?_
      have yes : (k = 0 ∨ k = s 2 j ∨ (k = 1 ∧ brkN (s 2 j) = 1)) → wp X (d + 3) n_Mo_as Q 55 [.ref 55, .int (nI j), .int (nI k), .null] [] M := by
        intro h
        rw [if_pos h] at hQ
        refine x_iconst (v := (nI 1)) f_Mo_as_55 rfl ?_
        refine x_goto f_Mo_as_56 ?_
        refine x_is3 f_Mo_as_60 rfl ?_
        refine x_il3 f_Mo_as_61 ?_
        refine x_if_eqN f_Mo_as_62 (by omega) (fun h => absurd h (by omega)) (fun _ => ?_)
        refine x_il1 f_Mo_as_65 ?_
        refine x_goto f_Mo_as_66 ?_
        refine x_ireturn f_Mo_as_70 rfl ?_
        exact hQ
      have no : ¬ (k = 0 ∨ k = s 2 j ∨ (k = 1 ∧ brkN (s 2 j) = 1)) → wp X (d + 3) n_Mo_as Q 59 [.ref 55, .int (nI j), .int (nI k), .null] [] M := by
        intro h
        rw [if_neg h] at hQ
        refine x_iconst (v := (nI 0)) f_Mo_as_59 rfl ?_
        refine x_is3 f_Mo_as_60 rfl ?_
        refine x_il3 f_Mo_as_61 ?_
        refine x_if_eqN f_Mo_as_62 (by omega) (fun _ => ?_) (fun h => absurd h (by omega))
        refine x_iconst (v := (-1)) f_Mo_as_69 rfl ?_
        refine x_ireturn f_Mo_as_70 rfl ?_
        exact hQ
      refine x_if_eqN f_Mo_as_27 (by omega) (fun h => yes (Or.inl h)) (fun h1 => ?_)
      refine x_il2 f_Mo_as_30 ?_
      refine x_al0 f_Mo_as_31 ?_
      refine x_getR f_Mo_as_32 rfl rfl ?_
      refine x_il1 f_Mo_as_35 ?_
      refine x_ialdV f_Mo_as_36 rfl (by omega) (hR.2.2.1.1 j hj) ?_
      refine x_cmp_eqN f_Mo_as_37 (by omega) (by omega) (fun h => yes (Or.inr (Or.inl h))) (fun h2 => ?_)
      refine x_il2 f_Mo_as_40 ?_
      refine x_iconst (v := (nI 1)) f_Mo_as_41 rfl ?_
      refine x_cmp_neN f_Mo_as_42 (by omega) (by omega) (fun h3 => no (by omega)) (fun h3 => ?_)
      refine x_al0 f_Mo_as_45 ?_
      refine x_getR f_Mo_as_46 rfl rfl ?_
      refine x_il1 f_Mo_as_49 ?_
      refine x_ialdV f_Mo_as_50 rfl (by omega) (hR.2.2.1.1 j hj) ?_
      refine x_iconst (v := (nI 4)) f_Mo_as_51 rfl ?_
      refine x_cmp_neN f_Mo_as_52 (by omega) (by omega) (fun h4 => no (by rw [hb]; split <;> omega)) (fun h4 => yes (Or.inr (Or.inr ⟨h3, by rw [hb, if_pos (by omega)]⟩)))
    · rw [if_pos hy] at hQ
      refine x_bipush (v := (-102)) f_Mo_as_23 rfl ?_
      refine x_ireturn f_Mo_as_25 rfl ?_
      exact hQ
  · rw [if_pos hx] at hQ
    refine x_bipush (v := (-101)) f_Mo_as_8 rfl ?_
    refine x_ireturn f_Mo_as_10 rfl ?_
    exact hQ
theorem c_Mo_governess {x : Int32} (hI : Inv s) (hR : RelM s M) (hQ : Q M (some (.int (gvA s x)))) : wp X (d + 3) n_Mo_governess Q 0 [.ref 55, .int x] [] M := by
  have hg3 := (Inv_n hI).2.1
  unfold gvA at hQ
  refine x_al0 f_Mo_governess_0 ?_
  refine x_il1 f_Mo_governess_1 ?_
  refine x_cV1i f_Mo_governess_2 rfl rfl (by decide) (Nat.le_of_ble_eq_true rfl) (Nat.le_of_ble_eq_true rfl) rfl (c_Mo_isGoverness (by omega) hR.2.1.2.1 ⟨_, rfl, ?_⟩)
  refine x_if_eqN f_Mo_governess_5 (by have := hasI_le x (s 1 2); omega) (fun hx => ?_) (fun hx => ?_)
  · rw [if_pos hx] at hQ
    refine x_bipush (v := (-101)) f_Mo_governess_17 rfl ?_
    refine x_ireturn f_Mo_governess_19 rfl ?_
    exact hQ
  · rw [if_neg (by omega)] at hQ
    obtain ⟨j, hj, rfl⟩ := hasI_of (by omega) hx
    rw [nI_clamp (by omega)] at hQ
    refine x_al0 f_Mo_governess_8 ?_
    refine x_getR f_Mo_governess_9 rfl rfl ?_
    refine x_il1 f_Mo_governess_12 ?_
    refine x_ialdV f_Mo_governess_13 rfl (by omega) (hR.2.2.1.2.2.2 j hj) ?_
    refine x_goto f_Mo_governess_14 ?_
    refine x_ireturn f_Mo_governess_19 rfl ?_
    exact hQ
theorem c_Mo_send {x y : Int32} (hI : Inv s) (hR : RelM s M) (hQ : ∀ M1, RelM (sdS s x y) M1 → frC M M1 → Q M1 (some (.int (sdA s x y)))) : wp X (d + 3) n_Mo_send Q 0 [.ref 55, .int x, .int y, .null] [] M := by
  obtain ⟨hn7, hg3, hmo⟩ := Inv_n hI
  unfold sdA sdS at hQ
  refine x_al0 f_Mo_send_0 ?_
  refine x_il1 f_Mo_send_1 ?_
  refine x_cV1i f_Mo_send_2 rfl rfl (by decide) (Nat.le_of_ble_eq_true rfl) (Nat.le_of_ble_eq_true rfl) rfl (c_Mo_isGoverness (by omega) hR.2.1.2.1 ⟨_, rfl, ?_⟩)
  refine x_if_eqN f_Mo_send_5 (by have := hasI_le x (s 1 2); omega) (fun hx => ?_) (fun hx => ?_)
  · rw [if_pos hx, if_pos hx] at hQ
    refine x_bipush (v := (-101)) f_Mo_send_16 rfl ?_
    refine x_ireturn f_Mo_send_18 rfl ?_
    exact hQ M hR (frC_refl _)
  · rw [if_neg (show ¬ hasI x (s 1 2) = 0 by omega), if_neg (show ¬ hasI x (s 1 2) = 0 by omega)] at hQ
    refine x_al0 f_Mo_send_8 ?_
    refine x_il2 f_Mo_send_9 ?_
    refine x_cV1i f_Mo_send_10 rfl rfl (by decide) (Nat.le_of_ble_eq_true rfl) (Nat.le_of_ble_eq_true rfl) rfl (c_Mo_isReach hn7 hR.2.1.1 ⟨_, rfl, ?_⟩)
    refine x_if_neN f_Mo_send_13 (by have := hasI_le y (s 1 1); omega) (fun hy => ?_) (fun hy => ?_)
    · rw [if_neg (show ¬ hasI y (s 1 1) = 0 by omega), if_neg (show ¬ hasI y (s 1 1) = 0 by omega)] at hQ
      obtain ⟨j, hj, rfl⟩ := hasI_of (by omega) hx
      obtain ⟨k, hk, rfl⟩ := hasI_of (by omega) hy
      rw [nI_clamp (by omega), nI_clamp (by omega)] at hQ
      refine x_al0 f_Mo_send_19 ?_
      refine x_getR f_Mo_send_20 rfl rfl ?_
      refine x_il1 f_Mo_send_23 ?_
      refine x_ialdV f_Mo_send_24 rfl (by omega) (hR.2.2.1.2.2.2 j hj) ?_
      refine x_is3 f_Mo_send_25 rfl ?_
      refine x_al0 f_Mo_send_26 ?_
      refine x_getR f_Mo_send_27 rfl rfl ?_
      refine x_il1 f_Mo_send_30 ?_
      refine x_il2 f_Mo_send_31 ?_
      refine x_iastN f_Mo_send_32 rfl (by omega) ?_
      refine x_il3 f_Mo_send_33 ?_
      refine x_ireturn f_Mo_send_34 rfl ?_
      obtain ⟨w1, w2, w3, w4⟩ := hR.2.2.1
      exact hQ _ (RelM_v hR (fun a _ _ _ h => if_neg h) ⟨fun i hi => (stM_ne _ _ (by omega)).trans (w1 i hi), fun i hi => (stM_ne _ _ (by omega)).trans (w2 i hi), fun i hi => (stM_ne _ _ (by omega)).trans (w3 i hi), fun i hi => st_upd (w4 i hi)⟩ (fun a i h => stM_ne _ _ (by omega))) (frC_st (frC_refl _) (by omega))
    · rw [if_pos hy, if_pos hy] at hQ
      refine x_bipush (v := (-101)) f_Mo_send_16 rfl ?_
      refine x_ireturn f_Mo_send_18 rfl ?_
      exact hQ M hR (frC_refl _)
theorem c_Mo_rain {x y : Int32} (hI : Inv s) (hR : RelM s M) (hQ : ∀ M1, RelM (raS s x y) M1 → frC M M1 → Q M1 (some (.int (raA s x y)))) : wp X (d + 3) n_Mo_rain Q 0 [.ref 55, .int x, .int y, .null] [] M := by
  have hn7 := (Inv_n hI).1
  unfold raA raS at hQ
  refine x_al0 f_Mo_rain_0 ?_
  refine x_il1 f_Mo_rain_1 ?_
  refine x_cV1i f_Mo_rain_2 rfl rfl (by decide) (Nat.le_of_ble_eq_true rfl) (Nat.le_of_ble_eq_true rfl) rfl (c_Mo_isReach hn7 hR.2.1.1 ⟨_, rfl, ?_⟩)
  refine x_if_neN f_Mo_rain_5 (by have := hasI_le x (s 1 1); omega) (fun hx => ?_) (fun hx => ?_)
  · rw [if_neg (show ¬ hasI x (s 1 1) = 0 by omega), if_neg (show ¬ hasI x (s 1 1) = 0 by omega)] at hQ
    refine x_il2 f_Mo_rain_11 ?_
    refine x_i2l f_Mo_rain_12 ?_
    refine x_lconst (v := 0) f_Mo_rain_13 rfl ?_
    refine x_ldc2 (v := 9) f_Mo_rain_14 (by decide) ?_
    refine x_cS3i f_Mo_rain_17 (by decide) (Nat.le_of_ble_eq_true rfl) (Nat.le_of_ble_eq_true rfl) rfl (c_Mo_in (lo := 0) (hi := ((10 : Nat) : Int) - 1) (by decide) (by decide) ⟨_, rfl, ?_⟩)
    rw [inN_has (by omega)]
    refine x_if_neN f_Mo_rain_20 (by have := hasI_le y 10; omega) (fun hy => ?_) (fun hy => ?_)
    · rw [if_neg (show ¬ hasI y 10 = 0 by omega), if_neg (show ¬ hasI y 10 = 0 by omega)] at hQ
      obtain ⟨j, hj, rfl⟩ := hasI_of (by omega) hx
      obtain ⟨k, hk, rfl⟩ := hasI_of (n := 10) (by omega) hy
      rw [nI_clamp (by omega), nI_clamp (by omega)] at hQ
      refine x_al0 f_Mo_rain_26 ?_
      refine x_getR f_Mo_rain_27 rfl rfl ?_
      refine x_il1 f_Mo_rain_30 ?_
      refine x_ialdV f_Mo_rain_31 rfl (by omega) (hR.2.2.1.2.1 j hj) ?_
      refine x_is3 f_Mo_rain_32 rfl ?_
      refine x_al0 f_Mo_rain_33 ?_
      refine x_getR f_Mo_rain_34 rfl rfl ?_
      refine x_il1 f_Mo_rain_37 ?_
      refine x_il2 f_Mo_rain_38 ?_
      refine x_iastN f_Mo_rain_39 rfl (by omega) ?_
      refine x_il3 f_Mo_rain_40 ?_
      refine x_ireturn f_Mo_rain_41 rfl ?_
      obtain ⟨w1, w2, w3, w4⟩ := hR.2.2.1
      exact hQ _ (RelM_v hR (fun a _ h _ _ => if_neg h) ⟨fun i hi => (stM_ne _ _ (by omega)).trans (w1 i hi), fun i hi => st_upd (w2 i hi), fun i hi => (stM_ne _ _ (by omega)).trans (w3 i hi), fun i hi => (stM_ne _ _ (by omega)).trans (w4 i hi)⟩ (fun a i h => stM_ne _ _ (by omega))) (frC_st (frC_refl _) (by omega))
    · rw [if_pos hy, if_pos hy] at hQ
      refine x_bipush (v := (-102)) f_Mo_rain_23 rfl ?_
      refine x_ireturn f_Mo_rain_25 rfl ?_
      exact hQ M hR (frC_refl _)
  · rw [if_pos hx, if_pos hx] at hQ
    refine x_bipush (v := (-101)) f_Mo_rain_8 rfl ?_
    refine x_ireturn f_Mo_rain_10 rfl ?_
    exact hQ M hR (frC_refl _)
theorem c_Mo_make {x y : Int32} (hI : Inv s) (hR : RelM s M) (hQ : ∀ M1, RelM (mkS s x y) M1 → frC M M1 → Q M1 (some (.int (mkA s x y)))) : wp X (d + 3) n_Mo_make Q 0 [.ref 55, .int x, .int y, .null] [] M := by
  have hn7 := (Inv_n hI).1
  unfold mkA mkS at hQ
  refine x_al0 f_Mo_make_0 ?_
  refine x_il1 f_Mo_make_1 ?_
  refine x_cV1i f_Mo_make_2 rfl rfl (by decide) (Nat.le_of_ble_eq_true rfl) (Nat.le_of_ble_eq_true rfl) rfl (c_Mo_isReach hn7 hR.2.1.1 ⟨_, rfl, ?_⟩)
  refine x_if_neN f_Mo_make_5 (by have := hasI_le x (s 1 1); omega) (fun hx => ?_) (fun hx => ?_)
  · rw [if_neg (show ¬ hasI x (s 1 1) = 0 by omega), if_neg (show ¬ hasI x (s 1 1) = 0 by omega)] at hQ
    refine x_il2 f_Mo_make_11 ?_
    refine x_i2l f_Mo_make_12 ?_
    refine x_lconst (v := 0) f_Mo_make_13 rfl ?_
    refine x_ldc2 (v := 4) f_Mo_make_14 (by decide) ?_
    refine x_cS3i f_Mo_make_17 (by decide) (Nat.le_of_ble_eq_true rfl) (Nat.le_of_ble_eq_true rfl) rfl (c_Mo_in (lo := 0) (hi := ((5 : Nat) : Int) - 1) (by decide) (by decide) ⟨_, rfl, ?_⟩)
    rw [inN_has (by omega)]
    refine x_if_neN f_Mo_make_20 (by have := hasI_le y 5; omega) (fun hy => ?_) (fun hy => ?_)
    · rw [if_neg (show ¬ hasI y 5 = 0 by omega), if_neg (show ¬ hasI y 5 = 0 by omega)] at hQ
      obtain ⟨j, hj, rfl⟩ := hasI_of (by omega) hx
      obtain ⟨k, hk, rfl⟩ := hasI_of (n := 5) (by omega) hy
      rw [nI_clamp (by omega), nI_clamp (by omega)] at hQ
      refine x_al0 f_Mo_make_26 ?_
      refine x_getR f_Mo_make_27 rfl rfl ?_
      refine x_il1 f_Mo_make_30 ?_
      refine x_ialdV f_Mo_make_31 rfl (by omega) (hR.2.2.1.1 j hj) ?_
      refine x_is3 f_Mo_make_32 rfl ?_
      refine x_al0 f_Mo_make_33 ?_
      refine x_getR f_Mo_make_34 rfl rfl ?_
      refine x_il1 f_Mo_make_37 ?_
      refine x_il2 f_Mo_make_38 ?_
      refine x_iastN f_Mo_make_39 rfl (by omega) ?_
      refine x_il3 f_Mo_make_40 ?_
      refine x_ireturn f_Mo_make_41 rfl ?_
      obtain ⟨w1, w2, w3, w4⟩ := hR.2.2.1
      exact hQ _ (RelM_v hR (fun a h _ _ _ => if_neg h) ⟨fun i hi => st_upd (w1 i hi), fun i hi => (stM_ne _ _ (by omega)).trans (w2 i hi), fun i hi => (stM_ne _ _ (by omega)).trans (w3 i hi), fun i hi => (stM_ne _ _ (by omega)).trans (w4 i hi)⟩ (fun a i h => stM_ne _ _ (by omega))) (frC_st (frC_refl _) (by omega))
    · rw [if_pos hy, if_pos hy] at hQ
      refine x_bipush (v := (-102)) f_Mo_make_23 rfl ?_
      refine x_ireturn f_Mo_make_25 rfl ?_
      exact hQ M hR (frC_refl _)
  · rw [if_pos hx, if_pos hx] at hQ
    refine x_bipush (v := (-101)) f_Mo_make_8 rfl ?_
    refine x_ireturn f_Mo_make_10 rfl ?_
    exact hQ M hR (frC_refl _)
theorem c_Mo_spoil {x y : Int32} (hI : Inv s) (hR : RelM s M) (hQ : ∀ M1, RelM (spS s x y) M1 → frC M M1 → Q M1 (some (.int (spA s x y)))) : wp X (d + 3) n_Mo_spoil Q 0 [.ref 55, .int x, .int y, .null] [] M := by
  have hn7 := (Inv_n hI).1
  unfold spA spS at hQ
  refine x_al0 f_Mo_spoil_0 ?_
  refine x_il1 f_Mo_spoil_1 ?_
  refine x_cV1i f_Mo_spoil_2 rfl rfl (by decide) (Nat.le_of_ble_eq_true rfl) (Nat.le_of_ble_eq_true rfl) rfl (c_Mo_isReach hn7 hR.2.1.1 ⟨_, rfl, ?_⟩)
  refine x_if_neN f_Mo_spoil_5 (by have := hasI_le x (s 1 1); omega) (fun hx => ?_) (fun hx => ?_)
  · rw [if_neg (show ¬ hasI x (s 1 1) = 0 by omega), if_neg (show ¬ hasI x (s 1 1) = 0 by omega)] at hQ
    refine x_il2 f_Mo_spoil_11 ?_
    refine x_i2l f_Mo_spoil_12 ?_
    refine x_lconst (v := 0) f_Mo_spoil_13 rfl ?_
    refine x_ldc2 (v := 9) f_Mo_spoil_14 (by decide) ?_
    refine x_cS3i f_Mo_spoil_17 (by decide) (Nat.le_of_ble_eq_true rfl) (Nat.le_of_ble_eq_true rfl) rfl (c_Mo_in (lo := 0) (hi := ((10 : Nat) : Int) - 1) (by decide) (by decide) ⟨_, rfl, ?_⟩)
    rw [inN_has (by omega)]
    refine x_if_neN f_Mo_spoil_20 (by have := hasI_le y 10; omega) (fun hy => ?_) (fun hy => ?_)
    · rw [if_neg (show ¬ hasI y 10 = 0 by omega), if_neg (show ¬ hasI y 10 = 0 by omega)] at hQ
      obtain ⟨j, hj, rfl⟩ := hasI_of (by omega) hx
      obtain ⟨k, hk, rfl⟩ := hasI_of (n := 10) (by omega) hy
      rw [nI_clamp (by omega), nI_clamp (by omega)] at hQ
      refine x_al0 f_Mo_spoil_26 ?_
      refine x_getR f_Mo_spoil_27 rfl rfl ?_
      refine x_il1 f_Mo_spoil_30 ?_
      refine x_ialdV f_Mo_spoil_31 rfl (by omega) (hR.2.2.1.2.2.1 j hj) ?_
      refine x_is3 f_Mo_spoil_32 rfl ?_
      refine x_al0 f_Mo_spoil_33 ?_
      refine x_getR f_Mo_spoil_34 rfl rfl ?_
      refine x_il1 f_Mo_spoil_37 ?_
      refine x_il2 f_Mo_spoil_38 ?_
      refine x_iastN f_Mo_spoil_39 rfl (by omega) ?_
      refine x_il3 f_Mo_spoil_40 ?_
      refine x_ireturn f_Mo_spoil_41 rfl ?_
      obtain ⟨w1, w2, w3, w4⟩ := hR.2.2.1
      exact hQ _ (RelM_v hR (fun a _ _ h _ => if_neg h) ⟨fun i hi => (stM_ne _ _ (by omega)).trans (w1 i hi), fun i hi => (stM_ne _ _ (by omega)).trans (w2 i hi), fun i hi => st_upd (w3 i hi), fun i hi => (stM_ne _ _ (by omega)).trans (w4 i hi)⟩ (fun a i h => stM_ne _ _ (by omega))) (frC_st (frC_refl _) (by omega))
    · rw [if_pos hy, if_pos hy] at hQ
      refine x_bipush (v := (-102)) f_Mo_spoil_23 rfl ?_
      refine x_ireturn f_Mo_spoil_25 rfl ?_
      exact hQ M hR (frC_refl _)
  · rw [if_pos hx, if_pos hx] at hQ
    refine x_bipush (v := (-101)) f_Mo_spoil_8 rfl ?_
    refine x_ireturn f_Mo_spoil_10 rfl ?_
    exact hQ M hR (frC_refl _)
end
