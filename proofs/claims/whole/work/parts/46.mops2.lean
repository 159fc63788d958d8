/-! the reference: months, what is seen, images, counts -/
section
variable {X : (Nat → Int32) × Nat} {d : Nat} {Q : mM → Option Value → Prop} {M : mM} {s : St} {n : Nat} {K F Z Rn At : Nat → Nat}
theorem c_Mo_month (hI : Inv s) (hR : RelM s M) (hQ : ∀ M1, RelM (moS s) M1 → frC M M1 → Q M1 (some (.int (moA s)))) : wp X (d + 3) n_Mo_month Q 0 [.ref 55] [] M := by
  obtain ⟨hn7, hg3, hmo⟩ := Inv_n hI
  obtain ⟨kb, fb, zb, rb, wb, ab⟩ := Inv_k hI
  obtain ⟨⟨p1, p2⟩, ⟨a1, a2, a3, a4, a5, a6, a7⟩, ⟨w1, w2, w3, w4⟩, r, sn, im⟩ := id hR
  unfold moA moS at hQ
  refine x_al0 f_Mo_month_0 ?_
  refine x_cV0i f_Mo_month_1 rfl rfl (by decide) (Nat.le_of_ble_eq_true rfl) (Nat.le_of_ble_eq_true rfl) rfl (c_Mo_lacks hn7 a1 ⟨_, rfl, ?_⟩)
  by_cases h0 : s 1 1 = 0
  · rw [if_pos h0, if_pos h0] at hQ
    rw [if_pos h0]
    refine x_if_eqN f_Mo_month_4 (by omega) (fun h => absurd h (by omega)) (fun _ => ?_)
    refine x_bipush (v := (-103)) f_Mo_month_7 rfl ?_
    refine x_ireturn f_Mo_month_9 rfl ?_
    exact hQ M hR (frC_refl _)
  · rw [if_neg h0, if_neg h0] at hQ
    rw [if_neg h0]
    refine x_if_eqN f_Mo_month_4 (by omega) (fun _ => ?_) (fun h => absurd h (by omega))
    refine x_al0 f_Mo_month_10 ?_
    refine x_getIV f_Mo_month_11 rfl rfl (Or.inl rfl) (a3) ?_
    refine x_sipush (v := (nI 999)) f_Mo_month_14 rfl ?_
    refine x_cmp_neN f_Mo_month_17 (by omega) (by omega) (fun h1 => ?_) (fun h1 => ?_)
    · rw [if_neg (show ¬ 999 ≤ s 1 3 by omega), if_neg (show ¬ 999 ≤ s 1 3 by omega)] at hQ
      refine x_al0 f_Mo_month_23 ?_
      refine x_dup f_Mo_month_24 rfl ?_
      refine x_getIV f_Mo_month_25 rfl rfl (Or.inl rfl) (a3) ?_
      refine x_iconst (v := (nI 1)) f_Mo_month_28 rfl ?_
      first | refine x_iaddN f_Mo_month_29 ?_ | refine x_iadd f_Mo_month_29 ?_
      refine x_putI f_Mo_month_30 rfl rfl ?_
      refine x_al0 f_Mo_month_33 ?_
      refine x_cV0v f_Mo_month_34 rfl rfl (by decide) (Nat.le_of_ble_eq_true rfl) (Nat.le_of_ble_eq_true rfl) rfl (c_Mo_begin ⟨rfl, ?_⟩)
      have o1 : ∀ a i, a ≠ 63 → a ≠ 64 → (a ≠ 55 ∨ i ≠ 5) → (crM (crM (stM M 55 5 (nI (s 1 3 + 1))) 59 63 7) 61 64 3).1 a i = M.1 a i := fun a i x1 x2 x3 => by rw [crM_o (by omega), crM_o (by omega), stM_ne _ _ (by omega)]
      have e5 : (crM (crM (stM M 55 5 (nI (s 1 3 + 1))) 59 63 7) 61 64 3).1 55 5 = nI (s 1 3 + 1) := by rw [crM_o (by omega), crM_o (by omega), stM_at]
      have z1 : ∀ i, i < s 1 1 → (crM (crM (stM M 55 5 (nI (s 1 3 + 1))) 59 63 7) 61 64 3).1 63 i = nI (s 4 i) := fun i hi => by rw [crM_o (by omega), crM_at (by omega), stM_ne _ _ (by omega)]; exact w3 i hi
      have t1 : ∀ i, i < s 1 2 → (crM (crM (stM M 55 5 (nI (s 1 3 + 1))) 59 63 7) 61 64 3).1 64 i = nI (s 6 i) := fun i hi => by rw [crM_at (by omega), crM_o (by omega), stM_ne _ _ (by omega)]; exact w4 i hi
      generalize (crM (crM (stM M 55 5 (nI (s 1 3 + 1))) 59 63 7) 61 64 3) = M1 at o1 e5 z1 t1
      refine x_al0 f_Mo_month_37 ?_
      refine x_al0 f_Mo_month_38 ?_
      refine x_getIV f_Mo_month_39 rfl rfl (Or.inl rfl) (e5) ?_
      refine x_cV1v f_Mo_month_42 rfl rfl (by decide) (Nat.le_of_ble_eq_true rfl) (Nat.le_of_ble_eq_true rfl) rfl (c_Mo_goOn (At := s 6) (by omega) ((o1 _ _ (by omega) (by omega) (by omega)).trans a1) hn7 ((o1 _ _ (by omega) (by omega) (by omega)).trans a2) hg3 (fun i hi => (o1 _ _ (by omega) (by omega) (by omega)).trans (w1 i hi)) kb t1 ab z1 zb ⟨rfl, ?_⟩)
      refine x_al0 f_Mo_month_45 ?_
      refine x_getR f_Mo_month_46 rfl rfl ?_
      refine x_al0 f_Mo_month_49 ?_
      refine x_getR f_Mo_month_50 rfl rfl ?_
      refine x_cS2v f_Mo_month_53 (by decide) (Nat.le_of_ble_eq_true rfl) (Nat.le_of_ble_eq_true rfl) rfl (c_Mo_copy (k0 := 63) (k1 := 59) (z := 7) rfl rfl (by omega) (by omega) ⟨rfl, ?_⟩)
      have o2 : ∀ a i, a ≠ 63 → a ≠ 64 → a ≠ 59 → (a ≠ 55 ∨ i ≠ 5) → (crM (wrM M1 63 (s 1 1) (pmN (s 2) (s 4) (s 6) (s 1 2) (s 1 3 + 1))) 63 59 7).1 a i = M.1 a i := fun a i x1 x2 x3 x4 => by rw [crM_o (by omega), wrM_o (by omega)]; exact o1 a i x1 x2 x4
      have e6 : (crM (wrM M1 63 (s 1 1) (pmN (s 2) (s 4) (s 6) (s 1 2) (s 1 3 + 1))) 63 59 7).1 55 5 = nI (s 1 3 + 1) := by rw [crM_o (by omega), wrM_o (by omega)]; exact e5
      have z2 : ∀ i, i < s 1 1 → (crM (wrM M1 63 (s 1 1) (pmN (s 2) (s 4) (s 6) (s 1 2) (s 1 3 + 1))) 63 59 7).1 59 i = nI (pmN (s 2) (s 4) (s 6) (s 1 2) (s 1 3 + 1) i) := fun i hi => by rw [crM_at (by omega), wrM_at hi]
      generalize (crM (wrM M1 63 (s 1 1) (pmN (s 2) (s 4) (s 6) (s 1 2) (s 1 3 + 1))) 63 59 7) = M2 at o2 e6 z2
      refine x_al0 f_Mo_month_56 ?_
      refine x_dup f_Mo_month_57 rfl ?_
      refine x_getIV f_Mo_month_58 rfl rfl (Or.inl rfl) ((o2 _ _ (by omega) (by omega) (by omega) (by omega)).trans a4) ?_
      refine x_al0 f_Mo_month_61 ?_
      refine x_getIV f_Mo_month_62 rfl rfl (Or.inl rfl) ((o2 _ _ (by omega) (by omega) (by omega) (by omega)).trans a2) ?_
      first | refine x_iaddN f_Mo_month_65 ?_ | refine x_iadd f_Mo_month_65 ?_
      refine x_putI f_Mo_month_66 rfl rfl ?_
      refine x_al0 f_Mo_month_69 ?_
      refine x_getIV f_Mo_month_70 rfl rfl (Or.inl rfl) ((stM_ne _ _ (by omega)).trans e6) ?_
      refine x_ireturn f_Mo_month_73 rfl ?_
      have o3 : ∀ a i, a ≠ 63 → a ≠ 64 → a ≠ 59 → (a ≠ 55 ∨ (i ≠ 5 ∧ i ≠ 6)) → (stM M2 55 6 (nI (s 1 4 + s 1 2))).1 a i = M.1 a i := fun a i x1 x2 x3 x4 => (stM_ne _ _ (by omega)).trans (o2 a i x1 x2 x3 (by omega))
      refine hQ _ ?_ (fun a i h => o3 a i (by omega) (by omega) (by omega) (by omega))
      exact ⟨⟨(o3 _ _ (by omega) (by omega) (by omega) (by omega)).trans p1, fun i hi => (o3 _ _ (by omega) (by omega) (by omega) (by omega)).trans (p2 i hi)⟩, ⟨(o3 _ _ (by omega) (by omega) (by omega) (by omega)).trans a1, (o3 _ _ (by omega) (by omega) (by omega) (by omega)).trans a2, (stM_ne _ _ (by omega)).trans e6, stM_at _ _ _ _, (o3 _ _ (by omega) (by omega) (by omega) (by omega)).trans a5, (o3 _ _ (by omega) (by omega) (by omega) (by omega)).trans a6, (o3 _ _ (by omega) (by omega) (by omega) (by omega)).trans a7⟩, ⟨fun i hi => (o3 _ _ (by omega) (by omega) (by omega) (by omega)).trans (w1 i hi), fun i hi => (o3 _ _ (by omega) (by omega) (by omega) (by omega)).trans (w2 i hi), fun i hi => (stM_ne _ _ (by omega)).trans (z2 i hi), fun i hi => (o3 _ _ (by omega) (by omega) (by omega) (by omega)).trans (w4 i hi)⟩, fun i hi => (o3 _ _ (by omega) (by omega) (by omega) (by omega)).trans (r i hi), MsC_o sn (fun i => o3 _ _ (by omega) (by omega) (by omega) (by omega)), fun hi => ⟨⟨(o3 _ _ (by omega) (by omega) (by omega) (by omega)).trans (im hi).1.1, (o3 _ _ (by omega) (by omega) (by omega) (by omega)).trans (im hi).1.2.1, (o3 _ _ (by omega) (by omega) (by omega) (by omega)).trans (im hi).1.2.2⟩, MvC_o (im hi).2.1 (fun a i h => o3 a i (by omega) (by omega) (by omega) (by omega)), MsC_o (im hi).2.2 (fun i => o3 _ _ (by omega) (by omega) (by omega) (by omega))⟩⟩
    · rw [if_pos (show 999 ≤ s 1 3 by omega), if_pos (show 999 ≤ s 1 3 by omega)] at hQ
      refine x_bipush (v := (-104)) f_Mo_month_20 rfl ?_
      refine x_ireturn f_Mo_month_22 rfl ?_
      exact hQ M hR (frC_refl _)
theorem c_Mo_see {x y b : Int32} (hb : b = 0 ∨ b = 1) (hI : Inv s) (hR : RelM s M) (hQ : ∀ M1, RelM (seS s x y b) M1 → frC M M1 → Q M1 (some (.int (seA s x y)))) : wp X (d + 3) n_Mo_see Q 0 [.ref 55, .int x, .int y, .int b] [] M := by
  have hn7 := (Inv_n hI).1
  have hs6 := (Inv_sn hI).1
  obtain ⟨⟨p1, p2⟩, ⟨a1, a2, a3, a4, a5, a6, a7⟩, w, r, sn, im⟩ := id hR
  unfold seA seS at hQ
  refine x_al0 f_Mo_see_0 ?_
  refine x_il1 f_Mo_see_1 ?_
  refine x_cV1i f_Mo_see_2 rfl rfl (by decide) (Nat.le_of_ble_eq_true rfl) (Nat.le_of_ble_eq_true rfl) rfl (c_Mo_isReach hn7 a1 ⟨_, rfl, ?_⟩)
  refine x_if_neN f_Mo_see_5 (by have := hasI_le x (s 1 1); omega) (fun hx => ?_) (fun hx => ?_)
  · rw [if_neg (show ¬ hasI x (s 1 1) = 0 by omega), if_neg (show ¬ hasI x (s 1 1) = 0 by omega)] at hQ
    refine x_il2 f_Mo_see_11 ?_
    refine x_i2l f_Mo_see_12 ?_
    refine x_lconst (v := 0) f_Mo_see_13 rfl ?_
    refine x_ldc2 (v := 20) f_Mo_see_14 (by decide) ?_
    refine x_cS3i f_Mo_see_17 (by decide) (Nat.le_of_ble_eq_true rfl) (Nat.le_of_ble_eq_true rfl) rfl (c_Mo_in (lo := 0) (hi := ((21 : Nat) : Int) - 1) (by decide) (by decide) ⟨_, rfl, ?_⟩)
    rw [inN_has (by omega)]
    refine x_if_neN f_Mo_see_20 (by have := hasI_le y 21; omega) (fun hy => ?_) (fun hy => ?_)
    · rw [if_neg (show ¬ hasI y 21 = 0 by omega), if_neg (show ¬ hasI y 21 = 0 by omega)] at hQ
      refine x_al0 f_Mo_see_26 ?_
      refine x_getIV f_Mo_see_27 rfl rfl (Or.inl rfl) (a6) ?_
      refine x_bipush (v := (nI 6)) f_Mo_see_30 rfl ?_
      refine x_cmp_neN f_Mo_see_32 (by omega) (by omega) (fun h6 => ?_) (fun h6 => ?_)
      · rw [if_neg (show ¬ 6 ≤ s 1 6 by omega), if_neg (show ¬ 6 ≤ s 1 6 by omega)] at hQ
        obtain ⟨j, hj, rfl⟩ := hasI_of (by omega) hx
        obtain ⟨k, hk, rfl⟩ := hasI_of (n := 21) (by omega) hy
        obtain ⟨v, hv, rfl⟩ := b01 hb
        rw [nI_clamp (by omega), nI_clamp (by omega), nI_clamp (by omega)] at hQ
        refine x_al0 f_Mo_see_38 ?_
        refine x_getR f_Mo_see_39 rfl rfl ?_
        refine x_iconst (v := (nI 3)) f_Mo_see_42 rfl ?_
        refine x_al0 f_Mo_see_43 ?_
        refine x_getIV f_Mo_see_44 rfl rfl (Or.inl rfl) (a6) ?_
        first | refine x_imulN f_Mo_see_47 ?_ | refine x_imul f_Mo_see_47 ?_
        refine x_il1 f_Mo_see_48 ?_
        refine x_iastN f_Mo_see_49 rfl (by omega) ?_
        refine x_al0 f_Mo_see_50 ?_
        refine x_getR f_Mo_see_51 rfl rfl ?_
        refine x_iconst (v := (nI 3)) f_Mo_see_54 rfl ?_
        refine x_al0 f_Mo_see_55 ?_
        refine x_getIV f_Mo_see_56 rfl rfl (Or.inl rfl) ((stM_ne _ _ (by omega)).trans a6) ?_
        first | refine x_imulN f_Mo_see_59 ?_ | refine x_imul f_Mo_see_59 ?_
        refine x_iconst (v := (nI 1)) f_Mo_see_60 rfl ?_
        first | refine x_iaddN f_Mo_see_61 ?_ | refine x_iadd f_Mo_see_61 ?_
        refine x_il2 f_Mo_see_62 ?_
        refine x_iastN f_Mo_see_63 rfl (by omega) ?_
        refine x_al0 f_Mo_see_64 ?_
        refine x_getR f_Mo_see_65 rfl rfl ?_
        refine x_iconst (v := (nI 3)) f_Mo_see_68 rfl ?_
        refine x_al0 f_Mo_see_69 ?_
        refine x_getIV f_Mo_see_70 rfl rfl (Or.inl rfl) ((stM_ne _ _ (by omega)).trans ((stM_ne _ _ (by omega)).trans a6)) ?_
        first | refine x_imulN f_Mo_see_73 ?_ | refine x_imul f_Mo_see_73 ?_
        refine x_iconst (v := (nI 2)) f_Mo_see_74 rfl ?_
        first | refine x_iaddN f_Mo_see_75 ?_ | refine x_iadd f_Mo_see_75 ?_
        refine x_il3 f_Mo_see_76 ?_
        have o : ∀ a i, a ≠ 68 → (a ≠ 55 ∨ i ≠ 19) → (stM (stM (stM (stM M 68 (3 * s 1 6) (nI j)) 68 (3 * s 1 6 + 1) (nI k)) 68 (3 * s 1 6 + 2) (nI v)) 55 19 (nI (s 1 6 + 1))).1 a i = M.1 a i := fun a i x1 x2 => by rw [stM_ne _ _ (by omega), stM_ne _ _ (by omega), stM_ne _ _ (by omega), stM_ne _ _ (by omega)]
        have fin : wp X (d + 3) n_Mo_see Q 86 [.ref 55, .int (nI j), .int (nI k), .int (nI v)] [] (stM (stM (stM M 68 (3 * s 1 6) (nI j)) 68 (3 * s 1 6 + 1) (nI k)) 68 (3 * s 1 6 + 2) (nI v)) := by
          refine x_al0 f_Mo_see_86 ?_
          refine x_dup f_Mo_see_87 rfl ?_
          refine x_getIV f_Mo_see_88 rfl rfl (Or.inl rfl) ((stM_ne _ _ (by omega)).trans ((stM_ne _ _ (by omega)).trans ((stM_ne _ _ (by omega)).trans a6))) ?_
          refine x_iconst (v := (nI 1)) f_Mo_see_91 rfl ?_
          first | refine x_iaddN f_Mo_see_92 ?_ | refine x_iadd f_Mo_see_92 ?_
          refine x_putI f_Mo_see_93 rfl rfl ?_
          refine x_al0 f_Mo_see_96 ?_
          refine x_getIV f_Mo_see_97 rfl rfl (Or.inl rfl) (stM_at _ _ _ _) ?_
          refine x_ireturn f_Mo_see_100 rfl ?_
          refine hQ _ ?_ (fun a i h => o a i (by omega) (by omega))
          refine ⟨⟨(o _ _ (by omega) (by omega)).trans p1, fun i hi => (o _ _ (by omega) (by omega)).trans (p2 i hi)⟩, ⟨(o _ _ (by omega) (by omega)).trans a1, (o _ _ (by omega) (by omega)).trans a2, (o _ _ (by omega) (by omega)).trans a3, (o _ _ (by omega) (by omega)).trans a4, (o _ _ (by omega) (by omega)).trans a5, stM_at _ _ _ _, (o _ _ (by omega) (by omega)).trans a7⟩, MvC_o w (fun a i h => o a i (by omega) (by omega)), fun i hi => (o _ _ (by omega) (by omega)).trans (r i hi), fun i hi => ?_, fun hi => ⟨⟨(o _ _ (by omega) (by omega)).trans (im hi).1.1, (o _ _ (by omega) (by omega)).trans (im hi).1.2.1, (o _ _ (by omega) (by omega)).trans (im hi).1.2.2⟩, MvC_o (im hi).2.1 (fun a i h => o a i (by omega) (by omega)), MsC_o (im hi).2.2 (fun i => o _ _ (by omega) (by omega))⟩⟩
          have hi : i < s 1 6 + 1 := hi
          show _ = nI (updN (s 7) (s 1 6) j i) ∧ _ = nI (updN (s 8) (s 1 6) k i) ∧ _ = nI (updN (s 9) (s 1 6) v i)
          unfold updN
          by_cases e : i = s 1 6
          · rw [if_pos e, if_pos e, if_pos e, e]
            refine ⟨?_, ?_, ?_⟩
            · rw [stM_ne _ _ (by omega), stM_ne _ _ (by omega), stM_ne _ _ (by omega), stM_at]
            · rw [stM_ne _ _ (by omega), stM_ne _ _ (by omega), stM_at]
            · rw [stM_ne _ _ (by omega), stM_at]
          · have h := sn i (by omega)
            rw [if_neg e, if_neg e, if_neg e]
            refine ⟨?_, ?_, ?_⟩
            · rw [stM_ne _ _ (by omega), stM_ne _ _ (by omega), stM_ne _ _ (by omega), stM_ne _ _ (by omega)]; exact h.1
            · rw [stM_ne _ _ (by omega), stM_ne _ _ (by omega), stM_ne _ _ (by omega), stM_ne _ _ (by omega)]; exact h.2.1
            · rw [stM_ne _ _ (by omega), stM_ne _ _ (by omega), stM_ne _ _ (by omega), stM_ne _ _ (by omega)]; exact h.2.2
        refine x_if_eqN f_Mo_see_77 (by omega) (fun h => ?_) (fun h => ?_)
        · subst h
          refine x_iconst (v := (nI 0)) f_Mo_see_84 rfl ?_
          refine x_iastN f_Mo_see_85 rfl (by omega) ?_
          exact fin
        · have e : v = 1 := by omega
          subst e
          refine x_iconst (v := (nI 1)) f_Mo_see_80 rfl ?_
          refine x_goto f_Mo_see_81 ?_
          refine x_iastN f_Mo_see_85 rfl (by omega) ?_
          exact fin
      · rw [if_pos (show 6 ≤ s 1 6 by omega), if_pos (show 6 ≤ s 1 6 by omega)] at hQ
        refine x_bipush (v := (-104)) f_Mo_see_35 rfl ?_
        refine x_ireturn f_Mo_see_37 rfl ?_
        exact hQ M hR (frC_refl _)
    · rw [if_pos hy, if_pos hy] at hQ
      refine x_bipush (v := (-102)) f_Mo_see_23 rfl ?_
      refine x_ireturn f_Mo_see_25 rfl ?_
      exact hQ M hR (frC_refl _)
  · rw [if_pos hx, if_pos hx] at hQ
    refine x_bipush (v := (-101)) f_Mo_see_8 rfl ?_
    refine x_ireturn f_Mo_see_10 rfl ?_
    exact hQ M hR (frC_refl _)
theorem c_Mo_forget (hR : RelM s M) (hQ : ∀ M1, RelM (sus s 6 0) M1 → frC M M1 → Q M1 (some (.int (nI (s 1 6))))) : wp X (d + 1) n_Mo_forget Q 0 [.ref 55, .null] [] M := by
  obtain ⟨⟨p1, p2⟩, ⟨a1, a2, a3, a4, a5, a6, a7⟩, w, r, sn, im⟩ := id hR
  refine x_al0 f_Mo_forget_0 ?_
  refine x_getIV f_Mo_forget_1 rfl rfl (Or.inl rfl) (a6) ?_
  refine x_is1 f_Mo_forget_4 rfl ?_
  refine x_al0 f_Mo_forget_5 ?_
  refine x_iconst (v := (nI 0)) f_Mo_forget_6 rfl ?_
  refine x_putI f_Mo_forget_7 rfl rfl ?_
  refine x_il1 f_Mo_forget_10 ?_
  refine x_ireturn f_Mo_forget_11 rfl ?_
  have o : ∀ a i, (a ≠ 55 ∨ i ≠ 19) → (stM M 55 19 (nI 0)).1 a i = M.1 a i := fun a i x2 => stM_ne _ _ (by omega)
  refine hQ _ ?_ (fun a i h => o a i (by omega))
  exact ⟨⟨(o _ _ (by omega)).trans p1, fun i hi => (o _ _ (by omega)).trans (p2 i hi)⟩, ⟨(o _ _ (by omega)).trans a1, (o _ _ (by omega)).trans a2, (o _ _ (by omega)).trans a3, (o _ _ (by omega)).trans a4, (o _ _ (by omega)).trans a5, stM_at _ _ _ _, (o _ _ (by omega)).trans a7⟩, MvC_o w (fun a i h => o a i (by omega)), fun i hi => (o _ _ (by omega)).trans (r i hi), fun i hi => absurd hi (Nat.not_lt_zero i), fun hi => ⟨⟨(o _ _ (by omega)).trans (im hi).1.1, (o _ _ (by omega)).trans (im hi).1.2.1, (o _ _ (by omega)).trans (im hi).1.2.2⟩, MvC_o (im hi).2.1 (fun a i h => o a i (by omega)), MsC_o (im hi).2.2 (fun i => o _ _ (by omega))⟩⟩
theorem c_Mo_image (hI : Inv s) (hR : RelM s M) (hQ : ∀ M1, RelM (imS s) M1 → frC M M1 → Q M1 (some (.int (imA s)))) : wp X (d + 2) n_Mo_image Q 0 [.ref 55] [] M := by
  obtain ⟨hn7, hg3, hmo⟩ := Inv_n hI
  have hs6 := (Inv_sn hI).1
  obtain ⟨⟨p1, p2⟩, ⟨a1, a2, a3, a4, a5, a6, a7⟩, ⟨w1, w2, w3, w4⟩, r, sn, im⟩ := id hR
  unfold imA imS at hQ
  refine x_al0 f_Mo_image_0 ?_
  refine x_cV0i f_Mo_image_1 rfl rfl (by decide) (Nat.le_of_ble_eq_true rfl) (Nat.le_of_ble_eq_true rfl) rfl (c_Mo_lacks hn7 a1 ⟨_, rfl, ?_⟩)
  by_cases h0 : s 1 1 = 0
  · rw [if_pos h0, if_pos h0] at hQ
    rw [if_pos h0]
    refine x_if_eqN f_Mo_image_4 (by omega) (fun h => absurd h (by omega)) (fun _ => ?_)
    refine x_bipush (v := (-103)) f_Mo_image_7 rfl ?_
    refine x_ireturn f_Mo_image_9 rfl ?_
    exact hQ M hR (frC_refl _)
  · rw [if_neg h0, if_neg h0] at hQ
    rw [if_neg h0]
    refine x_if_eqN f_Mo_image_4 (by omega) (fun _ => ?_) (fun h => absurd h (by omega))
    refine x_al0 f_Mo_image_10 ?_
    refine x_getR f_Mo_image_11 rfl rfl ?_
    refine x_al0 f_Mo_image_14 ?_
    refine x_getR f_Mo_image_15 rfl rfl ?_
    refine x_cS2v f_Mo_image_18 (by decide) (Nat.le_of_ble_eq_true rfl) (Nat.le_of_ble_eq_true rfl) rfl (c_Mo_copy (k0 := 57) (k1 := 70) (z := 7) rfl rfl (by omega) (by omega) ⟨rfl, ?_⟩)
    refine x_al0 f_Mo_image_21 ?_
    refine x_getR f_Mo_image_22 rfl rfl ?_
    refine x_al0 f_Mo_image_25 ?_
    refine x_getR f_Mo_image_26 rfl rfl ?_
    refine x_cS2v f_Mo_image_29 (by decide) (Nat.le_of_ble_eq_true rfl) (Nat.le_of_ble_eq_true rfl) rfl (c_Mo_copy (k0 := 58) (k1 := 71) (z := 7) rfl rfl (by omega) (by omega) ⟨rfl, ?_⟩)
    refine x_al0 f_Mo_image_32 ?_
    refine x_getR f_Mo_image_33 rfl rfl ?_
    refine x_al0 f_Mo_image_36 ?_
    refine x_getR f_Mo_image_37 rfl rfl ?_
    refine x_cS2v f_Mo_image_40 (by decide) (Nat.le_of_ble_eq_true rfl) (Nat.le_of_ble_eq_true rfl) rfl (c_Mo_copy (k0 := 59) (k1 := 72) (z := 7) rfl rfl (by omega) (by omega) ⟨rfl, ?_⟩)
    refine x_al0 f_Mo_image_43 ?_
    refine x_getR f_Mo_image_44 rfl rfl ?_
    refine x_al0 f_Mo_image_47 ?_
    refine x_getR f_Mo_image_48 rfl rfl ?_
    refine x_cS2v f_Mo_image_51 (by decide) (Nat.le_of_ble_eq_true rfl) (Nat.le_of_ble_eq_true rfl) rfl (c_Mo_copy (k0 := 61) (k1 := 73) (z := 3) rfl rfl (by omega) (by omega) ⟨rfl, ?_⟩)
    refine x_al0 f_Mo_image_54 ?_
    refine x_getR f_Mo_image_55 rfl rfl ?_
    refine x_al0 f_Mo_image_58 ?_
    refine x_getR f_Mo_image_59 rfl rfl ?_
    refine x_cS2v f_Mo_image_62 (by decide) (Nat.le_of_ble_eq_true rfl) (Nat.le_of_ble_eq_true rfl) rfl (c_Mo_copy (k0 := 68) (k1 := 74) (z := 18) rfl rfl (by omega) (by omega) ⟨rfl, ?_⟩)
    have o : ∀ a i, a < 70 → (crM (crM (crM (crM (crM M 57 70 7) 58 71 7) 59 72 7) 61 73 3) 68 74 18).1 a i = M.1 a i := fun a i h => by rw [crM_o (by omega), crM_o (by omega), crM_o (by omega), crM_o (by omega), crM_o (by omega)]
    have c0 : ∀ i, i < 7 → (crM (crM (crM (crM (crM M 57 70 7) 58 71 7) 59 72 7) 61 73 3) 68 74 18).1 70 i = M.1 57 i := fun i h => by rw [crM_o (by omega), crM_o (by omega), crM_o (by omega), crM_o (by omega), crM_at h]
    have c1 : ∀ i, i < 7 → (crM (crM (crM (crM (crM M 57 70 7) 58 71 7) 59 72 7) 61 73 3) 68 74 18).1 71 i = M.1 58 i := fun i h => by rw [crM_o (by omega), crM_o (by omega), crM_o (by omega), crM_at h, crM_o (by omega)]
    have c2 : ∀ i, i < 7 → (crM (crM (crM (crM (crM M 57 70 7) 58 71 7) 59 72 7) 61 73 3) 68 74 18).1 72 i = M.1 59 i := fun i h => by rw [crM_o (by omega), crM_o (by omega), crM_at h, crM_o (by omega), crM_o (by omega)]
    have c3 : ∀ i, i < 3 → (crM (crM (crM (crM (crM M 57 70 7) 58 71 7) 59 72 7) 61 73 3) 68 74 18).1 73 i = M.1 61 i := fun i h => by rw [crM_o (by omega), crM_at h, crM_o (by omega), crM_o (by omega), crM_o (by omega)]
    have c4 : ∀ i, i < 18 → (crM (crM (crM (crM (crM M 57 70 7) 58 71 7) 59 72 7) 61 73 3) 68 74 18).1 74 i = M.1 68 i := fun i h => by rw [crM_at h, crM_o (by omega), crM_o (by omega), crM_o (by omega), crM_o (by omega)]
    generalize (crM (crM (crM (crM (crM M 57 70 7) 58 71 7) 59 72 7) 61 73 3) 68 74 18) = M1 at o c0 c1 c2 c3 c4
    refine x_al0 f_Mo_image_65 ?_
    refine x_al0 f_Mo_image_66 ?_
    refine x_getIV f_Mo_image_67 rfl rfl (Or.inl rfl) ((o _ _ (by omega)).trans a3) ?_
    refine x_putI f_Mo_image_70 rfl rfl ?_
    refine x_al0 f_Mo_image_73 ?_
    refine x_al0 f_Mo_image_74 ?_
    refine x_getIV f_Mo_image_75 rfl rfl (Or.inl rfl) ((stM_ne _ _ (by omega)).trans ((o _ _ (by omega)).trans a4)) ?_
    refine x_putI f_Mo_image_78 rfl rfl ?_
    refine x_al0 f_Mo_image_81 ?_
    refine x_al0 f_Mo_image_82 ?_
    refine x_getIV f_Mo_image_83 rfl rfl (Or.inl rfl) ((stM_ne _ _ (by omega)).trans ((stM_ne _ _ (by omega)).trans ((o _ _ (by omega)).trans a6))) ?_
    refine x_putI f_Mo_image_86 rfl rfl ?_
    refine x_al0 f_Mo_image_89 ?_
    refine x_al0 f_Mo_image_90 ?_
    refine x_getIV f_Mo_image_91 rfl rfl (Or.inl rfl) ((stM_ne _ _ (by omega)).trans ((stM_ne _ _ (by omega)).trans ((stM_ne _ _ (by omega)).trans ((o _ _ (by omega)).trans a5)))) ?_
    refine x_putI f_Mo_image_94 rfl rfl ?_
    have o2 : ∀ a i, (a ≠ 55 ∨ (i < 23 ∨ 26 < i)) → (stM (stM (stM (stM M1 55 24 (nI (s 1 3))) 55 25 (nI (s 1 4))) 55 26 (nI (s 1 6))) 55 23 (nI (s 1 5))).1 a i = M1.1 a i := fun a i h => by rw [stM_ne _ _ (by omega), stM_ne _ _ (by omega), stM_ne _ _ (by omega), stM_ne _ _ (by omega)]
    have o3 : ∀ a i, a < 70 → (a ≠ 55 ∨ (i < 23 ∨ 26 < i)) → (stM (stM (stM (stM M1 55 24 (nI (s 1 3))) 55 25 (nI (s 1 4))) 55 26 (nI (s 1 6))) 55 23 (nI (s 1 5))).1 a i = M.1 a i := fun a i x1 x2 => (o2 a i x2).trans (o a i x1)
    refine x_al0 f_Mo_image_97 ?_
    refine x_getIV f_Mo_image_98 rfl rfl (Or.inl rfl) ((o3 _ _ (by omega) (by omega)).trans a3) ?_
    refine x_ireturn f_Mo_image_101 rfl ?_
    refine hQ _ ?_ (fun a i h => o3 a i (by omega) (by omega))
    refine ⟨⟨(o3 _ _ (by omega) (by omega)).trans p1, fun i hi => (o3 _ _ (by omega) (by omega)).trans (p2 i hi)⟩, ⟨(o3 _ _ (by omega) (by omega)).trans a1, (o3 _ _ (by omega) (by omega)).trans a2, (o3 _ _ (by omega) (by omega)).trans a3, (o3 _ _ (by omega) (by omega)).trans a4, (o3 _ _ (by omega) (by omega)).trans a5, (o3 _ _ (by omega) (by omega)).trans a6, stM_at _ _ _ _⟩, MvC_o ⟨w1, w2, w3, w4⟩ (fun a i h => o3 a i (by omega) (by omega)), fun i hi => (o3 _ _ (by omega) (by omega)).trans (r i hi), MsC_o sn (fun i => o3 _ _ (by omega) (by omega)), fun _ => ⟨⟨?_, ?_, ?_⟩, ⟨fun i hi => (o2 _ _ (by omega)).trans ((c0 i (by have hi : i < s 1 1 := hi; omega)).trans (w1 i hi)), fun i hi => (o2 _ _ (by omega)).trans ((c1 i (by have hi : i < s 1 1 := hi; omega)).trans (w2 i hi)), fun i hi => (o2 _ _ (by omega)).trans ((c2 i (by have hi : i < s 1 1 := hi; omega)).trans (w3 i hi)), fun i hi => (o2 _ _ (by omega)).trans ((c3 i (by have hi : i < s 1 2 := hi; omega)).trans (w4 i hi))⟩, fun i hi => ?_⟩⟩
    · rw [stM_ne _ _ (by omega), stM_ne _ _ (by omega), stM_ne _ _ (by omega), stM_at]; rfl
    · rw [stM_ne _ _ (by omega), stM_ne _ _ (by omega), stM_at]; rfl
    · rw [stM_ne _ _ (by omega), stM_at]; rfl
    · have hi : i < s 1 6 := hi
      have h := sn i hi
      exact ⟨(o2 _ _ (by omega)).trans ((c4 _ (by omega)).trans h.1), (o2 _ _ (by omega)).trans ((c4 _ (by omega)).trans h.2.1), (o2 _ _ (by omega)).trans ((c4 _ (by omega)).trans h.2.2)⟩
theorem c_Mo_restore (hI : Inv s) (hR : RelM s M) (hQ : ∀ M1, RelM (rsS s) M1 → frC M M1 → Q M1 (some (.int (rsA s)))) : wp X (d + 2) n_Mo_restore Q 0 [.ref 55] [] M := by
  obtain ⟨hn7, hg3, hmo⟩ := Inv_n hI
  obtain ⟨⟨p1, p2⟩, ⟨a1, a2, a3, a4, a5, a6, a7⟩, w, r, sn, im⟩ := id hR
  have i7 := hI.2.2.2.2.2.1
  have i5 := hI.2.2.2.2.2.2.1
  unfold rsA rsS at hQ
  have hg : imgN s = if s 1 7 = s 1 5 + 1 then 1 else 0 := rfl
  refine x_al0 f_Mo_restore_0 ?_
  refine x_getIV f_Mo_restore_1 rfl rfl (Or.inl rfl) (a7) ?_
  refine x_al0 f_Mo_restore_4 ?_
  refine x_getIV f_Mo_restore_5 rfl rfl (Or.inl rfl) (a5) ?_
  refine x_cmp_eq f_Mo_restore_8 (fun h => ?_) (fun h => ?_)
  · have h1 := (iv_eq (by omega) (by omega)).mp h
    rw [if_pos h1] at hg
    rw [if_neg (show ¬ imgN s = 0 by omega), if_neg (show ¬ imgN s = 0 by omega)] at hQ
    obtain ⟨⟨k1, k2, k3⟩, ⟨u1, u2, u3, u4⟩, ks⟩ := im hg
    obtain ⟨b1, b2, b3⟩ := hI.2.2.2.2.2.2.2 hg
    have hs6 := b3.1
    refine x_al0 f_Mo_restore_14 ?_
    refine x_getR f_Mo_restore_15 rfl rfl ?_
    refine x_al0 f_Mo_restore_18 ?_
    refine x_getR f_Mo_restore_19 rfl rfl ?_
    refine x_cS2v f_Mo_restore_22 (by decide) (Nat.le_of_ble_eq_true rfl) (Nat.le_of_ble_eq_true rfl) rfl (c_Mo_copy (k0 := 70) (k1 := 57) (z := 7) rfl rfl (by omega) (by omega) ⟨rfl, ?_⟩)
    refine x_al0 f_Mo_restore_25 ?_
    refine x_getR f_Mo_restore_26 rfl rfl ?_
    refine x_al0 f_Mo_restore_29 ?_
    refine x_getR f_Mo_restore_30 rfl rfl ?_
    refine x_cS2v f_Mo_restore_33 (by decide) (Nat.le_of_ble_eq_true rfl) (Nat.le_of_ble_eq_true rfl) rfl (c_Mo_copy (k0 := 71) (k1 := 58) (z := 7) rfl rfl (by omega) (by omega) ⟨rfl, ?_⟩)
    refine x_al0 f_Mo_restore_36 ?_
    refine x_getR f_Mo_restore_37 rfl rfl ?_
    refine x_al0 f_Mo_restore_40 ?_
    refine x_getR f_Mo_restore_41 rfl rfl ?_
    refine x_cS2v f_Mo_restore_44 (by decide) (Nat.le_of_ble_eq_true rfl) (Nat.le_of_ble_eq_true rfl) rfl (c_Mo_copy (k0 := 72) (k1 := 59) (z := 7) rfl rfl (by omega) (by omega) ⟨rfl, ?_⟩)
    refine x_al0 f_Mo_restore_47 ?_
    refine x_getR f_Mo_restore_48 rfl rfl ?_
    refine x_al0 f_Mo_restore_51 ?_
    refine x_getR f_Mo_restore_52 rfl rfl ?_
    refine x_cS2v f_Mo_restore_55 (by decide) (Nat.le_of_ble_eq_true rfl) (Nat.le_of_ble_eq_true rfl) rfl (c_Mo_copy (k0 := 73) (k1 := 61) (z := 3) rfl rfl (by omega) (by omega) ⟨rfl, ?_⟩)
    refine x_al0 f_Mo_restore_58 ?_
    refine x_getR f_Mo_restore_59 rfl rfl ?_
    refine x_al0 f_Mo_restore_62 ?_
    refine x_getR f_Mo_restore_63 rfl rfl ?_
    refine x_cS2v f_Mo_restore_66 (by decide) (Nat.le_of_ble_eq_true rfl) (Nat.le_of_ble_eq_true rfl) rfl (c_Mo_copy (k0 := 74) (k1 := 68) (z := 18) rfl rfl (by omega) (by omega) ⟨rfl, ?_⟩)
    have o : ∀ a i, a ≠ 57 → a ≠ 58 → a ≠ 59 → a ≠ 61 → a ≠ 68 → (crM (crM (crM (crM (crM M 70 57 7) 71 58 7) 72 59 7) 73 61 3) 74 68 18).1 a i = M.1 a i := fun a i _ _ _ _ _ => by rw [crM_o (by omega), crM_o (by omega), crM_o (by omega), crM_o (by omega), crM_o (by omega)]
    have c0 : ∀ i, i < 7 → (crM (crM (crM (crM (crM M 70 57 7) 71 58 7) 72 59 7) 73 61 3) 74 68 18).1 57 i = M.1 70 i := fun i h => by rw [crM_o (by omega), crM_o (by omega), crM_o (by omega), crM_o (by omega), crM_at h]
    have c1 : ∀ i, i < 7 → (crM (crM (crM (crM (crM M 70 57 7) 71 58 7) 72 59 7) 73 61 3) 74 68 18).1 58 i = M.1 71 i := fun i h => by rw [crM_o (by omega), crM_o (by omega), crM_o (by omega), crM_at h, crM_o (by omega)]
    have c2 : ∀ i, i < 7 → (crM (crM (crM (crM (crM M 70 57 7) 71 58 7) 72 59 7) 73 61 3) 74 68 18).1 59 i = M.1 72 i := fun i h => by rw [crM_o (by omega), crM_o (by omega), crM_at h, crM_o (by omega), crM_o (by omega)]
    have c3 : ∀ i, i < 3 → (crM (crM (crM (crM (crM M 70 57 7) 71 58 7) 72 59 7) 73 61 3) 74 68 18).1 61 i = M.1 73 i := fun i h => by rw [crM_o (by omega), crM_at h, crM_o (by omega), crM_o (by omega), crM_o (by omega)]
    have c4 : ∀ i, i < 18 → (crM (crM (crM (crM (crM M 70 57 7) 71 58 7) 72 59 7) 73 61 3) 74 68 18).1 68 i = M.1 74 i := fun i h => by rw [crM_at h, crM_o (by omega), crM_o (by omega), crM_o (by omega), crM_o (by omega)]
    generalize (crM (crM (crM (crM (crM M 70 57 7) 71 58 7) 72 59 7) 73 61 3) 74 68 18) = M1 at o c0 c1 c2 c3 c4
    refine x_al0 f_Mo_restore_69 ?_
    refine x_al0 f_Mo_restore_70 ?_
    refine x_getIV f_Mo_restore_71 rfl rfl (Or.inl rfl) ((o _ _ (by omega) (by omega) (by omega) (by omega) (by omega)).trans k1) ?_
    refine x_putI f_Mo_restore_74 rfl rfl ?_
    refine x_al0 f_Mo_restore_77 ?_
    refine x_al0 f_Mo_restore_78 ?_
    refine x_getIV f_Mo_restore_79 rfl rfl (Or.inl rfl) ((stM_ne _ _ (by omega)).trans ((o _ _ (by omega) (by omega) (by omega) (by omega) (by omega)).trans k2)) ?_
    refine x_putI f_Mo_restore_82 rfl rfl ?_
    refine x_al0 f_Mo_restore_85 ?_
    refine x_al0 f_Mo_restore_86 ?_
    refine x_getIV f_Mo_restore_87 rfl rfl (Or.inl rfl) ((stM_ne _ _ (by omega)).trans ((stM_ne _ _ (by omega)).trans ((o _ _ (by omega) (by omega) (by omega) (by omega) (by omega)).trans k3))) ?_
    refine x_putI f_Mo_restore_90 rfl rfl ?_
    have o2 : ∀ a i, (a ≠ 55 ∨ (i ≠ 5 ∧ i ≠ 6 ∧ i ≠ 19)) → (stM (stM (stM M1 55 5 (nI (s 1 8))) 55 6 (nI (s 1 9))) 55 19 (nI (s 1 10))).1 a i = M1.1 a i := fun a i h => by rw [stM_ne _ _ (by omega), stM_ne _ _ (by omega), stM_ne _ _ (by omega)]
    have e5 : (stM (stM (stM M1 55 5 (nI (s 1 8))) 55 6 (nI (s 1 9))) 55 19 (nI (s 1 10))).1 55 5 = nI (s 1 8) := by rw [stM_ne _ _ (by omega), stM_ne _ _ (by omega), stM_at]
    have e6 : (stM (stM (stM M1 55 5 (nI (s 1 8))) 55 6 (nI (s 1 9))) 55 19 (nI (s 1 10))).1 55 6 = nI (s 1 9) := by rw [stM_ne _ _ (by omega), stM_at]
    have o3 : ∀ a i, a ≠ 57 → a ≠ 58 → a ≠ 59 → a ≠ 61 → a ≠ 68 → (a ≠ 55 ∨ (i ≠ 5 ∧ i ≠ 6 ∧ i ≠ 19)) → (stM (stM (stM M1 55 5 (nI (s 1 8))) 55 6 (nI (s 1 9))) 55 19 (nI (s 1 10))).1 a i = M.1 a i := fun a i x1 x2 x3 x4 x5 x6 => (o2 a i x6).trans (o a i x1 x2 x3 x4 x5)
    refine x_al0 f_Mo_restore_93 ?_
    refine x_getIV f_Mo_restore_94 rfl rfl (Or.inl rfl) (e5) ?_
    refine x_ireturn f_Mo_restore_97 rfl ?_
    refine hQ _ ?_ (fun a i h => o3 a i (by omega) (by omega) (by omega) (by omega) (by omega) (by omega))
    refine ⟨⟨(o3 _ _ (by omega) (by omega) (by omega) (by omega) (by omega) (by omega)).trans p1, fun i hi => (o3 _ _ (by omega) (by omega) (by omega) (by omega) (by omega) (by omega)).trans (p2 i hi)⟩, ⟨(o3 _ _ (by omega) (by omega) (by omega) (by omega) (by omega) (by omega)).trans a1, (o3 _ _ (by omega) (by omega) (by omega) (by omega) (by omega) (by omega)).trans a2, e5, e6, (o3 _ _ (by omega) (by omega) (by omega) (by omega) (by omega) (by omega)).trans a5, stM_at _ _ _ _, (o3 _ _ (by omega) (by omega) (by omega) (by omega) (by omega) (by omega)).trans a7⟩, ⟨fun i hi => (o2 _ _ (by omega)).trans ((c0 i (by have hi : i < s 1 1 := hi; omega)).trans (u1 i hi)), fun i hi => (o2 _ _ (by omega)).trans ((c1 i (by have hi : i < s 1 1 := hi; omega)).trans (u2 i hi)), fun i hi => (o2 _ _ (by omega)).trans ((c2 i (by have hi : i < s 1 1 := hi; omega)).trans (u3 i hi)), fun i hi => (o2 _ _ (by omega)).trans ((c3 i (by have hi : i < s 1 2 := hi; omega)).trans (u4 i hi))⟩, fun i hi => (o3 _ _ (by omega) (by omega) (by omega) (by omega) (by omega) (by omega)).trans (r i hi), fun i hi => ?_, fun _ => ⟨⟨(o3 _ _ (by omega) (by omega) (by omega) (by omega) (by omega) (by omega)).trans k1, (o3 _ _ (by omega) (by omega) (by omega) (by omega) (by omega) (by omega)).trans k2, (o3 _ _ (by omega) (by omega) (by omega) (by omega) (by omega) (by omega)).trans k3⟩, MvC_o ⟨u1, u2, u3, u4⟩ (fun a i h => o3 a i (by omega) (by omega) (by omega) (by omega) (by omega) (by omega)), MsC_o ks (fun i => o3 _ _ (by omega) (by omega) (by omega) (by omega) (by omega) (by omega))⟩⟩
    have hi : i < s 1 10 := hi
    have h := ks i hi
    exact ⟨(o2 _ _ (by omega)).trans ((c4 _ (by omega)).trans h.1), (o2 _ _ (by omega)).trans ((c4 _ (by omega)).trans h.2.1), (o2 _ _ (by omega)).trans ((c4 _ (by omega)).trans h.2.2)⟩
  · have h1 : ¬ s 1 7 = s 1 5 + 1 := fun z => h ((iv_eq (by omega) (by omega)).mpr z)
    rw [if_neg h1] at hg
    rw [if_pos hg, if_pos hg] at hQ
    refine x_bipush (v := (-103)) f_Mo_restore_11 rfl ?_
    refine x_ireturn f_Mo_restore_13 rfl ?_
    exact hQ M hR (frC_refl _)
theorem l_Mo_toSea {W : Nat → Nat} (hn : M.1 55 3 = nI n) (hn7 : n ≤ 7) (hK : ∀ i, i < n → M.1 57 i = nI (K i)) (hKb : ∀ i, i < n → K i < 10) (hW : ∀ i, i < n → M.1 62 i = nI (W i)) (hWb : ∀ i, i < n → W i < 100000) (hR : ∀ i, i < n → M.1 60 i = iv (Rn i)) (hRb : ∀ i, i < n → Rn i ≤ i) (hQ : Q M (some (.int (nI (seaN K W Rn n))))) (i : Nat) (hi : i ≤ n) : wp X (d + 3) n_Mo_toSea Q 8 [.ref 55, .int (nI (seaN K W Rn i)), .int (nI i)] [] M := by
  have e1 : seaN K W Rn (i + 1) = seaN K W Rn i + if Rn i = 0 then outN (K i) (W i) else 0 := rfl
  refine x_il2 f_Mo_toSea_8 ?_
  refine x_al0 f_Mo_toSea_9 ?_
  refine x_getIV f_Mo_toSea_10 rfl rfl (Or.inl rfl) (hn) ?_
  refine x_cmp_geN f_Mo_toSea_13 (by omega) (by omega) (fun h => ?_) (fun h => ?_)
  · have e : i = n := by omega
    subst e
    refine x_il1 f_Mo_toSea_54 ?_
    refine x_ireturn f_Mo_toSea_55 rfl ?_
    exact hQ
  · have hr := hRb i h
    have hh := l_Mo_toSea hn hn7 hK hKb hW hWb hR hRb hQ (i + 1) (by omega)
    refine x_il1 f_Mo_toSea_16 ?_
    refine x_al0 f_Mo_toSea_17 ?_
    refine x_getR f_Mo_toSea_18 rfl rfl ?_
    refine x_il2 f_Mo_toSea_21 ?_
    refine x_ialdV f_Mo_toSea_22 rfl (by omega) (hR i h) ?_
    refine x_iconst (v := (-1)) f_Mo_toSea_23 rfl ?_
    refine x_cmp_ne f_Mo_toSea_24 (fun h1 => ?_) (fun h1 => ?_)
    · have h0 : ¬ Rn i = 0 := fun z => h1 ((iv_eqm1 (by omega)).mpr z)
      rw [e1, if_neg h0] at hh
      refine x_iconst (v := (nI 0)) f_Mo_toSea_45 rfl ?_
      first | refine x_iaddN f_Mo_toSea_46 ?_ | refine x_iadd f_Mo_toSea_46 ?_
      refine x_is1 f_Mo_toSea_47 rfl ?_
      refine x_incN2 f_Mo_toSea_48 rfl ?_
      refine x_goto f_Mo_toSea_51 ?_
      exact hh
    · have h0 := (iv_eqm1 (by omega)).mp (Decidable.not_not.mp h1)
      rw [e1, if_pos h0] at hh
      refine x_al0 f_Mo_toSea_27 ?_
      refine x_getR f_Mo_toSea_28 rfl rfl ?_
      refine x_il2 f_Mo_toSea_31 ?_
      refine x_ialdV f_Mo_toSea_32 rfl (by omega) (hK i h) ?_
      refine x_al0 f_Mo_toSea_33 ?_
      refine x_getR f_Mo_toSea_34 rfl rfl ?_
      refine x_il2 f_Mo_toSea_37 ?_
      refine x_ialdV f_Mo_toSea_38 rfl (by omega) (hW i h) ?_
      refine x_cS2i f_Mo_toSea_39 (by decide) (Nat.le_of_ble_eq_true rfl) (Nat.le_of_ble_eq_true rfl) rfl (c_Mo_out (hKb i h) (hWb i h) ⟨_, rfl, ?_⟩)
      refine x_goto f_Mo_toSea_42 ?_
      first | refine x_iaddN f_Mo_toSea_46 ?_ | refine x_iadd f_Mo_toSea_46 ?_
      refine x_is1 f_Mo_toSea_47 rfl ?_
      refine x_incN2 f_Mo_toSea_48 rfl ?_
      refine x_goto f_Mo_toSea_51 ?_
      exact hh
termination_by n - i
decreasing_by all_goals omega
theorem c_Mo_toSea {M : mM} (h : MwC M n K F Rn) (hQ : Q (wrM M 62 n (wat n K F Rn)) (some (.int (nI (seaN K (wat n K F Rn) Rn n))))) : wp X (d + 3) n_Mo_toSea Q 0 [.ref 55, .null, .null] [] M := by
  obtain ⟨hn, hn7, hK, hKb, hF, hFb, hR, hRb⟩ := id h
  refine x_al0 f_Mo_toSea_0 ?_
  refine x_cV0v f_Mo_toSea_1 rfl rfl (by decide) (Nat.le_of_ble_eq_true rfl) (Nat.le_of_ble_eq_true rfl) rfl (c_Mo_layWater h ⟨rfl, ?_⟩)
  refine x_iconst (v := (nI 0)) f_Mo_toSea_4 rfl ?_
  refine x_is1 f_Mo_toSea_5 rfl ?_
  refine x_iconst (v := (nI 0)) f_Mo_toSea_6 rfl ?_
  refine x_is2 f_Mo_toSea_7 rfl ?_
  exact l_Mo_toSea ((wrM_o (by omega)).trans hn) hn7 (fun i hi => (wrM_o (by omega)).trans (hK i hi)) hKb (fun i hi => wrM_at hi) (wat_le hn7 hFb) (fun i hi => (wrM_o (by omega)).trans (hR i hi)) hRb hQ 0 (by omega)
theorem c_Mo_countN {M : mM} {w : Nat} (hI : Inv s) (hR : RelM s M) (hw : w < 11) (hQ : ∀ M1, RelM s M1 → frH M M1 → Q M1 (some (.int (nI (cntN s w))))) : wp X (d + 4) n_Mo_countOf Q 0 [.ref 55, .int (nI w)] [] M := by
  obtain ⟨hn7, hg3, hmo⟩ := Inv_n hI
  obtain ⟨kb, fb, zb, rb, wb, ab⟩ := Inv_k hI
  obtain ⟨⟨p1, p2⟩, ⟨a1, a2, a3, a4, a5, a6, a7⟩, ⟨w1, w2, w3, w4⟩, r, sn, im⟩ := id hR
  have q := hQ M hR (frH_refl _)
  have q2 := hQ (wrM M 62 (s 1 1) (sW s)) (RelM_wr hR (by omega)) (frH_wr (frH_refl _) (by omega))
  rcases (show w = 0 ∨ w = 1 ∨ w = 2 ∨ w = 3 ∨ w = 4 ∨ w = 5 ∨ w = 6 ∨ w = 7 ∨ w = 8 ∨ w = 9 ∨ w = 10 by omega) with rfl | rfl | rfl | rfl | rfl | rfl | rfl | rfl | rfl | rfl | rfl
  · refine x_il1 f_Mo_countOf_0 ?_
    refine x_swIn (t := 60) f_Mo_countOf_1 (by decide) (by decide) rfl ?_
    refine x_al0 f_Mo_countOf_60 ?_
    refine x_getIV f_Mo_countOf_61 rfl rfl (Or.inl rfl) (a1) ?_
    refine x_ireturn f_Mo_countOf_64 rfl ?_
    exact q
  · refine x_il1 f_Mo_countOf_0 ?_
    refine x_swIn (t := 65) f_Mo_countOf_1 (by decide) (by decide) rfl ?_
    refine x_al0 f_Mo_countOf_65 ?_
    refine x_getIV f_Mo_countOf_66 rfl rfl (Or.inl rfl) (a2) ?_
    refine x_ireturn f_Mo_countOf_69 rfl ?_
    exact q
  · refine x_il1 f_Mo_countOf_0 ?_
    refine x_swIn (t := 70) f_Mo_countOf_1 (by decide) (by decide) rfl ?_
    refine x_al0 f_Mo_countOf_70 ?_
    refine x_al0 f_Mo_countOf_71 ?_
    refine x_getR f_Mo_countOf_72 rfl rfl ?_
    refine x_cV1i f_Mo_countOf_75 rfl rfl (by decide) (Nat.le_of_ble_eq_true rfl) (Nat.le_of_ble_eq_true rfl) rfl (c_Mo_sumOf (kz := 58) rfl a1 hn7 w2 ⟨_, rfl, ?_⟩)
    refine x_ireturn f_Mo_countOf_78 rfl ?_
    exact q
  · refine x_il1 f_Mo_countOf_0 ?_
    refine x_swIn (t := 79) f_Mo_countOf_1 (by decide) (by decide) rfl ?_
    refine x_al0 f_Mo_countOf_79 ?_
    refine x_al0 f_Mo_countOf_80 ?_
    refine x_getR f_Mo_countOf_81 rfl rfl ?_
    refine x_cV1i f_Mo_countOf_84 rfl rfl (by decide) (Nat.le_of_ble_eq_true rfl) (Nat.le_of_ble_eq_true rfl) rfl (c_Mo_sumOf (kz := 59) rfl a1 hn7 w3 ⟨_, rfl, ?_⟩)
    refine x_ireturn f_Mo_countOf_87 rfl ?_
    exact q
  · refine x_il1 f_Mo_countOf_0 ?_
    refine x_swIn (t := 88) f_Mo_countOf_1 (by decide) (by decide) rfl ?_
    refine x_al0 f_Mo_countOf_88 ?_
    refine x_al0 f_Mo_countOf_89 ?_
    refine x_getR f_Mo_countOf_90 rfl rfl ?_
    refine x_cV1i f_Mo_countOf_93 rfl rfl (by decide) (Nat.le_of_ble_eq_true rfl) (Nat.le_of_ble_eq_true rfl) rfl (c_Mo_floodsBy (kz := 59) rfl (by omega) (RelM_w hI hR) w3 (fun i hi => by have := zb i hi; omega) ⟨_, rfl, ?_⟩)
    refine x_ireturn f_Mo_countOf_96 rfl ?_
    exact q2
  · refine x_il1 f_Mo_countOf_0 ?_
    refine x_swIn (t := 97) f_Mo_countOf_1 (by decide) (by decide) rfl ?_
    refine x_al0 f_Mo_countOf_97 ?_
    refine x_cV0i f_Mo_countOf_98 rfl rfl (by decide) (Nat.le_of_ble_eq_true rfl) (Nat.le_of_ble_eq_true rfl) rfl (c_Mo_toSea (RelM_w hI hR) ⟨_, rfl, ?_⟩)
    refine x_ireturn f_Mo_countOf_101 rfl ?_
    exact q2
  · refine x_il1 f_Mo_countOf_0 ?_
    refine x_swIn (t := 102) f_Mo_countOf_1 (by decide) (by decide) rfl ?_
    refine x_al0 f_Mo_countOf_102 ?_
    refine x_getIV f_Mo_countOf_103 rfl rfl (Or.inl rfl) (a3) ?_
    refine x_ireturn f_Mo_countOf_106 rfl ?_
    exact q
  · refine x_il1 f_Mo_countOf_0 ?_
    refine x_swIn (t := 107) f_Mo_countOf_1 (by decide) (by decide) rfl ?_
    refine x_al0 f_Mo_countOf_107 ?_
    refine x_getIV f_Mo_countOf_108 rfl rfl (Or.inl rfl) (a4) ?_
    refine x_ireturn f_Mo_countOf_111 rfl ?_
    exact q
  · refine x_il1 f_Mo_countOf_0 ?_
    refine x_swIn (t := 112) f_Mo_countOf_1 (by decide) (by decide) rfl ?_
    refine x_al0 f_Mo_countOf_112 ?_
    refine x_getIV f_Mo_countOf_113 rfl rfl (Or.inl rfl) (a6) ?_
    refine x_ireturn f_Mo_countOf_116 rfl ?_
    exact q
  · refine x_il1 f_Mo_countOf_0 ?_
    refine x_swIn (t := 117) f_Mo_countOf_1 (by decide) (by decide) rfl ?_
    refine x_al0 f_Mo_countOf_117 ?_
    refine x_getIV f_Mo_countOf_118 rfl rfl (Or.inl rfl) (p1) ?_
    refine x_ireturn f_Mo_countOf_121 rfl ?_
    exact q
  · refine x_il1 f_Mo_countOf_0 ?_
    refine x_swIn (t := 122) f_Mo_countOf_1 (by decide) (by decide) rfl ?_
    refine x_al0 f_Mo_countOf_122 ?_
    refine x_getIV f_Mo_countOf_123 rfl rfl (Or.inl rfl) (a5) ?_
    refine x_ireturn f_Mo_countOf_126 rfl ?_
    exact q
theorem c_Mo_count {y : Int32} (hI : Inv s) (hR : RelM s M) (hQ : ∀ M1, RelM s M1 → frC M M1 → Q M1 (some (.int (cnA s y)))) : wp X (d + 5) n_Mo_count Q 0 [.ref 55, .int y] [] M := by
  unfold cnA at hQ
  refine x_al0 f_Mo_count_0 ?_
  refine x_il1 f_Mo_count_1 ?_
  by_cases h : hasI y 11 = 0
  · rw [if_pos h] at hQ
    refine x_cV1i f_Mo_count_2 rfl rfl (by decide) (Nat.le_of_ble_eq_true rfl) (Nat.le_of_ble_eq_true rfl) rfl ?_
    refine x_il1 f_Mo_countOf_0 ?_
    refine x_swOut (t := 127) f_Mo_countOf_1 (sw_out (n := 11) (by omega) (by omega) (hasI_0 h)) rfl ?_
    refine x_bipush (v := (-102)) f_Mo_countOf_127 rfl ?_
    refine x_ireturn f_Mo_countOf_129 rfl ?_
    refine ⟨_, rfl, ?_⟩
    refine x_ireturn f_Mo_count_5 rfl ?_
    exact hQ M hR (frC_refl _)
  · rw [if_neg h] at hQ
    obtain ⟨k, hk, rfl⟩ := hasI_of (n := 11) (by omega) (Nat.pos_of_ne_zero h)
    rw [nI_clamp (by omega)] at hQ
    refine x_cV1i f_Mo_count_2 rfl rfl (by decide) (Nat.le_of_ble_eq_true rfl) (Nat.le_of_ble_eq_true rfl) rfl (c_Mo_countN hI hR hk (fun M1 r1 f1 => ⟨_, rfl, ?_⟩))
    refine x_ireturn f_Mo_count_5 rfl ?_
    exact hQ M1 r1 f1.1
end
