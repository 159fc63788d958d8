/-! what is seen, the image, counts -/
section
variable {X : (Nat → Int32) × Nat} {d : Nat} {Q : mM → Option Value → Prop} {M : mM} {s : St}
def seA (s : St) (x y : Int32) : Int32 := if hasI x (s 1 1) = 0 then -101 else if hasI y 21 = 0 then -102 else if 6 ≤ s 1 6 then -104 else nI (s 1 6 + 1)
def seS (s : St) (x y b : Int32) : St := if hasI x (s 1 1) = 0 then s else if hasI y 21 = 0 then s else if 6 ≤ s 1 6 then s else sus (sup (sup (sup s 7 (updN (s 7) (s 1 6) x.toNatClampNeg)) 8 (updN (s 8) (s 1 6) y.toNatClampNeg)) 9 (updN (s 9) (s 1 6) b.toNatClampNeg)) 6 (s 1 6 + 1)
theorem b01 {b : Int32} (hb : b = 0 ∨ b = 1) : ∃ v, v ≤ 1 ∧ b = nI v := by
  rcases hb with rfl | rfl
  · exact ⟨0, by omega, rfl⟩
  · exact ⟨1, by omega, rfl⟩
theorem Inv_se {x y b : Int32} (hb : b = 0 ∨ b = 1) (h : Inv s) : Inv (seS s x y b) := by
  have hn := (Inv_n h).1
  unfold seS
  split
  · exact h
  · split
    · exact h
    · split
      · exact h
      · next hx hy h6 =>
        obtain ⟨j, hj, rfl⟩ := hasI_of (by omega) (Nat.pos_of_ne_zero hx)
        obtain ⟨k, hk, rfl⟩ := hasI_of (by omega) (Nat.pos_of_ne_zero hy)
        obtain ⟨v, hv, rfl⟩ := b01 hb
        rw [nI_clamp (by omega), nI_clamp (by omega), nI_clamp (by omega)]
        obtain ⟨a1, a2, a3, a4, ⟨a5, a6⟩, a7⟩ := h
        refine ⟨a1, a2, a3, a4, ⟨by show s 1 6 + 1 ≤ 6; omega, fun i hi => ?_⟩, a7⟩
        have hi : i < s 1 6 + 1 := hi
        show updN (s 7) (s 1 6) j i < s 1 1 ∧ updN (s 8) (s 1 6) k i ≤ 20 ∧ updN (s 9) (s 1 6) v i ≤ 1
        unfold updN
        by_cases e : i = s 1 6
        · rw [if_pos e, if_pos e, if_pos e]; omega
        · rw [if_neg e, if_neg e, if_neg e]; exact a6 i (by omega)
theorem c_RL_see {x y b : Int32} (hb : b = 0 ∨ b = 1) (hI : Inv s) (hR : RelC s M) (hQ : ∀ M1, RelC (seS s x y b) M1 → frM M M1 0 54 → Q M1 (some (.int (seA s x y)))) : wp X (d + 2) n_RL_see Q 0 [.ref 0, .int x, .int y, .int b] [] M := by
  obtain ⟨hn7, hg3, hmo⟩ := Inv_n hI
  obtain ⟨p, ⟨v0, v1, v2, v3, v4, v5, v6, v7, v8, v9⟩, ⟨w0, w1, w2, w3⟩, q4, q5, q6⟩ := id hR
  have hs6 := (Inv_sn hI).1
  unfold seA seS at hQ
  refine x_al0 f_RL_see_0 ?_
  refine x_getR f_RL_see_1 rfl rfl ?_
  refine x_il1 f_RL_see_4 ?_
  refine x_cV1i f_RL_see_5 rfl rfl (by decide) (Nat.le_of_ble_eq_true rfl) (Nat.le_of_ble_eq_true rfl) rfl (c_River_hasReach (Or.inl rfl) v0 ⟨_, rfl, ?_⟩)
  refine x_if_neN f_RL_see_8 (by have := hasI_le x (s 1 1); omega) (fun hx => ?_) (fun hx => ?_)
  · have hx0 : ¬ hasI x (s 1 1) = 0 := by omega
    have out : hasI y 21 = 0 → wp X (d + 2) n_RL_see Q 24 [.ref 0, .int x, .int y, .int b] [] M := by
      intro hy
      refine x_bipush (v := (-102)) f_RL_see_24 rfl ?_
      refine x_ireturn f_RL_see_26 rfl ?_
      have h := hQ M
      rw [if_neg hx0, if_neg hx0, if_pos hy, if_pos hy] at h
      exact h hR (frM_refl _ _ _)
    refine x_il2 f_RL_see_14 ?_
    refine x_if_lt f_RL_see_15 (fun h1 => out (by unfold hasI; rw [if_pos h1])) (fun h1 => ?_)
    refine x_il2 f_RL_see_18 ?_
    refine x_bipush (v := (nI 20)) f_RL_see_19 rfl ?_
    refine x_cmp_le f_RL_see_21 (fun h2 => ?_) (fun h2 => out ?_)
    · have hy : hasI y 21 = 1 := by unfold hasI; rw [if_neg h1, if_neg ((nI_lep (by omega)).mp h2)]
      have hy0 : ¬ hasI y 21 = 0 := by omega
      rw [if_neg hx0, if_neg hx0, if_neg hy0, if_neg hy0] at hQ
      refine x_al0 f_RL_see_27 ?_
      refine x_getR f_RL_see_28 rfl rfl ?_
      refine x_getIV f_RL_see_31 rfl rfl (Or.inl rfl) (w0) ?_
      refine x_bipush (v := (nI 6)) f_RL_see_34 rfl ?_
      refine x_cmp_ltN f_RL_see_36 (by omega) (by omega) (fun h6 => ?_) (fun h6 => ?_)
      · rw [if_neg (by omega), if_neg (by omega)] at hQ
        obtain ⟨j, hj, rfl⟩ := hasI_of (by omega) hx
        obtain ⟨k, hk, rfl⟩ := hasI_of (n := 21) (by omega) (by omega : 0 < hasI y 21)
        obtain ⟨v, hv, rfl⟩ := b01 hb
        rw [nI_clamp (by omega), nI_clamp (by omega), nI_clamp (by omega)] at hQ
        refine x_al0 f_RL_see_42 ?_
        refine x_getR f_RL_see_43 rfl rfl ?_
        refine x_il1 f_RL_see_46 ?_
        refine x_il2 f_RL_see_47 ?_
        refine x_il3 f_RL_see_48 ?_
        refine x_cV3v f_RL_see_49 rfl rfl (by decide) (Nat.le_of_ble_eq_true rfl) (Nat.le_of_ble_eq_true rfl) rfl (c_Seen_add hb w0 h6 ⟨rfl, ?_⟩)
        refine x_al0 f_RL_see_52 ?_
        refine x_getR f_RL_see_53 rfl rfl ?_
        refine x_getIV f_RL_see_56 rfl rfl (Or.inl rfl) (stM_at _ _ _ _) ?_
        refine x_ireturn f_RL_see_59 rfl ?_
        refine hQ _ ?_ (frM_st (frM_st (frM_st (frM_st (frM_refl _ _ _) (by omega) (by omega)) (by omega) (by omega)) (by omega) (by omega)) (by omega) (by omega))
        have o : ∀ a i, (a < 24 ∨ 27 < a) → (stM (stM (stM (stM M 25 (s 1 6) (nI j)) 26 (s 1 6) (nI k)) 27 (s 1 6) (nI v)) 24 0 (nI (s 1 6 + 1))).1 a i = M.1 a i := fun a i h => by rw [stM_ne _ _ (by omega), stM_ne _ _ (by omega), stM_ne _ _ (by omega), stM_ne _ _ (by omega)]
        refine ⟨⟨(o _ _ (by omega)).trans p.1, fun i hi => (o _ _ (by omega)).trans (p.2 i hi)⟩, RvC_fr ⟨v0, v1, v2, v3, v4, v5, v6, v7, v8, v9⟩ (fun a i _ _ => o a i (by omega)), ⟨stM_at _ _ _ _, fun i hi => ?_, fun i hi => ?_, fun i hi => ?_⟩, ⟨fun i hi => ?_, fun i hi => by rw [o _ _ (by omega)]; exact q4.2 i hi⟩, ⟨(o _ _ (by omega)).trans q5.1, (o _ _ (by omega)).trans q5.2⟩, fun hi => ⟨RvC_fr (q6 hi).1 (fun a i _ _ => o a i (by omega)), SnC_fr (q6 hi).2 (fun a i _ _ => o a i (by omega))⟩⟩
        · have hi : i < s 1 6 + 1 := hi
          show _ = nI (updN (s 7) (s 1 6) j i)
          rw [stM_ne _ _ (by omega), stM_ne _ _ (by omega), stM_ne _ _ (by omega), stM_def]
          unfold updN
          by_cases e : i = s 1 6
          · rw [if_pos ⟨rfl, e⟩, if_pos e]
          · rw [if_neg (fun z => e z.2), if_neg e]; exact w1 i (by omega)
        · have hi : i < s 1 6 + 1 := hi
          show _ = nI (updN (s 8) (s 1 6) k i)
          rw [stM_ne _ _ (by omega), stM_ne _ _ (by omega), stM_def]
          unfold updN
          by_cases e : i = s 1 6
          · rw [if_pos ⟨rfl, e⟩, if_pos e]
          · rw [if_neg (fun z => e z.2), if_neg e, stM_ne _ _ (by omega)]; exact w2 i (by omega)
        · have hi : i < s 1 6 + 1 := hi
          show _ = nI (updN (s 9) (s 1 6) v i)
          rw [stM_ne _ _ (by omega), stM_def]
          unfold updN
          by_cases e : i = s 1 6
          · rw [if_pos ⟨rfl, e⟩, if_pos e]
          · rw [if_neg (fun z => e z.2), if_neg e, stM_ne _ _ (by omega), stM_ne _ _ (by omega)]; exact w3 i (by omega)
        · rw [stM_ne _ _ (by omega), stM_def]
          by_cases e : i = s 1 6
          · rw [if_pos ⟨rfl, e⟩]; exact z01 hv
          · rw [if_neg (fun z => e z.2), stM_ne _ _ (by omega), stM_ne _ _ (by omega)]; exact q4.1 i (by omega)
      · refine x_bipush (v := (-104)) f_RL_see_39 rfl ?_
        refine x_ireturn f_RL_see_41 rfl ?_
        have h := hQ M
        rw [if_pos h6, if_pos h6] at h
        exact h hR (frM_refl _ _ _)
    · unfold hasI
      rw [if_neg h1, if_pos (Decidable.not_not.mp (fun z => h2 ((nI_lep (by omega)).mpr z)))]
  · refine x_bipush (v := (-101)) f_RL_see_11 rfl ?_
    refine x_ireturn f_RL_see_13 rfl ?_
    have h := hQ M
    rw [if_pos hx, if_pos hx] at h
    exact h hR (frM_refl _ _ _)
theorem Inv_fg (h : Inv s) : Inv (sus s 6 0) := by
  obtain ⟨a1, a2, a3, a4, ⟨a5, a6⟩, a7⟩ := h
  exact ⟨a1, a2, a3, a4, ⟨Nat.zero_le _, fun i hi => absurd hi (Nat.not_lt_zero i)⟩, a7⟩
theorem c_RL_forget (hR : RelC s M) (hQ : ∀ M1, RelC (sus s 6 0) M1 → frM M M1 0 54 → Q M1 (some (.int (nI (s 1 6))))) : wp X (d + 1) n_RL_forget Q 0 [.ref 0, .null] [] M := by
  obtain ⟨p, q2, ⟨w0, w1, w2, w3⟩, q4, q5, q6⟩ := id hR
  refine x_al0 f_RL_forget_0 ?_
  refine x_getR f_RL_forget_1 rfl rfl ?_
  refine x_getIV f_RL_forget_4 rfl rfl (Or.inl rfl) (w0) ?_
  refine x_is1 f_RL_forget_7 rfl ?_
  refine x_al0 f_RL_forget_8 ?_
  refine x_getR f_RL_forget_9 rfl rfl ?_
  refine x_iconst (v := (nI 0)) f_RL_forget_12 rfl ?_
  refine x_putI f_RL_forget_13 rfl rfl ?_
  refine x_il1 f_RL_forget_16 ?_
  refine x_ireturn f_RL_forget_17 rfl ?_
  refine hQ _ ?_ (frM_st (frM_refl _ _ _) (by omega) (by omega))
  have o : ∀ a i, a ≠ 24 → (stM M 24 0 (nI 0)).1 a i = M.1 a i := fun a i h => stM_ne _ _ (by omega)
  exact ⟨⟨(o _ _ (by omega)).trans p.1, fun i hi => (o _ _ (by omega)).trans (p.2 i hi)⟩, RvC_fr q2 (fun a i _ _ => o a i (by omega)), ⟨stM_at _ _ _ _, fun i hi => absurd hi (Nat.not_lt_zero i), fun i hi => absurd hi (Nat.not_lt_zero i), fun i hi => absurd hi (Nat.not_lt_zero i)⟩, ⟨fun i hi => by rw [o _ _ (by omega)]; exact q4.1 i hi, fun i hi => by rw [o _ _ (by omega)]; exact q4.2 i hi⟩, ⟨(o _ _ (by omega)).trans q5.1, (o _ _ (by omega)).trans q5.2⟩, fun hi => ⟨RvC_fr (q6 hi).1 (fun a i _ _ => o a i (by omega)), SnC_fr (q6 hi).2 (fun a i _ _ => o a i (by omega))⟩⟩
def imA (s : St) : Int32 := if s 1 1 = 0 then -103 else nI (s 1 3)
def imS (s : St) : St := if s 1 1 = 0 then s else
  sus (sus (sus (sus (sup (sup (sup (sup (sup (sup (sup s 10 (s 2)) 11 (s 3)) 12 (s 4)) 13 (s 6)) 14 (s 7)) 15 (s 8)) 16 (s 9)) 7 (s 1 5 + 1)) 8 (s 1 3)) 9 (s 1 4)) 10 (s 1 6)
theorem Inv_im (h : Inv s) : Inv (imS s) := by
  unfold imS
  split
  · exact h
  · next h0 =>
    obtain ⟨a1, a2, a3, a4, a5, a6, a7, a8⟩ := h
    exact ⟨a1, a2, a3, a4, a5, Nat.le_refl (s 1 5 + 1), a7, fun _ => ⟨by show 2 ≤ s 1 1; omega, a4, a5⟩⟩
theorem cpRv_C {M M1 : mM} {r o n g mo le : Nat} {K F Z Rn W At : Nat → Nat} (hn : n ≤ 7) (hg : g ≤ 3) (hc : cpRv M M1 r o) (h : RvC M o n g mo le K F Z Rn W At) : RvC M1 r n g mo le K F Z Rn W At := by
  obtain ⟨c1, c2, c3, c4, c5⟩ := hc
  obtain ⟨h0, h1, h2, h3, h4, h5, h6, h7, h8, h9⟩ := h
  exact ⟨(c1 0 (by omega)).trans h0, (c1 1 (by omega)).trans h1, (c1 2 (by omega)).trans h2, (c1 3 (by omega)).trans h3, fun i hi => (c2 1 (by omega) (by omega) i (by omega)).trans (h4 i hi), fun i hi => (c2 2 (by omega) (by omega) i (by omega)).trans (h5 i hi), fun i hi => (c2 3 (by omega) (by omega) i (by omega)).trans (h6 i hi), fun i hi => (c2 4 (by omega) (by omega) i (by omega)).trans (h7 i hi), fun i hi => (c2 5 (by omega) (by omega) i (by omega)).trans (h8 i hi), fun i hi => (c3 i (by omega)).trans (h9 i hi)⟩
theorem cpSn_C {M M1 : mM} {r o sn : Nat} {sr sm sf : Nat → Nat} (hn : sn ≤ 6) (hc : cpSn M M1 r o) (h : SnC M o sn sr sm sf) : SnC M1 r sn sr sm sf := by
  obtain ⟨c1, c2, c3⟩ := hc
  obtain ⟨h0, h1, h2, h3⟩ := h
  exact ⟨c1.trans h0, fun i hi => (c2 1 (by omega) (by omega) i (by omega)).trans (h1 i hi), fun i hi => (c2 2 (by omega) (by omega) i (by omega)).trans (h2 i hi), fun i hi => (c2 3 (by omega) (by omega) i (by omega)).trans (h3 i hi)⟩
theorem c_RL_image (hI : Inv s) (hR : RelC s M) (hQ : ∀ M1, RelC (imS s) M1 → frM M M1 0 54 → Q M1 (some (.int (imA s)))) : wp X (d + 2) n_RL_image Q 0 [.ref 0] [] M := by
  obtain ⟨hn7, hg3, hmo⟩ := Inv_n hI
  have hs6 := (Inv_sn hI).1
  obtain ⟨p, q2, q3, q4, q5, q6⟩ := id hR
  unfold imA imS at hQ
  refine x_al0 f_RL_image_0 ?_
  refine x_cV0i f_RL_image_1 rfl rfl (by decide) (Nat.le_of_ble_eq_true rfl) (Nat.le_of_ble_eq_true rfl) rfl (c_RL_hasRiver hn7 q2.1 ⟨_, rfl, ?_⟩)
  by_cases h0 : s 1 1 = 0
  · rw [if_pos h0]
    refine x_if_neN f_RL_image_4 (by omega) (fun h => absurd h (by omega)) (fun _ => ?_)
    refine x_bipush (v := (-103)) f_RL_image_7 rfl ?_
    refine x_ireturn f_RL_image_9 rfl ?_
    have h := hQ M
    rw [if_pos h0, if_pos h0] at h
    exact h hR (frM_refl _ _ _)
  · rw [if_neg h0]
    refine x_if_neN f_RL_image_4 (by omega) (fun _ => ?_) (fun h => absurd h (by omega))
    rw [if_neg h0, if_neg h0] at hQ
    refine x_al0 f_RL_image_10 ?_
    refine x_getR f_RL_image_11 rfl rfl ?_
    refine x_al0 f_RL_image_14 ?_
    refine x_getR f_RL_image_15 rfl rfl ?_
    refine x_cV1v f_RL_image_18 rfl rfl (by decide) (Nat.le_of_ble_eq_true rfl) (Nat.le_of_ble_eq_true rfl) rfl (c_River_copyFrom (Or.inr (Or.inl rfl)) (Or.inl rfl) (by omega) (fun M1 hc => ⟨rfl, ?_⟩))
    have o1 : ∀ a i, (a < 10 ∨ 16 < a) → M1.1 a i = M.1 a i := fun a i h => hc.2.2.2.1 a i (by omega)
    refine x_al0 f_RL_image_21 ?_
    refine x_getR f_RL_image_22 rfl rfl ?_
    refine x_al0 f_RL_image_25 ?_
    refine x_getR f_RL_image_26 rfl rfl ?_
    refine x_cV1v f_RL_image_29 rfl rfl (by decide) (Nat.le_of_ble_eq_true rfl) (Nat.le_of_ble_eq_true rfl) rfl (c_Seen_copyFrom (Or.inr rfl) (Or.inl rfl) (by omega) (fun i hi => by rw [o1 _ _ (by omega)]; exact q4.1 i hi) (fun M2 hc2 => ⟨rfl, ?_⟩))
    have o2 : ∀ a i, (a < 28 ∨ 31 < a) → M2.1 a i = M1.1 a i := fun a i h => hc2.2.2.1 a i (by omega)
    have o : ∀ a i, (a < 10 ∨ 16 < a) → (a < 28 ∨ 31 < a) → (a ≠ 0 ∨ i ≠ 9) → (stM M2 0 9 (nI 1)).1 a i = M.1 a i := fun a i h1 h2 h3 => by rw [stM_ne _ _ (by omega), o2 _ _ h2, o1 _ _ h1]
    have i7 : s 1 5 + 1 = s 1 5 + 1 := rfl
    refine x_al0 f_RL_image_32 ?_
    refine x_iconst (v := (nI 1)) f_RL_image_33 rfl ?_
    refine x_putZ f_RL_image_34 rfl rfl (Or.inr rfl) ?_
    refine x_al0 f_RL_image_37 ?_
    refine x_getR f_RL_image_38 rfl rfl ?_
    refine x_getIV f_RL_image_41 rfl rfl (Or.inl rfl) ((o _ _ (by omega) (by omega) (by omega)).trans q2.2.2.1) ?_
    refine x_ireturn f_RL_image_44 rfl ?_
    refine hQ _ ?_ ⟨fun a i h => ?_, ?_⟩
    · refine ⟨⟨(o _ _ (by omega) (by omega) (by omega)).trans p.1, fun i hi => (o _ _ (by omega) (by omega) (by omega)).trans (p.2 i hi)⟩, RvC_fr q2 (fun a i _ _ => o a i (by omega) (by omega) (by omega)), SnC_fr q3 (fun a i _ _ => o a i (by omega) (by omega) (by omega)), ⟨fun i hi => by rw [o _ _ (by omega) (by omega) (by omega)]; exact q4.1 i hi, fun i hi => ?_⟩, ⟨?_, (o _ _ (by omega) (by omega) (by omega)).trans q5.2⟩, fun _ => ⟨RvC_fr (cpRv_C hn7 hg3 hc q2) (fun a i _ _ => (stM_ne _ _ (by omega)).trans (o2 a i (by omega))), SnC_fr (cpSn_C hs6 hc2 (SnC_fr q3 (fun a i _ _ => o1 a i (by omega)))) (fun a i _ _ => stM_ne _ _ (by omega))⟩⟩
      · rw [stM_ne _ _ (by omega), hc2.2.1 3 (by omega) (by omega) i hi, o1 _ _ (by omega)]; exact q4.1 i hi
      · rw [stM_at]
        show nI 1 = nI (if s 1 5 + 1 = s 1 5 + 1 then 1 else 0)
        rw [if_pos rfl]
    · rw [stM_ne _ _ (by omega), o2 _ _ (by omega), o1 _ _ (by omega)]
    · exact hc2.2.2.2.trans hc.2.2.2.2
def rsA (s : St) : Int32 := if imgN s = 0 then -103 else nI (s 1 8)
def rsS (s : St) : St := if imgN s = 0 then s else
  sus (sus (sus (sup (sup (sup (sup (sup (sup (sup s 2 (s 10)) 3 (s 11)) 4 (s 12)) 6 (s 13)) 7 (s 14)) 8 (s 15)) 9 (s 16)) 3 (s 1 8)) 4 (s 1 9)) 6 (s 1 10)
theorem imgN_le (s : St) : imgN s ≤ 1 := by unfold imgN; split <;> omega
theorem Inv_rs (h : Inv s) : Inv (rsS s) := by
  unfold rsS
  split
  · exact h
  · next h0 =>
    have hle := imgN_le s
    obtain ⟨a1, a2, a3, a4, a5, a6, a7, a8⟩ := h
    obtain ⟨b1, b2, b3⟩ := a8 (by omega)
    exact ⟨a1, a2, a3, b2, b3, a6, a7, a8⟩
theorem c_RL_restore (hI : Inv s) (hR : RelC s M) (hQ : ∀ M1, RelC (rsS s) M1 → frM M M1 0 54 → Q M1 (some (.int (rsA s)))) : wp X (d + 2) n_RL_restore Q 0 [.ref 0] [] M := by
  obtain ⟨hn7, hg3, hmo⟩ := Inv_n hI
  obtain ⟨p, q2, q3, q4, q5, q6⟩ := id hR
  have hle := imgN_le s
  unfold rsA rsS at hQ
  refine x_al0 f_RL_restore_0 ?_
  refine x_getIV f_RL_restore_1 rfl rfl (Or.inr rfl) (q5.1) ?_
  refine x_if_neN f_RL_restore_4 (by omega) (fun h1 => ?_) (fun h0 => ?_)
  · rw [if_neg (by omega), if_neg (by omega)] at hQ
    obtain ⟨k2, k3⟩ := q6 (by omega)
    obtain ⟨b1, b2, b3⟩ := hI.2.2.2.2.2.2.2 (by omega)
    have hs6 := b3.1
    refine x_al0 f_RL_restore_10 ?_
    refine x_getR f_RL_restore_11 rfl rfl ?_
    refine x_al0 f_RL_restore_14 ?_
    refine x_getR f_RL_restore_15 rfl rfl ?_
    refine x_cV1v f_RL_restore_18 rfl rfl (by decide) (Nat.le_of_ble_eq_true rfl) (Nat.le_of_ble_eq_true rfl) rfl (c_River_copyFrom (Or.inl rfl) (Or.inr (Or.inl rfl)) (by omega) (fun M1 hc => ⟨rfl, ?_⟩))
    have o1 : ∀ a i, (a < 3 ∨ 9 < a) → M1.1 a i = M.1 a i := fun a i h => hc.2.2.2.1 a i (by omega)
    refine x_al0 f_RL_restore_21 ?_
    refine x_getR f_RL_restore_22 rfl rfl ?_
    refine x_al0 f_RL_restore_25 ?_
    refine x_getR f_RL_restore_26 rfl rfl ?_
    refine x_cV1v f_RL_restore_29 rfl rfl (by decide) (Nat.le_of_ble_eq_true rfl) (Nat.le_of_ble_eq_true rfl) rfl (c_Seen_copyFrom (Or.inl rfl) (Or.inr rfl) (by omega) (fun i hi => by rw [o1 _ _ (by omega)]; exact q4.2 i hi) (fun M2 hc2 => ⟨rfl, ?_⟩))
    have o2 : ∀ a i, (a < 24 ∨ 27 < a) → M2.1 a i = M1.1 a i := fun a i h => hc2.2.2.1 a i (by omega)
    have o : ∀ a i, (a < 3 ∨ 9 < a) → (a < 24 ∨ 27 < a) → M2.1 a i = M.1 a i := fun a i h1 h2 => by rw [o2 _ _ h2, o1 _ _ h1]
    have n2 := RvC_fr (cpRv_C hn7 hg3 hc k2) (fun a i _ _ => o2 a i (by omega))
    refine x_al0 f_RL_restore_32 ?_
    refine x_getR f_RL_restore_33 rfl rfl ?_
    refine x_getIV f_RL_restore_36 rfl rfl (Or.inl rfl) (n2.2.2.1) ?_
    refine x_ireturn f_RL_restore_39 rfl ?_
    refine hQ _ ?_ ⟨fun a i h => o a i (by omega) (by omega), hc2.2.2.2.trans hc.2.2.2.2⟩
    refine ⟨⟨(o _ _ (by omega) (by omega)).trans p.1, fun i hi => (o _ _ (by omega) (by omega)).trans (p.2 i hi)⟩, n2, cpSn_C hs6 hc2 (SnC_fr k3 (fun a i _ _ => o1 a i (by omega))), ⟨fun i hi => ?_, fun i hi => by rw [o _ _ (by omega) (by omega)]; exact q4.2 i hi⟩, ⟨(o _ _ (by omega) (by omega)).trans q5.1, (o _ _ (by omega) (by omega)).trans q5.2⟩, fun _ => ⟨RvC_fr k2 (fun a i _ _ => o a i (by omega) (by omega)), SnC_fr k3 (fun a i _ _ => o a i (by omega) (by omega))⟩⟩
    rw [hc2.2.1 3 (by omega) (by omega) i hi, o1 _ _ (by omega)]; exact q4.2 i hi
  · refine x_bipush (v := (-103)) f_RL_restore_7 rfl ?_
    refine x_ireturn f_RL_restore_9 rfl ?_
    have h := hQ M
    rw [if_pos h0, if_pos h0] at h
    exact h hR (frM_refl _ _ _)
def cntN (s : St) (w : Nat) : Nat :=
  if w = 0 then s 1 1 else if w = 1 then s 1 2 else if w = 2 then sumN (s 3) (s 1 1) else if w = 3 then sumN (s 4) (s 1 1) else if w = 4 then fcN (s 2) (sW s) (s 4) (s 1 1) else if w = 5 then seaN (s 2) (sW s) (s 5) (s 1 1) else if w = 6 then s 1 3 else if w = 7 then s 1 4 else if w = 8 then s 1 6 else if w = 9 then s 1 0 else s 1 5
def cnA (s : St) (y : Int32) : Int32 := if hasI y 11 = 0 then -102 else nI (cntN s y.toNatClampNeg)
theorem c_RL_countN {w : Nat} (hI : Inv s) (hR : RelC s M) (hw : w < 11) (hQ : Q M (some (.int (nI (cntN s w))))) : wp X (d + 4) n_RL_count Q 0 [.ref 0, .int (nI w)] [] M := by
  obtain ⟨hn7, hg3, hmo⟩ := Inv_n hI
  obtain ⟨kb, fb, zb, rb, wb, ab⟩ := Inv_k hI
  obtain ⟨p, ⟨v0, v1, v2, v3, v4, v5, v6, v7, v8, v9⟩, hS, q4, q5, q6⟩ := hR
  have r3 : isRv 3 := Or.inl rfl
  have wb2 : ∀ i, i < s 1 1 → sW s i < 100000 := fun i hi => by have := wb i hi; omega
  have zb2 : ∀ i, i < s 1 1 → s 4 i < 100000 := fun i hi => by have := zb i hi; omega
  rcases (show w = 0 ∨ w = 1 ∨ w = 2 ∨ w = 3 ∨ w = 4 ∨ w = 5 ∨ w = 6 ∨ w = 7 ∨ w = 8 ∨ w = 9 ∨ w = 10 by omega) with rfl | rfl | rfl | rfl | rfl | rfl | rfl | rfl | rfl | rfl | rfl
  · refine x_il1 f_RL_count_0 ?_
    refine x_swIn (t := 60) f_RL_count_1 (by decide) (by decide) rfl ?_
    refine x_al0 f_RL_count_60 ?_
    refine x_getR f_RL_count_61 rfl rfl ?_
    refine x_getIV f_RL_count_64 rfl rfl (Or.inl rfl) (v0) ?_
    refine x_ireturn f_RL_count_67 rfl ?_
    exact hQ
  · refine x_il1 f_RL_count_0 ?_
    refine x_swIn (t := 68) f_RL_count_1 (by decide) (by decide) rfl ?_
    refine x_al0 f_RL_count_68 ?_
    refine x_getR f_RL_count_69 rfl rfl ?_
    refine x_getIV f_RL_count_72 rfl rfl (Or.inl rfl) (v1) ?_
    refine x_ireturn f_RL_count_75 rfl ?_
    exact hQ
  · refine x_il1 f_RL_count_0 ?_
    refine x_swIn (t := 76) f_RL_count_1 (by decide) (by decide) rfl ?_
    refine x_al0 f_RL_count_76 ?_
    refine x_getR f_RL_count_77 rfl rfl ?_
    refine x_cV0i f_RL_count_80 rfl rfl (by decide) (Nat.le_of_ble_eq_true rfl) (Nat.le_of_ble_eq_true rfl) rfl (c_River_flowTogether r3 v0 hn7 v5 ⟨_, rfl, ?_⟩)
    refine x_ireturn f_RL_count_83 rfl ?_
    exact hQ
  · refine x_il1 f_RL_count_0 ?_
    refine x_swIn (t := 84) f_RL_count_1 (by decide) (by decide) rfl ?_
    refine x_al0 f_RL_count_84 ?_
    refine x_getR f_RL_count_85 rfl rfl ?_
    refine x_cV0i f_RL_count_88 rfl rfl (by decide) (Nat.le_of_ble_eq_true rfl) (Nat.le_of_ble_eq_true rfl) rfl (c_River_wildTogether r3 v0 hn7 v6 ⟨_, rfl, ?_⟩)
    refine x_ireturn f_RL_count_91 rfl ?_
    exact hQ
  · refine x_il1 f_RL_count_0 ?_
    refine x_swIn (t := 92) f_RL_count_1 (by decide) (by decide) rfl ?_
    refine x_al0 f_RL_count_92 ?_
    refine x_getR f_RL_count_93 rfl rfl ?_
    refine x_cV0i f_RL_count_96 rfl rfl (by decide) (Nat.le_of_ble_eq_true rfl) (Nat.le_of_ble_eq_true rfl) rfl (c_River_floodCount r3 v0 hn7 v4 kb v8 wb2 v6 zb2 ⟨_, rfl, ?_⟩)
    refine x_ireturn f_RL_count_99 rfl ?_
    exact hQ
  · refine x_il1 f_RL_count_0 ?_
    refine x_swIn (t := 100) f_RL_count_1 (by decide) (by decide) rfl ?_
    refine x_al0 f_RL_count_100 ?_
    refine x_getR f_RL_count_101 rfl rfl ?_
    refine x_cV0i f_RL_count_104 rfl rfl (by decide) (Nat.le_of_ble_eq_true rfl) (Nat.le_of_ble_eq_true rfl) rfl (c_River_runsIntoSea r3 v0 hn7 v4 kb v8 wb2 v7 rb ⟨_, rfl, ?_⟩)
    refine x_ireturn f_RL_count_107 rfl ?_
    exact hQ
  · refine x_il1 f_RL_count_0 ?_
    refine x_swIn (t := 108) f_RL_count_1 (by decide) (by decide) rfl ?_
    refine x_al0 f_RL_count_108 ?_
    refine x_getR f_RL_count_109 rfl rfl ?_
    refine x_getIV f_RL_count_112 rfl rfl (Or.inl rfl) (v2) ?_
    refine x_ireturn f_RL_count_115 rfl ?_
    exact hQ
  · refine x_il1 f_RL_count_0 ?_
    refine x_swIn (t := 116) f_RL_count_1 (by decide) (by decide) rfl ?_
    refine x_al0 f_RL_count_116 ?_
    refine x_getR f_RL_count_117 rfl rfl ?_
    refine x_getIV f_RL_count_120 rfl rfl (Or.inl rfl) (v3) ?_
    refine x_ireturn f_RL_count_123 rfl ?_
    exact hQ
  · refine x_il1 f_RL_count_0 ?_
    refine x_swIn (t := 124) f_RL_count_1 (by decide) (by decide) rfl ?_
    refine x_al0 f_RL_count_124 ?_
    refine x_getR f_RL_count_125 rfl rfl ?_
    refine x_getIV f_RL_count_128 rfl rfl (Or.inl rfl) (hS.1) ?_
    refine x_ireturn f_RL_count_131 rfl ?_
    exact hQ
  · refine x_il1 f_RL_count_0 ?_
    refine x_swIn (t := 132) f_RL_count_1 (by decide) (by decide) rfl ?_
    refine x_al0 f_RL_count_132 ?_
    refine x_getR f_RL_count_133 rfl rfl ?_
    refine x_getIV f_RL_count_136 rfl rfl (Or.inl rfl) (p.1) ?_
    refine x_ireturn f_RL_count_139 rfl ?_
    exact hQ
  · refine x_il1 f_RL_count_0 ?_
    refine x_swIn (t := 140) f_RL_count_1 (by decide) (by decide) rfl ?_
    refine x_al0 f_RL_count_140 ?_
    refine x_getIV f_RL_count_141 rfl rfl (Or.inl rfl) (q5.2) ?_
    refine x_ireturn f_RL_count_144 rfl ?_
    exact hQ
theorem c_RL_count {y : Int32} (hI : Inv s) (hR : RelC s M) (hQ : Q M (some (.int (cnA s y)))) : wp X (d + 4) n_RL_count Q 0 [.ref 0, .int y] [] M := by
  unfold cnA at hQ
  by_cases h : hasI y 11 = 0
  · rw [if_pos h] at hQ
    refine x_il1 f_RL_count_0 ?_
    refine x_swOut (t := 145) f_RL_count_1 (sw_out (n := 11) (by omega) (by omega) (hasI_0 h)) rfl ?_
    refine x_bipush (v := (-102)) f_RL_count_145 rfl ?_
    refine x_ireturn f_RL_count_147 rfl ?_
    exact hQ
  · rw [if_neg h] at hQ
    obtain ⟨k, hk, rfl⟩ := hasI_of (n := 11) (by omega) (Nat.pos_of_ne_zero h)
    rw [nI_clamp (by omega)] at hQ
    exact c_RL_countN hI hR hk hQ
end
