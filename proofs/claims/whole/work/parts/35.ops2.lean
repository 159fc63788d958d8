/-! months, rain, kinds, what is seen, images, counts -/
section
variable {X : (Nat → Int32) × Nat} {d : Nat} {Q : mM → Option Value → Prop} {M : mM} {s : St}
def moA (s : St) : Int32 := if s 1 1 = 0 then -103 else if 999 ≤ s 1 3 then -104 else nI (s 1 3 + 1)
def moS (s : St) : St := if s 1 1 = 0 then s else if 999 ≤ s 1 3 then s else sus (sus (sup s 4 (pmN (s 2) (s 4) (s 6) (s 1 2) (s 1 3 + 1))) 3 (s 1 3 + 1)) 4 (s 1 4 + s 1 2)
theorem Inv_mo (h : Inv s) : Inv (moS s) := by
  unfold moS
  split
  · exact h
  · split
    · exact h
    · obtain ⟨a1, a2, a3, ⟨a4, a5, a6⟩, a7⟩ := h
      refine ⟨a1, a2, a3, ⟨by show s 1 3 + 1 ≤ 999; omega, fun i hi => ⟨(a5 i hi).1, (a5 i hi).2.1, ?_⟩, a6⟩, a7⟩
      exact wafN_le (a5 i hi).2.2
theorem c_RL_month (hI : Inv s) (hR : RelC s M) (hQ : ∀ M1, RelC (moS s) M1 → frM M M1 0 54 → Q M1 (some (.int (moA s)))) : wp X (d + 4) n_RL_month Q 0 [.ref 0] [] M := by
  obtain ⟨hn7, hg3, hmo⟩ := Inv_n hI
  obtain ⟨kb, fb, zb, rb, wb, ab⟩ := Inv_k hI
  obtain ⟨p, ⟨v0, v1, v2, v3, v4, v5, v6, v7, v8, v9⟩, q3, q4, q5, q6⟩ := id hR
  unfold moA moS at hQ
  refine x_al0 f_RL_month_0 ?_
  refine x_cV0i f_RL_month_1 rfl rfl (by decide) (Nat.le_of_ble_eq_true rfl) (Nat.le_of_ble_eq_true rfl) rfl (c_RL_hasRiver hn7 v0 ⟨_, rfl, ?_⟩)
  by_cases h0 : s 1 1 = 0
  · rw [if_pos h0]
    refine x_if_neN f_RL_month_4 (by omega) (fun h => absurd h (by omega)) (fun _ => ?_)
    refine x_bipush (v := (-103)) f_RL_month_7 rfl ?_
    refine x_ireturn f_RL_month_9 rfl ?_
    have h := hQ M
    rw [if_pos h0, if_pos h0] at h
    exact h hR (frM_refl _ _ _)
  · rw [if_neg h0]
    refine x_if_neN f_RL_month_4 (by omega) (fun _ => ?_) (fun h => absurd h (by omega))
    refine x_al0 f_RL_month_10 ?_
    refine x_getR f_RL_month_11 rfl rfl ?_
    refine x_getIV f_RL_month_14 rfl rfl (Or.inl rfl) (v2) ?_
    refine x_sipush (v := (nI 999)) f_RL_month_17 rfl ?_
    refine x_cmp_ltN f_RL_month_20 (by omega) (by omega) (fun h1 => ?_) (fun h1 => ?_)
    · rw [if_neg h0, if_neg h0, if_neg (by omega), if_neg (by omega)] at hQ
      refine x_al0 f_RL_month_26 ?_
      refine x_getR f_RL_month_27 rfl rfl ?_
      refine x_cV0v f_RL_month_30 rfl rfl (by decide) (Nat.le_of_ble_eq_true rfl) (Nat.le_of_ble_eq_true rfl) rfl (c_River_passMonth (r := 3) (Or.inl rfl) (by omega) v0 hn7 v1 hg3 v2 v3 v4 kb v6 (fun i hi => by have := zb i hi; omega) v9 (fun i hi => by have := ab i hi; omega) ⟨rfl, ?_⟩)
      have o : ∀ a i, a ≠ 6 → (a ≠ 3 ∨ i < 2) → (wrM (stM (stM M 3 2 (nI (s 1 3 + 1))) 3 3 (nI (s 1 4 + s 1 2))) (3 + 3) (s 1 1) (pmN (s 2) (s 4) (s 6) (s 1 2) (s 1 3 + 1))).1 a i = M.1 a i := fun a i h1 h2 => by rw [wrM_o (by omega), stM_ne _ _ (by omega), stM_ne _ _ (by omega)]
      have e2 : (wrM (stM (stM M 3 2 (nI (s 1 3 + 1))) 3 3 (nI (s 1 4 + s 1 2))) (3 + 3) (s 1 1) (pmN (s 2) (s 4) (s 6) (s 1 2) (s 1 3 + 1))).1 3 2 = nI (s 1 3 + 1) := by rw [wrM_o (by omega), stM_ne _ _ (by omega), stM_at]
      refine x_al0 f_RL_month_33 ?_
      refine x_getR f_RL_month_34 rfl rfl ?_
      refine x_getIV f_RL_month_37 rfl rfl (Or.inl rfl) (e2) ?_
      refine x_ireturn f_RL_month_40 rfl ?_
      refine hQ _ ?_ (frM_wr (frM_st (frM_st (frM_refl _ _ _) (by omega) (by omega)) (by omega) (by omega)) (by omega) (by omega))
      refine ⟨⟨(o _ _ (by omega) (by omega)).trans p.1, fun i hi => (o _ _ (by omega) (by omega)).trans (p.2 i hi)⟩, ⟨(o _ _ (by omega) (by omega)).trans v0, (o _ _ (by omega) (by omega)).trans v1, e2, ?_, fun i hi => (o _ _ (by omega) (by omega)).trans (v4 i hi), fun i hi => (o _ _ (by omega) (by omega)).trans (v5 i hi), fun i hi => wrM_at hi, fun i hi => (o _ _ (by omega) (by omega)).trans (v7 i hi), fun i hi => (o _ _ (by omega) (by omega)).trans (v8 i hi), fun i hi => (o _ _ (by omega) (by omega)).trans (v9 i hi)⟩, SnC_fr q3 (fun a i _ _ => o a i (by omega) (by omega)), ⟨fun i hi => by rw [o _ _ (by omega) (by omega)]; exact q4.1 i hi, fun i hi => by rw [o _ _ (by omega) (by omega)]; exact q4.2 i hi⟩, ⟨(o _ _ (by omega) (by omega)).trans q5.1, (o _ _ (by omega) (by omega)).trans q5.2⟩, fun hi => ⟨RvC_fr (q6 hi).1 (fun a i _ _ => o a i (by omega) (by omega)), SnC_fr (q6 hi).2 (fun a i _ _ => o a i (by omega) (by omega))⟩⟩
      rw [wrM_o (by omega), stM_at]; rfl
    · refine x_bipush (v := (-104)) f_RL_month_23 rfl ?_
      refine x_ireturn f_RL_month_25 rfl ?_
      have h := hQ M
      rw [if_neg h0, if_neg h0, if_pos h1, if_pos h1] at h
      exact h hR (frM_refl _ _ _)
def raA (s : St) (x y : Int32) : Int32 := if hasI x (s 1 1) = 0 then -101 else if hasI y 10 = 0 then -102 else nI (s 3 x.toNatClampNeg)
def raS (s : St) (x y : Int32) : St := if hasI x (s 1 1) = 0 then s else if hasI y 10 = 0 then s else sup s 3 (updN (s 3) x.toNatClampNeg y.toNatClampNeg)
theorem Inv_ra {x y : Int32} (h : Inv s) : Inv (raS s x y) := by
  unfold raS
  split
  · exact h
  · split
    · exact h
    · next hx hy =>
      obtain ⟨k, hk, rfl⟩ := hasI_of (by omega) (Nat.pos_of_ne_zero hy)
      obtain ⟨a1, a2, a3, ⟨a4, a5, a6⟩, a7⟩ := h
      refine ⟨a1, a2, a3, ⟨a4, fun i hi => ⟨(a5 i hi).1, ?_, (a5 i hi).2.2⟩, a6⟩, a7⟩
      show updN (s 3) _ _ i ≤ 9
      unfold updN
      split
      · rw [nI_clamp (by omega)]; omega
      · exact (a5 i hi).2.1
theorem c_RL_rain {x y : Int32} (hI : Inv s) (hR : RelC s M) (hQ : ∀ M1, RelC (raS s x y) M1 → frM M M1 0 54 → Q M1 (some (.int (raA s x y)))) : wp X (d + 4) n_RL_rain Q 0 [.ref 0, .int x, .int y, .null] [] M := by
  obtain ⟨hn7, hg3, hmo⟩ := Inv_n hI
  obtain ⟨kb, fb, zb, rb, wb, ab⟩ := Inv_k hI
  obtain ⟨p, ⟨v0, v1, v2, v3, v4, v5, v6, v7, v8, v9⟩, q3, q4, q5, q6⟩ := id hR
  unfold raA raS at hQ
  refine x_al0 f_RL_rain_0 ?_
  refine x_getR f_RL_rain_1 rfl rfl ?_
  refine x_il1 f_RL_rain_4 ?_
  refine x_cV1i f_RL_rain_5 rfl rfl (by decide) (Nat.le_of_ble_eq_true rfl) (Nat.le_of_ble_eq_true rfl) rfl (c_River_hasReach (Or.inl rfl) v0 ⟨_, rfl, ?_⟩)
  refine x_if_neN f_RL_rain_8 (by have := hasI_le x (s 1 1); omega) (fun hx => ?_) (fun hx => ?_)
  · have hx0 : ¬ hasI x (s 1 1) = 0 := by omega
    have out : hasI y 10 = 0 → wp X (d + 4) n_RL_rain Q 24 [.ref 0, .int x, .int y, .null] [] M := by
      intro hy
      refine x_bipush (v := (-102)) f_RL_rain_24 rfl ?_
      refine x_ireturn f_RL_rain_26 rfl ?_
      have h := hQ M
      rw [if_neg hx0, if_neg hx0, if_pos hy, if_pos hy] at h
      exact h hR (frM_refl _ _ _)
    refine x_il2 f_RL_rain_14 ?_
    refine x_if_lt f_RL_rain_15 (fun h1 => out (by unfold hasI; rw [if_pos h1])) (fun h1 => ?_)
    refine x_il2 f_RL_rain_18 ?_
    refine x_bipush (v := (nI 9)) f_RL_rain_19 rfl ?_
    refine x_cmp_le f_RL_rain_21 (fun h2 => ?_) (fun h2 => out ?_)
    · have hy : hasI y 10 = 1 := by unfold hasI; rw [if_neg h1, if_neg ((nI_lep (by omega)).mp h2)]
      have hy0 : ¬ hasI y 10 = 0 := by omega
      rw [if_neg hx0, if_neg hx0, if_neg hy0, if_neg hy0] at hQ
      obtain ⟨j, hj, rfl⟩ := hasI_of (by omega) hx
      obtain ⟨k, hk, rfl⟩ := hasI_of (n := 10) (by omega) (by omega : 0 < hasI y 10)
      rw [nI_clamp (by omega), nI_clamp (by omega)] at hQ
      have o : ∀ a i, a ≠ 5 → (stM M 5 j (nI k)).1 a i = M.1 a i := fun a i h => stM_ne _ _ (Or.inl h)
      have f5 : ∀ i, i < s 1 1 → (stM M 5 j (nI k)).1 5 i = nI (updN (s 3) j k i) := fun i hi => by
        rw [stM_def]
        unfold updN
        by_cases e : i = j
        · rw [if_pos ⟨rfl, e⟩, if_pos e]
        · rw [if_neg (fun z => e z.2), if_neg e]; exact v5 i hi
      refine x_al0 f_RL_rain_27 ?_
      refine x_getR f_RL_rain_28 rfl rfl ?_
      refine x_getR f_RL_rain_31 rfl rfl ?_
      refine x_il1 f_RL_rain_34 ?_
      refine x_ialdV f_RL_rain_35 rfl (by omega) (v5 j hj) ?_
      refine x_is3 f_RL_rain_36 rfl ?_
      refine x_al0 f_RL_rain_37 ?_
      refine x_getR f_RL_rain_38 rfl rfl ?_
      refine x_getR f_RL_rain_41 rfl rfl ?_
      refine x_il1 f_RL_rain_44 ?_
      refine x_il2 f_RL_rain_45 ?_
      refine x_iastN f_RL_rain_46 rfl (by omega) ?_
      refine x_al0 f_RL_rain_47 ?_
      refine x_getR f_RL_rain_48 rfl rfl ?_
      refine x_cV0v f_RL_rain_51 rfl rfl (by decide) (Nat.le_of_ble_eq_true rfl) (Nat.le_of_ble_eq_true rfl) rfl (c_River_measure (r := 3) (F := updN (s 3) j k) (Or.inl rfl) ((o _ _ (by omega)).trans v0) hn7 (fun i hi => (o _ _ (by omega)).trans (v4 i hi)) kb f5 (fun i hi => by have := fb i hi; unfold updN; split <;> omega) (fun i hi => (o _ _ (by omega)).trans (v7 i hi)) rb ⟨rfl, ?_⟩)
      refine x_il3 f_RL_rain_54 ?_
      refine x_ireturn f_RL_rain_55 rfl ?_
      refine hQ _ ?_ (frM_wr (frM_st (frM_refl _ _ _) (by omega) (by omega)) (by omega) (by omega))
      have o2 : ∀ a i, a ≠ 5 → a ≠ 8 → (wrM (stM M 5 j (nI k)) (3 + 5) (s 1 1) (wat (s 1 1) (s 2) (updN (s 3) j k) (s 5))).1 a i = M.1 a i := fun a i h h2 => (wrM_o (by omega)).trans (o a i h)
      exact ⟨⟨(o2 _ _ (by omega) (by omega)).trans p.1, fun i hi => (o2 _ _ (by omega) (by omega)).trans (p.2 i hi)⟩, ⟨(o2 _ _ (by omega) (by omega)).trans v0, (o2 _ _ (by omega) (by omega)).trans v1, (o2 _ _ (by omega) (by omega)).trans v2, (o2 _ _ (by omega) (by omega)).trans v3, fun i hi => (o2 _ _ (by omega) (by omega)).trans (v4 i hi), fun i hi => (wrM_o (by omega)).trans (f5 i hi), fun i hi => (o2 _ _ (by omega) (by omega)).trans (v6 i hi), fun i hi => (o2 _ _ (by omega) (by omega)).trans (v7 i hi), fun i hi => wrM_at hi, fun i hi => (o2 _ _ (by omega) (by omega)).trans (v9 i hi)⟩, SnC_fr q3 (fun a i _ _ => o2 a i (by omega) (by omega)), ⟨fun i hi => by rw [o2 _ _ (by omega) (by omega)]; exact q4.1 i hi, fun i hi => by rw [o2 _ _ (by omega) (by omega)]; exact q4.2 i hi⟩, ⟨(o2 _ _ (by omega) (by omega)).trans q5.1, (o2 _ _ (by omega) (by omega)).trans q5.2⟩, fun hi => ⟨RvC_fr (q6 hi).1 (fun a i _ _ => o2 a i (by omega) (by omega)), SnC_fr (q6 hi).2 (fun a i _ _ => o2 a i (by omega) (by omega))⟩⟩
    · unfold hasI
      rw [if_neg h1, if_pos (Decidable.not_not.mp (fun z => h2 ((nI_lep (by omega)).mpr z)))]
  · refine x_bipush (v := (-101)) f_RL_rain_11 rfl ?_
    refine x_ireturn f_RL_rain_13 rfl ?_
    have h := hQ M
    rw [if_pos hx, if_pos hx] at h
    exact h hR (frM_refl _ _ _)
def mkA (s : St) (x y : Int32) : Int32 := if hasI x (s 1 1) = 0 then -101 else if hasI y 5 = 0 then -102 else nI (s 2 x.toNatClampNeg)
def mkS (s : St) (x y : Int32) : St := if hasI x (s 1 1) = 0 then s else if hasI y 5 = 0 then s else sup s 2 (updN (s 2) x.toNatClampNeg y.toNatClampNeg)
theorem Inv_mk {x y : Int32} (h : Inv s) : Inv (mkS s x y) := by
  unfold mkS
  split
  · exact h
  · split
    · exact h
    · next hx hy =>
      obtain ⟨k, hk, rfl⟩ := hasI_of (by omega) (Nat.pos_of_ne_zero hy)
      obtain ⟨a1, a2, a3, ⟨a4, a5, a6⟩, a7⟩ := h
      refine ⟨a1, a2, a3, ⟨a4, fun i hi => ⟨?_, (a5 i hi).2⟩, a6⟩, a7⟩
      show updN (s 2) _ _ i < 5
      unfold updN
      split
      · rw [nI_clamp (by omega)]; omega
      · exact (a5 i hi).1
theorem c_RL_make {x y : Int32} (hI : Inv s) (hR : RelC s M) (hQ : ∀ M1, RelC (mkS s x y) M1 → frM M M1 0 54 → Q M1 (some (.int (mkA s x y)))) : wp X (d + 4) n_RL_make Q 0 [.ref 0, .int x, .int y, .null] [] M := by
  obtain ⟨hn7, hg3, hmo⟩ := Inv_n hI
  obtain ⟨kb, fb, zb, rb, wb, ab⟩ := Inv_k hI
  obtain ⟨p, ⟨v0, v1, v2, v3, v4, v5, v6, v7, v8, v9⟩, q3, q4, q5, q6⟩ := id hR
  unfold mkA mkS at hQ
  refine x_al0 f_RL_make_0 ?_
  refine x_getR f_RL_make_1 rfl rfl ?_
  refine x_il1 f_RL_make_4 ?_
  refine x_cV1i f_RL_make_5 rfl rfl (by decide) (Nat.le_of_ble_eq_true rfl) (Nat.le_of_ble_eq_true rfl) rfl (c_River_hasReach (Or.inl rfl) v0 ⟨_, rfl, ?_⟩)
  refine x_if_neN f_RL_make_8 (by have := hasI_le x (s 1 1); omega) (fun hx => ?_) (fun hx => ?_)
  · have hx0 : ¬ hasI x (s 1 1) = 0 := by omega
    refine x_il2 f_RL_make_14 ?_
    refine x_cS1i f_RL_make_15 (by decide) (Nat.le_of_ble_eq_true rfl) (Nat.le_of_ble_eq_true rfl) rfl (c_RL_isKind ⟨_, rfl, ?_⟩)
    refine x_if_neN f_RL_make_18 (by have := hasI_le y 5; omega) (fun hy => ?_) (fun hy => ?_)
    · have hy0 : ¬ hasI y 5 = 0 := by omega
      rw [if_neg hx0, if_neg hx0, if_neg hy0, if_neg hy0] at hQ
      obtain ⟨j, hj, rfl⟩ := hasI_of (by omega) hx
      obtain ⟨k, hk, rfl⟩ := hasI_of (n := 5) (by omega) hy
      rw [nI_clamp (by omega), nI_clamp (by omega)] at hQ
      have o : ∀ a i, a ≠ 4 → (stM M 4 j (nI k)).1 a i = M.1 a i := fun a i h => stM_ne _ _ (Or.inl h)
      have f5 : ∀ i, i < s 1 1 → (stM M 4 j (nI k)).1 4 i = nI (updN (s 2) j k i) := fun i hi => by
        rw [stM_def]
        unfold updN
        by_cases e : i = j
        · rw [if_pos ⟨rfl, e⟩, if_pos e]
        · rw [if_neg (fun z => e z.2), if_neg e]; exact v4 i hi
      refine x_al0 f_RL_make_24 ?_
      refine x_getR f_RL_make_25 rfl rfl ?_
      refine x_getR f_RL_make_28 rfl rfl ?_
      refine x_il1 f_RL_make_31 ?_
      refine x_ialdV f_RL_make_32 rfl (by omega) (v4 j hj) ?_
      refine x_is3 f_RL_make_33 rfl ?_
      refine x_al0 f_RL_make_34 ?_
      refine x_getR f_RL_make_35 rfl rfl ?_
      refine x_getR f_RL_make_38 rfl rfl ?_
      refine x_il1 f_RL_make_41 ?_
      refine x_il2 f_RL_make_42 ?_
      refine x_iastN f_RL_make_43 rfl (by omega) ?_
      refine x_al0 f_RL_make_44 ?_
      refine x_getR f_RL_make_45 rfl rfl ?_
      refine x_cV0v f_RL_make_48 rfl rfl (by decide) (Nat.le_of_ble_eq_true rfl) (Nat.le_of_ble_eq_true rfl) rfl (c_River_measure (r := 3) (K := updN (s 2) j k) (Or.inl rfl) ((o _ _ (by omega)).trans v0) hn7 f5 (fun i hi => by have := kb i hi; unfold updN; split <;> omega) (fun i hi => (o _ _ (by omega)).trans (v5 i hi)) fb (fun i hi => (o _ _ (by omega)).trans (v7 i hi)) rb ⟨rfl, ?_⟩)
      refine x_il3 f_RL_make_51 ?_
      refine x_ireturn f_RL_make_52 rfl ?_
      refine hQ _ ?_ (frM_wr (frM_st (frM_refl _ _ _) (by omega) (by omega)) (by omega) (by omega))
      have o2 : ∀ a i, a ≠ 4 → a ≠ 8 → (wrM (stM M 4 j (nI k)) (3 + 5) (s 1 1) (wat (s 1 1) (updN (s 2) j k) (s 3) (s 5))).1 a i = M.1 a i := fun a i h h2 => (wrM_o (by omega)).trans (o a i h)
      exact ⟨⟨(o2 _ _ (by omega) (by omega)).trans p.1, fun i hi => (o2 _ _ (by omega) (by omega)).trans (p.2 i hi)⟩, ⟨(o2 _ _ (by omega) (by omega)).trans v0, (o2 _ _ (by omega) (by omega)).trans v1, (o2 _ _ (by omega) (by omega)).trans v2, (o2 _ _ (by omega) (by omega)).trans v3, fun i hi => (wrM_o (by omega)).trans (f5 i hi), fun i hi => (o2 _ _ (by omega) (by omega)).trans (v5 i hi), fun i hi => (o2 _ _ (by omega) (by omega)).trans (v6 i hi), fun i hi => (o2 _ _ (by omega) (by omega)).trans (v7 i hi), fun i hi => wrM_at hi, fun i hi => (o2 _ _ (by omega) (by omega)).trans (v9 i hi)⟩, SnC_fr q3 (fun a i _ _ => o2 a i (by omega) (by omega)), ⟨fun i hi => by rw [o2 _ _ (by omega) (by omega)]; exact q4.1 i hi, fun i hi => by rw [o2 _ _ (by omega) (by omega)]; exact q4.2 i hi⟩, ⟨(o2 _ _ (by omega) (by omega)).trans q5.1, (o2 _ _ (by omega) (by omega)).trans q5.2⟩, fun hi => ⟨RvC_fr (q6 hi).1 (fun a i _ _ => o2 a i (by omega) (by omega)), SnC_fr (q6 hi).2 (fun a i _ _ => o2 a i (by omega) (by omega))⟩⟩
    · refine x_bipush (v := (-102)) f_RL_make_21 rfl ?_
      refine x_ireturn f_RL_make_23 rfl ?_
      have h := hQ M
      rw [if_neg hx0, if_neg hx0, if_pos hy, if_pos hy] at h
      exact h hR (frM_refl _ _ _)
  · refine x_bipush (v := (-101)) f_RL_make_11 rfl ?_
    refine x_ireturn f_RL_make_13 rfl ?_
    have h := hQ M
    rw [if_pos hx, if_pos hx] at h
    exact h hR (frM_refl _ _ _)
def spA (s : St) (x y : Int32) : Int32 := if hasI x (s 1 1) = 0 then -101 else if hasI y 10 = 0 then -102 else nI (s 4 x.toNatClampNeg)
def spS (s : St) (x y : Int32) : St := if hasI x (s 1 1) = 0 then s else if hasI y 10 = 0 then s else sup s 4 (updN (s 4) x.toNatClampNeg y.toNatClampNeg)
theorem Inv_sp {x y : Int32} (h : Inv s) : Inv (spS s x y) := by
  unfold spS
  split
  · exact h
  · split
    · exact h
    · next hx hy =>
      obtain ⟨k, hk, rfl⟩ := hasI_of (by omega) (Nat.pos_of_ne_zero hy)
      obtain ⟨a1, a2, a3, ⟨a4, a5, a6⟩, a7⟩ := h
      refine ⟨a1, a2, a3, ⟨a4, fun i hi => ⟨(a5 i hi).1, (a5 i hi).2.1, ?_⟩, a6⟩, a7⟩
      show updN (s 4) _ _ i ≤ 9
      unfold updN
      split
      · rw [nI_clamp (by omega)]; omega
      · exact (a5 i hi).2.2
theorem c_RL_spoil {x y : Int32} (hI : Inv s) (hR : RelC s M) (hQ : ∀ M1, RelC (spS s x y) M1 → frM M M1 0 54 → Q M1 (some (.int (spA s x y)))) : wp X (d + 4) n_RL_spoil Q 0 [.ref 0, .int x, .int y, .null] [] M := by
  obtain ⟨hn7, hg3, hmo⟩ := Inv_n hI
  obtain ⟨p, ⟨v0, v1, v2, v3, v4, v5, v6, v7, v8, v9⟩, q3, q4, q5, q6⟩ := id hR
  unfold spA spS at hQ
  refine x_al0 f_RL_spoil_0 ?_
  refine x_getR f_RL_spoil_1 rfl rfl ?_
  refine x_il1 f_RL_spoil_4 ?_
  refine x_cV1i f_RL_spoil_5 rfl rfl (by decide) (Nat.le_of_ble_eq_true rfl) (Nat.le_of_ble_eq_true rfl) rfl (c_River_hasReach (Or.inl rfl) v0 ⟨_, rfl, ?_⟩)
  refine x_if_neN f_RL_spoil_8 (by have := hasI_le x (s 1 1); omega) (fun hx => ?_) (fun hx => ?_)
  · have hx0 : ¬ hasI x (s 1 1) = 0 := by omega
    have out : hasI y 10 = 0 → wp X (d + 4) n_RL_spoil Q 24 [.ref 0, .int x, .int y, .null] [] M := by
      intro hy
      refine x_bipush (v := (-102)) f_RL_spoil_24 rfl ?_
      refine x_ireturn f_RL_spoil_26 rfl ?_
      have h := hQ M
      rw [if_neg hx0, if_neg hx0, if_pos hy, if_pos hy] at h
      exact h hR (frM_refl _ _ _)
    refine x_il2 f_RL_spoil_14 ?_
    refine x_if_lt f_RL_spoil_15 (fun h1 => out (by unfold hasI; rw [if_pos h1])) (fun h1 => ?_)
    refine x_il2 f_RL_spoil_18 ?_
    refine x_bipush (v := (nI 9)) f_RL_spoil_19 rfl ?_
    refine x_cmp_le f_RL_spoil_21 (fun h2 => ?_) (fun h2 => out ?_)
    · have hy : hasI y 10 = 1 := by unfold hasI; rw [if_neg h1, if_neg ((nI_lep (by omega)).mp h2)]
      have hy0 : ¬ hasI y 10 = 0 := by omega
      rw [if_neg hx0, if_neg hx0, if_neg hy0, if_neg hy0] at hQ
      obtain ⟨j, hj, rfl⟩ := hasI_of (by omega) hx
      obtain ⟨k, hk, rfl⟩ := hasI_of (n := 10) (by omega) (by omega : 0 < hasI y 10)
      rw [nI_clamp (by omega), nI_clamp (by omega)] at hQ
      have o : ∀ a i, a ≠ 6 → (stM M 6 j (nI k)).1 a i = M.1 a i := fun a i h => stM_ne _ _ (Or.inl h)
      refine x_al0 f_RL_spoil_27 ?_
      refine x_getR f_RL_spoil_28 rfl rfl ?_
      refine x_getR f_RL_spoil_31 rfl rfl ?_
      refine x_il1 f_RL_spoil_34 ?_
      refine x_ialdV f_RL_spoil_35 rfl (by omega) (v6 j hj) ?_
      refine x_is3 f_RL_spoil_36 rfl ?_
      refine x_al0 f_RL_spoil_37 ?_
      refine x_getR f_RL_spoil_38 rfl rfl ?_
      refine x_getR f_RL_spoil_41 rfl rfl ?_
      refine x_il1 f_RL_spoil_44 ?_
      refine x_il2 f_RL_spoil_45 ?_
      refine x_iastN f_RL_spoil_46 rfl (by omega) ?_
      refine x_il3 f_RL_spoil_47 ?_
      refine x_ireturn f_RL_spoil_48 rfl ?_
      refine hQ _ ?_ (frM_st (frM_refl _ _ _) (by omega) (by omega))
      refine ⟨⟨(o _ _ (by omega)).trans p.1, fun i hi => (o _ _ (by omega)).trans (p.2 i hi)⟩, ⟨(o _ _ (by omega)).trans v0, (o _ _ (by omega)).trans v1, (o _ _ (by omega)).trans v2, (o _ _ (by omega)).trans v3, fun i hi => (o _ _ (by omega)).trans (v4 i hi), fun i hi => (o _ _ (by omega)).trans (v5 i hi), fun i hi => ?_, fun i hi => (o _ _ (by omega)).trans (v7 i hi), fun i hi => (o _ _ (by omega)).trans (v8 i hi), fun i hi => (o _ _ (by omega)).trans (v9 i hi)⟩, SnC_fr q3 (fun a i _ _ => o a i (by omega)), ⟨fun i hi => by rw [o _ _ (by omega)]; exact q4.1 i hi, fun i hi => by rw [o _ _ (by omega)]; exact q4.2 i hi⟩, ⟨(o _ _ (by omega)).trans q5.1, (o _ _ (by omega)).trans q5.2⟩, fun hi => ⟨RvC_fr (q6 hi).1 (fun a i _ _ => o a i (by omega)), SnC_fr (q6 hi).2 (fun a i _ _ => o a i (by omega))⟩⟩
      show (stM M 6 j (nI k)).1 6 i = nI (updN (s 4) j k i)
      rw [stM_def]
      unfold updN
      by_cases e : i = j
      · rw [if_pos ⟨rfl, e⟩, if_pos e]
      · rw [if_neg (fun z => e z.2), if_neg e]; exact v6 i hi
    · unfold hasI
      rw [if_neg h1, if_pos (Decidable.not_not.mp (fun z => h2 ((nI_lep (by omega)).mpr z)))]
  · refine x_bipush (v := (-101)) f_RL_spoil_11 rfl ?_
    refine x_ireturn f_RL_spoil_13 rfl ?_
    have h := hQ M
    rw [if_pos hx, if_pos hx] at h
    exact h hR (frM_refl _ _ _)
end
