/-! the reference: what is told of a reach -/
theorem in3 (i : Nat) : nI (3 * i) + Int32.ofInt 3 = nI (3 * (i + 1)) := by
  have h : nI (3 * i) + nI 3 = nI (3 * i + 3) := (Int32.ofNat_add _ _).symm
  rw [show 3 * (i + 1) = 3 * i + 3 by omega, ← h]
  rfl
theorem nI_nem1 {n : Nat} (h : n + 1 < 2 ^ 31) : ¬ nI n = -1 := fun z => by have h2 := (iv_eqm1 (e := n + 1) h).mp z; omega
section
variable {X : (Nat → Int32) × Nat} {d : Nat} {Q : mM → Option Value → Prop} {M : mM} {s : St} {n : Nat} {K F Rn W : Nat → Nat}
theorem l_Mo_barge {k0 : Nat} {w : Int32} (hn7 : n ≤ 7) (hW : ∀ i, i < n → M.1 62 i = nI (W i)) (hWb : ∀ i, i < n → W i < 100000) (hR : ∀ i, i < n → M.1 60 i = iv (Rn i)) (hRb : ∀ i, i < n → Rn i ≤ i) : ∀ (f u le ma : Nat), u ≤ f → u ≤ n → le < 100000 → wp X (d + 3) n_Mo_barge Q 61 [.ref 55, .int (nI k0), .int w, .int (nI (if u = 0 then le else min le (pM Rn W f (u - 1)))), .int (nI (if u = 0 then ma else ma + pL Rn f (u - 1))), .int (iv 0)] [] M → wp X (d + 3) n_Mo_barge Q 17 [.ref 55, .int (nI k0), .int w, .int (nI le), .int (nI ma), .int (iv u)] [] M := by
  intro f
  induction f with
  | zero =>
    intro u le ma hu hun hle hQ
    have e : u = 0 := by omega
    subst e
    refine x_il5 f_Mo_barge_17 ?_
    refine x_iconst (v := (-1)) f_Mo_barge_19 rfl ?_
    refine x_cmp_eq f_Mo_barge_20 (fun _ => ?_) (fun hh => absurd (rfl) hh)
    exact hQ
  | succ f ih =>
    intro u le ma hu hun hle hQ
    cases u with
    | zero =>
      refine x_il5 f_Mo_barge_17 ?_
      refine x_iconst (v := (-1)) f_Mo_barge_19 rfl ?_
      refine x_cmp_eq f_Mo_barge_20 (fun _ => ?_) (fun hh => absurd (rfl) hh)
      exact hQ
    | succ t =>
      rw [if_neg (by omega), if_neg (by omega), show t + 1 - 1 = t by omega] at hQ
      have hr := hRb t (by omega)
      have hwt := hWb t (by omega)
      have e2 : pM Rn W (f + 1) t = if Rn t = 0 then W t else min (W t) (pM Rn W f (Rn t - 1)) := rfl
      have e3 : pL Rn (f + 1) t = 1 + if Rn t = 0 then 0 else pL Rn f (Rn t - 1) := rfl
      rw [e2, e3] at hQ
      have fin : ∀ l2, l2 = min le (W t) → wp X (d + 3) n_Mo_barge Q 45 [.ref 55, .int (nI k0), .int w, .int (nI le), .int (nI ma), .int (nI t)] [.int (nI l2)] M := by
        intro l2 hl2
        refine x_is3 f_Mo_barge_45 rfl ?_
        refine x_incN4 f_Mo_barge_46 rfl ?_
        refine x_al0 f_Mo_barge_49 ?_
        refine x_getR f_Mo_barge_50 rfl rfl ?_
        refine x_il5 f_Mo_barge_53 ?_
        refine x_ialdV f_Mo_barge_55 rfl (by omega) (hR t (by omega)) ?_
        refine x_is5 f_Mo_barge_56 rfl ?_
        refine x_goto f_Mo_barge_58 ?_
        refine ih (Rn t) l2 (ma + 1) (by omega) (by omega) (by omega) ?_
        by_cases e0 : Rn t = 0
        · rw [if_pos e0, if_pos e0] at hQ ⊢
          rw [hl2]
          exact hQ
        · rw [if_neg e0, if_neg e0] at hQ ⊢
          rw [hl2, show min (min le (W t)) (pM Rn W f (Rn t - 1)) = min le (min (W t) (pM Rn W f (Rn t - 1))) by omega, show ma + 1 + pL Rn f (Rn t - 1) = ma + (1 + pL Rn f (Rn t - 1)) by omega]
          exact hQ
      show wp X (d + 3) n_Mo_barge Q 17 [.ref 55, .int (nI k0), .int w, .int (nI le), .int (nI ma), .int (nI t)] [] M
      refine x_il5 f_Mo_barge_17 ?_
      refine x_iconst (v := (-1)) f_Mo_barge_19 rfl ?_
      refine x_cmp_eq f_Mo_barge_20 (fun hh => absurd hh (nI_nem1 (by omega))) (fun _ => ?_)
      refine x_al0 f_Mo_barge_23 ?_
      refine x_getR f_Mo_barge_24 rfl rfl ?_
      refine x_il5 f_Mo_barge_27 ?_
      refine x_ialdV f_Mo_barge_29 rfl (by omega) (hW t (by omega)) ?_
      refine x_il3 f_Mo_barge_30 ?_
      refine x_cmp_geN f_Mo_barge_31 (by omega) (by omega) (fun h => ?_) (fun h => ?_)
      · refine x_il3 f_Mo_barge_44 ?_
        exact fin _ (by omega)
      · refine x_al0 f_Mo_barge_34 ?_
        refine x_getR f_Mo_barge_35 rfl rfl ?_
        refine x_il5 f_Mo_barge_38 ?_
        refine x_ialdV f_Mo_barge_40 rfl (by omega) (hW t (by omega)) ?_
        refine x_goto f_Mo_barge_41 ?_
        exact fin _ (by omega)
theorem c_Mo_barge {M : mM} {k w : Nat} (h : MwC M n K F Rn) (hk : k < n) (hw : w ≤ 1) (hQ : Q (wrM M 62 n (wat n K F Rn)) (some (.int (nI (if w = 0 then bgl (wat n K F Rn) k (wbl Rn (k + 1) (2 ^ k)) k else popN (wbl Rn (k + 1) (2 ^ k))))))) : wp X (d + 3) n_Mo_barge Q 0 [.ref 55, .int (nI k), .int (nI w), .null, .null, .null] [] M := by
  obtain ⟨hn, hn7, hK, hKb, hF, hFb, hR, hRb⟩ := id h
  rw [way_L hRb hk hn7, way_M hRb hk] at hQ
  have wb := wat_le (K := K) (Rn := Rn) hn7 hFb
  refine x_al0 f_Mo_barge_0 ?_
  refine x_cV0v f_Mo_barge_1 rfl rfl (by decide) (Nat.le_of_ble_eq_true rfl) (Nat.le_of_ble_eq_true rfl) rfl (c_Mo_layWater h ⟨rfl, ?_⟩)
  refine x_al0 f_Mo_barge_4 ?_
  refine x_getR f_Mo_barge_5 rfl rfl ?_
  refine x_il1 f_Mo_barge_8 ?_
  refine x_ialdV f_Mo_barge_9 rfl (by omega) (wrM_at hk) ?_
  refine x_is3 f_Mo_barge_10 rfl ?_
  refine x_iconst (v := (nI 0)) f_Mo_barge_11 rfl ?_
  refine x_is4 f_Mo_barge_12 rfl ?_
  refine x_il1 f_Mo_barge_14 ?_
  refine x_is5 f_Mo_barge_15 rfl ?_
  refine l_Mo_barge (W := wat n K F Rn) hn7 (fun i hi => wrM_at hi) wb (fun i hi => (wrM_o (by omega)).trans (hR i hi)) hRb (k + 1) (k + 1) (wat n K F Rn k) 0 (by omega) (by omega) (wb k hk) ?_
  rw [if_neg (by omega), if_neg (by omega), show k + 1 - 1 = k by omega, Nat.zero_add]
  have e2 : pM Rn (wat n K F Rn) (k + 1) k = if Rn k = 0 then wat n K F Rn k else min (wat n K F Rn k) (pM Rn (wat n K F Rn) k (Rn k - 1)) := rfl
  have e : min (wat n K F Rn k) (pM Rn (wat n K F Rn) (k + 1) k) = pM Rn (wat n K F Rn) (k + 1) k := by rw [e2]; split <;> omega
  rw [e]
  refine x_il2 f_Mo_barge_61 ?_
  refine x_if_neN f_Mo_barge_62 (by omega) (fun h1 => ?_) (fun h1 => ?_)
  · rw [if_neg (by omega)] at hQ
    refine x_il4 f_Mo_barge_69 ?_
    refine x_ireturn f_Mo_barge_71 rfl ?_
    exact hQ
  · rw [if_pos h1] at hQ
    refine x_il3 f_Mo_barge_65 ?_
    refine x_goto f_Mo_barge_66 ?_
    refine x_ireturn f_Mo_barge_71 rfl ?_
    exact hQ
theorem c_Mo_floodsIf {M : mM} {j q z : Nat} (hI : Inv s) (hR : RelM s M) (hj : j < s 1 1) (hq : q ≤ 20) (hz : z < 10) (hQ : ∀ M1, RelM s M1 → frH M M1 → Q M1 (some (.int (nI (fldN (s 2 j) (sW s j + q) z))))) : wp X (d + 4) n_Mo_floodsIf Q 0 [.ref 55, .int (nI j), .int (nI q), .int (nI z)] [] M := by
  obtain ⟨kb, fb, zb, rb, wb, ab⟩ := Inv_k hI
  have hn7 := (Inv_n hI).1
  have hw := wb j hj
  have hb := fldN_le (s 2 j) (sW s j + q) z
  have q2 := hQ (wrM M 62 (s 1 1) (sW s)) (RelM_wr hR (by omega)) (frH_wr (frH_refl _) (by omega))
  refine x_al0 f_Mo_floodsIf_0 ?_
  refine x_getR f_Mo_floodsIf_1 rfl rfl ?_
  refine x_il1 f_Mo_floodsIf_4 ?_
  refine x_ialdV f_Mo_floodsIf_5 rfl (by omega) (hR.2.2.1.1 j hj) ?_
  refine x_al0 f_Mo_floodsIf_6 ?_
  refine x_il1 f_Mo_floodsIf_7 ?_
  refine x_cV1i f_Mo_floodsIf_8 rfl rfl (by decide) (Nat.le_of_ble_eq_true rfl) (Nat.le_of_ble_eq_true rfl) rfl (c_Mo_waterOf (RelM_w hI hR) hj ⟨_, rfl, ?_⟩)
  refine x_il2 f_Mo_floodsIf_11 ?_
  first | refine x_iaddN f_Mo_floodsIf_12 ?_ | refine x_iadd f_Mo_floodsIf_12 ?_
  refine x_il3 f_Mo_floodsIf_13 ?_
  refine x_cS3i f_Mo_floodsIf_14 (by decide) (Nat.le_of_ble_eq_true rfl) (Nat.le_of_ble_eq_true rfl) rfl (c_Mo_isFlood (kb j hj) (by have h9 : wat (s 1 1) (s 2) (s 3) (s 5) j < 50000 := hw; omega) (by omega) ⟨_, rfl, ?_⟩)
  refine x_if_eqN f_Mo_floodsIf_17 (by have h9 : fldN (s 2 j) (wat (s 1 1) (s 2) (s 3) (s 5) j + q) z ≤ 1 := hb; omega) (fun h => ?_) (fun h => ?_)
  · have h : fldN (s 2 j) (sW s j + q) z = 0 := h
    rw [h] at q2
    refine x_iconst (v := (nI 0)) f_Mo_floodsIf_24 rfl ?_
    refine x_ireturn f_Mo_floodsIf_25 rfl ?_
    exact q2
  · have h : 0 < fldN (s 2 j) (sW s j + q) z := h
    rw [show fldN (s 2 j) (sW s j + q) z = 1 by omega] at q2
    refine x_iconst (v := (nI 1)) f_Mo_floodsIf_20 rfl ?_
    refine x_goto f_Mo_floodsIf_21 ?_
    refine x_ireturn f_Mo_floodsIf_25 rfl ?_
    exact q2
theorem l_Mo_wildsOf2 {j z bb : Nat} (hI : Inv s) (hj : j < s 1 1) (hz : z < 10) (M0 : mM) (hQ : ∀ M1 (v5 : Value), RelM s M1 → frH M0 M1 → wp X (d + 5) n_Mo_wildsOf Q 83 [.ref 55, .int (nI j), .int (nI bb), .int (nI z), .int (nI (agN (s 7) (s 8) (s 9) (s 2 j) (sW s j) j z (s 1 6))), v5] [] M1) (M : mM) (i : Nat) (hi : i ≤ s 1 6) (hR : RelM s M) (hf : frH M0 M) : wp X (d + 5) n_Mo_wildsOf Q 16 [.ref 55, .int (nI j), .int (nI bb), .int (nI z), .int (nI (agN (s 7) (s 8) (s 9) (s 2 j) (sW s j) j z i)), .int (nI (3 * i))] [] M := by
  obtain ⟨sb1, sb2⟩ := Inv_sn hI
  have hn7 := (Inv_n hI).1
  have e1 : agN (s 7) (s 8) (s 9) (s 2 j) (sW s j) j z (i + 1) = if s 7 i = j ∧ fldN (s 2 j) (sW s j + s 8 i) z ≠ s 9 i then 0 else agN (s 7) (s 8) (s 9) (s 2 j) (sW s j) j z i := rfl
  have hle := agN_le (s 7) (s 8) (s 9) (s 2 j) (sW s j) j z i
  refine x_il5 f_Mo_wildsOf_16 ?_
  refine x_iconst (v := (nI 3)) f_Mo_wildsOf_18 rfl ?_
  refine x_al0 f_Mo_wildsOf_19 ?_
  refine x_getIV f_Mo_wildsOf_20 rfl rfl (Or.inl rfl) (hR.2.1.2.2.2.2.2.1) ?_
  first | refine x_imulN f_Mo_wildsOf_23 ?_ | refine x_imul f_Mo_wildsOf_23 ?_
  refine x_cmp_geN f_Mo_wildsOf_24 (by omega) (by omega) (fun h => ?_) (fun h => ?_)
  · have e : i = s 1 6 := by omega
    subst e
    exact hQ M _ hR hf
  · have hi2 : i < s 1 6 := by omega
    obtain ⟨c1, c2, c3⟩ := hR.2.2.2.2.1 i hi2
    obtain ⟨b1, b2, b3⟩ := sb2 i hi2
    have go : ∀ M1, RelM s M1 → frH M M1 → wp X (d + 5) n_Mo_wildsOf Q 77 [.ref 55, .int (nI j), .int (nI bb), .int (nI z), .int (nI (agN (s 7) (s 8) (s 9) (s 2 j) (sW s j) j z (i + 1))), .int (nI (3 * i))] [] M1 := by
      intro M1 r1 f1
      refine x_inc5 f_Mo_wildsOf_77 rfl (in3 i) ?_
      refine x_goto f_Mo_wildsOf_80 ?_
      exact l_Mo_wildsOf2 hI hj hz M0 hQ M1 (i + 1) (by omega) r1 (frH_trans hf f1)
    refine x_al0 f_Mo_wildsOf_27 ?_
    refine x_getR f_Mo_wildsOf_28 rfl rfl ?_
    refine x_il5 f_Mo_wildsOf_31 ?_
    refine x_ialdV f_Mo_wildsOf_33 rfl (by omega) (c1) ?_
    refine x_il1 f_Mo_wildsOf_34 ?_
    refine x_cmp_neN f_Mo_wildsOf_35 (by omega) (by omega) (fun h1 => ?_) (fun h1 => ?_)
    · rw [if_neg (by omega)] at e1
      rw [← e1]
      exact go M hR (frH_refl _)
    · refine x_il4 f_Mo_wildsOf_38 ?_
      refine x_if_eqN f_Mo_wildsOf_40 (by omega) (fun h2 => ?_) (fun h2 => ?_)
      · have e3 : agN (s 7) (s 8) (s 9) (s 2 j) (sW s j) j z (i + 1) = 0 := by rw [e1, h2]; exact ite_self 0
        have hh := go M hR (frH_refl _)
        rw [e3] at hh
        refine x_iconst (v := (nI 0)) f_Mo_wildsOf_74 rfl ?_
        refine x_is4 f_Mo_wildsOf_75 rfl ?_
        exact hh
      · refine x_al0 f_Mo_wildsOf_43 ?_
        refine x_il1 f_Mo_wildsOf_44 ?_
        refine x_al0 f_Mo_wildsOf_45 ?_
        refine x_getR f_Mo_wildsOf_46 rfl rfl ?_
        refine x_il5 f_Mo_wildsOf_49 ?_
        refine x_iconst (v := (nI 1)) f_Mo_wildsOf_51 rfl ?_
        first | refine x_iaddN f_Mo_wildsOf_52 ?_ | refine x_iadd f_Mo_wildsOf_52 ?_
        refine x_ialdV f_Mo_wildsOf_53 rfl (by omega) (c2) ?_
        refine x_il3 f_Mo_wildsOf_54 ?_
        refine x_cV3i f_Mo_wildsOf_55 rfl rfl (by decide) (Nat.le_of_ble_eq_true rfl) (Nat.le_of_ble_eq_true rfl) rfl (c_Mo_floodsIf hI hR hj b2 hz (fun M1 r1 f1 => ⟨_, rfl, ?_⟩))
        have hfl := fldN_le (s 2 j) (sW s j + s 8 i) z
        refine x_al0 f_Mo_wildsOf_58 ?_
        refine x_getR f_Mo_wildsOf_59 rfl rfl ?_
        refine x_il5 f_Mo_wildsOf_62 ?_
        refine x_iconst (v := (nI 2)) f_Mo_wildsOf_64 rfl ?_
        first | refine x_iaddN f_Mo_wildsOf_65 ?_ | refine x_iadd f_Mo_wildsOf_65 ?_
        refine x_ialdV f_Mo_wildsOf_66 rfl (by omega) ((r1.2.2.2.2.1 i hi2).2.2) ?_
        refine x_cmp_neN f_Mo_wildsOf_67 (by omega) (by omega) (fun h3 => ?_) (fun h3 => ?_)
        · have e3 : agN (s 7) (s 8) (s 9) (s 2 j) (sW s j) j z (i + 1) = 0 := by rw [e1, if_pos ⟨h1, h3⟩]
          have hh := go M1 r1 f1
          rw [e3] at hh
          refine x_iconst (v := (nI 0)) f_Mo_wildsOf_74 rfl ?_
          refine x_is4 f_Mo_wildsOf_75 rfl ?_
          exact hh
        · have e3 : agN (s 7) (s 8) (s 9) (s 2 j) (sW s j) j z (i + 1) = 1 := by rw [e1, if_neg (fun z => z.2 h3)]; omega
          have hh := go M1 r1 f1
          rw [e3] at hh
          refine x_iconst (v := (nI 1)) f_Mo_wildsOf_70 rfl ?_
          refine x_goto f_Mo_wildsOf_71 ?_
          refine x_is4 f_Mo_wildsOf_75 rfl ?_
          exact hh
termination_by s 1 6 - i
decreasing_by all_goals omega
theorem l_Mo_wildsOf1 {j : Nat} (hI : Inv s) (hj : j < s 1 1) (M0 : mM) (hQ : ∀ M1, RelM s M1 → frH M0 M1 → Q M1 (some (.int (nI (sWi s j))))) (M : mM) (z : Nat) (hz : z ≤ 10) (hR : RelM s M) (hf : frH M0 M) (v4 v5 : Value) (hv : okst [v4] 1 = true) : wp X (d + 5) n_Mo_wildsOf Q 4 [.ref 55, .int (nI j), .int (nI (wiN (s 7) (s 8) (s 9) (s 1 6) (s 2 j) (sW s j) j z)), .int (nI z), v4, v5] [] M := by
  refine x_il3 f_Mo_wildsOf_4 ?_
  refine x_bipush (v := (nI 10)) f_Mo_wildsOf_5 rfl ?_
  refine x_cmp_geN f_Mo_wildsOf_7 (by omega) (by omega) (fun h => ?_) (fun h => ?_)
  · have e : z = 10 := by omega
    subst e
    refine x_il2 f_Mo_wildsOf_104 ?_
    refine x_ireturn f_Mo_wildsOf_105 rfl ?_
    exact hQ M hR hf
  · have hle := agN_le (s 7) (s 8) (s 9) (s 2 j) (sW s j) j z (s 1 6)
    have hlt : wiN (s 7) (s 8) (s 9) (s 1 6) (s 2 j) (sW s j) j z < 2 ^ z := bitsN_lt (fun z => agN_le _ _ _ _ _ _ z _) z
    have e1 : wiN (s 7) (s 8) (s 9) (s 1 6) (s 2 j) (sW s j) j (z + 1) = wiN (s 7) (s 8) (s 9) (s 1 6) (s 2 j) (sW s j) j z + agN (s 7) (s 8) (s 9) (s 2 j) (sW s j) j z (s 1 6) * 2 ^ z := rfl
    refine x_iconst (v := (nI 1)) f_Mo_wildsOf_10 rfl ?_
    refine x_is4 f_Mo_wildsOf_11 rfl ?_
    refine x_iconst (v := (nI 0)) f_Mo_wildsOf_13 rfl ?_
    refine x_is5 f_Mo_wildsOf_14 rfl ?_
    refine l_Mo_wildsOf2 hI hj h M0 (fun M1 u5 r1 f1 => ?_) M 0 (by omega) hR hf
    refine x_il2 f_Mo_wildsOf_83 ?_
    refine x_il4 f_Mo_wildsOf_84 ?_
    refine x_if_eqN f_Mo_wildsOf_86 (by omega) (fun h1 => ?_) (fun h1 => ?_)
    · refine x_iconst (v := (nI 0)) f_Mo_wildsOf_95 rfl ?_
      refine x_iorN f_Mo_wildsOf_96 ?_
      refine x_is2 f_Mo_wildsOf_97 rfl ?_
      rw [Nat.or_zero]
      have e2 : nI (wiN (s 7) (s 8) (s 9) (s 1 6) (s 2 j) (sW s j) j z) = nI (wiN (s 7) (s 8) (s 9) (s 1 6) (s 2 j) (sW s j) j (z + 1)) := by rw [e1, h1, Nat.zero_mul]; rfl
      rw [e2]
      refine x_incN3 f_Mo_wildsOf_98 rfl ?_
      refine x_goto f_Mo_wildsOf_101 ?_
      exact l_Mo_wildsOf1 hI hj M0 hQ M1 (z + 1) (by omega) r1 f1 _ _ rfl
    · refine x_iconst (v := (nI 1)) f_Mo_wildsOf_89 rfl ?_
      refine x_il3 f_Mo_wildsOf_90 ?_
      refine x_shl1N f_Mo_wildsOf_91 (by omega) ?_
      refine x_goto f_Mo_wildsOf_92 ?_
      refine x_iorN f_Mo_wildsOf_96 ?_
      refine x_is2 f_Mo_wildsOf_97 rfl ?_
      rw [Nat.or_two_pow_eq_add_of_lt hlt]
      rw [show agN (s 7) (s 8) (s 9) (s 2 j) (sW s j) j z (s 1 6) = 1 by omega, Nat.one_mul] at e1
      rw [← e1]
      refine x_incN3 f_Mo_wildsOf_98 rfl ?_
      refine x_goto f_Mo_wildsOf_101 ?_
      exact l_Mo_wildsOf1 hI hj M0 hQ M1 (z + 1) (by omega) r1 f1 _ _ rfl
termination_by 10 - z
decreasing_by all_goals omega
theorem c_Mo_wildsOf {M : mM} {j : Nat} (hI : Inv s) (hR : RelM s M) (hj : j < s 1 1) (hQ : ∀ M1, RelM s M1 → frH M M1 → Q M1 (some (.int (nI (sWi s j))))) : wp X (d + 5) n_Mo_wildsOf Q 0 [.ref 55, .int (nI j), .null, .null, .null, .null] [] M := by
  refine x_iconst (v := (nI 0)) f_Mo_wildsOf_0 rfl ?_
  refine x_is2 f_Mo_wildsOf_1 rfl ?_
  refine x_iconst (v := (nI 0)) f_Mo_wildsOf_2 rfl ?_
  refine x_is3 f_Mo_wildsOf_3 rfl ?_
  exact l_Mo_wildsOf1 hI hj M hQ M 0 (by omega) hR (frH_refl _) _ _ rfl
end
