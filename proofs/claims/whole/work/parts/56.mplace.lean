/-! the reference: places -/
def metN (t : Nat → Nat) : Nat → Nat
  | 0 => 0
  | i + 1 => metN t i ||| 2 ^ (t i)
theorem metN_lt {t : Nat → Nat} : ∀ i, (∀ j, j < i → t j < 7) → metN t i < 2 ^ 7
  | 0, _ => by
    show 0 < 2 ^ 7
    decide
  | i + 1, h => Nat.or_lt_two_pow (metN_lt i (fun j hj => h j (by omega))) (Nat.pow_lt_pow_right (by omega) (h i (by omega)))
theorem met_dst {t : Nat → Nat} {g : Nat} (h1 : 1 ≤ g) (hg : g ≤ 3) (ht : ∀ j, j < g → t j < 7) : (if popN (metN t g) = g then 1 else 0) = dstN t g := by
  rcases (show g = 1 ∨ g = 2 ∨ g = 3 by omega) with rfl | rfl | rfl
  · have a := ht 0 (by omega)
    have e : dstN t 1 = 1 := rfl
    have e2 : metN t 1 = 0 ||| 2 ^ (t 0) := rfl
    rw [e, e2]
    generalize t 0 = u at a
    exact (by decide : ∀ u, u < 7 → (if popN (0 ||| 2 ^ u) = 1 then 1 else 0) = 1) u a
  · have a := ht 0 (by omega)
    have b := ht 1 (by omega)
    have e : dstN t 2 = if (0 + if t 0 = t 1 then 2 ^ 0 else 0) = 0 then 1 else 0 := rfl
    have e2 : metN t 2 = 0 ||| 2 ^ (t 0) ||| 2 ^ (t 1) := rfl
    rw [e, e2]
    generalize t 0 = u at a
    generalize t 1 = v at b
    exact (by decide +kernel : ∀ u, u < 7 → ∀ v, v < 7 → (if popN (0 ||| 2 ^ u ||| 2 ^ v) = 2 then 1 else 0) = if (0 + if u = v then 2 ^ 0 else 0) = 0 then 1 else 0) u a v b
  · have a := ht 0 (by omega)
    have b := ht 1 (by omega)
    have c := ht 2 (by omega)
    have e : dstN t 3 = if ((0 + if t 0 = t 2 then 2 ^ 0 else 0) + if t 1 = t 2 then 2 ^ 1 else 0) = 0 then (if (0 + if t 0 = t 1 then 2 ^ 0 else 0) = 0 then 1 else 0) else 0 := rfl
    have e2 : metN t 3 = 0 ||| 2 ^ (t 0) ||| 2 ^ (t 1) ||| 2 ^ (t 2) := rfl
    rw [e, e2]
    generalize t 0 = u at a
    generalize t 1 = v at b
    generalize t 2 = w at c
    exact (by decide +kernel : ∀ u, u < 7 → ∀ v, v < 7 → ∀ w, w < 7 → (if popN (0 ||| 2 ^ u ||| 2 ^ v ||| 2 ^ w) = 3 then 1 else 0) = if ((0 + if u = w then 2 ^ 0 else 0) + if v = w then 2 ^ 1 else 0) = 0 then (if (0 + if u = v then 2 ^ 0 else 0) = 0 then 1 else 0) else 0) u a v b w c
section
variable {X : (Nat → Int32) × Nat} {d : Nat} {Q : mM → Option Value → Prop} {M : mM} {s : St}
abbrev lyP (s : St) (row : Nat) : Nat → Nat := layN (s 1 1) 0 (s 1 2) (fun _ => 0) row
theorem l_Mo_layPlaces {row : Nat} (hI : Inv s) (hn0 : 0 < s 1 1) (hg1 : 1 ≤ s 1 2) (hr : row < 2 ^ 31) (M0 : mM) (hR : RelM s M0) (hQ : ∀ M1, RelM s M1 → frH M0 M1 → (∀ j, j < s 1 2 → M1.1 64 j = nI (lyP s row j)) → (∀ j, j < s 1 1 → M1.1 63 j = nI (s 4 j)) → Q M1 (some (.int (nI (dstN (lyP s row) (s 1 2)))))) (M : mM) (i : Nat) (hi : i ≤ s 1 2) (o : ∀ a j, a ≠ 63 → a ≠ 64 → M.1 a j = M0.1 a j) (o2 : M.2 = M0.2) (hZ : ∀ j, j < s 1 1 → M.1 63 j = nI (s 4 j)) (ha : ∀ j, j < i → M.1 64 j = nI (lyP s row j)) : wp X (d + 3) n_Mo_layPlaces Q 8 [.ref 55, .int (nI row), .int (nI (metN (lyP s row) i)), .int (nI i)] [] M := by
  obtain ⟨hn7, hg3, hmo⟩ := Inv_n hI
  have hx : ∀ j, j < s 1 2 → lyP s row j = row / s 1 1 ^ (s 1 2 - 1 - j) % s 1 1 := fun j hj => by
    show layN (s 1 1) 0 (s 1 2) (fun _ => 0) row j = _
    unfold layN
    rw [if_pos (by omega), Nat.zero_add]
  have hxl : ∀ j, j < s 1 2 → lyP s row j < 7 := fun j hj => by
    rw [hx j hj]
    have := Nat.mod_lt (row / s 1 1 ^ (s 1 2 - 1 - j)) hn0
    omega
  have hml := metN_lt i (fun j hj => hxl j (by omega))
  refine x_il3 f_Mo_layPlaces_8 ?_
  refine x_al0 f_Mo_layPlaces_9 ?_
  refine x_getIV f_Mo_layPlaces_10 rfl rfl (Or.inl rfl) ((o _ _ (by omega) (by omega)).trans hR.2.1.2.1) ?_
  refine x_cmp_geN f_Mo_layPlaces_13 (by omega) (by omega) (fun h => ?_) (fun h => ?_)
  · have e : i = s 1 2 := by omega
    subst e
    have hq := hQ M (RelM_o hR (fun a j h => o a j (by omega) (by omega))) ⟨fun a j h => o a j (by omega) (by omega), o2⟩ ha hZ
    rw [← met_dst hg1 hg3 hxl] at hq
    have hp := pop_le (metN (lyP s row) (s 1 2)) (by omega)
    refine x_il2 f_Mo_layPlaces_49 ?_
    refine x_cS1i f_Mo_layPlaces_50 (by decide) (Nat.le_of_ble_eq_true rfl) (Nat.le_of_ble_eq_true rfl) rfl (c_Mo_ones (by omega) ⟨_, rfl, ?_⟩)
    refine x_al0 f_Mo_layPlaces_53 ?_
    refine x_getIV f_Mo_layPlaces_54 rfl rfl (Or.inl rfl) ((o _ _ (by omega) (by omega)).trans hR.2.1.2.1) ?_
    refine x_cmp_neN f_Mo_layPlaces_57 (by omega) (by omega) (fun h1 => ?_) (fun h1 => ?_)
    · rw [if_neg h1] at hq
      refine x_iconst (v := (nI 0)) f_Mo_layPlaces_64 rfl ?_
      refine x_zreturn f_Mo_layPlaces_65 rfl (by decide) ?_
      exact hq
    · rw [if_pos h1] at hq
      refine x_iconst (v := (nI 1)) f_Mo_layPlaces_60 rfl ?_
      refine x_goto f_Mo_layPlaces_61 ?_
      refine x_zreturn f_Mo_layPlaces_65 rfl (by decide) ?_
      exact hq
  · have hxi := hxl i h
    refine x_al0 f_Mo_layPlaces_16 ?_
    refine x_getR f_Mo_layPlaces_17 rfl rfl ?_
    refine x_il3 f_Mo_layPlaces_20 ?_
    refine x_al0 f_Mo_layPlaces_21 ?_
    refine x_il1 f_Mo_layPlaces_22 ?_
    refine x_al0 f_Mo_layPlaces_23 ?_
    refine x_getIV f_Mo_layPlaces_24 rfl rfl (Or.inl rfl) ((o _ _ (by omega) (by omega)).trans hR.2.1.2.1) ?_
    refine x_il3 f_Mo_layPlaces_27 ?_
    refine x_cV3i f_Mo_layPlaces_28 rfl rfl (by decide) (Nat.le_of_ble_eq_true rfl) (Nat.le_of_ble_eq_true rfl) rfl (c_Mo_figure hr (by omega) h hn0 hn7 ((o _ _ (by omega) (by omega)).trans hR.2.1.1) ⟨_, rfl, ?_⟩)
    rw [← hx i h]
    refine x_iastN f_Mo_layPlaces_31 rfl (by omega) ?_
    refine x_il2 f_Mo_layPlaces_32 ?_
    refine x_iconst (v := (nI 1)) f_Mo_layPlaces_33 rfl ?_
    refine x_al0 f_Mo_layPlaces_34 ?_
    refine x_getR f_Mo_layPlaces_35 rfl rfl ?_
    refine x_il3 f_Mo_layPlaces_38 ?_
    refine x_ialdV f_Mo_layPlaces_39 rfl (by omega) (stM_at _ _ _ _) ?_
    refine x_shl1N f_Mo_layPlaces_40 (by omega) ?_
    refine x_iorN f_Mo_layPlaces_41 ?_
    refine x_is2 f_Mo_layPlaces_42 rfl ?_
    refine x_incN3 f_Mo_layPlaces_43 rfl ?_
    refine x_goto f_Mo_layPlaces_46 ?_
    refine l_Mo_layPlaces hI hn0 hg1 hr M0 hR hQ _ (i + 1) (by omega) (fun a j x1 x2 => (stM_ne _ _ (by omega)).trans (o a j x1 x2)) o2 (fun j hj => (stM_ne _ _ (by omega)).trans (hZ j hj)) (fun j hj => ?_)
    by_cases e : j = i
    · rw [e, stM_at]
    · rw [stM_ne _ _ (by omega)]; exact ha j (by omega)
termination_by s 1 2 - i
decreasing_by all_goals omega
theorem c_Mo_layPlaces {M : mM} {row : Nat} (hI : Inv s) (hn0 : 0 < s 1 1) (hg1 : 1 ≤ s 1 2) (hr : row < 2 ^ 31) (hR : RelM s M) (hQ : ∀ M1, RelM s M1 → frH M M1 → (∀ j, j < s 1 2 → M1.1 64 j = nI (lyP s row j)) → (∀ j, j < s 1 1 → M1.1 63 j = nI (s 4 j)) → Q M1 (some (.int (nI (dstN (lyP s row) (s 1 2)))))) : wp X (d + 3) n_Mo_layPlaces Q 0 [.ref 55, .int (nI row), .null, .null] [] M := by
  have hn7 := (Inv_n hI).1
  refine x_al0 f_Mo_layPlaces_0 ?_
  refine x_cV0v f_Mo_layPlaces_1 rfl rfl (by decide) (Nat.le_of_ble_eq_true rfl) (Nat.le_of_ble_eq_true rfl) rfl (c_Mo_begin ⟨rfl, ?_⟩)
  refine x_iconst (v := (nI 0)) f_Mo_layPlaces_4 rfl ?_
  refine x_is2 f_Mo_layPlaces_5 rfl ?_
  refine x_iconst (v := (nI 0)) f_Mo_layPlaces_6 rfl ?_
  refine x_is3 f_Mo_layPlaces_7 rfl ?_
  exact l_Mo_layPlaces hI hn0 hg1 hr M hR hQ _ 0 (by omega) (fun a j x1 x2 => (crM_o x2).trans (crM_o x1)) rfl (fun j hj => by rw [crM_o (by omega), crM_at (by omega)]; exact hR.2.2.1.2.2.1 j hj) (fun j hj => absurd hj (Nat.not_lt_zero j))
abbrev scQ (s : St) : Nat → Nat → Nat := pcSc (s 1 1) (s 2) (sW s) (s 4) (s 1 3)
theorem tot_pc {row : Nat} : totN (scQ s) (s 1 1) (lyP s row) (s 1 2) = 100 * fcN (s 2) (sW s) (pmN (s 2) (s 4) (lyP s row) (s 1 2) (s 1 3 + 1)) (s 1 1) + sumN (pmN (s 2) (s 4) (lyP s row) (s 1 2) (s 1 3 + 1)) (s 1 1) := by
  refine tot_sc (fun r hr => ?_)
  show pcSc (s 1 1) (s 2) (sW s) (s 4) (s 1 3) r _ = _
  unfold pcSc
  rw [if_pos hr]
  rfl
def brN (a : Nat × Nat) : Nat := if a.1 = 0 then 0 else a.2 + 1
theorem l_Mo_placeOf {w : Int32} (hI : Inv s) (hn0 : 0 < s 1 1) (hg1 : 1 ≤ s 1 2) (M0 : mM) (hQ : ∀ (M1 : mM) (v5 : Value), RelM s M1 → frH M0 M1 → wp X (d + 4) n_Mo_placeOf Q 94 [.ref 55, .int w, .int (iv (brN (bestN (scQ s) (s 1 1) 1 (s 1 2) (s 1 1 ^ (s 1 2))))), .int (nI (fewN (bestN (scQ s) (s 1 1) 1 (s 1 2) (s 1 1 ^ (s 1 2))))), .int (nI (s 1 1 ^ (s 1 2))), v5] [] M1) (M : mM) (i : Nat) (hi : i ≤ s 1 1 ^ (s 1 2)) (hR : RelM s M) (hf : frH M0 M) (v5 : Value) : wp X (d + 4) n_Mo_placeOf Q 8 [.ref 55, .int w, .int (iv (brN (bestN (scQ s) (s 1 1) 1 (s 1 2) i))), .int (nI (fewN (bestN (scQ s) (s 1 1) 1 (s 1 2) i))), .int (nI i), v5] [] M := by
  obtain ⟨hn7, hg3, hmo⟩ := Inv_n hI
  obtain ⟨kb, fb, zb, rb, wb, ab⟩ := Inv_k hI
  have hp := pow7 hn7 (show s 1 2 ≤ 4 by omega)
  refine x_il4 f_Mo_placeOf_8 ?_
  refine x_al0 f_Mo_placeOf_10 ?_
  refine x_al0 f_Mo_placeOf_11 ?_
  refine x_getIV f_Mo_placeOf_12 rfl rfl (Or.inl rfl) (hR.2.1.2.1) ?_
  refine x_cV1i f_Mo_placeOf_15 rfl rfl (by decide) (Nat.le_of_ble_eq_true rfl) (Nat.le_of_ble_eq_true rfl) rfl (c_Mo_powerOf (by omega) hn7 hR.2.1.1 ⟨_, rfl, ?_⟩)
  refine x_cmp_geN f_Mo_placeOf_18 (by omega) (by omega) (fun h => ?_) (fun h => ?_)
  · have e : i = s 1 1 ^ (s 1 2) := by omega
    subst e
    exact hQ M _ hR hf
  · have hsc : ∀ r b, scQ s r b ≤ 200 := pcSc_le zb
    obtain ⟨b1, b2⟩ := best_le (ap := 1) (m := s 1 2) hsc hn7 i
    have ht := totN_le (t := lyP s i) (i := s 1 2) hsc hn7
    have e1 := best_s (sc := scQ s) (n := s 1 1) (ap := 1) (m := s 1 2) i
    rw [keep2_few ht] at e1
    have hfw : fewN (bestN (scQ s) (s 1 1) 1 (s 1 2) i) ≤ 100000 := by unfold fewN; split <;> omega
    have hdl := dstN_le (lyP s i) (s 1 2)
    have hxl : ∀ j, j < s 1 2 → lyP s i j < s 1 1 := fun j hj => by
      show layN (s 1 1) 0 (s 1 2) (fun _ => 0) i j < s 1 1
      unfold layN
      rw [if_pos (by omega)]
      exact Nat.mod_lt _ hn0
    refine x_al0 f_Mo_placeOf_21 ?_
    refine x_il4 f_Mo_placeOf_22 ?_
    refine x_cV1i f_Mo_placeOf_24 rfl rfl (by decide) (Nat.le_of_ble_eq_true rfl) (Nat.le_of_ble_eq_true rfl) rfl (c_Mo_layPlaces hI hn0 hg1 (by omega) hR (fun M1 r1 f1 t1 z1 => ⟨_, rfl, ?_⟩))
    refine x_if_eqN f_Mo_placeOf_27 (by omega) (fun h1 => ?_) (fun h1 => ?_)
    · rw [if_pos ⟨rfl, h1⟩] at e1
      refine x_incN4 f_Mo_placeOf_88 rfl ?_
      refine x_goto f_Mo_placeOf_91 ?_
      have hh := l_Mo_placeOf hI hn0 hg1 M0 hQ M1 (i + 1) (by omega) r1 (frH_trans hf f1) v5
      rw [e1] at hh
      exact hh
    · rw [if_neg (fun z => by have : dstN (lyP s i) (s 1 2) = 0 := z.2; omega)] at e1
      refine x_al0 f_Mo_placeOf_30 ?_
      refine x_al0 f_Mo_placeOf_31 ?_
      refine x_getIV f_Mo_placeOf_32 rfl rfl (Or.inl rfl) (r1.2.1.2.2.1) ?_
      refine x_iconst (v := (nI 1)) f_Mo_placeOf_35 rfl ?_
      first | refine x_iaddN f_Mo_placeOf_36 ?_ | refine x_iadd f_Mo_placeOf_36 ?_
      refine x_cV1v f_Mo_placeOf_37 rfl rfl (by decide) (Nat.le_of_ble_eq_true rfl) (Nat.le_of_ble_eq_true rfl) rfl (c_Mo_goOn (At := lyP s i) (Z := s 4) (by omega) r1.2.1.1 hn7 r1.2.1.2.1 hg3 r1.2.2.1.1 kb t1 hxl z1 zb ⟨rfl, ?_⟩)
      have r2 := RelM_wr (k := 63) (n := s 1 1) (f := pmN (s 2) (s 4) (lyP s i) (s 1 2) (s 1 3 + 1)) r1 (by omega)
      have f2 := frH_wr (k := 63) (n := s 1 1) (f := pmN (s 2) (s 4) (lyP s i) (s 1 2) (s 1 3 + 1)) (frH_trans hf f1) (by omega)
      have z2 : ∀ j, j < s 1 1 → (wrM M1 63 (s 1 1) (pmN (s 2) (s 4) (lyP s i) (s 1 2) (s 1 3 + 1))).1 63 j = nI (pmN (s 2) (s 4) (lyP s i) (s 1 2) (s 1 3 + 1) j) := fun j hj => wrM_at hj
      generalize (wrM M1 63 (s 1 1) (pmN (s 2) (s 4) (lyP s i) (s 1 2) (s 1 3 + 1))) = M2 at r2 f2 z2
      have zl : ∀ j, j < s 1 1 → pmN (s 2) (s 4) (lyP s i) (s 1 2) (s 1 3 + 1) j ≤ 9 := fun j hj => wafN_le (zb j hj)
      refine x_bipush (v := (nI 100)) f_Mo_placeOf_40 rfl ?_
      refine x_al0 f_Mo_placeOf_42 ?_
      refine x_al0 f_Mo_placeOf_43 ?_
      refine x_getR f_Mo_placeOf_44 rfl rfl ?_
      refine x_cV1i f_Mo_placeOf_47 rfl rfl (by decide) (Nat.le_of_ble_eq_true rfl) (Nat.le_of_ble_eq_true rfl) rfl (c_Mo_floodsBy (kz := 63) rfl (by omega) (RelM_w hI r2) z2 (fun j hj => by have := zl j hj; omega) ⟨_, rfl, ?_⟩)
      have r3 := RelM_wr (k := 62) (n := s 1 1) (f := wat (s 1 1) (s 2) (s 3) (s 5)) r2 (by omega)
      have f3 := frH_wr (k := 62) (n := s 1 1) (f := wat (s 1 1) (s 2) (s 3) (s 5)) f2 (by omega)
      have z3 : ∀ j, j < s 1 1 → (wrM M2 62 (s 1 1) (wat (s 1 1) (s 2) (s 3) (s 5))).1 63 j = nI (pmN (s 2) (s 4) (lyP s i) (s 1 2) (s 1 3 + 1) j) := fun j hj => (wrM_o (by omega)).trans (z2 j hj)
      generalize (wrM M2 62 (s 1 1) (wat (s 1 1) (s 2) (s 3) (s 5))) = M3 at r3 f3 z3
      first | refine x_imulN f_Mo_placeOf_50 ?_ | refine x_imul f_Mo_placeOf_50 ?_
      refine x_al0 f_Mo_placeOf_51 ?_
      refine x_al0 f_Mo_placeOf_52 ?_
      refine x_getR f_Mo_placeOf_53 rfl rfl ?_
      refine x_cV1i f_Mo_placeOf_56 rfl rfl (by decide) (Nat.le_of_ble_eq_true rfl) (Nat.le_of_ble_eq_true rfl) rfl (c_Mo_sumOf (kz := 63) rfl r3.2.1.1 hn7 z3 ⟨_, rfl, ?_⟩)
      first | refine x_iaddN f_Mo_placeOf_59 ?_ | refine x_iadd f_Mo_placeOf_59 ?_
      have ep2 : 100 * fcN (s 2) (wat (s 1 1) (s 2) (s 3) (s 5)) (pmN (s 2) (s 4) (lyP s i) (s 1 2) (s 1 3 + 1)) (s 1 1) + sumN (pmN (s 2) (s 4) (lyP s i) (s 1 2) (s 1 3 + 1)) (s 1 1) = totN (scQ s) (s 1 1) (lyP s i) (s 1 2) := tot_pc.symm
      rw [ep2]
      generalize hP : totN (scQ s) (s 1 1) (lyP s i) (s 1 2) = P at ht e1
      have hh := l_Mo_placeOf hI hn0 hg1 M0 hQ M3 (i + 1) (by omega) r3 f3 (.int (nI P))
      refine x_is5 f_Mo_placeOf_60 rfl ?_
      refine x_il5 f_Mo_placeOf_62 ?_
      refine x_il3 f_Mo_placeOf_64 ?_
      refine x_cmp_geN f_Mo_placeOf_65 (by omega) (by omega) (fun h2 => ?_) (fun h2 => ?_)
      · rw [if_neg (by omega)] at e1
        refine x_il2 f_Mo_placeOf_73 ?_
        refine x_is2 f_Mo_placeOf_74 rfl ?_
        refine x_il5 f_Mo_placeOf_75 ?_
        refine x_il3 f_Mo_placeOf_77 ?_
        refine x_cmp_geN f_Mo_placeOf_78 (by omega) (by omega) (fun _ => ?_) (fun h3 => absurd h3 (by omega))
        refine x_il3 f_Mo_placeOf_86 ?_
        refine x_is3 f_Mo_placeOf_87 rfl ?_
        refine x_incN4 f_Mo_placeOf_88 rfl ?_
        refine x_goto f_Mo_placeOf_91 ?_
        rw [e1] at hh
        exact hh
      · rw [if_pos h2] at e1
        refine x_il4 f_Mo_placeOf_68 ?_
        refine x_goto f_Mo_placeOf_70 ?_
        refine x_is2 f_Mo_placeOf_74 rfl ?_
        refine x_il5 f_Mo_placeOf_75 ?_
        refine x_il3 f_Mo_placeOf_77 ?_
        refine x_cmp_geN f_Mo_placeOf_78 (by omega) (by omega) (fun h3 => absurd h3 (by omega)) (fun _ => ?_)
        refine x_il5 f_Mo_placeOf_81 ?_
        refine x_goto f_Mo_placeOf_83 ?_
        refine x_is3 f_Mo_placeOf_87 rfl ?_
        refine x_incN4 f_Mo_placeOf_88 rfl ?_
        refine x_goto f_Mo_placeOf_91 ?_
        rw [e1] at hh
        exact hh
termination_by s 1 1 ^ (s 1 2) - i
decreasing_by all_goals omega
theorem c_Mo_placeOf {M : mM} {w : Nat} (hI : Inv s) (hR : RelM s M) (hn0 : 0 < s 1 1) (hw : w = 0 ∨ w = 1 ∨ (10 ≤ w ∧ w < 14)) (hQ : ∀ M1, RelM s M1 → frH M M1 → Q M1 (some (.int (tellN (pcD s) (s 1 2) w)))) : wp X (d + 4) n_Mo_placeOf Q 0 [.ref 55, .int (nI w), .null, .null, .null, .null] [] M := by
  obtain ⟨hn7, hg3, hmo⟩ := Inv_n hI
  obtain ⟨kb, fb, zb, rb, wb, ab⟩ := Inv_k hI
  have hg1 : 1 ≤ s 1 2 := by have := hI.2.1; omega
  have hp := pow7 hn7 (show s 1 2 ≤ 4 by omega)
  have hsc : ∀ r b, scQ s r b ≤ 200 := pcSc_le zb
  refine x_iconst (v := (-1)) f_Mo_placeOf_0 rfl ?_
  refine x_is2 f_Mo_placeOf_1 rfl ?_
  refine x_ldc (v := (nI 100000)) f_Mo_placeOf_2 (by decide) ?_
  refine x_is3 f_Mo_placeOf_4 rfl ?_
  refine x_iconst (v := (nI 0)) f_Mo_placeOf_5 rfl ?_
  refine x_is4 f_Mo_placeOf_6 rfl ?_
  refine l_Mo_placeOf hI hn0 hg1 M (fun M1 v5 r1 f1 => ?_) M 0 (Nat.zero_le _) hR (frH_refl _) _
  have hq := hQ M1 r1 f1
  have ed : pcD s = ((bestN (scQ s) (s 1 1) 1 (s 1 2) (s 1 1 ^ (s 1 2))).1, layN (s 1 1) 0 (s 1 2) (fun _ => 0) (bestN (scQ s) (s 1 1) 1 (s 1 2) (s 1 1 ^ (s 1 2))).2) := dfs_best hn0
  rw [ed] at hq
  obtain ⟨b1, b2⟩ := best_le (ap := 1) (m := s 1 2) hsc hn7 (s 1 1 ^ (s 1 2))
  generalize bestN (scQ s) (s 1 1) 1 (s 1 2) (s 1 1 ^ (s 1 2)) = A at hq b1 b2
  unfold tellN at hq
  by_cases bp : A.1 = 0
  · have eb : brN A = 0 := if_pos bp
    rw [if_pos bp] at hq
    rw [eb]
    refine x_il2 f_Mo_placeOf_94 ?_
    refine x_iconst (v := (-1)) f_Mo_placeOf_95 rfl ?_
    refine x_cmp_ne f_Mo_placeOf_96 (fun z => absurd rfl z) (fun _ => ?_)
    refine x_iconst (v := (-1)) f_Mo_placeOf_99 rfl ?_
    refine x_ireturn f_Mo_placeOf_100 rfl ?_
    exact hq
  · have ef : fewN A = A.1 - 1 := if_neg bp
    have eb : brN A = A.2 + 1 := if_neg bp
    rw [ef, eb]
    rw [if_neg bp] at hq
    show wp X (d + 4) n_Mo_placeOf Q 94 [.ref 55, .int (nI w), .int (nI A.2), .int (nI (A.1 - 1)), .int (nI (s 1 1 ^ (s 1 2))), v5] [] M1
    refine x_il2 f_Mo_placeOf_94 ?_
    refine x_iconst (v := (-1)) f_Mo_placeOf_95 rfl ?_
    refine x_cmp_ne f_Mo_placeOf_96 (fun _ => ?_) (fun z => absurd (nI_nem1 (by omega)) z)
    refine x_il1 f_Mo_placeOf_101 ?_
    refine x_iconst (v := (nI 2)) f_Mo_placeOf_102 rfl ?_
    refine x_cmp_geN f_Mo_placeOf_103 (by omega) (by omega) (fun h => ?_) (fun h => ?_)
    · rw [if_neg (by omega), if_neg (by omega)] at hq
      refine x_il1 f_Mo_placeOf_122 ?_
      refine x_bipush (v := (nI 10)) f_Mo_placeOf_123 rfl ?_
      refine x_isubN f_Mo_placeOf_125 (by omega) ?_
      refine x_al0 f_Mo_placeOf_126 ?_
      refine x_getIV f_Mo_placeOf_127 rfl rfl (Or.inl rfl) (r1.2.1.2.1) ?_
      refine x_cmp_geN f_Mo_placeOf_130 (by omega) (by omega) (fun h1 => ?_) (fun h1 => ?_)
      · rw [if_neg (by omega)] at hq
        refine x_iconst (v := (-1)) f_Mo_placeOf_149 rfl ?_
        refine x_ireturn f_Mo_placeOf_150 rfl ?_
        exact hq
      · rw [if_pos h1] at hq
        have el : layN (s 1 1) 0 (s 1 2) (fun _ => 0) A.2 (w - 10) = A.2 / s 1 1 ^ (s 1 2 - 1 - (w - 10)) % s 1 1 := by
          unfold layN
          rw [if_pos (by omega), Nat.zero_add]
        have hq2 : Q M1 (some (.int (nI (layN (s 1 1) 0 (s 1 2) (fun _ => 0) A.2 (w - 10))))) := hq
        rw [el] at hq2
        refine x_al0 f_Mo_placeOf_133 ?_
        refine x_il2 f_Mo_placeOf_134 ?_
        refine x_al0 f_Mo_placeOf_135 ?_
        refine x_getIV f_Mo_placeOf_136 rfl rfl (Or.inl rfl) (r1.2.1.2.1) ?_
        refine x_il1 f_Mo_placeOf_139 ?_
        refine x_bipush (v := (nI 10)) f_Mo_placeOf_140 rfl ?_
        refine x_isubN f_Mo_placeOf_142 (by omega) ?_
        refine x_cV3i f_Mo_placeOf_143 rfl rfl (by decide) (Nat.le_of_ble_eq_true rfl) (Nat.le_of_ble_eq_true rfl) rfl (c_Mo_figure (by omega) (by omega) h1 hn0 hn7 r1.2.1.1 ⟨_, rfl, ?_⟩)
        refine x_goto f_Mo_placeOf_146 ?_
        refine x_ireturn f_Mo_placeOf_150 rfl ?_
        exact hq2
    · refine x_il1 f_Mo_placeOf_106 ?_
      refine x_if_neN f_Mo_placeOf_107 (by omega) (fun h1 => ?_) (fun h1 => ?_)
      · rw [if_neg (by omega), if_pos (by omega)] at hq
        refine x_il3 f_Mo_placeOf_117 ?_
        refine x_bipush (v := (nI 100)) f_Mo_placeOf_118 rfl ?_
        refine x_iremN f_Mo_placeOf_120 (by omega) (by omega) (by omega) ?_
        refine x_ireturn f_Mo_placeOf_121 rfl ?_
        exact hq
      · rw [if_pos h1] at hq
        refine x_il3 f_Mo_placeOf_110 ?_
        refine x_bipush (v := (nI 100)) f_Mo_placeOf_111 rfl ?_
        refine x_idivN f_Mo_placeOf_113 (by omega) (by omega) (by omega) ?_
        refine x_goto f_Mo_placeOf_114 ?_
        refine x_ireturn f_Mo_placeOf_121 rfl ?_
        exact hq
theorem c_Mo_place {y : Int32} (hI : Inv s) (hR : RelM s M) (hQ : ∀ M1, RelM s M1 → frC M M1 → Q M1 (some (.int (pcA s y)))) : wp X (d + 5) n_Mo_place Q 0 [.ref 55, .int y] [] M := by
  have hn7 := (Inv_n hI).1
  unfold pcA at hQ
  have ha := ask_in (y := y) (p := 3) (by omega)
  have ha2 : askN y 3 = if inN y 0 1 = 1 ∨ inN y 10 12 = 1 then 1 else 0 := ha
  have i1 := inN_le y 0 1
  have i2 := inN_le y 10 12
  have yes : askN y 3 = 1 → wp X (d + 5) n_Mo_place Q 27 [.ref 55, .int y] [] M := by
    intro h3
    rw [if_neg (show ¬ askN y 3 = 0 by omega)] at hQ
    refine x_al0 f_Mo_place_27 ?_
    refine x_cV0i f_Mo_place_28 rfl rfl (by decide) (Nat.le_of_ble_eq_true rfl) (Nat.le_of_ble_eq_true rfl) rfl (c_Mo_lacks hn7 hR.2.1.1 ⟨_, rfl, ?_⟩)
    by_cases h0 : s 1 1 = 0
    · rw [if_pos h0] at hQ ⊢
      refine x_if_eqN f_Mo_place_31 (by omega) (fun h => absurd h (by omega)) (fun _ => ?_)
      refine x_bipush (v := (-103)) f_Mo_place_34 rfl ?_
      refine x_goto f_Mo_place_36 ?_
      refine x_ireturn f_Mo_place_44 rfl ?_
      exact hQ M hR (frC_refl _)
    · rw [if_neg h0] at hQ ⊢
      refine x_if_eqN f_Mo_place_31 (by omega) (fun _ => ?_) (fun h => absurd h (by omega))
      obtain ⟨w, rfl, hw⟩ := askN_of (by omega) (by omega : 0 < askN y 3)
      rw [nI_clamp (by omega)] at hQ
      refine x_al0 f_Mo_place_39 ?_
      refine x_il1 f_Mo_place_40 ?_
      refine x_cV1i f_Mo_place_41 rfl rfl (by decide) (Nat.le_of_ble_eq_true rfl) (Nat.le_of_ble_eq_true rfl) rfl (c_Mo_placeOf hI hR (by omega) (by omega) (fun M1 r1 f1 => ⟨_, rfl, ?_⟩))
      refine x_ireturn f_Mo_place_44 rfl ?_
      exact hQ M1 r1 f1.1
  refine x_il1 f_Mo_place_0 ?_
  refine x_i2l f_Mo_place_1 ?_
  refine x_lconst (v := 0) f_Mo_place_2 rfl ?_
  refine x_lconst (v := 1) f_Mo_place_3 rfl ?_
  refine x_cS3i f_Mo_place_4 (by decide) (Nat.le_of_ble_eq_true rfl) (Nat.le_of_ble_eq_true rfl) rfl (c_Mo_in (lo := 0) (hi := 1) (by decide) (by decide) ⟨_, rfl, ?_⟩)
  refine x_if_neN f_Mo_place_7 (by omega) (fun h3 => yes (by rw [ha2, if_pos (Or.inl (by omega))])) (fun h3 => ?_)
  refine x_il1 f_Mo_place_10 ?_
  refine x_i2l f_Mo_place_11 ?_
  refine x_ldc2 (v := 10) f_Mo_place_12 (by decide) ?_
  refine x_ldc2 (v := 12) f_Mo_place_15 (by decide) ?_
  refine x_cS3i f_Mo_place_18 (by decide) (Nat.le_of_ble_eq_true rfl) (Nat.le_of_ble_eq_true rfl) rfl (c_Mo_in (lo := 10) (hi := 12) (by decide) (by decide) ⟨_, rfl, ?_⟩)
  refine x_if_neN f_Mo_place_21 (by omega) (fun h4 => yes (by rw [ha2, if_pos (Or.inr (by omega))])) (fun h4 => ?_)
  rw [if_neg (by omega)] at ha2
  rw [if_pos ha2] at hQ
  refine x_bipush (v := (-102)) f_Mo_place_24 rfl ?_
  refine x_ireturn f_Mo_place_26 rfl ?_
  exact hQ M hR (frC_refl _)
end
