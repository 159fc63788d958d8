/-! the reference: plans -/
def zsN (K Z At t : Nat → Nat) (g g0 mo : Nat) : Nat → Nat → Nat
  | 0 => Z
  | i + 1 => pmN K (zsN K Z At t g g0 mo i) (updN At g0 (t i)) g (mo + i + 1)
theorem zsN_le {K Z At t : Nat → Nat} {g g0 mo n : Nat} (h : ∀ i, i < n → Z i ≤ 9) : ∀ m i, i < n → zsN K Z At t g g0 mo m i ≤ 9
  | 0, i, hi => h i hi
  | m + 1, i, hi => wafN_le (zsN_le h m i hi)
theorem zs_wbh {K Z At t : Nat → Nat} {g g0 mo r m : Nat} (hg : g ≤ 3) (h0 : g0 < g) : ∀ i, i ≤ m → zsN K Z At t g g0 mo i r = wbhN (K r) (Z r) mo (popN (offN (gbN At r g) g0)) (gbN t r m) i
  | 0, _ => rfl
  | i + 1, hi => by
    show wafN (K r) (zsN K Z At t g g0 mo i r) (mo + i + 1) (popN (gbN (updN At g0 (t i)) r g)) = wafN (K r) (wbhN (K r) (Z r) mo (popN (offN (gbN At r g) g0)) (gbN t r m) i) (mo + 1 + i) (popN (offN (gbN At r g) g0) + gbN t r m / 2 ^ i % 2)
    rw [zs_wbh (m := m) hg h0 i (by omega), oth_pop hg h0, gb_bit m i (by omega), show mo + i + 1 = mo + 1 + i by omega]
theorem scN_eq (k w z : Nat) : scN k w z = 100 * fldN k w z + z := by
  have h := fldN_le k w z
  unfold scN
  split
  · next e => rw [e]; omega
  · rw [show fldN k w z = 1 by omega]
theorem tot_sc {K W Z : Nat → Nat} {n : Nat} {f : Nat → Nat} (h : ∀ r, r < n → f r = scN (K r) (W r) (Z r)) : sumN f n = 100 * fcN K W Z n + sumN Z n := by
  rw [sumN_congr n h]
  have e : (fun r => scN (K r) (W r) (Z r)) = fun r => 100 * fldN (K r) (W r) (Z r) + Z r := funext fun r => scN_eq _ _ _
  rw [e, sumN_add (fun r => 100 * fldN (K r) (W r) (Z r)) Z, sumN_mul]
  rfl
theorem best_s {sc : Nat → Nat → Nat} {n ap m : Nat} (i : Nat) : bestN sc n ap m (i + 1) = if ap = 1 ∧ dstN (layN n 0 m (fun _ => 0) i) m = 0 then bestN sc n ap m i else keep2 (totN sc n (layN n 0 m (fun _ => 0) i) m) i (bestN sc n ap m i) := rfl
theorem best_pos {sc : Nat → Nat → Nat} {n m : Nat} : ∀ i, 0 < i → (bestN sc n 0 m i).1 ≠ 0
  | 0, h => by omega
  | i + 1, _ => by
    rw [best_s, if_neg (fun z => absurd z.1 (by omega))]
    unfold keep2
    split
    · exact Nat.succ_ne_zero _
    · next h => exact fun z => h (Or.inl z)
theorem best_le {sc : Nat → Nat → Nat} {n ap m : Nat} (hsc : ∀ r b, sc r b ≤ 200) (hn : n ≤ 7) : ∀ i, (bestN sc n ap m i).1 ≤ 1401 ∧ (bestN sc n ap m i).2 ≤ i
  | 0 => ⟨Nat.zero_le _, Nat.zero_le _⟩
  | i + 1 => by
    obtain ⟨h1, h2⟩ := best_le (ap := ap) (m := m) hsc hn i
    have ht := totN_le (t := layN n 0 m (fun _ => 0) i) (i := m) hsc hn
    have e1 : bestN sc n ap m (i + 1) = if ap = 1 ∧ dstN (layN n 0 m (fun _ => 0) i) m = 0 then bestN sc n ap m i else keep2 (totN sc n (layN n 0 m (fun _ => 0) i) m) i (bestN sc n ap m i) := rfl
    rw [e1]
    split
    · exact ⟨h1, by omega⟩
    · unfold keep2
      split
      · exact ⟨by show totN sc n (layN n 0 m (fun _ => 0) i) m + 1 ≤ 1401; omega, by show i ≤ i + 1; omega⟩
      · exact ⟨h1, by omega⟩
section
variable {X : (Nat → Int32) × Nat} {d : Nat} {Q : mM → Option Value → Prop} {M : mM} {s : St} {n : Nat}
theorem pow7 {n m : Nat} (hn : n ≤ 7) (hm : m ≤ 4) : n ^ m ≤ 2401 := by
  have h1 : n ^ m ≤ 7 ^ m := Nat.pow_le_pow_left hn m
  have h2 : 7 ^ m ≤ 7 ^ 4 := Nat.pow_le_pow_right (by omega) hm
  omega
theorem l_Mo_powerOf {m : Nat} (hm : m ≤ 4) (hn7 : n ≤ 7) (hn : M.1 55 3 = nI n) (hQ : Q M (some (.int (nI (n ^ m))))) (i : Nat) (hi : i ≤ m) : wp X (d + 1) n_Mo_powerOf Q 4 [.ref 55, .int (nI m), .int (nI (n ^ i)), .int (nI i)] [] M := by
  refine x_il3 f_Mo_powerOf_4 ?_
  refine x_il1 f_Mo_powerOf_5 ?_
  refine x_cmp_geN f_Mo_powerOf_6 (by omega) (by omega) (fun h => ?_) (fun h => ?_)
  · have e : i = m := by omega
    subst e
    refine x_il2 f_Mo_powerOf_22 ?_
    refine x_ireturn f_Mo_powerOf_23 rfl ?_
    exact hQ
  · refine x_il2 f_Mo_powerOf_9 ?_
    refine x_al0 f_Mo_powerOf_10 ?_
    refine x_getIV f_Mo_powerOf_11 rfl rfl (Or.inl rfl) (hn) ?_
    first | refine x_imulN f_Mo_powerOf_14 ?_ | refine x_imul f_Mo_powerOf_14 ?_
    refine x_is2 f_Mo_powerOf_15 rfl ?_
    refine x_incN3 f_Mo_powerOf_16 rfl ?_
    refine x_goto f_Mo_powerOf_19 ?_
    exact l_Mo_powerOf hm hn7 hn hQ (i + 1) (by omega)
termination_by m - i
decreasing_by all_goals omega
theorem c_Mo_powerOf {M : mM} {m : Nat} (hm : m ≤ 4) (hn7 : n ≤ 7) (hn : M.1 55 3 = nI n) (hQ : Q M (some (.int (nI (n ^ m))))) : wp X (d + 1) n_Mo_powerOf Q 0 [.ref 55, .int (nI m), .null, .null] [] M := by
  refine x_iconst (v := (nI 1)) f_Mo_powerOf_0 rfl ?_
  refine x_is2 f_Mo_powerOf_1 rfl ?_
  refine x_iconst (v := (nI 0)) f_Mo_powerOf_2 rfl ?_
  refine x_is3 f_Mo_powerOf_3 rfl ?_
  exact l_Mo_powerOf hm hn7 hn hQ 0 (by omega)
theorem l_Mo_figure {row m j : Nat} (hr : row < 2 ^ 31) (hm : m ≤ 4) (hj : j < m) (hn0 : 0 < n) (hn7 : n ≤ 7) (hn : M.1 55 3 = nI n) (hQ : Q M (some (.int (nI (row / n ^ (m - 1 - j) % n))))) (k : Nat) (hk : j + 1 + k ≤ m) : wp X (d + 1) n_Mo_figure Q 8 [.ref 55, .int (nI row), .int (nI m), .int (nI j), .int (nI (row / n ^ k)), .int (nI (j + 1 + k))] [] M := by
  have hd : row / n ^ k ≤ row := Nat.div_le_self _ _
  refine x_il5 f_Mo_figure_8 ?_
  refine x_il2 f_Mo_figure_10 ?_
  refine x_cmp_geN f_Mo_figure_11 (by omega) (by omega) (fun h => ?_) (fun h => ?_)
  · have e : k = m - 1 - j := by omega
    rw [← e] at hQ
    refine x_il4 f_Mo_figure_29 ?_
    refine x_al0 f_Mo_figure_31 ?_
    refine x_getIV f_Mo_figure_32 rfl rfl (Or.inl rfl) (hn) ?_
    refine x_iremN f_Mo_figure_35 (by omega) (by omega) (by omega) ?_
    refine x_ireturn f_Mo_figure_36 rfl ?_
    exact hQ
  · refine x_il4 f_Mo_figure_14 ?_
    refine x_al0 f_Mo_figure_16 ?_
    refine x_getIV f_Mo_figure_17 rfl rfl (Or.inl rfl) (hn) ?_
    refine x_idivN f_Mo_figure_20 (by omega) (by omega) (by omega) ?_
    refine x_is4 f_Mo_figure_21 rfl ?_
    refine x_incN5 f_Mo_figure_23 rfl ?_
    refine x_goto f_Mo_figure_26 ?_
    rw [Nat.div_div_eq_div_mul, ← Nat.pow_succ]
    exact l_Mo_figure hr hm hj hn0 hn7 hn hQ (k + 1) (by omega)
termination_by m - k
decreasing_by all_goals omega
theorem c_Mo_figure {M : mM} {row m j : Nat} (hr : row < 2 ^ 31) (hm : m ≤ 4) (hj : j < m) (hn0 : 0 < n) (hn7 : n ≤ 7) (hn : M.1 55 3 = nI n) (hQ : Q M (some (.int (nI (row / n ^ (m - 1 - j) % n))))) : wp X (d + 1) n_Mo_figure Q 0 [.ref 55, .int (nI row), .int (nI m), .int (nI j), .null, .null] [] M := by
  refine x_il1 f_Mo_figure_0 ?_
  refine x_is4 f_Mo_figure_1 rfl ?_
  refine x_il3 f_Mo_figure_3 ?_
  refine x_iconst (v := (nI 1)) f_Mo_figure_4 rfl ?_
  first | refine x_iaddN f_Mo_figure_5 ?_ | refine x_iadd f_Mo_figure_5 ?_
  refine x_is5 f_Mo_figure_6 rfl ?_
  have h := l_Mo_figure (X := X) (d := d) hr hm hj hn0 hn7 hn hQ 0 (by omega)
  rw [Nat.pow_zero, Nat.div_one] at h
  exact h
theorem l_Mo_goRow {g0 m row : Nat} (hI : Inv s) (hg : g0 < s 1 2) (hm : m ≤ 4) (hr : row < 2 ^ 31) (M0 : mM) (hR : RelM s M0) (hQ : ∀ M1, RelM s M1 → frH M0 M1 → (∀ i, i < s 1 1 → M1.1 63 i = nI (zsN (s 2) (s 4) (s 6) (layN (s 1 1) 0 m (fun _ => 0) row) (s 1 2) g0 (s 1 3) m i)) → Q M1 none) (M : mM) (i : Nat) (hi : i ≤ m) (o : ∀ a j, a ≠ 63 → a ≠ 64 → M.1 a j = M0.1 a j) (o2 : M.2 = M0.2) (hZ : ∀ j, j < s 1 1 → M.1 63 j = nI (zsN (s 2) (s 4) (s 6) (layN (s 1 1) 0 m (fun _ => 0) row) (s 1 2) g0 (s 1 3) i j)) (ha : ∀ j, j < s 1 2 → j ≠ g0 → M.1 64 j = nI (s 6 j)) : wp X (d + 3) n_Mo_goRow Q 7 [.ref 55, .int (nI g0), .int (nI row), .int (nI m), .int (nI i)] [] M := by
  obtain ⟨hn7, hg3, hmo⟩ := Inv_n hI
  obtain ⟨kb, fb, zb, rb, wb, ab⟩ := Inv_k hI
  have hn0 : 0 < s 1 1 := by have := ab g0 hg; omega
  refine x_il4 f_Mo_goRow_7 ?_
  refine x_il3 f_Mo_goRow_9 ?_
  refine x_cmp_geN f_Mo_goRow_10 (by omega) (by omega) (fun h => ?_) (fun h => ?_)
  · have e : i = m := by omega
    subst e
    refine x_return f_Mo_goRow_46 rfl ?_
    exact hQ M (RelM_o hR (fun a j h => o a j (by omega) (by omega))) ⟨fun a j h => o a j (by omega) (by omega), o2⟩ hZ
  · refine x_al0 f_Mo_goRow_13 ?_
    refine x_getR f_Mo_goRow_14 rfl rfl ?_
    refine x_il1 f_Mo_goRow_17 ?_
    refine x_al0 f_Mo_goRow_18 ?_
    refine x_il2 f_Mo_goRow_19 ?_
    refine x_il3 f_Mo_goRow_20 ?_
    refine x_il4 f_Mo_goRow_21 ?_
    refine x_cV3i f_Mo_goRow_23 rfl rfl (by decide) (Nat.le_of_ble_eq_true rfl) (Nat.le_of_ble_eq_true rfl) rfl (c_Mo_figure hr hm h hn0 hn7 ((o _ _ (by omega) (by omega)).trans hR.2.1.1) ⟨_, rfl, ?_⟩)
    refine x_iastN f_Mo_goRow_26 rfl (by omega) ?_
    have hx : row / s 1 1 ^ (m - 1 - i) % s 1 1 = layN (s 1 1) 0 m (fun _ => 0) row i := by
      unfold layN
      rw [if_pos (by omega), Nat.zero_add]
    have hxl : row / s 1 1 ^ (m - 1 - i) % s 1 1 < s 1 1 := Nat.mod_lt _ hn0
    rw [hx] at hxl ⊢
    have o1 : ∀ a j, (a ≠ 64 ∨ j ≠ g0) → (stM M 64 g0 (nI (layN (s 1 1) 0 m (fun _ => 0) row i))).1 a j = M.1 a j := fun a j hh => stM_ne _ _ hh
    have a1 : ∀ j, j < s 1 2 → (stM M 64 g0 (nI (layN (s 1 1) 0 m (fun _ => 0) row i))).1 64 j = nI (updN (s 6) g0 (layN (s 1 1) 0 m (fun _ => 0) row i) j) := fun j hj => by
      unfold updN
      by_cases e : j = g0
      · rw [if_pos e, e, stM_at]
      · rw [if_neg e, o1 _ _ (by omega)]; exact ha j hj e
    have q1 : (stM M 64 g0 (nI (layN (s 1 1) 0 m (fun _ => 0) row i))).2 = M.2 := rfl
    generalize (stM M 64 g0 (nI (layN (s 1 1) 0 m (fun _ => 0) row i))) = M1 at o1 a1 q1
    refine x_al0 f_Mo_goRow_27 ?_
    refine x_al0 f_Mo_goRow_28 ?_
    refine x_getIV f_Mo_goRow_29 rfl rfl (Or.inl rfl) ((o1 _ _ (by omega)).trans ((o _ _ (by omega) (by omega)).trans hR.2.1.2.2.1)) ?_
    refine x_il4 f_Mo_goRow_32 ?_
    first | refine x_iaddN f_Mo_goRow_34 ?_ | refine x_iadd f_Mo_goRow_34 ?_
    refine x_iconst (v := (nI 1)) f_Mo_goRow_35 rfl ?_
    first | refine x_iaddN f_Mo_goRow_36 ?_ | refine x_iadd f_Mo_goRow_36 ?_
    refine x_cV1v f_Mo_goRow_37 rfl rfl (by decide) (Nat.le_of_ble_eq_true rfl) (Nat.le_of_ble_eq_true rfl) rfl (c_Mo_goOn (At := updN (s 6) g0 (layN (s 1 1) 0 m (fun _ => 0) row i)) (Z := zsN (s 2) (s 4) (s 6) (layN (s 1 1) 0 m (fun _ => 0) row) (s 1 2) g0 (s 1 3) i) (by omega) ((o1 _ _ (by omega)).trans ((o _ _ (by omega) (by omega)).trans hR.2.1.1)) hn7 ((o1 _ _ (by omega)).trans ((o _ _ (by omega) (by omega)).trans hR.2.1.2.1)) hg3 (fun j hj => (o1 _ _ (by omega)).trans ((o _ _ (by omega) (by omega)).trans (hR.2.2.1.1 j hj))) kb a1 (fun j hj => by have := ab j hj; unfold updN; split <;> omega) (fun j hj => (o1 _ _ (by omega)).trans (hZ j hj)) (zsN_le zb i) ⟨rfl, ?_⟩)
    refine x_incN4 f_Mo_goRow_40 rfl ?_
    refine x_goto f_Mo_goRow_43 ?_
    exact l_Mo_goRow hI hg hm hr M0 hR hQ _ (i + 1) (by omega) (fun a j x1 x2 => (wrM_o x1).trans ((o1 a j (by omega)).trans (o a j x1 x2))) (q1.trans o2) (fun j hj => wrM_at hj) (fun j hj x => (wrM_o (by omega)).trans ((o1 _ _ (by omega)).trans (ha j hj x)))
termination_by m - i
decreasing_by all_goals omega
theorem c_Mo_goRow {M : mM} {g0 m row : Nat} (hI : Inv s) (hR : RelM s M) (hg : g0 < s 1 2) (hm : m ≤ 4) (hr : row < 2 ^ 31) (hQ : ∀ M1, RelM s M1 → frH M M1 → (∀ i, i < s 1 1 → M1.1 63 i = nI (zsN (s 2) (s 4) (s 6) (layN (s 1 1) 0 m (fun _ => 0) row) (s 1 2) g0 (s 1 3) m i)) → Q M1 none) : wp X (d + 3) n_Mo_goRow Q 0 [.ref 55, .int (nI g0), .int (nI row), .int (nI m), .null] [] M := by
  obtain ⟨hn7, hg3, hmo⟩ := Inv_n hI
  refine x_al0 f_Mo_goRow_0 ?_
  refine x_cV0v f_Mo_goRow_1 rfl rfl (by decide) (Nat.le_of_ble_eq_true rfl) (Nat.le_of_ble_eq_true rfl) rfl (c_Mo_begin ⟨rfl, ?_⟩)
  refine x_iconst (v := (nI 0)) f_Mo_goRow_4 rfl ?_
  refine x_is4 f_Mo_goRow_5 rfl ?_
  exact l_Mo_goRow hI hg hm hr M hR hQ _ 0 (by omega) (fun a j x1 x2 => (crM_o x2).trans (crM_o x1)) rfl (fun j hj => by rw [crM_o (by omega), crM_at (by omega)]; exact hR.2.2.1.2.2.1 j hj) (fun j hj _ => by rw [crM_at (by omega), crM_o (by omega)]; exact hR.2.2.1.2.2.2 j hj)
def fewN (a : Nat × Nat) : Nat := if a.1 = 0 then 100000 else a.1 - 1
theorem keep2_few {p row : Nat} {a : Nat × Nat} (hp : p ≤ 1400) : keep2 p row a = if p < fewN a then (p + 1, row) else a := by
  unfold keep2 fewN
  by_cases c : a.1 = 0
  · rw [if_pos (Or.inl c), if_pos c, if_pos (by omega)]
  · rw [if_neg c]
    by_cases q : p < a.1 - 1
    · rw [if_pos (Or.inr q), if_pos q]
    · rw [if_neg (by omega), if_neg q]
abbrev scP (s : St) (g0 m : Nat) : Nat → Nat → Nat := plSc (s 1 1) (s 2) (sW s) (s 4) (s 6) (s 1 2) g0 (s 1 3) m
theorem tot_pl {g0 m row : Nat} (hI : Inv s) (hg : g0 < s 1 2) : totN (scP s g0 m) (s 1 1) (layN (s 1 1) 0 m (fun _ => 0) row) m = 100 * fcN (s 2) (sW s) (zsN (s 2) (s 4) (s 6) (layN (s 1 1) 0 m (fun _ => 0) row) (s 1 2) g0 (s 1 3) m) (s 1 1) + sumN (zsN (s 2) (s 4) (s 6) (layN (s 1 1) 0 m (fun _ => 0) row) (s 1 2) g0 (s 1 3) m) (s 1 1) := by
  refine tot_sc (fun r hr => ?_)
  show plSc (s 1 1) (s 2) (sW s) (s 4) (s 6) (s 1 2) g0 (s 1 3) m r _ = _
  unfold plSc
  rw [if_pos hr, ← zs_wbh (m := m) (Inv_n hI).2.1 hg m (Nat.le_refl _)]
theorem l_Mo_planOf {g0 m : Nat} {w : Int32} (hI : Inv s) (hg : g0 < s 1 2) (hm : m ≤ 4) (M0 : mM) (hQ : ∀ (M1 : mM) (v7 : Value), RelM s M1 → frH M0 M1 → wp X (d + 4) n_Mo_planOf Q 88 [.ref 55, .int (nI g0), .int (nI m), .int w, .int (nI (bestN (scP s g0 m) (s 1 1) 0 m (s 1 1 ^ m)).2), .int (nI (fewN (bestN (scP s g0 m) (s 1 1) 0 m (s 1 1 ^ m)))), .int (nI (s 1 1 ^ m)), v7] [] M1) (M : mM) (i : Nat) (hi : i ≤ s 1 1 ^ m) (hR : RelM s M) (hf : frH M0 M) (v7 : Value) : wp X (d + 4) n_Mo_planOf Q 10 [.ref 55, .int (nI g0), .int (nI m), .int w, .int (nI (bestN (scP s g0 m) (s 1 1) 0 m i).2), .int (nI (fewN (bestN (scP s g0 m) (s 1 1) 0 m i))), .int (nI i), v7] [] M := by
  obtain ⟨hn7, hg3, hmo⟩ := Inv_n hI
  obtain ⟨kb, fb, zb, rb, wb, ab⟩ := Inv_k hI
  have hp := pow7 hn7 hm
  refine x_il6 f_Mo_planOf_10 ?_
  refine x_al0 f_Mo_planOf_12 ?_
  refine x_il2 f_Mo_planOf_13 ?_
  refine x_cV1i f_Mo_planOf_14 rfl rfl (by decide) (Nat.le_of_ble_eq_true rfl) (Nat.le_of_ble_eq_true rfl) rfl (c_Mo_powerOf hm hn7 hR.2.1.1 ⟨_, rfl, ?_⟩)
  refine x_cmp_geN f_Mo_planOf_17 (by omega) (by omega) (fun h => ?_) (fun h => ?_)
  · have e : i = s 1 1 ^ m := by omega
    subst e
    exact hQ M _ hR hf
  · have hsc : ∀ r b, scP s g0 m r b ≤ 200 := plSc_le zb
    obtain ⟨b1, b2⟩ := best_le (ap := 0) (m := m) hsc hn7 i
    have ht := totN_le (t := layN (s 1 1) 0 m (fun _ => 0) i) (i := m) hsc hn7
    have e1 : bestN (scP s g0 m) (s 1 1) 0 m (i + 1) = if totN (scP s g0 m) (s 1 1) (layN (s 1 1) 0 m (fun _ => 0) i) m < fewN (bestN (scP s g0 m) (s 1 1) 0 m i) then (totN (scP s g0 m) (s 1 1) (layN (s 1 1) 0 m (fun _ => 0) i) m + 1, i) else bestN (scP s g0 m) (s 1 1) 0 m i := by
      rw [← keep2_few ht, best_s, if_neg (fun z => absurd z.1 (by omega))]
    have hfw : fewN (bestN (scP s g0 m) (s 1 1) 0 m i) ≤ 100000 := by unfold fewN; split <;> omega
    refine x_al0 f_Mo_planOf_20 ?_
    refine x_il1 f_Mo_planOf_21 ?_
    refine x_il6 f_Mo_planOf_22 ?_
    refine x_il2 f_Mo_planOf_24 ?_
    refine x_cV3v f_Mo_planOf_25 rfl rfl (by decide) (Nat.le_of_ble_eq_true rfl) (Nat.le_of_ble_eq_true rfl) rfl (c_Mo_goRow hI hR hg hm (by omega) (fun M1 r1 f1 z1 => ⟨rfl, ?_⟩))
    have zl := zsN_le (K := s 2) (At := s 6) (t := layN (s 1 1) 0 m (fun _ => 0) i) (g := s 1 2) (g0 := g0) (mo := s 1 3) zb m
    refine x_bipush (v := (nI 100)) f_Mo_planOf_28 rfl ?_
    refine x_al0 f_Mo_planOf_30 ?_
    refine x_al0 f_Mo_planOf_31 ?_
    refine x_getR f_Mo_planOf_32 rfl rfl ?_
    refine x_cV1i f_Mo_planOf_35 rfl rfl (by decide) (Nat.le_of_ble_eq_true rfl) (Nat.le_of_ble_eq_true rfl) rfl (c_Mo_floodsBy (kz := 63) rfl (by omega) (RelM_w hI r1) z1 (fun j hj => by have := zl j hj; omega) ⟨_, rfl, ?_⟩)
    have r2 := RelM_wr (k := 62) (n := s 1 1) (f := wat (s 1 1) (s 2) (s 3) (s 5)) r1 (by omega)
    have f2 := frH_wr (k := 62) (n := s 1 1) (f := wat (s 1 1) (s 2) (s 3) (s 5)) (frH_trans hf f1) (by omega)
    have z2 : ∀ j, j < s 1 1 → (wrM M1 62 (s 1 1) (wat (s 1 1) (s 2) (s 3) (s 5))).1 63 j = nI (zsN (s 2) (s 4) (s 6) (layN (s 1 1) 0 m (fun _ => 0) i) (s 1 2) g0 (s 1 3) m j) := fun j hj => (wrM_o (by omega)).trans (z1 j hj)
    generalize (wrM M1 62 (s 1 1) (wat (s 1 1) (s 2) (s 3) (s 5))) = M2 at r2 f2 z2
    first | refine x_imulN f_Mo_planOf_38 ?_ | refine x_imul f_Mo_planOf_38 ?_
    refine x_al0 f_Mo_planOf_39 ?_
    refine x_al0 f_Mo_planOf_40 ?_
    refine x_getR f_Mo_planOf_41 rfl rfl ?_
    refine x_cV1i f_Mo_planOf_44 rfl rfl (by decide) (Nat.le_of_ble_eq_true rfl) (Nat.le_of_ble_eq_true rfl) rfl (c_Mo_sumOf (kz := 63) rfl r2.2.1.1 hn7 z2 ⟨_, rfl, ?_⟩)
    first | refine x_iaddN f_Mo_planOf_47 ?_ | refine x_iadd f_Mo_planOf_47 ?_
    have ep := tot_pl (row := i) (m := m) hI hg
    have ep2 : 100 * fcN (s 2) (wat (s 1 1) (s 2) (s 3) (s 5)) (zsN (s 2) (s 4) (s 6) (layN (s 1 1) 0 m (fun _ => 0) i) (s 1 2) g0 (s 1 3) m) (s 1 1) + sumN (zsN (s 2) (s 4) (s 6) (layN (s 1 1) 0 m (fun _ => 0) i) (s 1 2) g0 (s 1 3) m) (s 1 1) = totN (scP s g0 m) (s 1 1) (layN (s 1 1) 0 m (fun _ => 0) i) m := ep.symm
    rw [ep2]
    generalize totN (scP s g0 m) (s 1 1) (layN (s 1 1) 0 m (fun _ => 0) i) m = P at ht e1
    have hh := l_Mo_planOf hI hg hm M0 hQ M2 (i + 1) (by omega) r2 f2 (.int (nI P))
    refine x_is7 f_Mo_planOf_48 rfl ?_
    refine x_il7 f_Mo_planOf_50 ?_
    refine x_il5 f_Mo_planOf_52 ?_
    refine x_cmp_geN f_Mo_planOf_54 (by omega) (by omega) (fun h1 => ?_) (fun h1 => ?_)
    · rw [if_neg (by omega)] at e1
      refine x_il4 f_Mo_planOf_62 ?_
      refine x_is4 f_Mo_planOf_64 rfl ?_
      refine x_il7 f_Mo_planOf_66 ?_
      refine x_il5 f_Mo_planOf_68 ?_
      refine x_cmp_geN f_Mo_planOf_70 (by omega) (by omega) (fun _ => ?_) (fun h2 => absurd h2 (by omega))
      refine x_il5 f_Mo_planOf_78 ?_
      refine x_is5 f_Mo_planOf_80 rfl ?_
      refine x_incN6 f_Mo_planOf_82 rfl ?_
      refine x_goto f_Mo_planOf_85 ?_
      rw [e1] at hh
      exact hh
    · rw [if_pos h1] at e1
      refine x_il6 f_Mo_planOf_57 ?_
      refine x_goto f_Mo_planOf_59 ?_
      refine x_is4 f_Mo_planOf_64 rfl ?_
      refine x_il7 f_Mo_planOf_66 ?_
      refine x_il5 f_Mo_planOf_68 ?_
      refine x_cmp_geN f_Mo_planOf_70 (by omega) (by omega) (fun h2 => absurd h2 (by omega)) (fun _ => ?_)
      refine x_il7 f_Mo_planOf_73 ?_
      refine x_goto f_Mo_planOf_75 ?_
      refine x_is5 f_Mo_planOf_80 rfl ?_
      refine x_incN6 f_Mo_planOf_82 rfl ?_
      refine x_goto f_Mo_planOf_85 ?_
      rw [e1] at hh
      exact hh
termination_by s 1 1 ^ m - i
decreasing_by all_goals omega
theorem c_Mo_planOf {M : mM} {g0 m w : Nat} (hI : Inv s) (hR : RelM s M) (hg : g0 < s 1 2) (hm : m ≤ 4) (hw : w = 0 ∨ w = 1 ∨ (10 ≤ w ∧ w < 14)) (hQ : ∀ M1, RelM s M1 → frH M M1 → Q M1 (some (.int (tellN (plD s g0 m) m w)))) : wp X (d + 4) n_Mo_planOf Q 0 [.ref 55, .int (nI g0), .int (nI m), .int (nI w), .null, .null, .null, .null] [] M := by
  obtain ⟨hn7, hg3, hmo⟩ := Inv_n hI
  obtain ⟨kb, fb, zb, rb, wb, ab⟩ := Inv_k hI
  have hn0 : 0 < s 1 1 := by have := ab g0 hg; omega
  have hp := pow7 hn7 hm
  have hsc : ∀ r b, scP s g0 m r b ≤ 200 := plSc_le zb
  refine x_iconst (v := (nI 0)) f_Mo_planOf_0 rfl ?_
  refine x_is4 f_Mo_planOf_1 rfl ?_
  refine x_ldc (v := (nI 100000)) f_Mo_planOf_3 (by decide) ?_
  refine x_is5 f_Mo_planOf_5 rfl ?_
  refine x_iconst (v := (nI 0)) f_Mo_planOf_7 rfl ?_
  refine x_is6 f_Mo_planOf_8 rfl ?_
  refine l_Mo_planOf hI hg hm M (fun M1 v7 r1 f1 => ?_) M 0 (Nat.zero_le _) hR (frH_refl _) _
  have hq := hQ M1 r1 f1
  have ed : plD s g0 m = ((bestN (scP s g0 m) (s 1 1) 0 m (s 1 1 ^ m)).1, layN (s 1 1) 0 m (fun _ => 0) (bestN (scP s g0 m) (s 1 1) 0 m (s 1 1 ^ m)).2) := dfs_best hn0
  rw [ed] at hq
  obtain ⟨b1, b2⟩ := best_le (ap := 0) (m := m) hsc hn7 (s 1 1 ^ m)
  have bp := best_pos (sc := scP s g0 m) (n := s 1 1) (m := m) (s 1 1 ^ m) (Nat.pow_pos hn0)
  generalize bestN (scP s g0 m) (s 1 1) 0 m (s 1 1 ^ m) = A at hq b1 b2 bp
  have ef : fewN A = A.1 - 1 := if_neg bp
  rw [ef]
  unfold tellN at hq
  rw [if_neg bp] at hq
  refine x_il3 f_Mo_planOf_88 ?_
  refine x_iconst (v := (nI 2)) f_Mo_planOf_89 rfl ?_
  refine x_cmp_geN f_Mo_planOf_90 (by omega) (by omega) (fun h => ?_) (fun h => ?_)
  · rw [if_neg (by omega), if_neg (by omega)] at hq
    refine x_il3 f_Mo_planOf_111 ?_
    refine x_bipush (v := (nI 10)) f_Mo_planOf_112 rfl ?_
    refine x_isubN f_Mo_planOf_114 (by omega) ?_
    refine x_il2 f_Mo_planOf_115 ?_
    refine x_cmp_geN f_Mo_planOf_116 (by omega) (by omega) (fun h1 => ?_) (fun h1 => ?_)
    · rw [if_neg (by omega)] at hq
      refine x_iconst (v := (-1)) f_Mo_planOf_133 rfl ?_
      refine x_ireturn f_Mo_planOf_134 rfl ?_
      exact hq
    · rw [if_pos h1] at hq
      have el : layN (s 1 1) 0 m (fun _ => 0) A.2 (w - 10) = A.2 / s 1 1 ^ (m - 1 - (w - 10)) % s 1 1 := by
        unfold layN
        rw [if_pos (by omega), Nat.zero_add]
      have hq2 : Q M1 (some (.int (nI (layN (s 1 1) 0 m (fun _ => 0) A.2 (w - 10))))) := hq
      rw [el] at hq2
      refine x_al0 f_Mo_planOf_119 ?_
      refine x_il4 f_Mo_planOf_120 ?_
      refine x_il2 f_Mo_planOf_122 ?_
      refine x_il3 f_Mo_planOf_123 ?_
      refine x_bipush (v := (nI 10)) f_Mo_planOf_124 rfl ?_
      refine x_isubN f_Mo_planOf_126 (by omega) ?_
      refine x_cV3i f_Mo_planOf_127 rfl rfl (by decide) (Nat.le_of_ble_eq_true rfl) (Nat.le_of_ble_eq_true rfl) rfl (c_Mo_figure (by omega) hm h1 hn0 hn7 r1.2.1.1 ⟨_, rfl, ?_⟩)
      refine x_goto f_Mo_planOf_130 ?_
      refine x_ireturn f_Mo_planOf_134 rfl ?_
      exact hq2
  · refine x_il3 f_Mo_planOf_93 ?_
    refine x_if_neN f_Mo_planOf_94 (by omega) (fun h1 => ?_) (fun h1 => ?_)
    · rw [if_neg (by omega), if_pos (by omega)] at hq
      refine x_il5 f_Mo_planOf_105 ?_
      refine x_bipush (v := (nI 100)) f_Mo_planOf_107 rfl ?_
      refine x_iremN f_Mo_planOf_109 (by omega) (by omega) (by omega) ?_
      refine x_ireturn f_Mo_planOf_110 rfl ?_
      exact hq
    · rw [if_pos h1] at hq
      refine x_il5 f_Mo_planOf_97 ?_
      refine x_bipush (v := (nI 100)) f_Mo_planOf_99 rfl ?_
      refine x_idivN f_Mo_planOf_101 (by omega) (by omega) (by omega) ?_
      refine x_goto f_Mo_planOf_102 ?_
      refine x_ireturn f_Mo_planOf_110 rfl ?_
      exact hq
theorem ask_in {y : Int32} {p : Nat} (hp : p < 1000) : askN y p = if inN y 0 1 = 1 ∨ inN y 10 (10 + p - 1) = 1 then 1 else 0 := by
  have e0 : y = 0 ↔ y.toInt = 0 := ⟨fun z => by rw [z]; rfl, fun z => Int32.toInt_inj.mp (by rw [z]; rfl)⟩
  have e1 : y = nI 1 ↔ y.toInt = 1 := ⟨fun z => by rw [z]; rfl, fun z => Int32.toInt_inj.mp (by rw [z]; rfl)⟩
  have e2 : y < nI 10 ↔ y.toInt < 10 := by rw [Int32.lt_iff_toInt_lt, nI_toInt (by omega)]; rfl
  have e3 : nI (10 + p) ≤ y ↔ ((10 + p : Nat) : Int) ≤ y.toInt := by rw [Int32.le_iff_toInt_le, nI_toInt (by omega)]
  unfold askN inN
  by_cases c0 : y = 0
  · have := e0.mp c0
    rw [if_pos c0, if_pos]
    left
    rw [if_pos (by omega)]
  · have h0 : ¬ y.toInt = 0 := fun z => c0 (e0.mpr z)
    rw [if_neg c0]
    by_cases c1 : y = nI 1
    · have := e1.mp c1
      rw [if_pos c1, if_pos]
      left
      rw [if_pos (by omega)]
    · have h1 : ¬ y.toInt = 1 := fun z => c1 (e1.mpr z)
      rw [if_neg c1]
      by_cases c2 : y < nI 10
      · have h2 := e2.mp c2
        rw [if_pos c2, if_neg]
        rw [if_neg (by omega), if_neg (by omega)]
        omega
      · have h2 : ¬ y.toInt < 10 := fun z => c2 (e2.mpr z)
        rw [if_neg c2]
        by_cases c3 : nI (10 + p) ≤ y
        · have h3 := e3.mp c3
          rw [if_pos c3, if_neg]
          rw [if_neg (by omega), if_neg (by omega)]
          omega
        · have h3 : ¬ ((10 + p : Nat) : Int) ≤ y.toInt := fun z => c3 (e3.mpr z)
          rw [if_neg c3, if_pos]
          right
          rw [if_pos (by omega)]
theorem c_Mo_plan {x m y : Int32} (hI : Inv s) (hR : RelM s M) (hQ : ∀ M1, RelM s M1 → frC M M1 → Q M1 (some (.int (plA s x m y)))) : wp X (d + 5) n_Mo_plan Q 0 [.ref 55, .int x, .int m, .int y] [] M := by
  obtain ⟨hn7, hg3, hmo⟩ := Inv_n hI
  unfold plA at hQ
  have ha := ask_in (y := y) (p := 4) (by omega)
  refine x_al0 f_Mo_plan_0 ?_
  refine x_il1 f_Mo_plan_1 ?_
  refine x_cV1i f_Mo_plan_2 rfl rfl (by decide) (Nat.le_of_ble_eq_true rfl) (Nat.le_of_ble_eq_true rfl) rfl (c_Mo_isGoverness (by omega) hR.2.1.2.1 ⟨_, rfl, ?_⟩)
  refine x_if_neN f_Mo_plan_5 (by have := hasI_le x (s 1 2); omega) (fun hx => ?_) (fun hx => ?_)
  · rw [if_neg (show ¬ hasI x (s 1 2) = 0 by omega)] at hQ
    have e1 : m < nI 1 ↔ m.toInt < 1 := by rw [Int32.lt_iff_toInt_lt, nI_toInt (by omega)]; rfl
    have e2 : nI 4 < m ↔ 4 < m.toInt := by rw [Int32.lt_iff_toInt_lt, nI_toInt (by omega)]; rfl
    have out : (∀ M1, RelM s M1 → frC M M1 → Q M1 (some (.int (-102)))) → wp X (d + 5) n_Mo_plan Q 57 [.ref 55, .int x, .int m, .int y] [] M := by
      intro h
      refine x_bipush (v := (-102)) f_Mo_plan_57 rfl ?_
      refine x_ireturn f_Mo_plan_59 rfl ?_
      exact h M hR (frC_refl _)
    have hin : inN m 1 4 = if (1 : Int) ≤ m.toInt ∧ m.toInt ≤ 4 then 1 else 0 := rfl
    refine x_il2 f_Mo_plan_11 ?_
    refine x_i2l f_Mo_plan_12 ?_
    refine x_lconst (v := 1) f_Mo_plan_13 rfl ?_
    refine x_ldc2 (v := 4) f_Mo_plan_14 (by decide) ?_
    refine x_cS3i f_Mo_plan_17 (by decide) (Nat.le_of_ble_eq_true rfl) (Nat.le_of_ble_eq_true rfl) rfl (c_Mo_in (lo := 1) (hi := 4) (by decide) (by decide) ⟨_, rfl, ?_⟩)
    refine x_if_eqN f_Mo_plan_20 (by have := inN_le m 1 4; omega) (fun h => out ?_) (fun h => ?_)
    · by_cases h1 : m < nI 1
      · rw [if_pos h1] at hQ; exact hQ
      · have h1' : ¬ m.toInt < 1 := fun z => h1 (e1.mpr z)
        rw [hin] at h
        have h2 : nI 4 < m := e2.mpr (by split at h <;> omega)
        rw [if_neg h1, if_pos h2] at hQ; exact hQ
    · have hb : 1 ≤ m.toInt ∧ m.toInt ≤ 4 := by
        rw [hin] at h
        split at h
        · assumption
        · omega
      have h1 : ¬ m < nI 1 := fun z => by have := e1.mp z; omega
      have h2 : ¬ nI 4 < m := fun z => by have := e2.mp z; omega
      rw [if_neg h1, if_neg h2] at hQ
      have yes : askN y 4 = 1 → wp X (d + 5) n_Mo_plan Q 47 [.ref 55, .int x, .int m, .int y] [] M := by
        intro h3
        rw [if_neg (show ¬ askN y 4 = 0 by omega)] at hQ
        obtain ⟨g, hg, rfl⟩ := hasI_of (by omega) hx
        obtain ⟨k, k1, k2, rfl⟩ := nI_back4 h1 h2
        obtain ⟨w, rfl, hw⟩ := askN_of (by omega) (by omega : 0 < askN y 4)
        rw [nI_clamp (by omega), nI_clamp (by omega), nI_clamp (by omega)] at hQ
        refine x_al0 f_Mo_plan_47 ?_
        refine x_il1 f_Mo_plan_48 ?_
        refine x_il2 f_Mo_plan_49 ?_
        refine x_il3 f_Mo_plan_50 ?_
        refine x_cV3i f_Mo_plan_51 rfl rfl (by decide) (Nat.le_of_ble_eq_true rfl) (Nat.le_of_ble_eq_true rfl) rfl (c_Mo_planOf hI hR hg k2 (by omega) (fun M1 r1 f1 => ⟨_, rfl, ?_⟩))
        refine x_goto f_Mo_plan_54 ?_
        refine x_ireturn f_Mo_plan_59 rfl ?_
        exact hQ M1 r1 f1.1
      have i1 := inN_le y 0 1
      have i2 := inN_le y 10 13
      refine x_il3 f_Mo_plan_23 ?_
      refine x_i2l f_Mo_plan_24 ?_
      refine x_lconst (v := 0) f_Mo_plan_25 rfl ?_
      refine x_lconst (v := 1) f_Mo_plan_26 rfl ?_
      refine x_cS3i f_Mo_plan_27 (by decide) (Nat.le_of_ble_eq_true rfl) (Nat.le_of_ble_eq_true rfl) rfl (c_Mo_in (lo := 0) (hi := 1) (by decide) (by decide) ⟨_, rfl, ?_⟩)
      refine x_if_neN f_Mo_plan_30 (by omega) (fun h3 => yes (by rw [ha, if_pos (Or.inl (by omega))])) (fun h3 => ?_)
      refine x_il3 f_Mo_plan_33 ?_
      refine x_i2l f_Mo_plan_34 ?_
      refine x_ldc2 (v := 10) f_Mo_plan_35 (by decide) ?_
      refine x_ldc2 (v := 13) f_Mo_plan_38 (by decide) ?_
      refine x_cS3i f_Mo_plan_41 (by decide) (Nat.le_of_ble_eq_true rfl) (Nat.le_of_ble_eq_true rfl) rfl (c_Mo_in (lo := 10) (hi := 13) (by decide) (by decide) ⟨_, rfl, ?_⟩)
      have ha2 : askN y 4 = if inN y 0 1 = 1 ∨ inN y 10 13 = 1 then 1 else 0 := ha
      refine x_if_eqN f_Mo_plan_44 (by omega) (fun h4 => out ?_) (fun h4 => yes (by rw [ha2, if_pos (Or.inr (by omega))]))
      rw [if_neg (by omega)] at ha2
      rw [if_pos ha2] at hQ
      exact hQ
  · rw [if_pos hx] at hQ
    refine x_bipush (v := (-101)) f_Mo_plan_8 rfl ?_
    refine x_ireturn f_Mo_plan_10 rfl ?_
    exact hQ M hR (frC_refl _)
end
