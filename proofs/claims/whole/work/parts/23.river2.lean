/-! what is written into a row: the first n places of cell k -/
def wrM (M : mM) (k n : Nat) (f : Nat → Nat) : mM := (fun a i => if a = k ∧ i < n then nI (f i) else M.1 a i, M.2)
theorem wrM_at {M : mM} {k n i : Nat} {f : Nat → Nat} (h : i < n) : (wrM M k n f).1 k i = nI (f i) := if_pos ⟨rfl, h⟩
theorem wrM_o {M : mM} {k n a i : Nat} {f : Nat → Nat} (h : a ≠ k) : (wrM M k n f).1 a i = M.1 a i := if_neg (fun z => h z.1)
theorem wrM_2 {M : mM} {k n : Nat} {f : Nat → Nat} : (wrM M k n f).2 = M.2 := rfl
theorem mM_ext {M M1 : mM} (h : ∀ a i, M.1 a i = M1.1 a i) (h2 : M.2 = M1.2) : M = M1 := Prod.ext (funext fun a => funext fun i => h a i) h2
theorem wrM_0 {M : mM} {k : Nat} {f : Nat → Nat} : wrM M k 0 f = M := mM_ext (fun a i => if_neg (fun z => by omega)) rfl
theorem stM_def (M : mM) (k j : Nat) (v : Int32) (a i : Nat) : (stM M k j v).1 a i = if a = k ∧ i = j then v else M.1 a i := by
  by_cases h : a = k ∧ i = j
  · rw [if_pos h, h.1, h.2, stM_at]
  · rw [if_neg h]
    exact stM_ne M v (by omega)
theorem st_wr1 {M : mM} {k i : Nat} {f : Nat → Nat} : stM (wrM M k i f) k i (nI (f i)) = wrM M k (i + 1) f := by
  refine mM_ext (fun a j => ?_) rfl
  rw [stM_def]
  unfold wrM
  simp only
  by_cases h1 : a = k ∧ j = i
  · rw [if_pos h1, if_pos ⟨h1.1, by omega⟩, h1.2]
  · rw [if_neg h1]
    by_cases h2 : a = k ∧ j < i
    · rw [if_pos h2, if_pos ⟨h2.1, by omega⟩]
    · rw [if_neg h2, if_neg (fun z => by omega)]
theorem st_wr2 {M : mM} {k n j v : Nat} {f : Nat → Nat} (hj : j < n) : stM (wrM M k n f) k j (nI v) = wrM M k n (fun i => if i = j then v else f i) := by
  refine mM_ext (fun a i => ?_) rfl
  rw [stM_def]
  unfold wrM
  simp only
  by_cases h1 : a = k ∧ i = j
  · rw [if_pos h1, if_pos ⟨h1.1, by omega⟩, if_pos h1.2]
  · rw [if_neg h1]
    by_cases h2 : a = k ∧ i < n
    · rw [if_pos h2, if_pos h2, if_neg (fun z => h1 ⟨h2.1, z⟩)]
    · rw [if_neg h2, if_neg h2]
theorem wrM_congr {M : mM} {k n : Nat} {f f2 : Nat → Nat} (h : ∀ i, i < n → f i = f2 i) : wrM M k n f = wrM M k n f2 := by
  refine mM_ext (fun a i => ?_) rfl
  unfold wrM
  simp only
  by_cases h2 : a = k ∧ i < n
  · rw [if_pos h2, if_pos h2, h i h2.2]
  · rw [if_neg h2, if_neg h2]
theorem wrM_wrM {M : mM} {k n : Nat} {f f2 : Nat → Nat} : wrM (wrM M k n f) k n f2 = wrM M k n f2 := by
  refine mM_ext (fun a i => ?_) rfl
  unfold wrM
  simp only
  by_cases h2 : a = k ∧ i < n
  · rw [if_pos h2, if_pos h2]
  · rw [if_neg h2, if_neg h2, if_neg h2]
/-! water -/
/-- what runs out of k comes to that into which it runs -/
def wst (K Rn w : Nat → Nat) (k : Nat) : Nat → Nat := fun j => if j + 1 = Rn k then w j + outN (K k) (w k) else w j
/-- the same of the first k, from the last on -/
def wlo (K Rn : Nat → Nat) : Nat → (Nat → Nat) → Nat → Nat
  | 0, w => w
  | k + 1, w => wlo K Rn k (wst K Rn w k)
def wat (n : Nat) (K F Rn : Nat → Nat) : Nat → Nat := wlo K Rn n F
theorem wst_le {K Rn w : Nat → Nat} {k n B : Nat} (hk : k < n) (h : ∀ i, i < n → w i ≤ B) : ∀ i, i < n → wst K Rn w k i ≤ 2 * B := by
  intro i hi
  unfold wst
  have h1 := outN_le (K k) (w k)
  have h2 := h i hi
  have h3 := h k hk
  split <;> omega
theorem wlo_le {K Rn : Nat → Nat} {n : Nat} : ∀ (k : Nat) (w : Nat → Nat) (B : Nat), k ≤ n → (∀ i, i < n → w i ≤ B) → ∀ i, i < n → wlo K Rn k w i ≤ 2 ^ k * B
  | 0, w, B, _, h => by intro i hi; simpa [wlo] using h i hi
  | k + 1, w, B, hk, h => by
    intro i hi
    have := wlo_le (K := K) (Rn := Rn) k (wst K Rn w k) (2 * B) (by omega) (wst_le (by omega) h) i hi
    rw [Nat.pow_succ, Nat.mul_assoc]
    exact this
theorem wat_le {K F Rn : Nat → Nat} {n : Nat} (hn : n ≤ 7) (h : ∀ i, i < n → F i ≤ 20) : ∀ i, i < n → wat n K F Rn i < 100000 := by
  intro i hi
  have h1 := wlo_le (K := K) (Rn := Rn) n F 20 (Nat.le_refl _) h i hi
  have h2 : 2 ^ n ≤ 2 ^ 7 := Nat.pow_le_pow_right (by omega) hn
  have h3 : 2 ^ n * 20 ≤ 2 ^ 7 * 20 := Nat.mul_le_mul_right _ h2
  unfold wat
  omega
theorem iv_dec (k : Nat) : nI k + Int32.ofInt (-1) = iv k := by
  cases k with
  | zero => decide
  | succ k => exact pk_m1 k
theorem iv_sub1 (n : Nat) : nI n - nI 1 = iv n := by
  cases n with
  | zero => decide
  | succ k => exact pk_sub (a := k + 1) (b := 1) (by omega)
section
variable {X : (Nat → Int32) × Nat} {d : Nat} {Q : mM → Option Value → Prop} {M : mM} {r n g : Nat} {K F Z Rn W : Nat → Nat}
theorem l_River_measure2 (hr : isRv r) (hn : M.1 r 0 = nI n) (hn7 : n ≤ 7) (hK : ∀ i, i < n → M.1 (r + 1) i = nI (K i)) (hKb : ∀ i, i < n → K i < 10) (hR : ∀ i, i < n → M.1 (r + 4) i = iv (Rn i)) (hRb : ∀ i, i < n → Rn i ≤ i) (k : Nat) (w : Nat → Nat) (B : Nat) (hB : 2 ^ k * B < 100000) (hw : ∀ i, i < n → w i ≤ B) (hk : k ≤ n) (hQ : Q (wrM M (r + 5) n (wlo K Rn k w)) none) : wp X (d + 3) n_River_measure Q 35 [.ref r, .int (iv k)] [] (wrM M (r + 5) n w) := by
  match k, hk, hB, hQ with
  | 0, _, _, hQ =>
    refine x_il1 f_River_measure_35 ?_
    refine x_if_lt f_River_measure_36 (fun _ => ?_) (fun hh => absurd (by decide) hh)
    refine x_return f_River_measure_77 rfl ?_
    exact hQ
  | k + 1, hk, hB, hQ =>
    have hp : 2 ^ k * (2 * B) < 100000 := by rw [Nat.pow_succ, Nat.mul_assoc] at hB; exact hB
    have hBk : B < 100000 := by
      have h1 : 1 ≤ 2 ^ k := Nat.one_le_two_pow
      have h2 : 1 * (2 * B) ≤ 2 ^ k * (2 * B) := Nat.mul_le_mul_right _ h1
      omega
    have hR2 : ∀ i, i < n → (wrM M (r + 5) n w).1 (r + 4) i = iv (Rn i) := fun i hi => (wrM_o (by omega)).trans (hR i hi)
    have hK2 : ∀ i, i < n → (wrM M (r + 5) n w).1 (r + 1) i = nI (K i) := fun i hi => (wrM_o (by omega)).trans (hK i hi)
    have hn2 : (wrM M (r + 5) n w).1 r 0 = nI n := (wrM_o (by omega)).trans hn
    have hlo := wst_le (K := K) (Rn := Rn) (k := k) (by omega) hw
    have hRk := hRb k (by omega)
    show wp X (d + 3) n_River_measure Q 35 [.ref r, .int (nI k)] [] (wrM M (r + 5) n w)
    refine x_il1 f_River_measure_35 ?_
    refine x_if_ltN f_River_measure_36 (by omega) ?_
    refine x_al0 f_River_measure_39 ?_
    refine x_al0 f_River_measure_40 ?_
    refine x_getR f_River_measure_41 (rv_sh hr) rfl ?_
    refine x_il1 f_River_measure_44 ?_
    refine x_ialdV f_River_measure_45 (rvA4 hr) (by omega) (hR2 k (by omega)) ?_
    refine x_cV1i f_River_measure_46 (rv_sh hr) rfl (by decide) (Nat.le_of_ble_eq_true rfl) (Nat.le_of_ble_eq_true rfl) rfl (c_River_hasReach hr hn2 ⟨_, rfl, ?_⟩)
    have hh := hasI_iv (t := Rn k) (n := n) (by omega) (by omega)
    refine x_if_eqN f_River_measure_49 (by have := hasI_le (iv (Rn k)) n; omega) (fun h49 => ?_) (fun h49 => ?_)
    · have h0 : Rn k = 0 := by rw [hh] at h49; split at h49 <;> omega
      refine x_inc1 f_River_measure_71 rfl (iv_dec k) ?_
      refine x_goto f_River_measure_74 ?_
      have e : wst K Rn w k = w := by
        funext j
        unfold wst
        rw [if_neg (by omega)]
      have hQ2 : Q (wrM M (r + 5) n (wlo K Rn k w)) none := by
        have hQ3 : Q (wrM M (r + 5) n (wlo K Rn k (wst K Rn w k))) none := hQ
        rw [e] at hQ3
        exact hQ3
      exact l_River_measure2 hr hn hn7 hK hKb hR hRb k w B (by have : 2 ^ k * B ≤ 2 ^ k * (2 * B) := Nat.mul_le_mul_left _ (by omega); omega) hw (by omega) hQ2
    · obtain ⟨t, ht⟩ : ∃ t, Rn k = t + 1 := by
        cases hc : Rn k with
        | zero => rw [hh, hc] at h49; simp at h49
        | succ t => exact ⟨t, rfl⟩
      have hwt : w t ≤ B := hw t (by omega)
      have hwk : w k ≤ B := hw k (by omega)
      refine x_al0 f_River_measure_52 ?_
      refine x_getR f_River_measure_53 (rv_sh hr) rfl ?_
      refine x_al0 f_River_measure_56 ?_
      refine x_getR f_River_measure_57 (rv_sh hr) rfl ?_
      refine x_il1 f_River_measure_60 ?_
      refine x_ialdV f_River_measure_61 (rvA4 hr) (by omega) ((hR2 k (by omega)).trans (by rw [ht]; rfl : _ = nI t)) ?_
      refine x_dup2 f_River_measure_62 rfl rfl ?_
      refine x_ialdV f_River_measure_63 (rvA5 hr) (by omega) (wrM_at (by omega)) ?_
      refine x_al0 f_River_measure_64 ?_
      refine x_il1 f_River_measure_65 ?_
      refine x_cV1i f_River_measure_66 (rv_sh hr) rfl (by decide) (Nat.le_of_ble_eq_true rfl) (Nat.le_of_ble_eq_true rfl) rfl (c_River_runsOut hr (by omega) (hKb k (by omega)) (by omega) (hK2 k (by omega)) (wrM_at (by omega)) ⟨_, rfl, ?_⟩)
      first | refine x_iaddN f_River_measure_69 ?_ | refine x_iadd f_River_measure_69 ?_
      refine x_iastN f_River_measure_70 (rvA5 hr) (by omega) ?_
      refine x_inc1 f_River_measure_71 rfl (iv_dec k) ?_
      refine x_goto f_River_measure_74 ?_
      rw [st_wr2 (by omega)]
      have e : (fun i => if i = t then w t + outN (K k) (w k) else w i) = wst K Rn w k := by
        funext j
        unfold wst
        by_cases hj : j = t
        · rw [if_pos hj, if_pos (by omega), hj]
        · rw [if_neg hj, if_neg (by omega)]
      rw [e]
      exact l_River_measure2 hr hn hn7 hK hKb hR hRb k (wst K Rn w k) (2 * B) hp hlo (by omega) hQ
  termination_by k
  decreasing_by all_goals omega
theorem l_River_measure1 (hr : isRv r) (hn : M.1 r 0 = nI n) (hn7 : n ≤ 7) (hK : ∀ i, i < n → M.1 (r + 1) i = nI (K i)) (hKb : ∀ i, i < n → K i < 10) (hF : ∀ i, i < n → M.1 (r + 2) i = nI (F i)) (hFb : ∀ i, i < n → F i ≤ 20) (hR : ∀ i, i < n → M.1 (r + 4) i = iv (Rn i)) (hRb : ∀ i, i < n → Rn i ≤ i) (hQ : Q (wrM M (r + 5) n (wat n K F Rn)) none) (i : Nat) (hi : i ≤ n) : wp X (d + 3) n_River_measure Q 2 [.ref r, .int (nI i)] [] (wrM M (r + 5) i F) := by
  have hn2 : (wrM M (r + 5) i F).1 r 0 = nI n := (wrM_o (by omega)).trans hn
  refine x_il1 f_River_measure_2 ?_
  refine x_al0 f_River_measure_3 ?_
  refine x_getIV f_River_measure_4 (rv_sh hr) rfl (Or.inl rfl) (hn2) ?_
  refine x_cmp_geN f_River_measure_7 (by omega) (by omega) (fun h7 => ?_) (fun h7 => ?_)
  · have hi2 : i = n := by omega
    subst hi2
    refine x_al0 f_River_measure_28 ?_
    refine x_getIV f_River_measure_29 (rv_sh hr) rfl (Or.inl rfl) (hn2) ?_
    refine x_iconst (v := (nI 1)) f_River_measure_32 rfl ?_
    refine x_isub f_River_measure_33 ?_
    rw [iv_sub1]
    refine x_is1 f_River_measure_34 rfl ?_
    have h2 : 2 ^ i ≤ 2 ^ 7 := Nat.pow_le_pow_right (by omega) hn7
    have h3 : 2 ^ i * 20 ≤ 2 ^ 7 * 20 := Nat.mul_le_mul_right _ h2
    exact l_River_measure2 hr hn hn7 hK hKb hR hRb i F 20 (by omega) hFb (Nat.le_refl _) hQ
  · refine x_al0 f_River_measure_10 ?_
    refine x_getR f_River_measure_11 (rv_sh hr) rfl ?_
    refine x_il1 f_River_measure_14 ?_
    refine x_al0 f_River_measure_15 ?_
    refine x_getR f_River_measure_16 (rv_sh hr) rfl ?_
    refine x_il1 f_River_measure_19 ?_
    refine x_ialdV f_River_measure_20 (rvA2 hr) (by omega) ((wrM_o (by omega)).trans (hF i h7)) ?_
    refine x_iastN f_River_measure_21 (rvA5 hr) (by omega) ?_
    refine x_incN1 f_River_measure_22 rfl ?_
    refine x_goto f_River_measure_25 ?_
    rw [st_wr1]
    exact l_River_measure1 hr hn hn7 hK hKb hF hFb hR hRb hQ (i + 1) (by omega)
  termination_by n - i
  decreasing_by all_goals omega
theorem c_River_measure (hr : isRv r) (hn : M.1 r 0 = nI n) (hn7 : n ≤ 7) (hK : ∀ i, i < n → M.1 (r + 1) i = nI (K i)) (hKb : ∀ i, i < n → K i < 10) (hF : ∀ i, i < n → M.1 (r + 2) i = nI (F i)) (hFb : ∀ i, i < n → F i ≤ 20) (hR : ∀ i, i < n → M.1 (r + 4) i = iv (Rn i)) (hRb : ∀ i, i < n → Rn i ≤ i) (hQ : Q (wrM M (r + 5) n (wat n K F Rn)) none) : wp X (d + 3) n_River_measure Q 0 [.ref r, .null] [] M := by
  refine x_iconst (v := (nI 0)) f_River_measure_0 rfl ?_
  refine x_is1 f_River_measure_1 rfl ?_
  have h := l_River_measure1 (X := X) (d := d) hr hn hn7 hK hKb hF hFb hR hRb hQ 0 (by omega)
  rw [wrM_0] at h
  exact h
/-- how many of the first n flood -/
def fcN (K W Z : Nat → Nat) (n : Nat) : Nat := sumN (fun i => fldN (K i) (W i) (Z i)) n
theorem l_River_floodCount (hr : isRv r) (hn : M.1 r 0 = nI n) (hn7 : n ≤ 7) (hK : ∀ i, i < n → M.1 (r + 1) i = nI (K i)) (hKb : ∀ i, i < n → K i < 10) (hW : ∀ i, i < n → M.1 (r + 5) i = nI (W i)) (hWb : ∀ i, i < n → W i < 100000) (hZ : ∀ i, i < n → M.1 (r + 3) i = nI (Z i)) (hZb : ∀ i, i < n → Z i < 100000) (hQ : Q M (some (.int (nI (fcN K W Z n))))) (i : Nat) (hi : i ≤ n) : wp X (d + 3) n_River_floodCount Q 4 [.ref r, .int (nI (fcN K W Z i)), .int (nI i)] [] M := by
  refine x_il2 f_River_floodCount_4 ?_
  refine x_al0 f_River_floodCount_5 ?_
  refine x_getIV f_River_floodCount_6 (rv_sh hr) rfl (Or.inl rfl) (hn) ?_
  refine x_cmp_geN f_River_floodCount_9 (by omega) (by omega) (fun h9 => ?_) (fun h9 => ?_)
  · refine x_il1 f_River_floodCount_29 ?_
    refine x_ireturn f_River_floodCount_30 rfl ?_
    exact q_eq (by rw [show n = i by omega]) hQ
  · refine x_al0 f_River_floodCount_12 ?_
    refine x_il2 f_River_floodCount_13 ?_
    refine x_cV1i f_River_floodCount_14 (rv_sh hr) rfl (by decide) (Nat.le_of_ble_eq_true rfl) (Nat.le_of_ble_eq_true rfl) rfl (c_River_floods hr (by omega) (hKb i h9) (hWb i h9) (hZb i h9) (hK i h9) (hW i h9) (hZ i h9) ⟨_, rfl, ?_⟩)
    have hb := fldN_le (K i) (W i) (Z i)
    have e : fcN K W Z (i + 1) = fcN K W Z i + fldN (K i) (W i) (Z i) := rfl
    refine x_if_eqN f_River_floodCount_17 (by omega) (fun h => ?_) (fun h => ?_)
    · refine x_incN2 f_River_floodCount_23 rfl ?_
      refine x_goto f_River_floodCount_26 ?_
      rw [show fcN K W Z i = fcN K W Z (i + 1) by omega]
      exact l_River_floodCount hr hn hn7 hK hKb hW hWb hZ hZb hQ (i + 1) (by omega)
    · refine x_incN1 f_River_floodCount_20 rfl ?_
      refine x_incN2 f_River_floodCount_23 rfl ?_
      refine x_goto f_River_floodCount_26 ?_
      rw [show fcN K W Z i + 1 = fcN K W Z (i + 1) by omega]
      exact l_River_floodCount hr hn hn7 hK hKb hW hWb hZ hZb hQ (i + 1) (by omega)
  termination_by n - i
  decreasing_by all_goals omega
theorem c_River_floodCount (hr : isRv r) (hn : M.1 r 0 = nI n) (hn7 : n ≤ 7) (hK : ∀ i, i < n → M.1 (r + 1) i = nI (K i)) (hKb : ∀ i, i < n → K i < 10) (hW : ∀ i, i < n → M.1 (r + 5) i = nI (W i)) (hWb : ∀ i, i < n → W i < 100000) (hZ : ∀ i, i < n → M.1 (r + 3) i = nI (Z i)) (hZb : ∀ i, i < n → Z i < 100000) (hQ : Q M (some (.int (nI (fcN K W Z n))))) : wp X (d + 3) n_River_floodCount Q 0 [.ref r, .null, .null] [] M := by
  refine x_iconst (v := (nI 0)) f_River_floodCount_0 rfl ?_
  refine x_is1 f_River_floodCount_1 rfl ?_
  refine x_iconst (v := (nI 0)) f_River_floodCount_2 rfl ?_
  refine x_is2 f_River_floodCount_3 rfl ?_
  exact l_River_floodCount hr hn hn7 hK hKb hW hWb hZ hZb hQ 0 (by omega)
/-- what runs out into the sea -/
def seaN (K W Rn : Nat → Nat) (n : Nat) : Nat := sumN (fun i => if Rn i = 0 then outN (K i) (W i) else 0) n
theorem l_River_runsIntoSea (hr : isRv r) (hn : M.1 r 0 = nI n) (hn7 : n ≤ 7) (hK : ∀ i, i < n → M.1 (r + 1) i = nI (K i)) (hKb : ∀ i, i < n → K i < 10) (hW : ∀ i, i < n → M.1 (r + 5) i = nI (W i)) (hWb : ∀ i, i < n → W i < 100000) (hR : ∀ i, i < n → M.1 (r + 4) i = iv (Rn i)) (hRb : ∀ i, i < n → Rn i ≤ i) (hQ : Q M (some (.int (nI (seaN K W Rn n))))) (i : Nat) (hi : i ≤ n) : wp X (d + 3) n_River_runsIntoSea Q 4 [.ref r, .int (nI (seaN K W Rn i)), .int (nI i)] [] M := by
  refine x_il2 f_River_runsIntoSea_4 ?_
  refine x_al0 f_River_runsIntoSea_5 ?_
  refine x_getIV f_River_runsIntoSea_6 (rv_sh hr) rfl (Or.inl rfl) (hn) ?_
  refine x_cmp_geN f_River_runsIntoSea_9 (by omega) (by omega) (fun h9 => ?_) (fun h9 => ?_)
  · refine x_il1 f_River_runsIntoSea_36 ?_
    refine x_ireturn f_River_runsIntoSea_37 rfl ?_
    exact q_eq (by rw [show n = i by omega]) hQ
  · have hb := hRb i h9
    have e : seaN K W Rn (i + 1) = seaN K W Rn i + (if Rn i = 0 then outN (K i) (W i) else 0) := rfl
    refine x_al0 f_River_runsIntoSea_12 ?_
    refine x_getR f_River_runsIntoSea_13 (rv_sh hr) rfl ?_
    refine x_il2 f_River_runsIntoSea_16 ?_
    refine x_ialdV f_River_runsIntoSea_17 (rvA4 hr) (by omega) (hR i h9) ?_
    refine x_iconst (v := (-1)) f_River_runsIntoSea_18 rfl ?_
    refine x_cmp_ne f_River_runsIntoSea_19 (fun h => ?_) (fun h => ?_)
    · have h0 : Rn i ≠ 0 := fun z => h (by rw [z]; rfl)
      rw [if_neg h0] at e
      refine x_incN2 f_River_runsIntoSea_30 rfl ?_
      refine x_goto f_River_runsIntoSea_33 ?_
      rw [show seaN K W Rn i = seaN K W Rn (i + 1) by omega]
      exact l_River_runsIntoSea hr hn hn7 hK hKb hW hWb hR hRb hQ (i + 1) (by omega)
    · have h0 : Rn i = 0 := by
        have h2 := Decidable.not_not.mp h
        cases hc : Rn i with
        | zero => rfl
        | succ t =>
          rw [hc] at h2
          exfalso
          have h3 : nI t < 0 := by
            have h4 : nI t = -1 := h2
            rw [h4]; decide
          exact nI_pos (by omega) h3
      rw [if_pos h0] at e
      refine x_il1 f_River_runsIntoSea_22 ?_
      refine x_al0 f_River_runsIntoSea_23 ?_
      refine x_il2 f_River_runsIntoSea_24 ?_
      refine x_cV1i f_River_runsIntoSea_25 (rv_sh hr) rfl (by decide) (Nat.le_of_ble_eq_true rfl) (Nat.le_of_ble_eq_true rfl) rfl (c_River_runsOut hr (by omega) (hKb i h9) (hWb i h9) (hK i h9) (hW i h9) ⟨_, rfl, ?_⟩)
      first | refine x_iaddN f_River_runsIntoSea_28 ?_ | refine x_iadd f_River_runsIntoSea_28 ?_
      refine x_is1 f_River_runsIntoSea_29 rfl ?_
      refine x_incN2 f_River_runsIntoSea_30 rfl ?_
      refine x_goto f_River_runsIntoSea_33 ?_
      rw [← e]
      exact l_River_runsIntoSea hr hn hn7 hK hKb hW hWb hR hRb hQ (i + 1) (by omega)
  termination_by n - i
  decreasing_by all_goals omega
theorem c_River_runsIntoSea (hr : isRv r) (hn : M.1 r 0 = nI n) (hn7 : n ≤ 7) (hK : ∀ i, i < n → M.1 (r + 1) i = nI (K i)) (hKb : ∀ i, i < n → K i < 10) (hW : ∀ i, i < n → M.1 (r + 5) i = nI (W i)) (hWb : ∀ i, i < n → W i < 100000) (hR : ∀ i, i < n → M.1 (r + 4) i = iv (Rn i)) (hRb : ∀ i, i < n → Rn i ≤ i) (hQ : Q M (some (.int (nI (seaN K W Rn n))))) : wp X (d + 3) n_River_runsIntoSea Q 0 [.ref r, .null, .null] [] M := by
  refine x_iconst (v := (nI 0)) f_River_runsIntoSea_0 rfl ?_
  refine x_is1 f_River_runsIntoSea_1 rfl ?_
  refine x_iconst (v := (nI 0)) f_River_runsIntoSea_2 rfl ?_
  refine x_is2 f_River_runsIntoSea_3 rfl ?_
  exact l_River_runsIntoSea hr hn hn7 hK hKb hW hWb hR hRb hQ 0 (by omega)
end
