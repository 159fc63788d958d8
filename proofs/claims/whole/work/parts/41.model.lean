/-! the reference: its small methods -/
def inN (x : Int32) (lo hi : Int) : Nat := if lo ≤ x.toInt ∧ x.toInt ≤ hi then 1 else 0
theorem inN_le (x : Int32) (lo hi : Int) : inN x lo hi ≤ 1 := by unfold inN; split <;> omega
theorem inN_has {x : Int32} {n : Nat} (hn : n < 2 ^ 31) : inN x 0 ((n : Int) - 1) = hasI x n := by
  unfold inN hasI
  have h0 : x < 0 ↔ x.toInt < 0 := Int32.lt_iff_toInt_lt
  have h1 : nI n ≤ x ↔ (n : Int) ≤ x.toInt := by rw [Int32.le_iff_toInt_le, nI_toInt hn]
  by_cases a : x < 0
  · rw [if_pos a, if_neg (by have := h0.mp a; omega)]
  · rw [if_neg a]
    by_cases b : nI n ≤ x
    · rw [if_pos b, if_neg (by have := h1.mp b; omega)]
    · rw [if_neg b, if_pos]
      have h2 : ¬ x.toInt < 0 := fun z => a (h0.mpr z)
      have h3 : ¬ (n : Int) ≤ x.toInt := fun z => b (h1.mpr z)
      omega
theorem iv_toInt {n : Nat} (h : n < 2 ^ 31) : (iv n).toInt = (n : Int) - 1 := by
  cases n with
  | zero => decide
  | succ n => show (nI n).toInt = _; rw [nI_toInt (by omega)]; omega
def crM (M : mM) (k0 k1 n : Nat) : mM := (fun a i => if a = k1 ∧ i < n then M.1 k0 i else M.1 a i, M.2)
theorem crM_at {M : mM} {k0 k1 n i : Nat} (h : i < n) : (crM M k0 k1 n).1 k1 i = M.1 k0 i := if_pos ⟨rfl, h⟩
theorem crM_o {M : mM} {k0 k1 n a i : Nat} (h : a ≠ k1) : (crM M k0 k1 n).1 a i = M.1 a i := if_neg (fun z => h z.1)
theorem crM_0 {M : mM} {k0 k1 : Nat} : crM M k0 k1 0 = M := mM_ext (fun a i => if_neg (fun z => by omega)) rfl
theorem st_cr {M : mM} {k0 k1 i : Nat} : stM (crM M k0 k1 i) k1 i (M.1 k0 i) = crM M k0 k1 (i + 1) := by
  refine mM_ext (fun a j => ?_) rfl
  rw [stM_def]
  show (if a = k1 ∧ j = i then M.1 k0 i else if a = k1 ∧ j < i then M.1 k0 j else M.1 a j) = if a = k1 ∧ j < i + 1 then M.1 k0 j else M.1 a j
  by_cases h : a = k1 ∧ j = i
  · rw [if_pos h, if_pos (by omega), h.2]
  · rw [if_neg h]
    by_cases h2 : a = k1 ∧ j < i
    · rw [if_pos h2, if_pos (by omega)]
    · rw [if_neg h2, if_neg (by omega)]
theorem pop8 {b : Nat} (h : b < 256) : sumN (fun i => b / 2 ^ i % 2) 8 = popN b := by
  show _ = sumN (fun i => b / 2 ^ i % 2) 8 + b / 2 ^ 8 % 2 + b / 2 ^ 9 % 2
  omega
section
variable {X : (Nat → Int32) × Nat} {d : Nat} {Q : mM → Option Value → Prop} {M : mM} {n g : Nat} {K F Z Rn At : Nat → Nat}
theorem c_Mo_in {M : mM} {x : Int32} {b c : Int64} {lo hi : Int} (hb : b.toInt = lo) (hc : c.toInt = hi) (hQ : Q M (some (.int (nI (inN x lo hi))))) : wp X (d + 1) n_Mo_in Q 0 [.long x.toInt64, .null, .long b, .null, .long c, .null] [] M := by
  have e : x.toInt64.toInt = x.toInt := Int32.toInt_toInt64 x
  refine x_ll0 f_Mo_in_0 ?_
  refine x_ll2 f_Mo_in_1 ?_
  refine x_lcmp f_Mo_in_2 ?_
  refine x_if_lt f_Mo_in_3 (fun h => ?_) (fun h => ?_)
  · have h1 := Int64.lt_iff_toInt_lt.mp ((lg_cmp_lt _ _).mp h)
    refine x_iconst (v := (nI 0)) f_Mo_in_17 rfl ?_
    refine x_zreturn f_Mo_in_18 rfl (by decide) ?_
    exact q_eq (by unfold inN; rw [if_neg (by omega)]) hQ
  · have h1 : ¬ x.toInt64.toInt < b.toInt := fun z => h ((lg_cmp_lt _ _).mpr (Int64.lt_iff_toInt_lt.mpr z))
    refine x_ll0 f_Mo_in_6 ?_
    refine x_ll4 f_Mo_in_7 ?_
    refine x_lcmp f_Mo_in_9 ?_
    refine x_if_gt f_Mo_in_10 (fun h => ?_) (fun h => ?_)
    · have h2 := Int64.lt_iff_toInt_lt.mp ((lg_cmp_gt _ _).mp h)
      refine x_iconst (v := (nI 0)) f_Mo_in_17 rfl ?_
      refine x_zreturn f_Mo_in_18 rfl (by decide) ?_
      exact q_eq (by unfold inN; rw [if_neg (by omega)]) hQ
    · have h2 : ¬ c.toInt < x.toInt64.toInt := fun z => h ((lg_cmp_gt _ _).mpr (Int64.lt_iff_toInt_lt.mpr z))
      refine x_iconst (v := (nI 1)) f_Mo_in_13 rfl ?_
      refine x_goto f_Mo_in_14 ?_
      refine x_zreturn f_Mo_in_18 rfl (by decide) ?_
      exact q_eq (by unfold inN; rw [if_pos (by omega)]) hQ
theorem l_Mo_copy {k0 k1 z : Nat} (h0 : shp k0 = (1, z, [])) (h1 : shp k1 = (1, z, [])) (hk : k0 ≠ k1) (hz : z ≤ 100) (M : mM) (hQ : Q (crM M k0 k1 z) none) (i : Nat) (hi : i ≤ z) : wp X (d + 1) n_Mo_copy Q 2 [.ref k0, .ref k1, .int (nI i)] [] (crM M k0 k1 i) := by
  refine x_il2 f_Mo_copy_2 ?_
  refine x_al0 f_Mo_copy_3 ?_
  refine x_alen f_Mo_copy_4 h0 ?_
  refine x_cmp_geN f_Mo_copy_5 (by omega) (by omega) (fun h => ?_) (fun h => ?_)
  · have e : i = z := by omega
    subst e
    refine x_return f_Mo_copy_20 rfl ?_
    exact hQ
  · refine x_al1 f_Mo_copy_8 ?_
    refine x_il2 f_Mo_copy_9 ?_
    refine x_al0 f_Mo_copy_10 ?_
    refine x_il2 f_Mo_copy_11 ?_
    refine x_ialdV f_Mo_copy_12 h0 (by omega) (crM_o hk) ?_
    refine x_iastN f_Mo_copy_13 h1 (by omega) ?_
    refine x_incN2 f_Mo_copy_14 rfl ?_
    refine x_goto f_Mo_copy_17 ?_
    rw [st_cr]
    exact l_Mo_copy h0 h1 hk hz M hQ (i + 1) (by omega)
termination_by z - i
decreasing_by all_goals omega
theorem c_Mo_copy {k0 k1 z : Nat} (h0 : shp k0 = (1, z, [])) (h1 : shp k1 = (1, z, [])) (hk : k0 ≠ k1) (hz : z ≤ 100) {M : mM} (hQ : Q (crM M k0 k1 z) none) : wp X (d + 1) n_Mo_copy Q 0 [.ref k0, .ref k1, .null] [] M := by
  refine x_iconst (v := (nI 0)) f_Mo_copy_0 rfl ?_
  refine x_is2 f_Mo_copy_1 rfl ?_
  have h := l_Mo_copy (X := X) (d := d) h0 h1 hk hz M hQ 0 (by omega)
  rw [crM_0] at h
  exact h
theorem l_Mo_ones {b : Nat} (hb : b < 256) (hQ : Q M (some (.int (nI (popN b))))) (i : Nat) (hi : i ≤ 8) : wp X (d + 1) n_Mo_ones Q 4 [.int (nI b), .int (nI (sumN (fun i => b / 2 ^ i % 2) i)), .int (nI i)] [] M := by
  refine x_il2 f_Mo_ones_4 ?_
  refine x_bipush (v := (nI 8)) f_Mo_ones_5 rfl ?_
  refine x_cmp_geN f_Mo_ones_7 (by omega) (by omega) (fun h => ?_) (fun h => ?_)
  · have e : i = 8 := by omega
    subst e
    refine x_il1 f_Mo_ones_24 ?_
    refine x_ireturn f_Mo_ones_25 rfl ?_
    exact q_eq (pop8 hb).symm hQ
  · refine x_il1 f_Mo_ones_10 ?_
    refine x_il0 f_Mo_ones_11 ?_
    refine x_il2 f_Mo_ones_12 ?_
    refine x_ishrN f_Mo_ones_13 (by omega) (by omega) ?_
    refine x_iconst (v := (nI 1)) f_Mo_ones_14 rfl ?_
    refine x_iandN f_Mo_ones_15 ?_
    rw [Nat.and_one_is_mod]
    first | refine x_iaddN f_Mo_ones_16 ?_ | refine x_iadd f_Mo_ones_16 ?_
    refine x_is1 f_Mo_ones_17 rfl ?_
    refine x_incN2 f_Mo_ones_18 rfl ?_
    refine x_goto f_Mo_ones_21 ?_
    exact l_Mo_ones hb hQ (i + 1) (by omega)
termination_by 8 - i
decreasing_by all_goals omega
theorem c_Mo_ones {M : mM} {b : Nat} (hb : b < 256) (hQ : Q M (some (.int (nI (popN b))))) : wp X (d + 1) n_Mo_ones Q 0 [.int (nI b), .null, .null] [] M := by
  refine x_iconst (v := (nI 0)) f_Mo_ones_0 rfl ?_
  refine x_is1 f_Mo_ones_1 rfl ?_
  refine x_iconst (v := (nI 0)) f_Mo_ones_2 rfl ?_
  refine x_is2 f_Mo_ones_3 rfl ?_
  exact l_Mo_ones hb hQ 0 (by omega)
theorem c_Mo_lacks {M : mM} {n : Nat} (hn : n ≤ 7) (h0 : M.1 55 3 = nI n) (hQ : Q M (some (.int (nI (if n = 0 then 1 else 0))))) : wp X (d + 1) n_Mo_lacks Q 0 [.ref 55] [] M := by
  refine x_al0 f_Mo_lacks_0 ?_
  refine x_getIV f_Mo_lacks_1 rfl rfl (Or.inl rfl) (h0) ?_
  refine x_if_neN f_Mo_lacks_4 (by omega) (fun h4 => ?_) (fun h4 => ?_)
  · refine x_iconst (v := (nI 0)) f_Mo_lacks_11 rfl ?_
    refine x_zreturn f_Mo_lacks_12 rfl (by decide) ?_
    exact q_eq (by split <;> omega) hQ
  · refine x_iconst (v := (nI 1)) f_Mo_lacks_7 rfl ?_
    refine x_goto f_Mo_lacks_8 ?_
    refine x_zreturn f_Mo_lacks_12 rfl (by decide) ?_
    exact q_eq (by split <;> omega) hQ
theorem c_Mo_isReach {M : mM} {x : Int32} {n : Nat} (hn : n ≤ 7) (h0 : M.1 55 3 = nI n) (hQ : Q M (some (.int (nI (hasI x n))))) : wp X (d + 2) n_Mo_isReach Q 0 [.ref 55, .int x] [] M := by
  rw [← inN_has (by omega)] at hQ
  refine x_il1 f_Mo_isReach_0 ?_
  refine x_i2l f_Mo_isReach_1 ?_
  refine x_lconst (v := 0) f_Mo_isReach_2 rfl ?_
  refine x_al0 f_Mo_isReach_3 ?_
  refine x_getIV f_Mo_isReach_4 rfl rfl (Or.inl rfl) (h0) ?_
  refine x_iconst (v := (nI 1)) f_Mo_isReach_7 rfl ?_
  refine x_isub f_Mo_isReach_8 ?_
  rw [iv_sub1]
  refine x_i2l f_Mo_isReach_9 ?_
  refine x_cS3i f_Mo_isReach_10 (by decide) (Nat.le_of_ble_eq_true rfl) (Nat.le_of_ble_eq_true rfl) rfl (c_Mo_in (lo := 0) (hi := (n : Int) - 1) (by decide) (by rw [Int32.toInt_toInt64, iv_toInt (by omega)]) ⟨_, rfl, ?_⟩)
  refine x_zreturn f_Mo_isReach_13 rfl (z01 (inN_le _ _ _)) hQ
theorem c_Mo_isGoverness {M : mM} {x : Int32} {n : Nat} (hn : n ≤ 7) (h0 : M.1 55 4 = nI n) (hQ : Q M (some (.int (nI (hasI x n))))) : wp X (d + 2) n_Mo_isGoverness Q 0 [.ref 55, .int x] [] M := by
  rw [← inN_has (by omega)] at hQ
  refine x_il1 f_Mo_isGoverness_0 ?_
  refine x_i2l f_Mo_isGoverness_1 ?_
  refine x_lconst (v := 0) f_Mo_isGoverness_2 rfl ?_
  refine x_al0 f_Mo_isGoverness_3 ?_
  refine x_getIV f_Mo_isGoverness_4 rfl rfl (Or.inl rfl) (h0) ?_
  refine x_iconst (v := (nI 1)) f_Mo_isGoverness_7 rfl ?_
  refine x_isub f_Mo_isGoverness_8 ?_
  rw [iv_sub1]
  refine x_i2l f_Mo_isGoverness_9 ?_
  refine x_cS3i f_Mo_isGoverness_10 (by decide) (Nat.le_of_ble_eq_true rfl) (Nat.le_of_ble_eq_true rfl) rfl (c_Mo_in (lo := 0) (hi := (n : Int) - 1) (by decide) (by rw [Int32.toInt_toInt64, iv_toInt (by omega)]) ⟨_, rfl, ?_⟩)
  refine x_zreturn f_Mo_isGoverness_13 rfl (z01 (inN_le _ _ _)) hQ
theorem c_Mo_out {M : mM} {k w : Nat} (hk : k < 10) (hw : w < 100000) (hQ : Q M (some (.int (nI (outN k w))))) : wp X (d + 1) n_Mo_out Q 0 [.int (nI k), .int (nI w)] [] M := by
  refine x_il0 f_Mo_out_0 ?_
  refine x_iconst (v := (nI 3)) f_Mo_out_1 rfl ?_
  refine x_cmp_neN f_Mo_out_2 (by omega) (by omega) (fun h2 => ?_) (fun h2 => ?_)
  · refine x_il0 f_Mo_out_20 ?_
    refine x_iconst (v := (nI 4)) f_Mo_out_21 rfl ?_
    refine x_cmp_neN f_Mo_out_22 (by omega) (by omega) (fun h22 => ?_) (fun h22 => ?_)
    · refine x_il1 f_Mo_out_31 ?_
      refine x_ireturn f_Mo_out_32 rfl ?_
      exact q_eq (by unfold outN; (repeat' split) <;> omega) hQ
    · refine x_il1 f_Mo_out_25 ?_
      refine x_iconst (v := (nI 2)) f_Mo_out_26 rfl ?_
      refine x_idivN f_Mo_out_27 (by omega) (by omega) (by omega) ?_
      refine x_goto f_Mo_out_28 ?_
      refine x_ireturn f_Mo_out_32 rfl ?_
      exact q_eq (by unfold outN; (repeat' split) <;> omega) hQ
  · refine x_il1 f_Mo_out_5 ?_
    refine x_bipush (v := (nI 9)) f_Mo_out_6 rfl ?_
    refine x_cmp_leN f_Mo_out_8 (by omega) (by omega) (fun h8 => ?_) (fun h8 => ?_)
    · refine x_il1 f_Mo_out_16 ?_
      refine x_goto f_Mo_out_17 ?_
      refine x_ireturn f_Mo_out_32 rfl ?_
      exact q_eq (by unfold outN; (repeat' split) <;> omega) hQ
    · refine x_bipush (v := (nI 9)) f_Mo_out_11 rfl ?_
      refine x_goto f_Mo_out_13 ?_
      refine x_ireturn f_Mo_out_32 rfl ?_
      exact q_eq (by unfold outN; (repeat' split) <;> omega) hQ
theorem c_Mo_isFlood {M : mM} {k w z : Nat} (hk : k < 10) (hw : w < 100000) (hz : z < 100000) (hQ : Q M (some (.int (nI (fldN k w z))))) : wp X (d + 1) n_Mo_isFlood Q 0 [.int (nI k), .int (nI w), .int (nI z)] [] M := by
  refine x_il1 f_Mo_isFlood_0 ?_
  refine x_il0 f_Mo_isFlood_1 ?_
  refine x_iconst (v := (nI 2)) f_Mo_isFlood_2 rfl ?_
  refine x_cmp_neN f_Mo_isFlood_3 (by omega) (by omega) (fun h3 => ?_) (fun h3 => ?_)
  · refine x_il2 f_Mo_isFlood_12 ?_
    first | refine x_iaddN f_Mo_isFlood_13 ?_ | refine x_iadd f_Mo_isFlood_13 ?_
    refine x_bipush (v := (nI 20)) f_Mo_isFlood_14 rfl ?_
    refine x_cmp_leN f_Mo_isFlood_16 (by omega) (by omega) (fun h16 => ?_) (fun h16 => ?_)
    · refine x_iconst (v := (nI 0)) f_Mo_isFlood_23 rfl ?_
      refine x_zreturn f_Mo_isFlood_24 rfl (by decide) ?_
      exact q_eq (by unfold fldN; (repeat' split) <;> omega) hQ
    · refine x_iconst (v := (nI 1)) f_Mo_isFlood_19 rfl ?_
      refine x_goto f_Mo_isFlood_20 ?_
      refine x_zreturn f_Mo_isFlood_24 rfl (by decide) ?_
      exact q_eq (by unfold fldN; (repeat' split) <;> omega) hQ
  · refine x_iconst (v := (nI 2)) f_Mo_isFlood_6 rfl ?_
    refine x_il2 f_Mo_isFlood_7 ?_
    first | refine x_imulN f_Mo_isFlood_8 ?_ | refine x_imul f_Mo_isFlood_8 ?_
    refine x_goto f_Mo_isFlood_9 ?_
    first | refine x_iaddN f_Mo_isFlood_13 ?_ | refine x_iadd f_Mo_isFlood_13 ?_
    refine x_bipush (v := (nI 20)) f_Mo_isFlood_14 rfl ?_
    refine x_cmp_leN f_Mo_isFlood_16 (by omega) (by omega) (fun h16 => ?_) (fun h16 => ?_)
    · refine x_iconst (v := (nI 0)) f_Mo_isFlood_23 rfl ?_
      refine x_zreturn f_Mo_isFlood_24 rfl (by decide) ?_
      exact q_eq (by unfold fldN; (repeat' split) <;> omega) hQ
    · refine x_iconst (v := (nI 1)) f_Mo_isFlood_19 rfl ?_
      refine x_goto f_Mo_isFlood_20 ?_
      refine x_zreturn f_Mo_isFlood_24 rfl (by decide) ?_
      exact q_eq (by unfold fldN; (repeat' split) <;> omega) hQ
theorem l_Mo_layWater2 (hn : M.1 55 3 = nI n) (hn7 : n ≤ 7) (hK : ∀ i, i < n → M.1 57 i = nI (K i)) (hKb : ∀ i, i < n → K i < 10) (hR : ∀ i, i < n → M.1 60 i = iv (Rn i)) (hRb : ∀ i, i < n → Rn i ≤ i) (k : Nat) (w : Nat → Nat) (B : Nat) (hB : 2 ^ k * B < 100000) (hw : ∀ i, i < n → w i ≤ B) (hk : k ≤ n) (hQ : Q (wrM M 62 n (wlo K Rn k w)) none) : wp X (d + 2) n_Mo_layWater Q 35 [.ref 55, .int (iv k)] [] (wrM M 62 n w) := by
  match k, hk, hB, hQ with
  | 0, _, _, hQ =>
    refine x_il1 f_Mo_layWater_35 ?_
    refine x_if_le f_Mo_layWater_36 (fun _ => ?_) (fun hh => absurd (by decide) hh)
    refine x_return f_Mo_layWater_84 rfl ?_
    exact hQ
  | 1, hk, _, hQ =>
    have e : wst K Rn w 0 = w := by
      funext j
      unfold wst
      have := hRb 0 (by omega)
      rw [if_neg (by omega)]
    have hQ3 : Q (wrM M 62 n (wst K Rn w 0)) none := hQ
    rw [e] at hQ3
    show wp X (d + 2) n_Mo_layWater Q 35 [.ref 55, .int (nI 0)] [] (wrM M 62 n w)
    refine x_il1 f_Mo_layWater_35 ?_
    refine x_if_le f_Mo_layWater_36 (fun _ => ?_) (fun hh => absurd (by decide) hh)
    refine x_return f_Mo_layWater_84 rfl ?_
    exact hQ3
  | k + 2, hk, hB, hQ =>
    have hp : 2 ^ (k + 1) * (2 * B) < 100000 := by rw [Nat.pow_succ, Nat.mul_assoc] at hB; exact hB
    have hBk : B < 100000 := by
      have h1 : 1 ≤ 2 ^ (k + 1) := Nat.one_le_two_pow
      have h2 : 1 * (2 * B) ≤ 2 ^ (k + 1) * (2 * B) := Nat.mul_le_mul_right _ h1
      omega
    have hR2 : ∀ i, i < n → (wrM M 62 n w).1 60 i = iv (Rn i) := fun i hi => (wrM_o (by omega)).trans (hR i hi)
    have hK2 : ∀ i, i < n → (wrM M 62 n w).1 57 i = nI (K i) := fun i hi => (wrM_o (by omega)).trans (hK i hi)
    have hlo := wst_le (K := K) (Rn := Rn) (k := k + 1) (by omega) hw
    have hRk := hRb (k + 1) (by omega)
    show wp X (d + 2) n_Mo_layWater Q 35 [.ref 55, .int (nI (k + 1))] [] (wrM M 62 n w)
    refine x_il1 f_Mo_layWater_35 ?_
    refine x_if_leN f_Mo_layWater_36 (by omega) (fun h => absurd h (by omega)) (fun _ => ?_)
    refine x_al0 f_Mo_layWater_39 ?_
    refine x_getR f_Mo_layWater_40 rfl rfl ?_
    refine x_il1 f_Mo_layWater_43 ?_
    refine x_ialdV f_Mo_layWater_44 rfl (by omega) (hR2 (k + 1) (by omega)) ?_
    refine x_iconst (v := (-1)) f_Mo_layWater_45 rfl ?_
    refine x_cmp_eq f_Mo_layWater_46 (fun h49 => ?_) (fun h49 => ?_)
    · have h0 : Rn (k + 1) = 0 := (iv_eqm1 (by omega)).mp h49
      refine x_inc1 f_Mo_layWater_78 rfl (iv_dec (k + 1)) ?_
      refine x_goto f_Mo_layWater_81 ?_
      have e : wst K Rn w (k + 1) = w := by
        funext j
        unfold wst
        rw [if_neg (by omega)]
      have hQ2 : Q (wrM M 62 n (wlo K Rn (k + 1) w)) none := by
        have hQ3 : Q (wrM M 62 n (wlo K Rn (k + 1) (wst K Rn w (k + 1)))) none := hQ
        rw [e] at hQ3
        exact hQ3
      exact l_Mo_layWater2 hn hn7 hK hKb hR hRb (k + 1) w B (by have : 2 ^ (k + 1) * B ≤ 2 ^ (k + 1) * (2 * B) := Nat.mul_le_mul_left _ (by omega); omega) hw (by omega) hQ2
    · obtain ⟨t, ht⟩ : ∃ t, Rn (k + 1) = t + 1 := by
        cases hc : Rn (k + 1) with
        | zero => exact absurd ((iv_eqm1 (by omega)).mpr hc) h49
        | succ t => exact ⟨t, rfl⟩
      have hwt : w t ≤ B := hw t (by omega)
      have hwk : w (k + 1) ≤ B := hw (k + 1) (by omega)
      refine x_al0 f_Mo_layWater_49 ?_
      refine x_getR f_Mo_layWater_50 rfl rfl ?_
      refine x_al0 f_Mo_layWater_53 ?_
      refine x_getR f_Mo_layWater_54 rfl rfl ?_
      refine x_il1 f_Mo_layWater_57 ?_
      refine x_ialdV f_Mo_layWater_58 rfl (by omega) ((hR2 (k + 1) (by omega)).trans (by rw [ht]; rfl : _ = nI t)) ?_
      refine x_dup2 f_Mo_layWater_59 rfl rfl ?_
      refine x_ialdV f_Mo_layWater_60 rfl (by omega) (wrM_at (by omega)) ?_
      refine x_al0 f_Mo_layWater_61 ?_
      refine x_getR f_Mo_layWater_62 rfl rfl ?_
      refine x_il1 f_Mo_layWater_65 ?_
      refine x_ialdV f_Mo_layWater_66 rfl (by omega) (hK2 (k + 1) (by omega)) ?_
      refine x_al0 f_Mo_layWater_67 ?_
      refine x_getR f_Mo_layWater_68 rfl rfl ?_
      refine x_il1 f_Mo_layWater_71 ?_
      refine x_ialdV f_Mo_layWater_72 rfl (by omega) (wrM_at (by omega)) ?_
      refine x_cS2i f_Mo_layWater_73 (by decide) (Nat.le_of_ble_eq_true rfl) (Nat.le_of_ble_eq_true rfl) rfl (c_Mo_out (hKb (k + 1) (by omega)) (by omega) ⟨_, rfl, ?_⟩)
      first | refine x_iaddN f_Mo_layWater_76 ?_ | refine x_iadd f_Mo_layWater_76 ?_
      refine x_iastN f_Mo_layWater_77 rfl (by omega) ?_
      refine x_inc1 f_Mo_layWater_78 rfl (iv_dec (k + 1)) ?_
      refine x_goto f_Mo_layWater_81 ?_
      rw [st_wr2 (by omega)]
      have e : (fun i => if i = t then w t + outN (K (k + 1)) (w (k + 1)) else w i) = wst K Rn w (k + 1) := by
        funext j
        unfold wst
        by_cases hj : j = t
        · rw [if_pos hj, if_pos (by omega), hj]
        · rw [if_neg hj, if_neg (by omega)]
      rw [e]
      exact l_Mo_layWater2 hn hn7 hK hKb hR hRb (k + 1) (wst K Rn w (k + 1)) (2 * B) hp hlo (by omega) hQ
  termination_by k
  decreasing_by all_goals omega
theorem l_Mo_layWater1 (hn : M.1 55 3 = nI n) (hn7 : n ≤ 7) (hK : ∀ i, i < n → M.1 57 i = nI (K i)) (hKb : ∀ i, i < n → K i < 10) (hF : ∀ i, i < n → M.1 58 i = nI (F i)) (hFb : ∀ i, i < n → F i ≤ 20) (hR : ∀ i, i < n → M.1 60 i = iv (Rn i)) (hRb : ∀ i, i < n → Rn i ≤ i) (hQ : Q (wrM M 62 n (wat n K F Rn)) none) (i : Nat) (hi : i ≤ n) : wp X (d + 2) n_Mo_layWater Q 2 [.ref 55, .int (nI i)] [] (wrM M 62 i F) := by
  have hn2 : (wrM M 62 i F).1 55 3 = nI n := (wrM_o (by omega)).trans hn
  refine x_il1 f_Mo_layWater_2 ?_
  refine x_al0 f_Mo_layWater_3 ?_
  refine x_getIV f_Mo_layWater_4 rfl rfl (Or.inl rfl) (hn2) ?_
  refine x_cmp_geN f_Mo_layWater_7 (by omega) (by omega) (fun h7 => ?_) (fun h7 => ?_)
  · have hi2 : i = n := by omega
    subst hi2
    refine x_al0 f_Mo_layWater_28 ?_
    refine x_getIV f_Mo_layWater_29 rfl rfl (Or.inl rfl) (hn2) ?_
    refine x_iconst (v := (nI 1)) f_Mo_layWater_32 rfl ?_
    refine x_isub f_Mo_layWater_33 ?_
    rw [iv_sub1]
    refine x_is1 f_Mo_layWater_34 rfl ?_
    have h2 : 2 ^ i ≤ 2 ^ 7 := Nat.pow_le_pow_right (by omega) hn7
    have h3 : 2 ^ i * 20 ≤ 2 ^ 7 * 20 := Nat.mul_le_mul_right _ h2
    exact l_Mo_layWater2 hn hn7 hK hKb hR hRb i F 20 (by omega) hFb (Nat.le_refl _) hQ
  · refine x_al0 f_Mo_layWater_10 ?_
    refine x_getR f_Mo_layWater_11 rfl rfl ?_
    refine x_il1 f_Mo_layWater_14 ?_
    refine x_al0 f_Mo_layWater_15 ?_
    refine x_getR f_Mo_layWater_16 rfl rfl ?_
    refine x_il1 f_Mo_layWater_19 ?_
    refine x_ialdV f_Mo_layWater_20 rfl (by omega) ((wrM_o (by omega)).trans (hF i h7)) ?_
    refine x_iastN f_Mo_layWater_21 rfl (by omega) ?_
    refine x_incN1 f_Mo_layWater_22 rfl ?_
    refine x_goto f_Mo_layWater_25 ?_
    rw [st_wr1]
    exact l_Mo_layWater1 hn hn7 hK hKb hF hFb hR hRb hQ (i + 1) (by omega)
  termination_by n - i
  decreasing_by all_goals omega
/-- what the water goes by -/
def MwC (M : mM) (n : Nat) (K F Rn : Nat → Nat) : Prop := M.1 55 3 = nI n ∧ n ≤ 7 ∧ (∀ i, i < n → M.1 57 i = nI (K i)) ∧ (∀ i, i < n → K i < 10) ∧ (∀ i, i < n → M.1 58 i = nI (F i)) ∧ (∀ i, i < n → F i ≤ 20) ∧ (∀ i, i < n → M.1 60 i = iv (Rn i)) ∧ (∀ i, i < n → Rn i ≤ i)
theorem MwC_o {M M1 : mM} (h : MwC M n K F Rn) (ho : ∀ a i, (a = 55 ∧ i = 3) ∨ a = 57 ∨ a = 58 ∨ a = 60 → M1.1 a i = M.1 a i) : MwC M1 n K F Rn := ⟨(ho _ _ (by omega)).trans h.1, h.2.1, fun i hi => (ho _ _ (by omega)).trans (h.2.2.1 i hi), h.2.2.2.1, fun i hi => (ho _ _ (by omega)).trans (h.2.2.2.2.1 i hi), h.2.2.2.2.2.1, fun i hi => (ho _ _ (by omega)).trans (h.2.2.2.2.2.2.1 i hi), h.2.2.2.2.2.2.2⟩
theorem c_Mo_layWater {M : mM} (h : MwC M n K F Rn) (hQ : Q (wrM M 62 n (wat n K F Rn)) none) : wp X (d + 2) n_Mo_layWater Q 0 [.ref 55, .null] [] M := by
  obtain ⟨hn, hn7, hK, hKb, hF, hFb, hR, hRb⟩ := h
  refine x_iconst (v := (nI 0)) f_Mo_layWater_0 rfl ?_
  refine x_is1 f_Mo_layWater_1 rfl ?_
  have h := l_Mo_layWater1 (X := X) (d := d) hn hn7 hK hKb hF hFb hR hRb hQ 0 (by omega)
  rw [wrM_0] at h
  exact h
theorem c_Mo_waterOf {M : mM} {j : Nat} (h : MwC M n K F Rn) (hj : j < n) (hQ : Q (wrM M 62 n (wat n K F Rn)) (some (.int (nI (wat n K F Rn j))))) : wp X (d + 3) n_Mo_waterOf Q 0 [.ref 55, .int (nI j)] [] M := by
  have hn7 := h.2.1
  refine x_al0 f_Mo_waterOf_0 ?_
  refine x_cV0v f_Mo_waterOf_1 rfl rfl (by decide) (Nat.le_of_ble_eq_true rfl) (Nat.le_of_ble_eq_true rfl) rfl (c_Mo_layWater h ⟨rfl, ?_⟩)
  refine x_al0 f_Mo_waterOf_4 ?_
  refine x_getR f_Mo_waterOf_5 rfl rfl ?_
  refine x_il1 f_Mo_waterOf_8 ?_
  refine x_ialdV f_Mo_waterOf_9 rfl (by omega) (wrM_at hj) ?_
  refine x_ireturn f_Mo_waterOf_10 rfl ?_
  exact hQ
theorem l_Mo_floodsBy {kz : Nat} (hz : shp kz = (1, 7, [])) (hn : M.1 55 3 = nI n) (hn7 : n ≤ 7) (hK : ∀ i, i < n → M.1 57 i = nI (K i)) (hKb : ∀ i, i < n → K i < 10) {W : Nat → Nat} (hW : ∀ i, i < n → M.1 62 i = nI (W i)) (hWb : ∀ i, i < n → W i < 100000) (hZ : ∀ i, i < n → M.1 kz i = nI (Z i)) (hZb : ∀ i, i < n → Z i < 100000) (hQ : Q M (some (.int (nI (fcN K W Z n))))) (i : Nat) (hi : i ≤ n) : wp X (d + 3) n_Mo_floodsBy Q 8 [.ref 55, .ref kz, .int (nI (fcN K W Z i)), .int (nI i)] [] M := by
  refine x_il3 f_Mo_floodsBy_8 ?_
  refine x_al0 f_Mo_floodsBy_9 ?_
  refine x_getIV f_Mo_floodsBy_10 rfl rfl (Or.inl rfl) (hn) ?_
  refine x_cmp_geN f_Mo_floodsBy_13 (by omega) (by omega) (fun h => ?_) (fun h => ?_)
  · have e : i = n := by omega
    subst e
    refine x_il2 f_Mo_floodsBy_51 ?_
    refine x_ireturn f_Mo_floodsBy_52 rfl ?_
    exact hQ
  · have hb := fldN_le (K i) (W i) (Z i)
    refine x_il2 f_Mo_floodsBy_16 ?_
    refine x_al0 f_Mo_floodsBy_17 ?_
    refine x_getR f_Mo_floodsBy_18 rfl rfl ?_
    refine x_il3 f_Mo_floodsBy_21 ?_
    refine x_ialdV f_Mo_floodsBy_22 rfl (by omega) (hK i h) ?_
    refine x_al0 f_Mo_floodsBy_23 ?_
    refine x_getR f_Mo_floodsBy_24 rfl rfl ?_
    refine x_il3 f_Mo_floodsBy_27 ?_
    refine x_ialdV f_Mo_floodsBy_28 rfl (by omega) (hW i h) ?_
    refine x_al1 f_Mo_floodsBy_29 ?_
    refine x_il3 f_Mo_floodsBy_30 ?_
    refine x_ialdV f_Mo_floodsBy_31 hz (by omega) (hZ i h) ?_
    refine x_cS3i f_Mo_floodsBy_32 (by decide) (Nat.le_of_ble_eq_true rfl) (Nat.le_of_ble_eq_true rfl) rfl (c_Mo_isFlood (hKb i h) (hWb i h) (hZb i h) ⟨_, rfl, ?_⟩)
    refine x_if_eqN f_Mo_floodsBy_35 (by omega) (fun h1 => ?_) (fun h1 => ?_)
    · refine x_iconst (v := (nI 0)) f_Mo_floodsBy_42 rfl ?_
      first | refine x_iaddN f_Mo_floodsBy_43 ?_ | refine x_iadd f_Mo_floodsBy_43 ?_
      refine x_is2 f_Mo_floodsBy_44 rfl ?_
      refine x_incN3 f_Mo_floodsBy_45 rfl ?_
      refine x_goto f_Mo_floodsBy_48 ?_
      have e : fcN K W Z i + 0 = fcN K W Z (i + 1) := by show _ = fcN K W Z i + fldN (K i) (W i) (Z i); rw [h1]
      rw [e]
      exact l_Mo_floodsBy hz hn hn7 hK hKb hW hWb hZ hZb hQ (i + 1) (by omega)
    · refine x_iconst (v := (nI 1)) f_Mo_floodsBy_38 rfl ?_
      refine x_goto f_Mo_floodsBy_39 ?_
      first | refine x_iaddN f_Mo_floodsBy_43 ?_ | refine x_iadd f_Mo_floodsBy_43 ?_
      refine x_is2 f_Mo_floodsBy_44 rfl ?_
      refine x_incN3 f_Mo_floodsBy_45 rfl ?_
      refine x_goto f_Mo_floodsBy_48 ?_
      have e : fcN K W Z i + 1 = fcN K W Z (i + 1) := by show _ = fcN K W Z i + fldN (K i) (W i) (Z i); omega
      rw [e]
      exact l_Mo_floodsBy hz hn hn7 hK hKb hW hWb hZ hZb hQ (i + 1) (by omega)
termination_by n - i
decreasing_by all_goals omega
theorem c_Mo_floodsBy {M : mM} {kz : Nat} (hz : shp kz = (1, 7, [])) (hk : kz ≠ 62) (h : MwC M n K F Rn) (hZ : ∀ i, i < n → M.1 kz i = nI (Z i)) (hZb : ∀ i, i < n → Z i < 100000) (hQ : Q (wrM M 62 n (wat n K F Rn)) (some (.int (nI (fcN K (wat n K F Rn) Z n))))) : wp X (d + 3) n_Mo_floodsBy Q 0 [.ref 55, .ref kz, .null, .null] [] M := by
  obtain ⟨hn, hn7, hK, hKb, hF, hFb, hR, hRb⟩ := id h
  refine x_al0 f_Mo_floodsBy_0 ?_
  refine x_cV0v f_Mo_floodsBy_1 rfl rfl (by decide) (Nat.le_of_ble_eq_true rfl) (Nat.le_of_ble_eq_true rfl) rfl (c_Mo_layWater h ⟨rfl, ?_⟩)
  refine x_iconst (v := (nI 0)) f_Mo_floodsBy_4 rfl ?_
  refine x_is2 f_Mo_floodsBy_5 rfl ?_
  refine x_iconst (v := (nI 0)) f_Mo_floodsBy_6 rfl ?_
  refine x_is3 f_Mo_floodsBy_7 rfl ?_
  exact l_Mo_floodsBy hz ((wrM_o (by omega)).trans hn) hn7 (fun i hi => (wrM_o (by omega)).trans (hK i hi)) hKb (fun i hi => wrM_at hi) (wat_le hn7 hFb) (fun i hi => (wrM_o hk).trans (hZ i hi)) hZb hQ 0 (by omega)
theorem l_Mo_sumOf {kz : Nat} (hz : shp kz = (1, 7, [])) (hn : M.1 55 3 = nI n) (hn7 : n ≤ 7) (hZ : ∀ i, i < n → M.1 kz i = nI (Z i)) (hQ : Q M (some (.int (nI (sumN Z n))))) (i : Nat) (hi : i ≤ n) : wp X (d + 1) n_Mo_sumOf Q 4 [.ref 55, .ref kz, .int (nI (sumN Z i)), .int (nI i)] [] M := by
  refine x_il3 f_Mo_sumOf_4 ?_
  refine x_al0 f_Mo_sumOf_5 ?_
  refine x_getIV f_Mo_sumOf_6 rfl rfl (Or.inl rfl) (hn) ?_
  refine x_cmp_geN f_Mo_sumOf_9 (by omega) (by omega) (fun h => ?_) (fun h => ?_)
  · have e : i = n := by omega
    subst e
    refine x_il2 f_Mo_sumOf_24 ?_
    refine x_ireturn f_Mo_sumOf_25 rfl ?_
    exact hQ
  · refine x_il2 f_Mo_sumOf_12 ?_
    refine x_al1 f_Mo_sumOf_13 ?_
    refine x_il3 f_Mo_sumOf_14 ?_
    refine x_ialdV f_Mo_sumOf_15 hz (by omega) (hZ i h) ?_
    first | refine x_iaddN f_Mo_sumOf_16 ?_ | refine x_iadd f_Mo_sumOf_16 ?_
    refine x_is2 f_Mo_sumOf_17 rfl ?_
    refine x_incN3 f_Mo_sumOf_18 rfl ?_
    refine x_goto f_Mo_sumOf_21 ?_
    exact l_Mo_sumOf hz hn hn7 hZ hQ (i + 1) (by omega)
termination_by n - i
decreasing_by all_goals omega
theorem c_Mo_sumOf {M : mM} {kz : Nat} (hz : shp kz = (1, 7, [])) (hn : M.1 55 3 = nI n) (hn7 : n ≤ 7) (hZ : ∀ i, i < n → M.1 kz i = nI (Z i)) (hQ : Q M (some (.int (nI (sumN Z n))))) : wp X (d + 1) n_Mo_sumOf Q 0 [.ref 55, .ref kz, .null, .null] [] M := by
  refine x_iconst (v := (nI 0)) f_Mo_sumOf_0 rfl ?_
  refine x_is2 f_Mo_sumOf_1 rfl ?_
  refine x_iconst (v := (nI 0)) f_Mo_sumOf_2 rfl ?_
  refine x_is3 f_Mo_sumOf_3 rfl ?_
  exact l_Mo_sumOf hz hn hn7 hZ hQ 0 (by omega)
theorem l_Mo_atReach {k : Nat} (hk : k < 2 ^ 31) (hg : M.1 55 4 = nI g) (hg3 : g ≤ 3) (hA : ∀ i, i < g → M.1 61 i = nI (At i)) (hAb : ∀ i, i < g → At i < 2 ^ 31) (hQ : Q M (some (.int (nI (gbN At k g))))) (i : Nat) (hi : i ≤ g) : wp X (d + 1) n_Mo_atReach Q 4 [.ref 55, .int (nI k), .int (nI (gbN At k i)), .int (nI i)] [] M := by
  refine x_il3 f_Mo_atReach_4 ?_
  refine x_al0 f_Mo_atReach_5 ?_
  refine x_getIV f_Mo_atReach_6 rfl rfl (Or.inl rfl) (hg) ?_
  refine x_cmp_geN f_Mo_atReach_9 (by omega) (by omega) (fun h9 => ?_) (fun h9 => ?_)
  · refine x_il2 f_Mo_atReach_38 ?_
    refine x_ireturn f_Mo_atReach_39 rfl ?_
    exact q_eq (by rw [show g = i by omega]) hQ
  · have hb := hAb i h9
    have hl := gbN_lt At k i
    refine x_il2 f_Mo_atReach_12 ?_
    refine x_al0 f_Mo_atReach_13 ?_
    refine x_getR f_Mo_atReach_14 rfl rfl ?_
    refine x_il3 f_Mo_atReach_17 ?_
    refine x_ialdV f_Mo_atReach_18 rfl (by omega) (hA i h9) ?_
    refine x_il1 f_Mo_atReach_19 ?_
    refine x_cmp_neN f_Mo_atReach_20 (by omega) (by omega) (fun h => ?_) (fun h => ?_)
    · refine x_iconst (v := (nI 0)) f_Mo_atReach_29 rfl ?_
      refine x_iorN f_Mo_atReach_30 ?_
      refine x_is2 f_Mo_atReach_31 rfl ?_
      refine x_incN3 f_Mo_atReach_32 rfl ?_
      refine x_goto f_Mo_atReach_35 ?_
      have e : gbN At k i ||| 0 = gbN At k (i + 1) := by
        show _ = gbN At k i + _
        rw [if_neg h, Nat.or_zero, Nat.add_zero]
      rw [e]
      exact l_Mo_atReach hk hg hg3 hA hAb hQ (i + 1) (by omega)
    · refine x_iconst (v := (nI 1)) f_Mo_atReach_23 rfl ?_
      refine x_il3 f_Mo_atReach_24 ?_
      refine x_shl1N f_Mo_atReach_25 (by omega) ?_
      refine x_goto f_Mo_atReach_26 ?_
      refine x_iorN f_Mo_atReach_30 ?_
      refine x_is2 f_Mo_atReach_31 rfl ?_
      refine x_incN3 f_Mo_atReach_32 rfl ?_
      refine x_goto f_Mo_atReach_35 ?_
      have e : gbN At k i ||| 2 ^ i = gbN At k (i + 1) := by
        show _ = gbN At k i + _
        rw [if_pos h, Nat.or_two_pow_eq_add_of_lt hl]
      rw [e]
      exact l_Mo_atReach hk hg hg3 hA hAb hQ (i + 1) (by omega)
  termination_by g - i
  decreasing_by all_goals omega
theorem c_Mo_atReach {M : mM} {k : Nat} (hk : k < 2 ^ 31) (hg : M.1 55 4 = nI g) (hg3 : g ≤ 3) (hA : ∀ i, i < g → M.1 61 i = nI (At i)) (hAb : ∀ i, i < g → At i < 2 ^ 31) (hQ : Q M (some (.int (nI (gbN At k g))))) : wp X (d + 1) n_Mo_atReach Q 0 [.ref 55, .int (nI k), .null, .null] [] M := by
  refine x_iconst (v := (nI 0)) f_Mo_atReach_0 rfl ?_
  refine x_is2 f_Mo_atReach_1 rfl ?_
  refine x_iconst (v := (nI 0)) f_Mo_atReach_2 rfl ?_
  refine x_is3 f_Mo_atReach_3 rfl ?_
  exact l_Mo_atReach hk hg hg3 hA hAb hQ 0 (by omega)
theorem l_Mo_isSource {k : Nat} (hk : k < 2 ^ 31) (hn : M.1 55 3 = nI n) (hn7 : n ≤ 7) (hR : ∀ i, i < n → M.1 60 i = iv (Rn i)) (hRb : ∀ i, i < n → Rn i < 2 ^ 31) (hQ : Q M (some (.int (nI (srcN Rn k n))))) (i : Nat) (hi : i ≤ n) : wp X (d + 1) n_Mo_isSource Q 4 [.ref 55, .int (nI k), .int (nI (srcN Rn k i)), .int (nI i)] [] M := by
  have hs := srcN_le Rn k i
  refine x_il3 f_Mo_isSource_4 ?_
  refine x_al0 f_Mo_isSource_5 ?_
  refine x_getIV f_Mo_isSource_6 rfl rfl (Or.inl rfl) (hn) ?_
  refine x_cmp_geN f_Mo_isSource_9 (by omega) (by omega) (fun h9 => ?_) (fun h9 => ?_)
  · have e : i = n := by omega
    subst e
    refine x_il2 f_Mo_isSource_38 ?_
    exact x_zreturn f_Mo_isSource_39 rfl (z01 hs) hQ
  · refine x_il2 f_Mo_isSource_12 ?_
    refine x_if_eqN f_Mo_isSource_13 (by omega) (fun h => ?_) (fun h => ?_)
    · refine x_iconst (v := (nI 0)) f_Mo_isSource_30 rfl ?_
      refine x_is2 f_Mo_isSource_31 rfl ?_
      refine x_incN3 f_Mo_isSource_32 rfl ?_
      refine x_goto f_Mo_isSource_35 ?_
      have e : srcN Rn k (i + 1) = 0 := by unfold srcN; rw [h]; exact ite_self 0
      have hh := l_Mo_isSource hk hn hn7 hR hRb hQ (i + 1) (by omega)
      rw [e] at hh
      exact hh
    · refine x_al0 f_Mo_isSource_16 ?_
      refine x_getR f_Mo_isSource_17 rfl rfl ?_
      refine x_il3 f_Mo_isSource_20 ?_
      refine x_ialdV f_Mo_isSource_21 rfl (by omega) (hR i h9) ?_
      refine x_il1 f_Mo_isSource_22 ?_
      refine x_cmp_eq f_Mo_isSource_23 (fun h1 => ?_) (fun h1 => ?_)
      · have e : srcN Rn k (i + 1) = 0 := by unfold srcN; rw [if_pos ((iv_eq (hRb i h9) hk).mp h1)]
        refine x_iconst (v := (nI 0)) f_Mo_isSource_30 rfl ?_
        refine x_is2 f_Mo_isSource_31 rfl ?_
        refine x_incN3 f_Mo_isSource_32 rfl ?_
        refine x_goto f_Mo_isSource_35 ?_
        have hh := l_Mo_isSource hk hn hn7 hR hRb hQ (i + 1) (by omega)
        rw [e] at hh
        exact hh
      · have e : srcN Rn k (i + 1) = 1 := by unfold srcN; rw [if_neg (fun z => h1 ((iv_eq (hRb i h9) hk).mpr z))]; omega
        refine x_iconst (v := (nI 1)) f_Mo_isSource_26 rfl ?_
        refine x_goto f_Mo_isSource_27 ?_
        refine x_is2 f_Mo_isSource_31 rfl ?_
        refine x_incN3 f_Mo_isSource_32 rfl ?_
        refine x_goto f_Mo_isSource_35 ?_
        have hh := l_Mo_isSource hk hn hn7 hR hRb hQ (i + 1) (by omega)
        rw [e] at hh
        exact hh
  termination_by n - i
  decreasing_by all_goals omega
theorem c_Mo_isSource {M : mM} {k : Nat} (hk : k < 2 ^ 31) (hn : M.1 55 3 = nI n) (hn7 : n ≤ 7) (hR : ∀ i, i < n → M.1 60 i = iv (Rn i)) (hRb : ∀ i, i < n → Rn i < 2 ^ 31) (hQ : Q M (some (.int (nI (srcN Rn k n))))) : wp X (d + 1) n_Mo_isSource Q 0 [.ref 55, .int (nI k), .null, .null] [] M := by
  refine x_iconst (v := (nI 1)) f_Mo_isSource_0 rfl ?_
  refine x_is2 f_Mo_isSource_1 rfl ?_
  refine x_iconst (v := (nI 0)) f_Mo_isSource_2 rfl ?_
  refine x_is3 f_Mo_isSource_3 rfl ?_
  exact l_Mo_isSource hk hn hn7 hR hRb hQ 0 (by omega)
end
