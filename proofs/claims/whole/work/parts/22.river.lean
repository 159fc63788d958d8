/-! the class's rivers: cells r .. r + 6 -/
def isRv (r : Nat) : Prop := r = 3 ∨ r = 10 ∨ r = 17
theorem rv_sh {r : Nat} (h : isRv r) : shp r = (0, 2, [0, 0, 0, 0, r + 4, r + 5, r + 6, r + 7, r + 8, r + 9]) := by
  rcases h with rfl | rfl | rfl <;> rfl
theorem rvA1 {r : Nat} (h : isRv r) : shp (r + 1) = (1, 7, []) := by rcases h with rfl | rfl | rfl <;> rfl
theorem rvA2 {r : Nat} (h : isRv r) : shp (r + 2) = (1, 7, []) := by rcases h with rfl | rfl | rfl <;> rfl
theorem rvA3 {r : Nat} (h : isRv r) : shp (r + 3) = (1, 7, []) := by rcases h with rfl | rfl | rfl <;> rfl
theorem rvA4 {r : Nat} (h : isRv r) : shp (r + 4) = (1, 7, []) := by rcases h with rfl | rfl | rfl <;> rfl
theorem rvA5 {r : Nat} (h : isRv r) : shp (r + 5) = (1, 7, []) := by rcases h with rfl | rfl | rfl <;> rfl
theorem rvA6 {r : Nat} (h : isRv r) : shp (r + 6) = (1, 3, []) := by rcases h with rfl | rfl | rfl <;> rfl
/-- whether an int names one of n -/
def hasI (x : Int32) (n : Nat) : Nat := if x < 0 then 0 else if nI n ≤ x then 0 else 1
theorem hasI_le (x : Int32) (n : Nat) : hasI x n ≤ 1 := by
  unfold hasI
  (repeat' split) <;> omega
theorem hasI_of {x : Int32} {n : Nat} (hn : n < 2 ^ 31) (h : 0 < hasI x n) : ∃ j, j < n ∧ x = nI j := by
  unfold hasI at h
  rcases pk_ix x hn with h1 | h1 | h1
  · rw [if_pos h1] at h; omega
  · split at h <;> omega
  · exact h1
theorem hasI_nI {j n : Nat} (hj : j < 2 ^ 31) (hn : n < 2 ^ 31) : hasI (nI j) n = if j < n then 1 else 0 := by
  unfold hasI
  rw [if_neg (nI_pos hj)]
  simp only [nI_leI hn hj]
  (repeat' split) <;> omega
theorem hasI_iv {t n : Nat} (hj : t < 2 ^ 31) (hn : n < 2 ^ 31) : hasI (iv t) n = if 0 < t ∧ t ≤ n then 1 else 0 := by
  cases t with
  | zero =>
    unfold iv hasI
    rw [if_pos (by decide), if_neg (by omega)]
  | succ t =>
    show hasI (nI t) n = _
    rw [hasI_nI (by omega) hn]
    (repeat' split) <;> omega
section
variable {X : (Nat → Int32) × Nat} {d : Nat} {Q : mM → Option Value → Prop} {M : mM} {r n g : Nat}
theorem c_River_hasReach (hr : isRv r) {x : Int32} (hn : M.1 r 0 = nI n) (hQ : Q M (some (.int (nI (hasI x n))))) : wp X (d + 1) n_River_hasReach Q 0 [.ref r, .int x] [] M := by
  refine x_il1 f_River_hasReach_0 ?_
  refine x_if_lt f_River_hasReach_1 (fun h1 => ?_) (fun h1 => ?_)
  · refine x_iconst (v := (nI 0)) f_River_hasReach_16 rfl ?_
    refine x_zreturn f_River_hasReach_17 rfl (by decide) ?_
    exact q_eq (by unfold hasI; simp only [*, if_true, if_false]) hQ
  · refine x_il1 f_River_hasReach_4 ?_
    refine x_al0 f_River_hasReach_5 ?_
    refine x_getIV f_River_hasReach_6 (rv_sh hr) rfl (Or.inl rfl) (hn) ?_
    refine x_cmp_ge f_River_hasReach_9 (fun h9 => ?_) (fun h9 => ?_)
    · refine x_iconst (v := (nI 0)) f_River_hasReach_16 rfl ?_
      refine x_zreturn f_River_hasReach_17 rfl (by decide) ?_
      exact q_eq (by unfold hasI; simp only [*, if_true, if_false]) hQ
    · refine x_iconst (v := (nI 1)) f_River_hasReach_12 rfl ?_
      refine x_goto f_River_hasReach_13 ?_
      refine x_zreturn f_River_hasReach_17 rfl (by decide) ?_
      exact q_eq (by unfold hasI; simp only [*, if_true, if_false]) hQ
theorem c_River_hasGoverness (hr : isRv r) {x : Int32} (hn : M.1 r 1 = nI g) (hQ : Q M (some (.int (nI (hasI x g))))) : wp X (d + 1) n_River_hasGoverness Q 0 [.ref r, .int x] [] M := by
  refine x_il1 f_River_hasGoverness_0 ?_
  refine x_if_lt f_River_hasGoverness_1 (fun h1 => ?_) (fun h1 => ?_)
  · refine x_iconst (v := (nI 0)) f_River_hasGoverness_16 rfl ?_
    refine x_zreturn f_River_hasGoverness_17 rfl (by decide) ?_
    exact q_eq (by unfold hasI; simp only [*, if_true, if_false]) hQ
  · refine x_il1 f_River_hasGoverness_4 ?_
    refine x_al0 f_River_hasGoverness_5 ?_
    refine x_getIV f_River_hasGoverness_6 (rv_sh hr) rfl (Or.inl rfl) (hn) ?_
    refine x_cmp_ge f_River_hasGoverness_9 (fun h9 => ?_) (fun h9 => ?_)
    · refine x_iconst (v := (nI 0)) f_River_hasGoverness_16 rfl ?_
      refine x_zreturn f_River_hasGoverness_17 rfl (by decide) ?_
      exact q_eq (by unfold hasI; simp only [*, if_true, if_false]) hQ
    · refine x_iconst (v := (nI 1)) f_River_hasGoverness_12 rfl ?_
      refine x_goto f_River_hasGoverness_13 ?_
      refine x_zreturn f_River_hasGoverness_17 rfl (by decide) ?_
      exact q_eq (by unfold hasI; simp only [*, if_true, if_false]) hQ
theorem c_River_runsOut (hr : isRv r) {j k w : Nat} (hj : j < 7) (hk : k < 10) (hw : w < 100000) (hK : M.1 (r + 1) j = nI k) (hW : M.1 (r + 5) j = nI w) (hQ : Q M (some (.int (nI (outN k w))))) : wp X (d + 2) n_River_runsOut Q 0 [.ref r, .int (nI j)] [] M := by
  refine x_al0 f_River_runsOut_0 ?_
  refine x_getR f_River_runsOut_1 (rv_sh hr) rfl ?_
  refine x_il1 f_River_runsOut_4 ?_
  refine x_ialdV f_River_runsOut_5 (rvA1 hr) (by omega) (hK) ?_
  refine x_al0 f_River_runsOut_6 ?_
  refine x_getR f_River_runsOut_7 (rv_sh hr) rfl ?_
  refine x_il1 f_River_runsOut_10 ?_
  refine x_ialdV f_River_runsOut_11 (rvA5 hr) (by omega) (hW) ?_
  refine x_cS2i f_River_runsOut_12 (by decide) (Nat.le_of_ble_eq_true rfl) (Nat.le_of_ble_eq_true rfl) rfl (c_RL_outOf hk hw ⟨_, rfl, ?_⟩)
  refine x_ireturn f_River_runsOut_15 rfl ?_
  exact hQ
theorem c_River_floods (hr : isRv r) {j k w z : Nat} (hj : j < 7) (hk : k < 10) (hw : w < 100000) (hz : z < 100000) (hK : M.1 (r + 1) j = nI k) (hW : M.1 (r + 5) j = nI w) (hZ : M.1 (r + 3) j = nI z) (hQ : Q M (some (.int (nI (fldN k w z))))) : wp X (d + 2) n_River_floods Q 0 [.ref r, .int (nI j)] [] M := by
  refine x_al0 f_River_floods_0 ?_
  refine x_getR f_River_floods_1 (rv_sh hr) rfl ?_
  refine x_il1 f_River_floods_4 ?_
  refine x_ialdV f_River_floods_5 (rvA1 hr) (by omega) (hK) ?_
  refine x_al0 f_River_floods_6 ?_
  refine x_getR f_River_floods_7 (rv_sh hr) rfl ?_
  refine x_il1 f_River_floods_10 ?_
  refine x_ialdV f_River_floods_11 (rvA5 hr) (by omega) (hW) ?_
  refine x_al0 f_River_floods_12 ?_
  refine x_getR f_River_floods_13 (rv_sh hr) rfl ?_
  refine x_il1 f_River_floods_16 ?_
  refine x_ialdV f_River_floods_17 (rvA3 hr) (by omega) (hZ) ?_
  refine x_cS3i f_River_floods_18 (by decide) (Nat.le_of_ble_eq_true rfl) (Nat.le_of_ble_eq_true rfl) rfl (c_RL_overflows hk hw hz ⟨_, rfl, ?_⟩)
  have hb := fldN_le k w z
  refine x_zreturn f_River_floods_21 rfl ?_ hQ
  rcases (show fldN k w z = 0 ∨ fldN k w z = 1 by omega) with e | e <;> rw [e] <;> decide
/-- whether none of the first i runs into k -/
def srcN (Rn : Nat → Nat) (k : Nat) : Nat → Nat
  | 0 => 1
  | i + 1 => if Rn i = k + 1 then 0 else srcN Rn k i
theorem srcN_le (Rn : Nat → Nat) (k : Nat) : ∀ i, srcN Rn k i ≤ 1
  | 0 => Nat.le_refl _
  | i + 1 => by
    unfold srcN
    have := srcN_le Rn k i
    split <;> omega
theorem srcN_0 {Rn : Nat → Nat} {k j : Nat} (hj : Rn j = k + 1) : ∀ n, j < n → srcN Rn k n = 0
  | 0, h => by omega
  | n + 1, h => by
    unfold srcN
    split
    · rfl
    · next hne =>
      rcases Nat.lt_or_ge j n with q | q
      · exact srcN_0 hj n q
      · rw [show j = n by omega] at hj
        exact absurd hj hne
theorem iv_eq {t k : Nat} (ht : t < 2 ^ 31) (hk : k < 2 ^ 31) : iv t = nI k ↔ t = k + 1 := by
  cases t with
  | zero =>
    constructor
    · intro h
      exfalso
      have h1 : (nI k) < 0 := by rw [← h]; decide
      exact nI_pos hk h1
    · intro h; omega
  | succ t =>
    show nI t = nI k ↔ _
    rw [nI_eq (by omega) hk]
    omega
theorem l_River_isSource (hr : isRv r) {Rn : Nat → Nat} {k : Nat} (hk : k < 2 ^ 31) (hn : M.1 r 0 = nI n) (hn7 : n ≤ 7) (hR : ∀ i, i < n → M.1 (r + 4) i = iv (Rn i)) (hRb : ∀ i, i < n → Rn i < 2 ^ 31) (hQ : Q M (some (.int (nI (srcN Rn k n))))) (i : Nat) (hi : i ≤ n) (hs : srcN Rn k i = 1) : wp X (d + 1) n_River_isSource Q 2 [.ref r, .int (nI k), .int (nI i)] [] M := by
  refine x_il2 f_River_isSource_2 ?_
  refine x_al0 f_River_isSource_3 ?_
  refine x_getIV f_River_isSource_4 (rv_sh hr) rfl (Or.inl rfl) (hn) ?_
  refine x_cmp_geN f_River_isSource_7 (by omega) (by omega) (fun h7 => ?_) (fun h7 => ?_)
  · refine x_iconst (v := (nI 1)) f_River_isSource_28 rfl ?_
    refine x_zreturn f_River_isSource_29 rfl (by decide) ?_
    exact q_eq (by rw [show n = i by omega, hs]) hQ
  · refine x_al0 f_River_isSource_10 ?_
    refine x_getR f_River_isSource_11 (rv_sh hr) rfl ?_
    refine x_il2 f_River_isSource_14 ?_
    refine x_ialdV f_River_isSource_15 (rvA4 hr) (by omega) (hR i h7) ?_
    refine x_il1 f_River_isSource_16 ?_
    refine x_cmp_ne f_River_isSource_17 (fun h => ?_) (fun h => ?_)
    · refine x_incN2 f_River_isSource_22 rfl ?_
      refine x_goto f_River_isSource_25 ?_
      refine l_River_isSource hr hk hn hn7 hR hRb hQ (i + 1) (by omega) ?_
      unfold srcN
      rw [if_neg (fun z => h ((iv_eq (hRb i h7) hk).mpr z))]
      exact hs
    · have e := (iv_eq (hRb i h7) hk).mp (Decidable.not_not.mp h)
      refine x_iconst (v := (nI 0)) f_River_isSource_20 rfl ?_
      refine x_zreturn f_River_isSource_21 rfl (by decide) ?_
      exact q_eq (srcN_0 e n h7) hQ
  termination_by n - i
  decreasing_by omega
theorem c_River_isSource (hr : isRv r) {Rn : Nat → Nat} {k : Nat} (hk : k < 2 ^ 31) (hn : M.1 r 0 = nI n) (hn7 : n ≤ 7) (hR : ∀ i, i < n → M.1 (r + 4) i = iv (Rn i)) (hRb : ∀ i, i < n → Rn i < 2 ^ 31) (hQ : Q M (some (.int (nI (srcN Rn k n))))) : wp X (d + 1) n_River_isSource Q 0 [.ref r, .int (nI k), .null] [] M := by
  refine x_iconst (v := (nI 0)) f_River_isSource_0 rfl ?_
  refine x_is2 f_River_isSource_1 rfl ?_
  exact l_River_isSource hr hk hn hn7 hR hRb hQ 0 (by omega) rfl
/-- which of the first i governesses are at k, as bits -/
def gbN (At : Nat → Nat) (k : Nat) : Nat → Nat
  | 0 => 0
  | i + 1 => gbN At k i + if At i = k then 2 ^ i else 0
theorem gbN_lt (At : Nat → Nat) (k : Nat) : ∀ i, gbN At k i < 2 ^ i
  | 0 => Nat.lt_of_lt_of_le Nat.zero_lt_one (Nat.le_refl 1)
  | i + 1 => by
    unfold gbN
    have := gbN_lt At k i
    rw [Nat.pow_succ]
    split <;> omega
theorem l_River_governessBits (hr : isRv r) {At : Nat → Nat} {k : Nat} (hk : k < 2 ^ 31) (hg : M.1 r 1 = nI g) (hg3 : g ≤ 3) (hA : ∀ i, i < g → M.1 (r + 6) i = nI (At i)) (hAb : ∀ i, i < g → At i < 2 ^ 31) (hQ : Q M (some (.int (nI (gbN At k g))))) (i : Nat) (hi : i ≤ g) : wp X (d + 1) n_River_governessBits Q 4 [.ref r, .int (nI k), .int (nI (gbN At k i)), .int (nI i)] [] M := by
  refine x_il3 f_River_governessBits_4 ?_
  refine x_al0 f_River_governessBits_5 ?_
  refine x_getIV f_River_governessBits_6 (rv_sh hr) rfl (Or.inl rfl) (hg) ?_
  refine x_cmp_geN f_River_governessBits_9 (by omega) (by omega) (fun h9 => ?_) (fun h9 => ?_)
  · refine x_il2 f_River_governessBits_34 ?_
    refine x_ireturn f_River_governessBits_35 rfl ?_
    exact q_eq (by rw [show g = i by omega]) hQ
  · have hb := hAb i h9
    have hl := gbN_lt At k i
    refine x_al0 f_River_governessBits_12 ?_
    refine x_getR f_River_governessBits_13 (rv_sh hr) rfl ?_
    refine x_il3 f_River_governessBits_16 ?_
    refine x_ialdV f_River_governessBits_17 (rvA6 hr) (by omega) (hA i h9) ?_
    refine x_il1 f_River_governessBits_18 ?_
    refine x_cmp_neN f_River_governessBits_19 (by omega) (by omega) (fun h => ?_) (fun h => ?_)
    · refine x_incN3 f_River_governessBits_28 rfl ?_
      refine x_goto f_River_governessBits_31 ?_
      have e : gbN At k i = gbN At k (i + 1) := by
        show _ = gbN At k i + _
        rw [if_neg h]; rfl
      rw [e]
      exact l_River_governessBits hr hk hg hg3 hA hAb hQ (i + 1) (by omega)
    · refine x_il2 f_River_governessBits_22 ?_
      refine x_iconst (v := (nI 1)) f_River_governessBits_23 rfl ?_
      refine x_il3 f_River_governessBits_24 ?_
      refine x_shl1N f_River_governessBits_25 (by omega) ?_
      refine x_iorN f_River_governessBits_26 ?_
      refine x_is2 f_River_governessBits_27 rfl ?_
      refine x_incN3 f_River_governessBits_28 rfl ?_
      refine x_goto f_River_governessBits_31 ?_
      have e : gbN At k i ||| 2 ^ i = gbN At k (i + 1) := by
        show _ = gbN At k i + _
        rw [if_pos h, Nat.or_two_pow_eq_add_of_lt hl]
      rw [e]
      exact l_River_governessBits hr hk hg hg3 hA hAb hQ (i + 1) (by omega)
  termination_by g - i
  decreasing_by all_goals omega
theorem c_River_governessBits (hr : isRv r) {At : Nat → Nat} {k : Nat} (hk : k < 2 ^ 31) (hg : M.1 r 1 = nI g) (hg3 : g ≤ 3) (hA : ∀ i, i < g → M.1 (r + 6) i = nI (At i)) (hAb : ∀ i, i < g → At i < 2 ^ 31) (hQ : Q M (some (.int (nI (gbN At k g))))) : wp X (d + 1) n_River_governessBits Q 0 [.ref r, .int (nI k), .null, .null] [] M := by
  refine x_iconst (v := (nI 0)) f_River_governessBits_0 rfl ?_
  refine x_is2 f_River_governessBits_1 rfl ?_
  refine x_iconst (v := (nI 0)) f_River_governessBits_2 rfl ?_
  refine x_is3 f_River_governessBits_3 rfl ?_
  exact l_River_governessBits hr hk hg hg3 hA hAb hQ 0 (by omega)
theorem l_River_flowTogether (hr : isRv r) {F : Nat → Nat} (hn : M.1 r 0 = nI n) (hn7 : n ≤ 7) (hF : ∀ i, i < n → M.1 (r + 2) i = nI (F i)) (hQ : Q M (some (.int (nI (sumN F n))))) (i : Nat) (hi : i ≤ n) : wp X (d + 1) n_River_flowTogether Q 4 [.ref r, .int (nI (sumN F i)), .int (nI i)] [] M := by
  refine x_il2 f_River_flowTogether_4 ?_
  refine x_al0 f_River_flowTogether_5 ?_
  refine x_getIV f_River_flowTogether_6 (rv_sh hr) rfl (Or.inl rfl) (hn) ?_
  refine x_cmp_geN f_River_flowTogether_9 (by omega) (by omega) (fun h9 => ?_) (fun h9 => ?_)
  · refine x_il1 f_River_flowTogether_27 ?_
    refine x_ireturn f_River_flowTogether_28 rfl ?_
    exact q_eq (by rw [show n = i by omega]) hQ
  · refine x_il1 f_River_flowTogether_12 ?_
    refine x_al0 f_River_flowTogether_13 ?_
    refine x_getR f_River_flowTogether_14 (rv_sh hr) rfl ?_
    refine x_il2 f_River_flowTogether_17 ?_
    refine x_ialdV f_River_flowTogether_18 (rvA2 hr) (by omega) (hF i h9) ?_
    first | refine x_iaddN f_River_flowTogether_19 ?_ | refine x_iadd f_River_flowTogether_19 ?_
    refine x_is1 f_River_flowTogether_20 rfl ?_
    refine x_incN2 f_River_flowTogether_21 rfl ?_
    refine x_goto f_River_flowTogether_24 ?_
    exact l_River_flowTogether hr hn hn7 hF hQ (i + 1) (by omega)
  termination_by n - i
  decreasing_by omega
theorem c_River_flowTogether (hr : isRv r) {F : Nat → Nat} (hn : M.1 r 0 = nI n) (hn7 : n ≤ 7) (hF : ∀ i, i < n → M.1 (r + 2) i = nI (F i)) (hQ : Q M (some (.int (nI (sumN F n))))) : wp X (d + 1) n_River_flowTogether Q 0 [.ref r, .null, .null] [] M := by
  refine x_iconst (v := (nI 0)) f_River_flowTogether_0 rfl ?_
  refine x_is1 f_River_flowTogether_1 rfl ?_
  refine x_iconst (v := (nI 0)) f_River_flowTogether_2 rfl ?_
  refine x_is2 f_River_flowTogether_3 rfl ?_
  exact l_River_flowTogether hr hn hn7 hF hQ 0 (by omega)
theorem l_River_wildTogether (hr : isRv r) {F : Nat → Nat} (hn : M.1 r 0 = nI n) (hn7 : n ≤ 7) (hF : ∀ i, i < n → M.1 (r + 3) i = nI (F i)) (hQ : Q M (some (.int (nI (sumN F n))))) (i : Nat) (hi : i ≤ n) : wp X (d + 1) n_River_wildTogether Q 4 [.ref r, .int (nI (sumN F i)), .int (nI i)] [] M := by
  refine x_il2 f_River_wildTogether_4 ?_
  refine x_al0 f_River_wildTogether_5 ?_
  refine x_getIV f_River_wildTogether_6 (rv_sh hr) rfl (Or.inl rfl) (hn) ?_
  refine x_cmp_geN f_River_wildTogether_9 (by omega) (by omega) (fun h9 => ?_) (fun h9 => ?_)
  · refine x_il1 f_River_wildTogether_27 ?_
    refine x_ireturn f_River_wildTogether_28 rfl ?_
    exact q_eq (by rw [show n = i by omega]) hQ
  · refine x_il1 f_River_wildTogether_12 ?_
    refine x_al0 f_River_wildTogether_13 ?_
    refine x_getR f_River_wildTogether_14 (rv_sh hr) rfl ?_
    refine x_il2 f_River_wildTogether_17 ?_
    refine x_ialdV f_River_wildTogether_18 (rvA3 hr) (by omega) (hF i h9) ?_
    first | refine x_iaddN f_River_wildTogether_19 ?_ | refine x_iadd f_River_wildTogether_19 ?_
    refine x_is1 f_River_wildTogether_20 rfl ?_
    refine x_incN2 f_River_wildTogether_21 rfl ?_
    refine x_goto f_River_wildTogether_24 ?_
    exact l_River_wildTogether hr hn hn7 hF hQ (i + 1) (by omega)
  termination_by n - i
  decreasing_by omega
theorem c_River_wildTogether (hr : isRv r) {F : Nat → Nat} (hn : M.1 r 0 = nI n) (hn7 : n ≤ 7) (hF : ∀ i, i < n → M.1 (r + 3) i = nI (F i)) (hQ : Q M (some (.int (nI (sumN F n))))) : wp X (d + 1) n_River_wildTogether Q 0 [.ref r, .null, .null] [] M := by
  refine x_iconst (v := (nI 0)) f_River_wildTogether_0 rfl ?_
  refine x_is1 f_River_wildTogether_1 rfl ?_
  refine x_iconst (v := (nI 0)) f_River_wildTogether_2 rfl ?_
  refine x_is2 f_River_wildTogether_3 rfl ?_
  exact l_River_wildTogether hr hn hn7 hF hQ 0 (by omega)
end
