/-! the way down; months; copies -/
theorem cp_def (M : mM) (sk dk n a i : Nat) : (cpM M sk dk 0 0 n).1 a i = if a = dk ∧ i < n then M.1 sk i else M.1 a i := by
  unfold cpM va_cpy
  simp only
  by_cases h : a = dk
  · subst h
    rw [if_pos rfl]
    simp only [true_and, Nat.zero_le, Nat.zero_add, Nat.sub_zero]
  · rw [if_neg h, if_neg (fun z => h z.1)]
/-- the bits of the way down, reach by reach from r on -/
def wbl (Rn : Nat → Nat) : Nat → Nat → Nat
  | 0, b => b
  | r + 1, b => wbl Rn r (if b / 2 ^ r % 2 = 1 ∧ 0 < Rn r then b ||| 2 ^ (Rn r - 1) else b)
def bgl (W : Nat → Nat) (k b : Nat) : Nat → Nat
  | 0 => W k
  | i + 1 => if b / 2 ^ i % 2 = 1 then (if W i < bgl W k b i then W i else bgl W k b i) else bgl W k b i
theorem wbl_lt {Rn : Nat → Nat} {m : Nat} : ∀ (r b : Nat), (∀ i, i < r → Rn i ≤ m) → b < 2 ^ m → wbl Rn r b < 2 ^ m
  | 0, b, _, h => h
  | r + 1, b, hR, h => by
    refine wbl_lt r _ (fun i hi => hR i (by omega)) ?_
    have := hR r (by omega)
    split
    · exact Nat.or_lt_two_pow h (Nat.pow_lt_pow_right (by omega) (by omega))
    · exact h
theorem bgl_le (W : Nat → Nat) (k b : Nat) : ∀ i, bgl W k b i ≤ W k
  | 0 => Nat.le_refl _
  | i + 1 => by
    unfold bgl
    have := bgl_le W k b i
    (repeat' split) <;> omega
section
variable {X : (Nat → Int32) × Nat} {d : Nat} {Q : mM → Option Value → Prop} {M : mM} {r n g : Nat} {K F Z Rn W At : Nat → Nat}
theorem l_River_wayBits (hr : isRv r) (hn : M.1 r 0 = nI n) (hn7 : n ≤ 7) (hR : ∀ i, i < n → M.1 (r + 4) i = iv (Rn i)) (hRb : ∀ i, i < n → Rn i ≤ i) {k0 : Nat} (k b : Nat) (hb : b < 2 ^ 7) (hk : k ≤ n) (hQ : Q M (some (.int (nI (wbl Rn k b))))) : wp X (d + 2) n_River_wayBits Q 6 [.ref r, .int (nI k0), .int (nI b), .int (iv k)] [] M := by
  match k, hk, hQ with
  | 0, _, hQ =>
    refine x_il3 f_River_wayBits_6 ?_
    refine x_if_lt f_River_wayBits_7 (fun _ => ?_) (fun hh => absurd (by decide) hh)
    refine x_il2 f_River_wayBits_49 ?_
    refine x_ireturn f_River_wayBits_50 rfl ?_
    exact hQ
  | k + 1, hk, hQ =>
    have hRk := hRb k (by omega)
    show wp X (d + 2) n_River_wayBits Q 6 [.ref r, .int (nI k0), .int (nI b), .int (nI k)] [] M
    refine x_il3 f_River_wayBits_6 ?_
    refine x_if_ltN f_River_wayBits_7 (by omega) ?_
    refine x_il2 f_River_wayBits_10 ?_
    refine x_il3 f_River_wayBits_11 ?_
    refine x_ishrN f_River_wayBits_12 (by omega) (by omega) ?_
    refine x_iconst (v := (nI 1)) f_River_wayBits_13 rfl ?_
    refine x_iandN f_River_wayBits_14 ?_
    refine x_iconst (v := (nI 1)) f_River_wayBits_15 rfl ?_
    rw [Nat.and_one_is_mod]
    have hm : b / 2 ^ k % 2 < 2 := Nat.mod_lt _ (by omega)
    refine x_cmp_neN f_River_wayBits_16 (by omega) (by omega) (fun h => ?_) (fun h => ?_)
    · refine x_inc3 f_River_wayBits_43 rfl (iv_dec k) ?_
      refine x_goto f_River_wayBits_46 ?_
      have hQ2 : Q M (some (.int (nI (wbl Rn k (if b / 2 ^ k % 2 = 1 ∧ 0 < Rn k then b ||| 2 ^ (Rn k - 1) else b))))) := hQ
      rw [if_neg (fun z => h z.1)] at hQ2
      exact l_River_wayBits hr hn hn7 hR hRb k b hb (by omega) hQ2
    · refine x_al0 f_River_wayBits_19 ?_
      refine x_al0 f_River_wayBits_20 ?_
      refine x_getR f_River_wayBits_21 (rv_sh hr) rfl ?_
      refine x_il3 f_River_wayBits_24 ?_
      refine x_ialdV f_River_wayBits_25 (rvA4 hr) (by omega) (hR k (by omega)) ?_
      refine x_cV1i f_River_wayBits_26 (rv_sh hr) rfl (by decide) (Nat.le_of_ble_eq_true rfl) (Nat.le_of_ble_eq_true rfl) rfl (c_River_hasReach hr hn ⟨_, rfl, ?_⟩)
      have hh := hasI_iv (t := Rn k) (n := n) (by omega) (by omega)
      have hQ2 : Q M (some (.int (nI (wbl Rn k (if b / 2 ^ k % 2 = 1 ∧ 0 < Rn k then b ||| 2 ^ (Rn k - 1) else b))))) := hQ
      refine x_if_eqN f_River_wayBits_29 (by have := hasI_le (iv (Rn k)) n; omega) (fun h29 => ?_) (fun h29 => ?_)
      · have h0 : Rn k = 0 := by rw [hh] at h29; split at h29 <;> omega
        rw [if_neg (fun z => by omega)] at hQ2
        refine x_inc3 f_River_wayBits_43 rfl (iv_dec k) ?_
        refine x_goto f_River_wayBits_46 ?_
        exact l_River_wayBits hr hn hn7 hR hRb k b hb (by omega) hQ2
      · obtain ⟨t, ht⟩ : ∃ t, Rn k = t + 1 := by
          cases hc : Rn k with
          | zero => rw [hh, hc] at h29; simp at h29
          | succ t => exact ⟨t, rfl⟩
        rw [if_pos ⟨h, by omega⟩, ht, Nat.add_sub_cancel] at hQ2
        refine x_il2 f_River_wayBits_32 ?_
        refine x_iconst (v := (nI 1)) f_River_wayBits_33 rfl ?_
        refine x_al0 f_River_wayBits_34 ?_
        refine x_getR f_River_wayBits_35 (rv_sh hr) rfl ?_
        refine x_il3 f_River_wayBits_38 ?_
        refine x_ialdV f_River_wayBits_39 (rvA4 hr) (by omega) ((hR k (by omega)).trans (by rw [ht]; rfl : _ = nI t)) ?_
        refine x_shl1N f_River_wayBits_40 (by omega) ?_
        refine x_iorN f_River_wayBits_41 ?_
        refine x_is2 f_River_wayBits_42 rfl ?_
        refine x_inc3 f_River_wayBits_43 rfl (iv_dec k) ?_
        refine x_goto f_River_wayBits_46 ?_
        exact l_River_wayBits hr hn hn7 hR hRb k _ (Nat.or_lt_two_pow hb (Nat.pow_lt_pow_right (by omega) (by omega))) (by omega) hQ2
  termination_by k
  decreasing_by all_goals omega
theorem c_River_wayBits (hr : isRv r) (hn : M.1 r 0 = nI n) (hn7 : n ≤ 7) (hR : ∀ i, i < n → M.1 (r + 4) i = iv (Rn i)) (hRb : ∀ i, i < n → Rn i ≤ i) {k : Nat} (hk : k < n) (hQ : Q M (some (.int (nI (wbl Rn (k + 1) (2 ^ k)))))) : wp X (d + 2) n_River_wayBits Q 0 [.ref r, .int (nI k), .null, .null] [] M := by
  refine x_iconst (v := (nI 1)) f_River_wayBits_0 rfl ?_
  refine x_il1 f_River_wayBits_1 ?_
  refine x_shl1N f_River_wayBits_2 (by omega) ?_
  refine x_is2 f_River_wayBits_3 rfl ?_
  refine x_il1 f_River_wayBits_4 ?_
  refine x_is3 f_River_wayBits_5 rfl ?_
  exact l_River_wayBits hr hn hn7 hR hRb (k + 1) (2 ^ k) (Nat.pow_lt_pow_right (by omega) (by omega)) (by omega) hQ
theorem way_lt {k : Nat} (hRb : ∀ i, i < n → Rn i ≤ i) (hk : k < n) (hn7 : n ≤ 7) : wbl Rn (k + 1) (2 ^ k) < 2 ^ 7 := wbl_lt (k + 1) _ (fun i hi => by have := hRb i (by omega); omega) (Nat.pow_lt_pow_right (by omega) (by omega))
theorem c_River_reachesToSea (hr : isRv r) (hn : M.1 r 0 = nI n) (hn7 : n ≤ 7) (hR : ∀ i, i < n → M.1 (r + 4) i = iv (Rn i)) (hRb : ∀ i, i < n → Rn i ≤ i) {k : Nat} (hk : k < n) (hQ : Q M (some (.int (nI (popN (wbl Rn (k + 1) (2 ^ k))))))) : wp X (d + 3) n_River_reachesToSea Q 0 [.ref r, .int (nI k)] [] M := by
  have hl := way_lt hRb hk hn7
  refine x_al0 f_River_reachesToSea_0 ?_
  refine x_il1 f_River_reachesToSea_1 ?_
  refine x_cV1i f_River_reachesToSea_2 (rv_sh hr) rfl (by decide) (Nat.le_of_ble_eq_true rfl) (Nat.le_of_ble_eq_true rfl) rfl (c_River_wayBits hr hn hn7 hR hRb hk ⟨_, rfl, ?_⟩)
  refine x_cS1i f_River_reachesToSea_5 (by decide) (Nat.le_of_ble_eq_true rfl) (Nat.le_of_ble_eq_true rfl) rfl (c_Int_bitCount (by omega) ⟨_, rfl, ?_⟩)
  refine x_ireturn f_River_reachesToSea_8 rfl ?_
  exact hQ
theorem l_River_bargeFrom (hr : isRv r) (hn7 : n ≤ 7) (hW : ∀ i, i < n → M.1 (r + 5) i = nI (W i)) (hWb : ∀ i, i < n → W i < 100000) {k b : Nat} (hb : b < 2 ^ 7) (hk : k < n) (hQ : Q M (some (.int (nI (bgl W k b k))))) (i : Nat) (hi : i ≤ k) : wp X (d + 3) n_River_bargeFrom Q 16 [.ref r, .int (nI k), .int (nI b), .int (nI (bgl W k b i)), .int (nI i)] [] M := by
  refine x_il4 f_River_bargeFrom_16 ?_
  refine x_il1 f_River_bargeFrom_18 ?_
  refine x_cmp_geN f_River_bargeFrom_19 (by omega) (by omega) (fun h9 => ?_) (fun h9 => ?_)
  · refine x_il3 f_River_bargeFrom_50 ?_
    refine x_ireturn f_River_bargeFrom_51 rfl ?_
    exact q_eq (by rw [show i = k by omega]) hQ
  · have e : bgl W k b (i + 1) = if b / 2 ^ i % 2 = 1 then (if W i < bgl W k b i then W i else bgl W k b i) else bgl W k b i := rfl
    have h1 := bgl_le W k b i
    have h2 := hWb k hk
    have h3 := hWb i (by omega)
    refine x_il2 f_River_bargeFrom_22 ?_
    refine x_il4 f_River_bargeFrom_23 ?_
    refine x_ishrN f_River_bargeFrom_25 (by omega) (by omega) ?_
    refine x_iconst (v := (nI 1)) f_River_bargeFrom_26 rfl ?_
    refine x_iandN f_River_bargeFrom_27 ?_
    refine x_iconst (v := (nI 1)) f_River_bargeFrom_28 rfl ?_
    rw [Nat.and_one_is_mod]
    have hm : b / 2 ^ i % 2 < 2 := Nat.mod_lt _ (by omega)
    refine x_cmp_neN f_River_bargeFrom_29 (by omega) (by omega) (fun h => ?_) (fun h => ?_)
    · rw [if_neg h] at e
      refine x_incN4 f_River_bargeFrom_44 rfl ?_
      refine x_goto f_River_bargeFrom_47 ?_
      rw [← e]
      exact l_River_bargeFrom hr hn7 hW hWb hb hk hQ (i + 1) (by omega)
    · rw [if_pos h] at e
      refine x_il3 f_River_bargeFrom_32 ?_
      refine x_al0 f_River_bargeFrom_33 ?_
      refine x_getR f_River_bargeFrom_34 (rv_sh hr) rfl ?_
      refine x_il4 f_River_bargeFrom_37 ?_
      refine x_ialdV f_River_bargeFrom_39 (rvA5 hr) (by omega) (hW i (by omega)) ?_
      refine x_mminN f_River_bargeFrom_40 (Nat.le_of_ble_eq_true rfl) (by omega) (by omega) ?_
      refine x_is3 f_River_bargeFrom_43 rfl ?_
      refine x_incN4 f_River_bargeFrom_44 rfl ?_
      refine x_goto f_River_bargeFrom_47 ?_
      rw [← e]
      exact l_River_bargeFrom hr hn7 hW hWb hb hk hQ (i + 1) (by omega)
  termination_by k - i
  decreasing_by all_goals omega
theorem c_River_bargeFrom (hr : isRv r) (hn : M.1 r 0 = nI n) (hn7 : n ≤ 7) (hR : ∀ i, i < n → M.1 (r + 4) i = iv (Rn i)) (hRb : ∀ i, i < n → Rn i ≤ i) (hW : ∀ i, i < n → M.1 (r + 5) i = nI (W i)) (hWb : ∀ i, i < n → W i < 100000) {k : Nat} (hk : k < n) (hQ : Q M (some (.int (nI (bgl W k (wbl Rn (k + 1) (2 ^ k)) k))))) : wp X (d + 3) n_River_bargeFrom Q 0 [.ref r, .int (nI k), .null, .null, .null] [] M := by
  refine x_al0 f_River_bargeFrom_0 ?_
  refine x_il1 f_River_bargeFrom_1 ?_
  refine x_cV1i f_River_bargeFrom_2 (rv_sh hr) rfl (by decide) (Nat.le_of_ble_eq_true rfl) (Nat.le_of_ble_eq_true rfl) rfl (c_River_wayBits hr hn hn7 hR hRb hk ⟨_, rfl, ?_⟩)
  refine x_is2 f_River_bargeFrom_5 rfl ?_
  refine x_al0 f_River_bargeFrom_6 ?_
  refine x_getR f_River_bargeFrom_7 (rv_sh hr) rfl ?_
  refine x_il1 f_River_bargeFrom_10 ?_
  refine x_ialdV f_River_bargeFrom_11 (rvA5 hr) (by omega) (hW k hk) ?_
  refine x_is3 f_River_bargeFrom_12 rfl ?_
  refine x_iconst (v := (nI 0)) f_River_bargeFrom_13 rfl ?_
  refine x_is4 f_River_bargeFrom_14 rfl ?_
  exact l_River_bargeFrom hr hn7 hW hWb (way_lt hRb hk hn7) hk hQ 0 (by omega)
/-- how wild all are behind a month -/
def pmN (K Z At : Nat → Nat) (g mo : Nat) : Nat → Nat := fun i => wafN (K i) (Z i) mo (popN (gbN At i g))
theorem gb_lt8 (At : Nat → Nat) (k : Nat) (hg : g ≤ 3) : gbN At k g < 8 := by
  have h1 := gbN_lt At k g
  have h2 : 2 ^ g ≤ 2 ^ 3 := Nat.pow_le_pow_right (by omega) hg
  omega
theorem pop_le : ∀ b, b < 1024 → popN b ≤ 10 := by decide +kernel
theorem l_River_passMonth (hr : isRv r) {mo : Nat} (hmo : mo < 10000) (hn : M.1 r 0 = nI n) (hn7 : n ≤ 7) (hg : M.1 r 1 = nI g) (hg3 : g ≤ 3) (hm : M.1 r 2 = nI mo) (hK : ∀ i, i < n → M.1 (r + 1) i = nI (K i)) (hKb : ∀ i, i < n → K i < 10) (hZ : ∀ i, i < n → M.1 (r + 3) i = nI (Z i)) (hZb : ∀ i, i < n → Z i < 100000) (hA : ∀ i, i < g → M.1 (r + 6) i = nI (At i)) (hAb : ∀ i, i < g → At i < 2 ^ 31) (hQ : Q (wrM M (r + 3) n (pmN K Z At g mo)) none) (i : Nat) (hi : i ≤ n) : wp X (d + 3) n_River_passMonth Q 25 [.ref r, .int (nI i)] [] (wrM M (r + 3) i (pmN K Z At g mo)) := by
  have hn2 : (wrM M (r + 3) i (pmN K Z At g mo)).1 r 0 = nI n := (wrM_o (by omega)).trans hn
  have hg2 : (wrM M (r + 3) i (pmN K Z At g mo)).1 r 1 = nI g := (wrM_o (by omega)).trans hg
  have hA2 : ∀ j, j < g → (wrM M (r + 3) i (pmN K Z At g mo)).1 (r + 6) j = nI (At j) := fun j hj => (wrM_o (by omega)).trans (hA j hj)
  refine x_il1 f_River_passMonth_25 ?_
  refine x_al0 f_River_passMonth_26 ?_
  refine x_getIV f_River_passMonth_27 (rv_sh hr) rfl (Or.inl rfl) (hn2) ?_
  refine x_cmp_geN f_River_passMonth_30 (by omega) (by omega) (fun h9 => ?_) (fun h9 => ?_)
  · refine x_return f_River_passMonth_72 rfl ?_
    exact q_eqM (by rw [show n = i by omega]) hQ
  · have hb8 := gb_lt8 (g := g) At i hg3
    have hp := pop_le (gbN At i g) (by omega)
    refine x_al0 f_River_passMonth_33 ?_
    refine x_getR f_River_passMonth_34 (rv_sh hr) rfl ?_
    refine x_il1 f_River_passMonth_37 ?_
    refine x_al0 f_River_passMonth_38 ?_
    refine x_getR f_River_passMonth_39 (rv_sh hr) rfl ?_
    refine x_il1 f_River_passMonth_42 ?_
    refine x_ialdV f_River_passMonth_43 (rvA1 hr) (by omega) ((wrM_o (by omega)).trans (hK i h9)) ?_
    refine x_al0 f_River_passMonth_44 ?_
    refine x_getR f_River_passMonth_45 (rv_sh hr) rfl ?_
    refine x_il1 f_River_passMonth_48 ?_
    refine x_ialdV f_River_passMonth_49 (rvA3 hr) (by omega) ((show (wrM M (r + 3) i (pmN K Z At g mo)).1 (r + 3) i = nI (Z i) from (if_neg (fun z => by omega)).trans (hZ i h9))) ?_
    refine x_al0 f_River_passMonth_50 ?_
    refine x_getIV f_River_passMonth_51 (rv_sh hr) rfl (Or.inl rfl) ((wrM_o (by omega)).trans hm) ?_
    refine x_al0 f_River_passMonth_54 ?_
    refine x_il1 f_River_passMonth_55 ?_
    refine x_cV1i f_River_passMonth_56 (rv_sh hr) rfl (by decide) (Nat.le_of_ble_eq_true rfl) (Nat.le_of_ble_eq_true rfl) rfl (c_River_governessBits hr (by omega) hg2 hg3 hA2 hAb ⟨_, rfl, ?_⟩)
    refine x_cS1i f_River_passMonth_59 (by decide) (Nat.le_of_ble_eq_true rfl) (Nat.le_of_ble_eq_true rfl) rfl (c_Int_bitCount (by omega) ⟨_, rfl, ?_⟩)
    refine x_cS4i f_River_passMonth_62 (by decide) (Nat.le_of_ble_eq_true rfl) (Nat.le_of_ble_eq_true rfl) rfl (c_RL_wildAfter (hKb i h9) (hZb i h9) (by omega) (by omega) ⟨_, rfl, ?_⟩)
    refine x_iastN f_River_passMonth_65 (rvA3 hr) (by omega) ?_
    refine x_incN1 f_River_passMonth_66 rfl ?_
    refine x_goto f_River_passMonth_69 ?_
    rw [show wafN (K i) (Z i) mo (popN (gbN At i g)) = pmN K Z At g mo i from rfl, st_wr1]
    exact l_River_passMonth hr hmo hn hn7 hg hg3 hm hK hKb hZ hZb hA hAb hQ (i + 1) (by omega)
  termination_by n - i
  decreasing_by all_goals omega
theorem c_River_passMonth (hr : isRv r) {mo le : Nat} (hmo : mo < 9999) (hn : M.1 r 0 = nI n) (hn7 : n ≤ 7) (hg : M.1 r 1 = nI g) (hg3 : g ≤ 3) (hm : M.1 r 2 = nI mo) (hle : M.1 r 3 = nI le) (hK : ∀ i, i < n → M.1 (r + 1) i = nI (K i)) (hKb : ∀ i, i < n → K i < 10) (hZ : ∀ i, i < n → M.1 (r + 3) i = nI (Z i)) (hZb : ∀ i, i < n → Z i < 100000) (hA : ∀ i, i < g → M.1 (r + 6) i = nI (At i)) (hAb : ∀ i, i < g → At i < 2 ^ 31) (hQ : Q (wrM (stM (stM M r 2 (nI (mo + 1))) r 3 (nI (le + g))) (r + 3) n (pmN K Z At g (mo + 1))) none) : wp X (d + 3) n_River_passMonth Q 0 [.ref r, .null] [] M := by
  have e3 : (stM M r 2 (nI (mo + 1))).1 r 3 = nI le := (stM_ne _ _ (by omega)).trans hle
  have e1 : (stM M r 2 (nI (mo + 1))).1 r 1 = nI g := (stM_ne _ _ (by omega)).trans hg
  refine x_al0 f_River_passMonth_0 ?_
  refine x_dup f_River_passMonth_1 rfl ?_
  refine x_getIV f_River_passMonth_2 (rv_sh hr) rfl (Or.inl rfl) (hm) ?_
  refine x_iconst (v := (nI 1)) f_River_passMonth_5 rfl ?_
  first | refine x_iaddN f_River_passMonth_6 ?_ | refine x_iadd f_River_passMonth_6 ?_
  refine x_putI f_River_passMonth_7 (rv_sh hr) rfl ?_
  refine x_al0 f_River_passMonth_10 ?_
  refine x_dup f_River_passMonth_11 rfl ?_
  refine x_getIV f_River_passMonth_12 (rv_sh hr) rfl (Or.inl rfl) (e3) ?_
  refine x_al0 f_River_passMonth_15 ?_
  refine x_getIV f_River_passMonth_16 (rv_sh hr) rfl (Or.inl rfl) (e1) ?_
  first | refine x_iaddN f_River_passMonth_19 ?_ | refine x_iadd f_River_passMonth_19 ?_
  refine x_putI f_River_passMonth_20 (rv_sh hr) rfl ?_
  refine x_iconst (v := (nI 0)) f_River_passMonth_23 rfl ?_
  refine x_is1 f_River_passMonth_24 rfl ?_
  have o : ∀ a i, (a ≠ r ∨ i < 2) → (stM (stM M r 2 (nI (mo + 1))) r 3 (nI (le + g))).1 a i = M.1 a i := fun a i h => (stM_ne _ _ (by omega)).trans (stM_ne _ _ (by omega))
  have h := l_River_passMonth (X := X) (d := d) (Q := Q) (M := stM (stM M r 2 (nI (mo + 1))) r 3 (nI (le + g))) hr (mo := mo + 1) (by omega) ((o _ _ (by omega)).trans hn) hn7 ((o _ _ (by omega)).trans hg) hg3 ((stM_ne _ _ (by omega)).trans (stM_at _ _ _ _)) (fun i hi => (o _ _ (by omega)).trans (hK i hi)) hKb (fun i hi => (o _ _ (by omega)).trans (hZ i hi)) hZb (fun i hi => (o _ _ (by omega)).trans (hA i hi)) hAb hQ 0 (by omega)
  rw [wrM_0] at h
  exact h
theorem c_River_rainOneMore (hr : isRv r) (hn : M.1 r 0 = nI n) (hn7 : n ≤ 7) (hK : ∀ i, i < n → M.1 (r + 1) i = nI (K i)) (hKb : ∀ i, i < n → K i < 10) (hF : ∀ i, i < n → M.1 (r + 2) i = nI (F i)) (hFb : ∀ i, i < n → F i ≤ 9) (hR : ∀ i, i < n → M.1 (r + 4) i = iv (Rn i)) (hRb : ∀ i, i < n → Rn i ≤ i) {j : Nat} (hj : j < n) (hQ : Q (wrM (stM M (r + 2) j (nI (if 9 < F j + 1 then 9 else F j + 1))) (r + 5) n (wat n K (fun i => if i = j then (if 9 < F j + 1 then 9 else F j + 1) else F i) Rn)) none) : wp X (d + 4) n_River_rainOneMore Q 0 [.ref r, .int (nI j)] [] M := by
  have hFj := hFb j hj
  refine x_al0 f_River_rainOneMore_0 ?_
  refine x_il1 f_River_rainOneMore_1 ?_
  refine x_cV1i f_River_rainOneMore_2 (rv_sh hr) rfl (by decide) (Nat.le_of_ble_eq_true rfl) (Nat.le_of_ble_eq_true rfl) rfl (c_River_hasReach hr hn ⟨_, rfl, ?_⟩)
  have hh := hasI_nI (j := j) (n := n) (by omega) (by omega)
  rw [if_pos hj] at hh
  rw [hh]
  refine x_if_eqN f_River_rainOneMore_5 (by omega) (fun h => absurd h (by omega)) (fun _ => ?_)
  refine x_al0 f_River_rainOneMore_8 ?_
  refine x_getR f_River_rainOneMore_9 (rv_sh hr) rfl ?_
  refine x_il1 f_River_rainOneMore_12 ?_
  refine x_al0 f_River_rainOneMore_13 ?_
  refine x_getR f_River_rainOneMore_14 (rv_sh hr) rfl ?_
  refine x_il1 f_River_rainOneMore_17 ?_
  refine x_ialdV f_River_rainOneMore_18 (rvA2 hr) (by omega) (hF j hj) ?_
  refine x_iconst (v := (nI 1)) f_River_rainOneMore_19 rfl ?_
  first | refine x_iaddN f_River_rainOneMore_20 ?_ | refine x_iadd f_River_rainOneMore_20 ?_
  refine x_bipush (v := (nI 9)) f_River_rainOneMore_21 rfl ?_
  refine x_mminN f_River_rainOneMore_23 (Nat.le_of_ble_eq_true rfl) (by omega) (by omega) ?_
  refine x_iastN f_River_rainOneMore_26 (rvA2 hr) (by omega) ?_
  have o : ∀ (a i : Nat) (v : Int32), a ≠ r + 2 → (stM M (r + 2) j v).1 a i = M.1 a i := fun a i v h => stM_ne _ _ (Or.inl h)
  refine x_al0 f_River_rainOneMore_27 ?_
  refine x_cV0v f_River_rainOneMore_28 (rv_sh hr) rfl (by decide) (Nat.le_of_ble_eq_true rfl) (Nat.le_of_ble_eq_true rfl) rfl (c_River_measure (F := fun i => if i = j then (if 9 < F j + 1 then 9 else F j + 1) else F i) hr ((o _ _ _ (by omega)).trans hn) hn7 (fun i hi => (o _ _ _ (by omega)).trans (hK i hi)) hKb (fun i hi => by by_cases e : i = j; subst e; rw [stM_at, if_pos rfl]; rw [if_neg e, stM_ne _ _ (Or.inr e)]; exact hF i hi) (fun i hi => by have := hFb i hi; (repeat' split) <;> omega) (fun i hi => (o _ _ _ (by omega)).trans (hR i hi)) hRb ⟨rfl, ?_⟩)
  refine x_return f_River_rainOneMore_31 rfl ?_
  exact hQ
/-- what a copy of river o at r is: its numbers, its rows, and all else as it was -/
def cpRv (M M1 : mM) (r o : Nat) : Prop := (∀ j, j < 4 → M1.1 r j = M.1 o j) ∧ (∀ k, 1 ≤ k → k ≤ 5 → ∀ i, i < 7 → M1.1 (r + k) i = M.1 (o + k) i) ∧ (∀ i, i < 3 → M1.1 (r + 6) i = M.1 (o + 6) i) ∧ (∀ a i, (a < r ∨ r + 6 < a) → M1.1 a i = M.1 a i) ∧ M1.2 = M.2
theorem c_River_copyFrom {o : Nat} (hr : isRv r) (ho : isRv o) (hro : r ≠ o) (hQ : ∀ M1, cpRv M M1 r o → Q M1 none) : wp X (d + 1) n_River_copyFrom Q 0 [.ref r, .ref o] [] M := by
  have hd : o + 6 < r ∨ r + 6 < o := by rcases hr with rfl | rfl | rfl <;> rcases ho with rfl | rfl | rfl <;> omega
  refine x_al0 f_River_copyFrom_0 ?_
  refine x_al1 f_River_copyFrom_1 ?_
  refine x_getI f_River_copyFrom_2 (rv_sh ho) rfl (Or.inl rfl) ?_
  refine x_putI f_River_copyFrom_5 (rv_sh hr) rfl ?_
  refine x_al0 f_River_copyFrom_8 ?_
  refine x_al1 f_River_copyFrom_9 ?_
  refine x_getI f_River_copyFrom_10 (rv_sh ho) rfl (Or.inl rfl) ?_
  refine x_putI f_River_copyFrom_13 (rv_sh hr) rfl ?_
  refine x_al0 f_River_copyFrom_16 ?_
  refine x_al1 f_River_copyFrom_17 ?_
  refine x_getI f_River_copyFrom_18 (rv_sh ho) rfl (Or.inl rfl) ?_
  refine x_putI f_River_copyFrom_21 (rv_sh hr) rfl ?_
  refine x_al0 f_River_copyFrom_24 ?_
  refine x_al1 f_River_copyFrom_25 ?_
  refine x_getI f_River_copyFrom_26 (rv_sh ho) rfl (Or.inl rfl) ?_
  refine x_putI f_River_copyFrom_29 (rv_sh hr) rfl ?_
  refine x_al1 f_River_copyFrom_32 ?_
  refine x_getR f_River_copyFrom_33 (rv_sh ho) rfl ?_
  refine x_iconst (v := (nI 0)) f_River_copyFrom_36 rfl ?_
  refine x_al0 f_River_copyFrom_37 ?_
  refine x_getR f_River_copyFrom_38 (rv_sh hr) rfl ?_
  refine x_iconst (v := (nI 0)) f_River_copyFrom_41 rfl ?_
  refine x_bipush (v := (nI 7)) f_River_copyFrom_42 rfl ?_
  refine x_acopyN f_River_copyFrom_44 (Nat.le_of_ble_eq_true rfl) (rvA1 ho) (rvA1 hr) (by decide) (by decide) ?_
  refine x_al1 f_River_copyFrom_47 ?_
  refine x_getR f_River_copyFrom_48 (rv_sh ho) rfl ?_
  refine x_iconst (v := (nI 0)) f_River_copyFrom_51 rfl ?_
  refine x_al0 f_River_copyFrom_52 ?_
  refine x_getR f_River_copyFrom_53 (rv_sh hr) rfl ?_
  refine x_iconst (v := (nI 0)) f_River_copyFrom_56 rfl ?_
  refine x_bipush (v := (nI 7)) f_River_copyFrom_57 rfl ?_
  refine x_acopyN f_River_copyFrom_59 (Nat.le_of_ble_eq_true rfl) (rvA2 ho) (rvA2 hr) (by decide) (by decide) ?_
  refine x_al1 f_River_copyFrom_62 ?_
  refine x_getR f_River_copyFrom_63 (rv_sh ho) rfl ?_
  refine x_iconst (v := (nI 0)) f_River_copyFrom_66 rfl ?_
  refine x_al0 f_River_copyFrom_67 ?_
  refine x_getR f_River_copyFrom_68 (rv_sh hr) rfl ?_
  refine x_iconst (v := (nI 0)) f_River_copyFrom_71 rfl ?_
  refine x_bipush (v := (nI 7)) f_River_copyFrom_72 rfl ?_
  refine x_acopyN f_River_copyFrom_74 (Nat.le_of_ble_eq_true rfl) (rvA3 ho) (rvA3 hr) (by decide) (by decide) ?_
  refine x_al1 f_River_copyFrom_77 ?_
  refine x_getR f_River_copyFrom_78 (rv_sh ho) rfl ?_
  refine x_iconst (v := (nI 0)) f_River_copyFrom_81 rfl ?_
  refine x_al0 f_River_copyFrom_82 ?_
  refine x_getR f_River_copyFrom_83 (rv_sh hr) rfl ?_
  refine x_iconst (v := (nI 0)) f_River_copyFrom_86 rfl ?_
  refine x_bipush (v := (nI 7)) f_River_copyFrom_87 rfl ?_
  refine x_acopyN f_River_copyFrom_89 (Nat.le_of_ble_eq_true rfl) (rvA4 ho) (rvA4 hr) (by decide) (by decide) ?_
  refine x_al1 f_River_copyFrom_92 ?_
  refine x_getR f_River_copyFrom_93 (rv_sh ho) rfl ?_
  refine x_iconst (v := (nI 0)) f_River_copyFrom_96 rfl ?_
  refine x_al0 f_River_copyFrom_97 ?_
  refine x_getR f_River_copyFrom_98 (rv_sh hr) rfl ?_
  refine x_iconst (v := (nI 0)) f_River_copyFrom_101 rfl ?_
  refine x_bipush (v := (nI 7)) f_River_copyFrom_102 rfl ?_
  refine x_acopyN f_River_copyFrom_104 (Nat.le_of_ble_eq_true rfl) (rvA5 ho) (rvA5 hr) (by decide) (by decide) ?_
  refine x_al1 f_River_copyFrom_107 ?_
  refine x_getR f_River_copyFrom_108 (rv_sh ho) rfl ?_
  refine x_iconst (v := (nI 0)) f_River_copyFrom_111 rfl ?_
  refine x_al0 f_River_copyFrom_112 ?_
  refine x_getR f_River_copyFrom_113 (rv_sh hr) rfl ?_
  refine x_iconst (v := (nI 0)) f_River_copyFrom_116 rfl ?_
  refine x_iconst (v := (nI 3)) f_River_copyFrom_117 rfl ?_
  refine x_acopyN f_River_copyFrom_118 (Nat.le_of_ble_eq_true rfl) (rvA6 ho) (rvA6 hr) (by decide) (by decide) ?_
  refine x_return f_River_copyFrom_121 rfl ?_
  refine hQ _ ⟨fun j hj => ?_, fun k h1 h5 i hi => ?_, fun i hi => ?_, fun a i ha => ?_, rfl⟩
  · simp only [cp_def, stM_def, true_and]
    rcases (show j = 0 ∨ j = 1 ∨ j = 2 ∨ j = 3 by omega) with rfl | rfl | rfl | rfl <;> (repeat (first | rw [if_neg (by omega)] | rw [if_pos (by omega)]))
  · simp only [cp_def, stM_def, true_and]
    rcases (show k = 1 ∨ k = 2 ∨ k = 3 ∨ k = 4 ∨ k = 5 by omega) with rfl | rfl | rfl | rfl | rfl <;> (repeat (first | rw [if_neg (by omega)] | rw [if_pos (by omega)]))
  · simp only [cp_def, stM_def, true_and]
    (repeat (first | rw [if_neg (by omega)] | rw [if_pos (by omega)]))
  · simp only [cp_def, stM_def, true_and]
    (repeat (first | rw [if_neg (by omega)] | rw [if_pos (by omega)]))
end
