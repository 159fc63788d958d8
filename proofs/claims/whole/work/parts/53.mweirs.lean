/-! the reference: weirs -/
theorem bit_off : ∀ b, b < 128 → ∀ k, k < 7 → b / 2 ^ k % 2 = 0 ∨ (2 ^ k ≤ b ∧ popN (b - 2 ^ k) + 1 = popN b ∧ ∀ i, i < 7 → (b - 2 ^ k) / 2 ^ i % 2 = if i = k then 0 else b / 2 ^ i % 2) := by decide +kernel
def okw (K : Nat → Nat) (b : Nat) : Nat → Nat
  | 0 => 1
  | k + 1 => if b / 2 ^ k % 2 = 1 ∧ K k = 3 then 0 else okw K b k
theorem okw_le (K : Nat → Nat) (b : Nat) : ∀ k, okw K b k ≤ 1
  | 0 => Nat.le_refl _
  | k + 1 => by unfold okw; have := okw_le K b k; split <;> omega
theorem okw_0 {K : Nat → Nat} {b : Nat} : ∀ n, okw K b n = 0 → ∃ k, k < n ∧ b / 2 ^ k % 2 = 1 ∧ K k = 3
  | 0, h => by
    have h : 1 = 0 := h
    omega
  | n + 1, h => by
    unfold okw at h
    split at h
    · next hh => exact ⟨n, by omega, hh⟩
    · obtain ⟨k, k1, k2⟩ := okw_0 n h
      exact ⟨k, by omega, k2⟩
theorem wfl_best {cal : Nat → Nat} : ∀ b a, a < b → cal a = 1 → wfl cal b ≠ 0 ∧ popN (wfl cal b - 1) ≤ popN a
  | 0, a, h, _ => by omega
  | b + 1, a, h, hc => by
    unfold wfl
    by_cases e : a = b
    · subst e
      by_cases q : (wfl cal a = 0 ∨ popN a < popN (wfl cal a - 1)) ∧ cal a = 1
      · rw [if_pos q]; exact ⟨by omega, by rw [show a + 1 - 1 = a by omega]; exact Nat.le_refl _⟩
      · rw [if_neg q]
        refine ⟨fun z => q ⟨Or.inl z, hc⟩, ?_⟩
        rcases Nat.lt_or_ge (popN a) (popN (wfl cal a - 1)) with z | z
        · exact absurd ⟨Or.inr z, hc⟩ q
        · exact z
    · obtain ⟨i1, i2⟩ := wfl_best b a (by omega) hc
      by_cases q : (wfl cal b = 0 ∨ popN b < popN (wfl cal b - 1)) ∧ cal b = 1
      · rw [if_pos q]
        refine ⟨by omega, ?_⟩
        rw [show b + 1 - 1 = b by omega]
        rcases q.1 with z | z
        · exact absurd z i1
        · omega
      · rw [if_neg q]; exact ⟨i1, i2⟩
theorem wk_off {K : Nat → Nat} {b k : Nat} (hb : b < 128) (hk : k < 7) (h1 : b / 2 ^ k % 2 = 1) (h3 : K k = 3) : wkN K (b - 2 ^ k) = wkN K b := by
  obtain ⟨q1, q2, q3⟩ := (bit_off b hb k hk).resolve_left (by omega)
  funext i
  unfold wkN
  by_cases hi : i < 7
  · rw [q3 i hi]
    by_cases e : i = k
    · rw [if_pos e, if_neg (by omega), e, if_pos h1, h3]
    · rw [if_neg e]
  · have hp : 2 ^ 7 ≤ 2 ^ i := Nat.pow_le_pow_right (by omega) (by omega)
    rw [Nat.div_eq_of_lt (show b < 2 ^ i by omega), Nat.div_eq_of_lt (Nat.lt_of_le_of_lt (Nat.sub_le b (2 ^ k)) (show b < 2 ^ i by omega))]
/-- sets with a weir that stands are never better -/
theorem wfl_ok {n : Nat} {K F Z Rn : Nat → Nat} (hn : n ≤ 7) : ∀ b, b ≤ 128 → wfl (fun b => okw K b n * clN2 n K F Z Rn b) b = wfl (clN2 n K F Z Rn) b
  | 0, _ => rfl
  | b + 1, hb => by
    have ih := wfl_ok (F := F) (Z := Z) (Rn := Rn) (K := K) hn b (by omega)
    have hl := okw_le K b n
    unfold wfl
    rw [ih]
    rcases (show okw K b n = 0 ∨ okw K b n = 1 by omega) with e | e
    · rw [e, Nat.zero_mul, if_neg (by omega)]
      obtain ⟨k, k1, k2, k3⟩ := okw_0 n e
      obtain ⟨q1, q2, q3⟩ := (bit_off b (by omega) k (by omega)).resolve_left (by omega)
      have hp := Nat.two_pow_pos k
      rw [if_neg]
      intro z
      have hc : clN2 n K F Z Rn (b - 2 ^ k) = 1 := by
        have h := z.2
        unfold clN2 at h ⊢
        rw [wk_off (by omega) (by omega) k2 k3]
        exact h
      obtain ⟨i1, i2⟩ := wfl_best b (b - 2 ^ k) (by omega) hc
      rcases z.1 with y | y
      · exact i1 y
      · omega
    · rw [e, Nat.one_mul]
section
variable {X : (Nat → Int32) × Nat} {d : Nat} {Q : mM → Option Value → Prop} {M : mM} {s : St} {n : Nat} {K F Z Rn : Nat → Nat}
def frK (M M1 : mM) : Prop := (∀ a i, a ≠ 57 → a ≠ 62 → M1.1 a i = M.1 a i) ∧ M1.2 = M.2
theorem frK_trans {M M1 M2 : mM} (h : frK M M1) (h2 : frK M1 M2) : frK M M2 := ⟨fun a i x y => (h2.1 a i x y).trans (h.1 a i x y), h2.2.trans h.2⟩
theorem l_Mo_isCalm {b : Nat} (hb : b < 128) (hn7 : n ≤ 7) (hn : M.1 55 3 = nI n) (h65 : ∀ i, i < n → M.1 65 i = nI (K i)) (hQ : wp X (d + 4) n_Mo_isCalm Q 41 [.ref 55, .int (nI b), .int (nI n)] [] (wrM M 57 n (wkN K b))) (i : Nat) (hi : i ≤ n) : wp X (d + 4) n_Mo_isCalm Q 2 [.ref 55, .int (nI b), .int (nI i)] [] (wrM M 57 i (wkN K b)) := by
  refine x_il2 f_Mo_isCalm_2 ?_
  refine x_al0 f_Mo_isCalm_3 ?_
  refine x_getIV f_Mo_isCalm_4 rfl rfl (Or.inl rfl) ((wrM_o (by omega)).trans hn) ?_
  refine x_cmp_geN f_Mo_isCalm_7 (by omega) (by omega) (fun h => ?_) (fun h => ?_)
  · have e : i = n := by omega
    subst e
    exact hQ
  · have hh := l_Mo_isCalm hb hn7 hn h65 hQ (i + 1) (by omega)
    rw [← st_wr1] at hh
    refine x_al0 f_Mo_isCalm_10 ?_
    refine x_getR f_Mo_isCalm_11 rfl rfl ?_
    refine x_il2 f_Mo_isCalm_14 ?_
    refine x_il1 f_Mo_isCalm_15 ?_
    refine x_il2 f_Mo_isCalm_16 ?_
    refine x_ishrN f_Mo_isCalm_17 (by omega) (by omega) ?_
    refine x_iconst (v := (nI 1)) f_Mo_isCalm_18 rfl ?_
    refine x_iandN f_Mo_isCalm_19 ?_
    rw [Nat.and_one_is_mod]
    refine x_iconst (v := (nI 1)) f_Mo_isCalm_20 rfl ?_
    refine x_cmp_neN f_Mo_isCalm_21 (by omega) (by omega) (fun h1 => ?_) (fun h1 => ?_)
    · have e : wkN K b i = K i := if_neg h1
      rw [e] at hh
      refine x_al0 f_Mo_isCalm_28 ?_
      refine x_getR f_Mo_isCalm_29 rfl rfl ?_
      refine x_il2 f_Mo_isCalm_32 ?_
      refine x_ialdV f_Mo_isCalm_33 rfl (by omega) ((wrM_o (by omega)).trans (h65 i h)) ?_
      refine x_iastN f_Mo_isCalm_34 rfl (by omega) ?_
      refine x_incN2 f_Mo_isCalm_35 rfl ?_
      refine x_goto f_Mo_isCalm_38 ?_
      exact hh
    · have e : wkN K b i = 3 := if_pos h1
      rw [e] at hh
      refine x_iconst (v := (nI 3)) f_Mo_isCalm_24 rfl ?_
      refine x_goto f_Mo_isCalm_25 ?_
      refine x_iastN f_Mo_isCalm_34 rfl (by omega) ?_
      refine x_incN2 f_Mo_isCalm_35 rfl ?_
      refine x_goto f_Mo_isCalm_38 ?_
      exact hh
termination_by n - i
decreasing_by all_goals omega
theorem c_Mo_isCalm {M : mM} {b : Nat} (hb : b < 128) (hn7 : n ≤ 7) (hKb : ∀ i, i < n → K i < 10) (hFb : ∀ i, i < n → F i ≤ 20) (hZb : ∀ i, i < n → Z i < 100000) (hRb : ∀ i, i < n → Rn i ≤ i) (hn : M.1 55 3 = nI n) (h65 : ∀ i, i < n → M.1 65 i = nI (K i)) (hF : ∀ i, i < n → M.1 58 i = nI (F i)) (hZ : ∀ i, i < n → M.1 59 i = nI (Z i)) (hR : ∀ i, i < n → M.1 60 i = iv (Rn i)) (hQ : ∀ M1, frK M M1 → Q M1 (some (.int (nI (clN2 n K F Z Rn b))))) : wp X (d + 4) n_Mo_isCalm Q 0 [.ref 55, .int (nI b), .null] [] M := by
  refine x_iconst (v := (nI 0)) f_Mo_isCalm_0 rfl ?_
  refine x_is2 f_Mo_isCalm_1 rfl ?_
  have h := l_Mo_isCalm (X := X) (d := d) (Q := Q) hb hn7 hn h65 ?_ 0 (by omega)
  · rw [wrM_0] at h
    exact h
  · have w1 : MwC (wrM M 57 n (wkN K b)) n (wkN K b) F Rn := ⟨(wrM_o (by omega)).trans hn, hn7, fun i hi => wrM_at hi, fun i hi => by have := hKb i hi; unfold wkN; split <;> omega, fun i hi => (wrM_o (by omega)).trans (hF i hi), hFb, fun i hi => (wrM_o (by omega)).trans (hR i hi), hRb⟩
    have hfc : fcN (wkN K b) (wat n (wkN K b) F Rn) Z n ≤ n * 1 := sumN_bd (fun i => fldN_le _ _ _) n
    refine x_al0 f_Mo_isCalm_41 ?_
    refine x_al0 f_Mo_isCalm_42 ?_
    refine x_getR f_Mo_isCalm_43 rfl rfl ?_
    refine x_cV1i f_Mo_isCalm_46 rfl rfl (by decide) (Nat.le_of_ble_eq_true rfl) (Nat.le_of_ble_eq_true rfl) rfl (c_Mo_floodsBy (kz := 59) rfl (by omega) w1 (fun i hi => (wrM_o (by omega)).trans (hZ i hi)) hZb ⟨_, rfl, ?_⟩)
    have hq := hQ (wrM (wrM M 57 n (wkN K b)) 62 n (wat n (wkN K b) F Rn)) ⟨fun a i x y => (wrM_o y).trans (wrM_o x), rfl⟩
    unfold clN2 at hq
    refine x_if_neN f_Mo_isCalm_49 (by omega) (fun h1 => ?_) (fun h1 => ?_)
    · rw [if_neg (by omega)] at hq
      refine x_iconst (v := (nI 0)) f_Mo_isCalm_56 rfl ?_
      refine x_zreturn f_Mo_isCalm_57 rfl (by decide) ?_
      exact hq
    · rw [if_pos h1] at hq
      refine x_iconst (v := (nI 1)) f_Mo_isCalm_52 rfl ?_
      refine x_goto f_Mo_isCalm_53 ?_
      refine x_zreturn f_Mo_isCalm_57 rfl (by decide) ?_
      exact hq
theorem l_Mo_weirsOf2 {b m1 : Nat} {w be : Int32} (hb : b < 128) (hm : m1 ≤ 1) (hn7 : n ≤ 7) (hKb : ∀ i, i < n → K i < 10) (hn : M.1 55 3 = nI n) (h65 : ∀ i, i < n → M.1 65 i = nI (K i)) (hQ : ∀ v5 : Value, wp X (d + 5) n_Mo_weirsOf Q 98 [.ref 55, .int w, .int be, .int (nI b), .int (nI (m1 * okw K b n)), v5] [] M) (k : Nat) (hk : k ≤ n) : wp X (d + 5) n_Mo_weirsOf Q 51 [.ref 55, .int w, .int be, .int (nI b), .int (nI (m1 * okw K b k)), .int (nI k)] [] M := by
  refine x_il5 f_Mo_weirsOf_51 ?_
  refine x_al0 f_Mo_weirsOf_53 ?_
  refine x_getIV f_Mo_weirsOf_54 rfl rfl (Or.inl rfl) (hn) ?_
  refine x_cmp_geN f_Mo_weirsOf_57 (by omega) (by omega) (fun h => ?_) (fun h => ?_)
  · have e : k = n := by omega
    subst e
    exact hQ _
  · have hh := l_Mo_weirsOf2 hb hm hn7 hKb hn h65 hQ (k + 1) (by omega)
    have hl := okw_le K b k
    have hkb := hKb k h
    have e1 : okw K b (k + 1) = if b / 2 ^ k % 2 = 1 ∧ K k = 3 then 0 else okw K b k := rfl
    have hml : m1 * okw K b k ≤ 1 := Nat.le_trans (Nat.mul_le_mul hm hl) (by omega)
    refine x_il4 f_Mo_weirsOf_60 ?_
    refine x_if_eqN f_Mo_weirsOf_62 (by omega) (fun h1 => ?_) (fun h1 => ?_)
    · have e2 : m1 * okw K b (k + 1) = 0 := by rw [e1]; split; rfl; exact h1
      rw [e2] at hh
      refine x_iconst (v := (nI 0)) f_Mo_weirsOf_89 rfl ?_
      refine x_is4 f_Mo_weirsOf_90 rfl ?_
      refine x_incN5 f_Mo_weirsOf_92 rfl ?_
      refine x_goto f_Mo_weirsOf_95 ?_
      exact hh
    · have em : m1 * okw K b k = 1 := by omega
      refine x_il3 f_Mo_weirsOf_65 ?_
      refine x_il5 f_Mo_weirsOf_66 ?_
      refine x_ishrN f_Mo_weirsOf_68 (by omega) (by omega) ?_
      refine x_iconst (v := (nI 1)) f_Mo_weirsOf_69 rfl ?_
      refine x_iandN f_Mo_weirsOf_70 ?_
      rw [Nat.and_one_is_mod]
      refine x_if_eqN f_Mo_weirsOf_71 (by omega) (fun h2 => ?_) (fun h2 => ?_)
      · rw [e1, if_neg (by omega), em] at hh
        refine x_iconst (v := (nI 1)) f_Mo_weirsOf_85 rfl ?_
        refine x_goto f_Mo_weirsOf_86 ?_
        refine x_is4 f_Mo_weirsOf_90 rfl ?_
        refine x_incN5 f_Mo_weirsOf_92 rfl ?_
        refine x_goto f_Mo_weirsOf_95 ?_
        exact hh
      · refine x_al0 f_Mo_weirsOf_74 ?_
        refine x_getR f_Mo_weirsOf_75 rfl rfl ?_
        refine x_il5 f_Mo_weirsOf_78 ?_
        refine x_ialdV f_Mo_weirsOf_80 rfl (by omega) (h65 k h) ?_
        refine x_iconst (v := (nI 3)) f_Mo_weirsOf_81 rfl ?_
        refine x_cmp_eqN f_Mo_weirsOf_82 (by omega) (by omega) (fun h3 => ?_) (fun h3 => ?_)
        · rw [e1, if_pos ⟨by omega, h3⟩, Nat.mul_zero] at hh
          refine x_iconst (v := (nI 0)) f_Mo_weirsOf_89 rfl ?_
          refine x_is4 f_Mo_weirsOf_90 rfl ?_
          refine x_incN5 f_Mo_weirsOf_92 rfl ?_
          refine x_goto f_Mo_weirsOf_95 ?_
          exact hh
        · rw [e1, if_neg (fun z => h3 z.2), em] at hh
          refine x_iconst (v := (nI 1)) f_Mo_weirsOf_85 rfl ?_
          refine x_goto f_Mo_weirsOf_86 ?_
          refine x_is4 f_Mo_weirsOf_90 rfl ?_
          refine x_incN5 f_Mo_weirsOf_92 rfl ?_
          refine x_goto f_Mo_weirsOf_95 ?_
          exact hh
termination_by n - k
decreasing_by all_goals omega
theorem l_Mo_weirsOf1 {w : Int32} (hn7 : n ≤ 7) (hKb : ∀ i, i < n → K i < 10) (hFb : ∀ i, i < n → F i ≤ 20) (hZb : ∀ i, i < n → Z i < 100000) (hRb : ∀ i, i < n → Rn i ≤ i) (M0 : mM) (hn : M0.1 55 3 = nI n) (h65 : ∀ i, i < n → M0.1 65 i = nI (K i)) (hF : ∀ i, i < n → M0.1 58 i = nI (F i)) (hZ : ∀ i, i < n → M0.1 59 i = nI (Z i)) (hR : ∀ i, i < n → M0.1 60 i = iv (Rn i)) (hQ : ∀ (M1 : mM) (v3 v4 v5 : Value), frK M0 M1 → wp X (d + 5) n_Mo_weirsOf Q 123 [.ref 55, .int w, .int (iv (wfl (clN2 n K F Z Rn) (2 ^ n))), v3, v4, v5] [] M1) (M : mM) (b : Nat) (hb : b ≤ 2 ^ n) (hf : frK M0 M) (v4 v5 : Value) (hv : okst [v4] 1 = true) : wp X (d + 5) n_Mo_weirsOf Q 15 [.ref 55, .int w, .int (iv (wfl (clN2 n K F Z Rn) b)), .int (nI b), v4, v5] [] M := by
  have hp : 2 ^ n ≤ 2 ^ 7 := Nat.pow_le_pow_right (by omega) hn7
  have hle := wfl_le (clN2 n K F Z Rn) b
  have o : ∀ a i, a ≠ 57 → a ≠ 62 → M.1 a i = M0.1 a i := hf.1
  refine x_il3 f_Mo_weirsOf_15 ?_
  refine x_iconst (v := (nI 1)) f_Mo_weirsOf_16 rfl ?_
  refine x_al0 f_Mo_weirsOf_17 ?_
  refine x_getIV f_Mo_weirsOf_18 rfl rfl (Or.inl rfl) ((o _ _ (by omega) (by omega)).trans hn) ?_
  refine x_shl1N f_Mo_weirsOf_21 (by omega) ?_
  refine x_cmp_geN f_Mo_weirsOf_22 (by omega) (by omega) (fun h => ?_) (fun h => ?_)
  · have e : b = 2 ^ n := by omega
    subst e
    exact hQ M _ _ _ hf
  · have hb7 : b < 128 := by omega
    have ok := wfl_ok (F := F) (Z := Z) (Rn := Rn) (K := K) hn7 (b + 1) (by omega)
    have ok0 := wfl_ok (F := F) (Z := Z) (Rn := Rn) (K := K) hn7 b (by omega)
    have e1 : wfl (clN2 n K F Z Rn) (b + 1) = if (wfl (clN2 n K F Z Rn) b = 0 ∨ popN b < popN (wfl (clN2 n K F Z Rn) b - 1)) ∧ okw K b n * clN2 n K F Z Rn b = 1 then b + 1 else wfl (clN2 n K F Z Rn) b := by
      rw [← ok]
      show (if (wfl (fun b => okw K b n * clN2 n K F Z Rn b) b = 0 ∨ popN b < popN (wfl (fun b => okw K b n * clN2 n K F Z Rn b) b - 1)) ∧ okw K b n * clN2 n K F Z Rn b = 1 then b + 1 else wfl (fun b => okw K b n * clN2 n K F Z Rn b) b) = _
      rw [ok0]
    have hol := okw_le K b n
    have hcl : clN2 n K F Z Rn b ≤ 1 := by unfold clN2; split <;> omega
    have hpb := pop_le b (by omega)
    generalize hE : wfl (clN2 n K F Z Rn) b = E at *
    have hpe := pop_le (E - 1) (by omega)
    have go : ∀ (M1 : mM) (u4 : Int32) (u5 : Value), frK M M1 → wp X (d + 5) n_Mo_weirsOf Q 117 [.ref 55, .int w, .int (iv (wfl (clN2 n K F Z Rn) (b + 1))), .int (nI b), .int u4, u5] [] M1 := by
      intro M1 u4 u5 f1
      refine x_incN3 f_Mo_weirsOf_117 rfl ?_
      refine x_goto f_Mo_weirsOf_120 ?_
      exact l_Mo_weirsOf1 hn7 hKb hFb hZb hRb M0 hn h65 hF hZ hR hQ M1 (b + 1) (by omega) (frK_trans hf f1) _ _ rfl
    have mid : ∀ m1, (m1 = if E = 0 ∨ popN b < popN (E - 1) then 1 else 0) → wp X (d + 5) n_Mo_weirsOf Q 46 [.ref 55, .int w, .int (iv E), .int (nI b), v4, v5] [.int (nI m1)] M := by
      intro m1 hm
      have hm1 : m1 ≤ 1 := by rw [hm]; split <;> omega
      refine x_is4 f_Mo_weirsOf_46 rfl ?_
      refine x_iconst (v := (nI 0)) f_Mo_weirsOf_48 rfl ?_
      refine x_is5 f_Mo_weirsOf_49 rfl ?_
      have hh := l_Mo_weirsOf2 (X := X) (d := d) (Q := Q) (M := M) (w := w) (be := iv E) (m1 := m1) hb7 hm1 hn7 hKb ((o _ _ (by omega) (by omega)).trans hn) (fun i hi => (o _ _ (by omega) (by omega)).trans (h65 i hi)) ?_ 0 (by omega)
      · rw [show m1 * okw K b 0 = m1 from Nat.mul_one m1] at hh
        exact hh
      · intro u5
        have hml : m1 * okw K b n ≤ 1 := Nat.le_trans (Nat.mul_le_mul hm1 hol) (by omega)
        refine x_il4 f_Mo_weirsOf_98 ?_
        refine x_if_eqN f_Mo_weirsOf_100 (by omega) (fun h1 => ?_) (fun h1 => ?_)
        · have hn1 : ¬ ((E = 0 ∨ popN b < popN (E - 1)) ∧ okw K b n * clN2 n K F Z Rn b = 1) := fun z => by
            rw [if_pos z.1] at hm
            rw [hm, Nat.one_mul] at h1
            rw [h1, Nat.zero_mul] at z
            omega
          rw [if_neg hn1] at e1
          have hg := go M (nI (m1 * okw K b n)) u5 ⟨fun _ _ _ _ => rfl, rfl⟩
          rw [e1] at hg
          refine x_il2 f_Mo_weirsOf_115 ?_
          refine x_is2 f_Mo_weirsOf_116 rfl ?_
          exact hg
        · have hmo : m1 = 1 ∧ okw K b n = 1 := by
            have a1 : m1 ≠ 0 := fun z => by rw [z, Nat.zero_mul] at h1; omega
            have a2 : okw K b n ≠ 0 := fun z => by rw [z, Nat.mul_zero] at h1; omega
            omega
          have hc1 : E = 0 ∨ popN b < popN (E - 1) := Decidable.not_not.mp (fun z => by rw [if_neg z] at hm; omega)
          refine x_al0 f_Mo_weirsOf_103 ?_
          refine x_il3 f_Mo_weirsOf_104 ?_
          refine x_cV1i f_Mo_weirsOf_105 rfl rfl (by decide) (Nat.le_of_ble_eq_true rfl) (Nat.le_of_ble_eq_true rfl) rfl (c_Mo_isCalm (K := K) (F := F) (Z := Z) (Rn := Rn) hb7 hn7 hKb hFb hZb hRb ((o _ _ (by omega) (by omega)).trans hn) (fun i hi => (o _ _ (by omega) (by omega)).trans (h65 i hi)) (fun i hi => (o _ _ (by omega) (by omega)).trans (hF i hi)) (fun i hi => (o _ _ (by omega) (by omega)).trans (hZ i hi)) (fun i hi => (o _ _ (by omega) (by omega)).trans (hR i hi)) (fun M1 f1 => ⟨_, rfl, ?_⟩))
          refine x_if_eqN f_Mo_weirsOf_108 (by omega) (fun h2 => ?_) (fun h2 => ?_)
          · rw [if_neg (by rw [h2, Nat.mul_zero]; omega)] at e1
            have hg := go M1 (nI (m1 * okw K b n)) u5 f1
            rw [e1] at hg
            refine x_il2 f_Mo_weirsOf_115 ?_
            refine x_is2 f_Mo_weirsOf_116 rfl ?_
            exact hg
          · rw [if_pos ⟨hc1, by rw [hmo.2, Nat.one_mul]; omega⟩] at e1
            have hg := go M1 (nI (m1 * okw K b n)) u5 f1
            rw [e1] at hg
            refine x_il3 f_Mo_weirsOf_111 ?_
            refine x_goto f_Mo_weirsOf_112 ?_
            refine x_is2 f_Mo_weirsOf_116 rfl ?_
            exact hg
    refine x_il2 f_Mo_weirsOf_25 ?_
    refine x_iconst (v := (-1)) f_Mo_weirsOf_26 rfl ?_
    refine x_cmp_eq f_Mo_weirsOf_27 (fun h1 => ?_) (fun h1 => ?_)
    · have h0 := (iv_eqm1 (by omega)).mp h1
      refine x_iconst (v := (nI 1)) f_Mo_weirsOf_41 rfl ?_
      refine x_goto f_Mo_weirsOf_42 ?_
      exact mid _ (by rw [if_pos (Or.inl h0)])
    · obtain ⟨t, ht⟩ : ∃ t, E = t + 1 := by
        cases hc : E with
        | zero => exact absurd ((iv_eqm1 (by omega)).mpr hc) h1
        | succ t => exact ⟨t, rfl⟩
      have ei : iv E = nI (E - 1) := by rw [ht]; rfl
      have mid2 := mid
      rw [ei] at mid2 ⊢
      refine x_il3 f_Mo_weirsOf_30 ?_
      refine x_cS1i f_Mo_weirsOf_31 (by decide) (Nat.le_of_ble_eq_true rfl) (Nat.le_of_ble_eq_true rfl) rfl (c_Mo_ones (by omega) ⟨_, rfl, ?_⟩)
      refine x_il2 f_Mo_weirsOf_34 ?_
      refine x_cS1i f_Mo_weirsOf_35 (by decide) (Nat.le_of_ble_eq_true rfl) (Nat.le_of_ble_eq_true rfl) rfl (c_Mo_ones (by omega) ⟨_, rfl, ?_⟩)
      refine x_cmp_geN f_Mo_weirsOf_38 (by omega) (by omega) (fun h2 => ?_) (fun h2 => ?_)
      · refine x_iconst (v := (nI 0)) f_Mo_weirsOf_45 rfl ?_
        exact mid2 _ (by rw [if_neg (by omega)])
      · refine x_iconst (v := (nI 1)) f_Mo_weirsOf_41 rfl ?_
        refine x_goto f_Mo_weirsOf_42 ?_
        exact mid2 _ (by rw [if_pos (Or.inr h2)])
termination_by 2 ^ n - b
decreasing_by all_goals omega
theorem c_Mo_weirsOf {M : mM} {w : Nat} (hI : Inv s) (hR : RelM s M) (hw : w ≤ 1) (hQ : ∀ M1, RelM s M1 → frH M M1 → Q M1 (some (.int (if w = 0 then hmI (wrD s) else iv (wrD s))))) : wp X (d + 5) n_Mo_weirsOf Q 0 [.ref 55, .int (nI w), .null, .null, .null, .null] [] M := by
  obtain ⟨hn7, hg3, hmo⟩ := Inv_n hI
  obtain ⟨kb, fb, zb, rb, wb, ab⟩ := Inv_k hI
  obtain ⟨⟨p1, p2⟩, ⟨a1, a2, a3, a4, a5, a6, a7⟩, ⟨w1, w2, w3, w4⟩, r, sn, im⟩ := id hR
  have hp : 2 ^ (s 1 1) ≤ 2 ^ 7 := Nat.pow_le_pow_right (by omega) hn7
  have hle : wrD s ≤ 2 ^ (s 1 1) := wfl_le _ _
  refine x_al0 f_Mo_weirsOf_0 ?_
  refine x_getR f_Mo_weirsOf_1 rfl rfl ?_
  refine x_al0 f_Mo_weirsOf_4 ?_
  refine x_getR f_Mo_weirsOf_5 rfl rfl ?_
  refine x_cS2v f_Mo_weirsOf_8 (by decide) (Nat.le_of_ble_eq_true rfl) (Nat.le_of_ble_eq_true rfl) rfl (c_Mo_copy (k0 := 57) (k1 := 65) (z := 7) rfl rfl (by omega) (by omega) ⟨rfl, ?_⟩)
  refine x_iconst (v := (-1)) f_Mo_weirsOf_11 rfl ?_
  refine x_is2 f_Mo_weirsOf_12 rfl ?_
  refine x_iconst (v := (nI 0)) f_Mo_weirsOf_13 rfl ?_
  refine x_is3 f_Mo_weirsOf_14 rfl ?_
  have o0 : ∀ a i, a ≠ 65 → (crM M 57 65 7).1 a i = M.1 a i := fun a i x => crM_o x
  have k0 : ∀ i, i < s 1 1 → (crM M 57 65 7).1 65 i = nI (s 2 i) := fun i hi => (crM_at (by omega)).trans (w1 i hi)
  have q0 : (crM M 57 65 7).2 = M.2 := rfl
  generalize (crM M 57 65 7) = M0 at o0 k0 q0
  refine l_Mo_weirsOf1 (K := s 2) (F := s 3) (Z := s 4) (Rn := s 5) hn7 kb fb (fun i hi => by have := zb i hi; omega) rb M0 ((o0 _ _ (by omega)).trans a1) k0 (fun i hi => (o0 _ _ (by omega)).trans (w2 i hi)) (fun i hi => (o0 _ _ (by omega)).trans (w3 i hi)) (fun i hi => (o0 _ _ (by omega)).trans (r i hi)) (fun M1 v3 v4 v5 f1 => ?_) M0 0 (Nat.zero_le _) ⟨fun _ _ _ _ => rfl, rfl⟩ _ _ rfl
  refine x_al0 f_Mo_weirsOf_123 ?_
  refine x_getR f_Mo_weirsOf_124 rfl rfl ?_
  refine x_al0 f_Mo_weirsOf_127 ?_
  refine x_getR f_Mo_weirsOf_128 rfl rfl ?_
  refine x_cS2v f_Mo_weirsOf_131 (by decide) (Nat.le_of_ble_eq_true rfl) (Nat.le_of_ble_eq_true rfl) rfl (c_Mo_copy (k0 := 65) (k1 := 57) (z := 7) rfl rfl (by omega) (by omega) ⟨rfl, ?_⟩)
  have o2 : ∀ a i, a ≠ 57 → a ≠ 62 → a ≠ 65 → (crM M1 65 57 7).1 a i = M.1 a i := fun a i x1 x2 x3 => by rw [crM_o x1, f1.1 a i x1 x2]; exact o0 a i x3
  have k2 : ∀ i, i < s 1 1 → (crM M1 65 57 7).1 57 i = nI (s 2 i) := fun i hi => by rw [crM_at (by omega), f1.1 _ _ (by omega) (by omega)]; exact k0 i hi
  have R2 : RelM s (crM M1 65 57 7) := RelM_v hR (fun _ _ _ _ _ => rfl) ⟨k2, fun i hi => (o2 _ _ (by omega) (by omega) (by omega)).trans (w2 i hi), fun i hi => (o2 _ _ (by omega) (by omega) (by omega)).trans (w3 i hi), fun i hi => (o2 _ _ (by omega) (by omega) (by omega)).trans (w4 i hi)⟩ (fun a i h => o2 a i (by omega) (by omega) (by omega))
  have q2 : (crM M1 65 57 7).2 = M.2 := f1.2.trans q0
  have hq := hQ _ R2 ⟨fun a i h => o2 a i (by omega) (by omega) (by omega), q2⟩
  show wp X (d + 5) n_Mo_weirsOf Q 134 [.ref 55, .int (nI w), .int (iv (wrD s)), v3, v4, v5] [] (crM M1 65 57 7)
  generalize wrD s = E at hle hq
  refine x_il2 f_Mo_weirsOf_134 ?_
  refine x_iconst (v := (-1)) f_Mo_weirsOf_135 rfl ?_
  refine x_cmp_eq f_Mo_weirsOf_136 (fun h1 => ?_) (fun h1 => ?_)
  · have h0 := (iv_eqm1 (by omega)).mp h1
    refine x_il2 f_Mo_weirsOf_144 ?_
    refine x_goto f_Mo_weirsOf_145 ?_
    refine x_ireturn f_Mo_weirsOf_152 rfl ?_
    have e : (if w = 0 then hmI E else iv E) = iv E := by
      rw [h0]
      split <;> rfl
    rw [e] at hq
    exact hq
  · obtain ⟨t, ht⟩ : ∃ t, E = t + 1 := by
      cases hc : E with
      | zero => exact absurd ((iv_eqm1 (by omega)).mpr hc) h1
      | succ t => exact ⟨t, rfl⟩
    have ei : iv E = nI (E - 1) := by rw [ht]; rfl
    refine x_il1 f_Mo_weirsOf_139 ?_
    refine x_iconst (v := (nI 1)) f_Mo_weirsOf_140 rfl ?_
    refine x_cmp_neN f_Mo_weirsOf_141 (by omega) (by omega) (fun h2 => ?_) (fun h2 => ?_)
    · have e : (if w = 0 then hmI E else iv E) = nI (popN (E - 1)) := by
        rw [if_pos (by omega)]
        unfold hmI
        rw [if_neg (by omega)]
      rw [e] at hq
      rw [ei]
      refine x_il2 f_Mo_weirsOf_148 ?_
      refine x_cS1i f_Mo_weirsOf_149 (by decide) (Nat.le_of_ble_eq_true rfl) (Nat.le_of_ble_eq_true rfl) rfl (c_Mo_ones (by omega) ⟨_, rfl, ?_⟩)
      refine x_ireturn f_Mo_weirsOf_152 rfl ?_
      exact hq
    · rw [if_neg (by omega)] at hq
      refine x_il2 f_Mo_weirsOf_144 ?_
      refine x_goto f_Mo_weirsOf_145 ?_
      refine x_ireturn f_Mo_weirsOf_152 rfl ?_
      exact hq
theorem c_Mo_weirs {y : Int32} (hI : Inv s) (hR : RelM s M) (hQ : ∀ M1, RelM s M1 → frC M M1 → Q M1 (some (.int (wrA s y)))) : wp X (d + 6) n_Mo_weirs Q 0 [.ref 55, .int y] [] M := by
  have hn7 := (Inv_n hI).1
  unfold wrA at hQ
  refine x_il1 f_Mo_weirs_0 ?_
  refine x_i2l f_Mo_weirs_1 ?_
  refine x_lconst (v := 0) f_Mo_weirs_2 rfl ?_
  refine x_lconst (v := 1) f_Mo_weirs_3 rfl ?_
  refine x_cS3i f_Mo_weirs_4 (by decide) (Nat.le_of_ble_eq_true rfl) (Nat.le_of_ble_eq_true rfl) rfl (c_Mo_in (lo := 0) (hi := ((2 : Nat) : Int) - 1) (by decide) (by decide) ⟨_, rfl, ?_⟩)
  rw [inN_has (by omega)]
  refine x_if_neN f_Mo_weirs_7 (by have := hasI_le y 2; omega) (fun hy => ?_) (fun hy => ?_)
  · rw [if_neg (show ¬ hasI y 2 = 0 by omega)] at hQ
    refine x_al0 f_Mo_weirs_13 ?_
    refine x_cV0i f_Mo_weirs_14 rfl rfl (by decide) (Nat.le_of_ble_eq_true rfl) (Nat.le_of_ble_eq_true rfl) rfl (c_Mo_lacks hn7 hR.2.1.1 ⟨_, rfl, ?_⟩)
    by_cases h0 : s 1 1 = 0
    · rw [if_pos h0] at hQ ⊢
      refine x_if_eqN f_Mo_weirs_17 (by omega) (fun h => absurd h (by omega)) (fun _ => ?_)
      refine x_bipush (v := (-103)) f_Mo_weirs_20 rfl ?_
      refine x_goto f_Mo_weirs_22 ?_
      refine x_ireturn f_Mo_weirs_30 rfl ?_
      exact hQ M hR (frC_refl _)
    · rw [if_neg h0] at hQ ⊢
      refine x_if_eqN f_Mo_weirs_17 (by omega) (fun _ => ?_) (fun h => absurd h (by omega))
      obtain ⟨w, hw, rfl⟩ := hasI_of (n := 2) (by omega) hy
      refine x_al0 f_Mo_weirs_25 ?_
      refine x_il1 f_Mo_weirs_26 ?_
      refine x_cV1i f_Mo_weirs_27 rfl rfl (by decide) (Nat.le_of_ble_eq_true rfl) (Nat.le_of_ble_eq_true rfl) rfl (c_Mo_weirsOf hI hR (by omega) (fun M1 r1 f1 => ⟨_, rfl, ?_⟩))
      refine x_ireturn f_Mo_weirs_30 rfl ?_
      have hq := hQ M1 r1 f1.1
      have e : (if w = 0 then hmI (wrD s) else iv (wrD s)) = if nI w = 0 then hmI (wrD s) else iv (wrD s) := by
        by_cases h : w = 0
        · rw [if_pos h, h, if_pos (show nI 0 = (0 : Int32) from rfl)]
        · rw [if_neg h, if_neg (nI_ne0 (by omega) (by omega))]
      rw [e]
      exact hq
  · rw [if_pos hy] at hQ
    refine x_bipush (v := (-102)) f_Mo_weirs_10 rfl ?_
    refine x_ireturn f_Mo_weirs_12 rfl ?_
    exact hQ M hR (frC_refl _)
end
