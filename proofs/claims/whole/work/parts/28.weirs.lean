/-! weirs -/
/-- kinds with weirs at the bits b -/
def wkN (K : Nat → Nat) (b : Nat) : Nat → Nat := fun i => if b / 2 ^ i % 2 = 1 then 3 else K i
/-- whether none floods with weirs at b -/
def clN2 (n : Nat) (K F Z Rn : Nat → Nat) (b : Nat) : Nat := if fcN (wkN K b) (wat n (wkN K b) F Rn) Z n = 0 then 1 else 0
/-- the best of the first b sets, 1 more -/
def wfl (cal : Nat → Nat) : Nat → Nat
  | 0 => 0
  | b + 1 => if (wfl cal b = 0 ∨ popN b < popN (wfl cal b - 1)) ∧ cal b = 1 then b + 1 else wfl cal b
theorem wfl_le (cal : Nat → Nat) : ∀ b, wfl cal b ≤ b
  | 0 => Nat.le_refl _
  | b + 1 => by
    unfold wfl
    have := wfl_le cal b
    split <;> omega
section
variable {X : (Nat → Int32) × Nat} {d : Nat} {Q : mM → Option Value → Prop} {n : Nat} {K F Z Rn : Nat → Nat}
/-- what the trial river is while weirs are tried -/
def TrC (M : mM) (n : Nat) (F Z Rn : Nat → Nat) : Prop := M.1 17 0 = nI n ∧ (∀ i, i < n → M.1 19 i = nI (F i)) ∧ (∀ i, i < n → M.1 20 i = nI (Z i)) ∧ (∀ i, i < n → M.1 21 i = iv (Rn i))
theorem l_Weirs_keepsDry (hn7 : n ≤ 7) (hKb : ∀ i, i < n → K i < 10) {b : Nat} (hb : b < 1024) (M : mM) (i : Nat) (hi : i ≤ n) (hn : M.1 3 0 = nI n) (hK : ∀ i, i < n → M.1 4 i = nI (K i)) (hk : ∀ j, j < i → M.1 18 j = nI (wkN K b j)) (hQ : ∀ M1, frM M M1 18 18 → (∀ j, j < n → M1.1 18 j = nI (wkN K b j)) → wp X (d + 4) n_Weirs_keepsDry Q 41 [.ref 3, .ref 17, .int (nI b), .int (nI n)] [] M1) : wp X (d + 4) n_Weirs_keepsDry Q 2 [.ref 3, .ref 17, .int (nI b), .int (nI i)] [] M := by
  refine x_il3 f_Weirs_keepsDry_2 ?_
  refine x_al0 f_Weirs_keepsDry_3 ?_
  refine x_getIV f_Weirs_keepsDry_4 rfl rfl (Or.inl rfl) (hn) ?_
  refine x_cmp_geN f_Weirs_keepsDry_7 (by omega) (by omega) (fun h => ?_) (fun h => ?_)
  · have e : i = n := by omega
    subst e
    exact hQ M (frM_refl _ _ _) hk
  · have hm : b / 2 ^ i % 2 < 2 := Nat.mod_lt _ (by omega)
    have fin : ∀ v : Int32, v = nI (wkN K b i) → wp X (d + 4) n_Weirs_keepsDry Q 35 [.ref 3, .ref 17, .int (nI b), .int (nI i)] [] (stM M 18 i v) := by
      intro v hv
      refine x_incN3 f_Weirs_keepsDry_35 rfl ?_
      refine x_goto f_Weirs_keepsDry_38 ?_
      refine l_Weirs_keepsDry hn7 hKb hb _ (i + 1) (by omega) ((stM_ne _ _ (by omega)).trans hn) (fun j hj => (stM_ne _ _ (by omega)).trans (hK j hj)) (fun j hj => ?_) (fun M1 h1 h2 => hQ M1 (frM_trans (frM_st (frM_refl _ _ _) (by omega) (by omega)) h1) h2)
      by_cases e : j = i
      · subst e; rw [stM_at]; exact hv
      · rw [stM_ne _ _ (Or.inr e)]; exact hk j (by omega)
    refine x_al1 f_Weirs_keepsDry_10 ?_
    refine x_getR f_Weirs_keepsDry_11 rfl rfl ?_
    refine x_il3 f_Weirs_keepsDry_14 ?_
    refine x_il2 f_Weirs_keepsDry_15 ?_
    refine x_il3 f_Weirs_keepsDry_16 ?_
    refine x_ishrN f_Weirs_keepsDry_17 (by omega) (by omega) ?_
    refine x_iconst (v := (nI 1)) f_Weirs_keepsDry_18 rfl ?_
    refine x_iandN f_Weirs_keepsDry_19 ?_
    refine x_iconst (v := (nI 1)) f_Weirs_keepsDry_20 rfl ?_
    rw [Nat.and_one_is_mod]
    refine x_cmp_neN f_Weirs_keepsDry_21 (by omega) (by omega) (fun h21 => ?_) (fun h21 => ?_)
    · refine x_al0 f_Weirs_keepsDry_28 ?_
      refine x_getR f_Weirs_keepsDry_29 rfl rfl ?_
      refine x_il3 f_Weirs_keepsDry_32 ?_
      refine x_ialdV f_Weirs_keepsDry_33 rfl (by omega) (hK i h) ?_
      refine x_iastN f_Weirs_keepsDry_34 rfl (by omega) ?_
      exact fin _ (by unfold wkN; rw [if_neg h21])
    · refine x_iconst (v := (nI 3)) f_Weirs_keepsDry_24 rfl ?_
      refine x_goto f_Weirs_keepsDry_25 ?_
      refine x_iastN f_Weirs_keepsDry_34 rfl (by omega) ?_
      exact fin _ (by unfold wkN; rw [if_pos h21])
  termination_by n - i
  decreasing_by all_goals omega
theorem c_Weirs_keepsDry {M : mM} (hn7 : n ≤ 7) (hKb : ∀ i, i < n → K i < 10) (hFb : ∀ i, i < n → F i ≤ 20) (hZb : ∀ i, i < n → Z i < 100000) (hRb : ∀ i, i < n → Rn i ≤ i) {b : Nat} (hb : b < 1024) (hn : M.1 3 0 = nI n) (hK : ∀ i, i < n → M.1 4 i = nI (K i)) (hT : TrC M n F Z Rn) (hQ : ∀ M1, frM M M1 17 23 → TrC M1 n F Z Rn → Q M1 (some (.int (nI (clN2 n K F Z Rn b))))) : wp X (d + 4) n_Weirs_keepsDry Q 0 [.ref 3, .ref 17, .int (nI b), .null] [] M := by
  have hr : isRv 17 := Or.inr (Or.inr rfl)
  obtain ⟨t1, t2, t3, t4⟩ := hT
  refine x_iconst (v := (nI 0)) f_Weirs_keepsDry_0 rfl ?_
  refine x_is3 f_Weirs_keepsDry_1 rfl ?_
  refine l_Weirs_keepsDry hn7 hKb hb M 0 (by omega) hn hK (fun j hj => absurd hj (by omega)) (fun M1 f1 k1 => ?_)
  have wb : ∀ i, i < n → wkN K b i < 10 := fun i hi => by have := hKb i hi; unfold wkN; split <;> omega
  have a1 : M1.1 17 0 = nI n := (f1.1 _ _ (by omega)).trans t1
  have a2 : ∀ i, i < n → M1.1 19 i = nI (F i) := fun i hi => (f1.1 _ _ (by omega)).trans (t2 i hi)
  have a3 : ∀ i, i < n → M1.1 20 i = nI (Z i) := fun i hi => (f1.1 _ _ (by omega)).trans (t3 i hi)
  have a4 : ∀ i, i < n → M1.1 21 i = iv (Rn i) := fun i hi => (f1.1 _ _ (by omega)).trans (t4 i hi)
  have fl : fcN (wkN K b) (wat n (wkN K b) F Rn) Z n ≤ n := by
    have : ∀ m, fcN (wkN K b) (wat n (wkN K b) F Rn) Z m ≤ m := by
      intro m
      induction m with
      | zero => exact Nat.le_refl _
      | succ m ih =>
        have e : fcN (wkN K b) (wat n (wkN K b) F Rn) Z (m + 1) = fcN (wkN K b) (wat n (wkN K b) F Rn) Z m + fldN (wkN K b m) (wat n (wkN K b) F Rn m) (Z m) := rfl
        have := fldN_le (wkN K b m) (wat n (wkN K b) F Rn m) (Z m)
        omega
    exact this n
  refine x_al1 f_Weirs_keepsDry_41 ?_
  refine x_cV0v f_Weirs_keepsDry_42 rfl rfl (by decide) (Nat.le_of_ble_eq_true rfl) (Nat.le_of_ble_eq_true rfl) rfl (c_River_measure hr a1 hn7 k1 wb a2 hFb a4 hRb ⟨rfl, ?_⟩)
  refine x_al1 f_Weirs_keepsDry_45 ?_
  refine x_cV0i f_Weirs_keepsDry_46 rfl rfl (by decide) (Nat.le_of_ble_eq_true rfl) (Nat.le_of_ble_eq_true rfl) rfl (c_River_floodCount hr ((wrM_o (by omega)).trans a1) hn7 (fun i hi => (wrM_o (by omega)).trans (k1 i hi)) wb (fun i hi => wrM_at hi) (wat_le hn7 hFb) (fun i hi => (wrM_o (by omega)).trans (a3 i hi)) hZb ⟨_, rfl, ?_⟩)
  have f2 : frM M (wrM M1 (17 + 5) n (wat n (wkN K b) F Rn)) 17 23 := frM_wr (frM_wide f1 (by omega) (by omega)) (by omega) (by omega)
  have t5 : TrC (wrM M1 (17 + 5) n (wat n (wkN K b) F Rn)) n F Z Rn := ⟨(wrM_o (by omega)).trans a1, fun i hi => (wrM_o (by omega)).trans (a2 i hi), fun i hi => (wrM_o (by omega)).trans (a3 i hi), fun i hi => (wrM_o (by omega)).trans (a4 i hi)⟩
  refine x_if_neN f_Weirs_keepsDry_49 (by omega) (fun h => ?_) (fun h => ?_)
  · refine x_iconst (v := (nI 0)) f_Weirs_keepsDry_56 rfl ?_
    refine x_zreturn f_Weirs_keepsDry_57 rfl (by decide) ?_
    exact q_eq (by unfold clN2; rw [if_neg (by omega)]) (hQ _ f2 t5)
  · refine x_iconst (v := (nI 1)) f_Weirs_keepsDry_52 rfl ?_
    refine x_goto f_Weirs_keepsDry_53 ?_
    refine x_zreturn f_Weirs_keepsDry_57 rfl (by decide) ?_
    exact q_eq (by unfold clN2; rw [if_pos h]) (hQ _ f2 t5)
/-- what howMany is -/
def hmI (e : Nat) : Int32 := if e = 0 then -1 else nI (popN (e - 1))
theorem l_Weirs_find (hn7 : n ≤ 7) (hKb : ∀ i, i < n → K i < 10) (hFb : ∀ i, i < n → F i ≤ 20) (hZb : ∀ i, i < n → Z i < 100000) (hRb : ∀ i, i < n → Rn i ≤ i) (v4 : Value) (M : mM) (b : Nat) (hbn : b ≤ 2 ^ n) (hn : M.1 3 0 = nI n) (hK : ∀ i, i < n → M.1 4 i = nI (K i)) (hT : TrC M n F Z Rn) (h0 : M.1 54 0 = hmI (wfl (clN2 n K F Z Rn) b)) (h1 : M.1 54 1 = iv (wfl (clN2 n K F Z Rn) b)) (hQ : ∀ M1, frM M M1 17 54 → (∀ a i, 24 ≤ a → a ≤ 53 → M1.1 a i = M.1 a i) → M1.1 54 0 = hmI (wfl (clN2 n K F Z Rn) (2 ^ n)) → M1.1 54 1 = iv (wfl (clN2 n K F Z Rn) (2 ^ n)) → Q M1 none) : wp X (d + 5) n_Weirs_find Q 17 [.ref 54, .ref 3, .ref 17, .int (nI b), v4] [] M := by
  have hp : 2 ^ n ≤ 2 ^ 7 := Nat.pow_le_pow_right (by omega) hn7
  have hwl := wfl_le (clN2 n K F Z Rn) b
  refine x_il3 f_Weirs_find_17 ?_
  refine x_iconst (v := (nI 1)) f_Weirs_find_18 rfl ?_
  refine x_al1 f_Weirs_find_19 ?_
  refine x_getIV f_Weirs_find_20 rfl rfl (Or.inl rfl) (hn) ?_
  refine x_shl1N f_Weirs_find_23 (by omega) ?_
  refine x_cmp_geN f_Weirs_find_24 (by omega) (by omega) (fun h => ?_) (fun h => ?_)
  · have e : b = 2 ^ n := by omega
    subst e
    refine x_return f_Weirs_find_76 rfl ?_
    exact hQ M (frM_refl _ _ _) (fun _ _ _ _ => rfl) h0 h1
  · have hpb := pop_le b (by omega)
    have hpw := pop_le (wfl (clN2 n K F Z Rn) b - 1) (by omega)
    have e : wfl (clN2 n K F Z Rn) (b + 1) = if (wfl (clN2 n K F Z Rn) b = 0 ∨ popN b < popN (wfl (clN2 n K F Z Rn) b - 1)) ∧ clN2 n K F Z Rn b = 1 then b + 1 else wfl (clN2 n K F Z Rn) b := rfl
    have stay : ∀ (M1 : mM) (u4 : Value), frM M M1 17 54 → (∀ a i, 24 ≤ a → a ≤ 53 → M1.1 a i = M.1 a i) → TrC M1 n F Z Rn → M1.1 54 0 = hmI (wfl (clN2 n K F Z Rn) (b + 1)) → M1.1 54 1 = iv (wfl (clN2 n K F Z Rn) (b + 1)) → wp X (d + 5) n_Weirs_find Q 70 [.ref 54, .ref 3, .ref 17, .int (nI b), u4] [] M1 := by
      intro M1 u4 f1 m1 t1 w0 w1
      refine x_incN3 f_Weirs_find_70 rfl ?_
      refine x_goto f_Weirs_find_73 ?_
      exact l_Weirs_find hn7 hKb hFb hZb hRb _ M1 (b + 1) (by omega) ((f1.1 _ _ (by omega)).trans hn) (fun i hi => (f1.1 _ _ (by omega)).trans (hK i hi)) t1 w0 w1 (fun M2 f2 m2 x0 x1 => hQ M2 (frM_trans f1 f2) (fun a i ha hb2 => (m2 a i ha hb2).trans (m1 a i ha hb2)) x0 x1)
    have test : (wfl (clN2 n K F Z Rn) b = 0 ∨ popN b < popN (wfl (clN2 n K F Z Rn) b - 1)) → wp X (d + 5) n_Weirs_find Q 50 [.ref 54, .ref 3, .ref 17, .int (nI b), .int (nI (popN b))] [] M := by
      intro hc
      refine x_al1 f_Weirs_find_50 ?_
      refine x_al2 f_Weirs_find_51 ?_
      refine x_il3 f_Weirs_find_52 ?_
      have hcl : clN2 n K F Z Rn b ≤ 1 := by unfold clN2; split <;> omega
      refine x_cS3i f_Weirs_find_53 (by decide) (Nat.le_of_ble_eq_true rfl) (Nat.le_of_ble_eq_true rfl) rfl (c_Weirs_keepsDry hn7 hKb hFb hZb hRb (b := b) (by omega) hn hK hT (fun M1 f1 t1 => ⟨_, rfl, ?_⟩))
      refine x_if_eqN f_Weirs_find_56 (by omega) (fun h56 => ?_) (fun h56 => ?_)
      · rw [if_neg (fun q => by omega)] at e
        exact stay M1 _ (frM_wide f1 (by omega) (by omega)) (fun a i ha _ => f1.1 a i (by omega)) t1 (by rw [e]; exact (f1.1 _ _ (by omega)).trans h0) (by rw [e]; exact (f1.1 _ _ (by omega)).trans h1)
      · rw [if_pos ⟨hc, by omega⟩] at e
        refine x_al0 f_Weirs_find_59 ?_
        refine x_il4 f_Weirs_find_60 ?_
        refine x_putI f_Weirs_find_62 rfl rfl ?_
        refine x_al0 f_Weirs_find_65 ?_
        refine x_il3 f_Weirs_find_66 ?_
        refine x_putI f_Weirs_find_67 rfl rfl ?_
        refine stay _ _ (frM_st (frM_st (frM_wide f1 (by omega) (by omega)) (by omega) (by omega)) (by omega) (by omega)) (fun a i ha hb2 => ?_) ?_ ?_ ?_
        · rw [stM_ne _ _ (by omega), stM_ne _ _ (by omega)]; exact f1.1 a i (by omega)
        · obtain ⟨q1, q2, q3, q4⟩ := t1
          exact ⟨by rw [stM_ne _ _ (by omega), stM_ne _ _ (by omega)]; exact q1, fun i hi => by rw [stM_ne _ _ (by omega), stM_ne _ _ (by omega)]; exact q2 i hi, fun i hi => by rw [stM_ne _ _ (by omega), stM_ne _ _ (by omega)]; exact q3 i hi, fun i hi => by rw [stM_ne _ _ (by omega), stM_ne _ _ (by omega)]; exact q4 i hi⟩
        · rw [e, stM_ne _ _ (by omega), stM_at]; unfold hmI; rw [if_neg (by omega)]; rfl
        · rw [e, stM_at]; rfl
    refine x_il3 f_Weirs_find_27 ?_
    refine x_cS1i f_Weirs_find_28 (by decide) (Nat.le_of_ble_eq_true rfl) (Nat.le_of_ble_eq_true rfl) rfl (c_Int_bitCount (by omega) ⟨_, rfl, ?_⟩)
    refine x_is4 f_Weirs_find_31 rfl ?_
    refine x_al0 f_Weirs_find_33 ?_
    refine x_getIV f_Weirs_find_34 rfl rfl (Or.inl rfl) (h0) ?_
    refine x_iconst (v := (-1)) f_Weirs_find_37 rfl ?_
    refine x_cmp_eq f_Weirs_find_38 (fun h38 => ?_) (fun h38 => ?_)
    · refine test (Or.inl ?_)
      unfold hmI at h38
      split at h38
      · assumption
      · exact absurd (show nI (popN (wfl (clN2 n K F Z Rn) b - 1)) < 0 by rw [show nI (popN (wfl (clN2 n K F Z Rn) b - 1)) = -1 from h38]; decide) (nI_pos (by omega))
    · have h9 : wfl (clN2 n K F Z Rn) b ≠ 0 := fun q => h38 (by unfold hmI; rw [if_pos q])
      have h0' : M.1 54 0 = nI (popN (wfl (clN2 n K F Z Rn) b - 1)) := by rw [h0]; unfold hmI; rw [if_neg h9]
      refine x_il4 f_Weirs_find_41 ?_
      refine x_al0 f_Weirs_find_43 ?_
      refine x_getIV f_Weirs_find_44 rfl rfl (Or.inl rfl) (h0') ?_
      refine x_cmp_geN f_Weirs_find_47 (by omega) (by omega) (fun h47 => ?_) (fun h47 => ?_)
      · rw [if_neg (fun q => by omega)] at e
        exact stay M _ (frM_refl _ _ _) (fun _ _ _ _ => rfl) hT (by rw [e]; exact h0) (by rw [e]; exact h1)
      · exact test (Or.inr h47)
  termination_by 2 ^ n - b
  decreasing_by all_goals omega
theorem c_Weirs_find {M : mM} {g mo le : Nat} {W At : Nat → Nat} (hn7 : n ≤ 7) (hKb : ∀ i, i < n → K i < 10) (hFb : ∀ i, i < n → F i ≤ 20) (hZb : ∀ i, i < n → Z i < 100000) (hRb : ∀ i, i < n → Rn i ≤ i) (hV : RvC M 3 n g mo le K F Z Rn W At) (hQ : ∀ M1, (∀ a i, a ≠ 54 → (a < 17 ∨ 23 < a) → M1.1 a i = M.1 a i) → M1.2 = M.2 → M1.1 54 0 = hmI (wfl (clN2 n K F Z Rn) (2 ^ n)) → M1.1 54 1 = iv (wfl (clN2 n K F Z Rn) (2 ^ n)) → Q M1 none) : wp X (d + 5) n_Weirs_find Q 0 [.ref 54, .ref 3, .ref 17, .null, .null] [] M := by
  obtain ⟨v0, v1, v2, v3, v4, v5, v6, v7, v8, v9⟩ := hV
  refine x_al0 f_Weirs_find_0 ?_
  refine x_iconst (v := (-1)) f_Weirs_find_1 rfl ?_
  refine x_putI f_Weirs_find_2 rfl rfl ?_
  refine x_al0 f_Weirs_find_5 ?_
  refine x_iconst (v := (-1)) f_Weirs_find_6 rfl ?_
  refine x_putI f_Weirs_find_7 rfl rfl ?_
  refine x_al2 f_Weirs_find_10 ?_
  refine x_al1 f_Weirs_find_11 ?_
  have o : ∀ a i, a ≠ 54 → (stM (stM M 54 0 (-1)) 54 1 (-1)).1 a i = M.1 a i := fun a i h => (stM_ne _ _ (by omega)).trans (stM_ne _ _ (by omega))
  refine x_cV1v f_Weirs_find_12 rfl rfl (by decide) (Nat.le_of_ble_eq_true rfl) (Nat.le_of_ble_eq_true rfl) rfl (c_River_copyFrom (Or.inr (Or.inr rfl)) (Or.inl rfl) (by omega) (fun M1 hc => ⟨rfl, ?_⟩))
  obtain ⟨c1, c2, c3, c4, c5⟩ := hc
  refine x_iconst (v := (nI 0)) f_Weirs_find_15 rfl ?_
  refine x_is3 f_Weirs_find_16 rfl ?_
  have s : ∀ a i, (a < 17 ∨ 23 < a) → a ≠ 54 → M1.1 a i = M.1 a i := fun a i h h2 => (c4 a i (by omega)).trans (o a i h2)
  refine l_Weirs_find hn7 hKb hFb hZb hRb _ M1 0 (Nat.zero_le _) ((s _ _ (by omega) (by omega)).trans v0) (fun i hi => (s _ _ (by omega) (by omega)).trans (v4 i hi)) ⟨(c1 0 (by omega)).trans ((o _ _ (by omega)).trans v0), fun i hi => (c2 2 (by omega) (by omega) i (by omega)).trans ((o _ _ (by omega)).trans (v5 i hi)), fun i hi => (c2 3 (by omega) (by omega) i (by omega)).trans ((o _ _ (by omega)).trans (v6 i hi)), fun i hi => (c2 4 (by omega) (by omega) i (by omega)).trans ((o _ _ (by omega)).trans (v7 i hi))⟩ ?_ ?_ (fun M2 f2 m2 x0 x1 => hQ M2 (fun a i h h2 => ?_) (f2.2.trans c5) x0 x1)
  · rw [c4 _ _ (by omega), stM_ne _ _ (by omega), stM_at]; rfl
  · rw [c4 _ _ (by omega), stM_at]; rfl
  · rcases (show a < 17 ∨ (24 ≤ a ∧ a ≤ 53) ∨ 54 < a by omega) with q | q | q
    · exact (f2.1 a i (by omega)).trans (s a i (by omega) h)
    · exact (m2 a i q.1 q.2).trans (s a i (by omega) h)
    · exact (f2.1 a i (by omega)).trans (s a i (by omega) h)
theorem c_Weirs_told {M : mM} {w : Int32} (hQ : Q M (some (.int (M.1 54 (if w = 0 then 0 else 1))))) : wp X (d + 1) n_Weirs_told Q 0 [.ref 54, .int w] [] M := by
  refine x_il1 f_Weirs_told_0 ?_
  refine x_if_ne f_Weirs_told_1 (fun h => ?_) (fun h => ?_)
  · refine x_al0 f_Weirs_told_11 ?_
    refine x_getI f_Weirs_told_12 rfl rfl (Or.inl rfl) ?_
    refine x_ireturn f_Weirs_told_15 rfl ?_
    rw [if_neg h] at hQ
    exact hQ
  · refine x_al0 f_Weirs_told_4 ?_
    refine x_getI f_Weirs_told_5 rfl rfl (Or.inl rfl) ?_
    refine x_goto f_Weirs_told_8 ?_
    refine x_ireturn f_Weirs_told_15 rfl ?_
    rw [if_pos (Decidable.not_not.mp h)] at hQ
    exact hQ
end
