/-! the search -/
theorem sc_row : ∀ j, j < 7 → ([34, 35, 36, 37, 38, 39, 40] : List Nat)[j]? = some (34 + j) := by decide
theorem sc_sh : ∀ j, j < 7 → shp (34 + j) = (1, 16, []) := by decide
def foldN {α : Type} (f : Nat → α → α) : Nat → α → α
  | 0, a => a
  | r + 1, a => f r (foldN f r a)
def updN (t : Nat → Nat) (k v : Nat) : Nat → Nat := fun j => if j = k then v else t j
theorem updN_lt {t : Nat → Nat} {k v j : Nat} (h : j < k) : updN t k v j = t j := if_neg (by omega)
theorem updN_at {t : Nat → Nat} {k v : Nat} : updN t k v k = v := if_pos rfl
theorem gbN_congr {t t2 : Nat → Nat} {r : Nat} : ∀ i, (∀ j, j < i → t j = t2 j) → gbN t r i = gbN t2 r i
  | 0, _ => rfl
  | i + 1, h => by
    unfold gbN
    rw [gbN_congr i (fun j hj => h j (by omega)), h i (by omega)]
theorem gbN_upd {t : Nat → Nat} {r r0 i : Nat} : gbN (updN t i r0) r (i + 1) = gbN t r i + if r0 = r then 2 ^ i else 0 := by
  show gbN (updN t i r0) r i + _ = _
  rw [gbN_congr i (fun j hj => updN_lt hj), updN_at]
theorem sumN_ge {f : Nat → Nat} {k : Nat} : ∀ n, k < n → f k ≤ sumN f n
  | 0, h => by omega
  | n + 1, h => by
    unfold sumN
    rcases Nat.lt_or_ge k n with q | q
    · have := sumN_ge (f := f) n q
      omega
    · rw [show k = n by omega]; omega
theorem sumN_congr {f f2 : Nat → Nat} : ∀ n, (∀ i, i < n → f i = f2 i) → sumN f n = sumN f2 n
  | 0, _ => rfl
  | n + 1, h => by
    unfold sumN
    rw [sumN_congr n (fun i hi => h i (by omega)), h n (by omega)]
theorem sumN_upd {f f2 : Nat → Nat} {k : Nat} : ∀ n, k < n → (∀ i, i < n → i ≠ k → f2 i = f i) → sumN f2 n + f k = sumN f n + f2 k
  | 0, h, _ => by omega
  | n + 1, h, ho => by
    unfold sumN
    rcases Nat.lt_or_ge k n with q | q
    · have := sumN_upd (f := f) (f2 := f2) n q (fun i hi => ho i (by omega))
      have := ho n (by omega) (by omega)
      omega
    · have e : k = n := by omega
      subst e
      have := sumN_congr (f := f2) (f2 := f) k (fun i hi => ho i (by omega) (by omega))
      omega
theorem sumN_bd {f : Nat → Nat} {B : Nat} (h : ∀ i, f i ≤ B) : ∀ n, sumN f n ≤ n * B
  | 0 => by unfold sumN; omega
  | n + 1 => by
    unfold sumN
    have := sumN_bd h n
    have := h n
    rw [Nat.succ_mul]
    omega
/-- the score of what is laid so far -/
def totN (sc : Nat → Nat → Nat) (n : Nat) (t : Nat → Nat) (i : Nat) : Nat := sumN (fun r => sc r (gbN t r i)) n
theorem totN_le {sc : Nat → Nat → Nat} {n : Nat} {t : Nat → Nat} {i : Nat} (h : ∀ r b, sc r b ≤ 200) (hn : n ≤ 7) : totN sc n t i ≤ 1400 := by
  have := sumN_bd (f := fun r => sc r (gbN t r i)) (B := 200) (fun r => h r _) n
  have h2 : n * 200 ≤ 7 * 200 := Nat.mul_le_mul_right _ hn
  unfold totN
  omega
theorem totN_step {sc : Nat → Nat → Nat} {n r0 i : Nat} {t : Nat → Nat} (hr : r0 < n) : totN sc n (updN t i r0) (i + 1) + sc r0 (gbN t r0 i) = totN sc n t i + sc r0 (gbN t r0 i + 2 ^ i) := by
  have h := sumN_upd (f := fun r => sc r (gbN t r i)) (f2 := fun r => sc r (gbN (updN t i r0) r (i + 1))) (k := r0) n hr (fun r hr2 hne => by
    rw [gbN_upd, if_neg (fun z => hne z.symm), Nat.add_zero])
  rw [gbN_upd, if_pos rfl] at h
  exact h
theorem totN_congr {sc : Nat → Nat → Nat} {n i : Nat} {t t2 : Nat → Nat} (h : ∀ j, j < i → t j = t2 j) : totN sc n t i = totN sc n t2 i := sumN_congr n (fun r _ => by rw [gbN_congr i h])
/-- what is kept of a laid row -/
def keepN (p : Nat) (t : Nat → Nat) (acc : Nat × (Nat → Nat)) : Nat × (Nat → Nat) := if acc.1 = 0 ∨ p < acc.1 - 1 then (p + 1, t) else acc
/-- all that can be laid in k more steps -/
def dfs (sc : Nat → Nat → Nat) (n ap : Nat) : Nat → Nat → (Nat → Nat) → Nat × (Nat → Nat) → Nat × (Nat → Nat)
  | 0, i, t, acc => keepN (totN sc n t i) t acc
  | k + 1, i, t, acc => foldN (fun r acc => if ap = 1 ∧ gbN t r i ≠ 0 then acc else dfs sc n ap k (i + 1) (updN t i r) acc) n acc
/-- cells of the search that stay -/
def SrC (M : mM) (sc : Nat → Nat → Nat) (n m ap : Nat) : Prop := M.1 32 4 = nI n ∧ M.1 32 5 = nI m ∧ M.1 32 6 = nI ap ∧ ∀ r, r < n → ∀ b, b < 2 ^ m → M.1 (34 + r) b = nI (sc r b)
/-- cells of the search that move -/
def SvC (M : mM) (n m i : Nat) (t : Nat → Nat) (acc : Nat × (Nat → Nat)) : Prop := (∀ r, r < n → M.1 41 r = nI (gbN t r i)) ∧ (∀ j, j < i → M.1 42 j = nI (t j)) ∧ M.1 32 7 = iv acc.1 ∧ (acc.1 ≠ 0 → ∀ j, j < m → M.1 43 j = nI (acc.2 j))
/-- nothing else moved -/
def SfC (M M1 : mM) : Prop := (∀ a i, a ≠ 41 → a ≠ 42 → a ≠ 43 → (a ≠ 32 ∨ i ≠ 7) → M1.1 a i = M.1 a i) ∧ M1.2 = M.2
theorem SfC_refl (M : mM) : SfC M M := ⟨fun _ _ _ _ _ _ => rfl, rfl⟩
theorem SfC_trans {M M1 M2 : mM} (h : SfC M M1) (h2 : SfC M1 M2) : SfC M M2 := ⟨fun a i a1 a2 a3 a4 => (h2.1 a i a1 a2 a3 a4).trans (h.1 a i a1 a2 a3 a4), h2.2.trans h.2⟩
theorem SfC_st {M M1 : mM} {k j : Nat} {v : Int32} (h : SfC M M1) (hk : k = 41 ∨ k = 42 ∨ k = 43) : SfC M (stM M1 k j v) := ⟨fun a i a1 a2 a3 a4 => (stM_ne _ _ (by omega)).trans (h.1 a i a1 a2 a3 a4), h.2⟩
theorem SrC_of {M M1 : mM} {sc : Nat → Nat → Nat} {n m ap : Nat} (hn : n ≤ 7) (h : SfC M M1) (hs : SrC M sc n m ap) : SrC M1 sc n m ap := ⟨(h.1 _ _ (by omega) (by omega) (by omega) (by omega)).trans hs.1, (h.1 _ _ (by omega) (by omega) (by omega) (by omega)).trans hs.2.1, (h.1 _ _ (by omega) (by omega) (by omega) (by omega)).trans hs.2.2.1, fun r hr b hb => (h.1 _ _ (by omega) (by omega) (by omega) (by omega)).trans (hs.2.2.2 r hr b hb)⟩
section
variable {X : (Nat → Int32) × Nat} {d : Nat} {Q : mM → Option Value → Prop} {sc : Nat → Nat → Nat} {n m ap : Nat}
theorem c_Search_keepIfBetter {M : mM} {t : Nat → Nat} {acc : Nat × (Nat → Nat)} {p : Nat} (hp : p < 2 ^ 30) (ha : acc.1 < 2 ^ 30) (hm4 : m ≤ 4) (hv : SvC M n m m t acc) (hQ : ∀ M1, SfC M M1 → SvC M1 n m m t (keepN p t acc) → Q M1 none) : wp X (d + 1) n_Search_keepIfBetter Q 0 [.ref 32, .int (nI p)] [] M := by
  obtain ⟨v1, v2, v3, v4⟩ := id hv
  have fin : (acc.1 = 0 ∨ p < acc.1 - 1) → wp X (d + 1) n_Search_keepIfBetter Q 16 [.ref 32, .int (nI p)] [] M := by
    intro hc
    have ek : keepN p t acc = (p + 1, t) := if_pos hc
    refine x_al0 f_Search_keepIfBetter_16 ?_
    refine x_il1 f_Search_keepIfBetter_17 ?_
    refine x_putI f_Search_keepIfBetter_18 rfl rfl ?_
    refine x_al0 f_Search_keepIfBetter_21 ?_
    refine x_getR f_Search_keepIfBetter_22 rfl rfl ?_
    refine x_iconst (v := (nI 0)) f_Search_keepIfBetter_25 rfl ?_
    refine x_al0 f_Search_keepIfBetter_26 ?_
    refine x_getR f_Search_keepIfBetter_27 rfl rfl ?_
    refine x_iconst (v := (nI 0)) f_Search_keepIfBetter_30 rfl ?_
    refine x_iconst (v := (nI 4)) f_Search_keepIfBetter_31 rfl ?_
    refine x_acopyN f_Search_keepIfBetter_32 (Nat.le_of_ble_eq_true rfl) rfl rfl (by decide) (by decide) ?_
    refine x_return f_Search_keepIfBetter_35 rfl ?_
    refine hQ _ ⟨fun a i a1 a2 a3 a4 => ?_, rfl⟩ ?_
    · rw [cp_def, if_neg (by omega), stM_ne _ _ (by omega)]
    · rw [ek]
      refine ⟨fun r hr => ?_, fun j hj => ?_, ?_, fun _ j hj => ?_⟩
      · rw [cp_def, if_neg (by omega), stM_ne _ _ (by omega)]; exact v1 r hr
      · rw [cp_def, if_neg (by omega), stM_ne _ _ (by omega)]; exact v2 j hj
      · rw [cp_def, if_neg (by omega), stM_at]; rfl
      · rw [cp_def, if_pos (by omega), stM_ne _ _ (by omega)]; exact v2 j hj
  refine x_al0 f_Search_keepIfBetter_0 ?_
  refine x_getIV f_Search_keepIfBetter_1 rfl rfl (Or.inl rfl) (v3) ?_
  refine x_iconst (v := (-1)) f_Search_keepIfBetter_4 rfl ?_
  refine x_cmp_eq f_Search_keepIfBetter_5 (fun h => ?_) (fun h => ?_)
  · exact fin (Or.inl ((iv_eqm1 (by omega)).mp h))
  · have h0 : acc.1 ≠ 0 := fun z => h ((iv_eqm1 (by omega)).mpr z)
    obtain ⟨b, hb⟩ : ∃ b, acc.1 = b + 1 := ⟨acc.1 - 1, by omega⟩
    have v3' : M.1 32 7 = nI b := by rw [v3, hb]; rfl
    refine x_il1 f_Search_keepIfBetter_8 ?_
    refine x_al0 f_Search_keepIfBetter_9 ?_
    refine x_getIV f_Search_keepIfBetter_10 rfl rfl (Or.inl rfl) (v3') ?_
    refine x_cmp_geN f_Search_keepIfBetter_13 (by omega) (by omega) (fun h13 => ?_) (fun h13 => ?_)
    · have ek : keepN p t acc = acc := if_neg (by omega)
      refine x_return f_Search_keepIfBetter_35 rfl ?_
      exact hQ M (SfC_refl M) (by rw [ek]; exact hv)
    · exact fin (Or.inr (by omega))
theorem dfs_lt (hsc : ∀ r b, sc r b ≤ 200) (hn : n ≤ 7) : ∀ k i t acc, acc.1 < 2 ^ 30 → (dfs sc n ap k i t acc).1 < 2 ^ 30
  | 0, i, t, acc, h => by
    have := totN_le (t := t) (i := i) hsc hn
    unfold dfs keepN
    split
    · show totN sc n t i + 1 < 2 ^ 30
      omega
    · exact h
  | k + 1, i, t, acc, h => by
    unfold dfs
    have : ∀ r, (foldN (fun r acc => if ap = 1 ∧ gbN t r i ≠ 0 then acc else dfs sc n ap k (i + 1) (updN t i r) acc) r acc).1 < 2 ^ 30 := by
      intro r
      induction r with
      | zero => exact h
      | succ r ih =>
        unfold foldN
        split
        · exact ih
        · exact dfs_lt hsc hn k _ _ _ ih
    exact this n
theorem c_Search_tryFrom (hsc : ∀ r b, sc r b ≤ 200) (hn : n ≤ 7) (hm4 : m ≤ 4) (hap : ap ≤ 1) (k : Nat) : ∀ (d : Nat) (Q : mM → Option Value → Prop) (M : mM) (i : Nat) (t : Nat → Nat) (acc : Nat × (Nat → Nat)), i + k = m → acc.1 < 2 ^ 30 → SrC M sc n m ap → SvC M n m i t acc → (∀ M1, SfC M M1 → SvC M1 n m i t (dfs sc n ap k i t acc) → Q M1 none) → wp X (d + k + 2) n_Search_tryFrom Q 0 [.ref 32, .int (nI i), .int (nI (totN sc n t i)), .null, .null, .null] [] M := by
  induction k with
  | zero =>
    intro d Q M i t acc hik hacc hS hv hQ
    have hi : i = m := by omega
    subst hi
    have ht := totN_le (t := t) (i := i) hsc hn
    refine x_il1 f_Search_tryFrom_0 ?_
    refine x_al0 f_Search_tryFrom_1 ?_
    refine x_getIV f_Search_tryFrom_2 rfl rfl (Or.inl rfl) (hS.2.1) ?_
    refine x_cmp_geN f_Search_tryFrom_5 (by omega) (by omega) (fun _ => ?_) (fun h => absurd h (by omega))
    refine x_al0 f_Search_tryFrom_13 ?_
    refine x_il2 f_Search_tryFrom_14 ?_
    refine x_cV1v f_Search_tryFrom_15 rfl rfl (by decide) (Nat.le_of_ble_eq_true rfl) (Nat.le_of_ble_eq_true rfl) rfl (c_Search_keepIfBetter (by omega) hacc hm4 hv (fun M1 f1 w1 => ⟨rfl, ?_⟩))
    refine x_return f_Search_tryFrom_18 rfl ?_
    exact hQ M1 f1 w1
  | succ k ih =>
    intro d Q M i t acc hik hacc hS hv hQ
    refine x_il1 f_Search_tryFrom_0 ?_
    refine x_al0 f_Search_tryFrom_1 ?_
    refine x_getIV f_Search_tryFrom_2 rfl rfl (Or.inl rfl) (hS.2.1) ?_
    refine x_cmp_geN f_Search_tryFrom_5 (by omega) (by omega) (fun h => absurd h (by omega)) (fun _ => ?_)
    refine x_il1 f_Search_tryFrom_8 ?_
    refine x_iconst (v := (nI 4)) f_Search_tryFrom_9 rfl ?_
    refine x_cmp_ltN f_Search_tryFrom_10 (by omega) (by omega) (fun _ => ?_) (fun h => absurd h (by omega))
    have loop : ∀ (c r : Nat) (M1 : mM) (v4 v5 : Value), r + c = n → okst [v4] 1 = true → SfC M M1 → SvC M1 n m i t (foldN (fun r acc => if ap = 1 ∧ gbN t r i ≠ 0 then acc else dfs sc n ap k (i + 1) (updN t i r) acc) r acc) → (foldN (fun r acc => if ap = 1 ∧ gbN t r i ≠ 0 then acc else dfs sc n ap k (i + 1) (updN t i r) acc) r acc).1 < 2 ^ 30 → wp X (d + (k + 1) + 2) n_Search_tryFrom Q 21 [.ref 32, .int (nI i), .int (nI (totN sc n t i)), .int (nI r), v4, v5] [] M1 := by
      intro c
      induction c with
      | zero =>
        intro r M1 v4 v5 hrc hv4 f1 w1 l1
        have hS1 := SrC_of hn f1 hS
        have hr : r = n := by omega
        subst hr
        refine x_il3 f_Search_tryFrom_21 ?_
        refine x_al0 f_Search_tryFrom_22 ?_
        refine x_getIV f_Search_tryFrom_23 rfl rfl (Or.inl rfl) (hS1.1) ?_
        refine x_cmp_geN f_Search_tryFrom_26 (by omega) (by omega) (fun _ => ?_) (fun h => absurd h (by omega))
        refine x_return f_Search_tryFrom_117 rfl ?_
        exact hQ M1 f1 w1
      | succ c ihc =>
        intro r M1 v4 v5 hrc hv4 f1 w1 l1
        have hS1 := SrC_of hn f1 hS
        obtain ⟨a1, a2, a3, a4⟩ := id w1
        have hg := gbN_lt t r i
        have hpi : 2 ^ i < 2 ^ m := Nat.pow_lt_pow_right (by omega) (by omega)
        have hp1 : 2 ^ (i + 1) ≤ 2 ^ m := Nat.pow_le_pow_right (by omega) (by omega)
        rw [Nat.pow_succ] at hp1
        have hp16 : 2 ^ m ≤ 2 ^ 4 := Nat.pow_le_pow_right (by omega) hm4
        refine x_il3 f_Search_tryFrom_21 ?_
        refine x_al0 f_Search_tryFrom_22 ?_
        refine x_getIV f_Search_tryFrom_23 rfl rfl (Or.inl rfl) (hS1.1) ?_
        refine x_cmp_geN f_Search_tryFrom_26 (by omega) (by omega) (fun h => absurd h (by omega)) (fun _ => ?_)
        refine x_al0 f_Search_tryFrom_29 ?_
        refine x_getR f_Search_tryFrom_30 rfl rfl ?_
        refine x_il3 f_Search_tryFrom_33 ?_
        refine x_ialdV f_Search_tryFrom_34 rfl (by omega) (a1 r (by omega)) ?_
        refine x_is4 f_Search_tryFrom_35 rfl ?_
        refine x_al0 f_Search_tryFrom_37 ?_
        refine x_getIV f_Search_tryFrom_38 rfl rfl (Or.inr rfl) (hS1.2.2.1) ?_
        have ef : foldN (fun r acc => if ap = 1 ∧ gbN t r i ≠ 0 then acc else dfs sc n ap k (i + 1) (updN t i r) acc) (r + 1) acc = if ap = 1 ∧ gbN t r i ≠ 0 then foldN (fun r acc => if ap = 1 ∧ gbN t r i ≠ 0 then acc else dfs sc n ap k (i + 1) (updN t i r) acc) r acc else dfs sc n ap k (i + 1) (updN t i r) (foldN (fun r acc => if ap = 1 ∧ gbN t r i ≠ 0 then acc else dfs sc n ap k (i + 1) (updN t i r) acc) r acc) := rfl
        have go : ¬ (ap = 1 ∧ gbN t r i ≠ 0) → wp X (d + (k + 1) + 2) n_Search_tryFrom Q 52 [.ref 32, .int (nI i), .int (nI (totN sc n t i)), .int (nI r), .int (nI (gbN t r i)), v5] [] M1 := by
          intro hc
          rw [if_neg hc] at ef
          have hto := totN_step (sc := sc) (n := n) (r0 := r) (i := i) (t := t) (by omega)
          have hge : sc r (gbN t r i) ≤ totN sc n t i := sumN_ge (f := fun r => sc r (gbN t r i)) n (by omega)
          have e2 : ∀ v w : Int32, (stM (stM M1 41 r v) 42 i w).1 (34 + r) (gbN t r i) = nI (sc r (gbN t r i)) := fun v w => by rw [stM_ne _ _ (by omega), stM_ne _ _ (by omega)]; exact hS1.2.2.2 r (by omega) _ (by omega)
          have e3 : ∀ v w : Int32, (stM (stM M1 41 r v) 42 i w).1 (34 + r) (gbN t r i + 2 ^ i) = nI (sc r (gbN t r i + 2 ^ i)) := fun v w => by rw [stM_ne _ _ (by omega), stM_ne _ _ (by omega)]; exact hS1.2.2.2 r (by omega) _ (by omega)
          refine x_il4 f_Search_tryFrom_52 ?_
          refine x_iconst (v := (nI 1)) f_Search_tryFrom_54 rfl ?_
          refine x_il1 f_Search_tryFrom_55 ?_
          refine x_shl1N f_Search_tryFrom_56 (by omega) ?_
          refine x_iorN f_Search_tryFrom_57 ?_
          rw [Nat.or_two_pow_eq_add_of_lt hg]
          refine x_is5 f_Search_tryFrom_58 rfl ?_
          refine x_al0 f_Search_tryFrom_60 ?_
          refine x_getR f_Search_tryFrom_61 rfl rfl ?_
          refine x_il3 f_Search_tryFrom_64 ?_
          refine x_il5 f_Search_tryFrom_65 ?_
          refine x_iastN f_Search_tryFrom_67 rfl (by omega) ?_
          refine x_al0 f_Search_tryFrom_68 ?_
          refine x_getR f_Search_tryFrom_69 rfl rfl ?_
          refine x_il1 f_Search_tryFrom_72 ?_
          refine x_il3 f_Search_tryFrom_73 ?_
          refine x_iastN f_Search_tryFrom_74 rfl (by omega) ?_
          refine x_al0 f_Search_tryFrom_75 ?_
          refine x_il1 f_Search_tryFrom_76 ?_
          refine x_iconst (v := (nI 1)) f_Search_tryFrom_77 rfl ?_
          first | refine x_iaddN f_Search_tryFrom_78 ?_ | refine x_iadd f_Search_tryFrom_78 ?_
          refine x_il2 f_Search_tryFrom_79 ?_
          refine x_al0 f_Search_tryFrom_80 ?_
          refine x_getR f_Search_tryFrom_81 rfl rfl ?_
          refine x_il3 f_Search_tryFrom_84 ?_
          refine x_aaldN f_Search_tryFrom_85 rfl (by omega) (sc_row r (by omega)) ?_
          refine x_il4 f_Search_tryFrom_86 ?_
          refine x_ialdV f_Search_tryFrom_88 (sc_sh r (by omega)) (by omega) (e2 _ _) ?_
          refine x_isubN f_Search_tryFrom_89 (hge) ?_
          refine x_al0 f_Search_tryFrom_90 ?_
          refine x_getR f_Search_tryFrom_91 rfl rfl ?_
          refine x_il3 f_Search_tryFrom_94 ?_
          refine x_aaldN f_Search_tryFrom_95 rfl (by omega) (sc_row r (by omega)) ?_
          refine x_il5 f_Search_tryFrom_96 ?_
          refine x_ialdV f_Search_tryFrom_98 (sc_sh r (by omega)) (by omega) (e3 _ _) ?_
          first | refine x_iaddN f_Search_tryFrom_99 ?_ | refine x_iadd f_Search_tryFrom_99 ?_
          rw [show totN sc n t i - sc r (gbN t r i) + sc r (gbN t r i + 2 ^ i) = totN sc n (updN t i r) (i + 1) by omega]
          have hd : d + (k + 1) + 1 = d + k + 2 := by omega
          have f2 : SfC M (stM (stM M1 41 r (nI (gbN t r i + 2 ^ i))) 42 i (nI r)) := SfC_st (SfC_st f1 (Or.inl rfl)) (Or.inr (Or.inl rfl))
          have hcall := ih d (fun M1' r' => r' = none ∧ wp X (d + (k + 1) + 2) n_Search_tryFrom Q 103 [.ref 32, .int (nI i), .int (nI (totN sc n t i)), .int (nI r), .int (nI (gbN t r i)), .int (nI (gbN t r i + 2 ^ i))] [] M1') (stM (stM M1 41 r (nI (gbN t r i + 2 ^ i))) 42 i (nI r)) (i + 1) (updN t i r) _ (by omega) l1 (SrC_of hn f2 hS) ⟨fun r2 hr2 => ?_, fun j hj => ?_, ?_, fun hne j hj => ?_⟩ (fun M2 g2 w2 => ⟨rfl, ?_⟩)
          · refine x_cS3v f_Search_tryFrom_100 (by decide) (Nat.le_of_ble_eq_true rfl) (Nat.le_of_ble_eq_true rfl) rfl ?_
            rw [hd]
            exact hcall
          · rw [stM_ne _ _ (by omega), gbN_upd, stM_def]
            by_cases e : r2 = r
            · subst e; rw [if_pos ⟨rfl, rfl⟩, if_pos rfl]
            · rw [if_neg (by omega), if_neg (fun z => e z.symm), Nat.add_zero]; exact a1 r2 hr2
          · rw [stM_def]
            by_cases e : j = i
            · subst e; rw [if_pos ⟨rfl, rfl⟩, updN_at]
            · rw [if_neg (by omega), stM_ne _ _ (by omega), updN_lt (by omega)]; exact a2 j (by omega)
          · rw [stM_ne _ _ (by omega), stM_ne _ _ (by omega)]; exact a3
          · rw [stM_ne _ _ (by omega), stM_ne _ _ (by omega)]; exact a4 hne j hj
          · obtain ⟨b1, b2, b3, b4⟩ := w2
            refine x_al0 f_Search_tryFrom_103 ?_
            refine x_getR f_Search_tryFrom_104 rfl rfl ?_
            refine x_il3 f_Search_tryFrom_107 ?_
            refine x_il4 f_Search_tryFrom_108 ?_
            refine x_iastN f_Search_tryFrom_110 rfl (by omega) ?_
            refine x_incN3 f_Search_tryFrom_111 rfl ?_
            refine x_goto f_Search_tryFrom_114 ?_
            refine ihc (r + 1) _ _ _ (by omega) rfl (SfC_st (SfC_trans f2 g2) (Or.inl rfl)) ?_ ?_
            · rw [ef]
              refine ⟨fun r2 hr2 => ?_, fun j hj => ?_, ?_, fun hne j hj => ?_⟩
              · rw [stM_def]
                by_cases e : r2 = r
                · subst e; rw [if_pos ⟨rfl, rfl⟩]
                · rw [if_neg (by omega), b1 r2 hr2, gbN_upd, if_neg (fun z => e z.symm), Nat.add_zero]
              · rw [stM_ne _ _ (by omega), b2 j (by omega), updN_lt hj]
              · rw [stM_ne _ _ (by omega)]; exact b3
              · rw [stM_ne _ _ (by omega)]; exact b4 hne j hj
            · rw [ef]
              exact dfs_lt hsc hn k _ _ _ l1
        refine x_if_eqN f_Search_tryFrom_41 (by omega) (fun h41 => ?_) (fun h41 => ?_)
        · exact go (by omega)
        · refine x_il4 f_Search_tryFrom_44 ?_
          refine x_if_eqN f_Search_tryFrom_46 (by omega) (fun h46 => ?_) (fun h46 => ?_)
          · exact go (fun z => z.2 h46)
          · rw [if_pos ⟨by omega, by omega⟩] at ef
            refine x_goto f_Search_tryFrom_49 ?_
            refine x_incN3 f_Search_tryFrom_111 rfl ?_
            refine x_goto f_Search_tryFrom_114 ?_
            exact ihc (r + 1) M1 _ _ (by omega) rfl f1 (by rw [ef]; exact w1) (by rw [ef]; exact l1)
    refine x_iconst (v := (nI 0)) f_Search_tryFrom_19 rfl ?_
    refine x_is3 f_Search_tryFrom_20 rfl ?_
    exact loop n 0 M _ _ (by omega) rfl (SfC_refl M) hv hacc
end
