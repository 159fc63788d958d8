/-! odds -/
theorem od_row : ∀ j, j < 7 → ([46, 47, 48, 49, 50, 51, 52] : List Nat)[j]? = some (46 + j) := by decide
theorem od_sh : ∀ j, j < 7 → shp (46 + j) = (1, 85, []) := by decide
/-- in how many ways a reach has w, ahead of what comes into it -/
def swN (F : Nat → Nat) (src : Nat) (r w : Nat) : Nat := if F r ≤ w ∧ w ≤ F r + 3 * src then 1 else 0
/-- what comes of the first u waters of one, with another's -/
def jnN (k : Nat) (fr to : Nat → Nat) (u w : Nat) : Nat := sumN (fun x => if outN k x ≤ w then fr x * to (w - outN k x) else 0) u
def jst (U : Nat) (K Rn : Nat → Nat) (V : Nat → Nat → Nat) (k : Nat) : Nat → Nat → Nat := fun r => if r + 1 = Rn k then jnN (K k) (V k) (V r) U else V r
def vlo (U : Nat) (K Rn : Nat → Nat) : Nat → (Nat → Nat → Nat) → Nat → Nat → Nat
  | 0, V => V
  | k + 1, V => vlo U K Rn k (jst U K Rn V k)
section
variable {X : (Nat → Int32) × Nat} {d : Nat} {Q : mM → Option Value → Prop} {n : Nat} {K F Z Rn : Nat → Nat}
theorem l_Odds_addShifted {t o v : Nat} (ht : t < 7) (hv : v < 2 ^ 31) {J T : Nat → Nat} (M : mM) (hT : ∀ w, w < 85 → M.1 (46 + t) w = nI (T w)) (hQ : Q (wrM M 53 85 (fun x => if o ≤ x then J x + v * T (x - o) else J x)) none) (w : Nat) (hw : o ≤ w) (hw2 : w ≤ 85) : wp X (d + 1) n_Odds_addShifted Q 3 [.ref 44, .ref (46 + t), .int (nI o), .int (nI v), .int (nI w)] [] (wrM M 53 85 (fun x => if o ≤ x ∧ x < w then J x + v * T (x - o) else J x)) := by
  refine x_il4 f_Odds_addShifted_3 ?_
  refine x_bipush (v := (nI 85)) f_Odds_addShifted_5 rfl ?_
  refine x_cmp_geN f_Odds_addShifted_7 (by omega) (by omega) (fun h => ?_) (fun h => ?_)
  · refine x_return f_Odds_addShifted_34 rfl ?_
    refine q_eqM (wrM_congr (fun i hi => ?_)) hQ
    by_cases e : o ≤ i
    · rw [if_pos e, if_pos ⟨e, by omega⟩]
    · rw [if_neg e, if_neg (fun z => e z.1)]
  · have e1 : (wrM M 53 85 (fun x => if o ≤ x ∧ x < w then J x + v * T (x - o) else J x)).1 53 w = nI (J w) := (wrM_at h).trans (by rw [if_neg (by omega)])
    refine x_al0 f_Odds_addShifted_10 ?_
    refine x_getR f_Odds_addShifted_11 rfl rfl ?_
    refine x_il4 f_Odds_addShifted_14 ?_
    refine x_dup2 f_Odds_addShifted_16 rfl rfl ?_
    refine x_ialdV f_Odds_addShifted_17 rfl (by omega) (e1) ?_
    refine x_il3 f_Odds_addShifted_18 ?_
    refine x_al1 f_Odds_addShifted_19 ?_
    refine x_il4 f_Odds_addShifted_20 ?_
    refine x_il2 f_Odds_addShifted_22 ?_
    refine x_isubN f_Odds_addShifted_23 (by omega) ?_
    refine x_ialdV f_Odds_addShifted_24 (od_sh t ht) (by omega) ((wrM_o (by omega)).trans (hT (w - o) (by omega))) ?_
    first | refine x_imulN f_Odds_addShifted_25 ?_ | refine x_imul f_Odds_addShifted_25 ?_
    first | refine x_iaddN f_Odds_addShifted_26 ?_ | refine x_iadd f_Odds_addShifted_26 ?_
    refine x_iastN f_Odds_addShifted_27 rfl (by omega) ?_
    refine x_incN4 f_Odds_addShifted_28 rfl ?_
    refine x_goto f_Odds_addShifted_31 ?_
    rw [st_wr2 h]
    have e2 : (fun i => if i = w then J w + v * T (w - o) else if o ≤ i ∧ i < w then J i + v * T (i - o) else J i) = (fun x => if o ≤ x ∧ x < w + 1 then J x + v * T (x - o) else J x) := by
      funext i
      by_cases e : i = w
      · subst e
        rw [if_pos rfl, if_pos ⟨hw, by omega⟩]
      · rw [if_neg e]
        by_cases e2 : o ≤ i ∧ i < w
        · rw [if_pos e2, if_pos ⟨e2.1, by omega⟩]
        · rw [if_neg e2, if_neg (fun z => by omega)]
    rw [e2]
    exact l_Odds_addShifted ht hv M hT hQ (w + 1) (by omega) (by omega)
  termination_by 85 - w
  decreasing_by all_goals omega
theorem c_Odds_addShifted {t o v : Nat} (ht : t < 7) (hv : v < 2 ^ 31) (ho : o ≤ 85) {J T : Nat → Nat} (M : mM) (hT : ∀ w, w < 85 → M.1 (46 + t) w = nI (T w)) (hQ : Q (wrM M 53 85 (fun x => if o ≤ x then J x + v * T (x - o) else J x)) none) : wp X (d + 1) n_Odds_addShifted Q 0 [.ref 44, .ref (46 + t), .int (nI o), .int (nI v), .null] [] (wrM M 53 85 J) := by
  refine x_il2 f_Odds_addShifted_0 ?_
  refine x_is4 f_Odds_addShifted_1 rfl ?_
  have h := l_Odds_addShifted (X := X) (d := d) (J := J) ht hv M hT hQ o (Nat.le_refl _) ho
  have e : wrM M 53 85 (fun x => if o ≤ x ∧ x < o then J x + v * T (x - o) else J x) = wrM M 53 85 J := wrM_congr (fun i hi => by rw [if_neg (fun z => by omega)])
  rw [e] at h
  exact h
theorem l_Odds_joinWays1 {k f t : Nat} (M : mM) (hQ : wp X (d + 2) n_Odds_joinWays Q 24 [.ref 44, .int (nI k), .ref (46 + f), .ref (46 + t), .int (nI 85)] [] (wrM M 53 85 (fun _ => 0))) (i : Nat) (hi : i ≤ 85) : wp X (d + 2) n_Odds_joinWays Q 3 [.ref 44, .int (nI k), .ref (46 + f), .ref (46 + t), .int (nI i)] [] (wrM M 53 i (fun _ => 0)) := by
  refine x_il4 f_Odds_joinWays_3 ?_
  refine x_bipush (v := (nI 85)) f_Odds_joinWays_5 rfl ?_
  refine x_cmp_geN f_Odds_joinWays_7 (by omega) (by omega) (fun h => ?_) (fun h => ?_)
  · have e : i = 85 := by omega
    subst e
    exact hQ
  · refine x_al0 f_Odds_joinWays_10 ?_
    refine x_getR f_Odds_joinWays_11 rfl rfl ?_
    refine x_il4 f_Odds_joinWays_14 ?_
    refine x_iconst (v := (nI 0)) f_Odds_joinWays_16 rfl ?_
    refine x_iastN f_Odds_joinWays_17 rfl (by omega) ?_
    refine x_incN4 f_Odds_joinWays_18 rfl ?_
    refine x_goto f_Odds_joinWays_21 ?_
    have e := st_wr1 (M := M) (k := 53) (i := i) (f := fun _ => 0)
    rw [e]
    exact l_Odds_joinWays1 M hQ (i + 1) (by omega)
  termination_by 85 - i
  decreasing_by all_goals omega
theorem l_Odds_joinWays2 {k f t : Nat} (hk : k < 10) (hf : f < 7) (ht : t < 7) {fr to : Nat → Nat} (hfb : ∀ u, u < 85 → fr u < 2 ^ 31) (M : mM) (hF : ∀ w, w < 85 → M.1 (46 + f) w = nI (fr w)) (hT : ∀ w, w < 85 → M.1 (46 + t) w = nI (to w)) (hQ : wp X (d + 2) n_Odds_joinWays Q 62 [.ref 44, .int (nI k), .ref (46 + f), .ref (46 + t), .int (nI 85)] [] (wrM M 53 85 (jnN k fr to 85))) (u : Nat) (hu : u ≤ 85) : wp X (d + 2) n_Odds_joinWays Q 27 [.ref 44, .int (nI k), .ref (46 + f), .ref (46 + t), .int (nI u)] [] (wrM M 53 85 (jnN k fr to u)) := by
  refine x_il4 f_Odds_joinWays_27 ?_
  refine x_bipush (v := (nI 85)) f_Odds_joinWays_29 rfl ?_
  refine x_cmp_geN f_Odds_joinWays_31 (by omega) (by omega) (fun h => ?_) (fun h => ?_)
  · have e : u = 85 := by omega
    subst e
    exact hQ
  · have hb := hfb u h
    have ho := outN_le k u
    have e1 : (wrM M 53 85 (jnN k fr to u)).1 (46 + f) u = nI (fr u) := (wrM_o (by omega)).trans (hF u h)
    refine x_al2 f_Odds_joinWays_34 ?_
    refine x_il4 f_Odds_joinWays_35 ?_
    refine x_ialdV f_Odds_joinWays_37 (od_sh f hf) (by omega) (e1) ?_
    refine x_if_leN f_Odds_joinWays_38 hb (fun h38 => ?_) (fun h38 => ?_)
    · refine x_incN4 f_Odds_joinWays_56 rfl ?_
      refine x_goto f_Odds_joinWays_59 ?_
      have e2 : jnN k fr to u = jnN k fr to (u + 1) := by
        funext w
        show _ = jnN k fr to u w + (if outN k u ≤ w then fr u * to (w - outN k u) else 0)
        rw [h38, Nat.zero_mul, ite_self, Nat.add_zero]
      rw [e2]
      exact l_Odds_joinWays2 hk hf ht hfb M hF hT hQ (u + 1) (by omega)
    · refine x_al0 f_Odds_joinWays_41 ?_
      refine x_al3 f_Odds_joinWays_42 ?_
      refine x_il1 f_Odds_joinWays_43 ?_
      refine x_il4 f_Odds_joinWays_44 ?_
      refine x_cS2i f_Odds_joinWays_46 (by decide) (Nat.le_of_ble_eq_true rfl) (Nat.le_of_ble_eq_true rfl) rfl (c_RL_outOf hk (by omega) ⟨_, rfl, ?_⟩)
      refine x_al2 f_Odds_joinWays_49 ?_
      refine x_il4 f_Odds_joinWays_50 ?_
      refine x_ialdV f_Odds_joinWays_52 (od_sh f hf) (by omega) (e1) ?_
      refine x_cV3v f_Odds_joinWays_53 rfl rfl (by decide) (Nat.le_of_ble_eq_true rfl) (Nat.le_of_ble_eq_true rfl) rfl (c_Odds_addShifted (J := jnN k fr to u) (T := to) ht hb (by omega) M hT ⟨rfl, ?_⟩)
      refine x_incN4 f_Odds_joinWays_56 rfl ?_
      refine x_goto f_Odds_joinWays_59 ?_
      have e2 : (fun x => if outN k u ≤ x then jnN k fr to u x + fr u * to (x - outN k u) else jnN k fr to u x) = jnN k fr to (u + 1) := by
        funext w
        show _ = jnN k fr to u w + (if outN k u ≤ w then fr u * to (w - outN k u) else 0)
        split <;> rfl
      rw [e2]
      exact l_Odds_joinWays2 hk hf ht hfb M hF hT hQ (u + 1) (by omega)
  termination_by 85 - u
  decreasing_by all_goals omega
theorem c_Odds_joinWays {k f t : Nat} (hk : k < 10) (hf : f < 7) (ht : t < 7) {fr to : Nat → Nat} (hfb : ∀ u, u < 85 → fr u < 2 ^ 31) {M : mM} (hF : ∀ w, w < 85 → M.1 (46 + f) w = nI (fr w)) (hT : ∀ w, w < 85 → M.1 (46 + t) w = nI (to w)) (hQ : ∀ M1, (∀ a i, a ≠ 53 → a ≠ 46 + t → M1.1 a i = M.1 a i) → M1.2 = M.2 → (∀ w, w < 85 → M1.1 (46 + t) w = nI (jnN k fr to 85 w)) → Q M1 none) : wp X (d + 2) n_Odds_joinWays Q 0 [.ref 44, .int (nI k), .ref (46 + f), .ref (46 + t), .null] [] M := by
  refine x_iconst (v := (nI 0)) f_Odds_joinWays_0 rfl ?_
  refine x_is4 f_Odds_joinWays_1 rfl ?_
  have h1 := l_Odds_joinWays1 (X := X) (d := d) (Q := Q) (k := k) (f := f) (t := t) M ?_ 0 (by omega)
  · rw [wrM_0] at h1
    exact h1
  refine x_iconst (v := (nI 0)) f_Odds_joinWays_24 rfl ?_
  refine x_is4 f_Odds_joinWays_25 rfl ?_
  refine l_Odds_joinWays2 (fr := fr) (to := to) hk hf ht hfb M hF hT ?_ 0 (by omega)
  refine x_al0 f_Odds_joinWays_62 ?_
  refine x_getR f_Odds_joinWays_63 rfl rfl ?_
  refine x_iconst (v := (nI 0)) f_Odds_joinWays_66 rfl ?_
  refine x_al3 f_Odds_joinWays_67 ?_
  refine x_iconst (v := (nI 0)) f_Odds_joinWays_68 rfl ?_
  refine x_bipush (v := (nI 85)) f_Odds_joinWays_69 rfl ?_
  refine x_acopyN f_Odds_joinWays_71 (Nat.le_of_ble_eq_true rfl) rfl (od_sh t ht) (by decide) (by decide) ?_
  refine x_return f_Odds_joinWays_74 rfl ?_
  refine hQ _ (fun a i h1 h2 => ?_) rfl (fun w hw => ?_)
  · rw [cp_def, if_neg (by omega)]; exact wrM_o h1
  · rw [cp_def, if_pos ⟨rfl, hw⟩]; exact wrM_at hw
theorem l_Odds_startWays {r src f : Nat} (hr : r < 7) (hs : src ≤ 1) (hfb : f ≤ 20) (M : mM) (hF : M.1 5 r = nI f) (hQ : Q (wrM M (46 + r) 85 (fun w => if f ≤ w ∧ w ≤ f + 3 * src then 1 else 0)) none) (w : Nat) (hw : w ≤ 85) (v5 : Value) : wp X (d + 2) n_Odds_startWays Q 17 [.ref 44, .ref 3, .int (nI r), .int (nI (3 * src)), .int (nI w), v5] [] (wrM M (46 + r) w (fun w => if f ≤ w ∧ w ≤ f + 3 * src then 1 else 0)) := by
  refine x_il4 f_Odds_startWays_17 ?_
  refine x_bipush (v := (nI 85)) f_Odds_startWays_19 rfl ?_
  refine x_cmp_geN f_Odds_startWays_21 (by omega) (by omega) (fun h => ?_) (fun h => ?_)
  · have e : w = 85 := by omega
    subst e
    refine x_return f_Odds_startWays_66 rfl ?_
    exact hQ
  · refine x_il4 f_Odds_startWays_24 ?_
    refine x_al1 f_Odds_startWays_26 ?_
    refine x_getR f_Odds_startWays_27 rfl rfl ?_
    refine x_il2 f_Odds_startWays_30 ?_
    refine x_ialdV f_Odds_startWays_31 rfl (by omega) ((wrM_o (by omega)).trans hF) ?_
    refine x_isub f_Odds_startWays_32 ?_
    have fin : ∀ (x : Int32) (v : Nat), v = (if f ≤ w ∧ w ≤ f + 3 * src then 1 else 0) → wp X (d + 2) n_Odds_startWays Q 59 [.ref 44, .ref 3, .int (nI r), .int (nI (3 * src)), .int (nI w), .int x] [.int (nI v), .int (nI w), .ref (46 + r)] (wrM M (46 + r) w (fun w => if f ≤ w ∧ w ≤ f + 3 * src then 1 else 0)) := by
      intro x v hv
      refine x_iastN f_Odds_startWays_59 (od_sh r hr) (by omega) ?_
      refine x_incN4 f_Odds_startWays_60 rfl ?_
      refine x_goto f_Odds_startWays_63 ?_
      rw [hv]
      have e := st_wr1 (M := M) (k := 46 + r) (i := w) (f := fun w => if f ≤ w ∧ w ≤ f + 3 * src then 1 else 0)
      rw [e]
      exact l_Odds_startWays hr hs hfb M hF hQ (w + 1) (by omega) _
    refine x_is5 f_Odds_startWays_33 rfl ?_
    refine x_al0 f_Odds_startWays_35 ?_
    refine x_getR f_Odds_startWays_36 rfl rfl ?_
    refine x_il2 f_Odds_startWays_39 ?_
    refine x_aaldN f_Odds_startWays_40 rfl (by omega) (od_row r hr) ?_
    refine x_il4 f_Odds_startWays_41 ?_
    refine x_il5 f_Odds_startWays_43 ?_
    rcases Nat.lt_or_ge w f with q | q
    · refine x_if_lt f_Odds_startWays_45 (fun _ => ?_) (fun h2 => absurd (pk_sneg (by omega) q) h2)
      refine x_iconst (v := (nI 0)) f_Odds_startWays_58 rfl ?_
      exact fin _ 0 (by rw [if_neg (by omega)])
    · rw [pk_sub q]
      refine x_if_ltN f_Odds_startWays_45 (by omega) ?_
      refine x_il5 f_Odds_startWays_48 ?_
      refine x_il3 f_Odds_startWays_50 ?_
      refine x_cmp_gtN f_Odds_startWays_51 (by omega) (by omega) (fun h2 => ?_) (fun h2 => ?_)
      · refine x_iconst (v := (nI 0)) f_Odds_startWays_58 rfl ?_
        exact fin _ 0 (by rw [if_neg (by omega)])
      · refine x_iconst (v := (nI 1)) f_Odds_startWays_54 rfl ?_
        refine x_goto f_Odds_startWays_55 ?_
        exact fin _ 1 (by rw [if_pos (by omega)])
  termination_by 85 - w
  decreasing_by all_goals omega
theorem c_Odds_startWays {r : Nat} {M : mM} (hn7 : n ≤ 7) (hr : r < n) (hn : M.1 3 0 = nI n) (hfb : F r ≤ 20) (hF : M.1 5 r = nI (F r)) (hR : ∀ i, i < n → M.1 7 i = iv (Rn i)) (hRb : ∀ i, i < n → Rn i ≤ i) (hQ : Q (wrM M (46 + r) 85 (swN F (srcN Rn r n) r)) none) : wp X (d + 2) n_Odds_startWays Q 0 [.ref 44, .ref 3, .int (nI r), .null, .null, .null] [] M := by
  have hs := srcN_le Rn r n
  have fin : wp X (d + 2) n_Odds_startWays Q 17 [.ref 44, .ref 3, .int (nI r), .int (nI (3 * srcN Rn r n)), .int (nI 0), .null] [] M := by
    have h := l_Odds_startWays (X := X) (d := d) (Q := Q) (r := r) (src := srcN Rn r n) (f := F r) (by omega) hs hfb M hF hQ 0 (by omega) .null
    rw [wrM_0] at h
    exact h
  refine x_al1 f_Odds_startWays_0 ?_
  refine x_il2 f_Odds_startWays_1 ?_
  refine x_cV1i f_Odds_startWays_2 rfl rfl (by decide) (Nat.le_of_ble_eq_true rfl) (Nat.le_of_ble_eq_true rfl) rfl (c_River_isSource (r := 3) (Or.inl rfl) (by omega) hn hn7 hR (fun i hi => by have := hRb i hi; omega) ⟨_, rfl, ?_⟩)
  refine x_if_eqN f_Odds_startWays_5 (by omega) (fun h => ?_) (fun h => ?_)
  · refine x_iconst (v := (nI 0)) f_Odds_startWays_12 rfl ?_
    refine x_is3 f_Odds_startWays_13 rfl ?_
    refine x_iconst (v := (nI 0)) f_Odds_startWays_14 rfl ?_
    refine x_is4 f_Odds_startWays_15 rfl ?_
    rw [h] at fin
    exact fin
  · refine x_iconst (v := (nI 3)) f_Odds_startWays_8 rfl ?_
    refine x_goto f_Odds_startWays_9 ?_
    refine x_is3 f_Odds_startWays_13 rfl ?_
    refine x_iconst (v := (nI 0)) f_Odds_startWays_14 rfl ?_
    refine x_is4 f_Odds_startWays_15 rfl ?_
    rw [show srcN Rn r n = 1 by omega] at fin
    exact fin
/-- the cells of ways hold V -/
def OdC (M : mM) (n : Nat) (V : Nat → Nat → Nat) : Prop := ∀ r, r < n → ∀ w, w < 85 → M.1 (46 + r) w = nI (V r w)
theorem l_Odds_reckonWays1 (hn7 : n ≤ 7) (hFb : ∀ i, i < n → F i ≤ 20) (hRb : ∀ i, i < n → Rn i ≤ i) (M : mM) (r : Nat) (hr : r ≤ n) (hn : M.1 3 0 = nI n) (hF : ∀ i, i < n → M.1 5 i = nI (F i)) (hR : ∀ i, i < n → M.1 7 i = iv (Rn i)) (hV : OdC M r (fun r => swN F (srcN Rn r n) r)) (hQ : ∀ M1, frM M M1 46 52 → OdC M1 n (fun r => swN F (srcN Rn r n) r) → wp X (d + 3) n_Odds_reckonWays Q 22 [.ref 44, .ref 3, .int (nI n)] [] M1) : wp X (d + 3) n_Odds_reckonWays Q 2 [.ref 44, .ref 3, .int (nI r)] [] M := by
  refine x_il2 f_Odds_reckonWays_2 ?_
  refine x_al1 f_Odds_reckonWays_3 ?_
  refine x_getIV f_Odds_reckonWays_4 rfl rfl (Or.inl rfl) (hn) ?_
  refine x_cmp_geN f_Odds_reckonWays_7 (by omega) (by omega) (fun h => ?_) (fun h => ?_)
  · have e : r = n := by omega
    subst e
    exact hQ M (frM_refl _ _ _) hV
  · refine x_al0 f_Odds_reckonWays_10 ?_
    refine x_al1 f_Odds_reckonWays_11 ?_
    refine x_il2 f_Odds_reckonWays_12 ?_
    refine x_cV2v f_Odds_reckonWays_13 rfl rfl (by decide) (Nat.le_of_ble_eq_true rfl) (Nat.le_of_ble_eq_true rfl) rfl (c_Odds_startWays (F := F) (Rn := Rn) hn7 h hn (hFb r h) (hF r h) hR hRb ⟨rfl, ?_⟩)
    refine x_incN2 f_Odds_reckonWays_16 rfl ?_
    refine x_goto f_Odds_reckonWays_19 ?_
    refine l_Odds_reckonWays1 hn7 hFb hRb _ (r + 1) (by omega) ((wrM_o (by omega)).trans hn) (fun i hi => (wrM_o (by omega)).trans (hF i hi)) (fun i hi => (wrM_o (by omega)).trans (hR i hi)) (fun r2 hr2 w hw => ?_) (fun M1 f1 v1 => hQ M1 (frM_trans (frM_wr (frM_refl _ _ _) (by omega) (by omega)) f1) v1)
    by_cases e : r2 = r
    · subst e; exact wrM_at hw
    · exact (wrM_o (by omega)).trans (hV r2 (by omega) w hw)
  termination_by n - r
  decreasing_by all_goals omega
theorem l_Odds_reckonWays2 (hn7 : n ≤ 7) (hKb : ∀ i, i < n → K i < 10) (hRb : ∀ i, i < n → Rn i ≤ i) (Bd : (Nat → Nat → Nat) → Nat → Prop) (hB1 : ∀ V k, k < n → Bd V (k + 1) → ∀ u, V k u < 2 ^ 31) (hB2 : ∀ V k, k < n → Bd V (k + 1) → Bd (jst 85 K Rn V k) k) (M : mM) (k : Nat) (hk : k ≤ n) (V : Nat → Nat → Nat) (hBd : Bd V k) (hn : M.1 3 0 = nI n) (hK : ∀ i, i < n → M.1 4 i = nI (K i)) (hR : ∀ i, i < n → M.1 7 i = iv (Rn i)) (hV : OdC M n V) (hQ : ∀ M1, frM M M1 46 53 → OdC M1 n (vlo 85 K Rn k V) → Q M1 none) : wp X (d + 3) n_Odds_reckonWays Q 29 [.ref 44, .ref 3, .int (iv k)] [] M := by
  match k, hk, hBd, hQ with
  | 0, _, _, hQ =>
    refine x_il2 f_Odds_reckonWays_29 ?_
    refine x_if_lt f_Odds_reckonWays_30 (fun _ => ?_) (fun hh => absurd (by decide) hh)
    refine x_return f_Odds_reckonWays_79 rfl ?_
    exact hQ M (frM_refl _ _ _) hV
  | k + 1, hk, hBd, hQ =>
    have hRk := hRb k (by omega)
    show wp X (d + 3) n_Odds_reckonWays Q 29 [.ref 44, .ref 3, .int (nI k)] [] M
    refine x_il2 f_Odds_reckonWays_29 ?_
    refine x_if_ltN f_Odds_reckonWays_30 (by omega) ?_
    refine x_al1 f_Odds_reckonWays_33 ?_
    refine x_al1 f_Odds_reckonWays_34 ?_
    refine x_getR f_Odds_reckonWays_35 rfl rfl ?_
    refine x_il2 f_Odds_reckonWays_38 ?_
    refine x_ialdV f_Odds_reckonWays_39 rfl (by omega) (hR k (by omega)) ?_
    refine x_cV1i f_Odds_reckonWays_40 rfl rfl (by decide) (Nat.le_of_ble_eq_true rfl) (Nat.le_of_ble_eq_true rfl) rfl (c_River_hasReach (r := 3) (Or.inl rfl) hn ⟨_, rfl, ?_⟩)
    have hh := hasI_iv (t := Rn k) (n := n) (by omega) (by omega)
    refine x_if_eqN f_Odds_reckonWays_43 (by have := hasI_le (iv (Rn k)) n; omega) (fun h49 => ?_) (fun h49 => ?_)
    · have h0 : Rn k = 0 := by rw [hh] at h49; split at h49 <;> omega
      refine x_inc2 f_Odds_reckonWays_73 rfl (iv_dec k) ?_
      refine x_goto f_Odds_reckonWays_76 ?_
      have e : jst 85 K Rn V k = V := by
        funext j
        unfold jst
        rw [if_neg (by omega)]
      refine l_Odds_reckonWays2 hn7 hKb hRb Bd hB1 hB2 M k (by omega) V ?_ hn hK hR hV (fun M1 f1 v1 => hQ M1 f1 ?_)
      · have := hB2 V k (by omega) hBd
        rw [e] at this
        exact this
      · show OdC M1 n (vlo 85 K Rn k (jst 85 K Rn V k))
        rw [e]
        exact v1
    · obtain ⟨t, ht⟩ : ∃ t, Rn k = t + 1 := by
        cases hc : Rn k with
        | zero => rw [hh, hc] at h49; simp at h49
        | succ t => exact ⟨t, rfl⟩
      refine x_al0 f_Odds_reckonWays_46 ?_
      refine x_al1 f_Odds_reckonWays_47 ?_
      refine x_getR f_Odds_reckonWays_48 rfl rfl ?_
      refine x_il2 f_Odds_reckonWays_51 ?_
      refine x_ialdV f_Odds_reckonWays_52 rfl (by omega) (hK k (by omega)) ?_
      refine x_al0 f_Odds_reckonWays_53 ?_
      refine x_getR f_Odds_reckonWays_54 rfl rfl ?_
      refine x_il2 f_Odds_reckonWays_57 ?_
      refine x_aaldN f_Odds_reckonWays_58 rfl (by omega) (od_row k (by omega)) ?_
      refine x_al0 f_Odds_reckonWays_59 ?_
      refine x_getR f_Odds_reckonWays_60 rfl rfl ?_
      refine x_al1 f_Odds_reckonWays_63 ?_
      refine x_getR f_Odds_reckonWays_64 rfl rfl ?_
      refine x_il2 f_Odds_reckonWays_67 ?_
      refine x_ialdV f_Odds_reckonWays_68 rfl (by omega) ((hR k (by omega)).trans (by rw [ht]; rfl : _ = nI t)) ?_
      refine x_aaldN f_Odds_reckonWays_69 rfl (by omega) (od_row t (by omega)) ?_
      refine x_cV3v f_Odds_reckonWays_70 rfl rfl (by decide) (Nat.le_of_ble_eq_true rfl) (Nat.le_of_ble_eq_true rfl) rfl (c_Odds_joinWays (fr := V k) (to := V t) (hKb k (by omega)) (by omega) (by omega) (fun u _ => hB1 V k (by omega) hBd u) (hV k (by omega)) (hV t (by omega)) (fun M1 o1 g1 v1 => ⟨rfl, ?_⟩))
      refine x_inc2 f_Odds_reckonWays_73 rfl (iv_dec k) ?_
      refine x_goto f_Odds_reckonWays_76 ?_
      refine l_Odds_reckonWays2 hn7 hKb hRb Bd hB1 hB2 M1 k (by omega) (jst 85 K Rn V k) (hB2 V k (by omega) hBd) ((o1 _ _ (by omega) (by omega)).trans hn) (fun i hi => (o1 _ _ (by omega) (by omega)).trans (hK i hi)) (fun i hi => (o1 _ _ (by omega) (by omega)).trans (hR i hi)) (fun r hr w hw => ?_) (fun M2 f2 v2 => hQ M2 (frM_trans ⟨fun a i ha => o1 a i (by omega) (by omega), g1⟩ f2) v2)
      unfold jst
      by_cases e : r = t
      · subst e
        rw [if_pos (by omega)]
        exact v1 w hw
      · rw [if_neg (by omega), o1 _ _ (by omega) (by omega)]
        exact hV r hr w hw
  termination_by k
  decreasing_by all_goals omega
theorem c_Odds_reckonWays {M : mM} (hn7 : n ≤ 7) (hKb : ∀ i, i < n → K i < 10) (hFb : ∀ i, i < n → F i ≤ 20) (hRb : ∀ i, i < n → Rn i ≤ i) (Bd : (Nat → Nat → Nat) → Nat → Prop) (hB1 : ∀ V k, k < n → Bd V (k + 1) → ∀ u, V k u < 2 ^ 31) (hB2 : ∀ V k, k < n → Bd V (k + 1) → Bd (jst 85 K Rn V k) k) (hB0 : Bd (fun r => swN F (srcN Rn r n) r) n) (hn : M.1 3 0 = nI n) (hK : ∀ i, i < n → M.1 4 i = nI (K i)) (hF : ∀ i, i < n → M.1 5 i = nI (F i)) (hR : ∀ i, i < n → M.1 7 i = iv (Rn i)) (hQ : ∀ M1, frM M M1 46 53 → OdC M1 n (vlo 85 K Rn n (fun r => swN F (srcN Rn r n) r)) → Q M1 none) : wp X (d + 3) n_Odds_reckonWays Q 0 [.ref 44, .ref 3, .null] [] M := by
  refine x_iconst (v := (nI 0)) f_Odds_reckonWays_0 rfl ?_
  refine x_is2 f_Odds_reckonWays_1 rfl ?_
  refine l_Odds_reckonWays1 hn7 hFb hRb M 0 (by omega) hn hF hR (fun r hr => absurd hr (by omega)) (fun M1 f1 v1 => ?_)
  refine x_al1 f_Odds_reckonWays_22 ?_
  refine x_getIV f_Odds_reckonWays_23 rfl rfl (Or.inl rfl) ((f1.1 _ _ (by omega)).trans hn) ?_
  refine x_iconst (v := (nI 1)) f_Odds_reckonWays_26 rfl ?_
  refine x_isub f_Odds_reckonWays_27 ?_
  rw [iv_sub1]
  refine x_is2 f_Odds_reckonWays_28 rfl ?_
  exact l_Odds_reckonWays2 hn7 hKb hRb Bd hB1 hB2 M1 n (Nat.le_refl _) _ hB0 ((f1.1 _ _ (by omega)).trans hn) (fun i hi => (f1.1 _ _ (by omega)).trans (hK i hi)) (fun i hi => (f1.1 _ _ (by omega)).trans (hR i hi)) v1 (fun M2 f2 v2 => hQ M2 (frM_trans (frM_wide f1 (by omega) (by omega)) f2) v2)
/-- halved as long as it goes: above, and below as a power of 2 -/
def hvl : Nat → Nat → Nat × Nat
  | 0, a => (a, 1)
  | p + 1, a => if a % 2 = 0 then hvl p (a / 2) else (a, 2 ^ (p + 1))
def abN (V : Nat → Nat) (k z : Nat) (w : Nat) : Nat := sumN (fun u => fldN k u z * V u) w
theorem l_Odds_reckonParts2 {r : Nat} (v3 : Value) (M0 : mM) (p a : Nat) (hp : p ≤ 20) (ha : a < 2 ^ 31) (hQ : ∀ M1, (∀ b i, (b ≠ 44 ∨ i < 2) → M1.1 b i = M0.1 b i) → M1.2 = M0.2 → M1.1 44 2 = nI (hvl p a).1 → M1.1 44 3 = nI (hvl p a).2 → Q M1 none) (M : mM) (ho : ∀ b i, (b ≠ 44 ∨ i < 2) → M.1 b i = M0.1 b i) (hg : M.2 = M0.2) (h2 : M.1 44 2 = nI a) (h3 : M.1 44 3 = nI (2 ^ p)) : wp X (d + 2) n_Odds_reckonParts Q 77 [.ref 44, .ref 3, .int (nI r), v3] [] M := by
  have hpp : 2 ^ p ≤ 2 ^ 20 := Nat.pow_le_pow_right (by omega) hp
  refine x_al0 f_Odds_reckonParts_77 ?_
  refine x_getIV f_Odds_reckonParts_78 rfl rfl (Or.inl rfl) (h3) ?_
  refine x_iconst (v := (nI 1)) f_Odds_reckonParts_81 rfl ?_
  match p, hp, hQ, h3, hpp with
  | 0, _, hQ, h3, _ =>
    refine x_cmp_leN f_Odds_reckonParts_82 (by omega) (by omega) (fun _ => ?_) (fun h => absurd h (by omega))
    refine x_return f_Odds_reckonParts_117 rfl ?_
    exact hQ M ho hg h2 h3
  | p + 1, hp, hQ, h3, hpp =>
    have h1 : 1 ≤ 2 ^ p := Nat.one_le_two_pow
    have hs : 2 ^ (p + 1) = 2 ^ p * 2 := Nat.pow_succ 2 p
    refine x_cmp_leN f_Odds_reckonParts_82 (by omega) (by omega) (fun h => absurd h (by omega)) (fun _ => ?_)
    refine x_al0 f_Odds_reckonParts_85 ?_
    refine x_getIV f_Odds_reckonParts_86 rfl rfl (Or.inl rfl) (h2) ?_
    refine x_iconst (v := (nI 2)) f_Odds_reckonParts_89 rfl ?_
    refine x_iremN f_Odds_reckonParts_90 ha (by omega) (by omega) ?_
    have e : hvl (p + 1) a = if a % 2 = 0 then hvl p (a / 2) else (a, 2 ^ (p + 1)) := rfl
    refine x_if_neN f_Odds_reckonParts_91 (by omega) (fun h => ?_) (fun h => ?_)
    · rw [if_neg (by omega)] at e
      refine x_return f_Odds_reckonParts_117 rfl ?_
      exact hQ M ho hg (by rw [e]; exact h2) (by rw [e]; exact h3)
    · rw [if_pos h] at e
      rw [e] at hQ
      refine x_al0 f_Odds_reckonParts_94 ?_
      refine x_dup f_Odds_reckonParts_95 rfl ?_
      refine x_getIV f_Odds_reckonParts_96 rfl rfl (Or.inl rfl) (h2) ?_
      refine x_iconst (v := (nI 2)) f_Odds_reckonParts_99 rfl ?_
      refine x_idivN f_Odds_reckonParts_100 ha (by omega) (by omega) ?_
      refine x_putI f_Odds_reckonParts_101 rfl rfl ?_
      refine x_al0 f_Odds_reckonParts_104 ?_
      refine x_dup f_Odds_reckonParts_105 rfl ?_
      refine x_getIV f_Odds_reckonParts_106 rfl rfl (Or.inl rfl) ((stM_ne _ _ (by omega)).trans h3) ?_
      refine x_iconst (v := (nI 2)) f_Odds_reckonParts_109 rfl ?_
      refine x_idivN f_Odds_reckonParts_110 (by omega) (by omega) (by omega) ?_
      refine x_putI f_Odds_reckonParts_111 rfl rfl ?_
      refine x_goto f_Odds_reckonParts_114 ?_
      refine l_Odds_reckonParts2 _ M0 p (a / 2) (by omega) (by omega) hQ _ (fun b i h9 => ?_) hg ?_ ?_
      · rw [stM_ne _ _ (by omega), stM_ne _ _ (by omega)]; exact ho b i h9
      · rw [stM_ne _ _ (by omega), stM_at]
      · rw [stM_at, show 2 ^ (p + 1) / 2 = 2 ^ p by omega]
  termination_by p
  decreasing_by all_goals omega
theorem l_Odds_reckonParts1 {r k z : Nat} {V : Nat → Nat} (hr : r < 7) (hk : k < 10) (hz : z ≤ 9) (M0 : mM) (hK : M0.1 4 r = nI k) (hZ : M0.1 6 r = nI z) (hV : ∀ w, w < 85 → M0.1 (46 + r) w = nI (V w)) (hQ : ∀ (M1 : mM) (v3 : Value), (∀ b i, (b ≠ 44 ∨ i < 2) → M1.1 b i = M0.1 b i) → M1.2 = M0.2 → M1.1 44 2 = nI (abN V k z 85) → M1.1 44 3 = nI (sumN V 85) → wp X (d + 2) n_Odds_reckonParts Q 77 [.ref 44, .ref 3, .int (nI r), v3] [] M1) (M : mM) (w : Nat) (hw : w ≤ 85) (ho : ∀ b i, (b ≠ 44 ∨ i < 2) → M.1 b i = M0.1 b i) (hg : M.2 = M0.2) (h2 : M.1 44 2 = nI (abN V k z w)) (h3 : M.1 44 3 = nI (sumN V w)) : wp X (d + 2) n_Odds_reckonParts Q 12 [.ref 44, .ref 3, .int (nI r), .int (nI w)] [] M := by
  refine x_il3 f_Odds_reckonParts_12 ?_
  refine x_bipush (v := (nI 85)) f_Odds_reckonParts_13 rfl ?_
  refine x_cmp_geN f_Odds_reckonParts_15 (by omega) (by omega) (fun h => ?_) (fun h => ?_)
  · have e : w = 85 := by omega
    subst e
    exact hQ M _ ho hg h2 h3
  · have hl := fldN_le k w z
    have e3 : sumN V (w + 1) = sumN V w + V w := rfl
    have e2 : abN V k z (w + 1) = abN V k z w + fldN k w z * V w := rfl
    refine x_al0 f_Odds_reckonParts_18 ?_
    refine x_dup f_Odds_reckonParts_19 rfl ?_
    refine x_getIV f_Odds_reckonParts_20 rfl rfl (Or.inl rfl) (h3) ?_
    refine x_al0 f_Odds_reckonParts_23 ?_
    refine x_getR f_Odds_reckonParts_24 rfl rfl ?_
    refine x_il2 f_Odds_reckonParts_27 ?_
    refine x_aaldN f_Odds_reckonParts_28 rfl (by omega) (od_row r hr) ?_
    refine x_il3 f_Odds_reckonParts_29 ?_
    refine x_ialdV f_Odds_reckonParts_30 (od_sh r hr) (by omega) ((ho _ _ (by omega)).trans (hV w h)) ?_
    first | refine x_iaddN f_Odds_reckonParts_31 ?_ | refine x_iadd f_Odds_reckonParts_31 ?_
    refine x_putI f_Odds_reckonParts_32 rfl rfl ?_
    refine x_al1 f_Odds_reckonParts_35 ?_
    refine x_getR f_Odds_reckonParts_36 rfl rfl ?_
    refine x_il2 f_Odds_reckonParts_39 ?_
    refine x_ialdV f_Odds_reckonParts_40 rfl (by omega) ((stM_ne _ _ (by omega)).trans ((ho _ _ (by omega)).trans hK)) ?_
    refine x_il3 f_Odds_reckonParts_41 ?_
    refine x_al1 f_Odds_reckonParts_42 ?_
    refine x_getR f_Odds_reckonParts_43 rfl rfl ?_
    refine x_il2 f_Odds_reckonParts_46 ?_
    refine x_ialdV f_Odds_reckonParts_47 rfl (by omega) ((stM_ne _ _ (by omega)).trans ((ho _ _ (by omega)).trans hZ)) ?_
    refine x_cS3i f_Odds_reckonParts_48 (by decide) (Nat.le_of_ble_eq_true rfl) (Nat.le_of_ble_eq_true rfl) rfl (c_RL_overflows hk (by omega) (by omega) ⟨_, rfl, ?_⟩)
    refine x_if_eqN f_Odds_reckonParts_51 (by omega) (fun h51 => ?_) (fun h51 => ?_)
    · refine x_incN3 f_Odds_reckonParts_71 rfl ?_
      refine x_goto f_Odds_reckonParts_74 ?_
      rw [h51, Nat.zero_mul] at e2
      refine l_Odds_reckonParts1 hr hk hz M0 hK hZ hV hQ _ (w + 1) (by omega) (fun b i h9 => (stM_ne _ _ (by omega)).trans (ho b i h9)) hg ?_ ?_
      · rw [stM_ne _ _ (by omega), h2, e2]; rfl
      · rw [stM_at]; rfl
    · rw [show fldN k w z = 1 by omega, Nat.one_mul] at e2
      refine x_al0 f_Odds_reckonParts_54 ?_
      refine x_dup f_Odds_reckonParts_55 rfl ?_
      refine x_getIV f_Odds_reckonParts_56 rfl rfl (Or.inl rfl) ((stM_ne _ _ (by omega)).trans h2) ?_
      refine x_al0 f_Odds_reckonParts_59 ?_
      refine x_getR f_Odds_reckonParts_60 rfl rfl ?_
      refine x_il2 f_Odds_reckonParts_63 ?_
      refine x_aaldN f_Odds_reckonParts_64 rfl (by omega) (od_row r hr) ?_
      refine x_il3 f_Odds_reckonParts_65 ?_
      refine x_ialdV f_Odds_reckonParts_66 (od_sh r hr) (by omega) ((stM_ne _ _ (by omega)).trans ((ho _ _ (by omega)).trans (hV w h))) ?_
      first | refine x_iaddN f_Odds_reckonParts_67 ?_ | refine x_iadd f_Odds_reckonParts_67 ?_
      refine x_putI f_Odds_reckonParts_68 rfl rfl ?_
      refine x_incN3 f_Odds_reckonParts_71 rfl ?_
      refine x_goto f_Odds_reckonParts_74 ?_
      refine l_Odds_reckonParts1 hr hk hz M0 hK hZ hV hQ _ (w + 1) (by omega) (fun b i h9 => ?_) hg ?_ ?_
      · rw [stM_ne _ _ (by omega), stM_ne _ _ (by omega)]; exact ho b i h9
      · rw [stM_at, e2]
      · rw [stM_ne _ _ (by omega), stM_at]; rfl
  termination_by 85 - w
  decreasing_by all_goals omega
theorem c_Odds_reckonParts {r k z p : Nat} {V : Nat → Nat} {M : mM} (hr : r < 7) (hk : k < 10) (hz : z ≤ 9) (hp : p ≤ 20) (hs : sumN V 85 = 2 ^ p) (ha : abN V k z 85 < 2 ^ 31) (hK : M.1 4 r = nI k) (hZ : M.1 6 r = nI z) (hV : ∀ w, w < 85 → M.1 (46 + r) w = nI (V w)) (hQ : ∀ M1, (∀ b i, (b ≠ 44 ∨ i < 2) → M1.1 b i = M.1 b i) → M1.2 = M.2 → M1.1 44 2 = nI (hvl p (abN V k z 85)).1 → M1.1 44 3 = nI (hvl p (abN V k z 85)).2 → Q M1 none) : wp X (d + 2) n_Odds_reckonParts Q 0 [.ref 44, .ref 3, .int (nI r), .null] [] M := by
  refine x_al0 f_Odds_reckonParts_0 ?_
  refine x_iconst (v := (nI 0)) f_Odds_reckonParts_1 rfl ?_
  refine x_putI f_Odds_reckonParts_2 rfl rfl ?_
  refine x_al0 f_Odds_reckonParts_5 ?_
  refine x_iconst (v := (nI 0)) f_Odds_reckonParts_6 rfl ?_
  refine x_putI f_Odds_reckonParts_7 rfl rfl ?_
  refine x_iconst (v := (nI 0)) f_Odds_reckonParts_10 rfl ?_
  refine x_is3 f_Odds_reckonParts_11 rfl ?_
  have o : ∀ b i, (b ≠ 44 ∨ i < 2) → (stM (stM M 44 2 (nI 0)) 44 3 (nI 0)).1 b i = M.1 b i := fun b i h => (stM_ne _ _ (by omega)).trans (stM_ne _ _ (by omega))
  refine l_Odds_reckonParts1 hr hk hz M hK hZ hV (fun M1 v3 o1 g1 a2 a3 => ?_) _ 0 (by omega) o rfl ?_ ?_
  · exact l_Odds_reckonParts2 v3 M p (abN V k z 85) hp ha hQ M1 o1 g1 a2 (by rw [a3, hs])
  · rw [stM_ne _ _ (by omega), stM_at]; rfl
  · rw [stM_at]; rfl
end
