/-! what is seen -/
def isSn (s : Nat) : Prop := s = 24 ∨ s = 28
theorem sn_sh {s : Nat} (h : isSn s) : shp s = (0, 4, [0, s + 4, s + 5, s + 6]) := by rcases h with rfl | rfl <;> rfl
theorem snA1 {s : Nat} (h : isSn s) : shp (s + 1) = (1, 6, []) := by rcases h with rfl | rfl <;> rfl
theorem snA2 {s : Nat} (h : isSn s) : shp (s + 2) = (1, 6, []) := by rcases h with rfl | rfl <;> rfl
theorem snA3 {s : Nat} (h : isSn s) : shp (s + 3) = (2, 6, []) := by rcases h with rfl | rfl <;> rfl
theorem z01 {v : Nat} (hv : v ≤ 1) : nI v = 0 ∨ nI v = 1 := by rcases (show v = 0 ∨ v = 1 by omega) with q | q <;> rw [q] <;> decide
def cpSn (M M1 : mM) (s o : Nat) : Prop := M1.1 s 0 = M.1 o 0 ∧ (∀ k, 1 ≤ k → k ≤ 3 → ∀ i, i < 6 → M1.1 (s + k) i = M.1 (o + k) i) ∧ frM M M1 s (s + 3)
/-- whether it may be z wild, by the first i seen -/
def agN (sr sm sf : Nat → Nat) (k w a z : Nat) : Nat → Nat
  | 0 => 1
  | i + 1 => if sr i = a ∧ fldN k (w + sm i) z ≠ sf i then 0 else agN sr sm sf k w a z i
theorem agN_0 {sr sm sf : Nat → Nat} {k w a z j : Nat} (h1 : sr j = a) (h2 : fldN k (w + sm j) z ≠ sf j) : ∀ n, j < n → agN sr sm sf k w a z n = 0
  | 0, h => by omega
  | n + 1, h => by
    unfold agN
    split
    · rfl
    · next hne =>
      rcases Nat.lt_or_ge j n with q | q
      · exact agN_0 h1 h2 n q
      · rw [show j = n by omega] at h1 h2
        exact absurd ⟨h1, h2⟩ hne
theorem agN_le (sr sm sf : Nat → Nat) (k w a z : Nat) : ∀ n, agN sr sm sf k w a z n ≤ 1
  | 0 => Nat.le_refl _
  | n + 1 => by
    unfold agN
    have := agN_le sr sm sf k w a z n
    split <;> omega
/-- bits of the first z of f -/
def bitsN (f : Nat → Nat) : Nat → Nat
  | 0 => 0
  | z + 1 => bitsN f z + f z * 2 ^ z
theorem bitsN_lt {f : Nat → Nat} (h : ∀ z, f z ≤ 1) : ∀ z, bitsN f z < 2 ^ z
  | 0 => Nat.lt_of_lt_of_le Nat.zero_lt_one (Nat.le_refl 1)
  | z + 1 => by
    unfold bitsN
    have h1 := bitsN_lt h z
    have h2 : f z * 2 ^ z ≤ 1 * 2 ^ z := Nat.mul_le_mul_right _ (h z)
    rw [Nat.pow_succ]
    omega
/-- by how much rain it would be known best: the least of those that leave fewest -/
def trN (Lw : Nat → Nat) : Nat → Nat × Nat
  | 0 => (0, Lw 0)
  | i + 1 => if Lw (i + 1) < (trN Lw i).2 then (i + 1, Lw (i + 1)) else trN Lw i
def flN (k w b : Nat) (z : Nat) : Nat := sumN (fun z => b / 2 ^ z % 2 * fldN k w z) z
theorem sumN_le {f f2 : Nat → Nat} (h : ∀ i, f i ≤ f2 i) : ∀ n, sumN f n ≤ sumN f2 n
  | 0 => Nat.le_refl _
  | n + 1 => by
    unfold sumN
    have := sumN_le h n
    have := h n
    omega
theorem flN_le (k w b : Nat) : flN k w b 10 ≤ popN b := sumN_le (fun z => by
  have h1 := fldN_le k w z
  have h2 : b / 2 ^ z % 2 * fldN k w z ≤ b / 2 ^ z % 2 * 1 := Nat.mul_le_mul_left _ h1
  omega) 10
/-- how many are left at worst -/
def lwN (k w b : Nat) : Nat := if flN k w b 10 < popN b - flN k w b 10 then popN b - flN k w b 10 else flN k w b 10
theorem lwN_le {k w b : Nat} (hb : b < 1024) : lwN k w b ≤ 10 := by
  have h1 := flN_le k w b
  have h2 := pop_le b hb
  unfold lwN
  split <;> omega
section
variable {X : (Nat → Int32) × Nat} {d : Nat} {Q : mM → Option Value → Prop} {M : mM} {sr sm sf : Nat → Nat} {sn a k w : Nat}
theorem c_Seen_add {x1 x2 b : Int32} (hb : b = 0 ∨ b = 1) (hs : M.1 24 0 = nI sn) (hn : sn < 6) (hQ : Q (stM (stM (stM (stM M 25 sn x1) 26 sn x2) 27 sn b) 24 0 (nI (sn + 1))) none) : wp X (d + 1) n_Seen_add Q 0 [.ref 24, .int x1, .int x2, .int b] [] M := by
  refine x_al0 f_Seen_add_0 ?_
  refine x_getIV f_Seen_add_1 rfl rfl (Or.inl rfl) (hs) ?_
  refine x_bipush (v := (nI 6)) f_Seen_add_4 rfl ?_
  refine x_cmp_geN f_Seen_add_6 (by omega) (by omega) (fun h => absurd h (by omega)) (fun _ => ?_)
  have o1 : ∀ v : Int32, (stM M 25 sn v).1 24 0 = nI sn := fun v => (stM_ne _ _ (by omega)).trans hs
  have o2 : ∀ v v2 : Int32, (stM (stM M 25 sn v) 26 sn v2).1 24 0 = nI sn := fun v v2 => (stM_ne _ _ (by omega)).trans (o1 v)
  have o3 : ∀ v v2 v3 : Int32, (stM (stM (stM M 25 sn v) 26 sn v2) 27 sn v3).1 24 0 = nI sn := fun v v2 v3 => (stM_ne _ _ (by omega)).trans (o2 v v2)
  refine x_al0 f_Seen_add_9 ?_
  refine x_getR f_Seen_add_10 rfl rfl ?_
  refine x_al0 f_Seen_add_13 ?_
  refine x_getIV f_Seen_add_14 rfl rfl (Or.inl rfl) (hs) ?_
  refine x_il1 f_Seen_add_17 ?_
  refine x_iastN f_Seen_add_18 rfl (by omega) ?_
  refine x_al0 f_Seen_add_19 ?_
  refine x_getR f_Seen_add_20 rfl rfl ?_
  refine x_al0 f_Seen_add_23 ?_
  refine x_getIV f_Seen_add_24 rfl rfl (Or.inl rfl) (o1 _) ?_
  refine x_il2 f_Seen_add_27 ?_
  refine x_iastN f_Seen_add_28 rfl (by omega) ?_
  refine x_al0 f_Seen_add_29 ?_
  refine x_getR f_Seen_add_30 rfl rfl ?_
  refine x_al0 f_Seen_add_33 ?_
  refine x_getIV f_Seen_add_34 rfl rfl (Or.inl rfl) (o2 _ _) ?_
  refine x_il3 f_Seen_add_37 ?_
  refine x_zastN f_Seen_add_38 rfl (by omega) (hb) ?_
  refine x_al0 f_Seen_add_39 ?_
  refine x_dup f_Seen_add_40 rfl ?_
  refine x_getIV f_Seen_add_41 rfl rfl (Or.inl rfl) (o3 _ _ _) ?_
  refine x_iconst (v := (nI 1)) f_Seen_add_44 rfl ?_
  first | refine x_iaddN f_Seen_add_45 ?_ | refine x_iadd f_Seen_add_45 ?_
  refine x_putI f_Seen_add_46 rfl rfl ?_
  refine x_return f_Seen_add_49 rfl ?_
  exact hQ
theorem l_Seen_copyFrom {s o : Nat} (hs : isSn s) (ho : isSn o) (hso : s ≠ o) (M0 : mM) (hB : ∀ i, i < 6 → M0.1 (o + 3) i = 0 ∨ M0.1 (o + 3) i = 1) (hQ : ∀ M1, cpSn M0 M1 s o → Q M1 none) (M : mM) (i : Nat) (hi : i ≤ 6) (h0 : M.1 s 0 = M0.1 o 0) (hk : ∀ k, 1 ≤ k → k ≤ 3 → ∀ j, j < i → M.1 (s + k) j = M0.1 (o + k) j) (hf : frM M0 M s (s + 3)) : wp X (d + 1) n_Seen_copyFrom Q 10 [.ref s, .ref o, .int (nI i)] [] M := by
  have hd : o + 3 < s ∨ s + 3 < o := by rcases hs with rfl | rfl <;> rcases ho with rfl | rfl <;> omega
  refine x_il2 f_Seen_copyFrom_10 ?_
  refine x_bipush (v := (nI 6)) f_Seen_copyFrom_11 rfl ?_
  refine x_cmp_geN f_Seen_copyFrom_13 (by omega) (by omega) (fun h => ?_) (fun h => ?_)
  · refine x_return f_Seen_copyFrom_58 rfl ?_
    exact hQ M ⟨h0, fun k h1 h3 j hj => hk k h1 h3 j (by omega), hf⟩
  · have e : ∀ k, 1 ≤ k → k ≤ 3 → ∀ j, M.1 (o + k) j = M0.1 (o + k) j := fun k h1 h3 j => hf.1 _ _ (by omega)
    refine x_al0 f_Seen_copyFrom_16 ?_
    refine x_getR f_Seen_copyFrom_17 (sn_sh hs) rfl ?_
    refine x_il2 f_Seen_copyFrom_20 ?_
    refine x_al1 f_Seen_copyFrom_21 ?_
    refine x_getR f_Seen_copyFrom_22 (sn_sh ho) rfl ?_
    refine x_il2 f_Seen_copyFrom_25 ?_
    refine x_ialdV f_Seen_copyFrom_26 (snA1 ho) (by omega) (e 1 (by omega) (by omega) i) ?_
    refine x_iastN f_Seen_copyFrom_27 (snA1 hs) (by omega) ?_
    refine x_al0 f_Seen_copyFrom_28 ?_
    refine x_getR f_Seen_copyFrom_29 (sn_sh hs) rfl ?_
    refine x_il2 f_Seen_copyFrom_32 ?_
    refine x_al1 f_Seen_copyFrom_33 ?_
    refine x_getR f_Seen_copyFrom_34 (sn_sh ho) rfl ?_
    refine x_il2 f_Seen_copyFrom_37 ?_
    refine x_ialdV f_Seen_copyFrom_38 (snA2 ho) (by omega) ((stM_ne _ _ (by omega)).trans (e 2 (by omega) (by omega) i)) ?_
    refine x_iastN f_Seen_copyFrom_39 (snA2 hs) (by omega) ?_
    refine x_al0 f_Seen_copyFrom_40 ?_
    refine x_getR f_Seen_copyFrom_41 (sn_sh hs) rfl ?_
    refine x_il2 f_Seen_copyFrom_44 ?_
    refine x_al1 f_Seen_copyFrom_45 ?_
    refine x_getR f_Seen_copyFrom_46 (sn_sh ho) rfl ?_
    refine x_il2 f_Seen_copyFrom_49 ?_
    refine x_zaldV f_Seen_copyFrom_50 (snA3 ho) (by omega) ((stM_ne _ _ (by omega)).trans ((stM_ne _ _ (by omega)).trans (e 3 (by omega) (by omega) i))) ?_
    refine x_zastN f_Seen_copyFrom_51 (snA3 hs) (by omega) (hB i (by omega)) ?_
    refine x_incN2 f_Seen_copyFrom_52 rfl ?_
    refine x_goto f_Seen_copyFrom_55 ?_
    refine l_Seen_copyFrom hs ho hso M0 hB hQ _ (i + 1) (by omega) ?_ (fun k h1 h3 j hj => ?_) (frM_st (frM_st (frM_st hf (by omega) (by omega)) (by omega) (by omega)) (by omega) (by omega))
    · rw [stM_ne _ _ (by omega), stM_ne _ _ (by omega), stM_ne _ _ (by omega)]; exact h0
    · rw [stM_def, stM_def, stM_def]
      by_cases hj2 : j = i
      · subst hj2
        rcases (show k = 1 ∨ k = 2 ∨ k = 3 by omega) with rfl | rfl | rfl
        · rw [if_neg (by omega), if_neg (by omega), if_pos (by omega)]
        · rw [if_neg (by omega), if_pos (by omega)]
        · rw [if_pos (by omega)]
      · rw [if_neg (by omega), if_neg (by omega), if_neg (by omega)]
        exact hk k h1 h3 j (by omega)
  termination_by 6 - i
  decreasing_by all_goals omega
theorem c_Seen_copyFrom {s o : Nat} (hs : isSn s) (ho : isSn o) (hso : s ≠ o) (hB : ∀ i, i < 6 → M.1 (o + 3) i = 0 ∨ M.1 (o + 3) i = 1) (hQ : ∀ M1, cpSn M M1 s o → Q M1 none) : wp X (d + 1) n_Seen_copyFrom Q 0 [.ref s, .ref o, .null] [] M := by
  refine x_al0 f_Seen_copyFrom_0 ?_
  refine x_al1 f_Seen_copyFrom_1 ?_
  refine x_getI f_Seen_copyFrom_2 (sn_sh ho) rfl (Or.inl rfl) ?_
  refine x_putI f_Seen_copyFrom_5 (sn_sh hs) rfl ?_
  refine x_iconst (v := (nI 0)) f_Seen_copyFrom_8 rfl ?_
  refine x_is2 f_Seen_copyFrom_9 rfl ?_
  exact l_Seen_copyFrom hs ho hso M hB hQ _ 0 (by omega) (stM_at _ _ _ _) (fun k h1 h3 j hj => absurd hj (by omega)) (frM_st (frM_refl _ _ _) (by omega) (by omega))
/-- what is seen, in the cells of the class -/
def SnC (M : mM) (s sn : Nat) (sr sm sf : Nat → Nat) : Prop := M.1 s 0 = nI sn ∧ (∀ i, i < sn → M.1 (s + 1) i = nI (sr i)) ∧ (∀ i, i < sn → M.1 (s + 2) i = nI (sm i)) ∧ (∀ i, i < sn → M.1 (s + 3) i = nI (sf i))
theorem l_Seen_agrees (hS : SnC M 24 sn sr sm sf) (hn : sn ≤ 6) (hb : ∀ i, i < sn → sr i < 7 ∧ sm i ≤ 20 ∧ sf i ≤ 1) (ha : a < 7) (hk : k < 10) (hw : w < 50000) (hK : M.1 4 a = nI k) (hW : M.1 8 a = nI w) {z : Nat} (hz : z < 10) (hQ : Q M (some (.int (nI (agN sr sm sf k w a z sn))))) (i : Nat) (hi : i ≤ sn) (he : agN sr sm sf k w a z i = 1) : wp X (d + 2) n_Seen_agrees Q 3 [.ref 24, .ref 3, .int (nI a), .int (nI z), .int (nI i)] [] M := by
  refine x_il4 f_Seen_agrees_3 ?_
  refine x_al0 f_Seen_agrees_5 ?_
  refine x_getIV f_Seen_agrees_6 rfl rfl (Or.inl rfl) (hS.1) ?_
  refine x_cmp_geN f_Seen_agrees_9 (by omega) (by omega) (fun h => ?_) (fun h => ?_)
  · refine x_iconst (v := (nI 1)) f_Seen_agrees_65 rfl ?_
    refine x_zreturn f_Seen_agrees_66 rfl (by decide) ?_
    exact q_eq (by rw [show sn = i by omega, he]) hQ
  · obtain ⟨b1, b2, b3⟩ := hb i h
    have e : agN sr sm sf k w a z (i + 1) = if sr i = a ∧ fldN k (w + sm i) z ≠ sf i then 0 else agN sr sm sf k w a z i := rfl
    have hfl := fldN_le k (w + sm i) z
    refine x_al0 f_Seen_agrees_12 ?_
    refine x_getR f_Seen_agrees_13 rfl rfl ?_
    refine x_il4 f_Seen_agrees_16 ?_
    refine x_ialdV f_Seen_agrees_18 rfl (by omega) (hS.2.1 i h) ?_
    refine x_il2 f_Seen_agrees_19 ?_
    refine x_cmp_neN f_Seen_agrees_20 (by omega) (by omega) (fun h20 => ?_) (fun h20 => ?_)
    · rw [if_neg (fun q => h20 q.1)] at e
      refine x_incN4 f_Seen_agrees_59 rfl ?_
      refine x_goto f_Seen_agrees_62 ?_
      exact l_Seen_agrees hS hn hb ha hk hw hK hW hz hQ (i + 1) (by omega) (e.trans he)
    · refine x_al1 f_Seen_agrees_23 ?_
      refine x_getR f_Seen_agrees_24 rfl rfl ?_
      refine x_il2 f_Seen_agrees_27 ?_
      refine x_ialdV f_Seen_agrees_28 rfl (by omega) (hK) ?_
      refine x_al1 f_Seen_agrees_29 ?_
      refine x_getR f_Seen_agrees_30 rfl rfl ?_
      refine x_il2 f_Seen_agrees_33 ?_
      refine x_ialdV f_Seen_agrees_34 rfl (by omega) (hW) ?_
      refine x_al0 f_Seen_agrees_35 ?_
      refine x_getR f_Seen_agrees_36 rfl rfl ?_
      refine x_il4 f_Seen_agrees_39 ?_
      refine x_ialdV f_Seen_agrees_41 rfl (by omega) (hS.2.2.1 i h) ?_
      first | refine x_iaddN f_Seen_agrees_42 ?_ | refine x_iadd f_Seen_agrees_42 ?_
      refine x_il3 f_Seen_agrees_43 ?_
      refine x_cS3i f_Seen_agrees_44 (by decide) (Nat.le_of_ble_eq_true rfl) (Nat.le_of_ble_eq_true rfl) rfl (c_RL_overflows hk (by omega) (by omega) ⟨_, rfl, ?_⟩)
      refine x_al0 f_Seen_agrees_47 ?_
      refine x_getR f_Seen_agrees_48 rfl rfl ?_
      refine x_il4 f_Seen_agrees_51 ?_
      refine x_zaldV f_Seen_agrees_53 rfl (by omega) (hS.2.2.2 i h) ?_
      refine x_cmp_eqN f_Seen_agrees_54 (by omega) (by omega) (fun h54 => ?_) (fun h54 => ?_)
      · rw [if_neg (fun q => q.2 h54)] at e
        refine x_incN4 f_Seen_agrees_59 rfl ?_
        refine x_goto f_Seen_agrees_62 ?_
        exact l_Seen_agrees hS hn hb ha hk hw hK hW hz hQ (i + 1) (by omega) (e.trans he)
      · refine x_iconst (v := (nI 0)) f_Seen_agrees_57 rfl ?_
        refine x_zreturn f_Seen_agrees_58 rfl (by decide) ?_
        exact q_eq (agN_0 h20 h54 sn h) hQ
  termination_by sn - i
  decreasing_by all_goals omega
theorem c_Seen_agrees (hS : SnC M 24 sn sr sm sf) (hn : sn ≤ 6) (hb : ∀ i, i < sn → sr i < 7 ∧ sm i ≤ 20 ∧ sf i ≤ 1) (ha : a < 7) (hk : k < 10) (hw : w < 50000) (hK : M.1 4 a = nI k) (hW : M.1 8 a = nI w) {z : Nat} (hz : z < 10) (hQ : Q M (some (.int (nI (agN sr sm sf k w a z sn))))) : wp X (d + 2) n_Seen_agrees Q 0 [.ref 24, .ref 3, .int (nI a), .int (nI z), .null] [] M := by
  refine x_iconst (v := (nI 0)) f_Seen_agrees_0 rfl ?_
  refine x_is4 f_Seen_agrees_1 rfl ?_
  exact l_Seen_agrees hS hn hb ha hk hw hK hW hz hQ 0 (by omega) rfl
/-- how wild it can be, as bits -/
def wiN (sr sm sf : Nat → Nat) (sn k w a : Nat) (z : Nat) : Nat := bitsN (fun z => agN sr sm sf k w a z sn) z
theorem wiN_lt (sr sm sf : Nat → Nat) (sn k w a : Nat) (z : Nat) : wiN sr sm sf sn k w a z < 2 ^ z := bitsN_lt (fun z => agN_le _ _ _ _ _ _ _ _) z
theorem l_Seen_wildBits (hS : SnC M 24 sn sr sm sf) (hn : sn ≤ 6) (hb : ∀ i, i < sn → sr i < 7 ∧ sm i ≤ 20 ∧ sf i ≤ 1) (ha : a < 7) (hk : k < 10) (hw : w < 50000) (hK : M.1 4 a = nI k) (hW : M.1 8 a = nI w) (hQ : Q M (some (.int (nI (wiN sr sm sf sn k w a 10))))) (z : Nat) (hz : z ≤ 10) : wp X (d + 3) n_Seen_wildBits Q 5 [.ref 24, .ref 3, .int (nI a), .int (nI (wiN sr sm sf sn k w a z)), .int (nI z)] [] M := by
  refine x_il4 f_Seen_wildBits_5 ?_
  refine x_bipush (v := (nI 9)) f_Seen_wildBits_7 rfl ?_
  refine x_cmp_gtN f_Seen_wildBits_9 (by omega) (by omega) (fun h => ?_) (fun h => ?_)
  · refine x_il3 f_Seen_wildBits_36 ?_
    refine x_ireturn f_Seen_wildBits_37 rfl ?_
    exact q_eq (by rw [show z = 10 by omega]) hQ
  · have hl := wiN_lt sr sm sf sn k w a z
    have hal := agN_le sr sm sf k w a z sn
    have e : wiN sr sm sf sn k w a (z + 1) = wiN sr sm sf sn k w a z + agN sr sm sf k w a z sn * 2 ^ z := rfl
    refine x_al0 f_Seen_wildBits_12 ?_
    refine x_al1 f_Seen_wildBits_13 ?_
    refine x_il2 f_Seen_wildBits_14 ?_
    refine x_il4 f_Seen_wildBits_15 ?_
    refine x_cV3i f_Seen_wildBits_17 rfl rfl (by decide) (Nat.le_of_ble_eq_true rfl) (Nat.le_of_ble_eq_true rfl) rfl (c_Seen_agrees hS hn hb ha hk hw hK hW (z := z) (by omega) ⟨_, rfl, ?_⟩)
    refine x_if_eqN f_Seen_wildBits_20 (by omega) (fun h20 => ?_) (fun h20 => ?_)
    · rw [h20, Nat.zero_mul] at e
      refine x_incN4 f_Seen_wildBits_30 rfl ?_
      refine x_goto f_Seen_wildBits_33 ?_
      rw [show wiN sr sm sf sn k w a z = wiN sr sm sf sn k w a (z + 1) by omega]
      exact l_Seen_wildBits hS hn hb ha hk hw hK hW hQ (z + 1) (by omega)
    · rw [show agN sr sm sf k w a z sn = 1 by omega, Nat.one_mul] at e
      refine x_il3 f_Seen_wildBits_23 ?_
      refine x_iconst (v := (nI 1)) f_Seen_wildBits_24 rfl ?_
      refine x_il4 f_Seen_wildBits_25 ?_
      refine x_shl1N f_Seen_wildBits_27 (by omega) ?_
      refine x_iorN f_Seen_wildBits_28 ?_
      refine x_is3 f_Seen_wildBits_29 rfl ?_
      refine x_incN4 f_Seen_wildBits_30 rfl ?_
      refine x_goto f_Seen_wildBits_33 ?_
      rw [Nat.or_two_pow_eq_add_of_lt hl, ← e]
      exact l_Seen_wildBits hS hn hb ha hk hw hK hW hQ (z + 1) (by omega)
  termination_by 10 - z
  decreasing_by all_goals omega
theorem c_Seen_wildBits (hS : SnC M 24 sn sr sm sf) (hn : sn ≤ 6) (hb : ∀ i, i < sn → sr i < 7 ∧ sm i ≤ 20 ∧ sf i ≤ 1) (ha : a < 7) (hk : k < 10) (hw : w < 50000) (hK : M.1 4 a = nI k) (hW : M.1 8 a = nI w) (hQ : Q M (some (.int (nI (wiN sr sm sf sn k w a 10))))) : wp X (d + 3) n_Seen_wildBits Q 0 [.ref 24, .ref 3, .int (nI a), .null, .null] [] M := by
  refine x_iconst (v := (nI 0)) f_Seen_wildBits_0 rfl ?_
  refine x_is3 f_Seen_wildBits_1 rfl ?_
  refine x_iconst (v := (nI 0)) f_Seen_wildBits_2 rfl ?_
  refine x_is4 f_Seen_wildBits_3 rfl ?_
  exact l_Seen_wildBits hS hn hb ha hk hw hK hW hQ 0 (by omega)
theorem l_Seen_leftAtWorst {b q : Nat} (hb : b < 1024) (hq : q ≤ 20) (ha : a < 7) (hk : k < 10) (hw : w < 50000) (hK : M.1 4 a = nI k) (hW : M.1 8 a = nI w) (hQ : Q M (some (.int (nI (lwN k (w + q) b))))) (z : Nat) (hz : z ≤ 10) (v6 : Value) (hv : okst [v6] 1 = true) : wp X (d + 2) n_Seen_leftAtWorst Q 6 [.ref 3, .int (nI a), .int (nI b), .int (nI q), .int (nI (flN k (w + q) b z)), .int (nI z), v6] [] M := by
  refine x_il5 f_Seen_leftAtWorst_6 ?_
  refine x_bipush (v := (nI 9)) f_Seen_leftAtWorst_8 rfl ?_
  refine x_cmp_gtN f_Seen_leftAtWorst_10 (by omega) (by omega) (fun h => ?_) (fun h => ?_)
  · have hz10 : z = 10 := by omega
    subst hz10
    have h1 := flN_le k (w + q) b
    have h2 := pop_le b hb
    refine x_il4 f_Seen_leftAtWorst_66 ?_
    refine x_il2 f_Seen_leftAtWorst_68 ?_
    refine x_cS1i f_Seen_leftAtWorst_69 (by decide) (Nat.le_of_ble_eq_true rfl) (Nat.le_of_ble_eq_true rfl) rfl (c_Int_bitCount hb ⟨_, rfl, ?_⟩)
    refine x_il4 f_Seen_leftAtWorst_72 ?_
    refine x_isubN f_Seen_leftAtWorst_74 (by omega) ?_
    refine x_mmax f_Seen_leftAtWorst_75 (Nat.le_of_ble_eq_true rfl) ?_
    refine x_ireturn f_Seen_leftAtWorst_78 rfl ?_
    refine q_eqI ?_ hQ
    simp only [nI_ltI (a := flN k (w + q) b 10) (b := popN b - flN k (w + q) b 10) (by omega) (by omega)]
    unfold lwN
    split <;> rfl
  · have hm : b / 2 ^ z % 2 < 2 := Nat.mod_lt _ (by omega)
    have hfl := fldN_le k (w + q) z
    have e : flN k (w + q) b (z + 1) = flN k (w + q) b z + b / 2 ^ z % 2 * fldN k (w + q) z := rfl
    refine x_il2 f_Seen_leftAtWorst_13 ?_
    refine x_il5 f_Seen_leftAtWorst_14 ?_
    refine x_ishrN f_Seen_leftAtWorst_16 (by omega) (by omega) ?_
    refine x_iconst (v := (nI 1)) f_Seen_leftAtWorst_17 rfl ?_
    refine x_iandN f_Seen_leftAtWorst_18 ?_
    refine x_iconst (v := (nI 1)) f_Seen_leftAtWorst_19 rfl ?_
    rw [Nat.and_one_is_mod]
    refine x_cmp_neN f_Seen_leftAtWorst_20 (by omega) (by omega) (fun h20 => ?_) (fun h20 => ?_)
    · rw [show b / 2 ^ z % 2 = 0 by omega, Nat.zero_mul] at e
      refine x_iconst (v := (nI 0)) f_Seen_leftAtWorst_27 rfl ?_
      refine x_is6 f_Seen_leftAtWorst_28 rfl ?_
      refine x_il6 f_Seen_leftAtWorst_30 ?_
      refine x_if_eqN f_Seen_leftAtWorst_32 (by omega) (fun _ => ?_) (fun h9 => absurd h9 (by omega))
      refine x_incN5 f_Seen_leftAtWorst_60 rfl ?_
      refine x_goto f_Seen_leftAtWorst_63 ?_
      rw [show flN k (w + q) b z = flN k (w + q) b (z + 1) by omega]
      exact l_Seen_leftAtWorst hb hq ha hk hw hK hW hQ (z + 1) (by omega) _ rfl
    · rw [h20, Nat.one_mul] at e
      refine x_iconst (v := (nI 1)) f_Seen_leftAtWorst_23 rfl ?_
      refine x_goto f_Seen_leftAtWorst_24 ?_
      refine x_is6 f_Seen_leftAtWorst_28 rfl ?_
      refine x_il6 f_Seen_leftAtWorst_30 ?_
      refine x_if_eqN f_Seen_leftAtWorst_32 (by omega) (fun h9 => absurd h9 (by omega)) (fun _ => ?_)
      refine x_al0 f_Seen_leftAtWorst_35 ?_
      refine x_getR f_Seen_leftAtWorst_36 rfl rfl ?_
      refine x_il1 f_Seen_leftAtWorst_39 ?_
      refine x_ialdV f_Seen_leftAtWorst_40 rfl (by omega) (hK) ?_
      refine x_al0 f_Seen_leftAtWorst_41 ?_
      refine x_getR f_Seen_leftAtWorst_42 rfl rfl ?_
      refine x_il1 f_Seen_leftAtWorst_45 ?_
      refine x_ialdV f_Seen_leftAtWorst_46 rfl (by omega) (hW) ?_
      refine x_il3 f_Seen_leftAtWorst_47 ?_
      first | refine x_iaddN f_Seen_leftAtWorst_48 ?_ | refine x_iadd f_Seen_leftAtWorst_48 ?_
      refine x_il5 f_Seen_leftAtWorst_49 ?_
      refine x_cS3i f_Seen_leftAtWorst_51 (by decide) (Nat.le_of_ble_eq_true rfl) (Nat.le_of_ble_eq_true rfl) rfl (c_RL_overflows hk (by omega) (by omega) ⟨_, rfl, ?_⟩)
      refine x_if_eqN f_Seen_leftAtWorst_54 (by omega) (fun h54 => ?_) (fun h54 => ?_)
      · rw [h54] at e
        refine x_incN5 f_Seen_leftAtWorst_60 rfl ?_
        refine x_goto f_Seen_leftAtWorst_63 ?_
        rw [show flN k (w + q) b z = flN k (w + q) b (z + 1) by omega]
        exact l_Seen_leftAtWorst hb hq ha hk hw hK hW hQ (z + 1) (by omega) _ rfl
      · rw [show fldN k (w + q) z = 1 by omega] at e
        refine x_incN4 f_Seen_leftAtWorst_57 rfl ?_
        refine x_incN5 f_Seen_leftAtWorst_60 rfl ?_
        refine x_goto f_Seen_leftAtWorst_63 ?_
        rw [← e]
        exact l_Seen_leftAtWorst hb hq ha hk hw hK hW hQ (z + 1) (by omega) _ rfl
  termination_by 10 - z
  decreasing_by all_goals omega
theorem c_Seen_leftAtWorst {b q : Nat} (hb : b < 1024) (hq : q ≤ 20) (ha : a < 7) (hk : k < 10) (hw : w < 50000) (hK : M.1 4 a = nI k) (hW : M.1 8 a = nI w) (hQ : Q M (some (.int (nI (lwN k (w + q) b))))) : wp X (d + 2) n_Seen_leftAtWorst Q 0 [.ref 3, .int (nI a), .int (nI b), .int (nI q), .null, .null, .null] [] M := by
  refine x_iconst (v := (nI 0)) f_Seen_leftAtWorst_0 rfl ?_
  refine x_is4 f_Seen_leftAtWorst_1 rfl ?_
  refine x_iconst (v := (nI 0)) f_Seen_leftAtWorst_3 rfl ?_
  refine x_is5 f_Seen_leftAtWorst_4 rfl ?_
  exact l_Seen_leftAtWorst hb hq ha hk hw hK hW hQ 0 (by omega) _ rfl
theorem trN_le {Lw : Nat → Nat} (h : ∀ i, Lw i ≤ 10) : ∀ i, (trN Lw i).2 ≤ 10 ∧ (trN Lw i).1 ≤ i
  | 0 => ⟨h 0, Nat.le_refl _⟩
  | i + 1 => by
    unfold trN
    have h1 := trN_le h i
    have h2 := h (i + 1)
    split
    · exact ⟨h2, Nat.le_refl _⟩
    · exact ⟨h1.1, by omega⟩
/-- the answer: 0 none, else 1 more -/
def rainN (k w b : Nat) : Nat := if b = 0 then 0 else (trN (fun q => lwN k (w + q) b) 20).1 + 1
theorem l_Seen_tellingRain {b : Nat} (hb : b < 1024) (hb0 : 0 < b) (ha : a < 7) (hk : k < 10) (hw : w < 50000) (hK : M.1 4 a = nI k) (hW : M.1 8 a = nI w) (hQ : Q M (some (.int (iv (rainN k w b))))) (i : Nat) (hi : i ≤ 20) (v7 : Value) (hv : okst [v7] 1 = true) : wp X (d + 4) n_Seen_tellingRain Q 28 [.ref 24, .ref 3, .int (nI a), .int (nI b), .int (nI (trN (fun q => lwN k (w + q) b) i).1), .int (nI (trN (fun q => lwN k (w + q) b) i).2), .int (nI (i + 1)), v7] [] M := by
  have hT := trN_le (Lw := fun q => lwN k (w + q) b) (fun q => lwN_le hb) i
  refine x_il6 f_Seen_tellingRain_28 ?_
  refine x_bipush (v := (nI 20)) f_Seen_tellingRain_30 rfl ?_
  refine x_cmp_gtN f_Seen_tellingRain_32 (by omega) (by omega) (fun h => ?_) (fun h => ?_)
  · refine x_il4 f_Seen_tellingRain_66 ?_
    refine x_ireturn f_Seen_tellingRain_68 rfl ?_
    rw [show i = 20 by omega]
    have e : rainN k w b = (trN (fun q => lwN k (w + q) b) 20).1 + 1 := by unfold rainN; rw [if_neg (by omega)]
    rw [e] at hQ
    exact hQ
  · have hlw := lwN_le (k := k) (w := w + (i + 1)) hb
    have e : trN (fun q => lwN k (w + q) b) (i + 1) = if lwN k (w + (i + 1)) b < (trN (fun q => lwN k (w + q) b) i).2 then (i + 1, lwN k (w + (i + 1)) b) else trN (fun q => lwN k (w + q) b) i := rfl
    refine x_al1 f_Seen_tellingRain_35 ?_
    refine x_il2 f_Seen_tellingRain_36 ?_
    refine x_il3 f_Seen_tellingRain_37 ?_
    refine x_il6 f_Seen_tellingRain_38 ?_
    refine x_cS4i f_Seen_tellingRain_40 (by decide) (Nat.le_of_ble_eq_true rfl) (Nat.le_of_ble_eq_true rfl) rfl (c_Seen_leftAtWorst hb (by omega) ha hk hw hK hW ⟨_, rfl, ?_⟩)
    refine x_is7 f_Seen_tellingRain_43 rfl ?_
    refine x_il7 f_Seen_tellingRain_45 ?_
    refine x_il5 f_Seen_tellingRain_47 ?_
    refine x_cmp_geN f_Seen_tellingRain_49 (by omega) (by omega) (fun h49 => ?_) (fun h49 => ?_)
    · rw [if_neg (by omega)] at e
      refine x_incN6 f_Seen_tellingRain_60 rfl ?_
      refine x_goto f_Seen_tellingRain_63 ?_
      rw [← e]
      exact l_Seen_tellingRain hb hb0 ha hk hw hK hW hQ (i + 1) (by omega) _ rfl
    · rw [if_pos h49] at e
      refine x_il7 f_Seen_tellingRain_52 ?_
      refine x_is5 f_Seen_tellingRain_54 rfl ?_
      refine x_il6 f_Seen_tellingRain_56 ?_
      refine x_is4 f_Seen_tellingRain_58 rfl ?_
      refine x_incN6 f_Seen_tellingRain_60 rfl ?_
      refine x_goto f_Seen_tellingRain_63 ?_
      have h3 := l_Seen_tellingRain hb hb0 ha hk hw hK hW hQ (i + 1) (by omega) (.int (nI (lwN k (w + (i + 1)) b))) rfl
      rw [e] at h3
      exact h3
  termination_by 20 - i
  decreasing_by all_goals omega
theorem c_Seen_tellingRain (hS : SnC M 24 sn sr sm sf) (hn : sn ≤ 6) (hb : ∀ i, i < sn → sr i < 7 ∧ sm i ≤ 20 ∧ sf i ≤ 1) (ha : a < 7) (hk : k < 10) (hw : w < 50000) (hK : M.1 4 a = nI k) (hW : M.1 8 a = nI w) (hQ : Q M (some (.int (iv (rainN k w (wiN sr sm sf sn k w a 10)))))) : wp X (d + 4) n_Seen_tellingRain Q 0 [.ref 24, .ref 3, .int (nI a), .null, .null, .null, .null, .null] [] M := by
  have hl := wiN_lt sr sm sf sn k w a 10
  refine x_al0 f_Seen_tellingRain_0 ?_
  refine x_al1 f_Seen_tellingRain_1 ?_
  refine x_il2 f_Seen_tellingRain_2 ?_
  refine x_cV2i f_Seen_tellingRain_3 rfl rfl (by decide) (Nat.le_of_ble_eq_true rfl) (Nat.le_of_ble_eq_true rfl) rfl (c_Seen_wildBits hS hn hb ha hk hw hK hW ⟨_, rfl, ?_⟩)
  refine x_is3 f_Seen_tellingRain_6 rfl ?_
  refine x_il3 f_Seen_tellingRain_7 ?_
  refine x_if_neN f_Seen_tellingRain_8 (by omega) (fun h => ?_) (fun h => ?_)
  · refine x_iconst (v := (nI 0)) f_Seen_tellingRain_13 rfl ?_
    refine x_is4 f_Seen_tellingRain_14 rfl ?_
    refine x_al1 f_Seen_tellingRain_16 ?_
    refine x_il2 f_Seen_tellingRain_17 ?_
    refine x_il3 f_Seen_tellingRain_18 ?_
    refine x_iconst (v := (nI 0)) f_Seen_tellingRain_19 rfl ?_
    refine x_cS4i f_Seen_tellingRain_20 (by decide) (Nat.le_of_ble_eq_true rfl) (Nat.le_of_ble_eq_true rfl) rfl (c_Seen_leftAtWorst hl (by omega) ha hk hw hK hW ⟨_, rfl, ?_⟩)
    refine x_is5 f_Seen_tellingRain_23 rfl ?_
    refine x_iconst (v := (nI 1)) f_Seen_tellingRain_25 rfl ?_
    refine x_is6 f_Seen_tellingRain_26 rfl ?_
    exact l_Seen_tellingRain hl h ha hk hw hK hW hQ 0 (by omega) _ rfl
  · refine x_iconst (v := (-1)) f_Seen_tellingRain_11 rfl ?_
    refine x_ireturn f_Seen_tellingRain_12 rfl ?_
    rw [h] at hQ
    exact hQ
end
