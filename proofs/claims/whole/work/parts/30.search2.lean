/-! the search: its scores, its answers -/
def scN (k w z : Nat) : Nat := if fldN k w z = 0 then z else 100 + z
def wbhN (k z mo oth b : Nat) : Nat → Nat
  | 0 => z
  | s + 1 => wafN k (wbhN k z mo oth b s) (mo + 1 + s) (oth + b / 2 ^ s % 2)
theorem wbhN_le {k z mo oth b : Nat} (h : z ≤ 9) : ∀ s, wbhN k z mo oth b s ≤ 9
  | 0 => h
  | s + 1 => wafN_le (wbhN_le h s)
theorem scN_le {k w z : Nat} (h : z ≤ 9) : scN k w z ≤ 200 := by
  unfold scN
  split <;> omega
/-- which of b are left without g -/
def offN (b g : Nat) : Nat := b - b / 2 ^ g % 2 * 2 ^ g
theorem offN_eq : ∀ b, b < 8 → ∀ g, g < 3 → nI b &&& (nI (2 ^ g) ^^^ -1) = nI (offN b g) := by decide +kernel
theorem offN_lt {b g : Nat} (h : b < 8) : offN b g < 8 := by unfold offN; omega
def plSc (n : Nat) (K W Z At : Nat → Nat) (g g0 mo m : Nat) (r b : Nat) : Nat := if r < n then scN (K r) (W r) (wbhN (K r) (Z r) mo (popN (offN (gbN At r g) g0)) b m) else 0
theorem plSc_le {n : Nat} {K W Z At : Nat → Nat} {g g0 mo m : Nat} (hZ : ∀ i, i < n → Z i ≤ 9) (r b : Nat) : plSc n K W Z At g g0 mo m r b ≤ 200 := by
  unfold plSc
  split
  · next h => exact scN_le (wbhN_le (hZ r h) m)
  · omega
def pcSc (n : Nat) (K W Z : Nat → Nat) (mo : Nat) (r b : Nat) : Nat := if r < n then scN (K r) (W r) (wafN (K r) (Z r) (mo + 1) (popN b)) else 0
theorem pcSc_le {n : Nat} {K W Z : Nat → Nat} {mo : Nat} (hZ : ∀ i, i < n → Z i ≤ 9) (r b : Nat) : pcSc n K W Z mo r b ≤ 200 := by
  unfold pcSc
  split
  · next h => exact scN_le (wafN_le (hZ r h))
  · omega
/-- whether what names an answer of a search of p places -/
def askN (x : Int32) (p : Nat) : Nat := if x = 0 then 1 else if x = nI 1 then 1 else if x < nI 10 then 0 else if nI (10 + p) ≤ x then 0 else 1
theorem askN_le (x : Int32) (p : Nat) : askN x p ≤ 1 := by
  unfold askN
  (repeat' split) <;> omega
theorem askN_of {x : Int32} {p : Nat} (hp : p < 1000) (h : 0 < askN x p) : ∃ w, x = nI w ∧ (w = 0 ∨ w = 1 ∨ (10 ≤ w ∧ w < 10 + p)) := by
  unfold askN at h
  split at h
  · next e => exact ⟨0, e, Or.inl rfl⟩
  · split at h
    · next e => exact ⟨1, e, Or.inr (Or.inl rfl)⟩
    · split at h
      · omega
      · next h10 =>
        split at h
        · omega
        · next hp2 =>
          rcases pk_ix x (n := 10 + p) (by omega) with q | q | ⟨j, q1, q2⟩
          · exact absurd (Int32.lt_trans q (by decide : (0 : Int32) < nI 10)) h10
          · exact absurd q hp2
          · subst q2
            refine ⟨j, rfl, Or.inr (Or.inr ⟨?_, q1⟩)⟩
            rcases Nat.lt_or_ge j 10 with z | z
            · exact absurd (nI_lt z (by omega)) h10
            · exact z
/-- what a search tells -/
def tellN (acc : Nat × (Nat → Nat)) (m w : Nat) : Int32 := if acc.1 = 0 then -1 else if w = 0 then nI ((acc.1 - 1) / 100) else if w = 1 then nI ((acc.1 - 1) % 100) else if w - 10 < m then nI (acc.2 (w - 10)) else -1
section
variable {X : (Nat → Int32) × Nat} {d : Nat} {Q : mM → Option Value → Prop} {sc : Nat → Nat → Nat} {n m ap : Nat}
theorem c_Search_isAsked {M : mM} {x : Int32} {p : Nat} (hQ : Q M (some (.int (nI (askN x p))))) : wp X (d + 1) n_Search_isAsked Q 0 [.int x, .int (nI p)] [] M := by
  refine x_il0 f_Search_isAsked_0 ?_
  refine x_if_eq f_Search_isAsked_1 (fun h1 => ?_) (fun h1 => ?_)
  · refine x_iconst (v := (nI 1)) f_Search_isAsked_23 rfl ?_
    refine x_goto f_Search_isAsked_24 ?_
    refine x_zreturn f_Search_isAsked_28 rfl (by decide) ?_
    exact q_eq (by unfold askN; rw [if_pos h1]) hQ
  · refine x_il0 f_Search_isAsked_4 ?_
    refine x_iconst (v := (nI 1)) f_Search_isAsked_5 rfl ?_
    refine x_cmp_eq f_Search_isAsked_6 (fun h2 => ?_) (fun h2 => ?_)
    · refine x_iconst (v := (nI 1)) f_Search_isAsked_23 rfl ?_
      refine x_goto f_Search_isAsked_24 ?_
      refine x_zreturn f_Search_isAsked_28 rfl (by decide) ?_
      exact q_eq (by unfold askN; rw [if_neg h1, if_pos h2]) hQ
    · refine x_il0 f_Search_isAsked_9 ?_
      refine x_bipush (v := (nI 10)) f_Search_isAsked_10 rfl ?_
      refine x_cmp_lt f_Search_isAsked_12 (fun h3 => ?_) (fun h3 => ?_)
      · refine x_iconst (v := (nI 0)) f_Search_isAsked_27 rfl ?_
        refine x_zreturn f_Search_isAsked_28 rfl (by decide) ?_
        exact q_eq (by unfold askN; rw [if_neg h1, if_neg h2, if_pos h3]) hQ
      · refine x_il0 f_Search_isAsked_15 ?_
        refine x_bipush (v := (nI 10)) f_Search_isAsked_16 rfl ?_
        refine x_il1 f_Search_isAsked_18 ?_
        first | refine x_iaddN f_Search_isAsked_19 ?_ | refine x_iadd f_Search_isAsked_19 ?_
        refine x_cmp_ge f_Search_isAsked_20 (fun h4 => ?_) (fun h4 => ?_)
        · refine x_iconst (v := (nI 0)) f_Search_isAsked_27 rfl ?_
          refine x_zreturn f_Search_isAsked_28 rfl (by decide) ?_
          exact q_eq (by unfold askN; rw [if_neg h1, if_neg h2, if_neg h3, if_pos h4]) hQ
        · refine x_iconst (v := (nI 1)) f_Search_isAsked_23 rfl ?_
          refine x_goto f_Search_isAsked_24 ?_
          refine x_zreturn f_Search_isAsked_28 rfl (by decide) ?_
          exact q_eq (by unfold askN; rw [if_neg h1, if_neg h2, if_neg h3, if_neg h4]) hQ
theorem c_Search_told {M : mM} {acc : Nat × (Nat → Nat)} {w : Nat} (ha : acc.1 < 2 ^ 30) (hm : M.1 32 5 = nI m) (hm4 : m ≤ 4) (hb : M.1 32 7 = iv acc.1) (hf : acc.1 ≠ 0 → ∀ j, j < m → M.1 43 j = nI (acc.2 j)) (hw : w = 0 ∨ w = 1 ∨ (10 ≤ w ∧ w < 14)) (hQ : Q M (some (.int (tellN acc m w)))) : wp X (d + 1) n_Search_told Q 0 [.ref 32, .int (nI w), .null] [] M := by
  refine x_al0 f_Search_told_0 ?_
  refine x_getIV f_Search_told_1 rfl rfl (Or.inl rfl) (hb) ?_
  refine x_iconst (v := (-1)) f_Search_told_4 rfl ?_
  refine x_cmp_ne f_Search_told_5 (fun h => ?_) (fun h => ?_)
  · have h0 : acc.1 ≠ 0 := fun z => h ((iv_eqm1 (by omega)).mpr z)
    obtain ⟨b, hb2⟩ : ∃ b, acc.1 = b + 1 := ⟨acc.1 - 1, by omega⟩
    have hb' : M.1 32 7 = nI b := by rw [hb, hb2]; rfl
    refine x_il1 f_Search_told_10 ?_
    refine x_if_neN f_Search_told_11 (by omega) (fun h11 => ?_) (fun h11 => ?_)
    · refine x_il1 f_Search_told_22 ?_
      refine x_iconst (v := (nI 1)) f_Search_told_23 rfl ?_
      refine x_cmp_neN f_Search_told_24 (by omega) (by omega) (fun h24 => ?_) (fun h24 => ?_)
      · have hw2 : 10 ≤ w ∧ w < 14 := by omega
        refine x_il1 f_Search_told_35 ?_
        refine x_bipush (v := (nI 10)) f_Search_told_36 rfl ?_
        refine x_isubN f_Search_told_38 (by omega) ?_
        refine x_is2 f_Search_told_39 rfl ?_
        refine x_il2 f_Search_told_40 ?_
        refine x_if_ltN f_Search_told_41 (by omega) ?_
        refine x_il2 f_Search_told_44 ?_
        refine x_al0 f_Search_told_45 ?_
        refine x_getIV f_Search_told_46 rfl rfl (Or.inl rfl) (hm) ?_
        refine x_cmp_geN f_Search_told_49 (by omega) (by omega) (fun h49 => ?_) (fun h49 => ?_)
        · refine x_iconst (v := (-1)) f_Search_told_66 rfl ?_
          refine x_ireturn f_Search_told_67 rfl ?_
          exact q_eqI (by unfold tellN; rw [if_neg h0, if_neg (by omega), if_neg (by omega), if_neg (by omega)]) hQ
        · refine x_il2 f_Search_told_52 ?_
          refine x_iconst (v := (nI 4)) f_Search_told_53 rfl ?_
          refine x_cmp_geN f_Search_told_54 (by omega) (by omega) (fun h54 => absurd h54 (by omega)) (fun h54 => ?_)
          refine x_al0 f_Search_told_57 ?_
          refine x_getR f_Search_told_58 rfl rfl ?_
          refine x_il2 f_Search_told_61 ?_
          refine x_ialdV f_Search_told_62 rfl (by omega) (hf h0 (w - 10) h49) ?_
          refine x_goto f_Search_told_63 ?_
          refine x_ireturn f_Search_told_67 rfl ?_
          exact q_eqI (by unfold tellN; rw [if_neg h0, if_neg (by omega), if_neg (by omega), if_pos h49]) hQ
      · refine x_al0 f_Search_told_27 ?_
        refine x_getIV f_Search_told_28 rfl rfl (Or.inl rfl) (hb') ?_
        refine x_bipush (v := (nI 100)) f_Search_told_31 rfl ?_
        refine x_iremN f_Search_told_33 (by omega) (by omega) (by omega) ?_
        refine x_ireturn f_Search_told_34 rfl ?_
        exact q_eqI (by unfold tellN; rw [if_neg h0, if_neg (by omega), if_pos h24, hb2]; rfl) hQ
    · refine x_al0 f_Search_told_14 ?_
      refine x_getIV f_Search_told_15 rfl rfl (Or.inl rfl) (hb') ?_
      refine x_bipush (v := (nI 100)) f_Search_told_18 rfl ?_
      refine x_idivN f_Search_told_20 (by omega) (by omega) (by omega) ?_
      refine x_ireturn f_Search_told_21 rfl ?_
      exact q_eqI (by unfold tellN; rw [if_neg h0, if_pos h11, hb2]; rfl) hQ
  · have h0 := (iv_eqm1 (by omega)).mp (Decidable.not_not.mp h)
    refine x_iconst (v := (-1)) f_Search_told_8 rfl ?_
    refine x_ireturn f_Search_told_9 rfl ?_
    exact q_eqI (by unfold tellN; rw [if_pos h0]) hQ
theorem c_Search_scoreOf {M : mM} {r k w z : Nat} (hr : r < 7) (hk : k < 10) (hw : w < 100000) (hz : z < 100000) (hK : M.1 4 r = nI k) (hW : M.1 8 r = nI w) (hQ : Q M (some (.int (nI (scN k w z))))) : wp X (d + 2) n_Search_scoreOf Q 0 [.ref 3, .int (nI r), .int (nI z)] [] M := by
  have hl := fldN_le k w z
  refine x_al0 f_Search_scoreOf_0 ?_
  refine x_getR f_Search_scoreOf_1 rfl rfl ?_
  refine x_il1 f_Search_scoreOf_4 ?_
  refine x_ialdV f_Search_scoreOf_5 rfl (by omega) (hK) ?_
  refine x_al0 f_Search_scoreOf_6 ?_
  refine x_getR f_Search_scoreOf_7 rfl rfl ?_
  refine x_il1 f_Search_scoreOf_10 ?_
  refine x_ialdV f_Search_scoreOf_11 rfl (by omega) (hW) ?_
  refine x_il2 f_Search_scoreOf_12 ?_
  refine x_cS3i f_Search_scoreOf_13 (by decide) (Nat.le_of_ble_eq_true rfl) (Nat.le_of_ble_eq_true rfl) rfl (c_RL_overflows hk hw hz ⟨_, rfl, ?_⟩)
  refine x_if_eqN f_Search_scoreOf_16 (by omega) (fun h => ?_) (fun h => ?_)
  · refine x_il2 f_Search_scoreOf_26 ?_
    refine x_ireturn f_Search_scoreOf_27 rfl ?_
    exact q_eq (by unfold scN; rw [if_pos h]) hQ
  · refine x_bipush (v := (nI 100)) f_Search_scoreOf_19 rfl ?_
    refine x_il2 f_Search_scoreOf_21 ?_
    first | refine x_iaddN f_Search_scoreOf_22 ?_ | refine x_iadd f_Search_scoreOf_22 ?_
    refine x_goto f_Search_scoreOf_23 ?_
    refine x_ireturn f_Search_scoreOf_27 rfl ?_
    exact q_eq (by unfold scN; rw [if_neg (by omega)]) hQ
theorem l_Search_wildBehind {M : mM} {r k z mo oth b : Nat} (hr : r < 7) (hk : k < 10) (hz : z ≤ 9) (hmo : mo < 9000) (ho : oth < 100) (hb : b < 1000) (hm4 : m ≤ 4) (hm : M.1 32 5 = nI m) (hK : M.1 4 r = nI k) (hmo2 : M.1 3 2 = nI mo) (hQ : Q M (some (.int (nI (wbhN k z mo oth b m))))) (s : Nat) (hs : s ≤ m) (v7 : Value) : wp X (d + 3) n_Search_wildBehind Q 11 [.ref 32, .ref 3, .int (nI r), .int (nI oth), .int (nI b), .int (nI (wbhN k z mo oth b s)), .int (nI s), v7] [] M := by
  have hwl := wbhN_le (k := k) (mo := mo) (oth := oth) (b := b) hz s
  refine x_il6 f_Search_wildBehind_11 ?_
  refine x_al0 f_Search_wildBehind_13 ?_
  refine x_getIV f_Search_wildBehind_14 rfl rfl (Or.inl rfl) (hm) ?_
  refine x_cmp_geN f_Search_wildBehind_17 (by omega) (by omega) (fun h => ?_) (fun h => ?_)
  · refine x_il5 f_Search_wildBehind_61 ?_
    refine x_ireturn f_Search_wildBehind_63 rfl ?_
    exact q_eq (by rw [show s = m by omega]) hQ
  · have h2 : b / 2 ^ s % 2 < 2 := Nat.mod_lt _ (by omega)
    refine x_il3 f_Search_wildBehind_20 ?_
    refine x_il4 f_Search_wildBehind_21 ?_
    refine x_il6 f_Search_wildBehind_23 ?_
    refine x_ishrN f_Search_wildBehind_25 (by omega) (by omega) ?_
    refine x_iconst (v := (nI 1)) f_Search_wildBehind_26 rfl ?_
    refine x_iandN f_Search_wildBehind_27 ?_
    rw [Nat.and_one_is_mod]
    first | refine x_iaddN f_Search_wildBehind_28 ?_ | refine x_iadd f_Search_wildBehind_28 ?_
    refine x_is7 f_Search_wildBehind_29 rfl ?_
    refine x_al1 f_Search_wildBehind_31 ?_
    refine x_getR f_Search_wildBehind_32 rfl rfl ?_
    refine x_il2 f_Search_wildBehind_35 ?_
    refine x_ialdV f_Search_wildBehind_36 rfl (by omega) (hK) ?_
    refine x_il5 f_Search_wildBehind_37 ?_
    refine x_al1 f_Search_wildBehind_39 ?_
    refine x_getIV f_Search_wildBehind_40 rfl rfl (Or.inl rfl) (hmo2) ?_
    refine x_iconst (v := (nI 1)) f_Search_wildBehind_43 rfl ?_
    first | refine x_iaddN f_Search_wildBehind_44 ?_ | refine x_iadd f_Search_wildBehind_44 ?_
    refine x_il6 f_Search_wildBehind_45 ?_
    first | refine x_iaddN f_Search_wildBehind_47 ?_ | refine x_iadd f_Search_wildBehind_47 ?_
    refine x_il7 f_Search_wildBehind_48 ?_
    refine x_cS4i f_Search_wildBehind_50 (by decide) (Nat.le_of_ble_eq_true rfl) (Nat.le_of_ble_eq_true rfl) rfl (c_RL_wildAfter hk (by omega) (by omega) (by omega) ⟨_, rfl, ?_⟩)
    refine x_is5 f_Search_wildBehind_53 rfl ?_
    refine x_incN6 f_Search_wildBehind_55 rfl ?_
    refine x_goto f_Search_wildBehind_58 ?_
    exact l_Search_wildBehind hr hk hz hmo ho hb hm4 hm hK hmo2 hQ (s + 1) (by omega) _
  termination_by m - s
  decreasing_by all_goals omega
theorem c_Search_wildBehind {M : mM} {r k z mo oth b : Nat} (hr : r < 7) (hk : k < 10) (hz : z ≤ 9) (hmo : mo < 9000) (ho : oth < 100) (hb : b < 1000) (hm4 : m ≤ 4) (hm : M.1 32 5 = nI m) (hK : M.1 4 r = nI k) (hZ : M.1 6 r = nI z) (hmo2 : M.1 3 2 = nI mo) (hQ : Q M (some (.int (nI (wbhN k z mo oth b m))))) : wp X (d + 3) n_Search_wildBehind Q 0 [.ref 32, .ref 3, .int (nI r), .int (nI oth), .int (nI b), .null, .null, .null] [] M := by
  refine x_al1 f_Search_wildBehind_0 ?_
  refine x_getR f_Search_wildBehind_1 rfl rfl ?_
  refine x_il2 f_Search_wildBehind_4 ?_
  refine x_ialdV f_Search_wildBehind_5 rfl (by omega) (hZ) ?_
  refine x_is5 f_Search_wildBehind_6 rfl ?_
  refine x_iconst (v := (nI 0)) f_Search_wildBehind_8 rfl ?_
  refine x_is6 f_Search_wildBehind_9 rfl ?_
  exact l_Search_wildBehind hr hk hz hmo ho hb hm4 hm hK hmo2 hQ 0 (by omega) _
theorem l_Search_find (hsc : ∀ r b, sc r b ≤ 200) (hn : n ≤ 7) (hm4 : m ≤ 4) (hap : ap ≤ 1) (M0 : mM) (hS : SrC M0 sc n m ap) (hQ : ∀ M1, SfC M0 M1 → SvC M1 n m 0 (fun _ => 0) (dfs sc n ap m 0 (fun _ => 0) (0, fun _ => 0)) → Q M1 none) (M : mM) (r : Nat) (hr : r ≤ n) (hf : SfC M0 M) (h41 : ∀ j, j < r → M.1 41 j = nI 0) : wp X (d + m + 3) n_Search_find Q 4 [.ref 32, .int (nI (sumN (fun r => sc r 0) r)), .int (nI r)] [] M := by
  have hS1 := SrC_of hn hf hS
  refine x_il2 f_Search_find_4 ?_
  refine x_al0 f_Search_find_5 ?_
  refine x_getIV f_Search_find_6 rfl rfl (Or.inl rfl) (hS1.1) ?_
  refine x_cmp_geN f_Search_find_9 (by omega) (by omega) (fun h => ?_) (fun h => ?_)
  · have e : r = n := by omega
    subst e
    refine x_al0 f_Search_find_36 ?_
    refine x_iconst (v := (-1)) f_Search_find_37 rfl ?_
    refine x_putI f_Search_find_38 rfl rfl ?_
    refine x_al0 f_Search_find_41 ?_
    refine x_iconst (v := (nI 0)) f_Search_find_42 rfl ?_
    refine x_il1 f_Search_find_43 ?_
    have f2 : SfC M0 (stM M 32 7 (-1)) := ⟨fun a i a1 a2 a3 a4 => (stM_ne _ _ (by omega)).trans (hf.1 a i a1 a2 a3 a4), hf.2⟩
    refine x_cS3v f_Search_find_44 (by decide) (Nat.le_of_ble_eq_true rfl) (Nat.le_of_ble_eq_true rfl) rfl (c_Search_tryFrom hsc hn hm4 hap m d _ _ 0 (fun _ => 0) (0, fun _ => 0) (by omega) (by decide) (SrC_of hn f2 hS) ⟨fun j hj => (stM_ne _ _ (by omega)).trans (h41 j hj), fun j hj => absurd hj (by omega), stM_at _ _ _ _, fun hz => absurd rfl hz⟩ (fun M1 f1 w1 => ⟨rfl, ?_⟩))
    refine x_return f_Search_find_47 rfl ?_
    exact hQ M1 (SfC_trans f2 f1) w1
  · have hp : 0 < 2 ^ m := Nat.two_pow_pos m
    refine x_al0 f_Search_find_12 ?_
    refine x_getR f_Search_find_13 rfl rfl ?_
    refine x_il2 f_Search_find_16 ?_
    refine x_iconst (v := (nI 0)) f_Search_find_17 rfl ?_
    refine x_iastN f_Search_find_18 rfl (by omega) ?_
    refine x_il1 f_Search_find_19 ?_
    refine x_al0 f_Search_find_20 ?_
    refine x_getR f_Search_find_21 rfl rfl ?_
    refine x_il2 f_Search_find_24 ?_
    refine x_aaldN f_Search_find_25 rfl (by omega) (sc_row r (by omega)) ?_
    refine x_iconst (v := (nI 0)) f_Search_find_26 rfl ?_
    refine x_ialdV f_Search_find_27 (sc_sh r (by omega)) (by omega) ((stM_ne _ _ (by omega)).trans (hS1.2.2.2 r h 0 hp)) ?_
    first | refine x_iaddN f_Search_find_28 ?_ | refine x_iadd f_Search_find_28 ?_
    refine x_is1 f_Search_find_29 rfl ?_
    refine x_incN2 f_Search_find_30 rfl ?_
    refine x_goto f_Search_find_33 ?_
    refine l_Search_find hsc hn hm4 hap M0 hS hQ _ (r + 1) (by omega) (SfC_st hf (Or.inl rfl)) (fun j hj => ?_)
    rw [stM_def]
    by_cases e : j = r
    · rw [if_pos ⟨rfl, e⟩]
    · rw [if_neg (by omega)]; exact h41 j (by omega)
  termination_by n - r
  decreasing_by all_goals omega
theorem c_Search_find {M : mM} (hsc : ∀ r b, sc r b ≤ 200) (hn : n ≤ 7) (hm4 : m ≤ 4) (hap : ap ≤ 1) (hS : SrC M sc n m ap) (hQ : ∀ M1, SfC M M1 → SvC M1 n m 0 (fun _ => 0) (dfs sc n ap m 0 (fun _ => 0) (0, fun _ => 0)) → Q M1 none) : wp X (d + m + 3) n_Search_find Q 0 [.ref 32, .null, .null] [] M := by
  refine x_iconst (v := (nI 0)) f_Search_find_0 rfl ?_
  refine x_is1 f_Search_find_1 rfl ?_
  refine x_iconst (v := (nI 0)) f_Search_find_2 rfl ?_
  refine x_is2 f_Search_find_3 rfl ?_
  exact l_Search_find hsc hn hm4 hap M hS hQ M 0 (by omega) (SfC_refl M) (fun j hj => absurd hj (by omega))
/-- what a finished search leaves -/
def SdC (M M1 : mM) (m : Nat) (acc : Nat × (Nat → Nat)) : Prop := frM M M1 32 43 ∧ M1.1 32 5 = nI m ∧ M1.1 32 7 = iv acc.1 ∧ (acc.1 ≠ 0 → ∀ j, j < m → M1.1 43 j = nI (acc.2 j))
variable {g mo le : Nat} {K F Z Rn W At : Nat → Nat}
theorem l_Search_findPlanB {r oth : Nat} (hr : r < n) (hn : n ≤ 7) (hm4 : m ≤ 4) (hK : K r < 10) (hW : W r < 100000) (hZ : Z r ≤ 9) (hmo : mo < 9000) (ho : oth < 100) {g0 : Int32} (M : mM) (b : Nat) (hb : b ≤ 2 ^ m) (hm : M.1 32 5 = nI m) (hK2 : M.1 4 r = nI (K r)) (hW2 : M.1 8 r = nI (W r)) (hZ2 : M.1 6 r = nI (Z r)) (hmo2 : M.1 3 2 = nI mo) (hd : ∀ j, j < b → M.1 (34 + r) j = nI (scN (K r) (W r) (wbhN (K r) (Z r) mo oth j m))) (hQ : ∀ M1, frM M M1 (34 + r) (34 + r) → (∀ j, j < 2 ^ m → M1.1 (34 + r) j = nI (scN (K r) (W r) (wbhN (K r) (Z r) mo oth j m))) → wp X (d + 8) n_Search_findPlan Q 94 [.ref 32, .ref 3, .int g0, .int (nI m), .int (nI r), .int (nI oth), .int (nI (2 ^ m))] [] M1) : wp X (d + 8) n_Search_findPlan Q 50 [.ref 32, .ref 3, .int g0, .int (nI m), .int (nI r), .int (nI oth), .int (nI b)] [] M := by
  have hp16 : 2 ^ m ≤ 2 ^ 4 := Nat.pow_le_pow_right (by omega) hm4
  refine x_il6 f_Search_findPlan_50 ?_
  refine x_iconst (v := (nI 1)) f_Search_findPlan_52 rfl ?_
  refine x_al0 f_Search_findPlan_53 ?_
  refine x_getIV f_Search_findPlan_54 rfl rfl (Or.inl rfl) (hm) ?_
  refine x_shl1N f_Search_findPlan_57 (by omega) ?_
  refine x_cmp_geN f_Search_findPlan_58 (by omega) (by omega) (fun h => ?_) (fun h => ?_)
  · have e : b = 2 ^ m := by omega
    subst e
    exact hQ M (frM_refl _ _ _) hd
  · have hwl := wbhN_le (k := K r) (mo := mo) (oth := oth) (b := b) hZ m
    refine x_al0 f_Search_findPlan_61 ?_
    refine x_getR f_Search_findPlan_62 rfl rfl ?_
    refine x_il4 f_Search_findPlan_65 ?_
    refine x_aaldN f_Search_findPlan_67 rfl (by omega) (sc_row r (by omega)) ?_
    refine x_il6 f_Search_findPlan_68 ?_
    refine x_al1 f_Search_findPlan_70 ?_
    refine x_il4 f_Search_findPlan_71 ?_
    refine x_al0 f_Search_findPlan_73 ?_
    refine x_al1 f_Search_findPlan_74 ?_
    refine x_il4 f_Search_findPlan_75 ?_
    refine x_il5 f_Search_findPlan_77 ?_
    refine x_il6 f_Search_findPlan_79 ?_
    refine x_cV4i f_Search_findPlan_81 rfl rfl (by decide) (Nat.le_of_ble_eq_true rfl) (Nat.le_of_ble_eq_true rfl) rfl (c_Search_wildBehind (m := m) (by omega) hK hZ hmo ho (by omega) hm4 hm hK2 hZ2 hmo2 ⟨_, rfl, ?_⟩)
    refine x_cS3i f_Search_findPlan_84 (by decide) (Nat.le_of_ble_eq_true rfl) (Nat.le_of_ble_eq_true rfl) rfl (c_Search_scoreOf (by omega) hK hW (by omega) hK2 hW2 ⟨_, rfl, ?_⟩)
    refine x_iastN f_Search_findPlan_87 (sc_sh r (by omega)) (by omega) ?_
    refine x_incN6 f_Search_findPlan_88 rfl ?_
    refine x_goto f_Search_findPlan_91 ?_
    refine l_Search_findPlanB hr hn hm4 hK hW hZ hmo ho _ (b + 1) (by omega) ((stM_ne _ _ (by omega)).trans hm) ((stM_ne _ _ (by omega)).trans hK2) ((stM_ne _ _ (by omega)).trans hW2) ((stM_ne _ _ (by omega)).trans hZ2) ((stM_ne _ _ (by omega)).trans hmo2) (fun j hj => ?_) (fun M1 f1 w1 => hQ M1 (frM_trans (frM_st (frM_refl _ _ _) (by omega) (by omega)) f1) w1)
    rw [stM_def]
    by_cases e : j = b
    · subst e; rw [if_pos ⟨rfl, rfl⟩]
    · rw [if_neg (by omega)]; exact hd j (by omega)
  termination_by 2 ^ m - b
  decreasing_by all_goals omega
theorem l_Search_findPlanA (hn : n ≤ 7) (hg3 : g ≤ 3) (hm1 : 1 ≤ m) (hm4 : m ≤ 4) (hKb : ∀ i, i < n → K i < 10) (hWb : ∀ i, i < n → W i < 100000) (hZb : ∀ i, i < n → Z i ≤ 9) (hAb : ∀ i, i < g → At i < 2 ^ 31) (hmo : mo < 9000) {g0 : Nat} (hg0 : g0 < g) (M0 : mM) (hV : RvC M0 3 n g mo le K F Z Rn W At) (hQ : ∀ M1, SdC M0 M1 m (dfs (plSc n K W Z At g g0 mo m) n 0 m 0 (fun _ => 0) (0, fun _ => 0)) → Q M1 none) (v5 v6 : Value) (hv5 : okst [v5] 1 = true) (M : mM) (r : Nat) (hr : r ≤ n) (hf : frM M0 M 32 43) (h4 : M.1 32 4 = nI n) (h5 : M.1 32 5 = nI m) (h6 : M.1 32 6 = nI 0) (hs : ∀ r2, r2 < r → ∀ b, b < 2 ^ m → M.1 (34 + r2) b = nI (plSc n K W Z At g g0 mo m r2 b)) : wp X (d + 8) n_Search_findPlan Q 21 [.ref 32, .ref 3, .int (nI g0), .int (nI m), .int (nI r), v5, v6] [] M := by
  obtain ⟨w0, w1, w2, w3, w4, w5, w6, w7, w8, w9⟩ := id hV
  have o : ∀ a i, a < 32 → M.1 a i = M0.1 a i := fun a i h => hf.1 a i (by omega)
  refine x_il4 f_Search_findPlan_21 ?_
  refine x_al0 f_Search_findPlan_23 ?_
  refine x_getIV f_Search_findPlan_24 rfl rfl (Or.inl rfl) (h4) ?_
  refine x_cmp_geN f_Search_findPlan_27 (by omega) (by omega) (fun h => ?_) (fun h => ?_)
  · have e : r = n := by omega
    subst e
    refine x_al0 f_Search_findPlan_100 ?_
    obtain ⟨q, hq⟩ : ∃ q, d + 7 = q + m + 3 := ⟨d + 4 - m, by omega⟩
    refine x_cV0v f_Search_findPlan_101 rfl rfl (by decide) (Nat.le_of_ble_eq_true rfl) (Nat.le_of_ble_eq_true rfl) rfl ?_
    rw [hq]
    refine c_Search_find (sc := plSc r K W Z At g g0 mo m) (m := m) (ap := 0) (fun r2 b => plSc_le hZb r2 b) hn hm4 (by omega) ⟨h4, h5, h6, hs⟩ (fun M1 f1 w1 => ⟨rfl, ?_⟩)
    refine x_return f_Search_findPlan_104 rfl ?_
    refine hQ M1 ⟨⟨fun a i ha => (f1.1 a i (by omega) (by omega) (by omega) (by omega)).trans (hf.1 a i ha), f1.2.trans hf.2⟩, (f1.1 _ _ (by omega) (by omega) (by omega) (by omega)).trans h5, w1.2.2.1, w1.2.2.2⟩
  · have hb8 := gb_lt8 (g := g) At r hg3
    have ho8 := offN_lt (b := gbN At r g) (g := g0) hb8
    have hpo := pop_le (offN (gbN At r g) g0) (by omega)
    refine x_al1 f_Search_findPlan_30 ?_
    refine x_il4 f_Search_findPlan_31 ?_
    refine x_cV1i f_Search_findPlan_33 rfl rfl (by decide) (Nat.le_of_ble_eq_true rfl) (Nat.le_of_ble_eq_true rfl) rfl (c_River_governessBits (At := At) (g := g) (Or.inl rfl) (by omega) ((o _ _ (by omega)).trans w1) hg3 (fun i hi => (o _ _ (by omega)).trans (w9 i hi)) hAb ⟨_, rfl, ?_⟩)
    refine x_iconst (v := (nI 1)) f_Search_findPlan_36 rfl ?_
    refine x_il2 f_Search_findPlan_37 ?_
    refine x_shl1N f_Search_findPlan_38 (by omega) ?_
    refine x_iconst (v := (-1)) f_Search_findPlan_39 rfl ?_
    refine x_ixor f_Search_findPlan_40 ?_
    refine x_iand f_Search_findPlan_41 ?_
    rw [offN_eq _ hb8 g0 (by omega)]
    refine x_cS1i f_Search_findPlan_42 (by decide) (Nat.le_of_ble_eq_true rfl) (Nat.le_of_ble_eq_true rfl) rfl (c_Int_bitCount (by omega) ⟨_, rfl, ?_⟩)
    refine x_is5 f_Search_findPlan_45 rfl ?_
    refine x_iconst (v := (nI 0)) f_Search_findPlan_47 rfl ?_
    refine x_is6 f_Search_findPlan_48 rfl ?_
    refine l_Search_findPlanB (K := K) (W := W) (Z := Z) h hn hm4 (hKb r h) (hWb r h) (hZb r h) hmo (by omega) M 0 (Nat.zero_le _) h5 ((o _ _ (by omega)).trans (w4 r h)) ((o _ _ (by omega)).trans (w8 r h)) ((o _ _ (by omega)).trans (w6 r h)) ((o _ _ (by omega)).trans w2) (fun j hj => absurd hj (by omega)) (fun M1 f1 s1 => ?_)
    refine x_incN4 f_Search_findPlan_94 rfl ?_
    refine x_goto f_Search_findPlan_97 ?_
    refine l_Search_findPlanA hn hg3 hm1 hm4 hKb hWb hZb hAb hmo hg0 M0 hV hQ _ _ rfl M1 (r + 1) (by omega) (frM_trans hf (frM_wide f1 (by omega) (by omega))) ((f1.1 _ _ (by omega)).trans h4) ((f1.1 _ _ (by omega)).trans h5) ((f1.1 _ _ (by omega)).trans h6) (fun r2 hr2 b hb => ?_)
    by_cases e : r2 = r
    · subst e
      rw [s1 b hb]
      unfold plSc
      rw [if_pos h]
    · rw [f1.1 _ _ (by omega)]
      exact hs r2 (by omega) b hb
  termination_by n - r
  decreasing_by all_goals omega
theorem c_Search_findPlan {M : mM} (hn : n ≤ 7) (hg3 : g ≤ 3) (hm1 : 1 ≤ m) (hm4 : m ≤ 4) (hKb : ∀ i, i < n → K i < 10) (hWb : ∀ i, i < n → W i < 100000) (hZb : ∀ i, i < n → Z i ≤ 9) (hAb : ∀ i, i < g → At i < 2 ^ 31) (hmo : mo < 9000) {g0 : Nat} (hg0 : g0 < g) (hV : RvC M 3 n g mo le K F Z Rn W At) (hQ : ∀ M1, SdC M M1 m (dfs (plSc n K W Z At g g0 mo m) n 0 m 0 (fun _ => 0) (0, fun _ => 0)) → Q M1 none) : wp X (d + 8) n_Search_findPlan Q 0 [.ref 32, .ref 3, .int (nI g0), .int (nI m), .null, .null, .null] [] M := by
  refine x_al0 f_Search_findPlan_0 ?_
  refine x_al1 f_Search_findPlan_1 ?_
  refine x_getIV f_Search_findPlan_2 rfl rfl (Or.inl rfl) (hV.1) ?_
  refine x_putI f_Search_findPlan_5 rfl rfl ?_
  refine x_al0 f_Search_findPlan_8 ?_
  refine x_il3 f_Search_findPlan_9 ?_
  refine x_putI f_Search_findPlan_10 rfl rfl ?_
  refine x_al0 f_Search_findPlan_13 ?_
  refine x_iconst (v := (nI 0)) f_Search_findPlan_14 rfl ?_
  refine x_putZ f_Search_findPlan_15 rfl rfl (Or.inl rfl) ?_
  refine x_iconst (v := (nI 0)) f_Search_findPlan_18 rfl ?_
  refine x_is4 f_Search_findPlan_19 rfl ?_
  refine l_Search_findPlanA hn hg3 hm1 hm4 hKb hWb hZb hAb hmo hg0 M hV hQ _ _ rfl _ 0 (by omega) (frM_st (frM_st (frM_st (frM_refl _ _ _) (by omega) (by omega)) (by omega) (by omega)) (by omega) (by omega)) ?_ ?_ ?_ (fun r2 hr2 => absurd hr2 (by omega))
  · rw [stM_ne _ _ (by omega), stM_ne _ _ (by omega), stM_at]
  · rw [stM_ne _ _ (by omega), stM_at]
  · rw [stM_at]
theorem l_Search_findPlacesB {r : Nat} (hr : r < n) (hn : n ≤ 7) (hg3 : g ≤ 3) (hK : K r < 10) (hW : W r < 100000) (hZ : Z r ≤ 9) (hmo : mo < 9000) (v4 : Value) (M : mM) (b : Nat) (hb : b ≤ 2 ^ g) (hm : M.1 32 5 = nI g) (hK2 : M.1 4 r = nI (K r)) (hW2 : M.1 8 r = nI (W r)) (hZ2 : M.1 6 r = nI (Z r)) (hmo2 : M.1 3 2 = nI mo) (hd : ∀ j, j < b → M.1 (34 + r) j = nI (scN (K r) (W r) (wafN (K r) (Z r) (mo + 1) (popN j)))) (hQ : ∀ (M1 : mM) (u4 : Value), frM M M1 (34 + r) (34 + r) → (∀ j, j < 2 ^ g → M1.1 (34 + r) j = nI (scN (K r) (W r) (wafN (K r) (Z r) (mo + 1) (popN j)))) → wp X (d + 8) n_Search_findPlaces Q 91 [.ref 32, .ref 3, .int (nI r), .int (nI (2 ^ g)), u4] [] M1) : wp X (d + 8) n_Search_findPlaces Q 33 [.ref 32, .ref 3, .int (nI r), .int (nI b), v4] [] M := by
  have hp16 : 2 ^ g ≤ 2 ^ 3 := Nat.pow_le_pow_right (by omega) hg3
  refine x_il3 f_Search_findPlaces_33 ?_
  refine x_iconst (v := (nI 1)) f_Search_findPlaces_34 rfl ?_
  refine x_al0 f_Search_findPlaces_35 ?_
  refine x_getIV f_Search_findPlaces_36 rfl rfl (Or.inl rfl) (hm) ?_
  refine x_shl1N f_Search_findPlaces_39 (by omega) ?_
  refine x_cmp_geN f_Search_findPlaces_40 (by omega) (by omega) (fun h => ?_) (fun h => ?_)
  · have e : b = 2 ^ g := by omega
    subst e
    exact hQ M _ (frM_refl _ _ _) hd
  · have hpo := pop_le b (by omega)
    have hwl := wafN_le (k := K r) (mo := mo + 1) (c := popN b) hZ
    refine x_al1 f_Search_findPlaces_43 ?_
    refine x_getR f_Search_findPlaces_44 rfl rfl ?_
    refine x_il2 f_Search_findPlaces_47 ?_
    refine x_ialdV f_Search_findPlaces_48 rfl (by omega) (hK2) ?_
    refine x_al1 f_Search_findPlaces_49 ?_
    refine x_getR f_Search_findPlaces_50 rfl rfl ?_
    refine x_il2 f_Search_findPlaces_53 ?_
    refine x_ialdV f_Search_findPlaces_54 rfl (by omega) (hZ2) ?_
    refine x_al1 f_Search_findPlaces_55 ?_
    refine x_getIV f_Search_findPlaces_56 rfl rfl (Or.inl rfl) (hmo2) ?_
    refine x_iconst (v := (nI 1)) f_Search_findPlaces_59 rfl ?_
    first | refine x_iaddN f_Search_findPlaces_60 ?_ | refine x_iadd f_Search_findPlaces_60 ?_
    refine x_il3 f_Search_findPlaces_61 ?_
    refine x_cS1i f_Search_findPlaces_62 (by decide) (Nat.le_of_ble_eq_true rfl) (Nat.le_of_ble_eq_true rfl) rfl (c_Int_bitCount (by omega) ⟨_, rfl, ?_⟩)
    refine x_cS4i f_Search_findPlaces_65 (by decide) (Nat.le_of_ble_eq_true rfl) (Nat.le_of_ble_eq_true rfl) rfl (c_RL_wildAfter hK (by omega) (by omega) (by omega) ⟨_, rfl, ?_⟩)
    refine x_is4 f_Search_findPlaces_68 rfl ?_
    refine x_al0 f_Search_findPlaces_70 ?_
    refine x_getR f_Search_findPlaces_71 rfl rfl ?_
    refine x_il2 f_Search_findPlaces_74 ?_
    refine x_aaldN f_Search_findPlaces_75 rfl (by omega) (sc_row r (by omega)) ?_
    refine x_il3 f_Search_findPlaces_76 ?_
    refine x_al1 f_Search_findPlaces_77 ?_
    refine x_il2 f_Search_findPlaces_78 ?_
    refine x_il4 f_Search_findPlaces_79 ?_
    refine x_cS3i f_Search_findPlaces_81 (by decide) (Nat.le_of_ble_eq_true rfl) (Nat.le_of_ble_eq_true rfl) rfl (c_Search_scoreOf (by omega) hK hW (by omega) hK2 hW2 ⟨_, rfl, ?_⟩)
    refine x_iastN f_Search_findPlaces_84 (sc_sh r (by omega)) (by omega) ?_
    refine x_incN3 f_Search_findPlaces_85 rfl ?_
    refine x_goto f_Search_findPlaces_88 ?_
    refine l_Search_findPlacesB hr hn hg3 hK hW hZ hmo _ _ (b + 1) (by omega) ((stM_ne _ _ (by omega)).trans hm) ((stM_ne _ _ (by omega)).trans hK2) ((stM_ne _ _ (by omega)).trans hW2) ((stM_ne _ _ (by omega)).trans hZ2) ((stM_ne _ _ (by omega)).trans hmo2) (fun j hj => ?_) (fun M1 u4 f1 w1 => hQ M1 u4 (frM_trans (frM_st (frM_refl _ _ _) (by omega) (by omega)) f1) w1)
    rw [stM_def]
    by_cases e : j = b
    · subst e; rw [if_pos ⟨rfl, rfl⟩]
    · rw [if_neg (by omega)]; exact hd j (by omega)
  termination_by 2 ^ g - b
  decreasing_by all_goals omega
theorem l_Search_findPlacesA (hn : n ≤ 7) (hg3 : g ≤ 3) (hKb : ∀ i, i < n → K i < 10) (hWb : ∀ i, i < n → W i < 100000) (hZb : ∀ i, i < n → Z i ≤ 9) (hmo : mo < 9000) (M0 : mM) (hV : RvC M0 3 n g mo le K F Z Rn W At) (hQ : ∀ M1, SdC M0 M1 g (dfs (pcSc n K W Z mo) n 1 g 0 (fun _ => 0) (0, fun _ => 0)) → Q M1 none) (v3 v4 : Value) (hv3 : okst [v3] 1 = true) (M : mM) (r : Nat) (hr : r ≤ n) (hf : frM M0 M 32 43) (h4 : M.1 32 4 = nI n) (h5 : M.1 32 5 = nI g) (h6 : M.1 32 6 = nI 1) (hs : ∀ r2, r2 < r → ∀ b, b < 2 ^ g → M.1 (34 + r2) b = nI (pcSc n K W Z mo r2 b)) : wp X (d + 8) n_Search_findPlaces Q 23 [.ref 32, .ref 3, .int (nI r), v3, v4] [] M := by
  obtain ⟨w0, w1, w2, w3, w4, w5, w6, w7, w8, w9⟩ := id hV
  have o : ∀ a i, a < 32 → M.1 a i = M0.1 a i := fun a i h => hf.1 a i (by omega)
  refine x_il2 f_Search_findPlaces_23 ?_
  refine x_al0 f_Search_findPlaces_24 ?_
  refine x_getIV f_Search_findPlaces_25 rfl rfl (Or.inl rfl) (h4) ?_
  refine x_cmp_geN f_Search_findPlaces_28 (by omega) (by omega) (fun h => ?_) (fun h => ?_)
  · have e : r = n := by omega
    subst e
    refine x_al0 f_Search_findPlaces_97 ?_
    obtain ⟨q, hq⟩ : ∃ q, d + 7 = q + g + 3 := ⟨d + 4 - g, by omega⟩
    refine x_cV0v f_Search_findPlaces_98 rfl rfl (by decide) (Nat.le_of_ble_eq_true rfl) (Nat.le_of_ble_eq_true rfl) rfl ?_
    rw [hq]
    refine c_Search_find (sc := pcSc r K W Z mo) (m := g) (ap := 1) (fun r2 b => pcSc_le hZb r2 b) hn (by omega) (by omega) ⟨h4, h5, h6, hs⟩ (fun M1 f1 w1 => ⟨rfl, ?_⟩)
    refine x_return f_Search_findPlaces_101 rfl ?_
    refine hQ M1 ⟨⟨fun a i ha => (f1.1 a i (by omega) (by omega) (by omega) (by omega)).trans (hf.1 a i ha), f1.2.trans hf.2⟩, (f1.1 _ _ (by omega) (by omega) (by omega) (by omega)).trans h5, w1.2.2.1, w1.2.2.2⟩
  · refine x_iconst (v := (nI 0)) f_Search_findPlaces_31 rfl ?_
    refine x_is3 f_Search_findPlaces_32 rfl ?_
    refine l_Search_findPlacesB (K := K) (W := W) (Z := Z) h hn hg3 (hKb r h) (hWb r h) (hZb r h) hmo _ M 0 (Nat.zero_le _) h5 ((o _ _ (by omega)).trans (w4 r h)) ((o _ _ (by omega)).trans (w8 r h)) ((o _ _ (by omega)).trans (w6 r h)) ((o _ _ (by omega)).trans w2) (fun j hj => absurd hj (by omega)) (fun M1 u4 f1 s1 => ?_)
    refine x_incN2 f_Search_findPlaces_91 rfl ?_
    refine x_goto f_Search_findPlaces_94 ?_
    refine l_Search_findPlacesA hn hg3 hKb hWb hZb hmo M0 hV hQ _ _ rfl M1 (r + 1) (by omega) (frM_trans hf (frM_wide f1 (by omega) (by omega))) ((f1.1 _ _ (by omega)).trans h4) ((f1.1 _ _ (by omega)).trans h5) ((f1.1 _ _ (by omega)).trans h6) (fun r2 hr2 b hb => ?_)
    by_cases e : r2 = r
    · subst e
      rw [s1 b hb]
      unfold pcSc
      rw [if_pos h]
    · rw [f1.1 _ _ (by omega)]
      exact hs r2 (by omega) b hb
  termination_by n - r
  decreasing_by all_goals omega
theorem c_Search_findPlaces {M : mM} (hn : n ≤ 7) (hg3 : g ≤ 3) (hKb : ∀ i, i < n → K i < 10) (hWb : ∀ i, i < n → W i < 100000) (hZb : ∀ i, i < n → Z i ≤ 9) (hmo : mo < 9000) (hV : RvC M 3 n g mo le K F Z Rn W At) (hQ : ∀ M1, SdC M M1 g (dfs (pcSc n K W Z mo) n 1 g 0 (fun _ => 0) (0, fun _ => 0)) → Q M1 none) : wp X (d + 8) n_Search_findPlaces Q 0 [.ref 32, .ref 3, .null, .null, .null] [] M := by
  refine x_al0 f_Search_findPlaces_0 ?_
  refine x_al1 f_Search_findPlaces_1 ?_
  refine x_getIV f_Search_findPlaces_2 rfl rfl (Or.inl rfl) (hV.1) ?_
  refine x_putI f_Search_findPlaces_5 rfl rfl ?_
  refine x_al0 f_Search_findPlaces_8 ?_
  refine x_al1 f_Search_findPlaces_9 ?_
  refine x_getIV f_Search_findPlaces_10 rfl rfl (Or.inl rfl) ((stM_ne _ _ (by omega)).trans hV.2.1) ?_
  refine x_putI f_Search_findPlaces_13 rfl rfl ?_
  refine x_al0 f_Search_findPlaces_16 ?_
  refine x_iconst (v := (nI 1)) f_Search_findPlaces_17 rfl ?_
  refine x_putZ f_Search_findPlaces_18 rfl rfl (Or.inr rfl) ?_
  refine x_iconst (v := (nI 0)) f_Search_findPlaces_21 rfl ?_
  refine x_is2 f_Search_findPlaces_22 rfl ?_
  refine l_Search_findPlacesA hn hg3 hKb hWb hZb hmo M hV hQ _ _ rfl _ 0 (by omega) (frM_st (frM_st (frM_st (frM_refl _ _ _) (by omega) (by omega)) (by omega) (by omega)) (by omega) (by omega)) ?_ ?_ ?_ (fun r2 hr2 => absurd hr2 (by omega))
  · rw [stM_ne _ _ (by omega), stM_ne _ _ (by omega), stM_at]
  · rw [stM_ne _ _ (by omega), stM_at]
  · rw [stM_at]
end
