/-! the class's calls that tell and change -/
theorem nI_lep {y : Int32} {m : Nat} (hm : m + 1 < 2 ^ 31) : y ≤ nI m ↔ ¬ nI (m + 1) ≤ y := by
  rw [Int32.not_le, Int32.le_iff_toInt_le, Int32.lt_iff_toInt_lt, nI_toInt hm, nI_toInt (by omega)]
  omega
theorem hasI_0 {x : Int32} {n : Nat} (h : hasI x n = 0) : x < 0 ∨ nI n ≤ x := by
  unfold hasI at h
  split at h
  · exact Or.inl (by assumption)
  · split at h
    · exact Or.inr (by assumption)
    · omega
theorem Inv_n {s : St} (h : Inv s) : s 1 1 ≤ 7 ∧ s 1 2 ≤ 3 ∧ s 1 3 ≤ 999 := by
  have h1 := h.2.1
  have h2 := h.2.2.2.1.1
  omega
theorem Inv_k {s : St} (h : Inv s) : (∀ i, i < s 1 1 → s 2 i < 10) ∧ (∀ i, i < s 1 1 → s 3 i ≤ 20) ∧ (∀ i, i < s 1 1 → s 4 i ≤ 9) ∧ (∀ i, i < s 1 1 → s 5 i ≤ i) ∧ (∀ i, i < s 1 1 → sW s i < 50000) ∧ (∀ i, i < s 1 2 → s 6 i < s 1 1) := by
  obtain ⟨-, h2, h3, ⟨h4, h5, h6⟩, -⟩ := h
  refine ⟨fun i hi => by have := h5 i hi; omega, fun i hi => by have := h5 i hi; omega, fun i hi => by have := h5 i hi; omega, h3, fun i hi => ?_, h6⟩
  have h1 := wlo_le (K := s 2) (Rn := s 5) (s 1 1) (s 3) 20 (Nat.le_refl _) (fun i hi => by have := h5 i hi; omega) i hi
  have h7 : 2 ^ (s 1 1) ≤ 2 ^ 7 := Nat.pow_le_pow_right (by omega) (by omega)
  have h8 : 2 ^ (s 1 1) * 20 ≤ 2 ^ 7 * 20 := Nat.mul_le_mul_right _ h7
  show wlo (s 2) (s 5) (s 1 1) (s 3) i < 50000
  omega
theorem Inv_sn {s : St} (h : Inv s) : s 1 6 ≤ 6 ∧ ∀ i, i < s 1 6 → s 7 i < 7 ∧ s 8 i ≤ 20 ∧ s 9 i ≤ 1 := by
  have hn := (Inv_n h).1
  obtain ⟨-, -, -, -, ⟨h1, h2⟩, -⟩ := h
  exact ⟨h1, fun i hi => by have := h2 i hi; omega⟩
/-- how wild reach j can be -/
abbrev sWi (s : St) (j : Nat) : Nat := wiN (s 7) (s 8) (s 9) (s 1 6) (s 2 j) (sW s j) j 10
def rchN (s : St) (j w : Nat) : Int32 :=
  if w = 0 then nI (s 2 j) else if w = 1 then nI (s 3 j) else if w = 2 then nI (s 4 j) else if w = 3 then iv (s 5 j) else if w = 4 then nI (sW s j) else if w = 5 then nI (outN (s 2 j) (sW s j)) else if w = 6 then nI (fldN (s 2 j) (sW s j) (s 4 j)) else if w = 7 then nI (gbN (s 6) j (s 1 2)) else if w = 8 then nI (sWi s j) else if w = 9 then iv (rainN (s 2 j) (sW s j) (sWi s j)) else if w = 10 then nI (bgl (sW s) j (wbl (s 5) (j + 1) (2 ^ j)) j) else if w = 11 then nI (popN (wbl (s 5) (j + 1) (2 ^ j))) else nI (srcN (s 5) j (s 1 1))
def rcA (s : St) (x y : Int32) : Int32 := if hasI x (s 1 1) = 0 then -101 else if hasI y 13 = 0 then -102 else rchN s x.toNatClampNeg y.toNatClampNeg
section
variable {X : (Nat → Int32) × Nat} {d : Nat} {Q : mM → Option Value → Prop} {M : mM} {s : St}
theorem c_RL_hasRiver {M : mM} {n : Nat} (hn : n ≤ 7) (h0 : M.1 3 0 = nI n) (hQ : Q M (some (.int (nI (if n = 0 then 0 else 1))))) : wp X (d + 1) n_RL_hasRiver Q 0 [.ref 0] [] M := by
  refine x_al0 f_RL_hasRiver_0 ?_
  refine x_getR f_RL_hasRiver_1 rfl rfl ?_
  refine x_getIV f_RL_hasRiver_4 rfl rfl (Or.inl rfl) (h0) ?_
  refine x_if_leN f_RL_hasRiver_7 (by omega) (fun h => ?_) (fun h => ?_)
  · refine x_iconst (v := (nI 0)) f_RL_hasRiver_14 rfl ?_
    refine x_zreturn f_RL_hasRiver_15 rfl (by decide) ?_
    exact q_eq (if_pos h) hQ
  · refine x_iconst (v := (nI 1)) f_RL_hasRiver_10 rfl ?_
    refine x_goto f_RL_hasRiver_11 ?_
    refine x_zreturn f_RL_hasRiver_15 rfl (by decide) ?_
    exact q_eq (if_neg (by omega)) hQ
theorem c_RL_reachN {j w : Nat} (hI : Inv s) (hR : RelC s M) (hj : j < s 1 1) (hw : w < 13) (hQ : Q M (some (.int (rchN s j w)))) : wp X (d + 5) n_RL_reach Q 0 [.ref 0, .int (nI j), .int (nI w)] [] M := by
  obtain ⟨hn7, hg3, hmo⟩ := Inv_n hI
  obtain ⟨kb, fb, zb, rb, wb, ab⟩ := Inv_k hI
  obtain ⟨sb1, sb2⟩ := Inv_sn hI
  obtain ⟨-, ⟨v0, v1, v2, v3, v4, v5, v6, v7, v8, v9⟩, hS, -⟩ := hR
  have r3 : isRv 3 := Or.inl rfl
  have hzj := zb j hj
  have hwj := wb j hj
  refine x_al0 f_RL_reach_0 ?_
  refine x_getR f_RL_reach_1 rfl rfl ?_
  refine x_il1 f_RL_reach_4 ?_
  refine x_cV1i f_RL_reach_5 rfl rfl (by decide) (Nat.le_of_ble_eq_true rfl) (Nat.le_of_ble_eq_true rfl) rfl (c_River_hasReach r3 v0 ⟨_, rfl, ?_⟩)
  have hh := hasI_nI (j := j) (n := s 1 1) (by omega) (by omega)
  rw [if_pos hj] at hh
  rw [hh]
  refine x_if_neN f_RL_reach_8 (by omega) (fun _ => ?_) (fun h => absurd h (by omega))
  have wb2 : ∀ i, i < s 1 1 → sW s i < 100000 := fun i hi => by have := wb i hi; omega
  rcases (show w = 0 ∨ w = 1 ∨ w = 2 ∨ w = 3 ∨ w = 4 ∨ w = 5 ∨ w = 6 ∨ w = 7 ∨ w = 8 ∨ w = 9 ∨ w = 10 ∨ w = 11 ∨ w = 12 by omega) with rfl | rfl | rfl | rfl | rfl | rfl | rfl | rfl | rfl | rfl | rfl | rfl | rfl
  · refine x_il2 f_RL_reach_14 ?_
    refine x_swIn (t := 80) f_RL_reach_15 (by decide) (by decide) rfl ?_
    refine x_al0 f_RL_reach_80 ?_
    refine x_getR f_RL_reach_81 rfl rfl ?_
    refine x_getR f_RL_reach_84 rfl rfl ?_
    refine x_il1 f_RL_reach_87 ?_
    refine x_ialdV f_RL_reach_88 rfl (by omega) (v4 j hj) ?_
    refine x_ireturn f_RL_reach_89 rfl ?_
    exact hQ
  · refine x_il2 f_RL_reach_14 ?_
    refine x_swIn (t := 90) f_RL_reach_15 (by decide) (by decide) rfl ?_
    refine x_al0 f_RL_reach_90 ?_
    refine x_getR f_RL_reach_91 rfl rfl ?_
    refine x_getR f_RL_reach_94 rfl rfl ?_
    refine x_il1 f_RL_reach_97 ?_
    refine x_ialdV f_RL_reach_98 rfl (by omega) (v5 j hj) ?_
    refine x_ireturn f_RL_reach_99 rfl ?_
    exact hQ
  · refine x_il2 f_RL_reach_14 ?_
    refine x_swIn (t := 100) f_RL_reach_15 (by decide) (by decide) rfl ?_
    refine x_al0 f_RL_reach_100 ?_
    refine x_getR f_RL_reach_101 rfl rfl ?_
    refine x_getR f_RL_reach_104 rfl rfl ?_
    refine x_il1 f_RL_reach_107 ?_
    refine x_ialdV f_RL_reach_108 rfl (by omega) (v6 j hj) ?_
    refine x_ireturn f_RL_reach_109 rfl ?_
    exact hQ
  · refine x_il2 f_RL_reach_14 ?_
    refine x_swIn (t := 110) f_RL_reach_15 (by decide) (by decide) rfl ?_
    refine x_al0 f_RL_reach_110 ?_
    refine x_getR f_RL_reach_111 rfl rfl ?_
    refine x_getR f_RL_reach_114 rfl rfl ?_
    refine x_il1 f_RL_reach_117 ?_
    refine x_ialdV f_RL_reach_118 rfl (by omega) (v7 j hj) ?_
    refine x_ireturn f_RL_reach_119 rfl ?_
    exact hQ
  · refine x_il2 f_RL_reach_14 ?_
    refine x_swIn (t := 120) f_RL_reach_15 (by decide) (by decide) rfl ?_
    refine x_al0 f_RL_reach_120 ?_
    refine x_getR f_RL_reach_121 rfl rfl ?_
    refine x_getR f_RL_reach_124 rfl rfl ?_
    refine x_il1 f_RL_reach_127 ?_
    refine x_ialdV f_RL_reach_128 rfl (by omega) (v8 j hj) ?_
    refine x_ireturn f_RL_reach_129 rfl ?_
    exact hQ
  · refine x_il2 f_RL_reach_14 ?_
    refine x_swIn (t := 130) f_RL_reach_15 (by decide) (by decide) rfl ?_
    refine x_al0 f_RL_reach_130 ?_
    refine x_getR f_RL_reach_131 rfl rfl ?_
    refine x_il1 f_RL_reach_134 ?_
    refine x_cV1i f_RL_reach_135 rfl rfl (by decide) (Nat.le_of_ble_eq_true rfl) (Nat.le_of_ble_eq_true rfl) rfl (c_River_runsOut r3 (by omega) (kb j hj) (by omega) (v4 j hj) (v8 j hj) ⟨_, rfl, ?_⟩)
    refine x_ireturn f_RL_reach_138 rfl ?_
    exact hQ
  · have hl := fldN_le (s 2 j) (sW s j) (s 4 j)
    refine x_il2 f_RL_reach_14 ?_
    refine x_swIn (t := 139) f_RL_reach_15 (by decide) (by decide) rfl ?_
    refine x_al0 f_RL_reach_139 ?_
    refine x_getR f_RL_reach_140 rfl rfl ?_
    refine x_il1 f_RL_reach_143 ?_
    refine x_cV1i f_RL_reach_144 rfl rfl (by decide) (Nat.le_of_ble_eq_true rfl) (Nat.le_of_ble_eq_true rfl) rfl (c_River_floods r3 (by omega) (kb j hj) (by omega) (by omega) (v4 j hj) (v8 j hj) (v6 j hj) ⟨_, rfl, ?_⟩)
    refine x_if_eqN f_RL_reach_147 (by omega) (fun h => ?_) (fun h => ?_)
    · refine x_iconst (v := (nI 0)) f_RL_reach_154 rfl ?_
      refine x_ireturn f_RL_reach_155 rfl ?_
      exact q_eq h hQ
    · refine x_iconst (v := (nI 1)) f_RL_reach_150 rfl ?_
      refine x_goto f_RL_reach_151 ?_
      refine x_ireturn f_RL_reach_155 rfl ?_
      exact q_eq (by omega) hQ
  · refine x_il2 f_RL_reach_14 ?_
    refine x_swIn (t := 156) f_RL_reach_15 (by decide) (by decide) rfl ?_
    refine x_al0 f_RL_reach_156 ?_
    refine x_getR f_RL_reach_157 rfl rfl ?_
    refine x_il1 f_RL_reach_160 ?_
    refine x_cV1i f_RL_reach_161 rfl rfl (by decide) (Nat.le_of_ble_eq_true rfl) (Nat.le_of_ble_eq_true rfl) rfl (c_River_governessBits r3 (by omega) v1 hg3 v9 (fun i hi => by have := ab i hi; omega) ⟨_, rfl, ?_⟩)
    refine x_ireturn f_RL_reach_164 rfl ?_
    exact hQ
  · refine x_il2 f_RL_reach_14 ?_
    refine x_swIn (t := 165) f_RL_reach_15 (by decide) (by decide) rfl ?_
    refine x_al0 f_RL_reach_165 ?_
    refine x_getR f_RL_reach_166 rfl rfl ?_
    refine x_al0 f_RL_reach_169 ?_
    refine x_getR f_RL_reach_170 rfl rfl ?_
    refine x_il1 f_RL_reach_173 ?_
    refine x_cV2i f_RL_reach_174 rfl rfl (by decide) (Nat.le_of_ble_eq_true rfl) (Nat.le_of_ble_eq_true rfl) rfl (c_Seen_wildBits hS sb1 sb2 (by omega) (kb j hj) hwj (v4 j hj) (v8 j hj) ⟨_, rfl, ?_⟩)
    refine x_ireturn f_RL_reach_177 rfl ?_
    exact hQ
  · refine x_il2 f_RL_reach_14 ?_
    refine x_swIn (t := 178) f_RL_reach_15 (by decide) (by decide) rfl ?_
    refine x_al0 f_RL_reach_178 ?_
    refine x_getR f_RL_reach_179 rfl rfl ?_
    refine x_al0 f_RL_reach_182 ?_
    refine x_getR f_RL_reach_183 rfl rfl ?_
    refine x_il1 f_RL_reach_186 ?_
    refine x_cV2i f_RL_reach_187 rfl rfl (by decide) (Nat.le_of_ble_eq_true rfl) (Nat.le_of_ble_eq_true rfl) rfl (c_Seen_tellingRain hS sb1 sb2 (by omega) (kb j hj) hwj (v4 j hj) (v8 j hj) ⟨_, rfl, ?_⟩)
    refine x_ireturn f_RL_reach_190 rfl ?_
    exact hQ
  · refine x_il2 f_RL_reach_14 ?_
    refine x_swIn (t := 191) f_RL_reach_15 (by decide) (by decide) rfl ?_
    refine x_al0 f_RL_reach_191 ?_
    refine x_getR f_RL_reach_192 rfl rfl ?_
    refine x_il1 f_RL_reach_195 ?_
    refine x_cV1i f_RL_reach_196 rfl rfl (by decide) (Nat.le_of_ble_eq_true rfl) (Nat.le_of_ble_eq_true rfl) rfl (c_River_bargeFrom r3 v0 hn7 v7 rb v8 wb2 hj ⟨_, rfl, ?_⟩)
    refine x_ireturn f_RL_reach_199 rfl ?_
    exact hQ
  · refine x_il2 f_RL_reach_14 ?_
    refine x_swIn (t := 200) f_RL_reach_15 (by decide) (by decide) rfl ?_
    refine x_al0 f_RL_reach_200 ?_
    refine x_getR f_RL_reach_201 rfl rfl ?_
    refine x_il1 f_RL_reach_204 ?_
    refine x_cV1i f_RL_reach_205 rfl rfl (by decide) (Nat.le_of_ble_eq_true rfl) (Nat.le_of_ble_eq_true rfl) rfl (c_River_reachesToSea r3 v0 hn7 v7 rb hj ⟨_, rfl, ?_⟩)
    refine x_ireturn f_RL_reach_208 rfl ?_
    exact hQ
  · have hl := srcN_le (s 5) j (s 1 1)
    refine x_il2 f_RL_reach_14 ?_
    refine x_swIn (t := 209) f_RL_reach_15 (by decide) (by decide) rfl ?_
    refine x_al0 f_RL_reach_209 ?_
    refine x_getR f_RL_reach_210 rfl rfl ?_
    refine x_il1 f_RL_reach_213 ?_
    refine x_cV1i f_RL_reach_214 rfl rfl (by decide) (Nat.le_of_ble_eq_true rfl) (Nat.le_of_ble_eq_true rfl) rfl (c_River_isSource r3 (by omega) v0 hn7 v7 (fun i hi => by have := rb i hi; omega) ⟨_, rfl, ?_⟩)
    refine x_if_eqN f_RL_reach_217 (by omega) (fun h => ?_) (fun h => ?_)
    · refine x_iconst (v := (nI 0)) f_RL_reach_224 rfl ?_
      refine x_ireturn f_RL_reach_225 rfl ?_
      exact q_eq h hQ
    · refine x_iconst (v := (nI 1)) f_RL_reach_220 rfl ?_
      refine x_goto f_RL_reach_221 ?_
      refine x_ireturn f_RL_reach_225 rfl ?_
      exact q_eq (by omega) hQ
theorem sw_out {x : Int32} {n : Nat} (hn : 0 < n) (hn2 : n < 2 ^ 31) (h : x < 0 ∨ nI n ≤ x) : x.toInt < 0 ∨ ((n : Int) - 1) < x.toInt := by
  rcases h with h | h
  · exact Or.inl (Int32.lt_iff_toInt_lt.mp h)
  · rw [Int32.le_iff_toInt_le, nI_toInt hn2] at h
    right
    omega
theorem c_RL_reach {x y : Int32} (hI : Inv s) (hR : RelC s M) (hQ : Q M (some (.int (rcA s x y)))) : wp X (d + 5) n_RL_reach Q 0 [.ref 0, .int x, .int y] [] M := by
  have hn7 := (Inv_n hI).1
  by_cases hx : hasI x (s 1 1) = 0
  · refine x_al0 f_RL_reach_0 ?_
    refine x_getR f_RL_reach_1 rfl rfl ?_
    refine x_il1 f_RL_reach_4 ?_
    refine x_cV1i f_RL_reach_5 rfl rfl (by decide) (Nat.le_of_ble_eq_true rfl) (Nat.le_of_ble_eq_true rfl) rfl (c_River_hasReach (Or.inl rfl) hR.2.1.1 ⟨_, rfl, ?_⟩)
    rw [hx]
    refine x_if_neN f_RL_reach_8 (by omega) (fun h => absurd h (by omega)) (fun _ => ?_)
    refine x_bipush (v := (-101)) f_RL_reach_11 rfl ?_
    refine x_ireturn f_RL_reach_13 rfl ?_
    unfold rcA at hQ
    rw [if_pos hx] at hQ
    exact hQ
  · obtain ⟨j, hj, rfl⟩ := hasI_of (by omega) (Nat.pos_of_ne_zero hx)
    unfold rcA at hQ
    rw [if_neg hx] at hQ
    by_cases hy : hasI y 13 = 0
    · rw [if_pos hy] at hQ
      refine x_al0 f_RL_reach_0 ?_
      refine x_getR f_RL_reach_1 rfl rfl ?_
      refine x_il1 f_RL_reach_4 ?_
      refine x_cV1i f_RL_reach_5 rfl rfl (by decide) (Nat.le_of_ble_eq_true rfl) (Nat.le_of_ble_eq_true rfl) rfl (c_River_hasReach (Or.inl rfl) hR.2.1.1 ⟨_, rfl, ?_⟩)
      refine x_if_neN f_RL_reach_8 (by have := hasI_le (nI j) (s 1 1); omega) (fun _ => ?_) (fun h => absurd h hx)
      refine x_il2 f_RL_reach_14 ?_
      refine x_swOut (t := 226) f_RL_reach_15 (sw_out (n := 13) (by omega) (by omega) (hasI_0 hy)) rfl ?_
      refine x_bipush (v := (-102)) f_RL_reach_226 rfl ?_
      refine x_ireturn f_RL_reach_228 rfl ?_
      exact hQ
    · obtain ⟨w, hw, rfl⟩ := hasI_of (by omega) (Nat.pos_of_ne_zero hy)
      rw [if_neg hy, nI_clamp (by omega), nI_clamp (by omega)] at hQ
      exact c_RL_reachN hI hR hj hw hQ
def asN (s : St) (j k : Nat) : Int32 := if k = 0 ∨ k = s 2 j ∨ (k = 1 ∧ brkN (s 2 j) = 1) then nI j else -1
def asA (s : St) (x y : Int32) : Int32 := if hasI x (s 1 1) = 0 then -101 else if hasI y 5 = 0 then -102 else asN s x.toNatClampNeg y.toNatClampNeg
theorem c_RL_as {x y : Int32} (hI : Inv s) (hR : RelC s M) (hQ : Q M (some (.int (asA s x y)))) : wp X (d + 2) n_RL_as Q 0 [.ref 0, .int x, .int y, .null] [] M := by
  have hn7 := (Inv_n hI).1
  obtain ⟨kb, -⟩ := Inv_k hI
  obtain ⟨-, ⟨v0, v1, v2, v3, v4, -⟩, -⟩ := hR
  unfold asA at hQ
  refine x_al0 f_RL_as_0 ?_
  refine x_getR f_RL_as_1 rfl rfl ?_
  refine x_il1 f_RL_as_4 ?_
  refine x_cV1i f_RL_as_5 rfl rfl (by decide) (Nat.le_of_ble_eq_true rfl) (Nat.le_of_ble_eq_true rfl) rfl (c_River_hasReach (Or.inl rfl) v0 ⟨_, rfl, ?_⟩)
  refine x_if_neN f_RL_as_8 (by have := hasI_le x (s 1 1); omega) (fun hx => ?_) (fun hx => ?_)
  · rw [if_neg (by omega)] at hQ
    obtain ⟨j, hj, rfl⟩ := hasI_of (by omega) hx
    have hkj := kb j hj
    refine x_il2 f_RL_as_14 ?_
    refine x_cS1i f_RL_as_15 (by decide) (Nat.le_of_ble_eq_true rfl) (Nat.le_of_ble_eq_true rfl) rfl (c_RL_isKind ⟨_, rfl, ?_⟩)
    refine x_if_neN f_RL_as_18 (by have := hasI_le y 5; omega) (fun hy => ?_) (fun hy => ?_)
    · rw [if_neg (by omega)] at hQ
      obtain ⟨k, hk, rfl⟩ := hasI_of (by omega) hy
      rw [nI_clamp (by omega), nI_clamp (by omega)] at hQ
      have yes : (k = 0 ∨ k = s 2 j ∨ (k = 1 ∧ brkN (s 2 j) = 1)) → wp X (d + 2) n_RL_as Q 61 [.ref 0, .int (nI j), .int (nI k), .null] [] M := by
        intro h
        refine x_iconst (v := (nI 1)) f_RL_as_61 rfl ?_
        refine x_goto f_RL_as_62 ?_
        refine x_is3 f_RL_as_66 rfl ?_
        refine x_il3 f_RL_as_67 ?_
        refine x_if_eqN f_RL_as_68 (by omega) (fun h2 => absurd h2 (by omega)) (fun _ => ?_)
        refine x_il1 f_RL_as_71 ?_
        refine x_goto f_RL_as_72 ?_
        refine x_ireturn f_RL_as_76 rfl ?_
        unfold asN at hQ
        rw [if_pos h] at hQ
        exact hQ
      have no : ¬ (k = 0 ∨ k = s 2 j ∨ (k = 1 ∧ brkN (s 2 j) = 1)) → wp X (d + 2) n_RL_as Q 65 [.ref 0, .int (nI j), .int (nI k), .null] [] M := by
        intro h
        refine x_iconst (v := (nI 0)) f_RL_as_65 rfl ?_
        refine x_is3 f_RL_as_66 rfl ?_
        refine x_il3 f_RL_as_67 ?_
        refine x_if_eqN f_RL_as_68 (by omega) (fun _ => ?_) (fun h2 => absurd h2 (by omega))
        refine x_iconst (v := (-1)) f_RL_as_75 rfl ?_
        refine x_ireturn f_RL_as_76 rfl ?_
        unfold asN at hQ
        rw [if_neg h] at hQ
        exact hQ
      refine x_il2 f_RL_as_24 ?_
      refine x_if_eqN f_RL_as_25 (by omega) (fun h1 => yes (by omega)) (fun h1 => ?_)
      refine x_il2 f_RL_as_28 ?_
      refine x_al0 f_RL_as_29 ?_
      refine x_getR f_RL_as_30 rfl rfl ?_
      refine x_getR f_RL_as_33 rfl rfl ?_
      refine x_il1 f_RL_as_36 ?_
      refine x_ialdV f_RL_as_37 rfl (by omega) (v4 j hj) ?_
      refine x_cmp_eqN f_RL_as_38 (by omega) (by omega) (fun h2 => yes (by omega)) (fun h2 => ?_)
      refine x_il2 f_RL_as_41 ?_
      refine x_iconst (v := (nI 1)) f_RL_as_42 rfl ?_
      refine x_cmp_neN f_RL_as_43 (by omega) (by omega) (fun h3 => no (by omega)) (fun h3 => ?_)
      have hbl := brkN_le (s 2 j)
      refine x_al0 f_RL_as_46 ?_
      refine x_getR f_RL_as_47 rfl rfl ?_
      refine x_getR f_RL_as_50 rfl rfl ?_
      refine x_il1 f_RL_as_53 ?_
      refine x_ialdV f_RL_as_54 rfl (by omega) (v4 j hj) ?_
      refine x_cS1i f_RL_as_55 (by decide) (Nat.le_of_ble_eq_true rfl) (Nat.le_of_ble_eq_true rfl) rfl (c_RL_isBrook hkj ⟨_, rfl, ?_⟩)
      refine x_if_eqN f_RL_as_58 (by omega) (fun h4 => no (by omega)) (fun h4 => yes (by omega))
    · rw [if_pos hy] at hQ
      refine x_bipush (v := (-102)) f_RL_as_21 rfl ?_
      refine x_ireturn f_RL_as_23 rfl ?_
      exact hQ
  · rw [if_pos hx] at hQ
    refine x_bipush (v := (-101)) f_RL_as_11 rfl ?_
    refine x_ireturn f_RL_as_13 rfl ?_
    exact hQ
def gvA (s : St) (x : Int32) : Int32 := if hasI x (s 1 2) = 0 then -101 else nI (s 6 x.toNatClampNeg)
theorem c_RL_governess {x : Int32} (hI : Inv s) (hR : RelC s M) (hQ : Q M (some (.int (gvA s x)))) : wp X (d + 2) n_RL_governess Q 0 [.ref 0, .int x] [] M := by
  have hg3 := (Inv_n hI).2.1
  obtain ⟨-, ⟨v0, v1, v2, v3, v4, v5, v6, v7, v8, v9⟩, -⟩ := hR
  unfold gvA at hQ
  refine x_al0 f_RL_governess_0 ?_
  refine x_getR f_RL_governess_1 rfl rfl ?_
  refine x_il1 f_RL_governess_4 ?_
  refine x_cV1i f_RL_governess_5 rfl rfl (by decide) (Nat.le_of_ble_eq_true rfl) (Nat.le_of_ble_eq_true rfl) rfl (c_River_hasGoverness (Or.inl rfl) v1 ⟨_, rfl, ?_⟩)
  refine x_if_eqN f_RL_governess_8 (by have := hasI_le x (s 1 2); omega) (fun hx => ?_) (fun hx => ?_)
  · rw [if_pos hx] at hQ
    refine x_bipush (v := (-101)) f_RL_governess_23 rfl ?_
    refine x_ireturn f_RL_governess_25 rfl ?_
    exact hQ
  · rw [if_neg (by omega)] at hQ
    obtain ⟨j, hj, rfl⟩ := hasI_of (by omega) hx
    rw [nI_clamp (by omega)] at hQ
    refine x_al0 f_RL_governess_11 ?_
    refine x_getR f_RL_governess_12 rfl rfl ?_
    refine x_getR f_RL_governess_15 rfl rfl ?_
    refine x_il1 f_RL_governess_18 ?_
    refine x_ialdV f_RL_governess_19 rfl (by omega) (v9 j hj) ?_
    refine x_goto f_RL_governess_20 ?_
    refine x_ireturn f_RL_governess_25 rfl ?_
    exact hQ
def sdA (s : St) (x y : Int32) : Int32 := if hasI x (s 1 2) = 0 then -101 else if hasI y (s 1 1) = 0 then -101 else nI (s 6 x.toNatClampNeg)
def sdS (s : St) (x y : Int32) : St := if hasI x (s 1 2) = 0 then s else if hasI y (s 1 1) = 0 then s else sup s 6 (updN (s 6) x.toNatClampNeg y.toNatClampNeg)
theorem Inv_sd {x y : Int32} (h : Inv s) : Inv (sdS s x y) := by
  obtain ⟨hn7, hg3, -⟩ := Inv_n h
  unfold sdS
  split
  · exact h
  · next hx =>
    split
    · exact h
    · next hy =>
      obtain ⟨j, hj, rfl⟩ := hasI_of (by omega) (Nat.pos_of_ne_zero hx)
      obtain ⟨k, hk, rfl⟩ := hasI_of (by omega) (Nat.pos_of_ne_zero hy)
      rw [nI_clamp (by omega), nI_clamp (by omega)]
      obtain ⟨a1, a2, a3, ⟨a4, a5, a6⟩, a7⟩ := h
      refine ⟨a1, a2, a3, ⟨a4, a5, fun i hi => ?_⟩, a7⟩
      show updN (s 6) j k i < s 1 1
      unfold updN
      split
      · exact hk
      · exact a6 i hi
theorem c_RL_send {x y : Int32} (hI : Inv s) (hR : RelC s M) (hQ : ∀ M1, RelC (sdS s x y) M1 → frM M M1 0 54 → Q M1 (some (.int (sdA s x y)))) : wp X (d + 2) n_RL_send Q 0 [.ref 0, .int x, .int y, .null] [] M := by
  obtain ⟨hn7, hg3, -⟩ := Inv_n hI
  obtain ⟨p, ⟨v0, v1, v2, v3, v4, v5, v6, v7, v8, v9⟩, q3, q4, q5, q6⟩ := id hR
  unfold sdA sdS at hQ
  refine x_al0 f_RL_send_0 ?_
  refine x_getR f_RL_send_1 rfl rfl ?_
  refine x_il1 f_RL_send_4 ?_
  refine x_cV1i f_RL_send_5 rfl rfl (by decide) (Nat.le_of_ble_eq_true rfl) (Nat.le_of_ble_eq_true rfl) rfl (c_River_hasGoverness (Or.inl rfl) v1 ⟨_, rfl, ?_⟩)
  refine x_if_eqN f_RL_send_8 (by have := hasI_le x (s 1 2); omega) (fun hx => ?_) (fun hx => ?_)
  · refine x_bipush (v := (-101)) f_RL_send_22 rfl ?_
    refine x_ireturn f_RL_send_24 rfl ?_
    have h := hQ M
    rw [if_pos hx, if_pos hx] at h
    exact h hR (frM_refl _ _ _)
  · refine x_al0 f_RL_send_11 ?_
    refine x_getR f_RL_send_12 rfl rfl ?_
    refine x_il2 f_RL_send_15 ?_
    refine x_cV1i f_RL_send_16 rfl rfl (by decide) (Nat.le_of_ble_eq_true rfl) (Nat.le_of_ble_eq_true rfl) rfl (c_River_hasReach (Or.inl rfl) v0 ⟨_, rfl, ?_⟩)
    refine x_if_neN f_RL_send_19 (by have := hasI_le y (s 1 1); omega) (fun hy => ?_) (fun hy => ?_)
    · rw [if_neg (by omega), if_neg (by omega), if_neg (by omega), if_neg (by omega)] at hQ
      obtain ⟨j, hj, rfl⟩ := hasI_of (by omega) hx
      obtain ⟨k, hk, rfl⟩ := hasI_of (by omega) hy
      rw [nI_clamp (by omega), nI_clamp (by omega)] at hQ
      refine x_al0 f_RL_send_25 ?_
      refine x_getR f_RL_send_26 rfl rfl ?_
      refine x_getR f_RL_send_29 rfl rfl ?_
      refine x_il1 f_RL_send_32 ?_
      refine x_ialdV f_RL_send_33 rfl (by omega) (v9 j hj) ?_
      refine x_is3 f_RL_send_34 rfl ?_
      refine x_al0 f_RL_send_35 ?_
      refine x_getR f_RL_send_36 rfl rfl ?_
      refine x_getR f_RL_send_39 rfl rfl ?_
      refine x_il1 f_RL_send_42 ?_
      refine x_il2 f_RL_send_43 ?_
      refine x_iastN f_RL_send_44 rfl (by omega) ?_
      refine x_il3 f_RL_send_45 ?_
      refine x_ireturn f_RL_send_46 rfl ?_
      refine hQ _ ?_ (frM_st (frM_refl _ _ _) (by omega) (by omega))
      have o : ∀ a i, a ≠ 9 → (stM M 9 j (nI k)).1 a i = M.1 a i := fun a i h => stM_ne _ _ (Or.inl h)
      refine ⟨⟨(o _ _ (by omega)).trans p.1, fun i hi => (o _ _ (by omega)).trans (p.2 i hi)⟩, ⟨(o _ _ (by omega)).trans v0, (o _ _ (by omega)).trans v1, (o _ _ (by omega)).trans v2, (o _ _ (by omega)).trans v3, fun i hi => (o _ _ (by omega)).trans (v4 i hi), fun i hi => (o _ _ (by omega)).trans (v5 i hi), fun i hi => (o _ _ (by omega)).trans (v6 i hi), fun i hi => (o _ _ (by omega)).trans (v7 i hi), fun i hi => (o _ _ (by omega)).trans (v8 i hi), fun i hi => ?_⟩, SnC_fr q3 (fun a i _ _ => o a i (by omega)), ⟨fun i hi => by rw [o _ _ (by omega)]; exact q4.1 i hi, fun i hi => by rw [o _ _ (by omega)]; exact q4.2 i hi⟩, ⟨(o _ _ (by omega)).trans q5.1, (o _ _ (by omega)).trans q5.2⟩, fun hi => ⟨RvC_fr (q6 hi).1 (fun a i _ _ => o a i (by omega)), SnC_fr (q6 hi).2 (fun a i _ _ => o a i (by omega))⟩⟩
      show (stM M 9 j (nI k)).1 9 i = nI (updN (s 6) j k i)
      rw [stM_def]
      unfold updN
      by_cases e : i = j
      · rw [if_pos ⟨rfl, e⟩, if_pos e]
      · rw [if_neg (fun z => e z.2), if_neg e]; exact v9 i hi
    · refine x_bipush (v := (-101)) f_RL_send_22 rfl ?_
      refine x_ireturn f_RL_send_24 rfl ?_
      have h := hQ M
      have hx0 : ¬ hasI x (s 1 2) = 0 := by omega
      rw [if_neg hx0, if_neg hx0, if_pos hy, if_pos hy] at h
      exact h hR (frM_refl _ _ _)
end
