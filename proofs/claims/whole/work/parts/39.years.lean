/-! years: seeds, draws -/
def nL (n : Nat) : Int64 := Int64.ofNat n
theorem nL_i2l {v : Nat} (h : v < 2 ^ 31) : (nI v).toInt64 = nL v := by
  refine Int64.toInt_inj.mp ?_
  rw [Int32.toInt_toInt64, nI_toInt h]
  exact (Int64.toInt_ofNat_of_lt (by omega)).symm
theorem nL_l2i (v : Nat) : (nL v).toInt32 = nI v := Int64.toInt32_ofNat'
theorem nL_rem {a b : Nat} (ha : a < 2 ^ 63) (hb : b < 2 ^ 63) : nL a - nL a / nL b * nL b = nL (a % b) := by
  have h1 : nL a / nL b = nL (a / b) := (Int64.ofNat_div ha hb).symm
  have h2 : nL (a / b) * nL b = nL (a / b * b) := (Int64.ofNat_mul _ _).symm
  have h3 : nL a - nL (a / b * b) = nL (a - a / b * b) := (Int64.ofNat_sub _ _ (Nat.div_mul_le_self a b)).symm
  rw [h1, h2, h3, Nat.mod_eq_sub_div_mul]
def nsN (v : Nat) : Nat := (1103515245 * v + 12345) % 2147483648
def drN (v n : Nat) : Nat := v / 65536 % n
theorem nsN_lt (v : Nat) : nsN v < 2 ^ 31 := Nat.mod_lt _ (by omega)
section
variable {X : (Nat → Int32) × Nat} {d : Nat} {Q : mM → Option Value → Prop} {M : mM} {s : St}
theorem c_RL_nextSeed {M : mM} {v : Nat} (hv : v < 2 ^ 31) (hQ : Q M (some (.long (nL (nsN v))))) : wp X (d + 1) n_RL_nextSeed Q 0 [.long (nL v), .null] [] M := by
  refine x_ldc2 (v := 1103515245) f_RL_nextSeed_0 (by decide) ?_
  refine x_ll0 f_RL_nextSeed_3 ?_
  refine x_lmul f_RL_nextSeed_4 ?_
  refine x_ldc2 (v := 12345) f_RL_nextSeed_5 (by decide) ?_
  refine x_ladd f_RL_nextSeed_8 ?_
  refine x_ldc2 (v := 2147483648) f_RL_nextSeed_9 (by decide) ?_
  refine x_lrem f_RL_nextSeed_12 (by decide) ?_
  refine x_lreturn f_RL_nextSeed_13 rfl ?_
  have e1 : (1103515245 : Int64) * nL v = nL (1103515245 * v) := (Int64.ofNat_mul _ _).symm
  have e2 : nL (1103515245 * v) + 12345 = nL (1103515245 * v + 12345) := (Int64.ofNat_add _ _).symm
  have e3 := nL_rem (a := 1103515245 * v + 12345) (b := 2147483648) (by omega) (by omega)
  rw [e1, e2]
  exact (congrArg (fun z => Q M (some (.long z))) e3).mpr hQ
theorem c_RL_drawn {M : mM} {v n : Nat} (hv : v < 2 ^ 31) (hn0 : 0 < n) (hn : n ≤ 7) (hQ : Q M (some (.int (nI (drN v n))))) : wp X (d + 1) n_RL_drawn Q 0 [.long (nL v), .null, .int (nI n)] [] M := by
  refine x_il2 f_RL_drawn_0 ?_
  refine x_if_leN f_RL_drawn_1 (by omega) (fun h => absurd h (by omega)) (fun _ => ?_)
  have e0 : (nI n).toInt64 = nL n := nL_i2l (by omega)
  have en : ¬ nL n = 0 := fun z => by
    have h := congrArg Int64.toInt z
    rw [show (nL n).toInt = (n : Int) from Int64.toInt_ofNat_of_lt (by omega)] at h
    have h : (n : Int) = 0 := h
    omega
  refine x_ll0 f_RL_drawn_4 ?_
  refine x_ldc2 (v := 65536) f_RL_drawn_5 (by decide) ?_
  refine x_ldiv f_RL_drawn_8 (by decide) ?_
  refine x_il2 f_RL_drawn_9 ?_
  refine x_i2l f_RL_drawn_10 ?_
  rw [e0]
  refine x_lrem f_RL_drawn_11 en ?_
  have e1 : nL v / 65536 = nL (v / 65536) := (Int64.ofNat_div (a := v) (b := 65536) (by omega) (by omega)).symm
  rw [e1, nL_rem (by omega) (by omega)]
  refine x_l2i f_RL_drawn_12 ?_
  refine x_goto f_RL_drawn_13 ?_
  refine x_ireturn f_RL_drawn_17 rfl ?_
  rw [nL_l2i]
  exact hQ
/-- after i months: the seed, the floods, the flows, the wild -/
def yrN (s : St) (v0 : Nat) : Nat → Nat × Nat × (Nat → Nat) × (Nat → Nat)
  | 0 => (v0, 0, s 3, s 4)
  | i + 1 =>
    let y := yrN s v0 i
    let v1 := nsN y.1
    let v2 := nsN v1
    let F := fun i => if i = drN v2 (s 1 1) then (if 9 < y.2.2.1 (drN v2 (s 1 1)) + 1 then 9 else y.2.2.1 (drN v2 (s 1 1)) + 1) else y.2.2.1 i
    let Z := pmN (s 2) y.2.2.2 (updN (s 6) 0 (drN v1 (s 1 1))) (s 1 2) (s 1 3 + i + 1)
    (v2, y.2.1 + fcN (s 2) (wat (s 1 1) (s 2) F (s 5)) Z (s 1 1), F, Z)
theorem yrN_ok (hI : Inv s) {v0 : Nat} (hv : v0 < 2 ^ 31) : ∀ i, (yrN s v0 i).1 < 2 ^ 31 ∧ (∀ j, j < s 1 1 → (yrN s v0 i).2.2.1 j ≤ 9) ∧ ∀ j, j < s 1 1 → (yrN s v0 i).2.2.2 j ≤ 9
  | 0 => ⟨hv, fun j hj => (hI.2.2.2.1.2.1 j hj).2.1, fun j hj => (hI.2.2.2.1.2.1 j hj).2.2⟩
  | i + 1 => by
    obtain ⟨h1, h2, h3⟩ := yrN_ok hI hv i
    refine ⟨nsN_lt _, fun j hj => ?_, fun j hj => wafN_le (h3 j hj)⟩
    have h4 := h2 j hj
    show (if j = drN (nsN (nsN (yrN s v0 i).1)) (s 1 1) then (if 9 < (yrN s v0 i).2.2.1 (drN (nsN (nsN (yrN s v0 i).1)) (s 1 1)) + 1 then 9 else (yrN s v0 i).2.2.1 (drN (nsN (nsN (yrN s v0 i).1)) (s 1 1)) + 1) else (yrN s v0 i).2.2.1 j) ≤ 9
    (repeat' split) <;> omega
def yrA (s : St) (m x y : Int32) : Int32 := if m < nI 1 then -102 else if nI 60 < m then -102 else if x < 0 then -102 else if hasI y 3 = 0 then -102 else if s 1 1 = 0 then -103 else
  if y = 0 then nI (yrN s x.toNatClampNeg m.toNatClampNeg).2.1 else if y = nI 1 then nI (sumN (yrN s x.toNatClampNeg m.toNatClampNeg).2.2.2 (s 1 1)) else nI (yrN s x.toNatClampNeg m.toNatClampNeg).1
theorem l_RL_years {m v0 : Nat} {xs xy : Int32} (hm : m ≤ 60) (hv0 : v0 < 2 ^ 31) (hI : Inv s) (hn0 : 0 < s 1 1) (M0 : mM) (hQ : ∀ M1, frM M0 M1 17 23 → M1.1 17 0 = nI (s 1 1) → (∀ i, i < s 1 1 → M1.1 20 i = nI ((yrN s v0 m).2.2.2 i)) → wp X (d + 5) n_RL_years Q 143 [.ref 0, .int (nI m), .int xs, .int xy, .long (nL (yrN s v0 m).1), .null, .int (nI (yrN s v0 m).2.1), .int (nI m)] [] M1) (M : mM) (i le : Nat) (hi : i ≤ m) (hf : frM M0 M 17 23) (h0 : M.1 17 0 = nI (s 1 1)) (h1 : M.1 17 1 = nI (s 1 2)) (h2 : M.1 17 2 = nI (s 1 3 + i)) (h3 : M.1 17 3 = nI le) (hK : ∀ j, j < s 1 1 → M.1 18 j = nI (s 2 j)) (hF : ∀ j, j < s 1 1 → M.1 19 j = nI ((yrN s v0 i).2.2.1 j)) (hZ : ∀ j, j < s 1 1 → M.1 20 j = nI ((yrN s v0 i).2.2.2 j)) (hR : ∀ j, j < s 1 1 → M.1 21 j = iv (s 5 j)) (ha : ∀ j, 1 ≤ j → j < s 1 2 → M.1 23 j = nI (s 6 j)) : wp X (d + 5) n_RL_years Q 58 [.ref 0, .int (nI m), .int xs, .int xy, .long (nL (yrN s v0 i).1), .null, .int (nI (yrN s v0 i).2.1), .int (nI i)] [] M := by
  obtain ⟨hn7, hg3, hmo⟩ := Inv_n hI
  obtain ⟨kb, fb, zb, rb, wb, ab⟩ := Inv_k hI
  obtain ⟨y1, y2, y3⟩ := yrN_ok hI hv0 i
  obtain ⟨z1, z2, z3⟩ := yrN_ok hI hv0 (i + 1)
  refine x_il7 f_RL_years_58 ?_
  refine x_il1 f_RL_years_60 ?_
  refine x_cmp_geN f_RL_years_61 (by omega) (by omega) (fun hge => ?_) (fun hlt => ?_)
  · have e : i = m := by omega
    subst e
    exact hQ M hf h0 hZ
  · have r17 : isRv 17 := Or.inr (Or.inr rfl)
    have l1 : drN (nsN (yrN s v0 i).1) (s 1 1) < s 1 1 := Nat.mod_lt _ hn0
    have l2 : drN (nsN (nsN (yrN s v0 i).1)) (s 1 1) < s 1 1 := Nat.mod_lt _ hn0
    refine x_ll4 f_RL_years_64 ?_
    refine x_cS1l f_RL_years_66 (by decide) (Nat.le_of_ble_eq_true rfl) (Nat.le_of_ble_eq_true rfl) rfl (c_RL_nextSeed y1 ⟨_, rfl, ?_⟩)
    refine x_ls4 f_RL_years_69 rfl ?_
    refine x_al0 f_RL_years_71 ?_
    refine x_getR f_RL_years_72 rfl rfl ?_
    refine x_getR f_RL_years_75 rfl rfl ?_
    refine x_iconst (v := (nI 0)) f_RL_years_78 rfl ?_
    refine x_ll4 f_RL_years_79 ?_
    refine x_al0 f_RL_years_81 ?_
    refine x_getR f_RL_years_82 rfl rfl ?_
    refine x_getIV f_RL_years_85 rfl rfl (Or.inl rfl) (h0) ?_
    refine x_cS2i f_RL_years_88 (by decide) (Nat.le_of_ble_eq_true rfl) (Nat.le_of_ble_eq_true rfl) rfl (c_RL_drawn (nsN_lt _) hn0 hn7 ⟨_, rfl, ?_⟩)
    refine x_iastN f_RL_years_91 rfl (by omega) ?_
    have o1 : ∀ a j, (a ≠ 23 ∨ j ≠ 0) → (stM M 23 0 (nI (drN (nsN (yrN s v0 i).1) (s 1 1)))).1 a j = M.1 a j := fun a j h => stM_ne _ _ h
    have a1 : ∀ j, j < s 1 2 → (stM M 23 0 (nI (drN (nsN (yrN s v0 i).1) (s 1 1)))).1 23 j = nI (updN (s 6) 0 (drN (nsN (yrN s v0 i).1) (s 1 1)) j) := fun j hj => by
      unfold updN
      by_cases e : j = 0
      · rw [if_pos e, e, stM_at]
      · rw [if_neg e, o1 _ _ (by omega)]; exact ha j (by omega) hj
    have ab1 : ∀ j, j < s 1 2 → updN (s 6) 0 (drN (nsN (yrN s v0 i).1) (s 1 1)) j < 2 ^ 31 := fun j hj => by
      have := ab j hj
      unfold updN
      split <;> omega
    have q1 : (stM M 23 0 (nI (drN (nsN (yrN s v0 i).1) (s 1 1)))).2 = M.2 := rfl
    generalize (stM M 23 0 (nI (drN (nsN (yrN s v0 i).1) (s 1 1)))) = M1 at o1 a1 q1
    have f1 : frM M M1 17 23 := ⟨fun a j h => o1 a j (by omega), q1⟩
    refine x_ll4 f_RL_years_92 ?_
    refine x_cS1l f_RL_years_94 (by decide) (Nat.le_of_ble_eq_true rfl) (Nat.le_of_ble_eq_true rfl) rfl (c_RL_nextSeed (nsN_lt _) ⟨_, rfl, ?_⟩)
    refine x_ls4 f_RL_years_97 rfl ?_
    refine x_al0 f_RL_years_99 ?_
    refine x_getR f_RL_years_100 rfl rfl ?_
    refine x_ll4 f_RL_years_103 ?_
    refine x_al0 f_RL_years_105 ?_
    refine x_getR f_RL_years_106 rfl rfl ?_
    refine x_getIV f_RL_years_109 rfl rfl (Or.inl rfl) ((o1 _ _ (by omega)).trans h0) ?_
    refine x_cS2i f_RL_years_112 (by decide) (Nat.le_of_ble_eq_true rfl) (Nat.le_of_ble_eq_true rfl) rfl (c_RL_drawn (nsN_lt _) hn0 hn7 ⟨_, rfl, ?_⟩)
    refine x_cV1v f_RL_years_115 rfl rfl (by decide) (Nat.le_of_ble_eq_true rfl) (Nat.le_of_ble_eq_true rfl) rfl (c_River_rainOneMore (r := 17) r17 ((o1 _ _ (by omega)).trans h0) hn7 (fun j hj => (o1 _ _ (by omega)).trans (hK j hj)) kb (fun j hj => (o1 _ _ (by omega)).trans (hF j hj)) y2 (fun j hj => (o1 _ _ (by omega)).trans (hR j hj)) rb l2 ⟨rfl, ?_⟩)
    have o2 : ∀ a j, a ≠ 19 → a ≠ 22 → (wrM (stM M1 (17 + 2) (drN (nsN (nsN (yrN s v0 i).1)) (s 1 1)) (nI (if 9 < (yrN s v0 i).2.2.1 (drN (nsN (nsN (yrN s v0 i).1)) (s 1 1)) + 1 then 9 else (yrN s v0 i).2.2.1 (drN (nsN (nsN (yrN s v0 i).1)) (s 1 1)) + 1))) (17 + 5) (s 1 1) (wat (s 1 1) (s 2) (yrN s v0 (i + 1)).2.2.1 (s 5))).1 a j = M1.1 a j := fun a j p1 p2 => (wrM_o (by omega)).trans (stM_ne _ _ (by omega))
    have F2 : ∀ j, j < s 1 1 → (wrM (stM M1 (17 + 2) (drN (nsN (nsN (yrN s v0 i).1)) (s 1 1)) (nI (if 9 < (yrN s v0 i).2.2.1 (drN (nsN (nsN (yrN s v0 i).1)) (s 1 1)) + 1 then 9 else (yrN s v0 i).2.2.1 (drN (nsN (nsN (yrN s v0 i).1)) (s 1 1)) + 1))) (17 + 5) (s 1 1) (wat (s 1 1) (s 2) (yrN s v0 (i + 1)).2.2.1 (s 5))).1 19 j = nI ((yrN s v0 (i + 1)).2.2.1 j) := fun j hj => by
      rw [wrM_o (by omega), stM_def]
      show _ = nI (if j = drN (nsN (nsN (yrN s v0 i).1)) (s 1 1) then (if 9 < (yrN s v0 i).2.2.1 (drN (nsN (nsN (yrN s v0 i).1)) (s 1 1)) + 1 then 9 else (yrN s v0 i).2.2.1 (drN (nsN (nsN (yrN s v0 i).1)) (s 1 1)) + 1) else (yrN s v0 i).2.2.1 j)
      by_cases e : j = drN (nsN (nsN (yrN s v0 i).1)) (s 1 1)
      · rw [if_pos ⟨rfl, e⟩, if_pos e]
      · rw [if_neg (fun z => e z.2), if_neg e, o1 _ _ (by omega)]; exact hF j hj
    have W2 : ∀ j, j < s 1 1 → (wrM (stM M1 (17 + 2) (drN (nsN (nsN (yrN s v0 i).1)) (s 1 1)) (nI (if 9 < (yrN s v0 i).2.2.1 (drN (nsN (nsN (yrN s v0 i).1)) (s 1 1)) + 1 then 9 else (yrN s v0 i).2.2.1 (drN (nsN (nsN (yrN s v0 i).1)) (s 1 1)) + 1))) (17 + 5) (s 1 1) (wat (s 1 1) (s 2) (yrN s v0 (i + 1)).2.2.1 (s 5))).1 22 j = nI (wat (s 1 1) (s 2) (yrN s v0 (i + 1)).2.2.1 (s 5) j) := fun j hj => wrM_at hj
    have q2 : (wrM (stM M1 (17 + 2) (drN (nsN (nsN (yrN s v0 i).1)) (s 1 1)) (nI (if 9 < (yrN s v0 i).2.2.1 (drN (nsN (nsN (yrN s v0 i).1)) (s 1 1)) + 1 then 9 else (yrN s v0 i).2.2.1 (drN (nsN (nsN (yrN s v0 i).1)) (s 1 1)) + 1))) (17 + 5) (s 1 1) (wat (s 1 1) (s 2) (yrN s v0 (i + 1)).2.2.1 (s 5))).2 = M1.2 := rfl
    change wp X (d + 5) n_RL_years Q 118 _ _ (wrM (stM M1 (17 + 2) (drN (nsN (nsN (yrN s v0 i).1)) (s 1 1)) (nI (if 9 < (yrN s v0 i).2.2.1 (drN (nsN (nsN (yrN s v0 i).1)) (s 1 1)) + 1 then 9 else (yrN s v0 i).2.2.1 (drN (nsN (nsN (yrN s v0 i).1)) (s 1 1)) + 1))) (17 + 5) (s 1 1) (wat (s 1 1) (s 2) (yrN s v0 (i + 1)).2.2.1 (s 5)))
    generalize (wrM (stM M1 (17 + 2) (drN (nsN (nsN (yrN s v0 i).1)) (s 1 1)) (nI (if 9 < (yrN s v0 i).2.2.1 (drN (nsN (nsN (yrN s v0 i).1)) (s 1 1)) + 1 then 9 else (yrN s v0 i).2.2.1 (drN (nsN (nsN (yrN s v0 i).1)) (s 1 1)) + 1))) (17 + 5) (s 1 1) (wat (s 1 1) (s 2) (yrN s v0 (i + 1)).2.2.1 (s 5))) = M2 at o2 F2 W2 q2
    have o12 : ∀ a j, a ≠ 19 → a ≠ 22 → (a ≠ 23 ∨ j ≠ 0) → M2.1 a j = M.1 a j := fun a j p1 p2 p3 => (o2 a j p1 p2).trans (o1 a j p3)
    refine x_al0 f_RL_years_118 ?_
    refine x_getR f_RL_years_119 rfl rfl ?_
    refine x_cV0v f_RL_years_122 rfl rfl (by decide) (Nat.le_of_ble_eq_true rfl) (Nat.le_of_ble_eq_true rfl) rfl (c_River_passMonth (r := 17) r17 (mo := s 1 3 + i) (le := le) (by omega) ((o12 _ _ (by omega) (by omega) (by omega)).trans h0) hn7 ((o12 _ _ (by omega) (by omega) (by omega)).trans h1) hg3 ((o12 _ _ (by omega) (by omega) (by omega)).trans h2) ((o12 _ _ (by omega) (by omega) (by omega)).trans h3) (fun j hj => (o12 _ _ (by omega) (by omega) (by omega)).trans (hK j hj)) kb (fun j hj => (o12 _ _ (by omega) (by omega) (by omega)).trans (hZ j hj)) (fun j hj => by have := y3 j hj; omega) (fun j hj => (o2 _ _ (by omega) (by omega)).trans (a1 j hj)) ab1 ⟨rfl, ?_⟩)
    have o3 : ∀ a j, a ≠ 20 → (a ≠ 17 ∨ j < 2) → (wrM (stM (stM M2 17 2 (nI (s 1 3 + i + 1))) 17 3 (nI (le + s 1 2))) (17 + 3) (s 1 1) (yrN s v0 (i + 1)).2.2.2).1 a j = M2.1 a j := fun a j p1 p2 => by rw [wrM_o (by omega), stM_ne _ _ (by omega), stM_ne _ _ (by omega)]
    have t2 : (wrM (stM (stM M2 17 2 (nI (s 1 3 + i + 1))) 17 3 (nI (le + s 1 2))) (17 + 3) (s 1 1) (yrN s v0 (i + 1)).2.2.2).1 17 2 = nI (s 1 3 + (i + 1)) := by rw [wrM_o (by omega), stM_ne _ _ (by omega), stM_at, Nat.add_assoc]
    have t3 : (wrM (stM (stM M2 17 2 (nI (s 1 3 + i + 1))) 17 3 (nI (le + s 1 2))) (17 + 3) (s 1 1) (yrN s v0 (i + 1)).2.2.2).1 17 3 = nI (le + s 1 2) := by rw [wrM_o (by omega), stM_at]
    have Z3 : ∀ j, j < s 1 1 → (wrM (stM (stM M2 17 2 (nI (s 1 3 + i + 1))) 17 3 (nI (le + s 1 2))) (17 + 3) (s 1 1) (yrN s v0 (i + 1)).2.2.2).1 20 j = nI ((yrN s v0 (i + 1)).2.2.2 j) := fun j hj => wrM_at hj
    have q3 : (wrM (stM (stM M2 17 2 (nI (s 1 3 + i + 1))) 17 3 (nI (le + s 1 2))) (17 + 3) (s 1 1) (yrN s v0 (i + 1)).2.2.2).2 = M2.2 := rfl
    change wp X (d + 5) n_RL_years Q 125 _ _ (wrM (stM (stM M2 17 2 (nI (s 1 3 + i + 1))) 17 3 (nI (le + s 1 2))) (17 + 3) (s 1 1) (yrN s v0 (i + 1)).2.2.2)
    generalize (wrM (stM (stM M2 17 2 (nI (s 1 3 + i + 1))) 17 3 (nI (le + s 1 2))) (17 + 3) (s 1 1) (yrN s v0 (i + 1)).2.2.2) = M3 at o3 t2 t3 Z3 q3
    have o13 : ∀ a j, a ≠ 19 → a ≠ 22 → a ≠ 20 → (a ≠ 23 ∨ j ≠ 0) → (a ≠ 17 ∨ j < 2) → M3.1 a j = M.1 a j := fun a j p1 p2 p3 p4 p5 => (o3 a j p3 p5).trans (o12 a j p1 p2 p4)
    refine x_il6 f_RL_years_125 ?_
    refine x_al0 f_RL_years_127 ?_
    refine x_getR f_RL_years_128 rfl rfl ?_
    refine x_cV0i f_RL_years_131 rfl rfl (by decide) (Nat.le_of_ble_eq_true rfl) (Nat.le_of_ble_eq_true rfl) rfl (c_River_floodCount (r := 17) r17 ((o13 _ _ (by omega) (by omega) (by omega) (by omega) (by omega)).trans h0) hn7 (fun j hj => (o13 _ _ (by omega) (by omega) (by omega) (by omega) (by omega)).trans (hK j hj)) kb (fun j hj => (o3 _ _ (by omega) (by omega)).trans (W2 j hj)) (wat_le hn7 (fun j hj => by have := z2 j hj; omega)) Z3 (fun j hj => by have := z3 j hj; omega) ⟨_, rfl, ?_⟩)
    first | refine x_iaddN f_RL_years_134 ?_ | refine x_iadd f_RL_years_134 ?_
    refine x_is6 f_RL_years_135 rfl ?_
    refine x_incN7 f_RL_years_137 rfl ?_
    refine x_goto f_RL_years_140 ?_
    exact l_RL_years hm hv0 hI hn0 M0 hQ M3 (i + 1) (le + s 1 2) (by omega) (frM_trans hf ⟨fun a j p => o13 a j (by omega) (by omega) (by omega) (by omega) (by omega), q3.trans (q2.trans q1)⟩) ((o13 _ _ (by omega) (by omega) (by omega) (by omega) (by omega)).trans h0) ((o13 _ _ (by omega) (by omega) (by omega) (by omega) (by omega)).trans h1) t2 t3 (fun j hj => (o13 _ _ (by omega) (by omega) (by omega) (by omega) (by omega)).trans (hK j hj)) (fun j hj => (o3 _ _ (by omega) (by omega)).trans (F2 j hj)) Z3 (fun j hj => (o13 _ _ (by omega) (by omega) (by omega) (by omega) (by omega)).trans (hR j hj)) (fun j j1 hj => (o13 _ _ (by omega) (by omega) (by omega) (by omega) (by omega)).trans (ha j j1 hj))
termination_by m - i
decreasing_by all_goals omega
theorem nI_backm {x : Int32} {m : Nat} (hm : m < 126) (h : ¬ x < nI 1) (h2 : ¬ nI m < x) : ∃ c, 1 ≤ c ∧ c ≤ m ∧ x = nI c := by
  have h3 : nI m < nI 126 := by rw [Int32.lt_iff_toInt_lt, nI_toInt (by omega), nI_toInt (by omega)]; omega
  obtain ⟨c, c1, c2, rfl⟩ := nI_back h (fun z => h2 (Int32.lt_trans h3 z))
  refine ⟨c, c1, ?_, rfl⟩
  rw [Int32.lt_iff_toInt_lt, nI_toInt (by omega), nI_toInt (by omega)] at h2
  omega
theorem nI_nonneg {x : Int32} (h : ¬ x < 0) : ∃ v, v < 2 ^ 31 ∧ x = nI v := by
  have h1 : 0 ≤ x.toInt := by
    have h2 := Int32.le_iff_toInt_le.mp (Int32.not_lt.mp h)
    exact h2
  have h2 := x.toInt_lt
  refine ⟨x.toInt.toNat, by omega, Int32.toInt_inj.mp ?_⟩
  rw [nI_toInt (by omega)]
  omega
theorem c_RL_years {m x y : Int32} (hI : Inv s) (hR : RelC s M) (hQ : ∀ M1, RelC s M1 → frM M M1 0 54 → Q M1 (some (.int (yrA s m x y)))) : wp X (d + 5) n_RL_years Q 0 [.ref 0, .int m, .int x, .int y, .null, .null, .null, .null] [] M := by
  obtain ⟨hn7, hg3, hmo⟩ := Inv_n hI
  unfold yrA at hQ
  have out : (∀ M1, RelC s M1 → frM M M1 0 54 → Q M1 (some (.int (-102)))) → wp X (d + 5) n_RL_years Q 24 [.ref 0, .int m, .int x, .int y, .null, .null, .null, .null] [] M := by
    intro h
    refine x_bipush (v := (-102)) f_RL_years_24 rfl ?_
    refine x_ireturn f_RL_years_26 rfl ?_
    exact h M hR (frM_refl _ _ _)
  refine x_il1 f_RL_years_0 ?_
  refine x_iconst (v := (nI 1)) f_RL_years_1 rfl ?_
  refine x_cmp_lt f_RL_years_2 (fun h1 => out (by rw [if_pos h1] at hQ; exact hQ)) (fun h1 => ?_)
  rw [if_neg h1] at hQ
  refine x_il1 f_RL_years_5 ?_
  refine x_bipush (v := (nI 60)) f_RL_years_6 rfl ?_
  refine x_cmp_gt f_RL_years_8 (fun h2 => out (by rw [if_pos h2] at hQ; exact hQ)) (fun h2 => ?_)
  rw [if_neg h2] at hQ
  refine x_il2 f_RL_years_11 ?_
  refine x_if_lt f_RL_years_12 (fun h3 => out (by rw [if_pos h3] at hQ; exact hQ)) (fun h3 => ?_)
  rw [if_neg h3] at hQ
  refine x_il3 f_RL_years_15 ?_
  refine x_if_lt f_RL_years_16 (fun h4 => out (by rw [if_pos (by unfold hasI; rw [if_pos h4])] at hQ; exact hQ)) (fun h4 => ?_)
  refine x_il3 f_RL_years_19 ?_
  refine x_iconst (v := (nI 2)) f_RL_years_20 rfl ?_
  refine x_cmp_le f_RL_years_21 (fun h5 => ?_) (fun h5 => out (by rw [if_pos (by unfold hasI; rw [if_neg h4, if_pos (Decidable.not_not.mp (fun z => h5 ((nI_lep (by omega)).mpr z)))])] at hQ; exact hQ))
  have hy : hasI y 3 = 1 := by unfold hasI; rw [if_neg h4, if_neg ((nI_lep (by omega)).mp h5)]
  rw [if_neg (by omega)] at hQ
  refine x_al0 f_RL_years_27 ?_
  refine x_cV0i f_RL_years_28 rfl rfl (by decide) (Nat.le_of_ble_eq_true rfl) (Nat.le_of_ble_eq_true rfl) rfl (c_RL_hasRiver hn7 hR.2.1.1 ⟨_, rfl, ?_⟩)
  by_cases h0 : s 1 1 = 0
  · rw [if_pos h0] at hQ ⊢
    refine x_if_neN f_RL_years_31 (by omega) (fun h => absurd h (by omega)) (fun _ => ?_)
    refine x_bipush (v := (-103)) f_RL_years_34 rfl ?_
    refine x_ireturn f_RL_years_36 rfl ?_
    exact hQ M hR (frM_refl _ _ _)
  · rw [if_neg h0] at hQ ⊢
    refine x_if_neN f_RL_years_31 (by omega) (fun _ => ?_) (fun h => absurd h (by omega))
    obtain ⟨k, k1, k2, rfl⟩ := nI_backm (by omega) h1 h2
    obtain ⟨v, hv, rfl⟩ := nI_nonneg h3
    obtain ⟨w, hw, rfl⟩ := hasI_of (n := 3) (by omega) (by omega : 0 < hasI y 3)
    rw [nI_clamp hv, nI_clamp (n := k) (by omega)] at hQ
    refine x_al0 f_RL_years_37 ?_
    refine x_getR f_RL_years_38 rfl rfl ?_
    refine x_al0 f_RL_years_41 ?_
    refine x_getR f_RL_years_42 rfl rfl ?_
    refine x_cV1v f_RL_years_45 rfl rfl (by decide) (Nat.le_of_ble_eq_true rfl) (Nat.le_of_ble_eq_true rfl) rfl (c_River_copyFrom (Or.inr (Or.inr rfl)) (Or.inl rfl) (by omega) (fun M1 hc => ⟨rfl, ?_⟩))
    obtain ⟨c0, c1, c2, c3, c4, c5, c6, c7, c8, c9⟩ := cpRv_C hn7 hg3 hc hR.2.1
    refine x_il2 f_RL_years_48 ?_
    refine x_i2l f_RL_years_49 ?_
    rw [nL_i2l hv]
    refine x_ls4 f_RL_years_50 rfl ?_
    refine x_iconst (v := (nI 0)) f_RL_years_52 rfl ?_
    refine x_is6 f_RL_years_53 rfl ?_
    refine x_iconst (v := (nI 0)) f_RL_years_55 rfl ?_
    refine x_is7 f_RL_years_56 rfl ?_
    refine l_RL_years (v0 := v) k2 hv hI (by omega) M1 (fun M2 f2 n2 z2 => ?_) M1 0 (s 1 4) (by omega) (frM_refl _ _ _) c0 c1 c2 c3 c4 c5 c6 c7 (fun j _ hj => c9 j hj)
    have R2 : RelC s M2 := RelC_scr hR (fun a i hh => (f2.1 a i (by omega)).trans (hc.2.2.2.1 a i (by omega)))
    have F2 : frM M M2 0 54 := ⟨fun a i h => (f2.1 a i (by omega)).trans (hc.2.2.2.1 a i (by omega)), f2.2.trans hc.2.2.2.2⟩
    have hq := hQ M2 R2 F2
    refine x_il3 f_RL_years_143 ?_
    refine x_if_neN f_RL_years_144 (by omega) (fun h6 => ?_) (fun h6 => ?_)
    · have hw0 : ¬ nI w = 0 := nI_ne0 h6 (by omega)
      rw [if_neg hw0] at hq
      refine x_il3 f_RL_years_150 ?_
      refine x_iconst (v := (nI 1)) f_RL_years_151 rfl ?_
      refine x_cmp_neN f_RL_years_152 (by omega) (by omega) (fun h7 => ?_) (fun h7 => ?_)
      · have hw1 : ¬ nI w = nI 1 := fun z => h7 (by have z2 := congrArg Int32.toNatClampNeg z; rw [nI_clamp (by omega), nI_clamp (by omega)] at z2; exact z2)
        rw [if_neg hw1] at hq
        refine x_ll4 f_RL_years_165 ?_
        refine x_l2i f_RL_years_167 ?_
        refine x_ireturn f_RL_years_168 rfl ?_
        rw [nL_l2i]
        exact hq
      · subst h7
        rw [if_pos rfl] at hq
        refine x_al0 f_RL_years_155 ?_
        refine x_getR f_RL_years_156 rfl rfl ?_
        refine x_cV0i f_RL_years_159 rfl rfl (by decide) (Nat.le_of_ble_eq_true rfl) (Nat.le_of_ble_eq_true rfl) rfl (c_River_wildTogether (r := 17) (Or.inr (Or.inr rfl)) n2 hn7 z2 ⟨_, rfl, ?_⟩)
        refine x_goto f_RL_years_162 ?_
        refine x_ireturn f_RL_years_168 rfl ?_
        exact hq
    · subst h6
      rw [if_pos (show nI 0 = (0 : Int32) from rfl)] at hq
      refine x_il6 f_RL_years_147 ?_
      refine x_ireturn f_RL_years_149 rfl ?_
      exact hq
end
