/-! the reference: years -/
theorem nL_and (a b : Nat) : nL a &&& nL b = nL (a &&& b) := by
  apply Int64.toBitVec_inj.mp
  rw [Int64.toBitVec_and]
  show BitVec.ofNat 64 a &&& BitVec.ofNat 64 b = BitVec.ofNat 64 (a &&& b)
  exact (BitVec.ofNat_and).symm
theorem nL_seed {v : Nat} (hv : v < 2 ^ 31) : ((1103515245 : Int64) * (nI v).toInt64 + 12345 &&& 2147483647).toInt32 = nI (nsN v) := by
  have e1 : (1103515245 : Int64) * nL v = nL (1103515245 * v) := (Int64.ofNat_mul _ _).symm
  have e2 : nL (1103515245 * v) + 12345 = nL (1103515245 * v + 12345) := (Int64.ofNat_add _ _).symm
  have e3 : nL (1103515245 * v + 12345) &&& 2147483647 = nL ((1103515245 * v + 12345) &&& 2147483647) := nL_and _ _
  have e4 : (1103515245 * v + 12345) &&& 2147483647 = nsN v := Nat.and_two_pow_sub_one_eq_mod (1103515245 * v + 12345) 31
  rw [nL_i2l hv, e1, e2, e3, nL_l2i, e4]
section
variable {X : (Nat → Int32) × Nat} {d : Nat} {Q : mM → Option Value → Prop} {M : mM} {s : St}
theorem c_Mo_draw {M : mM} {v n : Nat} (hv : v < 2 ^ 31) (hn0 : 0 < n) (hn7 : n ≤ 7) (h : M.1 55 21 = nI v) (hQ : Q (stM M 55 21 (nI (nsN v))) (some (.int (nI (drN (nsN v) n))))) : wp X (d + 1) n_Mo_draw Q 0 [.ref 55, .int (nI n)] [] M := by
  have hl := nsN_lt v
  refine x_al0 f_Mo_draw_0 ?_
  refine x_ldc2 (v := 1103515245) f_Mo_draw_1 (by decide) ?_
  refine x_al0 f_Mo_draw_4 ?_
  refine x_getIV f_Mo_draw_5 rfl rfl (Or.inl rfl) (h) ?_
  refine x_i2l f_Mo_draw_8 ?_
  refine x_lmul f_Mo_draw_9 ?_
  refine x_ldc2 (v := 12345) f_Mo_draw_10 (by decide) ?_
  refine x_ladd f_Mo_draw_13 ?_
  refine x_ldc2 (v := 2147483647) f_Mo_draw_14 (by decide) ?_
  refine x_land f_Mo_draw_17 ?_
  refine x_l2i f_Mo_draw_18 ?_
  rw [nL_seed hv]
  refine x_putI f_Mo_draw_19 rfl rfl ?_
  refine x_al0 f_Mo_draw_22 ?_
  refine x_getIV f_Mo_draw_23 rfl rfl (Or.inl rfl) (stM_at _ _ _ _) ?_
  refine x_ldc (v := (nI 65536)) f_Mo_draw_26 (by decide) ?_
  refine x_idivN f_Mo_draw_28 (by omega) (by omega) (by omega) ?_
  refine x_il1 f_Mo_draw_29 ?_
  refine x_iremN f_Mo_draw_30 (by omega) (by omega) (by omega) ?_
  refine x_ireturn f_Mo_draw_31 rfl ?_
  exact hQ
theorem l_Mo_years {m v0 : Nat} {xs xy : Int32} (hm : m ≤ 60) (hv0 : v0 < 2 ^ 31) (hI : Inv s) (hn0 : 0 < s 1 1) (M0 : mM) (hQ : ∀ (M1 : mM) (v6 : Value), (∀ a j, a ≠ 58 → a ≠ 62 → a ≠ 63 → a ≠ 64 → (a ≠ 55 ∨ j ≠ 21) → M1.1 a j = M0.1 a j) → M1.1 55 21 = nI (yrN s v0 m).1 → (∀ i, i < s 1 1 → M1.1 63 i = nI ((yrN s v0 m).2.2.2 i)) → wp X (d + 4) n_Mo_years Q 154 [.ref 55, .int (nI m), .int xs, .int xy, .int (nI (yrN s v0 m).2.1), .int (nI (m + 1)), v6] [] M1) (h3 : M0.1 55 3 = nI (s 1 1)) (h4 : M0.1 55 4 = nI (s 1 2)) (h5 : M0.1 55 5 = nI (s 1 3)) (hK : ∀ j, j < s 1 1 → M0.1 57 j = nI (s 2 j)) (hR : ∀ j, j < s 1 1 → M0.1 60 j = iv (s 5 j)) (M : mM) (i : Nat) (hi : i ≤ m) (v6 : Value) (o : ∀ a j, a ≠ 58 → a ≠ 62 → a ≠ 63 → a ≠ 64 → (a ≠ 55 ∨ j ≠ 21) → M.1 a j = M0.1 a j) (hS : M.1 55 21 = nI (yrN s v0 i).1) (hF : ∀ j, j < s 1 1 → M.1 58 j = nI ((yrN s v0 i).2.2.1 j)) (hZ : ∀ j, j < s 1 1 → M.1 63 j = nI ((yrN s v0 i).2.2.2 j)) (ha : ∀ j, 1 ≤ j → j < s 1 2 → M.1 64 j = nI (s 6 j)) : wp X (d + 4) n_Mo_years Q 67 [.ref 55, .int (nI m), .int xs, .int xy, .int (nI (yrN s v0 i).2.1), .int (nI (i + 1)), v6] [] M := by
  obtain ⟨hn7, hg3, hmo⟩ := Inv_n hI
  obtain ⟨kb, fb, zb, rb, wb, ab⟩ := Inv_k hI
  obtain ⟨y1, y2, y3⟩ := yrN_ok hI hv0 i
  obtain ⟨z1, z2, z3⟩ := yrN_ok hI hv0 (i + 1)
  refine x_il5 f_Mo_years_67 ?_
  refine x_il1 f_Mo_years_69 ?_
  refine x_cmp_gtN f_Mo_years_70 (by omega) (by omega) (fun hge => ?_) (fun hlt => ?_)
  · have e : i = m := by omega
    subst e
    exact hQ M _ o hS hZ
  · have l1 : drN (nsN (yrN s v0 i).1) (s 1 1) < s 1 1 := Nat.mod_lt _ hn0
    have l2 : drN (nsN (nsN (yrN s v0 i).1)) (s 1 1) < s 1 1 := Nat.mod_lt _ hn0
    generalize hr : drN (nsN (nsN (yrN s v0 i).1)) (s 1 1) = r at l2
    generalize hq : drN (nsN (yrN s v0 i).1) (s 1 1) = q at l1
    have hyr : yrN s v0 (i + 1) = (nsN (nsN (yrN s v0 i).1), (yrN s v0 i).2.1 + fcN (s 2) (wat (s 1 1) (s 2) (fun i_1 => if i_1 = r then (if 9 < (yrN s v0 i).2.2.1 r + 1 then 9 else (yrN s v0 i).2.2.1 r + 1) else (yrN s v0 i).2.2.1 i_1) (s 5)) (pmN (s 2) (yrN s v0 i).2.2.2 (updN (s 6) 0 q) (s 1 2) (s 1 3 + i + 1)) (s 1 1), (fun i_1 => if i_1 = r then (if 9 < (yrN s v0 i).2.2.1 r + 1 then 9 else (yrN s v0 i).2.2.1 r + 1) else (yrN s v0 i).2.2.1 i_1), pmN (s 2) (yrN s v0 i).2.2.2 (updN (s 6) 0 q) (s 1 2) (s 1 3 + i + 1)) := by subst hr; subst hq; rfl
    have hfr := y2 r l2
    refine x_al0 f_Mo_years_73 ?_
    refine x_getR f_Mo_years_74 rfl rfl ?_
    refine x_iconst (v := (nI 0)) f_Mo_years_77 rfl ?_
    refine x_al0 f_Mo_years_78 ?_
    refine x_al0 f_Mo_years_79 ?_
    refine x_getIV f_Mo_years_80 rfl rfl (Or.inl rfl) ((o _ _ (by omega) (by omega) (by omega) (by omega) (by omega)).trans h3) ?_
    refine x_cV1i f_Mo_years_83 rfl rfl (by decide) (Nat.le_of_ble_eq_true rfl) (Nat.le_of_ble_eq_true rfl) rfl (c_Mo_draw y1 hn0 hn7 hS ⟨_, rfl, ?_⟩)
    rw [hq]
    refine x_iastN f_Mo_years_86 rfl (by omega) ?_
    refine x_al0 f_Mo_years_87 ?_
    refine x_al0 f_Mo_years_88 ?_
    refine x_getIV f_Mo_years_89 rfl rfl (Or.inl rfl) ((stM_ne _ _ (by omega)).trans ((stM_ne _ _ (by omega)).trans ((o _ _ (by omega) (by omega) (by omega) (by omega) (by omega)).trans h3))) ?_
    refine x_cV1i f_Mo_years_92 rfl rfl (by decide) (Nat.le_of_ble_eq_true rfl) (Nat.le_of_ble_eq_true rfl) rfl (c_Mo_draw (nsN_lt _) hn0 hn7 ((stM_ne _ _ (by omega)).trans (stM_at _ _ _ _)) ⟨_, rfl, ?_⟩)
    rw [hr]
    have o1 : ∀ a j, (a ≠ 55 ∨ j ≠ 21) → (a ≠ 64 ∨ j ≠ 0) → (stM (stM (stM M 55 21 (nI (nsN (yrN s v0 i).1))) 64 0 (nI q)) 55 21 (nI (nsN (nsN (yrN s v0 i).1)))).1 a j = M.1 a j := fun a j x1 x2 => by rw [stM_ne _ _ (by omega), stM_ne _ _ (by omega), stM_ne _ _ (by omega)]
    have s1 : (stM (stM (stM M 55 21 (nI (nsN (yrN s v0 i).1))) 64 0 (nI q)) 55 21 (nI (nsN (nsN (yrN s v0 i).1)))).1 55 21 = nI (nsN (nsN (yrN s v0 i).1)) := stM_at _ _ _ _
    have a1 : ∀ j, j < s 1 2 → (stM (stM (stM M 55 21 (nI (nsN (yrN s v0 i).1))) 64 0 (nI q)) 55 21 (nI (nsN (nsN (yrN s v0 i).1)))).1 64 j = nI (updN (s 6) 0 q j) := fun j hj => by
      unfold updN
      by_cases e : j = 0
      · rw [if_pos e, e, stM_ne _ _ (by omega), stM_at]
      · rw [if_neg e, o1 _ _ (by omega) (by omega)]; exact ha j (by omega) hj
    have ab1 : ∀ j, j < s 1 2 → updN (s 6) 0 q j < s 1 1 := fun j hj => by
      have := ab j hj
      unfold updN
      split <;> omega
    generalize (stM (stM (stM M 55 21 (nI (nsN (yrN s v0 i).1))) 64 0 (nI q)) 55 21 (nI (nsN (nsN (yrN s v0 i).1)))) = M1 at o1 s1 a1
    refine x_is6 f_Mo_years_95 rfl ?_
    refine x_al0 f_Mo_years_97 ?_
    refine x_getR f_Mo_years_98 rfl rfl ?_
    refine x_il6 f_Mo_years_101 ?_
    refine x_dup2 f_Mo_years_103 rfl rfl ?_
    refine x_ialdV f_Mo_years_104 rfl (by omega) ((o1 _ _ (by omega) (by omega)).trans (hF r l2)) ?_
    refine x_al0 f_Mo_years_105 ?_
    refine x_getR f_Mo_years_106 rfl rfl ?_
    refine x_il6 f_Mo_years_109 ?_
    refine x_ialdV f_Mo_years_111 rfl (by omega) ((o1 _ _ (by omega) (by omega)).trans (hF r l2)) ?_
    refine x_bipush (v := (nI 9)) f_Mo_years_112 rfl ?_
    have fin : ∀ v, v = (if 9 < (yrN s v0 i).2.2.1 r + 1 then 9 else (yrN s v0 i).2.2.1 r + 1) → wp X (d + 4) n_Mo_years Q 124 [.ref 55, .int (nI m), .int xs, .int xy, .int (nI (yrN s v0 i).2.1), .int (nI (i + 1)), .int (nI r)] [] (stM M1 58 r (nI v)) := by
      intro v hv
      have o2 : ∀ a j, (a ≠ 55 ∨ j ≠ 21) → (a ≠ 64 ∨ j ≠ 0) → a ≠ 58 → (stM M1 58 r (nI v)).1 a j = M.1 a j := fun a j x1 x2 x3 => (stM_ne _ _ (by omega)).trans (o1 a j x1 x2)
      have F2 : ∀ j, j < s 1 1 → (stM M1 58 r (nI v)).1 58 j = nI ((yrN s v0 (i + 1)).2.2.1 j) := fun j hj => by
        rw [hyr, stM_def]
        show _ = nI (if j = r then (if 9 < (yrN s v0 i).2.2.1 r + 1 then 9 else (yrN s v0 i).2.2.1 r + 1) else (yrN s v0 i).2.2.1 j)
        by_cases e : j = r
        · rw [if_pos ⟨rfl, e⟩, if_pos e, hv]
        · rw [if_neg (fun z => e z.2), if_neg e, o1 _ _ (by omega) (by omega)]; exact hF j hj
      have s2 : (stM M1 58 r (nI v)).1 55 21 = nI (yrN s v0 (i + 1)).1 := by rw [hyr, stM_ne _ _ (by omega)]; exact s1
      have a2 : ∀ j, j < s 1 2 → (stM M1 58 r (nI v)).1 64 j = nI (updN (s 6) 0 q j) := fun j hj => (stM_ne _ _ (by omega)).trans (a1 j hj)
      generalize (stM M1 58 r (nI v)) = M2 at o2 F2 s2 a2
      have o02 : ∀ a j, a ≠ 58 → a ≠ 62 → a ≠ 63 → a ≠ 64 → (a ≠ 55 ∨ j ≠ 21) → M2.1 a j = M0.1 a j := fun a j x1 x2 x3 x4 x5 => (o2 a j (by omega) (by omega) x1).trans (o a j x1 x2 x3 x4 x5)
      refine x_al0 f_Mo_years_124 ?_
      refine x_al0 f_Mo_years_125 ?_
      refine x_getIV f_Mo_years_126 rfl rfl (Or.inl rfl) ((o02 _ _ (by omega) (by omega) (by omega) (by omega) (by omega)).trans h5) ?_
      refine x_il5 f_Mo_years_129 ?_
      first | refine x_iaddN f_Mo_years_131 ?_ | refine x_iadd f_Mo_years_131 ?_
      refine x_cV1v f_Mo_years_132 rfl rfl (by decide) (Nat.le_of_ble_eq_true rfl) (Nat.le_of_ble_eq_true rfl) rfl (c_Mo_goOn (At := updN (s 6) 0 q) (Z := (yrN s v0 i).2.2.2) (by omega) ((o02 _ _ (by omega) (by omega) (by omega) (by omega) (by omega)).trans h3) hn7 ((o02 _ _ (by omega) (by omega) (by omega) (by omega) (by omega)).trans h4) hg3 (fun j hj => (o02 _ _ (by omega) (by omega) (by omega) (by omega) (by omega)).trans (hK j hj)) kb a2 ab1 (fun j hj => (o2 _ _ (by omega) (by omega) (by omega)).trans (hZ j hj)) y3 ⟨rfl, ?_⟩)
      have o3 : ∀ a j, a ≠ 63 → (wrM M2 63 (s 1 1) (pmN (s 2) (yrN s v0 i).2.2.2 (updN (s 6) 0 q) (s 1 2) (s 1 3 + (i + 1)))).1 a j = M2.1 a j := fun a j x => wrM_o x
      have Z3 : ∀ j, j < s 1 1 → (wrM M2 63 (s 1 1) (pmN (s 2) (yrN s v0 i).2.2.2 (updN (s 6) 0 q) (s 1 2) (s 1 3 + (i + 1)))).1 63 j = nI ((yrN s v0 (i + 1)).2.2.2 j) := fun j hj => by rw [hyr]; exact wrM_at hj
      generalize (wrM M2 63 (s 1 1) (pmN (s 2) (yrN s v0 i).2.2.2 (updN (s 6) 0 q) (s 1 2) (s 1 3 + (i + 1)))) = M3 at o3 Z3
      have w3 : MwC M3 (s 1 1) (s 2) (yrN s v0 (i + 1)).2.2.1 (s 5) := ⟨(o3 _ _ (by omega)).trans ((o02 _ _ (by omega) (by omega) (by omega) (by omega) (by omega)).trans h3), hn7, fun j hj => (o3 _ _ (by omega)).trans ((o02 _ _ (by omega) (by omega) (by omega) (by omega) (by omega)).trans (hK j hj)), kb, fun j hj => (o3 _ _ (by omega)).trans (F2 j hj), fun j hj => by have := z2 j hj; omega, fun j hj => (o3 _ _ (by omega)).trans ((o02 _ _ (by omega) (by omega) (by omega) (by omega) (by omega)).trans (hR j hj)), rb⟩
      refine x_il4 f_Mo_years_135 ?_
      refine x_al0 f_Mo_years_137 ?_
      refine x_al0 f_Mo_years_138 ?_
      refine x_getR f_Mo_years_139 rfl rfl ?_
      refine x_cV1i f_Mo_years_142 rfl rfl (by decide) (Nat.le_of_ble_eq_true rfl) (Nat.le_of_ble_eq_true rfl) rfl (c_Mo_floodsBy (kz := 63) rfl (by omega) w3 Z3 (fun j hj => by have := z3 j hj; omega) ⟨_, rfl, ?_⟩)
      first | refine x_iaddN f_Mo_years_145 ?_ | refine x_iadd f_Mo_years_145 ?_
      refine x_is4 f_Mo_years_146 rfl ?_
      have e2 : (yrN s v0 i).2.1 + fcN (s 2) (wat (s 1 1) (s 2) (yrN s v0 (i + 1)).2.2.1 (s 5)) (yrN s v0 (i + 1)).2.2.2 (s 1 1) = (yrN s v0 (i + 1)).2.1 := by rw [hyr]
      rw [e2]
      refine x_incN5 f_Mo_years_148 rfl ?_
      refine x_goto f_Mo_years_151 ?_
      have o4 : ∀ a j, a ≠ 62 → (wrM M3 62 (s 1 1) (wat (s 1 1) (s 2) (yrN s v0 (i + 1)).2.2.1 (s 5))).1 a j = M3.1 a j := fun a j x => wrM_o x
      exact l_Mo_years hm hv0 hI hn0 M0 hQ h3 h4 h5 hK hR _ (i + 1) (by omega) _ (fun a j x1 x2 x3 x4 x5 => (o4 a j x2).trans ((o3 a j x3).trans (o02 a j x1 x2 x3 x4 x5))) ((o4 _ _ (by omega)).trans ((o3 _ _ (by omega)).trans s2)) (fun j hj => (o4 _ _ (by omega)).trans ((o3 _ _ (by omega)).trans (F2 j hj))) (fun j hj => (o4 _ _ (by omega)).trans (Z3 j hj)) (fun j j1 hj => (o4 _ _ (by omega)).trans ((o3 _ _ (by omega)).trans ((o2 _ _ (by omega) (by omega) (by omega)).trans (ha j j1 hj))))
    refine x_cmp_geN f_Mo_years_114 (by omega) (by omega) (fun h => ?_) (fun h => ?_)
    · refine x_iconst (v := (nI 0)) f_Mo_years_121 rfl ?_
      first | refine x_iaddN f_Mo_years_122 ?_ | refine x_iadd f_Mo_years_122 ?_
      refine x_iastN f_Mo_years_123 rfl (by omega) ?_
      exact fin _ (by split <;> omega)
    · refine x_iconst (v := (nI 1)) f_Mo_years_117 rfl ?_
      refine x_goto f_Mo_years_118 ?_
      first | refine x_iaddN f_Mo_years_122 ?_ | refine x_iadd f_Mo_years_122 ?_
      refine x_iastN f_Mo_years_123 rfl (by omega) ?_
      exact fin _ (by split <;> omega)
termination_by m - i
decreasing_by all_goals omega
theorem c_Mo_years {m x y : Int32} (hI : Inv s) (hR : RelM s M) (hQ : ∀ M1, RelM s M1 → frC M M1 → Q M1 (some (.int (yrA s m x y)))) : wp X (d + 4) n_Mo_years Q 0 [.ref 55, .int m, .int x, .int y, .null, .null, .null] [] M := by
  obtain ⟨hn7, hg3, hmo⟩ := Inv_n hI
  obtain ⟨⟨p1, p2⟩, ⟨a1, a2, a3, a4, a5, a6, a7⟩, ⟨w1, w2, w3, w4⟩, r, sn, im⟩ := id hR
  unfold yrA at hQ
  have out : (∀ M1, RelM s M1 → frC M M1 → Q M1 (some (.int (-102)))) → wp X (d + 4) n_Mo_years Q 28 [.ref 55, .int m, .int x, .int y, .null, .null, .null] [] M := by
    intro h
    refine x_bipush (v := (-102)) f_Mo_years_28 rfl ?_
    refine x_ireturn f_Mo_years_30 rfl ?_
    exact h M hR (frC_refl _)
  have e1 : m < nI 1 ↔ m.toInt < 1 := by rw [Int32.lt_iff_toInt_lt, nI_toInt (by omega)]; rfl
  have e2 : nI 60 < m ↔ 60 < m.toInt := by rw [Int32.lt_iff_toInt_lt, nI_toInt (by omega)]; rfl
  refine x_il1 f_Mo_years_0 ?_
  refine x_i2l f_Mo_years_1 ?_
  refine x_lconst (v := 1) f_Mo_years_2 rfl ?_
  refine x_ldc2 (v := 60) f_Mo_years_3 (by decide) ?_
  refine x_cS3i f_Mo_years_6 (by decide) (Nat.le_of_ble_eq_true rfl) (Nat.le_of_ble_eq_true rfl) rfl (c_Mo_in (lo := 1) (hi := 60) (by decide) (by decide) ⟨_, rfl, ?_⟩)
  have hin : inN m 1 60 = if (1 : Int) ≤ m.toInt ∧ m.toInt ≤ 60 then 1 else 0 := rfl
  refine x_if_eqN f_Mo_years_9 (by have := inN_le m 1 60; omega) (fun h => out ?_) (fun h => ?_)
  · by_cases h1 : m < nI 1
    · rw [if_pos h1] at hQ; exact hQ
    · have h1' : ¬ m.toInt < 1 := fun z => h1 (e1.mpr z)
      rw [hin] at h
      have h2 : nI 60 < m := e2.mpr (by split at h <;> omega)
      rw [if_neg h1, if_pos h2] at hQ; exact hQ
  · have hb : 1 ≤ m.toInt ∧ m.toInt ≤ 60 := by
      rw [hin] at h
      split at h
      · assumption
      · omega
    have h1 : ¬ m < nI 1 := fun z => by have := e1.mp z; omega
    have h2 : ¬ nI 60 < m := fun z => by have := e2.mp z; omega
    rw [if_neg h1, if_neg h2] at hQ
    refine x_il2 f_Mo_years_12 ?_
    refine x_if_lt f_Mo_years_13 (fun h3 => out (by rw [if_pos h3] at hQ; exact hQ)) (fun h3 => ?_)
    rw [if_neg h3] at hQ
    refine x_il3 f_Mo_years_16 ?_
    refine x_i2l f_Mo_years_17 ?_
    refine x_lconst (v := 0) f_Mo_years_18 rfl ?_
    refine x_ldc2 (v := 2) f_Mo_years_19 (by decide) ?_
    refine x_cS3i f_Mo_years_22 (by decide) (Nat.le_of_ble_eq_true rfl) (Nat.le_of_ble_eq_true rfl) rfl (c_Mo_in (lo := 0) (hi := ((3 : Nat) : Int) - 1) (by decide) (by decide) ⟨_, rfl, ?_⟩)
    rw [inN_has (by omega)]
    refine x_if_neN f_Mo_years_25 (by have := hasI_le y 3; omega) (fun hy => ?_) (fun hy => out (by rw [if_pos hy] at hQ; exact hQ))
    rw [if_neg (show ¬ hasI y 3 = 0 by omega)] at hQ
    refine x_al0 f_Mo_years_31 ?_
    refine x_cV0i f_Mo_years_32 rfl rfl (by decide) (Nat.le_of_ble_eq_true rfl) (Nat.le_of_ble_eq_true rfl) rfl (c_Mo_lacks hn7 a1 ⟨_, rfl, ?_⟩)
    by_cases h0 : s 1 1 = 0
    · rw [if_pos h0] at hQ ⊢
      refine x_if_eqN f_Mo_years_35 (by omega) (fun h => absurd h (by omega)) (fun _ => ?_)
      refine x_bipush (v := (-103)) f_Mo_years_38 rfl ?_
      refine x_ireturn f_Mo_years_40 rfl ?_
      exact hQ M hR (frC_refl _)
    · rw [if_neg h0] at hQ ⊢
      refine x_if_eqN f_Mo_years_35 (by omega) (fun _ => ?_) (fun h => absurd h (by omega))
      obtain ⟨k, k1, k2, rfl⟩ := nI_backm (by omega) h1 h2
      obtain ⟨v, hv, rfl⟩ := nI_nonneg h3
      obtain ⟨w, hw, rfl⟩ := hasI_of (n := 3) (by omega) hy
      rw [nI_clamp hv, nI_clamp (n := k) (by omega)] at hQ
      refine x_al0 f_Mo_years_41 ?_
      refine x_il2 f_Mo_years_42 ?_
      refine x_putI f_Mo_years_43 rfl rfl ?_
      refine x_al0 f_Mo_years_46 ?_
      refine x_cV0v f_Mo_years_47 rfl rfl (by decide) (Nat.le_of_ble_eq_true rfl) (Nat.le_of_ble_eq_true rfl) rfl (c_Mo_begin ⟨rfl, ?_⟩)
      refine x_al0 f_Mo_years_50 ?_
      refine x_getR f_Mo_years_51 rfl rfl ?_
      refine x_al0 f_Mo_years_54 ?_
      refine x_getR f_Mo_years_55 rfl rfl ?_
      refine x_cS2v f_Mo_years_58 (by decide) (Nat.le_of_ble_eq_true rfl) (Nat.le_of_ble_eq_true rfl) rfl (c_Mo_copy (k0 := 58) (k1 := 69) (z := 7) rfl rfl (by omega) (by omega) ⟨rfl, ?_⟩)
      have o0 : ∀ a i, a ≠ 63 → a ≠ 64 → a ≠ 69 → (a ≠ 55 ∨ i ≠ 21) → (crM (crM (crM (stM M 55 21 (nI v)) 59 63 7) 61 64 3) 58 69 7).1 a i = M.1 a i := fun a i x1 x2 x3 x4 => by rw [crM_o (by omega), crM_o (by omega), crM_o (by omega), stM_ne _ _ (by omega)]
      have s0 : (crM (crM (crM (stM M 55 21 (nI v)) 59 63 7) 61 64 3) 58 69 7).1 55 21 = nI v := by rw [crM_o (by omega), crM_o (by omega), crM_o (by omega), stM_at]
      have z0 : ∀ i, i < s 1 1 → (crM (crM (crM (stM M 55 21 (nI v)) 59 63 7) 61 64 3) 58 69 7).1 63 i = nI (s 4 i) := fun i hi => by rw [crM_o (by omega), crM_o (by omega), crM_at (by omega), stM_ne _ _ (by omega)]; exact w3 i hi
      have t0 : ∀ i, i < s 1 2 → (crM (crM (crM (stM M 55 21 (nI v)) 59 63 7) 61 64 3) 58 69 7).1 64 i = nI (s 6 i) := fun i hi => by rw [crM_o (by omega), crM_at (by omega), crM_o (by omega), stM_ne _ _ (by omega)]; exact w4 i hi
      have f0 : ∀ i, i < s 1 1 → (crM (crM (crM (stM M 55 21 (nI v)) 59 63 7) 61 64 3) 58 69 7).1 69 i = nI (s 3 i) := fun i hi => by rw [crM_at (by omega), crM_o (by omega), crM_o (by omega), stM_ne _ _ (by omega)]; exact w2 i hi
      generalize (crM (crM (crM (stM M 55 21 (nI v)) 59 63 7) 61 64 3) 58 69 7) = M0 at o0 s0 z0 t0 f0
      refine x_iconst (v := (nI 0)) f_Mo_years_61 rfl ?_
      refine x_is4 f_Mo_years_62 rfl ?_
      refine x_iconst (v := (nI 1)) f_Mo_years_64 rfl ?_
      refine x_is5 f_Mo_years_65 rfl ?_
      refine l_Mo_years (v0 := v) k2 hv hI (by omega) M0 (fun M1 v6 o1 s1 z1 => ?_) ((o0 _ _ (by omega) (by omega) (by omega) (by omega)).trans a1) ((o0 _ _ (by omega) (by omega) (by omega) (by omega)).trans a2) ((o0 _ _ (by omega) (by omega) (by omega) (by omega)).trans a3) (fun j hj => (o0 _ _ (by omega) (by omega) (by omega) (by omega)).trans (w1 j hj)) (fun j hj => (o0 _ _ (by omega) (by omega) (by omega) (by omega)).trans (r j hj)) M0 0 (by omega) _ (fun _ _ _ _ _ _ _ => rfl) s0 (fun j hj => (o0 _ _ (by omega) (by omega) (by omega) (by omega)).trans (w2 j hj)) z0 (fun j _ hj => t0 j hj)
      refine x_al0 f_Mo_years_154 ?_
      refine x_getR f_Mo_years_155 rfl rfl ?_
      refine x_al0 f_Mo_years_158 ?_
      refine x_getR f_Mo_years_159 rfl rfl ?_
      refine x_cS2v f_Mo_years_162 (by decide) (Nat.le_of_ble_eq_true rfl) (Nat.le_of_ble_eq_true rfl) rfl (c_Mo_copy (k0 := 69) (k1 := 58) (z := 7) rfl rfl (by omega) (by omega) ⟨rfl, ?_⟩)
      have o2 : ∀ a i, a ≠ 58 → a ≠ 62 → a ≠ 63 → a ≠ 64 → a ≠ 69 → (a ≠ 55 ∨ i ≠ 21) → (crM M1 69 58 7).1 a i = M.1 a i := fun a i x1 x2 x3 x4 x5 x6 => by rw [crM_o x1, o1 a i x1 x2 x3 x4 x6]; exact o0 a i x3 x4 x5 x6
      have f2 : ∀ i, i < s 1 1 → (crM M1 69 58 7).1 58 i = nI (s 3 i) := fun i hi => by rw [crM_at (by omega), o1 _ _ (by omega) (by omega) (by omega) (by omega) (by omega)]; exact f0 i hi
      have R2 : RelM s (crM M1 69 58 7) := RelM_v hR (fun _ _ _ _ _ => rfl) ⟨fun i hi => (o2 _ _ (by omega) (by omega) (by omega) (by omega) (by omega) (by omega)).trans (w1 i hi), f2, fun i hi => (o2 _ _ (by omega) (by omega) (by omega) (by omega) (by omega) (by omega)).trans (w3 i hi), fun i hi => (o2 _ _ (by omega) (by omega) (by omega) (by omega) (by omega) (by omega)).trans (w4 i hi)⟩ (fun a i h => o2 a i (by omega) (by omega) (by omega) (by omega) (by omega) (by omega))
      have hq := hQ _ R2 (fun a i h => o2 a i (by omega) (by omega) (by omega) (by omega) (by omega) (by omega))
      refine x_il3 f_Mo_years_165 ?_
      refine x_if_neN f_Mo_years_166 (by omega) (fun h6 => ?_) (fun h6 => ?_)
      · have hw0 : ¬ nI w = 0 := nI_ne0 h6 (by omega)
        rw [if_neg hw0] at hq
        refine x_il3 f_Mo_years_174 ?_
        refine x_iconst (v := (nI 1)) f_Mo_years_175 rfl ?_
        refine x_cmp_neN f_Mo_years_176 (by omega) (by omega) (fun h7 => ?_) (fun h7 => ?_)
        · have hw1 : ¬ nI w = nI 1 := fun z => h7 (by have z2 := congrArg Int32.toNatClampNeg z; rw [nI_clamp (by omega), nI_clamp (by omega)] at z2; exact z2)
          rw [if_neg hw1] at hq
          refine x_al0 f_Mo_years_190 ?_
          refine x_getIV f_Mo_years_191 rfl rfl (Or.inl rfl) ((crM_o (by omega)).trans s1) ?_
          refine x_ireturn f_Mo_years_194 rfl ?_
          exact hq
        · subst h7
          rw [if_pos rfl] at hq
          refine x_al0 f_Mo_years_179 ?_
          refine x_al0 f_Mo_years_180 ?_
          refine x_getR f_Mo_years_181 rfl rfl ?_
          refine x_cV1i f_Mo_years_184 rfl rfl (by decide) (Nat.le_of_ble_eq_true rfl) (Nat.le_of_ble_eq_true rfl) rfl (c_Mo_sumOf (kz := 63) rfl ((o2 _ _ (by omega) (by omega) (by omega) (by omega) (by omega) (by omega)).trans a1) hn7 (fun i hi => (crM_o (by omega)).trans (z1 i hi)) ⟨_, rfl, ?_⟩)
          refine x_goto f_Mo_years_187 ?_
          refine x_ireturn f_Mo_years_194 rfl ?_
          exact hq
      · subst h6
        rw [if_pos (show nI 0 = (0 : Int32) from rfl)] at hq
        refine x_il4 f_Mo_years_169 ?_
        refine x_goto f_Mo_years_171 ?_
        refine x_ireturn f_Mo_years_194 rfl ?_
        exact hq
end
