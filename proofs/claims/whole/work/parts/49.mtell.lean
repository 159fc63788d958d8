/-! the reference: the rain that tells most, and all that is told of a reach -/
def tbN (Lw : Nat → Nat) : Nat → Nat × Nat
  | 0 => (0, 11)
  | i + 1 => if Lw i < (tbN Lw i).2 then (i + 1, Lw i) else tbN Lw i
theorem tb_tr {Lw : Nat → Nat} (h : ∀ i, Lw i ≤ 10) : ∀ i, tbN Lw (i + 1) = ((trN Lw i).1 + 1, (trN Lw i).2)
  | 0 => by
    have h0 := h 0
    show (if Lw 0 < 11 then (0 + 1, Lw 0) else (0, 11)) = (0 + 1, Lw 0)
    rw [if_pos (by omega)]
  | i + 1 => by
    have ih := tb_tr h i
    show (if Lw (i + 1) < (tbN Lw (i + 1)).2 then (i + 1 + 1, Lw (i + 1)) else tbN Lw (i + 1)) = ((if Lw (i + 1) < (trN Lw i).2 then (i + 1, Lw (i + 1)) else trN Lw i).1 + 1, (if Lw (i + 1) < (trN Lw i).2 then (i + 1, Lw (i + 1)) else trN Lw i).2)
    rw [ih]
    by_cases c : Lw (i + 1) < (trN Lw i).2
    · rw [if_pos c, if_pos c]
    · rw [if_neg c, if_neg c]
theorem tb_le {Lw : Nat → Nat} (h : ∀ i, Lw i ≤ 10) : ∀ i, (tbN Lw i).1 ≤ i ∧ (tbN Lw i).2 ≤ 11
  | 0 => ⟨Nat.le_refl _, Nat.le_refl _⟩
  | i + 1 => by
    have h1 := tb_le h i
    have h2 := h i
    unfold tbN
    split
    · exact ⟨Nat.le_refl _, by show Lw i ≤ 11; omega⟩
    · exact ⟨by omega, h1.2⟩
def noN (k w b : Nat) (z : Nat) : Nat := sumN (fun z => b / 2 ^ z % 2 * (1 - fldN k w z)) z
theorem no_eq (k w b : Nat) : noN k w b 10 = popN b - flN k w b 10 := by
  have h : sumN (fun z => b / 2 ^ z % 2 * fldN k w z + b / 2 ^ z % 2 * (1 - fldN k w z)) 10 = popN b := sumN_congr 10 (fun z _ => by
    have h1 := fldN_le k w z
    rw [← Nat.mul_add, show fldN k w z + (1 - fldN k w z) = 1 by omega, Nat.mul_one])
  rw [sumN_add] at h
  have h2 : flN k w b 10 + noN k w b 10 = popN b := h
  omega
section
variable {X : (Nat → Int32) × Nat} {d : Nat} {Q : mM → Option Value → Prop} {M : mM} {s : St}
theorem l_Mo_rainOf2 {j b q : Nat} {v3 v4 : Int32} (hI : Inv s) (hj : j < s 1 1) (hb : b < 1024) (hq : q ≤ 20) (M0 : mM) (hQ : ∀ M1 (v9 : Value), RelM s M1 → frH M0 M1 → wp X (d + 6) n_Mo_rainOf Q 92 [.ref 55, .int (nI j), .int (nI b), .int v3, .int v4, .int (nI q), .int (nI (flN (s 2 j) (sW s j + q) b 10)), .int (nI (noN (s 2 j) (sW s j + q) b 10)), .int (nI 10), v9] [] M1) (M : mM) (z : Nat) (hz : z ≤ 10) (hR : RelM s M) (hf : frH M0 M) (v9 : Value) : wp X (d + 6) n_Mo_rainOf Q 35 [.ref 55, .int (nI j), .int (nI b), .int v3, .int v4, .int (nI q), .int (nI (flN (s 2 j) (sW s j + q) b z)), .int (nI (noN (s 2 j) (sW s j + q) b z)), .int (nI z), v9] [] M := by
  refine x_il8 f_Mo_rainOf_35 ?_
  refine x_bipush (v := (nI 10)) f_Mo_rainOf_37 rfl ?_
  refine x_cmp_geN f_Mo_rainOf_39 (by omega) (by omega) (fun h => ?_) (fun h => ?_)
  · have e : z = 10 := by omega
    subst e
    exact hQ M _ hR hf
  · have hfl := fldN_le (s 2 j) (sW s j + q) z
    refine x_il2 f_Mo_rainOf_42 ?_
    refine x_il8 f_Mo_rainOf_43 ?_
    refine x_ishrN f_Mo_rainOf_45 (by omega) (by omega) ?_
    refine x_iconst (v := (nI 1)) f_Mo_rainOf_46 rfl ?_
    refine x_iandN f_Mo_rainOf_47 ?_
    rw [Nat.and_one_is_mod]
    refine x_is9 f_Mo_rainOf_48 rfl ?_
    refine x_il6 f_Mo_rainOf_50 ?_
    refine x_il9 f_Mo_rainOf_52 ?_
    refine x_al0 f_Mo_rainOf_54 ?_
    refine x_il1 f_Mo_rainOf_55 ?_
    refine x_il5 f_Mo_rainOf_56 ?_
    refine x_il8 f_Mo_rainOf_58 ?_
    refine x_cV3i f_Mo_rainOf_60 rfl rfl (by decide) (Nat.le_of_ble_eq_true rfl) (Nat.le_of_ble_eq_true rfl) rfl (c_Mo_floodsIf hI hR hj hq h (fun M1 r1 f1 => ⟨_, rfl, ?_⟩))
    first | refine x_imulN f_Mo_rainOf_63 ?_ | refine x_imul f_Mo_rainOf_63 ?_
    first | refine x_iaddN f_Mo_rainOf_64 ?_ | refine x_iadd f_Mo_rainOf_64 ?_
    refine x_is6 f_Mo_rainOf_65 rfl ?_
    refine x_il7 f_Mo_rainOf_67 ?_
    refine x_il9 f_Mo_rainOf_69 ?_
    refine x_iconst (v := (nI 1)) f_Mo_rainOf_71 rfl ?_
    refine x_al0 f_Mo_rainOf_72 ?_
    refine x_il1 f_Mo_rainOf_73 ?_
    refine x_il5 f_Mo_rainOf_74 ?_
    refine x_il8 f_Mo_rainOf_76 ?_
    refine x_cV3i f_Mo_rainOf_78 rfl rfl (by decide) (Nat.le_of_ble_eq_true rfl) (Nat.le_of_ble_eq_true rfl) rfl (c_Mo_floodsIf hI r1 hj hq h (fun M2 r2 f2 => ⟨_, rfl, ?_⟩))
    refine x_isubN f_Mo_rainOf_81 (by omega) ?_
    first | refine x_imulN f_Mo_rainOf_82 ?_ | refine x_imul f_Mo_rainOf_82 ?_
    first | refine x_iaddN f_Mo_rainOf_83 ?_ | refine x_iadd f_Mo_rainOf_83 ?_
    refine x_is7 f_Mo_rainOf_84 rfl ?_
    refine x_incN8 f_Mo_rainOf_86 rfl ?_
    refine x_goto f_Mo_rainOf_89 ?_
    exact l_Mo_rainOf2 hI hj hb hq M0 hQ M2 (z + 1) (by omega) r2 (frH_trans hf (frH_trans f1 f2)) _
termination_by 10 - z
decreasing_by all_goals omega
theorem l_Mo_rainOf1 {j b : Nat} (hI : Inv s) (hj : j < s 1 1) (hb : b < 1024) (hb0 : 0 < b) (M0 : mM) (hQ : ∀ M1, RelM s M1 → frH M0 M1 → Q M1 (some (.int (iv (rainN (s 2 j) (sW s j) b))))) (M : mM) (i : Nat) (hi : i ≤ 21) (hR : RelM s M) (hf : frH M0 M) (v6 v7 v8 v9 : Value) : wp X (d + 6) n_Mo_rainOf Q 15 [.ref 55, .int (nI j), .int (nI b), .int (iv (tbN (fun q => lwN (s 2 j) (sW s j + q) b) i).1), .int (nI (tbN (fun q => lwN (s 2 j) (sW s j + q) b) i).2), .int (nI i), v6, v7, v8, v9] [] M := by
  have hL : ∀ q, lwN (s 2 j) (sW s j + q) b ≤ 10 := fun q => lwN_le hb
  refine x_il5 f_Mo_rainOf_15 ?_
  refine x_bipush (v := (nI 21)) f_Mo_rainOf_17 rfl ?_
  refine x_cmp_geN f_Mo_rainOf_19 (by omega) (by omega) (fun h => ?_) (fun h => ?_)
  · have e : i = 21 := by omega
    subst e
    refine x_il3 f_Mo_rainOf_144 ?_
    refine x_ireturn f_Mo_rainOf_145 rfl ?_
    have h := hQ M hR hf
    unfold rainN at h
    rw [if_neg (by omega)] at h
    rw [tb_tr hL 20]
    exact h
  · refine x_il2 f_Mo_rainOf_22 ?_
    refine x_if_eqN f_Mo_rainOf_23 (by omega) (fun h1 => absurd h1 (by omega)) (fun _ => ?_)
    refine x_iconst (v := (nI 0)) f_Mo_rainOf_26 rfl ?_
    refine x_is6 f_Mo_rainOf_27 rfl ?_
    refine x_iconst (v := (nI 0)) f_Mo_rainOf_29 rfl ?_
    refine x_is7 f_Mo_rainOf_30 rfl ?_
    refine x_iconst (v := (nI 0)) f_Mo_rainOf_32 rfl ?_
    refine x_is8 f_Mo_rainOf_33 rfl ?_
    refine l_Mo_rainOf2 hI hj hb (by omega) M0 (fun M1 u9 r1 f1 => ?_) M 0 (by omega) hR hf _
    have hfl := flN_le (s 2 j) (sW s j + i) b
    have hp := pop_le b hb
    have hlw := hL i
    have hel : lwN (s 2 j) (sW s j + i) b = if flN (s 2 j) (sW s j + i) b 10 < popN b - flN (s 2 j) (sW s j + i) b 10 then popN b - flN (s 2 j) (sW s j + i) b 10 else flN (s 2 j) (sW s j + i) b 10 := rfl
    have htb := tb_le hL i
    have e1 : tbN (fun q => lwN (s 2 j) (sW s j + q) b) (i + 1) = if lwN (s 2 j) (sW s j + i) b < (tbN (fun q => lwN (s 2 j) (sW s j + q) b) i).2 then (i + 1, lwN (s 2 j) (sW s j + i) b) else tbN (fun q => lwN (s 2 j) (sW s j + q) b) i := rfl
    rw [no_eq]
    have fin : ∀ (u6 u7 : Int32), wp X (d + 6) n_Mo_rainOf Q 108 [.ref 55, .int (nI j), .int (nI b), .int (iv (tbN (fun q => lwN (s 2 j) (sW s j + q) b) i).1), .int (nI (tbN (fun q => lwN (s 2 j) (sW s j + q) b) i).2), .int (nI i), .int u6, .int u7, .int (nI (lwN (s 2 j) (sW s j + i) b)), u9] [] M1 := by
      intro u6 u7
      have hh := l_Mo_rainOf1 hI hj hb hb0 M0 hQ M1 (i + 1) (by omega) r1 f1 (.int u6) (.int u7) (.int (nI (lwN (s 2 j) (sW s j + i) b))) u9
      refine x_il8 f_Mo_rainOf_108 ?_
      refine x_il4 f_Mo_rainOf_110 ?_
      refine x_cmp_geN f_Mo_rainOf_112 (by omega) (by omega) (fun h2 => ?_) (fun h2 => ?_)
      · rw [if_neg (by omega)] at e1
        refine x_il3 f_Mo_rainOf_120 ?_
        refine x_is3 f_Mo_rainOf_121 rfl ?_
        refine x_il8 f_Mo_rainOf_122 ?_
        refine x_il4 f_Mo_rainOf_124 ?_
        refine x_cmp_geN f_Mo_rainOf_126 (by omega) (by omega) (fun _ => ?_) (fun h3 => absurd h3 (by omega))
        refine x_il4 f_Mo_rainOf_134 ?_
        refine x_is4 f_Mo_rainOf_136 rfl ?_
        refine x_incN5 f_Mo_rainOf_138 rfl ?_
        refine x_goto f_Mo_rainOf_141 ?_
        rw [e1] at hh
        exact hh
      · rw [if_pos h2] at e1
        refine x_il5 f_Mo_rainOf_115 ?_
        refine x_goto f_Mo_rainOf_117 ?_
        refine x_is3 f_Mo_rainOf_121 rfl ?_
        refine x_il8 f_Mo_rainOf_122 ?_
        refine x_il4 f_Mo_rainOf_124 ?_
        refine x_cmp_geN f_Mo_rainOf_126 (by omega) (by omega) (fun h3 => absurd h3 (by omega)) (fun _ => ?_)
        refine x_il8 f_Mo_rainOf_129 ?_
        refine x_goto f_Mo_rainOf_131 ?_
        refine x_is4 f_Mo_rainOf_136 rfl ?_
        refine x_incN5 f_Mo_rainOf_138 rfl ?_
        refine x_goto f_Mo_rainOf_141 ?_
        rw [e1] at hh
        exact hh
    refine x_il6 f_Mo_rainOf_92 ?_
    refine x_il7 f_Mo_rainOf_94 ?_
    refine x_cmp_leN f_Mo_rainOf_96 (by omega) (by omega) (fun h2 => ?_) (fun h2 => ?_)
    · refine x_il7 f_Mo_rainOf_104 ?_
      refine x_is8 f_Mo_rainOf_106 rfl ?_
      have e : popN b - flN (s 2 j) (sW s j + i) b 10 = lwN (s 2 j) (sW s j + i) b := by rw [hel]; split <;> omega
      rw [e]
      exact fin _ _
    · refine x_il6 f_Mo_rainOf_99 ?_
      refine x_goto f_Mo_rainOf_101 ?_
      refine x_is8 f_Mo_rainOf_106 rfl ?_
      have e : lwN (s 2 j) (sW s j + i) b = flN (s 2 j) (sW s j + i) b 10 := by rw [hel, if_neg (by omega)]
      have hh := fin (nI (flN (s 2 j) (sW s j + i) b 10)) (nI (popN b - flN (s 2 j) (sW s j + i) b 10))
      rw [e] at hh
      exact hh
termination_by 21 - i
decreasing_by all_goals omega
theorem c_Mo_rainOf {M : mM} {j : Nat} (hI : Inv s) (hR : RelM s M) (hj : j < s 1 1) (hQ : ∀ M1, RelM s M1 → frH M M1 → Q M1 (some (.int (iv (rainN (s 2 j) (sW s j) (sWi s j)))))) : wp X (d + 6) n_Mo_rainOf Q 0 [.ref 55, .int (nI j), .null, .null, .null, .null, .null, .null, .null, .null] [] M := by
  have hb : sWi s j < 1024 := bitsN_lt (fun z => agN_le _ _ _ _ _ _ z _) 10
  refine x_al0 f_Mo_rainOf_0 ?_
  refine x_il1 f_Mo_rainOf_1 ?_
  refine x_cV1i f_Mo_rainOf_2 rfl rfl (by decide) (Nat.le_of_ble_eq_true rfl) (Nat.le_of_ble_eq_true rfl) rfl (c_Mo_wildsOf hI hR hj (fun M1 r1 f1 => ⟨_, rfl, ?_⟩))
  by_cases h0 : sWi s j = 0
  · refine x_is2 f_Mo_rainOf_5 rfl ?_
    refine x_iconst (v := (-1)) f_Mo_rainOf_6 rfl ?_
    refine x_is3 f_Mo_rainOf_7 rfl ?_
    refine x_bipush (v := (nI 11)) f_Mo_rainOf_8 rfl ?_
    refine x_is4 f_Mo_rainOf_10 rfl ?_
    refine x_iconst (v := (nI 0)) f_Mo_rainOf_12 rfl ?_
    refine x_is5 f_Mo_rainOf_13 rfl ?_
    refine x_il5 f_Mo_rainOf_15 ?_
    refine x_bipush (v := (nI 21)) f_Mo_rainOf_17 rfl ?_
    refine x_cmp_geN f_Mo_rainOf_19 (by omega) (by omega) (fun h => absurd h (by omega)) (fun _ => ?_)
    refine x_il2 f_Mo_rainOf_22 ?_
    refine x_if_eqN f_Mo_rainOf_23 (by omega) (fun _ => ?_) (fun h => absurd h (by omega))
    refine x_il3 f_Mo_rainOf_144 ?_
    refine x_ireturn f_Mo_rainOf_145 rfl ?_
    have h := hQ M1 r1 f1
    unfold rainN at h
    rw [if_pos h0] at h
    exact h
  · refine x_is2 f_Mo_rainOf_5 rfl ?_
    refine x_iconst (v := (-1)) f_Mo_rainOf_6 rfl ?_
    refine x_is3 f_Mo_rainOf_7 rfl ?_
    refine x_bipush (v := (nI 11)) f_Mo_rainOf_8 rfl ?_
    refine x_is4 f_Mo_rainOf_10 rfl ?_
    refine x_iconst (v := (nI 0)) f_Mo_rainOf_12 rfl ?_
    refine x_is5 f_Mo_rainOf_13 rfl ?_
    exact l_Mo_rainOf1 hI hj hb (by omega) M (fun M2 r2 f2 => hQ M2 r2 f2) M1 0 (by omega) r1 f1 _ _ _ _
theorem c_Mo_tellReach {M : mM} {j w : Nat} (hI : Inv s) (hR : RelM s M) (hj : j < s 1 1) (hw : w < 13) (hQ : ∀ M1, RelM s M1 → frH M M1 → Q M1 (some (.int (rchN s j w)))) : wp X (d + 7) n_Mo_tellReach Q 0 [.ref 55, .int (nI j), .int (nI w)] [] M := by
  obtain ⟨hn7, hg3, hmo⟩ := Inv_n hI
  obtain ⟨kb, fb, zb, rb, wb, ab⟩ := Inv_k hI
  obtain ⟨⟨p1, p2⟩, ⟨a1, a2, a3, a4, a5, a6, a7⟩, ⟨w1, w2, w3, w4⟩, r, sn, im⟩ := id hR
  have hwj := wb j hj
  have hwj2 : wat (s 1 1) (s 2) (s 3) (s 5) j < 100000 := by have h9 : wat (s 1 1) (s 2) (s 3) (s 5) j < 50000 := hwj; omega
  have hzj := zb j hj
  have q := hQ M hR (frH_refl _)
  have q2 := hQ (wrM M 62 (s 1 1) (sW s)) (RelM_wr hR (by omega)) (frH_wr (frH_refl _) (by omega))
  rcases (show w = 0 ∨ w = 1 ∨ w = 2 ∨ w = 3 ∨ w = 4 ∨ w = 5 ∨ w = 6 ∨ w = 7 ∨ w = 8 ∨ w = 9 ∨ w = 10 ∨ w = 11 ∨ w = 12 by omega) with rfl | rfl | rfl | rfl | rfl | rfl | rfl | rfl | rfl | rfl | rfl | rfl | rfl
  · refine x_il2 f_Mo_tellReach_0 ?_
    refine x_swIn (t := 68) f_Mo_tellReach_1 (by decide) (by decide) rfl ?_
    refine x_al0 f_Mo_tellReach_68 ?_
    refine x_getR f_Mo_tellReach_69 rfl rfl ?_
    refine x_il1 f_Mo_tellReach_72 ?_
    refine x_ialdV f_Mo_tellReach_73 rfl (by omega) (w1 j hj) ?_
    refine x_ireturn f_Mo_tellReach_74 rfl ?_
    exact q
  · refine x_il2 f_Mo_tellReach_0 ?_
    refine x_swIn (t := 75) f_Mo_tellReach_1 (by decide) (by decide) rfl ?_
    refine x_al0 f_Mo_tellReach_75 ?_
    refine x_getR f_Mo_tellReach_76 rfl rfl ?_
    refine x_il1 f_Mo_tellReach_79 ?_
    refine x_ialdV f_Mo_tellReach_80 rfl (by omega) (w2 j hj) ?_
    refine x_ireturn f_Mo_tellReach_81 rfl ?_
    exact q
  · refine x_il2 f_Mo_tellReach_0 ?_
    refine x_swIn (t := 82) f_Mo_tellReach_1 (by decide) (by decide) rfl ?_
    refine x_al0 f_Mo_tellReach_82 ?_
    refine x_getR f_Mo_tellReach_83 rfl rfl ?_
    refine x_il1 f_Mo_tellReach_86 ?_
    refine x_ialdV f_Mo_tellReach_87 rfl (by omega) (w3 j hj) ?_
    refine x_ireturn f_Mo_tellReach_88 rfl ?_
    exact q
  · refine x_il2 f_Mo_tellReach_0 ?_
    refine x_swIn (t := 89) f_Mo_tellReach_1 (by decide) (by decide) rfl ?_
    refine x_al0 f_Mo_tellReach_89 ?_
    refine x_getR f_Mo_tellReach_90 rfl rfl ?_
    refine x_il1 f_Mo_tellReach_93 ?_
    refine x_ialdV f_Mo_tellReach_94 rfl (by omega) (r j hj) ?_
    refine x_ireturn f_Mo_tellReach_95 rfl ?_
    exact q
  · refine x_il2 f_Mo_tellReach_0 ?_
    refine x_swIn (t := 96) f_Mo_tellReach_1 (by decide) (by decide) rfl ?_
    refine x_al0 f_Mo_tellReach_96 ?_
    refine x_il1 f_Mo_tellReach_97 ?_
    refine x_cV1i f_Mo_tellReach_98 rfl rfl (by decide) (Nat.le_of_ble_eq_true rfl) (Nat.le_of_ble_eq_true rfl) rfl (c_Mo_waterOf (RelM_w hI hR) hj ⟨_, rfl, ?_⟩)
    refine x_ireturn f_Mo_tellReach_101 rfl ?_
    exact q2
  · refine x_il2 f_Mo_tellReach_0 ?_
    refine x_swIn (t := 102) f_Mo_tellReach_1 (by decide) (by decide) rfl ?_
    refine x_al0 f_Mo_tellReach_102 ?_
    refine x_getR f_Mo_tellReach_103 rfl rfl ?_
    refine x_il1 f_Mo_tellReach_106 ?_
    refine x_ialdV f_Mo_tellReach_107 rfl (by omega) (w1 j hj) ?_
    refine x_al0 f_Mo_tellReach_108 ?_
    refine x_il1 f_Mo_tellReach_109 ?_
    refine x_cV1i f_Mo_tellReach_110 rfl rfl (by decide) (Nat.le_of_ble_eq_true rfl) (Nat.le_of_ble_eq_true rfl) rfl (c_Mo_waterOf (RelM_w hI hR) hj ⟨_, rfl, ?_⟩)
    refine x_cS2i f_Mo_tellReach_113 (by decide) (Nat.le_of_ble_eq_true rfl) (Nat.le_of_ble_eq_true rfl) rfl (c_Mo_out (kb j hj) hwj2 ⟨_, rfl, ?_⟩)
    refine x_ireturn f_Mo_tellReach_116 rfl ?_
    exact q2
  · have hfl := fldN_le (s 2 j) (sW s j) (s 4 j)
    refine x_il2 f_Mo_tellReach_0 ?_
    refine x_swIn (t := 117) f_Mo_tellReach_1 (by decide) (by decide) rfl ?_
    refine x_al0 f_Mo_tellReach_117 ?_
    refine x_getR f_Mo_tellReach_118 rfl rfl ?_
    refine x_il1 f_Mo_tellReach_121 ?_
    refine x_ialdV f_Mo_tellReach_122 rfl (by omega) (w1 j hj) ?_
    refine x_al0 f_Mo_tellReach_123 ?_
    refine x_il1 f_Mo_tellReach_124 ?_
    refine x_cV1i f_Mo_tellReach_125 rfl rfl (by decide) (Nat.le_of_ble_eq_true rfl) (Nat.le_of_ble_eq_true rfl) rfl (c_Mo_waterOf (RelM_w hI hR) hj ⟨_, rfl, ?_⟩)
    refine x_al0 f_Mo_tellReach_128 ?_
    refine x_getR f_Mo_tellReach_129 rfl rfl ?_
    refine x_il1 f_Mo_tellReach_132 ?_
    refine x_ialdV f_Mo_tellReach_133 rfl (by omega) ((wrM_o (by omega)).trans (w3 j hj)) ?_
    refine x_cS3i f_Mo_tellReach_134 (by decide) (Nat.le_of_ble_eq_true rfl) (Nat.le_of_ble_eq_true rfl) rfl (c_Mo_isFlood (kb j hj) hwj2 (by omega) ⟨_, rfl, ?_⟩)
    have q3 : Q (wrM M 62 (s 1 1) (sW s)) (some (.int (nI (fldN (s 2 j) (sW s j) (s 4 j))))) := q2
    refine x_if_eqN f_Mo_tellReach_137 (by have h9 : fldN (s 2 j) (wat (s 1 1) (s 2) (s 3) (s 5) j) (s 4 j) ≤ 1 := hfl; omega) (fun h => ?_) (fun h => ?_)
    · have h : fldN (s 2 j) (sW s j) (s 4 j) = 0 := h
      rw [h] at q3
      refine x_iconst (v := (nI 0)) f_Mo_tellReach_144 rfl ?_
      refine x_ireturn f_Mo_tellReach_145 rfl ?_
      exact q3
    · have h : 0 < fldN (s 2 j) (sW s j) (s 4 j) := h
      rw [show fldN (s 2 j) (sW s j) (s 4 j) = 1 by omega] at q3
      refine x_iconst (v := (nI 1)) f_Mo_tellReach_140 rfl ?_
      refine x_goto f_Mo_tellReach_141 ?_
      refine x_ireturn f_Mo_tellReach_145 rfl ?_
      exact q3
  · refine x_il2 f_Mo_tellReach_0 ?_
    refine x_swIn (t := 146) f_Mo_tellReach_1 (by decide) (by decide) rfl ?_
    refine x_al0 f_Mo_tellReach_146 ?_
    refine x_il1 f_Mo_tellReach_147 ?_
    refine x_cV1i f_Mo_tellReach_148 rfl rfl (by decide) (Nat.le_of_ble_eq_true rfl) (Nat.le_of_ble_eq_true rfl) rfl (c_Mo_atReach (by omega) a2 hg3 w4 (fun i hi => by have := ab i hi; omega) ⟨_, rfl, ?_⟩)
    refine x_ireturn f_Mo_tellReach_151 rfl ?_
    exact q
  · refine x_il2 f_Mo_tellReach_0 ?_
    refine x_swIn (t := 152) f_Mo_tellReach_1 (by decide) (by decide) rfl ?_
    refine x_al0 f_Mo_tellReach_152 ?_
    refine x_il1 f_Mo_tellReach_153 ?_
    refine x_cV1i f_Mo_tellReach_154 rfl rfl (by decide) (Nat.le_of_ble_eq_true rfl) (Nat.le_of_ble_eq_true rfl) rfl (c_Mo_wildsOf hI hR hj (fun M1 r1 f1 => ⟨_, rfl, ?_⟩))
    refine x_ireturn f_Mo_tellReach_157 rfl ?_
    exact hQ M1 r1 f1
  · refine x_il2 f_Mo_tellReach_0 ?_
    refine x_swIn (t := 158) f_Mo_tellReach_1 (by decide) (by decide) rfl ?_
    refine x_al0 f_Mo_tellReach_158 ?_
    refine x_il1 f_Mo_tellReach_159 ?_
    refine x_cV1i f_Mo_tellReach_160 rfl rfl (by decide) (Nat.le_of_ble_eq_true rfl) (Nat.le_of_ble_eq_true rfl) rfl (c_Mo_rainOf hI hR hj (fun M1 r1 f1 => ⟨_, rfl, ?_⟩))
    refine x_ireturn f_Mo_tellReach_163 rfl ?_
    exact hQ M1 r1 f1
  · refine x_il2 f_Mo_tellReach_0 ?_
    refine x_swIn (t := 164) f_Mo_tellReach_1 (by decide) (by decide) rfl ?_
    refine x_al0 f_Mo_tellReach_164 ?_
    refine x_il1 f_Mo_tellReach_165 ?_
    refine x_il2 f_Mo_tellReach_166 ?_
    refine x_bipush (v := (nI 10)) f_Mo_tellReach_167 rfl ?_
    refine x_isubN f_Mo_tellReach_169 (by omega) ?_
    refine x_cV2i f_Mo_tellReach_170 rfl rfl (by decide) (Nat.le_of_ble_eq_true rfl) (Nat.le_of_ble_eq_true rfl) rfl (c_Mo_barge (w := 0) (RelM_w hI hR) hj (by omega) ⟨_, rfl, ?_⟩)
    refine x_ireturn f_Mo_tellReach_173 rfl ?_
    exact q2
  · refine x_il2 f_Mo_tellReach_0 ?_
    refine x_swIn (t := 164) f_Mo_tellReach_1 (by decide) (by decide) rfl ?_
    refine x_al0 f_Mo_tellReach_164 ?_
    refine x_il1 f_Mo_tellReach_165 ?_
    refine x_il2 f_Mo_tellReach_166 ?_
    refine x_bipush (v := (nI 10)) f_Mo_tellReach_167 rfl ?_
    refine x_isubN f_Mo_tellReach_169 (by omega) ?_
    refine x_cV2i f_Mo_tellReach_170 rfl rfl (by decide) (Nat.le_of_ble_eq_true rfl) (Nat.le_of_ble_eq_true rfl) rfl (c_Mo_barge (w := 1) (RelM_w hI hR) hj (by omega) ⟨_, rfl, ?_⟩)
    refine x_ireturn f_Mo_tellReach_173 rfl ?_
    exact q2
  · have hs := srcN_le (s 5) j (s 1 1)
    refine x_il2 f_Mo_tellReach_0 ?_
    refine x_swIn (t := 174) f_Mo_tellReach_1 (by decide) (by decide) rfl ?_
    refine x_al0 f_Mo_tellReach_174 ?_
    refine x_il1 f_Mo_tellReach_175 ?_
    refine x_cV1i f_Mo_tellReach_176 rfl rfl (by decide) (Nat.le_of_ble_eq_true rfl) (Nat.le_of_ble_eq_true rfl) rfl (c_Mo_isSource (by omega) a1 hn7 r (fun i hi => by have := rb i hi; omega) ⟨_, rfl, ?_⟩)
    have q3 : Q M (some (.int (nI (srcN (s 5) j (s 1 1))))) := q
    refine x_if_eqN f_Mo_tellReach_179 (by omega) (fun h => ?_) (fun h => ?_)
    · rw [h] at q3
      refine x_iconst (v := (nI 0)) f_Mo_tellReach_186 rfl ?_
      refine x_ireturn f_Mo_tellReach_187 rfl ?_
      exact q3
    · rw [show srcN (s 5) j (s 1 1) = 1 by omega] at q3
      refine x_iconst (v := (nI 1)) f_Mo_tellReach_182 rfl ?_
      refine x_goto f_Mo_tellReach_183 ?_
      refine x_ireturn f_Mo_tellReach_187 rfl ?_
      exact q3
theorem c_Mo_reach {x y : Int32} (hI : Inv s) (hR : RelM s M) (hQ : ∀ M1, RelM s M1 → frC M M1 → Q M1 (some (.int (rcA s x y)))) : wp X (d + 8) n_Mo_reach Q 0 [.ref 55, .int x, .int y] [] M := by
  have hn7 := (Inv_n hI).1
  unfold rcA at hQ
  refine x_al0 f_Mo_reach_0 ?_
  refine x_il1 f_Mo_reach_1 ?_
  refine x_cV1i f_Mo_reach_2 rfl rfl (by decide) (Nat.le_of_ble_eq_true rfl) (Nat.le_of_ble_eq_true rfl) rfl (c_Mo_isReach hn7 hR.2.1.1 ⟨_, rfl, ?_⟩)
  refine x_if_eqN f_Mo_reach_5 (by have := hasI_le x (s 1 1); omega) (fun hx => ?_) (fun hx => ?_)
  · rw [if_pos hx] at hQ
    refine x_bipush (v := (-101)) f_Mo_reach_17 rfl ?_
    refine x_ireturn f_Mo_reach_19 rfl ?_
    exact hQ M hR (frC_refl _)
  · rw [if_neg (show ¬ hasI x (s 1 1) = 0 by omega)] at hQ
    obtain ⟨j, hj, rfl⟩ := hasI_of (by omega) hx
    refine x_al0 f_Mo_reach_8 ?_
    refine x_il1 f_Mo_reach_9 ?_
    refine x_il2 f_Mo_reach_10 ?_
    by_cases hy : hasI y 13 = 0
    · rw [if_pos hy] at hQ
      refine x_cV2i f_Mo_reach_11 rfl rfl (by decide) (Nat.le_of_ble_eq_true rfl) (Nat.le_of_ble_eq_true rfl) rfl ?_
      refine x_il2 f_Mo_tellReach_0 ?_
      refine x_swOut (t := 188) f_Mo_tellReach_1 (sw_out (n := 13) (by omega) (by omega) (hasI_0 hy)) rfl ?_
      refine x_bipush (v := (-102)) f_Mo_tellReach_188 rfl ?_
      refine x_ireturn f_Mo_tellReach_190 rfl ?_
      refine ⟨_, rfl, ?_⟩
      refine x_goto f_Mo_reach_14 ?_
      refine x_ireturn f_Mo_reach_19 rfl ?_
      exact hQ M hR (frC_refl _)
    · rw [if_neg hy] at hQ
      obtain ⟨w, hw, rfl⟩ := hasI_of (n := 13) (by omega) (Nat.pos_of_ne_zero hy)
      rw [nI_clamp (by omega), nI_clamp (by omega)] at hQ
      refine x_cV2i f_Mo_reach_11 rfl rfl (by decide) (Nat.le_of_ble_eq_true rfl) (Nat.le_of_ble_eq_true rfl) rfl (c_Mo_tellReach hI hR hj hw (fun M1 r1 f1 => ⟨_, rfl, ?_⟩))
      refine x_goto f_Mo_reach_14 ?_
      refine x_ireturn f_Mo_reach_19 rfl ?_
      exact hQ M1 r1 f1.1
end
