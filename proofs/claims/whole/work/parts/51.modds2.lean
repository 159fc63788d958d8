/-! the reference: odds told -/
theorem gcd_st {x y : Nat} : Nat.gcd x y = Nat.gcd y (x % y) := by rw [Nat.gcd_comm x y, Nat.gcd_rec y x, Nat.gcd_comm]
section
variable {X : (Nat → Int32) × Nat} {d : Nat} {Q : mM → Option Value → Prop} {M : mM} {s : St} {V : Nat → Nat}
theorem l_Mo_oddsOf1 {j k z : Nat} {w : Int32} (hj : j < 7) (hk : k < 10) (hz : z ≤ 9) (hK : M.1 57 j = nI k) (hZ : M.1 59 j = nI z) (hV : ∀ u, u < 90 → M.1 66 (90 * j + u) = nI (V u)) {v6 v7 : Value} (hQ : wp X (d + 4) n_Mo_oddsOf Q 81 [.ref 55, .int (nI j), .int w, .int (nI (abN V k z 90)), .int (nI (sumN V 90)), .int (nI 90), v6, v7] [] M) (i : Nat) (hi : i ≤ 90) : wp X (d + 4) n_Mo_oddsOf Q 12 [.ref 55, .int (nI j), .int w, .int (nI (abN V k z i)), .int (nI (sumN V i)), .int (nI i), v6, v7] [] M := by
  refine x_il5 f_Mo_oddsOf_12 ?_
  refine x_bipush (v := (nI 90)) f_Mo_oddsOf_14 rfl ?_
  refine x_cmp_geN f_Mo_oddsOf_16 (by omega) (by omega) (fun h => ?_) (fun h => ?_)
  · have e : i = 90 := by omega
    subst e
    exact hQ
  · have hb := fldN_le k i z
    have e1 : abN V k z (i + 1) = abN V k z i + fldN k i z * V i := rfl
    have hh := l_Mo_oddsOf1 hj hk hz hK hZ hV hQ (i + 1) (by omega)
    refine x_il3 f_Mo_oddsOf_19 ?_
    refine x_al0 f_Mo_oddsOf_20 ?_
    refine x_getR f_Mo_oddsOf_21 rfl rfl ?_
    refine x_il1 f_Mo_oddsOf_24 ?_
    refine x_ialdV f_Mo_oddsOf_25 rfl (by omega) (hK) ?_
    refine x_il5 f_Mo_oddsOf_26 ?_
    refine x_al0 f_Mo_oddsOf_28 ?_
    refine x_getR f_Mo_oddsOf_29 rfl rfl ?_
    refine x_il1 f_Mo_oddsOf_32 ?_
    refine x_ialdV f_Mo_oddsOf_33 rfl (by omega) (hZ) ?_
    refine x_cS3i f_Mo_oddsOf_34 (by decide) (Nat.le_of_ble_eq_true rfl) (Nat.le_of_ble_eq_true rfl) rfl (c_Mo_isFlood hk (by omega) (by omega) ⟨_, rfl, ?_⟩)
    refine x_if_eqN f_Mo_oddsOf_37 (by omega) (fun h1 => ?_) (fun h1 => ?_)
    · rw [e1, h1, Nat.zero_mul] at hh
      refine x_iconst (v := (nI 0)) f_Mo_oddsOf_55 rfl ?_
      first | refine x_iaddN f_Mo_oddsOf_56 ?_ | refine x_iadd f_Mo_oddsOf_56 ?_
      refine x_is3 f_Mo_oddsOf_57 rfl ?_
      refine x_il4 f_Mo_oddsOf_58 ?_
      refine x_al0 f_Mo_oddsOf_60 ?_
      refine x_getR f_Mo_oddsOf_61 rfl rfl ?_
      refine x_bipush (v := (nI 90)) f_Mo_oddsOf_64 rfl ?_
      refine x_il1 f_Mo_oddsOf_66 ?_
      first | refine x_imulN f_Mo_oddsOf_67 ?_ | refine x_imul f_Mo_oddsOf_67 ?_
      refine x_il5 f_Mo_oddsOf_68 ?_
      first | refine x_iaddN f_Mo_oddsOf_70 ?_ | refine x_iadd f_Mo_oddsOf_70 ?_
      refine x_ialdV f_Mo_oddsOf_71 rfl (by omega) (hV i h) ?_
      first | refine x_iaddN f_Mo_oddsOf_72 ?_ | refine x_iadd f_Mo_oddsOf_72 ?_
      refine x_is4 f_Mo_oddsOf_73 rfl ?_
      refine x_incN5 f_Mo_oddsOf_75 rfl ?_
      refine x_goto f_Mo_oddsOf_78 ?_
      exact hh
    · rw [e1, show fldN k i z = 1 by omega, Nat.one_mul] at hh
      refine x_al0 f_Mo_oddsOf_40 ?_
      refine x_getR f_Mo_oddsOf_41 rfl rfl ?_
      refine x_bipush (v := (nI 90)) f_Mo_oddsOf_44 rfl ?_
      refine x_il1 f_Mo_oddsOf_46 ?_
      first | refine x_imulN f_Mo_oddsOf_47 ?_ | refine x_imul f_Mo_oddsOf_47 ?_
      refine x_il5 f_Mo_oddsOf_48 ?_
      first | refine x_iaddN f_Mo_oddsOf_50 ?_ | refine x_iadd f_Mo_oddsOf_50 ?_
      refine x_ialdV f_Mo_oddsOf_51 rfl (by omega) (hV i h) ?_
      refine x_goto f_Mo_oddsOf_52 ?_
      first | refine x_iaddN f_Mo_oddsOf_56 ?_ | refine x_iadd f_Mo_oddsOf_56 ?_
      refine x_is3 f_Mo_oddsOf_57 rfl ?_
      refine x_il4 f_Mo_oddsOf_58 ?_
      refine x_al0 f_Mo_oddsOf_60 ?_
      refine x_getR f_Mo_oddsOf_61 rfl rfl ?_
      refine x_bipush (v := (nI 90)) f_Mo_oddsOf_64 rfl ?_
      refine x_il1 f_Mo_oddsOf_66 ?_
      first | refine x_imulN f_Mo_oddsOf_67 ?_ | refine x_imul f_Mo_oddsOf_67 ?_
      refine x_il5 f_Mo_oddsOf_68 ?_
      first | refine x_iaddN f_Mo_oddsOf_70 ?_ | refine x_iadd f_Mo_oddsOf_70 ?_
      refine x_ialdV f_Mo_oddsOf_71 rfl (by omega) (hV i h) ?_
      first | refine x_iaddN f_Mo_oddsOf_72 ?_ | refine x_iadd f_Mo_oddsOf_72 ?_
      refine x_is4 f_Mo_oddsOf_73 rfl ?_
      refine x_incN5 f_Mo_oddsOf_75 rfl ?_
      refine x_goto f_Mo_oddsOf_78 ?_
      exact hh
termination_by 90 - i
decreasing_by all_goals omega
theorem l_Mo_oddsOf2 {a1 a2 a3 a4 : Int32} (u : Nat) : ∀ (x y : Nat) (v7 : Value), y ≤ u → x < 2 ^ 31 → y < 2 ^ 31 → (∀ v6 v7 : Value, wp X (d + 4) n_Mo_oddsOf Q 111 [.ref 55, .int a1, .int a2, .int a3, .int a4, .int (nI (Nat.gcd x y)), v6, v7] [] M) → wp X (d + 4) n_Mo_oddsOf Q 88 [.ref 55, .int a1, .int a2, .int a3, .int a4, .int (nI x), .int (nI y), v7] [] M := by
  induction u with
  | zero =>
    intro x y v7 hu hx hy hQ
    have e : y = 0 := by omega
    subst e
    refine x_il6 f_Mo_oddsOf_88 ?_
    refine x_if_leN f_Mo_oddsOf_90 (by omega) (fun _ => ?_) (fun h => absurd h (by omega))
    rw [Nat.gcd_zero_right] at hQ
    exact hQ _ _
  | succ u ih =>
    intro x y v7 hu hx hy hQ
    refine x_il6 f_Mo_oddsOf_88 ?_
    refine x_if_leN f_Mo_oddsOf_90 (by omega) (fun h => ?_) (fun h => ?_)
    · subst h
      rw [Nat.gcd_zero_right] at hQ
      exact hQ _ _
    · have hm := Nat.mod_lt x h
      refine x_il5 f_Mo_oddsOf_93 ?_
      refine x_il6 f_Mo_oddsOf_95 ?_
      refine x_iremN f_Mo_oddsOf_97 hx h hy ?_
      refine x_is7 f_Mo_oddsOf_98 rfl ?_
      refine x_il6 f_Mo_oddsOf_100 ?_
      refine x_is5 f_Mo_oddsOf_102 rfl ?_
      refine x_il7 f_Mo_oddsOf_104 ?_
      refine x_is6 f_Mo_oddsOf_106 rfl ?_
      refine x_goto f_Mo_oddsOf_108 ?_
      rw [gcd_st] at hQ
      exact ih y (x % y) _ (by omega) hy (by omega) hQ
theorem c_Mo_oddsOf {M : mM} {j w : Nat} (hI : Inv s) (hR : RelM s M) (hj : j < s 1 1) (hw : w ≤ 1) (hQ : ∀ M1, RelM s M1 → frH M M1 → Q M1 (some (.int (nI (odN s j w))))) : wp X (d + 4) n_Mo_oddsOf Q 0 [.ref 55, .int (nI j), .int (nI w), .null, .null, .null, .null, .null] [] M := by
  obtain ⟨hn7, hg3, hmo⟩ := Inv_n hI
  obtain ⟨kb, fb, zb, rb, wb, ab⟩ := Inv_k hI
  have eV : vlo 90 (s 2) (s 5) (s 1 1) (fun r => swN (s 3) (srcN (s 5) r (s 1 1)) r) = sV s := vlo_U (by omega) hn7 rb _ _ (Nat.le_refl _) (Inv_bd hI)
  obtain ⟨p, p1, p2, p3, p4⟩ := BdV_1 hn7 hj (sV_bd hI)
  have h14 : 2 ^ p ≤ 2 ^ 14 := Nat.pow_le_pow_right (by omega) p1
  have hp0 : 0 < 2 ^ p := Nat.two_pow_pos p
  have eT : sumN (sV s j) 90 = odT s j := sumN_tail (n := 85) (fun u hu => p3 u (by omega)) 90 (by omega)
  have eU : abN (sV s j) (s 2 j) (s 4 j) 90 = odU s j := sumN_tail (n := 85) (fun u hu => by rw [p3 u (by omega), Nat.mul_zero]) 90 (by omega)
  have hT : odT s j = 2 ^ p := p2
  have hU : odU s j ≤ odT s j := abN_le 85
  have hg := Nat.gcd_pos_of_pos_left (odU s j) (show 0 < odT s j by omega)
  have hgl := Nat.gcd_le_left (odU s j) (show 0 < odT s j by omega)
  refine x_al0 f_Mo_oddsOf_0 ?_
  refine x_cV0v f_Mo_oddsOf_1 rfl rfl (by decide) (Nat.le_of_ble_eq_true rfl) (Nat.le_of_ble_eq_true rfl) rfl (c_Mo_layWays (RelM_w hI hR) (fun M1 f1 o1 => ⟨rfl, ?_⟩))
  rw [eV] at o1
  have R1 : RelM s M1 := RelM_o hR (fun a i h => f1.1 a i (by omega) (by omega))
  have F1 : frH M M1 := ⟨fun a i h => f1.1 a i (by omega) (by omega), f1.2⟩
  refine x_iconst (v := (nI 0)) f_Mo_oddsOf_4 rfl ?_
  refine x_is3 f_Mo_oddsOf_5 rfl ?_
  refine x_iconst (v := (nI 0)) f_Mo_oddsOf_6 rfl ?_
  refine x_is4 f_Mo_oddsOf_7 rfl ?_
  refine x_iconst (v := (nI 0)) f_Mo_oddsOf_9 rfl ?_
  refine x_is5 f_Mo_oddsOf_10 rfl ?_
  refine l_Mo_oddsOf1 (V := sV s j) (by omega) (kb j hj) (zb j hj) (R1.2.2.1.1 j hj) (R1.2.2.1.2.2.1 j hj) (o1 j hj) ?_ 0 (by omega)
  rw [eT, eU]
  refine x_il4 f_Mo_oddsOf_81 ?_
  refine x_is5 f_Mo_oddsOf_83 rfl ?_
  refine x_il3 f_Mo_oddsOf_85 ?_
  refine x_is6 f_Mo_oddsOf_86 rfl ?_
  refine l_Mo_oddsOf2 (odU s j) (odT s j) (odU s j) _ (Nat.le_refl _) (by omega) (by omega) (fun v6 v7 => ?_)
  have hq := hQ M1 R1 F1
  unfold odN at hq
  refine x_il2 f_Mo_oddsOf_111 ?_
  refine x_if_neN f_Mo_oddsOf_112 (by omega) (fun h => ?_) (fun h => ?_)
  · rw [if_neg (by omega)] at hq
    refine x_il4 f_Mo_oddsOf_122 ?_
    refine x_il5 f_Mo_oddsOf_124 ?_
    refine x_idivN f_Mo_oddsOf_126 (by omega) hg (by omega) ?_
    refine x_ireturn f_Mo_oddsOf_127 rfl ?_
    exact hq
  · rw [if_pos h] at hq
    refine x_il3 f_Mo_oddsOf_115 ?_
    refine x_il5 f_Mo_oddsOf_116 ?_
    refine x_idivN f_Mo_oddsOf_118 (by omega) hg (by omega) ?_
    refine x_goto f_Mo_oddsOf_119 ?_
    refine x_ireturn f_Mo_oddsOf_127 rfl ?_
    exact hq
theorem c_Mo_odds {x y : Int32} (hI : Inv s) (hR : RelM s M) (hQ : ∀ M1, RelM s M1 → frC M M1 → Q M1 (some (.int (odA s x y)))) : wp X (d + 5) n_Mo_odds Q 0 [.ref 55, .int x, .int y] [] M := by
  have hn7 := (Inv_n hI).1
  unfold odA at hQ
  refine x_al0 f_Mo_odds_0 ?_
  refine x_il1 f_Mo_odds_1 ?_
  refine x_cV1i f_Mo_odds_2 rfl rfl (by decide) (Nat.le_of_ble_eq_true rfl) (Nat.le_of_ble_eq_true rfl) rfl (c_Mo_isReach hn7 hR.2.1.1 ⟨_, rfl, ?_⟩)
  refine x_if_neN f_Mo_odds_5 (by have := hasI_le x (s 1 1); omega) (fun hx => ?_) (fun hx => ?_)
  · rw [if_neg (show ¬ hasI x (s 1 1) = 0 by omega)] at hQ
    refine x_il2 f_Mo_odds_11 ?_
    refine x_i2l f_Mo_odds_12 ?_
    refine x_lconst (v := 0) f_Mo_odds_13 rfl ?_
    refine x_lconst (v := 1) f_Mo_odds_14 rfl ?_
    refine x_cS3i f_Mo_odds_15 (by decide) (Nat.le_of_ble_eq_true rfl) (Nat.le_of_ble_eq_true rfl) rfl (c_Mo_in (lo := 0) (hi := ((2 : Nat) : Int) - 1) (by decide) (by decide) ⟨_, rfl, ?_⟩)
    rw [inN_has (by omega)]
    refine x_if_eqN f_Mo_odds_18 (by have := hasI_le y 2; omega) (fun hy => ?_) (fun hy => ?_)
    · rw [if_pos hy] at hQ
      refine x_bipush (v := (-102)) f_Mo_odds_30 rfl ?_
      refine x_ireturn f_Mo_odds_32 rfl ?_
      exact hQ M hR (frC_refl _)
    · rw [if_neg (show ¬ hasI y 2 = 0 by omega)] at hQ
      obtain ⟨j, hj, rfl⟩ := hasI_of (by omega) hx
      obtain ⟨k, hk, rfl⟩ := hasI_of (n := 2) (by omega) hy
      rw [nI_clamp (by omega), nI_clamp (by omega)] at hQ
      refine x_al0 f_Mo_odds_21 ?_
      refine x_il1 f_Mo_odds_22 ?_
      refine x_il2 f_Mo_odds_23 ?_
      refine x_cV2i f_Mo_odds_24 rfl rfl (by decide) (Nat.le_of_ble_eq_true rfl) (Nat.le_of_ble_eq_true rfl) rfl (c_Mo_oddsOf hI hR hj (by omega) (fun M1 r1 f1 => ⟨_, rfl, ?_⟩))
      refine x_goto f_Mo_odds_27 ?_
      refine x_ireturn f_Mo_odds_32 rfl ?_
      exact hQ M1 r1 f1.1
  · rw [if_pos hx] at hQ
    refine x_bipush (v := (-101)) f_Mo_odds_8 rfl ?_
    refine x_ireturn f_Mo_odds_10 rfl ?_
    exact hQ M hR (frC_refl _)
end
