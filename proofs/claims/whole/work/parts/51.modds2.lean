/-! the reference: odds told -/
theorem gcd_st {x y : Nat} : Nat.gcd x y = Nat.gcd y (x % y) := by rw [Nat.gcd_comm x y, Nat.gcd_rec y x, Nat.gcd_comm]
section
variable {X : (Nat → Int32) × Nat} {d : Nat} {Q : mM → Option Value → Prop} {M : mM} {s : St} {V : Nat → Nat}
theorem l_Mo_oddsOf1 {j k z : Nat} {w : Int32} (hj : j < 7) (hk : k < 10) (hz : z ≤ 9) (hK : M.1 57 j = nI k) (hZ : M.1 59 j = nI z) (hV : ∀ u, u < 90 → M.1 66 (90 * j + u) = nI (V u)) {v6 v7 : Value} (hQ : wp X (d + 4) n_Mo_oddsOf Q 81 [.ref 55, .int (nI j), .int w, .int (nI (abN V k z 90)), .int (nI (sumN V 90)), .int (nI 90), v6, v7] [] M) (i : Nat) (hi : i ≤ 90) : wp X (d + 4) n_Mo_oddsOf Q 12 [.ref 55, .int (nI j), .int w, .int (nI (abN V k z i)), .int (nI (sumN V i)), .int (nI i), v6, v7] [] M := by
  refine x_il5 f_Mo_oddsOf_12 ?_
  refine x_bipush (v := (nI 90)) f_Mo_oddsOf_14 rfl ?_
  refine x_cmp_geN f_Mo_oddsOf_16 (by omega) (by omega) (fun h => ?_) (fun h => ?_)
  · have e : i = 90 := by omega
    subst e
    exact hQ
  · have hb := fldN_le k i z
    have e1 : abN V k z (i + 1) = abN V k z i + fldN k i z * V i := rfl
    have hh := l_Mo_oddsOf1 hj hk hz hK hZ hV hQ (i + 1) (by omega)
    refine x_il3 f_Mo_oddsOf_19 ?_
    refine x_al0 f_Mo_oddsOf_20 ?_
    refine x_getR f_Mo_oddsOf_21 rfl rfl ?_
    refine x_il1 f_Mo_oddsOf_24 ?_
    refine x_ialdV f_Mo_oddsOf_25 rfl (by omega) (hK) ?_
    refine x_il5 f_Mo_oddsOf_26 ?_
    refine x_al0 f_Mo_oddsOf_28 ?_
    refine x_getR f_Mo_oddsOf_29 rfl rfl ?_
    refine x_il1 f_Mo_oddsOf_32 ?_
    refine x_ialdV f_Mo_oddsOf_33 rfl (by omega) (hZ) ?_
    refine x_cS3i f_Mo_oddsOf_34 (by decide) (Nat.le_of_ble_eq_true rfl) (Nat.le_of_ble_eq_true rfl) rfl (c_Mo_isFlood hk (by omega) (by omega) ⟨_, rfl, ?_⟩)
    refine x_if_eqN f_Mo_oddsOf_37 (by omega) (fun h1 => ?_) (fun h1 => ?_)
    · rw [e1, h1, Nat.zero_mul] at hh
      refine x_iconst (v := (nI 0)) f_Mo_oddsOf_55 rfl ?_
      first | refine x_iaddN f_Mo_oddsOf_56 ?_ | refine x_iadd f_Mo_oddsOf_56 ?_
      refine x_is3 f_Mo_oddsOf_57 rfl ?_
      refine x_il4 f_Mo_oddsOf_58 ?_
      refine x_al0 f_Mo_oddsOf_60 ?_
      refine x_getR f_Mo_oddsOf_61 rfl rfl ?_
      refine x_bipush (v := (nI 90)) f_Mo_oddsOf_64 rfl ?_
      refine x_il1 f_Mo_oddsOf_66 ?_
      first | refine x_imulN f_Mo_oddsOf_67 ?_ | refine x_imul f_Mo_oddsOf_67 ?_
      refine x_il5 f_Mo_oddsOf_68 ?_
      first | refine x_iaddN f_Mo_oddsOf_70 ?_ | refine x_iadd f_Mo_oddsOf_70 ?_
      refine x_ialdV f_Mo_oddsOf_71 rfl (by omega) (hV i h) ?_
      first | refine x_iaddN f_Mo_oddsOf_72 ?_ | refine x_iadd f_Mo_oddsOf_72 ?_
      refine x_is4 f_Mo_oddsOf_73 rfl ?_
      refine x_incN5 f_Mo_oddsOf_75 rfl ?_
      refine x_goto f_Mo_oddsOf_78 ?_
      exact hh
    · rw [e1, show fldN k i z = 1 by omega, Nat.one_mul] at hh
      refine x_al0 f_Mo_oddsOf_40 ?_
      refine x_getR f_Mo_oddsOf_41 rfl rfl ?_
      refine x_bipush (v := (nI 90)) f_Mo_oddsOf_44 rfl ?_
      refine x_il1 f_Mo_oddsOf_46 ?_
      first | refine x_imulN f_Mo_oddsOf_47 ?_ | refine x_imul f_Mo_oddsOf_47 ?_
      refine x_il5 f_Mo_oddsOf_48 ?_
      first | refine x_iaddN f_Mo_oddsOf_50 ?_ | refine x_iadd f_Mo_oddsOf_50 ?_
      refine x_ialdV f_Mo_oddsOf_51 rfl (by omega) (hV i h) ?_
      refine x_goto f_Mo_oddsOf_52 ?_
      first | refine x_iaddN f_Mo_oddsOf_56 ?_ | refine x_iadd f_Mo_oddsOf_56 ?_
      refine x_is3 f_Mo_oddsOf_57 rfl ?_
      refine x_il4 f_Mo_oddsOf_58 ?_
      refine x_al0 f_Mo_oddsOf_60 ?_
      refine x_getR f_Mo_oddsOf_61 rfl rfl ?_
      refine x_bipush (v := (nI 90)) f_Mo_oddsOf_64 rfl ?_
      refine x_il1 f_Mo_oddsOf_66 ?_
      first | refine x_imulN f_Mo_oddsOf_67 ?_ | refine x_imul f_Mo_oddsOf_67 ?_
      refine x_il5 f_Mo_oddsOf_68 ?_
      first | refine x_iaddN f_Mo_oddsOf_70 ?_ | refine x_iadd f_Mo_oddsOf_70 ?_
      refine x_ialdV f_Mo_oddsOf_71 rfl (by omega) (hV i h) ?_
      first | refine x_iaddN f_Mo_oddsOf_72 ?_ | refine x_iadd f_Mo_oddsOf_72 ?_
      refine x_is4 f_Mo_oddsOf_73 rfl ?_
      refine x_incN5 f_Mo_oddsOf_75 rfl ?_
      refine x_goto f_Mo_oddsOf_78 ?_
      exact hh
termination_by 90 - i
decreasing_by all_goals omega
theorem l_Mo_oddsOf2 {v1 v2 v3 v4 : Value} (u : Nat) : ∀ (x y : Nat) (v7 : Value), y ≤ u → x < 2 ^ 31 → y < 2 ^ 31 → (∀ v6 v7 : Value, wp X (d + 4) n_Mo_oddsOf Q 111 [.ref 55, v1, v2, v3, v4, .int (nI (Nat.gcd x y)), v6, v7] [] M) → wp X (d + 4) n_Mo_oddsOf Q 88 [.ref 55, v1, v2, v3, v4, .int (nI x), .int (nI y), v7] [] M := by
  induction u with
  | zero =>
    intro x y v7 hu hx hy hQ
    have e : y = 0 := by omega
    subst e
    refine x_il6 f_Mo_oddsOf_88 ?_
    refine x_if_leN f_Mo_oddsOf_90 (by omega) (fun _ => ?_) (fun h => absurd h (by omega))
    rw [Nat.gcd_zero_right] at hQ
    exact hQ _ _
  | succ u ih =>
    intro x y v7 hu hx hy hQ
    refine x_il6 f_Mo_oddsOf_88 ?_
    refine x_if_leN f_Mo_oddsOf_90 (by omega) (fun h => ?_) (fun h => ?_)
    · subst h
      rw [Nat.gcd_zero_right] at hQ
      exact hQ _ _
    · have hm := Nat.mod_lt x h
      refine x_il5 f_Mo_oddsOf_93 ?_
      refine x_il6 f_Mo_oddsOf_95 ?_
      refine x_iremN f_Mo_oddsOf_97 hx h hy ?_
      refine x_is7 f_Mo_oddsOf_98 rfl ?_
      refine x_il6 f_Mo_oddsOf_100 ?_
      refine x_is5 f_Mo_oddsOf_102 ?_ ?_
      · sorry
      · refine x_il7 f_Mo_oddsOf_104 ?_
        refine x_is6 f_Mo_oddsOf_106 rfl ?_
        refine x_goto f_Mo_oddsOf_108 ?_
        rw [gcd_st] at hQ
        exact ih y (x % y) _ (by omega) hy (by omega) hQ
end
