/-! small static methods of the class: truths are 0 and 1 -/
def outN (k w : Nat) : Nat := if k = 3 then (if 9 < w then 9 else w) else if k = 4 then w / 2 else w
def fldN (k w z : Nat) : Nat := if 20 < w + (if k = 2 then 2 * z else z) then 1 else 0
def brkN (k : Nat) : Nat := if k = 1 ∨ k = 4 then 1 else 0
def wafN (k z mo c : Nat) : Nat := if c = 0 then (if mo % 3 = 0 then (if 9 < z + 1 then 9 else z + 1) else z) else if brkN k = 0 ∨ mo % 2 = 0 then z - c else z
theorem outN_le (k w : Nat) : outN k w ≤ w := by
  unfold outN
  (repeat' split) <;> omega
theorem fldN_le (k w z : Nat) : fldN k w z ≤ 1 := by
  unfold fldN
  (repeat' split) <;> omega
theorem brkN_le (k : Nat) : brkN k ≤ 1 := by
  unfold brkN
  (repeat' split) <;> omega
theorem wafN_le {k z mo c : Nat} (h : z ≤ 9) : wafN k z mo c ≤ 9 := by
  unfold wafN
  (repeat' split) <;> omega
section
variable {X : (Nat → Int32) × Nat} {d : Nat} {Q : mM → Option Value → Prop} {M : mM}
theorem c_Int_bitCount {b : Nat} (hb : b < 1024) (hQ : Q M (some (.int (nI (popN b))))) : wp X (d + 1) n_Int_bitCount Q 0 [.int (nI b)] [] M := by
  rw [← bcI_pop b hb] at hQ
  refine x_il0 f_Int_bitCount_0 ?_
  refine x_il0 f_Int_bitCount_1 ?_
  refine x_iconst (v := (nI 1)) f_Int_bitCount_2 rfl ?_
  refine x_iushr f_Int_bitCount_3 ?_
  refine x_ldcw (v := (1431655765)) f_Int_bitCount_4 (by decide) ?_
  refine x_iand f_Int_bitCount_7 ?_
  refine x_isub f_Int_bitCount_8 ?_
  refine x_is0 f_Int_bitCount_9 ?_
  refine x_il0 f_Int_bitCount_10 ?_
  refine x_ldcw (v := (858993459)) f_Int_bitCount_11 (by decide) ?_
  refine x_iand f_Int_bitCount_14 ?_
  refine x_il0 f_Int_bitCount_15 ?_
  refine x_iconst (v := (nI 2)) f_Int_bitCount_16 rfl ?_
  refine x_iushr f_Int_bitCount_17 ?_
  refine x_ldcw (v := (858993459)) f_Int_bitCount_18 (by decide) ?_
  refine x_iand f_Int_bitCount_21 ?_
  first | refine x_iaddN f_Int_bitCount_22 ?_ | refine x_iadd f_Int_bitCount_22 ?_
  refine x_is0 f_Int_bitCount_23 ?_
  refine x_il0 f_Int_bitCount_24 ?_
  refine x_il0 f_Int_bitCount_25 ?_
  refine x_iconst (v := (nI 4)) f_Int_bitCount_26 rfl ?_
  refine x_iushr f_Int_bitCount_27 ?_
  first | refine x_iaddN f_Int_bitCount_28 ?_ | refine x_iadd f_Int_bitCount_28 ?_
  refine x_ldcw (v := (252645135)) f_Int_bitCount_29 (by decide) ?_
  refine x_iand f_Int_bitCount_32 ?_
  refine x_is0 f_Int_bitCount_33 ?_
  refine x_il0 f_Int_bitCount_34 ?_
  refine x_il0 f_Int_bitCount_35 ?_
  refine x_bipush (v := (nI 8)) f_Int_bitCount_36 rfl ?_
  refine x_iushr f_Int_bitCount_38 ?_
  first | refine x_iaddN f_Int_bitCount_39 ?_ | refine x_iadd f_Int_bitCount_39 ?_
  refine x_is0 f_Int_bitCount_40 ?_
  refine x_il0 f_Int_bitCount_41 ?_
  refine x_il0 f_Int_bitCount_42 ?_
  refine x_bipush (v := (nI 16)) f_Int_bitCount_43 rfl ?_
  refine x_iushr f_Int_bitCount_45 ?_
  first | refine x_iaddN f_Int_bitCount_46 ?_ | refine x_iadd f_Int_bitCount_46 ?_
  refine x_is0 f_Int_bitCount_47 ?_
  refine x_il0 f_Int_bitCount_48 ?_
  refine x_bipush (v := (nI 63)) f_Int_bitCount_49 rfl ?_
  refine x_iand f_Int_bitCount_51 ?_
  refine x_ireturn f_Int_bitCount_52 rfl ?_
  exact hQ
theorem c_RL_isBrook {k : Nat} (hk : k < 10) (hQ : Q M (some (.int (nI (brkN k))))) : wp X (d + 1) n_RL_isBrook Q 0 [.int (nI k)] [] M := by
  refine x_il0 f_RL_isBrook_0 ?_
  refine x_iconst (v := (nI 1)) f_RL_isBrook_1 rfl ?_
  refine x_cmp_eqN f_RL_isBrook_2 (by omega) (by omega) (fun h2 => ?_) (fun h2 => ?_)
  · refine x_iconst (v := (nI 1)) f_RL_isBrook_10 rfl ?_
    refine x_goto f_RL_isBrook_11 ?_
    refine x_zreturn f_RL_isBrook_15 rfl (by decide) ?_
    exact q_eq (by unfold brkN; (repeat' split) <;> omega) hQ
  · refine x_il0 f_RL_isBrook_5 ?_
    refine x_iconst (v := (nI 4)) f_RL_isBrook_6 rfl ?_
    refine x_cmp_neN f_RL_isBrook_7 (by omega) (by omega) (fun h7 => ?_) (fun h7 => ?_)
    · refine x_iconst (v := (nI 0)) f_RL_isBrook_14 rfl ?_
      refine x_zreturn f_RL_isBrook_15 rfl (by decide) ?_
      exact q_eq (by unfold brkN; (repeat' split) <;> omega) hQ
    · refine x_iconst (v := (nI 1)) f_RL_isBrook_10 rfl ?_
      refine x_goto f_RL_isBrook_11 ?_
      refine x_zreturn f_RL_isBrook_15 rfl (by decide) ?_
      exact q_eq (by unfold brkN; (repeat' split) <;> omega) hQ
theorem c_RL_outOf {k w : Nat} (hk : k < 10) (hw : w < 100000) (hQ : Q M (some (.int (nI (outN k w))))) : wp X (d + 1) n_RL_outOf Q 0 [.int (nI k), .int (nI w)] [] M := by
  refine x_il0 f_RL_outOf_0 ?_
  refine x_iconst (v := (nI 3)) f_RL_outOf_1 rfl ?_
  refine x_cmp_neN f_RL_outOf_2 (by omega) (by omega) (fun h2 => ?_) (fun h2 => ?_)
  · refine x_il0 f_RL_outOf_12 ?_
    refine x_iconst (v := (nI 4)) f_RL_outOf_13 rfl ?_
    refine x_cmp_neN f_RL_outOf_14 (by omega) (by omega) (fun h14 => ?_) (fun h14 => ?_)
    · refine x_il1 f_RL_outOf_23 ?_
      refine x_ireturn f_RL_outOf_24 rfl ?_
      exact q_eq (by unfold outN; (repeat' split) <;> omega) hQ
    · refine x_il1 f_RL_outOf_17 ?_
      refine x_iconst (v := (nI 2)) f_RL_outOf_18 rfl ?_
      refine x_idivN f_RL_outOf_19 (by omega) (by omega) (by omega) ?_
      refine x_goto f_RL_outOf_20 ?_
      refine x_ireturn f_RL_outOf_24 rfl ?_
      exact q_eq (by unfold outN; (repeat' split) <;> omega) hQ
  · refine x_il1 f_RL_outOf_5 ?_
    refine x_bipush (v := (nI 9)) f_RL_outOf_6 rfl ?_
    refine x_mminN f_RL_outOf_8 (Nat.le_of_ble_eq_true rfl) (by omega) (by omega) ?_
    refine x_ireturn f_RL_outOf_11 rfl ?_
    exact q_eq (by unfold outN; (repeat' split) <;> omega) hQ
theorem c_RL_overflows {k w z : Nat} (hk : k < 10) (hw : w < 100000) (hz : z < 100000) (hQ : Q M (some (.int (nI (fldN k w z))))) : wp X (d + 1) n_RL_overflows Q 0 [.int (nI k), .int (nI w), .int (nI z), .null] [] M := by
  refine x_il0 f_RL_overflows_0 ?_
  refine x_iconst (v := (nI 2)) f_RL_overflows_1 rfl ?_
  refine x_cmp_neN f_RL_overflows_2 (by omega) (by omega) (fun h2 => ?_) (fun h2 => ?_)
  · refine x_il2 f_RL_overflows_11 ?_
    refine x_is3 f_RL_overflows_12 rfl ?_
    refine x_il1 f_RL_overflows_13 ?_
    refine x_il3 f_RL_overflows_14 ?_
    first | refine x_iaddN f_RL_overflows_15 ?_ | refine x_iadd f_RL_overflows_15 ?_
    refine x_bipush (v := (nI 20)) f_RL_overflows_16 rfl ?_
    refine x_cmp_leN f_RL_overflows_18 (by omega) (by omega) (fun h18 => ?_) (fun h18 => ?_)
    · refine x_iconst (v := (nI 0)) f_RL_overflows_25 rfl ?_
      refine x_zreturn f_RL_overflows_26 rfl (by decide) ?_
      exact q_eq (by unfold fldN; (repeat' split) <;> omega) hQ
    · refine x_iconst (v := (nI 1)) f_RL_overflows_21 rfl ?_
      refine x_goto f_RL_overflows_22 ?_
      refine x_zreturn f_RL_overflows_26 rfl (by decide) ?_
      exact q_eq (by unfold fldN; (repeat' split) <;> omega) hQ
  · refine x_iconst (v := (nI 2)) f_RL_overflows_5 rfl ?_
    refine x_il2 f_RL_overflows_6 ?_
    first | refine x_imulN f_RL_overflows_7 ?_ | refine x_imul f_RL_overflows_7 ?_
    refine x_goto f_RL_overflows_8 ?_
    refine x_is3 f_RL_overflows_12 rfl ?_
    refine x_il1 f_RL_overflows_13 ?_
    refine x_il3 f_RL_overflows_14 ?_
    first | refine x_iaddN f_RL_overflows_15 ?_ | refine x_iadd f_RL_overflows_15 ?_
    refine x_bipush (v := (nI 20)) f_RL_overflows_16 rfl ?_
    refine x_cmp_leN f_RL_overflows_18 (by omega) (by omega) (fun h18 => ?_) (fun h18 => ?_)
    · refine x_iconst (v := (nI 0)) f_RL_overflows_25 rfl ?_
      refine x_zreturn f_RL_overflows_26 rfl (by decide) ?_
      exact q_eq (by unfold fldN; (repeat' split) <;> omega) hQ
    · refine x_iconst (v := (nI 1)) f_RL_overflows_21 rfl ?_
      refine x_goto f_RL_overflows_22 ?_
      refine x_zreturn f_RL_overflows_26 rfl (by decide) ?_
      exact q_eq (by unfold fldN; (repeat' split) <;> omega) hQ
theorem c_RL_wildAfter {k z mo c : Nat} (hk : k < 10) (hz : z < 100000) (hm : mo < 100000) (hc : c < 100000) (hQ : Q M (some (.int (nI (wafN k z mo c))))) : wp X (d + 2) n_RL_wildAfter Q 0 [.int (nI k), .int (nI z), .int (nI mo), .int (nI c), .null] [] M := by
  have hb := brkN_le k
  refine x_il3 f_RL_wildAfter_0 ?_
  refine x_if_neN f_RL_wildAfter_1 (by omega) (fun h1 => ?_) (fun h1 => ?_)
  · refine x_il0 f_RL_wildAfter_23 ?_
    refine x_cS1i f_RL_wildAfter_24 (by decide) (Nat.le_of_ble_eq_true rfl) (Nat.le_of_ble_eq_true rfl) rfl (c_RL_isBrook hk ⟨_, rfl, ?_⟩)
    refine x_if_eqN f_RL_wildAfter_27 (by omega) (fun h27 => ?_) (fun h27 => ?_)
    · refine x_iconst (v := (nI 1)) f_RL_wildAfter_36 rfl ?_
      refine x_goto f_RL_wildAfter_37 ?_
      refine x_is4 f_RL_wildAfter_41 rfl ?_
      refine x_il4 f_RL_wildAfter_43 ?_
      refine x_if_eqN f_RL_wildAfter_45 (by omega) (fun h45 => ?_) (fun h45 => ?_)
      · refine x_il1 f_RL_wildAfter_58 ?_
        refine x_ireturn f_RL_wildAfter_59 rfl ?_
        first | (exfalso; omega) | exact q_eq (by unfold wafN; (repeat' split) <;> omega) hQ | exact q_eqI (by rw [ny_maxsub (by omega) (by omega)]; exact congrArg nI (by unfold wafN; (repeat' split) <;> omega)) hQ
      · refine x_il1 f_RL_wildAfter_48 ?_
        refine x_il3 f_RL_wildAfter_49 ?_
        refine x_isub f_RL_wildAfter_50 ?_
        refine x_iconst (v := (nI 0)) f_RL_wildAfter_51 rfl ?_
        refine x_mmax f_RL_wildAfter_52 (Nat.le_of_ble_eq_true rfl) ?_
        refine x_goto f_RL_wildAfter_55 ?_
        refine x_ireturn f_RL_wildAfter_59 rfl ?_
        first | (exfalso; omega) | exact q_eq (by unfold wafN; (repeat' split) <;> omega) hQ | exact q_eqI (by rw [ny_maxsub (by omega) (by omega)]; exact congrArg nI (by unfold wafN; (repeat' split) <;> omega)) hQ
    · refine x_il2 f_RL_wildAfter_30 ?_
      refine x_iconst (v := (nI 2)) f_RL_wildAfter_31 rfl ?_
      refine x_iremN f_RL_wildAfter_32 (by omega) (by omega) (by omega) ?_
      refine x_if_neN f_RL_wildAfter_33 (by omega) (fun h33 => ?_) (fun h33 => ?_)
      · refine x_iconst (v := (nI 0)) f_RL_wildAfter_40 rfl ?_
        refine x_is4 f_RL_wildAfter_41 rfl ?_
        refine x_il4 f_RL_wildAfter_43 ?_
        refine x_if_eqN f_RL_wildAfter_45 (by omega) (fun h45 => ?_) (fun h45 => ?_)
        · refine x_il1 f_RL_wildAfter_58 ?_
          refine x_ireturn f_RL_wildAfter_59 rfl ?_
          first | (exfalso; omega) | exact q_eq (by unfold wafN; (repeat' split) <;> omega) hQ | exact q_eqI (by rw [ny_maxsub (by omega) (by omega)]; exact congrArg nI (by unfold wafN; (repeat' split) <;> omega)) hQ
        · refine x_il1 f_RL_wildAfter_48 ?_
          refine x_il3 f_RL_wildAfter_49 ?_
          refine x_isub f_RL_wildAfter_50 ?_
          refine x_iconst (v := (nI 0)) f_RL_wildAfter_51 rfl ?_
          refine x_mmax f_RL_wildAfter_52 (Nat.le_of_ble_eq_true rfl) ?_
          refine x_goto f_RL_wildAfter_55 ?_
          refine x_ireturn f_RL_wildAfter_59 rfl ?_
          first | (exfalso; omega) | exact q_eq (by unfold wafN; (repeat' split) <;> omega) hQ | exact q_eqI (by rw [ny_maxsub (by omega) (by omega)]; exact congrArg nI (by unfold wafN; (repeat' split) <;> omega)) hQ
      · refine x_iconst (v := (nI 1)) f_RL_wildAfter_36 rfl ?_
        refine x_goto f_RL_wildAfter_37 ?_
        refine x_is4 f_RL_wildAfter_41 rfl ?_
        refine x_il4 f_RL_wildAfter_43 ?_
        refine x_if_eqN f_RL_wildAfter_45 (by omega) (fun h45 => ?_) (fun h45 => ?_)
        · refine x_il1 f_RL_wildAfter_58 ?_
          refine x_ireturn f_RL_wildAfter_59 rfl ?_
          first | (exfalso; omega) | exact q_eq (by unfold wafN; (repeat' split) <;> omega) hQ | exact q_eqI (by rw [ny_maxsub (by omega) (by omega)]; exact congrArg nI (by unfold wafN; (repeat' split) <;> omega)) hQ
        · refine x_il1 f_RL_wildAfter_48 ?_
          refine x_il3 f_RL_wildAfter_49 ?_
          refine x_isub f_RL_wildAfter_50 ?_
          refine x_iconst (v := (nI 0)) f_RL_wildAfter_51 rfl ?_
          refine x_mmax f_RL_wildAfter_52 (Nat.le_of_ble_eq_true rfl) ?_
          refine x_goto f_RL_wildAfter_55 ?_
          refine x_ireturn f_RL_wildAfter_59 rfl ?_
          first | (exfalso; omega) | exact q_eq (by unfold wafN; (repeat' split) <;> omega) hQ | exact q_eqI (by rw [ny_maxsub (by omega) (by omega)]; exact congrArg nI (by unfold wafN; (repeat' split) <;> omega)) hQ
  · refine x_il2 f_RL_wildAfter_4 ?_
    refine x_iconst (v := (nI 3)) f_RL_wildAfter_5 rfl ?_
    refine x_iremN f_RL_wildAfter_6 (by omega) (by omega) (by omega) ?_
    refine x_if_neN f_RL_wildAfter_7 (by omega) (fun h7 => ?_) (fun h7 => ?_)
    · refine x_il1 f_RL_wildAfter_21 ?_
      refine x_ireturn f_RL_wildAfter_22 rfl ?_
      first | (exfalso; omega) | exact q_eq (by unfold wafN; (repeat' split) <;> omega) hQ | exact q_eqI (by rw [ny_maxsub (by omega) (by omega)]; exact congrArg nI (by unfold wafN; (repeat' split) <;> omega)) hQ
    · refine x_il1 f_RL_wildAfter_10 ?_
      refine x_iconst (v := (nI 1)) f_RL_wildAfter_11 rfl ?_
      first | refine x_iaddN f_RL_wildAfter_12 ?_ | refine x_iadd f_RL_wildAfter_12 ?_
      refine x_bipush (v := (nI 9)) f_RL_wildAfter_13 rfl ?_
      refine x_mminN f_RL_wildAfter_15 (Nat.le_of_ble_eq_true rfl) (by omega) (by omega) ?_
      refine x_goto f_RL_wildAfter_18 ?_
      refine x_ireturn f_RL_wildAfter_22 rfl ?_
      first | (exfalso; omega) | exact q_eq (by unfold wafN; (repeat' split) <;> omega) hQ | exact q_eqI (by rw [ny_maxsub (by omega) (by omega)]; exact congrArg nI (by unfold wafN; (repeat' split) <;> omega)) hQ
end
