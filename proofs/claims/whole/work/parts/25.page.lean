/-! the page -/
def kcN (j : Nat) : Nat := ([114, 98, 109, 119, 112] : List Nat).getD j 0
theorem kch_kcN : ∀ j, j < 5 → kch j = nI (kcN j) := by decide
theorem kcN_lt : ∀ j, j < 5 → kcN j < 200 := by decide
/-- a letter's kind, 1 more; 0: it is none -/
def kndN (c : Nat) : Nat := if c = 114 then 1 else if c = 98 then 2 else if c = 109 then 3 else if c = 119 then 4 else if c = 112 then 5 else 0
theorem kndN_le (c : Nat) : kndN c ≤ 5 := by
  unfold kndN
  (repeat' split) <;> omega
theorem kndN_no {c : Nat} (h : ∀ j, j < 5 → kcN j ≠ c) : kndN c = 0 := by
  have h0 := h 0 (by omega)
  have h1 := h 1 (by omega)
  have h2 := h 2 (by omega)
  have h3 := h 3 (by omega)
  have h4 := h 4 (by omega)
  simp only [kcN, List.getD_cons_zero, List.getD_cons_succ] at h0 h1 h2 h3 h4
  unfold kndN
  (repeat' split) <;> omega
theorem kndN_at : ∀ j, j < 5 → kndN (kcN j) = j + 1 := by decide
section
variable {X : (Nat → Int32) × Nat} {d mi : Nat} {Q : mM → Option Value → Prop} {pc nx : Nat} {tg : List Nat} {L S : List Value} {M : mM}
theorem x_stcharN {ix j : Nat} (hf : fx mi pc = some (.invokevirtual ix, nx, [904, 1])) (hw : catS S ≤ 8) (hj : j < 5) (n0 : wp X (d + 1) mi Q nx L (.int (nI (kcN j)) :: S) M) : wp X (d + 1) mi Q pc L (.int (nI j) :: .ref 1001 :: S) M := x_stchar hf hw (vp_in_nI hj (by omega)) (by rw [nI_clamp (by omega), kch_kcN j hj]; exact n0)
end
/-- whether the letter c may stand at place i of the reaches -/
def rfit (i c : Nat) : Nat :=
  if i % 5 = 0 then (if kndN c = 0 then 0 else 1)
  else if i % 5 = 1 then (if 49 ≤ c ∧ c ≤ 57 then 1 else 0)
  else if i % 5 = 2 then (if 48 ≤ c ∧ c ≤ 57 then 1 else 0)
  else if i % 5 = 3 then (if c = 45 ∨ (48 ≤ c ∧ c < 48 + i / 5) then 1 else 0)
  else (if (c = 44 ∧ i / 5 + 1 < 7) ∨ (c = 59 ∧ 2 ≤ i / 5 + 1) then 1 else 0)
/-- whether c may stand b behind the semicolon at s -/
def gfit (s b c : Nat) : Nat := if b % 2 = 0 then (if 48 ≤ c ∧ c < 48 + (s + 1) / 5 then 1 else 0) else (if c = 44 ∧ b / 2 + 1 < 3 then 1 else 0)
/-- e: the semicolon's place, 1 more; 0: there was none -/
def fitN (e i c : Nat) : Nat := if e = 0 then rfit i c else gfit (e - 1) (i - e) c
theorem fitN_le (e i c : Nat) : fitN e i c ≤ 1 := by
  unfold fitN rfit gfit
  (repeat' split) <;> omega
/-- the first fault, and where the semicolon was till there; k more letters to look at, from i on -/
def ffn (C : Nat → Nat) : Nat → Nat → Nat → Nat × Nat
  | 0, i, e => (i, e)
  | k + 1, i, e => if fitN e i (C i) = 0 then (i, e) else ffn C k (i + 1) (if C i = 59 then i + 1 else e)
/-- the first semicolon's place, 1 more -/
def scn (C : Nat → Nat) : Nat → Nat → Nat
  | 0, _ => 0
  | k + 1, i => if C i = 59 then i + 1 else scn C k (i + 1)
section
variable {X : (Nat → Int32) × Nat} {d : Nat} {Q : mM → Option Value → Prop} {M : mM}
theorem l_Page_kindTold {c : Nat} (hc : c < 200) (hQ : Q M (some (.int (iv (kndN c))))) (i : Nat) (hi : i ≤ 5) (h : ∀ j, j < i → kcN j ≠ c) : wp X (d + 1) n_Page_kindTold Q 2 [.int (nI c), .int (nI i)] [] M := by
  refine x_il1 f_Page_kindTold_2 ?_
  refine x_ldcS f_Page_kindTold_3 rfl ?_
  refine x_stlen f_Page_kindTold_5 (Nat.le_of_ble_eq_true rfl) ?_
  show wp X (d + 1) n_Page_kindTold Q 8 [.int (nI c), .int (nI i)] [.int (nI 5), .int (nI i)] M
  refine x_cmp_geN f_Page_kindTold_8 (by omega) (by omega) (fun h8 => ?_) (fun h8 => ?_)
  · refine x_iconst (v := (-1)) f_Page_kindTold_29 rfl ?_
    refine x_ireturn f_Page_kindTold_30 rfl ?_
    have e := kndN_no (c := c) (fun j hj => h j (by omega))
    rw [e] at hQ
    exact hQ
  · have hb := kcN_lt i h8
    refine x_ldcS f_Page_kindTold_11 rfl ?_
    refine x_il1 f_Page_kindTold_13 ?_
    refine x_stcharN f_Page_kindTold_14 (Nat.le_of_ble_eq_true rfl) (by omega) ?_
    refine x_il0 f_Page_kindTold_17 ?_
    refine x_cmp_neN f_Page_kindTold_18 (by omega) (by omega) (fun h18 => ?_) (fun h18 => ?_)
    · refine x_incN1 f_Page_kindTold_23 rfl ?_
      refine x_goto f_Page_kindTold_26 ?_
      exact l_Page_kindTold hc hQ (i + 1) (by omega) (fun j hj => by rcases (show j < i ∨ j = i by omega) with q | q; exact h j q; subst q; exact h18)
    · refine x_il1 f_Page_kindTold_21 ?_
      refine x_ireturn f_Page_kindTold_22 rfl ?_
      rw [← h18, kndN_at i h8] at hQ
      exact hQ
  termination_by 5 - i
  decreasing_by omega
theorem c_Page_kindTold {c : Nat} (hc : c < 200) (hQ : Q M (some (.int (iv (kndN c))))) : wp X (d + 1) n_Page_kindTold Q 0 [.int (nI c), .null] [] M := by
  refine x_iconst (v := (nI 0)) f_Page_kindTold_0 rfl ?_
  refine x_is1 f_Page_kindTold_1 rfl ?_
  exact l_Page_kindTold hc hQ 0 (by omega) (fun j hj => absurd hj (by omega))
theorem c_RL_isKind {x : Int32} (hQ : Q M (some (.int (nI (hasI x 5))))) : wp X (d + 1) n_RL_isKind Q 0 [.int x] [] M := by
  refine x_il0 f_RL_isKind_0 ?_
  refine x_if_lt f_RL_isKind_1 (fun h1 => ?_) (fun h1 => ?_)
  · refine x_iconst (v := (nI 0)) f_RL_isKind_18 rfl ?_
    refine x_zreturn f_RL_isKind_19 rfl (by decide) ?_
    exact q_eq (by unfold hasI; rw [if_pos h1]) hQ
  · refine x_il0 f_RL_isKind_4 ?_
    refine x_ldcwS f_RL_isKind_5 rfl ?_
    refine x_stlen f_RL_isKind_8 (Nat.le_of_ble_eq_true rfl) ?_
    refine x_cmp_ge f_RL_isKind_11 (fun h11 => ?_) (fun h11 => ?_)
    · refine x_iconst (v := (nI 0)) f_RL_isKind_18 rfl ?_
      refine x_zreturn f_RL_isKind_19 rfl (by decide) ?_
      exact q_eq (by unfold hasI; rw [if_neg h1, if_pos (show nI 5 ≤ x from h11)]) hQ
    · refine x_iconst (v := (nI 1)) f_RL_isKind_14 rfl ?_
      refine x_goto f_RL_isKind_15 ?_
      refine x_zreturn f_RL_isKind_19 rfl (by decide) ?_
      exact q_eq (by unfold hasI; rw [if_neg h1, if_neg (show ¬ nI 5 ≤ x from h11)]) hQ
theorem c_Page_reachesAheadOf {s : Nat} (hs : s < 1000) (hQ : Q M (some (.int (nI ((s + 1) / 5))))) : wp X (d + 1) n_Page_reachesAheadOf Q 0 [.int (nI s)] [] M := by
  refine x_il0 f_Page_reachesAheadOf_0 ?_
  refine x_iconst (v := (nI 1)) f_Page_reachesAheadOf_1 rfl ?_
  first | refine x_iaddN f_Page_reachesAheadOf_2 ?_ | refine x_iadd f_Page_reachesAheadOf_2 ?_
  refine x_iconst (v := (nI 5)) f_Page_reachesAheadOf_3 rfl ?_
  refine x_idivN f_Page_reachesAheadOf_4 (by omega) (by omega) (by omega) ?_
  refine x_ireturn f_Page_reachesAheadOf_5 rfl ?_
  exact hQ
theorem c_Page_endsReach {q c : Nat} (hq : q < 1000) (hc : c < 200) (hQ : Q M (some (.int (nI (if (c = 44 ∧ q < 7) ∨ (c = 59 ∧ 2 ≤ q) then 1 else 0))))) : wp X (d + 1) n_Page_endsReach Q 0 [.int (nI q), .int (nI c)] [] M := by
  refine x_il1 f_Page_endsReach_0 ?_
  refine x_bipush (v := (nI 44)) f_Page_endsReach_1 rfl ?_
  refine x_cmp_neN f_Page_endsReach_3 (by omega) (by omega) (fun h3 => ?_) (fun h3 => ?_)
  · refine x_il1 f_Page_endsReach_18 ?_
    refine x_bipush (v := (nI 59)) f_Page_endsReach_19 rfl ?_
    refine x_cmp_neN f_Page_endsReach_21 (by omega) (by omega) (fun h21 => ?_) (fun h21 => ?_)
    · refine x_iconst (v := (nI 0)) f_Page_endsReach_33 rfl ?_
      refine x_zreturn f_Page_endsReach_34 rfl (by decide) ?_
      exact q_eq (by (repeat' split) <;> omega) hQ
    · refine x_il0 f_Page_endsReach_24 ?_
      refine x_iconst (v := (nI 2)) f_Page_endsReach_25 rfl ?_
      refine x_cmp_ltN f_Page_endsReach_26 (by omega) (by omega) (fun h26 => ?_) (fun h26 => ?_)
      · refine x_iconst (v := (nI 0)) f_Page_endsReach_33 rfl ?_
        refine x_zreturn f_Page_endsReach_34 rfl (by decide) ?_
        exact q_eq (by (repeat' split) <;> omega) hQ
      · refine x_iconst (v := (nI 1)) f_Page_endsReach_29 rfl ?_
        refine x_goto f_Page_endsReach_30 ?_
        refine x_zreturn f_Page_endsReach_34 rfl (by decide) ?_
        exact q_eq (by (repeat' split) <;> omega) hQ
  · refine x_il0 f_Page_endsReach_6 ?_
    refine x_bipush (v := (nI 7)) f_Page_endsReach_7 rfl ?_
    refine x_cmp_geN f_Page_endsReach_9 (by omega) (by omega) (fun h9 => ?_) (fun h9 => ?_)
    · refine x_iconst (v := (nI 0)) f_Page_endsReach_16 rfl ?_
      refine x_zreturn f_Page_endsReach_17 rfl (by decide) ?_
      exact q_eq (by (repeat' split) <;> omega) hQ
    · refine x_iconst (v := (nI 1)) f_Page_endsReach_12 rfl ?_
      refine x_goto f_Page_endsReach_13 ?_
      refine x_zreturn f_Page_endsReach_17 rfl (by decide) ?_
      exact q_eq (by (repeat' split) <;> omega) hQ
theorem c_Page_fitsGoverness {b n c : Nat} (hb : b < 1000) (hn : n < 1000) (hc : c < 200) (hQ : Q M (some (.int (nI (if b % 2 = 0 then (if 48 ≤ c ∧ c < 48 + n then 1 else 0) else (if c = 44 ∧ b / 2 + 1 < 3 then 1 else 0)))))) : wp X (d + 1) n_Page_fitsGoverness Q 0 [.int (nI b), .int (nI n), .int (nI c)] [] M := by
  refine x_il0 f_Page_fitsGoverness_0 ?_
  refine x_iconst (v := (nI 2)) f_Page_fitsGoverness_1 rfl ?_
  refine x_iremN f_Page_fitsGoverness_2 (by omega) (by omega) (by omega) ?_
  refine x_if_neN f_Page_fitsGoverness_3 (by omega) (fun h3 => ?_) (fun h3 => ?_)
  · refine x_il2 f_Page_fitsGoverness_26 ?_
    refine x_bipush (v := (nI 44)) f_Page_fitsGoverness_27 rfl ?_
    refine x_cmp_neN f_Page_fitsGoverness_29 (by omega) (by omega) (fun h29 => ?_) (fun h29 => ?_)
    · refine x_iconst (v := (nI 0)) f_Page_fitsGoverness_45 rfl ?_
      refine x_zreturn f_Page_fitsGoverness_46 rfl (by decide) ?_
      exact q_eq (by (repeat' split) <;> omega) hQ
    · refine x_il0 f_Page_fitsGoverness_32 ?_
      refine x_iconst (v := (nI 2)) f_Page_fitsGoverness_33 rfl ?_
      refine x_idivN f_Page_fitsGoverness_34 (by omega) (by omega) (by omega) ?_
      refine x_iconst (v := (nI 1)) f_Page_fitsGoverness_35 rfl ?_
      first | refine x_iaddN f_Page_fitsGoverness_36 ?_ | refine x_iadd f_Page_fitsGoverness_36 ?_
      refine x_iconst (v := (nI 3)) f_Page_fitsGoverness_37 rfl ?_
      refine x_cmp_geN f_Page_fitsGoverness_38 (by omega) (by omega) (fun h38 => ?_) (fun h38 => ?_)
      · refine x_iconst (v := (nI 0)) f_Page_fitsGoverness_45 rfl ?_
        refine x_zreturn f_Page_fitsGoverness_46 rfl (by decide) ?_
        exact q_eq (by (repeat' split) <;> omega) hQ
      · refine x_iconst (v := (nI 1)) f_Page_fitsGoverness_41 rfl ?_
        refine x_goto f_Page_fitsGoverness_42 ?_
        refine x_zreturn f_Page_fitsGoverness_46 rfl (by decide) ?_
        exact q_eq (by (repeat' split) <;> omega) hQ
  · refine x_il2 f_Page_fitsGoverness_6 ?_
    refine x_bipush (v := (nI 48)) f_Page_fitsGoverness_7 rfl ?_
    refine x_cmp_ltN f_Page_fitsGoverness_9 (by omega) (by omega) (fun h9 => ?_) (fun h9 => ?_)
    · refine x_iconst (v := (nI 0)) f_Page_fitsGoverness_24 rfl ?_
      refine x_zreturn f_Page_fitsGoverness_25 rfl (by decide) ?_
      exact q_eq (by (repeat' split) <;> omega) hQ
    · refine x_il2 f_Page_fitsGoverness_12 ?_
      refine x_bipush (v := (nI 48)) f_Page_fitsGoverness_13 rfl ?_
      refine x_il1 f_Page_fitsGoverness_15 ?_
      first | refine x_iaddN f_Page_fitsGoverness_16 ?_ | refine x_iadd f_Page_fitsGoverness_16 ?_
      refine x_cmp_geN f_Page_fitsGoverness_17 (by omega) (by omega) (fun h17 => ?_) (fun h17 => ?_)
      · refine x_iconst (v := (nI 0)) f_Page_fitsGoverness_24 rfl ?_
        refine x_zreturn f_Page_fitsGoverness_25 rfl (by decide) ?_
        exact q_eq (by (repeat' split) <;> omega) hQ
      · refine x_iconst (v := (nI 1)) f_Page_fitsGoverness_20 rfl ?_
        refine x_goto f_Page_fitsGoverness_21 ?_
        refine x_zreturn f_Page_fitsGoverness_25 rfl (by decide) ?_
        exact q_eq (by (repeat' split) <;> omega) hQ
theorem c_Page_fitsReach {i c : Nat} (hi : i < 1000) (hc : c < 200) (hQ : Q M (some (.int (nI (rfit i c))))) : wp X (d + 2) n_Page_fitsReach Q 0 [.int (nI (i / 5)), .int (nI (i % 5)), .int (nI c)] [] M := by
  have h5 : i % 5 < 5 := Nat.mod_lt _ (by omega)
  have hkl := kndN_le c
  unfold rfit at hQ
  generalize hp : i % 5 = p at hQ h5 ⊢
  have hq : i / 5 < 300 := by omega
  generalize i / 5 = q at hQ hq ⊢
  rcases (show p = 0 ∨ p = 1 ∨ p = 2 ∨ p = 3 ∨ p = 4 by omega) with rfl | rfl | rfl | rfl | rfl
  · refine x_il1 f_Page_fitsReach_0 ?_
    refine x_swIn (t := 32) f_Page_fitsReach_1 (by decide) (by decide) rfl ?_
    refine x_il2 f_Page_fitsReach_32 ?_
    refine x_cS1i f_Page_fitsReach_33 (by decide) (Nat.le_of_ble_eq_true rfl) (Nat.le_of_ble_eq_true rfl) rfl (c_Page_kindTold hc ⟨_, rfl, ?_⟩)
    refine x_iconst (v := (-1)) f_Page_fitsReach_36 rfl ?_
    refine x_cmp_eq f_Page_fitsReach_37 (fun h => ?_) (fun h => ?_)
    · refine x_iconst (v := (nI 0)) f_Page_fitsReach_44 rfl ?_
      refine x_zreturn f_Page_fitsReach_45 rfl (by decide) ?_
      have h0 : kndN c = 0 := by
        cases hk : kndN c with
        | zero => rfl
        | succ t =>
          rw [hk] at h
          exact absurd (show nI t < 0 by rw [show nI t = -1 from h]; decide) (nI_pos (by omega))
      exact q_eq (by (repeat' split) <;> omega) hQ
    · refine x_iconst (v := (nI 1)) f_Page_fitsReach_40 rfl ?_
      refine x_goto f_Page_fitsReach_41 ?_
      refine x_zreturn f_Page_fitsReach_45 rfl (by decide) ?_
      have h0 : kndN c ≠ 0 := fun z => h (by rw [z]; rfl)
      exact q_eq (by (repeat' split) <;> omega) hQ
  · refine x_il1 f_Page_fitsReach_0 ?_
    refine x_swIn (t := 46) f_Page_fitsReach_1 (by decide) (by decide) rfl ?_
    refine x_il2 f_Page_fitsReach_46 ?_
    refine x_bipush (v := (nI 49)) f_Page_fitsReach_47 rfl ?_
    refine x_cmp_ltN f_Page_fitsReach_49 (by omega) (by omega) (fun h49 => ?_) (fun h49 => ?_)
    · refine x_iconst (v := (nI 0)) f_Page_fitsReach_62 rfl ?_
      refine x_zreturn f_Page_fitsReach_63 rfl (by decide) ?_
      exact q_eq (by (repeat' split) <;> omega) hQ
    · refine x_il2 f_Page_fitsReach_52 ?_
      refine x_bipush (v := (nI 57)) f_Page_fitsReach_53 rfl ?_
      refine x_cmp_gtN f_Page_fitsReach_55 (by omega) (by omega) (fun h55 => ?_) (fun h55 => ?_)
      · refine x_iconst (v := (nI 0)) f_Page_fitsReach_62 rfl ?_
        refine x_zreturn f_Page_fitsReach_63 rfl (by decide) ?_
        exact q_eq (by (repeat' split) <;> omega) hQ
      · refine x_iconst (v := (nI 1)) f_Page_fitsReach_58 rfl ?_
        refine x_goto f_Page_fitsReach_59 ?_
        refine x_zreturn f_Page_fitsReach_63 rfl (by decide) ?_
        exact q_eq (by (repeat' split) <;> omega) hQ
  · refine x_il1 f_Page_fitsReach_0 ?_
    refine x_swIn (t := 64) f_Page_fitsReach_1 (by decide) (by decide) rfl ?_
    refine x_il2 f_Page_fitsReach_64 ?_
    refine x_bipush (v := (nI 48)) f_Page_fitsReach_65 rfl ?_
    refine x_cmp_ltN f_Page_fitsReach_67 (by omega) (by omega) (fun h67 => ?_) (fun h67 => ?_)
    · refine x_iconst (v := (nI 0)) f_Page_fitsReach_80 rfl ?_
      refine x_zreturn f_Page_fitsReach_81 rfl (by decide) ?_
      exact q_eq (by (repeat' split) <;> omega) hQ
    · refine x_il2 f_Page_fitsReach_70 ?_
      refine x_bipush (v := (nI 57)) f_Page_fitsReach_71 rfl ?_
      refine x_cmp_gtN f_Page_fitsReach_73 (by omega) (by omega) (fun h73 => ?_) (fun h73 => ?_)
      · refine x_iconst (v := (nI 0)) f_Page_fitsReach_80 rfl ?_
        refine x_zreturn f_Page_fitsReach_81 rfl (by decide) ?_
        exact q_eq (by (repeat' split) <;> omega) hQ
      · refine x_iconst (v := (nI 1)) f_Page_fitsReach_76 rfl ?_
        refine x_goto f_Page_fitsReach_77 ?_
        refine x_zreturn f_Page_fitsReach_81 rfl (by decide) ?_
        exact q_eq (by (repeat' split) <;> omega) hQ
  · refine x_il1 f_Page_fitsReach_0 ?_
    refine x_swIn (t := 82) f_Page_fitsReach_1 (by decide) (by decide) rfl ?_
    refine x_il2 f_Page_fitsReach_82 ?_
    refine x_bipush (v := (nI 45)) f_Page_fitsReach_83 rfl ?_
    refine x_cmp_eqN f_Page_fitsReach_85 (by omega) (by omega) (fun h85 => ?_) (fun h85 => ?_)
    · refine x_iconst (v := (nI 1)) f_Page_fitsReach_102 rfl ?_
      refine x_goto f_Page_fitsReach_103 ?_
      refine x_zreturn f_Page_fitsReach_107 rfl (by decide) ?_
      exact q_eq (by (repeat' split) <;> omega) hQ
    · refine x_il2 f_Page_fitsReach_88 ?_
      refine x_bipush (v := (nI 48)) f_Page_fitsReach_89 rfl ?_
      refine x_cmp_ltN f_Page_fitsReach_91 (by omega) (by omega) (fun h91 => ?_) (fun h91 => ?_)
      · refine x_iconst (v := (nI 0)) f_Page_fitsReach_106 rfl ?_
        refine x_zreturn f_Page_fitsReach_107 rfl (by decide) ?_
        exact q_eq (by (repeat' split) <;> omega) hQ
      · refine x_il2 f_Page_fitsReach_94 ?_
        refine x_bipush (v := (nI 48)) f_Page_fitsReach_95 rfl ?_
        refine x_il0 f_Page_fitsReach_97 ?_
        first | refine x_iaddN f_Page_fitsReach_98 ?_ | refine x_iadd f_Page_fitsReach_98 ?_
        refine x_cmp_geN f_Page_fitsReach_99 (by omega) (by omega) (fun h99 => ?_) (fun h99 => ?_)
        · refine x_iconst (v := (nI 0)) f_Page_fitsReach_106 rfl ?_
          refine x_zreturn f_Page_fitsReach_107 rfl (by decide) ?_
          exact q_eq (by (repeat' split) <;> omega) hQ
        · refine x_iconst (v := (nI 1)) f_Page_fitsReach_102 rfl ?_
          refine x_goto f_Page_fitsReach_103 ?_
          refine x_zreturn f_Page_fitsReach_107 rfl (by decide) ?_
          exact q_eq (by (repeat' split) <;> omega) hQ
  · refine x_il1 f_Page_fitsReach_0 ?_
    refine x_swOut (t := 108) f_Page_fitsReach_1 (by decide) rfl ?_
    refine x_il0 f_Page_fitsReach_108 ?_
    refine x_iconst (v := (nI 1)) f_Page_fitsReach_109 rfl ?_
    first | refine x_iaddN f_Page_fitsReach_110 ?_ | refine x_iadd f_Page_fitsReach_110 ?_
    refine x_il2 f_Page_fitsReach_111 ?_
    refine x_cS2i f_Page_fitsReach_112 (by decide) (Nat.le_of_ble_eq_true rfl) (Nat.le_of_ble_eq_true rfl) rfl (c_Page_endsReach (by omega) hc ⟨_, rfl, ?_⟩)
    refine x_zreturn f_Page_fitsReach_115 rfl (by split <;> decide) ?_
    exact q_eq (by (repeat' split) <;> omega) hQ
theorem iv_eqm1 {e : Nat} (he : e < 2 ^ 31) : iv e = -1 ↔ e = 0 := by
  cases e with
  | zero => exact ⟨fun _ => rfl, fun _ => rfl⟩
  | succ t =>
    constructor
    · intro h
      exact absurd (show nI t < 0 by rw [show nI t = -1 from h]; decide) (nI_pos (by omega))
    · intro h; omega
theorem c_Page_fits {i e : Nat} {C : Nat → Nat} (hi : i < 42) (he : e ≤ i) (hc : C i < 200) (hC : M.1 2 i = nI (C i)) (hQ : Q M (some (.int (nI (fitN e i (C i)))))) : wp X (d + 3) n_Page_fits Q 0 [.ref 1, .int (nI i), .int (iv e)] [] M := by
  have hl := fitN_le e i (C i)
  have z01 : ∀ v, v ≤ 1 → nI v = 0 ∨ nI v = 1 := fun v hv => by rcases (show v = 0 ∨ v = 1 by omega) with q | q <;> rw [q] <;> decide
  refine x_il2 f_Page_fits_0 ?_
  refine x_iconst (v := (-1)) f_Page_fits_1 rfl ?_
  refine x_cmp_ne f_Page_fits_2 (fun h => ?_) (fun h => ?_)
  · have h0 : e ≠ 0 := fun z => h ((iv_eqm1 (by omega)).mpr z)
    obtain ⟨s, rfl⟩ : ∃ s, e = s + 1 := ⟨e - 1, by omega⟩
    have e2 : fitN (s + 1) i (C i) = gfit s (i - (s + 1)) (C i) := by unfold fitN; rw [if_neg (by omega)]; rfl
    rw [e2] at hQ hl
    unfold gfit at hQ hl
    show wp X (d + 3) n_Page_fits Q 21 [.ref 1, .int (nI i), .int (nI s)] [] M
    refine x_il1 f_Page_fits_21 ?_
    refine x_il2 f_Page_fits_22 ?_
    refine x_isubN f_Page_fits_23 (by omega) ?_
    refine x_iconst (v := (nI 1)) f_Page_fits_24 rfl ?_
    refine x_isubN f_Page_fits_25 (by omega) ?_
    refine x_il2 f_Page_fits_26 ?_
    refine x_cS1i f_Page_fits_27 (by decide) (Nat.le_of_ble_eq_true rfl) (Nat.le_of_ble_eq_true rfl) rfl (c_Page_reachesAheadOf (by omega) ⟨_, rfl, ?_⟩)
    refine x_al0 f_Page_fits_30 ?_
    refine x_getR f_Page_fits_31 rfl rfl ?_
    refine x_il1 f_Page_fits_34 ?_
    refine x_ialdV f_Page_fits_35 rfl (by omega) (hC) ?_
    rw [show i - s - 1 = i - (s + 1) by omega]
    refine x_cS3i f_Page_fits_36 (by decide) (Nat.le_of_ble_eq_true rfl) (Nat.le_of_ble_eq_true rfl) rfl (c_Page_fitsGoverness (by omega) (by omega) hc ⟨_, rfl, ?_⟩)
    exact x_zreturn f_Page_fits_39 rfl (z01 _ hl) hQ
  · have h0 : e = 0 := (iv_eqm1 (by omega)).mp (Decidable.not_not.mp h)
    have e2 : fitN e i (C i) = rfit i (C i) := by unfold fitN; rw [if_pos h0]
    rw [e2] at hQ hl
    refine x_il1 f_Page_fits_5 ?_
    refine x_iconst (v := (nI 5)) f_Page_fits_6 rfl ?_
    refine x_idivN f_Page_fits_7 (by omega) (by omega) (by omega) ?_
    refine x_il1 f_Page_fits_8 ?_
    refine x_iconst (v := (nI 5)) f_Page_fits_9 rfl ?_
    refine x_iremN f_Page_fits_10 (by omega) (by omega) (by omega) ?_
    refine x_al0 f_Page_fits_11 ?_
    refine x_getR f_Page_fits_12 rfl rfl ?_
    refine x_il1 f_Page_fits_15 ?_
    refine x_ialdV f_Page_fits_16 rfl (by omega) (hC) ?_
    refine x_cS3i f_Page_fits_17 (by decide) (Nat.le_of_ble_eq_true rfl) (Nat.le_of_ble_eq_true rfl) rfl (c_Page_fitsReach (by omega) hc ⟨_, rfl, ?_⟩)
    exact x_zreturn f_Page_fits_20 rfl (z01 _ hl) hQ
theorem l_Page_firstFault {C : Nat → Nat} {pn : Nat} (hp : pn ≤ 42) (hS : M.1 1 1 = nI pn) (hC : ∀ i, i < pn → M.1 2 i = nI (C i)) (hCb : ∀ i, i < pn → C i < 200) (k i e : Nat) (hk : i + k = pn) (he : e ≤ i) (hQ : Q M (some (.int (nI (ffn C k i e).1)))) : wp X (d + 4) n_Page_firstFault Q 4 [.ref 1, .int (iv e), .int (nI i)] [] M := by
  refine x_il2 f_Page_firstFault_4 ?_
  refine x_al0 f_Page_firstFault_5 ?_
  refine x_getIV f_Page_firstFault_6 rfl rfl (Or.inl rfl) (hS) ?_
  match k, hk, hQ with
  | 0, hk, hQ =>
    refine x_cmp_geN f_Page_firstFault_9 (by omega) (by omega) (fun h9 => ?_) (fun h9 => absurd h9 (by omega))
    refine x_al0 f_Page_firstFault_42 ?_
    refine x_getIV f_Page_firstFault_43 rfl rfl (Or.inl rfl) (hS) ?_
    refine x_ireturn f_Page_firstFault_46 rfl ?_
    exact q_eq (show i = pn by omega) hQ
  | k + 1, hk, hQ =>
    refine x_cmp_geN f_Page_firstFault_9 (by omega) (by omega) (fun h9 => absurd h9 (by omega)) (fun h9 => ?_)
    have hcb := hCb i h9
    refine x_al0 f_Page_firstFault_12 ?_
    refine x_il2 f_Page_firstFault_13 ?_
    refine x_il1 f_Page_firstFault_14 ?_
    refine x_cV2i f_Page_firstFault_15 rfl rfl (by decide) (Nat.le_of_ble_eq_true rfl) (Nat.le_of_ble_eq_true rfl) rfl (c_Page_fits (by omega) he (hCb i h9) (hC i h9) ⟨_, rfl, ?_⟩)
    have hl := fitN_le e i (C i)
    have hQ2 : Q M (some (.int (nI (if fitN e i (C i) = 0 then (i, e) else ffn C k (i + 1) (if C i = 59 then i + 1 else e)).1))) := hQ
    refine x_if_neN f_Page_firstFault_18 (by omega) (fun h => ?_) (fun h => ?_)
    · rw [if_neg (by omega)] at hQ2
      refine x_al0 f_Page_firstFault_23 ?_
      refine x_getR f_Page_firstFault_24 rfl rfl ?_
      refine x_il2 f_Page_firstFault_27 ?_
      refine x_ialdV f_Page_firstFault_28 rfl (by omega) (hC i h9) ?_
      refine x_bipush (v := (nI 59)) f_Page_firstFault_29 rfl ?_
      refine x_cmp_neN f_Page_firstFault_31 (by omega) (by omega) (fun h31 => ?_) (fun h31 => ?_)
      · rw [if_neg h31] at hQ2
        refine x_incN2 f_Page_firstFault_36 rfl ?_
        refine x_goto f_Page_firstFault_39 ?_
        exact l_Page_firstFault hp hS hC hCb k (i + 1) e (by omega) (by omega) hQ2
      · rw [if_pos h31] at hQ2
        refine x_il2 f_Page_firstFault_34 ?_
        refine x_is1 f_Page_firstFault_35 rfl ?_
        refine x_incN2 f_Page_firstFault_36 rfl ?_
        refine x_goto f_Page_firstFault_39 ?_
        exact l_Page_firstFault hp hS hC hCb k (i + 1) (i + 1) (by omega) (by omega) hQ2
    · rw [if_pos h] at hQ2
      refine x_il2 f_Page_firstFault_21 ?_
      refine x_ireturn f_Page_firstFault_22 rfl ?_
      exact hQ2
  termination_by k
  decreasing_by all_goals omega
theorem c_Page_firstFault {C : Nat → Nat} {pn : Nat} (hp : pn ≤ 42) (hS : M.1 1 1 = nI pn) (hC : ∀ i, i < pn → M.1 2 i = nI (C i)) (hCb : ∀ i, i < pn → C i < 200) (hQ : Q M (some (.int (nI (ffn C pn 0 0).1)))) : wp X (d + 4) n_Page_firstFault Q 0 [.ref 1, .null, .null] [] M := by
  refine x_iconst (v := (-1)) f_Page_firstFault_0 rfl ?_
  refine x_is1 f_Page_firstFault_1 rfl ?_
  refine x_iconst (v := (nI 0)) f_Page_firstFault_2 rfl ?_
  refine x_is2 f_Page_firstFault_3 rfl ?_
  exact l_Page_firstFault hp hS hC hCb pn 0 0 (by omega) (by omega) hQ
theorem l_Page_semicolonPlace {C : Nat → Nat} {pn : Nat} (hp : pn ≤ 42) (hS : M.1 1 1 = nI pn) (hC : ∀ i, i < pn → M.1 2 i = nI (C i)) (hCb : ∀ i, i < pn → C i < 200) (k i : Nat) (hk : i + k = pn) (hQ : Q M (some (.int (iv (scn C k i))))) : wp X (d + 1) n_Page_semicolonPlace Q 2 [.ref 1, .int (nI i)] [] M := by
  refine x_il1 f_Page_semicolonPlace_2 ?_
  refine x_al0 f_Page_semicolonPlace_3 ?_
  refine x_getIV f_Page_semicolonPlace_4 rfl rfl (Or.inl rfl) (hS) ?_
  match k, hk, hQ with
  | 0, hk, hQ =>
    refine x_cmp_geN f_Page_semicolonPlace_7 (by omega) (by omega) (fun h9 => ?_) (fun h9 => absurd h9 (by omega))
    refine x_iconst (v := (-1)) f_Page_semicolonPlace_29 rfl ?_
    refine x_ireturn f_Page_semicolonPlace_30 rfl ?_
    exact hQ
  | k + 1, hk, hQ =>
    refine x_cmp_geN f_Page_semicolonPlace_7 (by omega) (by omega) (fun h9 => absurd h9 (by omega)) (fun h9 => ?_)
    have hcb := hCb i h9
    have hQ2 : Q M (some (.int (iv (if C i = 59 then i + 1 else scn C k (i + 1))))) := hQ
    refine x_al0 f_Page_semicolonPlace_10 ?_
    refine x_getR f_Page_semicolonPlace_11 rfl rfl ?_
    refine x_il1 f_Page_semicolonPlace_14 ?_
    refine x_ialdV f_Page_semicolonPlace_15 rfl (by omega) (hC i h9) ?_
    refine x_bipush (v := (nI 59)) f_Page_semicolonPlace_16 rfl ?_
    refine x_cmp_neN f_Page_semicolonPlace_18 (by omega) (by omega) (fun h31 => ?_) (fun h31 => ?_)
    · rw [if_neg h31] at hQ2
      refine x_incN1 f_Page_semicolonPlace_23 rfl ?_
      refine x_goto f_Page_semicolonPlace_26 ?_
      exact l_Page_semicolonPlace hp hS hC hCb k (i + 1) (by omega) hQ2
    · rw [if_pos h31] at hQ2
      refine x_il1 f_Page_semicolonPlace_21 ?_
      refine x_ireturn f_Page_semicolonPlace_22 rfl ?_
      exact hQ2
  termination_by k
  decreasing_by all_goals omega
theorem c_Page_semicolonPlace {C : Nat → Nat} {pn : Nat} (hp : pn ≤ 42) (hS : M.1 1 1 = nI pn) (hC : ∀ i, i < pn → M.1 2 i = nI (C i)) (hCb : ∀ i, i < pn → C i < 200) (hQ : Q M (some (.int (iv (scn C pn 0))))) : wp X (d + 1) n_Page_semicolonPlace Q 0 [.ref 1, .null] [] M := by
  refine x_iconst (v := (nI 0)) f_Page_semicolonPlace_0 rfl ?_
  refine x_is1 f_Page_semicolonPlace_1 rfl ?_
  exact l_Page_semicolonPlace hp hS hC hCb pn 0 (by omega) hQ
theorem scn_le (C : Nat → Nat) : ∀ k i, scn C k i ≤ i + k
  | 0, i => by unfold scn; omega
  | k + 1, i => by
    unfold scn
    have := scn_le C k (i + 1)
    split <;> omega
theorem ffn_le (C : Nat → Nat) : ∀ k i e, (ffn C k i e).1 ≤ i + k
  | 0, i, e => by unfold ffn; exact Nat.le_refl _
  | k + 1, i, e => by
    unfold ffn
    have := ffn_le C k (i + 1) (if C i = 59 then i + 1 else e)
    split
    · show i ≤ _; omega
    · omega
/-- how many reaches the page tells; 0: it is no river -/
def toldN (C : Nat → Nat) (pn : Nat) : Nat := if scn C pn 0 = 0 ∨ (ffn C pn 0 0).1 < pn then 0 else if (pn - (scn C pn 0 - 1)) % 2 = 0 then scn C pn 0 / 5 else 0
theorem c_Page_reachesTold {C : Nat → Nat} {pn : Nat} (hp : pn ≤ 42) (hS : M.1 1 1 = nI pn) (hC : ∀ i, i < pn → M.1 2 i = nI (C i)) (hCb : ∀ i, i < pn → C i < 200) (hQ : Q M (some (.int (nI (toldN C pn))))) : wp X (d + 5) n_Page_reachesTold Q 0 [.ref 1, .null] [] M := by
  have h1 := scn_le C pn 0
  have h2 := ffn_le C pn 0 0
  refine x_al0 f_Page_reachesTold_0 ?_
  refine x_cV0i f_Page_reachesTold_1 rfl rfl (by decide) (Nat.le_of_ble_eq_true rfl) (Nat.le_of_ble_eq_true rfl) rfl (c_Page_semicolonPlace hp hS hC hCb ⟨_, rfl, ?_⟩)
  refine x_is1 f_Page_reachesTold_4 rfl ?_
  refine x_il1 f_Page_reachesTold_5 ?_
  refine x_iconst (v := (-1)) f_Page_reachesTold_6 rfl ?_
  refine x_cmp_eq f_Page_reachesTold_7 (fun h => ?_) (fun h => ?_)
  · have h0 := (iv_eqm1 (by omega)).mp h
    refine x_iconst (v := (nI 0)) f_Page_reachesTold_21 rfl ?_
    refine x_ireturn f_Page_reachesTold_22 rfl ?_
    exact q_eq (by unfold toldN; rw [if_pos (Or.inl h0)]) hQ
  · have h0 : scn C pn 0 ≠ 0 := fun z => h ((iv_eqm1 (by omega)).mpr z)
    obtain ⟨s, hs⟩ : ∃ s, scn C pn 0 = s + 1 := ⟨scn C pn 0 - 1, by omega⟩
    rw [hs]
    show wp X (d + 5) n_Page_reachesTold Q 10 [.ref 1, .int (nI s)] [] M
    refine x_al0 f_Page_reachesTold_10 ?_
    refine x_cV0i f_Page_reachesTold_11 rfl rfl (by decide) (Nat.le_of_ble_eq_true rfl) (Nat.le_of_ble_eq_true rfl) rfl (c_Page_firstFault hp hS hC hCb ⟨_, rfl, ?_⟩)
    refine x_al0 f_Page_reachesTold_14 ?_
    refine x_getIV f_Page_reachesTold_15 rfl rfl (Or.inl rfl) (hS) ?_
    refine x_cmp_geN f_Page_reachesTold_18 (by omega) (by omega) (fun h18 => ?_) (fun h18 => ?_)
    · refine x_al0 f_Page_reachesTold_23 ?_
      refine x_getIV f_Page_reachesTold_24 rfl rfl (Or.inl rfl) (hS) ?_
      refine x_il1 f_Page_reachesTold_27 ?_
      refine x_isubN f_Page_reachesTold_28 (by omega) ?_
      refine x_iconst (v := (nI 2)) f_Page_reachesTold_29 rfl ?_
      refine x_iremN f_Page_reachesTold_30 (by omega) (by omega) (by omega) ?_
      refine x_if_neN f_Page_reachesTold_31 (by omega) (fun h31 => ?_) (fun h31 => ?_)
      · refine x_iconst (v := (nI 0)) f_Page_reachesTold_41 rfl ?_
        refine x_ireturn f_Page_reachesTold_42 rfl ?_
        exact q_eq (by unfold toldN; rw [hs, if_neg (by omega), if_neg (by rw [Nat.add_sub_cancel]; omega)]) hQ
      · refine x_il1 f_Page_reachesTold_34 ?_
        refine x_cS1i f_Page_reachesTold_35 (by decide) (Nat.le_of_ble_eq_true rfl) (Nat.le_of_ble_eq_true rfl) rfl (c_Page_reachesAheadOf (by omega) ⟨_, rfl, ?_⟩)
        refine x_goto f_Page_reachesTold_38 ?_
        refine x_ireturn f_Page_reachesTold_42 rfl ?_
        exact q_eq (by unfold toldN; rw [hs, if_neg (by omega), if_pos (by rw [Nat.add_sub_cancel]; omega)]) hQ
    · refine x_iconst (v := (nI 0)) f_Page_reachesTold_21 rfl ?_
      refine x_ireturn f_Page_reachesTold_22 rfl ?_
      exact q_eq (by unfold toldN; rw [if_pos (Or.inr h18)]) hQ
end
