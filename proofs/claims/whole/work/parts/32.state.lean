/-! the state that class and reference share.
0 letters of the page; 1 numbers: 0 letters, 1 reaches, 2 governesses, 3 months, 4 lessons, 5 rivers read, 6 seen, 7 the river of the image (1 more, 0 none), 8 9 10 its months, lessons, seen;
2 kinds, 3 flows, 4 wild, 5 runs (1 more, 0 the sea), 6 where, 7 8 9 seen; 10 11 12 13 14 15 16 of the image: kinds, flows, wild, where, seen -/
abbrev St : Type := Nat → Nat → Nat
def sup (s : St) (k : Nat) (f : Nat → Nat) : St := fun a => if a = k then f else s a
def sus (s : St) (j v : Nat) : St := sup s 1 (updN (s 1) j v)
def imgN (s : St) : Nat := if s 1 7 = s 1 5 + 1 then 1 else 0
abbrev sW (s : St) : Nat → Nat := wat (s 1 1) (s 2) (s 3) (s 5)
/-- what holds of a river's numbers -/
def okRv (n g mo : Nat) (K F Z At : Nat → Nat) : Prop := mo ≤ 999 ∧ (∀ i, i < n → K i < 5 ∧ F i ≤ 9 ∧ Z i ≤ 9) ∧ ∀ i, i < g → At i < n
def okSn (n sn : Nat) (sr sm sf : Nat → Nat) : Prop := sn ≤ 6 ∧ ∀ i, i < sn → sr i < n ∧ sm i ≤ 20 ∧ sf i ≤ 1
def Inv (s : St) : Prop := (s 1 0 ≤ 42 ∧ ∀ i, i < s 1 0 → 1 ≤ s 0 i ∧ s 0 i ≤ 126) ∧ ((s 1 1 = 0 ∧ s 1 2 = 0) ∨ (2 ≤ s 1 1 ∧ s 1 1 ≤ 7 ∧ 1 ≤ s 1 2 ∧ s 1 2 ≤ 3)) ∧ (∀ i, i < s 1 1 → s 5 i ≤ i) ∧ okRv (s 1 1) (s 1 2) (s 1 3) (s 2) (s 3) (s 4) (s 6) ∧ okSn (s 1 1) (s 1 6) (s 7) (s 8) (s 9) ∧ s 1 7 ≤ s 1 5 + 1 ∧ s 1 5 < 100000 ∧
  (imgN s = 1 → 2 ≤ s 1 1 ∧ okRv (s 1 1) (s 1 2) (s 1 8) (s 10) (s 11) (s 12) (s 13) ∧ okSn (s 1 1) (s 1 10) (s 14) (s 15) (s 16))
def RelC (s : St) (M : mM) : Prop :=
  (M.1 1 1 = nI (s 1 0) ∧ ∀ i, i < s 1 0 → M.1 2 i = nI (s 0 i)) ∧
  RvC M 3 (s 1 1) (s 1 2) (s 1 3) (s 1 4) (s 2) (s 3) (s 4) (s 5) (sW s) (s 6) ∧
  SnC M 24 (s 1 6) (s 7) (s 8) (s 9) ∧
  ((∀ i, i < 6 → M.1 27 i = 0 ∨ M.1 27 i = 1) ∧ ∀ i, i < 6 → M.1 31 i = 0 ∨ M.1 31 i = 1) ∧
  (M.1 0 9 = nI (imgN s) ∧ M.1 0 10 = nI (s 1 5)) ∧
  (imgN s = 1 → RvC M 10 (s 1 1) (s 1 2) (s 1 8) (s 1 9) (s 10) (s 11) (s 12) (s 5) (wat (s 1 1) (s 10) (s 11) (s 5)) (s 13) ∧ SnC M 28 (s 1 10) (s 14) (s 15) (s 16))
theorem RvC_fr {M M1 : mM} {r n g mo le : Nat} {K F Z Rn W At : Nat → Nat} (h : RvC M r n g mo le K F Z Rn W At) (ho : ∀ a i, r ≤ a → a ≤ r + 6 → M1.1 a i = M.1 a i) : RvC M1 r n g mo le K F Z Rn W At := by
  obtain ⟨h0, h1, h2, h3, h4, h5, h6, h7, h8, h9⟩ := h
  exact ⟨(ho _ _ (by omega) (by omega)).trans h0, (ho _ _ (by omega) (by omega)).trans h1, (ho _ _ (by omega) (by omega)).trans h2, (ho _ _ (by omega) (by omega)).trans h3, fun i hi => (ho _ _ (by omega) (by omega)).trans (h4 i hi), fun i hi => (ho _ _ (by omega) (by omega)).trans (h5 i hi), fun i hi => (ho _ _ (by omega) (by omega)).trans (h6 i hi), fun i hi => (ho _ _ (by omega) (by omega)).trans (h7 i hi), fun i hi => (ho _ _ (by omega) (by omega)).trans (h8 i hi), fun i hi => (ho _ _ (by omega) (by omega)).trans (h9 i hi)⟩
theorem SnC_fr {M M1 : mM} {r sn : Nat} {sr sm sf : Nat → Nat} (h : SnC M r sn sr sm sf) (ho : ∀ a i, r ≤ a → a ≤ r + 3 → M1.1 a i = M.1 a i) : SnC M1 r sn sr sm sf := by
  obtain ⟨h0, h1, h2, h3⟩ := h
  exact ⟨(ho _ _ (by omega) (by omega)).trans h0, fun i hi => (ho _ _ (by omega) (by omega)).trans (h1 i hi), fun i hi => (ho _ _ (by omega) (by omega)).trans (h2 i hi), fun i hi => (ho _ _ (by omega) (by omega)).trans (h3 i hi)⟩
/-- the cells of the class that hold its state are as they were -/
theorem RelC_scr {s : St} {M M1 : mM} (h : RelC s M) (ho : ∀ a i, (a ≤ 16 ∨ (24 ≤ a ∧ a ≤ 31)) → M1.1 a i = M.1 a i) : RelC s M1 := by
  obtain ⟨⟨p1, p2⟩, h2, h3, ⟨b1, b2⟩, ⟨t1, t2⟩, h6⟩ := h
  refine ⟨⟨(ho _ _ (by omega)).trans p1, fun i hi => (ho _ _ (by omega)).trans (p2 i hi)⟩, RvC_fr h2 (fun a i _ _ => ho a i (by omega)), SnC_fr h3 (fun a i _ _ => ho a i (by omega)), ⟨fun i hi => by rw [ho _ _ (by omega)]; exact b1 i hi, fun i hi => by rw [ho _ _ (by omega)]; exact b2 i hi⟩, ⟨(ho _ _ (by omega)).trans t1, (ho _ _ (by omega)).trans t2⟩, fun hi => ⟨RvC_fr (h6 hi).1 (fun a i _ _ => ho a i (by omega)), SnC_fr (h6 hi).2 (fun a i _ _ => ho a i (by omega))⟩⟩
/-! the page's answers -/
def ltA (s : St) (x : Int32) : Int32 := if x < nI 1 then -102 else if nI 126 < x then -102 else if 42 ≤ s 1 0 then -104 else nI (s 1 0 + 1)
def ltS (s : St) (x : Int32) : St := if x < nI 1 then s else if nI 126 < x then s else if 42 ≤ s 1 0 then s else sus (sup s 0 (updN (s 0) (s 1 0) x.toNatClampNeg)) 0 (s 1 0 + 1)
theorem nI_back {x : Int32} (h : ¬ x < nI 1) (h2 : ¬ nI 126 < x) : ∃ c, 1 ≤ c ∧ c ≤ 126 ∧ x = nI c := by
  rcases pk_ix x (n := 127) (by omega) with q | q | ⟨j, q1, q2⟩
  · exact absurd (Int32.lt_trans q (by decide : (0 : Int32) < nI 1)) h
  · exact absurd (Int32.lt_of_lt_of_le (by decide : nI 126 < nI 127) q) h2
  · subst q2
    refine ⟨j, ?_, by omega, rfl⟩
    rcases Nat.eq_zero_or_pos j with z | z
    · subst z; exact absurd (by decide) h
    · exact z
theorem Inv_lt {s : St} {x : Int32} (h : Inv s) : Inv (ltS s x) := by
  unfold ltS
  split
  · exact h
  · split
    · exact h
    · split
      · exact h
      · next h1 h2 h3 =>
        obtain ⟨c, c1, c2, rfl⟩ := nI_back h1 h2
        rw [nI_clamp (by omega)]
        obtain ⟨⟨a1, a2⟩, a3⟩ := h
        refine ⟨⟨by show s 1 0 + 1 ≤ 42; omega, fun i hi => ?_⟩, a3⟩
        have hi : i < s 1 0 + 1 := hi
        show 1 ≤ updN (s 0) (s 1 0) c i ∧ updN (s 0) (s 1 0) c i ≤ 126
        unfold updN
        split
        · exact ⟨c1, c2⟩
        · exact a2 i (by omega)
section
variable {X : (Nat → Int32) × Nat} {d : Nat} {Q : mM → Option Value → Prop} {M : mM} {s : St}
theorem c_RL_letter {x : Int32} (hI : Inv s) (hR : RelC s M) (hQ : ∀ M1, RelC (ltS s x) M1 → frM M M1 0 54 → Q M1 (some (.int (ltA s x)))) : wp X (d + 1) n_RL_letter Q 0 [.ref 0, .int x] [] M := by
  have hpn := hI.1.1
  have hS := hR.1.1
  refine x_il1 f_RL_letter_0 ?_
  refine x_iconst (v := (nI 1)) f_RL_letter_1 rfl ?_
  refine x_cmp_lt f_RL_letter_2 (fun h1 => ?_) (fun h1 => ?_)
  · refine x_bipush (v := (-102)) f_RL_letter_11 rfl ?_
    refine x_ireturn f_RL_letter_13 rfl ?_
    have h := hQ M (by unfold ltS; rw [if_pos h1]; exact hR) (frM_refl _ _ _)
    unfold ltA at h
    rw [if_pos h1] at h
    exact h
  · refine x_il1 f_RL_letter_5 ?_
    refine x_bipush (v := (nI 126)) f_RL_letter_6 rfl ?_
    refine x_cmp_le f_RL_letter_8 (fun h2 => ?_) (fun h2 => ?_)
    · have h2' : ¬ nI 126 < x := Int32.not_lt.mpr h2
      refine x_al0 f_RL_letter_14 ?_
      refine x_getR f_RL_letter_15 rfl rfl ?_
      refine x_getIV f_RL_letter_18 rfl rfl (Or.inl rfl) (hS) ?_
      refine x_bipush (v := (nI 42)) f_RL_letter_21 rfl ?_
      refine x_cmp_ltN f_RL_letter_23 (by omega) (by omega) (fun h3 => ?_) (fun h3 => ?_)
      · obtain ⟨c, c1, c2, rfl⟩ := nI_back h1 h2'
        refine x_al0 f_RL_letter_29 ?_
        refine x_getR f_RL_letter_30 rfl rfl ?_
        refine x_getR f_RL_letter_33 rfl rfl ?_
        refine x_al0 f_RL_letter_36 ?_
        refine x_getR f_RL_letter_37 rfl rfl ?_
        refine x_getIV f_RL_letter_40 rfl rfl (Or.inl rfl) (hS) ?_
        refine x_il1 f_RL_letter_43 ?_
        refine x_iastN f_RL_letter_44 rfl (by omega) ?_
        refine x_al0 f_RL_letter_45 ?_
        refine x_getR f_RL_letter_46 rfl rfl ?_
        refine x_dup f_RL_letter_49 rfl ?_
        refine x_getIV f_RL_letter_50 rfl rfl (Or.inl rfl) ((stM_ne _ _ (by omega)).trans hS) ?_
        refine x_iconst (v := (nI 1)) f_RL_letter_53 rfl ?_
        first | refine x_iaddN f_RL_letter_54 ?_ | refine x_iadd f_RL_letter_54 ?_
        refine x_putI f_RL_letter_55 rfl rfl ?_
        refine x_al0 f_RL_letter_58 ?_
        refine x_getR f_RL_letter_59 rfl rfl ?_
        refine x_getIV f_RL_letter_62 rfl rfl (Or.inl rfl) (stM_at _ _ _ _) ?_
        refine x_ireturn f_RL_letter_65 rfl ?_
        have h := hQ (stM (stM M 2 (s 1 0) (nI c)) 1 1 (nI (s 1 0 + 1))) ?_ (frM_st (frM_st (frM_refl _ _ _) (by omega) (by omega)) (by omega) (by omega))
        · unfold ltA at h
          rw [if_neg h1, if_neg h2', if_neg (by omega)] at h
          exact h
        · unfold ltS
          rw [if_neg h1, if_neg h2', if_neg (by omega), nI_clamp (by omega)]
          obtain ⟨⟨p1, p2⟩, q2, q3, ⟨b1, b2⟩, ⟨t1, t2⟩, q6⟩ := hR
          have o : ∀ a i, 3 ≤ a ∨ a = 0 → (stM (stM M 2 (s 1 0) (nI c)) 1 1 (nI (s 1 0 + 1))).1 a i = M.1 a i := fun a i h => (stM_ne _ _ (by omega)).trans (stM_ne _ _ (by omega))
          refine ⟨⟨stM_at _ _ _ _, fun i hi => ?_⟩, RvC_fr q2 (fun a i _ _ => o a i (by omega)), SnC_fr q3 (fun a i _ _ => o a i (by omega)), ⟨fun i hi => by rw [o _ _ (by omega)]; exact b1 i hi, fun i hi => by rw [o _ _ (by omega)]; exact b2 i hi⟩, ⟨(o _ _ (by omega)).trans t1, (o _ _ (by omega)).trans t2⟩, fun hi => ⟨RvC_fr (q6 hi).1 (fun a i _ _ => o a i (by omega)), SnC_fr (q6 hi).2 (fun a i _ _ => o a i (by omega))⟩⟩
          have hi : i < s 1 0 + 1 := hi
          show _ = nI (updN (s 0) (s 1 0) c i)
          rw [stM_ne _ _ (by omega), stM_def]
          unfold updN
          by_cases e : i = s 1 0
          · rw [if_pos ⟨rfl, e⟩, if_pos e]
          · rw [if_neg (fun z => e z.2), if_neg e]; exact p2 i (by omega)
      · refine x_bipush (v := (-104)) f_RL_letter_26 rfl ?_
        refine x_ireturn f_RL_letter_28 rfl ?_
        have h := hQ M (by unfold ltS; rw [if_neg h1, if_neg h2', if_pos h3]; exact hR) (frM_refl _ _ _)
        unfold ltA at h
        rw [if_neg h1, if_neg h2', if_pos h3] at h
        exact h
    · have h2' : nI 126 < x := Int32.not_le.mp h2
      refine x_bipush (v := (-102)) f_RL_letter_11 rfl ?_
      refine x_ireturn f_RL_letter_13 rfl ?_
      have h := hQ M (by unfold ltS; rw [if_neg h1, if_pos h2']; exact hR) (frM_refl _ _ _)
      unfold ltA at h
      rw [if_neg h1, if_pos h2'] at h
      exact h
theorem c_RL_blank (hR : RelC s M) (hQ : ∀ M1, RelC (sus s 0 0) M1 → frM M M1 0 54 → Q M1 (some (.int (nI (s 1 0))))) : wp X (d + 1) n_RL_blank Q 0 [.ref 0, .null] [] M := by
  have hS := hR.1.1
  refine x_al0 f_RL_blank_0 ?_
  refine x_getR f_RL_blank_1 rfl rfl ?_
  refine x_getIV f_RL_blank_4 rfl rfl (Or.inl rfl) (hS) ?_
  refine x_is1 f_RL_blank_7 rfl ?_
  refine x_al0 f_RL_blank_8 ?_
  refine x_getR f_RL_blank_9 rfl rfl ?_
  refine x_iconst (v := (nI 0)) f_RL_blank_12 rfl ?_
  refine x_putI f_RL_blank_13 rfl rfl ?_
  refine x_il1 f_RL_blank_16 ?_
  refine x_ireturn f_RL_blank_17 rfl ?_
  refine hQ _ ?_ (frM_st (frM_refl _ _ _) (by omega) (by omega))
  obtain ⟨⟨p1, p2⟩, q2, q3, ⟨b1, b2⟩, ⟨t1, t2⟩, q6⟩ := hR
  have o : ∀ a i, a ≠ 1 → (stM M 1 1 (nI 0)).1 a i = M.1 a i := fun a i h => stM_ne _ _ (by omega)
  exact ⟨⟨stM_at _ _ _ _, fun i hi => absurd hi (Nat.not_lt_zero i)⟩, RvC_fr q2 (fun a i _ _ => o a i (by omega)), SnC_fr q3 (fun a i _ _ => o a i (by omega)), ⟨fun i hi => by rw [o _ _ (by omega)]; exact b1 i hi, fun i hi => by rw [o _ _ (by omega)]; exact b2 i hi⟩, ⟨(o _ _ (by omega)).trans t1, (o _ _ (by omega)).trans t2⟩, fun hi => ⟨RvC_fr (q6 hi).1 (fun a i _ _ => o a i (by omega)), SnC_fr (q6 hi).2 (fun a i _ _ => o a i (by omega))⟩⟩
theorem c_RL_fault (hI : Inv s) (hR : RelC s M) (hQ : Q M (some (.int (nI (ffn (s 0) (s 1 0) 0 0).1)))) : wp X (d + 5) n_RL_fault Q 0 [.ref 0] [] M := by
  refine x_al0 f_RL_fault_0 ?_
  refine x_getR f_RL_fault_1 rfl rfl ?_
  refine x_cV0i f_RL_fault_4 rfl rfl (by decide) (Nat.le_of_ble_eq_true rfl) (Nat.le_of_ble_eq_true rfl) rfl (c_Page_firstFault hI.1.1 hR.1.1 hR.1.2 (fun i hi => by have := hI.1.2 i hi; omega) ⟨_, rfl, ?_⟩)
  refine x_ireturn f_RL_fault_7 rfl ?_
  exact hQ
end
