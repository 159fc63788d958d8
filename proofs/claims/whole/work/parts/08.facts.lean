theorem fx_ok {mi pc nx : Nat} {ins : Instr} {tg : List Nat} (h : fx mi pc = some (ins, nx, tg)) : chkE mi (pc, ins, nx, tg) = true := by
  have h0 := allFrom_get (f := chkM) (fun _ => rfl) tbL 0 mi tbAll
  rw [Nat.zero_add] at h0
  have h1 : (tbs mi).all (chkE mi) = true := h0
  unfold fx fxl at h
  obtain ⟨e, he, hq⟩ := Option.map_eq_some_iff.mp h
  have hp := List.find?_some he
  have hm := List.mem_of_find?_eq_some he
  have hc := List.all_eq_true.mp h1 e hm
  obtain ⟨e1, e2⟩ := e
  have : e1 = pc := Nat.eq_of_beq_eq_true hp
  subst this
  have hq : e2 = (ins, nx, tg) := hq
  subst hq
  exact hc
theorem fx_dec {mi pc nx n : Nat} {ins : Instr} {tg : List Nat} (h : fx mi pc = some (ins, nx, tg)) (hn : lenOf ins = n + 1) : decode (mC mi) pc = .ok (ins, n + 1) ∧ nx = pc + (n + 1) := by
  have h1 := fx_ok h
  simp only [chkE, hn, Bool.and_eq_true, decide_eq_true_eq] at h1
  rw [if_neg (by omega)] at h1
  have h2 := h1.1
  simp only [Bool.and_eq_true, decide_eq_true_eq] at h2
  exact ⟨h2.1, Nat.eq_of_beq_eq_true h2.2⟩
theorem fx_dec0 {mi pc nx : Nat} {ins : Instr} {tg : List Nat} (h : fx mi pc = some (ins, nx, tg)) (hn : lenOf ins = 0) : decode (mC mi) pc = .ok (ins, nx - pc) := by
  have h1 := fx_ok h
  simp only [chkE, hn, Bool.and_eq_true] at h1
  rw [if_pos trivial] at h1
  exact of_decide_eq_true h1.1
theorem fx_I {mi pc nx : Nat} {ins : Instr} {tg : List Nat} (h : fx mi pc = some (ins, nx, tg)) : chkI (mO mi) pc ins tg = true := by
  have h1 := fx_ok h
  simp only [chkE, Bool.and_eq_true] at h1
  exact h1.2
theorem tgo_ok {pc t : Nat} {o : Int} (h : tgo pc o [t] = true) : (pc : Int) + o = (t : Int) := of_decide_eq_true h
theorem fx_fld {mi pc nx ix ci j : Nat} {ins : Instr} (h : fx mi pc = some (ins, nx, [ci, j])) (hi : ins = .getfield ix ∨ ins = .putfield ix) : ∃ (Cn : String) (Tt : u_T) (N : Nat), vwCl[ci]? = some (Cn, Tt, N) ∧ j < N ∧ Cond.fieldLink (clN (mO mi)) ix (Tt j).1 (Tt j).2.1 (Tt j).2.2.1 ∈ gW := by
  have h1 := fx_I h
  have h2 : flT.any (fun e => Nat.beq e.1 (mO mi) && (Nat.beq e.2.1 ix && decide ([ci, j] = [e.2.2.1, e.2.2.2.1]))) = true := by
    rcases hi with rfl | rfl <;> exact h1
  obtain ⟨⟨o, i, c, k, q⟩, he, hh⟩ := List.any_eq_true.mp h2
  simp only [Bool.and_eq_true, decide_eq_true_eq] at hh
  have ho : o = mO mi := Nat.eq_of_beq_eq_true hh.1
  have hx : i = ix := Nat.eq_of_beq_eq_true hh.2.1
  have ht := hh.2.2
  simp only [List.cons.injEq, and_true] at ht
  obtain ⟨hc, hk⟩ := ht
  subst ho; subst hx; subst hc; subst hk
  have hF := List.all_eq_true.mp flOK _ he
  unfold chkF at hF
  revert hF
  cases hv : vwCl[ci]? with
  | none => intro hF; simp [hv] at hF
  | some r =>
    obtain ⟨Cn, Tt, N⟩ := r
    intro hF
    simp only [hv, Bool.and_eq_true, decide_eq_true_eq] at hF
    exact ⟨Cn, Tt, N, rfl, hF.2.2, by rw [hF.2.1]; exact okW_in hF.1⟩
/-- what the words say of a method that is called -/
def mCalled (mj na : Nat) : Prop := (mY mj).cls = clN (mO mj) ∧ (mY mj).cls ≠ "java/lang/invoke/MethodHandle" ∧ (mY mj).cls ≠ "java/lang/invoke/VarHandle" ∧ (parseMethodDescriptor (mY mj).desc).map (fun d => d.parameters.length) = some na ∧ Cond.initialized (mY mj).cls ∈ gW ∧ Cond.code (mY mj) (mC mj) (mL mj) (mR mj) ∈ gW ∧ mj ≠ mLaw ∧ mj < 153
theorem mCalled_of {mj na : Nat} (h1 : chkY mj na = true) (h2 : chkS mj = true) : mCalled mj na := by
  simp only [chkY, chkS, Bool.and_eq_true, decide_eq_true_eq] at h1 h2
  have h3 := allP_get _ 0 mj cwAll h2.2.2
  rw [Nat.zero_add] at h3
  exact ⟨h1.1, h1.2.1, h1.2.2.1, h1.2.2.2, okW_in h2.1, h3 h2.2.1, h2.2⟩
theorem pr_no {ow ix mj na : Nat} (hj : mj < 900) (h : prT.any (fun e => Nat.beq e.1 ow && (Nat.beq e.2.1 ix && decide (([mj, na] : List Nat).head? = some e.2.2))) = true) : False := by
  obtain ⟨⟨o, i, c⟩, he, hh⟩ := List.any_eq_true.mp h
  simp only [Bool.and_eq_true, decide_eq_true_eq, List.head?_cons, Option.some.injEq] at hh
  have : ∀ e ∈ prT, 900 ≤ e.2.2 := by decide
  have h2 := this _ he
  have h3 := hh.2.2
  simp only at h2 h3
  omega
theorem fx_virt {mi pc nx ix mj na : Nat} (h : fx mi pc = some (.invokevirtual ix, nx, [mj, na])) (hj : mj < 900) : mCalled mj na ∧ Cond.methodLink (clN (mO mi)) ix (mY mj) ∈ gW ∧ Cond.instanceMethod (mY mj) ∈ gW ∧ Cond.selects (mY mj).cls (mY mj) (mY mj) ∈ gW := by
  have h1 := fx_I h
  simp only [chkI, Bool.or_eq_true] at h1
  rcases h1 with h1 | h1
  · obtain ⟨⟨o, i, c, k, q⟩, he, hh⟩ := List.any_eq_true.mp h1
    simp only [Bool.and_eq_true, decide_eq_true_eq] at hh
    have ho : o = mO mi := Nat.eq_of_beq_eq_true hh.1
    have hx : i = ix := Nat.eq_of_beq_eq_true hh.2.1
    have ht := hh.2.2.1
    have hz : (mD c).1 = 0 := Nat.eq_of_beq_eq_true hh.2.2.2
    simp only [List.cons.injEq, and_true] at ht
    obtain ⟨hc, hk⟩ := ht
    subst ho; subst hx; subst hc; subst hk
    have hF := List.all_eq_true.mp mlOK _ he
    simp only [chkL, Bool.and_eq_true, Bool.or_eq_true] at hF
    refine ⟨mCalled_of hF.2.1 hF.2.2.1, okW_in hF.1, ?_⟩
    rcases hF.2.2.2 with hV | hV
    · simp only [chkV, Bool.and_eq_true] at hV
      exact ⟨okW_in hV.2.1, okW_in hV.2.2⟩
    · simp only [chkT, Bool.and_eq_true, decide_eq_true_eq] at hV
      omega
  · exact (pr_no hj h1).elim
theorem fx_stat {mi pc nx ix mj na : Nat} (h : fx mi pc = some (.invokestatic ix, nx, [mj, na])) (hj : mj < 900) : mCalled mj na ∧ Cond.static (mY mj) ∈ gW ∧ (Cond.methodLink (clN (mO mi)) ix (mY mj) ∈ gW ∨ ∃ q : Nat, (mO mi, ix, mj, na, q) ∈ nlT) := by
  have h1 := fx_I h
  simp only [chkI, Bool.or_eq_true] at h1
  rcases h1 with h1 | h1
  · obtain ⟨⟨o, i, c, k, q⟩, he, hh⟩ := List.any_eq_true.mp h1
    simp only [Bool.and_eq_true, decide_eq_true_eq] at hh
    have ho : o = mO mi := Nat.eq_of_beq_eq_true hh.1
    have hx : i = ix := Nat.eq_of_beq_eq_true hh.2.1
    have ht := hh.2.2.1
    have hz : (mD c).1 = 1 := Nat.eq_of_beq_eq_true hh.2.2.2
    simp only [List.cons.injEq, and_true] at ht
    obtain ⟨hc, hk⟩ := ht
    subst ho; subst hx; subst hc; subst hk
    rcases List.mem_append.mp he with he | he
    · have hF := List.all_eq_true.mp mlOK _ he
      simp only [chkL, Bool.and_eq_true, Bool.or_eq_true] at hF
      refine ⟨mCalled_of hF.2.1 hF.2.2.1, ?_, Or.inl (okW_in hF.1)⟩
      rcases hF.2.2.2 with hV | hV
      · simp only [chkV, Bool.and_eq_true, decide_eq_true_eq] at hV
        omega
      · simp only [chkT, Bool.and_eq_true] at hV
        exact okW_in hV.2
    · have hF := List.all_eq_true.mp nlOK _ he
      simp only [chkN, Bool.and_eq_true, chkT] at hF
      exact ⟨mCalled_of hF.2.1 hF.2.2.1, okW_in hF.2.2.2.2, Or.inr ⟨q, he⟩⟩
  · exact (pr_no hj h1).elim
