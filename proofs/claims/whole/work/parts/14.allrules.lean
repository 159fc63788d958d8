/-! all rules together; every method by the depth of its calls -/
section SNA
variable {p : Program} {l : Launch} {e : Env} {R : Room} {s : State} {m : MethodId} {args : Array Value} {below : List Frame} {meth : Method} {c : Code} {cells slots : Nat} {Qw : State → Prop}
variable {X : (Nat → Int32) × Nat} {d mi : Nat} {Q : mM → Option Value → Prop} {cy : ClassId × ClassId × ClassId} {adr : Nat → Nat} {D : va_G}
theorem s_all (K : mCx p R s m args c cells slots X d mi cy adr D) (IH : mMet l X d) (hr1 : rl_ireturn mi Q (mSem p l e R s m args below meth c cells slots Qw mi cy adr D)) (hr2 : rl_zreturn mi Q (mSem p l e R s m args below meth c cells slots Qw mi cy adr D)) (hr3 : rl_lreturn mi Q (mSem p l e R s m args below meth c cells slots Qw mi cy adr D)) (hr4 : rl_return mi Q (mSem p l e R s m args below meth c cells slots Qw mi cy adr D)) : rls X (wp X d) mi Q (mSem p l e R s m args below meth c cells slots Qw mi cy adr D) := by
  exact ⟨⟨s_iconst K, s_bipush K, s_sipush K, s_lconst K, s_ldc K, s_ldcw K, s_ldc2 K, s_ldcS K⟩, ⟨s_ldcwS K, s_iload_n K, s_iload K, s_lload_n K, s_lload K, s_aload_n K, s_aload K, s_istore_n K⟩, ⟨s_istore K, s_lstore_n K, s_lstore K, s_iinc K, s_iadd K, s_isub K, s_imul K, s_iand K⟩, ⟨s_ior K, s_ixor K, s_ishl K, s_ishr K, s_iushr K, s_idiv K, s_irem K, s_ladd K⟩, ⟨s_lmul K, s_land K, s_ldiv K, s_lrem K, s_lcmp K, s_i2l K, s_l2i K, s_dup K⟩, ⟨s_dup2 K, s_if_eq K, s_cmp_eq K, s_if_ne K, s_cmp_ne K, s_if_lt K, s_cmp_lt K, s_if_ge K⟩, ⟨s_cmp_ge K, s_if_gt K, s_cmp_gt K, s_if_le K, s_cmp_le K, s_goto K, s_swIn K, s_swOut K⟩, ⟨s_lookup K, s_getI K, s_getR K, s_getL K, s_putI K, s_putZ K, s_putL K, s_iald K⟩, ⟨s_iast K, s_zald K, s_zast K, s_aald K, s_alen K, s_sld K, s_slen K, s_callV K IH⟩, ⟨s_callS K IH, s_mmin K, s_mmax K, s_acopy K, s_stlen K, s_stchar K, hr1, hr2⟩, ⟨hr3, hr4⟩⟩
end SNA
theorem plain_all : ∀ mj, mj < 153 → mj ≠ mLaw → plainFor (mY mj) = true := by decide +kernel
theorem cls_all : ∀ mj, mj < 153 → (mY mj).cls = clN (mO mj) := by decide +kernel
theorem mSound (l : Launch) (X : (Nat → Int32) × Nat) : ∀ d, mMet l X d := by
  intro d
  induction d with
  | zero =>
    intro cy adr D mj As M Q sz _ _ _ _ h
    exact h.elim
  | succ d IH =>
    intro cy adr D mj As M Q sz hnl hlt hok he hw
    refine va_MetF (cc := mC mj) (maxL := mL mj) (ret := mR mj) (plain_all mj hlt hnl) rfl ?_
    intro p e s m args below meth c s₁ B hml hv
    obtain ⟨rfl, hsz, hE, hP⟩ := hv
    subst hsz
    have hts0 := atoms_spec (ws := mW mj) B.pre
    have hts : ∀ x ∈ gW, x.before (As.map (cv adr)).toArray s = true := fun x hx => hts0 x (List.mem_cons_of_mem _ hx)
    have hown : s.vm.findClass (clN (mO mj)) = some m.cls := by rw [← cls_all mj hlt]; exact findClass_of_methodNamed B.named
    have hlocks := B.notSynchronized
    have hx := B.exec
    have hb := B.bytes
    have hr := B.returns
    have K : mCx p (headSpec (mW mj) (rmD (d + 1))).room s m (As.map (cv adr)).toArray c 0 0 X d mj cy adr D := ⟨hx, hb, hml, hown, hts, hE, hok, ⟨by show d + 9 ≤ d + 1 + 8; omega, by show 60 * d + 540 ≤ 60 * (d + 1) + 480; omega, Nat.zero_le _, Nat.zero_le _⟩, fun h => absurd h hnl⟩
    rw [lg_entry_eq]
    refine hw (mSem p l e (headSpec (mW mj) (rmD (d + 1))).room s m (As.map (cv adr)).toArray below meth c 0 0 (MQ below (mPost cy adr D Q (mA adr s.heap.size)) (As.map (cv adr)).toArray s 0 0 (mA adr s.heap.size)) mj cy adr D) (s_all K IH ?_ ?_ ?_ ?_) s.heap [] _ (relL_entry adr he) hP va_S.rf
    · intro pc nx tg L S M v hf h1 hQ H locs ls hl hP hS
      obtain ⟨hd, rfl⟩ := fx_dec hf rfl
      exact W.iret (v := v) hx hb (hr.trans h1) (fun t ht hW => ⟨⟨some (.int v), M, rfl, hQ, by rw [ht]; exact hP⟩, hS.F ht⟩) hS.2.2 hd
    · intro pc nx tg L S M v hf h1 hv hQ H locs ls hl hP hS
      obtain ⟨hd, rfl⟩ := fx_dec hf rfl
      exact W.zret (v := v) (ty := .boolean) hx hb (hr.trans h1) (by rcases hv with rfl | rfl <;> rfl) (fun t ht hW => ⟨⟨some (.int v), M, rfl, hQ, by rw [ht]; exact hP⟩, hS.F ht⟩) hS.2.2 hd
    · intro pc nx tg L S M v hf h1 hQ H locs ls hl hP hS
      obtain ⟨hd, rfl⟩ := fx_dec hf rfl
      exact W.lret (v := v) hx hb (hr.trans h1) (fun t ht hW => ⟨⟨some (.long v), M, rfl, hQ, by rw [ht]; exact hP⟩, hS.F ht⟩) hS.2.2 hd
    · intro pc nx tg L S M hf h1 hQ H locs ls hl hP hS
      obtain ⟨hd, rfl⟩ := fx_dec hf rfl
      exact W.vret hx hb (hr.trans h1) (fun t ht hW => ⟨⟨none, M, rfl, hQ, by rw [ht]; exact hP⟩, hS.F ht⟩) hS.2.2 hd
