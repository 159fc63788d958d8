/-! what the real machine knows while the plain one runs -/
def mNest : List Cond := nlT.map fun e => Cond.methodLinkNest (clN e.1) e.2.1 (mY e.2.2.1) "RiverLessons"
def mStr (adr : Nat → Nat) (U : State) : Prop := vk_R "RiverLessons$Page" 47 "rbmwp" (adr 1001) U ∧ vk_R "RiverLessons" 257 "rbmwp" (adr 1001) U ∧ vk_S 1 [5] [[114, 98, 109, 119, 112]] (fun _ => adr 1001) (fun _ => adr 1002) (mA adr U.heap.size) U U.heap ∧ va_Z "java/lang/String" "COMPACT_STRINGS" "Z" (.int 1) (mA adr U.heap.size) U U.heap ∧ va_Zq "jdk/internal/util/Preconditions" "SIOOBE_FORMATTER" "Ljava/util/function/BiFunction;" (mA adr U.heap.size) U U.heap
def mEnv (cy : ClassId × ClassId × ClassId) (adr : Nat → Nat) (D : va_G) (U : State) : Prop := va_K D vwCl [(cy.1, .int), (cy.2.1, .boolean), (cy.2.2, .array .int)] U ∧ (∀ x ∈ mNest, va_Nw x U) ∧ mStr adr U
theorem mA_mono {adr : Nat → Nat} {a b : Nat} (h : a ≤ b) : ∀ q, mA adr b q → mA adr a q := fun q hq => hq.elim Or.inl (fun z => Or.inr (Nat.le_trans h z))
theorem mStr_moved {adr : Nat → Nat} {s U : State} {H : Heap} (h : mStr adr s) (hW : s.WarmedH U.vm) (hH : U.heap = H) (hz : s.heap.size ≤ H.size) (hk : ∀ q : Nat, q < s.heap.size → ¬ mA adr s.heap.size q → H[q]? = s.heap[q]?) : mStr adr U := by
  obtain ⟨h1, h2, h3, h4, h5⟩ := h
  subst hH
  refine ⟨h1.warm hW, h2.warm hW, ?_, ?_, ?_⟩
  · exact ((h3.moved hW.alike).kept hk).narrow (mA_mono hz)
  · exact ((h4.moved hW.alike).kept hk).narrow (mA_mono hz)
  · exact ((h5.moved hW.alike).kept hk).narrow (mA_mono hz)
theorem mEnv_moved {cy : ClassId × ClassId × ClassId} {adr : Nat → Nat} {D : va_G} {s U : State} {H : Heap} (h : mEnv cy adr D s) (hW : s.WarmedH U.vm) (hH : U.heap = H) (hz : s.heap.size ≤ H.size) (hk : ∀ q : Nat, q < s.heap.size → ¬ mA adr s.heap.size q → H[q]? = s.heap[q]?) : mEnv cy adr D U := by
  refine ⟨va_K.moved hW.alike h.1, fun x hx => ?_, mStr_moved h.2.2 hW hH hz hk⟩
  have h2 := h.2.1 x hx
  obtain ⟨e, he, rfl⟩ := List.mem_map.mp hx
  exact va_Nw.warmM hW h2
theorem mEnv_calling {cy : ClassId × ClassId × ClassId} {adr : Nat → Nat} {D : va_G} {U : State} (g : JFrame) (mk : MethodId) (a : Array Value) (h : mEnv cy adr D U) : mEnv cy adr D (U.calling g mk a) := by
  obtain ⟨h1, h2, ⟨a1, a2, a3, a4, a5⟩⟩ := h
  refine ⟨va_K.moved (u := U) (U := U.calling g mk a) (Vm.Alike.refl U.vm) h1, fun x hx => ?_, vk_R.same rfl a1, vk_R.same rfl a2, vk_S.moved (u := U) (U := U.calling g mk a) (Vm.Alike.refl U.vm) a3, va_Z.moved (u := U) (U := U.calling g mk a) (Vm.Alike.refl U.vm) a4, va_Zq.moved (u := U) (U := U.calling g mk a) (Vm.Alike.refl U.vm) a5⟩
  have h3 := h2 x hx
  obtain ⟨e, he, rfl⟩ := List.mem_map.mp hx
  exact va_Nw.same rfl rfl h3
def rmD (d : Nat) : Room := { frames := d + 8, cells := 0, slots := 0, locals := 60 * d + 480 }
def rmJ (d : Nat) : Room := { frames := d, cells := 0, slots := 0, locals := 60 * d }
def mW (mj : Nat) : List Cond := Cond.code (mY mj) (mC mj) (mL mj) (mR mj) :: gW
def mPre (cy : ClassId × ClassId × ClassId) (adr : Nat → Nat) (D : va_G) (M : mM) (sz : Nat) (U : State) : Prop := U.heap.size = sz ∧ mEnv cy adr D U ∧ va_P D vwCl (mWd cy adr M) U.heap
def mPost (cy : ClassId × ClassId × ClassId) (adr : Nat → Nat) (D : va_G) (Q : mM → Option Value → Prop) (A : Nat → Prop) : Array Value → State → Outcome → State → Prop := fun _ st oc t => (∃ (r : Option Value) (M : mM), oc = .returned (r.map (cv adr)) ∧ Q M r ∧ va_P D vwCl (mWd cy adr M) t.heap) ∧ va_F A st t
/-- every method that the plain machine runs through in depth d keeps its contract -/
def mMet (l : Launch) (X : (Nat → Int32) × Nat) (d : Nat) : Prop := ∀ (cy : ClassId × ClassId × ClassId) (adr : Nat → Nat) (D : va_G) (mj : Nat) (As : List Value) (M : mM) (Q : mM → Option Value → Prop) (sz : Nat), mj ≠ mLaw → mj < 153 → mOk adr → (enL1 As).length ≤ mL mj → wp X d mj Q 0 (enL (mL mj) As) [] M →
  Met l (mY mj) (mW mj) (rmD d) (va_Pc (As.map (cv adr)) (mPre cy adr D M sz)) (mPost cy adr D Q (mA adr sz)) 0 0 (mA adr sz)
section SND
variable {p : Program} {l : Launch} {e : Env} {R : Room} {s : State} {m : MethodId} {args : Array Value} {below : List Frame} {meth : Method} {c : Code} {cells slots : Nat} {Qw : State → Prop}
variable {X : (Nat → Int32) × Nat} {d mi : Nat} {Q : mM → Option Value → Prop} {cy : ClassId × ClassId × ClassId} {adr : Nat → Nat} {D : va_G}
abbrev mCx (p : Program) (R : Room) (s : State) (m : MethodId) (args : Array Value) (c : Code) (cells slots : Nat) (X : (Nat → Int32) × Nat) (d mi : Nat) (cy : ClassId × ClassId × ClassId) (adr : Nat → Nat) (D : va_G) : Prop :=
  p.tables.exec = Jvm.exec ∧ c.code = mC mi ∧ c.maxLocals = mL mi ∧ s.vm.findClass (clN (mO mi)) = some m.cls ∧ (∀ x ∈ gW, x.before args s = true) ∧ mEnv cy adr D s ∧ mOk adr ∧ (d + 9 ≤ R.frames ∧ 60 * d + 540 ≤ R.locals ∧ cells ≤ R.cells ∧ slots ≤ R.slots) ∧ (mi = mLaw → va_X (adr 1000) X.2 X.1 s s.heap ∧ adr 1000 < s.heap.size ∧ ¬ mA adr s.heap.size (adr 1000))
def mSem (p : Program) (l : Launch) (e : Env) (R : Room) (s : State) (m : MethodId) (args : Array Value) (below : List Frame) (meth : Method) (c : Code) (cells slots : Nat) (Qw : State → Prop) (mi : Nat) (cy : ClassId × ClassId × ClassId) (adr : Nat → Nat) (D : va_G) : Nat → List Value → List Value → mM → Prop := fun pc L S M =>
  ∀ (H : Heap) (locs : List Loc) (ls : Array Slot), relL adr (mL mi) L ls → va_P D vwCl (mWd cy adr M) H → va_S (mA adr s.heap.size) s.heap H locs → W p l e R s m args below meth c H locs cells slots Qw (F0 m pc ls (S.map (cv adr)))
theorem s_iconst (K : mCx p R s m args c cells slots X d mi cy adr D) : rl_iconst mi (mSem p l e R s m args below meth c cells slots Qw mi cy adr D) := by
  obtain ⟨hx, hb, hml, hown, hts, hE, hok, hR, hX⟩ := K
  intro pc nx tg L S M n v hf hv n0 H locs ls hl hP hS
  obtain ⟨hd, rfl⟩ := fx_dec hf rfl
  exact lv_iconst hx hb hd hv (n0 H locs ls hl hP hS)
theorem s_bipush (K : mCx p R s m args c cells slots X d mi cy adr D) : rl_bipush mi (mSem p l e R s m args below meth c cells slots Qw mi cy adr D) := by
  obtain ⟨hx, hb, hml, hown, hts, hE, hok, hR, hX⟩ := K
  intro pc nx tg L S M n v hf hv n0 H locs ls hl hP hS
  obtain ⟨hd, rfl⟩ := fx_dec hf rfl
  exact lv_bipush hx hb hd hv (n0 H locs ls hl hP hS)
theorem s_sipush (K : mCx p R s m args c cells slots X d mi cy adr D) : rl_sipush mi (mSem p l e R s m args below meth c cells slots Qw mi cy adr D) := by
  obtain ⟨hx, hb, hml, hown, hts, hE, hok, hR, hX⟩ := K
  intro pc nx tg L S M n v hf hv n0 H locs ls hl hP hS
  obtain ⟨hd, rfl⟩ := fx_dec hf rfl
  exact lv_sipush hx hb hd hv (n0 H locs ls hl hP hS)
theorem s_lconst (K : mCx p R s m args c cells slots X d mi cy adr D) : rl_lconst mi (mSem p l e R s m args below meth c cells slots Qw mi cy adr D) := by
  obtain ⟨hx, hb, hml, hown, hts, hE, hok, hR, hX⟩ := K
  intro pc nx tg L S M n v hf hv n0 H locs ls hl hP hS
  obtain ⟨hd, rfl⟩ := fx_dec hf rfl
  exact lv_lconst hx hb hd hv (n0 H locs ls hl hP hS)
theorem s_iload_n (K : mCx p R s m args c cells slots X d mi cy adr D) : rl_iload_n mi (mSem p l e R s m args below meth c cells slots Qw mi cy adr D) := by
  obtain ⟨hx, hb, hml, hown, hts, hE, hok, hR, hX⟩ := K
  intro pc nx tg L S M k x hf hl0 n0 H locs ls hl hP hS
  obtain ⟨hd, rfl⟩ := fx_dec hf rfl
  exact lv_iload_n hx hb hd rfl (hl.2.2.2 _ _ hl0 (by simp)) (n0 H locs ls hl hP hS)
theorem s_iload (K : mCx p R s m args c cells slots X d mi cy adr D) : rl_iload mi (mSem p l e R s m args below meth c cells slots Qw mi cy adr D) := by
  obtain ⟨hx, hb, hml, hown, hts, hE, hok, hR, hX⟩ := K
  intro pc nx tg L S M i x hf hl0 n0 H locs ls hl hP hS
  obtain ⟨hd, rfl⟩ := fx_dec hf rfl
  exact lv_iload hx hb hd (hl.2.2.2 _ _ hl0 (by simp)) (n0 H locs ls hl hP hS)
theorem s_lload_n (K : mCx p R s m args c cells slots X d mi cy adr D) : rl_lload_n mi (mSem p l e R s m args below meth c cells slots Qw mi cy adr D) := by
  obtain ⟨hx, hb, hml, hown, hts, hE, hok, hR, hX⟩ := K
  intro pc nx tg L S M k x hf hl0 n0 H locs ls hl hP hS
  obtain ⟨hd, rfl⟩ := fx_dec hf rfl
  exact lv_lload_n hx hb hd rfl (hl.2.2.2 _ _ hl0 (by simp)) (n0 H locs ls hl hP hS)
theorem s_lload (K : mCx p R s m args c cells slots X d mi cy adr D) : rl_lload mi (mSem p l e R s m args below meth c cells slots Qw mi cy adr D) := by
  obtain ⟨hx, hb, hml, hown, hts, hE, hok, hR, hX⟩ := K
  intro pc nx tg L S M i x hf hl0 n0 H locs ls hl hP hS
  obtain ⟨hd, rfl⟩ := fx_dec hf rfl
  exact lv_lload hx hb hd (hl.2.2.2 _ _ hl0 (by simp)) (n0 H locs ls hl hP hS)
theorem s_aload_n (K : mCx p R s m args c cells slots X d mi cy adr D) : rl_aload_n mi (mSem p l e R s m args below meth c cells slots Qw mi cy adr D) := by
  obtain ⟨hx, hb, hml, hown, hts, hE, hok, hR, hX⟩ := K
  intro pc nx tg L S M k x hf hl0 n0 H locs ls hl hP hS
  obtain ⟨hd, rfl⟩ := fx_dec hf rfl
  exact lv_aload_n hx hb hd rfl (hl.2.2.2 _ _ hl0 (by simp)) (n0 H locs ls hl hP hS)
theorem s_aload (K : mCx p R s m args c cells slots X d mi cy adr D) : rl_aload mi (mSem p l e R s m args below meth c cells slots Qw mi cy adr D) := by
  obtain ⟨hx, hb, hml, hown, hts, hE, hok, hR, hX⟩ := K
  intro pc nx tg L S M i x hf hl0 n0 H locs ls hl hP hS
  obtain ⟨hd, rfl⟩ := fx_dec hf rfl
  exact lv_aload hx hb hd (hl.2.2.2 _ _ hl0 (by simp)) (n0 H locs ls hl hP hS)
theorem s_istore_n (K : mCx p R s m args c cells slots X d mi cy adr D) : rl_istore_n mi (mSem p l e R s m args below meth c cells slots Qw mi cy adr D) := by
  obtain ⟨hx, hb, hml, hown, hts, hE, hok, hR, hX⟩ := K
  intro pc nx tg L S M k x hf ho hi n0 H locs ls hl hP hS
  obtain ⟨hd, rfl⟩ := fx_dec hf rfl
  exact lv_istore_n hx hb hd rfl (relL_has hl) (by rw [← hl.1]; exact hi) rfl (fun ls2 h2 => n0 H locs ls2 (relL_st1 hl ho h2) hP hS)
theorem s_istore (K : mCx p R s m args c cells slots X d mi cy adr D) : rl_istore mi (mSem p l e R s m args below meth c cells slots Qw mi cy adr D) := by
  obtain ⟨hx, hb, hml, hown, hts, hE, hok, hR, hX⟩ := K
  intro pc nx tg L S M i x hf ho hi n0 H locs ls hl hP hS
  obtain ⟨hd, rfl⟩ := fx_dec hf rfl
  exact lv_istore hx hb hd (relL_has hl) (by rw [← hl.1]; exact hi) rfl (fun ls2 h2 => n0 H locs ls2 (relL_st1 hl ho h2) hP hS)
theorem s_lstore_n (K : mCx p R s m args c cells slots X d mi cy adr D) : rl_lstore_n mi (mSem p l e R s m args below meth c cells slots Qw mi cy adr D) := by
  obtain ⟨hx, hb, hml, hown, hts, hE, hok, hR, hX⟩ := K
  intro pc nx tg L S M k x hf ho hi n0 H locs ls hl hP hS
  obtain ⟨hd, rfl⟩ := fx_dec hf rfl
  exact lv_lstore_n hx hb hd rfl (relL_has hl) (by rw [← hl.1]; exact hi) rfl (fun ls2 h2 => n0 H locs ls2 (relL_st2 hl ho h2) hP hS)
theorem s_lstore (K : mCx p R s m args c cells slots X d mi cy adr D) : rl_lstore mi (mSem p l e R s m args below meth c cells slots Qw mi cy adr D) := by
  obtain ⟨hx, hb, hml, hown, hts, hE, hok, hR, hX⟩ := K
  intro pc nx tg L S M i x hf ho hi n0 H locs ls hl hP hS
  obtain ⟨hd, rfl⟩ := fx_dec hf rfl
  exact lv_lstore hx hb hd (relL_has hl) (by rw [← hl.1]; exact hi) rfl (fun ls2 h2 => n0 H locs ls2 (relL_st2 hl ho h2) hP hS)
theorem s_iinc (K : mCx p R s m args c cells slots X d mi cy adr D) : rl_iinc mi (mSem p l e R s m args below meth c cells slots Qw mi cy adr D) := by
  obtain ⟨hx, hb, hml, hown, hts, hE, hok, hR, hX⟩ := K
  intro pc nx tg L S M i n x v hf hl0 hv ho n0 H locs ls hl hP hS
  obtain ⟨hd, rfl⟩ := fx_dec hf rfl
  obtain ⟨k, hk⟩ := List.getElem?_of_mem (lvs_mem.mpr ⟨_, hl0, by simp, rfl⟩ : ((i, cv adr (.int x)) : Nat × Value) ∈ lvs adr L)
  exact lv_iinc hx hb hd (relL_has hl) hk hv (by rw [← hl.1]; exact (List.getElem?_eq_some_iff.mp hl0).1) rfl (fun ls2 h2 => n0 H locs ls2 (relL_st1 hl ho h2) hP hS)
theorem s_iadd (K : mCx p R s m args c cells slots X d mi cy adr D) : rl_iadd mi (mSem p l e R s m args below meth c cells slots Qw mi cy adr D) := by
  obtain ⟨hx, hb, hml, hown, hts, hE, hok, hR, hX⟩ := K
  intro pc nx tg L S M a b hf n0 H locs ls hl hP hS
  obtain ⟨hd, rfl⟩ := fx_dec hf rfl
  exact lv_iadd hx hb hd (n0 H locs ls hl hP hS)
theorem s_isub (K : mCx p R s m args c cells slots X d mi cy adr D) : rl_isub mi (mSem p l e R s m args below meth c cells slots Qw mi cy adr D) := by
  obtain ⟨hx, hb, hml, hown, hts, hE, hok, hR, hX⟩ := K
  intro pc nx tg L S M a b hf n0 H locs ls hl hP hS
  obtain ⟨hd, rfl⟩ := fx_dec hf rfl
  exact lv_isub hx hb hd (n0 H locs ls hl hP hS)
theorem s_imul (K : mCx p R s m args c cells slots X d mi cy adr D) : rl_imul mi (mSem p l e R s m args below meth c cells slots Qw mi cy adr D) := by
  obtain ⟨hx, hb, hml, hown, hts, hE, hok, hR, hX⟩ := K
  intro pc nx tg L S M a b hf n0 H locs ls hl hP hS
  obtain ⟨hd, rfl⟩ := fx_dec hf rfl
  exact lv_imul hx hb hd (n0 H locs ls hl hP hS)
theorem s_iand (K : mCx p R s m args c cells slots X d mi cy adr D) : rl_iand mi (mSem p l e R s m args below meth c cells slots Qw mi cy adr D) := by
  obtain ⟨hx, hb, hml, hown, hts, hE, hok, hR, hX⟩ := K
  intro pc nx tg L S M a b hf n0 H locs ls hl hP hS
  obtain ⟨hd, rfl⟩ := fx_dec hf rfl
  exact lv_iand hx hb hd (n0 H locs ls hl hP hS)
theorem s_ior (K : mCx p R s m args c cells slots X d mi cy adr D) : rl_ior mi (mSem p l e R s m args below meth c cells slots Qw mi cy adr D) := by
  obtain ⟨hx, hb, hml, hown, hts, hE, hok, hR, hX⟩ := K
  intro pc nx tg L S M a b hf n0 H locs ls hl hP hS
  obtain ⟨hd, rfl⟩ := fx_dec hf rfl
  exact lv_ior hx hb hd (n0 H locs ls hl hP hS)
theorem s_ixor (K : mCx p R s m args c cells slots X d mi cy adr D) : rl_ixor mi (mSem p l e R s m args below meth c cells slots Qw mi cy adr D) := by
  obtain ⟨hx, hb, hml, hown, hts, hE, hok, hR, hX⟩ := K
  intro pc nx tg L S M a b hf n0 H locs ls hl hP hS
  obtain ⟨hd, rfl⟩ := fx_dec hf rfl
  exact lv_ixor hx hb hd (n0 H locs ls hl hP hS)
theorem s_ishl (K : mCx p R s m args c cells slots X d mi cy adr D) : rl_ishl mi (mSem p l e R s m args below meth c cells slots Qw mi cy adr D) := by
  obtain ⟨hx, hb, hml, hown, hts, hE, hok, hR, hX⟩ := K
  intro pc nx tg L S M a b hf n0 H locs ls hl hP hS
  obtain ⟨hd, rfl⟩ := fx_dec hf rfl
  exact lv_ishl hx hb hd (n0 H locs ls hl hP hS)
theorem s_ishr (K : mCx p R s m args c cells slots X d mi cy adr D) : rl_ishr mi (mSem p l e R s m args below meth c cells slots Qw mi cy adr D) := by
  obtain ⟨hx, hb, hml, hown, hts, hE, hok, hR, hX⟩ := K
  intro pc nx tg L S M a b hf n0 H locs ls hl hP hS
  obtain ⟨hd, rfl⟩ := fx_dec hf rfl
  exact lv_ishr hx hb hd (n0 H locs ls hl hP hS)
theorem s_iushr (K : mCx p R s m args c cells slots X d mi cy adr D) : rl_iushr mi (mSem p l e R s m args below meth c cells slots Qw mi cy adr D) := by
  obtain ⟨hx, hb, hml, hown, hts, hE, hok, hR, hX⟩ := K
  intro pc nx tg L S M a b hf n0 H locs ls hl hP hS
  obtain ⟨hd, rfl⟩ := fx_dec hf rfl
  exact lv_iushr hx hb hd rfl (n0 H locs ls hl hP hS)
theorem s_ladd (K : mCx p R s m args c cells slots X d mi cy adr D) : rl_ladd mi (mSem p l e R s m args below meth c cells slots Qw mi cy adr D) := by
  obtain ⟨hx, hb, hml, hown, hts, hE, hok, hR, hX⟩ := K
  intro pc nx tg L S M a b hf n0 H locs ls hl hP hS
  obtain ⟨hd, rfl⟩ := fx_dec hf rfl
  exact lv_ladd hx hb hd (n0 H locs ls hl hP hS)
theorem s_lmul (K : mCx p R s m args c cells slots X d mi cy adr D) : rl_lmul mi (mSem p l e R s m args below meth c cells slots Qw mi cy adr D) := by
  obtain ⟨hx, hb, hml, hown, hts, hE, hok, hR, hX⟩ := K
  intro pc nx tg L S M a b hf n0 H locs ls hl hP hS
  obtain ⟨hd, rfl⟩ := fx_dec hf rfl
  exact lv_lmul hx hb hd (n0 H locs ls hl hP hS)
theorem s_land (K : mCx p R s m args c cells slots X d mi cy adr D) : rl_land mi (mSem p l e R s m args below meth c cells slots Qw mi cy adr D) := by
  obtain ⟨hx, hb, hml, hown, hts, hE, hok, hR, hX⟩ := K
  intro pc nx tg L S M a b hf n0 H locs ls hl hP hS
  obtain ⟨hd, rfl⟩ := fx_dec hf rfl
  exact lv_land hx hb hd (n0 H locs ls hl hP hS)
theorem s_idiv (K : mCx p R s m args c cells slots X d mi cy adr D) : rl_idiv mi (mSem p l e R s m args below meth c cells slots Qw mi cy adr D) := by
  obtain ⟨hx, hb, hml, hown, hts, hE, hok, hR, hX⟩ := K
  intro pc nx tg L S M a b hf h0 n0 H locs ls hl hP hS
  obtain ⟨hd, rfl⟩ := fx_dec hf rfl
  exact lv_idiv hx hb hd h0 (n0 H locs ls hl hP hS)
theorem s_irem (K : mCx p R s m args c cells slots X d mi cy adr D) : rl_irem mi (mSem p l e R s m args below meth c cells slots Qw mi cy adr D) := by
  obtain ⟨hx, hb, hml, hown, hts, hE, hok, hR, hX⟩ := K
  intro pc nx tg L S M a b hf h0 n0 H locs ls hl hP hS
  obtain ⟨hd, rfl⟩ := fx_dec hf rfl
  exact lv_irem hx hb hd h0 (n0 H locs ls hl hP hS)
theorem s_ldiv (K : mCx p R s m args c cells slots X d mi cy adr D) : rl_ldiv mi (mSem p l e R s m args below meth c cells slots Qw mi cy adr D) := by
  obtain ⟨hx, hb, hml, hown, hts, hE, hok, hR, hX⟩ := K
  intro pc nx tg L S M a b hf h0 n0 H locs ls hl hP hS
  obtain ⟨hd, rfl⟩ := fx_dec hf rfl
  exact lv_ldiv hx hb hd h0 (n0 H locs ls hl hP hS)
theorem s_lrem (K : mCx p R s m args c cells slots X d mi cy adr D) : rl_lrem mi (mSem p l e R s m args below meth c cells slots Qw mi cy adr D) := by
  obtain ⟨hx, hb, hml, hown, hts, hE, hok, hR, hX⟩ := K
  intro pc nx tg L S M a b hf h0 n0 H locs ls hl hP hS
  obtain ⟨hd, rfl⟩ := fx_dec hf rfl
  exact lv_lrem hx hb hd h0 (n0 H locs ls hl hP hS)
theorem s_lcmp (K : mCx p R s m args c cells slots X d mi cy adr D) : rl_lcmp mi (mSem p l e R s m args below meth c cells slots Qw mi cy adr D) := by
  obtain ⟨hx, hb, hml, hown, hts, hE, hok, hR, hX⟩ := K
  intro pc nx tg L S M a b hf n0 H locs ls hl hP hS
  obtain ⟨hd, rfl⟩ := fx_dec hf rfl
  exact W.lcmp hx hb hd (n0 H locs ls hl hP hS)
theorem s_i2l (K : mCx p R s m args c cells slots X d mi cy adr D) : rl_i2l mi (mSem p l e R s m args below meth c cells slots Qw mi cy adr D) := by
  obtain ⟨hx, hb, hml, hown, hts, hE, hok, hR, hX⟩ := K
  intro pc nx tg L S M a hf n0 H locs ls hl hP hS
  obtain ⟨hd, rfl⟩ := fx_dec hf rfl
  exact lv_i2l hx hb hd rfl (n0 H locs ls hl hP hS)
theorem s_l2i (K : mCx p R s m args c cells slots X d mi cy adr D) : rl_l2i mi (mSem p l e R s m args below meth c cells slots Qw mi cy adr D) := by
  obtain ⟨hx, hb, hml, hown, hts, hE, hok, hR, hX⟩ := K
  intro pc nx tg L S M a hf n0 H locs ls hl hP hS
  obtain ⟨hd, rfl⟩ := fx_dec hf rfl
  exact lv_l2i hx hb hd rfl (n0 H locs ls hl hP hS)
theorem s_dup (K : mCx p R s m args c cells slots X d mi cy adr D) : rl_dup mi (mSem p l e R s m args below meth c cells slots Qw mi cy adr D) := by
  obtain ⟨hx, hb, hml, hown, hts, hE, hok, hR, hX⟩ := K
  intro pc nx tg L S M v hf hc n0 H locs ls hl hP hS
  obtain ⟨hd, rfl⟩ := fx_dec hf rfl
  exact lv_dup hx hb hd (by rw [cv_cat]; exact hc) (n0 H locs ls hl hP hS)
theorem s_dup2 (K : mCx p R s m args c cells slots X d mi cy adr D) : rl_dup2 mi (mSem p l e R s m args below meth c cells slots Qw mi cy adr D) := by
  obtain ⟨hx, hb, hml, hown, hts, hE, hok, hR, hX⟩ := K
  intro pc nx tg L S M v u hf hc hd0 n0 H locs ls hl hP hS
  obtain ⟨hd, rfl⟩ := fx_dec hf rfl
  exact lv_dup2_11 hx hb hd (by rw [cv_cat]; exact hc) (by rw [cv_cat]; exact hd0) (n0 H locs ls hl hP hS)
theorem s_if_eq (K : mCx p R s m args c cells slots X d mi cy adr D) : rl_if_eq mi (mSem p l e R s m args below meth c cells slots Qw mi cy adr D) := by
  obtain ⟨hx, hb, hml, hown, hts, hE, hok, hR, hX⟩ := K
  intro pc nx tg L S M o t a hf n0 n1 H locs ls hl hP hS
  obtain ⟨hd, rfl⟩ := fx_dec hf rfl
  exact lv_if_eq hx hb hd (tgo_ok (fx_I hf)) (fun h => n0 h H locs ls hl hP hS) (fun h => n1 h H locs ls hl hP hS)
theorem s_cmp_eq (K : mCx p R s m args c cells slots X d mi cy adr D) : rl_cmp_eq mi (mSem p l e R s m args below meth c cells slots Qw mi cy adr D) := by
  obtain ⟨hx, hb, hml, hown, hts, hE, hok, hR, hX⟩ := K
  intro pc nx tg L S M o t a b hf n0 n1 H locs ls hl hP hS
  obtain ⟨hd, rfl⟩ := fx_dec hf rfl
  exact lv_icmp_eq hx hb hd (tgo_ok (fx_I hf)) (fun h => n0 h H locs ls hl hP hS) (fun h => n1 h H locs ls hl hP hS)
theorem s_if_ne (K : mCx p R s m args c cells slots X d mi cy adr D) : rl_if_ne mi (mSem p l e R s m args below meth c cells slots Qw mi cy adr D) := by
  obtain ⟨hx, hb, hml, hown, hts, hE, hok, hR, hX⟩ := K
  intro pc nx tg L S M o t a hf n0 n1 H locs ls hl hP hS
  obtain ⟨hd, rfl⟩ := fx_dec hf rfl
  exact lv_if_ne hx hb hd (tgo_ok (fx_I hf)) (fun h => n0 h H locs ls hl hP hS) (fun h => n1 (fun z => z h) H locs ls hl hP hS)
theorem s_cmp_ne (K : mCx p R s m args c cells slots X d mi cy adr D) : rl_cmp_ne mi (mSem p l e R s m args below meth c cells slots Qw mi cy adr D) := by
  obtain ⟨hx, hb, hml, hown, hts, hE, hok, hR, hX⟩ := K
  intro pc nx tg L S M o t a b hf n0 n1 H locs ls hl hP hS
  obtain ⟨hd, rfl⟩ := fx_dec hf rfl
  exact lv_icmp_ne hx hb hd (tgo_ok (fx_I hf)) (fun h => n0 h H locs ls hl hP hS) (fun h => n1 (fun z => z h) H locs ls hl hP hS)
theorem s_if_lt (K : mCx p R s m args c cells slots X d mi cy adr D) : rl_if_lt mi (mSem p l e R s m args below meth c cells slots Qw mi cy adr D) := by
  obtain ⟨hx, hb, hml, hown, hts, hE, hok, hR, hX⟩ := K
  intro pc nx tg L S M o t a hf n0 n1 H locs ls hl hP hS
  obtain ⟨hd, rfl⟩ := fx_dec hf rfl
  exact lv_if_lt hx hb hd (tgo_ok (fx_I hf)) (fun h => n0 h H locs ls hl hP hS) (fun h => n1 h H locs ls hl hP hS)
theorem s_cmp_lt (K : mCx p R s m args c cells slots X d mi cy adr D) : rl_cmp_lt mi (mSem p l e R s m args below meth c cells slots Qw mi cy adr D) := by
  obtain ⟨hx, hb, hml, hown, hts, hE, hok, hR, hX⟩ := K
  intro pc nx tg L S M o t a b hf n0 n1 H locs ls hl hP hS
  obtain ⟨hd, rfl⟩ := fx_dec hf rfl
  exact lv_icmp_lt hx hb hd (tgo_ok (fx_I hf)) (fun h => n0 h H locs ls hl hP hS) (fun h => n1 h H locs ls hl hP hS)
theorem s_if_ge (K : mCx p R s m args c cells slots X d mi cy adr D) : rl_if_ge mi (mSem p l e R s m args below meth c cells slots Qw mi cy adr D) := by
  obtain ⟨hx, hb, hml, hown, hts, hE, hok, hR, hX⟩ := K
  intro pc nx tg L S M o t a hf n0 n1 H locs ls hl hP hS
  obtain ⟨hd, rfl⟩ := fx_dec hf rfl
  exact lv_if_ge hx hb hd (tgo_ok (fx_I hf)) (fun h => n0 h H locs ls hl hP hS) (fun h => n1 h H locs ls hl hP hS)
theorem s_cmp_ge (K : mCx p R s m args c cells slots X d mi cy adr D) : rl_cmp_ge mi (mSem p l e R s m args below meth c cells slots Qw mi cy adr D) := by
  obtain ⟨hx, hb, hml, hown, hts, hE, hok, hR, hX⟩ := K
  intro pc nx tg L S M o t a b hf n0 n1 H locs ls hl hP hS
  obtain ⟨hd, rfl⟩ := fx_dec hf rfl
  exact lv_icmp_ge hx hb hd (tgo_ok (fx_I hf)) (fun h => n0 h H locs ls hl hP hS) (fun h => n1 h H locs ls hl hP hS)
theorem s_if_gt (K : mCx p R s m args c cells slots X d mi cy adr D) : rl_if_gt mi (mSem p l e R s m args below meth c cells slots Qw mi cy adr D) := by
  obtain ⟨hx, hb, hml, hown, hts, hE, hok, hR, hX⟩ := K
  intro pc nx tg L S M o t a hf n0 n1 H locs ls hl hP hS
  obtain ⟨hd, rfl⟩ := fx_dec hf rfl
  exact lv_if_gt hx hb hd (tgo_ok (fx_I hf)) (fun h => n0 h H locs ls hl hP hS) (fun h => n1 h H locs ls hl hP hS)
theorem s_cmp_gt (K : mCx p R s m args c cells slots X d mi cy adr D) : rl_cmp_gt mi (mSem p l e R s m args below meth c cells slots Qw mi cy adr D) := by
  obtain ⟨hx, hb, hml, hown, hts, hE, hok, hR, hX⟩ := K
  intro pc nx tg L S M o t a b hf n0 n1 H locs ls hl hP hS
  obtain ⟨hd, rfl⟩ := fx_dec hf rfl
  exact lv_icmp_gt hx hb hd (tgo_ok (fx_I hf)) (fun h => n0 h H locs ls hl hP hS) (fun h => n1 h H locs ls hl hP hS)
theorem s_if_le (K : mCx p R s m args c cells slots X d mi cy adr D) : rl_if_le mi (mSem p l e R s m args below meth c cells slots Qw mi cy adr D) := by
  obtain ⟨hx, hb, hml, hown, hts, hE, hok, hR, hX⟩ := K
  intro pc nx tg L S M o t a hf n0 n1 H locs ls hl hP hS
  obtain ⟨hd, rfl⟩ := fx_dec hf rfl
  exact lv_if_le hx hb hd (tgo_ok (fx_I hf)) (fun h => n0 h H locs ls hl hP hS) (fun h => n1 h H locs ls hl hP hS)
theorem s_cmp_le (K : mCx p R s m args c cells slots X d mi cy adr D) : rl_cmp_le mi (mSem p l e R s m args below meth c cells slots Qw mi cy adr D) := by
  obtain ⟨hx, hb, hml, hown, hts, hE, hok, hR, hX⟩ := K
  intro pc nx tg L S M o t a b hf n0 n1 H locs ls hl hP hS
  obtain ⟨hd, rfl⟩ := fx_dec hf rfl
  exact lv_icmp_le hx hb hd (tgo_ok (fx_I hf)) (fun h => n0 h H locs ls hl hP hS) (fun h => n1 h H locs ls hl hP hS)
theorem s_goto (K : mCx p R s m args c cells slots X d mi cy adr D) : rl_goto mi (mSem p l e R s m args below meth c cells slots Qw mi cy adr D) := by
  obtain ⟨hx, hb, hml, hown, hts, hE, hok, hR, hX⟩ := K
  intro pc nx tg L S M o t hf n0 H locs ls hl hP hS
  obtain ⟨hd, rfl⟩ := fx_dec hf rfl
  exact lv_goto hx hb hd (tgo_ok (fx_I hf)) (n0 H locs ls hl hP hS)
theorem s_swIn (K : mCx p R s m args c cells slots X d mi cy adr D) : rl_swIn mi (mSem p l e R s m args below meth c cells slots Qw mi cy adr D) := by
  obtain ⟨hx, hb, hml, hown, hts, hE, hok, hR, hX⟩ := K
  intro pc nx tg L S M df lo hi os t x hf h1 h2 ht n0 H locs ls hl hP hS
  have hd := fx_dec0 hf rfl
  have h3 := fx_I hf
  simp only [chkI, Bool.and_eq_true, decide_eq_true_eq] at h3
  have h4 : (df :: os.toList)[(x.toInt - lo).toNat + 1]? = some ((t : Int) - (pc : Int)) := by rw [← h3.1, List.getElem?_map, ht]; rfl
  rw [List.getElem?_cons_succ, Array.getElem?_toList] at h4
  exact lv_tableIn hx hb hd h1 h2 h4 (by omega) (n0 H locs ls hl hP hS)
theorem s_swOut (K : mCx p R s m args c cells slots X d mi cy adr D) : rl_swOut mi (mSem p l e R s m args below meth c cells slots Qw mi cy adr D) := by
  obtain ⟨hx, hb, hml, hown, hts, hE, hok, hR, hX⟩ := K
  intro pc nx tg L S M df lo hi os t x hf h1 ht n0 H locs ls hl hP hS
  have hd := fx_dec0 hf rfl
  have h3 := fx_I hf
  simp only [chkI, Bool.and_eq_true, decide_eq_true_eq] at h3
  have h4 : (df :: os.toList)[0]? = some ((t : Int) - (pc : Int)) := by rw [← h3.1, List.getElem?_map, ht]; rfl
  rw [List.getElem?_cons_zero] at h4
  have h5 := Option.some.inj h4
  exact lv_tableOut hx hb hd h1 (by omega) (n0 H locs ls hl hP hS)
theorem s_lookup (K : mCx p R s m args c cells slots X d mi cy adr D) : rl_lookup mi (mSem p l e R s m args below meth c cells slots Qw mi cy adr D) := by
  obtain ⟨hx, hb, hml, hown, hts, hE, hok, hR, hX⟩ := K
  intro pc nx tg L S M df ps o t x hf ho ht n0 H locs ls hl hP hS
  have hd := fx_dec0 hf rfl
  have h3 := fx_I hf
  exact lv_lookup hx hb hd h3 ho ht (n0 H locs ls hl hP hS)
theorem s_getI (K : mCx p R s m args c cells slots X d mi cy adr D) : rl_getI mi (mSem p l e R s m args below meth c cells slots Qw mi cy adr D) := by
  obtain ⟨hx, hb, hml, hown, hts, hE, hok, hR, hX⟩ := K
  intro pc nx tg L S M ix k ci j q cs hf hs hc hq n0 H locs ls hl hP hS
  obtain ⟨hd, rfl⟩ := fx_dec hf rfl
  obtain ⟨Cn, Tt, N, hv, hj, hlk⟩ := fx_fld hf (Or.inl rfl)
  have hk := shp_lt hs (by omega)
  have hj2 : j < cs.length := (List.getElem?_eq_some_iff.mp hc).1
  refine va_get (D := D) (v := .int (M.1 k j)) hx hb hts (vw_in hv) hown hE.1 hP k ((mWd_get hk).trans (by rw [mEn_obj hs])) hv j hj (hts _ hlk) (fun _ h => h) ?_ hd (n0 H locs ls hl hP hS)
  simp only [List.getElem?_map, List.getElem?_range hj2, Option.map_some]
  rw [List.getD_eq_getElem?_getD, hc]
  rcases hq with rfl | rfl <;> rfl
theorem s_getR (K : mCx p R s m args c cells slots X d mi cy adr D) : rl_getR mi (mSem p l e R s m args below meth c cells slots Qw mi cy adr D) := by
  obtain ⟨hx, hb, hml, hown, hts, hE, hok, hR, hX⟩ := K
  intro pc nx tg L S M ix k ci j t cs hf hs hc n0 H locs ls hl hP hS
  obtain ⟨hd, rfl⟩ := fx_dec hf rfl
  obtain ⟨Cn, Tt, N, hv, hj, hlk⟩ := fx_fld hf (Or.inl rfl)
  have hk := shp_lt hs (by omega)
  have hj2 : j < cs.length := (List.getElem?_eq_some_iff.mp hc).1
  refine va_get (D := D) (v := .ref (adr t)) hx hb hts (vw_in hv) hown hE.1 hP k ((mWd_get hk).trans (by rw [mEn_obj hs])) hv j hj (hts _ hlk) (fun _ h => h) ?_ hd (n0 H locs ls hl hP hS)
  simp only [List.getElem?_map, List.getElem?_range hj2, Option.map_some]
  rw [List.getD_eq_getElem?_getD, hc]
  rfl
theorem s_getL (K : mCx p R s m args c cells slots X d mi cy adr D) : rl_getL mi (mSem p l e R s m args below meth c cells slots Qw mi cy adr D) := by
  obtain ⟨hx, hb, hml, hown, hts, hE, hok, hR, hX⟩ := K
  intro pc nx tg L S M ix k ci j cs hf hs hc n0 H locs ls hl hP hS
  obtain ⟨hd, rfl⟩ := fx_dec hf rfl
  obtain ⟨Cn, Tt, N, hv, hj, hlk⟩ := fx_fld hf (Or.inl rfl)
  have hk := shp_lt hs (by omega)
  have hj2 : j < cs.length := (List.getElem?_eq_some_iff.mp hc).1
  refine va_get (D := D) (v := .long M.2) hx hb hts (vw_in hv) hown hE.1 hP k ((mWd_get hk).trans (by rw [mEn_obj hs])) hv j hj (hts _ hlk) (fun _ h => h) ?_ hd (n0 H locs ls hl hP hS)
  simp only [List.getElem?_map, List.getElem?_range hj2, Option.map_some]
  rw [List.getD_eq_getElem?_getD, hc]
  rfl
theorem s_putI (K : mCx p R s m args c cells slots X d mi cy adr D) : rl_putI mi (mSem p l e R s m args below meth c cells slots Qw mi cy adr D) := by
  obtain ⟨hx, hb, hml, hown, hts, hE, hok, hR, hX⟩ := K
  intro pc nx tg L S M ix k ci j cs v hf hs hc n0 H locs ls hl hP hS
  obtain ⟨hd, rfl⟩ := fx_dec hf rfl
  obtain ⟨Cn, Tt, N, hv, hj, hlk⟩ := fx_fld hf (Or.inr rfl)
  have hk := shp_lt hs (by omega)
  have hj2 : j < cs.length := (List.getElem?_eq_some_iff.mp hc).1
  have hw := vw_put hv k hs hc hj
  refine va_put (D := D) (v := .int v) (ty := .int) hx hb hts (vw_in hv) (vw_ty ci) (vw_tyok hv) (vw_nm hv) hown hE.1 hP (mWd_D hok) hS k ((mWd_get hk).trans (by rw [mEn_obj hs])) hv j hj (hts _ hlk) (fun _ h => h) hw.1 hw.2 (rfl) (rfl) (by simpa using hj2) hd (fun H1 locs1 hP1 _ hS1 => ?_)
  rw [mWd_set (M' := stM M k j v) hk (mEn_stI hs hc (Or.inl rfl)) (fun a _ ha => mEn_off (stM_o M v ha) rfl)] at hP1
  exact n0 H1 locs1 ls hl hP1 hS1
theorem s_putZ (K : mCx p R s m args c cells slots X d mi cy adr D) : rl_putZ mi (mSem p l e R s m args below meth c cells slots Qw mi cy adr D) := by
  obtain ⟨hx, hb, hml, hown, hts, hE, hok, hR, hX⟩ := K
  intro pc nx tg L S M ix k ci j cs v hf hs hc hv0 n0 H locs ls hl hP hS
  obtain ⟨hd, rfl⟩ := fx_dec hf rfl
  obtain ⟨Cn, Tt, N, hv, hj, hlk⟩ := fx_fld hf (Or.inr rfl)
  have hk := shp_lt hs (by omega)
  have hj2 : j < cs.length := (List.getElem?_eq_some_iff.mp hc).1
  have hw := vw_put hv k hs hc hj
  refine va_put (D := D) (v := .int v) (ty := .boolean) hx hb hts (vw_in hv) (vw_ty ci) (vw_tyok hv) (vw_nm hv) hown hE.1 hP (mWd_D hok) hS k ((mWd_get hk).trans (by rw [mEn_obj hs])) hv j hj (hts _ hlk) (fun _ h => h) hw.1 hw.2 (by rcases hv0 with rfl | rfl <;> rfl) (by rcases hv0 with rfl | rfl <;> rfl) (by simpa using hj2) hd (fun H1 locs1 hP1 _ hS1 => ?_)
  rw [mWd_set (M' := stM M k j v) hk (mEn_stI hs hc (Or.inr rfl)) (fun a _ ha => mEn_off (stM_o M v ha) rfl)] at hP1
  exact n0 H1 locs1 ls hl hP1 hS1
theorem s_putL (K : mCx p R s m args c cells slots X d mi cy adr D) : rl_putL mi (mSem p l e R s m args below meth c cells slots Qw mi cy adr D) := by
  obtain ⟨hx, hb, hml, hown, hts, hE, hok, hR, hX⟩ := K
  intro pc nx tg L S M ix k ci j cs v hf hs hc n0 H locs ls hl hP hS
  obtain ⟨hd, rfl⟩ := fx_dec hf rfl
  obtain ⟨Cn, Tt, N, hv, hj, hlk⟩ := fx_fld hf (Or.inr rfl)
  have hk := shp_lt hs (by omega)
  have hj2 : j < cs.length := (List.getElem?_eq_some_iff.mp hc).1
  have hw := vw_put hv k hs hc hj
  refine va_put (D := D) (v := .long v) (ty := .long) hx hb hts (vw_in hv) (vw_ty ci) (vw_tyok hv) (vw_nm hv) hown hE.1 hP (mWd_D hok) hS k ((mWd_get hk).trans (by rw [mEn_obj hs])) hv j hj (hts _ hlk) (fun _ h => h) hw.1 hw.2 (rfl) (rfl) (by simpa using hj2) hd (fun H1 locs1 hP1 _ hS1 => ?_)
  rw [mWd_set (M' := (M.1, v)) hk (mEn_stL hs hc) (fun a ha hk2 => mEn_offL ha (fun z => hk2 (z.trans (one_long k hk (by rw [hs]) (by rw [hs]; exact List.mem_of_getElem? hc)).symm)))] at hP1
  exact n0 H1 locs1 ls hl hP1 hS1
theorem s_iald (K : mCx p R s m args c cells slots X d mi cy adr D) : rl_iald mi (mSem p l e R s m args below meth c cells slots Qw mi cy adr D) := by
  obtain ⟨hx, hb, hml, hown, hts, hE, hok, hR, hX⟩ := K
  intro pc nx tg L S M k n cs i hf hs hi n0 H locs ls hl hP hS
  obtain ⟨hd, rfl⟩ := fx_dec hf rfl
  have hk := shp_lt hs (by omega)
  exact va_iald hx hb hE.1 hP k 0 ((mWd_get hk).trans (by rw [mEn_i hs])) rfl hi hd (n0 H locs ls hl hP hS)
theorem s_zald (K : mCx p R s m args c cells slots X d mi cy adr D) : rl_zald mi (mSem p l e R s m args below meth c cells slots Qw mi cy adr D) := by
  obtain ⟨hx, hb, hml, hown, hts, hE, hok, hR, hX⟩ := K
  intro pc nx tg L S M k n cs i hf hs hi n0 H locs ls hl hP hS
  obtain ⟨hd, rfl⟩ := fx_dec hf rfl
  have hk := shp_lt hs (by omega)
  exact va_zald hx hb hE.1 hP k 1 ((mWd_get hk).trans (by rw [mEn_z hs])) rfl hi hd (n0 H locs ls hl hP hS)
theorem s_iast (K : mCx p R s m args c cells slots X d mi cy adr D) : rl_iast mi (mSem p l e R s m args below meth c cells slots Qw mi cy adr D) := by
  obtain ⟨hx, hb, hml, hown, hts, hE, hok, hR, hX⟩ := K
  intro pc nx tg L S M k n cs i v hf hs hi n0 H locs ls hl hP hS
  obtain ⟨hd, rfl⟩ := fx_dec hf rfl
  have hk := shp_lt hs (by omega)
  refine va_iast hx hb hE.1 hP (mWd_D hok) hS k 0 ((mWd_get hk).trans (by rw [mEn_i hs])) rfl hi hd (fun H1 locs1 hP1 _ hS1 => ?_)
  rw [mWd_set (M' := stM M k i.toNatClampNeg v) hk (by rw [mEn_i hs, stM_k]) (fun a _ ha => mEn_off (stM_o M v ha) rfl)] at hP1
  exact n0 H1 locs1 ls hl hP1 hS1
theorem s_zast (K : mCx p R s m args c cells slots X d mi cy adr D) : rl_zast mi (mSem p l e R s m args below meth c cells slots Qw mi cy adr D) := by
  obtain ⟨hx, hb, hml, hown, hts, hE, hok, hR, hX⟩ := K
  intro pc nx tg L S M k n cs i v hf hs hi hv0 n0 H locs ls hl hP hS
  obtain ⟨hd, rfl⟩ := fx_dec hf rfl
  have hk := shp_lt hs (by omega)
  refine va_zast hx hb hE.1 hP (mWd_D hok) hS k 1 ((mWd_get hk).trans (by rw [mEn_z hs])) rfl hi hd (fun H1 locs1 hP1 _ hS1 => ?_)
  have hn : vp_nar .boolean v = v := by rcases hv0 with rfl | rfl <;> rfl
  rw [hn] at hP1
  rw [mWd_set (M' := stM M k i.toNatClampNeg v) hk (by rw [mEn_z hs, stM_k]) (fun a _ ha => mEn_off (stM_o M v ha) rfl)] at hP1
  exact n0 H1 locs1 ls hl hP1 hS1
theorem s_aald (K : mCx p R s m args c cells slots X d mi cy adr D) : rl_aald mi (mSem p l e R s m args below meth c cells slots Qw mi cy adr D) := by
  obtain ⟨hx, hb, hml, hown, hts, hE, hok, hR, hX⟩ := K
  intro pc nx tg L S M k n t cs i hf hs hi ht n0 H locs ls hl hP hS
  obtain ⟨hd, rfl⟩ := fx_dec hf rfl
  have hk := shp_lt hs (by omega)
  have hlt : i.toNatClampNeg < n := Nat.not_le.mp fun q => hi (Or.inr q)
  have ha := (mWd_get (cy := cy) (adr := adr) (M := M) hk).trans (by rw [mEn_r hs])
  exact W.aald (v := .ref (adr t)) (ty := .array .int) hx hb (hP k _ ha) ((hE.1.2 2 _ rfl).1 n (fun j => va_rf ((cs[j]?).map adr))) rfl (fun q => by cases q) (by show ¬ (i < 0 ∨ (arrV _ _ _).slots.size ≤ _); rw [arrV_size]; exact hi) (by show (arrV _ _ _).slots[_]? = _; rw [arrV_read _ _ hlt]; simp only [ht, Option.map_some]; rfl) rfl rfl hd (n0 H locs ls hl hP hS)
theorem s_alen (K : mCx p R s m args c cells slots X d mi cy adr D) : rl_alen mi (mSem p l e R s m args below meth c cells slots Qw mi cy adr D) := by
  obtain ⟨hx, hb, hml, hown, hts, hE, hok, hR, hX⟩ := K
  intro pc nx tg L S M k n cs hf hs n0 H locs ls hl hP hS
  obtain ⟨hd, rfl⟩ := fx_dec hf rfl
  have hk := shp_lt hs (by omega)
  exact va_alen (x := (n, .inl (M.1 k))) hx hb hE.1 hP k 0 ((mWd_get hk).trans (by rw [mEn_i hs])) rfl rfl hd (n0 H locs ls hl hP hS)
theorem s_sld (K : mCx p R s m args c cells slots X d mi cy adr D) : rl_sld X mi (mSem p l e R s m args below meth c cells slots Qw mi cy adr D) := by
  obtain ⟨hx, hb, hml, hown, hts, hE, hok, hR, hX⟩ := K
  intro pc nx tg L S M i hf hm hi n0 H locs ls hl hP hS
  obtain ⟨hd, rfl⟩ := fx_dec hf rfl
  obtain ⟨h1, h2, h3⟩ := hX hm
  exact va_sld hx hb h1 h2 h3 hS hi hd (n0 H locs ls hl hP hS)
theorem s_slen (K : mCx p R s m args c cells slots X d mi cy adr D) : rl_slen X mi (mSem p l e R s m args below meth c cells slots Qw mi cy adr D) := by
  obtain ⟨hx, hb, hml, hown, hts, hE, hok, hR, hX⟩ := K
  intro pc nx tg L S M hf hm n0 H locs ls hl hP hS
  obtain ⟨hd, rfl⟩ := fx_dec hf rfl
  obtain ⟨h1, h2, h3⟩ := hX hm
  exact va_slen hx hb h1 h2 h3 hS hd (n0 H locs ls hl hP hS)
theorem s_ldc (K : mCx p R s m args c cells slots X d mi cy adr D) : rl_ldc mi (mSem p l e R s m args below meth c cells slots Qw mi cy adr D) := by
  obtain ⟨hx, hb, hml, hown, hts, hE, hok, hR, hX⟩ := K
  intro pc nx tg L S M ix v hf hk n0 H locs ls hl hP hS
  obtain ⟨hd, rfl⟩ := fx_dec hf rfl
  exact lv_ldc hx hb hown (hts _ (cnI_in hk)) hd (n0 H locs ls hl hP hS)
theorem s_ldcw (K : mCx p R s m args c cells slots X d mi cy adr D) : rl_ldcw mi (mSem p l e R s m args below meth c cells slots Qw mi cy adr D) := by
  obtain ⟨hx, hb, hml, hown, hts, hE, hok, hR, hX⟩ := K
  intro pc nx tg L S M ix v hf hk n0 H locs ls hl hP hS
  obtain ⟨hd, rfl⟩ := fx_dec hf rfl
  exact lv_ldcw hx hb hown (hts _ (cnI_in hk)) hd (n0 H locs ls hl hP hS)
theorem s_ldc2 (K : mCx p R s m args c cells slots X d mi cy adr D) : rl_ldc2 mi (mSem p l e R s m args below meth c cells slots Qw mi cy adr D) := by
  obtain ⟨hx, hb, hml, hown, hts, hE, hok, hR, hX⟩ := K
  intro pc nx tg L S M ix v hf hk n0 H locs ls hl hP hS
  obtain ⟨hd, rfl⟩ := fx_dec hf rfl
  exact lv_ldc2 hx hb hown (hts _ (cnJ_in hk)) hd (n0 H locs ls hl hP hS)
end SND
