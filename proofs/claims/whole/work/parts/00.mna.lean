/-! new int[7][k]: the outer array and its seven rows, as cells of the world -/
def aoI (U : State) : Prop := (Cond.arrayOver (.array .int)).before #[] U = true
theorem aoI_of {A : Array Value} {U : State} (h : (Cond.arrayOver (.array .int)).before A U = true) : aoI U := h
/-- what the word says: "[[I" is the array class over "[I" -/
def aoF (U : State) (cI cA : ClassId) (kA : Class) : Prop := U.vm.findClass "[I" = some cI ∧ (U.vm.classes.findIdx? fun x => match x.kind with | .array component _ => component == cI | _ => false) = some cA ∧ U.vm.classes[cA]? = some kA ∧ kA.kind = .array cI (.array .int) ∧ U.vm.findClass "[[I" = some cA
theorem aoI_tells {U : State} (h : aoI U) : ∃ (cI cA : ClassId) (kA : Class), aoF U cI cA kA := by
  have h1 : ((U.vm.findClass "[I").bind fun comp => (U.vm.classes.findIdx? fun x => match x.kind with | .array component _ => component == comp | _ => false).bind fun c => (U.vm.classes[c]?).map fun k => match k.kind with | .array _ ty => decide (ty = FieldType.array .int) && decide (U.vm.findClass "[[I" = some c) | _ => false) = some true := beq_iff_eq.mp h
  obtain ⟨cI, e1, h2⟩ := Option.bind_eq_some_iff.mp h1
  obtain ⟨cA, e2, h3⟩ := Option.bind_eq_some_iff.mp h2
  obtain ⟨kA, e3, h4⟩ := Option.map_eq_some_iff.mp h3
  obtain ⟨hlt, hc, -⟩ := Array.findIdx?_eq_some_iff_getElem.mp e2
  have e4 : U.vm.classes[cA] = kA := (Array.getElem?_eq_some_iff.mp e3).2
  rw [e4] at hc
  refine ⟨cI, cA, kA, e1, e2, e3, ?_⟩
  cases hk : kA.kind with
  | array component ty =>
    simp only [hk] at h4 hc
    have h5 := Bool.and_eq_true_iff.mp h4
    rw [eq_of_beq hc, of_decide_eq_true h5.1]
    exact ⟨rfl, of_decide_eq_true h5.2⟩
  | _ => simp [hk] at h4
theorem aoI_moved {u U : State} (hvm : u.vm.Alike U.vm) (h : aoI u) : aoI U := by
  obtain ⟨cI, cA, kA, e1, e2, e3, e4, e5⟩ := aoI_tells h
  obtain ⟨k', f3, f4⟩ := hvm.2.2 _ _ e3
  have g1 : U.vm.findClass "[I" = some cI := by rw [hvm.findClass]; exact e1
  have g2 : (U.vm.classes.findIdx? fun x => match x.kind with | .array component _ => component == cI | _ => false) = some cA := (hvm.findIdx?_eqK _ (fun _ => rfl)).trans e2
  have g4 : k'.kind = .array cI (.array .int) := by rw [f4]; exact e4
  have g5 : U.vm.findClass "[[I" = some cA := by rw [hvm.findClass]; exact e5
  have h1 : ((U.vm.findClass "[I").bind fun comp => (U.vm.classes.findIdx? fun x => match x.kind with | .array component _ => component == comp | _ => false).bind fun c => (U.vm.classes[c]?).map fun k => match k.kind with | .array _ ty => decide (ty = FieldType.array .int) && decide (U.vm.findClass "[[I" = some c) | _ => false) = some true := by
    refine Option.bind_eq_some_iff.mpr ⟨cI, g1, Option.bind_eq_some_iff.mpr ⟨cA, g2, Option.map_eq_some_iff.mpr ⟨k', f3, ?_⟩⟩⟩
    simp [g4, g5]
  exact beq_iff_eq.mpr h1
/-! the machine's own making: cell after cell -/
def gO (cA : ClassId) (h i : Nat) : Cell := arrV cA 7 (fun j => va_rf (if j < i then some (h + 1 + j) else none))
def gR (cI : ClassId) (K : Nat) : Cell := arrV cI K (fun _ => .int 0)
def gS (cA cI : ClassId) (K : Nat) (s : State) : Nat → State
  | 0 => s.pushCell (gO cA s.heap.size 0)
  | i + 1 => ((gS cA cI K s i).pushCell (gR cI K)).setCell s.heap.size (gO cA s.heap.size (i + 1))
theorem gO_new (cA : ClassId) (h : Nat) : ({ cls := cA, slots := Array.replicate 7 .null, vm := .none } : Cell) = gO cA h 0 := by
  refine (arrV_new cA 7 .null).trans (congrArg (arrV cA 7) (funext fun j => ?_))
  rw [if_neg (Nat.not_lt_zero j)]
  rfl
theorem gO_next (cA : ClassId) (h i : Nat) : (gO cA h i).setSlot i (.ref (h + 1 + i)) = gO cA h (i + 1) := by
  refine (arrV_store cA 7 i _ _).trans (congrArg (arrV cA 7) (funext fun j => ?_))
  rcases Nat.lt_trichotomy j i with q | q | q
  · simp [updV, Nat.ne_of_lt q, q, Nat.lt_succ_of_lt q]
  · subst q
    simp [updV, va_rf]
  · simp [updV, Nat.ne_of_gt q, show ¬ j < i by omega, show ¬ j < i + 1 by omega]
theorem gO_size (cA : ClassId) (h i : Nat) : (gO cA h i).slots.size = 7 := arrV_size cA 7 _
theorem gR_size (cI : ClassId) (K : Nat) : (gR cI K).slots.size = K := arrV_size cI K _
theorem gS_at (cA cI : ClassId) (K : Nat) (s : State) (i : Nat) : (gS cA cI K s i).heap.size = s.heap.size + 1 + i ∧ (gS cA cI K s i).heap[s.heap.size]? = some (gO cA s.heap.size i) ∧ (∀ j : Nat, j < i → (gS cA cI K s i).heap[s.heap.size + 1 + j]? = some (gR cI K)) ∧ (∀ a : Nat, a < s.heap.size → (gS cA cI K s i).heap[a]? = s.heap[a]?) ∧ (gS cA cI K s i).vm = s.vm ∧ (gS cA cI K s i).slotsUsed = s.slotsUsed + 7 + i * K := by
  induction i with
  | zero =>
    refine ⟨by simp [gS, State.pushCell], by simp [gS, State.pushCell], fun j hj => absurd hj (Nat.not_lt_zero j), fun a ha => ?_, rfl, ?_⟩
    · show (s.heap.push _)[a]? = _
      rw [Array.getElem?_push, if_neg (Nat.ne_of_lt ha)]
    · show s.slotsUsed + (gO cA s.heap.size 0).slots.size = _
      rw [gO_size]
      omega
  | succ i ih =>
    obtain ⟨h1, h2, h3, h4, h5, h6⟩ := ih
    have key : ∀ a : Nat, (gS cA cI K s (i + 1)).heap[a]? = if s.heap.size = a then some (gO cA s.heap.size (i + 1)) else if a = s.heap.size + 1 + i then some (gR cI K) else (gS cA cI K s i).heap[a]? := fun a => by
      show (((gS cA cI K s i).heap.push (gR cI K)).setIfInBounds s.heap.size (gO cA s.heap.size (i + 1)))[a]? = _
      rw [Array.getElem?_setIfInBounds, Array.size_push, Array.getElem?_push, h1]
      by_cases ha : s.heap.size = a
      · rw [if_pos ha, if_pos ha, if_pos (by omega)]
      · rw [if_neg ha, if_neg ha]
    refine ⟨?_, ?_, fun j hj => ?_, fun a ha => ?_, h5, ?_⟩
    · show (((gS cA cI K s i).heap.push (gR cI K)).setIfInBounds s.heap.size _).size = _
      rw [Array.size_setIfInBounds, Array.size_push, h1]
      omega
    · rw [key, if_pos rfl]
    · rw [key, if_neg (by omega)]
      by_cases hj2 : j = i
      · rw [if_pos (by omega)]
      · rw [if_neg (by omega)]
        exact h3 j (by omega)
    · rw [key, if_neg (by omega), if_neg (by omega)]
      exact h4 a ha
    · show (gS cA cI K s i).slotsUsed + (gR cI K).slots.size = _
      rw [gR_size, h6, Nat.succ_mul]
      omega
theorem gS_top (cA cI : ClassId) (K : Nat) (s : State) (g : JFrame) (i : Nat) : gS cA cI K (s.setTop g) i = (gS cA cI K s i).setTop g := by
  induction i with
  | zero => rfl
  | succ i ih =>
    show ((gS cA cI K (s.setTop g) i).pushCell _).setCell _ _ = _
    rw [ih]
    rfl
section MNB
variable {E : CtlPost} {e : Env} {d : Bool} {acts : List Action} {s : State}
theorem na_wp {c comp : ClassId} {k : Class} {ty : FieldType} {len : Nat} {v : Value} (hk : s.vm.classes[c]? = some k) (hkind : k.kind = .array comp ty) (h1 : len ≤ e.platform.arrayLengthLimit) (h2 : len * componentBytes ty ≤ e.platform.maxHeapBytes) (h3 : s.heap.size < e.platform.maxCells) (h4 : s.slotsUsed + len ≤ e.platform.maxSlots) (hfit : fits ty v = true) {Q : Addr → Pre}
    (hq : ∀ a', Q s.heap.size d a' (s.pushCell { cls := c, slots := Array.replicate len v, vm := .none })) : Sem.wp (Jvm.newArray c len v) Q E e d acts s := by
  have hall : ∀ i w, (Array.replicate len v)[i]? = some w → s.fitsSlot c .none i w = true := fun i w hw => by
    rw [Array.getElem?_replicate] at hw
    split at hw
    · cases hw
      simp [State.fitsSlot, State.slotType?, hk, hkind, hfit]
    · cases hw
  have n1 : ¬ len > e.platform.arrayLengthLimit := by omega
  have n2 : ¬ len * componentBytes ty > e.platform.maxHeapBytes := by omega
  have n3 : ¬ len > e.platform.maxSlots := by omega
  simp only [Jvm.newArray, Jvm.arrayFits, wp_bind', W.ask, W.ite, n1, if_false, wp_pure', W.theClass, hk, hkind, n2, n3, W.alloc, Option.some.injEq, exists_eq_left', Array.size_replicate]
  exact ⟨h3, h4, hall, hq _⟩
theorem loop7 {f : Nat → PUnit → Sem (ForInStep PUnit)} {S : Nat → State} (hf : ∀ (i : Nat) (d' : Bool) (a' : List Action) (Q' : ForInStep PUnit → Pre), i < 7 → (∀ d2 a2, Q' (ForInStep.yield PUnit.unit) d2 a2 (S (i + 1))) → Sem.wp (f i PUnit.unit) Q' E e d' a' (S i)) {Q : PUnit → Pre} (hq : ∀ d2 a2, Q PUnit.unit d2 a2 (S 7)) : ∀ (n i : Nat) (d' : Bool) (a' : List Action), i + n = 7 → Sem.wp (forIn (List.range' i n 1) PUnit.unit f) Q E e d' a' (S i) := by
  intro n
  induction n with
  | zero =>
    intro i d' a' hi
    have hi7 : i = 7 := by omega
    subst hi7
    simp only [List.range'_zero, List.forIn_nil, wp_pure']
    exact hq _ _
  | succ n ih =>
    intro i d' a' hi
    simp only [List.range'_succ, List.forIn_cons, wp_bind']
    exact hf i d' a' _ (by omega) (fun d2 a2 => ih (i + 1) d2 a2 (by omega))
theorem mk_wp {cA cI cc : ClassId} {kA kI : Class} {n k : Int32} {K : Nat} (hA : s.vm.classes[cA]? = some kA) (hkA : kA.kind = .array cI (.array .int)) (hI : s.vm.classes[cI]? = some kI) (hkI : kI.kind = .array cc .int) (hn : ¬ n < 0) (hk : ¬ k < 0) (hN : n.toNatClampNeg = 7) (hK : k.toNatClampNeg = K) (h1 : 7 ≤ e.platform.arrayLengthLimit) (h2 : 28 ≤ e.platform.maxHeapBytes) (h3 : K ≤ e.platform.arrayLengthLimit) (h4 : K * 4 ≤ e.platform.maxHeapBytes) (h5 : s.heap.size + 8 ≤ e.platform.maxCells) (h6 : s.slotsUsed + (7 + 7 * K) ≤ e.platform.maxSlots) {Q : Addr → Pre}
    (hq : ∀ d' a', Q s.heap.size d' a' (gS cA cI K s 7)) : Sem.wp (multianewarray.make cA [n, k]) Q E e d acts s := by
  rw [multianewarray.make]
  simp only [wp_bind', W.ite, hn, if_false, wp_pure', W.theClass, hA, hkA, Option.some.injEq, exists_eq_left']
  refine na_wp hA hkA (by rw [hN]; exact h1) (by rw [hN]; exact h2) (by omega) (by rw [hN]; omega) rfl (fun a' => ?_)
  have hf : ([k].find? (· < 0)) = none := by simp [hk]
  simp only [hf]
  rw [ite_self, wp_bind', Std.Legacy.Range.forIn_eq_forIn_range', hN, gO_new cA s.heap.size]
  refine loop7 (S := gS cA cI K s) (fun i d' a' Q' hi hn' => ?_) (fun d2 a2 => ?_) 7 0 _ _ rfl
  · obtain ⟨g1, g2, g3, g4, g5, g6⟩ := gS_at cA cI K s i
    have hm : i * K + K ≤ 7 * K := by
      have := Nat.mul_le_mul_right K (show i + 1 ≤ 7 from hi)
      rw [Nat.succ_mul] at this
      exact this
    simp only [wp_bind']
    rw [multianewarray.make]
    simp only [wp_bind', W.ite, hk, if_false, wp_pure', W.theClass, g5, hI, hkI, Option.some.injEq, exists_eq_left']
    refine na_wp (by rw [g5]; exact hI) hkI (by rw [hK]; exact h3) (by rw [hK]; exact h4) (by rw [g1]; omega) (by rw [g6, hK]; omega) rfl (fun a2 => ?_)
    rw [hK, show ({ cls := cI, slots := Array.replicate K (defaultValue .int), vm := .none } : Cell) = gR cI K from arrV_new cI K (.int 0)]
    simp only [wp_bind', W.writeLoc, wp_pure']
    refine ⟨gO cA s.heap.size i, ?_, (fun h => VmData.noConfusion h), by rw [gO_size]; exact hi, ?_, ?_⟩
    · show ((gS cA cI K s i).heap.push _)[s.heap.size]? = _
      rw [Array.getElem?_push, if_neg (by omega)]
      exact g2
    · show State.fitsSlot ((gS cA cI K s i).pushCell _) cA .none i _ = true
      simp [State.fitsSlot, State.slotType?, State.pushCell, g5, hA, hkA, fits]
    · rw [g1, gO_next]
      exact hn' _ _
  · simp only [wp_pure']
    exact hq _ _
end MNB
def mnaE (cA : ClassId) (rs : List Nat) : va_E := .inl (cA, 7, .inr (.inr (.inr (.inr (fun i => rs[i]?)))))
def rowE (cI : ClassId) (n : Nat) : va_E := .inl (cI, n, .inl (fun _ => 0))
def mnaL (cA cI : ClassId) (K : Nat) (q q1 q2 q3 q4 q5 q6 q7 : Nat) : va_W := [(q, mnaE cA [q1, q2, q3, q4, q5, q6, q7]), (q1, rowE cI K), (q2, rowE cI K), (q3, rowE cI K), (q4, rowE cI K), (q5, rowE cI K), (q6, rowE cI K), (q7, rowE cI K)]
theorem mnaL_at {cA cI : ClassId} {K h : Nat} : ∀ (i : Nat) (x : Nat × va_E), (mnaL cA cI K h (h + 1) (h + 2) (h + 3) (h + 4) (h + 5) (h + 6) (h + 7))[i]? = some x → x.1 = h + i ∧ ((i = 0 ∧ x.2 = mnaE cA [h + 1, h + 2, h + 3, h + 4, h + 5, h + 6, h + 7]) ∨ ∃ j, j < 7 ∧ x.1 = h + 1 + j ∧ x.2 = rowE cI K)
  | 0, x, hx => by cases hx; exact ⟨rfl, Or.inl ⟨rfl, rfl⟩⟩
  | 1, x, hx => by cases hx; exact ⟨rfl, Or.inr ⟨0, by omega, rfl, rfl⟩⟩
  | 2, x, hx => by cases hx; exact ⟨rfl, Or.inr ⟨1, by omega, rfl, rfl⟩⟩
  | 3, x, hx => by cases hx; exact ⟨rfl, Or.inr ⟨2, by omega, rfl, rfl⟩⟩
  | 4, x, hx => by cases hx; exact ⟨rfl, Or.inr ⟨3, by omega, rfl, rfl⟩⟩
  | 5, x, hx => by cases hx; exact ⟨rfl, Or.inr ⟨4, by omega, rfl, rfl⟩⟩
  | 6, x, hx => by cases hx; exact ⟨rfl, Or.inr ⟨5, by omega, rfl, rfl⟩⟩
  | 7, x, hx => by cases hx; exact ⟨rfl, Or.inr ⟨6, by omega, rfl, rfl⟩⟩
  | i + 8, x, hx => by simp [mnaL] at hx
theorem gO_seven (cA : ClassId) (h : Nat) : gO cA h 7 = arrV cA 7 (fun j => va_rf (([h + 1, h + 2, h + 3, h + 4, h + 5, h + 6, h + 7] : List Nat)[j]?)) := by
  refine congrArg (arrV cA 7) (funext fun j => congrArg va_rf ?_)
  by_cases hj : j < 7
  · rw [if_pos hj]
    rcases (show j = 0 ∨ j = 1 ∨ j = 2 ∨ j = 3 ∨ j = 4 ∨ j = 5 ∨ j = 6 by omega) with rfl | rfl | rfl | rfl | rfl | rfl | rfl <;> rfl
  · rw [if_neg hj, List.getElem?_eq_none (by simp; omega)]
section MNA
variable {p : Program} {l : Launch} {e : Env} {R : Room} {s : State} {m : MethodId} {args : Array Value} {below : List Frame} {meth : Method} {c : Code} {H : Heap} {locs : List Loc} {cells slots : Nat} {Q : State → Prop}
variable {cc : ByteArray} {pc : Nat} {ls : Array Slot} {rest : List Value} {D : va_G} {cl : List vw_C} {A : Nat → Prop} {ws : va_W} {H0 : Heap}
theorem gS_stand {T : State} (X : Stand p l e R s m args below meth c T locs cells slots) (cA cI : ClassId) (K i : Nat) : ∃ J : List Loc, (∀ x ∈ J, x.base = T.heap.size) ∧ Stand p l e R s m args below meth c (gS cA cI K T i) (locs ++ J) (cells + 1 + i) (slots + 7 + i * K) := by
  induction i with
  | zero =>
    refine ⟨[], fun x hx => (by cases hx), ?_⟩
    have h := X.pushed (gO cA T.heap.size 0)
    rw [gO_size] at h
    rw [List.append_nil, Nat.zero_mul]
    exact h
  | succ i ih =>
    obtain ⟨J, hJ, Xi⟩ := ih
    obtain ⟨g1, g2, -⟩ := gS_at cA cI K T i
    have hc : ((gS cA cI K T i).pushCell (gR cI K)).heap[T.heap.size]? = some (gO cA T.heap.size i) := by
      show ((gS cA cI K T i).heap.push _)[T.heap.size]? = _
      rw [Array.getElem?_push, if_neg (by omega)]
      exact g2
    have h := (Xi.pushed (gR cI K)).stored hc i (.ref (T.heap.size + 1 + i))
    rw [gO_next, gR_size, List.append_assoc] at h
    refine ⟨J ++ [⟨T.heap.size, i⟩], fun x hx => ?_, ?_⟩
    · rcases List.mem_append.mp hx with q | q
      · exact hJ x q
      · rw [List.mem_singleton.mp q]
    · rw [show slots + 7 + (i + 1) * K = slots + 7 + i * K + K by rw [Nat.succ_mul]; omega]
      exact h
theorem mnaW (hexec : p.tables.exec = Jvm.exec) (hb : c.code = cc) {own : String} {index : Nat} {cI cZ cA : ClassId} (hown : s.vm.findClass own = some m.cls) (hclink : (Cond.classLink own index "[[I").before args s = true) (hover : aoI s) (harr : (Cond.arrayClass .int).before args s = true)
    (hK : va_K D cl [(cI, .int), (cZ, .boolean), (cA, .array .int)] s) (hP : va_P D cl ws H) (hD : va_D A ws) (hS : va_S A H0 H locs) (hA : ∀ q, H0.size ≤ q → A q) {n k : Int32} {K' : Nat} (hn : ¬ n < 0) (hk : ¬ k < 0) (hN : n.toNatClampNeg = 7) (hM : k.toNatClampNeg = K')
    (hb3 : K' ≤ 1000) (hcells : cells + 8 ≤ R.cells) (hslots : slots + (7 + 7 * K') ≤ R.slots) (hdg : decode cc pc = .ok (.multianewarray index 2, 4))
    (kk : ∀ (q q1 q2 q3 q4 q5 q6 q7 : Nat) (H1 : Heap), va_P D cl (ws ++ mnaL cA cI K' q q1 q2 q3 q4 q5 q6 q7) H1 → va_D A (ws ++ mnaL cA cI K' q q1 q2 q3 q4 q5 q6 q7) → va_S A H0 H1 locs →
      W p l e R s m args below meth c H1 locs (cells + 8) (slots + (7 + 7 * K')) Q (F0 m (pc + 4) ls (.ref q :: rest))) : W p l e R s m args below meth c H locs cells slots Q (F0 m pc ls (.int k :: .int n :: rest)) := by
  intro T hT X
  subst hb
  have hpl : e.platform.magicAccessors = ({} : Platform).magicAccessors := by rw [X.admits.platform]
  obtain ⟨cI2, cA2, kA, e1, -, e3, e4, e5⟩ := aoI_tells hover
  obtain ⟨cI3, kI, cc3, f1, f2, f3⟩ := Cond.arrayClass_spec harr
  have hcy : s.vm.findClass "[I" = some cI := (hK.2 0 _ rfl).2
  have hca : s.vm.findClass "[[I" = some cA := (hK.2 2 _ rfl).2
  obtain rfl : cI2 = cI := Option.some.inj (e1.symm.trans hcy)
  obtain rfl : cA2 = cA := Option.some.inj (e5.symm.trans hca)
  obtain rfl : cI3 = cI2 := Option.some.inj (f1.symm.trans hcy)
  obtain ⟨c0, hc0, hcl⟩ := Cond.classLink_spec hown hclink e.platform hpl
  obtain rfl : c0 = cA2 := Option.some.inj (hc0.symm.trans hca)
  obtain ⟨hg1, hw1, -⟩ := State.classEntry (e := e) X.warmed hcl
  generalize T.vm.noted m.cls index (.cls c0) = vm1 at hg1 hw1
  obtain ⟨kA1, a1, a2⟩ := hw1.alike.2.2 _ _ e3
  obtain ⟨kI1, b1, b2⟩ := hw1.alike.2.2 _ _ f2
  obtain ⟨r1, r2⟩ := X.roomAbove hcells hslots
  obtain ⟨J, hJ, XJ⟩ := gS_stand (X.noted hw1) c0 cI3 K' 7
  have XF := XJ.dropFresh (fun x hx => by rw [hJ x hx]; exact X.heapGrown)
  obtain ⟨s1, s2, s3, s4, -⟩ := gS_at c0 cI3 K' (T.setVm vm1) 7
  have hTh : (T.setVm vm1).heap = H := hT
  rw [hTh] at s1 s2 s3 s4
  rw [gO_seven] at s2
  have hP1 : va_P D cl (ws ++ mnaL c0 cI3 K' H.size (H.size + 1) (H.size + 2) (H.size + 3) (H.size + 4) (H.size + 5) (H.size + 6) (H.size + 7)) (gS c0 cI3 K' (T.setVm vm1) 7).heap := by
    refine va_P.app (hP.kept (fun k9 x hx => s4 x.1 ((hP k9 x hx).lt))) (fun k9 x hx => ?_)
    obtain ⟨h1, h2⟩ := mnaL_at k9 x hx
    obtain ⟨xa, xe⟩ := x
    rcases h2 with ⟨rfl, h3⟩ | ⟨j, hj, h4, h3⟩
    · cases h1
      cases h3
      exact s2
    · cases h4
      cases h3
      exact s3 j hj
  have hD1 : va_D A (ws ++ mnaL c0 cI3 K' H.size (H.size + 1) (H.size + 2) (H.size + 3) (H.size + 4) (H.size + 5) (H.size + 6) (H.size + 7)) := by
    refine va_D.app hD ⟨fun i j x y hi hj hxy => ?_, fun k9 x hx => ?_⟩ (fun i j x y hi hj hxy => ?_)
    · have h1 := (mnaL_at i x hi).1
      have h2 := (mnaL_at j y hj).1
      omega
    · have h1 := (mnaL_at k9 x hx).1
      exact hA _ (by have := hS.1; omega)
    · have h1 := (hP i x hi).lt
      have h2 := (mnaL_at j y hj).1
      omega
  obtain ⟨t, t1, t2⟩ := kk H.size (H.size + 1) (H.size + 2) (H.size + 3) (H.size + 4) (H.size + 5) (H.size + 6) (H.size + 7) _ hP1 hD1 ⟨by rw [s1]; have := hS.1; omega, fun x h1 h2 => (s4 x (Nat.lt_of_lt_of_le h1 hS.1)).trans (hS.2.1 x h1 h2), hS.2.2⟩ _ rfl (by
    rw [show cells + 8 = cells + 1 + 7 by omega, show slots + (7 + 7 * K') = slots + 7 + 7 * K' by omega]
    exact XF)
  refine ⟨t, ?_, t2⟩
  have lim := Launch.admits_arrayLengthLimit X.admits
  have hp := Launch.admits_maxHeapBytes X.admits
  jvm_step X.here [hexec, hdg]
  simp only [multianewarray.sem, wp_bind', W.resolveClassAt_links (State.method?_setTop (F0 m pc ls (.int k :: .int n :: rest)) X.here.top) hg1]
  rw [W.popN, if_neg (by decide)]
  refine ⟨F0 m pc ls (.int k :: .int n :: rest), State.topJava?_setTop' (s := T.setVm vm1) _ X.here.top, [.int n, .int k], rest, rfl, rfl, ?_⟩
  simp only [List.mapM_cons, List.mapM_nil, wp_bind', wp_pure']
  have eS : ((T.setTop (F0 m pc ls (.int k :: .int n :: rest))).setVm vm1).setTop (F0 m pc ls rest) = (T.setVm vm1).setTop (F0 m pc ls rest) := State.setTop_setTop (s := T.setVm vm1) ..
  refine mk_wp (cc := cc3) (kA := kA1) (kI := kI1) (K := K') a1 (by rw [a2]; exact e4) b1 (by rw [b2]; exact f3) hn hk hN hM (by rw [lim]; omega) (by rw [hp]; omega) (by rw [lim]; omega) (by rw [hp]; omega) (by show T.heap.size + 8 ≤ _; exact r1) (by show T.slotsUsed + _ ≤ _; exact r2) (fun d' acts' => ?_)
  have eT : gS c0 cI3 K' (((T.setTop (F0 m pc ls (.int k :: .int n :: rest))).setVm vm1).setTop (F0 m pc ls rest)) 7 = (gS c0 cI3 K' (T.setVm vm1) 7).setTop (F0 m pc ls rest) := by
    rw [eS, gS_top]
  have e9 : H.size = T.heap.size := by rw [hT]
  rw [e9] at t1
  refine Eq.mpr (congrArg _ eT) ?_
  simp only [wp_bind', W.mark, W.pushRef, State.topJava?_setTop' _ XF.here.top, Option.some.injEq, exists_eq_left', State.setTop_setTop, State.heap_setTop]
  intro acts
  simp [jvm, XF.here.top]
  exact t1
end MNA
