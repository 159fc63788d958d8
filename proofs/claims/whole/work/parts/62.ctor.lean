/-! constructors: what they stand in, and their rows -/
def cNest : List Cond := [.methodLinkNest RX6 11 yX1_init "RiverLessons", .methodLinkNest RX6 18 yX2_init "RiverLessons", .methodLinkNest RX6 31 yX4_init "RiverLessons", .methodLinkNest RX6 41 yX3_init "RiverLessons", .methodLinkNest RX6 48 yX0_init "RiverLessons", .methodLinkNest RX6 55 yX5_init "RiverLessons"]
def cEnv (cy : ClassId × ClassId × ClassId) (D : va_G) (U : State) : Prop := va_K D vwCl [(cy.1, .int), (cy.2.1, .boolean), (cy.2.2, .array .int)] U ∧ aoI U ∧ ∀ x ∈ cNest, va_Nw x U
theorem cNest_form {x : Cond} (h : x ∈ cNest) : ∃ (o : String) (i : Nat) (y : MethodName), x = .methodLinkNest o i y "RiverLessons" := by
  simp only [cNest, List.mem_cons, List.not_mem_nil, or_false] at h
  rcases h with rfl | rfl | rfl | rfl | rfl | rfl <;> exact ⟨_, _, _, rfl⟩
theorem cEnv_moved {cy : ClassId × ClassId × ClassId} {D : va_G} {s U : State} (h : cEnv cy D s) (hW : s.WarmedH U.vm) : cEnv cy D U := by
  refine ⟨va_K.moved hW.alike h.1, aoI_moved hW.alike h.2.1, fun x hx => ?_⟩
  have h2 := h.2.2 x hx
  obtain ⟨o, i, y, rfl⟩ := cNest_form hx
  exact va_Nw.warmM hW h2
theorem cEnv_calling {cy : ClassId × ClassId × ClassId} {D : va_G} {U : State} (g : JFrame) (mk : MethodId) (a : Array Value) (h : cEnv cy D U) : cEnv cy D (U.calling g mk a) := by
  refine ⟨va_K.moved (u := U) (U := U.calling g mk a) (Vm.Alike.refl U.vm) h.1, aoI_moved (u := U) (U := U.calling g mk a) (Vm.Alike.refl U.vm) h.2.1, fun x hx => ?_⟩
  have h2 := h.2.2 x hx
  obtain ⟨o, i, y, rfl⟩ := cNest_form hx
  exact va_Nw.same rfl rfl h2
theorem gW_obj : Cond.instanceMethod objectInit ∈ gW ∧ Cond.code objectInit ⟨#[0xb1]⟩ 1 none ∈ gW ∧ Cond.arrayClass .int ∈ gW ∧ Cond.arrayClass .boolean ∈ gW := by decide +kernel
def cW (y : MethodName) (cc : ByteArray) : List Cond := Cond.code y cc 1 none :: gW
theorem cW_good {y : MethodName} {cc : ByteArray} (h : Cond.code y cc 1 none ∈ gW) : GoodIn gW (cW y cc) := fun x hx => by
  rcases List.mem_cons.mp hx with rfl | hx
  · exact gW_good _ h
  · exact gW_good _ hx
/-- a constructor's contract: out of the bare object the world wO -/
def Ctor (l : Launch) (y : MethodName) (cc : ByteArray) (ci : Nat) (fs : List Value) (S : Type) (wO : ClassId × ClassId × ClassId → Nat → S → va_W) (fr lo mc ms : Nat) : Prop :=
  ∀ (cy : ClassId × ClassId × ClassId) (D : va_G) (h sz : Nat), Met l y (cW y cc) { frames := fr, cells := mc, slots := ms, locals := lo } (va_Pc [.ref h] (fun U => U.heap.size = sz ∧ cEnv cy D U ∧ va_P D vwCl [(h, .inr (ci, fs))] U.heap)) (va_Qv (fun _ : S => True) (fun u t => va_P D vwCl (wO cy h u) t.heap ∧ va_D (va_A [(h, .inr (ci, fs))] sz) (wO cy h u)) (va_A [(h, .inr (ci, fs))] sz)) mc ms (va_A [(h, .inr (ci, fs))] sz)
theorem joinL {A0 : Nat → Prop} {D : va_G} {cl : List vw_C} {ws w1 : va_W} {x : Nat × va_E} {H H1 : Heap} (hP : va_P D cl (ws ++ [x]) H) (hD : va_D A0 (ws ++ [x])) (hk : ∀ q : Nat, q < H.size → ¬ va_A [x] H.size q → H1[q]? = H[q]?) (hF : ∀ q, va_A [x] H.size q → A0 q) (hP1 : va_P D cl w1 H1) (hD1 : va_D (va_A [x] H.size) w1) : va_P D cl (ws ++ w1) H1 ∧ va_D A0 (ws ++ w1) := by
  have hold : ∀ (i : Nat) (q : Nat × va_E), ws[i]? = some q → q.1 < H.size ∧ ¬ va_A [x] H.size q.1 := fun i q hq => by
    have hi : i < ws.length := (List.getElem?_eq_some_iff.mp hq).1
    have h0 : (ws ++ [x])[i]? = some q := by rw [List.getElem?_append_left hi]; exact hq
    have hl := (hP i q h0).lt
    refine ⟨hl, fun h => ?_⟩
    rcases h with ⟨k2, e, h⟩ | h
    · match k2, h with
      | 0, h =>
        have hx : x = (q.1, e) := Option.some.inj h
        have hz : (ws ++ [x])[ws.length]? = some x := by rw [List.getElem?_append_right (Nat.le_refl _), Nat.sub_self]; rfl
        have := hD.1 i ws.length q x h0 hz (by rw [hx])
        omega
      | k + 1, h => simp at h
    · omega
  refine ⟨va_P.app (fun k q hq => ?_) hP1, va_D.app ⟨fun i j p q hi hj hpq => ?_, fun k q hq => ?_⟩ (hD1.weaken (fun k q _ h => hF q.1 h)) (fun i j p q hi hj hpq => ?_)⟩
  · have hi : k < ws.length := (List.getElem?_eq_some_iff.mp hq).1
    have h0 : (ws ++ [x])[k]? = some q := by rw [List.getElem?_append_left hi]; exact hq
    exact (hP k q h0).kept (hk q.1 (hold k q hq).1 (hold k q hq).2)
  · exact hD.1 i j p q (by rw [List.getElem?_append_left (List.getElem?_eq_some_iff.mp hi).1]; exact hi) (by rw [List.getElem?_append_left (List.getElem?_eq_some_iff.mp hj).1]; exact hj) hpq
  · exact hD.2 k q (by rw [List.getElem?_append_left (List.getElem?_eq_some_iff.mp hq).1]; exact hq)
  · exact (hold i p hi).2 (by rw [hpq]; exact hD1.2 j q hj)
section CTR
variable {p : Program} {l : Launch} {e : Env} {R : Room} {s : State} {m : MethodId} {args : Array Value} {below : List Frame} {meth : Method} {c : Code} {cells slots : Nat} {Q : State → Prop} {H : Heap} {locs : List Loc}
variable {cc : ByteArray} {pc : Nat} {ls : Array Slot} {rest : List Value} {cy : ClassId × ClassId × ClassId} {D : va_G} {A : Nat → Prop} {H0 : Heap} {own : String} {nL : Nat}
abbrev cCx (p : Program) (s : State) (m : MethodId) (args : Array Value) (c : Code) (own : String) (cc : ByteArray) (nL : Nat) (cy : ClassId × ClassId × ClassId) (D : va_G) : Prop :=
  p.tables.exec = Jvm.exec ∧ c.code = cc ∧ c.maxLocals = nL ∧ s.vm.findClass own = some m.cls ∧ (∀ x ∈ gW, x.before args s = true) ∧ cEnv cy D s
def cSt (D : va_G) (A : Nat → Prop) (H0 : Heap) (ws : va_W) (H : Heap) (locs : List Loc) : Prop := va_P D vwCl ws H ∧ va_D A ws ∧ va_S A H0 H locs
theorem c_obj (K : cCx p s m args c own cc nL cy D) {h idx : Nat} (hl : ls[0]? = some (.val (.ref h))) (hsz : ls.size = nL) (hlk : Cond.methodLink own idx objectInit ∈ gW) (d0 : decode cc 0 = .ok (.aload_n 0, 1)) (d1 : decode cc 1 = .ok (.invokespecial idx, 3)) (hf : 1 ≤ R.frames) (hlo : 12 ≤ R.locals)
    (kk : W p l e R s m args below meth c H locs cells slots Q (F0 m 4 ls [])) : W p l e R s m args below meth c H locs cells slots Q (F0 m 0 ls []) := by
  obtain ⟨hx, hb, hml, hown, hts, hE⟩ := K
  refine lv_aload_n hx hb d0 rfl hl ?_
  refine W.objInit hx hb hown (hts _ hlk) (hts _ gW_obj.1) (hts _ gW_obj.2.1) rfl (by rw [hml]; exact hsz) rfl d1 hf hlo ?_
  exact W.eq (g2 := F0 m 4 ls []) rfl kk
theorem c_put (K : cCx p s m args c own cc nL cy D) (hin2 : meth.name = "<init>") {C : String} {T : u_T} {N ci h k idx : Nat} {fs : List Value} {ws : va_W} {v : Value} {ty : FieldType} (st : cSt D A H0 ((h, .inr (ci, fs)) :: ws) H locs) (hc : vwCl[ci]? = some (C, T, N)) (hk : k < N) (hlk : Cond.fieldLink own idx C (T k).2.1 (T k).2.2.1 ∈ gW) (hdecl : (T k).1 = C) (hCo : C = own) (hd : parseFieldDescriptor (T k).2.2.1 = some ty) (hn : narrow ty v = v) (hfit : fits ty v = true) (hlen : fs.length = N) (hdg : decode cc pc = .ok (.putfield idx, 3))
    (kk : ∀ (H1 : Heap) (locs1 : List Loc), cSt D A H0 ((h, .inr (ci, fs.set k v)) :: ws) H1 locs1 → W p l e R s m args below meth c H1 locs1 cells slots Q (F0 m (pc + 3) ls rest)) : W p l e R s m args below meth c H locs cells slots Q (F0 m pc ls (v :: .ref h :: rest)) := by
  obtain ⟨hx, hb, hml, hown, hts, hE⟩ := K
  obtain ⟨hP, hD, hS⟩ := st
  cases hfin : (T k).2.2.2 with
  | true => exact va_putF hx hb hts (vw_in hc) (vw_ty ci) (vw_tyok hc) (vw_nm hc) hown hE.1 hP hD hS 0 rfl hc k hk (hts _ hlk) (fun x h9 => by rw [hdecl] at h9; exact h9) hfin hin2 (hdecl.trans hCo) hd hn hfit (by rw [hlen]; exact hk) hdg (fun H1 locs1 h1 h2 h3 => kk H1 locs1 ⟨h1, h2, h3⟩)
  | false => exact va_put hx hb hts (vw_in hc) (vw_ty ci) (vw_tyok hc) (vw_nm hc) hown hE.1 hP hD hS 0 rfl hc k hk (hts _ hlk) (fun x h9 => by rw [hdecl] at h9; exact h9) hfin hd hn hfit (by rw [hlen]; exact hk) hdg (fun H1 locs1 h1 h2 h3 => kk H1 locs1 ⟨h1, h2, h3⟩)
theorem c_arrI (K : cCx p s m args c own cc nL cy D) (hA : ∀ q, H0.size ≤ q → A q) {ws : va_W} {n : Int32} {N : Nat} (st : cSt D A H0 ws H locs) (hn : ¬ n < 0) (hN : n.toNatClampNeg = N) (hb3 : N ≤ 1000) (hcells : cells + 1 ≤ R.cells) (hslots : slots + N ≤ R.slots) (hdg : decode cc pc = .ok (.newarray .int, 2))
    (kk : ∀ (q : Nat) (H1 : Heap), cSt D A H0 (ws ++ [(q, rowE cy.1 N)]) H1 locs → W p l e R s m args below meth c H1 locs (cells + 1) (slots + N) Q (F0 m (pc + 2) ls (.ref q :: rest))) : W p l e R s m args below meth c H locs cells slots Q (F0 m pc ls (.int n :: rest)) := by
  obtain ⟨hx, hb, hml, hown, hts, hE⟩ := K
  obtain ⟨hP, hD, hS⟩ := st
  refine va_newa (atype := .int) (ty := .int) (a0 := (N, .inl (fun _ => 0))) hx hb (hts _ gW_obj.2.2.1) rfl hE.1 hP hD hS hA (fun _ => rfl) hn hN (by show N * 4 ≤ _; omega) hcells hslots hdg (fun q cA H1 hK1 hP1 hD1 hS1 => ?_)
  have e1 : s.vm.findClass "[I" = some cy.1 := (hE.1.2 0 _ rfl).2
  have e2 : s.vm.findClass "[I" = some cA := (hK1.2 3 _ rfl).2
  have e3 : cy.1 = cA := Option.some.inj (e1.symm.trans e2)
  subst e3
  exact kk q H1 ⟨hP1, hD1, hS1⟩
theorem c_arrZ (K : cCx p s m args c own cc nL cy D) (hA : ∀ q, H0.size ≤ q → A q) {ws : va_W} {n : Int32} {N : Nat} (st : cSt D A H0 ws H locs) (hn : ¬ n < 0) (hN : n.toNatClampNeg = N) (hb3 : N ≤ 1000) (hcells : cells + 1 ≤ R.cells) (hslots : slots + N ≤ R.slots) (hdg : decode cc pc = .ok (.newarray .boolean, 2))
    (kk : ∀ (q : Nat) (H1 : Heap), cSt D A H0 (ws ++ [(q, rowE cy.2.1 N)]) H1 locs → W p l e R s m args below meth c H1 locs (cells + 1) (slots + N) Q (F0 m (pc + 2) ls (.ref q :: rest))) : W p l e R s m args below meth c H locs cells slots Q (F0 m pc ls (.int n :: rest)) := by
  obtain ⟨hx, hb, hml, hown, hts, hE⟩ := K
  obtain ⟨hP, hD, hS⟩ := st
  refine va_newa (atype := .boolean) (ty := .boolean) (a0 := (N, .inl (fun _ => 0))) hx hb (hts _ gW_obj.2.2.2) rfl hE.1 hP hD hS hA (fun _ => rfl) hn hN (by show N * 1 ≤ _; omega) hcells hslots hdg (fun q cA H1 hK1 hP1 hD1 hS1 => ?_)
  have e1 : s.vm.findClass "[Z" = some cy.2.1 := (hE.1.2 1 _ rfl).2
  have e2 : s.vm.findClass "[Z" = some cA := (hK1.2 3 _ rfl).2
  have e3 : cy.2.1 = cA := Option.some.inj (e1.symm.trans e2)
  obtain ⟨y1, y2, y3⟩ := cy
  cases e3
  exact kk q H1 ⟨hP1, hD1, hS1⟩
theorem c_mna (K : cCx p s m args c own cc nL cy D) (hA : ∀ q, H0.size ≤ q → A q) {ws : va_W} {n k : Int32} {N idx : Nat} (st : cSt D A H0 ws H locs) (hlk : Cond.classLink own idx "[[I" ∈ gW) (hn : ¬ n < 0) (hk : ¬ k < 0) (hN : n.toNatClampNeg = 7) (hM : k.toNatClampNeg = N) (hb3 : N ≤ 1000) (hcells : cells + 8 ≤ R.cells) (hslots : slots + (7 + 7 * N) ≤ R.slots) (hdg : decode cc pc = .ok (.multianewarray idx 2, 4))
    (kk : ∀ (q q1 q2 q3 q4 q5 q6 q7 : Nat) (H1 : Heap), cSt D A H0 (ws ++ mnaL cy.2.2 cy.1 N q q1 q2 q3 q4 q5 q6 q7) H1 locs → W p l e R s m args below meth c H1 locs (cells + 8) (slots + (7 + 7 * N)) Q (F0 m (pc + 4) ls (.ref q :: rest))) : W p l e R s m args below meth c H locs cells slots Q (F0 m pc ls (.int k :: .int n :: rest)) := by
  obtain ⟨hx, hb, hml, hown, hts, hE⟩ := K
  obtain ⟨hP, hD, hS⟩ := st
  exact mnaW hx hb hown (hts _ hlk) hE.2.1 (hts _ gW_obj.2.2.1) hE.1 hP hD hS hA hn hk hN hM hb3 hcells hslots hdg (fun q q1 q2 q3 q4 q5 q6 q7 H1 h1 h2 h3 => kk q q1 q2 q3 q4 q5 q6 q7 H1 ⟨h1, h2, h3⟩)
theorem c_mk (K : cCx p s m args c own cc nL cy D) (hA : ∀ q, H0.size ≤ q → A q) {C : String} {T : u_T} {N ci idx : Nat} {fs : List Value} {ws : va_W} (st : cSt D A H0 ws H locs) (hc : vwCl[ci]? = some (C, T, N)) (hfs : ∀ j, j < N → defaultValue (vw_ty ci j) = vp_V fs j) (w1 : Cond.classLink own idx C ∈ gW ∧ Cond.instantiable C N ∈ gW ∧ Cond.initialized C ∈ gW) (hcells : cells + 1 ≤ R.cells) (hslots : slots + N ≤ R.slots) (d0 : decode cc pc = .ok (.new idx, 3)) (d1 : decode cc (pc + 3) = .ok (.dup, 1))
    (kk : ∀ (q : Nat) (H1 : Heap), cSt D A H0 (ws ++ [(q, .inr (ci, fs))]) H1 locs → W p l e R s m args below meth c H1 locs (cells + 1) (slots + N) Q (F0 m (pc + 4) ls (.ref q :: .ref q :: rest))) : W p l e R s m args below meth c H locs cells slots Q (F0 m pc ls rest) := by
  obtain ⟨hx, hb, hml, hown, hts, hE⟩ := K
  obtain ⟨hP, hD, hS⟩ := st
  refine va_new hx hb hts (vw_in hc) (vw_ty ci) (vw_tyok hc) hown (hts _ w1.1) (hts _ w1.2.1) (hts _ w1.2.2) hE.1 hP hD hS hA hc hfs hcells hslots d0 (fun q H1 h1 h2 h3 => ?_)
  exact lv_dup hx hb d1 rfl (kk q H1 ⟨h1, h2, h3⟩)
theorem c_blind {h sz ci : Nat} {fs : List Value} : FrameBlind (va_Pc [.ref h] (fun U => U.heap.size = sz ∧ cEnv cy D U ∧ va_P D vwCl [(h, .inr (ci, fs))] U.heap)) := fun a U g mk q => ⟨q.1, q.2.1, cEnv_calling g mk a q.2.2.1, q.2.2.2⟩
theorem c_last {ws : va_W} {x : Nat × va_E} (hP : va_P D vwCl (ws ++ [x]) H) : va_P D vwCl [x] H := fun k q hq => by
  match k, hq with
  | 0, hq => exact hP ws.length q (by rw [List.getElem?_append_right (Nat.le_refl _), Nat.sub_self]; exact hq)
  | k + 1, hq => simp at hq
theorem c_freeL {ws : va_W} {x : Nat × va_E} (hD : va_D A (ws ++ [x])) (hS : va_S A H0 H locs) (hA : ∀ q, H0.size ≤ q → A q) : ∀ q, va_A [x] H.size q → A q := fun q hq => by
  rcases hq with ⟨k, e9, h⟩ | h
  · match k, h with
    | 0, h =>
      have hx : x = (q, e9) := Option.some.inj h
      have := hD.2 ws.length x (by rw [List.getElem?_append_right (Nat.le_refl _), Nat.sub_self]; rfl)
      rw [hx] at this
      exact this
    | k + 1, h => simp at h
  · exact hA q (Nat.le_trans hS.1 h)
theorem c_run {ws : va_W} {q ci fr lo mc ms : Nat} {fs : List Value} {S : Type} {wO : ClassId × ClassId × ClassId → Nat → S → va_W} {y : MethodName} {c2 : ByteArray} (hA : ∀ q, H0.size ≤ q → A q) (st : cSt D A H0 (ws ++ [(q, .inr (ci, fs))]) H locs)
    (hr : va_Run p l e R s m args below meth c H locs cells slots mc ms (F0 m pc ls (.ref q :: rest)) rest (va_Qv (fun _ : S => True) (fun u t => va_P D vwCl (wO cy q u) t.heap ∧ va_D (va_A [(q, .inr (ci, fs))] H.size) (wO cy q u)) (va_A [(q, .inr (ci, fs))] H.size) (Value.ref q :: ([] : List Value)).toArray) (va_A [(q, .inr (ci, fs))] H.size))
    (kk : ∀ (u : S) (H1 : Heap) (locs1 : List Loc), cSt D A H0 (ws ++ wO cy q u) H1 locs1 → W p l e R s m args below meth c H1 locs1 (cells + mc) (slots + ms) Q (F0 m (pc + 3) ls rest)) : W p l e R s m args below meth c H locs cells slots Q (F0 m pc ls (.ref q :: rest)) := by
  obtain ⟨hP, hD, hS⟩ := st
  have hF := c_freeL hD hS hA
  refine va_callv hr hS (fun q _ h => hF q h) hF (fun u t H1 locs1 ht hvm _ hB hz1 hk1 hS1 => ?_)
  obtain ⟨hP1, hD1⟩ := hB
  rw [ht] at hP1
  obtain ⟨h1, h2⟩ := joinL hP hD hk1 hF hP1 hD1
  exact kk u H1 locs1 ⟨h1, h2, hS1⟩
theorem c_callN (K : cCx p s m args c own cc nL cy D) (hA : ∀ q, H0.size ≤ q → A q) {ws : va_W} {q ci fr lo mc ms idx : Nat} {fs : List Value} {S : Type} {wO : ClassId × ClassId × ClassId → Nat → S → va_W} {y : MethodName} {c2 : ByteArray} (hM : Ctor l y c2 ci fs S wO fr lo mc ms) (st : cSt D A H0 (ws ++ [(q, .inr (ci, fs))]) H locs)
    (hnest : Cond.methodLinkNest own idx y "RiverLessons" ∈ cNest) (w2 : Cond.code y c2 1 none ∈ gW ∧ Cond.instanceMethod y ∈ gW ∧ Cond.initialized y.cls ∈ gW) (hy : y.name = "<init>") (hy2 : y.cls ≠ "java/lang/invoke/MethodHandle" ∧ y.cls ≠ "java/lang/invoke/VarHandle" ∧ (parseMethodDescriptor y.desc).map (fun d => d.parameters.length) = some 0)
    (hsz : ls.size = nL) (hrm : fr + 1 ≤ R.frames ∧ 20 + lo ≤ R.locals) (hcs : cells + mc ≤ R.cells ∧ slots + ms ≤ R.slots) (hroom : (rest.map fun v => v.category).sum ≤ 8) (d0 : decode cc pc = .ok (.invokespecial idx, 3))
    (kk : ∀ (u : S) (H1 : Heap) (locs1 : List Loc), cSt D A H0 (ws ++ wO cy q u) H1 locs1 → W p l e R s m args below meth c H1 locs1 (cells + mc) (slots + ms) Q (F0 m (pc + 3) ls rest)) : W p l e R s m args below meth c H locs cells slots Q (F0 m pc ls (.ref q :: rest)) := by
  obtain ⟨hx, hb, hml, hown, hts, hE⟩ := K
  refine c_run (y := y) (c2 := c2) (fr := fr) (lo := lo) hA st (va_runIN (As := []) (rest := rest) (b := q) (nL := nL) (own := own) (host := "RiverLessons") ⟨hx, hb, hml, hown, hts⟩ (hM cy D q H.size) ⟨va_cnB 0 hts (cW_good w2.1) rfl rfl rfl (hE.2.2 _ hnest) (hts _ w2.2.2) hy2 ⟨hrm.1, hrm.2⟩, hy, hts _ w2.2.1⟩ ⟨c_blind, fun U hU hW => ⟨rfl, by rw [hU], cEnv_moved hE hW, by rw [hU]; exact c_last st.1⟩⟩ rfl rfl hsz rfl (lv_room hroom) d0 hcs) kk
theorem c_callP (K : cCx p s m args c own cc nL cy D) (hA : ∀ q, H0.size ≤ q → A q) {ws : va_W} {q ci fr lo mc ms idx : Nat} {fs : List Value} {S : Type} {wO : ClassId × ClassId × ClassId → Nat → S → va_W} {y : MethodName} {c2 : ByteArray} (hM : Ctor l y c2 ci fs S wO fr lo mc ms) (st : cSt D A H0 (ws ++ [(q, .inr (ci, fs))]) H locs)
    (hlk : Cond.methodLink own idx y ∈ gW) (w2 : Cond.code y c2 1 none ∈ gW ∧ Cond.instanceMethod y ∈ gW ∧ Cond.initialized y.cls ∈ gW) (hy : y.name = "<init>") (hy2 : y.cls ≠ "java/lang/invoke/MethodHandle" ∧ y.cls ≠ "java/lang/invoke/VarHandle" ∧ (parseMethodDescriptor y.desc).map (fun d => d.parameters.length) = some 0)
    (hsz : ls.size = nL) (hrm : fr + 1 ≤ R.frames ∧ 20 + lo ≤ R.locals) (hcs : cells + mc ≤ R.cells ∧ slots + ms ≤ R.slots) (hroom : (rest.map fun v => v.category).sum ≤ 8) (d0 : decode cc pc = .ok (.invokespecial idx, 3))
    (kk : ∀ (u : S) (H1 : Heap) (locs1 : List Loc), cSt D A H0 (ws ++ wO cy q u) H1 locs1 → W p l e R s m args below meth c H1 locs1 (cells + mc) (slots + ms) Q (F0 m (pc + 3) ls rest)) : W p l e R s m args below meth c H locs cells slots Q (F0 m pc ls (.ref q :: rest)) := by
  obtain ⟨hx, hb, hml, hown, hts, hE⟩ := K
  refine c_run (y := y) (c2 := c2) (fr := fr) (lo := lo) hA st (va_runI (As := []) (rest := rest) (b := q) (nL := nL) (own := own) ⟨hx, hb, hml, hown, hts⟩ (hM cy D q H.size) (cwI 0 hts (cW_good w2.1) rfl rfl rfl (hts _ w2.2.2) (hts _ hlk) (hts _ w2.2.1) hy hy2 ⟨hrm.1, hrm.2⟩) ⟨c_blind, fun U hU hW => ⟨rfl, by rw [hU], cEnv_moved hE hW, by rw [hU]; exact c_last st.1⟩⟩ rfl rfl hsz rfl (lv_room hroom) d0 hcs) kk
end CTR
/-- how a constructor begins and ends -/
theorem ctor_of {l : Launch} {y : MethodName} {cc : ByteArray} {ci : Nat} {fs : List Value} {S : Type} {wO : ClassId × ClassId × ClassId → Nat → S → va_W} {fr lo mc ms : Nat} (hy : plainName y.cls = true) (hyn : y.name = "<init>")
    (body : ∀ (cy : ClassId × ClassId × ClassId) (D : va_G) (h : Nat) (A : Nat → Prop) (p : Program) (e : Env) (R : Room) (s : State) (m : MethodId) (args : Array Value) (below : List Frame) (meth : Method) (c : Code) (Q : State → Prop) (ls : Array Slot), R = { frames := fr, cells := mc, slots := ms, locals := lo } → cCx p s m args c y.cls cc 1 cy D → meth.name = "<init>" → (∀ q, s.heap.size ≤ q → A q) → ls[0]? = some (.val (.ref h)) → ls.size = 1 →
      (∀ (pc : Nat) (u : S) (H : Heap) (locs : List Loc), decode cc pc = .ok (.return_, 1) → cSt D A s.heap (wO cy h u) H locs → W p l e R s m args below meth c H locs mc ms Q (F0 m pc ls [])) →
      cSt D A s.heap [(h, .inr (ci, fs))] s.heap [] → W p l e R s m args below meth c s.heap [] 0 0 Q (F0 m 0 ls [])) : Ctor l y cc ci fs S wO fr lo mc ms := by
  intro cy D h sz
  refine Met.ofW (cc := cc) (maxL := 1) (ret := none) hy rfl ?_
  intro p e s m args below meth c s₁ B hml hv
  obtain ⟨rfl, hsz, hE, hP⟩ := hv
  have hx := B.exec
  have hb := B.bytes
  have hr := B.returns
  have hts0 := atoms_spec (ws := cW y cc) B.pre
  have hts : ∀ x ∈ gW, x.before ([Value.ref h] : List Value).toArray s = true := fun x hx => hts0 x (List.mem_cons_of_mem _ hx)
  have hown : s.vm.findClass y.cls = some m.cls := findClass_of_methodNamed B.named
  have hlocks := B.notSynchronized
  have hin : meth.name = y.name := (name_of_methodNamed B.named B.method).1
  subst hsz
  have hD : va_D (va_A [(h, .inr (ci, fs))] s.heap.size) [(h, .inr (ci, fs))] := ⟨fun i j p q hi hj _ => by
    have h1 := (List.getElem?_eq_some_iff.mp hi).1
    have h2 := (List.getElem?_eq_some_iff.mp hj).1
    simp only [List.length_cons, List.length_nil] at h1 h2
    omega, fun k q hq => va_A.in hq⟩
  have hl := lv_entry ([.ref h]) (n := 1) (Nat.le_of_ble_eq_true rfl)
  rw [lg_entry_eq]
  generalize (lg_sl ([.ref h]) ++ List.replicate (1 - (lg_sl ([.ref h])).length) Slot.unset).toArray = ls at hl ⊢
  have hl : lv_has ls 1 [(0, .ref h)] := hl
  refine body cy D h (va_A [(h, .inr (ci, fs))] s.heap.size) p e _ s m _ below meth c _ ls rfl ⟨hx, hb, hml, hown, hts, hE⟩ (hin.trans hyn) (fun q h9 => Or.inr h9) (lv_at hl 0 rfl) hl.1 (fun pc u H locs hd st => ?_) ⟨hP, hD, va_S.rf⟩
  obtain ⟨hP1, hD1, hS1⟩ := st
  exact W.vret hx hb hr (fun t ht hW => ⟨⟨u, rfl, trivial, by rw [ht]; exact hP1, hD1⟩, hS1.F ht⟩) hS1.2.2 hd
