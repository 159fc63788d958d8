section
/-! new int[7][k]: the outer array and its seven rows, as cells of the world -/
def aoI (U : State) : Prop := (Cond.arrayOver (.array .int)).before #[] U = true
theorem aoI_of {A : Array Value} {U : State} (h : (Cond.arrayOver (.array .int)).before A U = true) : aoI U := h
theorem aoI_use {A : Array Value} {U : State} (h : aoI U) : (Cond.arrayOver (.array .int)).before A U = true := h
theorem aoI_moved {u U : State} (hvm : u.vm.Alike U.vm) (h : aoI u) : aoI U := Jvm.Stand.arrayOver_alikeB (s := u) (U := U) hvm h
theorem outer_run (c : ClassId) (N h0 : Nat) : ∀ i : Nat, Jvm.Free.Multi.outerC c N h0 i = arrV c N (fun j => va_rf (if j < i then some (h0 + 1 + j) else none)) := by
  intro i
  induction i with
  | zero =>
    refine (arrV_new c N .null).trans (congrArg (arrV c N) (funext fun j => ?_))
    rw [if_neg (Nat.not_lt_zero j)]
    rfl
  | succ i ih =>
    refine (congrArg (fun z : Cell => z.setSlot i (.ref (h0 + 1 + i))) ih).trans ((arrV_store c N i _ _).trans (congrArg (arrV c N) (funext fun j => ?_)))
    rcases Nat.lt_trichotomy j i with h | h | h
    · simp [updV, Nat.ne_of_lt h, h, Nat.lt_succ_of_lt h]
    · subst h
      simp [updV, va_rf]
    · simp [updV, Nat.ne_of_gt h, show ¬ j < i by omega, show ¬ j < i + 1 by omega]
theorem outer_arr (cA : ClassId) (h0 : Nat) : Jvm.Free.Multi.outerC cA 7 h0 7 = arrV cA 7 (fun j => va_rf (([h0 + 1, h0 + 2, h0 + 3, h0 + 4, h0 + 5, h0 + 6, h0 + 7] : List Nat)[j]?)) := by
  refine (outer_run cA 7 h0 7).trans (congrArg (arrV cA 7) (funext fun j => ?_))
  congr 1
  by_cases hj : j < 7
  · rw [if_pos hj]
    rcases (show j = 0 ∨ j = 1 ∨ j = 2 ∨ j = 3 ∨ j = 4 ∨ j = 5 ∨ j = 6 by omega) with rfl | rfl | rfl | rfl | rfl | rfl | rfl <;> rfl
  · rw [if_neg hj, List.getElem?_eq_none (by simp; omega)]
def mnaE (cA : ClassId) (rs : List Nat) : va_E := .inl (cA, 7, .inr (.inr (.inr (.inr (fun i => rs[i]?)))))
def rowE (cI : ClassId) (n : Nat) : va_E := .inl (cI, n, .inl (fun _ => 0))
def mnaL (cA cI : ClassId) (K : Nat) (q q1 q2 q3 q4 q5 q6 q7 : Nat) : va_W := [(q, mnaE cA [q1, q2, q3, q4, q5, q6, q7]), (q1, rowE cI K), (q2, rowE cI K), (q3, rowE cI K), (q4, rowE cI K), (q5, rowE cI K), (q6, rowE cI K), (q7, rowE cI K)]
theorem mnaL_at {cA cI : ClassId} {K h : Nat} : ∀ (i : Nat) (x : Nat × va_E), (mnaL cA cI K h (h + 1) (h + 2) (h + 3) (h + 4) (h + 5) (h + 6) (h + 7))[i]? = some x → x.1 = h + i ∧ ((i = 0 ∧ x.2 = mnaE cA [h + 1, h + 2, h + 3, h + 4, h + 5, h + 6, h + 7]) ∨ ∃ j, j < 7 ∧ x.1 = h + 1 + j ∧ x.2 = rowE cI K)
  | 0, x, hx => by cases hx; exact ⟨rfl, Or.inl ⟨rfl, rfl⟩⟩
  | 1, x, hx => by cases hx; exact ⟨rfl, Or.inr ⟨0, by omega, rfl, rfl⟩⟩
  | 2, x, hx => by cases hx; exact ⟨rfl, Or.inr ⟨1, by omega, rfl, rfl⟩⟩
  | 3, x, hx => by cases hx; exact ⟨rfl, Or.inr ⟨2, by omega, rfl, rfl⟩⟩
  | 4, x, hx => by cases hx; exact ⟨rfl, Or.inr ⟨3, by omega, rfl, rfl⟩⟩
  | 5, x, hx => by cases hx; exact ⟨rfl, Or.inr ⟨4, by omega, rfl, rfl⟩⟩
  | 6, x, hx => by cases hx; exact ⟨rfl, Or.inr ⟨5, by omega, rfl, rfl⟩⟩
  | 7, x, hx => by cases hx; exact ⟨rfl, Or.inr ⟨6, by omega, rfl, rfl⟩⟩
  | i + 8, x, hx => by simp [mnaL] at hx
section MNA
variable {p : Program} {l : Launch} {e : Env} {R : Room} {s : State} {m : MethodId} {args : Array Value} {below : List Frame} {meth : Method} {c : Code} {H : Heap} {locs : List Loc} {cells slots : Nat} {Q : State → Prop}
variable {cc : ByteArray} {pc : Nat} {ls : Array Slot} {rest : List Value} {D : va_G} {cl : List vw_C} {A : Nat → Prop} {ws : va_W} {H0 : Heap}
theorem mnaW (hexec : p.tables.exec = Jvm.exec) (hb : c.code = cc) {own : String} {index : Nat} {cI cZ cA : ClassId} (hown : s.vm.findClass own = some m.cls) (hclink : (Cond.classLink own index "[[I").before args s = true) (hover : aoI s) (harr : (Cond.arrayClass .int).before args s = true)
    (hK : va_K D cl [(cI, .int), (cZ, .boolean), (cA, .array .int)] s) (hP : va_P D cl ws H) (hD : va_D A ws) (hS : va_S A H0 H locs) (hA : ∀ q, H0.size ≤ q → A q) {n k : Int32} {K' : Nat} (hn : ¬ n < 0) (hk : ¬ k < 0) (hN : n.toNatClampNeg = 7) (hM : k.toNatClampNeg = K')
    (hb3 : K' ≤ 1000) (hcells : cells + 8 ≤ R.cells) (hslots : slots + (7 + 7 * K') ≤ R.slots) (hdg : decode cc pc = .ok (.multianewarray index 2, 4))
    (kk : ∀ (q q1 q2 q3 q4 q5 q6 q7 : Nat) (H1 : Heap), va_P D cl (ws ++ mnaL cA cI K' q q1 q2 q3 q4 q5 q6 q7) H1 → va_D A (ws ++ mnaL cA cI K' q q1 q2 q3 q4 q5 q6 q7) → va_S A H0 H1 locs →
      W p l e R s m args below meth c H1 locs (cells + 8) (slots + (7 + 7 * K')) Q (F0 m (pc + 4) ls (.ref q :: rest))) : W p l e R s m args below meth c H locs cells slots Q (F0 m pc ls (.int k :: .int n :: rest)) := by
  intro T hT Xs
  have hcy : s.vm.findClass "[I" = some cI := (hK.2 0 _ rfl).2
  have hca : s.vm.findClass ("[" ++ (FieldType.array .int).toString) = some cA := (hK.2 2 _ rfl).2
  obtain ⟨vm₁, cA', comp, -, fA, fC, -, -, X', step⟩ := Jvm.Stand.multianewarray2F Xs hexec (ty := .int) (index := index) hown hclink (aoI_use hover) harr (g := F0 m pc ls (.int k :: .int n :: rest)) rfl (by rw [hb]; exact hdg) rfl hn hk (by rw [hN]; omega) (by rw [hM]; show K' * 4 ≤ _; omega) (by rw [hM]; omega) rfl rfl (by rw [hN]; exact hcells) (by rw [hN, hM]; exact hslots)
  have ec : some cI = some comp := hcy.symm.trans fC
  cases ec
  have ea : some cA = some cA' := hca.symm.trans fA
  cases ea
  rw [hN, hM] at X' step
  generalize hF : Jvm.Free.Multi.fill (T.setVm vm₁) cA cI 7 K' (defaultValue .int) 7 = F at X' step
  have hTh : (T.setVm vm₁).heap = H := hT
  obtain ⟨f1, f2, -, -⟩ := Jvm.Free.Multi.fill_facts (T.setVm vm₁) cA cI 7 K' (defaultValue .int) 7
  rw [hF, hTh] at f1 f2
  have hold : ∀ x : Nat, x < H.size → F.heap[x]? = H[x]? := fun x hx => by
    have := Jvm.Free.Multi.fill_old (T.setVm vm₁) cA cI 7 K' (defaultValue .int) (a := x) (by rw [hTh]; exact hx) 7
    rw [hF, hTh] at this
    exact this
  have hrow : ∀ j : Nat, j < 7 → F.heap[H.size + 1 + j]? = some (arrV cI K' (fun _ => .int 0)) := fun j hj => by
    have := Jvm.Free.Multi.fill_inner (T.setVm vm₁) cA cI 7 K' (defaultValue .int) 7 j hj
    rw [hF, hTh] at this
    rw [this]
    exact congrArg some (arrV_new cI K' (.int 0))
  rw [outer_arr] at f2
  have hP1 : va_P D cl (ws ++ mnaL cA cI K' H.size (H.size + 1) (H.size + 2) (H.size + 3) (H.size + 4) (H.size + 5) (H.size + 6) (H.size + 7)) F.heap := by
    refine va_P.app (hP.kept (fun k9 x hx => hold x.1 ((hP k9 x hx).lt))) (fun k9 x hx => ?_)
    obtain ⟨h1, h2⟩ := mnaL_at k9 x hx
    obtain ⟨xa, xe⟩ := x
    rcases h2 with ⟨rfl, h3⟩ | ⟨j, hj, h4, h3⟩
    · cases h1
      cases h3
      exact f2
    · cases h4
      cases h3
      exact hrow j hj
  have hD1 : va_D A (ws ++ mnaL cA cI K' H.size (H.size + 1) (H.size + 2) (H.size + 3) (H.size + 4) (H.size + 5) (H.size + 6) (H.size + 7)) := by
    refine va_D.app hD ⟨fun i j x y hi hj hxy => ?_, fun k9 x hx => ?_⟩ (fun i j x y hi hj hxy => ?_)
    · have h1 := (mnaL_at i x hi).1
      have h2 := (mnaL_at j y hj).1
      omega
    · have h1 := (mnaL_at k9 x hx).1
      exact hA _ (by have := hS.1; omega)
    · have h1 := (hP i x hi).lt
      have h2 := (mnaL_at j y hj).1
      omega
  obtain ⟨t, a1, b1⟩ := kk H.size (H.size + 1) (H.size + 2) (H.size + 3) (H.size + 4) (H.size + 5) (H.size + 6) (H.size + 7) F.heap hP1 hD1 ⟨by rw [f1]; have := hS.1; omega, fun x h1 h2 => (hold x (Nat.lt_of_lt_of_le h1 hS.1)).trans (hS.2.1 x h1 h2), hS.2.2⟩ F rfl (by
    rw [show cells + 8 = cells + 1 + 7 by omega, show slots + (7 + 7 * K') = slots + 7 + 7 * K' by omega]
    exact X')
  refine ⟨t, step t ?_, b1⟩
  have e9 : T.heap.size = H.size := by rw [hT]
  rw [e9]
  exact a1
end MNA
end
