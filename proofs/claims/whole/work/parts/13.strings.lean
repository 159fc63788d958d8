theorem dJ0_length_8abf5_0 : decode cJ0_length_8abf5 0 = .ok (.aload_n 0, 1) := by decide +kernel
theorem dJ0_length_8abf5_1 : decode cJ0_length_8abf5 1 = .ok (.getfield 9, 3) := by decide +kernel
theorem dJ0_length_8abf5_4 : decode cJ0_length_8abf5 4 = .ok (.arraylength, 1) := by decide +kernel
theorem dJ0_length_8abf5_5 : decode cJ0_length_8abf5 5 = .ok (.aload_n 0, 1) := by decide +kernel
theorem dJ0_length_8abf5_6 : decode cJ0_length_8abf5 6 = .ok (.invokevirtual 335, 3) := by decide +kernel
theorem dJ0_length_8abf5_9 : decode cJ0_length_8abf5 9 = .ok (.ishr, 1) := by decide +kernel
theorem dJ0_length_8abf5_10 : decode cJ0_length_8abf5 10 = .ok (.ireturn, 1) := by decide +kernel
theorem dJ0_charAt_5068e_0 : decode cJ0_charAt_5068e 0 = .ok (.aload_n 0, 1) := by decide +kernel
theorem dJ0_charAt_5068e_1 : decode cJ0_charAt_5068e 1 = .ok (.invokevirtual 492, 3) := by decide +kernel
theorem dJ0_charAt_5068e_4 : decode cJ0_charAt_5068e 4 = .ok (.ifCond .eq 12, 3) := by decide +kernel
theorem dJ0_charAt_5068e_7 : decode cJ0_charAt_5068e 7 = .ok (.aload_n 0, 1) := by decide +kernel
theorem dJ0_charAt_5068e_8 : decode cJ0_charAt_5068e 8 = .ok (.getfield 9, 3) := by decide +kernel
theorem dJ0_charAt_5068e_11 : decode cJ0_charAt_5068e 11 = .ok (.iload_n 1, 1) := by decide +kernel
theorem dJ0_charAt_5068e_12 : decode cJ0_charAt_5068e 12 = .ok (.invokestatic 495, 3) := by decide +kernel
theorem dJ0_charAt_5068e_15 : decode cJ0_charAt_5068e 15 = .ok (.ireturn, 1) := by decide +kernel
theorem dJ0_charAt_5068e_16 : decode cJ0_charAt_5068e 16 = .ok (.aload_n 0, 1) := by decide +kernel
theorem dJ0_charAt_5068e_17 : decode cJ0_charAt_5068e 17 = .ok (.getfield 9, 3) := by decide +kernel
theorem dJ0_charAt_5068e_20 : decode cJ0_charAt_5068e 20 = .ok (.iload_n 1, 1) := by decide +kernel
theorem dJ0_charAt_5068e_21 : decode cJ0_charAt_5068e 21 = .ok (.invokestatic 498, 3) := by decide +kernel
theorem dJ0_charAt_5068e_24 : decode cJ0_charAt_5068e 24 = .ok (.ireturn, 1) := by decide +kernel
theorem dJ0_coder_7d493_0 : decode cJ0_coder_7d493 0 = .ok (.getstatic 38, 3) := by decide +kernel
theorem dJ0_coder_7d493_3 : decode cJ0_coder_7d493 3 = .ok (.ifCond .eq 10, 3) := by decide +kernel
theorem dJ0_coder_7d493_6 : decode cJ0_coder_7d493 6 = .ok (.aload_n 0, 1) := by decide +kernel
theorem dJ0_coder_7d493_7 : decode cJ0_coder_7d493 7 = .ok (.getfield 15, 3) := by decide +kernel
theorem dJ0_coder_7d493_10 : decode cJ0_coder_7d493 10 = .ok (.goto 4, 3) := by decide +kernel
theorem dJ0_coder_7d493_13 : decode cJ0_coder_7d493 13 = .ok (.iconst 1, 1) := by decide +kernel
theorem dJ0_coder_7d493_14 : decode cJ0_coder_7d493 14 = .ok (.ireturn, 1) := by decide +kernel
theorem dJ0_isLatin1_aae02_0 : decode cJ0_isLatin1_aae02 0 = .ok (.getstatic 38, 3) := by decide +kernel
theorem dJ0_isLatin1_aae02_3 : decode cJ0_isLatin1_aae02 3 = .ok (.ifCond .eq 14, 3) := by decide +kernel
theorem dJ0_isLatin1_aae02_6 : decode cJ0_isLatin1_aae02 6 = .ok (.aload_n 0, 1) := by decide +kernel
theorem dJ0_isLatin1_aae02_7 : decode cJ0_isLatin1_aae02 7 = .ok (.getfield 15, 3) := by decide +kernel
theorem dJ0_isLatin1_aae02_10 : decode cJ0_isLatin1_aae02 10 = .ok (.ifCond .ne 7, 3) := by decide +kernel
theorem dJ0_isLatin1_aae02_13 : decode cJ0_isLatin1_aae02 13 = .ok (.iconst 1, 1) := by decide +kernel
theorem dJ0_isLatin1_aae02_14 : decode cJ0_isLatin1_aae02 14 = .ok (.goto 4, 3) := by decide +kernel
theorem dJ0_isLatin1_aae02_17 : decode cJ0_isLatin1_aae02 17 = .ok (.iconst 0, 1) := by decide +kernel
theorem dJ0_isLatin1_aae02_18 : decode cJ0_isLatin1_aae02 18 = .ok (.ireturn, 1) := by decide +kernel
theorem dJ0_checkIndex_df160_0 : decode cJ0_checkIndex_df160 0 = .ok (.iload_n 0, 1) := by decide +kernel
theorem dJ0_checkIndex_df160_1 : decode cJ0_checkIndex_df160 1 = .ok (.iload_n 1, 1) := by decide +kernel
theorem dJ0_checkIndex_df160_2 : decode cJ0_checkIndex_df160 2 = .ok (.getstatic 1053, 3) := by decide +kernel
theorem dJ0_checkIndex_df160_5 : decode cJ0_checkIndex_df160 5 = .ok (.invokestatic 1059, 3) := by decide +kernel
theorem dJ0_checkIndex_df160_8 : decode cJ0_checkIndex_df160 8 = .ok (.pop, 1) := by decide +kernel
theorem dJ0_checkIndex_df160_9 : decode cJ0_checkIndex_df160 9 = .ok (.return_, 1) := by decide +kernel
theorem dJ1_charAt_3b067_0 : decode cJ1_charAt_3b067 0 = .ok (.iload_n 1, 1) := by decide +kernel
theorem dJ1_charAt_3b067_1 : decode cJ1_charAt_3b067 1 = .ok (.aload_n 0, 1) := by decide +kernel
theorem dJ1_charAt_3b067_2 : decode cJ1_charAt_3b067 2 = .ok (.arraylength, 1) := by decide +kernel
theorem dJ1_charAt_3b067_3 : decode cJ1_charAt_3b067 3 = .ok (.invokestatic 9, 3) := by decide +kernel
theorem dJ1_charAt_3b067_6 : decode cJ1_charAt_3b067 6 = .ok (.aload_n 0, 1) := by decide +kernel
theorem dJ1_charAt_3b067_7 : decode cJ1_charAt_3b067 7 = .ok (.iload_n 1, 1) := by decide +kernel
theorem dJ1_charAt_3b067_8 : decode cJ1_charAt_3b067 8 = .ok (.baload, 1) := by decide +kernel
theorem dJ1_charAt_3b067_9 : decode cJ1_charAt_3b067 9 = .ok (.sipush 255, 3) := by decide +kernel
theorem dJ1_charAt_3b067_12 : decode cJ1_charAt_3b067 12 = .ok (.iand, 1) := by decide +kernel
theorem dJ1_charAt_3b067_13 : decode cJ1_charAt_3b067 13 = .ok (.i2c, 1) := by decide +kernel
theorem dJ1_charAt_3b067_14 : decode cJ1_charAt_3b067 14 = .ok (.ireturn, 1) := by decide +kernel
theorem dJ3_checkIndex_8e157_0 : decode cJ3_checkIndex_8e157 0 = .ok (.iload_n 0, 1) := by decide +kernel
theorem dJ3_checkIndex_8e157_1 : decode cJ3_checkIndex_8e157 1 = .ok (.ifCond .lt 8, 3) := by decide +kernel
theorem dJ3_checkIndex_8e157_4 : decode cJ3_checkIndex_8e157 4 = .ok (.iload_n 0, 1) := by decide +kernel
theorem dJ3_checkIndex_8e157_5 : decode cJ3_checkIndex_8e157 5 = .ok (.iload_n 1, 1) := by decide +kernel
theorem dJ3_checkIndex_8e157_6 : decode cJ3_checkIndex_8e157 6 = .ok (.if_icmp .lt 10, 3) := by decide +kernel
theorem dJ3_checkIndex_8e157_9 : decode cJ3_checkIndex_8e157 9 = .ok (.aload_n 2, 1) := by decide +kernel
theorem dJ3_checkIndex_8e157_10 : decode cJ3_checkIndex_8e157 10 = .ok (.iload_n 0, 1) := by decide +kernel
theorem dJ3_checkIndex_8e157_11 : decode cJ3_checkIndex_8e157 11 = .ok (.iload_n 1, 1) := by decide +kernel
theorem dJ3_checkIndex_8e157_12 : decode cJ3_checkIndex_8e157 12 = .ok (.invokestatic 95, 3) := by decide +kernel
theorem dJ3_checkIndex_8e157_15 : decode cJ3_checkIndex_8e157 15 = .ok (.athrow, 1) := by decide +kernel
theorem dJ3_checkIndex_8e157_16 : decode cJ3_checkIndex_8e157 16 = .ok (.iload_n 0, 1) := by decide +kernel
theorem dJ3_checkIndex_8e157_17 : decode cJ3_checkIndex_8e157 17 = .ok (.ireturn, 1) := by decide +kernel
def qS (v : Option Value) : Array Value → State → Outcome → State → Prop := fun _ st oc t => oc = .returned v ∧ t.heap = st.heap
def pS (adr : Nat → Nat) (sz : Nat) (U : State) : Prop := U.heap.size = sz ∧ mStr adr U
theorem pS_calling {adr : Nat → Nat} {sz : Nat} {av : List Value} : FrameBlind (va_Pc av (pS adr sz)) := fun a U g mk q => by
  obtain ⟨q1, q2, a1, a2, a3, a4, a5⟩ := q
  exact ⟨q1, q2, vk_R.same rfl a1, vk_R.same rfl a2, vk_S.moved (u := U) (U := U.calling g mk a) (Vm.Alike.refl U.vm) a3, va_Z.moved (u := U) (U := U.calling g mk a) (Vm.Alike.refl U.vm) a4, va_Zq.moved (u := U) (U := U.calling g mk a) (Vm.Alike.refl U.vm) a5⟩
abbrev wsJ (y : MethodName) (b : ByteArray) (n : Nat) (r : Option FieldType) : List Cond := .code y b n r :: gW
theorem jw_coder : Cond.code yJ0_coder_7d493 cJ0_coder_7d493 1 (some .byte) ∈ gW ∧ Cond.instanceMethod yJ0_coder_7d493 ∈ gW ∧ Cond.selects yJ0_coder_7d493.cls yJ0_coder_7d493 yJ0_coder_7d493 ∈ gW ∧ Cond.methodLink RJ0 335 yJ0_coder_7d493 ∈ gW ∧ Cond.initialized yJ0_coder_7d493.cls ∈ gW := by decide +kernel
theorem jw_isLatin1 : Cond.code yJ0_isLatin1_aae02 cJ0_isLatin1_aae02 1 (some .boolean) ∈ gW ∧ Cond.instanceMethod yJ0_isLatin1_aae02 ∈ gW ∧ Cond.selects yJ0_isLatin1_aae02.cls yJ0_isLatin1_aae02 yJ0_isLatin1_aae02 ∈ gW ∧ Cond.methodLink RJ0 492 yJ0_isLatin1_aae02 ∈ gW ∧ Cond.initialized yJ0_isLatin1_aae02.cls ∈ gW := by decide +kernel
theorem jw_length : Cond.code yJ0_length_8abf5 cJ0_length_8abf5 1 (some .int) ∈ gW ∧ Cond.instanceMethod yJ0_length_8abf5 ∈ gW ∧ Cond.selects yJ0_length_8abf5.cls yJ0_length_8abf5 yJ0_length_8abf5 ∈ gW ∧ Cond.initialized yJ0_length_8abf5.cls ∈ gW := by decide +kernel
theorem jw_charAt : Cond.code yJ0_charAt_5068e cJ0_charAt_5068e 2 (some .char) ∈ gW ∧ Cond.instanceMethod yJ0_charAt_5068e ∈ gW ∧ Cond.selects yJ0_charAt_5068e.cls yJ0_charAt_5068e yJ0_charAt_5068e ∈ gW ∧ Cond.initialized yJ0_charAt_5068e.cls ∈ gW := by decide +kernel
theorem jw_lcharAt : Cond.code yJ1_charAt_3b067 cJ1_charAt_3b067 2 (some .char) ∈ gW ∧ Cond.static yJ1_charAt_3b067 ∈ gW ∧ Cond.methodLink RJ0 495 yJ1_charAt_3b067 ∈ gW ∧ Cond.initialized yJ1_charAt_3b067.cls ∈ gW := by decide +kernel
theorem jw_check : Cond.code yJ0_checkIndex_df160 cJ0_checkIndex_df160 2 none ∈ gW ∧ Cond.static yJ0_checkIndex_df160 ∈ gW ∧ Cond.methodLink RJ1 9 yJ0_checkIndex_df160 ∈ gW ∧ Cond.initialized yJ0_checkIndex_df160.cls ∈ gW := by decide +kernel
theorem jw_pre : Cond.code yJ3_checkIndex_8e157 cJ3_checkIndex_8e157 3 (some .int) ∈ gW ∧ Cond.static yJ3_checkIndex_8e157 ∈ gW ∧ Cond.methodLink RJ0 1059 yJ3_checkIndex_8e157 ∈ gW ∧ Cond.initialized yJ3_checkIndex_8e157.cls ∈ gW := by decide +kernel
theorem jw_f : Cond.fieldLink RJ0 38 "java/lang/String" "COMPACT_STRINGS" "Z" ∈ gW ∧ Cond.fieldLink RJ0 15 "java/lang/String" "coder" "B" ∈ gW ∧ Cond.fieldLink RJ0 9 "java/lang/String" "value" "[B" ∈ gW ∧ Cond.fieldLink RJ0 1053 "jdk/internal/util/Preconditions" "SIOOBE_FORMATTER" "Ljava/util/function/BiFunction;" ∈ gW := by decide +kernel
theorem jw_good {y : MethodName} {b : ByteArray} {n : Nat} {r : Option FieldType} (h : Cond.code y b n r ∈ gW) : GoodIn gW (wsJ y b n r) := fun x hx => by
  rcases List.mem_cons.mp hx with rfl | hx
  · exact gW_good _ h
  · exact gW_good _ hx
section STR
variable {p : Program} {l : Launch} {e : Env} {R : Room} {s : State} {m : MethodId} {args : Array Value} {below : List Frame} {meth : Method} {c : Code} {cells slots : Nat} {Qw : State → Prop} {H : Heap} {locs : List Loc}
theorem scall {pc : Nat} {ls : Array Slot} {st0 rest : List Value} {a : Array Value} {v : Option Value} (hr : va_Run p l e R s m args below meth c H locs cells slots 0 0 (F0 m pc ls st0) rest (qS v a) (fun _ => False))
    (kk : W p l e R s m args below meth c H locs cells slots Qw (F0 m (pc + 3) ls (v.toList ++ rest))) : W p l e R s m args below meth c H locs cells slots Qw (F0 m pc ls st0) := by
  intro T hT X
  obtain ⟨v2, st₀, t, T', L, h0, X', hL, e1, e2, ⟨hv, hh⟩, st⟩ := hr T hT X
  cases hv
  obtain ⟨t2, a1, b1⟩ := kk T' (by rw [e1, hh, h0]) (Stand.forget X' (fun q h => (hL q h).elim))
  exact ⟨t2, st t2 a1, b1⟩
theorem spre {adr : Nat → Nat} {av : List Value} (h : mStr adr s) (hS : va_S (mA adr s.heap.size) s.heap H locs) : ∀ U : State, U.heap = H → s.WarmedH U.vm → va_Pc av (pS adr H.size) av.toArray U := fun U hU hW => ⟨rfl, by rw [hU], mStr_moved h hW hU hS.1 hS.2.1⟩
theorem srecv {adr : Nat → Nat} (h : mStr adr s) (hS : va_S (mA adr s.heap.size) s.heap H locs) : ∃ cell : Cell, H[adr 1001]? = some cell ∧ cell.vm.isStatics = false ∧ s.vm.findClass "java/lang/String" = some cell.cls := vk_recv (i := 0) h.2.2.1 (by omega) hS
end STR
set_option maxHeartbeats 4000000 in
set_option maxRecDepth 100000 in
theorem j_coder (l : Launch) (adr : Nat → Nat) (sz : Nat) : Met l yJ0_coder_7d493 (wsJ yJ0_coder_7d493 cJ0_coder_7d493 1 (some .byte)) (rmJ 1) (va_Pc [.ref (adr 1001)] (pS adr sz)) (qS (some (.int 0))) 0 0 (fun _ => False) := by
  refine va_MetF (cc := cJ0_coder_7d493) (maxL := 1) (ret := (some .byte)) (by decide +kernel) rfl ?_
  intro p e s m args below meth c s₁ B hml hv
  obtain ⟨rfl, hsz, hM⟩ := hv
  subst hsz
  have hx := B.exec
  have hb := B.bytes
  have hr := B.returns
  have hts0 := atoms_spec (ws := wsJ yJ0_coder_7d493 cJ0_coder_7d493 1 (some .byte)) B.pre
  have hts : ∀ x ∈ gW, x.before ([.ref (adr 1001)] : List Value).toArray s = true := fun x hx => hts0 x (List.mem_cons_of_mem _ hx)
  have hown : s.vm.findClass RJ0 = some m.cls := findClass_of_methodNamed B.named
  have hlocks := B.notSynchronized
  have hS : va_S (mA adr s.heap.size) s.heap s.heap [] := va_S.rf
  have hl := lv_entry ([.ref (adr 1001)]) (n := 1) (Nat.le_of_ble_eq_true rfl)
  rw [lg_entry_eq]
  generalize (lg_sl ([.ref (adr 1001)]) ++ List.replicate (1 - (lg_sl ([.ref (adr 1001)])).length) Slot.unset).toArray = ls at hl ⊢
  have hl : lv_has ls 1 [(0, .ref (adr 1001))] := hl
  refine va_gets hx hb hM.2.2.2.1 hS hown (hts _ jw_f.1) (fun _ h => h) dJ0_coder_7d493_0 ?_
  refine lv_if_eq (tgt := 13) hx hb dJ0_coder_7d493_3 (by decide) (fun h => absurd h (by decide)) (fun _ => ?_)
  refine lv_aload_n hx hb dJ0_coder_7d493_6 rfl (lv_at hl 0 rfl) ?_
  refine vk_getf hx hb (hM.2.2.1.1 0 (by omega)).2.1 hS hown (hts _ jw_f.2.1) (fun _ h => h) dJ0_coder_7d493_7 ?_
  refine lv_goto (tgt := 14) hx hb dJ0_coder_7d493_10 (by decide) ?_
  exact W.zret (v := 0) (ty := .byte) hx hb hr (by decide) (fun t ht hW => ⟨rfl, ht⟩) (fun _ h => by cases h) dJ0_coder_7d493_14
set_option maxHeartbeats 4000000 in
set_option maxRecDepth 100000 in
theorem j_isLatin1 (l : Launch) (adr : Nat → Nat) (sz : Nat) : Met l yJ0_isLatin1_aae02 (wsJ yJ0_isLatin1_aae02 cJ0_isLatin1_aae02 1 (some .boolean)) (rmJ 1) (va_Pc [.ref (adr 1001)] (pS adr sz)) (qS (some (.int 1))) 0 0 (fun _ => False) := by
  refine va_MetF (cc := cJ0_isLatin1_aae02) (maxL := 1) (ret := (some .boolean)) (by decide +kernel) rfl ?_
  intro p e s m args below meth c s₁ B hml hv
  obtain ⟨rfl, hsz, hM⟩ := hv
  subst hsz
  have hx := B.exec
  have hb := B.bytes
  have hr := B.returns
  have hts0 := atoms_spec (ws := wsJ yJ0_isLatin1_aae02 cJ0_isLatin1_aae02 1 (some .boolean)) B.pre
  have hts : ∀ x ∈ gW, x.before ([.ref (adr 1001)] : List Value).toArray s = true := fun x hx => hts0 x (List.mem_cons_of_mem _ hx)
  have hown : s.vm.findClass RJ0 = some m.cls := findClass_of_methodNamed B.named
  have hlocks := B.notSynchronized
  have hS : va_S (mA adr s.heap.size) s.heap s.heap [] := va_S.rf
  have hl := lv_entry ([.ref (adr 1001)]) (n := 1) (Nat.le_of_ble_eq_true rfl)
  rw [lg_entry_eq]
  generalize (lg_sl ([.ref (adr 1001)]) ++ List.replicate (1 - (lg_sl ([.ref (adr 1001)])).length) Slot.unset).toArray = ls at hl ⊢
  have hl : lv_has ls 1 [(0, .ref (adr 1001))] := hl
  refine va_gets hx hb hM.2.2.2.1 hS hown (hts _ jw_f.1) (fun _ h => h) dJ0_isLatin1_aae02_0 ?_
  refine lv_if_eq (tgt := 17) hx hb dJ0_isLatin1_aae02_3 (by decide) (fun h => absurd h (by decide)) (fun _ => ?_)
  refine lv_aload_n hx hb dJ0_isLatin1_aae02_6 rfl (lv_at hl 0 rfl) ?_
  refine vk_getf hx hb (hM.2.2.1.1 0 (by omega)).2.1 hS hown (hts _ jw_f.2.1) (fun _ h => h) dJ0_isLatin1_aae02_7 ?_
  refine lv_if_ne (tgt := 17) hx hb dJ0_isLatin1_aae02_10 (by decide) (fun h => absurd rfl h) (fun _ => ?_)
  refine lv_iconst (v := 1) hx hb dJ0_isLatin1_aae02_13 (by decide) ?_
  refine lv_goto (tgt := 18) hx hb dJ0_isLatin1_aae02_14 (by decide) ?_
  exact W.zret (v := 1) (ty := .boolean) hx hb hr (by decide) (fun t ht hW => ⟨rfl, ht⟩) (fun _ h => by cases h) dJ0_isLatin1_aae02_18
set_option maxHeartbeats 4000000 in
set_option maxRecDepth 100000 in
theorem j_preN (l : Launch) (adr : Nat → Nat) (sz : Nat) (i n : Int32) (h0 : ¬ i < 0) (h1 : i < n) : Met l yJ3_checkIndex_8e157 (wsJ yJ3_checkIndex_8e157 cJ3_checkIndex_8e157 3 (some .int)) (rmJ 1) (va_Pc [.int i, .int n, .null] (pS adr sz)) (qS (some (.int i))) 0 0 (fun _ => False) := by
  refine va_MetF (cc := cJ3_checkIndex_8e157) (maxL := 3) (ret := (some .int)) (by decide +kernel) rfl ?_
  intro p e s m args below meth c s₁ B hml hv
  obtain ⟨rfl, hsz, hM⟩ := hv
  subst hsz
  have hx := B.exec
  have hb := B.bytes
  have hr := B.returns
  have hts0 := atoms_spec (ws := wsJ yJ3_checkIndex_8e157 cJ3_checkIndex_8e157 3 (some .int)) B.pre
  have hts : ∀ x ∈ gW, x.before ([.int i, .int n, .null] : List Value).toArray s = true := fun x hx => hts0 x (List.mem_cons_of_mem _ hx)
  have hown : s.vm.findClass RJ3 = some m.cls := findClass_of_methodNamed B.named
  have hlocks := B.notSynchronized
  have hS : va_S (mA adr s.heap.size) s.heap s.heap [] := va_S.rf
  have hl := lv_entry ([.int i, .int n, .null]) (n := 3) (Nat.le_of_ble_eq_true rfl)
  rw [lg_entry_eq]
  generalize (lg_sl ([.int i, .int n, .null]) ++ List.replicate (3 - (lg_sl ([.int i, .int n, .null])).length) Slot.unset).toArray = ls at hl ⊢
  have hl : lv_has ls 3 [(0, .int i), (1, .int n), (2, .null)] := hl
  refine lv_iload_n hx hb dJ3_checkIndex_8e157_0 rfl (lv_at hl 0 rfl) ?_
  refine lv_if_lt (tgt := 9) hx hb dJ3_checkIndex_8e157_1 (by decide) (fun h => absurd h h0) (fun _ => ?_)
  refine lv_iload_n hx hb dJ3_checkIndex_8e157_4 rfl (lv_at hl 0 rfl) ?_
  refine lv_iload_n hx hb dJ3_checkIndex_8e157_5 rfl (lv_at hl 1 rfl) ?_
  refine lv_icmp_lt (tgt := 16) hx hb dJ3_checkIndex_8e157_6 (by decide) (fun _ => ?_) (fun h => absurd h1 h)
  refine lv_iload_n hx hb dJ3_checkIndex_8e157_16 rfl (lv_at hl 0 rfl) ?_
  exact W.iret (v := i) hx hb hr (fun t ht hW => ⟨rfl, ht⟩) (fun _ h => by cases h) dJ3_checkIndex_8e157_17
set_option maxHeartbeats 4000000 in
set_option maxRecDepth 100000 in
theorem j_preR (l : Launch) (adr : Nat → Nat) (sz : Nat) (i n : Int32) (tt : Nat) (h0 : ¬ i < 0) (h1 : i < n) : Met l yJ3_checkIndex_8e157 (wsJ yJ3_checkIndex_8e157 cJ3_checkIndex_8e157 3 (some .int)) (rmJ 1) (va_Pc [.int i, .int n, .ref tt] (pS adr sz)) (qS (some (.int i))) 0 0 (fun _ => False) := by
  refine va_MetF (cc := cJ3_checkIndex_8e157) (maxL := 3) (ret := (some .int)) (by decide +kernel) rfl ?_
  intro p e s m args below meth c s₁ B hml hv
  obtain ⟨rfl, hsz, hM⟩ := hv
  subst hsz
  have hx := B.exec
  have hb := B.bytes
  have hr := B.returns
  have hts0 := atoms_spec (ws := wsJ yJ3_checkIndex_8e157 cJ3_checkIndex_8e157 3 (some .int)) B.pre
  have hts : ∀ x ∈ gW, x.before ([.int i, .int n, .ref tt] : List Value).toArray s = true := fun x hx => hts0 x (List.mem_cons_of_mem _ hx)
  have hown : s.vm.findClass RJ3 = some m.cls := findClass_of_methodNamed B.named
  have hlocks := B.notSynchronized
  have hS : va_S (mA adr s.heap.size) s.heap s.heap [] := va_S.rf
  have hl := lv_entry ([.int i, .int n, .ref tt]) (n := 3) (Nat.le_of_ble_eq_true rfl)
  rw [lg_entry_eq]
  generalize (lg_sl ([.int i, .int n, .ref tt]) ++ List.replicate (3 - (lg_sl ([.int i, .int n, .ref tt])).length) Slot.unset).toArray = ls at hl ⊢
  have hl : lv_has ls 3 [(0, .int i), (1, .int n), (2, .ref tt)] := hl
  refine lv_iload_n hx hb dJ3_checkIndex_8e157_0 rfl (lv_at hl 0 rfl) ?_
  refine lv_if_lt (tgt := 9) hx hb dJ3_checkIndex_8e157_1 (by decide) (fun h => absurd h h0) (fun _ => ?_)
  refine lv_iload_n hx hb dJ3_checkIndex_8e157_4 rfl (lv_at hl 0 rfl) ?_
  refine lv_iload_n hx hb dJ3_checkIndex_8e157_5 rfl (lv_at hl 1 rfl) ?_
  refine lv_icmp_lt (tgt := 16) hx hb dJ3_checkIndex_8e157_6 (by decide) (fun _ => ?_) (fun h => absurd h1 h)
  refine lv_iload_n hx hb dJ3_checkIndex_8e157_16 rfl (lv_at hl 0 rfl) ?_
  exact W.iret (v := i) hx hb hr (fun t ht hW => ⟨rfl, ht⟩) (fun _ h => by cases h) dJ3_checkIndex_8e157_17
theorem j_pre (l : Launch) (adr : Nat → Nat) (sz : Nat) (i n : Int32) (fv : Value) (h0 : ¬ i < 0) (h1 : i < n) (hfv : (fv = .null ∨ ∃ t, fv = .ref t)) : Met l yJ3_checkIndex_8e157 (wsJ yJ3_checkIndex_8e157 cJ3_checkIndex_8e157 3 (some .int)) (rmJ 1) (va_Pc [.int i, .int n, fv] (pS adr sz)) (qS (some (.int i))) 0 0 (fun _ => False) := by
  rcases hfv with rfl | ⟨t, rfl⟩
  · exact j_preN l adr sz i n h0 h1
  · exact j_preR l adr sz i n t h0 h1
set_option maxHeartbeats 4000000 in
set_option maxRecDepth 100000 in
theorem j_check (l : Launch) (adr : Nat → Nat) (sz : Nat) (i n : Int32) (h0 : ¬ i < 0) (h1 : i < n) : Met l yJ0_checkIndex_df160 (wsJ yJ0_checkIndex_df160 cJ0_checkIndex_df160 2 none) (rmJ 2) (va_Pc [.int i, .int n] (pS adr sz)) (qS none) 0 0 (fun _ => False) := by
  refine va_MetF (cc := cJ0_checkIndex_df160) (maxL := 2) (ret := none) (by decide +kernel) rfl ?_
  intro p e s m args below meth c s₁ B hml hv
  obtain ⟨rfl, hsz, hM⟩ := hv
  subst hsz
  have hx := B.exec
  have hb := B.bytes
  have hr := B.returns
  have hts0 := atoms_spec (ws := wsJ yJ0_checkIndex_df160 cJ0_checkIndex_df160 2 none) B.pre
  have hts : ∀ x ∈ gW, x.before ([.int i, .int n] : List Value).toArray s = true := fun x hx => hts0 x (List.mem_cons_of_mem _ hx)
  have hown : s.vm.findClass RJ0 = some m.cls := findClass_of_methodNamed B.named
  have hlocks := B.notSynchronized
  have hS : va_S (mA adr s.heap.size) s.heap s.heap [] := va_S.rf
  have hl := lv_entry ([.int i, .int n]) (n := 2) (Nat.le_of_ble_eq_true rfl)
  rw [lg_entry_eq]
  generalize (lg_sl ([.int i, .int n]) ++ List.replicate (2 - (lg_sl ([.int i, .int n])).length) Slot.unset).toArray = ls at hl ⊢
  have hl : lv_has ls 2 [(0, .int i), (1, .int n)] := hl
  refine lv_iload_n hx hb dJ0_checkIndex_df160_0 rfl (lv_at hl 0 rfl) ?_
  refine lv_iload_n hx hb dJ0_checkIndex_df160_1 rfl (lv_at hl 1 rfl) ?_
  obtain ⟨fv, hfv, hZq⟩ : ∃ fv : Value, (fv = .null ∨ ∃ t, fv = .ref t) ∧ va_Z "jdk/internal/util/Preconditions" "SIOOBE_FORMATTER" "Ljava/util/function/BiFunction;" fv (mA adr s.heap.size) s s.heap := by
    rcases hM.2.2.2.2 with h | ⟨t, h⟩
    · exact ⟨.null, Or.inl rfl, h⟩
    · exact ⟨.ref t, Or.inr ⟨t, rfl⟩, h⟩
  refine va_gets hx hb hZq hS hown (hts _ jw_f.2.2.2) (fun _ h => h) dJ0_checkIndex_df160_2 ?_
  refine scall (va_runS (As := [.int i, .int n, fv]) (rest := []) (nL := 2) ⟨hx, hb, hml, hown, hts⟩ (j_pre l adr s.heap.size i n fv h0 h1 hfv) ⟨callB_of 3 hts (jw_good jw_pre.1) rfl rfl rfl (hts _ jw_pre.2.2.2) (hts _ jw_pre.2.2.1) (by decide +kernel) ⟨Nat.le_of_ble_eq_true rfl, Nat.le_of_ble_eq_true rfl⟩, hts _ jw_pre.2.1⟩ ⟨pS_calling, spre hM hS⟩ rfl rfl hl.1 rfl (lv_room (Nat.le_of_ble_eq_true rfl)) dJ0_checkIndex_df160_5 ⟨Nat.zero_le _, Nat.zero_le _⟩) ?_
  refine lv_pop hx hb dJ0_checkIndex_df160_8 rfl ?_
  exact W.vret hx hb hr (fun t ht hW => ⟨rfl, ht⟩) (fun _ h => by cases h) dJ0_checkIndex_df160_9
theorem kch_char : ∀ i, i < 5 → ((((([114, 98, 109, 119, 112] : List Int32).getD i 0) &&& 255).toUInt32 % 65536).toInt32 = kch i) ∧ narrow .char (.int (kch i)) = .int (kch i) := by decide +kernel
set_option maxHeartbeats 4000000 in
set_option maxRecDepth 100000 in
theorem j_lcharAt (l : Launch) (adr : Nat → Nat) (sz : Nat) (i : Int32) (hi : vp_in i 5) : Met l yJ1_charAt_3b067 (wsJ yJ1_charAt_3b067 cJ1_charAt_3b067 2 (some .char)) (rmJ 3) (va_Pc [.ref (adr 1002), .int i] (pS adr sz)) (qS (some (.int (kch i.toNatClampNeg)))) 0 0 (fun _ => False) := by
  refine va_MetF (cc := cJ1_charAt_3b067) (maxL := 2) (ret := (some .char)) (by decide +kernel) rfl ?_
  intro p e s m args below meth c s₁ B hml hv
  obtain ⟨rfl, hsz, hM⟩ := hv
  subst hsz
  have hx := B.exec
  have hb := B.bytes
  have hr := B.returns
  have hts0 := atoms_spec (ws := wsJ yJ1_charAt_3b067 cJ1_charAt_3b067 2 (some .char)) B.pre
  have hts : ∀ x ∈ gW, x.before ([.ref (adr 1002), .int i] : List Value).toArray s = true := fun x hx => hts0 x (List.mem_cons_of_mem _ hx)
  have hown : s.vm.findClass RJ1 = some m.cls := findClass_of_methodNamed B.named
  have hlocks := B.notSynchronized
  have hS : va_S (mA adr s.heap.size) s.heap s.heap [] := va_S.rf
  have hl := lv_entry ([.ref (adr 1002), .int i]) (n := 2) (Nat.le_of_ble_eq_true rfl)
  rw [lg_entry_eq]
  generalize (lg_sl ([.ref (adr 1002), .int i]) ++ List.replicate (2 - (lg_sl ([.ref (adr 1002), .int i])).length) Slot.unset).toArray = ls at hl ⊢
  have hl : lv_has ls 2 [(0, .ref (adr 1002)), (1, .int i)] := hl
  have hlt : i.toNatClampNeg < 5 := Nat.not_le.mp fun q => hi (Or.inr q)
  have hT := (hM.2.2.1.1 0 (by omega)).2.2.2
  refine lv_iload_n hx hb dJ1_charAt_3b067_0 rfl (lv_at hl 1 rfl) ?_
  refine lv_aload_n hx hb dJ1_charAt_3b067_1 rfl (lv_at hl 0 rfl) ?_
  refine va_tlen hx hb (v := 5) hT hS (by decide) dJ1_charAt_3b067_2 ?_
  have h5 : i < 5 := by
    obtain ⟨j, hj, rfl⟩ := vp_in_of hi (by decide)
    exact nI_lt (b := 5) hj (by decide)
  refine scall (va_runS (As := [.int i, .int 5]) (rest := []) (nL := 2) ⟨hx, hb, hml, hown, hts⟩ (j_check l adr s.heap.size i 5 (fun q => hi (Or.inl q)) h5) ⟨callB_of 2 hts (jw_good jw_check.1) rfl rfl rfl (hts _ jw_check.2.2.2) (hts _ jw_check.2.2.1) (by decide +kernel) ⟨Nat.le_of_ble_eq_true rfl, Nat.le_of_ble_eq_true rfl⟩, hts _ jw_check.2.1⟩ ⟨pS_calling, spre hM hS⟩ rfl rfl hl.1 rfl (lv_room (Nat.le_of_ble_eq_true rfl)) dJ1_charAt_3b067_3 ⟨Nat.zero_le _, Nat.zero_le _⟩) ?_
  refine lv_aload_n hx hb dJ1_charAt_3b067_6 rfl (lv_at hl 0 rfl) ?_
  refine lv_iload_n hx hb dJ1_charAt_3b067_7 rfl (lv_at hl 1 rfl) ?_
  refine va_tb hx hb hT hS hi rfl dJ1_charAt_3b067_8 ?_
  refine lv_sipush (v := 255) hx hb dJ1_charAt_3b067_9 (by decide) ?_
  refine lv_iand hx hb dJ1_charAt_3b067_12 ?_
  refine lv_i2c hx hb (v := kch i.toNatClampNeg) dJ1_charAt_3b067_13 (kch_char _ hlt).1 ?_
  exact W.zret (v := kch i.toNatClampNeg) (ty := .char) hx hb hr (kch_char _ hlt).2 (fun t ht hW => ⟨rfl, ht⟩) (fun _ h => by cases h) dJ1_charAt_3b067_14
set_option maxHeartbeats 4000000 in
set_option maxRecDepth 100000 in
theorem j_length (l : Launch) (adr : Nat → Nat) (sz : Nat) : Met l yJ0_length_8abf5 (wsJ yJ0_length_8abf5 cJ0_length_8abf5 1 (some .int)) (rmJ 2) (va_Pc [.ref (adr 1001)] (pS adr sz)) (qS (some (.int 5))) 0 0 (fun _ => False) := by
  refine va_MetF (cc := cJ0_length_8abf5) (maxL := 1) (ret := (some .int)) (by decide +kernel) rfl ?_
  intro p e s m args below meth c s₁ B hml hv
  obtain ⟨rfl, hsz, hM⟩ := hv
  subst hsz
  have hx := B.exec
  have hb := B.bytes
  have hr := B.returns
  have hts0 := atoms_spec (ws := wsJ yJ0_length_8abf5 cJ0_length_8abf5 1 (some .int)) B.pre
  have hts : ∀ x ∈ gW, x.before ([.ref (adr 1001)] : List Value).toArray s = true := fun x hx => hts0 x (List.mem_cons_of_mem _ hx)
  have hown : s.vm.findClass RJ0 = some m.cls := findClass_of_methodNamed B.named
  have hlocks := B.notSynchronized
  have hS : va_S (mA adr s.heap.size) s.heap s.heap [] := va_S.rf
  have hl := lv_entry ([.ref (adr 1001)]) (n := 1) (Nat.le_of_ble_eq_true rfl)
  rw [lg_entry_eq]
  generalize (lg_sl ([.ref (adr 1001)]) ++ List.replicate (1 - (lg_sl ([.ref (adr 1001)])).length) Slot.unset).toArray = ls at hl ⊢
  have hl : lv_has ls 1 [(0, .ref (adr 1001))] := hl
  refine lv_aload_n hx hb dJ0_length_8abf5_0 rfl (lv_at hl 0 rfl) ?_
  refine vk_getf hx hb (hM.2.2.1.1 0 (by omega)).2.2.1 hS hown (hts _ jw_f.2.2.1) (fun _ h => h) dJ0_length_8abf5_1 ?_
  refine va_tlen hx hb (v := 5) (hM.2.2.1.1 0 (by omega)).2.2.2 hS (by decide) dJ0_length_8abf5_4 ?_
  refine lv_aload_n hx hb dJ0_length_8abf5_5 rfl (lv_at hl 0 rfl) ?_
  refine scall (va_runV (C := yJ0_coder_7d493.cls) (b := adr 1001) (As := []) (rest := [.int 5]) (nL := 1) ⟨hx, hb, hml, hown, hts⟩ (j_coder l adr s.heap.size) ⟨callB_of 0 hts (jw_good jw_coder.1) rfl rfl rfl (hts _ jw_coder.2.2.2.2) (hts _ jw_coder.2.2.2.1) (by decide +kernel) ⟨Nat.le_of_ble_eq_true rfl, Nat.le_of_ble_eq_true rfl⟩, hts _ jw_coder.2.1, hts _ jw_coder.2.2.1⟩ ⟨pS_calling, srecv hM hS, spre hM hS⟩ rfl rfl hl.1 rfl (lv_room (Nat.le_of_ble_eq_true rfl)) dJ0_length_8abf5_6 ⟨Nat.zero_le _, Nat.zero_le _⟩) ?_
  refine lv_ishr hx hb dJ0_length_8abf5_9 ?_
  exact W.iret (v := 5) hx hb hr (fun t ht hW => ⟨rfl, ht⟩) (fun _ h => by cases h) dJ0_length_8abf5_10
set_option maxHeartbeats 4000000 in
set_option maxRecDepth 100000 in
theorem j_charAt (l : Launch) (adr : Nat → Nat) (sz : Nat) (i : Int32) (hi : vp_in i 5) : Met l yJ0_charAt_5068e (wsJ yJ0_charAt_5068e cJ0_charAt_5068e 2 (some .char)) (rmJ 4) (va_Pc [.ref (adr 1001), .int i] (pS adr sz)) (qS (some (.int (kch i.toNatClampNeg)))) 0 0 (fun _ => False) := by
  refine va_MetF (cc := cJ0_charAt_5068e) (maxL := 2) (ret := (some .char)) (by decide +kernel) rfl ?_
  intro p e s m args below meth c s₁ B hml hv
  obtain ⟨rfl, hsz, hM⟩ := hv
  subst hsz
  have hx := B.exec
  have hb := B.bytes
  have hr := B.returns
  have hts0 := atoms_spec (ws := wsJ yJ0_charAt_5068e cJ0_charAt_5068e 2 (some .char)) B.pre
  have hts : ∀ x ∈ gW, x.before ([.ref (adr 1001), .int i] : List Value).toArray s = true := fun x hx => hts0 x (List.mem_cons_of_mem _ hx)
  have hown : s.vm.findClass RJ0 = some m.cls := findClass_of_methodNamed B.named
  have hlocks := B.notSynchronized
  have hS : va_S (mA adr s.heap.size) s.heap s.heap [] := va_S.rf
  have hl := lv_entry ([.ref (adr 1001), .int i]) (n := 2) (Nat.le_of_ble_eq_true rfl)
  rw [lg_entry_eq]
  generalize (lg_sl ([.ref (adr 1001), .int i]) ++ List.replicate (2 - (lg_sl ([.ref (adr 1001), .int i])).length) Slot.unset).toArray = ls at hl ⊢
  have hl : lv_has ls 2 [(0, .ref (adr 1001)), (1, .int i)] := hl
  have hlt : i.toNatClampNeg < 5 := Nat.not_le.mp fun q => hi (Or.inr q)
  refine lv_aload_n hx hb dJ0_charAt_5068e_0 rfl (lv_at hl 0 rfl) ?_
  refine scall (va_runV (C := yJ0_isLatin1_aae02.cls) (b := adr 1001) (As := []) (rest := []) (nL := 2) ⟨hx, hb, hml, hown, hts⟩ (j_isLatin1 l adr s.heap.size) ⟨callB_of 0 hts (jw_good jw_isLatin1.1) rfl rfl rfl (hts _ jw_isLatin1.2.2.2.2) (hts _ jw_isLatin1.2.2.2.1) (by decide +kernel) ⟨Nat.le_of_ble_eq_true rfl, Nat.le_of_ble_eq_true rfl⟩, hts _ jw_isLatin1.2.1, hts _ jw_isLatin1.2.2.1⟩ ⟨pS_calling, srecv hM hS, spre hM hS⟩ rfl rfl hl.1 rfl (lv_room (Nat.le_of_ble_eq_true rfl)) dJ0_charAt_5068e_1 ⟨Nat.zero_le _, Nat.zero_le _⟩) ?_
  refine lv_if_eq (tgt := 16) hx hb dJ0_charAt_5068e_4 (by decide) (fun h => absurd h (by decide)) (fun _ => ?_)
  refine lv_aload_n hx hb dJ0_charAt_5068e_7 rfl (lv_at hl 0 rfl) ?_
  refine vk_getf hx hb (hM.2.2.1.1 0 (by omega)).2.2.1 hS hown (hts _ jw_f.2.2.1) (fun _ h => h) dJ0_charAt_5068e_8 ?_
  refine lv_iload_n hx hb dJ0_charAt_5068e_11 rfl (lv_at hl 1 rfl) ?_
  refine scall (va_runS (As := [.ref (adr 1002), .int i]) (rest := []) (nL := 2) ⟨hx, hb, hml, hown, hts⟩ (j_lcharAt l adr s.heap.size i hi) ⟨callB_of 2 hts (jw_good jw_lcharAt.1) rfl rfl rfl (hts _ jw_lcharAt.2.2.2) (hts _ jw_lcharAt.2.2.1) (by decide +kernel) ⟨Nat.le_of_ble_eq_true rfl, Nat.le_of_ble_eq_true rfl⟩, hts _ jw_lcharAt.2.1⟩ ⟨pS_calling, spre hM hS⟩ rfl rfl hl.1 rfl (lv_room (Nat.le_of_ble_eq_true rfl)) dJ0_charAt_5068e_12 ⟨Nat.zero_le _, Nat.zero_le _⟩) ?_
  exact W.zret (v := kch i.toNatClampNeg) (ty := .char) hx hb hr (kch_char _ hlt).2 (fun t ht hW => ⟨rfl, ht⟩) (fun _ h => by cases h) dJ0_charAt_5068e_15
section STR2
variable {p : Program} {l : Launch} {e : Env} {R : Room} {s : State} {m : MethodId} {args : Array Value} {below : List Frame} {meth : Method} {c : Code} {cells slots : Nat} {Qw : State → Prop} {H : Heap} {locs : List Loc}
variable {X : (Nat → Int32) × Nat} {d mi : Nat} {cy : ClassId × ClassId × ClassId} {adr : Nat → Nat} {D : va_G}
theorem ldcwStr {T : State} (Xs : Stand p l e R s m args below meth c T locs cells slots) (hexec : p.tables.exec = Jvm.exec) {own text : String} {index : Nat} {a : Addr} (hown : s.vm.findClass own = some m.cls)
    (hconst : (Cond.stringRef own index text).before #[] s = true) (hev : (Term.string own index).eval #[] s none [] s = some (.ref a)) {g : JFrame} (hg : g.method = m) (hdg : decode c.code g.pc = .ok (.ldc_w index, 3)) :
    ∀ target, Steps p.tables e below (T.setTop { g with pc := g.pc + 3, stack := .ref a :: g.stack }) target → Steps p.tables e below (T.setTop g) target := by
  obtain ⟨k, cf, i, a2, hk, hcf, hcp, -, hr, hev2⟩ := Cond.stringRef_spec hown hconst
  cases hev.symm.trans hev2
  obtain ⟨k2, hk2, he⟩ := Xs.warmed.alike.2.2 _ _ hk
  have hr2 : k2.resolved[index]? = some (some (.string a)) := by
    rcases Xs.warmed.entry hk hk2 index with h | ⟨h, -⟩
    · rw [h]; exact hr
    · rw [hr] at h; cases h
  intro target hrest
  subst hg
  jvm_step Xs.here [hexec, hdg, ldc_w.wp_string (e := e) (s := T) (f := g) Xs.here.top hk2 (by rw [he]; exact hcf) hcp hr2]
  exact hrest
theorem s_ldcS (K : mCx p R s m args c cells slots X d mi cy adr D) : rl_ldcS mi (mSem p l e R s m args below meth c cells slots Qw mi cy adr D) := by
  obtain ⟨hx, hb, hml, hown, hts, hE, hok, hR, hX⟩ := K
  intro pc nx tg L S M ix hf hk n0 H locs ls hl hP hS
  obtain ⟨hd, rfl⟩ := fx_dec hf rfl
  simp only [Prod.mk.injEq] at hk
  obtain ⟨h1, rfl⟩ := hk
  rw [h1] at hown
  exact va_ldcS hx hb (own := "RiverLessons$Page") hown hE.2.2.1 hd (n0 H locs ls hl hP hS)
theorem s_ldcwS (K : mCx p R s m args c cells slots X d mi cy adr D) : rl_ldcwS mi (mSem p l e R s m args below meth c cells slots Qw mi cy adr D) := by
  obtain ⟨hx, hb, hml, hown, hts, hE, hok, hR, hX⟩ := K
  intro pc nx tg L S M ix hf hk n0 H locs ls hl hP hS
  obtain ⟨hd, rfl⟩ := fx_dec hf rfl
  simp only [Prod.mk.injEq] at hk
  obtain ⟨h1, rfl⟩ := hk
  rw [h1] at hown
  intro T hT Xs
  obtain ⟨t, a, b⟩ := n0 H locs ls hl hP hS T hT Xs
  exact ⟨t, ldcwStr Xs hx (own := "RiverLessons") (text := "rbmwp") (a := adr 1001) hown hE.2.2.2.1.1 hE.2.2.2.1.2 (g := F0 m pc ls (S.map (cv adr))) rfl (by rw [hb]; exact hd) t a, b⟩
theorem s_stlen (K : mCx p R s m args c cells slots X d mi cy adr D) : rl_stlen mi (mSem p l e R s m args below meth c cells slots Qw mi cy adr D) := by
  obtain ⟨hx, hb, hml, hown, hts, hE, hok, hR, hX⟩ := K
  intro pc nx tg L S M ix hf hw n0 H locs ls hl hP hS
  obtain ⟨hd, rfl⟩ := fx_dec hf rfl
  have hlk := fx_prV hf (by omega)
  refine scall (va_runV (C := yJ0_length_8abf5.cls) (b := adr 1001) (As := []) (rest := S.map (cv adr)) (nL := mL mi) ⟨hx, hb, hml, hown, hts⟩ (j_length l adr H.size) ⟨callB_of 0 hts (jw_good jw_length.1) rfl rfl rfl (hts _ jw_length.2.2.2) (hts _ hlk) (by decide +kernel) ⟨by show 2 + 1 ≤ R.frames; omega, by show 8 + (1 + 11) + 60 * 2 ≤ R.locals; omega⟩, hts _ jw_length.2.1, hts _ jw_length.2.2.1⟩ ⟨pS_calling, srecv hE.2.2 hS, spre hE.2.2 hS⟩ rfl rfl hl.2.1 rfl (lv_room (by rw [catS_map]; exact hw)) hd ⟨hR.2.2.1, hR.2.2.2⟩) ?_
  exact n0 H locs ls hl hP hS
theorem s_stchar (K : mCx p R s m args c cells slots X d mi cy adr D) : rl_stchar mi (mSem p l e R s m args below meth c cells slots Qw mi cy adr D) := by
  obtain ⟨hx, hb, hml, hown, hts, hE, hok, hR, hX⟩ := K
  intro pc nx tg L S M ix i hf hw hi n0 H locs ls hl hP hS
  obtain ⟨hd, rfl⟩ := fx_dec hf rfl
  have hlk := fx_prV hf (by omega)
  refine scall (va_runV (C := yJ0_charAt_5068e.cls) (b := adr 1001) (As := [.int i]) (rest := S.map (cv adr)) (nL := mL mi) ⟨hx, hb, hml, hown, hts⟩ (j_charAt l adr H.size i hi) ⟨callB_of 1 hts (jw_good jw_charAt.1) rfl rfl rfl (hts _ jw_charAt.2.2.2) (hts _ hlk) (by decide +kernel) ⟨by show 4 + 1 ≤ R.frames; omega, by show 8 + (2 + 11) + 60 * 4 ≤ R.locals; omega⟩, hts _ jw_charAt.2.1, hts _ jw_charAt.2.2.1⟩ ⟨pS_calling, srecv hE.2.2 hS, spre hE.2.2 hS⟩ rfl rfl hl.2.1 rfl (lv_room (by rw [catS_map]; exact hw)) hd ⟨hR.2.2.1, hR.2.2.2⟩) ?_
  exact n0 H locs ls hl hP hS
end STR2
