/-! the law from its entry -/
theorem lwW : ∀ x ∈ ([.classLink R_law 7 RX6, .instantiable RX6 11, .initialized RX6, .methodLink R_law 9 yX6_init, .code yX6_init cX6_init 1 none, .instanceMethod yX6_init, .classLink R_law 10 RX7, .instantiable RX7 33, .initialized RX7, .methodLink R_law 12 yX7_init, .code yX7_init cX7_init 1 none, .instanceMethod yX7_init] : List Cond), x ∈ gW := by decide +kernel
theorem d_law_0 : decode code 0 = .ok (.new 7, 3) := by decide +kernel
theorem d_law_3 : decode code 3 = .ok (.dup, 1) := by decide +kernel
theorem d_law_4 : decode code 4 = .ok (.invokespecial 9, 3) := by decide +kernel
theorem d_law_7 : decode code 7 = .ok (.astore_n 1, 1) := by decide +kernel
theorem d_law_8 : decode code 8 = .ok (.new 10, 3) := by decide +kernel
theorem d_law_11 : decode code 11 = .ok (.dup, 1) := by decide +kernel
theorem d_law_12 : decode code 12 = .ok (.invokespecial 12, 3) := by decide +kernel
theorem d_law_15 : decode code 15 = .ok (.astore_n 2, 1) := by decide +kernel
theorem law_R : mR n_Law_law = some .boolean := by decide +kernel
theorem law_L : mL n_Law_law = 4 := by decide +kernel
theorem law_C : mC n_Law_law = code := rfl
theorem law_O : clN (mO n_Law_law) = R_law := by decide +kernel
section BEG
variable {p : Program} {e : Env} {s : State} {m : MethodId} {below : List Frame} {meth : Method} {c : Code}
/-- behind the constructors -/
theorem whole_rest (l : Launch) {b L : Nat} {xs : Nat → Int32} (hL : L ≤ 256) (C0 : lw_At p s m meth c b L xs) {cy : ClassId × ClassId × ClassId} {D : va_G} (hE : cEnv cy D s) {adr : Nat → Nat} (hb0 : adr 1000 = b) (hstr : (∀ q, mA adr s.heap.size q → s.heap.size ≤ q) → mStr adr s) {H : Heap} {locs : List Loc} {ls : Array Slot} (st : cSt D (fun q => s.heap.size ≤ q) s.heap (mWd cy adr M0) H locs) (hl : lv_has ls 4 [(2, .ref (adr 55)), (1, .ref (adr 0)), (0, .ref b)]) : W p l e room_1 s m #[Value.ref b] below meth c H locs 600000 7302250 (lw_Z below #[Value.ref b] s) (F0 m 16 ls []) := by
  obtain ⟨hx, hb, hr, hml, hown, htl, hX, hbl, hlocks, hgv⟩ := C0
  obtain ⟨hP, hD, hS⟩ := st
  have hts : ∀ x ∈ gW, x.before #[Value.ref b] s = true := fun x hx => htl x (List.mem_filter.mp hx).1
  have hge : ∀ k, k < nCells → s.heap.size ≤ adr k := fun k hk => hD.2 k _ (mWd_get hk)
  have hm : ∀ q, mA adr s.heap.size q → s.heap.size ≤ q := fun q hq => by
    rcases hq with ⟨k, hk, rfl⟩ | h
    · exact hge k hk
    · exact h
  have hok : mOk adr := fun i j hi hj hij => hD.1 i j _ _ (mWd_get hi) (mWd_get hj) hij
  have hEn : mEnv cy adr D s := ⟨hE.1, e_nest htl, hstr hm⟩
  have K : mCx p room_1 s m #[Value.ref b] c 600000 7302250 (xs, L) 10 n_Law_law cy adr D := ⟨hx, hb, hml.trans law_L.symm, by rw [law_O]; exact hown, hts, hEn, hok, ⟨Nat.le_of_ble_eq_true rfl, Nat.le_of_ble_eq_true rfl, Nat.le_of_ble_eq_true rfl, Nat.le_of_ble_eq_true rfl⟩, fun _ => by
    rw [hb0]
    exact ⟨hX, hbl, fun h => absurd (hm _ h) (Nat.not_le.mpr hbl)⟩⟩
  have hW : wp (xs, L) (10 + 1) n_Law_law (fun _ r => r = some (.int 1)) 16 [.ref 1000, .ref 0, .ref 55, .null] [] M0 := w_Law (d := 0) (X := (xs, L)) (by show L < 300000; omega) M0_C M0_M M0_23
  refine hW (mSem p l e room_1 s m #[Value.ref b] below meth c 600000 7302250 (lw_Z below #[Value.ref b] s) n_Law_law cy adr D) (s_all K (mSound l (xs, L) 10) ?_ ?_ ?_ ?_) H locs ls ⟨law_L.symm, hl.1.trans law_L.symm, hl.2.1, fun i v hi hn => ?_⟩ hP ⟨hS.1, fun q h1 h2 => hS.2.1 q h1 (fun h => h2 (Or.inr h)), fun q hq => Or.inr (hS.2.2 q hq)⟩
  · intro pc nx tg L' S' M v hf h1 hQ
    rw [law_R] at h1
    cases h1
  · intro pc nx tg L' S' M v hf h1 hv hQ H' locs' ls' hl' hP' hS'
    obtain ⟨hd, rfl⟩ := fx_dec hf rfl
    have hv1 : v = 1 := by
      cases hQ
      rfl
    subst hv1
    exact va_forget (fun q hq => hm _ (hS'.2.2 q hq)) (lw_ret hx hb hr hlocks hd)
  · intro pc nx tg L' S' M v hf h1 hQ
    rw [law_R] at h1
    cases h1
  · intro pc nx tg L' S' M hf h1 hQ
    rw [law_R] at h1
    cases h1
  · match i, hi with
    | 0, hi => cases hi; exact (lv_at hl 2 rfl).trans (by rw [← hb0]; rfl)
    | 1, hi => cases hi; exact lv_at hl 1 rfl
    | 2, hi => cases hi; exact lv_at hl 0 rfl
    | 3, hi => cases hi; exact absurd rfl hn
    | i + 4, hi => simp at hi
/-- from the entry -/
theorem whole_start (l : Launch) (hflags : l.flags = flags0) {b L : Nat} {xs : Nat → Int32} (hL : L ≤ 256) (C0 : lw_At p s m meth c b L xs) : W p l e room_1 s m #[Value.ref b] below meth c s.heap [] 0 0 (lw_Z below #[Value.ref b] s) (entryFrame m ([Value.ref b] : List Value).toArray 4) := by
  obtain ⟨hx, hb, hr, hml, hown, htl, hX, hbl, hlocks, hgv⟩ := id C0
  have hts : ∀ x ∈ gW, x.before #[Value.ref b] s = true := fun x hx => htl x (List.mem_filter.mp hx).1
  obtain ⟨cy, D, hE⟩ := e_env htl
  obtain ⟨a1, a2, hstr⟩ := e_str htl hgv
  have K : cCx p s m #[Value.ref b] c R_law code 4 cy D := ⟨hx, hb, hml, hown, hts, hE⟩
  have hA : ∀ q : Nat, s.heap.size ≤ q → (fun q : Nat => s.heap.size ≤ q) q := fun _ h => h
  have st : cSt D (fun q : Nat => s.heap.size ≤ q) s.heap [] s.heap [] := ⟨fun k q h => by simp at h, ⟨fun i j p q h => by simp at h, fun k q h => by simp at h⟩, va_S.rf⟩
  have hl := lv_entry ([.ref b]) (n := 4) (Nat.le_of_ble_eq_true rfl)
  rw [lg_entry_eq]
  generalize (lg_sl ([.ref b]) ++ List.replicate (4 - (lg_sl ([.ref b])).length) Slot.unset).toArray = ls at hl ⊢
  have hl : lv_has ls 4 [(0, .ref b)] := hl
  refine c_mk (C := RX6) (T := TX6) (N := 11) (ci := 6) (fs := [.null, .null, .null, .null, .null, .null, .null, .null, .null, .int 0, .int 0]) K hA st rfl (fun j hj => dfX6 j hj) ⟨lwW _ (List.mem_of_getElem? (i := 0) rfl), lwW _ (List.mem_of_getElem? (i := 1) rfl), lwW _ (List.mem_of_getElem? (i := 2) rfl)⟩ (Nat.le_of_ble_eq_true rfl) (Nat.le_of_ble_eq_true rfl) d_law_0 d_law_3 (fun q0 H st => ?_)
  refine c_callP K hA (k_X6 l) st (lwW _ (List.mem_of_getElem? (i := 3) rfl)) ⟨lwW _ (List.mem_of_getElem? (i := 4) rfl), lwW _ (List.mem_of_getElem? (i := 5) rfl), lwW _ (List.mem_of_getElem? (i := 2) rfl)⟩ rfl (by decide +kernel) hl.1 ⟨Nat.le_of_ble_eq_true rfl, Nat.le_of_ble_eq_true rfl⟩ ⟨Nat.le_of_ble_eq_true rfl, Nat.le_of_ble_eq_true rfl⟩ (Nat.le_of_ble_eq_true rfl) d_law_4 (fun u H locs st => ?_)
  refine lv_astore_n (lv' := [(1, .ref q0), (0, .ref b)]) hx hb d_law_7 rfl hl (by decide) rfl (fun ls hl => ?_)
  refine c_mk (C := RX7) (T := TX7) (N := 33) (ci := 7) (fs := [.null, .int 0, .int 0, .int 0, .int 0, .int 0, .int 0, .int 0, .null, .null, .null, .null, .null, .null, .null, .null, .null, .null, .null, .int 0, .null, .int 0, .null, .int 0, .int 0, .int 0, .int 0, .null, .null, .null, .null, .null, .long 0]) K hA st rfl (fun j hj => dfX7 j hj) ⟨lwW _ (List.mem_of_getElem? (i := 6) rfl), lwW _ (List.mem_of_getElem? (i := 7) rfl), lwW _ (List.mem_of_getElem? (i := 8) rfl)⟩ (Nat.le_of_ble_eq_true rfl) (Nat.le_of_ble_eq_true rfl) d_law_8 d_law_11 (fun q1 H st => ?_)
  refine c_callP K hA (k_X7 l) st (lwW _ (List.mem_of_getElem? (i := 9) rfl)) ⟨lwW _ (List.mem_of_getElem? (i := 10) rfl), lwW _ (List.mem_of_getElem? (i := 11) rfl), lwW _ (List.mem_of_getElem? (i := 8) rfl)⟩ rfl (by decide +kernel) hl.1 ⟨Nat.le_of_ble_eq_true rfl, Nat.le_of_ble_eq_true rfl⟩ ⟨Nat.le_of_ble_eq_true rfl, Nat.le_of_ble_eq_true rfl⟩ (Nat.le_of_ble_eq_true rfl) d_law_12 (fun v H locs st => ?_)
  refine lv_astore_n (lv' := [(2, .ref q1), (1, .ref q0), (0, .ref b)]) hx hb d_law_15 rfl hl (by decide) rfl (fun ls hl => ?_)
  refine W.widen (k := 600000) (n := 7302250) (Nat.le_of_ble_eq_true rfl) (Nat.le_of_ble_eq_true rfl) ?_
  obtain ⟨adr, e0, e55, e1000, e1001, e1002, ew⟩ := e_world cy q0 u q1 v b a1 a2
  have st : cSt D (fun q : Nat => s.heap.size ≤ q) s.heap (wX6 cy q0 u ++ wX7 cy q1 v) H locs := st
  rw [← ew] at st
  refine whole_rest l hL C0 hE e1000 (hstr adr e1001 e1002) st ?_
  rw [e0, e55]
  exact hl
end BEG
