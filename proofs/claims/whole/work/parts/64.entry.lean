/-! what holds at the law's entry -/
theorem vw_inst {ci : Nat} {Cn : String} {Tt : u_T} {N : Nat} (h : vwCl[ci]? = some (Cn, Tt, N)) : Cond.instantiable Cn N ∈ gW := by
  match ci, h with
  | 0, h => cases h; exact (by decide +kernel : Cond.instantiable RX0 4 ∈ gW)
  | 1, h => cases h; exact (by decide +kernel : Cond.instantiable RX1 2 ∈ gW)
  | 2, h => cases h; exact (by decide +kernel : Cond.instantiable RX2 10 ∈ gW)
  | 3, h => cases h; exact (by decide +kernel : Cond.instantiable RX3 8 ∈ gW)
  | 4, h => cases h; exact (by decide +kernel : Cond.instantiable RX4 4 ∈ gW)
  | 5, h => cases h; exact (by decide +kernel : Cond.instantiable RX5 2 ∈ gW)
  | 6, h => cases h; exact (by decide +kernel : Cond.instantiable RX6 11 ∈ gW)
  | 7, h => cases h; exact (by decide +kernel : Cond.instantiable RX7 33 ∈ gW)
  | k + 8, h => simp [vwCl] at h
theorem e_D {args : Array Value} {s : State} (hts : ∀ x ∈ gW, x.before args s = true) : ∃ D : va_G, ∀ (k : Nat) (q : vw_C), vwCl[k]? = some q → u_Kn s q.1 q.2.1 q.2.2 (D.1 k) (D.2 k) := by
  have h0 : ∀ k : Nat, ∃ z : ClassId × (Nat → Nat), ∀ q : vw_C, vwCl[k]? = some q → u_Kn s q.1 q.2.1 q.2.2 z.1 z.2 := fun k => by
    cases hq : vwCl[k]? with
    | none => exact ⟨(0, fun _ => 0), fun q h => by cases h⟩
    | some q =>
      obtain ⟨Cn, Tt, N⟩ := q
      obtain ⟨cC, iS, h⟩ := u_known hts (vw_in hq) (hts _ (vw_inst hq))
      exact ⟨(cC, iS), fun q hq2 => by cases hq2; exact h⟩
  obtain ⟨f, hf⟩ := Classical.axiomOfChoice h0
  exact ⟨(fun k => (f k).1, fun k => (f k).2), fun k q hq => hf k q hq⟩
theorem e_arr {args : Array Value} {s : State} {ty : FieldType} (h : (Cond.arrayClass ty).before args s = true) : ∃ cA : ClassId, ArrOfT s cA ty ∧ s.vm.findClass ("[" ++ ty.toString) = some cA := by
  obtain ⟨c, k, comp, h1, h2, h3⟩ := Cond.arrayClass_spec h
  exact ⟨c, fun n z => ⟨fun k h => (by cases h), k, h2, comp, h3⟩, h1⟩
theorem e_ao {args : Array Value} {s : State} (h : (Cond.arrayOver (.array .int)).before args s = true) : ∃ cA : ClassId, ArrOfT s cA (.array .int) ∧ s.vm.findClass ("[" ++ (FieldType.array .int).toString) = some cA := by
  obtain ⟨comp, c, k, h1, h2, h3, h4, h5⟩ := aoI_tells (aoI_of h)
  exact ⟨c, fun n z => ⟨fun k h => (by cases h), k, h3, comp, h4⟩, h5⟩
theorem cNest_tbl : ∀ x ∈ cNest, x ∈ lw_tbl := by decide +kernel
theorem mNest_tbl : ∀ x ∈ mNest, x ∈ lw_tbl := by decide +kernel
theorem ao_tbl : Cond.arrayOver (.array .int) ∈ lw_tbl := by decide +kernel
theorem e_env {args : Array Value} {s : State} (htl : ∀ w ∈ lw_tbl, w.before args s = true) : ∃ (cy : ClassId × ClassId × ClassId) (D : va_G), cEnv cy D s := by
  have hts : ∀ x ∈ gW, x.before args s = true := fun x hx => htl x (List.mem_filter.mp hx).1
  obtain ⟨D, hD⟩ := e_D hts
  obtain ⟨cI, i1, i2⟩ := e_arr (hts _ gW_obj.2.2.1)
  obtain ⟨cZ, z1, z2⟩ := e_arr (hts _ gW_obj.2.2.2)
  obtain ⟨cA, a1, a2⟩ := e_ao (htl _ ao_tbl)
  refine ⟨(cI, cZ, cA), D, ⟨hD, fun k q hq => ?_⟩, aoI_of (htl _ ao_tbl), fun x hx => ?_⟩
  · match k, hq with
    | 0, hq => cases hq; exact ⟨i1, i2⟩
    | 1, hq => cases hq; exact ⟨z1, z2⟩
    | 2, hq => cases hq; exact ⟨a1, a2⟩
    | k + 3, hq => simp at hq
  · have h1 := htl x (cNest_tbl x hx)
    obtain ⟨o, i, y, rfl⟩ := cNest_form hx
    exact va_Nw.of rfl h1
theorem e_nest {args : Array Value} {s : State} (htl : ∀ w ∈ lw_tbl, w.before args s = true) : ∀ x ∈ mNest, va_Nw x s := fun x hx => by
  have h1 := htl x (mNest_tbl x hx)
  obtain ⟨e, he, rfl⟩ := List.mem_map.mp hx
  exact va_Nw.of rfl h1
theorem e_str {s : State} {b : Nat} (htl : ∀ w ∈ lw_tbl, w.before #[Value.ref b] s = true) (hgv : (Jvm.Cond.and given_1 narrow_1).before #[Value.ref b] s = true) : ∃ a1 a2 : Nat, ∀ adr : Nat → Nat, adr 1001 = a1 → adr 1002 = a2 → (∀ q, mA adr s.heap.size q → s.heap.size ≤ q) → mStr adr s := by
  have hs := flat_of_before _ hgv
  have hA : ∀ a : Nat, a < s.heap.size → ¬ (fun q : Nat => s.heap.size ≤ q) a := fun a h => Nat.not_le.mpr h
  obtain ⟨adK, adV, hv, he⟩ := vk_Sof (args := #[Value.ref b]) (s := s) (N := 1) (tm := fun _ => Term.string "RiverLessons$Page" 47) (len := [5]) (byt := [[114, 98, 109, 119, 112]]) (A := fun q => s.heap.size ≤ q)
    (fun i hi => by obtain rfl : i = 0 := by omega
                    decide) (fun i hi => hs _ (by decide +kernel)) (fun i hi => hs _ (by decide +kernel)) (fun i hi => hs _ (by decide +kernel)) (fun i hi => by
      obtain rfl : i = 0 := by omega
      exact hs _ (by decide +kernel)) (fun i hi j hj => by
      obtain rfl : i = 0 := by omega
      have hj : j < 5 := hj
      rcases (show j = 0 ∨ j = 1 ∨ j = 2 ∨ j = 3 ∨ j = 4 by omega) with rfl | rfl | rfl | rfl | rfl
      · exact hs _ (by decide +kernel)
      · exact hs _ (by decide +kernel)
      · exact hs _ (by decide +kernel)
      · exact hs _ (by decide +kernel)
      · exact hs _ (by decide +kernel)) (fun i j hi hj hij => absurd (show i = j by omega) hij) hA
  have he0 := he 0 (by omega)
  have hz := va_Zof (A := fun q => s.heap.size ≤ q) (C := "java/lang/String") (n := "COMPACT_STRINGS") (d := "Z") (htl _ (by decide +kernel)) (htl _ (by decide +kernel)) (va_eqi (z := 1) (hs _ (by decide +kernel))) hA
  have hq := va_Zqof (A := fun q => s.heap.size ≤ q) (C := "jdk/internal/util/Preconditions") (n := "SIOOBE_FORMATTER") (d := "Ljava/util/function/BiFunction;") (htl _ (by decide +kernel)) (htl _ (by decide +kernel)) (hs _ (by decide +kernel)) hA
  refine ⟨adK 0, adV 0, fun adr h1 h2 hm => ⟨vk_R.of (htl _ (by decide +kernel)) (by rw [h1]; exact he0), vk_R.of (htl _ (by decide +kernel)) (by rw [h1]; exact va_eqR (hs _ (by decide +kernel)) he0), ?_, hz.narrow hm, hq.narrow hm⟩⟩
  have hv2 := hv.narrow hm
  refine ⟨fun i hi => ?_, fun i j hi hj _ => by omega⟩
  obtain rfl : i = 0 := by omega
  rw [h1, h2]
  exact hv2.1 0 hi
