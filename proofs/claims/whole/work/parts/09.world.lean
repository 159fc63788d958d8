/-! the plain machine's cells as a world of the kit: cell k lies at adr k -/
def cv (adr : Nat → Nat) : Value → Value
  | .ref k => .ref (adr k)
  | v => v
theorem cv_cat (adr : Nat → Nat) (v : Value) : (cv adr v).category = v.category := by cases v <;> rfl
theorem catS_map (adr : Nat → Nat) (S : List Value) : ((S.map (cv adr)).map fun v => v.category).sum = catS S := by
  unfold catS
  rw [List.map_map]
  congr 1
  apply List.map_congr_left
  intro v _
  exact cv_cat adr v
def mval (adr : Nat → Nat) (M : mM) (k j q : Nat) : Value := match q with
  | 0 => .int (M.1 k j)
  | 1 => .long M.2
  | 2 => .int (M.1 k j)
  | t + 3 => .ref (adr t)
def mEn (cy : ClassId × ClassId × ClassId) (adr : Nat → Nat) (M : mM) (k : Nat) : va_E := match shp k with
  | (0, ci, cs) => .inr (ci, (List.range cs.length).map fun j => mval adr M k j (cs.getD j 0))
  | (1, n, _) => .inl (cy.1, n, .inl (M.1 k))
  | (2, n, _) => .inl (cy.2.1, n, .inl (M.1 k))
  | (_, n, cs) => .inl (cy.2.2, n, .inr (.inr (.inr (.inr (fun i => (cs[i]?).map adr)))))
def mWd (cy : ClassId × ClassId × ClassId) (adr : Nat → Nat) (M : mM) : va_W := (List.range nCells).map fun k => (adr k, mEn cy adr M k)
def mOk (adr : Nat → Nat) : Prop := ∀ i j, i < nCells → j < nCells → adr i = adr j → i = j
def mA (adr : Nat → Nat) (sz : Nat) : Nat → Prop := fun q => (∃ k, k < nCells ∧ q = adr k) ∨ sz ≤ q
theorem mWd_get {cy : ClassId × ClassId × ClassId} {adr : Nat → Nat} {M : mM} {k : Nat} (h : k < nCells) : (mWd cy adr M)[k]? = some (adr k, mEn cy adr M k) := by
  simp [mWd, h]
theorem mWd_none {cy : ClassId × ClassId × ClassId} {adr : Nat → Nat} {M : mM} {k : Nat} {x : Nat × va_E} (h : (mWd cy adr M)[k]? = some x) : k < nCells ∧ x = (adr k, mEn cy adr M k) := by
  have hk : k < nCells := by
    have h1 := (List.getElem?_eq_some_iff.mp h).1
    simpa [mWd] using h1
  rw [mWd_get hk] at h
  exact ⟨hk, (Option.some.inj h).symm⟩
theorem mWd_D {cy : ClassId × ClassId × ClassId} {adr : Nat → Nat} {M : mM} {sz : Nat} (h : mOk adr) : va_D (mA adr sz) (mWd cy adr M) := by
  refine ⟨fun i j p q hi hj hpq => ?_, fun k q hq => ?_⟩
  · obtain ⟨h1, rfl⟩ := mWd_none hi
    obtain ⟨h2, rfl⟩ := mWd_none hj
    exact h i j h1 h2 hpq
  · obtain ⟨h1, rfl⟩ := mWd_none hq
    exact Or.inl ⟨k, h1, rfl⟩
theorem shp_lt {k a b : Nat} {cs : List Nat} (h : shp k = (a, b, cs)) (ha : a ≠ 9) : k < nCells := by
  rcases Nat.lt_or_ge k nCells with q | q
  · exact q
  · exfalso
    unfold shp at h
    rw [List.getD_eq_getElem?_getD, List.getElem?_eq_none (show shL.length ≤ k from q)] at h
    simp at h
    omega
theorem mEn_obj {cy : ClassId × ClassId × ClassId} {adr : Nat → Nat} {M : mM} {k ci : Nat} {cs : List Nat} (h : shp k = (0, ci, cs)) : mEn cy adr M k = .inr (ci, (List.range cs.length).map fun j => mval adr M k j (cs.getD j 0)) := by
  unfold mEn; rw [h]; rfl
theorem mEn_i {cy : ClassId × ClassId × ClassId} {adr : Nat → Nat} {M : mM} {k n : Nat} {cs : List Nat} (h : shp k = (1, n, cs)) : mEn cy adr M k = .inl (cy.1, n, .inl (M.1 k)) := by
  unfold mEn; rw [h]; rfl
theorem mEn_z {cy : ClassId × ClassId × ClassId} {adr : Nat → Nat} {M : mM} {k n : Nat} {cs : List Nat} (h : shp k = (2, n, cs)) : mEn cy adr M k = .inl (cy.2.1, n, .inl (M.1 k)) := by
  unfold mEn; rw [h]; rfl
theorem mEn_r {cy : ClassId × ClassId × ClassId} {adr : Nat → Nat} {M : mM} {k n : Nat} {cs : List Nat} (h : shp k = (3, n, cs)) : mEn cy adr M k = .inl (cy.2.2, n, .inr (.inr (.inr (.inr (fun i => (cs[i]?).map adr))))) := by
  unfold mEn; rw [h]; rfl
/-- what is written at cell k is the world of M' -/
theorem mWd_set {cy : ClassId × ClassId × ClassId} {adr : Nat → Nat} {M M' : mM} {k : Nat} (hk : k < nCells) {e : va_E} (he : e = mEn cy adr M' k) (ho : ∀ a, a < nCells → a ≠ k → mEn cy adr M' a = mEn cy adr M a) : (mWd cy adr M).set k (adr k, e) = mWd cy adr M' := by
  apply List.ext_getElem?
  intro i
  rw [List.getElem?_set]
  by_cases hi : k = i
  · subst hi
    rw [if_pos rfl, if_pos (by simpa [mWd] using hk), mWd_get hk, he]
  · rw [if_neg hi]
    by_cases h2 : i < nCells
    · rw [mWd_get h2, mWd_get h2, ho i h2 (fun q => hi q.symm)]
    · rw [List.getElem?_eq_none (by simpa [mWd] using h2), List.getElem?_eq_none (by simpa [mWd] using h2)]
theorem mval_off {adr : Nat → Nat} {M M' : mM} {a j q : Nat} (h1 : M'.1 a = M.1 a) (h2 : M'.2 = M.2) : mval adr M' a j q = mval adr M a j q := by
  unfold mval
  split <;> simp [h1, h2]
theorem mEn_off {cy : ClassId × ClassId × ClassId} {adr : Nat → Nat} {M M' : mM} {a : Nat} (h1 : M'.1 a = M.1 a) (h2 : M'.2 = M.2) : mEn cy adr M' a = mEn cy adr M a := by
  unfold mEn
  have h3 : ∀ j q, mval adr M' a j q = mval adr M a j q := fun j q => mval_off h1 h2
  split <;> simp [h1, h3]
theorem stM_k (M : mM) (k j : Nat) (v : Int32) : (stM M k j v).1 k = upd (M.1 k) j v := by
  funext i
  simp [stM, up2]
theorem stM_o (M : mM) {k j a : Nat} (v : Int32) (h : a ≠ k) : (stM M k j v).1 a = M.1 a := by
  funext i
  simp [stM, up2, h]
theorem stM_2 (M : mM) (k j : Nat) (v : Int32) : (stM M k j v).2 = M.2 := rfl
theorem cpM_k (M : mM) (sk dk sp dp n : Nat) : (cpM M sk dk sp dp n).1 dk = va_cpy (M.1 sk) (M.1 dk) sp dp n := by simp [cpM]
theorem cpM_o (M : mM) {sk dk sp dp n a : Nat} (h : a ≠ dk) : (cpM M sk dk sp dp n).1 a = M.1 a := by simp [cpM, h]
theorem mEn_stI {cy : ClassId × ClassId × ClassId} {adr : Nat → Nat} {M : mM} {k ci j q : Nat} {cs : List Nat} {v : Int32} (h : shp k = (0, ci, cs)) (hc : cs[j]? = some q) (hq : q = 0 ∨ q = 2) : (.inr (ci, ((List.range cs.length).map fun i => mval adr M k i (cs.getD i 0)).set j (.int v)) : va_E) = mEn cy adr (stM M k j v) k := by
  rw [mEn_obj h]
  congr 2
  have hj : j < cs.length := (List.getElem?_eq_some_iff.mp hc).1
  apply List.ext_getElem?
  intro i
  rw [List.getElem?_set]
  by_cases hi : j = i
  · subst hi
    rw [if_pos rfl, if_pos (by simpa using hj)]
    simp only [List.getElem?_map, List.getElem?_range hj, Option.map_some]
    rw [List.getD_eq_getElem?_getD, hc]
    rcases hq with rfl | rfl <;> simp [mval, stM_k, upd]
  · rw [if_neg hi]
    by_cases h2 : i < cs.length
    · simp only [List.getElem?_map, List.getElem?_range h2, Option.map_some]
      congr 1
      unfold mval
      have e : (stM M k j v).1 k i = M.1 k i := by rw [stM_k]; unfold upd; rw [if_neg (fun z => hi z.symm)]
      split <;> simp [e, stM_2]
    · rw [List.getElem?_eq_none (by simpa using h2), List.getElem?_eq_none (by simpa using h2)]
theorem mval_L {adr : Nat → Nat} {M : mM} {k j q : Nat} {v : Int64} (h : q ≠ 1) : mval adr (M.1, v) k j q = mval adr M k j q := by
  match q, h with
  | 0, _ => rfl
  | 1, h => exact absurd rfl h
  | 2, _ => rfl
  | t + 3, _ => rfl
theorem one_long : ∀ a, a < nCells → (shp a).1 = 0 → 1 ∈ (shp a).2.2 → a = a_mo := by decide +kernel
theorem mEn_stL {cy : ClassId × ClassId × ClassId} {adr : Nat → Nat} {M : mM} {k ci j : Nat} {cs : List Nat} {v : Int64} (h : shp k = (0, ci, cs)) (hc : cs[j]? = some 1) : (.inr (ci, ((List.range cs.length).map fun i => mval adr M k i (cs.getD i 0)).set j (.long v)) : va_E) = mEn cy adr (M.1, v) k := by
  rw [mEn_obj h]
  congr 2
  have hj : j < cs.length := (List.getElem?_eq_some_iff.mp hc).1
  have hk : k < nCells := shp_lt h (by omega)
  have hm : k = a_mo := one_long k hk (by rw [h]) (by rw [h]; exact List.mem_of_getElem? hc)
  subst hm
  have hcs : cs = (shp a_mo).2.2 := by rw [h]
  have hone : ∀ i, i < (shp a_mo).2.2.length → (shp a_mo).2.2.getD i 0 = 1 → ∀ i', i' < (shp a_mo).2.2.length → (shp a_mo).2.2.getD i' 0 = 1 → i = i' := by decide +kernel
  rw [← hcs] at hone
  apply List.ext_getElem?
  intro i
  rw [List.getElem?_set]
  by_cases hi : j = i
  · subst hi
    rw [if_pos rfl, if_pos (by simpa using hj)]
    simp only [List.getElem?_map, List.getElem?_range hj, Option.map_some]
    rw [List.getD_eq_getElem?_getD, hc]
    simp [mval]
  · rw [if_neg hi]
    by_cases h2 : i < cs.length
    · simp only [List.getElem?_map, List.getElem?_range h2, Option.map_some]
      congr 1
      have h1 : cs.getD i 0 ≠ 1 := fun z => hi (hone j hj (by rw [List.getD_eq_getElem?_getD, hc]; rfl) i h2 z)
      exact (mval_L h1).symm
    · rw [List.getElem?_eq_none (by simpa using h2), List.getElem?_eq_none (by simpa using h2)]
theorem mEn_offL {cy : ClassId × ClassId × ClassId} {adr : Nat → Nat} {M : mM} {a : Nat} {v : Int64} (ha : a < nCells) (hm : a ≠ a_mo) : mEn cy adr (M.1, v) a = mEn cy adr M a := by
  rcases hs : shp a with ⟨x, n, cs⟩
  match x, hs with
  | 0, hs =>
    rw [mEn_obj hs, mEn_obj hs]
    congr 2
    apply List.map_congr_left
    intro j hj
    refine mval_L (fun z => hm (one_long a ha (by rw [hs]) ?_))
    rw [hs]
    have hj2 : j < cs.length := by simpa using hj
    rw [List.getD_eq_getElem?_getD, List.getElem?_eq_getElem hj2] at z
    simp only [Option.getD_some] at z
    rw [← z]
    exact List.getElem_mem hj2
  | 1, hs => unfold mEn; rw [hs]; rfl
  | 2, hs => unfold mEn; rw [hs]; rfl
  | x + 3, hs => unfold mEn; rw [hs]; rfl
/-! locals -/
def relL (adr : Nat → Nat) (nL : Nat) (L : List Value) (ls : Array Slot) : Prop := L.length = nL ∧ ls.size = nL ∧ lv_wf ls ∧ ∀ (i : Nat) (v : Value), L[i]? = some v → v ≠ .null → ls[i]? = some (.val (cv adr v))
def lvs (adr : Nat → Nat) (L : List Value) : List (Nat × Value) := (List.range L.length).filterMap fun i => match L[i]? with
  | some v => if v = .null then none else some (i, cv adr v)
  | none => none
theorem lvs_mem {adr : Nat → Nat} {L : List Value} {q : Nat × Value} : q ∈ lvs adr L ↔ ∃ v, L[q.1]? = some v ∧ v ≠ .null ∧ q.2 = cv adr v := by
  unfold lvs
  rw [List.mem_filterMap]
  constructor
  · rintro ⟨i, hi, h⟩
    split at h
    · next v hv =>
      split at h
      · cases h
      · next hn => cases h; exact ⟨v, hv, hn, rfl⟩
    · cases h
  · rintro ⟨v, hv, hn, e⟩
    refine ⟨q.1, List.mem_range.mpr (List.getElem?_eq_some_iff.mp hv).1, ?_⟩
    rw [hv]
    simp only [hn, if_false, ← e]
theorem relL_has {adr : Nat → Nat} {nL : Nat} {L : List Value} {ls : Array Slot} (h : relL adr nL L ls) : lv_has ls nL (lvs adr L) := by
  refine ⟨h.2.1, h.2.2.1, fun q hq => ?_⟩
  obtain ⟨v, h1, h2, h3⟩ := lvs_mem.mp hq
  rw [h3]
  exact h.2.2.2 q.1 v h1 h2
theorem okst_cat {L : List Value} {i j : Nat} {v : Value} (h : okst L i = true) (hj : j + 1 = i) (hv : L[j]? = some v) : v.category ≠ 2 := by
  subst hj
  unfold okst at h
  simp only [hv] at h
  intro hc
  cases v <;> simp_all [Value.category]
theorem relL_st1 {adr : Nat → Nat} {nL : Nat} {L : List Value} {ls : Array Slot} {i : Nat} {x : Value} (h : relL adr nL L ls) (ho : okst L i = true) {ls' : Array Slot} (hs : lv_has ls' nL ((i, cv adr x) :: (lvs adr L).filter (fun q => !(q.1 == i) && !(q.1 + 1 == i && q.2.category == 2)))) : relL adr nL (L.set i x) ls' := by
  refine ⟨by rw [List.length_set]; exact h.1, hs.1, hs.2.1, fun j v hj hn => ?_⟩
  rw [List.getElem?_set] at hj
  by_cases hij : i = j
  · subst hij
    rw [if_pos rfl] at hj
    split at hj
    · have e := Option.some.inj hj
      subst e
      exact hs.2.2 (i, cv adr _) List.mem_cons_self
    · cases hj
  · rw [if_neg hij] at hj
    refine hs.2.2 (j, cv adr v) (List.mem_cons_of_mem _ (List.mem_filter.mpr ⟨lvs_mem.mpr ⟨v, hj, hn, rfl⟩, ?_⟩))
    simp only [Bool.and_eq_true, Bool.not_eq_true', beq_eq_false_iff_ne, Bool.and_eq_false_iff, cv_cat]
    refine ⟨fun z => hij z.symm, ?_⟩
    by_cases h2 : j + 1 = i
    · exact Or.inr (okst_cat ho h2 hj)
    · exact Or.inl h2
theorem relL_st2 {adr : Nat → Nat} {nL : Nat} {L : List Value} {ls : Array Slot} {i : Nat} {x : Value} (h : relL adr nL L ls) (ho : okst L i = true) {ls' : Array Slot} (hs : lv_has ls' nL ((i, cv adr x) :: (lvs adr L).filter (fun q => !(q.1 == i) && (!(q.1 == i + 1) && !(q.1 + 1 == i && q.2.category == 2))))) : relL adr nL ((L.set i x).set (i + 1) .null) ls' := by
  refine ⟨by rw [List.length_set, List.length_set]; exact h.1, hs.1, hs.2.1, fun j v hj hn => ?_⟩
  rw [List.getElem?_set] at hj
  by_cases hi1 : i + 1 = j
  · subst hi1
    rw [if_pos rfl] at hj
    split at hj
    · cases hj
      exact absurd rfl hn
    · cases hj
  · rw [if_neg hi1, List.getElem?_set] at hj
    by_cases hij : i = j
    · subst hij
      rw [if_pos rfl] at hj
      split at hj
      · have e := Option.some.inj hj
        subst e
        exact hs.2.2 (i, cv adr _) List.mem_cons_self
      · cases hj
    · rw [if_neg hij] at hj
      refine hs.2.2 (j, cv adr v) (List.mem_cons_of_mem _ (List.mem_filter.mpr ⟨lvs_mem.mpr ⟨v, hj, hn, rfl⟩, ?_⟩))
      simp only [Bool.and_eq_true, Bool.not_eq_true', beq_eq_false_iff_ne, Bool.and_eq_false_iff, cv_cat]
      refine ⟨fun z => hij z.symm, fun z => hi1 z.symm, ?_⟩
      by_cases h2 : j + 1 = i
      · exact Or.inr (okst_cat ho h2 hj)
      · exact Or.inl h2
theorem enL1_args (adr : Nat → Nat) : ∀ (vs : List Value) (n i : Nat) (v : Value), (enL1 vs)[i]? = some v → v ≠ .null → (n + i, cv adr v) ∈ lv_args n (vs.map (cv adr))
  | [], n, i, v, h, hn => by simp [enL1] at h
  | u :: us, n, i, v, h, hn => by
    unfold enL1 at h
    simp only [List.map_cons, lv_args, cv_cat]
    by_cases hc : u.category = 2
    · rw [if_pos hc] at h
      rw [if_pos hc]
      match i, h with
      | 0, h => simp only [List.getElem?_cons_zero, Option.some.injEq] at h; subst h; exact List.mem_cons_self
      | 1, h => simp only [List.getElem?_cons_succ, List.getElem?_cons_zero, Option.some.injEq] at h; exact absurd h.symm hn
      | i + 2, h =>
        simp only [List.getElem?_cons_succ] at h
        have := enL1_args adr us (n + 2) i v h hn
        rw [show n + 2 + i = n + (i + 2) by omega] at this
        exact List.mem_cons_of_mem _ this
    · rw [if_neg hc] at h
      rw [if_neg hc]
      match i, h with
      | 0, h => simp only [List.getElem?_cons_zero, Option.some.injEq] at h; subst h; exact List.mem_cons_self
      | i + 1, h =>
        simp only [List.getElem?_cons_succ] at h
        have := enL1_args adr us (n + 1) i v h hn
        rw [show n + 1 + i = n + (i + 1) by omega] at this
        exact List.mem_cons_of_mem _ this
theorem enL1_len (adr : Nat → Nat) : ∀ vs : List Value, (lg_sl (vs.map (cv adr))).length = (enL1 vs).length
  | [] => rfl
  | u :: us => by
    have ih := enL1_len adr us
    unfold enL1
    simp only [lg_sl, List.map_cons, List.flatMap_cons, cv_cat, List.length_append] at ih ⊢
    by_cases hc : u.category = 2
    · rw [if_pos hc, if_pos hc]; simp only [List.length_cons, List.length_nil]; omega
    · rw [if_neg hc, if_neg hc]; simp only [List.length_cons, List.length_nil]; omega
theorem relL_entry (adr : Nat → Nat) {n : Nat} {vs : List Value} (h : (enL1 vs).length ≤ n) : relL adr n (enL n vs) ((lg_sl (vs.map (cv adr)) ++ List.replicate (n - (lg_sl (vs.map (cv adr))).length) Slot.unset).toArray) := by
  have hl := lv_entry (vs.map (cv adr)) (n := n) (by rw [enL1_len]; exact h)
  refine ⟨by simp only [enL, List.length_append, List.length_replicate]; omega, hl.1, hl.2.1, fun i v hi hn => ?_⟩
  have h2 : (enL1 vs)[i]? = some v := by
    unfold enL at hi
    rcases Nat.lt_or_ge i (enL1 vs).length with q | q
    · rw [List.getElem?_append_left q] at hi
      exact hi
    · rw [List.getElem?_append_right q] at hi
      have := List.mem_of_getElem? hi
      exact absurd (List.mem_replicate.mp this).2 hn
  have h3 := enL1_args adr vs 0 i v h2 hn
  rw [Nat.zero_add] at h3
  exact hl.2.2 (i, cv adr v) h3
