/-! how it begins -/
def s00 : St := fun _ _ => 0
theorem Inv_00 : Inv s00 :=
  ⟨⟨Nat.zero_le _, fun i hi => absurd hi (Nat.not_lt_zero i)⟩, Or.inl ⟨rfl, rfl⟩, fun i hi => absurd hi (Nat.not_lt_zero i), ⟨Nat.zero_le _, fun i hi => absurd hi (Nat.not_lt_zero i), fun i hi => absurd hi (Nat.not_lt_zero i)⟩, ⟨Nat.zero_le _, fun i hi => absurd hi (Nat.not_lt_zero i)⟩, Nat.zero_le _, by decide, fun h => absurd h (by decide)⟩
theorem RelC_00 {M : mM} (h : ∀ a i, a ≤ 31 → M.1 a i = 0) : RelC s00 M :=
  ⟨⟨h _ _ (by omega), fun i hi => absurd hi (Nat.not_lt_zero i)⟩, ⟨h _ _ (by omega), h _ _ (by omega), h _ _ (by omega), h _ _ (by omega), fun i hi => absurd hi (Nat.not_lt_zero i), fun i hi => absurd hi (Nat.not_lt_zero i), fun i hi => absurd hi (Nat.not_lt_zero i), fun i hi => absurd hi (Nat.not_lt_zero i), fun i hi => absurd hi (Nat.not_lt_zero i), fun i hi => absurd hi (Nat.not_lt_zero i)⟩, ⟨h _ _ (by omega), fun i hi => absurd hi (Nat.not_lt_zero i), fun i hi => absurd hi (Nat.not_lt_zero i), fun i hi => absurd hi (Nat.not_lt_zero i)⟩, ⟨fun i _ => Or.inl (h _ _ (by omega)), fun i _ => Or.inl (h _ _ (by omega))⟩, ⟨h _ _ (by omega), h _ _ (by omega)⟩, fun hh => absurd hh (by decide)⟩
theorem RelM_00 {M : mM} (h : ∀ i, i ≠ 23 → M.1 55 i = 0) (h23 : M.1 55 23 = -1) : RelM s00 M :=
  ⟨⟨h _ (by omega), fun i hi => absurd hi (Nat.not_lt_zero i)⟩, ⟨h _ (by omega), h _ (by omega), h _ (by omega), h _ (by omega), h _ (by omega), h _ (by omega), h23⟩, ⟨fun i hi => absurd hi (Nat.not_lt_zero i), fun i hi => absurd hi (Nat.not_lt_zero i), fun i hi => absurd hi (Nat.not_lt_zero i), fun i hi => absurd hi (Nat.not_lt_zero i)⟩, fun i hi => absurd hi (Nat.not_lt_zero i), fun i hi => absurd hi (Nat.not_lt_zero i), fun hh => absurd hh (by decide)⟩
theorem w_Law {X : (Nat → Int32) × Nat} {d : Nat} {M : mM} (hX : X.2 < 300000) (hC : ∀ a i, a ≤ 31 → M.1 a i = 0) (hM : ∀ i, i ≠ 23 → M.1 55 i = 0) (h23 : M.1 55 23 = -1) : wp X (d + 11) n_Law_law (fun _ r => r = some (.int 1)) 16 [.ref 1000, .ref 0, .ref 55, .null] [] M := by
  refine x_iconst (v := (nI 0)) f_Law_law_16 rfl ?_
  refine x_is3 f_Law_law_17 rfl ?_
  exact l_Law (Q := fun _ r => r = some (.int 1)) (d := d) hX (fun _ => rfl) M s00 0 (Nat.zero_le _) (Nat.le_refl _) Inv_00 (RelC_00 hC) (RelM_00 hM h23)
