/-! what a page is that has no fault -/
theorem gfit_ne59 {s b c : Nat} (hs : s < 45) (h : gfit s b c ≠ 0) : c ≠ 59 := by
  intro e
  subst e
  unfold gfit at h
  split at h
  · rw [if_neg (by omega)] at h; exact h rfl
  · rw [if_neg (by omega)] at h; exact h rfl
theorem ffn_2 {C : Nat → Nat} {s : Nat} (hs : s < 45) : ∀ k i, s + 1 ≤ i → (ffn C k i (s + 1)).1 = i + k → (ffn C k i (s + 1)).2 = s + 1 ∧ ∀ j, i ≤ j → j < i + k → gfit s (j - (s + 1)) (C j) ≠ 0
  | 0, i, hi, h => ⟨rfl, fun j h1 h2 => by omega⟩
  | k + 1, i, hi, h => by
    unfold ffn at h ⊢
    have ef : fitN (s + 1) i (C i) = gfit s (i - (s + 1)) (C i) := by unfold fitN; rw [if_neg (by omega)]; rfl
    by_cases h0 : fitN (s + 1) i (C i) = 0
    · rw [if_pos h0] at h
      have h : i = i + (k + 1) := h
      omega
    · rw [if_neg h0] at h ⊢
      rw [ef] at h0
      have h59 := gfit_ne59 hs h0
      rw [if_neg h59] at h ⊢
      have ih := ffn_2 (C := C) hs k (i + 1) (by omega) (by omega)
      refine ⟨ih.1, fun j h1 h2 => ?_⟩
      by_cases e : j = i
      · subst e; exact h0
      · exact ih.2 j (by omega) (by omega)
theorem ffn_1 {C : Nat → Nat} : ∀ k i s, (ffn C k i 0).1 = i + k → scn C k i = s + 1 → i ≤ s ∧ s < i + k ∧ C s = 59 ∧ (∀ j, i ≤ j → j ≤ s → rfit j (C j) ≠ 0) ∧ (∀ j, i ≤ j → j < s → C j ≠ 59) ∧ ffn C k i 0 = ffn C (i + k - (s + 1)) (s + 1) (s + 1)
  | 0, i, s, h, h2 => by unfold scn at h2; omega
  | k + 1, i, s, h, h2 => by
    have eq : ffn C (k + 1) i 0 = (if fitN 0 i (C i) = 0 then (i, 0) else ffn C k (i + 1) (if C i = 59 then i + 1 else 0)) := rfl
    rw [eq] at h ⊢
    have ef : fitN 0 i (C i) = rfit i (C i) := by unfold fitN; rw [if_pos rfl]
    by_cases h0 : fitN 0 i (C i) = 0
    · rw [if_pos h0] at h
      have h : i = i + (k + 1) := h
      omega
    · rw [if_neg h0] at h ⊢
      rw [ef] at h0
      unfold scn at h2
      by_cases e : C i = 59
      · rw [if_pos e] at h h2 ⊢
        have hs : i = s := by omega
        subst hs
        refine ⟨Nat.le_refl _, by omega, e, fun j h3 h4 => by rw [show j = i by omega]; exact h0, fun j h3 h4 => by omega, ?_⟩
        rw [show i + (k + 1) - (i + 1) = k by omega]
      · rw [if_neg e] at h h2 ⊢
        obtain ⟨a1, a2, a3, a4, a5, a6⟩ := ffn_1 k (i + 1) s (by omega) h2
        refine ⟨by omega, by omega, a3, fun j h3 h4 => ?_, fun j h3 h4 => ?_, ?_⟩
        · by_cases ej : j = i
          · subst ej; exact h0
          · exact a4 j (by omega) h4
        · by_cases ej : j = i
          · subst ej; exact e
          · exact a5 j (by omega) h4
        · rw [show i + (k + 1) - (s + 1) = i + 1 + k - (s + 1) by omega]; exact a6
theorem ffn_0 {C : Nat → Nat} : ∀ k i, scn C k i = 0 → (ffn C k i 0).2 = 0
  | 0, i, _ => rfl
  | k + 1, i, h => by
    unfold ffn
    unfold scn at h
    by_cases h0 : fitN 0 i (C i) = 0
    · rw [if_pos h0]
    · rw [if_neg h0]
      by_cases e : C i = 59
      · rw [if_pos e] at h; omega
      · rw [if_neg e] at h ⊢
        exact ffn_0 k (i + 1) h
theorem rfit_59 {s : Nat} (hs : s < 42) (h : rfit s 59 ≠ 0) : s % 5 = 4 ∧ 2 ≤ s / 5 + 1 := by
  have hk : kndN 59 = 0 := by decide
  unfold rfit at h
  rw [hk] at h
  split at h
  · exact absurd rfl h
  · split at h
    · rw [if_neg (by omega)] at h; exact absurd rfl h
    · split at h
      · rw [if_neg (by omega)] at h; exact absurd rfl h
      · split at h
        · rw [if_neg (by omega)] at h; exact absurd rfl h
        · split at h
          · omega
          · exact absurd rfl h
theorem rfit_4 {j c : Nat} (hj : j % 5 = 4) (hc : c ≠ 59) (h : rfit j c ≠ 0) : j / 5 + 1 < 7 := by
  unfold rfit at h
  rw [if_neg (by omega), if_neg (by omega), if_neg (by omega), if_neg (by omega)] at h
  split at h
  · omega
  · exact absurd rfl h
/-- what a river's page is -/
theorem told_ok {C : Nat → Nat} {pn : Nat} (hp : pn ≤ 42) (hC : ∀ i, i < pn → C i ≤ 126) (h : toldN C pn ≠ 0) : rdOk C (toldN C pn) pn ∧ (ffn C pn 0 0).1 = pn ∧ (ffn C pn 0 0).2 = toldN C pn * 5 ∧ (pn - (toldN C pn * 5 - 1)) % 2 = 0 := by
  unfold toldN at h ⊢
  by_cases h1 : scn C pn 0 = 0 ∨ (ffn C pn 0 0).1 < pn
  · rw [if_pos h1] at h; exact absurd rfl h
  · rw [if_neg h1] at h ⊢
    have hle := ffn_le C pn 0 0
    obtain ⟨s, hs⟩ : ∃ s, scn C pn 0 = s + 1 := ⟨scn C pn 0 - 1, by omega⟩
    obtain ⟨a1, a2, a3, a4, a5, a6⟩ := ffn_1 (C := C) pn 0 s (by omega) hs
    rw [hs, Nat.add_sub_cancel] at h ⊢
    by_cases h2 : (pn - s) % 2 = 0
    · rw [if_pos h2] at h ⊢
      have h59 := rfit_59 (s := s) (by omega) (by have := a4 s (by omega) (by omega); rw [a3] at this; exact this)
      have hn : s + 1 = (s + 1) / 5 * 5 := by omega
      have hf : (ffn C pn 0 0).1 = pn := by omega
      rw [a6] at hf
      have hb := ffn_2 (C := C) (s := s) (by omega) (0 + pn - (s + 1)) (s + 1) (Nat.le_refl _) (by rw [hf]; omega)
      generalize hnn : (s + 1) / 5 = n at hn h ⊢
      have hn7 : n ≤ 7 := by
        rcases Nat.lt_or_ge n 8 with q | q
        · omega
        · have := rfit_4 (j := 34) (by omega) (a5 34 (by omega) (by omega)) (a4 34 (by omega) (by omega))
          omega
      have hb2 : ∀ b, s + 1 + b < pn → gfit s b (C (s + 1 + b)) ≠ 0 := fun b hb3 => by
        have := hb.2 (s + 1 + b) (by omega) (by omega)
        rw [show s + 1 + b - (s + 1) = b by omega] at this
        exact this
      have hG : rdG n pn = (pn - n * 5 + 1) / 2 := rfl
      have hg3 : pn - s ≤ 6 := by
        rcases Nat.lt_or_ge (pn - s) 7 with q | q
        · omega
        · have := hb2 5 (by omega)
          unfold gfit at this
          rw [if_neg (by omega), if_neg (by omega)] at this
          exact absurd rfl this
      refine ⟨⟨hp, by omega, hn7, by omega, by omega, by omega, fun i hi => by have := hC i hi; omega, fun i hi => ?_, fun j hj => ?_⟩, by rw [a6]; exact hf, by rw [a6, hb.1]; exact hn, by rw [← hn]; simpa using h2⟩
      · have q0 := a4 (i * 5) (by omega) (by omega)
        have q1 := a4 (i * 5 + 1) (by omega) (by omega)
        have q2 := a4 (i * 5 + 2) (by omega) (by omega)
        have q3 := a4 (i * 5 + 3) (by omega) (by omega)
        unfold rfit at q0 q1 q2 q3
        rw [if_pos (by omega)] at q0
        rw [if_neg (by omega), if_pos (by omega)] at q1
        rw [if_neg (by omega), if_neg (by omega), if_pos (by omega)] at q2
        rw [if_neg (by omega), if_neg (by omega), if_neg (by omega), if_pos (by omega)] at q3
        refine ⟨fun z => by rw [if_pos z] at q0; exact q0 rfl, ?_⟩
        split at q1
        · split at q2
          · split at q3
            · omega
            · exact absurd rfl q3
          · exact absurd rfl q2
        · exact absurd rfl q1
      · have q := hb2 (2 * j) (by omega)
        unfold gfit at q
        rw [if_pos (by omega), hnn, hn] at q
        split at q
        · assumption
        · exact absurd rfl q
    · rw [if_neg h2] at h; exact absurd rfl h
/-! river() -/
def rvS (s : St) : St := if toldN (s 0) (s 1 0) = 0 then s else
  sup (sup (sup (sup (sup (sup s 2 (rdK (s 0))) 3 (rdF (s 0))) 4 (rdZ (s 0))) 5 (rdR (s 0))) 6 (rdA (s 0) (toldN (s 0) (s 1 0)))) 1 (fun j => if j = 0 then 0 else if j = 1 then toldN (s 0) (s 1 0) else if j = 2 then rdG (toldN (s 0) (s 1 0)) (s 1 0) else if j = 3 then 0 else if j = 4 then 0 else if j = 5 then s 1 5 + 1 else if j = 6 then 0 else s 1 j)
def rvA (s : St) : Int32 := if toldN (s 0) (s 1 0) = 0 then -103 else nI (toldN (s 0) (s 1 0))
theorem Inv_rv {s : St} (h : Inv s) (ht : s 1 5 + 1 < 100000) : Inv (rvS s) := by
  unfold rvS
  split
  · exact h
  · next hn =>
    obtain ⟨⟨a1, a2⟩, a3, a4, a5, a6, a7, a8, a9⟩ := h
    obtain ⟨⟨k1, k2, k3, k4, k5, k6, k7, k8, k9⟩, -⟩ := told_ok a1 (fun i hi => (a2 i hi).2) hn
    refine ⟨⟨Nat.zero_le _, fun i hi => absurd hi (Nat.not_lt_zero i)⟩, Or.inr ⟨k2, k3, k5, k6⟩, fun i hi => ?_, ⟨Nat.zero_le _, fun i hi => ?_, fun i hi => ?_⟩, ⟨Nat.zero_le _, fun i hi => absurd hi (Nat.not_lt_zero i)⟩, ?_, ht, fun hi => ?_⟩
    · have := (k8 i hi).2.2.2.2.2
      show rdR (s 0) i ≤ i
      unfold rdR
      split <;> omega
    · have q := k8 i hi
      have := kndN_le (s 0 (i * 5))
      show rdK (s 0) i < 5 ∧ rdF (s 0) i ≤ 9 ∧ rdZ (s 0) i ≤ 9
      unfold rdK rdF rdZ
      omega
    · have := k9 i hi
      show rdA (s 0) (toldN (s 0) (s 1 0)) i < toldN (s 0) (s 1 0)
      unfold rdA
      omega
    · show s 1 7 ≤ s 1 5 + 1 + 1
      omega
    · exfalso
      have hi : (if s 1 7 = s 1 5 + 1 + 1 then 1 else 0) = 1 := hi
      rw [if_neg (by omega)] at hi
      omega
section
variable {X : (Nat → Int32) × Nat} {d : Nat} {Q : mM → Option Value → Prop} {M : mM} {s : St}
theorem c_RL_river (hI : Inv s) (hR : RelC s M) (hQ : ∀ M1, RelC (rvS s) M1 → frM M M1 0 54 → Q M1 (some (.int (rvA s)))) : wp X (d + 6) n_RL_river Q 0 [.ref 0, .null] [] M := by
  have hpn := hI.1.1
  have hC := hI.1.2
  refine x_al0 f_RL_river_0 ?_
  refine x_getR f_RL_river_1 rfl rfl ?_
  refine x_cV0i f_RL_river_4 rfl rfl (by decide) (Nat.le_of_ble_eq_true rfl) (Nat.le_of_ble_eq_true rfl) rfl (c_Page_reachesTold hpn hR.1.1 hR.1.2 (fun i hi => by have := hC i hi; omega) ⟨_, rfl, ?_⟩)
  refine x_is1 f_RL_river_7 rfl ?_
  refine x_il1 f_RL_river_8 ?_
  have htl : toldN (s 0) (s 1 0) < 2 ^ 31 := by
    by_cases h : toldN (s 0) (s 1 0) = 0
    · omega
    · have := (told_ok hpn (fun i hi => (hC i hi).2) h).1.2.2.1
      omega
  refine x_if_neN f_RL_river_9 htl (fun h => ?_) (fun h => ?_)
  · have hn : toldN (s 0) (s 1 0) ≠ 0 := by omega
    obtain ⟨hok, -⟩ := told_ok hpn (fun i hi => (hC i hi).2) hn
    refine x_al0 f_RL_river_15 ?_
    refine x_getR f_RL_river_16 rfl rfl ?_
    refine x_al0 f_RL_river_19 ?_
    refine x_getR f_RL_river_20 rfl rfl ?_
    refine x_il1 f_RL_river_23 ?_
    refine x_cV2v f_RL_river_24 rfl rfl (by decide) (Nat.le_of_ble_eq_true rfl) (Nat.le_of_ble_eq_true rfl) rfl (c_River_readFrom (r := 3) (Or.inl rfl) hok hR.1.1 hR.1.2 (fun M1 v1 f1 => ⟨rfl, ?_⟩))
    obtain ⟨⟨p1, p2⟩, q2, q3, ⟨b1, b2⟩, ⟨t1, t2⟩, q6⟩ := hR
    refine x_al0 f_RL_river_27 ?_
    refine x_getR f_RL_river_28 rfl rfl ?_
    refine x_iconst (v := (nI 0)) f_RL_river_31 rfl ?_
    refine x_putI f_RL_river_32 rfl rfl ?_
    refine x_al0 f_RL_river_35 ?_
    refine x_getR f_RL_river_36 rfl rfl ?_
    refine x_iconst (v := (nI 0)) f_RL_river_39 rfl ?_
    refine x_putI f_RL_river_40 rfl rfl ?_
    refine x_al0 f_RL_river_43 ?_
    refine x_iconst (v := (nI 0)) f_RL_river_44 rfl ?_
    refine x_putZ f_RL_river_45 rfl rfl (Or.inl rfl) ?_
    refine x_al0 f_RL_river_48 ?_
    refine x_dup f_RL_river_49 rfl ?_
    refine x_getIV f_RL_river_50 rfl rfl (Or.inl rfl) ((stM_ne _ _ (by omega)).trans ((stM_ne _ _ (by omega)).trans ((stM_ne _ _ (by omega)).trans ((f1.1 _ _ (by omega)).trans t2)))) ?_
    refine x_iconst (v := (nI 1)) f_RL_river_53 rfl ?_
    first | refine x_iaddN f_RL_river_54 ?_ | refine x_iadd f_RL_river_54 ?_
    refine x_putI f_RL_river_55 rfl rfl ?_
    refine x_il1 f_RL_river_58 ?_
    refine x_ireturn f_RL_river_59 rfl ?_
    have h2 := hQ (stM (stM (stM (stM M1 1 1 (nI 0)) 24 0 (nI 0)) 0 9 (nI 0)) 0 10 (nI (s 1 5 + 1))) ?_ (frM_st (frM_st (frM_st (frM_st (frM_wide f1 (by omega) (by omega)) (by omega) (by omega)) (by omega) (by omega)) (by omega) (by omega)) (by omega) (by omega))
    · unfold rvA at h2
      rw [if_neg hn] at h2
      exact h2
    · unfold rvS
      rw [if_neg hn]
      have o : ∀ a i, a ≠ 0 → a ≠ 1 → (a ≠ 24 ∨ i ≠ 0) → (stM (stM (stM (stM M1 1 1 (nI 0)) 24 0 (nI 0)) 0 9 (nI 0)) 0 10 (nI (s 1 5 + 1))).1 a i = M1.1 a i := fun a i x1 x2 x3 => by rw [stM_ne _ _ (by omega), stM_ne _ _ (by omega), stM_ne _ _ (by omega), stM_ne _ _ (by omega)]
      have i7 := hI.2.2.2.2.2.1
      have im : (if s 1 7 = s 1 5 + 1 + 1 then 1 else 0) = 0 := if_neg (by omega)
      refine ⟨⟨?_, fun i hi => absurd hi (Nat.not_lt_zero i)⟩, RvC_fr v1 (fun a i _ _ => o a i (by omega) (by omega) (by omega)), ⟨?_, fun i hi => absurd hi (Nat.not_lt_zero i), fun i hi => absurd hi (Nat.not_lt_zero i), fun i hi => absurd hi (Nat.not_lt_zero i)⟩, ⟨fun i hi => by rw [o _ _ (by omega) (by omega) (by omega), f1.1 _ _ (by omega)]; exact b1 i hi, fun i hi => by rw [o _ _ (by omega) (by omega) (by omega), f1.1 _ _ (by omega)]; exact b2 i hi⟩, ⟨?_, stM_at _ _ _ _⟩, fun hi => ?_⟩
      · rw [stM_ne _ _ (by omega), stM_ne _ _ (by omega), stM_ne _ _ (by omega), stM_at]; rfl
      · rw [stM_ne _ _ (by omega), stM_ne _ _ (by omega), stM_at]; rfl
      · rw [stM_ne _ _ (by omega), stM_at]
        show nI 0 = nI (if s 1 7 = s 1 5 + 1 + 1 then 1 else 0)
        rw [im]
      · exfalso
        have hi : (if s 1 7 = s 1 5 + 1 + 1 then 1 else 0) = 1 := hi
        omega
  · refine x_bipush (v := (-103)) f_RL_river_12 rfl ?_
    refine x_ireturn f_RL_river_14 rfl ?_
    have h2 := hQ M (by unfold rvS; rw [if_pos h]; exact hR) (frM_refl _ _ _)
    unfold rvA at h2
    rw [if_pos h] at h2
    exact h2
end
