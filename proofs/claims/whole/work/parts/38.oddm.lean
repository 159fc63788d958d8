/-! the sums of the odds -/
theorem sumN_add (f g : Nat → Nat) : ∀ n, sumN (fun i => f i + g i) n = sumN f n + sumN g n
  | 0 => rfl
  | n + 1 => by
    show sumN (fun i => f i + g i) n + (f n + g n) = sumN f n + f n + (sumN g n + g n)
    rw [sumN_add f g n]; omega
theorem sumN_mul (c : Nat) (f : Nat → Nat) : ∀ n, sumN (fun i => c * f i) n = c * sumN f n
  | 0 => rfl
  | n + 1 => by
    show sumN (fun i => c * f i) n + c * f n = c * (sumN f n + f n)
    rw [sumN_mul c f n, Nat.mul_add]
theorem sumN_zero {f : Nat → Nat} : ∀ n, (∀ i, i < n → f i = 0) → sumN f n = 0
  | 0, _ => rfl
  | n + 1, h => by
    show sumN f n + f n = 0
    rw [sumN_zero n (fun i hi => h i (by omega)), h n (by omega)]
theorem sumN_swap (f : Nat → Nat → Nat) (U : Nat) : ∀ W, sumN (fun w => sumN (fun x => f w x) U) W = sumN (fun x => sumN (fun w => f w x) W) U
  | 0 => (sumN_zero U (fun _ _ => rfl)).symm
  | W + 1 => by
    show sumN (fun w => sumN (fun x => f w x) U) W + sumN (fun x => f W x) U = sumN (fun x => sumN (fun w => f w x) W + f W x) U
    rw [sumN_swap f U W, sumN_add]
theorem sumN_shift (t : Nat → Nat) (o c : Nat) : ∀ W, sumN (fun w => if o ≤ w then c * t (w - o) else 0) W = c * sumN t (W - o)
  | 0 => by rw [Nat.zero_sub]; rfl
  | W + 1 => by
    show sumN (fun w => if o ≤ w then c * t (w - o) else 0) W + (if o ≤ W then c * t (W - o) else 0) = c * sumN t (W + 1 - o)
    rw [sumN_shift t o c W]
    by_cases h : o ≤ W
    · rw [if_pos h, show W + 1 - o = (W - o) + 1 by omega]
      show _ = c * (sumN t (W - o) + t (W - o))
      rw [Nat.mul_add]
    · rw [if_neg h, show W + 1 - o = W - o by omega, Nat.add_zero]
theorem sumN_tail {f : Nat → Nat} {n : Nat} (h : ∀ u, n ≤ u → f u = 0) : ∀ m, n ≤ m → sumN f m = sumN f n := by
  intro m hm
  obtain ⟨q, rfl⟩ := Nat.le.dest hm
  induction q with
  | zero => rfl
  | succ q ih =>
    show sumN f (n + q) + f (n + q) = sumN f n
    rw [ih (by omega), h _ (by omega)]; rfl
def BdV (n : Nat) (V : Nat → Nat → Nat) (k : Nat) : Prop := ∃ e p : Nat → Nat, (∀ r, r < n → 1 ≤ e r ∧ e r ≤ n ∧ p r ≤ 2 * e r ∧ (∀ u, 12 * e r < u → V r u = 0) ∧ sumN (V r) 85 = 2 ^ p r) ∧ sumN e k ≤ n
theorem BdV_0 {n : Nat} {F Rn : Nat → Nat} (hF : ∀ i, i < n → F i ≤ 9) : BdV n (fun r => swN F (srcN Rn r n) r) n := by
  have hs : ∀ r m, srcN Rn r m ≤ 1 := fun r m => srcN_le _ _ _
  refine ⟨fun _ => 1, fun r => 2 * srcN Rn r n, fun r hr => ⟨Nat.le_refl _, by show 1 ≤ n; omega, by have := hs r n; show 2 * srcN Rn r n ≤ 2 * 1; omega, fun u hu => ?_, ?_⟩, ?_⟩
  · have h1 := hs r n
    have h2 := hF r hr
    have hu : 12 * 1 < u := hu
    show (if F r ≤ u ∧ u ≤ F r + 3 * srcN Rn r n then 1 else 0) = 0
    rw [if_neg (by omega)]
  · have h1 := hs r n
    have h2 := hF r hr
    exact (by decide : ∀ f, f < 10 → ∀ s, s < 2 → sumN (fun w => if f ≤ w ∧ w ≤ f + 3 * s then 1 else 0) 85 = 2 ^ (2 * s)) (F r) (by omega) _ (by omega)
  · have h : ∀ m, sumN (fun _ => 1) m = m := fun m => by
      induction m with
      | zero => rfl
      | succ m ih => show sumN (fun _ => 1) m + 1 = m + 1; rw [ih]
    exact Nat.le_of_eq (h n)
theorem BdV_1 {n : Nat} (hn : n ≤ 7) {V : Nat → Nat → Nat} {k j : Nat} (hj : j < n) (h : BdV n V k) : ∃ p, p ≤ 14 ∧ sumN (V j) 85 = 2 ^ p ∧ (∀ u, 84 < u → V j u = 0) ∧ ∀ u, V j u ≤ 2 ^ p := by
  obtain ⟨e, p, h1, h2⟩ := h
  obtain ⟨a1, a2, a3, a4, a5⟩ := h1 j hj
  refine ⟨p j, by omega, a5, fun u hu => a4 u (by omega), fun u => ?_⟩
  by_cases hu : u < 85
  · rw [← a5]; exact sumN_ge 85 hu
  · rw [a4 u (by omega)]; omega
theorem BdV_2 {n U : Nat} (hU : 85 ≤ U) (hn : n ≤ 7) {K Rn : Nat → Nat} (hR : ∀ i, i < n → Rn i ≤ i) {V : Nat → Nat → Nat} {k : Nat} (hk : k < n) (h : BdV n V (k + 1)) : BdV n (jst U K Rn V k) k := by
  obtain ⟨e, p, h1, h2⟩ := h
  have h2 : sumN e k + e k ≤ n := h2
  have hRk := hR k hk
  by_cases h0 : Rn k = 0
  · refine ⟨e, p, fun r hr => ?_, by omega⟩
    have hj : jst U K Rn V k r = V r := if_neg (by omega)
    rw [hj]; exact h1 r hr
  · obtain ⟨r0, hr0⟩ : ∃ r0, Rn k = r0 + 1 := ⟨Rn k - 1, by omega⟩
    have hr0k : r0 < k := by omega
    have hs := sumN_upd (f := e) (f2 := fun i => if i = r0 then e r0 + e k else e i) k hr0k (fun i _ hi => if_neg hi)
    have hg := sumN_ge (f := fun i => if i = r0 then e r0 + e k else e i) k hr0k
    have hb : (if r0 = r0 then e r0 + e k else e r0) = e r0 + e k := if_pos rfl
    have hs' : sumN (fun i => if i = r0 then e r0 + e k else e i) k + e r0 = sumN e k + (e r0 + e k) := by rw [hs]; show sumN e k + (if r0 = r0 then e r0 + e k else e r0) = _; rw [hb]
    have hg' : e r0 + e k ≤ sumN (fun i => if i = r0 then e r0 + e k else e i) k := by
      have hg2 : (if r0 = r0 then e r0 + e k else e r0) ≤ sumN (fun i => if i = r0 then e r0 + e k else e i) k := hg
      rw [hb] at hg2; exact hg2
    refine ⟨fun i => if i = r0 then e r0 + e k else e i, fun i => if i = r0 then p r0 + p k else p i, fun r hr => ?_, by omega⟩
    by_cases er : r = r0
    · subst er
      have hj : jst U K Rn V k r = jnN (K k) (V k) (V r) U := if_pos hr0.symm
      obtain ⟨a1, a2, a3, a4, a5⟩ := h1 r hr
      obtain ⟨b1, b2, b3, b4, b5⟩ := h1 k hk
      have he : (fun i => if i = r then e r + e k else e i) r = e r + e k := if_pos rfl
      have hp : (fun i => if i = r then p r + p k else p i) r = p r + p k := if_pos rfl
      rw [hj, he, hp]
      refine ⟨by omega, by omega, by omega, fun u hu => ?_, ?_⟩
      · refine sumN_zero U (fun x _ => ?_)
        have hx := outN_le (K k) x
        by_cases hx2 : 12 * e k < x
        · rw [b4 x hx2, Nat.zero_mul]; exact ite_self 0
        · rw [if_pos (by omega), a4 _ (by omega), Nat.mul_zero]
      · have hsw := sumN_swap (fun w x => if outN (K k) x ≤ w then V k x * V r (w - outN (K k) x) else 0) U 85
        refine hsw.trans ?_
        have hx : ∀ x, x < U → sumN (fun w => if outN (K k) x ≤ w then V k x * V r (w - outN (K k) x) else 0) 85 = 2 ^ p r * V k x := fun x _ => by
          rw [sumN_shift (V r) (outN (K k) x) (V k x) 85]
          by_cases hx2 : 12 * e k < x
          · rw [b4 x hx2, Nat.zero_mul, Nat.mul_zero]
          · have hx := outN_le (K k) x
            rw [← a5, sumN_tail (n := 12 * e r + 1) (fun u hu => a4 u (by omega)) (85 - outN (K k) x) (by omega), sumN_tail (n := 12 * e r + 1) (fun u hu => a4 u (by omega)) 85 (by omega), Nat.mul_comm]
        rw [sumN_congr U hx, sumN_mul, sumN_tail (f := V k) (n := 85) (fun u hu => b4 u (by omega)) U hU, b5, Nat.pow_add]
    · have hj : jst U K Rn V k r = V r := if_neg (by omega)
      have he : (fun i => if i = r0 then e r0 + e k else e i) r = e r := if_neg er
      have hp : (fun i => if i = r0 then p r0 + p k else p i) r = p r := if_neg er
      rw [hj, he, hp]; exact h1 r hr
theorem BdV_lo {n U : Nat} (hU : 85 ≤ U) (hn : n ≤ 7) {K Rn : Nat → Nat} (hR : ∀ i, i < n → Rn i ≤ i) : ∀ (k : Nat) (V : Nat → Nat → Nat), k ≤ n → BdV n V k → BdV n (vlo U K Rn k V) 0
  | 0, _, _, h => h
  | k + 1, V, hk, h => BdV_lo hU hn hR k _ (by omega) (BdV_2 hU hn hR (by omega) h)
/-- rows that are longer tell no more -/
theorem vlo_U {n U : Nat} (hU : 85 ≤ U) (hn : n ≤ 7) {K Rn : Nat → Nat} (hR : ∀ i, i < n → Rn i ≤ i) : ∀ (k : Nat) (V : Nat → Nat → Nat), k ≤ n → BdV n V k → vlo U K Rn k V = vlo 85 K Rn k V
  | 0, _, _, _ => rfl
  | k + 1, V, hk, h => by
    show vlo U K Rn k (jst U K Rn V k) = vlo 85 K Rn k (jst 85 K Rn V k)
    have hj : jst U K Rn V k = jst 85 K Rn V k := by
      obtain ⟨p, p1, p2, p3, p4⟩ := BdV_1 hn (show k < n by omega) h
      funext r w
      unfold jst
      split
      · exact sumN_tail (n := 85) (fun u hu => by rw [p3 u (by omega), Nat.zero_mul]; exact ite_self 0) U hU
      · rfl
    rw [hj]
    exact vlo_U hU hn hR k _ (by omega) (BdV_2 (Nat.le_refl _) hn hR (by omega) h)
theorem hvl_gcd : ∀ p a, hvl p a = (a / Nat.gcd (2 ^ p) a, 2 ^ p / Nat.gcd (2 ^ p) a)
  | 0, a => by
    show (a, 1) = _
    rw [Nat.pow_zero, Nat.gcd_one_left, Nat.div_one, Nat.div_one]
  | p + 1, a => by
    show (if a % 2 = 0 then hvl p (a / 2) else (a, 2 ^ (p + 1))) = _
    split
    · next h =>
      obtain ⟨b, rfl⟩ : ∃ b, a = 2 * b := ⟨a / 2, by omega⟩
      rw [hvl_gcd p, show 2 * b / 2 = b by omega, show 2 ^ (p + 1) = 2 * 2 ^ p by rw [Nat.pow_succ]; omega, Nat.gcd_mul_left, Nat.mul_div_mul_left _ _ (by omega), Nat.mul_div_mul_left _ _ (by omega)]
    · next h =>
      have hc : Nat.gcd (2 ^ (p + 1)) a = 1 := Nat.Coprime.pow_left _ (by
        show Nat.gcd 2 a = 1
        rw [Nat.gcd_rec, show a % 2 = 1 by omega]; rfl)
      rw [hc, Nat.div_one, Nat.div_one]
theorem abN_le {V : Nat → Nat} {k z : Nat} (w : Nat) : abN V k z w ≤ sumN V w := sumN_le (fun u => by
  have h : fldN k u z ≤ 1 := fldN_le _ _ _
  calc fldN k u z * V u ≤ 1 * V u := Nat.mul_le_mul_right _ h
    _ = V u := Nat.one_mul _) w
def sV (s : St) : Nat → Nat → Nat := vlo 85 (s 2) (s 5) (s 1 1) (fun r => swN (s 3) (srcN (s 5) r (s 1 1)) r)
def odT (s : St) (j : Nat) : Nat := sumN (sV s j) 85
def odU (s : St) (j : Nat) : Nat := abN (sV s j) (s 2 j) (s 4 j) 85
def odN (s : St) (j w : Nat) : Nat := if w = 0 then odU s j / Nat.gcd (odT s j) (odU s j) else odT s j / Nat.gcd (odT s j) (odU s j)
def odA (s : St) (x y : Int32) : Int32 := if hasI x (s 1 1) = 0 then -101 else if hasI y 2 = 0 then -102 else nI (odN s x.toNatClampNeg y.toNatClampNeg)
theorem Inv_bd {s : St} (h : Inv s) : BdV (s 1 1) (fun r => swN (s 3) (srcN (s 5) r (s 1 1)) r) (s 1 1) := BdV_0 (fun i hi => (h.2.2.2.1.2.1 i hi).2.1)
theorem sV_bd {s : St} (h : Inv s) : BdV (s 1 1) (sV s) 0 := BdV_lo (Nat.le_refl _) (Inv_n h).1 (Inv_k h).2.2.2.1 _ _ (Nat.le_refl _) (Inv_bd h)
section
variable {X : (Nat → Int32) × Nat} {d : Nat} {Q : mM → Option Value → Prop} {M : mM} {s : St}
theorem c_ways {M : mM} (hI : Inv s) (hR : RelC s M) (hQ : ∀ M1, RelC s M1 → frM M M1 0 54 → OdC M1 (s 1 1) (sV s) → Q M1 none) : wp X (d + 3) n_Odds_reckonWays Q 0 [.ref 44, .ref 3, .null] [] M := by
  obtain ⟨hn7, hg3, hmo⟩ := Inv_n hI
  obtain ⟨kb, fb, zb, rb, wb, ab⟩ := Inv_k hI
  refine c_Odds_reckonWays hn7 kb fb rb (BdV (s 1 1)) (fun V k hk h u => ?_) (fun V k hk h => BdV_2 (Nat.le_refl _) hn7 rb hk h) (Inv_bd hI) hR.2.1.1 hR.2.1.2.2.2.2.1 hR.2.1.2.2.2.2.2.1 hR.2.1.2.2.2.2.2.2.2.1 (fun M1 f h => hQ M1 (RelC_scr hR (fun a i hh => f.1 a i (by omega))) (frM_wide f (by omega) (by omega)) h)
  obtain ⟨p, p1, p2, p3, p4⟩ := BdV_1 hn7 hk h
  have h1 := p4 u
  have h2 : 2 ^ p ≤ 2 ^ 14 := Nat.pow_le_pow_right (by omega) p1
  omega
theorem c_parts {M : mM} {j : Nat} (hI : Inv s) (hR : RelC s M) (hj : j < s 1 1) (hO : OdC M (s 1 1) (sV s)) (hQ : ∀ M1, RelC s M1 → frM M M1 0 54 → OdC M1 (s 1 1) (sV s) → M1.1 44 2 = nI (odN s j 0) → M1.1 44 3 = nI (odN s j 1) → Q M1 none) : wp X (d + 2) n_Odds_reckonParts Q 0 [.ref 44, .ref 3, .int (nI j), .null] [] M := by
  obtain ⟨hn7, hg3, hmo⟩ := Inv_n hI
  obtain ⟨kb, fb, zb, rb, wb, ab⟩ := Inv_k hI
  obtain ⟨p, p1, p2, p3, p4⟩ := BdV_1 hn7 hj (sV_bd hI)
  have h2 : 2 ^ p ≤ 2 ^ 14 := Nat.pow_le_pow_right (by omega) p1
  have h3 := abN_le (V := sV s j) (k := s 2 j) (z := s 4 j) 85
  have hT : odT s j = 2 ^ p := p2
  refine c_Odds_reckonParts (r := j) (by omega) (kb j hj) (zb j hj) (by omega) p2 (by omega) (hR.2.1.2.2.2.2.1 j hj) (hR.2.1.2.2.2.2.2.2.1 j hj) (hO j hj) (fun M1 f1 f2 h4 h5 => hQ M1 (RelC_scr hR (fun a i hh => f1 a i (by omega))) ⟨fun a i h => f1 a i (by omega), f2⟩ (fun r hr w hw => (f1 _ _ (by omega)).trans (hO r hr w hw)) ?_ ?_)
  · rw [h4, hvl_gcd]
    unfold odN
    rw [if_pos rfl, hT]; rfl
  · rw [h5, hvl_gcd]
    unfold odN
    rw [if_neg (by omega), hT]; rfl
theorem c_RL_odds {x y : Int32} (hI : Inv s) (hR : RelC s M) (hQ : ∀ M1, RelC s M1 → frM M M1 0 54 → Q M1 (some (.int (odA s x y)))) : wp X (d + 4) n_RL_odds Q 0 [.ref 0, .int x, .int y] [] M := by
  obtain ⟨hn7, hg3, hmo⟩ := Inv_n hI
  unfold odA at hQ
  refine x_al0 f_RL_odds_0 ?_
  refine x_getR f_RL_odds_1 rfl rfl ?_
  refine x_il1 f_RL_odds_4 ?_
  refine x_cV1i f_RL_odds_5 rfl rfl (by decide) (Nat.le_of_ble_eq_true rfl) (Nat.le_of_ble_eq_true rfl) rfl (c_River_hasReach (Or.inl rfl) hR.2.1.1 ⟨_, rfl, ?_⟩)
  refine x_if_neN f_RL_odds_8 (by have := hasI_le x (s 1 1); omega) (fun hx => ?_) (fun hx => ?_)
  · have hx0 : ¬ hasI x (s 1 1) = 0 := by omega
    have out : hasI y 2 = 0 → wp X (d + 4) n_RL_odds Q 23 [.ref 0, .int x, .int y] [] M := by
      intro hy
      refine x_bipush (v := (-102)) f_RL_odds_23 rfl ?_
      refine x_ireturn f_RL_odds_25 rfl ?_
      rw [if_neg hx0, if_pos hy] at hQ
      exact hQ M hR (frM_refl _ _ _)
    refine x_il2 f_RL_odds_14 ?_
    refine x_if_lt f_RL_odds_15 (fun h1 => out (by unfold hasI; rw [if_pos h1])) (fun h1 => ?_)
    refine x_il2 f_RL_odds_18 ?_
    refine x_iconst (v := (nI 1)) f_RL_odds_19 rfl ?_
    refine x_cmp_le f_RL_odds_20 (fun h2 => ?_) (fun h2 => out ?_)
    · have hy : hasI y 2 = 1 := by unfold hasI; rw [if_neg h1, if_neg ((nI_lep (by omega)).mp h2)]
      rw [if_neg hx0, if_neg (by omega)] at hQ
      obtain ⟨j, hj, rfl⟩ := hasI_of (by omega) hx
      obtain ⟨w, hw, rfl⟩ := hasI_of (n := 2) (by omega) (by omega : 0 < hasI y 2)
      rw [nI_clamp (by omega), nI_clamp (by omega)] at hQ
      refine x_al0 f_RL_odds_26 ?_
      refine x_getR f_RL_odds_27 rfl rfl ?_
      refine x_al0 f_RL_odds_30 ?_
      refine x_getR f_RL_odds_31 rfl rfl ?_
      refine x_cV1v f_RL_odds_34 rfl rfl (by decide) (Nat.le_of_ble_eq_true rfl) (Nat.le_of_ble_eq_true rfl) rfl (c_ways hI hR (fun M1 r1 f1 o1 => ⟨rfl, ?_⟩))
      refine x_al0 f_RL_odds_37 ?_
      refine x_getR f_RL_odds_38 rfl rfl ?_
      refine x_al0 f_RL_odds_41 ?_
      refine x_getR f_RL_odds_42 rfl rfl ?_
      refine x_il1 f_RL_odds_45 ?_
      refine x_cV2v f_RL_odds_46 rfl rfl (by decide) (Nat.le_of_ble_eq_true rfl) (Nat.le_of_ble_eq_true rfl) rfl (c_parts hI r1 hj o1 (fun M2 r2 f2 o2 a2 b2 => ⟨rfl, ?_⟩))
      refine x_il2 f_RL_odds_49 ?_
      refine x_if_neN f_RL_odds_50 (by omega) (fun h => ?_) (fun h => ?_)
      · refine x_al0 f_RL_odds_63 ?_
        refine x_getR f_RL_odds_64 rfl rfl ?_
        refine x_getIV f_RL_odds_67 rfl rfl (Or.inl rfl) (b2) ?_
        refine x_ireturn f_RL_odds_70 rfl ?_
        have e : w = 1 := by omega
        subst e
        exact hQ M2 r2 (frM_trans f1 f2)
      · subst h
        refine x_al0 f_RL_odds_53 ?_
        refine x_getR f_RL_odds_54 rfl rfl ?_
        refine x_getIV f_RL_odds_57 rfl rfl (Or.inl rfl) (a2) ?_
        refine x_goto f_RL_odds_60 ?_
        refine x_ireturn f_RL_odds_70 rfl ?_
        exact hQ M2 r2 (frM_trans f1 f2)
    · unfold hasI
      rw [if_neg h1, if_pos (Decidable.not_not.mp (fun z => h2 ((nI_lep (by omega)).mpr z)))]
  · rw [if_pos hx] at hQ
    refine x_bipush (v := (-101)) f_RL_odds_11 rfl ?_
    refine x_ireturn f_RL_odds_13 rfl ?_
    exact hQ M hR (frM_refl _ _ _)
end
