/-! the way down: bits, least water, how many -/
theorem bt0 {h x i : Nat} (hh : 2 ^ (i + 1) ∣ h) (hx : x < 2 ^ i) : (h + x) / 2 ^ i % 2 = 0 := by
  obtain ⟨q, rfl⟩ := hh
  have e : 2 ^ (i + 1) * q = 2 ^ i * (2 * q) := by rw [Nat.pow_succ, Nat.mul_assoc]
  rw [e, Nat.mul_add_div (Nat.two_pow_pos i), Nat.div_eq_of_lt hx]
  omega
theorem bt1 {h x i : Nat} (hh : 2 ^ (i + 1) ∣ h) (hx : x < 2 ^ i) : (h + (2 ^ i + x)) / 2 ^ i % 2 = 1 := by
  obtain ⟨q, rfl⟩ := hh
  have e : 2 ^ (i + 1) * q + (2 ^ i + x) = 2 ^ i * (2 * q + 1) + x := by rw [Nat.pow_succ, Nat.mul_assoc, Nat.mul_add, Nat.mul_one, Nat.add_assoc]
  rw [e, Nat.mul_add_div (Nat.two_pow_pos i), Nat.div_eq_of_lt hx]
  omega
theorem dv_dn {h i : Nat} (hh : 2 ^ (i + 1) ∣ h) : 2 ^ i ∣ h := Nat.dvd_trans ⟨2, by rw [Nat.pow_succ]⟩ hh
def pB (Rn : Nat → Nat) : Nat → Nat → Nat
  | 0, _ => 0
  | f + 1, k => 2 ^ k + (if Rn k = 0 then 0 else pB Rn f (Rn k - 1))
def pM (Rn W : Nat → Nat) : Nat → Nat → Nat
  | 0, k => W k
  | f + 1, k => if Rn k = 0 then W k else min (W k) (pM Rn W f (Rn k - 1))
def pL (Rn : Nat → Nat) : Nat → Nat → Nat
  | 0, _ => 0
  | f + 1, k => 1 + (if Rn k = 0 then 0 else pL Rn f (Rn k - 1))
section
variable {Rn W : Nat → Nat} {n : Nat}
theorem pB_lt (hR : ∀ i, i < n → Rn i ≤ i) : ∀ f k, k < n → pB Rn f k < 2 ^ (k + 1)
  | 0, k, _ => Nat.two_pow_pos _
  | f + 1, k, hk => by
    have h0 := hR k hk
    show 2 ^ k + (if Rn k = 0 then 0 else pB Rn f (Rn k - 1)) < 2 ^ (k + 1)
    rw [Nat.pow_succ]
    have hp := Nat.two_pow_pos k
    split
    · omega
    · have h1 := pB_lt hR f (Rn k - 1) (by omega)
      have h2 : 2 ^ (Rn k - 1 + 1) ≤ 2 ^ k := Nat.pow_le_pow_right (by omega) (by omega)
      omega
/-- what of the way is below k -/
theorem pB_rest (hR : ∀ i, i < n → Rn i ≤ i) (f : Nat) {k : Nat} (hk : k < n) : (if Rn k = 0 then 0 else pB Rn f (Rn k - 1)) < 2 ^ k := by
  have h0 := hR k hk
  split
  · exact Nat.two_pow_pos k
  · have h1 := pB_lt hR f (Rn k - 1) (by omega)
    have h2 : 2 ^ (Rn k - 1 + 1) ≤ 2 ^ k := Nat.pow_le_pow_right (by omega) (by omega)
    omega
theorem wbl_z : ∀ r b, 2 ^ r ∣ b → wbl Rn r b = b
  | 0, b, _ => rfl
  | r + 1, b, h => by
    show wbl Rn r (if b / 2 ^ r % 2 = 1 ∧ 0 < Rn r then b ||| 2 ^ (Rn r - 1) else b) = b
    have h0 := bt0 (x := 0) h (Nat.two_pow_pos r)
    rw [Nat.add_zero] at h0
    rw [if_neg (by omega)]
    exact wbl_z r b (dv_dn h)
theorem wbl_p (hR : ∀ i, i < n → Rn i ≤ i) : ∀ r h t f, r ≤ n → t < r → t < f → 2 ^ r ∣ h → wbl Rn r (h + 2 ^ t) = h + pB Rn f t
  | 0, _, _, _, _, ht, _, _ => by omega
  | r + 1, h, t, 0, _, _, hf, _ => by omega
  | r + 1, h, t, f + 1, hr, ht, hf, hd => by
    show wbl Rn r (if (h + 2 ^ t) / 2 ^ r % 2 = 1 ∧ 0 < Rn r then (h + 2 ^ t) ||| 2 ^ (Rn r - 1) else h + 2 ^ t) = h + pB Rn (f + 1) t
    by_cases e : t = r
    · subst e
      have h1 := bt1 (x := 0) hd (Nat.two_pow_pos t)
      rw [Nat.add_zero] at h1
      have hdv : 2 ^ t ∣ h + 2 ^ t := Nat.dvd_add (dv_dn hd) (Nat.dvd_refl _)
      have hRt := hR t (by omega)
      by_cases e0 : Rn t = 0
      · rw [if_neg (by omega), wbl_z t _ hdv]
        show _ = h + (2 ^ t + if Rn t = 0 then 0 else pB Rn f (Rn t - 1))
        rw [if_pos e0, Nat.add_zero]
      · rw [if_pos ⟨h1, by omega⟩]
        have hor : (h + 2 ^ t) ||| 2 ^ (Rn t - 1) = h + 2 ^ t + 2 ^ (Rn t - 1) := by
          obtain ⟨q, hq⟩ := hdv
          rw [hq]
          exact (Nat.two_pow_add_eq_or_of_lt (Nat.pow_lt_pow_right (by omega) (by omega)) q).symm
        rw [hor, wbl_p hR t (h + 2 ^ t) (Rn t - 1) f (by omega) (by omega) (by omega) hdv]
        show _ = h + (2 ^ t + if Rn t = 0 then 0 else pB Rn f (Rn t - 1))
        rw [if_neg e0, Nat.add_assoc]
    · have h0 := bt0 (x := 2 ^ t) hd (Nat.pow_lt_pow_right (by omega) (by omega))
      rw [if_neg (by omega)]
      exact wbl_p hR r h t (f + 1) (by omega) (by omega) hf (dv_dn hd)
theorem bgl_z {k : Nat} : ∀ i b, 2 ^ i ∣ b → bgl W k b i = W k
  | 0, _, _ => rfl
  | i + 1, b, h => by
    have h0 := bt0 (x := 0) h (Nat.two_pow_pos i)
    rw [Nat.add_zero] at h0
    unfold bgl
    rw [if_neg (by omega)]
    exact bgl_z i b (dv_dn h)
theorem bgl_p (hR : ∀ i, i < n → Rn i ≤ i) {k : Nat} : ∀ i h t f, i ≤ n → t < i → t < f → 2 ^ i ∣ h → bgl W k (h + pB Rn f t) i = min (W k) (pM Rn W f t)
  | 0, _, _, _, _, ht, _, _ => by omega
  | i + 1, h, t, 0, _, _, hf, _ => by omega
  | i + 1, h, t, f + 1, hr, ht, hf, hd => by
    unfold bgl
    by_cases e : t = i
    · subst e
      have hRt := hR t (by omega)
      have hb := pB_rest hR f (k := t) (by omega)
      have h1 := bt1 hd hb
      have h1' : (h + pB Rn (f + 1) t) / 2 ^ t % 2 = 1 := h1
      rw [if_pos h1']
      have hdv : 2 ^ t ∣ h + 2 ^ t := Nat.dvd_add (dv_dn hd) (Nat.dvd_refl _)
      have e1 : h + pB Rn (f + 1) t = h + 2 ^ t + if Rn t = 0 then 0 else pB Rn f (Rn t - 1) := by
        show h + (2 ^ t + _) = _
        rw [Nat.add_assoc]
      have e2 : pM Rn W (f + 1) t = if Rn t = 0 then W t else min (W t) (pM Rn W f (Rn t - 1)) := rfl
      rw [e1, e2]
      by_cases e0 : Rn t = 0
      · rw [if_pos e0, if_pos e0, Nat.add_zero, bgl_z t _ hdv]
        split <;> omega
      · rw [if_neg e0, if_neg e0, bgl_p hR t (h + 2 ^ t) (Rn t - 1) f (by omega) (by omega) (by omega) hdv]
        split <;> omega
    · have hl := pB_lt hR (f + 1) t (by omega)
      have h2 : 2 ^ (t + 1) ≤ 2 ^ i := Nat.pow_le_pow_right (by omega) (by omega)
      rw [if_neg (by have := bt0 (x := pB Rn (f + 1) t) hd (by omega); omega)]
      exact bgl_p hR i h t (f + 1) (by omega) (by omega) hf (dv_dn hd)
theorem sum_z (b : Nat) : ∀ i, 2 ^ i ∣ b → sumN (fun j => b / 2 ^ j % 2) i = 0
  | 0, _ => rfl
  | i + 1, h => by
    have h0 := bt0 (x := 0) h (Nat.two_pow_pos i)
    rw [Nat.add_zero] at h0
    show sumN (fun j => b / 2 ^ j % 2) i + b / 2 ^ i % 2 = 0
    rw [sum_z b i (dv_dn h), h0]
theorem sum_p (hR : ∀ i, i < n → Rn i ≤ i) : ∀ i h t f, t < n → t < i → t < f → 2 ^ i ∣ h → sumN (fun j => (h + pB Rn f t) / 2 ^ j % 2) i = pL Rn f t
  | 0, _, _, _, _, ht, _, _ => by omega
  | i + 1, h, t, 0, _, _, hf, _ => by omega
  | i + 1, h, t, f + 1, hr, ht, hf, hd => by
    show sumN (fun j => (h + pB Rn (f + 1) t) / 2 ^ j % 2) i + (h + pB Rn (f + 1) t) / 2 ^ i % 2 = _
    by_cases e : t = i
    · subst e
      have hRt := hR t (by omega)
      have hb := pB_rest hR f (k := t) (by omega)
      have h1' : (h + pB Rn (f + 1) t) / 2 ^ t % 2 = 1 := bt1 hd hb
      rw [h1']
      have hdv : 2 ^ t ∣ h + 2 ^ t := Nat.dvd_add (dv_dn hd) (Nat.dvd_refl _)
      have e1 : h + pB Rn (f + 1) t = h + 2 ^ t + if Rn t = 0 then 0 else pB Rn f (Rn t - 1) := by
        show h + (2 ^ t + _) = _
        rw [Nat.add_assoc]
      have e2 : pL Rn (f + 1) t = 1 + if Rn t = 0 then 0 else pL Rn f (Rn t - 1) := rfl
      rw [e1, e2]
      by_cases e0 : Rn t = 0
      · rw [if_pos e0, if_pos e0]
        show sumN (fun j => (h + 2 ^ t) / 2 ^ j % 2) t + 1 = 1 + 0
        rw [sum_z _ t hdv]
      · rw [if_neg e0, if_neg e0, sum_p hR t (h + 2 ^ t) (Rn t - 1) f (by omega) (by omega) (by omega) hdv]; omega
    · have hl := pB_lt hR (f + 1) t (by omega)
      have h2 : 2 ^ (t + 1) ≤ 2 ^ i := Nat.pow_le_pow_right (by omega) (by omega)
      rw [bt0 (x := pB Rn (f + 1) t) hd (by omega)]
      exact sum_p hR i h t (f + 1) (by omega) (by omega) hf (dv_dn hd)
theorem way_B (hR : ∀ i, i < n → Rn i ≤ i) {k : Nat} (hk : k < n) : wbl Rn (k + 1) (2 ^ k) = pB Rn (k + 1) k := by
  have h := wbl_p hR (k + 1) 0 k (k + 1) (by omega) (by omega) (by omega) (Nat.dvd_zero _)
  rw [Nat.zero_add, Nat.zero_add] at h
  exact h
theorem way_L (hR : ∀ i, i < n → Rn i ≤ i) {k : Nat} (hk : k < n) (hn : n ≤ 7) : popN (wbl Rn (k + 1) (2 ^ k)) = pL Rn (k + 1) k := by
  rw [way_B hR hk]
  have h := sum_p hR 10 0 k (k + 1) hk (by omega) (by omega) (Nat.dvd_zero _)
  rw [Nat.zero_add] at h
  exact h
theorem way_M (hR : ∀ i, i < n → Rn i ≤ i) {k : Nat} (hk : k < n) : bgl W k (wbl Rn (k + 1) (2 ^ k)) k = pM Rn W (k + 1) k := by
  rw [way_B hR hk]
  have hRk := hR k hk
  have e1 : pB Rn (k + 1) k = 2 ^ k + if Rn k = 0 then 0 else pB Rn k (Rn k - 1) := rfl
  have e2 : pM Rn W (k + 1) k = if Rn k = 0 then W k else min (W k) (pM Rn W k (Rn k - 1)) := rfl
  rw [e1, e2]
  by_cases e0 : Rn k = 0
  · rw [if_pos e0, if_pos e0, Nat.add_zero, bgl_z k _ (Nat.dvd_refl _)]
  · rw [if_neg e0, if_neg e0, bgl_p hR k (2 ^ k) (Rn k - 1) k (by omega) (by omega) (by omega) (Nat.dvd_refl _)]
end
