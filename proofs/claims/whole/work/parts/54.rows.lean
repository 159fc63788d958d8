/-! rows counted one by one, against laying step by step -/
theorem foldN_add {α : Type} (f : Nat → α → α) (u : Nat) (a : α) : ∀ v, foldN f (u + v) a = foldN (fun x => f (u + x)) v (foldN f u a)
  | 0 => rfl
  | v + 1 => by
    show f (u + v) (foldN f (u + v) a) = f (u + v) (foldN (fun x => f (u + x)) v (foldN f u a))
    rw [foldN_add f u a v]
theorem foldN_mul {α : Type} (f : Nat → α → α) (q : Nat) (a : α) : ∀ n, foldN f (n * q) a = foldN (fun r b => foldN (fun x => f (r * q + x)) q b) n a
  | 0 => by rw [Nat.zero_mul]; rfl
  | n + 1 => by
    rw [Nat.add_mul, Nat.one_mul, foldN_add, foldN_mul f q a n]
    rfl
theorem foldN_congr {α : Type} {f g : Nat → α → α} : ∀ n a, (∀ i, i < n → ∀ b, f i b = g i b) → foldN f n a = foldN g n a
  | 0, _, _ => rfl
  | n + 1, a, h => by
    show f n (foldN f n a) = g n (foldN g n a)
    rw [foldN_congr n a (fun i hi => h i (by omega)), h n (by omega)]
theorem foldN_id {α : Type} {f : Nat → α → α} : ∀ n a, (∀ i, i < n → ∀ b, f i b = b) → foldN f n a = a
  | 0, _, _ => rfl
  | n + 1, a, h => by
    show f n (foldN f n a) = a
    rw [h n (by omega), foldN_id n a (fun i hi => h i (by omega))]
/-- a row's figures from place i on -/
def layN (n i k : Nat) (t : Nat → Nat) (row : Nat) : Nat → Nat := fun j => if i ≤ j ∧ j < i + k then row / n ^ (i + k - 1 - j) % n else t j
theorem layN_0 (n i : Nat) (t : Nat → Nat) (row : Nat) : layN n i 0 t row = t := by
  funext j
  exact if_neg (by omega)
theorem layN_s {n i k r x : Nat} {t : Nat → Nat} (hn : 0 < n) (hr : r < n) (hx : x < n ^ k) : layN n (i + 1) k (updN t i r) x = layN n i (k + 1) t (r * n ^ k + x) := by
  funext j
  unfold layN
  have hp := Nat.pow_pos (n := k) hn
  by_cases h : i + 1 ≤ j ∧ j < i + 1 + k
  · rw [if_pos h, if_pos (by omega), show i + (k + 1) - 1 - j = i + k - j by omega, show i + 1 + k - 1 - j = i + k - j by omega]
    generalize he : i + k - j = e
    have hek : e + (k - e) = k := by omega
    obtain ⟨c, hc⟩ : ∃ c, k - e = c + 1 := ⟨k - e - 1, by omega⟩
    have h2 : r * n ^ k = n ^ e * (n * (r * n ^ c)) := by
      rw [← hek, hc, Nat.pow_add, Nat.pow_succ]
      simp only [Nat.mul_comm, Nat.mul_left_comm, Nat.mul_assoc]
    rw [h2, Nat.mul_add_div (Nat.pow_pos hn), Nat.mul_add_mod]
  · rw [if_neg h]
    unfold updN
    by_cases e : j = i
    · rw [if_pos e, if_pos (by omega), show i + (k + 1) - 1 - j = k by omega, Nat.mul_comm, Nat.mul_add_div hp, Nat.div_eq_of_lt hx, Nat.add_zero, Nat.mod_eq_of_lt hr]
    · rw [if_neg e, if_neg (by omega)]
/-- whether the first i are all different -/
def dstN (t : Nat → Nat) : Nat → Nat
  | 0 => 1
  | i + 1 => if gbN t (t i) i = 0 then dstN t i else 0
theorem dstN_le (t : Nat → Nat) : ∀ i, dstN t i ≤ 1
  | 0 => Nat.le_refl _
  | i + 1 => by unfold dstN; have := dstN_le t i; split <;> omega
theorem dstN_congr {t t2 : Nat → Nat} : ∀ i, (∀ j, j < i → t j = t2 j) → dstN t i = dstN t2 i
  | 0, _ => rfl
  | i + 1, h => by
    unfold dstN
    rw [gbN_congr i (fun j hj => h j (by omega)), h i (by omega), dstN_congr i (fun j hj => h j (by omega))]
theorem dstN_0 {t : Nat → Nat} {i : Nat} (h : dstN t i = 0) : ∀ k, dstN t (i + k) = 0
  | 0 => h
  | k + 1 => by
    show (if gbN t (t (i + k)) (i + k) = 0 then dstN t (i + k) else 0) = 0
    rw [dstN_0 h k]
    exact ite_self 0
theorem layN_lt {n i k row j : Nat} {t : Nat → Nat} (h : j < i) : layN n i k t row j = t j := if_neg (by omega)
theorem dfs_rows {sc : Nat → Nat → Nat} {n ap : Nat} (hn : 0 < n) : ∀ k i t acc, (ap = 1 → dstN t i = 1) → dfs sc n ap k i t acc = foldN (fun row acc => if ap = 1 ∧ dstN (layN n i k t row) (i + k) = 0 then acc else keepN (totN sc n (layN n i k t row) (i + k)) (layN n i k t row) acc) (n ^ k) acc
  | 0, i, t, acc, hd => by
    show keepN (totN sc n t i) t acc = (if ap = 1 ∧ dstN (layN n i 0 t 0) (i + 0) = 0 then acc else keepN (totN sc n (layN n i 0 t 0) (i + 0)) (layN n i 0 t 0) acc)
    rw [layN_0, Nat.add_zero, if_neg (fun z => by have := hd z.1; omega)]
  | k + 1, i, t, acc, hd => by
    show foldN (fun r acc => if ap = 1 ∧ gbN t r i ≠ 0 then acc else dfs sc n ap k (i + 1) (updN t i r) acc) n acc = _
    rw [Nat.pow_succ, Nat.mul_comm (n ^ k) n, foldN_mul]
    refine foldN_congr n acc (fun r hr b => ?_)
    have hu : ∀ j, j < i → t j = updN t i r j := fun j hj => (updN_lt hj).symm
    have hd1 : dstN (updN t i r) (i + 1) = if gbN t r i = 0 then dstN t i else 0 := by
      show (if gbN (updN t i r) (updN t i r i) i = 0 then dstN (updN t i r) i else 0) = _
      rw [updN_at, ← gbN_congr i hu, ← dstN_congr i hu]
    by_cases c : ap = 1 ∧ gbN t r i ≠ 0
    · rw [if_pos c]
      refine (foldN_id (n ^ k) b (fun x hx b2 => ?_)).symm
      rw [if_pos]
      refine ⟨c.1, ?_⟩
      rw [← layN_s hn hr hx, show i + (k + 1) = i + 1 + k by omega]
      refine dstN_0 (i := i + 1) ?_ k
      rw [dstN_congr (i + 1) (fun j hj => layN_lt hj), hd1, if_neg c.2]
    · rw [if_neg c, dfs_rows hn k (i + 1) (updN t i r) b (fun z => by rw [hd1, if_pos (Decidable.not_not.mp (fun y => c ⟨z, y⟩))]; exact hd z)]
      refine foldN_congr (n ^ k) b (fun x hx b2 => ?_)
      rw [layN_s hn hr hx, show i + 1 + k = i + (k + 1) by omega]
/-- the best row so far: its price, 1 more, and the row -/
def keep2 (p row : Nat) (a : Nat × Nat) : Nat × Nat := if a.1 = 0 ∨ p < a.1 - 1 then (p + 1, row) else a
def bestN (sc : Nat → Nat → Nat) (n ap m : Nat) : Nat → Nat × Nat := fun i => foldN (fun row a => if ap = 1 ∧ dstN (layN n 0 m (fun _ => 0) row) m = 0 then a else keep2 (totN sc n (layN n 0 m (fun _ => 0) row) m) row a) i (0, 0)
theorem lay_zero (n m : Nat) : layN n 0 m (fun _ => 0) 0 = fun _ => 0 := by
  funext j
  unfold layN
  split
  · rw [Nat.zero_div, Nat.zero_mod]
  · rfl
theorem best_map {sc : Nat → Nat → Nat} {n ap m : Nat} : ∀ i, foldN (fun row acc => if ap = 1 ∧ dstN (layN n 0 m (fun _ => 0) row) m = 0 then acc else keepN (totN sc n (layN n 0 m (fun _ => 0) row) m) (layN n 0 m (fun _ => 0) row) acc) i (0, fun _ => 0) = ((bestN sc n ap m i).1, layN n 0 m (fun _ => 0) (bestN sc n ap m i).2)
  | 0 => by
    show ((0, fun _ => 0) : Nat × (Nat → Nat)) = (0, layN n 0 m (fun _ => 0) 0)
    rw [lay_zero]
  | i + 1 => by
    have ih := best_map (sc := sc) (n := n) (ap := ap) (m := m) i
    have e1 : bestN sc n ap m (i + 1) = if ap = 1 ∧ dstN (layN n 0 m (fun _ => 0) i) m = 0 then bestN sc n ap m i else keep2 (totN sc n (layN n 0 m (fun _ => 0) i) m) i (bestN sc n ap m i) := rfl
    show (if ap = 1 ∧ dstN (layN n 0 m (fun _ => 0) i) m = 0 then _ else keepN (totN sc n (layN n 0 m (fun _ => 0) i) m) (layN n 0 m (fun _ => 0) i) _) = _
    rw [ih, e1]
    by_cases c : ap = 1 ∧ dstN (layN n 0 m (fun _ => 0) i) m = 0
    · rw [if_pos c, if_pos c]
    · rw [if_neg c, if_neg c]
      unfold keepN keep2
      by_cases q : (bestN sc n ap m i).1 = 0 ∨ totN sc n (layN n 0 m (fun _ => 0) i) m < (bestN sc n ap m i).1 - 1
      · rw [if_pos q, if_pos q]
      · rw [if_neg q, if_neg q]
theorem dfs_best {sc : Nat → Nat → Nat} {n ap m : Nat} (hn : 0 < n) : dfs sc n ap m 0 (fun _ => 0) (0, fun _ => 0) = ((bestN sc n ap m (n ^ m)).1, layN n 0 m (fun _ => 0) (bestN sc n ap m (n ^ m)).2) := by
  rw [dfs_rows hn m 0 (fun _ => 0) _ (fun _ => rfl)]
  have h := best_map (sc := sc) (n := n) (ap := ap) (m := m) (n ^ m)
  rw [← h]
  refine foldN_congr _ _ (fun i _ b => ?_)
  rw [Nat.zero_add]
/-! the bits of a laid row -/
theorem gb_bit {t : Nat → Nat} {r : Nat} : ∀ m s, s < m → gbN t r m / 2 ^ s % 2 = if t s = r then 1 else 0
  | 0, _, h => by omega
  | m + 1, s, h => by
    have hl := gbN_lt t r m
    show (gbN t r m + if t m = r then 2 ^ m else 0) / 2 ^ s % 2 = _
    by_cases e : s = m
    · subst e
      by_cases c : t s = r
      · rw [if_pos c, if_pos c]
        have h1 := bt1 (h := 0) (Nat.dvd_zero _) hl
        rw [Nat.zero_add, Nat.add_comm] at h1
        exact h1
      · rw [if_neg c, if_neg c]
        have h0 := bt0 (h := 0) (Nat.dvd_zero _) hl
        rw [Nat.zero_add] at h0
        exact h0
    · have ih := gb_bit (t := t) (r := r) m s (by omega)
      by_cases c : t m = r
      · rw [if_pos c]
        obtain ⟨q, hq⟩ : ∃ q, 2 ^ m = 2 ^ s * (2 * q) := ⟨2 ^ (m - s - 1), by rw [show 2 * 2 ^ (m - s - 1) = 2 ^ (m - s - 1 + 1) by rw [Nat.pow_succ]; omega, ← Nat.pow_add]; congr 1; omega⟩
        rw [hq, Nat.add_mul_div_left _ _ (Nat.two_pow_pos s)]
        omega
      · rw [if_neg c]; exact ih
theorem oth_pop {At : Nat → Nat} {x r g g0 : Nat} (hg : g ≤ 3) (h0 : g0 < g) : popN (gbN (updN At g0 x) r g) = popN (offN (gbN At r g) g0) + if x = r then 1 else 0 := by
  have key : ∀ a b c d : Bool, ∀ g, g < 4 → ∀ g0, g0 < g → popN ((if 0 < g ∧ (if g0 = 0 then d else a) then 1 else 0) + (if 1 < g ∧ (if g0 = 1 then d else b) then 2 else 0) + (if 2 < g ∧ (if g0 = 2 then d else c) then 4 else 0)) = popN (offN ((if 0 < g ∧ a then 1 else 0) + (if 1 < g ∧ b then 2 else 0) + (if 2 < g ∧ c then 4 else 0)) g0) + if d then 1 else 0 := by decide +kernel
  have ex : ∀ T : Nat → Nat, gbN T r g = (if 0 < g ∧ decide (T 0 = r) then 1 else 0) + (if 1 < g ∧ decide (T 1 = r) then 2 else 0) + (if 2 < g ∧ decide (T 2 = r) then 4 else 0) := by
    intro T
    rcases (show g = 1 ∨ g = 2 ∨ g = 3 by omega) with rfl | rfl | rfl
    · show 0 + (if T 0 = r then 2 ^ 0 else 0) = _
      simp
    · show 0 + (if T 0 = r then 2 ^ 0 else 0) + (if T 1 = r then 2 ^ 1 else 0) = _
      simp
    · show 0 + (if T 0 = r then 2 ^ 0 else 0) + (if T 1 = r then 2 ^ 1 else 0) + (if T 2 = r then 2 ^ 2 else 0) = _
      simp
  have k := key (decide (At 0 = r)) (decide (At 1 = r)) (decide (At 2 = r)) (decide (x = r)) g (by omega) g0 h0
  have eu : ∀ j, decide (updN At g0 x j = r) = if g0 = j then decide (x = r) else decide (At j = r) := fun j => by
    unfold updN
    by_cases e : j = g0
    · rw [if_pos e, if_pos e.symm]
    · rw [if_neg e, if_neg (fun z => e z.symm)]
  rw [ex (updN At g0 x), ex At, eu 0, eu 1, eu 2, k]
  by_cases e : x = r
  · simp [e]
  · simp [e]
