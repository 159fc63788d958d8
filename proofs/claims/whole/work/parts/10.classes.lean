theorem vw_in0 : ∀ x ∈ wsX00, x ∈ gW := by decide +kernel
theorem vw_in1 : ∀ x ∈ wsX10, x ∈ gW := by decide +kernel
theorem vw_in2 : ∀ x ∈ wsX20, x ∈ gW := by decide +kernel
theorem vw_in3 : ∀ x ∈ wsX30, x ∈ gW := by decide +kernel
theorem vw_in4 : ∀ x ∈ wsX40, x ∈ gW := by decide +kernel
theorem vw_in5 : ∀ x ∈ wsX50, x ∈ gW := by decide +kernel
theorem vw_in6 : ∀ x ∈ wsX60, x ∈ gW := by decide +kernel
theorem vw_in7 : ∀ x ∈ wsX70, x ∈ gW := by decide +kernel
theorem vw_in {ci : Nat} {Cn : String} {Tt : u_T} {N : Nat} (h : vwCl[ci]? = some (Cn, Tt, N)) : ∀ x ∈ u_ws Cn Tt N, x ∈ gW := by
  match ci, h with
  | 0, h => cases h; exact vw_in0
  | 1, h => cases h; exact vw_in1
  | 2, h => cases h; exact vw_in2
  | 3, h => cases h; exact vw_in3
  | 4, h => cases h; exact vw_in4
  | 5, h => cases h; exact vw_in5
  | 6, h => cases h; exact vw_in6
  | 7, h => cases h; exact vw_in7
  | k + 8, h => simp [vwCl] at h
def vw_ty (ci : Nat) : Nat → FieldType := ([tyX0, tyX1, tyX2, tyX3, tyX4, tyX5, tyX6, tyX7] : List (Nat → FieldType)).getD ci tyX0
theorem vw_tyok {ci : Nat} {Cn : String} {Tt : u_T} {N : Nat} (h : vwCl[ci]? = some (Cn, Tt, N)) : ∀ k, k < N → parseFieldDescriptor (Tt k).2.2.1 = some (vw_ty ci k) := by
  match ci, h with
  | 0, h => cases h; exact tyX0_ok
  | 1, h => cases h; exact tyX1_ok
  | 2, h => cases h; exact tyX2_ok
  | 3, h => cases h; exact tyX3_ok
  | 4, h => cases h; exact tyX4_ok
  | 5, h => cases h; exact tyX5_ok
  | 6, h => cases h; exact tyX6_ok
  | 7, h => cases h; exact tyX7_ok
  | k + 8, h => simp [vwCl] at h
theorem vw_nm {ci : Nat} {Cn : String} {Tt : u_T} {N : Nat} (h : vwCl[ci]? = some (Cn, Tt, N)) : ∀ a, a < N → ∀ b, b < N → a ≠ b → (Tt a).2.1 ≠ (Tt b).2.1 := by
  match ci, h with
  | 0, h => cases h; exact nmX0
  | 1, h => cases h; exact nmX1
  | 2, h => cases h; exact nmX2
  | 3, h => cases h; exact nmX3
  | 4, h => cases h; exact nmX4
  | 5, h => cases h; exact nmX5
  | 6, h => cases h; exact nmX6
  | 7, h => cases h; exact nmX7
  | k + 8, h => simp [vwCl] at h
/-- the code of a field that may be written, and its type -/
def cTy (q : Nat) : FieldType := match q with
  | 0 => .int
  | 1 => .long
  | _ => .boolean
def vw_Tt (ci : Nat) : u_T := ([TX0, TX1, TX2, TX3, TX4, TX5, TX6, TX7] : List u_T).getD ci TX0
theorem vw_all : ∀ k, k < nCells → (shp k).1 = 0 → ∀ j, j < (shp k).2.2.length → (shp k).2.2.getD j 9 < 3 → (vw_Tt (shp k).2.1 j).2.2.2 = false ∧ parseFieldDescriptor (vw_Tt (shp k).2.1 j).2.2.1 = some (cTy ((shp k).2.2.getD j 9)) := by decide +kernel
theorem vw_Tt_eq {ci : Nat} {Cn : String} {Tt : u_T} {N : Nat} (h : vwCl[ci]? = some (Cn, Tt, N)) : Tt = vw_Tt ci := by
  match ci, h with
  | 0, h => cases h; rfl
  | 1, h => cases h; rfl
  | 2, h => cases h; rfl
  | 3, h => cases h; rfl
  | 4, h => cases h; rfl
  | 5, h => cases h; rfl
  | 6, h => cases h; rfl
  | 7, h => cases h; rfl
  | k + 8, h => simp [vwCl] at h
theorem vw_put0 {ci j q : Nat} {Cn : String} {Tt : u_T} {N : Nat} (h : vwCl[ci]? = some (Cn, Tt, N)) (k : Nat) {cs : List Nat} (hs : shp k = (0, ci, cs)) (hc : cs[j]? = some q) (hq : q < 3) : (Tt j).2.2.2 = false ∧ parseFieldDescriptor (Tt j).2.2.1 = some (cTy q) := by
  have hk := shp_lt hs (by omega)
  have hj : j < cs.length := (List.getElem?_eq_some_iff.mp hc).1
  have hg : cs.getD j 9 = q := by rw [List.getD_eq_getElem?_getD, hc]; rfl
  have h1 := vw_all k hk (by rw [hs]) j (by rw [hs]; exact hj) (by rw [hs]; simp only; rw [hg]; exact hq)
  rw [hs] at h1
  simp only [hg] at h1
  rw [vw_Tt_eq h]
  exact h1
theorem vw_put {ci j q : Nat} {Cn : String} {Tt : u_T} {N : Nat} (h : vwCl[ci]? = some (Cn, Tt, N)) (k : Nat) {cs : List Nat} (hs : shp k = (0, ci, cs)) (hc : cs[j]? = some q) (_ : j < N) (hq : q < 3 := by decide) : (Tt j).2.2.2 = false ∧ parseFieldDescriptor (Tt j).2.2.1 = some (cTy q) := vw_put0 h k hs hc hq
theorem cnI_all : ∀ q ∈ cnI, Cond.constant (clN q.1) q.2.1 q.2.2 ∈ gW := by decide +kernel
theorem cnJ_all : ∀ q ∈ cnJ, Cond.constantLong (clN q.1) q.2.1 q.2.2 ∈ gW := by decide +kernel
theorem cnI_in {mi ix : Nat} {v : Int32} (h : (mO mi, ix, v) ∈ cnI) : Cond.constant (clN (mO mi)) ix v ∈ gW := cnI_all _ h
theorem cnJ_in {mi ix : Nat} {v : Int64} (h : (mO mi, ix, v) ∈ cnJ) : Cond.constantLong (clN (mO mi)) ix v ∈ gW := cnJ_all _ h
