/-! the world behind both constructors -/
def M0 : mM := (fun a i => if a = 32 then (if i = 7 then -1 else 0) else if a = 44 then (if i = 3 then 1 else 0) else if a = 54 then -1 else if a = 55 then (if i = 23 then -1 else 0) else 0, 0)
def adL (l : List Nat) (b a1 a2 : Nat) : Nat → Nat := fun k => if k < 75 then l.getD k 0 else if k = 1000 then b else if k = 1001 then a1 else a2
theorem M0_C : ∀ a i, a ≤ 31 → M0.1 a i = 0 := fun a i h => by
  show (if a = 32 then _ else _) = _
  rw [if_neg (by omega), if_neg (by omega), if_neg (by omega), if_neg (by omega)]
theorem M0_M : ∀ i, i ≠ 23 → M0.1 55 i = 0 := fun i h => by
  show (if i = 23 then (-1 : Int32) else 0) = 0
  rw [if_neg h]
theorem M0_23 : M0.1 55 23 = -1 := rfl
section WLD
variable (cy : ClassId × ClassId × ClassId) (adr : Nat → Nat)
def fW (k : Nat) : Nat × va_E := (adr k, mEn cy adr M0 k)
theorem w_33 : mEn cy adr M0 33 = mnaE cy.2.2 [adr 34, adr 35, adr 36, adr 37, adr 38, adr 39, adr 40] :=
  (mEn_r (n := 7) (cs := [34, 35, 36, 37, 38, 39, 40]) rfl).trans (congrArg (fun z : Nat → Option Nat => (.inl (cy.2.2, 7, .inr (.inr (.inr (.inr z)))) : va_E)) (funext fun i => by rw [← List.getElem?_map]; rfl))
theorem w_45 : mEn cy adr M0 45 = mnaE cy.2.2 [adr 46, adr 47, adr 48, adr 49, adr 50, adr 51, adr 52] :=
  (mEn_r (n := 7) (cs := [46, 47, 48, 49, 50, 51, 52]) rfl).trans (congrArg (fun z : Nat → Option Nat => (.inl (cy.2.2, 7, .inr (.inr (.inr (.inr z)))) : va_E)) (funext fun i => by rw [← List.getElem?_map]; rfl))
theorem wb_1 : ([1, 2]).map (fW cy adr) = wX1 cy (adr 1) (adr 2) := rfl
theorem wb_3 : ([3, 4, 5, 6, 7, 8, 9]).map (fW cy adr) = wX2 cy (adr 3) (adr 4, adr 5, adr 6, adr 7, adr 8, adr 9) := rfl
theorem wb_10 : ([10, 11, 12, 13, 14, 15, 16]).map (fW cy adr) = wX2 cy (adr 10) (adr 11, adr 12, adr 13, adr 14, adr 15, adr 16) := rfl
theorem wb_17 : ([17, 18, 19, 20, 21, 22, 23]).map (fW cy adr) = wX2 cy (adr 17) (adr 18, adr 19, adr 20, adr 21, adr 22, adr 23) := rfl
theorem wb_24 : ([24, 25, 26, 27]).map (fW cy adr) = wX4 cy (adr 24) (adr 25, adr 26, adr 27) := rfl
theorem wb_28 : ([28, 29, 30, 31]).map (fW cy adr) = wX4 cy (adr 28) (adr 29, adr 30, adr 31) := rfl
theorem wb_32 : ([32, 33, 34, 35, 36, 37, 38, 39, 40, 41, 42, 43]).map (fW cy adr) = wX3 cy (adr 32) (adr 33, adr 34, adr 35, adr 36, adr 37, adr 38, adr 39, adr 40, adr 41, adr 42, adr 43) := by
  show fW cy adr 32 :: (adr 33, mEn cy adr M0 33) :: ([34, 35, 36, 37, 38, 39, 40, 41, 42, 43]).map (fW cy adr) = _
  rw [w_33]
  rfl
theorem wb_44 : ([44, 45, 46, 47, 48, 49, 50, 51, 52, 53]).map (fW cy adr) = wX0 cy (adr 44) (adr 45, adr 46, adr 47, adr 48, adr 49, adr 50, adr 51, adr 52, adr 53) := by
  show fW cy adr 44 :: (adr 45, mEn cy adr M0 45) :: ([46, 47, 48, 49, 50, 51, 52, 53]).map (fW cy adr) = _
  rw [w_45]
  rfl
theorem wb_54 : ([54]).map (fW cy adr) = wX5 cy (adr 54) () := rfl
theorem wb_0 : [0].map (fW cy adr) = [(adr 0, .inr (6, [.ref (adr 1), .ref (adr 3), .ref (adr 10), .ref (adr 17), .ref (adr 24), .ref (adr 28), .ref (adr 32), .ref (adr 44), .ref (adr 54), .int 0, .int 0]))] := rfl
theorem wb_55 : ([55, 56, 57, 58, 59, 60, 61, 62, 63, 64, 65, 66, 67, 68, 69, 70, 71, 72, 73, 74]).map (fW cy adr) = wX7 cy (adr 55) (adr 56, adr 57, adr 58, adr 59, adr 60, adr 61, adr 62, adr 63, adr 64, adr 65, adr 66, adr 67, adr 68, adr 69, adr 70, adr 71, adr 72, adr 73, adr 74) := rfl
theorem wr_75 : List.range 75 = ([0] ++ ([] ++ [1, 2] ++ [3, 4, 5, 6, 7, 8, 9] ++ [10, 11, 12, 13, 14, 15, 16] ++ [17, 18, 19, 20, 21, 22, 23] ++ [24, 25, 26, 27] ++ [28, 29, 30, 31] ++ [32, 33, 34, 35, 36, 37, 38, 39, 40, 41, 42, 43] ++ [44, 45, 46, 47, 48, 49, 50, 51, 52, 53] ++ [54])) ++ [55, 56, 57, 58, 59, 60, 61, 62, 63, 64, 65, 66, 67, 68, 69, 70, 71, 72, 73, 74] := by decide
theorem e_wd : mWd cy adr M0 = wX6 cy (adr 0) (adr 1, adr 2, adr 3, adr 4, adr 5, adr 6, adr 7, adr 8, adr 9, adr 10, adr 11, adr 12, adr 13, adr 14, adr 15, adr 16, adr 17, adr 18, adr 19, adr 20, adr 21, adr 22, adr 23, adr 24, adr 25, adr 26, adr 27, adr 28, adr 29, adr 30, adr 31, adr 32, adr 33, adr 34, adr 35, adr 36, adr 37, adr 38, adr 39, adr 40, adr 41, adr 42, adr 43, adr 44, adr 45, adr 46, adr 47, adr 48, adr 49, adr 50, adr 51, adr 52, adr 53, adr 54) ++ wX7 cy (adr 55) (adr 56, adr 57, adr 58, adr 59, adr 60, adr 61, adr 62, adr 63, adr 64, adr 65, adr 66, adr 67, adr 68, adr 69, adr 70, adr 71, adr 72, adr 73, adr 74) := by
  show (List.range 75).map (fW cy adr) = _
  rw [wr_75]
  simp only [List.map_append]
  rw [wb_55, wb_0, wb_1, wb_3, wb_10, wb_17, wb_24, wb_28, wb_32, wb_44, wb_54]
  rfl
end WLD
theorem e_world (cy : ClassId × ClassId × ClassId) (q0 : Nat) (u : Nat × Nat × Nat × Nat × Nat × Nat × Nat × Nat × Nat × Nat × Nat × Nat × Nat × Nat × Nat × Nat × Nat × Nat × Nat × Nat × Nat × Nat × Nat × Nat × Nat × Nat × Nat × Nat × Nat × Nat × Nat × Nat × Nat × Nat × Nat × Nat × Nat × Nat × Nat × Nat × Nat × Nat × Nat × Nat × Nat × Nat × Nat × Nat × Nat × Nat × Nat × Nat × Nat × Nat) (q1 : Nat) (v : Nat × Nat × Nat × Nat × Nat × Nat × Nat × Nat × Nat × Nat × Nat × Nat × Nat × Nat × Nat × Nat × Nat × Nat × Nat) (b a1 a2 : Nat) : ∃ adr : Nat → Nat, adr 0 = q0 ∧ adr 55 = q1 ∧ adr 1000 = b ∧ adr 1001 = a1 ∧ adr 1002 = a2 ∧ mWd cy adr M0 = wX6 cy q0 u ++ wX7 cy q1 v := by
  obtain ⟨u0, u1, u2, u3, u4, u5, u6, u7, u8, u9, u10, u11, u12, u13, u14, u15, u16, u17, u18, u19, u20, u21, u22, u23, u24, u25, u26, u27, u28, u29, u30, u31, u32, u33, u34, u35, u36, u37, u38, u39, u40, u41, u42, u43, u44, u45, u46, u47, u48, u49, u50, u51, u52, u53⟩ := u
  obtain ⟨v0, v1, v2, v3, v4, v5, v6, v7, v8, v9, v10, v11, v12, v13, v14, v15, v16, v17, v18⟩ := v
  exact ⟨adL (q0 :: u0 :: u1 :: u2 :: u3 :: u4 :: u5 :: u6 :: u7 :: u8 :: u9 :: u10 :: u11 :: u12 :: u13 :: u14 :: u15 :: u16 :: u17 :: u18 :: u19 :: u20 :: u21 :: u22 :: u23 :: u24 :: u25 :: u26 :: u27 :: u28 :: u29 :: u30 :: u31 :: u32 :: u33 :: u34 :: u35 :: u36 :: u37 :: u38 :: u39 :: u40 :: u41 :: u42 :: u43 :: u44 :: u45 :: u46 :: u47 :: u48 :: u49 :: u50 :: u51 :: u52 :: u53 :: q1 :: v0 :: v1 :: v2 :: v3 :: v4 :: v5 :: v6 :: v7 :: v8 :: v9 :: v10 :: v11 :: v12 :: v13 :: v14 :: v15 :: v16 :: v17 :: v18 :: []) b a1 a2, rfl, rfl, rfl, rfl, rfl, e_wd cy (adL (q0 :: u0 :: u1 :: u2 :: u3 :: u4 :: u5 :: u6 :: u7 :: u8 :: u9 :: u10 :: u11 :: u12 :: u13 :: u14 :: u15 :: u16 :: u17 :: u18 :: u19 :: u20 :: u21 :: u22 :: u23 :: u24 :: u25 :: u26 :: u27 :: u28 :: u29 :: u30 :: u31 :: u32 :: u33 :: u34 :: u35 :: u36 :: u37 :: u38 :: u39 :: u40 :: u41 :: u42 :: u43 :: u44 :: u45 :: u46 :: u47 :: u48 :: u49 :: u50 :: u51 :: u52 :: u53 :: q1 :: v0 :: v1 :: v2 :: v3 :: v4 :: v5 :: v6 :: v7 :: v8 :: v9 :: v10 :: v11 :: v12 :: v13 :: v14 :: v15 :: v16 :: v17 :: v18 :: []) b a1 a2)⟩
