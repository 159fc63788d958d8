/-! the constructors -/
def wX0 (cy : ClassId × ClassId × ClassId) (h : Nat) (u : Nat × Nat × Nat × Nat × Nat × Nat × Nat × Nat × Nat) : va_W := (h, .inr (0, [.ref u.1, .ref u.2.2.2.2.2.2.2.2, .int 0, .int 1])) :: ([] ++ mnaL cy.2.2 cy.1 85 u.1 u.2.1 u.2.2.1 u.2.2.2.1 u.2.2.2.2.1 u.2.2.2.2.2.1 u.2.2.2.2.2.2.1 u.2.2.2.2.2.2.2.1 ++ [(u.2.2.2.2.2.2.2.2, rowE cy.1 85)])
theorem cwX0 : ∀ x ∈ ([.methodLink RX0 3 objectInit, .classLink RX0 9 "[[I", .fieldLink RX0 11 RX0 "ways" "[[I", .fieldLink RX0 16 RX0 "joined" "[I", .fieldLink RX0 20 RX0 "above" "I", .fieldLink RX0 24 RX0 "below" "I"] : List Cond), x ∈ gW := by decide +kernel
theorem dfX0 : ∀ j, j < 4 → defaultValue (vw_ty 0 j) = vp_V [.null, .null, .int 0, .int 0] j
  | 0, _ => rfl
  | 1, _ => rfl
  | 2, _ => rfl
  | 3, _ => rfl
  | j + 4, h => absurd h (by omega)
set_option maxHeartbeats 4000000 in
set_option maxRecDepth 100000 in
theorem k_X0 (l : Launch) : Ctor l yX0_init cX0_init 0 [.null, .null, .int 0, .int 0] (Nat × Nat × Nat × Nat × Nat × Nat × Nat × Nat × Nat) wX0 1 12 9 687 := by
  refine ctor_of (by decide) rfl ?_
  intro cy D h A p e R s m args below meth c Q ls hR K hin hA hl hsz fin st
  subst hR
  refine c_obj K hl hsz (cwX0 _ (List.mem_of_getElem? (i := 0) rfl)) dX0_init_0 dX0_init_1 (Nat.le_of_ble_eq_true rfl) (Nat.le_of_ble_eq_true rfl) ?_
  refine lv_aload_n K.1 K.2.1 dX0_init_4 rfl hl ?_
  refine lv_bipush (v := (7)) K.1 K.2.1 dX0_init_5 (by decide) ?_
  refine lv_bipush (v := (85)) K.1 K.2.1 dX0_init_7 (by decide) ?_
  refine c_mna (N := 85) K hA st (cwX0 _ (List.mem_of_getElem? (i := 1) rfl)) (by decide) (by decide) (by decide) (by decide) (by decide) (Nat.le_of_ble_eq_true rfl) (Nat.le_of_ble_eq_true rfl) dX0_init_9 (fun q9 q9_1 q9_2 q9_3 q9_4 q9_5 q9_6 q9_7 H st => ?_)
  refine c_put (C := RX0) (T := TX0) (N := 4) (k := 0) (ty := .array (.array .int)) K hin st rfl (by decide) (cwX0 _ (List.mem_of_getElem? (i := 2) rfl)) rfl rfl (by decide +kernel) rfl rfl rfl dX0_init_13 (fun H locs st => ?_)
  have st : cSt D A s.heap ((h, .inr (0, [.ref q9, .null, .int 0, .int 0])) :: ([] ++ mnaL cy.2.2 cy.1 85 q9 q9_1 q9_2 q9_3 q9_4 q9_5 q9_6 q9_7)) H locs := st
  refine lv_aload_n K.1 K.2.1 dX0_init_16 rfl hl ?_
  refine lv_bipush (v := (85)) K.1 K.2.1 dX0_init_17 (by decide) ?_
  refine c_arrI (N := 85) K hA st (by decide) (by decide) (by decide) (Nat.le_of_ble_eq_true rfl) (Nat.le_of_ble_eq_true rfl) dX0_init_19 (fun q19 H st => ?_)
  refine c_put (C := RX0) (T := TX0) (N := 4) (k := 1) (ty := .array .int) K hin st rfl (by decide) (cwX0 _ (List.mem_of_getElem? (i := 3) rfl)) rfl rfl (by decide +kernel) rfl rfl rfl dX0_init_21 (fun H locs st => ?_)
  have st : cSt D A s.heap ((h, .inr (0, [.ref q9, .ref q19, .int 0, .int 0])) :: ([] ++ mnaL cy.2.2 cy.1 85 q9 q9_1 q9_2 q9_3 q9_4 q9_5 q9_6 q9_7 ++ [(q19, rowE cy.1 85)])) H locs := st
  refine lv_aload_n K.1 K.2.1 dX0_init_24 rfl hl ?_
  refine lv_iconst (v := (0)) K.1 K.2.1 dX0_init_25 (by decide) ?_
  refine c_put (C := RX0) (T := TX0) (N := 4) (k := 2) (ty := .int) K hin st rfl (by decide) (cwX0 _ (List.mem_of_getElem? (i := 4) rfl)) rfl rfl (by decide +kernel) rfl rfl rfl dX0_init_26 (fun H locs st => ?_)
  have st : cSt D A s.heap ((h, .inr (0, [.ref q9, .ref q19, .int 0, .int 0])) :: ([] ++ mnaL cy.2.2 cy.1 85 q9 q9_1 q9_2 q9_3 q9_4 q9_5 q9_6 q9_7 ++ [(q19, rowE cy.1 85)])) H locs := st
  refine lv_aload_n K.1 K.2.1 dX0_init_29 rfl hl ?_
  refine lv_iconst (v := (1)) K.1 K.2.1 dX0_init_30 (by decide) ?_
  refine c_put (C := RX0) (T := TX0) (N := 4) (k := 3) (ty := .int) K hin st rfl (by decide) (cwX0 _ (List.mem_of_getElem? (i := 5) rfl)) rfl rfl (by decide +kernel) rfl rfl rfl dX0_init_31 (fun H locs st => ?_)
  have st : cSt D A s.heap ((h, .inr (0, [.ref q9, .ref q19, .int 0, .int 1])) :: ([] ++ mnaL cy.2.2 cy.1 85 q9 q9_1 q9_2 q9_3 q9_4 q9_5 q9_6 q9_7 ++ [(q19, rowE cy.1 85)])) H locs := st
  exact fin 34 (q9, q9_1, q9_2, q9_3, q9_4, q9_5, q9_6, q9_7, q19) H locs dX0_init_34 st
def wX1 (cy : ClassId × ClassId × ClassId) (h : Nat) (u : Nat) : va_W := (h, .inr (1, [.ref u, .int 0])) :: ([] ++ [(u, rowE cy.1 42)])
theorem cwX1 : ∀ x ∈ ([.methodLink RX1 3 objectInit, .fieldLink RX1 9 RX1 "codes" "[I", .fieldLink RX1 15 RX1 "size" "I"] : List Cond), x ∈ gW := by decide +kernel
theorem dfX1 : ∀ j, j < 2 → defaultValue (vw_ty 1 j) = vp_V [.null, .int 0] j
  | 0, _ => rfl
  | 1, _ => rfl
  | j + 2, h => absurd h (by omega)
set_option maxHeartbeats 4000000 in
set_option maxRecDepth 100000 in
theorem k_X1 (l : Launch) : Ctor l yX1_init cX1_init 1 [.null, .int 0] (Nat) wX1 1 12 1 42 := by
  refine ctor_of (by decide) rfl ?_
  intro cy D h A p e R s m args below meth c Q ls hR K hin hA hl hsz fin st
  subst hR
  refine c_obj K hl hsz (cwX1 _ (List.mem_of_getElem? (i := 0) rfl)) dX1_init_0 dX1_init_1 (Nat.le_of_ble_eq_true rfl) (Nat.le_of_ble_eq_true rfl) ?_
  refine lv_aload_n K.1 K.2.1 dX1_init_4 rfl hl ?_
  refine lv_bipush (v := (42)) K.1 K.2.1 dX1_init_5 (by decide) ?_
  refine c_arrI (N := 42) K hA st (by decide) (by decide) (by decide) (Nat.le_of_ble_eq_true rfl) (Nat.le_of_ble_eq_true rfl) dX1_init_7 (fun q7 H st => ?_)
  refine c_put (C := RX1) (T := TX1) (N := 2) (k := 0) (ty := .array .int) K hin st rfl (by decide) (cwX1 _ (List.mem_of_getElem? (i := 1) rfl)) rfl rfl (by decide +kernel) rfl rfl rfl dX1_init_9 (fun H locs st => ?_)
  have st : cSt D A s.heap ((h, .inr (1, [.ref q7, .int 0])) :: ([] ++ [(q7, rowE cy.1 42)])) H locs := st
  refine lv_aload_n K.1 K.2.1 dX1_init_12 rfl hl ?_
  refine lv_iconst (v := (0)) K.1 K.2.1 dX1_init_13 (by decide) ?_
  refine c_put (C := RX1) (T := TX1) (N := 2) (k := 1) (ty := .int) K hin st rfl (by decide) (cwX1 _ (List.mem_of_getElem? (i := 2) rfl)) rfl rfl (by decide +kernel) rfl rfl rfl dX1_init_14 (fun H locs st => ?_)
  have st : cSt D A s.heap ((h, .inr (1, [.ref q7, .int 0])) :: ([] ++ [(q7, rowE cy.1 42)])) H locs := st
  exact fin 17 q7 H locs dX1_init_17 st
def wX2 (cy : ClassId × ClassId × ClassId) (h : Nat) (u : Nat × Nat × Nat × Nat × Nat × Nat) : va_W := (h, .inr (2, [.int 0, .int 0, .int 0, .int 0, .ref u.1, .ref u.2.1, .ref u.2.2.1, .ref u.2.2.2.1, .ref u.2.2.2.2.1, .ref u.2.2.2.2.2])) :: ([] ++ [(u.1, rowE cy.1 7)] ++ [(u.2.1, rowE cy.1 7)] ++ [(u.2.2.1, rowE cy.1 7)] ++ [(u.2.2.2.1, rowE cy.1 7)] ++ [(u.2.2.2.2.1, rowE cy.1 7)] ++ [(u.2.2.2.2.2, rowE cy.1 3)])
theorem cwX2 : ∀ x ∈ ([.methodLink RX2 3 objectInit, .fieldLink RX2 9 RX2 "reaches" "I", .fieldLink RX2 15 RX2 "governesses" "I", .fieldLink RX2 18 RX2 "monthNumber" "I", .fieldLink RX2 21 RX2 "lessons" "I", .fieldLink RX2 24 RX2 "kind" "[I", .fieldLink RX2 28 RX2 "flow" "[I", .fieldLink RX2 31 RX2 "wild" "[I", .fieldLink RX2 34 RX2 "into" "[I", .fieldLink RX2 37 RX2 "water" "[I", .fieldLink RX2 40 RX2 "at" "[I"] : List Cond), x ∈ gW := by decide +kernel
theorem dfX2 : ∀ j, j < 10 → defaultValue (vw_ty 2 j) = vp_V [.int 0, .int 0, .int 0, .int 0, .null, .null, .null, .null, .null, .null] j
  | 0, _ => rfl
  | 1, _ => rfl
  | 2, _ => rfl
  | 3, _ => rfl
  | 4, _ => rfl
  | 5, _ => rfl
  | 6, _ => rfl
  | 7, _ => rfl
  | 8, _ => rfl
  | 9, _ => rfl
  | j + 10, h => absurd h (by omega)
set_option maxHeartbeats 4000000 in
set_option maxRecDepth 100000 in
theorem k_X2 (l : Launch) : Ctor l yX2_init cX2_init 2 [.int 0, .int 0, .int 0, .int 0, .null, .null, .null, .null, .null, .null] (Nat × Nat × Nat × Nat × Nat × Nat) wX2 1 12 6 38 := by
  refine ctor_of (by decide) rfl ?_
  intro cy D h A p e R s m args below meth c Q ls hR K hin hA hl hsz fin st
  subst hR
  refine c_obj K hl hsz (cwX2 _ (List.mem_of_getElem? (i := 0) rfl)) dX2_init_0 dX2_init_1 (Nat.le_of_ble_eq_true rfl) (Nat.le_of_ble_eq_true rfl) ?_
  refine lv_aload_n K.1 K.2.1 dX2_init_4 rfl hl ?_
  refine lv_iconst (v := (0)) K.1 K.2.1 dX2_init_5 (by decide) ?_
  refine c_put (C := RX2) (T := TX2) (N := 10) (k := 0) (ty := .int) K hin st rfl (by decide) (cwX2 _ (List.mem_of_getElem? (i := 1) rfl)) rfl rfl (by decide +kernel) rfl rfl rfl dX2_init_6 (fun H locs st => ?_)
  have st : cSt D A s.heap ((h, .inr (2, [.int 0, .int 0, .int 0, .int 0, .null, .null, .null, .null, .null, .null])) :: ([])) H locs := st
  refine lv_aload_n K.1 K.2.1 dX2_init_9 rfl hl ?_
  refine lv_iconst (v := (0)) K.1 K.2.1 dX2_init_10 (by decide) ?_
  refine c_put (C := RX2) (T := TX2) (N := 10) (k := 1) (ty := .int) K hin st rfl (by decide) (cwX2 _ (List.mem_of_getElem? (i := 2) rfl)) rfl rfl (by decide +kernel) rfl rfl rfl dX2_init_11 (fun H locs st => ?_)
  have st : cSt D A s.heap ((h, .inr (2, [.int 0, .int 0, .int 0, .int 0, .null, .null, .null, .null, .null, .null])) :: ([])) H locs := st
  refine lv_aload_n K.1 K.2.1 dX2_init_14 rfl hl ?_
  refine lv_iconst (v := (0)) K.1 K.2.1 dX2_init_15 (by decide) ?_
  refine c_put (C := RX2) (T := TX2) (N := 10) (k := 2) (ty := .int) K hin st rfl (by decide) (cwX2 _ (List.mem_of_getElem? (i := 3) rfl)) rfl rfl (by decide +kernel) rfl rfl rfl dX2_init_16 (fun H locs st => ?_)
  have st : cSt D A s.heap ((h, .inr (2, [.int 0, .int 0, .int 0, .int 0, .null, .null, .null, .null, .null, .null])) :: ([])) H locs := st
  refine lv_aload_n K.1 K.2.1 dX2_init_19 rfl hl ?_
  refine lv_iconst (v := (0)) K.1 K.2.1 dX2_init_20 (by decide) ?_
  refine c_put (C := RX2) (T := TX2) (N := 10) (k := 3) (ty := .int) K hin st rfl (by decide) (cwX2 _ (List.mem_of_getElem? (i := 4) rfl)) rfl rfl (by decide +kernel) rfl rfl rfl dX2_init_21 (fun H locs st => ?_)
  have st : cSt D A s.heap ((h, .inr (2, [.int 0, .int 0, .int 0, .int 0, .null, .null, .null, .null, .null, .null])) :: ([])) H locs := st
  refine lv_aload_n K.1 K.2.1 dX2_init_24 rfl hl ?_
  refine lv_bipush (v := (7)) K.1 K.2.1 dX2_init_25 (by decide) ?_
  refine c_arrI (N := 7) K hA st (by decide) (by decide) (by decide) (Nat.le_of_ble_eq_true rfl) (Nat.le_of_ble_eq_true rfl) dX2_init_27 (fun q27 H st => ?_)
  refine c_put (C := RX2) (T := TX2) (N := 10) (k := 4) (ty := .array .int) K hin st rfl (by decide) (cwX2 _ (List.mem_of_getElem? (i := 5) rfl)) rfl rfl (by decide +kernel) rfl rfl rfl dX2_init_29 (fun H locs st => ?_)
  have st : cSt D A s.heap ((h, .inr (2, [.int 0, .int 0, .int 0, .int 0, .ref q27, .null, .null, .null, .null, .null])) :: ([] ++ [(q27, rowE cy.1 7)])) H locs := st
  refine lv_aload_n K.1 K.2.1 dX2_init_32 rfl hl ?_
  refine lv_bipush (v := (7)) K.1 K.2.1 dX2_init_33 (by decide) ?_
  refine c_arrI (N := 7) K hA st (by decide) (by decide) (by decide) (Nat.le_of_ble_eq_true rfl) (Nat.le_of_ble_eq_true rfl) dX2_init_35 (fun q35 H st => ?_)
  refine c_put (C := RX2) (T := TX2) (N := 10) (k := 5) (ty := .array .int) K hin st rfl (by decide) (cwX2 _ (List.mem_of_getElem? (i := 6) rfl)) rfl rfl (by decide +kernel) rfl rfl rfl dX2_init_37 (fun H locs st => ?_)
  have st : cSt D A s.heap ((h, .inr (2, [.int 0, .int 0, .int 0, .int 0, .ref q27, .ref q35, .null, .null, .null, .null])) :: ([] ++ [(q27, rowE cy.1 7)] ++ [(q35, rowE cy.1 7)])) H locs := st
  refine lv_aload_n K.1 K.2.1 dX2_init_40 rfl hl ?_
  refine lv_bipush (v := (7)) K.1 K.2.1 dX2_init_41 (by decide) ?_
  refine c_arrI (N := 7) K hA st (by decide) (by decide) (by decide) (Nat.le_of_ble_eq_true rfl) (Nat.le_of_ble_eq_true rfl) dX2_init_43 (fun q43 H st => ?_)
  refine c_put (C := RX2) (T := TX2) (N := 10) (k := 6) (ty := .array .int) K hin st rfl (by decide) (cwX2 _ (List.mem_of_getElem? (i := 7) rfl)) rfl rfl (by decide +kernel) rfl rfl rfl dX2_init_45 (fun H locs st => ?_)
  have st : cSt D A s.heap ((h, .inr (2, [.int 0, .int 0, .int 0, .int 0, .ref q27, .ref q35, .ref q43, .null, .null, .null])) :: ([] ++ [(q27, rowE cy.1 7)] ++ [(q35, rowE cy.1 7)] ++ [(q43, rowE cy.1 7)])) H locs := st
  refine lv_aload_n K.1 K.2.1 dX2_init_48 rfl hl ?_
  refine lv_bipush (v := (7)) K.1 K.2.1 dX2_init_49 (by decide) ?_
  refine c_arrI (N := 7) K hA st (by decide) (by decide) (by decide) (Nat.le_of_ble_eq_true rfl) (Nat.le_of_ble_eq_true rfl) dX2_init_51 (fun q51 H st => ?_)
  refine c_put (C := RX2) (T := TX2) (N := 10) (k := 7) (ty := .array .int) K hin st rfl (by decide) (cwX2 _ (List.mem_of_getElem? (i := 8) rfl)) rfl rfl (by decide +kernel) rfl rfl rfl dX2_init_53 (fun H locs st => ?_)
  have st : cSt D A s.heap ((h, .inr (2, [.int 0, .int 0, .int 0, .int 0, .ref q27, .ref q35, .ref q43, .ref q51, .null, .null])) :: ([] ++ [(q27, rowE cy.1 7)] ++ [(q35, rowE cy.1 7)] ++ [(q43, rowE cy.1 7)] ++ [(q51, rowE cy.1 7)])) H locs := st
  refine lv_aload_n K.1 K.2.1 dX2_init_56 rfl hl ?_
  refine lv_bipush (v := (7)) K.1 K.2.1 dX2_init_57 (by decide) ?_
  refine c_arrI (N := 7) K hA st (by decide) (by decide) (by decide) (Nat.le_of_ble_eq_true rfl) (Nat.le_of_ble_eq_true rfl) dX2_init_59 (fun q59 H st => ?_)
  refine c_put (C := RX2) (T := TX2) (N := 10) (k := 8) (ty := .array .int) K hin st rfl (by decide) (cwX2 _ (List.mem_of_getElem? (i := 9) rfl)) rfl rfl (by decide +kernel) rfl rfl rfl dX2_init_61 (fun H locs st => ?_)
  have st : cSt D A s.heap ((h, .inr (2, [.int 0, .int 0, .int 0, .int 0, .ref q27, .ref q35, .ref q43, .ref q51, .ref q59, .null])) :: ([] ++ [(q27, rowE cy.1 7)] ++ [(q35, rowE cy.1 7)] ++ [(q43, rowE cy.1 7)] ++ [(q51, rowE cy.1 7)] ++ [(q59, rowE cy.1 7)])) H locs := st
  refine lv_aload_n K.1 K.2.1 dX2_init_64 rfl hl ?_
  refine lv_iconst (v := (3)) K.1 K.2.1 dX2_init_65 (by decide) ?_
  refine c_arrI (N := 3) K hA st (by decide) (by decide) (by decide) (Nat.le_of_ble_eq_true rfl) (Nat.le_of_ble_eq_true rfl) dX2_init_66 (fun q66 H st => ?_)
  refine c_put (C := RX2) (T := TX2) (N := 10) (k := 9) (ty := .array .int) K hin st rfl (by decide) (cwX2 _ (List.mem_of_getElem? (i := 10) rfl)) rfl rfl (by decide +kernel) rfl rfl rfl dX2_init_68 (fun H locs st => ?_)
  have st : cSt D A s.heap ((h, .inr (2, [.int 0, .int 0, .int 0, .int 0, .ref q27, .ref q35, .ref q43, .ref q51, .ref q59, .ref q66])) :: ([] ++ [(q27, rowE cy.1 7)] ++ [(q35, rowE cy.1 7)] ++ [(q43, rowE cy.1 7)] ++ [(q51, rowE cy.1 7)] ++ [(q59, rowE cy.1 7)] ++ [(q66, rowE cy.1 3)])) H locs := st
  exact fin 71 (q27, q35, q43, q51, q59, q66) H locs dX2_init_71 st
def wX3 (cy : ClassId × ClassId × ClassId) (h : Nat) (u : Nat × Nat × Nat × Nat × Nat × Nat × Nat × Nat × Nat × Nat × Nat) : va_W := (h, .inr (3, [.ref u.1, .ref u.2.2.2.2.2.2.2.2.1, .ref u.2.2.2.2.2.2.2.2.2.1, .ref u.2.2.2.2.2.2.2.2.2.2, .int 0, .int 0, .int 0, .int (-1)])) :: ([] ++ mnaL cy.2.2 cy.1 16 u.1 u.2.1 u.2.2.1 u.2.2.2.1 u.2.2.2.2.1 u.2.2.2.2.2.1 u.2.2.2.2.2.2.1 u.2.2.2.2.2.2.2.1 ++ [(u.2.2.2.2.2.2.2.2.1, rowE cy.1 7)] ++ [(u.2.2.2.2.2.2.2.2.2.1, rowE cy.1 4)] ++ [(u.2.2.2.2.2.2.2.2.2.2, rowE cy.1 4)])
theorem cwX3 : ∀ x ∈ ([.methodLink RX3 3 objectInit, .classLink RX3 9 "[[I", .fieldLink RX3 11 RX3 "score" "[[I", .fieldLink RX3 16 RX3 "stepsAt" "[I", .fieldLink RX3 20 RX3 "tried" "[I", .fieldLink RX3 23 RX3 "found" "[I", .fieldLink RX3 26 RX3 "reaches" "I", .fieldLink RX3 30 RX3 "steps" "I", .fieldLink RX3 33 RX3 "apart" "Z", .fieldLink RX3 37 RX3 "best" "I"] : List Cond), x ∈ gW := by decide +kernel
theorem dfX3 : ∀ j, j < 8 → defaultValue (vw_ty 3 j) = vp_V [.null, .null, .null, .null, .int 0, .int 0, .int 0, .int 0] j
  | 0, _ => rfl
  | 1, _ => rfl
  | 2, _ => rfl
  | 3, _ => rfl
  | 4, _ => rfl
  | 5, _ => rfl
  | 6, _ => rfl
  | 7, _ => rfl
  | j + 8, h => absurd h (by omega)
set_option maxHeartbeats 4000000 in
set_option maxRecDepth 100000 in
theorem k_X3 (l : Launch) : Ctor l yX3_init cX3_init 3 [.null, .null, .null, .null, .int 0, .int 0, .int 0, .int 0] (Nat × Nat × Nat × Nat × Nat × Nat × Nat × Nat × Nat × Nat × Nat) wX3 1 12 11 134 := by
  refine ctor_of (by decide) rfl ?_
  intro cy D h A p e R s m args below meth c Q ls hR K hin hA hl hsz fin st
  subst hR
  refine c_obj K hl hsz (cwX3 _ (List.mem_of_getElem? (i := 0) rfl)) dX3_init_0 dX3_init_1 (Nat.le_of_ble_eq_true rfl) (Nat.le_of_ble_eq_true rfl) ?_
  refine lv_aload_n K.1 K.2.1 dX3_init_4 rfl hl ?_
  refine lv_bipush (v := (7)) K.1 K.2.1 dX3_init_5 (by decide) ?_
  refine lv_bipush (v := (16)) K.1 K.2.1 dX3_init_7 (by decide) ?_
  refine c_mna (N := 16) K hA st (cwX3 _ (List.mem_of_getElem? (i := 1) rfl)) (by decide) (by decide) (by decide) (by decide) (by decide) (Nat.le_of_ble_eq_true rfl) (Nat.le_of_ble_eq_true rfl) dX3_init_9 (fun q9 q9_1 q9_2 q9_3 q9_4 q9_5 q9_6 q9_7 H st => ?_)
  refine c_put (C := RX3) (T := TX3) (N := 8) (k := 0) (ty := .array (.array .int)) K hin st rfl (by decide) (cwX3 _ (List.mem_of_getElem? (i := 2) rfl)) rfl rfl (by decide +kernel) rfl rfl rfl dX3_init_13 (fun H locs st => ?_)
  have st : cSt D A s.heap ((h, .inr (3, [.ref q9, .null, .null, .null, .int 0, .int 0, .int 0, .int 0])) :: ([] ++ mnaL cy.2.2 cy.1 16 q9 q9_1 q9_2 q9_3 q9_4 q9_5 q9_6 q9_7)) H locs := st
  refine lv_aload_n K.1 K.2.1 dX3_init_16 rfl hl ?_
  refine lv_bipush (v := (7)) K.1 K.2.1 dX3_init_17 (by decide) ?_
  refine c_arrI (N := 7) K hA st (by decide) (by decide) (by decide) (Nat.le_of_ble_eq_true rfl) (Nat.le_of_ble_eq_true rfl) dX3_init_19 (fun q19 H st => ?_)
  refine c_put (C := RX3) (T := TX3) (N := 8) (k := 1) (ty := .array .int) K hin st rfl (by decide) (cwX3 _ (List.mem_of_getElem? (i := 3) rfl)) rfl rfl (by decide +kernel) rfl rfl rfl dX3_init_21 (fun H locs st => ?_)
  have st : cSt D A s.heap ((h, .inr (3, [.ref q9, .ref q19, .null, .null, .int 0, .int 0, .int 0, .int 0])) :: ([] ++ mnaL cy.2.2 cy.1 16 q9 q9_1 q9_2 q9_3 q9_4 q9_5 q9_6 q9_7 ++ [(q19, rowE cy.1 7)])) H locs := st
  refine lv_aload_n K.1 K.2.1 dX3_init_24 rfl hl ?_
  refine lv_iconst (v := (4)) K.1 K.2.1 dX3_init_25 (by decide) ?_
  refine c_arrI (N := 4) K hA st (by decide) (by decide) (by decide) (Nat.le_of_ble_eq_true rfl) (Nat.le_of_ble_eq_true rfl) dX3_init_26 (fun q26 H st => ?_)
  refine c_put (C := RX3) (T := TX3) (N := 8) (k := 2) (ty := .array .int) K hin st rfl (by decide) (cwX3 _ (List.mem_of_getElem? (i := 4) rfl)) rfl rfl (by decide +kernel) rfl rfl rfl dX3_init_28 (fun H locs st => ?_)
  have st : cSt D A s.heap ((h, .inr (3, [.ref q9, .ref q19, .ref q26, .null, .int 0, .int 0, .int 0, .int 0])) :: ([] ++ mnaL cy.2.2 cy.1 16 q9 q9_1 q9_2 q9_3 q9_4 q9_5 q9_6 q9_7 ++ [(q19, rowE cy.1 7)] ++ [(q26, rowE cy.1 4)])) H locs := st
  refine lv_aload_n K.1 K.2.1 dX3_init_31 rfl hl ?_
  refine lv_iconst (v := (4)) K.1 K.2.1 dX3_init_32 (by decide) ?_
  refine c_arrI (N := 4) K hA st (by decide) (by decide) (by decide) (Nat.le_of_ble_eq_true rfl) (Nat.le_of_ble_eq_true rfl) dX3_init_33 (fun q33 H st => ?_)
  refine c_put (C := RX3) (T := TX3) (N := 8) (k := 3) (ty := .array .int) K hin st rfl (by decide) (cwX3 _ (List.mem_of_getElem? (i := 5) rfl)) rfl rfl (by decide +kernel) rfl rfl rfl dX3_init_35 (fun H locs st => ?_)
  have st : cSt D A s.heap ((h, .inr (3, [.ref q9, .ref q19, .ref q26, .ref q33, .int 0, .int 0, .int 0, .int 0])) :: ([] ++ mnaL cy.2.2 cy.1 16 q9 q9_1 q9_2 q9_3 q9_4 q9_5 q9_6 q9_7 ++ [(q19, rowE cy.1 7)] ++ [(q26, rowE cy.1 4)] ++ [(q33, rowE cy.1 4)])) H locs := st
  refine lv_aload_n K.1 K.2.1 dX3_init_38 rfl hl ?_
  refine lv_iconst (v := (0)) K.1 K.2.1 dX3_init_39 (by decide) ?_
  refine c_put (C := RX3) (T := TX3) (N := 8) (k := 4) (ty := .int) K hin st rfl (by decide) (cwX3 _ (List.mem_of_getElem? (i := 6) rfl)) rfl rfl (by decide +kernel) rfl rfl rfl dX3_init_40 (fun H locs st => ?_)
  have st : cSt D A s.heap ((h, .inr (3, [.ref q9, .ref q19, .ref q26, .ref q33, .int 0, .int 0, .int 0, .int 0])) :: ([] ++ mnaL cy.2.2 cy.1 16 q9 q9_1 q9_2 q9_3 q9_4 q9_5 q9_6 q9_7 ++ [(q19, rowE cy.1 7)] ++ [(q26, rowE cy.1 4)] ++ [(q33, rowE cy.1 4)])) H locs := st
  refine lv_aload_n K.1 K.2.1 dX3_init_43 rfl hl ?_
  refine lv_iconst (v := (0)) K.1 K.2.1 dX3_init_44 (by decide) ?_
  refine c_put (C := RX3) (T := TX3) (N := 8) (k := 5) (ty := .int) K hin st rfl (by decide) (cwX3 _ (List.mem_of_getElem? (i := 7) rfl)) rfl rfl (by decide +kernel) rfl rfl rfl dX3_init_45 (fun H locs st => ?_)
  have st : cSt D A s.heap ((h, .inr (3, [.ref q9, .ref q19, .ref q26, .ref q33, .int 0, .int 0, .int 0, .int 0])) :: ([] ++ mnaL cy.2.2 cy.1 16 q9 q9_1 q9_2 q9_3 q9_4 q9_5 q9_6 q9_7 ++ [(q19, rowE cy.1 7)] ++ [(q26, rowE cy.1 4)] ++ [(q33, rowE cy.1 4)])) H locs := st
  refine lv_aload_n K.1 K.2.1 dX3_init_48 rfl hl ?_
  refine lv_iconst (v := (0)) K.1 K.2.1 dX3_init_49 (by decide) ?_
  refine c_put (C := RX3) (T := TX3) (N := 8) (k := 6) (ty := .boolean) K hin st rfl (by decide) (cwX3 _ (List.mem_of_getElem? (i := 8) rfl)) rfl rfl (by decide +kernel) rfl rfl rfl dX3_init_50 (fun H locs st => ?_)
  have st : cSt D A s.heap ((h, .inr (3, [.ref q9, .ref q19, .ref q26, .ref q33, .int 0, .int 0, .int 0, .int 0])) :: ([] ++ mnaL cy.2.2 cy.1 16 q9 q9_1 q9_2 q9_3 q9_4 q9_5 q9_6 q9_7 ++ [(q19, rowE cy.1 7)] ++ [(q26, rowE cy.1 4)] ++ [(q33, rowE cy.1 4)])) H locs := st
  refine lv_aload_n K.1 K.2.1 dX3_init_53 rfl hl ?_
  refine lv_iconst (v := (-1)) K.1 K.2.1 dX3_init_54 (by decide) ?_
  refine c_put (C := RX3) (T := TX3) (N := 8) (k := 7) (ty := .int) K hin st rfl (by decide) (cwX3 _ (List.mem_of_getElem? (i := 9) rfl)) rfl rfl (by decide +kernel) rfl rfl rfl dX3_init_55 (fun H locs st => ?_)
  have st : cSt D A s.heap ((h, .inr (3, [.ref q9, .ref q19, .ref q26, .ref q33, .int 0, .int 0, .int 0, .int (-1)])) :: ([] ++ mnaL cy.2.2 cy.1 16 q9 q9_1 q9_2 q9_3 q9_4 q9_5 q9_6 q9_7 ++ [(q19, rowE cy.1 7)] ++ [(q26, rowE cy.1 4)] ++ [(q33, rowE cy.1 4)])) H locs := st
  exact fin 58 (q9, q9_1, q9_2, q9_3, q9_4, q9_5, q9_6, q9_7, q19, q26, q33) H locs dX3_init_58 st
def wX4 (cy : ClassId × ClassId × ClassId) (h : Nat) (u : Nat × Nat × Nat) : va_W := (h, .inr (4, [.int 0, .ref u.1, .ref u.2.1, .ref u.2.2])) :: ([] ++ [(u.1, rowE cy.1 6)] ++ [(u.2.1, rowE cy.1 6)] ++ [(u.2.2, rowE cy.2.1 6)])
theorem cwX4 : ∀ x ∈ ([.methodLink RX4 3 objectInit, .fieldLink RX4 9 RX4 "size" "I", .fieldLink RX4 15 RX4 "reach" "[I", .fieldLink RX4 19 RX4 "more" "[I", .fieldLink RX4 22 RX4 "floods" "[Z"] : List Cond), x ∈ gW := by decide +kernel
theorem dfX4 : ∀ j, j < 4 → defaultValue (vw_ty 4 j) = vp_V [.int 0, .null, .null, .null] j
  | 0, _ => rfl
  | 1, _ => rfl
  | 2, _ => rfl
  | 3, _ => rfl
  | j + 4, h => absurd h (by omega)
set_option maxHeartbeats 4000000 in
set_option maxRecDepth 100000 in
theorem k_X4 (l : Launch) : Ctor l yX4_init cX4_init 4 [.int 0, .null, .null, .null] (Nat × Nat × Nat) wX4 1 12 3 18 := by
  refine ctor_of (by decide) rfl ?_
  intro cy D h A p e R s m args below meth c Q ls hR K hin hA hl hsz fin st
  subst hR
  refine c_obj K hl hsz (cwX4 _ (List.mem_of_getElem? (i := 0) rfl)) dX4_init_0 dX4_init_1 (Nat.le_of_ble_eq_true rfl) (Nat.le_of_ble_eq_true rfl) ?_
  refine lv_aload_n K.1 K.2.1 dX4_init_4 rfl hl ?_
  refine lv_iconst (v := (0)) K.1 K.2.1 dX4_init_5 (by decide) ?_
  refine c_put (C := RX4) (T := TX4) (N := 4) (k := 0) (ty := .int) K hin st rfl (by decide) (cwX4 _ (List.mem_of_getElem? (i := 1) rfl)) rfl rfl (by decide +kernel) rfl rfl rfl dX4_init_6 (fun H locs st => ?_)
  have st : cSt D A s.heap ((h, .inr (4, [.int 0, .null, .null, .null])) :: ([])) H locs := st
  refine lv_aload_n K.1 K.2.1 dX4_init_9 rfl hl ?_
  refine lv_bipush (v := (6)) K.1 K.2.1 dX4_init_10 (by decide) ?_
  refine c_arrI (N := 6) K hA st (by decide) (by decide) (by decide) (Nat.le_of_ble_eq_true rfl) (Nat.le_of_ble_eq_true rfl) dX4_init_12 (fun q12 H st => ?_)
  refine c_put (C := RX4) (T := TX4) (N := 4) (k := 1) (ty := .array .int) K hin st rfl (by decide) (cwX4 _ (List.mem_of_getElem? (i := 2) rfl)) rfl rfl (by decide +kernel) rfl rfl rfl dX4_init_14 (fun H locs st => ?_)
  have st : cSt D A s.heap ((h, .inr (4, [.int 0, .ref q12, .null, .null])) :: ([] ++ [(q12, rowE cy.1 6)])) H locs := st
  refine lv_aload_n K.1 K.2.1 dX4_init_17 rfl hl ?_
  refine lv_bipush (v := (6)) K.1 K.2.1 dX4_init_18 (by decide) ?_
  refine c_arrI (N := 6) K hA st (by decide) (by decide) (by decide) (Nat.le_of_ble_eq_true rfl) (Nat.le_of_ble_eq_true rfl) dX4_init_20 (fun q20 H st => ?_)
  refine c_put (C := RX4) (T := TX4) (N := 4) (k := 2) (ty := .array .int) K hin st rfl (by decide) (cwX4 _ (List.mem_of_getElem? (i := 3) rfl)) rfl rfl (by decide +kernel) rfl rfl rfl dX4_init_22 (fun H locs st => ?_)
  have st : cSt D A s.heap ((h, .inr (4, [.int 0, .ref q12, .ref q20, .null])) :: ([] ++ [(q12, rowE cy.1 6)] ++ [(q20, rowE cy.1 6)])) H locs := st
  refine lv_aload_n K.1 K.2.1 dX4_init_25 rfl hl ?_
  refine lv_bipush (v := (6)) K.1 K.2.1 dX4_init_26 (by decide) ?_
  refine c_arrZ (N := 6) K hA st (by decide) (by decide) (by decide) (Nat.le_of_ble_eq_true rfl) (Nat.le_of_ble_eq_true rfl) dX4_init_28 (fun q28 H st => ?_)
  refine c_put (C := RX4) (T := TX4) (N := 4) (k := 3) (ty := .array .boolean) K hin st rfl (by decide) (cwX4 _ (List.mem_of_getElem? (i := 4) rfl)) rfl rfl (by decide +kernel) rfl rfl rfl dX4_init_30 (fun H locs st => ?_)
  have st : cSt D A s.heap ((h, .inr (4, [.int 0, .ref q12, .ref q20, .ref q28])) :: ([] ++ [(q12, rowE cy.1 6)] ++ [(q20, rowE cy.1 6)] ++ [(q28, rowE cy.2.1 6)])) H locs := st
  exact fin 33 (q12, q20, q28) H locs dX4_init_33 st
def wX5 (cy : ClassId × ClassId × ClassId) (h : Nat) (u : Unit) : va_W := (h, .inr (5, [.int (-1), .int (-1)])) :: ([])
theorem cwX5 : ∀ x ∈ ([.methodLink RX5 3 objectInit, .fieldLink RX5 9 RX5 "howMany" "I", .fieldLink RX5 15 RX5 "which" "I"] : List Cond), x ∈ gW := by decide +kernel
theorem dfX5 : ∀ j, j < 2 → defaultValue (vw_ty 5 j) = vp_V [.int 0, .int 0] j
  | 0, _ => rfl
  | 1, _ => rfl
  | j + 2, h => absurd h (by omega)
set_option maxHeartbeats 4000000 in
set_option maxRecDepth 100000 in
theorem k_X5 (l : Launch) : Ctor l yX5_init cX5_init 5 [.int 0, .int 0] (Unit) wX5 1 12 0 0 := by
  refine ctor_of (by decide) rfl ?_
  intro cy D h A p e R s m args below meth c Q ls hR K hin hA hl hsz fin st
  subst hR
  refine c_obj K hl hsz (cwX5 _ (List.mem_of_getElem? (i := 0) rfl)) dX5_init_0 dX5_init_1 (Nat.le_of_ble_eq_true rfl) (Nat.le_of_ble_eq_true rfl) ?_
  refine lv_aload_n K.1 K.2.1 dX5_init_4 rfl hl ?_
  refine lv_iconst (v := (-1)) K.1 K.2.1 dX5_init_5 (by decide) ?_
  refine c_put (C := RX5) (T := TX5) (N := 2) (k := 0) (ty := .int) K hin st rfl (by decide) (cwX5 _ (List.mem_of_getElem? (i := 1) rfl)) rfl rfl (by decide +kernel) rfl rfl rfl dX5_init_6 (fun H locs st => ?_)
  have st : cSt D A s.heap ((h, .inr (5, [.int (-1), .int 0])) :: ([])) H locs := st
  refine lv_aload_n K.1 K.2.1 dX5_init_9 rfl hl ?_
  refine lv_iconst (v := (-1)) K.1 K.2.1 dX5_init_10 (by decide) ?_
  refine c_put (C := RX5) (T := TX5) (N := 2) (k := 1) (ty := .int) K hin st rfl (by decide) (cwX5 _ (List.mem_of_getElem? (i := 2) rfl)) rfl rfl (by decide +kernel) rfl rfl rfl dX5_init_11 (fun H locs st => ?_)
  have st : cSt D A s.heap ((h, .inr (5, [.int (-1), .int (-1)])) :: ([])) H locs := st
  exact fin 14 () H locs dX5_init_14 st
def wX7 (cy : ClassId × ClassId × ClassId) (h : Nat) (u : Nat × Nat × Nat × Nat × Nat × Nat × Nat × Nat × Nat × Nat × Nat × Nat × Nat × Nat × Nat × Nat × Nat × Nat × Nat) : va_W := (h, .inr (7, [.ref u.1, .int 0, .int 0, .int 0, .int 0, .int 0, .int 0, .int 0, .ref u.2.1, .ref u.2.2.1, .ref u.2.2.2.1, .ref u.2.2.2.2.1, .ref u.2.2.2.2.2.1, .ref u.2.2.2.2.2.2.1, .ref u.2.2.2.2.2.2.2.1, .ref u.2.2.2.2.2.2.2.2.1, .ref u.2.2.2.2.2.2.2.2.2.1, .ref u.2.2.2.2.2.2.2.2.2.2.1, .ref u.2.2.2.2.2.2.2.2.2.2.2.1, .int 0, .ref u.2.2.2.2.2.2.2.2.2.2.2.2.1, .int 0, .ref u.2.2.2.2.2.2.2.2.2.2.2.2.2.1, .int (-1), .int 0, .int 0, .int 0, .ref u.2.2.2.2.2.2.2.2.2.2.2.2.2.2.1, .ref u.2.2.2.2.2.2.2.2.2.2.2.2.2.2.2.1, .ref u.2.2.2.2.2.2.2.2.2.2.2.2.2.2.2.2.1, .ref u.2.2.2.2.2.2.2.2.2.2.2.2.2.2.2.2.2.1, .ref u.2.2.2.2.2.2.2.2.2.2.2.2.2.2.2.2.2.2, .long 0])) :: ([] ++ [(u.1, rowE cy.1 42)] ++ [(u.2.1, rowE cy.1 7)] ++ [(u.2.2.1, rowE cy.1 7)] ++ [(u.2.2.2.1, rowE cy.1 7)] ++ [(u.2.2.2.2.1, rowE cy.1 7)] ++ [(u.2.2.2.2.2.1, rowE cy.1 3)] ++ [(u.2.2.2.2.2.2.1, rowE cy.1 7)] ++ [(u.2.2.2.2.2.2.2.1, rowE cy.1 7)] ++ [(u.2.2.2.2.2.2.2.2.1, rowE cy.1 3)] ++ [(u.2.2.2.2.2.2.2.2.2.1, rowE cy.1 7)] ++ [(u.2.2.2.2.2.2.2.2.2.2.1, rowE cy.1 630)] ++ [(u.2.2.2.2.2.2.2.2.2.2.2.1, rowE cy.1 90)] ++ [(u.2.2.2.2.2.2.2.2.2.2.2.2.1, rowE cy.1 18)] ++ [(u.2.2.2.2.2.2.2.2.2.2.2.2.2.1, rowE cy.1 7)] ++ [(u.2.2.2.2.2.2.2.2.2.2.2.2.2.2.1, rowE cy.1 7)] ++ [(u.2.2.2.2.2.2.2.2.2.2.2.2.2.2.2.1, rowE cy.1 7)] ++ [(u.2.2.2.2.2.2.2.2.2.2.2.2.2.2.2.2.1, rowE cy.1 7)] ++ [(u.2.2.2.2.2.2.2.2.2.2.2.2.2.2.2.2.2.1, rowE cy.1 3)] ++ [(u.2.2.2.2.2.2.2.2.2.2.2.2.2.2.2.2.2.2, rowE cy.1 18)])
theorem cwX7 : ∀ x ∈ ([.methodLink RX7 1 objectInit, .fieldLink RX7 7 RX7 "page" "[I", .fieldLink RX7 13 RX7 "kinds" "[I", .fieldLink RX7 16 RX7 "flows" "[I", .fieldLink RX7 19 RX7 "wilds" "[I", .fieldLink RX7 22 RX7 "runs" "[I", .fieldLink RX7 25 RX7 "where" "[I", .fieldLink RX7 28 RX7 "waters" "[I", .fieldLink RX7 31 RX7 "wildThen" "[I", .fieldLink RX7 34 RX7 "whereThen" "[I", .fieldLink RX7 37 RX7 "kindsNow" "[I", .fieldLink RX7 40 RX7 "ways" "[I", .fieldLink RX7 43 RX7 "waysThen" "[I", .fieldLink RX7 46 RX7 "sights" "[I", .fieldLink RX7 49 RX7 "flowsNow" "[I", .fieldLink RX7 52 RX7 "keptKinds" "[I", .fieldLink RX7 55 RX7 "keptFlows" "[I", .fieldLink RX7 58 RX7 "keptWilds" "[I", .fieldLink RX7 61 RX7 "keptWhere" "[I", .fieldLink RX7 64 RX7 "keptSights" "[I", .fieldLink RX7 67 RX7 "keptRiver" "I"] : List Cond), x ∈ gW := by decide +kernel
theorem dfX7 : ∀ j, j < 33 → defaultValue (vw_ty 7 j) = vp_V [.null, .int 0, .int 0, .int 0, .int 0, .int 0, .int 0, .int 0, .null, .null, .null, .null, .null, .null, .null, .null, .null, .null, .null, .int 0, .null, .int 0, .null, .int 0, .int 0, .int 0, .int 0, .null, .null, .null, .null, .null, .long 0] j
  | 0, _ => rfl
  | 1, _ => rfl
  | 2, _ => rfl
  | 3, _ => rfl
  | 4, _ => rfl
  | 5, _ => rfl
  | 6, _ => rfl
  | 7, _ => rfl
  | 8, _ => rfl
  | 9, _ => rfl
  | 10, _ => rfl
  | 11, _ => rfl
  | 12, _ => rfl
  | 13, _ => rfl
  | 14, _ => rfl
  | 15, _ => rfl
  | 16, _ => rfl
  | 17, _ => rfl
  | 18, _ => rfl
  | 19, _ => rfl
  | 20, _ => rfl
  | 21, _ => rfl
  | 22, _ => rfl
  | 23, _ => rfl
  | 24, _ => rfl
  | 25, _ => rfl
  | 26, _ => rfl
  | 27, _ => rfl
  | 28, _ => rfl
  | 29, _ => rfl
  | 30, _ => rfl
  | 31, _ => rfl
  | 32, _ => rfl
  | j + 33, h => absurd h (by omega)
set_option maxHeartbeats 4000000 in
set_option maxRecDepth 100000 in
theorem k_X7 (l : Launch) : Ctor l yX7_init cX7_init 7 [.null, .int 0, .int 0, .int 0, .int 0, .int 0, .int 0, .int 0, .null, .null, .null, .null, .null, .null, .null, .null, .null, .null, .null, .int 0, .null, .int 0, .null, .int 0, .int 0, .int 0, .int 0, .null, .null, .null, .null, .null, .long 0] (Nat × Nat × Nat × Nat × Nat × Nat × Nat × Nat × Nat × Nat × Nat × Nat × Nat × Nat × Nat × Nat × Nat × Nat × Nat) wX7 1 12 19 884 := by
  refine ctor_of (by decide) rfl ?_
  intro cy D h A p e R s m args below meth c Q ls hR K hin hA hl hsz fin st
  subst hR
  refine c_obj K hl hsz (cwX7 _ (List.mem_of_getElem? (i := 0) rfl)) dX7_init_0 dX7_init_1 (Nat.le_of_ble_eq_true rfl) (Nat.le_of_ble_eq_true rfl) ?_
  refine lv_aload_n K.1 K.2.1 dX7_init_4 rfl hl ?_
  refine lv_bipush (v := (42)) K.1 K.2.1 dX7_init_5 (by decide) ?_
  refine c_arrI (N := 42) K hA st (by decide) (by decide) (by decide) (Nat.le_of_ble_eq_true rfl) (Nat.le_of_ble_eq_true rfl) dX7_init_7 (fun q7 H st => ?_)
  refine c_put (C := RX7) (T := TX7) (N := 33) (k := 0) (ty := .array .int) K hin st rfl (by decide) (cwX7 _ (List.mem_of_getElem? (i := 1) rfl)) rfl rfl (by decide +kernel) rfl rfl rfl dX7_init_9 (fun H locs st => ?_)
  have st : cSt D A s.heap ((h, .inr (7, [.ref q7, .int 0, .int 0, .int 0, .int 0, .int 0, .int 0, .int 0, .null, .null, .null, .null, .null, .null, .null, .null, .null, .null, .null, .int 0, .null, .int 0, .null, .int 0, .int 0, .int 0, .int 0, .null, .null, .null, .null, .null, .long 0])) :: ([] ++ [(q7, rowE cy.1 42)])) H locs := st
  refine lv_aload_n K.1 K.2.1 dX7_init_12 rfl hl ?_
  refine lv_bipush (v := (7)) K.1 K.2.1 dX7_init_13 (by decide) ?_
  refine c_arrI (N := 7) K hA st (by decide) (by decide) (by decide) (Nat.le_of_ble_eq_true rfl) (Nat.le_of_ble_eq_true rfl) dX7_init_15 (fun q15 H st => ?_)
  refine c_put (C := RX7) (T := TX7) (N := 33) (k := 8) (ty := .array .int) K hin st rfl (by decide) (cwX7 _ (List.mem_of_getElem? (i := 2) rfl)) rfl rfl (by decide +kernel) rfl rfl rfl dX7_init_17 (fun H locs st => ?_)
  have st : cSt D A s.heap ((h, .inr (7, [.ref q7, .int 0, .int 0, .int 0, .int 0, .int 0, .int 0, .int 0, .ref q15, .null, .null, .null, .null, .null, .null, .null, .null, .null, .null, .int 0, .null, .int 0, .null, .int 0, .int 0, .int 0, .int 0, .null, .null, .null, .null, .null, .long 0])) :: ([] ++ [(q7, rowE cy.1 42)] ++ [(q15, rowE cy.1 7)])) H locs := st
  refine lv_aload_n K.1 K.2.1 dX7_init_20 rfl hl ?_
  refine lv_bipush (v := (7)) K.1 K.2.1 dX7_init_21 (by decide) ?_
  refine c_arrI (N := 7) K hA st (by decide) (by decide) (by decide) (Nat.le_of_ble_eq_true rfl) (Nat.le_of_ble_eq_true rfl) dX7_init_23 (fun q23 H st => ?_)
  refine c_put (C := RX7) (T := TX7) (N := 33) (k := 9) (ty := .array .int) K hin st rfl (by decide) (cwX7 _ (List.mem_of_getElem? (i := 3) rfl)) rfl rfl (by decide +kernel) rfl rfl rfl dX7_init_25 (fun H locs st => ?_)
  have st : cSt D A s.heap ((h, .inr (7, [.ref q7, .int 0, .int 0, .int 0, .int 0, .int 0, .int 0, .int 0, .ref q15, .ref q23, .null, .null, .null, .null, .null, .null, .null, .null, .null, .int 0, .null, .int 0, .null, .int 0, .int 0, .int 0, .int 0, .null, .null, .null, .null, .null, .long 0])) :: ([] ++ [(q7, rowE cy.1 42)] ++ [(q15, rowE cy.1 7)] ++ [(q23, rowE cy.1 7)])) H locs := st
  refine lv_aload_n K.1 K.2.1 dX7_init_28 rfl hl ?_
  refine lv_bipush (v := (7)) K.1 K.2.1 dX7_init_29 (by decide) ?_
  refine c_arrI (N := 7) K hA st (by decide) (by decide) (by decide) (Nat.le_of_ble_eq_true rfl) (Nat.le_of_ble_eq_true rfl) dX7_init_31 (fun q31 H st => ?_)
  refine c_put (C := RX7) (T := TX7) (N := 33) (k := 10) (ty := .array .int) K hin st rfl (by decide) (cwX7 _ (List.mem_of_getElem? (i := 4) rfl)) rfl rfl (by decide +kernel) rfl rfl rfl dX7_init_33 (fun H locs st => ?_)
  have st : cSt D A s.heap ((h, .inr (7, [.ref q7, .int 0, .int 0, .int 0, .int 0, .int 0, .int 0, .int 0, .ref q15, .ref q23, .ref q31, .null, .null, .null, .null, .null, .null, .null, .null, .int 0, .null, .int 0, .null, .int 0, .int 0, .int 0, .int 0, .null, .null, .null, .null, .null, .long 0])) :: ([] ++ [(q7, rowE cy.1 42)] ++ [(q15, rowE cy.1 7)] ++ [(q23, rowE cy.1 7)] ++ [(q31, rowE cy.1 7)])) H locs := st
  refine lv_aload_n K.1 K.2.1 dX7_init_36 rfl hl ?_
  refine lv_bipush (v := (7)) K.1 K.2.1 dX7_init_37 (by decide) ?_
  refine c_arrI (N := 7) K hA st (by decide) (by decide) (by decide) (Nat.le_of_ble_eq_true rfl) (Nat.le_of_ble_eq_true rfl) dX7_init_39 (fun q39 H st => ?_)
  refine c_put (C := RX7) (T := TX7) (N := 33) (k := 11) (ty := .array .int) K hin st rfl (by decide) (cwX7 _ (List.mem_of_getElem? (i := 5) rfl)) rfl rfl (by decide +kernel) rfl rfl rfl dX7_init_41 (fun H locs st => ?_)
  have st : cSt D A s.heap ((h, .inr (7, [.ref q7, .int 0, .int 0, .int 0, .int 0, .int 0, .int 0, .int 0, .ref q15, .ref q23, .ref q31, .ref q39, .null, .null, .null, .null, .null, .null, .null, .int 0, .null, .int 0, .null, .int 0, .int 0, .int 0, .int 0, .null, .null, .null, .null, .null, .long 0])) :: ([] ++ [(q7, rowE cy.1 42)] ++ [(q15, rowE cy.1 7)] ++ [(q23, rowE cy.1 7)] ++ [(q31, rowE cy.1 7)] ++ [(q39, rowE cy.1 7)])) H locs := st
  refine lv_aload_n K.1 K.2.1 dX7_init_44 rfl hl ?_
  refine lv_iconst (v := (3)) K.1 K.2.1 dX7_init_45 (by decide) ?_
  refine c_arrI (N := 3) K hA st (by decide) (by decide) (by decide) (Nat.le_of_ble_eq_true rfl) (Nat.le_of_ble_eq_true rfl) dX7_init_46 (fun q46 H st => ?_)
  refine c_put (C := RX7) (T := TX7) (N := 33) (k := 12) (ty := .array .int) K hin st rfl (by decide) (cwX7 _ (List.mem_of_getElem? (i := 6) rfl)) rfl rfl (by decide +kernel) rfl rfl rfl dX7_init_48 (fun H locs st => ?_)
  have st : cSt D A s.heap ((h, .inr (7, [.ref q7, .int 0, .int 0, .int 0, .int 0, .int 0, .int 0, .int 0, .ref q15, .ref q23, .ref q31, .ref q39, .ref q46, .null, .null, .null, .null, .null, .null, .int 0, .null, .int 0, .null, .int 0, .int 0, .int 0, .int 0, .null, .null, .null, .null, .null, .long 0])) :: ([] ++ [(q7, rowE cy.1 42)] ++ [(q15, rowE cy.1 7)] ++ [(q23, rowE cy.1 7)] ++ [(q31, rowE cy.1 7)] ++ [(q39, rowE cy.1 7)] ++ [(q46, rowE cy.1 3)])) H locs := st
  refine lv_aload_n K.1 K.2.1 dX7_init_51 rfl hl ?_
  refine lv_bipush (v := (7)) K.1 K.2.1 dX7_init_52 (by decide) ?_
  refine c_arrI (N := 7) K hA st (by decide) (by decide) (by decide) (Nat.le_of_ble_eq_true rfl) (Nat.le_of_ble_eq_true rfl) dX7_init_54 (fun q54 H st => ?_)
  refine c_put (C := RX7) (T := TX7) (N := 33) (k := 13) (ty := .array .int) K hin st rfl (by decide) (cwX7 _ (List.mem_of_getElem? (i := 7) rfl)) rfl rfl (by decide +kernel) rfl rfl rfl dX7_init_56 (fun H locs st => ?_)
  have st : cSt D A s.heap ((h, .inr (7, [.ref q7, .int 0, .int 0, .int 0, .int 0, .int 0, .int 0, .int 0, .ref q15, .ref q23, .ref q31, .ref q39, .ref q46, .ref q54, .null, .null, .null, .null, .null, .int 0, .null, .int 0, .null, .int 0, .int 0, .int 0, .int 0, .null, .null, .null, .null, .null, .long 0])) :: ([] ++ [(q7, rowE cy.1 42)] ++ [(q15, rowE cy.1 7)] ++ [(q23, rowE cy.1 7)] ++ [(q31, rowE cy.1 7)] ++ [(q39, rowE cy.1 7)] ++ [(q46, rowE cy.1 3)] ++ [(q54, rowE cy.1 7)])) H locs := st
  refine lv_aload_n K.1 K.2.1 dX7_init_59 rfl hl ?_
  refine lv_bipush (v := (7)) K.1 K.2.1 dX7_init_60 (by decide) ?_
  refine c_arrI (N := 7) K hA st (by decide) (by decide) (by decide) (Nat.le_of_ble_eq_true rfl) (Nat.le_of_ble_eq_true rfl) dX7_init_62 (fun q62 H st => ?_)
  refine c_put (C := RX7) (T := TX7) (N := 33) (k := 14) (ty := .array .int) K hin st rfl (by decide) (cwX7 _ (List.mem_of_getElem? (i := 8) rfl)) rfl rfl (by decide +kernel) rfl rfl rfl dX7_init_64 (fun H locs st => ?_)
  have st : cSt D A s.heap ((h, .inr (7, [.ref q7, .int 0, .int 0, .int 0, .int 0, .int 0, .int 0, .int 0, .ref q15, .ref q23, .ref q31, .ref q39, .ref q46, .ref q54, .ref q62, .null, .null, .null, .null, .int 0, .null, .int 0, .null, .int 0, .int 0, .int 0, .int 0, .null, .null, .null, .null, .null, .long 0])) :: ([] ++ [(q7, rowE cy.1 42)] ++ [(q15, rowE cy.1 7)] ++ [(q23, rowE cy.1 7)] ++ [(q31, rowE cy.1 7)] ++ [(q39, rowE cy.1 7)] ++ [(q46, rowE cy.1 3)] ++ [(q54, rowE cy.1 7)] ++ [(q62, rowE cy.1 7)])) H locs := st
  refine lv_aload_n K.1 K.2.1 dX7_init_67 rfl hl ?_
  refine lv_iconst (v := (3)) K.1 K.2.1 dX7_init_68 (by decide) ?_
  refine c_arrI (N := 3) K hA st (by decide) (by decide) (by decide) (Nat.le_of_ble_eq_true rfl) (Nat.le_of_ble_eq_true rfl) dX7_init_69 (fun q69 H st => ?_)
  refine c_put (C := RX7) (T := TX7) (N := 33) (k := 15) (ty := .array .int) K hin st rfl (by decide) (cwX7 _ (List.mem_of_getElem? (i := 9) rfl)) rfl rfl (by decide +kernel) rfl rfl rfl dX7_init_71 (fun H locs st => ?_)
  have st : cSt D A s.heap ((h, .inr (7, [.ref q7, .int 0, .int 0, .int 0, .int 0, .int 0, .int 0, .int 0, .ref q15, .ref q23, .ref q31, .ref q39, .ref q46, .ref q54, .ref q62, .ref q69, .null, .null, .null, .int 0, .null, .int 0, .null, .int 0, .int 0, .int 0, .int 0, .null, .null, .null, .null, .null, .long 0])) :: ([] ++ [(q7, rowE cy.1 42)] ++ [(q15, rowE cy.1 7)] ++ [(q23, rowE cy.1 7)] ++ [(q31, rowE cy.1 7)] ++ [(q39, rowE cy.1 7)] ++ [(q46, rowE cy.1 3)] ++ [(q54, rowE cy.1 7)] ++ [(q62, rowE cy.1 7)] ++ [(q69, rowE cy.1 3)])) H locs := st
  refine lv_aload_n K.1 K.2.1 dX7_init_74 rfl hl ?_
  refine lv_bipush (v := (7)) K.1 K.2.1 dX7_init_75 (by decide) ?_
  refine c_arrI (N := 7) K hA st (by decide) (by decide) (by decide) (Nat.le_of_ble_eq_true rfl) (Nat.le_of_ble_eq_true rfl) dX7_init_77 (fun q77 H st => ?_)
  refine c_put (C := RX7) (T := TX7) (N := 33) (k := 16) (ty := .array .int) K hin st rfl (by decide) (cwX7 _ (List.mem_of_getElem? (i := 10) rfl)) rfl rfl (by decide +kernel) rfl rfl rfl dX7_init_79 (fun H locs st => ?_)
  have st : cSt D A s.heap ((h, .inr (7, [.ref q7, .int 0, .int 0, .int 0, .int 0, .int 0, .int 0, .int 0, .ref q15, .ref q23, .ref q31, .ref q39, .ref q46, .ref q54, .ref q62, .ref q69, .ref q77, .null, .null, .int 0, .null, .int 0, .null, .int 0, .int 0, .int 0, .int 0, .null, .null, .null, .null, .null, .long 0])) :: ([] ++ [(q7, rowE cy.1 42)] ++ [(q15, rowE cy.1 7)] ++ [(q23, rowE cy.1 7)] ++ [(q31, rowE cy.1 7)] ++ [(q39, rowE cy.1 7)] ++ [(q46, rowE cy.1 3)] ++ [(q54, rowE cy.1 7)] ++ [(q62, rowE cy.1 7)] ++ [(q69, rowE cy.1 3)] ++ [(q77, rowE cy.1 7)])) H locs := st
  refine lv_aload_n K.1 K.2.1 dX7_init_82 rfl hl ?_
  refine lv_sipush (v := (630)) K.1 K.2.1 dX7_init_83 (by decide) ?_
  refine c_arrI (N := 630) K hA st (by decide) (by decide) (by decide) (Nat.le_of_ble_eq_true rfl) (Nat.le_of_ble_eq_true rfl) dX7_init_86 (fun q86 H st => ?_)
  refine c_put (C := RX7) (T := TX7) (N := 33) (k := 17) (ty := .array .int) K hin st rfl (by decide) (cwX7 _ (List.mem_of_getElem? (i := 11) rfl)) rfl rfl (by decide +kernel) rfl rfl rfl dX7_init_88 (fun H locs st => ?_)
  have st : cSt D A s.heap ((h, .inr (7, [.ref q7, .int 0, .int 0, .int 0, .int 0, .int 0, .int 0, .int 0, .ref q15, .ref q23, .ref q31, .ref q39, .ref q46, .ref q54, .ref q62, .ref q69, .ref q77, .ref q86, .null, .int 0, .null, .int 0, .null, .int 0, .int 0, .int 0, .int 0, .null, .null, .null, .null, .null, .long 0])) :: ([] ++ [(q7, rowE cy.1 42)] ++ [(q15, rowE cy.1 7)] ++ [(q23, rowE cy.1 7)] ++ [(q31, rowE cy.1 7)] ++ [(q39, rowE cy.1 7)] ++ [(q46, rowE cy.1 3)] ++ [(q54, rowE cy.1 7)] ++ [(q62, rowE cy.1 7)] ++ [(q69, rowE cy.1 3)] ++ [(q77, rowE cy.1 7)] ++ [(q86, rowE cy.1 630)])) H locs := st
  refine lv_aload_n K.1 K.2.1 dX7_init_91 rfl hl ?_
  refine lv_bipush (v := (90)) K.1 K.2.1 dX7_init_92 (by decide) ?_
  refine c_arrI (N := 90) K hA st (by decide) (by decide) (by decide) (Nat.le_of_ble_eq_true rfl) (Nat.le_of_ble_eq_true rfl) dX7_init_94 (fun q94 H st => ?_)
  refine c_put (C := RX7) (T := TX7) (N := 33) (k := 18) (ty := .array .int) K hin st rfl (by decide) (cwX7 _ (List.mem_of_getElem? (i := 12) rfl)) rfl rfl (by decide +kernel) rfl rfl rfl dX7_init_96 (fun H locs st => ?_)
  have st : cSt D A s.heap ((h, .inr (7, [.ref q7, .int 0, .int 0, .int 0, .int 0, .int 0, .int 0, .int 0, .ref q15, .ref q23, .ref q31, .ref q39, .ref q46, .ref q54, .ref q62, .ref q69, .ref q77, .ref q86, .ref q94, .int 0, .null, .int 0, .null, .int 0, .int 0, .int 0, .int 0, .null, .null, .null, .null, .null, .long 0])) :: ([] ++ [(q7, rowE cy.1 42)] ++ [(q15, rowE cy.1 7)] ++ [(q23, rowE cy.1 7)] ++ [(q31, rowE cy.1 7)] ++ [(q39, rowE cy.1 7)] ++ [(q46, rowE cy.1 3)] ++ [(q54, rowE cy.1 7)] ++ [(q62, rowE cy.1 7)] ++ [(q69, rowE cy.1 3)] ++ [(q77, rowE cy.1 7)] ++ [(q86, rowE cy.1 630)] ++ [(q94, rowE cy.1 90)])) H locs := st
  refine lv_aload_n K.1 K.2.1 dX7_init_99 rfl hl ?_
  refine lv_bipush (v := (18)) K.1 K.2.1 dX7_init_100 (by decide) ?_
  refine c_arrI (N := 18) K hA st (by decide) (by decide) (by decide) (Nat.le_of_ble_eq_true rfl) (Nat.le_of_ble_eq_true rfl) dX7_init_102 (fun q102 H st => ?_)
  refine c_put (C := RX7) (T := TX7) (N := 33) (k := 20) (ty := .array .int) K hin st rfl (by decide) (cwX7 _ (List.mem_of_getElem? (i := 13) rfl)) rfl rfl (by decide +kernel) rfl rfl rfl dX7_init_104 (fun H locs st => ?_)
  have st : cSt D A s.heap ((h, .inr (7, [.ref q7, .int 0, .int 0, .int 0, .int 0, .int 0, .int 0, .int 0, .ref q15, .ref q23, .ref q31, .ref q39, .ref q46, .ref q54, .ref q62, .ref q69, .ref q77, .ref q86, .ref q94, .int 0, .ref q102, .int 0, .null, .int 0, .int 0, .int 0, .int 0, .null, .null, .null, .null, .null, .long 0])) :: ([] ++ [(q7, rowE cy.1 42)] ++ [(q15, rowE cy.1 7)] ++ [(q23, rowE cy.1 7)] ++ [(q31, rowE cy.1 7)] ++ [(q39, rowE cy.1 7)] ++ [(q46, rowE cy.1 3)] ++ [(q54, rowE cy.1 7)] ++ [(q62, rowE cy.1 7)] ++ [(q69, rowE cy.1 3)] ++ [(q77, rowE cy.1 7)] ++ [(q86, rowE cy.1 630)] ++ [(q94, rowE cy.1 90)] ++ [(q102, rowE cy.1 18)])) H locs := st
  refine lv_aload_n K.1 K.2.1 dX7_init_107 rfl hl ?_
  refine lv_bipush (v := (7)) K.1 K.2.1 dX7_init_108 (by decide) ?_
  refine c_arrI (N := 7) K hA st (by decide) (by decide) (by decide) (Nat.le_of_ble_eq_true rfl) (Nat.le_of_ble_eq_true rfl) dX7_init_110 (fun q110 H st => ?_)
  refine c_put (C := RX7) (T := TX7) (N := 33) (k := 22) (ty := .array .int) K hin st rfl (by decide) (cwX7 _ (List.mem_of_getElem? (i := 14) rfl)) rfl rfl (by decide +kernel) rfl rfl rfl dX7_init_112 (fun H locs st => ?_)
  have st : cSt D A s.heap ((h, .inr (7, [.ref q7, .int 0, .int 0, .int 0, .int 0, .int 0, .int 0, .int 0, .ref q15, .ref q23, .ref q31, .ref q39, .ref q46, .ref q54, .ref q62, .ref q69, .ref q77, .ref q86, .ref q94, .int 0, .ref q102, .int 0, .ref q110, .int 0, .int 0, .int 0, .int 0, .null, .null, .null, .null, .null, .long 0])) :: ([] ++ [(q7, rowE cy.1 42)] ++ [(q15, rowE cy.1 7)] ++ [(q23, rowE cy.1 7)] ++ [(q31, rowE cy.1 7)] ++ [(q39, rowE cy.1 7)] ++ [(q46, rowE cy.1 3)] ++ [(q54, rowE cy.1 7)] ++ [(q62, rowE cy.1 7)] ++ [(q69, rowE cy.1 3)] ++ [(q77, rowE cy.1 7)] ++ [(q86, rowE cy.1 630)] ++ [(q94, rowE cy.1 90)] ++ [(q102, rowE cy.1 18)] ++ [(q110, rowE cy.1 7)])) H locs := st
  refine lv_aload_n K.1 K.2.1 dX7_init_115 rfl hl ?_
  refine lv_bipush (v := (7)) K.1 K.2.1 dX7_init_116 (by decide) ?_
  refine c_arrI (N := 7) K hA st (by decide) (by decide) (by decide) (Nat.le_of_ble_eq_true rfl) (Nat.le_of_ble_eq_true rfl) dX7_init_118 (fun q118 H st => ?_)
  refine c_put (C := RX7) (T := TX7) (N := 33) (k := 27) (ty := .array .int) K hin st rfl (by decide) (cwX7 _ (List.mem_of_getElem? (i := 15) rfl)) rfl rfl (by decide +kernel) rfl rfl rfl dX7_init_120 (fun H locs st => ?_)
  have st : cSt D A s.heap ((h, .inr (7, [.ref q7, .int 0, .int 0, .int 0, .int 0, .int 0, .int 0, .int 0, .ref q15, .ref q23, .ref q31, .ref q39, .ref q46, .ref q54, .ref q62, .ref q69, .ref q77, .ref q86, .ref q94, .int 0, .ref q102, .int 0, .ref q110, .int 0, .int 0, .int 0, .int 0, .ref q118, .null, .null, .null, .null, .long 0])) :: ([] ++ [(q7, rowE cy.1 42)] ++ [(q15, rowE cy.1 7)] ++ [(q23, rowE cy.1 7)] ++ [(q31, rowE cy.1 7)] ++ [(q39, rowE cy.1 7)] ++ [(q46, rowE cy.1 3)] ++ [(q54, rowE cy.1 7)] ++ [(q62, rowE cy.1 7)] ++ [(q69, rowE cy.1 3)] ++ [(q77, rowE cy.1 7)] ++ [(q86, rowE cy.1 630)] ++ [(q94, rowE cy.1 90)] ++ [(q102, rowE cy.1 18)] ++ [(q110, rowE cy.1 7)] ++ [(q118, rowE cy.1 7)])) H locs := st
  refine lv_aload_n K.1 K.2.1 dX7_init_123 rfl hl ?_
  refine lv_bipush (v := (7)) K.1 K.2.1 dX7_init_124 (by decide) ?_
  refine c_arrI (N := 7) K hA st (by decide) (by decide) (by decide) (Nat.le_of_ble_eq_true rfl) (Nat.le_of_ble_eq_true rfl) dX7_init_126 (fun q126 H st => ?_)
  refine c_put (C := RX7) (T := TX7) (N := 33) (k := 28) (ty := .array .int) K hin st rfl (by decide) (cwX7 _ (List.mem_of_getElem? (i := 16) rfl)) rfl rfl (by decide +kernel) rfl rfl rfl dX7_init_128 (fun H locs st => ?_)
  have st : cSt D A s.heap ((h, .inr (7, [.ref q7, .int 0, .int 0, .int 0, .int 0, .int 0, .int 0, .int 0, .ref q15, .ref q23, .ref q31, .ref q39, .ref q46, .ref q54, .ref q62, .ref q69, .ref q77, .ref q86, .ref q94, .int 0, .ref q102, .int 0, .ref q110, .int 0, .int 0, .int 0, .int 0, .ref q118, .ref q126, .null, .null, .null, .long 0])) :: ([] ++ [(q7, rowE cy.1 42)] ++ [(q15, rowE cy.1 7)] ++ [(q23, rowE cy.1 7)] ++ [(q31, rowE cy.1 7)] ++ [(q39, rowE cy.1 7)] ++ [(q46, rowE cy.1 3)] ++ [(q54, rowE cy.1 7)] ++ [(q62, rowE cy.1 7)] ++ [(q69, rowE cy.1 3)] ++ [(q77, rowE cy.1 7)] ++ [(q86, rowE cy.1 630)] ++ [(q94, rowE cy.1 90)] ++ [(q102, rowE cy.1 18)] ++ [(q110, rowE cy.1 7)] ++ [(q118, rowE cy.1 7)] ++ [(q126, rowE cy.1 7)])) H locs := st
  refine lv_aload_n K.1 K.2.1 dX7_init_131 rfl hl ?_
  refine lv_bipush (v := (7)) K.1 K.2.1 dX7_init_132 (by decide) ?_
  refine c_arrI (N := 7) K hA st (by decide) (by decide) (by decide) (Nat.le_of_ble_eq_true rfl) (Nat.le_of_ble_eq_true rfl) dX7_init_134 (fun q134 H st => ?_)
  refine c_put (C := RX7) (T := TX7) (N := 33) (k := 29) (ty := .array .int) K hin st rfl (by decide) (cwX7 _ (List.mem_of_getElem? (i := 17) rfl)) rfl rfl (by decide +kernel) rfl rfl rfl dX7_init_136 (fun H locs st => ?_)
  have st : cSt D A s.heap ((h, .inr (7, [.ref q7, .int 0, .int 0, .int 0, .int 0, .int 0, .int 0, .int 0, .ref q15, .ref q23, .ref q31, .ref q39, .ref q46, .ref q54, .ref q62, .ref q69, .ref q77, .ref q86, .ref q94, .int 0, .ref q102, .int 0, .ref q110, .int 0, .int 0, .int 0, .int 0, .ref q118, .ref q126, .ref q134, .null, .null, .long 0])) :: ([] ++ [(q7, rowE cy.1 42)] ++ [(q15, rowE cy.1 7)] ++ [(q23, rowE cy.1 7)] ++ [(q31, rowE cy.1 7)] ++ [(q39, rowE cy.1 7)] ++ [(q46, rowE cy.1 3)] ++ [(q54, rowE cy.1 7)] ++ [(q62, rowE cy.1 7)] ++ [(q69, rowE cy.1 3)] ++ [(q77, rowE cy.1 7)] ++ [(q86, rowE cy.1 630)] ++ [(q94, rowE cy.1 90)] ++ [(q102, rowE cy.1 18)] ++ [(q110, rowE cy.1 7)] ++ [(q118, rowE cy.1 7)] ++ [(q126, rowE cy.1 7)] ++ [(q134, rowE cy.1 7)])) H locs := st
  refine lv_aload_n K.1 K.2.1 dX7_init_139 rfl hl ?_
  refine lv_iconst (v := (3)) K.1 K.2.1 dX7_init_140 (by decide) ?_
  refine c_arrI (N := 3) K hA st (by decide) (by decide) (by decide) (Nat.le_of_ble_eq_true rfl) (Nat.le_of_ble_eq_true rfl) dX7_init_141 (fun q141 H st => ?_)
  refine c_put (C := RX7) (T := TX7) (N := 33) (k := 30) (ty := .array .int) K hin st rfl (by decide) (cwX7 _ (List.mem_of_getElem? (i := 18) rfl)) rfl rfl (by decide +kernel) rfl rfl rfl dX7_init_143 (fun H locs st => ?_)
  have st : cSt D A s.heap ((h, .inr (7, [.ref q7, .int 0, .int 0, .int 0, .int 0, .int 0, .int 0, .int 0, .ref q15, .ref q23, .ref q31, .ref q39, .ref q46, .ref q54, .ref q62, .ref q69, .ref q77, .ref q86, .ref q94, .int 0, .ref q102, .int 0, .ref q110, .int 0, .int 0, .int 0, .int 0, .ref q118, .ref q126, .ref q134, .ref q141, .null, .long 0])) :: ([] ++ [(q7, rowE cy.1 42)] ++ [(q15, rowE cy.1 7)] ++ [(q23, rowE cy.1 7)] ++ [(q31, rowE cy.1 7)] ++ [(q39, rowE cy.1 7)] ++ [(q46, rowE cy.1 3)] ++ [(q54, rowE cy.1 7)] ++ [(q62, rowE cy.1 7)] ++ [(q69, rowE cy.1 3)] ++ [(q77, rowE cy.1 7)] ++ [(q86, rowE cy.1 630)] ++ [(q94, rowE cy.1 90)] ++ [(q102, rowE cy.1 18)] ++ [(q110, rowE cy.1 7)] ++ [(q118, rowE cy.1 7)] ++ [(q126, rowE cy.1 7)] ++ [(q134, rowE cy.1 7)] ++ [(q141, rowE cy.1 3)])) H locs := st
  refine lv_aload_n K.1 K.2.1 dX7_init_146 rfl hl ?_
  refine lv_bipush (v := (18)) K.1 K.2.1 dX7_init_147 (by decide) ?_
  refine c_arrI (N := 18) K hA st (by decide) (by decide) (by decide) (Nat.le_of_ble_eq_true rfl) (Nat.le_of_ble_eq_true rfl) dX7_init_149 (fun q149 H st => ?_)
  refine c_put (C := RX7) (T := TX7) (N := 33) (k := 31) (ty := .array .int) K hin st rfl (by decide) (cwX7 _ (List.mem_of_getElem? (i := 19) rfl)) rfl rfl (by decide +kernel) rfl rfl rfl dX7_init_151 (fun H locs st => ?_)
  have st : cSt D A s.heap ((h, .inr (7, [.ref q7, .int 0, .int 0, .int 0, .int 0, .int 0, .int 0, .int 0, .ref q15, .ref q23, .ref q31, .ref q39, .ref q46, .ref q54, .ref q62, .ref q69, .ref q77, .ref q86, .ref q94, .int 0, .ref q102, .int 0, .ref q110, .int 0, .int 0, .int 0, .int 0, .ref q118, .ref q126, .ref q134, .ref q141, .ref q149, .long 0])) :: ([] ++ [(q7, rowE cy.1 42)] ++ [(q15, rowE cy.1 7)] ++ [(q23, rowE cy.1 7)] ++ [(q31, rowE cy.1 7)] ++ [(q39, rowE cy.1 7)] ++ [(q46, rowE cy.1 3)] ++ [(q54, rowE cy.1 7)] ++ [(q62, rowE cy.1 7)] ++ [(q69, rowE cy.1 3)] ++ [(q77, rowE cy.1 7)] ++ [(q86, rowE cy.1 630)] ++ [(q94, rowE cy.1 90)] ++ [(q102, rowE cy.1 18)] ++ [(q110, rowE cy.1 7)] ++ [(q118, rowE cy.1 7)] ++ [(q126, rowE cy.1 7)] ++ [(q134, rowE cy.1 7)] ++ [(q141, rowE cy.1 3)] ++ [(q149, rowE cy.1 18)])) H locs := st
  refine lv_aload_n K.1 K.2.1 dX7_init_154 rfl hl ?_
  refine lv_iconst (v := (-1)) K.1 K.2.1 dX7_init_155 (by decide) ?_
  refine c_put (C := RX7) (T := TX7) (N := 33) (k := 23) (ty := .int) K hin st rfl (by decide) (cwX7 _ (List.mem_of_getElem? (i := 20) rfl)) rfl rfl (by decide +kernel) rfl rfl rfl dX7_init_156 (fun H locs st => ?_)
  have st : cSt D A s.heap ((h, .inr (7, [.ref q7, .int 0, .int 0, .int 0, .int 0, .int 0, .int 0, .int 0, .ref q15, .ref q23, .ref q31, .ref q39, .ref q46, .ref q54, .ref q62, .ref q69, .ref q77, .ref q86, .ref q94, .int 0, .ref q102, .int 0, .ref q110, .int (-1), .int 0, .int 0, .int 0, .ref q118, .ref q126, .ref q134, .ref q141, .ref q149, .long 0])) :: ([] ++ [(q7, rowE cy.1 42)] ++ [(q15, rowE cy.1 7)] ++ [(q23, rowE cy.1 7)] ++ [(q31, rowE cy.1 7)] ++ [(q39, rowE cy.1 7)] ++ [(q46, rowE cy.1 3)] ++ [(q54, rowE cy.1 7)] ++ [(q62, rowE cy.1 7)] ++ [(q69, rowE cy.1 3)] ++ [(q77, rowE cy.1 7)] ++ [(q86, rowE cy.1 630)] ++ [(q94, rowE cy.1 90)] ++ [(q102, rowE cy.1 18)] ++ [(q110, rowE cy.1 7)] ++ [(q118, rowE cy.1 7)] ++ [(q126, rowE cy.1 7)] ++ [(q134, rowE cy.1 7)] ++ [(q141, rowE cy.1 3)] ++ [(q149, rowE cy.1 18)])) H locs := st
  exact fin 159 (q7, q15, q23, q31, q39, q46, q54, q62, q69, q77, q86, q94, q102, q110, q118, q126, q134, q141, q149) H locs dX7_init_159 st
def wX6 (cy : ClassId × ClassId × ClassId) (h : Nat) (u : Nat × Nat × Nat × Nat × Nat × Nat × Nat × Nat × Nat × Nat × Nat × Nat × Nat × Nat × Nat × Nat × Nat × Nat × Nat × Nat × Nat × Nat × Nat × Nat × Nat × Nat × Nat × Nat × Nat × Nat × Nat × Nat × Nat × Nat × Nat × Nat × Nat × Nat × Nat × Nat × Nat × Nat × Nat × Nat × Nat × Nat × Nat × Nat × Nat × Nat × Nat × Nat × Nat × Nat) : va_W := (h, .inr (6, [.ref u.1, .ref u.2.2.1, .ref u.2.2.2.2.2.2.2.2.2.1, .ref u.2.2.2.2.2.2.2.2.2.2.2.2.2.2.2.2.1, .ref u.2.2.2.2.2.2.2.2.2.2.2.2.2.2.2.2.2.2.2.2.2.2.2.1, .ref u.2.2.2.2.2.2.2.2.2.2.2.2.2.2.2.2.2.2.2.2.2.2.2.2.2.2.2.1, .ref u.2.2.2.2.2.2.2.2.2.2.2.2.2.2.2.2.2.2.2.2.2.2.2.2.2.2.2.2.2.2.2.1, .ref u.2.2.2.2.2.2.2.2.2.2.2.2.2.2.2.2.2.2.2.2.2.2.2.2.2.2.2.2.2.2.2.2.2.2.2.2.2.2.2.2.2.2.2.1, .ref u.2.2.2.2.2.2.2.2.2.2.2.2.2.2.2.2.2.2.2.2.2.2.2.2.2.2.2.2.2.2.2.2.2.2.2.2.2.2.2.2.2.2.2.2.2.2.2.2.2.2.2.2.2, .int 0, .int 0])) :: ([] ++ wX1 cy u.1 u.2.1 ++ wX2 cy u.2.2.1 (u.2.2.2.1, u.2.2.2.2.1, u.2.2.2.2.2.1, u.2.2.2.2.2.2.1, u.2.2.2.2.2.2.2.1, u.2.2.2.2.2.2.2.2.1) ++ wX2 cy u.2.2.2.2.2.2.2.2.2.1 (u.2.2.2.2.2.2.2.2.2.2.1, u.2.2.2.2.2.2.2.2.2.2.2.1, u.2.2.2.2.2.2.2.2.2.2.2.2.1, u.2.2.2.2.2.2.2.2.2.2.2.2.2.1, u.2.2.2.2.2.2.2.2.2.2.2.2.2.2.1, u.2.2.2.2.2.2.2.2.2.2.2.2.2.2.2.1) ++ wX2 cy u.2.2.2.2.2.2.2.2.2.2.2.2.2.2.2.2.1 (u.2.2.2.2.2.2.2.2.2.2.2.2.2.2.2.2.2.1, u.2.2.2.2.2.2.2.2.2.2.2.2.2.2.2.2.2.2.1, u.2.2.2.2.2.2.2.2.2.2.2.2.2.2.2.2.2.2.2.1, u.2.2.2.2.2.2.2.2.2.2.2.2.2.2.2.2.2.2.2.2.1, u.2.2.2.2.2.2.2.2.2.2.2.2.2.2.2.2.2.2.2.2.2.1, u.2.2.2.2.2.2.2.2.2.2.2.2.2.2.2.2.2.2.2.2.2.2.1) ++ wX4 cy u.2.2.2.2.2.2.2.2.2.2.2.2.2.2.2.2.2.2.2.2.2.2.2.1 (u.2.2.2.2.2.2.2.2.2.2.2.2.2.2.2.2.2.2.2.2.2.2.2.2.1, u.2.2.2.2.2.2.2.2.2.2.2.2.2.2.2.2.2.2.2.2.2.2.2.2.2.1, u.2.2.2.2.2.2.2.2.2.2.2.2.2.2.2.2.2.2.2.2.2.2.2.2.2.2.1) ++ wX4 cy u.2.2.2.2.2.2.2.2.2.2.2.2.2.2.2.2.2.2.2.2.2.2.2.2.2.2.2.1 (u.2.2.2.2.2.2.2.2.2.2.2.2.2.2.2.2.2.2.2.2.2.2.2.2.2.2.2.2.1, u.2.2.2.2.2.2.2.2.2.2.2.2.2.2.2.2.2.2.2.2.2.2.2.2.2.2.2.2.2.1, u.2.2.2.2.2.2.2.2.2.2.2.2.2.2.2.2.2.2.2.2.2.2.2.2.2.2.2.2.2.2.1) ++ wX3 cy u.2.2.2.2.2.2.2.2.2.2.2.2.2.2.2.2.2.2.2.2.2.2.2.2.2.2.2.2.2.2.2.1 (u.2.2.2.2.2.2.2.2.2.2.2.2.2.2.2.2.2.2.2.2.2.2.2.2.2.2.2.2.2.2.2.2.1, u.2.2.2.2.2.2.2.2.2.2.2.2.2.2.2.2.2.2.2.2.2.2.2.2.2.2.2.2.2.2.2.2.2.1, u.2.2.2.2.2.2.2.2.2.2.2.2.2.2.2.2.2.2.2.2.2.2.2.2.2.2.2.2.2.2.2.2.2.2.1, u.2.2.2.2.2.2.2.2.2.2.2.2.2.2.2.2.2.2.2.2.2.2.2.2.2.2.2.2.2.2.2.2.2.2.2.1, u.2.2.2.2.2.2.2.2.2.2.2.2.2.2.2.2.2.2.2.2.2.2.2.2.2.2.2.2.2.2.2.2.2.2.2.2.1, u.2.2.2.2.2.2.2.2.2.2.2.2.2.2.2.2.2.2.2.2.2.2.2.2.2.2.2.2.2.2.2.2.2.2.2.2.2.1, u.2.2.2.2.2.2.2.2.2.2.2.2.2.2.2.2.2.2.2.2.2.2.2.2.2.2.2.2.2.2.2.2.2.2.2.2.2.2.1, u.2.2.2.2.2.2.2.2.2.2.2.2.2.2.2.2.2.2.2.2.2.2.2.2.2.2.2.2.2.2.2.2.2.2.2.2.2.2.2.1, u.2.2.2.2.2.2.2.2.2.2.2.2.2.2.2.2.2.2.2.2.2.2.2.2.2.2.2.2.2.2.2.2.2.2.2.2.2.2.2.2.1, u.2.2.2.2.2.2.2.2.2.2.2.2.2.2.2.2.2.2.2.2.2.2.2.2.2.2.2.2.2.2.2.2.2.2.2.2.2.2.2.2.2.1, u.2.2.2.2.2.2.2.2.2.2.2.2.2.2.2.2.2.2.2.2.2.2.2.2.2.2.2.2.2.2.2.2.2.2.2.2.2.2.2.2.2.2.1) ++ wX0 cy u.2.2.2.2.2.2.2.2.2.2.2.2.2.2.2.2.2.2.2.2.2.2.2.2.2.2.2.2.2.2.2.2.2.2.2.2.2.2.2.2.2.2.2.1 (u.2.2.2.2.2.2.2.2.2.2.2.2.2.2.2.2.2.2.2.2.2.2.2.2.2.2.2.2.2.2.2.2.2.2.2.2.2.2.2.2.2.2.2.2.1, u.2.2.2.2.2.2.2.2.2.2.2.2.2.2.2.2.2.2.2.2.2.2.2.2.2.2.2.2.2.2.2.2.2.2.2.2.2.2.2.2.2.2.2.2.2.1, u.2.2.2.2.2.2.2.2.2.2.2.2.2.2.2.2.2.2.2.2.2.2.2.2.2.2.2.2.2.2.2.2.2.2.2.2.2.2.2.2.2.2.2.2.2.2.1, u.2.2.2.2.2.2.2.2.2.2.2.2.2.2.2.2.2.2.2.2.2.2.2.2.2.2.2.2.2.2.2.2.2.2.2.2.2.2.2.2.2.2.2.2.2.2.2.1, u.2.2.2.2.2.2.2.2.2.2.2.2.2.2.2.2.2.2.2.2.2.2.2.2.2.2.2.2.2.2.2.2.2.2.2.2.2.2.2.2.2.2.2.2.2.2.2.2.1, u.2.2.2.2.2.2.2.2.2.2.2.2.2.2.2.2.2.2.2.2.2.2.2.2.2.2.2.2.2.2.2.2.2.2.2.2.2.2.2.2.2.2.2.2.2.2.2.2.2.1, u.2.2.2.2.2.2.2.2.2.2.2.2.2.2.2.2.2.2.2.2.2.2.2.2.2.2.2.2.2.2.2.2.2.2.2.2.2.2.2.2.2.2.2.2.2.2.2.2.2.2.1, u.2.2.2.2.2.2.2.2.2.2.2.2.2.2.2.2.2.2.2.2.2.2.2.2.2.2.2.2.2.2.2.2.2.2.2.2.2.2.2.2.2.2.2.2.2.2.2.2.2.2.2.1, u.2.2.2.2.2.2.2.2.2.2.2.2.2.2.2.2.2.2.2.2.2.2.2.2.2.2.2.2.2.2.2.2.2.2.2.2.2.2.2.2.2.2.2.2.2.2.2.2.2.2.2.2.1) ++ wX5 cy u.2.2.2.2.2.2.2.2.2.2.2.2.2.2.2.2.2.2.2.2.2.2.2.2.2.2.2.2.2.2.2.2.2.2.2.2.2.2.2.2.2.2.2.2.2.2.2.2.2.2.2.2.2 ())
theorem cwX6 : ∀ x ∈ ([.methodLink RX6 3 objectInit, .classLink RX6 9 RX1, .instantiable RX1 2, .initialized RX1, .code yX1_init cX1_init 1 none, .instanceMethod yX1_init, .fieldLink RX6 12 RX6 "page" "LRiverLessons$Page;", .classLink RX6 16 RX2, .instantiable RX2 10, .initialized RX2, .code yX2_init cX2_init 1 none, .instanceMethod yX2_init, .fieldLink RX6 19 RX6 "now" "LRiverLessons$River;", .fieldLink RX6 23 RX6 "kept" "LRiverLessons$River;", .fieldLink RX6 26 RX6 "trial" "LRiverLessons$River;", .classLink RX6 29 RX4, .instantiable RX4 4, .initialized RX4, .code yX4_init cX4_init 1 none, .instanceMethod yX4_init, .fieldLink RX6 32 RX6 "seen" "LRiverLessons$Seen;", .fieldLink RX6 36 RX6 "keptSeen" "LRiverLessons$Seen;", .classLink RX6 39 RX3, .instantiable RX3 8, .initialized RX3, .code yX3_init cX3_init 1 none, .instanceMethod yX3_init, .fieldLink RX6 42 RX6 "search" "LRiverLessons$Search;", .classLink RX6 46 RX0, .instantiable RX0 4, .initialized RX0, .code yX0_init cX0_init 1 none, .instanceMethod yX0_init, .fieldLink RX6 49 RX6 "chances" "LRiverLessons$Odds;", .classLink RX6 53 RX5, .instantiable RX5 2, .initialized RX5, .code yX5_init cX5_init 1 none, .instanceMethod yX5_init, .fieldLink RX6 56 RX6 "laid" "LRiverLessons$Weirs;", .fieldLink RX6 60 RX6 "imageKept" "Z", .fieldLink RX6 64 RX6 "timesRead" "I"] : List Cond), x ∈ gW := by decide +kernel
theorem dfX6 : ∀ j, j < 11 → defaultValue (vw_ty 6 j) = vp_V [.null, .null, .null, .null, .null, .null, .null, .null, .null, .int 0, .int 0] j
  | 0, _ => rfl
  | 1, _ => rfl
  | 2, _ => rfl
  | 3, _ => rfl
  | 4, _ => rfl
  | 5, _ => rfl
  | 6, _ => rfl
  | 7, _ => rfl
  | 8, _ => rfl
  | 9, _ => rfl
  | 10, _ => rfl
  | j + 11, h => absurd h (by omega)
set_option maxHeartbeats 4000000 in
set_option maxRecDepth 100000 in
theorem k_X6 (l : Launch) : Ctor l yX6_init cX6_init 6 [.null, .null, .null, .null, .null, .null, .null, .null, .null, .int 0, .int 0] (Nat × Nat × Nat × Nat × Nat × Nat × Nat × Nat × Nat × Nat × Nat × Nat × Nat × Nat × Nat × Nat × Nat × Nat × Nat × Nat × Nat × Nat × Nat × Nat × Nat × Nat × Nat × Nat × Nat × Nat × Nat × Nat × Nat × Nat × Nat × Nat × Nat × Nat × Nat × Nat × Nat × Nat × Nat × Nat × Nat × Nat × Nat × Nat × Nat × Nat × Nat × Nat × Nat × Nat) wX6 2 32 54 1067 := by
  refine ctor_of (by decide) rfl ?_
  intro cy D h A p e R s m args below meth c Q ls hR K hin hA hl hsz fin st
  subst hR
  refine c_obj K hl hsz (cwX6 _ (List.mem_of_getElem? (i := 0) rfl)) dX6_init_0 dX6_init_1 (Nat.le_of_ble_eq_true rfl) (Nat.le_of_ble_eq_true rfl) ?_
  refine lv_aload_n K.1 K.2.1 dX6_init_4 rfl hl ?_
  refine c_mk (C := RX1) (T := TX1) (N := 2) (ci := 1) (fs := [.null, .int 0]) K hA st rfl (fun j hj => dfX1 j hj) ⟨(cwX6 _ (List.mem_of_getElem? (i := 1) rfl)), (cwX6 _ (List.mem_of_getElem? (i := 2) rfl)), (cwX6 _ (List.mem_of_getElem? (i := 3) rfl))⟩ (Nat.le_of_ble_eq_true rfl) (Nat.le_of_ble_eq_true rfl) dX6_init_5 dX6_init_8 (fun a5 H st => ?_)
  refine c_callN K hA (k_X1 l) st (by decide +kernel) ⟨(cwX6 _ (List.mem_of_getElem? (i := 4) rfl)), (cwX6 _ (List.mem_of_getElem? (i := 5) rfl)), (cwX6 _ (List.mem_of_getElem? (i := 3) rfl))⟩ rfl (by decide +kernel) hsz ⟨(Nat.le_of_ble_eq_true rfl), (Nat.le_of_ble_eq_true rfl)⟩ ⟨(Nat.le_of_ble_eq_true rfl), (Nat.le_of_ble_eq_true rfl)⟩ (Nat.le_of_ble_eq_true rfl) dX6_init_9 (fun u H locs st => ?_)
  obtain ⟨a5_0, rfl⟩ : ∃ z, z = u := ⟨u, rfl⟩
  refine c_put (C := RX6) (T := TX6) (N := 11) (k := 0) (ty := .object "RiverLessons$Page") K hin st rfl (by decide) (cwX6 _ (List.mem_of_getElem? (i := 6) rfl)) rfl rfl (by decide +kernel) rfl rfl rfl dX6_init_12 (fun H locs st => ?_)
  have st : cSt D A s.heap ((h, .inr (6, [.ref a5, .null, .null, .null, .null, .null, .null, .null, .null, .int 0, .int 0])) :: ([] ++ wX1 cy a5 a5_0)) H locs := st
  refine lv_aload_n K.1 K.2.1 dX6_init_15 rfl hl ?_
  refine c_mk (C := RX2) (T := TX2) (N := 10) (ci := 2) (fs := [.int 0, .int 0, .int 0, .int 0, .null, .null, .null, .null, .null, .null]) K hA st rfl (fun j hj => dfX2 j hj) ⟨(cwX6 _ (List.mem_of_getElem? (i := 7) rfl)), (cwX6 _ (List.mem_of_getElem? (i := 8) rfl)), (cwX6 _ (List.mem_of_getElem? (i := 9) rfl))⟩ (Nat.le_of_ble_eq_true rfl) (Nat.le_of_ble_eq_true rfl) dX6_init_16 dX6_init_19 (fun a16 H st => ?_)
  refine c_callN K hA (k_X2 l) st (by decide +kernel) ⟨(cwX6 _ (List.mem_of_getElem? (i := 10) rfl)), (cwX6 _ (List.mem_of_getElem? (i := 11) rfl)), (cwX6 _ (List.mem_of_getElem? (i := 9) rfl))⟩ rfl (by decide +kernel) hsz ⟨(Nat.le_of_ble_eq_true rfl), (Nat.le_of_ble_eq_true rfl)⟩ ⟨(Nat.le_of_ble_eq_true rfl), (Nat.le_of_ble_eq_true rfl)⟩ (Nat.le_of_ble_eq_true rfl) dX6_init_20 (fun u H locs st => ?_)
  obtain ⟨a16_0, a16_1, a16_2, a16_3, a16_4, a16_5⟩ := u
  refine c_put (C := RX6) (T := TX6) (N := 11) (k := 1) (ty := .object "RiverLessons$River") K hin st rfl (by decide) (cwX6 _ (List.mem_of_getElem? (i := 12) rfl)) rfl rfl (by decide +kernel) rfl rfl rfl dX6_init_23 (fun H locs st => ?_)
  have st : cSt D A s.heap ((h, .inr (6, [.ref a5, .ref a16, .null, .null, .null, .null, .null, .null, .null, .int 0, .int 0])) :: ([] ++ wX1 cy a5 a5_0 ++ wX2 cy a16 (a16_0, a16_1, a16_2, a16_3, a16_4, a16_5))) H locs := st
  refine lv_aload_n K.1 K.2.1 dX6_init_26 rfl hl ?_
  refine c_mk (C := RX2) (T := TX2) (N := 10) (ci := 2) (fs := [.int 0, .int 0, .int 0, .int 0, .null, .null, .null, .null, .null, .null]) K hA st rfl (fun j hj => dfX2 j hj) ⟨(cwX6 _ (List.mem_of_getElem? (i := 7) rfl)), (cwX6 _ (List.mem_of_getElem? (i := 8) rfl)), (cwX6 _ (List.mem_of_getElem? (i := 9) rfl))⟩ (Nat.le_of_ble_eq_true rfl) (Nat.le_of_ble_eq_true rfl) dX6_init_27 dX6_init_30 (fun a27 H st => ?_)
  refine c_callN K hA (k_X2 l) st (by decide +kernel) ⟨(cwX6 _ (List.mem_of_getElem? (i := 10) rfl)), (cwX6 _ (List.mem_of_getElem? (i := 11) rfl)), (cwX6 _ (List.mem_of_getElem? (i := 9) rfl))⟩ rfl (by decide +kernel) hsz ⟨(Nat.le_of_ble_eq_true rfl), (Nat.le_of_ble_eq_true rfl)⟩ ⟨(Nat.le_of_ble_eq_true rfl), (Nat.le_of_ble_eq_true rfl)⟩ (Nat.le_of_ble_eq_true rfl) dX6_init_31 (fun u H locs st => ?_)
  obtain ⟨a27_0, a27_1, a27_2, a27_3, a27_4, a27_5⟩ := u
  refine c_put (C := RX6) (T := TX6) (N := 11) (k := 2) (ty := .object "RiverLessons$River") K hin st rfl (by decide) (cwX6 _ (List.mem_of_getElem? (i := 13) rfl)) rfl rfl (by decide +kernel) rfl rfl rfl dX6_init_34 (fun H locs st => ?_)
  have st : cSt D A s.heap ((h, .inr (6, [.ref a5, .ref a16, .ref a27, .null, .null, .null, .null, .null, .null, .int 0, .int 0])) :: ([] ++ wX1 cy a5 a5_0 ++ wX2 cy a16 (a16_0, a16_1, a16_2, a16_3, a16_4, a16_5) ++ wX2 cy a27 (a27_0, a27_1, a27_2, a27_3, a27_4, a27_5))) H locs := st
  refine lv_aload_n K.1 K.2.1 dX6_init_37 rfl hl ?_
  refine c_mk (C := RX2) (T := TX2) (N := 10) (ci := 2) (fs := [.int 0, .int 0, .int 0, .int 0, .null, .null, .null, .null, .null, .null]) K hA st rfl (fun j hj => dfX2 j hj) ⟨(cwX6 _ (List.mem_of_getElem? (i := 7) rfl)), (cwX6 _ (List.mem_of_getElem? (i := 8) rfl)), (cwX6 _ (List.mem_of_getElem? (i := 9) rfl))⟩ (Nat.le_of_ble_eq_true rfl) (Nat.le_of_ble_eq_true rfl) dX6_init_38 dX6_init_41 (fun a38 H st => ?_)
  refine c_callN K hA (k_X2 l) st (by decide +kernel) ⟨(cwX6 _ (List.mem_of_getElem? (i := 10) rfl)), (cwX6 _ (List.mem_of_getElem? (i := 11) rfl)), (cwX6 _ (List.mem_of_getElem? (i := 9) rfl))⟩ rfl (by decide +kernel) hsz ⟨(Nat.le_of_ble_eq_true rfl), (Nat.le_of_ble_eq_true rfl)⟩ ⟨(Nat.le_of_ble_eq_true rfl), (Nat.le_of_ble_eq_true rfl)⟩ (Nat.le_of_ble_eq_true rfl) dX6_init_42 (fun u H locs st => ?_)
  obtain ⟨a38_0, a38_1, a38_2, a38_3, a38_4, a38_5⟩ := u
  refine c_put (C := RX6) (T := TX6) (N := 11) (k := 3) (ty := .object "RiverLessons$River") K hin st rfl (by decide) (cwX6 _ (List.mem_of_getElem? (i := 14) rfl)) rfl rfl (by decide +kernel) rfl rfl rfl dX6_init_45 (fun H locs st => ?_)
  have st : cSt D A s.heap ((h, .inr (6, [.ref a5, .ref a16, .ref a27, .ref a38, .null, .null, .null, .null, .null, .int 0, .int 0])) :: ([] ++ wX1 cy a5 a5_0 ++ wX2 cy a16 (a16_0, a16_1, a16_2, a16_3, a16_4, a16_5) ++ wX2 cy a27 (a27_0, a27_1, a27_2, a27_3, a27_4, a27_5) ++ wX2 cy a38 (a38_0, a38_1, a38_2, a38_3, a38_4, a38_5))) H locs := st
  refine lv_aload_n K.1 K.2.1 dX6_init_48 rfl hl ?_
  refine c_mk (C := RX4) (T := TX4) (N := 4) (ci := 4) (fs := [.int 0, .null, .null, .null]) K hA st rfl (fun j hj => dfX4 j hj) ⟨(cwX6 _ (List.mem_of_getElem? (i := 15) rfl)), (cwX6 _ (List.mem_of_getElem? (i := 16) rfl)), (cwX6 _ (List.mem_of_getElem? (i := 17) rfl))⟩ (Nat.le_of_ble_eq_true rfl) (Nat.le_of_ble_eq_true rfl) dX6_init_49 dX6_init_52 (fun a49 H st => ?_)
  refine c_callN K hA (k_X4 l) st (by decide +kernel) ⟨(cwX6 _ (List.mem_of_getElem? (i := 18) rfl)), (cwX6 _ (List.mem_of_getElem? (i := 19) rfl)), (cwX6 _ (List.mem_of_getElem? (i := 17) rfl))⟩ rfl (by decide +kernel) hsz ⟨(Nat.le_of_ble_eq_true rfl), (Nat.le_of_ble_eq_true rfl)⟩ ⟨(Nat.le_of_ble_eq_true rfl), (Nat.le_of_ble_eq_true rfl)⟩ (Nat.le_of_ble_eq_true rfl) dX6_init_53 (fun u H locs st => ?_)
  obtain ⟨a49_0, a49_1, a49_2⟩ := u
  refine c_put (C := RX6) (T := TX6) (N := 11) (k := 4) (ty := .object "RiverLessons$Seen") K hin st rfl (by decide) (cwX6 _ (List.mem_of_getElem? (i := 20) rfl)) rfl rfl (by decide +kernel) rfl rfl rfl dX6_init_56 (fun H locs st => ?_)
  have st : cSt D A s.heap ((h, .inr (6, [.ref a5, .ref a16, .ref a27, .ref a38, .ref a49, .null, .null, .null, .null, .int 0, .int 0])) :: ([] ++ wX1 cy a5 a5_0 ++ wX2 cy a16 (a16_0, a16_1, a16_2, a16_3, a16_4, a16_5) ++ wX2 cy a27 (a27_0, a27_1, a27_2, a27_3, a27_4, a27_5) ++ wX2 cy a38 (a38_0, a38_1, a38_2, a38_3, a38_4, a38_5) ++ wX4 cy a49 (a49_0, a49_1, a49_2))) H locs := st
  refine lv_aload_n K.1 K.2.1 dX6_init_59 rfl hl ?_
  refine c_mk (C := RX4) (T := TX4) (N := 4) (ci := 4) (fs := [.int 0, .null, .null, .null]) K hA st rfl (fun j hj => dfX4 j hj) ⟨(cwX6 _ (List.mem_of_getElem? (i := 15) rfl)), (cwX6 _ (List.mem_of_getElem? (i := 16) rfl)), (cwX6 _ (List.mem_of_getElem? (i := 17) rfl))⟩ (Nat.le_of_ble_eq_true rfl) (Nat.le_of_ble_eq_true rfl) dX6_init_60 dX6_init_63 (fun a60 H st => ?_)
  refine c_callN K hA (k_X4 l) st (by decide +kernel) ⟨(cwX6 _ (List.mem_of_getElem? (i := 18) rfl)), (cwX6 _ (List.mem_of_getElem? (i := 19) rfl)), (cwX6 _ (List.mem_of_getElem? (i := 17) rfl))⟩ rfl (by decide +kernel) hsz ⟨(Nat.le_of_ble_eq_true rfl), (Nat.le_of_ble_eq_true rfl)⟩ ⟨(Nat.le_of_ble_eq_true rfl), (Nat.le_of_ble_eq_true rfl)⟩ (Nat.le_of_ble_eq_true rfl) dX6_init_64 (fun u H locs st => ?_)
  obtain ⟨a60_0, a60_1, a60_2⟩ := u
  refine c_put (C := RX6) (T := TX6) (N := 11) (k := 5) (ty := .object "RiverLessons$Seen") K hin st rfl (by decide) (cwX6 _ (List.mem_of_getElem? (i := 21) rfl)) rfl rfl (by decide +kernel) rfl rfl rfl dX6_init_67 (fun H locs st => ?_)
  have st : cSt D A s.heap ((h, .inr (6, [.ref a5, .ref a16, .ref a27, .ref a38, .ref a49, .ref a60, .null, .null, .null, .int 0, .int 0])) :: ([] ++ wX1 cy a5 a5_0 ++ wX2 cy a16 (a16_0, a16_1, a16_2, a16_3, a16_4, a16_5) ++ wX2 cy a27 (a27_0, a27_1, a27_2, a27_3, a27_4, a27_5) ++ wX2 cy a38 (a38_0, a38_1, a38_2, a38_3, a38_4, a38_5) ++ wX4 cy a49 (a49_0, a49_1, a49_2) ++ wX4 cy a60 (a60_0, a60_1, a60_2))) H locs := st
  refine lv_aload_n K.1 K.2.1 dX6_init_70 rfl hl ?_
  refine c_mk (C := RX3) (T := TX3) (N := 8) (ci := 3) (fs := [.null, .null, .null, .null, .int 0, .int 0, .int 0, .int 0]) K hA st rfl (fun j hj => dfX3 j hj) ⟨(cwX6 _ (List.mem_of_getElem? (i := 22) rfl)), (cwX6 _ (List.mem_of_getElem? (i := 23) rfl)), (cwX6 _ (List.mem_of_getElem? (i := 24) rfl))⟩ (Nat.le_of_ble_eq_true rfl) (Nat.le_of_ble_eq_true rfl) dX6_init_71 dX6_init_74 (fun a71 H st => ?_)
  refine c_callN K hA (k_X3 l) st (by decide +kernel) ⟨(cwX6 _ (List.mem_of_getElem? (i := 25) rfl)), (cwX6 _ (List.mem_of_getElem? (i := 26) rfl)), (cwX6 _ (List.mem_of_getElem? (i := 24) rfl))⟩ rfl (by decide +kernel) hsz ⟨(Nat.le_of_ble_eq_true rfl), (Nat.le_of_ble_eq_true rfl)⟩ ⟨(Nat.le_of_ble_eq_true rfl), (Nat.le_of_ble_eq_true rfl)⟩ (Nat.le_of_ble_eq_true rfl) dX6_init_75 (fun u H locs st => ?_)
  obtain ⟨a71_0, a71_1, a71_2, a71_3, a71_4, a71_5, a71_6, a71_7, a71_8, a71_9, a71_10⟩ := u
  refine c_put (C := RX6) (T := TX6) (N := 11) (k := 6) (ty := .object "RiverLessons$Search") K hin st rfl (by decide) (cwX6 _ (List.mem_of_getElem? (i := 27) rfl)) rfl rfl (by decide +kernel) rfl rfl rfl dX6_init_78 (fun H locs st => ?_)
  have st : cSt D A s.heap ((h, .inr (6, [.ref a5, .ref a16, .ref a27, .ref a38, .ref a49, .ref a60, .ref a71, .null, .null, .int 0, .int 0])) :: ([] ++ wX1 cy a5 a5_0 ++ wX2 cy a16 (a16_0, a16_1, a16_2, a16_3, a16_4, a16_5) ++ wX2 cy a27 (a27_0, a27_1, a27_2, a27_3, a27_4, a27_5) ++ wX2 cy a38 (a38_0, a38_1, a38_2, a38_3, a38_4, a38_5) ++ wX4 cy a49 (a49_0, a49_1, a49_2) ++ wX4 cy a60 (a60_0, a60_1, a60_2) ++ wX3 cy a71 (a71_0, a71_1, a71_2, a71_3, a71_4, a71_5, a71_6, a71_7, a71_8, a71_9, a71_10))) H locs := st
  refine lv_aload_n K.1 K.2.1 dX6_init_81 rfl hl ?_
  refine c_mk (C := RX0) (T := TX0) (N := 4) (ci := 0) (fs := [.null, .null, .int 0, .int 0]) K hA st rfl (fun j hj => dfX0 j hj) ⟨(cwX6 _ (List.mem_of_getElem? (i := 28) rfl)), (cwX6 _ (List.mem_of_getElem? (i := 29) rfl)), (cwX6 _ (List.mem_of_getElem? (i := 30) rfl))⟩ (Nat.le_of_ble_eq_true rfl) (Nat.le_of_ble_eq_true rfl) dX6_init_82 dX6_init_85 (fun a82 H st => ?_)
  refine c_callN K hA (k_X0 l) st (by decide +kernel) ⟨(cwX6 _ (List.mem_of_getElem? (i := 31) rfl)), (cwX6 _ (List.mem_of_getElem? (i := 32) rfl)), (cwX6 _ (List.mem_of_getElem? (i := 30) rfl))⟩ rfl (by decide +kernel) hsz ⟨(Nat.le_of_ble_eq_true rfl), (Nat.le_of_ble_eq_true rfl)⟩ ⟨(Nat.le_of_ble_eq_true rfl), (Nat.le_of_ble_eq_true rfl)⟩ (Nat.le_of_ble_eq_true rfl) dX6_init_86 (fun u H locs st => ?_)
  obtain ⟨a82_0, a82_1, a82_2, a82_3, a82_4, a82_5, a82_6, a82_7, a82_8⟩ := u
  refine c_put (C := RX6) (T := TX6) (N := 11) (k := 7) (ty := .object "RiverLessons$Odds") K hin st rfl (by decide) (cwX6 _ (List.mem_of_getElem? (i := 33) rfl)) rfl rfl (by decide +kernel) rfl rfl rfl dX6_init_89 (fun H locs st => ?_)
  have st : cSt D A s.heap ((h, .inr (6, [.ref a5, .ref a16, .ref a27, .ref a38, .ref a49, .ref a60, .ref a71, .ref a82, .null, .int 0, .int 0])) :: ([] ++ wX1 cy a5 a5_0 ++ wX2 cy a16 (a16_0, a16_1, a16_2, a16_3, a16_4, a16_5) ++ wX2 cy a27 (a27_0, a27_1, a27_2, a27_3, a27_4, a27_5) ++ wX2 cy a38 (a38_0, a38_1, a38_2, a38_3, a38_4, a38_5) ++ wX4 cy a49 (a49_0, a49_1, a49_2) ++ wX4 cy a60 (a60_0, a60_1, a60_2) ++ wX3 cy a71 (a71_0, a71_1, a71_2, a71_3, a71_4, a71_5, a71_6, a71_7, a71_8, a71_9, a71_10) ++ wX0 cy a82 (a82_0, a82_1, a82_2, a82_3, a82_4, a82_5, a82_6, a82_7, a82_8))) H locs := st
  refine lv_aload_n K.1 K.2.1 dX6_init_92 rfl hl ?_
  refine c_mk (C := RX5) (T := TX5) (N := 2) (ci := 5) (fs := [.int 0, .int 0]) K hA st rfl (fun j hj => dfX5 j hj) ⟨(cwX6 _ (List.mem_of_getElem? (i := 34) rfl)), (cwX6 _ (List.mem_of_getElem? (i := 35) rfl)), (cwX6 _ (List.mem_of_getElem? (i := 36) rfl))⟩ (Nat.le_of_ble_eq_true rfl) (Nat.le_of_ble_eq_true rfl) dX6_init_93 dX6_init_96 (fun a93 H st => ?_)
  refine c_callN K hA (k_X5 l) st (by decide +kernel) ⟨(cwX6 _ (List.mem_of_getElem? (i := 37) rfl)), (cwX6 _ (List.mem_of_getElem? (i := 38) rfl)), (cwX6 _ (List.mem_of_getElem? (i := 36) rfl))⟩ rfl (by decide +kernel) hsz ⟨(Nat.le_of_ble_eq_true rfl), (Nat.le_of_ble_eq_true rfl)⟩ ⟨(Nat.le_of_ble_eq_true rfl), (Nat.le_of_ble_eq_true rfl)⟩ (Nat.le_of_ble_eq_true rfl) dX6_init_97 (fun u H locs st => ?_)
  refine c_put (C := RX6) (T := TX6) (N := 11) (k := 8) (ty := .object "RiverLessons$Weirs") K hin st rfl (by decide) (cwX6 _ (List.mem_of_getElem? (i := 39) rfl)) rfl rfl (by decide +kernel) rfl rfl rfl dX6_init_100 (fun H locs st => ?_)
  have st : cSt D A s.heap ((h, .inr (6, [.ref a5, .ref a16, .ref a27, .ref a38, .ref a49, .ref a60, .ref a71, .ref a82, .ref a93, .int 0, .int 0])) :: ([] ++ wX1 cy a5 a5_0 ++ wX2 cy a16 (a16_0, a16_1, a16_2, a16_3, a16_4, a16_5) ++ wX2 cy a27 (a27_0, a27_1, a27_2, a27_3, a27_4, a27_5) ++ wX2 cy a38 (a38_0, a38_1, a38_2, a38_3, a38_4, a38_5) ++ wX4 cy a49 (a49_0, a49_1, a49_2) ++ wX4 cy a60 (a60_0, a60_1, a60_2) ++ wX3 cy a71 (a71_0, a71_1, a71_2, a71_3, a71_4, a71_5, a71_6, a71_7, a71_8, a71_9, a71_10) ++ wX0 cy a82 (a82_0, a82_1, a82_2, a82_3, a82_4, a82_5, a82_6, a82_7, a82_8) ++ wX5 cy a93 ())) H locs := st
  refine lv_aload_n K.1 K.2.1 dX6_init_103 rfl hl ?_
  refine lv_iconst (v := (0)) K.1 K.2.1 dX6_init_104 (by decide) ?_
  refine c_put (C := RX6) (T := TX6) (N := 11) (k := 9) (ty := .boolean) K hin st rfl (by decide) (cwX6 _ (List.mem_of_getElem? (i := 40) rfl)) rfl rfl (by decide +kernel) rfl rfl rfl dX6_init_105 (fun H locs st => ?_)
  have st : cSt D A s.heap ((h, .inr (6, [.ref a5, .ref a16, .ref a27, .ref a38, .ref a49, .ref a60, .ref a71, .ref a82, .ref a93, .int 0, .int 0])) :: ([] ++ wX1 cy a5 a5_0 ++ wX2 cy a16 (a16_0, a16_1, a16_2, a16_3, a16_4, a16_5) ++ wX2 cy a27 (a27_0, a27_1, a27_2, a27_3, a27_4, a27_5) ++ wX2 cy a38 (a38_0, a38_1, a38_2, a38_3, a38_4, a38_5) ++ wX4 cy a49 (a49_0, a49_1, a49_2) ++ wX4 cy a60 (a60_0, a60_1, a60_2) ++ wX3 cy a71 (a71_0, a71_1, a71_2, a71_3, a71_4, a71_5, a71_6, a71_7, a71_8, a71_9, a71_10) ++ wX0 cy a82 (a82_0, a82_1, a82_2, a82_3, a82_4, a82_5, a82_6, a82_7, a82_8) ++ wX5 cy a93 ())) H locs := st
  refine lv_aload_n K.1 K.2.1 dX6_init_108 rfl hl ?_
  refine lv_iconst (v := (0)) K.1 K.2.1 dX6_init_109 (by decide) ?_
  refine c_put (C := RX6) (T := TX6) (N := 11) (k := 10) (ty := .int) K hin st rfl (by decide) (cwX6 _ (List.mem_of_getElem? (i := 41) rfl)) rfl rfl (by decide +kernel) rfl rfl rfl dX6_init_110 (fun H locs st => ?_)
  have st : cSt D A s.heap ((h, .inr (6, [.ref a5, .ref a16, .ref a27, .ref a38, .ref a49, .ref a60, .ref a71, .ref a82, .ref a93, .int 0, .int 0])) :: ([] ++ wX1 cy a5 a5_0 ++ wX2 cy a16 (a16_0, a16_1, a16_2, a16_3, a16_4, a16_5) ++ wX2 cy a27 (a27_0, a27_1, a27_2, a27_3, a27_4, a27_5) ++ wX2 cy a38 (a38_0, a38_1, a38_2, a38_3, a38_4, a38_5) ++ wX4 cy a49 (a49_0, a49_1, a49_2) ++ wX4 cy a60 (a60_0, a60_1, a60_2) ++ wX3 cy a71 (a71_0, a71_1, a71_2, a71_3, a71_4, a71_5, a71_6, a71_7, a71_8, a71_9, a71_10) ++ wX0 cy a82 (a82_0, a82_1, a82_2, a82_3, a82_4, a82_5, a82_6, a82_7, a82_8) ++ wX5 cy a93 ())) H locs := st
  exact fin 113 (a5, a5_0, a16, a16_0, a16_1, a16_2, a16_3, a16_4, a16_5, a27, a27_0, a27_1, a27_2, a27_3, a27_4, a27_5, a38, a38_0, a38_1, a38_2, a38_3, a38_4, a38_5, a49, a49_0, a49_1, a49_2, a60, a60_0, a60_1, a60_2, a71, a71_0, a71_1, a71_2, a71_3, a71_4, a71_5, a71_6, a71_7, a71_8, a71_9, a71_10, a82, a82_0, a82_1, a82_2, a82_3, a82_4, a82_5, a82_6, a82_7, a82_8, a93) H locs dX6_init_113 st
