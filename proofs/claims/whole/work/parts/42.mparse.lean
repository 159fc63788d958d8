/-! the reference: its state, and the page -/
def MsC (M : mM) (k sn : Nat) (sr sm sf : Nat → Nat) : Prop := ∀ i, i < sn → M.1 k (3 * i) = nI (sr i) ∧ M.1 k (3 * i + 1) = nI (sm i) ∧ M.1 k (3 * i + 2) = nI (sf i)
def MvC (M : mM) (n g : Nat) (k0 k1 k2 k4 : Nat) (K F Z At : Nat → Nat) : Prop := (∀ i, i < n → M.1 k0 i = nI (K i)) ∧ (∀ i, i < n → M.1 k1 i = nI (F i)) ∧ (∀ i, i < n → M.1 k2 i = nI (Z i)) ∧ ∀ i, i < g → M.1 k4 i = nI (At i)
def RelM (s : St) (M : mM) : Prop :=
  (M.1 55 1 = nI (s 1 0) ∧ ∀ i, i < s 1 0 → M.1 56 i = nI (s 0 i)) ∧
  (M.1 55 3 = nI (s 1 1) ∧ M.1 55 4 = nI (s 1 2) ∧ M.1 55 5 = nI (s 1 3) ∧ M.1 55 6 = nI (s 1 4) ∧ M.1 55 7 = nI (s 1 5) ∧ M.1 55 19 = nI (s 1 6) ∧ M.1 55 23 = iv (s 1 7)) ∧
  MvC M (s 1 1) (s 1 2) 57 58 59 61 (s 2) (s 3) (s 4) (s 6) ∧ (∀ i, i < s 1 1 → M.1 60 i = iv (s 5 i)) ∧
  MsC M 68 (s 1 6) (s 7) (s 8) (s 9) ∧
  (imgN s = 1 → (M.1 55 24 = nI (s 1 8) ∧ M.1 55 25 = nI (s 1 9) ∧ M.1 55 26 = nI (s 1 10)) ∧ MvC M (s 1 1) (s 1 2) 70 71 72 73 (s 10) (s 11) (s 12) (s 13) ∧ MsC M 74 (s 1 10) (s 14) (s 15) (s 16))
theorem MvC_o {M M1 : mM} {n g k0 k1 k2 k4 : Nat} {K F Z At : Nat → Nat} (h : MvC M n g k0 k1 k2 k4 K F Z At) (ho : ∀ a i, (a = k0 ∨ a = k1 ∨ a = k2 ∨ a = k4) → M1.1 a i = M.1 a i) : MvC M1 n g k0 k1 k2 k4 K F Z At :=
  ⟨fun i hi => (ho _ _ (by omega)).trans (h.1 i hi), fun i hi => (ho _ _ (by omega)).trans (h.2.1 i hi), fun i hi => (ho _ _ (by omega)).trans (h.2.2.1 i hi), fun i hi => (ho _ _ (by omega)).trans (h.2.2.2 i hi)⟩
theorem MsC_o {M M1 : mM} {k sn : Nat} {sr sm sf : Nat → Nat} (h : MsC M k sn sr sm sf) (ho : ∀ i, M1.1 k i = M.1 k i) : MsC M1 k sn sr sm sf :=
  fun i hi => ⟨(ho _).trans (h i hi).1, (ho _).trans (h i hi).2.1, (ho _).trans (h i hi).2.2⟩
/-- all that the state tells of lies as it did -/
theorem RelM_o {s : St} {M M1 : mM} (h : RelM s M) (ho : ∀ a i, ((a = 55 ∧ i ≠ 2 ∧ i ≠ 21) ∨ (56 ≤ a ∧ a ≤ 61) ∨ a = 68 ∨ (70 ≤ a ∧ a ≤ 74)) → M1.1 a i = M.1 a i) : RelM s M1 := by
  obtain ⟨⟨p1, p2⟩, ⟨a1, a2, a3, a4, a5, a6, a7⟩, v, r, sn, im⟩ := h
  exact ⟨⟨(ho _ _ (by omega)).trans p1, fun i hi => (ho _ _ (by omega)).trans (p2 i hi)⟩, ⟨(ho _ _ (by omega)).trans a1, (ho _ _ (by omega)).trans a2, (ho _ _ (by omega)).trans a3, (ho _ _ (by omega)).trans a4, (ho _ _ (by omega)).trans a5, (ho _ _ (by omega)).trans a6, (ho _ _ (by omega)).trans a7⟩, MvC_o v (fun a i h => ho a i (by omega)), fun i hi => (ho _ _ (by omega)).trans (r i hi), MsC_o sn (fun i => ho _ _ (by omega)), fun hi => ⟨⟨(ho _ _ (by omega)).trans (im hi).1.1, (ho _ _ (by omega)).trans (im hi).1.2.1, (ho _ _ (by omega)).trans (im hi).1.2.2⟩, MvC_o (im hi).2.1 (fun a i h => ho a i (by omega)), MsC_o (im hi).2.2 (fun i => ho _ _ (by omega))⟩⟩
/-- the class's cells are as they were -/
def frC (M M1 : mM) : Prop := ∀ a i, a < 55 → M1.1 a i = M.1 a i
theorem frC_refl (M : mM) : frC M M := fun _ _ _ => rfl
theorem frC_trans {M M1 M2 : mM} (h : frC M M1) (h2 : frC M1 M2) : frC M M2 := fun a i ha => (h2 a i ha).trans (h a i ha)
theorem frC_st {M M1 : mM} {k j : Nat} {v : Int32} (h : frC M M1) (hk : 55 ≤ k) : frC M (stM M1 k j v) := fun a i ha => (stM_ne _ _ (by omega)).trans (h a i ha)
theorem frC_wr {M M1 : mM} {k n : Nat} {f : Nat → Nat} (h : frC M M1) (hk : 55 ≤ k) : frC M (wrM M1 k n f) := fun a i ha => (wrM_o (by omega)).trans (h a i ha)
theorem frC_cr {M M1 : mM} {k0 k n : Nat} (h : frC M M1) (hk : 55 ≤ k) : frC M (crM M1 k0 k n) := fun a i ha => (crM_o (by omega)).trans (h a i ha)
theorem RelM_w {s : St} (hI : Inv s) {M : mM} (h : RelM s M) : MwC M (s 1 1) (s 2) (s 3) (s 5) := by
  obtain ⟨kb, fb, zb, rb, wb, ab⟩ := Inv_k hI
  exact ⟨h.2.1.1, (Inv_n hI).1, h.2.2.1.1, kb, h.2.2.1.2.1, fb, h.2.2.2.1, rb⟩
theorem lk_out0 : ∀ c, c < 200 → (c = 98 ∨ c = 109 ∨ c = 112 ∨ c = 114 ∨ c = 119) ∨ Op.lookupswitch.offset (#[(98, 53), (109, 55), (112, 59), (114, 51), (119, 57)] : Array (Int × Int)).toList 61 (nI c).toInt = 61 := by decide +kernel
theorem lk_out (c : Nat) (hc : c < 200) (h1 : c ≠ 98) (h2 : c ≠ 109) (h3 : c ≠ 112) (h4 : c ≠ 114) (h5 : c ≠ 119) : Op.lookupswitch.offset (#[(98, 53), (109, 55), (112, 59), (114, 51), (119, 57)] : Array (Int × Int)).toList 61 (nI c).toInt = 61 := by
  rcases lk_out0 c hc with h | h
  · omega
  · exact h
theorem inN_nI {c : Nat} {lo hi : Int} (h : c < 2 ^ 31) : inN (nI c) lo hi = if lo ≤ (c : Int) ∧ (c : Int) ≤ hi then 1 else 0 := by unfold inN; rw [nI_toInt h]
section
variable {X : (Nat → Int32) × Nat} {d : Nat} {Q : mM → Option Value → Prop} {M : mM} {s : St}
theorem c_Mo_kindBy {M : mM} {c : Nat} (hc : c < 200) (hQ : Q M (some (.int (iv (kndN c))))) : wp X (d + 1) n_Mo_kindBy Q 0 [.int (nI c)] [] M := by
  refine x_il0 f_Mo_kindBy_0 ?_
  by_cases h1 : c = 98
  · subst h1
    refine x_lookup (o := 53) (t := 54) f_Mo_kindBy_1 (by decide +kernel) rfl ?_
    refine x_iconst (v := (nI 1)) f_Mo_kindBy_54 rfl ?_
    refine x_ireturn f_Mo_kindBy_55 rfl ?_
    exact hQ
  by_cases h2 : c = 109
  · subst h2
    refine x_lookup (o := 55) (t := 56) f_Mo_kindBy_1 (by decide +kernel) rfl ?_
    refine x_iconst (v := (nI 2)) f_Mo_kindBy_56 rfl ?_
    refine x_ireturn f_Mo_kindBy_57 rfl ?_
    exact hQ
  by_cases h3 : c = 112
  · subst h3
    refine x_lookup (o := 59) (t := 60) f_Mo_kindBy_1 (by decide +kernel) rfl ?_
    refine x_iconst (v := (nI 4)) f_Mo_kindBy_60 rfl ?_
    refine x_ireturn f_Mo_kindBy_61 rfl ?_
    exact hQ
  by_cases h4 : c = 114
  · subst h4
    refine x_lookup (o := 51) (t := 52) f_Mo_kindBy_1 (by decide +kernel) rfl ?_
    refine x_iconst (v := (nI 0)) f_Mo_kindBy_52 rfl ?_
    refine x_ireturn f_Mo_kindBy_53 rfl ?_
    exact hQ
  by_cases h5 : c = 119
  · subst h5
    refine x_lookup (o := 57) (t := 58) f_Mo_kindBy_1 (by decide +kernel) rfl ?_
    refine x_iconst (v := (nI 3)) f_Mo_kindBy_58 rfl ?_
    refine x_ireturn f_Mo_kindBy_59 rfl ?_
    exact hQ
  refine x_lookup (o := 61) (t := 62) f_Mo_kindBy_1 (lk_out c hc h1 h2 h3 h4 h5) rfl ?_
  have e : kndN c = 0 := by unfold kndN; rw [if_neg h4, if_neg h1, if_neg h2, if_neg h5, if_neg h3]
  rw [e] at hQ
  refine x_iconst (v := (-1)) f_Mo_kindBy_62 rfl ?_
  refine x_ireturn f_Mo_kindBy_63 rfl ?_
  exact hQ
theorem c_Mo_isReachLetter {M : mM} {i c : Nat} (hi : i < 42) (hc : c < 200) (hC : M.1 56 i = nI c) (hQ : Q (if i % 5 = 4 ∧ c = 59 ∧ 5 < i then stM M 55 2 (nI i) else M) (some (.int (nI (rfit i c))))) : wp X (d + 2) n_Mo_isReachLetter Q 0 [.ref 55, .int (nI i), .null] [] M := by
  refine x_al0 f_Mo_isReachLetter_0 ?_
  refine x_getR f_Mo_isReachLetter_1 rfl rfl ?_
  refine x_il1 f_Mo_isReachLetter_4 ?_
  refine x_ialdV f_Mo_isReachLetter_5 rfl (by omega) (hC) ?_
  refine x_is2 f_Mo_isReachLetter_6 rfl ?_
  refine x_il1 f_Mo_isReachLetter_7 ?_
  refine x_iconst (v := (nI 5)) f_Mo_isReachLetter_8 rfl ?_
  refine x_iremN f_Mo_isReachLetter_9 (by omega) (by omega) (by omega) ?_
  have hm : i % 5 < 5 := Nat.mod_lt _ (by omega)
  rcases (show i % 5 = 0 ∨ i % 5 = 1 ∨ i % 5 = 2 ∨ i % 5 = 3 ∨ i % 5 = 4 by omega) with e | e | e | e | e
  · rw [if_neg (by omega)] at hQ
    rw [e]
    refine x_swIn (t := 40) f_Mo_isReachLetter_10 (by decide) (by decide) rfl ?_
    refine x_il2 f_Mo_isReachLetter_40 ?_
    refine x_cS1i f_Mo_isReachLetter_41 (by decide) (Nat.le_of_ble_eq_true rfl) (Nat.le_of_ble_eq_true rfl) rfl (c_Mo_kindBy hc ⟨_, rfl, ?_⟩)
    refine x_iconst (v := (-1)) f_Mo_isReachLetter_44 rfl ?_
    refine x_cmp_eq f_Mo_isReachLetter_45 (fun h => ?_) (fun h => ?_)
    · have h0 := (iv_eqm1 (by have := kndN_le c; omega)).mp h
      refine x_iconst (v := (nI 0)) f_Mo_isReachLetter_52 rfl ?_
      refine x_zreturn f_Mo_isReachLetter_53 rfl (by decide) ?_
      exact q_eq (by unfold rfit; rw [if_pos e, if_pos h0]) hQ
    · have h0 : kndN c ≠ 0 := fun z => h ((iv_eqm1 (by have := kndN_le c; omega)).mpr z)
      refine x_iconst (v := (nI 1)) f_Mo_isReachLetter_48 rfl ?_
      refine x_goto f_Mo_isReachLetter_49 ?_
      refine x_zreturn f_Mo_isReachLetter_53 rfl (by decide) ?_
      exact q_eq (by unfold rfit; rw [if_pos e, if_neg h0]) hQ
  · rw [if_neg (by omega)] at hQ
    rw [e]
    refine x_swIn (t := 54) f_Mo_isReachLetter_10 (by decide) (by decide) rfl ?_
    refine x_il2 f_Mo_isReachLetter_54 ?_
    refine x_i2l f_Mo_isReachLetter_55 ?_
    refine x_ldc2 (v := 49) f_Mo_isReachLetter_56 (by decide) ?_
    refine x_ldc2 (v := 57) f_Mo_isReachLetter_59 (by decide) ?_
    refine x_cS3i f_Mo_isReachLetter_62 (by decide) (Nat.le_of_ble_eq_true rfl) (Nat.le_of_ble_eq_true rfl) rfl (c_Mo_in (lo := 49) (hi := 57) (by decide) (by decide) ⟨_, rfl, ?_⟩)
    refine x_zreturn f_Mo_isReachLetter_65 rfl (z01 (inN_le _ _ _)) (q_eq ?_ hQ)
    rw [inN_nI (by omega)]
    unfold rfit
    rw [if_neg (by omega), if_pos e]
    (repeat' split) <;> omega
  · rw [if_neg (by omega)] at hQ
    rw [e]
    refine x_swIn (t := 66) f_Mo_isReachLetter_10 (by decide) (by decide) rfl ?_
    refine x_il2 f_Mo_isReachLetter_66 ?_
    refine x_i2l f_Mo_isReachLetter_67 ?_
    refine x_ldc2 (v := 48) f_Mo_isReachLetter_68 (by decide) ?_
    refine x_ldc2 (v := 57) f_Mo_isReachLetter_71 (by decide) ?_
    refine x_cS3i f_Mo_isReachLetter_74 (by decide) (Nat.le_of_ble_eq_true rfl) (Nat.le_of_ble_eq_true rfl) rfl (c_Mo_in (lo := 48) (hi := 57) (by decide) (by decide) ⟨_, rfl, ?_⟩)
    refine x_zreturn f_Mo_isReachLetter_77 rfl (z01 (inN_le _ _ _)) (q_eq ?_ hQ)
    rw [inN_nI (by omega)]
    unfold rfit
    rw [if_neg (by omega), if_neg (by omega), if_pos e]
    (repeat' split) <;> omega
  · rw [if_neg (by omega)] at hQ
    rw [e]
    have er : rfit i c = if c = 45 ∨ (48 ≤ c ∧ c < 48 + i / 5) then 1 else 0 := by
      unfold rfit
      rw [if_neg (by omega), if_neg (by omega), if_neg (by omega), if_pos e]
    rw [er] at hQ
    refine x_swIn (t := 78) f_Mo_isReachLetter_10 (by decide) (by decide) rfl ?_
    refine x_il2 f_Mo_isReachLetter_78 ?_
    refine x_bipush (v := (nI 45)) f_Mo_isReachLetter_79 rfl ?_
    refine x_cmp_eqN f_Mo_isReachLetter_81 (by omega) (by omega) (fun h => ?_) (fun h => ?_)
    · refine x_iconst (v := (nI 1)) f_Mo_isReachLetter_104 rfl ?_
      refine x_goto f_Mo_isReachLetter_105 ?_
      refine x_zreturn f_Mo_isReachLetter_109 rfl (by decide) ?_
      exact q_eq (by rw [if_pos (by omega)]) hQ
    · refine x_il2 f_Mo_isReachLetter_84 ?_
      refine x_i2l f_Mo_isReachLetter_85 ?_
      refine x_ldc2 (v := 48) f_Mo_isReachLetter_86 (by decide) ?_
      refine x_bipush (v := (nI 48)) f_Mo_isReachLetter_89 rfl ?_
      refine x_il1 f_Mo_isReachLetter_91 ?_
      refine x_iconst (v := (nI 5)) f_Mo_isReachLetter_92 rfl ?_
      refine x_idivN f_Mo_isReachLetter_93 (by omega) (by omega) (by omega) ?_
      first | refine x_iaddN f_Mo_isReachLetter_94 ?_ | refine x_iadd f_Mo_isReachLetter_94 ?_
      refine x_iconst (v := (nI 1)) f_Mo_isReachLetter_95 rfl ?_
      refine x_isubN f_Mo_isReachLetter_96 (by omega) ?_
      refine x_i2l f_Mo_isReachLetter_97 ?_
      refine x_cS3i f_Mo_isReachLetter_98 (by decide) (Nat.le_of_ble_eq_true rfl) (Nat.le_of_ble_eq_true rfl) rfl (c_Mo_in (lo := 48) (hi := ((48 + i / 5 - 1 : Nat) : Int)) (by decide) (by rw [Int32.toInt_toInt64, nI_toInt (by omega)]) ⟨_, rfl, ?_⟩)
      rw [inN_nI (by omega)]
      by_cases hh : (48 : Int) ≤ (c : Int) ∧ (c : Int) ≤ ((48 + i / 5 - 1 : Nat) : Int)
      · rw [if_pos hh]
        refine x_if_eqN f_Mo_isReachLetter_101 (by omega) (fun h => absurd h (by omega)) (fun _ => ?_)
        refine x_iconst (v := (nI 1)) f_Mo_isReachLetter_104 rfl ?_
        refine x_goto f_Mo_isReachLetter_105 ?_
        refine x_zreturn f_Mo_isReachLetter_109 rfl (by decide) ?_
        exact q_eq (by rw [if_pos (by omega)]) hQ
      · rw [if_neg hh]
        refine x_if_eqN f_Mo_isReachLetter_101 (by omega) (fun _ => ?_) (fun h => absurd h (by omega))
        refine x_iconst (v := (nI 0)) f_Mo_isReachLetter_108 rfl ?_
        refine x_zreturn f_Mo_isReachLetter_109 rfl (by decide) ?_
        exact q_eq (by rw [if_neg (by omega)]) hQ
  · rw [e]
    have er : rfit i c = if (c = 44 ∧ i / 5 + 1 < 7) ∨ (c = 59 ∧ 2 ≤ i / 5 + 1) then 1 else 0 := by
      unfold rfit
      rw [if_neg (by omega), if_neg (by omega), if_neg (by omega), if_neg (by omega)]
    rw [er] at hQ
    refine x_swOut (t := 110) f_Mo_isReachLetter_10 (by decide) rfl ?_
    refine x_il2 f_Mo_isReachLetter_110 ?_
    refine x_bipush (v := (nI 59)) f_Mo_isReachLetter_111 rfl ?_
    refine x_cmp_neN f_Mo_isReachLetter_113 (by omega) (by omega) (fun h => ?_) (fun h => ?_)
    · rw [if_neg (by omega)] at hQ
      refine x_il2 f_Mo_isReachLetter_128 ?_
      refine x_bipush (v := (nI 44)) f_Mo_isReachLetter_129 rfl ?_
      refine x_cmp_neN f_Mo_isReachLetter_131 (by omega) (by omega) (fun h1 => ?_) (fun h1 => ?_)
      · refine x_iconst (v := (nI 0)) f_Mo_isReachLetter_144 rfl ?_
        refine x_zreturn f_Mo_isReachLetter_145 rfl (by decide) ?_
        exact q_eq (by rw [if_neg (by omega)]) hQ
      · refine x_il1 f_Mo_isReachLetter_134 ?_
        refine x_bipush (v := (nI 34)) f_Mo_isReachLetter_135 rfl ?_
        refine x_cmp_geN f_Mo_isReachLetter_137 (by omega) (by omega) (fun h2 => ?_) (fun h2 => ?_)
        · refine x_iconst (v := (nI 0)) f_Mo_isReachLetter_144 rfl ?_
          refine x_zreturn f_Mo_isReachLetter_145 rfl (by decide) ?_
          exact q_eq (by rw [if_neg (by omega)]) hQ
        · refine x_iconst (v := (nI 1)) f_Mo_isReachLetter_140 rfl ?_
          refine x_goto f_Mo_isReachLetter_141 ?_
          refine x_zreturn f_Mo_isReachLetter_145 rfl (by decide) ?_
          exact q_eq (by rw [if_pos (by omega)]) hQ
    · refine x_il1 f_Mo_isReachLetter_116 ?_
      refine x_iconst (v := (nI 5)) f_Mo_isReachLetter_117 rfl ?_
      refine x_cmp_leN f_Mo_isReachLetter_118 (by omega) (by omega) (fun h1 => ?_) (fun h1 => ?_)
      · rw [if_neg (by omega)] at hQ
        refine x_il2 f_Mo_isReachLetter_128 ?_
        refine x_bipush (v := (nI 44)) f_Mo_isReachLetter_129 rfl ?_
        refine x_cmp_neN f_Mo_isReachLetter_131 (by omega) (by omega) (fun h2 => ?_) (fun h2 => absurd h2 (by omega))
        refine x_iconst (v := (nI 0)) f_Mo_isReachLetter_144 rfl ?_
        refine x_zreturn f_Mo_isReachLetter_145 rfl (by decide) ?_
        exact q_eq (by rw [if_neg (by omega)]) hQ
      · rw [if_pos ⟨e, h, h1⟩] at hQ
        refine x_al0 f_Mo_isReachLetter_121 ?_
        refine x_il1 f_Mo_isReachLetter_122 ?_
        refine x_putI f_Mo_isReachLetter_123 rfl rfl ?_
        refine x_iconst (v := (nI 1)) f_Mo_isReachLetter_126 rfl ?_
        refine x_zreturn f_Mo_isReachLetter_127 rfl (by decide) ?_
        exact q_eq (by rw [if_pos (by omega)]) hQ
theorem c_Mo_isGood {M : mM} {i e c : Nat} (hi : i < 42) (hc : c < 200) (hC : M.1 56 i = nI c) (hE : M.1 55 2 = nI (e - 1)) (he : e = 0 ∨ (10 ≤ e ∧ e ≤ i)) (hQ : Q (if e = 0 ∧ i % 5 = 4 ∧ c = 59 ∧ 5 < i then stM M 55 2 (nI i) else M) (some (.int (nI (fitN e i c))))) : wp X (d + 3) n_Mo_isGood Q 0 [.ref 55, .int (nI i), .null] [] M := by
  have hl := fitN_le e i c
  refine x_al0 f_Mo_isGood_0 ?_
  refine x_getIV f_Mo_isGood_1 rfl rfl (Or.inl rfl) (hE) ?_
  rcases he with rfl | ⟨he, he2⟩
  · refine x_if_neN f_Mo_isGood_4 (by omega) (fun h => absurd h (by omega)) (fun _ => ?_)
    have hl2 : rfit i c ≤ 1 := hl
    have hQ2 : Q (if i % 5 = 4 ∧ c = 59 ∧ 5 < i then stM M 55 2 (nI i) else M) (some (.int (nI (rfit i c)))) := by
      have h3 : (if 0 = 0 ∧ i % 5 = 4 ∧ c = 59 ∧ 5 < i then stM M 55 2 (nI i) else M) = if i % 5 = 4 ∧ c = 59 ∧ 5 < i then stM M 55 2 (nI i) else M := by
        by_cases h : i % 5 = 4 ∧ c = 59 ∧ 5 < i
        · rw [if_pos h, if_pos ⟨rfl, h⟩]
        · rw [if_neg h, if_neg (fun z => h z.2)]
      rw [h3] at hQ
      exact hQ
    refine x_al0 f_Mo_isGood_7 ?_
    refine x_il1 f_Mo_isGood_8 ?_
    refine x_cV1i f_Mo_isGood_9 rfl rfl (by decide) (Nat.le_of_ble_eq_true rfl) (Nat.le_of_ble_eq_true rfl) rfl (c_Mo_isReachLetter hi hc hC ⟨_, rfl, ?_⟩)
    exact x_zreturn f_Mo_isGood_12 rfl (z01 hl2) hQ2
  · rw [if_neg (by omega)] at hQ
    refine x_if_neN f_Mo_isGood_4 (by omega) (fun _ => ?_) (fun h => absurd h (by omega))
    have ef : fitN e i c = gfit (e - 1) (i - e) c := if_neg (by omega)
    rw [ef] at hQ hl
    unfold gfit at hQ hl
    refine x_il1 f_Mo_isGood_13 ?_
    refine x_al0 f_Mo_isGood_14 ?_
    refine x_getIV f_Mo_isGood_15 rfl rfl (Or.inl rfl) (hE) ?_
    refine x_isubN f_Mo_isGood_18 (by omega) ?_
    refine x_iconst (v := (nI 1)) f_Mo_isGood_19 rfl ?_
    refine x_isubN f_Mo_isGood_20 (by omega) ?_
    refine x_is2 f_Mo_isGood_21 rfl ?_
    refine x_il2 f_Mo_isGood_22 ?_
    refine x_iconst (v := (nI 2)) f_Mo_isGood_23 rfl ?_
    refine x_iremN f_Mo_isGood_24 (by omega) (by omega) (by omega) ?_
    refine x_if_neN f_Mo_isGood_25 (by omega) (fun h => ?_) (fun h => ?_)
    · rw [if_neg (by omega)] at hQ
      refine x_al0 f_Mo_isGood_58 ?_
      refine x_getR f_Mo_isGood_59 rfl rfl ?_
      refine x_il1 f_Mo_isGood_62 ?_
      refine x_ialdV f_Mo_isGood_63 rfl (by omega) (hC) ?_
      refine x_bipush (v := (nI 44)) f_Mo_isGood_64 rfl ?_
      refine x_cmp_neN f_Mo_isGood_66 (by omega) (by omega) (fun h1 => ?_) (fun h1 => ?_)
      · refine x_iconst (v := (nI 0)) f_Mo_isGood_78 rfl ?_
        refine x_zreturn f_Mo_isGood_79 rfl (by decide) ?_
        exact q_eq (by rw [if_neg (by omega)]) hQ
      · refine x_il2 f_Mo_isGood_69 ?_
        refine x_iconst (v := (nI 5)) f_Mo_isGood_70 rfl ?_
        refine x_cmp_geN f_Mo_isGood_71 (by omega) (by omega) (fun h2 => ?_) (fun h2 => ?_)
        · refine x_iconst (v := (nI 0)) f_Mo_isGood_78 rfl ?_
          refine x_zreturn f_Mo_isGood_79 rfl (by decide) ?_
          exact q_eq (by rw [if_neg (by omega)]) hQ
        · refine x_iconst (v := (nI 1)) f_Mo_isGood_74 rfl ?_
          refine x_goto f_Mo_isGood_75 ?_
          refine x_zreturn f_Mo_isGood_79 rfl (by decide) ?_
          exact q_eq (by rw [if_pos (by omega)]) hQ
    · rw [if_pos (by omega)] at hQ
      refine x_al0 f_Mo_isGood_28 ?_
      refine x_getR f_Mo_isGood_29 rfl rfl ?_
      refine x_il1 f_Mo_isGood_32 ?_
      refine x_ialdV f_Mo_isGood_33 rfl (by omega) (hC) ?_
      refine x_i2l f_Mo_isGood_34 ?_
      refine x_ldc2 (v := 48) f_Mo_isGood_35 (by decide) ?_
      refine x_bipush (v := (nI 48)) f_Mo_isGood_38 rfl ?_
      refine x_al0 f_Mo_isGood_40 ?_
      refine x_getIV f_Mo_isGood_41 rfl rfl (Or.inl rfl) (hE) ?_
      refine x_iconst (v := (nI 1)) f_Mo_isGood_44 rfl ?_
      first | refine x_iaddN f_Mo_isGood_45 ?_ | refine x_iadd f_Mo_isGood_45 ?_
      refine x_iconst (v := (nI 5)) f_Mo_isGood_46 rfl ?_
      refine x_idivN f_Mo_isGood_47 (by omega) (by omega) (by omega) ?_
      first | refine x_iaddN f_Mo_isGood_48 ?_ | refine x_iadd f_Mo_isGood_48 ?_
      refine x_iconst (v := (nI 1)) f_Mo_isGood_49 rfl ?_
      refine x_isubN f_Mo_isGood_50 (by omega) ?_
      refine x_i2l f_Mo_isGood_51 ?_
      refine x_cS3i f_Mo_isGood_52 (by decide) (Nat.le_of_ble_eq_true rfl) (Nat.le_of_ble_eq_true rfl) rfl (c_Mo_in (lo := 48) (hi := ((48 + (e - 1 + 1) / 5 - 1 : Nat) : Int)) (by decide) (by rw [Int32.toInt_toInt64, nI_toInt (by omega)]) ⟨_, rfl, ?_⟩)
      refine x_goto f_Mo_isGood_55 ?_
      refine x_zreturn f_Mo_isGood_79 rfl (z01 (inN_le _ _ _)) (q_eq ?_ hQ)
      rw [inN_nI (by omega)]
      (repeat' split) <;> omega
theorem l_Mo_faultOf {C : Nat → Nat} {pn : Nat} (hp : pn ≤ 42) (M0 : mM) (hS : M0.1 55 1 = nI pn) (hC : ∀ i, i < pn → M0.1 56 i = nI (C i)) (hCb : ∀ i, i < pn → C i < 200) (k i e : Nat) (M : mM) (ho : ∀ a j, (a ≠ 55 ∨ j ≠ 2) → M.1 a j = M0.1 a j) (hk : i + k = pn) (hE : M.1 55 2 = nI (e - 1)) (he : e = 0 ∨ (10 ≤ e ∧ e ≤ i)) (hQ : ∀ M1, (∀ a j, (a ≠ 55 ∨ j ≠ 2) → M1.1 a j = M0.1 a j) → M1.1 55 2 = nI ((ffn C k i e).2 - 1) → (ffn C k i e).2 = 0 ∨ (10 ≤ (ffn C k i e).2 ∧ (ffn C k i e).2 ≤ pn) → Q M1 (some (.int (nI (ffn C k i e).1)))) : wp X (d + 4) n_Mo_faultOf Q 7 [.ref 55, .int (nI i)] [] M := by
  refine x_il1 f_Mo_faultOf_7 ?_
  refine x_al0 f_Mo_faultOf_8 ?_
  refine x_getIV f_Mo_faultOf_9 rfl rfl (Or.inl rfl) ((ho _ _ (by omega)).trans hS) ?_
  match k, hk, hQ with
  | 0, hk, hQ =>
    refine x_cmp_geN f_Mo_faultOf_12 (by omega) (by omega) (fun _ => ?_) (fun h => absurd h (by omega))
    refine x_il1 f_Mo_faultOf_29 ?_
    refine x_ireturn f_Mo_faultOf_30 rfl ?_
    exact hQ M ho hE (by show e = 0 ∨ (10 ≤ e ∧ e ≤ pn); omega)
  | k + 1, hk, hQ =>
    refine x_cmp_geN f_Mo_faultOf_12 (by omega) (by omega) (fun h => absurd h (by omega)) (fun h => ?_)
    have hl := fitN_le e i (C i)
    have hcb := hCb i h
    have hf : ffn C (k + 1) i e = if fitN e i (C i) = 0 then (i, e) else ffn C k (i + 1) (if C i = 59 then i + 1 else e) := rfl
    rw [hf] at hQ
    refine x_al0 f_Mo_faultOf_15 ?_
    refine x_il1 f_Mo_faultOf_16 ?_
    refine x_cV1i f_Mo_faultOf_17 rfl rfl (by decide) (Nat.le_of_ble_eq_true rfl) (Nat.le_of_ble_eq_true rfl) rfl (c_Mo_isGood (by omega) hcb ((ho _ _ (by omega)).trans (hC i h)) hE he ⟨_, rfl, ?_⟩)
    refine x_if_eqN f_Mo_faultOf_20 (by omega) (fun h1 => ?_) (fun h1 => ?_)
    · rw [if_pos h1] at hQ
      have hn : ¬ (e = 0 ∧ i % 5 = 4 ∧ C i = 59 ∧ 5 < i) := fun z => by
        have h1 : fitN e i (C i) = 0 := h1
        unfold fitN at h1
        rw [if_pos z.1] at h1
        unfold rfit at h1
        rw [if_neg (by omega), if_neg (by omega), if_neg (by omega), if_neg (by omega), if_pos (by omega)] at h1
        omega
      rw [if_neg hn]
      refine x_il1 f_Mo_faultOf_29 ?_
      refine x_ireturn f_Mo_faultOf_30 rfl ?_
      exact hQ M ho hE (by show e = 0 ∨ (10 ≤ e ∧ e ≤ pn); omega)
    · rw [if_neg (by omega)] at hQ
      refine x_incN1 f_Mo_faultOf_23 rfl ?_
      refine x_goto f_Mo_faultOf_26 ?_
      by_cases h59 : C i = 59
      · rw [if_pos h59] at hQ
        have he0 : e = 0 := by
          rcases he with q | ⟨q1, q2⟩
          · exact q
          · exfalso
            have h2 : fitN e i (C i) ≠ 0 := by omega
            unfold fitN at h2
            rw [if_neg (by omega)] at h2
            exact gfit_ne59 (by omega) h2 h59
        have hr : rfit i 59 ≠ 0 := by
          have h2 : fitN e i (C i) ≠ 0 := by omega
          unfold fitN at h2
          rw [if_pos he0, h59] at h2
          exact h2
        have h3 := rfit_59 (by omega) hr
        rw [if_pos ⟨he0, h3.1, h59, by omega⟩]
        exact l_Mo_faultOf hp M0 hS hC hCb k (i + 1) (i + 1) _ (fun a j hh => (stM_ne _ _ (by omega)).trans (ho a j hh)) (by omega) (stM_at _ _ _ _) (by omega) hQ
      · rw [if_neg h59] at hQ
        rw [if_neg (fun z => h59 z.2.2.1)]
        exact l_Mo_faultOf hp M0 hS hC hCb k (i + 1) e M ho (by omega) hE (by omega) hQ
termination_by k
decreasing_by all_goals omega
theorem c_Mo_faultOf {M : mM} {C : Nat → Nat} {pn : Nat} (hp : pn ≤ 42) (hS : M.1 55 1 = nI pn) (hC : ∀ i, i < pn → M.1 56 i = nI (C i)) (hCb : ∀ i, i < pn → C i < 200) (hQ : ∀ M1, (∀ a j, (a ≠ 55 ∨ j ≠ 2) → M1.1 a j = M.1 a j) → M1.1 55 2 = nI ((ffn C pn 0 0).2 - 1) → (ffn C pn 0 0).2 = 0 ∨ (10 ≤ (ffn C pn 0 0).2 ∧ (ffn C pn 0 0).2 ≤ pn) → Q M1 (some (.int (nI (ffn C pn 0 0).1)))) : wp X (d + 4) n_Mo_faultOf Q 0 [.ref 55, .null] [] M := by
  refine x_al0 f_Mo_faultOf_0 ?_
  refine x_iconst (v := (nI 0)) f_Mo_faultOf_1 rfl ?_
  refine x_putI f_Mo_faultOf_2 rfl rfl ?_
  refine x_iconst (v := (nI 0)) f_Mo_faultOf_5 rfl ?_
  refine x_is1 f_Mo_faultOf_6 rfl ?_
  exact l_Mo_faultOf hp M hS hC hCb pn 0 0 _ (fun a j h => stM_ne _ _ (by omega)) (by omega) (stM_at _ _ _ _) (Or.inl rfl) hQ
theorem c_Mo_fault (hI : Inv s) (hR : RelM s M) (hQ : ∀ M1, RelM s M1 → frC M M1 → Q M1 (some (.int (nI (ffn (s 0) (s 1 0) 0 0).1)))) : wp X (d + 5) n_Mo_fault Q 0 [.ref 55] [] M := by
  refine x_al0 f_Mo_fault_0 ?_
  refine x_cV0i f_Mo_fault_1 rfl rfl (by decide) (Nat.le_of_ble_eq_true rfl) (Nat.le_of_ble_eq_true rfl) rfl (c_Mo_faultOf hI.1.1 hR.1.1 hR.1.2 (fun i hi => by have := hI.1.2 i hi; omega) (fun M1 ho _ _ => ⟨_, rfl, ?_⟩))
  refine x_ireturn f_Mo_fault_4 rfl ?_
  exact hQ M1 (RelM_o hR (fun a i h => ho a i (by omega))) (fun a i h => ho a i (by omega))
theorem c_Mo_letter {x : Int32} (hI : Inv s) (hR : RelM s M) (hQ : ∀ M1, RelM (ltS s x) M1 → frC M M1 → Q M1 (some (.int (ltA s x)))) : wp X (d + 2) n_Mo_letter Q 0 [.ref 55, .int x] [] M := by
  have hpn := hI.1.1
  have hS := hR.1.1
  unfold ltA ltS at hQ
  refine x_il1 f_Mo_letter_0 ?_
  refine x_i2l f_Mo_letter_1 ?_
  refine x_lconst (v := 1) f_Mo_letter_2 rfl ?_
  refine x_ldc2 (v := 126) f_Mo_letter_3 (by decide) ?_
  refine x_cS3i f_Mo_letter_6 (by decide) (Nat.le_of_ble_eq_true rfl) (Nat.le_of_ble_eq_true rfl) rfl (c_Mo_in (lo := 1) (hi := 126) (by decide) (by decide) ⟨_, rfl, ?_⟩)
  have e1 : x < nI 1 ↔ x.toInt < 1 := by rw [Int32.lt_iff_toInt_lt, nI_toInt (by omega)]; rfl
  have e2 : nI 126 < x ↔ 126 < x.toInt := by rw [Int32.lt_iff_toInt_lt, nI_toInt (by omega)]; rfl
  refine x_if_neN f_Mo_letter_9 (by have := inN_le x 1 126; omega) (fun h => ?_) (fun h => ?_)
  · have hb : 1 ≤ x.toInt ∧ x.toInt ≤ 126 := by
      unfold inN at h
      split at h
      · assumption
      · omega
    have h1 : ¬ x < nI 1 := fun z => by have := e1.mp z; omega
    have h2 : ¬ nI 126 < x := fun z => by have := e2.mp z; omega
    rw [if_neg h1, if_neg h1, if_neg h2, if_neg h2] at hQ
    refine x_al0 f_Mo_letter_15 ?_
    refine x_getIV f_Mo_letter_16 rfl rfl (Or.inl rfl) (hS) ?_
    refine x_bipush (v := (nI 42)) f_Mo_letter_19 rfl ?_
    refine x_cmp_neN f_Mo_letter_21 (by omega) (by omega) (fun h3 => ?_) (fun h3 => ?_)
    · rw [if_neg (by omega), if_neg (by omega)] at hQ
      obtain ⟨c, c1, c2, rfl⟩ := nI_back h1 h2
      rw [nI_clamp (by omega)] at hQ
      refine x_al0 f_Mo_letter_27 ?_
      refine x_getR f_Mo_letter_28 rfl rfl ?_
      refine x_al0 f_Mo_letter_31 ?_
      refine x_getIV f_Mo_letter_32 rfl rfl (Or.inl rfl) (hS) ?_
      refine x_il1 f_Mo_letter_35 ?_
      refine x_iastN f_Mo_letter_36 rfl (by omega) ?_
      refine x_al0 f_Mo_letter_37 ?_
      refine x_dup f_Mo_letter_38 rfl ?_
      refine x_getIV f_Mo_letter_39 rfl rfl (Or.inl rfl) ((stM_ne _ _ (by omega)).trans hS) ?_
      refine x_iconst (v := (nI 1)) f_Mo_letter_42 rfl ?_
      first | refine x_iaddN f_Mo_letter_43 ?_ | refine x_iadd f_Mo_letter_43 ?_
      refine x_putI f_Mo_letter_44 rfl rfl ?_
      refine x_al0 f_Mo_letter_47 ?_
      refine x_getIV f_Mo_letter_48 rfl rfl (Or.inl rfl) (stM_at _ _ _ _) ?_
      refine x_ireturn f_Mo_letter_51 rfl ?_
      refine hQ _ ?_ (frC_st (frC_st (frC_refl _) (by omega)) (by omega))
      have o : ∀ a i, a ≠ 56 → (a ≠ 55 ∨ i ≠ 1) → (stM (stM M 56 (s 1 0) (nI c)) 55 1 (nI (s 1 0 + 1))).1 a i = M.1 a i := fun a i p q => (stM_ne _ _ (by omega)).trans (stM_ne _ _ (by omega))
      obtain ⟨⟨p1, p2⟩, ⟨a1, a2, a3, a4, a5, a6, a7⟩, v, r, sn, im⟩ := hR
      refine ⟨⟨stM_at _ _ _ _, fun i hi => ?_⟩, ⟨(o _ _ (by omega) (by omega)).trans a1, (o _ _ (by omega) (by omega)).trans a2, (o _ _ (by omega) (by omega)).trans a3, (o _ _ (by omega) (by omega)).trans a4, (o _ _ (by omega) (by omega)).trans a5, (o _ _ (by omega) (by omega)).trans a6, (o _ _ (by omega) (by omega)).trans a7⟩, MvC_o v (fun a i h => o a i (by omega) (by omega)), fun i hi => (o _ _ (by omega) (by omega)).trans (r i hi), MsC_o sn (fun i => o _ _ (by omega) (by omega)), fun hi => ⟨⟨(o _ _ (by omega) (by omega)).trans (im hi).1.1, (o _ _ (by omega) (by omega)).trans (im hi).1.2.1, (o _ _ (by omega) (by omega)).trans (im hi).1.2.2⟩, MvC_o (im hi).2.1 (fun a i h => o a i (by omega) (by omega)), MsC_o (im hi).2.2 (fun i => o _ _ (by omega) (by omega))⟩⟩
      have hi : i < s 1 0 + 1 := hi
      show _ = nI (updN (s 0) (s 1 0) c i)
      rw [stM_ne _ _ (by omega), stM_def]
      unfold updN
      by_cases e : i = s 1 0
      · rw [if_pos ⟨rfl, e⟩, if_pos e]
      · rw [if_neg (fun z => e z.2), if_neg e]; exact p2 i (by omega)
    · rw [if_pos (by omega), if_pos (by omega)] at hQ
      refine x_bipush (v := (-104)) f_Mo_letter_24 rfl ?_
      refine x_ireturn f_Mo_letter_26 rfl ?_
      exact hQ M hR (frC_refl _)
  · refine x_bipush (v := (-102)) f_Mo_letter_12 rfl ?_
    refine x_ireturn f_Mo_letter_14 rfl ?_
    have hb : ¬ (1 ≤ x.toInt ∧ x.toInt ≤ 126) := fun z => by
      unfold inN at h
      rw [if_pos z] at h
      omega
    by_cases h1 : x < nI 1
    · rw [if_pos h1, if_pos h1] at hQ
      exact hQ M hR (frC_refl _)
    · have h2 : nI 126 < x := e2.mpr (by have : ¬ x.toInt < 1 := fun z => h1 (e1.mpr z); omega)
      rw [if_neg h1, if_neg h1, if_pos h2, if_pos h2] at hQ
      exact hQ M hR (frC_refl _)
theorem c_Mo_blank (hR : RelM s M) (hQ : ∀ M1, RelM (sus s 0 0) M1 → frC M M1 → Q M1 (some (.int (nI (s 1 0))))) : wp X (d + 1) n_Mo_blank Q 0 [.ref 55, .null] [] M := by
  refine x_al0 f_Mo_blank_0 ?_
  refine x_getIV f_Mo_blank_1 rfl rfl (Or.inl rfl) (hR.1.1) ?_
  refine x_is1 f_Mo_blank_4 rfl ?_
  refine x_al0 f_Mo_blank_5 ?_
  refine x_iconst (v := (nI 0)) f_Mo_blank_6 rfl ?_
  refine x_putI f_Mo_blank_7 rfl rfl ?_
  refine x_il1 f_Mo_blank_10 ?_
  refine x_ireturn f_Mo_blank_11 rfl ?_
  refine hQ _ ?_ (frC_st (frC_refl _) (by omega))
  have o : ∀ a i, (a ≠ 55 ∨ i ≠ 1) → (stM M 55 1 (nI 0)).1 a i = M.1 a i := fun a i q => stM_ne _ _ (by omega)
  obtain ⟨⟨p1, p2⟩, ⟨a1, a2, a3, a4, a5, a6, a7⟩, v, r, sn, im⟩ := hR
  exact ⟨⟨stM_at _ _ _ _, fun i hi => absurd hi (Nat.not_lt_zero i)⟩, ⟨(o _ _ (by omega)).trans a1, (o _ _ (by omega)).trans a2, (o _ _ (by omega)).trans a3, (o _ _ (by omega)).trans a4, (o _ _ (by omega)).trans a5, (o _ _ (by omega)).trans a6, (o _ _ (by omega)).trans a7⟩, MvC_o v (fun a i h => o a i (by omega)), fun i hi => (o _ _ (by omega)).trans (r i hi), MsC_o sn (fun i => o _ _ (by omega)), fun hi => ⟨⟨(o _ _ (by omega)).trans (im hi).1.1, (o _ _ (by omega)).trans (im hi).1.2.1, (o _ _ (by omega)).trans (im hi).1.2.2⟩, MvC_o (im hi).2.1 (fun a i h => o a i (by omega)), MsC_o (im hi).2.2 (fun i => o _ _ (by omega))⟩⟩
end
