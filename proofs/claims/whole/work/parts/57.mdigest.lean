/-! the reference: the digest -/
section
variable {X : (Nat → Int32) × Nat} {d : Nat} {Q : mM → Option Value → Prop} {M : mM} {s : St}
theorem foldN_s {α : Type} (f : Nat → α → α) (r : Nat) (a : α) : foldN f (r + 1) a = f r (foldN f r a) := rfl
/-- the state stands, the class's cells are as they were, and so much is said -/
def Said (s : St) (M0 M : mM) (h : Int64) : Prop := RelM s M ∧ frC M0 M ∧ M.2 = h
theorem Said_f {M0 M M1 : mM} {h : Int64} (hs : Said s M0 M h) (hR : RelM s M1) (hf : frH M M1) : Said s M0 M1 h := ⟨hR, frC_trans hs.2.1 hf.1, hf.2.trans hs.2.2⟩
theorem c_Mo_say {M0 M : mM} {h : Int64} {x : Int32} (hs : Said s M0 M h) (hQ : ∀ M1, Said s M0 M1 (mxL h x) → Q M1 none) : wp X (d + 1) n_Mo_say Q 0 [.ref 55, .long x.toInt64, .null] [] M := by
  refine x_al0 f_Mo_say_0 ?_
  refine x_ldc2 (v := 31) f_Mo_say_1 (by decide) ?_
  refine x_al0 f_Mo_say_4 ?_
  refine x_getL f_Mo_say_5 rfl rfl ?_
  refine x_lmul f_Mo_say_8 ?_
  refine x_ll1 f_Mo_say_9 ?_
  refine x_ladd f_Mo_say_10 ?_
  refine x_putL f_Mo_say_11 rfl rfl ?_
  refine x_return f_Mo_say_14 rfl ?_
  refine hQ _ ⟨hs.1, hs.2.1, ?_⟩
  show 31 * M.2 + x.toInt64 = mxL h x
  rw [hs.2.2]
  rfl
theorem c_Mo_sayGoverness {M0 M : mM} {h : Int64} {g : Nat} (hI : Inv s) (hg : g < s 1 2) (hs : Said s M0 M h) (hQ : ∀ M1, Said s M0 M1 (dg2 s g h) → Q M1 none) : wp X (d + 5) n_Mo_sayGoverness Q 0 [.ref 55, .int (nI g)] [] M := by
  have hg3 := (Inv_n hI).2.1
  refine x_al0 f_Mo_sayGoverness_0 ?_
  refine x_al0 f_Mo_sayGoverness_1 ?_
  refine x_getR f_Mo_sayGoverness_2 rfl rfl ?_
  refine x_il1 f_Mo_sayGoverness_5 ?_
  refine x_ialdV f_Mo_sayGoverness_6 rfl (by omega) (hs.1.2.2.1.2.2.2 g hg) ?_
  refine x_i2l f_Mo_sayGoverness_7 ?_
  refine x_cV1v f_Mo_sayGoverness_8 rfl rfl (by decide) (Nat.le_of_ble_eq_true rfl) (Nat.le_of_ble_eq_true rfl) rfl (c_Mo_say hs (fun M1 s1 => ⟨rfl, ?_⟩))
  refine x_al0 f_Mo_sayGoverness_11 ?_
  refine x_al0 f_Mo_sayGoverness_12 ?_
  refine x_il1 f_Mo_sayGoverness_13 ?_
  refine x_iconst (v := (nI 2)) f_Mo_sayGoverness_14 rfl ?_
  refine x_iconst (v := (nI 0)) f_Mo_sayGoverness_15 rfl ?_
  refine x_cV3i f_Mo_sayGoverness_16 rfl rfl (by decide) (Nat.le_of_ble_eq_true rfl) (Nat.le_of_ble_eq_true rfl) rfl (c_Mo_planOf hI s1.1 hg (by omega) (by omega) (fun M2 r2 f2 => ⟨_, rfl, ?_⟩))
  refine x_i2l f_Mo_sayGoverness_19 ?_
  refine x_cV1v f_Mo_sayGoverness_20 rfl rfl (by decide) (Nat.le_of_ble_eq_true rfl) (Nat.le_of_ble_eq_true rfl) rfl (c_Mo_say (Said_f s1 r2 f2) (fun M3 s3 => ⟨rfl, ?_⟩))
  refine x_al0 f_Mo_sayGoverness_23 ?_
  refine x_al0 f_Mo_sayGoverness_24 ?_
  refine x_il1 f_Mo_sayGoverness_25 ?_
  refine x_iconst (v := (nI 2)) f_Mo_sayGoverness_26 rfl ?_
  refine x_iconst (v := (nI 1)) f_Mo_sayGoverness_27 rfl ?_
  refine x_cV3i f_Mo_sayGoverness_28 rfl rfl (by decide) (Nat.le_of_ble_eq_true rfl) (Nat.le_of_ble_eq_true rfl) rfl (c_Mo_planOf hI s3.1 hg (by omega) (by omega) (fun M4 r4 f4 => ⟨_, rfl, ?_⟩))
  refine x_i2l f_Mo_sayGoverness_31 ?_
  refine x_cV1v f_Mo_sayGoverness_32 rfl rfl (by decide) (Nat.le_of_ble_eq_true rfl) (Nat.le_of_ble_eq_true rfl) rfl (c_Mo_say (Said_f s3 r4 f4) (fun M5 s5 => ⟨rfl, ?_⟩))
  refine x_al0 f_Mo_sayGoverness_35 ?_
  refine x_al0 f_Mo_sayGoverness_36 ?_
  refine x_il1 f_Mo_sayGoverness_37 ?_
  refine x_iconst (v := (nI 2)) f_Mo_sayGoverness_38 rfl ?_
  refine x_bipush (v := (nI 10)) f_Mo_sayGoverness_39 rfl ?_
  refine x_cV3i f_Mo_sayGoverness_41 rfl rfl (by decide) (Nat.le_of_ble_eq_true rfl) (Nat.le_of_ble_eq_true rfl) rfl (c_Mo_planOf hI s5.1 hg (by omega) (by omega) (fun M6 r6 f6 => ⟨_, rfl, ?_⟩))
  refine x_i2l f_Mo_sayGoverness_44 ?_
  refine x_cV1v f_Mo_sayGoverness_45 rfl rfl (by decide) (Nat.le_of_ble_eq_true rfl) (Nat.le_of_ble_eq_true rfl) rfl (c_Mo_say (Said_f s5 r6 f6) (fun M7 s7 => ⟨rfl, ?_⟩))
  refine x_al0 f_Mo_sayGoverness_48 ?_
  refine x_al0 f_Mo_sayGoverness_49 ?_
  refine x_il1 f_Mo_sayGoverness_50 ?_
  refine x_iconst (v := (nI 2)) f_Mo_sayGoverness_51 rfl ?_
  refine x_bipush (v := (nI 11)) f_Mo_sayGoverness_52 rfl ?_
  refine x_cV3i f_Mo_sayGoverness_54 rfl rfl (by decide) (Nat.le_of_ble_eq_true rfl) (Nat.le_of_ble_eq_true rfl) rfl (c_Mo_planOf hI s7.1 hg (by omega) (by omega) (fun M8 r8 f8 => ⟨_, rfl, ?_⟩))
  refine x_i2l f_Mo_sayGoverness_57 ?_
  refine x_cV1v f_Mo_sayGoverness_58 rfl rfl (by decide) (Nat.le_of_ble_eq_true rfl) (Nat.le_of_ble_eq_true rfl) rfl (c_Mo_say (Said_f s7 r8 f8) (fun M9 s9 => ⟨rfl, ?_⟩))
  refine x_return f_Mo_sayGoverness_61 rfl ?_
  exact hQ M9 s9
theorem c_Mo_sayRiver {M0 M : mM} {h : Int64} (hI : Inv s) (hn0 : 0 < s 1 1) (hs : Said s M0 M h) (hQ : ∀ M1, Said s M0 M1 (dg3 s h) → Q M1 none) : wp X (d + 6) n_Mo_sayRiver Q 0 [.ref 55] [] M := by
  refine x_al0 f_Mo_sayRiver_0 ?_
  refine x_al0 f_Mo_sayRiver_1 ?_
  refine x_iconst (v := (nI 0)) f_Mo_sayRiver_2 rfl ?_
  refine x_cV1i f_Mo_sayRiver_3 rfl rfl (by decide) (Nat.le_of_ble_eq_true rfl) (Nat.le_of_ble_eq_true rfl) rfl (c_Mo_placeOf hI hs.1 hn0 (by omega) (fun M1 r1 f1 => ⟨_, rfl, ?_⟩))
  refine x_i2l f_Mo_sayRiver_6 ?_
  refine x_cV1v f_Mo_sayRiver_7 rfl rfl (by decide) (Nat.le_of_ble_eq_true rfl) (Nat.le_of_ble_eq_true rfl) rfl (c_Mo_say (Said_f hs r1 f1) (fun M2 s2 => ⟨rfl, ?_⟩))
  refine x_al0 f_Mo_sayRiver_10 ?_
  refine x_al0 f_Mo_sayRiver_11 ?_
  refine x_iconst (v := (nI 1)) f_Mo_sayRiver_12 rfl ?_
  refine x_cV1i f_Mo_sayRiver_13 rfl rfl (by decide) (Nat.le_of_ble_eq_true rfl) (Nat.le_of_ble_eq_true rfl) rfl (c_Mo_placeOf hI s2.1 hn0 (by omega) (fun M3 r3 f3 => ⟨_, rfl, ?_⟩))
  refine x_i2l f_Mo_sayRiver_16 ?_
  refine x_cV1v f_Mo_sayRiver_17 rfl rfl (by decide) (Nat.le_of_ble_eq_true rfl) (Nat.le_of_ble_eq_true rfl) rfl (c_Mo_say (Said_f s2 r3 f3) (fun M4 s4 => ⟨rfl, ?_⟩))
  refine x_al0 f_Mo_sayRiver_20 ?_
  refine x_al0 f_Mo_sayRiver_21 ?_
  refine x_bipush (v := (nI 10)) f_Mo_sayRiver_22 rfl ?_
  refine x_cV1i f_Mo_sayRiver_24 rfl rfl (by decide) (Nat.le_of_ble_eq_true rfl) (Nat.le_of_ble_eq_true rfl) rfl (c_Mo_placeOf hI s4.1 hn0 (by omega) (fun M5 r5 f5 => ⟨_, rfl, ?_⟩))
  refine x_i2l f_Mo_sayRiver_27 ?_
  refine x_cV1v f_Mo_sayRiver_28 rfl rfl (by decide) (Nat.le_of_ble_eq_true rfl) (Nat.le_of_ble_eq_true rfl) rfl (c_Mo_say (Said_f s4 r5 f5) (fun M6 s6 => ⟨rfl, ?_⟩))
  refine x_al0 f_Mo_sayRiver_31 ?_
  refine x_al0 f_Mo_sayRiver_32 ?_
  refine x_bipush (v := (nI 11)) f_Mo_sayRiver_33 rfl ?_
  refine x_cV1i f_Mo_sayRiver_35 rfl rfl (by decide) (Nat.le_of_ble_eq_true rfl) (Nat.le_of_ble_eq_true rfl) rfl (c_Mo_placeOf hI s6.1 hn0 (by omega) (fun M7 r7 f7 => ⟨_, rfl, ?_⟩))
  refine x_i2l f_Mo_sayRiver_38 ?_
  refine x_cV1v f_Mo_sayRiver_39 rfl rfl (by decide) (Nat.le_of_ble_eq_true rfl) (Nat.le_of_ble_eq_true rfl) rfl (c_Mo_say (Said_f s6 r7 f7) (fun M8 s8 => ⟨rfl, ?_⟩))
  refine x_al0 f_Mo_sayRiver_42 ?_
  refine x_al0 f_Mo_sayRiver_43 ?_
  refine x_bipush (v := (nI 12)) f_Mo_sayRiver_44 rfl ?_
  refine x_cV1i f_Mo_sayRiver_46 rfl rfl (by decide) (Nat.le_of_ble_eq_true rfl) (Nat.le_of_ble_eq_true rfl) rfl (c_Mo_placeOf hI s8.1 hn0 (by omega) (fun M9 r9 f9 => ⟨_, rfl, ?_⟩))
  refine x_i2l f_Mo_sayRiver_49 ?_
  refine x_cV1v f_Mo_sayRiver_50 rfl rfl (by decide) (Nat.le_of_ble_eq_true rfl) (Nat.le_of_ble_eq_true rfl) rfl (c_Mo_say (Said_f s8 r9 f9) (fun M10 s10 => ⟨rfl, ?_⟩))
  refine x_al0 f_Mo_sayRiver_53 ?_
  refine x_al0 f_Mo_sayRiver_54 ?_
  refine x_iconst (v := (nI 0)) f_Mo_sayRiver_55 rfl ?_
  refine x_cV1i f_Mo_sayRiver_56 rfl rfl (by decide) (Nat.le_of_ble_eq_true rfl) (Nat.le_of_ble_eq_true rfl) rfl (c_Mo_weirsOf (w := 0) hI s10.1 (by omega) (fun M11 r11 f11 => ⟨_, rfl, ?_⟩))
  rw [if_pos rfl]
  refine x_i2l f_Mo_sayRiver_59 ?_
  refine x_cV1v f_Mo_sayRiver_60 rfl rfl (by decide) (Nat.le_of_ble_eq_true rfl) (Nat.le_of_ble_eq_true rfl) rfl (c_Mo_say (Said_f s10 r11 f11) (fun M12 s12 => ⟨rfl, ?_⟩))
  refine x_al0 f_Mo_sayRiver_63 ?_
  refine x_al0 f_Mo_sayRiver_64 ?_
  refine x_iconst (v := (nI 1)) f_Mo_sayRiver_65 rfl ?_
  refine x_cV1i f_Mo_sayRiver_66 rfl rfl (by decide) (Nat.le_of_ble_eq_true rfl) (Nat.le_of_ble_eq_true rfl) rfl (c_Mo_weirsOf (w := 1) hI s12.1 (by omega) (fun M13 r13 f13 => ⟨_, rfl, ?_⟩))
  rw [if_neg (by omega)]
  refine x_i2l f_Mo_sayRiver_69 ?_
  refine x_cV1v f_Mo_sayRiver_70 rfl rfl (by decide) (Nat.le_of_ble_eq_true rfl) (Nat.le_of_ble_eq_true rfl) rfl (c_Mo_say (Said_f s12 r13 f13) (fun M14 s14 => ⟨rfl, ?_⟩))
  refine x_return f_Mo_sayRiver_73 rfl ?_
  exact hQ M14 s14
theorem l_Mo_dg0 {j : Nat} {h0 : Int64} (hI : Inv s) (hj : j < s 1 1) (M0 : mM) (hQ : ∀ M1, Said s M0 M1 (foldN (dg0 s j) 13 h0) → wp X (d + 8) n_Mo_digest Q 42 [.ref 55, .int (nI j), .int (nI 13)] [] M1) (M : mM) (w : Nat) (hw : w ≤ 13) (hs : Said s M0 M (foldN (dg0 s j) w h0)) : wp X (d + 8) n_Mo_digest Q 19 [.ref 55, .int (nI j), .int (nI w)] [] M := by
  refine x_il2 f_Mo_digest_19 ?_
  refine x_bipush (v := (nI 13)) f_Mo_digest_20 rfl ?_
  refine x_cmp_geN f_Mo_digest_22 (by omega) (by omega) (fun h => ?_) (fun h => ?_)
  · have e : w = 13 := by omega
    subst e
    exact hQ M hs
  · refine x_al0 f_Mo_digest_25 ?_
    refine x_al0 f_Mo_digest_26 ?_
    refine x_il1 f_Mo_digest_27 ?_
    refine x_il2 f_Mo_digest_28 ?_
    refine x_cV2i f_Mo_digest_29 rfl rfl (by decide) (Nat.le_of_ble_eq_true rfl) (Nat.le_of_ble_eq_true rfl) rfl (c_Mo_tellReach hI hs.1 hj h (fun M1 r1 f1 => ⟨_, rfl, ?_⟩))
    refine x_i2l f_Mo_digest_32 ?_
    refine x_cV1v f_Mo_digest_33 rfl rfl (by decide) (Nat.le_of_ble_eq_true rfl) (Nat.le_of_ble_eq_true rfl) rfl (c_Mo_say (Said_f hs r1 f1) (fun M2 s2 => ⟨rfl, ?_⟩))
    refine x_incN2 f_Mo_digest_36 rfl ?_
    refine x_goto f_Mo_digest_39 ?_
    exact l_Mo_dg0 hI hj M0 hQ M2 (w + 1) (by omega) s2
termination_by 13 - w
decreasing_by all_goals omega
theorem l_Mo_dg1 {h0 : Int64} (hI : Inv s) (M0 : mM) (hQ : ∀ (M1 : mM) (v2 : Value), Said s M0 M1 (foldN (dg1 s) (s 1 1) h0) → wp X (d + 8) n_Mo_digest Q 70 [.ref 55, .int (nI (s 1 1)), v2] [] M1) (M : mM) (j : Nat) (hj : j ≤ s 1 1) (v2 : Value) (hs : Said s M0 M (foldN (dg1 s) j h0)) : wp X (d + 8) n_Mo_digest Q 9 [.ref 55, .int (nI j), v2] [] M := by
  have hn7 := (Inv_n hI).1
  refine x_il1 f_Mo_digest_9 ?_
  refine x_al0 f_Mo_digest_10 ?_
  refine x_getIV f_Mo_digest_11 rfl rfl (Or.inl rfl) (hs.1.2.1.1) ?_
  refine x_cmp_geN f_Mo_digest_14 (by omega) (by omega) (fun h => ?_) (fun h => ?_)
  · have e : j = s 1 1 := by omega
    subst e
    exact hQ M _ hs
  · refine x_iconst (v := (nI 0)) f_Mo_digest_17 rfl ?_
    refine x_is2 f_Mo_digest_18 rfl ?_
    refine l_Mo_dg0 hI h M0 (fun M1 s1 => ?_) M 0 (by omega) (by rw [foldN_0]; exact hs)
    refine x_al0 f_Mo_digest_42 ?_
    refine x_al0 f_Mo_digest_43 ?_
    refine x_il1 f_Mo_digest_44 ?_
    refine x_iconst (v := (nI 0)) f_Mo_digest_45 rfl ?_
    refine x_cV2i f_Mo_digest_46 rfl rfl (by decide) (Nat.le_of_ble_eq_true rfl) (Nat.le_of_ble_eq_true rfl) rfl (c_Mo_oddsOf hI s1.1 h (by omega) (fun M2 r2 f2 => ⟨_, rfl, ?_⟩))
    refine x_i2l f_Mo_digest_49 ?_
    refine x_cV1v f_Mo_digest_50 rfl rfl (by decide) (Nat.le_of_ble_eq_true rfl) (Nat.le_of_ble_eq_true rfl) rfl (c_Mo_say (Said_f s1 r2 f2) (fun M3 s3 => ⟨rfl, ?_⟩))
    refine x_al0 f_Mo_digest_53 ?_
    refine x_al0 f_Mo_digest_54 ?_
    refine x_il1 f_Mo_digest_55 ?_
    refine x_iconst (v := (nI 1)) f_Mo_digest_56 rfl ?_
    refine x_cV2i f_Mo_digest_57 rfl rfl (by decide) (Nat.le_of_ble_eq_true rfl) (Nat.le_of_ble_eq_true rfl) rfl (c_Mo_oddsOf hI s3.1 h (by omega) (fun M4 r4 f4 => ⟨_, rfl, ?_⟩))
    refine x_i2l f_Mo_digest_60 ?_
    refine x_cV1v f_Mo_digest_61 rfl rfl (by decide) (Nat.le_of_ble_eq_true rfl) (Nat.le_of_ble_eq_true rfl) rfl (c_Mo_say (Said_f s3 r4 f4) (fun M5 s5 => ⟨rfl, ?_⟩))
    refine x_incN1 f_Mo_digest_64 rfl ?_
    refine x_goto f_Mo_digest_67 ?_
    exact l_Mo_dg1 hI M0 hQ M5 (j + 1) (by omega) _ s5
termination_by s 1 1 - j
decreasing_by all_goals omega
theorem l_Mo_dg2 {h0 : Int64} {v2 : Value} (hI : Inv s) (M0 : mM) (hQ : ∀ M1, Said s M0 M1 (foldN (dg2 s) (s 1 2) h0) → wp X (d + 8) n_Mo_digest Q 91 [.ref 55, .int (nI (s 1 2)), v2] [] M1) (M : mM) (g : Nat) (hg : g ≤ s 1 2) (hs : Said s M0 M (foldN (dg2 s) g h0)) : wp X (d + 8) n_Mo_digest Q 72 [.ref 55, .int (nI g), v2] [] M := by
  have hg3 := (Inv_n hI).2.1
  refine x_il1 f_Mo_digest_72 ?_
  refine x_al0 f_Mo_digest_73 ?_
  refine x_getIV f_Mo_digest_74 rfl rfl (Or.inl rfl) (hs.1.2.1.2.1) ?_
  refine x_cmp_geN f_Mo_digest_77 (by omega) (by omega) (fun h => ?_) (fun h => ?_)
  · have e : g = s 1 2 := by omega
    subst e
    exact hQ M hs
  · refine x_al0 f_Mo_digest_80 ?_
    refine x_il1 f_Mo_digest_81 ?_
    refine x_cV1v f_Mo_digest_82 rfl rfl (by decide) (Nat.le_of_ble_eq_true rfl) (Nat.le_of_ble_eq_true rfl) rfl (c_Mo_sayGoverness hI h hs (fun M1 s1 => ⟨rfl, ?_⟩))
    refine x_incN1 f_Mo_digest_85 rfl ?_
    refine x_goto f_Mo_digest_88 ?_
    exact l_Mo_dg2 hI M0 hQ M1 (g + 1) (by omega) s1
termination_by s 1 2 - g
decreasing_by all_goals omega
theorem l_Mo_dg5 {h0 : Int64} {v2 : Value} (hI : Inv s) (M0 : mM) (hQ : ∀ M1, RelM s M1 → frC M0 M1 → Q M1 (some (.long (foldN (dg5 s) 11 h0)))) (M : mM) (w : Nat) (hw : w ≤ 11) (hs : Said s M0 M (foldN (dg5 s) w h0)) : wp X (d + 8) n_Mo_digest Q 131 [.ref 55, .int (nI w), v2] [] M := by
  refine x_il1 f_Mo_digest_131 ?_
  refine x_bipush (v := (nI 11)) f_Mo_digest_132 rfl ?_
  refine x_cmp_geN f_Mo_digest_134 (by omega) (by omega) (fun h => ?_) (fun h => ?_)
  · have e : w = 11 := by omega
    subst e
    refine x_al0 f_Mo_digest_153 ?_
    refine x_getL f_Mo_digest_154 rfl rfl ?_
    rw [hs.2.2]
    refine x_lreturn f_Mo_digest_157 rfl (hQ M hs.1 hs.2.1)
  · refine x_al0 f_Mo_digest_137 ?_
    refine x_al0 f_Mo_digest_138 ?_
    refine x_il1 f_Mo_digest_139 ?_
    refine x_cV1i f_Mo_digest_140 rfl rfl (by decide) (Nat.le_of_ble_eq_true rfl) (Nat.le_of_ble_eq_true rfl) rfl (c_Mo_countN hI hs.1 h (fun M1 r1 f1 => ⟨_, rfl, ?_⟩))
    refine x_i2l f_Mo_digest_143 ?_
    refine x_cV1v f_Mo_digest_144 rfl rfl (by decide) (Nat.le_of_ble_eq_true rfl) (Nat.le_of_ble_eq_true rfl) rfl (c_Mo_say (Said_f hs r1 f1) (fun M2 s2 => ⟨rfl, ?_⟩))
    refine x_incN1 f_Mo_digest_147 rfl ?_
    refine x_goto f_Mo_digest_150 ?_
    exact l_Mo_dg5 hI M0 hQ M2 (w + 1) (by omega) s2
termination_by 11 - w
decreasing_by all_goals omega
theorem l_Mo_dg4 {h0 : Int64} {v2 : Value} (hI : Inv s) (M0 : mM) (hQ : ∀ M1, RelM s M1 → frC M0 M1 → Q M1 (some (.long (foldN (dg5 s) 11 (foldN (dg4 s) (s 1 0) h0))))) (M : mM) (i : Nat) (hi : i ≤ s 1 0) (hs : Said s M0 M (foldN (dg4 s) i h0)) : wp X (d + 8) n_Mo_digest Q 104 [.ref 55, .int (nI i), v2] [] M := by
  have hp := hI.1.1
  refine x_il1 f_Mo_digest_104 ?_
  refine x_al0 f_Mo_digest_105 ?_
  refine x_getIV f_Mo_digest_106 rfl rfl (Or.inl rfl) (hs.1.1.1) ?_
  refine x_cmp_geN f_Mo_digest_109 (by omega) (by omega) (fun h => ?_) (fun h => ?_)
  · have e : i = s 1 0 := by omega
    subst e
    refine x_iconst (v := (nI 0)) f_Mo_digest_129 rfl ?_
    refine x_is1 f_Mo_digest_130 rfl ?_
    exact l_Mo_dg5 hI M0 hQ M 0 (by omega) (by rw [foldN_0]; exact hs)
  · refine x_al0 f_Mo_digest_112 ?_
    refine x_al0 f_Mo_digest_113 ?_
    refine x_getR f_Mo_digest_114 rfl rfl ?_
    refine x_il1 f_Mo_digest_117 ?_
    refine x_ialdV f_Mo_digest_118 rfl (by omega) (hs.1.1.2 i h) ?_
    refine x_i2l f_Mo_digest_119 ?_
    refine x_cV1v f_Mo_digest_120 rfl rfl (by decide) (Nat.le_of_ble_eq_true rfl) (Nat.le_of_ble_eq_true rfl) rfl (c_Mo_say hs (fun M2 s2 => ⟨rfl, ?_⟩))
    refine x_incN1 f_Mo_digest_123 rfl ?_
    refine x_goto f_Mo_digest_126 ?_
    exact l_Mo_dg4 hI M0 hQ M2 (i + 1) (by omega) s2
termination_by s 1 0 - i
decreasing_by all_goals omega
theorem c_Mo_digest {M : mM} (hI : Inv s) (hR : RelM s M) (hQ : ∀ M1, RelM s M1 → frC M M1 → Q M1 (some (.long (dgA s)))) : wp X (d + 8) n_Mo_digest Q 0 [.ref 55, .null, .null] [] M := by
  have hn7 := (Inv_n hI).1
  unfold dgA dgH at hQ
  refine x_al0 f_Mo_digest_0 ?_
  refine x_ldc2 (v := 1231) f_Mo_digest_1 (by decide) ?_
  refine x_putL f_Mo_digest_4 rfl rfl ?_
  refine x_iconst (v := (nI 0)) f_Mo_digest_7 rfl ?_
  refine x_is1 f_Mo_digest_8 rfl ?_
  refine l_Mo_dg1 (h0 := 1231) hI M (fun M1 v2 s1 => ?_) _ 0 (by omega) _ ⟨hR, frC_refl M, by rw [foldN_0]⟩
  refine x_iconst (v := (nI 0)) f_Mo_digest_70 rfl ?_
  refine x_is1 f_Mo_digest_71 rfl ?_
  refine l_Mo_dg2 (h0 := foldN (dg1 s) (s 1 1) 1231) hI M (fun M2 s2 => ?_) M1 0 (by omega) (by rw [foldN_0]; exact s1)
  refine x_al0 f_Mo_digest_91 ?_
  refine x_cV0i f_Mo_digest_92 rfl rfl (by decide) (Nat.le_of_ble_eq_true rfl) (Nat.le_of_ble_eq_true rfl) rfl (c_Mo_lacks hn7 s2.1.2.1.1 ⟨_, rfl, ?_⟩)
  by_cases h0 : s 1 1 = 0
  · rw [if_pos h0] at hQ ⊢
    refine x_if_neN f_Mo_digest_95 (by omega) (fun _ => ?_) (fun h => absurd h (by omega))
    refine x_iconst (v := (nI 0)) f_Mo_digest_102 rfl ?_
    refine x_is1 f_Mo_digest_103 rfl ?_
    exact l_Mo_dg4 (h0 := foldN (dg2 s) (s 1 2) (foldN (dg1 s) (s 1 1) 1231)) hI M hQ M2 0 (by omega) (by rw [foldN_0]; exact s2)
  · rw [if_neg h0] at hQ ⊢
    refine x_if_neN f_Mo_digest_95 (by omega) (fun h => absurd h (by omega)) (fun _ => ?_)
    refine x_al0 f_Mo_digest_98 ?_
    refine x_cV0v f_Mo_digest_99 rfl rfl (by decide) (Nat.le_of_ble_eq_true rfl) (Nat.le_of_ble_eq_true rfl) rfl (c_Mo_sayRiver hI (by omega) s2 (fun M3 s3 => ⟨rfl, ?_⟩))
    refine x_iconst (v := (nI 0)) f_Mo_digest_102 rfl ?_
    refine x_is1 f_Mo_digest_103 rfl ?_
    exact l_Mo_dg4 (h0 := dg3 s (foldN (dg2 s) (s 1 2) (foldN (dg1 s) (s 1 1) 1231))) hI M hQ M3 0 (by omega) (by rw [foldN_0]; exact s3)
end
