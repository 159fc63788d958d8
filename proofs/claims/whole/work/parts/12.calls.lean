/-! calls of the plain machine hold of the real one -/
def prY (q : Nat) : MethodName := match q with
  | 900 => Lib.Math.min.name
  | 901 => Lib.Math.max.name
  | 902 => arraycopyName
  | 903 => yJ0_length_8abf5
  | _ => yJ0_charAt_5068e
theorem prAll : ∀ e ∈ prT, Cond.methodLink (clN e.1) e.2.1 (prY e.2.2) ∈ gW := by decide +kernel
theorem ml_lt : ∀ e ∈ mlT, e.2.2.1 < 900 := by decide +kernel
theorem nl_lt : ∀ e ∈ nlT, e.2.2.1 < 900 := by decide +kernel
theorem fx_prS {mi pc nx ix q : Nat} {tl : List Nat} (h : fx mi pc = some (.invokestatic ix, nx, q :: tl)) (hq : 900 ≤ q) : Cond.methodLink (clN (mO mi)) ix (prY q) ∈ gW := by
  have h1 := fx_I h
  simp only [chkI, Bool.or_eq_true] at h1
  rcases h1 with h1 | h1
  · obtain ⟨⟨o, i, c, k, z⟩, he, hh⟩ := List.any_eq_true.mp h1
    simp only [Bool.and_eq_true, decide_eq_true_eq] at hh
    have ht := hh.2.2.1
    simp only [List.cons.injEq] at ht
    have h2 : c < 900 := by
      rcases List.mem_append.mp he with h | h
      · exact ml_lt _ h
      · exact nl_lt _ h
    omega
  · obtain ⟨⟨o, i, c⟩, he, hh⟩ := List.any_eq_true.mp h1
    simp only [Bool.and_eq_true, decide_eq_true_eq, List.head?_cons, Option.some.injEq] at hh
    have ho : o = mO mi := Nat.eq_of_beq_eq_true hh.1
    have hx : i = ix := Nat.eq_of_beq_eq_true hh.2.1
    have hc := hh.2.2
    subst ho; subst hx; subst hc
    exact prAll _ he
theorem fx_prV {mi pc nx ix q : Nat} {tl : List Nat} (h : fx mi pc = some (.invokevirtual ix, nx, q :: tl)) (hq : 900 ≤ q) : Cond.methodLink (clN (mO mi)) ix (prY q) ∈ gW := by
  have h1 := fx_I h
  simp only [chkI, Bool.or_eq_true] at h1
  rcases h1 with h1 | h1
  · obtain ⟨⟨o, i, c, k, z⟩, he, hh⟩ := List.any_eq_true.mp h1
    simp only [Bool.and_eq_true, decide_eq_true_eq] at hh
    have ht := hh.2.2.1
    simp only [List.cons.injEq] at ht
    have h2 : c < 900 := ml_lt _ he
    omega
  · obtain ⟨⟨o, i, c⟩, he, hh⟩ := List.any_eq_true.mp h1
    simp only [Bool.and_eq_true, decide_eq_true_eq, List.head?_cons, Option.some.injEq] at hh
    have ho : o = mO mi := Nat.eq_of_beq_eq_true hh.1
    have hx : i = ix := Nat.eq_of_beq_eq_true hh.2.1
    have hc := hh.2.2
    subst ho; subst hx; subst hc
    exact prAll _ he
theorem mLL_le : ∀ x ∈ mLL, x ≤ 21 := by decide +kernel
theorem mL_le (mj : Nat) : mL mj ≤ 21 := by
  unfold mL
  rcases Nat.lt_or_ge mj mLL.length with q | q
  · rw [List.getD_eq_getElem?_getD, List.getElem?_eq_getElem q]
    exact mLL_le _ (List.getElem_mem q)
  · rw [List.getD_eq_getElem?_getD, List.getElem?_eq_none q]
    simp
theorem cw_good {mj : Nat} (h : Cond.code (mY mj) (mC mj) (mL mj) (mR mj) ∈ gW) : GoodIn gW (mW mj) := fun x hx => by
  rcases List.mem_cons.mp hx with rfl | hx
  · exact gW_good _ h
  · exact gW_good _ hx
theorem sh_cl : ∀ k, k < nCells → (shp k).1 = 0 → (vwCl[(shp k).2.1]?).map (fun r => r.1) = some (clN (shp k).2.1) := by decide +kernel
theorem vw_cl {k ci : Nat} {cs : List Nat} (h : shp k = (0, ci, cs)) : ∃ r : vw_C, vwCl[ci]? = some r ∧ r.1 = clN ci := by
  have h1 := sh_cl k (shp_lt h (by omega)) (by rw [h])
  rw [h] at h1
  obtain ⟨r, h2, h3⟩ := Option.map_eq_some_iff.mp h1
  exact ⟨r, h2, h3⟩
theorem mStat_min : Cond.static Lib.Math.min.name ∈ gW ∧ Cond.initialized "java/lang/Math" ∈ gW ∧ Cond.code Lib.Math.min.name Lib.Math.min.code 2 (some .int) ∈ gW := by decide +kernel
theorem mStat_max : Cond.static Lib.Math.max.name ∈ gW ∧ Cond.code Lib.Math.max.name Lib.Math.max.code 2 (some .int) ∈ gW := by decide +kernel
theorem mStat_cpy : Cond.native arraycopyName ∈ gW ∧ Cond.static arraycopyName ∈ gW ∧ Cond.initialized "java/lang/System" ∈ gW := by decide +kernel
section SNC
variable {p : Program} {l : Launch} {e : Env} {R : Room} {s : State} {m : MethodId} {args : Array Value} {below : List Frame} {meth : Method} {c : Code} {cells slots : Nat} {Qw : State → Prop} {H : Heap} {locs : List Loc}
variable {X : (Nat → Int32) × Nat} {d mi : Nat} {Q : mM → Option Value → Prop} {cy : ClassId × ClassId × ClassId} {adr : Nat → Nat} {D : va_G}
theorem mcall {pc : Nat} {ls : Array Slot} {st0 rest : List Value} {a : Array Value} {Q1 : mM → Option Value → Prop} (hr : va_Run p l e R s m args below meth c H locs cells slots 0 0 (F0 m pc ls st0) rest (mPost cy adr D Q1 (mA adr H.size) a) (mA adr H.size)) (hS : va_S (mA adr s.heap.size) s.heap H locs)
    (kk : ∀ (r : Option Value) (M1 : mM) (H1 : Heap) (locs1 : List Loc), Q1 M1 r → va_P D vwCl (mWd cy adr M1) H1 → va_S (mA adr s.heap.size) s.heap H1 locs1 → W p l e R s m args below meth c H1 locs1 cells slots Qw (F0 m (pc + 3) ls ((r.map (cv adr)).toList ++ rest))) : W p l e R s m args below meth c H locs cells slots Qw (F0 m pc ls st0) := by
  intro T hT X
  obtain ⟨v, st₀, t, T', L, h0, X', hL, e1, e2, ⟨⟨r, M1, hv, hq, hp⟩, hz, hk⟩, st⟩ := hr T hT X
  cases hv
  rw [h0] at hz hk
  have hA : ∀ q, mA adr H.size q → mA adr s.heap.size q := mA_mono hS.1
  obtain ⟨t2, a1, b1⟩ := kk r M1 T'.heap (locs ++ L) hq (by rw [e1]; exact hp) ⟨Nat.le_trans hS.1 (by rw [e1]; exact hz), fun q h1 h2 => by rw [e1, hk q (Nat.lt_of_lt_of_le h1 hS.1) (fun z => h2 (hA q z))]; exact hS.2.1 q h1 h2, fun q hq => by
      rcases List.mem_append.mp hq with h | h
      · exact hS.2.2 q h
      · exact hA _ (hL q h)⟩ T' rfl X'
  exact ⟨t2, st t2 a1, b1⟩
theorem mblind {As : List Value} {M : mM} {sz : Nat} : FrameBlind (va_Pc (As.map (cv adr)) (mPre cy adr D M sz)) := fun a U g mk q => ⟨q.1, q.2.1, mEnv_calling g mk a q.2.2.1, q.2.2.2⟩
theorem mpre {As : List Value} {M : mM} (hE : mEnv cy adr D s) (hP : va_P D vwCl (mWd cy adr M) H) (hS : va_S (mA adr s.heap.size) s.heap H locs) : ∀ U : State, U.heap = H → s.WarmedH U.vm → va_Pc (As.map (cv adr)) (mPre cy adr D M H.size) (As.map (cv adr)).toArray U := fun U hU hW => ⟨rfl, by rw [hU], mEnv_moved hE hW hU hS.1 hS.2.1, by rw [hU]; exact hP⟩
theorem s_callV (K : mCx p R s m args c cells slots X d mi cy adr D) (IH : mMet l X d) : rl_callV (wp X d) mi (mSem p l e R s m args below meth c cells slots Qw mi cy adr D) := by
  obtain ⟨hx, hb, hml, hown, hts, hE, hok, hR, hX⟩ := K
  intro pc nx tg L S M ix mj na k ci cs As S0 Q1 hf hj hs ho hn hS0 hw he hC n0 H locs ls hl hP hS
  obtain ⟨hd, rfl⟩ := fx_dec hf rfl
  obtain ⟨⟨hcl, hm1, hm2, hpar, hini, hcode, hnl, hlt⟩, hlk, hin, hse⟩ := fx_virt hf hj
  subst hS0
  have hk := shp_lt hs (by omega)
  obtain ⟨r, hr1, hr2⟩ := vw_cl hs
  have Mt := IH cy adr D mj (.ref k :: As) M Q1 H.size hnl hlt hok he hC
  have hmL := mL_le mj
  have hcw : CallW R s args (clN (mO mi)) (mY mj).cls ix (mY mj) (mC mj) (mL mj) (mR mj) (mW mj) (rmD d) 0 0 na := ⟨callB_of na hts (cw_good hcode) rfl rfl rfl (hts _ hini) (hts _ hlk) ⟨hm1, hm2, hpar⟩ ⟨hR.1, by show 8 + (mL mj + 11) + (60 * d + 480) ≤ R.locals; omega⟩, hts _ hin, hts _ hse⟩
  have hrecv := va_recv hE.1 hP hr1 ((mWd_get hk).trans (by rw [mEn_obj hs]))
  rw [hr2, ← ho, ← hcl] at hrecv
  refine mcall (va_runV (As := As.map (cv adr)) (rest := S.map (cv adr)) (b := adr k) (nL := mL mi) ⟨hx, hb, hml, hown, hts⟩ Mt hcw ⟨mblind, hrecv, mpre (As := .ref k :: As) hE hP hS⟩ rfl (by rw [List.length_map]; exact hn) hl.2.1 (by simp [cv]) (lv_room (by rw [catS_map]; exact hw)) hd ⟨hR.2.2.1, hR.2.2.2⟩) hS (fun r2 M1 H1 locs1 hq hp hs1 => ?_)
  have h9 := n0 M1 r2 hq H1 locs1 ls hl hp hs1
  rw [List.map_append] at h9
  cases r2 <;> exact h9
theorem s_callS (K : mCx p R s m args c cells slots X d mi cy adr D) (IH : mMet l X d) : rl_callS (wp X d) mi (mSem p l e R s m args below meth c cells slots Qw mi cy adr D) := by
  obtain ⟨hx, hb, hml, hown, hts, hE, hok, hR, hX⟩ := K
  intro pc nx tg L S M ix mj na As S0 Q1 hf hj hn hS0 hw he hC n0 H locs ls hl hP hS
  obtain ⟨hd, rfl⟩ := fx_dec hf rfl
  obtain ⟨⟨hcl, hm1, hm2, hpar, hini, hcode, hnl, hlt⟩, hst, hlk⟩ := fx_stat hf hj
  subst hS0
  have Mt := IH cy adr D mj As M Q1 H.size hnl hlt hok he hC
  have hmL := mL_le mj
  have hroom : (rmD d).frames + 1 ≤ R.frames ∧ 8 + (mL mj + 11) + (rmD d).locals ≤ R.locals := ⟨hR.1, by show 8 + (mL mj + 11) + (60 * d + 480) ≤ R.locals; omega⟩
  have fin : ∀ (r2 : Option Value) (M1 : mM) (H1 : Heap) (locs1 : List Loc), Q1 M1 r2 → va_P D vwCl (mWd cy adr M1) H1 → va_S (mA adr s.heap.size) s.heap H1 locs1 → W p l e R s m args below meth c H1 locs1 cells slots Qw (F0 m (pc + 3) ls ((r2.map (cv adr)).toList ++ S.map (cv adr))) := fun r2 M1 H1 locs1 hq hp hs1 => by
    have h9 := n0 M1 r2 hq H1 locs1 ls hl hp hs1
    rw [List.map_append] at h9
    cases r2 <;> exact h9
  rcases hlk with hlk | ⟨q, hq⟩
  · have hcw : CallB R s args (clN (mO mi)) ix (mY mj) (mC mj) (mL mj) (mR mj) (mW mj) (rmD d) 0 0 na := callB_of na hts (cw_good hcode) rfl rfl rfl (hts _ hini) (hts _ hlk) ⟨hm1, hm2, hpar⟩ hroom
    exact mcall (va_runS (As := As.map (cv adr)) (rest := S.map (cv adr)) (nL := mL mi) ⟨hx, hb, hml, hown, hts⟩ Mt ⟨hcw, hts _ hst⟩ ⟨mblind, mpre hE hP hS⟩ rfl (by rw [List.length_map]; exact hn) hl.2.1 (by simp) (lv_room (by rw [catS_map]; exact hw)) hd ⟨hR.2.2.1, hR.2.2.2⟩) hS fin
  · have hnw := hE.2.1 _ (List.mem_map.mpr ⟨_, hq, rfl⟩)
    have hcw : va_CN R s args (clN (mO mi)) ix (mY mj) "RiverLessons" (mC mj) (mL mj) (mR mj) (mW mj) (rmD d) 0 0 na := va_cnB na hts (cw_good hcode) rfl rfl rfl hnw (hts _ hini) ⟨hm1, hm2, hpar⟩ hroom
    exact mcall (va_runSN (As := As.map (cv adr)) (rest := S.map (cv adr)) (nL := mL mi) ⟨hx, hb, hml, hown, hts⟩ Mt ⟨hcw, hts _ hst, trivial⟩ ⟨mblind, mpre hE hP hS⟩ rfl (by rw [List.length_map]; exact hn) hl.2.1 (by simp) (lv_room (by rw [catS_map]; exact hw)) hd ⟨hR.2.2.1, hR.2.2.2⟩) hS fin
theorem s_mmin (K : mCx p R s m args c cells slots X d mi cy adr D) : rl_mmin mi (mSem p l e R s m args below meth c cells slots Qw mi cy adr D) := by
  obtain ⟨hx, hb, hml, hown, hts, hE, hok, hR, hX⟩ := K
  intro pc nx tg L S M ix x y hf hw n0 H locs ls hl hP hS
  obtain ⟨hd, rfl⟩ := fx_dec hf rfl
  have hlk := fx_prS hf (by omega)
  exact va_mmin hx hb (hml.trans hl.2.1.symm) hown (hts _ hlk) (hts _ mStat_min.1) (hts _ mStat_min.2.1) (hts _ mStat_min.2.2) (by omega) (by rw [catS_map]; omega) hR.2.2.1 hR.2.2.2 hd (n0 H locs ls hl hP hS)
theorem s_mmax (K : mCx p R s m args c cells slots X d mi cy adr D) : rl_mmax mi (mSem p l e R s m args below meth c cells slots Qw mi cy adr D) := by
  obtain ⟨hx, hb, hml, hown, hts, hE, hok, hR, hX⟩ := K
  intro pc nx tg L S M ix x y hf hw n0 H locs ls hl hP hS
  obtain ⟨hd, rfl⟩ := fx_dec hf rfl
  have hlk := fx_prS hf (by omega)
  exact va_mmax hx hb (hml.trans hl.2.1.symm) hown (hts _ hlk) (hts _ mStat_max.1) (hts _ mStat_min.2.1) (hts _ mStat_max.2) (by omega) (by rw [catS_map]; omega) hR.2.2.1 hR.2.2.2 hd (n0 H locs ls hl hP hS)
theorem s_acopy (K : mCx p R s m args c cells slots X d mi cy adr D) : rl_acopy mi (mSem p l e R s m args below meth c cells slots Qw mi cy adr D) := by
  obtain ⟨hx, hb, hml, hown, hts, hE, hok, hR, hX⟩ := K
  intro pc nx tg L S M ix k0 k1 z0 z1 c0 c1 n dp sp hf hw hs0 hs1 h1 h2 h3 h4 h5 n0 H locs ls hl hP hS
  obtain ⟨hd, rfl⟩ := fx_dec hf rfl
  have hlk := fx_prS hf (by omega)
  have hk0 := shp_lt hs0 (by omega)
  have hk1 := shp_lt hs1 (by omega)
  have hn : nativeFrameWords "java/lang/System" "arraycopy" 5 = 7 := by decide
  refine va_copyi hx hb (hml.trans hl.2.1.symm) hown (hts _ hlk) (hts _ mStat_cpy.1) (hts _ mStat_cpy.2.1) (hts _ mStat_cpy.2.2) hE.1 hP (mWd_D hok) hS k0 k1 0 0 ((mWd_get hk0).trans (by rw [mEn_i hs0])) ((mWd_get hk1).trans (by rw [mEn_i hs1])) rfl rfl rfl h1 h2 h3 h4 h5 (fun _ _ => rfl) (by omega) (by rw [catS_map, hn]; omega) hd (fun H1 locs1 hP1 _ hS1 => ?_)
  rw [mWd_set (M' := cpM M k0 k1 sp.toNatClampNeg dp.toNatClampNeg n.toNatClampNeg) hk1 (by rw [mEn_i hs1, cpM_k]) (fun a _ ha => mEn_off (cpM_o M ha) rfl)] at hP1
  exact n0 H1 locs1 ls hl hP1 hS1
end SNC
