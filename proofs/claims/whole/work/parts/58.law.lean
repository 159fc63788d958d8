/-! the law -/
section
variable {X : (Nat → Int32) × Nat} {d : Nat} {Q : mM → Option Value → Prop} {M : mM} {s : St}
theorem x_sldN {pc nx j : Nat} {tg : List Nat} {L S : List Value} {M : mM} (hf : fx n_Law_law pc = some (.iaload, nx, tg)) (hj : j < X.2) (hX : X.2 < 2 ^ 30) (n0 : wp X (d + 1) n_Law_law Q nx L (.int (X.1 j) :: S) M) : wp X (d + 1) n_Law_law Q pc L (.int (nI j) :: .ref 1000 :: S) M := by
  refine x_sld hf rfl (vp_in_nI hj (by omega)) ?_
  rw [nI_clamp (by omega)]
  exact n0
theorem join_M {s : St} {M M1 : mM} (h : RelM s M) (hf : frM M M1 0 54) : RelM s M1 := RelM_o h (fun a i hh => hf.1 a i (by omega))
theorem join_C {s : St} {M M1 : mM} (h : RelC s M) (hf : frC M M1) : RelC s M1 := RelC_scr h (fun a i hh => hf a i (by omega))
theorem Inv_bl (h : Inv s) : Inv (sus s 0 0) := by
  obtain ⟨a1, a2⟩ := h
  exact ⟨⟨Nat.zero_le _, fun i hi => absurd hi (Nat.not_lt_zero i)⟩, a2⟩
theorem k_letter {i : Nat} (hX : X.2 < 2 ^ 30) (hi : i + 4 ≤ X.2) (h5 : s 1 5 + 1 < 100000) (hI : Inv s) (hC : RelC s M) (hM : RelM s M) (nxt : ∀ s2 M2, Inv s2 → RelC s2 M2 → RelM s2 M2 → s2 1 5 ≤ s 1 5 + 1 → wp X (d + 11) n_Law_law Q 736 [.ref 1000, .ref 0, .ref 55, .int (nI i)] [] M2) : wp X (d + 11) n_Law_law Q 140 [.ref 1000, .ref 0, .ref 55, .int (nI i)] [] M := by
  refine x_al1 f_Law_law_140 ?_
  refine x_al0 f_Law_law_141 ?_
  refine x_il3 f_Law_law_142 ?_
  refine x_iconst (v := (nI 1)) f_Law_law_143 rfl ?_
  first | refine x_iaddN f_Law_law_144 ?_ | refine x_iadd f_Law_law_144 ?_
  refine x_sldN f_Law_law_145 (by omega) hX ?_
  refine x_cV1i f_Law_law_146 rfl rfl (by decide) (Nat.le_of_ble_eq_true rfl) (Nat.le_of_ble_eq_true rfl) rfl (c_RL_letter hI hC (fun M1 c1 f1 => ⟨_, rfl, ?_⟩))
  refine x_al2 f_Law_law_149 ?_
  refine x_al0 f_Law_law_150 ?_
  refine x_il3 f_Law_law_151 ?_
  refine x_iconst (v := (nI 1)) f_Law_law_152 rfl ?_
  first | refine x_iaddN f_Law_law_153 ?_ | refine x_iadd f_Law_law_153 ?_
  refine x_sldN f_Law_law_154 (by omega) hX ?_
  refine x_cV1i f_Law_law_155 rfl rfl (by decide) (Nat.le_of_ble_eq_true rfl) (Nat.le_of_ble_eq_true rfl) rfl (c_Mo_letter hI (join_M hM f1) (fun M2 r2 f2 => ⟨_, rfl, ?_⟩))
  refine x_cmp_eq f_Law_law_158 (fun _ => ?_) (fun z => absurd rfl z)
  refine nxt _ M2 (Inv_lt hI) (join_C c1 f2) r2 ?_
  unfold ltS
  (repeat' split) <;> first | exact Nat.le_succ _ | exact Nat.le_refl _
theorem k_blank {i : Nat} (hX : X.2 < 2 ^ 30) (hi : i + 4 ≤ X.2) (h5 : s 1 5 + 1 < 100000) (hI : Inv s) (hC : RelC s M) (hM : RelM s M) (nxt : ∀ s2 M2, Inv s2 → RelC s2 M2 → RelM s2 M2 → s2 1 5 ≤ s 1 5 + 1 → wp X (d + 11) n_Law_law Q 736 [.ref 1000, .ref 0, .ref 55, .int (nI i)] [] M2) : wp X (d + 11) n_Law_law Q 163 [.ref 1000, .ref 0, .ref 55, .int (nI i)] [] M := by
  refine x_al1 f_Law_law_163 ?_
  refine x_cV0i f_Law_law_164 rfl rfl (by decide) (Nat.le_of_ble_eq_true rfl) (Nat.le_of_ble_eq_true rfl) rfl (c_RL_blank hC (fun M1 c1 f1 => ⟨_, rfl, ?_⟩))
  refine x_al2 f_Law_law_167 ?_
  refine x_cV0i f_Law_law_168 rfl rfl (by decide) (Nat.le_of_ble_eq_true rfl) (Nat.le_of_ble_eq_true rfl) rfl (c_Mo_blank (join_M hM f1) (fun M2 r2 f2 => ⟨_, rfl, ?_⟩))
  refine x_cmp_eq f_Law_law_171 (fun _ => ?_) (fun z => absurd rfl z)
  refine nxt _ M2 (Inv_bl hI) (join_C c1 f2) r2 ?_
  exact Nat.le_succ _
theorem k_fault {i : Nat} (hX : X.2 < 2 ^ 30) (hi : i + 4 ≤ X.2) (h5 : s 1 5 + 1 < 100000) (hI : Inv s) (hC : RelC s M) (hM : RelM s M) (nxt : ∀ s2 M2, Inv s2 → RelC s2 M2 → RelM s2 M2 → s2 1 5 ≤ s 1 5 + 1 → wp X (d + 11) n_Law_law Q 736 [.ref 1000, .ref 0, .ref 55, .int (nI i)] [] M2) : wp X (d + 11) n_Law_law Q 176 [.ref 1000, .ref 0, .ref 55, .int (nI i)] [] M := by
  refine x_al1 f_Law_law_176 ?_
  refine x_cV0i f_Law_law_177 rfl rfl (by decide) (Nat.le_of_ble_eq_true rfl) (Nat.le_of_ble_eq_true rfl) rfl (c_RL_fault hI hC ⟨_, rfl, ?_⟩)
  refine x_al2 f_Law_law_180 ?_
  refine x_cV0i f_Law_law_181 rfl rfl (by decide) (Nat.le_of_ble_eq_true rfl) (Nat.le_of_ble_eq_true rfl) rfl (c_Mo_fault hI hM (fun M2 r2 f2 => ⟨_, rfl, ?_⟩))
  refine x_cmp_eq f_Law_law_184 (fun _ => ?_) (fun z => absurd rfl z)
  refine nxt _ M2 (hI) (join_C hC f2) r2 ?_
  exact Nat.le_succ _
theorem k_river {i : Nat} (hX : X.2 < 2 ^ 30) (hi : i + 4 ≤ X.2) (h5 : s 1 5 + 1 < 100000) (hI : Inv s) (hC : RelC s M) (hM : RelM s M) (nxt : ∀ s2 M2, Inv s2 → RelC s2 M2 → RelM s2 M2 → s2 1 5 ≤ s 1 5 + 1 → wp X (d + 11) n_Law_law Q 736 [.ref 1000, .ref 0, .ref 55, .int (nI i)] [] M2) : wp X (d + 11) n_Law_law Q 189 [.ref 1000, .ref 0, .ref 55, .int (nI i)] [] M := by
  refine x_al1 f_Law_law_189 ?_
  refine x_cV0i f_Law_law_190 rfl rfl (by decide) (Nat.le_of_ble_eq_true rfl) (Nat.le_of_ble_eq_true rfl) rfl (c_RL_river hI hC (fun M1 c1 f1 => ⟨_, rfl, ?_⟩))
  refine x_al2 f_Law_law_193 ?_
  refine x_cV0i f_Law_law_194 rfl rfl (by decide) (Nat.le_of_ble_eq_true rfl) (Nat.le_of_ble_eq_true rfl) rfl (c_Mo_river hI (join_M hM f1) (fun M2 r2 f2 => ⟨_, rfl, ?_⟩))
  refine x_cmp_eq f_Law_law_197 (fun _ => ?_) (fun z => absurd rfl z)
  refine nxt _ M2 (Inv_rv hI (by omega)) (join_C c1 f2) r2 ?_
  unfold rvS
  (repeat' split) <;> first | exact Nat.le_succ _ | exact Nat.le_refl _
theorem k_reach {i : Nat} (hX : X.2 < 2 ^ 30) (hi : i + 4 ≤ X.2) (h5 : s 1 5 + 1 < 100000) (hI : Inv s) (hC : RelC s M) (hM : RelM s M) (nxt : ∀ s2 M2, Inv s2 → RelC s2 M2 → RelM s2 M2 → s2 1 5 ≤ s 1 5 + 1 → wp X (d + 11) n_Law_law Q 736 [.ref 1000, .ref 0, .ref 55, .int (nI i)] [] M2) : wp X (d + 11) n_Law_law Q 202 [.ref 1000, .ref 0, .ref 55, .int (nI i)] [] M := by
  refine x_al1 f_Law_law_202 ?_
  refine x_al0 f_Law_law_203 ?_
  refine x_il3 f_Law_law_204 ?_
  refine x_iconst (v := (nI 1)) f_Law_law_205 rfl ?_
  first | refine x_iaddN f_Law_law_206 ?_ | refine x_iadd f_Law_law_206 ?_
  refine x_sldN f_Law_law_207 (by omega) hX ?_
  refine x_al0 f_Law_law_208 ?_
  refine x_il3 f_Law_law_209 ?_
  refine x_iconst (v := (nI 2)) f_Law_law_210 rfl ?_
  first | refine x_iaddN f_Law_law_211 ?_ | refine x_iadd f_Law_law_211 ?_
  refine x_sldN f_Law_law_212 (by omega) hX ?_
  refine x_cV2i f_Law_law_213 rfl rfl (by decide) (Nat.le_of_ble_eq_true rfl) (Nat.le_of_ble_eq_true rfl) rfl (c_RL_reach hI hC ⟨_, rfl, ?_⟩)
  refine x_al2 f_Law_law_216 ?_
  refine x_al0 f_Law_law_217 ?_
  refine x_il3 f_Law_law_218 ?_
  refine x_iconst (v := (nI 1)) f_Law_law_219 rfl ?_
  first | refine x_iaddN f_Law_law_220 ?_ | refine x_iadd f_Law_law_220 ?_
  refine x_sldN f_Law_law_221 (by omega) hX ?_
  refine x_al0 f_Law_law_222 ?_
  refine x_il3 f_Law_law_223 ?_
  refine x_iconst (v := (nI 2)) f_Law_law_224 rfl ?_
  first | refine x_iaddN f_Law_law_225 ?_ | refine x_iadd f_Law_law_225 ?_
  refine x_sldN f_Law_law_226 (by omega) hX ?_
  refine x_cV2i f_Law_law_227 rfl rfl (by decide) (Nat.le_of_ble_eq_true rfl) (Nat.le_of_ble_eq_true rfl) rfl (c_Mo_reach hI hM (fun M2 r2 f2 => ⟨_, rfl, ?_⟩))
  refine x_cmp_eq f_Law_law_230 (fun _ => ?_) (fun z => absurd rfl z)
  refine nxt _ M2 (hI) (join_C hC f2) r2 ?_
  exact Nat.le_succ _
theorem k_as {i : Nat} (hX : X.2 < 2 ^ 30) (hi : i + 4 ≤ X.2) (h5 : s 1 5 + 1 < 100000) (hI : Inv s) (hC : RelC s M) (hM : RelM s M) (nxt : ∀ s2 M2, Inv s2 → RelC s2 M2 → RelM s2 M2 → s2 1 5 ≤ s 1 5 + 1 → wp X (d + 11) n_Law_law Q 736 [.ref 1000, .ref 0, .ref 55, .int (nI i)] [] M2) : wp X (d + 11) n_Law_law Q 235 [.ref 1000, .ref 0, .ref 55, .int (nI i)] [] M := by
  refine x_al1 f_Law_law_235 ?_
  refine x_al0 f_Law_law_236 ?_
  refine x_il3 f_Law_law_237 ?_
  refine x_iconst (v := (nI 1)) f_Law_law_238 rfl ?_
  first | refine x_iaddN f_Law_law_239 ?_ | refine x_iadd f_Law_law_239 ?_
  refine x_sldN f_Law_law_240 (by omega) hX ?_
  refine x_al0 f_Law_law_241 ?_
  refine x_il3 f_Law_law_242 ?_
  refine x_iconst (v := (nI 2)) f_Law_law_243 rfl ?_
  first | refine x_iaddN f_Law_law_244 ?_ | refine x_iadd f_Law_law_244 ?_
  refine x_sldN f_Law_law_245 (by omega) hX ?_
  refine x_cV2i f_Law_law_246 rfl rfl (by decide) (Nat.le_of_ble_eq_true rfl) (Nat.le_of_ble_eq_true rfl) rfl (c_RL_as hI hC ⟨_, rfl, ?_⟩)
  refine x_al2 f_Law_law_249 ?_
  refine x_al0 f_Law_law_250 ?_
  refine x_il3 f_Law_law_251 ?_
  refine x_iconst (v := (nI 1)) f_Law_law_252 rfl ?_
  first | refine x_iaddN f_Law_law_253 ?_ | refine x_iadd f_Law_law_253 ?_
  refine x_sldN f_Law_law_254 (by omega) hX ?_
  refine x_al0 f_Law_law_255 ?_
  refine x_il3 f_Law_law_256 ?_
  refine x_iconst (v := (nI 2)) f_Law_law_257 rfl ?_
  first | refine x_iaddN f_Law_law_258 ?_ | refine x_iadd f_Law_law_258 ?_
  refine x_sldN f_Law_law_259 (by omega) hX ?_
  refine x_cV2i f_Law_law_260 rfl rfl (by decide) (Nat.le_of_ble_eq_true rfl) (Nat.le_of_ble_eq_true rfl) rfl (c_Mo_as hI hM ⟨_, rfl, ?_⟩)
  refine x_cmp_eq f_Law_law_263 (fun _ => ?_) (fun z => absurd rfl z)
  refine nxt _ M (hI) hC hM ?_
  exact Nat.le_succ _
theorem k_governess {i : Nat} (hX : X.2 < 2 ^ 30) (hi : i + 4 ≤ X.2) (h5 : s 1 5 + 1 < 100000) (hI : Inv s) (hC : RelC s M) (hM : RelM s M) (nxt : ∀ s2 M2, Inv s2 → RelC s2 M2 → RelM s2 M2 → s2 1 5 ≤ s 1 5 + 1 → wp X (d + 11) n_Law_law Q 736 [.ref 1000, .ref 0, .ref 55, .int (nI i)] [] M2) : wp X (d + 11) n_Law_law Q 268 [.ref 1000, .ref 0, .ref 55, .int (nI i)] [] M := by
  refine x_al1 f_Law_law_268 ?_
  refine x_al0 f_Law_law_269 ?_
  refine x_il3 f_Law_law_270 ?_
  refine x_iconst (v := (nI 1)) f_Law_law_271 rfl ?_
  first | refine x_iaddN f_Law_law_272 ?_ | refine x_iadd f_Law_law_272 ?_
  refine x_sldN f_Law_law_273 (by omega) hX ?_
  refine x_cV1i f_Law_law_274 rfl rfl (by decide) (Nat.le_of_ble_eq_true rfl) (Nat.le_of_ble_eq_true rfl) rfl (c_RL_governess hI hC ⟨_, rfl, ?_⟩)
  refine x_al2 f_Law_law_277 ?_
  refine x_al0 f_Law_law_278 ?_
  refine x_il3 f_Law_law_279 ?_
  refine x_iconst (v := (nI 1)) f_Law_law_280 rfl ?_
  first | refine x_iaddN f_Law_law_281 ?_ | refine x_iadd f_Law_law_281 ?_
  refine x_sldN f_Law_law_282 (by omega) hX ?_
  refine x_cV1i f_Law_law_283 rfl rfl (by decide) (Nat.le_of_ble_eq_true rfl) (Nat.le_of_ble_eq_true rfl) rfl (c_Mo_governess hI hM ⟨_, rfl, ?_⟩)
  refine x_cmp_eq f_Law_law_286 (fun _ => ?_) (fun z => absurd rfl z)
  refine nxt _ M (hI) hC hM ?_
  exact Nat.le_succ _
theorem k_send {i : Nat} (hX : X.2 < 2 ^ 30) (hi : i + 4 ≤ X.2) (h5 : s 1 5 + 1 < 100000) (hI : Inv s) (hC : RelC s M) (hM : RelM s M) (nxt : ∀ s2 M2, Inv s2 → RelC s2 M2 → RelM s2 M2 → s2 1 5 ≤ s 1 5 + 1 → wp X (d + 11) n_Law_law Q 736 [.ref 1000, .ref 0, .ref 55, .int (nI i)] [] M2) : wp X (d + 11) n_Law_law Q 291 [.ref 1000, .ref 0, .ref 55, .int (nI i)] [] M := by
  refine x_al1 f_Law_law_291 ?_
  refine x_al0 f_Law_law_292 ?_
  refine x_il3 f_Law_law_293 ?_
  refine x_iconst (v := (nI 1)) f_Law_law_294 rfl ?_
  first | refine x_iaddN f_Law_law_295 ?_ | refine x_iadd f_Law_law_295 ?_
  refine x_sldN f_Law_law_296 (by omega) hX ?_
  refine x_al0 f_Law_law_297 ?_
  refine x_il3 f_Law_law_298 ?_
  refine x_iconst (v := (nI 2)) f_Law_law_299 rfl ?_
  first | refine x_iaddN f_Law_law_300 ?_ | refine x_iadd f_Law_law_300 ?_
  refine x_sldN f_Law_law_301 (by omega) hX ?_
  refine x_cV2i f_Law_law_302 rfl rfl (by decide) (Nat.le_of_ble_eq_true rfl) (Nat.le_of_ble_eq_true rfl) rfl (c_RL_send hI hC (fun M1 c1 f1 => ⟨_, rfl, ?_⟩))
  refine x_al2 f_Law_law_305 ?_
  refine x_al0 f_Law_law_306 ?_
  refine x_il3 f_Law_law_307 ?_
  refine x_iconst (v := (nI 1)) f_Law_law_308 rfl ?_
  first | refine x_iaddN f_Law_law_309 ?_ | refine x_iadd f_Law_law_309 ?_
  refine x_sldN f_Law_law_310 (by omega) hX ?_
  refine x_al0 f_Law_law_311 ?_
  refine x_il3 f_Law_law_312 ?_
  refine x_iconst (v := (nI 2)) f_Law_law_313 rfl ?_
  first | refine x_iaddN f_Law_law_314 ?_ | refine x_iadd f_Law_law_314 ?_
  refine x_sldN f_Law_law_315 (by omega) hX ?_
  refine x_cV2i f_Law_law_316 rfl rfl (by decide) (Nat.le_of_ble_eq_true rfl) (Nat.le_of_ble_eq_true rfl) rfl (c_Mo_send hI (join_M hM f1) (fun M2 r2 f2 => ⟨_, rfl, ?_⟩))
  refine x_cmp_eq f_Law_law_319 (fun _ => ?_) (fun z => absurd rfl z)
  refine nxt _ M2 (Inv_sd hI) (join_C c1 f2) r2 ?_
  unfold sdS
  (repeat' split) <;> first | exact Nat.le_succ _ | exact Nat.le_refl _
theorem k_month {i : Nat} (hX : X.2 < 2 ^ 30) (hi : i + 4 ≤ X.2) (h5 : s 1 5 + 1 < 100000) (hI : Inv s) (hC : RelC s M) (hM : RelM s M) (nxt : ∀ s2 M2, Inv s2 → RelC s2 M2 → RelM s2 M2 → s2 1 5 ≤ s 1 5 + 1 → wp X (d + 11) n_Law_law Q 736 [.ref 1000, .ref 0, .ref 55, .int (nI i)] [] M2) : wp X (d + 11) n_Law_law Q 324 [.ref 1000, .ref 0, .ref 55, .int (nI i)] [] M := by
  refine x_al1 f_Law_law_324 ?_
  refine x_cV0i f_Law_law_325 rfl rfl (by decide) (Nat.le_of_ble_eq_true rfl) (Nat.le_of_ble_eq_true rfl) rfl (c_RL_month hI hC (fun M1 c1 f1 => ⟨_, rfl, ?_⟩))
  refine x_al2 f_Law_law_328 ?_
  refine x_cV0i f_Law_law_329 rfl rfl (by decide) (Nat.le_of_ble_eq_true rfl) (Nat.le_of_ble_eq_true rfl) rfl (c_Mo_month hI (join_M hM f1) (fun M2 r2 f2 => ⟨_, rfl, ?_⟩))
  refine x_cmp_eq f_Law_law_332 (fun _ => ?_) (fun z => absurd rfl z)
  refine nxt _ M2 (Inv_mo hI) (join_C c1 f2) r2 ?_
  unfold moS
  (repeat' split) <;> first | exact Nat.le_succ _ | exact Nat.le_refl _
theorem k_rain {i : Nat} (hX : X.2 < 2 ^ 30) (hi : i + 4 ≤ X.2) (h5 : s 1 5 + 1 < 100000) (hI : Inv s) (hC : RelC s M) (hM : RelM s M) (nxt : ∀ s2 M2, Inv s2 → RelC s2 M2 → RelM s2 M2 → s2 1 5 ≤ s 1 5 + 1 → wp X (d + 11) n_Law_law Q 736 [.ref 1000, .ref 0, .ref 55, .int (nI i)] [] M2) : wp X (d + 11) n_Law_law Q 337 [.ref 1000, .ref 0, .ref 55, .int (nI i)] [] M := by
  refine x_al1 f_Law_law_337 ?_
  refine x_al0 f_Law_law_338 ?_
  refine x_il3 f_Law_law_339 ?_
  refine x_iconst (v := (nI 1)) f_Law_law_340 rfl ?_
  first | refine x_iaddN f_Law_law_341 ?_ | refine x_iadd f_Law_law_341 ?_
  refine x_sldN f_Law_law_342 (by omega) hX ?_
  refine x_al0 f_Law_law_343 ?_
  refine x_il3 f_Law_law_344 ?_
  refine x_iconst (v := (nI 2)) f_Law_law_345 rfl ?_
  first | refine x_iaddN f_Law_law_346 ?_ | refine x_iadd f_Law_law_346 ?_
  refine x_sldN f_Law_law_347 (by omega) hX ?_
  refine x_cV2i f_Law_law_348 rfl rfl (by decide) (Nat.le_of_ble_eq_true rfl) (Nat.le_of_ble_eq_true rfl) rfl (c_RL_rain hI hC (fun M1 c1 f1 => ⟨_, rfl, ?_⟩))
  refine x_al2 f_Law_law_351 ?_
  refine x_al0 f_Law_law_352 ?_
  refine x_il3 f_Law_law_353 ?_
  refine x_iconst (v := (nI 1)) f_Law_law_354 rfl ?_
  first | refine x_iaddN f_Law_law_355 ?_ | refine x_iadd f_Law_law_355 ?_
  refine x_sldN f_Law_law_356 (by omega) hX ?_
  refine x_al0 f_Law_law_357 ?_
  refine x_il3 f_Law_law_358 ?_
  refine x_iconst (v := (nI 2)) f_Law_law_359 rfl ?_
  first | refine x_iaddN f_Law_law_360 ?_ | refine x_iadd f_Law_law_360 ?_
  refine x_sldN f_Law_law_361 (by omega) hX ?_
  refine x_cV2i f_Law_law_362 rfl rfl (by decide) (Nat.le_of_ble_eq_true rfl) (Nat.le_of_ble_eq_true rfl) rfl (c_Mo_rain hI (join_M hM f1) (fun M2 r2 f2 => ⟨_, rfl, ?_⟩))
  refine x_cmp_eq f_Law_law_365 (fun _ => ?_) (fun z => absurd rfl z)
  refine nxt _ M2 (Inv_ra hI) (join_C c1 f2) r2 ?_
  unfold raS
  (repeat' split) <;> first | exact Nat.le_succ _ | exact Nat.le_refl _
theorem k_make {i : Nat} (hX : X.2 < 2 ^ 30) (hi : i + 4 ≤ X.2) (h5 : s 1 5 + 1 < 100000) (hI : Inv s) (hC : RelC s M) (hM : RelM s M) (nxt : ∀ s2 M2, Inv s2 → RelC s2 M2 → RelM s2 M2 → s2 1 5 ≤ s 1 5 + 1 → wp X (d + 11) n_Law_law Q 736 [.ref 1000, .ref 0, .ref 55, .int (nI i)] [] M2) : wp X (d + 11) n_Law_law Q 370 [.ref 1000, .ref 0, .ref 55, .int (nI i)] [] M := by
  refine x_al1 f_Law_law_370 ?_
  refine x_al0 f_Law_law_371 ?_
  refine x_il3 f_Law_law_372 ?_
  refine x_iconst (v := (nI 1)) f_Law_law_373 rfl ?_
  first | refine x_iaddN f_Law_law_374 ?_ | refine x_iadd f_Law_law_374 ?_
  refine x_sldN f_Law_law_375 (by omega) hX ?_
  refine x_al0 f_Law_law_376 ?_
  refine x_il3 f_Law_law_377 ?_
  refine x_iconst (v := (nI 2)) f_Law_law_378 rfl ?_
  first | refine x_iaddN f_Law_law_379 ?_ | refine x_iadd f_Law_law_379 ?_
  refine x_sldN f_Law_law_380 (by omega) hX ?_
  refine x_cV2i f_Law_law_381 rfl rfl (by decide) (Nat.le_of_ble_eq_true rfl) (Nat.le_of_ble_eq_true rfl) rfl (c_RL_make hI hC (fun M1 c1 f1 => ⟨_, rfl, ?_⟩))
  refine x_al2 f_Law_law_384 ?_
  refine x_al0 f_Law_law_385 ?_
  refine x_il3 f_Law_law_386 ?_
  refine x_iconst (v := (nI 1)) f_Law_law_387 rfl ?_
  first | refine x_iaddN f_Law_law_388 ?_ | refine x_iadd f_Law_law_388 ?_
  refine x_sldN f_Law_law_389 (by omega) hX ?_
  refine x_al0 f_Law_law_390 ?_
  refine x_il3 f_Law_law_391 ?_
  refine x_iconst (v := (nI 2)) f_Law_law_392 rfl ?_
  first | refine x_iaddN f_Law_law_393 ?_ | refine x_iadd f_Law_law_393 ?_
  refine x_sldN f_Law_law_394 (by omega) hX ?_
  refine x_cV2i f_Law_law_395 rfl rfl (by decide) (Nat.le_of_ble_eq_true rfl) (Nat.le_of_ble_eq_true rfl) rfl (c_Mo_make hI (join_M hM f1) (fun M2 r2 f2 => ⟨_, rfl, ?_⟩))
  refine x_cmp_eq f_Law_law_398 (fun _ => ?_) (fun z => absurd rfl z)
  refine nxt _ M2 (Inv_mk hI) (join_C c1 f2) r2 ?_
  unfold mkS
  (repeat' split) <;> first | exact Nat.le_succ _ | exact Nat.le_refl _
theorem k_spoil {i : Nat} (hX : X.2 < 2 ^ 30) (hi : i + 4 ≤ X.2) (h5 : s 1 5 + 1 < 100000) (hI : Inv s) (hC : RelC s M) (hM : RelM s M) (nxt : ∀ s2 M2, Inv s2 → RelC s2 M2 → RelM s2 M2 → s2 1 5 ≤ s 1 5 + 1 → wp X (d + 11) n_Law_law Q 736 [.ref 1000, .ref 0, .ref 55, .int (nI i)] [] M2) : wp X (d + 11) n_Law_law Q 403 [.ref 1000, .ref 0, .ref 55, .int (nI i)] [] M := by
  refine x_al1 f_Law_law_403 ?_
  refine x_al0 f_Law_law_404 ?_
  refine x_il3 f_Law_law_405 ?_
  refine x_iconst (v := (nI 1)) f_Law_law_406 rfl ?_
  first | refine x_iaddN f_Law_law_407 ?_ | refine x_iadd f_Law_law_407 ?_
  refine x_sldN f_Law_law_408 (by omega) hX ?_
  refine x_al0 f_Law_law_409 ?_
  refine x_il3 f_Law_law_410 ?_
  refine x_iconst (v := (nI 2)) f_Law_law_411 rfl ?_
  first | refine x_iaddN f_Law_law_412 ?_ | refine x_iadd f_Law_law_412 ?_
  refine x_sldN f_Law_law_413 (by omega) hX ?_
  refine x_cV2i f_Law_law_414 rfl rfl (by decide) (Nat.le_of_ble_eq_true rfl) (Nat.le_of_ble_eq_true rfl) rfl (c_RL_spoil hI hC (fun M1 c1 f1 => ⟨_, rfl, ?_⟩))
  refine x_al2 f_Law_law_417 ?_
  refine x_al0 f_Law_law_418 ?_
  refine x_il3 f_Law_law_419 ?_
  refine x_iconst (v := (nI 1)) f_Law_law_420 rfl ?_
  first | refine x_iaddN f_Law_law_421 ?_ | refine x_iadd f_Law_law_421 ?_
  refine x_sldN f_Law_law_422 (by omega) hX ?_
  refine x_al0 f_Law_law_423 ?_
  refine x_il3 f_Law_law_424 ?_
  refine x_iconst (v := (nI 2)) f_Law_law_425 rfl ?_
  first | refine x_iaddN f_Law_law_426 ?_ | refine x_iadd f_Law_law_426 ?_
  refine x_sldN f_Law_law_427 (by omega) hX ?_
  refine x_cV2i f_Law_law_428 rfl rfl (by decide) (Nat.le_of_ble_eq_true rfl) (Nat.le_of_ble_eq_true rfl) rfl (c_Mo_spoil hI (join_M hM f1) (fun M2 r2 f2 => ⟨_, rfl, ?_⟩))
  refine x_cmp_eq f_Law_law_431 (fun _ => ?_) (fun z => absurd rfl z)
  refine nxt _ M2 (Inv_sp hI) (join_C c1 f2) r2 ?_
  unfold spS
  (repeat' split) <;> first | exact Nat.le_succ _ | exact Nat.le_refl _
theorem k_plan {i : Nat} (hX : X.2 < 2 ^ 30) (hi : i + 4 ≤ X.2) (h5 : s 1 5 + 1 < 100000) (hI : Inv s) (hC : RelC s M) (hM : RelM s M) (nxt : ∀ s2 M2, Inv s2 → RelC s2 M2 → RelM s2 M2 → s2 1 5 ≤ s 1 5 + 1 → wp X (d + 11) n_Law_law Q 736 [.ref 1000, .ref 0, .ref 55, .int (nI i)] [] M2) : wp X (d + 11) n_Law_law Q 436 [.ref 1000, .ref 0, .ref 55, .int (nI i)] [] M := by
  refine x_al1 f_Law_law_436 ?_
  refine x_al0 f_Law_law_437 ?_
  refine x_il3 f_Law_law_438 ?_
  refine x_iconst (v := (nI 1)) f_Law_law_439 rfl ?_
  first | refine x_iaddN f_Law_law_440 ?_ | refine x_iadd f_Law_law_440 ?_
  refine x_sldN f_Law_law_441 (by omega) hX ?_
  refine x_al0 f_Law_law_442 ?_
  refine x_il3 f_Law_law_443 ?_
  refine x_iconst (v := (nI 2)) f_Law_law_444 rfl ?_
  first | refine x_iaddN f_Law_law_445 ?_ | refine x_iadd f_Law_law_445 ?_
  refine x_sldN f_Law_law_446 (by omega) hX ?_
  refine x_al0 f_Law_law_447 ?_
  refine x_il3 f_Law_law_448 ?_
  refine x_iconst (v := (nI 3)) f_Law_law_449 rfl ?_
  first | refine x_iaddN f_Law_law_450 ?_ | refine x_iadd f_Law_law_450 ?_
  refine x_sldN f_Law_law_451 (by omega) hX ?_
  refine x_cV3i f_Law_law_452 rfl rfl (by decide) (Nat.le_of_ble_eq_true rfl) (Nat.le_of_ble_eq_true rfl) rfl (c_RL_plan hI hC (fun M1 c1 f1 => ⟨_, rfl, ?_⟩))
  refine x_al2 f_Law_law_455 ?_
  refine x_al0 f_Law_law_456 ?_
  refine x_il3 f_Law_law_457 ?_
  refine x_iconst (v := (nI 1)) f_Law_law_458 rfl ?_
  first | refine x_iaddN f_Law_law_459 ?_ | refine x_iadd f_Law_law_459 ?_
  refine x_sldN f_Law_law_460 (by omega) hX ?_
  refine x_al0 f_Law_law_461 ?_
  refine x_il3 f_Law_law_462 ?_
  refine x_iconst (v := (nI 2)) f_Law_law_463 rfl ?_
  first | refine x_iaddN f_Law_law_464 ?_ | refine x_iadd f_Law_law_464 ?_
  refine x_sldN f_Law_law_465 (by omega) hX ?_
  refine x_al0 f_Law_law_466 ?_
  refine x_il3 f_Law_law_467 ?_
  refine x_iconst (v := (nI 3)) f_Law_law_468 rfl ?_
  first | refine x_iaddN f_Law_law_469 ?_ | refine x_iadd f_Law_law_469 ?_
  refine x_sldN f_Law_law_470 (by omega) hX ?_
  refine x_cV3i f_Law_law_471 rfl rfl (by decide) (Nat.le_of_ble_eq_true rfl) (Nat.le_of_ble_eq_true rfl) rfl (c_Mo_plan hI (join_M hM f1) (fun M2 r2 f2 => ⟨_, rfl, ?_⟩))
  refine x_cmp_eq f_Law_law_474 (fun _ => ?_) (fun z => absurd rfl z)
  refine nxt _ M2 (hI) (join_C c1 f2) r2 ?_
  exact Nat.le_succ _
theorem k_place {i : Nat} (hX : X.2 < 2 ^ 30) (hi : i + 4 ≤ X.2) (h5 : s 1 5 + 1 < 100000) (hI : Inv s) (hC : RelC s M) (hM : RelM s M) (nxt : ∀ s2 M2, Inv s2 → RelC s2 M2 → RelM s2 M2 → s2 1 5 ≤ s 1 5 + 1 → wp X (d + 11) n_Law_law Q 736 [.ref 1000, .ref 0, .ref 55, .int (nI i)] [] M2) : wp X (d + 11) n_Law_law Q 479 [.ref 1000, .ref 0, .ref 55, .int (nI i)] [] M := by
  refine x_al1 f_Law_law_479 ?_
  refine x_al0 f_Law_law_480 ?_
  refine x_il3 f_Law_law_481 ?_
  refine x_iconst (v := (nI 1)) f_Law_law_482 rfl ?_
  first | refine x_iaddN f_Law_law_483 ?_ | refine x_iadd f_Law_law_483 ?_
  refine x_sldN f_Law_law_484 (by omega) hX ?_
  refine x_cV1i f_Law_law_485 rfl rfl (by decide) (Nat.le_of_ble_eq_true rfl) (Nat.le_of_ble_eq_true rfl) rfl (c_RL_place hI hC (fun M1 c1 f1 => ⟨_, rfl, ?_⟩))
  refine x_al2 f_Law_law_488 ?_
  refine x_al0 f_Law_law_489 ?_
  refine x_il3 f_Law_law_490 ?_
  refine x_iconst (v := (nI 1)) f_Law_law_491 rfl ?_
  first | refine x_iaddN f_Law_law_492 ?_ | refine x_iadd f_Law_law_492 ?_
  refine x_sldN f_Law_law_493 (by omega) hX ?_
  refine x_cV1i f_Law_law_494 rfl rfl (by decide) (Nat.le_of_ble_eq_true rfl) (Nat.le_of_ble_eq_true rfl) rfl (c_Mo_place hI (join_M hM f1) (fun M2 r2 f2 => ⟨_, rfl, ?_⟩))
  refine x_cmp_eq f_Law_law_497 (fun _ => ?_) (fun z => absurd rfl z)
  refine nxt _ M2 (hI) (join_C c1 f2) r2 ?_
  exact Nat.le_succ _
theorem k_weirs {i : Nat} (hX : X.2 < 2 ^ 30) (hi : i + 4 ≤ X.2) (h5 : s 1 5 + 1 < 100000) (hI : Inv s) (hC : RelC s M) (hM : RelM s M) (nxt : ∀ s2 M2, Inv s2 → RelC s2 M2 → RelM s2 M2 → s2 1 5 ≤ s 1 5 + 1 → wp X (d + 11) n_Law_law Q 736 [.ref 1000, .ref 0, .ref 55, .int (nI i)] [] M2) : wp X (d + 11) n_Law_law Q 502 [.ref 1000, .ref 0, .ref 55, .int (nI i)] [] M := by
  refine x_al1 f_Law_law_502 ?_
  refine x_al0 f_Law_law_503 ?_
  refine x_il3 f_Law_law_504 ?_
  refine x_iconst (v := (nI 1)) f_Law_law_505 rfl ?_
  first | refine x_iaddN f_Law_law_506 ?_ | refine x_iadd f_Law_law_506 ?_
  refine x_sldN f_Law_law_507 (by omega) hX ?_
  refine x_cV1i f_Law_law_508 rfl rfl (by decide) (Nat.le_of_ble_eq_true rfl) (Nat.le_of_ble_eq_true rfl) rfl (c_RL_weirs hI hC (fun M1 c1 f1 => ⟨_, rfl, ?_⟩))
  refine x_al2 f_Law_law_511 ?_
  refine x_al0 f_Law_law_512 ?_
  refine x_il3 f_Law_law_513 ?_
  refine x_iconst (v := (nI 1)) f_Law_law_514 rfl ?_
  first | refine x_iaddN f_Law_law_515 ?_ | refine x_iadd f_Law_law_515 ?_
  refine x_sldN f_Law_law_516 (by omega) hX ?_
  refine x_cV1i f_Law_law_517 rfl rfl (by decide) (Nat.le_of_ble_eq_true rfl) (Nat.le_of_ble_eq_true rfl) rfl (c_Mo_weirs hI (join_M hM f1) (fun M2 r2 f2 => ⟨_, rfl, ?_⟩))
  refine x_cmp_eq f_Law_law_520 (fun _ => ?_) (fun z => absurd rfl z)
  refine nxt _ M2 (hI) (join_C c1 f2) r2 ?_
  exact Nat.le_succ _
theorem k_odds {i : Nat} (hX : X.2 < 2 ^ 30) (hi : i + 4 ≤ X.2) (h5 : s 1 5 + 1 < 100000) (hI : Inv s) (hC : RelC s M) (hM : RelM s M) (nxt : ∀ s2 M2, Inv s2 → RelC s2 M2 → RelM s2 M2 → s2 1 5 ≤ s 1 5 + 1 → wp X (d + 11) n_Law_law Q 736 [.ref 1000, .ref 0, .ref 55, .int (nI i)] [] M2) : wp X (d + 11) n_Law_law Q 525 [.ref 1000, .ref 0, .ref 55, .int (nI i)] [] M := by
  refine x_al1 f_Law_law_525 ?_
  refine x_al0 f_Law_law_526 ?_
  refine x_il3 f_Law_law_527 ?_
  refine x_iconst (v := (nI 1)) f_Law_law_528 rfl ?_
  first | refine x_iaddN f_Law_law_529 ?_ | refine x_iadd f_Law_law_529 ?_
  refine x_sldN f_Law_law_530 (by omega) hX ?_
  refine x_al0 f_Law_law_531 ?_
  refine x_il3 f_Law_law_532 ?_
  refine x_iconst (v := (nI 2)) f_Law_law_533 rfl ?_
  first | refine x_iaddN f_Law_law_534 ?_ | refine x_iadd f_Law_law_534 ?_
  refine x_sldN f_Law_law_535 (by omega) hX ?_
  refine x_cV2i f_Law_law_536 rfl rfl (by decide) (Nat.le_of_ble_eq_true rfl) (Nat.le_of_ble_eq_true rfl) rfl (c_RL_odds hI hC (fun M1 c1 f1 => ⟨_, rfl, ?_⟩))
  refine x_al2 f_Law_law_539 ?_
  refine x_al0 f_Law_law_540 ?_
  refine x_il3 f_Law_law_541 ?_
  refine x_iconst (v := (nI 1)) f_Law_law_542 rfl ?_
  first | refine x_iaddN f_Law_law_543 ?_ | refine x_iadd f_Law_law_543 ?_
  refine x_sldN f_Law_law_544 (by omega) hX ?_
  refine x_al0 f_Law_law_545 ?_
  refine x_il3 f_Law_law_546 ?_
  refine x_iconst (v := (nI 2)) f_Law_law_547 rfl ?_
  first | refine x_iaddN f_Law_law_548 ?_ | refine x_iadd f_Law_law_548 ?_
  refine x_sldN f_Law_law_549 (by omega) hX ?_
  refine x_cV2i f_Law_law_550 rfl rfl (by decide) (Nat.le_of_ble_eq_true rfl) (Nat.le_of_ble_eq_true rfl) rfl (c_Mo_odds hI (join_M hM f1) (fun M2 r2 f2 => ⟨_, rfl, ?_⟩))
  refine x_cmp_eq f_Law_law_553 (fun _ => ?_) (fun z => absurd rfl z)
  refine nxt _ M2 (hI) (join_C c1 f2) r2 ?_
  exact Nat.le_succ _
theorem k_forget {i : Nat} (hX : X.2 < 2 ^ 30) (hi : i + 4 ≤ X.2) (h5 : s 1 5 + 1 < 100000) (hI : Inv s) (hC : RelC s M) (hM : RelM s M) (nxt : ∀ s2 M2, Inv s2 → RelC s2 M2 → RelM s2 M2 → s2 1 5 ≤ s 1 5 + 1 → wp X (d + 11) n_Law_law Q 736 [.ref 1000, .ref 0, .ref 55, .int (nI i)] [] M2) : wp X (d + 11) n_Law_law Q 617 [.ref 1000, .ref 0, .ref 55, .int (nI i)] [] M := by
  refine x_al1 f_Law_law_617 ?_
  refine x_cV0i f_Law_law_618 rfl rfl (by decide) (Nat.le_of_ble_eq_true rfl) (Nat.le_of_ble_eq_true rfl) rfl (c_RL_forget hC (fun M1 c1 f1 => ⟨_, rfl, ?_⟩))
  refine x_al2 f_Law_law_621 ?_
  refine x_cV0i f_Law_law_622 rfl rfl (by decide) (Nat.le_of_ble_eq_true rfl) (Nat.le_of_ble_eq_true rfl) rfl (c_Mo_forget (join_M hM f1) (fun M2 r2 f2 => ⟨_, rfl, ?_⟩))
  refine x_cmp_eq f_Law_law_625 (fun _ => ?_) (fun z => absurd rfl z)
  refine nxt _ M2 (Inv_fg hI) (join_C c1 f2) r2 ?_
  exact Nat.le_succ _
theorem k_years {i : Nat} (hX : X.2 < 2 ^ 30) (hi : i + 4 ≤ X.2) (h5 : s 1 5 + 1 < 100000) (hI : Inv s) (hC : RelC s M) (hM : RelM s M) (nxt : ∀ s2 M2, Inv s2 → RelC s2 M2 → RelM s2 M2 → s2 1 5 ≤ s 1 5 + 1 → wp X (d + 11) n_Law_law Q 736 [.ref 1000, .ref 0, .ref 55, .int (nI i)] [] M2) : wp X (d + 11) n_Law_law Q 630 [.ref 1000, .ref 0, .ref 55, .int (nI i)] [] M := by
  refine x_al1 f_Law_law_630 ?_
  refine x_al0 f_Law_law_631 ?_
  refine x_il3 f_Law_law_632 ?_
  refine x_iconst (v := (nI 1)) f_Law_law_633 rfl ?_
  first | refine x_iaddN f_Law_law_634 ?_ | refine x_iadd f_Law_law_634 ?_
  refine x_sldN f_Law_law_635 (by omega) hX ?_
  refine x_al0 f_Law_law_636 ?_
  refine x_il3 f_Law_law_637 ?_
  refine x_iconst (v := (nI 2)) f_Law_law_638 rfl ?_
  first | refine x_iaddN f_Law_law_639 ?_ | refine x_iadd f_Law_law_639 ?_
  refine x_sldN f_Law_law_640 (by omega) hX ?_
  refine x_al0 f_Law_law_641 ?_
  refine x_il3 f_Law_law_642 ?_
  refine x_iconst (v := (nI 3)) f_Law_law_643 rfl ?_
  first | refine x_iaddN f_Law_law_644 ?_ | refine x_iadd f_Law_law_644 ?_
  refine x_sldN f_Law_law_645 (by omega) hX ?_
  refine x_cV3i f_Law_law_646 rfl rfl (by decide) (Nat.le_of_ble_eq_true rfl) (Nat.le_of_ble_eq_true rfl) rfl (c_RL_years hI hC (fun M1 c1 f1 => ⟨_, rfl, ?_⟩))
  refine x_al2 f_Law_law_649 ?_
  refine x_al0 f_Law_law_650 ?_
  refine x_il3 f_Law_law_651 ?_
  refine x_iconst (v := (nI 1)) f_Law_law_652 rfl ?_
  first | refine x_iaddN f_Law_law_653 ?_ | refine x_iadd f_Law_law_653 ?_
  refine x_sldN f_Law_law_654 (by omega) hX ?_
  refine x_al0 f_Law_law_655 ?_
  refine x_il3 f_Law_law_656 ?_
  refine x_iconst (v := (nI 2)) f_Law_law_657 rfl ?_
  first | refine x_iaddN f_Law_law_658 ?_ | refine x_iadd f_Law_law_658 ?_
  refine x_sldN f_Law_law_659 (by omega) hX ?_
  refine x_al0 f_Law_law_660 ?_
  refine x_il3 f_Law_law_661 ?_
  refine x_iconst (v := (nI 3)) f_Law_law_662 rfl ?_
  first | refine x_iaddN f_Law_law_663 ?_ | refine x_iadd f_Law_law_663 ?_
  refine x_sldN f_Law_law_664 (by omega) hX ?_
  refine x_cV3i f_Law_law_665 rfl rfl (by decide) (Nat.le_of_ble_eq_true rfl) (Nat.le_of_ble_eq_true rfl) rfl (c_Mo_years hI (join_M hM f1) (fun M2 r2 f2 => ⟨_, rfl, ?_⟩))
  refine x_cmp_eq f_Law_law_668 (fun _ => ?_) (fun z => absurd rfl z)
  refine nxt _ M2 (hI) (join_C c1 f2) r2 ?_
  exact Nat.le_succ _
theorem k_image {i : Nat} (hX : X.2 < 2 ^ 30) (hi : i + 4 ≤ X.2) (h5 : s 1 5 + 1 < 100000) (hI : Inv s) (hC : RelC s M) (hM : RelM s M) (nxt : ∀ s2 M2, Inv s2 → RelC s2 M2 → RelM s2 M2 → s2 1 5 ≤ s 1 5 + 1 → wp X (d + 11) n_Law_law Q 736 [.ref 1000, .ref 0, .ref 55, .int (nI i)] [] M2) : wp X (d + 11) n_Law_law Q 673 [.ref 1000, .ref 0, .ref 55, .int (nI i)] [] M := by
  refine x_al1 f_Law_law_673 ?_
  refine x_cV0i f_Law_law_674 rfl rfl (by decide) (Nat.le_of_ble_eq_true rfl) (Nat.le_of_ble_eq_true rfl) rfl (c_RL_image hI hC (fun M1 c1 f1 => ⟨_, rfl, ?_⟩))
  refine x_al2 f_Law_law_677 ?_
  refine x_cV0i f_Law_law_678 rfl rfl (by decide) (Nat.le_of_ble_eq_true rfl) (Nat.le_of_ble_eq_true rfl) rfl (c_Mo_image hI (join_M hM f1) (fun M2 r2 f2 => ⟨_, rfl, ?_⟩))
  refine x_cmp_eq f_Law_law_681 (fun _ => ?_) (fun z => absurd rfl z)
  refine nxt _ M2 (Inv_im hI) (join_C c1 f2) r2 ?_
  unfold imS
  (repeat' split) <;> first | exact Nat.le_succ _ | exact Nat.le_refl _
theorem k_restore {i : Nat} (hX : X.2 < 2 ^ 30) (hi : i + 4 ≤ X.2) (h5 : s 1 5 + 1 < 100000) (hI : Inv s) (hC : RelC s M) (hM : RelM s M) (nxt : ∀ s2 M2, Inv s2 → RelC s2 M2 → RelM s2 M2 → s2 1 5 ≤ s 1 5 + 1 → wp X (d + 11) n_Law_law Q 736 [.ref 1000, .ref 0, .ref 55, .int (nI i)] [] M2) : wp X (d + 11) n_Law_law Q 686 [.ref 1000, .ref 0, .ref 55, .int (nI i)] [] M := by
  refine x_al1 f_Law_law_686 ?_
  refine x_cV0i f_Law_law_687 rfl rfl (by decide) (Nat.le_of_ble_eq_true rfl) (Nat.le_of_ble_eq_true rfl) rfl (c_RL_restore hI hC (fun M1 c1 f1 => ⟨_, rfl, ?_⟩))
  refine x_al2 f_Law_law_690 ?_
  refine x_cV0i f_Law_law_691 rfl rfl (by decide) (Nat.le_of_ble_eq_true rfl) (Nat.le_of_ble_eq_true rfl) rfl (c_Mo_restore hI (join_M hM f1) (fun M2 r2 f2 => ⟨_, rfl, ?_⟩))
  refine x_cmp_eq f_Law_law_694 (fun _ => ?_) (fun z => absurd rfl z)
  refine nxt _ M2 (Inv_rs hI) (join_C c1 f2) r2 ?_
  unfold rsS
  (repeat' split) <;> first | exact Nat.le_succ _ | exact Nat.le_refl _
theorem k_count {i : Nat} (hX : X.2 < 2 ^ 30) (hi : i + 4 ≤ X.2) (h5 : s 1 5 + 1 < 100000) (hI : Inv s) (hC : RelC s M) (hM : RelM s M) (nxt : ∀ s2 M2, Inv s2 → RelC s2 M2 → RelM s2 M2 → s2 1 5 ≤ s 1 5 + 1 → wp X (d + 11) n_Law_law Q 736 [.ref 1000, .ref 0, .ref 55, .int (nI i)] [] M2) : wp X (d + 11) n_Law_law Q 699 [.ref 1000, .ref 0, .ref 55, .int (nI i)] [] M := by
  refine x_al1 f_Law_law_699 ?_
  refine x_al0 f_Law_law_700 ?_
  refine x_il3 f_Law_law_701 ?_
  refine x_iconst (v := (nI 1)) f_Law_law_702 rfl ?_
  first | refine x_iaddN f_Law_law_703 ?_ | refine x_iadd f_Law_law_703 ?_
  refine x_sldN f_Law_law_704 (by omega) hX ?_
  refine x_cV1i f_Law_law_705 rfl rfl (by decide) (Nat.le_of_ble_eq_true rfl) (Nat.le_of_ble_eq_true rfl) rfl (c_RL_count hI hC ⟨_, rfl, ?_⟩)
  refine x_al2 f_Law_law_708 ?_
  refine x_al0 f_Law_law_709 ?_
  refine x_il3 f_Law_law_710 ?_
  refine x_iconst (v := (nI 1)) f_Law_law_711 rfl ?_
  first | refine x_iaddN f_Law_law_712 ?_ | refine x_iadd f_Law_law_712 ?_
  refine x_sldN f_Law_law_713 (by omega) hX ?_
  refine x_cV1i f_Law_law_714 rfl rfl (by decide) (Nat.le_of_ble_eq_true rfl) (Nat.le_of_ble_eq_true rfl) rfl (c_Mo_count hI hM (fun M2 r2 f2 => ⟨_, rfl, ?_⟩))
  refine x_cmp_eq f_Law_law_717 (fun _ => ?_) (fun z => absurd rfl z)
  refine nxt _ M2 (hI) (join_C hC f2) r2 ?_
  exact Nat.le_succ _
end
