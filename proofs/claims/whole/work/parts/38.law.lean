/-! ===== the law's loop ===== -/
abbrev mL_law : mI := (yL_law, cL_law, 4, some .boolean)
theorem n_inc4 (a : Nat) : nI a + Int32.ofInt 4 = nI (a + 4) := nI_add a 4
theorem ev_sldN {N d : Nat} {μ : mI} {X : mX} {pc : Nat} {L S : List Value} {M : mM} {P : Option Value → mM → Prop} {Ls j : Nat} {xs : Nat → Int32} (h : decode μ.2.1 pc = .ok (.iaload, 1)) (hX : X = some (Ls, xs)) (hj : j < Ls) (hL : Ls < 2 ^ 31) (k : Ev N d μ X (pc + 1) L (.int (xs j) :: S) M P) : Ev N d μ X pc L (.int (nI j) :: .ref 1000 :: S) M P :=
  ev_sld h hX (vp_in_nI hj hL) (by rw [n_cl (by omega)]; exact k)
theorem and_31 (x : Int32) : ∃ w, w < 32 ∧ x &&& nI 31 = nI w := ⟨x.toBitVec.toNat &&& 31, Nat.lt_of_le_of_lt Nat.and_le_right (by decide), by rw [← fa_and, nI_back]⟩
theorem lg_same (v : Int64) : lg_cmp v v = 0 := (lg_cmp_eq v v).mpr rfl
section LAW
variable {M : mM} {P : Option Value → mM → Prop} {s : cs} {Ls i : Nat} {xs : Nat → Int32}

theorem law_write (hL : Ls ≤ 256) (hi : i + 4 ≤ Ls) (hC : kC M s) (hM : kM M s) (ho : cOk s) (nx : ∀ M2 s2, kC M2 s2 → kM M2 s2 → cOk s2 → Ev 88 8 mL_law (some (Ls, xs)) 921 [.ref 1000, .ref 0, .ref 72, .int (nI i)] [] M2 P) : Ev 88 8 mL_law (some (Ls, xs)) 168 [.ref 1000, .ref 0, .ref 72, .int (nI i)] [] M P := by
  have x0 := hC.1
  unfold kRt at x0
  obtain ⟨e, x72⟩ := hM.1
  unfold kO at x72
  refine ev_aload_n (i := 1) dL_law_168 rfl rfl ?_
  refine ev_aload_n (i := 0) dL_law_169 rfl rfl ?_
  refine ev_iload_n (i := 3) dL_law_170 rfl rfl ?_
  refine ev_iconst (v := nI 1) dL_law_171 rfl ?_
  refine ev_iaddN dL_law_172 ?_
  refine ev_sldN dL_law_173 rfl (by omega) (by omega) ?_
  refine ev_V1 (μ1 := mX7_write) dL_law_174 sL_13 okX7_write (by first | omega | decide) (by first | assumption | (simp (disch := omega) only [mu_s, mu_n]; first | assumption | rfl)) (Nat.le_of_ble_eq_true rfl) (Nat.le_of_ble_eq_true rfl) ?_
  refine C_write hC ho (fun M1 ha1 hC1 => ?_)
  have hM1 := kM_ag hM ha1
  obtain ⟨e1, x1⟩ := hM1.1
  unfold kO at x1
  refine ev_aload_n (i := 2) dL_law_177 rfl rfl ?_
  refine ev_aload_n (i := 0) dL_law_178 rfl rfl ?_
  refine ev_iload_n (i := 3) dL_law_179 rfl rfl ?_
  refine ev_iconst (v := nI 1) dL_law_180 rfl ?_
  refine ev_iaddN dL_law_181 ?_
  refine ev_sldN dL_law_182 rfl (by omega) (by omega) ?_
  refine ev_V1 (μ1 := mX8_write) dL_law_183 sL_17 okX8_write (by first | omega | decide) (by first | assumption | (simp (disch := omega) only [mu_s, mu_n]; first | assumption | rfl)) (Nat.le_of_ble_eq_true rfl) (Nat.le_of_ble_eq_true rfl) ?_
  refine R_write hM1 ho (fun M2 ha2 hM2 => ?_)
  refine ev_icmp_eq 921 dL_law_186 (by decide) (fun b186 => ?_) (fun b186 => absurd rfl b186)
  exact nx M2 _ (kC_ag hC1 ha2) hM2 (ok_write ho)
theorem law_wipe (hL : Ls ≤ 256) (hi : i + 4 ≤ Ls) (hC : kC M s) (hM : kM M s) (ho : cOk s) (nx : ∀ M2 s2, kC M2 s2 → kM M2 s2 → cOk s2 → Ev 88 8 mL_law (some (Ls, xs)) 921 [.ref 1000, .ref 0, .ref 72, .int (nI i)] [] M2 P) : Ev 88 8 mL_law (some (Ls, xs)) 191 [.ref 1000, .ref 0, .ref 72, .int (nI i)] [] M P := by
  have x0 := hC.1
  unfold kRt at x0
  obtain ⟨e, x72⟩ := hM.1
  unfold kO at x72
  refine ev_aload_n (i := 1) dL_law_191 rfl rfl ?_
  refine ev_V0 (μ1 := mX7_wipe) dL_law_192 sL_18 okX7_wipe (by first | omega | decide) (by first | assumption | (simp (disch := omega) only [mu_s, mu_n]; first | assumption | rfl)) (Nat.le_of_ble_eq_true rfl) (Nat.le_of_ble_eq_true rfl) ?_
  refine C_wipe hC ho (fun M1 ha1 hC1 => ?_)
  have hM1 := kM_ag hM ha1
  obtain ⟨e1, x1⟩ := hM1.1
  unfold kO at x1
  refine ev_aload_n (i := 2) dL_law_195 rfl rfl ?_
  refine ev_V0 (μ1 := mX8_wipe) dL_law_196 sL_22 okX8_wipe (by first | omega | decide) (by first | assumption | (simp (disch := omega) only [mu_s, mu_n]; first | assumption | rfl)) (Nat.le_of_ble_eq_true rfl) (Nat.le_of_ble_eq_true rfl) ?_
  refine R_wipe hM1 ho (fun M2 ha2 hM2 => ?_)
  refine ev_icmp_eq 921 dL_law_199 (by decide) (fun b199 => ?_) (fun b199 => absurd rfl b199)
  exact nx M2 _ (kC_ag hC1 ha2) hM2 (ok_wipe ho)
theorem law_fault (hL : Ls ≤ 256) (hi : i + 4 ≤ Ls) (hC : kC M s) (hM : kM M s) (ho : cOk s) (nx : ∀ M2 s2, kC M2 s2 → kM M2 s2 → cOk s2 → Ev 88 8 mL_law (some (Ls, xs)) 921 [.ref 1000, .ref 0, .ref 72, .int (nI i)] [] M2 P) : Ev 88 8 mL_law (some (Ls, xs)) 204 [.ref 1000, .ref 0, .ref 72, .int (nI i)] [] M P := by
  have x0 := hC.1
  unfold kRt at x0
  obtain ⟨e, x72⟩ := hM.1
  unfold kO at x72
  refine ev_aload_n (i := 1) dL_law_204 rfl rfl ?_
  refine ev_V0 (μ1 := mX7_fault) dL_law_205 sL_23 okX7_fault (by first | omega | decide) (by first | assumption | (simp (disch := omega) only [mu_s, mu_n]; first | assumption | rfl)) (Nat.le_of_ble_eq_true rfl) (Nat.le_of_ble_eq_true rfl) ?_
  refine C_fault hC ho ?_
  refine ev_aload_n (i := 2) dL_law_208 rfl rfl ?_
  refine ev_V0 (μ1 := mX8_fault) dL_law_209 sL_26 okX8_fault (by first | omega | decide) (by first | assumption | (simp (disch := omega) only [mu_s, mu_n]; first | assumption | rfl)) (Nat.le_of_ble_eq_true rfl) (Nat.le_of_ble_eq_true rfl) ?_
  refine R_fault hM ho (fun M2 ha2 hM2 => ?_)
  refine ev_icmp_eq 921 dL_law_212 (by decide) (fun b212 => ?_) (fun b212 => absurd rfl b212)
  exact nx M2 s (kC_ag hC ha2) hM2 ho
theorem law_office (hL : Ls ≤ 256) (hi : i + 4 ≤ Ls) (hC : kC M s) (hM : kM M s) (ho : cOk s) (nx : ∀ M2 s2, kC M2 s2 → kM M2 s2 → cOk s2 → Ev 88 8 mL_law (some (Ls, xs)) 921 [.ref 1000, .ref 0, .ref 72, .int (nI i)] [] M2 P) : Ev 88 8 mL_law (some (Ls, xs)) 217 [.ref 1000, .ref 0, .ref 72, .int (nI i)] [] M P := by
  have x0 := hC.1
  unfold kRt at x0
  obtain ⟨e, x72⟩ := hM.1
  unfold kO at x72
  refine ev_aload_n (i := 1) dL_law_217 rfl rfl ?_
  refine ev_V0 (μ1 := mX7_office) dL_law_218 sL_27 okX7_office (by first | omega | decide) (by first | assumption | (simp (disch := omega) only [mu_s, mu_n]; first | assumption | rfl)) (Nat.le_of_ble_eq_true rfl) (Nat.le_of_ble_eq_true rfl) ?_
  refine C_office hC ho (fun M1 ha1 hC1 => ?_)
  have hM1 := kM_ag hM ha1
  obtain ⟨e1, x1⟩ := hM1.1
  unfold kO at x1
  refine ev_aload_n (i := 2) dL_law_221 rfl rfl ?_
  refine ev_V0 (μ1 := mX8_office) dL_law_222 sL_30 okX8_office (by first | omega | decide) (by first | assumption | (simp (disch := omega) only [mu_s, mu_n]; first | assumption | rfl)) (Nat.le_of_ble_eq_true rfl) (Nat.le_of_ble_eq_true rfl) ?_
  refine R_office hM1 ho (fun M2 ha2 hM2 => ?_)
  refine ev_icmp_eq 921 dL_law_225 (by decide) (fun b225 => ?_) (fun b225 => absurd rfl b225)
  exact nx M2 _ (kC_ag hC1 ha2) hM2 (ok_office ho)
theorem law_about (hL : Ls ≤ 256) (hi : i + 4 ≤ Ls) (hC : kC M s) (hM : kM M s) (ho : cOk s) (nx : ∀ M2 s2, kC M2 s2 → kM M2 s2 → cOk s2 → Ev 88 8 mL_law (some (Ls, xs)) 921 [.ref 1000, .ref 0, .ref 72, .int (nI i)] [] M2 P) : Ev 88 8 mL_law (some (Ls, xs)) 230 [.ref 1000, .ref 0, .ref 72, .int (nI i)] [] M P := by
  have x0 := hC.1
  unfold kRt at x0
  obtain ⟨e, x72⟩ := hM.1
  unfold kO at x72
  refine ev_aload_n (i := 1) dL_law_230 rfl rfl ?_
  refine ev_aload_n (i := 0) dL_law_231 rfl rfl ?_
  refine ev_iload_n (i := 3) dL_law_232 rfl rfl ?_
  refine ev_iconst (v := nI 1) dL_law_233 rfl ?_
  refine ev_iaddN dL_law_234 ?_
  refine ev_sldN dL_law_235 rfl (by omega) (by omega) ?_
  refine ev_V1 (μ1 := mX7_about) dL_law_236 sL_31 okX7_about (by first | omega | decide) (by first | assumption | (simp (disch := omega) only [mu_s, mu_n]; first | assumption | rfl)) (Nat.le_of_ble_eq_true rfl) (Nat.le_of_ble_eq_true rfl) ?_
  refine C_about hC ho ?_
  refine ev_aload_n (i := 2) dL_law_239 rfl rfl ?_
  refine ev_aload_n (i := 0) dL_law_240 rfl rfl ?_
  refine ev_iload_n (i := 3) dL_law_241 rfl rfl ?_
  refine ev_iconst (v := nI 1) dL_law_242 rfl ?_
  refine ev_iaddN dL_law_243 ?_
  refine ev_sldN dL_law_244 rfl (by omega) (by omega) ?_
  refine ev_V1 (μ1 := mX8_about) dL_law_245 sL_34 okX8_about (by first | omega | decide) (by first | assumption | (simp (disch := omega) only [mu_s, mu_n]; first | assumption | rfl)) (Nat.le_of_ble_eq_true rfl) (Nat.le_of_ble_eq_true rfl) ?_
  refine R_about hM ho (fun M2 ha2 hM2 => ?_)
  refine ev_icmp_eq 921 dL_law_248 (by decide) (fun b248 => ?_) (fun b248 => absurd rfl b248)
  exact nx M2 s (kC_ag hC ha2) hM2 ho
theorem law_letter (hL : Ls ≤ 256) (hi : i + 4 ≤ Ls) (hC : kC M s) (hM : kM M s) (ho : cOk s) (nx : ∀ M2 s2, kC M2 s2 → kM M2 s2 → cOk s2 → Ev 88 8 mL_law (some (Ls, xs)) 921 [.ref 1000, .ref 0, .ref 72, .int (nI i)] [] M2 P) : Ev 88 8 mL_law (some (Ls, xs)) 253 [.ref 1000, .ref 0, .ref 72, .int (nI i)] [] M P := by
  have x0 := hC.1
  unfold kRt at x0
  obtain ⟨e, x72⟩ := hM.1
  unfold kO at x72
  refine ev_aload_n (i := 1) dL_law_253 rfl rfl ?_
  refine ev_aload_n (i := 0) dL_law_254 rfl rfl ?_
  refine ev_iload_n (i := 3) dL_law_255 rfl rfl ?_
  refine ev_iconst (v := nI 1) dL_law_256 rfl ?_
  refine ev_iaddN dL_law_257 ?_
  refine ev_sldN dL_law_258 rfl (by omega) (by omega) ?_
  refine ev_aload_n (i := 0) dL_law_259 rfl rfl ?_
  refine ev_iload_n (i := 3) dL_law_260 rfl rfl ?_
  refine ev_iconst (v := nI 2) dL_law_261 rfl ?_
  refine ev_iaddN dL_law_262 ?_
  refine ev_sldN dL_law_263 rfl (by omega) (by omega) ?_
  refine ev_V2 (μ1 := mX7_letter) dL_law_264 sL_35 okX7_letter (by first | omega | decide) (by first | assumption | (simp (disch := omega) only [mu_s, mu_n]; first | assumption | rfl)) (Nat.le_of_ble_eq_true rfl) (Nat.le_of_ble_eq_true rfl) ?_
  refine C_letter hC ho ?_
  refine ev_aload_n (i := 2) dL_law_267 rfl rfl ?_
  refine ev_aload_n (i := 0) dL_law_268 rfl rfl ?_
  refine ev_iload_n (i := 3) dL_law_269 rfl rfl ?_
  refine ev_iconst (v := nI 1) dL_law_270 rfl ?_
  refine ev_iaddN dL_law_271 ?_
  refine ev_sldN dL_law_272 rfl (by omega) (by omega) ?_
  refine ev_aload_n (i := 0) dL_law_273 rfl rfl ?_
  refine ev_iload_n (i := 3) dL_law_274 rfl rfl ?_
  refine ev_iconst (v := nI 2) dL_law_275 rfl ?_
  refine ev_iaddN dL_law_276 ?_
  refine ev_sldN dL_law_277 rfl (by omega) (by omega) ?_
  refine ev_V2 (μ1 := mX8_letter) dL_law_278 sL_39 okX8_letter (by first | omega | decide) (by first | assumption | (simp (disch := omega) only [mu_s, mu_n]; first | assumption | rfl)) (Nat.le_of_ble_eq_true rfl) (Nat.le_of_ble_eq_true rfl) ?_
  refine R_letter hM ho (fun M2 ha2 hM2 => ?_)
  refine ev_icmp_eq 921 dL_law_281 (by decide) (fun b281 => ?_) (fun b281 => absurd rfl b281)
  exact nx M2 s (kC_ag hC ha2) hM2 ho
theorem law_cell (hL : Ls ≤ 256) (hi : i + 4 ≤ Ls) (hC : kC M s) (hM : kM M s) (ho : cOk s) (nx : ∀ M2 s2, kC M2 s2 → kM M2 s2 → cOk s2 → Ev 88 8 mL_law (some (Ls, xs)) 921 [.ref 1000, .ref 0, .ref 72, .int (nI i)] [] M2 P) : Ev 88 8 mL_law (some (Ls, xs)) 286 [.ref 1000, .ref 0, .ref 72, .int (nI i)] [] M P := by
  have x0 := hC.1
  unfold kRt at x0
  obtain ⟨e, x72⟩ := hM.1
  unfold kO at x72
  refine ev_aload_n (i := 1) dL_law_286 rfl rfl ?_
  refine ev_aload_n (i := 0) dL_law_287 rfl rfl ?_
  refine ev_iload_n (i := 3) dL_law_288 rfl rfl ?_
  refine ev_iconst (v := nI 1) dL_law_289 rfl ?_
  refine ev_iaddN dL_law_290 ?_
  refine ev_sldN dL_law_291 rfl (by omega) (by omega) ?_
  refine ev_aload_n (i := 0) dL_law_292 rfl rfl ?_
  refine ev_iload_n (i := 3) dL_law_293 rfl rfl ?_
  refine ev_iconst (v := nI 2) dL_law_294 rfl ?_
  refine ev_iaddN dL_law_295 ?_
  refine ev_sldN dL_law_296 rfl (by omega) (by omega) ?_
  refine ev_V2 (μ1 := mX7_cell) dL_law_297 sL_40 okX7_cell (by first | omega | decide) (by first | assumption | (simp (disch := omega) only [mu_s, mu_n]; first | assumption | rfl)) (Nat.le_of_ble_eq_true rfl) (Nat.le_of_ble_eq_true rfl) ?_
  refine C_cell hC ho ?_
  refine ev_aload_n (i := 2) dL_law_300 rfl rfl ?_
  refine ev_aload_n (i := 0) dL_law_301 rfl rfl ?_
  refine ev_iload_n (i := 3) dL_law_302 rfl rfl ?_
  refine ev_iconst (v := nI 1) dL_law_303 rfl ?_
  refine ev_iaddN dL_law_304 ?_
  refine ev_sldN dL_law_305 rfl (by omega) (by omega) ?_
  refine ev_aload_n (i := 0) dL_law_306 rfl rfl ?_
  refine ev_iload_n (i := 3) dL_law_307 rfl rfl ?_
  refine ev_iconst (v := nI 2) dL_law_308 rfl ?_
  refine ev_iaddN dL_law_309 ?_
  refine ev_sldN dL_law_310 rfl (by omega) (by omega) ?_
  refine ev_V2 (μ1 := mX8_cell) dL_law_311 sL_43 okX8_cell (by first | omega | decide) (by first | assumption | (simp (disch := omega) only [mu_s, mu_n]; first | assumption | rfl)) (Nat.le_of_ble_eq_true rfl) (Nat.le_of_ble_eq_true rfl) ?_
  refine R_cell hM ho (fun M2 ha2 hM2 => ?_)
  refine ev_icmp_eq 921 dL_law_314 (by decide) (fun b314 => ?_) (fun b314 => absurd rfl b314)
  exact nx M2 s (kC_ag hC ha2) hM2 ho
theorem law_press (hL : Ls ≤ 256) (hi : i + 4 ≤ Ls) (hC : kC M s) (hM : kM M s) (ho : cOk s) (nx : ∀ M2 s2, kC M2 s2 → kM M2 s2 → cOk s2 → Ev 88 8 mL_law (some (Ls, xs)) 921 [.ref 1000, .ref 0, .ref 72, .int (nI i)] [] M2 P) : Ev 88 8 mL_law (some (Ls, xs)) 319 [.ref 1000, .ref 0, .ref 72, .int (nI i)] [] M P := by
  have x0 := hC.1
  unfold kRt at x0
  obtain ⟨e, x72⟩ := hM.1
  unfold kO at x72
  refine ev_aload_n (i := 1) dL_law_319 rfl rfl ?_
  refine ev_aload_n (i := 0) dL_law_320 rfl rfl ?_
  refine ev_iload_n (i := 3) dL_law_321 rfl rfl ?_
  refine ev_iconst (v := nI 1) dL_law_322 rfl ?_
  refine ev_iaddN dL_law_323 ?_
  refine ev_sldN dL_law_324 rfl (by omega) (by omega) ?_
  refine ev_V1 (μ1 := mX7_press) dL_law_325 sL_44 okX7_press (by first | omega | decide) (by first | assumption | (simp (disch := omega) only [mu_s, mu_n]; first | assumption | rfl)) (Nat.le_of_ble_eq_true rfl) (Nat.le_of_ble_eq_true rfl) ?_
  refine C_press hC ho (fun M1 ha1 hC1 => ?_)
  have hM1 := kM_ag hM ha1
  obtain ⟨e1, x1⟩ := hM1.1
  unfold kO at x1
  refine ev_aload_n (i := 2) dL_law_328 rfl rfl ?_
  refine ev_aload_n (i := 0) dL_law_329 rfl rfl ?_
  refine ev_iload_n (i := 3) dL_law_330 rfl rfl ?_
  refine ev_iconst (v := nI 1) dL_law_331 rfl ?_
  refine ev_iaddN dL_law_332 ?_
  refine ev_sldN dL_law_333 rfl (by omega) (by omega) ?_
  refine ev_V1 (μ1 := mX8_press) dL_law_334 sL_47 okX8_press (by first | omega | decide) (by first | assumption | (simp (disch := omega) only [mu_s, mu_n]; first | assumption | rfl)) (Nat.le_of_ble_eq_true rfl) (Nat.le_of_ble_eq_true rfl) ?_
  refine R_press hM1 ho (fun M2 ha2 hM2 => ?_)
  refine ev_icmp_eq 921 dL_law_337 (by decide) (fun b337 => ?_) (fun b337 => absurd rfl b337)
  exact nx M2 _ (kC_ag hC1 ha2) hM2 (ok_press ho)
theorem law_day (hL : Ls ≤ 256) (hi : i + 4 ≤ Ls) (hC : kC M s) (hM : kM M s) (ho : cOk s) (nx : ∀ M2 s2, kC M2 s2 → kM M2 s2 → cOk s2 → Ev 88 8 mL_law (some (Ls, xs)) 921 [.ref 1000, .ref 0, .ref 72, .int (nI i)] [] M2 P) : Ev 88 8 mL_law (some (Ls, xs)) 342 [.ref 1000, .ref 0, .ref 72, .int (nI i)] [] M P := by
  have x0 := hC.1
  unfold kRt at x0
  obtain ⟨e, x72⟩ := hM.1
  unfold kO at x72
  refine ev_aload_n (i := 1) dL_law_342 rfl rfl ?_
  refine ev_V0 (μ1 := mX7_day) dL_law_343 sL_48 okX7_day (by first | omega | decide) (by first | assumption | (simp (disch := omega) only [mu_s, mu_n]; first | assumption | rfl)) (Nat.le_of_ble_eq_true rfl) (Nat.le_of_ble_eq_true rfl) ?_
  refine C_day hC ho (fun M1 ha1 hC1 => ?_)
  have hM1 := kM_ag hM ha1
  obtain ⟨e1, x1⟩ := hM1.1
  unfold kO at x1
  refine ev_aload_n (i := 2) dL_law_346 rfl rfl ?_
  refine ev_V0 (μ1 := mX8_day) dL_law_347 sL_51 okX8_day (by first | omega | decide) (by first | assumption | (simp (disch := omega) only [mu_s, mu_n]; first | assumption | rfl)) (Nat.le_of_ble_eq_true rfl) (Nat.le_of_ble_eq_true rfl) ?_
  refine R_day hM1 ho (fun M2 ha2 hM2 => ?_)
  refine ev_icmp_eq 921 dL_law_350 (by decide) (fun b350 => ?_) (fun b350 => absurd rfl b350)
  exact nx M2 _ (kC_ag hC1 ha2) hM2 (ok_day ho)
theorem law_rub (hL : Ls ≤ 256) (hi : i + 4 ≤ Ls) (hC : kC M s) (hM : kM M s) (ho : cOk s) (nx : ∀ M2 s2, kC M2 s2 → kM M2 s2 → cOk s2 → Ev 88 8 mL_law (some (Ls, xs)) 921 [.ref 1000, .ref 0, .ref 72, .int (nI i)] [] M2 P) : Ev 88 8 mL_law (some (Ls, xs)) 355 [.ref 1000, .ref 0, .ref 72, .int (nI i)] [] M P := by
  have x0 := hC.1
  unfold kRt at x0
  obtain ⟨e, x72⟩ := hM.1
  unfold kO at x72
  refine ev_aload_n (i := 1) dL_law_355 rfl rfl ?_
  refine ev_aload_n (i := 0) dL_law_356 rfl rfl ?_
  refine ev_iload_n (i := 3) dL_law_357 rfl rfl ?_
  refine ev_iconst (v := nI 1) dL_law_358 rfl ?_
  refine ev_iaddN dL_law_359 ?_
  refine ev_sldN dL_law_360 rfl (by omega) (by omega) ?_
  refine ev_V1 (μ1 := mX7_rub) dL_law_361 sL_52 okX7_rub (by first | omega | decide) (by first | assumption | (simp (disch := omega) only [mu_s, mu_n]; first | assumption | rfl)) (Nat.le_of_ble_eq_true rfl) (Nat.le_of_ble_eq_true rfl) ?_
  refine C_rub hC ho (fun M1 ha1 hC1 => ?_)
  have hM1 := kM_ag hM ha1
  obtain ⟨e1, x1⟩ := hM1.1
  unfold kO at x1
  refine ev_aload_n (i := 2) dL_law_364 rfl rfl ?_
  refine ev_aload_n (i := 0) dL_law_365 rfl rfl ?_
  refine ev_iload_n (i := 3) dL_law_366 rfl rfl ?_
  refine ev_iconst (v := nI 1) dL_law_367 rfl ?_
  refine ev_iaddN dL_law_368 ?_
  refine ev_sldN dL_law_369 rfl (by omega) (by omega) ?_
  refine ev_V1 (μ1 := mX8_rub) dL_law_370 sL_55 okX8_rub (by first | omega | decide) (by first | assumption | (simp (disch := omega) only [mu_s, mu_n]; first | assumption | rfl)) (Nat.le_of_ble_eq_true rfl) (Nat.le_of_ble_eq_true rfl) ?_
  refine R_rub hM1 ho (fun M2 ha2 hM2 => ?_)
  refine ev_icmp_eq 921 dL_law_373 (by decide) (fun b373 => ?_) (fun b373 => absurd rfl b373)
  exact nx M2 _ (kC_ag hC1 ha2) hM2 (ok_rub ho)
theorem law_change (hL : Ls ≤ 256) (hi : i + 4 ≤ Ls) (hC : kC M s) (hM : kM M s) (ho : cOk s) (nx : ∀ M2 s2, kC M2 s2 → kM M2 s2 → cOk s2 → Ev 88 8 mL_law (some (Ls, xs)) 921 [.ref 1000, .ref 0, .ref 72, .int (nI i)] [] M2 P) : Ev 88 8 mL_law (some (Ls, xs)) 378 [.ref 1000, .ref 0, .ref 72, .int (nI i)] [] M P := by
  have x0 := hC.1
  unfold kRt at x0
  obtain ⟨e, x72⟩ := hM.1
  unfold kO at x72
  refine ev_aload_n (i := 1) dL_law_378 rfl rfl ?_
  refine ev_V0 (μ1 := mX7_change) dL_law_379 sL_56 okX7_change (by first | omega | decide) (by first | assumption | (simp (disch := omega) only [mu_s, mu_n]; first | assumption | rfl)) (Nat.le_of_ble_eq_true rfl) (Nat.le_of_ble_eq_true rfl) ?_
  refine C_change hC ho (fun M1 ha1 hC1 => ?_)
  have hM1 := kM_ag hM ha1
  obtain ⟨e1, x1⟩ := hM1.1
  unfold kO at x1
  refine ev_aload_n (i := 2) dL_law_382 rfl rfl ?_
  refine ev_V0 (μ1 := mX8_change) dL_law_383 sL_59 okX8_change (by first | omega | decide) (by first | assumption | (simp (disch := omega) only [mu_s, mu_n]; first | assumption | rfl)) (Nat.le_of_ble_eq_true rfl) (Nat.le_of_ble_eq_true rfl) ?_
  refine R_change hM1 ho (fun M2 ha2 hM2 => ?_)
  refine ev_icmp_eq 921 dL_law_386 (by decide) (fun b386 => ?_) (fun b386 => absurd rfl b386)
  exact nx M2 _ (kC_ag hC1 ha2) hM2 (ok_change ho)
theorem law_undo (hL : Ls ≤ 256) (hi : i + 4 ≤ Ls) (hC : kC M s) (hM : kM M s) (ho : cOk s) (nx : ∀ M2 s2, kC M2 s2 → kM M2 s2 → cOk s2 → Ev 88 8 mL_law (some (Ls, xs)) 921 [.ref 1000, .ref 0, .ref 72, .int (nI i)] [] M2 P) : Ev 88 8 mL_law (some (Ls, xs)) 391 [.ref 1000, .ref 0, .ref 72, .int (nI i)] [] M P := by
  have x0 := hC.1
  unfold kRt at x0
  obtain ⟨e, x72⟩ := hM.1
  unfold kO at x72
  refine ev_aload_n (i := 1) dL_law_391 rfl rfl ?_
  refine ev_V0 (μ1 := mX7_undo) dL_law_392 sL_60 okX7_undo (by first | omega | decide) (by first | assumption | (simp (disch := omega) only [mu_s, mu_n]; first | assumption | rfl)) (Nat.le_of_ble_eq_true rfl) (Nat.le_of_ble_eq_true rfl) ?_
  refine C_undo hC ho (fun M1 ha1 hC1 => ?_)
  have hM1 := kM_ag hM ha1
  obtain ⟨e1, x1⟩ := hM1.1
  unfold kO at x1
  refine ev_aload_n (i := 2) dL_law_395 rfl rfl ?_
  refine ev_V0 (μ1 := mX8_undo) dL_law_396 sL_63 okX8_undo (by first | omega | decide) (by first | assumption | (simp (disch := omega) only [mu_s, mu_n]; first | assumption | rfl)) (Nat.le_of_ble_eq_true rfl) (Nat.le_of_ble_eq_true rfl) ?_
  refine R_undo hM1 ho (fun M2 ha2 hM2 => ?_)
  refine ev_icmp_eq 921 dL_law_399 (by decide) (fun b399 => ?_) (fun b399 => absurd rfl b399)
  exact nx M2 _ (kC_ag hC1 ha2) hM2 (ok_undo ho)
theorem law_later (hL : Ls ≤ 256) (hi : i + 4 ≤ Ls) (hC : kC M s) (hM : kM M s) (ho : cOk s) (nx : ∀ M2 s2, kC M2 s2 → kM M2 s2 → cOk s2 → Ev 88 8 mL_law (some (Ls, xs)) 921 [.ref 1000, .ref 0, .ref 72, .int (nI i)] [] M2 P) : Ev 88 8 mL_law (some (Ls, xs)) 404 [.ref 1000, .ref 0, .ref 72, .int (nI i)] [] M P := by
  have x0 := hC.1
  unfold kRt at x0
  obtain ⟨e, x72⟩ := hM.1
  unfold kO at x72
  refine ev_aload_n (i := 1) dL_law_404 rfl rfl ?_
  refine ev_aload_n (i := 0) dL_law_405 rfl rfl ?_
  refine ev_iload_n (i := 3) dL_law_406 rfl rfl ?_
  refine ev_iconst (v := nI 1) dL_law_407 rfl ?_
  refine ev_iaddN dL_law_408 ?_
  refine ev_sldN dL_law_409 rfl (by omega) (by omega) ?_
  refine ev_V1 (μ1 := mX7_later) dL_law_410 sL_64 okX7_later (by first | omega | decide) (by first | assumption | (simp (disch := omega) only [mu_s, mu_n]; first | assumption | rfl)) (Nat.le_of_ble_eq_true rfl) (Nat.le_of_ble_eq_true rfl) ?_
  refine C_later hC ho ?_
  refine ev_aload_n (i := 2) dL_law_413 rfl rfl ?_
  refine ev_aload_n (i := 0) dL_law_414 rfl rfl ?_
  refine ev_iload_n (i := 3) dL_law_415 rfl rfl ?_
  refine ev_iconst (v := nI 1) dL_law_416 rfl ?_
  refine ev_iaddN dL_law_417 ?_
  refine ev_sldN dL_law_418 rfl (by omega) (by omega) ?_
  refine ev_V1 (μ1 := mX8_later) dL_law_419 sL_67 okX8_later (by first | omega | decide) (by first | assumption | (simp (disch := omega) only [mu_s, mu_n]; first | assumption | rfl)) (Nat.le_of_ble_eq_true rfl) (Nat.le_of_ble_eq_true rfl) ?_
  refine R_later hM ho (fun M2 ha2 hM2 => ?_)
  refine ev_icmp_eq 921 dL_law_422 (by decide) (fun b422 => ?_) (fun b422 => absurd rfl b422)
  exact nx M2 s (kC_ag hC ha2) hM2 ho
theorem law_lasts (hL : Ls ≤ 256) (hi : i + 4 ≤ Ls) (hC : kC M s) (hM : kM M s) (ho : cOk s) (nx : ∀ M2 s2, kC M2 s2 → kM M2 s2 → cOk s2 → Ev 88 8 mL_law (some (Ls, xs)) 921 [.ref 1000, .ref 0, .ref 72, .int (nI i)] [] M2 P) : Ev 88 8 mL_law (some (Ls, xs)) 427 [.ref 1000, .ref 0, .ref 72, .int (nI i)] [] M P := by
  have x0 := hC.1
  unfold kRt at x0
  obtain ⟨e, x72⟩ := hM.1
  unfold kO at x72
  refine ev_aload_n (i := 1) dL_law_427 rfl rfl ?_
  refine ev_aload_n (i := 0) dL_law_428 rfl rfl ?_
  refine ev_iload_n (i := 3) dL_law_429 rfl rfl ?_
  refine ev_iconst (v := nI 1) dL_law_430 rfl ?_
  refine ev_iaddN dL_law_431 ?_
  refine ev_sldN dL_law_432 rfl (by omega) (by omega) ?_
  refine ev_V1 (μ1 := mX7_lasts) dL_law_433 sL_68 okX7_lasts (by first | omega | decide) (by first | assumption | (simp (disch := omega) only [mu_s, mu_n]; first | assumption | rfl)) (Nat.le_of_ble_eq_true rfl) (Nat.le_of_ble_eq_true rfl) ?_
  refine C_lasts hC ho ?_
  refine ev_aload_n (i := 2) dL_law_436 rfl rfl ?_
  refine ev_aload_n (i := 0) dL_law_437 rfl rfl ?_
  refine ev_iload_n (i := 3) dL_law_438 rfl rfl ?_
  refine ev_iconst (v := nI 1) dL_law_439 rfl ?_
  refine ev_iaddN dL_law_440 ?_
  refine ev_sldN dL_law_441 rfl (by omega) (by omega) ?_
  refine ev_V1 (μ1 := mX8_lasts) dL_law_442 sL_71 okX8_lasts (by first | omega | decide) (by first | assumption | (simp (disch := omega) only [mu_s, mu_n]; first | assumption | rfl)) (Nat.le_of_ble_eq_true rfl) (Nat.le_of_ble_eq_true rfl) ?_
  refine R_lasts hM ho (fun M2 ha2 hM2 => ?_)
  refine ev_icmp_eq 921 dL_law_445 (by decide) (fun b445 => ?_) (fun b445 => absurd rfl b445)
  exact nx M2 s (kC_ag hC ha2) hM2 ho
theorem law_shows (hL : Ls ≤ 256) (hi : i + 4 ≤ Ls) (hC : kC M s) (hM : kM M s) (ho : cOk s) (nx : ∀ M2 s2, kC M2 s2 → kM M2 s2 → cOk s2 → Ev 88 8 mL_law (some (Ls, xs)) 921 [.ref 1000, .ref 0, .ref 72, .int (nI i)] [] M2 P) : Ev 88 8 mL_law (some (Ls, xs)) 450 [.ref 1000, .ref 0, .ref 72, .int (nI i)] [] M P := by
  have x0 := hC.1
  unfold kRt at x0
  obtain ⟨e, x72⟩ := hM.1
  unfold kO at x72
  refine ev_aload_n (i := 1) dL_law_450 rfl rfl ?_
  refine ev_aload_n (i := 0) dL_law_451 rfl rfl ?_
  refine ev_iload_n (i := 3) dL_law_452 rfl rfl ?_
  refine ev_iconst (v := nI 1) dL_law_453 rfl ?_
  refine ev_iaddN dL_law_454 ?_
  refine ev_sldN dL_law_455 rfl (by omega) (by omega) ?_
  refine ev_V1 (μ1 := mX7_shows) dL_law_456 sL_72 okX7_shows (by first | omega | decide) (by first | assumption | (simp (disch := omega) only [mu_s, mu_n]; first | assumption | rfl)) (Nat.le_of_ble_eq_true rfl) (Nat.le_of_ble_eq_true rfl) ?_
  refine C_shows hC ho ?_
  refine ev_aload_n (i := 2) dL_law_459 rfl rfl ?_
  refine ev_aload_n (i := 0) dL_law_460 rfl rfl ?_
  refine ev_iload_n (i := 3) dL_law_461 rfl rfl ?_
  refine ev_iconst (v := nI 1) dL_law_462 rfl ?_
  refine ev_iaddN dL_law_463 ?_
  refine ev_sldN dL_law_464 rfl (by omega) (by omega) ?_
  refine ev_V1 (μ1 := mX8_shows) dL_law_465 sL_75 okX8_shows (by first | omega | decide) (by first | assumption | (simp (disch := omega) only [mu_s, mu_n]; first | assumption | rfl)) (Nat.le_of_ble_eq_true rfl) (Nat.le_of_ble_eq_true rfl) ?_
  refine R_shows hM ho (fun M2 ha2 hM2 => ?_)
  refine ev_icmp_eq 921 dL_law_468 (by decide) (fun b468 => ?_) (fun b468 => absurd rfl b468)
  exact nx M2 s (kC_ag hC ha2) hM2 ho
theorem law_fits (hL : Ls ≤ 256) (hi : i + 4 ≤ Ls) (hC : kC M s) (hM : kM M s) (ho : cOk s) (nx : ∀ M2 s2, kC M2 s2 → kM M2 s2 → cOk s2 → Ev 88 8 mL_law (some (Ls, xs)) 921 [.ref 1000, .ref 0, .ref 72, .int (nI i)] [] M2 P) : Ev 88 8 mL_law (some (Ls, xs)) 473 [.ref 1000, .ref 0, .ref 72, .int (nI i)] [] M P := by
  have x0 := hC.1
  unfold kRt at x0
  obtain ⟨e, x72⟩ := hM.1
  unfold kO at x72
  refine ev_aload_n (i := 1) dL_law_473 rfl rfl ?_
  refine ev_aload_n (i := 0) dL_law_474 rfl rfl ?_
  refine ev_iload_n (i := 3) dL_law_475 rfl rfl ?_
  refine ev_iconst (v := nI 1) dL_law_476 rfl ?_
  refine ev_iaddN dL_law_477 ?_
  refine ev_sldN dL_law_478 rfl (by omega) (by omega) ?_
  refine ev_V1 (μ1 := mX7_fits) dL_law_479 sL_76 okX7_fits (by first | omega | decide) (by first | assumption | (simp (disch := omega) only [mu_s, mu_n]; first | assumption | rfl)) (Nat.le_of_ble_eq_true rfl) (Nat.le_of_ble_eq_true rfl) ?_
  refine C_fits hC ho ?_
  refine ev_aload_n (i := 2) dL_law_482 rfl rfl ?_
  refine ev_aload_n (i := 0) dL_law_483 rfl rfl ?_
  refine ev_iload_n (i := 3) dL_law_484 rfl rfl ?_
  refine ev_iconst (v := nI 1) dL_law_485 rfl ?_
  refine ev_iaddN dL_law_486 ?_
  refine ev_sldN dL_law_487 rfl (by omega) (by omega) ?_
  refine ev_V1 (μ1 := mX8_fits) dL_law_488 sL_79 okX8_fits (by first | omega | decide) (by first | assumption | (simp (disch := omega) only [mu_s, mu_n]; first | assumption | rfl)) (Nat.le_of_ble_eq_true rfl) (Nat.le_of_ble_eq_true rfl) ?_
  refine R_fits hM ho (fun M2 ha2 hM2 => ?_)
  refine ev_icmp_eq 921 dL_law_491 (by decide) (fun b491 => ?_) (fun b491 => absurd rfl b491)
  exact nx M2 s (kC_ag hC ha2) hM2 ho
theorem law_keeps (hL : Ls ≤ 256) (hi : i + 4 ≤ Ls) (hC : kC M s) (hM : kM M s) (ho : cOk s) (nx : ∀ M2 s2, kC M2 s2 → kM M2 s2 → cOk s2 → Ev 88 8 mL_law (some (Ls, xs)) 921 [.ref 1000, .ref 0, .ref 72, .int (nI i)] [] M2 P) : Ev 88 8 mL_law (some (Ls, xs)) 496 [.ref 1000, .ref 0, .ref 72, .int (nI i)] [] M P := by
  have x0 := hC.1
  unfold kRt at x0
  obtain ⟨e, x72⟩ := hM.1
  unfold kO at x72
  refine ev_aload_n (i := 1) dL_law_496 rfl rfl ?_
  refine ev_aload_n (i := 0) dL_law_497 rfl rfl ?_
  refine ev_iload_n (i := 3) dL_law_498 rfl rfl ?_
  refine ev_iconst (v := nI 1) dL_law_499 rfl ?_
  refine ev_iaddN dL_law_500 ?_
  refine ev_sldN dL_law_501 rfl (by omega) (by omega) ?_
  refine ev_V1 (μ1 := mX7_keeps) dL_law_502 sL_80 okX7_keeps (by first | omega | decide) (by first | assumption | (simp (disch := omega) only [mu_s, mu_n]; first | assumption | rfl)) (Nat.le_of_ble_eq_true rfl) (Nat.le_of_ble_eq_true rfl) ?_
  refine C_keeps hC ho ?_
  refine ev_aload_n (i := 2) dL_law_505 rfl rfl ?_
  refine ev_aload_n (i := 0) dL_law_506 rfl rfl ?_
  refine ev_iload_n (i := 3) dL_law_507 rfl rfl ?_
  refine ev_iconst (v := nI 1) dL_law_508 rfl ?_
  refine ev_iaddN dL_law_509 ?_
  refine ev_sldN dL_law_510 rfl (by omega) (by omega) ?_
  refine ev_V1 (μ1 := mX8_keeps) dL_law_511 sL_83 okX8_keeps (by first | omega | decide) (by first | assumption | (simp (disch := omega) only [mu_s, mu_n]; first | assumption | rfl)) (Nat.le_of_ble_eq_true rfl) (Nat.le_of_ble_eq_true rfl) ?_
  refine R_keeps hM ho (fun M2 ha2 hM2 => ?_)
  refine ev_icmp_eq 921 dL_law_514 (by decide) (fun b514 => ?_) (fun b514 => absurd rfl b514)
  exact nx M2 s (kC_ag hC ha2) hM2 ho
theorem law_twice (hL : Ls ≤ 256) (hi : i + 4 ≤ Ls) (hC : kC M s) (hM : kM M s) (ho : cOk s) (nx : ∀ M2 s2, kC M2 s2 → kM M2 s2 → cOk s2 → Ev 88 8 mL_law (some (Ls, xs)) 921 [.ref 1000, .ref 0, .ref 72, .int (nI i)] [] M2 P) : Ev 88 8 mL_law (some (Ls, xs)) 519 [.ref 1000, .ref 0, .ref 72, .int (nI i)] [] M P := by
  have x0 := hC.1
  unfold kRt at x0
  obtain ⟨e, x72⟩ := hM.1
  unfold kO at x72
  refine ev_aload_n (i := 1) dL_law_519 rfl rfl ?_
  refine ev_aload_n (i := 0) dL_law_520 rfl rfl ?_
  refine ev_iload_n (i := 3) dL_law_521 rfl rfl ?_
  refine ev_iconst (v := nI 1) dL_law_522 rfl ?_
  refine ev_iaddN dL_law_523 ?_
  refine ev_sldN dL_law_524 rfl (by omega) (by omega) ?_
  refine ev_V1 (μ1 := mX7_twice) dL_law_525 sL_84 okX7_twice (by first | omega | decide) (by first | assumption | (simp (disch := omega) only [mu_s, mu_n]; first | assumption | rfl)) (Nat.le_of_ble_eq_true rfl) (Nat.le_of_ble_eq_true rfl) ?_
  refine C_twice hC ho (fun M1 ha1 hC1 => ?_)
  have hM1 := kM_ag hM ha1
  obtain ⟨e1, x1⟩ := hM1.1
  unfold kO at x1
  refine ev_aload_n (i := 2) dL_law_528 rfl rfl ?_
  refine ev_aload_n (i := 0) dL_law_529 rfl rfl ?_
  refine ev_iload_n (i := 3) dL_law_530 rfl rfl ?_
  refine ev_iconst (v := nI 1) dL_law_531 rfl ?_
  refine ev_iaddN dL_law_532 ?_
  refine ev_sldN dL_law_533 rfl (by omega) (by omega) ?_
  refine ev_V1 (μ1 := mX8_twice) dL_law_534 sL_87 okX8_twice (by first | omega | decide) (by first | assumption | (simp (disch := omega) only [mu_s, mu_n]; first | assumption | rfl)) (Nat.le_of_ble_eq_true rfl) (Nat.le_of_ble_eq_true rfl) ?_
  refine R_twice hM1 ho (fun M2 ha2 hM2 => ?_)
  refine ev_icmp_eq 921 dL_law_537 (by decide) (fun b537 => ?_) (fun b537 => absurd rfl b537)
  exact nx M2 _ (kC_ag hC1 ha2) hM2 ho
theorem law_crossed (hL : Ls ≤ 256) (hi : i + 4 ≤ Ls) (hC : kC M s) (hM : kM M s) (ho : cOk s) (nx : ∀ M2 s2, kC M2 s2 → kM M2 s2 → cOk s2 → Ev 88 8 mL_law (some (Ls, xs)) 921 [.ref 1000, .ref 0, .ref 72, .int (nI i)] [] M2 P) : Ev 88 8 mL_law (some (Ls, xs)) 542 [.ref 1000, .ref 0, .ref 72, .int (nI i)] [] M P := by
  have x0 := hC.1
  unfold kRt at x0
  obtain ⟨e, x72⟩ := hM.1
  unfold kO at x72
  refine ev_aload_n (i := 1) dL_law_542 rfl rfl ?_
  refine ev_aload_n (i := 0) dL_law_543 rfl rfl ?_
  refine ev_iload_n (i := 3) dL_law_544 rfl rfl ?_
  refine ev_iconst (v := nI 1) dL_law_545 rfl ?_
  refine ev_iaddN dL_law_546 ?_
  refine ev_sldN dL_law_547 rfl (by omega) (by omega) ?_
  refine ev_V1 (μ1 := mX7_crossed) dL_law_548 sL_88 okX7_crossed (by first | omega | decide) (by first | assumption | (simp (disch := omega) only [mu_s, mu_n]; first | assumption | rfl)) (Nat.le_of_ble_eq_true rfl) (Nat.le_of_ble_eq_true rfl) ?_
  refine C_crossed hC ho ?_
  refine ev_aload_n (i := 2) dL_law_551 rfl rfl ?_
  refine ev_aload_n (i := 0) dL_law_552 rfl rfl ?_
  refine ev_iload_n (i := 3) dL_law_553 rfl rfl ?_
  refine ev_iconst (v := nI 1) dL_law_554 rfl ?_
  refine ev_iaddN dL_law_555 ?_
  refine ev_sldN dL_law_556 rfl (by omega) (by omega) ?_
  refine ev_V1 (μ1 := mX8_crossed) dL_law_557 sL_91 okX8_crossed (by first | omega | decide) (by first | assumption | (simp (disch := omega) only [mu_s, mu_n]; first | assumption | rfl)) (Nat.le_of_ble_eq_true rfl) (Nat.le_of_ble_eq_true rfl) ?_
  refine R_crossed hM ho (fun M2 ha2 hM2 => ?_)
  refine ev_icmp_eq 921 dL_law_560 (by decide) (fun b560 => ?_) (fun b560 => absurd rfl b560)
  exact nx M2 s (kC_ag hC ha2) hM2 ho
theorem law_least (hL : Ls ≤ 256) (hi : i + 4 ≤ Ls) (hC : kC M s) (hM : kM M s) (ho : cOk s) (nx : ∀ M2 s2, kC M2 s2 → kM M2 s2 → cOk s2 → Ev 88 8 mL_law (some (Ls, xs)) 921 [.ref 1000, .ref 0, .ref 72, .int (nI i)] [] M2 P) : Ev 88 8 mL_law (some (Ls, xs)) 565 [.ref 1000, .ref 0, .ref 72, .int (nI i)] [] M P := by
  have x0 := hC.1
  unfold kRt at x0
  obtain ⟨e, x72⟩ := hM.1
  unfold kO at x72
  refine ev_aload_n (i := 1) dL_law_565 rfl rfl ?_
  refine ev_aload_n (i := 0) dL_law_566 rfl rfl ?_
  refine ev_iload_n (i := 3) dL_law_567 rfl rfl ?_
  refine ev_iconst (v := nI 1) dL_law_568 rfl ?_
  refine ev_iaddN dL_law_569 ?_
  refine ev_sldN dL_law_570 rfl (by omega) (by omega) ?_
  refine ev_V1 (μ1 := mX7_least) dL_law_571 sL_92 okX7_least (by first | omega | decide) (by first | assumption | (simp (disch := omega) only [mu_s, mu_n]; first | assumption | rfl)) (Nat.le_of_ble_eq_true rfl) (Nat.le_of_ble_eq_true rfl) ?_
  refine C_least hC ho ?_
  refine ev_aload_n (i := 2) dL_law_574 rfl rfl ?_
  refine ev_aload_n (i := 0) dL_law_575 rfl rfl ?_
  refine ev_iload_n (i := 3) dL_law_576 rfl rfl ?_
  refine ev_iconst (v := nI 1) dL_law_577 rfl ?_
  refine ev_iaddN dL_law_578 ?_
  refine ev_sldN dL_law_579 rfl (by omega) (by omega) ?_
  refine ev_V1 (μ1 := mX8_least) dL_law_580 sL_95 okX8_least (by first | omega | decide) (by first | assumption | (simp (disch := omega) only [mu_s, mu_n]; first | assumption | rfl)) (Nat.le_of_ble_eq_true rfl) (Nat.le_of_ble_eq_true rfl) ?_
  refine R_least hM ho (fun M2 ha2 hM2 => ?_)
  refine ev_icmp_eq 921 dL_law_583 (by decide) (fun b583 => ?_) (fun b583 => absurd rfl b583)
  exact nx M2 s (kC_ag hC ha2) hM2 ho
theorem law_share (hL : Ls ≤ 256) (hi : i + 4 ≤ Ls) (hC : kC M s) (hM : kM M s) (ho : cOk s) (nx : ∀ M2 s2, kC M2 s2 → kM M2 s2 → cOk s2 → Ev 88 8 mL_law (some (Ls, xs)) 921 [.ref 1000, .ref 0, .ref 72, .int (nI i)] [] M2 P) : Ev 88 8 mL_law (some (Ls, xs)) 588 [.ref 1000, .ref 0, .ref 72, .int (nI i)] [] M P := by
  have x0 := hC.1
  unfold kRt at x0
  obtain ⟨e, x72⟩ := hM.1
  unfold kO at x72
  by_cases hu : xs (i + 2) = 0
  · skip
    refine ev_aload_n (i := 1) dL_law_588 rfl rfl ?_
    refine ev_aload_n (i := 0) dL_law_589 rfl rfl ?_
    refine ev_iload_n (i := 3) dL_law_590 rfl rfl ?_
    refine ev_iconst (v := nI 1) dL_law_591 rfl ?_
    refine ev_iaddN dL_law_592 ?_
    refine ev_sldN dL_law_593 rfl (by omega) (by omega) ?_
    refine ev_aload_n (i := 0) dL_law_594 rfl rfl ?_
    refine ev_iload_n (i := 3) dL_law_595 rfl rfl ?_
    refine ev_iconst (v := nI 2) dL_law_596 rfl ?_
    refine ev_iaddN dL_law_597 ?_
    refine ev_sldN dL_law_598 rfl (by omega) (by omega) ?_
    refine ev_if_eq 606 dL_law_599 (by decide) (fun b599 => ?_) (fun b599 => absurd hu b599)
    refine ev_iconst (v := nI 0) dL_law_606 rfl ?_
    refine ev_V2 (μ1 := mX7_share) dL_law_607 sL_96 okX7_share (by first | omega | decide) (by first | assumption | (simp (disch := omega) only [mu_s, mu_n]; first | assumption | rfl)) (Nat.le_of_ble_eq_true rfl) (Nat.le_of_ble_eq_true rfl) ?_
    refine C_share (u := false) hC ho ?_
    refine ev_aload_n (i := 2) dL_law_610 rfl rfl ?_
    refine ev_aload_n (i := 0) dL_law_611 rfl rfl ?_
    refine ev_iload_n (i := 3) dL_law_612 rfl rfl ?_
    refine ev_iconst (v := nI 1) dL_law_613 rfl ?_
    refine ev_iaddN dL_law_614 ?_
    refine ev_sldN dL_law_615 rfl (by omega) (by omega) ?_
    refine ev_aload_n (i := 0) dL_law_616 rfl rfl ?_
    refine ev_iload_n (i := 3) dL_law_617 rfl rfl ?_
    refine ev_iconst (v := nI 2) dL_law_618 rfl ?_
    refine ev_iaddN dL_law_619 ?_
    refine ev_sldN dL_law_620 rfl (by omega) (by omega) ?_
    refine ev_if_eq 628 dL_law_621 (by decide) (fun b621 => ?_) (fun b621 => absurd hu b621)
    refine ev_iconst (v := nI 0) dL_law_628 rfl ?_
    refine ev_V2 (μ1 := mX8_share) dL_law_629 sL_100 okX8_share (by first | omega | decide) (by first | assumption | (simp (disch := omega) only [mu_s, mu_n]; first | assumption | rfl)) (Nat.le_of_ble_eq_true rfl) (Nat.le_of_ble_eq_true rfl) ?_
    refine R_share (u := false) hM ho (fun M2 ha2 hM2 => ?_)
    refine ev_icmp_eq 921 dL_law_632 (by decide) (fun b632 => ?_) (fun b632 => absurd rfl b632)
    exact nx M2 s (kC_ag hC ha2) hM2 ho
  · skip
    refine ev_aload_n (i := 1) dL_law_588 rfl rfl ?_
    refine ev_aload_n (i := 0) dL_law_589 rfl rfl ?_
    refine ev_iload_n (i := 3) dL_law_590 rfl rfl ?_
    refine ev_iconst (v := nI 1) dL_law_591 rfl ?_
    refine ev_iaddN dL_law_592 ?_
    refine ev_sldN dL_law_593 rfl (by omega) (by omega) ?_
    refine ev_aload_n (i := 0) dL_law_594 rfl rfl ?_
    refine ev_iload_n (i := 3) dL_law_595 rfl rfl ?_
    refine ev_iconst (v := nI 2) dL_law_596 rfl ?_
    refine ev_iaddN dL_law_597 ?_
    refine ev_sldN dL_law_598 rfl (by omega) (by omega) ?_
    refine ev_if_eq 606 dL_law_599 (by decide) (fun b599 => absurd b599 hu) (fun b599 => ?_)
    refine ev_iconst (v := nI 1) dL_law_602 rfl ?_
    refine ev_goto 607 dL_law_603 (by decide) ?_
    refine ev_V2 (μ1 := mX7_share) dL_law_607 sL_96 okX7_share (by first | omega | decide) (by first | assumption | (simp (disch := omega) only [mu_s, mu_n]; first | assumption | rfl)) (Nat.le_of_ble_eq_true rfl) (Nat.le_of_ble_eq_true rfl) ?_
    refine C_share (u := true) hC ho ?_
    refine ev_aload_n (i := 2) dL_law_610 rfl rfl ?_
    refine ev_aload_n (i := 0) dL_law_611 rfl rfl ?_
    refine ev_iload_n (i := 3) dL_law_612 rfl rfl ?_
    refine ev_iconst (v := nI 1) dL_law_613 rfl ?_
    refine ev_iaddN dL_law_614 ?_
    refine ev_sldN dL_law_615 rfl (by omega) (by omega) ?_
    refine ev_aload_n (i := 0) dL_law_616 rfl rfl ?_
    refine ev_iload_n (i := 3) dL_law_617 rfl rfl ?_
    refine ev_iconst (v := nI 2) dL_law_618 rfl ?_
    refine ev_iaddN dL_law_619 ?_
    refine ev_sldN dL_law_620 rfl (by omega) (by omega) ?_
    refine ev_if_eq 628 dL_law_621 (by decide) (fun b621 => absurd b621 hu) (fun b621 => ?_)
    refine ev_iconst (v := nI 1) dL_law_624 rfl ?_
    refine ev_goto 629 dL_law_625 (by decide) ?_
    refine ev_V2 (μ1 := mX8_share) dL_law_629 sL_100 okX8_share (by first | omega | decide) (by first | assumption | (simp (disch := omega) only [mu_s, mu_n]; first | assumption | rfl)) (Nat.le_of_ble_eq_true rfl) (Nat.le_of_ble_eq_true rfl) ?_
    refine R_share (u := true) hM ho (fun M2 ha2 hM2 => ?_)
    refine ev_icmp_eq 921 dL_law_632 (by decide) (fun b632 => ?_) (fun b632 => absurd rfl b632)
    exact nx M2 s (kC_ag hC ha2) hM2 ho
theorem law_tell (hL : Ls ≤ 256) (hi : i + 4 ≤ Ls) (hC : kC M s) (hM : kM M s) (ho : cOk s) (nx : ∀ M2 s2, kC M2 s2 → kM M2 s2 → cOk s2 → Ev 88 8 mL_law (some (Ls, xs)) 921 [.ref 1000, .ref 0, .ref 72, .int (nI i)] [] M2 P) : Ev 88 8 mL_law (some (Ls, xs)) 637 [.ref 1000, .ref 0, .ref 72, .int (nI i)] [] M P := by
  have x0 := hC.1
  unfold kRt at x0
  obtain ⟨e, x72⟩ := hM.1
  unfold kO at x72
  refine ev_aload_n (i := 1) dL_law_637 rfl rfl ?_
  refine ev_aload_n (i := 0) dL_law_638 rfl rfl ?_
  refine ev_iload_n (i := 3) dL_law_639 rfl rfl ?_
  refine ev_iconst (v := nI 1) dL_law_640 rfl ?_
  refine ev_iaddN dL_law_641 ?_
  refine ev_sldN dL_law_642 rfl (by omega) (by omega) ?_
  refine ev_aload_n (i := 0) dL_law_643 rfl rfl ?_
  refine ev_iload_n (i := 3) dL_law_644 rfl rfl ?_
  refine ev_iconst (v := nI 2) dL_law_645 rfl ?_
  refine ev_iaddN dL_law_646 ?_
  refine ev_sldN dL_law_647 rfl (by omega) (by omega) ?_
  refine ev_V2 (μ1 := mX7_tell) dL_law_648 sL_101 okX7_tell (by first | omega | decide) (by first | assumption | (simp (disch := omega) only [mu_s, mu_n]; first | assumption | rfl)) (Nat.le_of_ble_eq_true rfl) (Nat.le_of_ble_eq_true rfl) ?_
  refine C_tell hC ho (fun M1 ha1 hC1 => ?_)
  have hM1 := kM_ag hM ha1
  obtain ⟨e1, x1⟩ := hM1.1
  unfold kO at x1
  refine ev_aload_n (i := 2) dL_law_651 rfl rfl ?_
  refine ev_aload_n (i := 0) dL_law_652 rfl rfl ?_
  refine ev_iload_n (i := 3) dL_law_653 rfl rfl ?_
  refine ev_iconst (v := nI 1) dL_law_654 rfl ?_
  refine ev_iaddN dL_law_655 ?_
  refine ev_sldN dL_law_656 rfl (by omega) (by omega) ?_
  refine ev_aload_n (i := 0) dL_law_657 rfl rfl ?_
  refine ev_iload_n (i := 3) dL_law_658 rfl rfl ?_
  refine ev_iconst (v := nI 2) dL_law_659 rfl ?_
  refine ev_iaddN dL_law_660 ?_
  refine ev_sldN dL_law_661 rfl (by omega) (by omega) ?_
  refine ev_V2 (μ1 := mX8_tell) dL_law_662 sL_104 okX8_tell (by first | omega | decide) (by first | assumption | (simp (disch := omega) only [mu_s, mu_n]; first | assumption | rfl)) (Nat.le_of_ble_eq_true rfl) (Nat.le_of_ble_eq_true rfl) ?_
  refine R_tell hM1 ho (fun M2 ha2 hM2 => ?_)
  refine ev_icmp_eq 921 dL_law_665 (by decide) (fun b665 => ?_) (fun b665 => absurd rfl b665)
  exact nx M2 _ (kC_ag hC1 ha2) hM2 (ok_tell ho)
theorem law_untell (hL : Ls ≤ 256) (hi : i + 4 ≤ Ls) (hC : kC M s) (hM : kM M s) (ho : cOk s) (nx : ∀ M2 s2, kC M2 s2 → kM M2 s2 → cOk s2 → Ev 88 8 mL_law (some (Ls, xs)) 921 [.ref 1000, .ref 0, .ref 72, .int (nI i)] [] M2 P) : Ev 88 8 mL_law (some (Ls, xs)) 670 [.ref 1000, .ref 0, .ref 72, .int (nI i)] [] M P := by
  have x0 := hC.1
  unfold kRt at x0
  obtain ⟨e, x72⟩ := hM.1
  unfold kO at x72
  refine ev_aload_n (i := 1) dL_law_670 rfl rfl ?_
  refine ev_V0 (μ1 := mX7_untell) dL_law_671 sL_105 okX7_untell (by first | omega | decide) (by first | assumption | (simp (disch := omega) only [mu_s, mu_n]; first | assumption | rfl)) (Nat.le_of_ble_eq_true rfl) (Nat.le_of_ble_eq_true rfl) ?_
  refine C_untell hC ho (fun M1 ha1 hC1 => ?_)
  have hM1 := kM_ag hM ha1
  obtain ⟨e1, x1⟩ := hM1.1
  unfold kO at x1
  refine ev_aload_n (i := 2) dL_law_674 rfl rfl ?_
  refine ev_V0 (μ1 := mX8_untell) dL_law_675 sL_108 okX8_untell (by first | omega | decide) (by first | assumption | (simp (disch := omega) only [mu_s, mu_n]; first | assumption | rfl)) (Nat.le_of_ble_eq_true rfl) (Nat.le_of_ble_eq_true rfl) ?_
  refine R_untell hM1 ho (fun M2 ha2 hM2 => ?_)
  refine ev_icmp_eq 921 dL_law_678 (by decide) (fun b678 => ?_) (fun b678 => absurd rfl b678)
  exact nx M2 _ (kC_ag hC1 ha2) hM2 (ok_untell ho)
theorem law_orders (hL : Ls ≤ 256) (hi : i + 4 ≤ Ls) (hC : kC M s) (hM : kM M s) (ho : cOk s) (nx : ∀ M2 s2, kC M2 s2 → kM M2 s2 → cOk s2 → Ev 88 8 mL_law (some (Ls, xs)) 921 [.ref 1000, .ref 0, .ref 72, .int (nI i)] [] M2 P) : Ev 88 8 mL_law (some (Ls, xs)) 683 [.ref 1000, .ref 0, .ref 72, .int (nI i)] [] M P := by
  have x0 := hC.1
  unfold kRt at x0
  obtain ⟨e, x72⟩ := hM.1
  unfold kO at x72
  refine ev_aload_n (i := 1) dL_law_683 rfl rfl ?_
  refine ev_aload_n (i := 0) dL_law_684 rfl rfl ?_
  refine ev_iload_n (i := 3) dL_law_685 rfl rfl ?_
  refine ev_iconst (v := nI 1) dL_law_686 rfl ?_
  refine ev_iaddN dL_law_687 ?_
  refine ev_sldN dL_law_688 rfl (by omega) (by omega) ?_
  refine ev_V1 (μ1 := mX7_orders) dL_law_689 sL_109 okX7_orders (by first | omega | decide) (by first | assumption | (simp (disch := omega) only [mu_s, mu_n]; first | assumption | rfl)) (Nat.le_of_ble_eq_true rfl) (Nat.le_of_ble_eq_true rfl) ?_
  refine C_orders hC ho (fun M1 ha1 hC1 => ?_)
  have hM1 := kM_ag hM ha1
  obtain ⟨e1, x1⟩ := hM1.1
  unfold kO at x1
  refine ev_aload_n (i := 2) dL_law_692 rfl rfl ?_
  refine ev_aload_n (i := 0) dL_law_693 rfl rfl ?_
  refine ev_iload_n (i := 3) dL_law_694 rfl rfl ?_
  refine ev_iconst (v := nI 1) dL_law_695 rfl ?_
  refine ev_iaddN dL_law_696 ?_
  refine ev_sldN dL_law_697 rfl (by omega) (by omega) ?_
  refine ev_V1 (μ1 := mX8_orders) dL_law_698 sL_112 okX8_orders (by first | omega | decide) (by first | assumption | (simp (disch := omega) only [mu_s, mu_n]; first | assumption | rfl)) (Nat.le_of_ble_eq_true rfl) (Nat.le_of_ble_eq_true rfl) ?_
  refine R_orders hM1 ho (fun M2 ha2 hM2 => ?_)
  refine ev_icmp_eq 921 dL_law_701 (by decide) (fun b701 => ?_) (fun b701 => absurd rfl b701)
  exact nx M2 _ (kC_ag hC1 ha2) hM2 ho
theorem law_rests (hL : Ls ≤ 256) (hi : i + 4 ≤ Ls) (hC : kC M s) (hM : kM M s) (ho : cOk s) (nx : ∀ M2 s2, kC M2 s2 → kM M2 s2 → cOk s2 → Ev 88 8 mL_law (some (Ls, xs)) 921 [.ref 1000, .ref 0, .ref 72, .int (nI i)] [] M2 P) : Ev 88 8 mL_law (some (Ls, xs)) 706 [.ref 1000, .ref 0, .ref 72, .int (nI i)] [] M P := by
  have x0 := hC.1
  unfold kRt at x0
  obtain ⟨e, x72⟩ := hM.1
  unfold kO at x72
  refine ev_aload_n (i := 1) dL_law_706 rfl rfl ?_
  refine ev_aload_n (i := 0) dL_law_707 rfl rfl ?_
  refine ev_iload_n (i := 3) dL_law_708 rfl rfl ?_
  refine ev_iconst (v := nI 1) dL_law_709 rfl ?_
  refine ev_iaddN dL_law_710 ?_
  refine ev_sldN dL_law_711 rfl (by omega) (by omega) ?_
  refine ev_aload_n (i := 0) dL_law_712 rfl rfl ?_
  refine ev_iload_n (i := 3) dL_law_713 rfl rfl ?_
  refine ev_iconst (v := nI 2) dL_law_714 rfl ?_
  refine ev_iaddN dL_law_715 ?_
  refine ev_sldN dL_law_716 rfl (by omega) (by omega) ?_
  refine ev_V2 (μ1 := mX7_rests) dL_law_717 sL_113 okX7_rests (by first | omega | decide) (by first | assumption | (simp (disch := omega) only [mu_s, mu_n]; first | assumption | rfl)) (Nat.le_of_ble_eq_true rfl) (Nat.le_of_ble_eq_true rfl) ?_
  refine C_rests hC ho ?_
  refine ev_aload_n (i := 2) dL_law_720 rfl rfl ?_
  refine ev_aload_n (i := 0) dL_law_721 rfl rfl ?_
  refine ev_iload_n (i := 3) dL_law_722 rfl rfl ?_
  refine ev_iconst (v := nI 1) dL_law_723 rfl ?_
  refine ev_iaddN dL_law_724 ?_
  refine ev_sldN dL_law_725 rfl (by omega) (by omega) ?_
  refine ev_aload_n (i := 0) dL_law_726 rfl rfl ?_
  refine ev_iload_n (i := 3) dL_law_727 rfl rfl ?_
  refine ev_iconst (v := nI 2) dL_law_728 rfl ?_
  refine ev_iaddN dL_law_729 ?_
  refine ev_sldN dL_law_730 rfl (by omega) (by omega) ?_
  refine ev_V2 (μ1 := mX8_rests) dL_law_731 sL_116 okX8_rests (by first | omega | decide) (by first | assumption | (simp (disch := omega) only [mu_s, mu_n]; first | assumption | rfl)) (Nat.le_of_ble_eq_true rfl) (Nat.le_of_ble_eq_true rfl) ?_
  refine R_rests hM ho (fun M2 ha2 hM2 => ?_)
  refine ev_icmp_eq 921 dL_law_734 (by decide) (fun b734 => ?_) (fun b734 => absurd rfl b734)
  exact nx M2 s (kC_ag hC ha2) hM2 ho
theorem law_chance (hL : Ls ≤ 256) (hi : i + 4 ≤ Ls) (hC : kC M s) (hM : kM M s) (ho : cOk s) (nx : ∀ M2 s2, kC M2 s2 → kM M2 s2 → cOk s2 → Ev 88 8 mL_law (some (Ls, xs)) 921 [.ref 1000, .ref 0, .ref 72, .int (nI i)] [] M2 P) : Ev 88 8 mL_law (some (Ls, xs)) 739 [.ref 1000, .ref 0, .ref 72, .int (nI i)] [] M P := by
  have x0 := hC.1
  unfold kRt at x0
  obtain ⟨e, x72⟩ := hM.1
  unfold kO at x72
  by_cases hu : xs (i + 3) = 0
  · skip
    refine ev_aload_n (i := 1) dL_law_739 rfl rfl ?_
    refine ev_aload_n (i := 0) dL_law_740 rfl rfl ?_
    refine ev_iload_n (i := 3) dL_law_741 rfl rfl ?_
    refine ev_iconst (v := nI 1) dL_law_742 rfl ?_
    refine ev_iaddN dL_law_743 ?_
    refine ev_sldN dL_law_744 rfl (by omega) (by omega) ?_
    refine ev_aload_n (i := 0) dL_law_745 rfl rfl ?_
    refine ev_iload_n (i := 3) dL_law_746 rfl rfl ?_
    refine ev_iconst (v := nI 2) dL_law_747 rfl ?_
    refine ev_iaddN dL_law_748 ?_
    refine ev_sldN dL_law_749 rfl (by omega) (by omega) ?_
    refine ev_aload_n (i := 0) dL_law_750 rfl rfl ?_
    refine ev_iload_n (i := 3) dL_law_751 rfl rfl ?_
    refine ev_iconst (v := nI 3) dL_law_752 rfl ?_
    refine ev_iaddN dL_law_753 ?_
    refine ev_sldN dL_law_754 rfl (by omega) (by omega) ?_
    refine ev_if_eq 762 dL_law_755 (by decide) (fun b755 => ?_) (fun b755 => absurd hu b755)
    refine ev_iconst (v := nI 0) dL_law_762 rfl ?_
    refine ev_V3 (μ1 := mX7_chance) dL_law_763 sL_117 okX7_chance (by first | omega | decide) (by first | assumption | (simp (disch := omega) only [mu_s, mu_n]; first | assumption | rfl)) (Nat.le_of_ble_eq_true rfl) (Nat.le_of_ble_eq_true rfl) ?_
    refine C_chance (u := false) hC ho (ch_hc ho.2.1) ?_
    refine ev_aload_n (i := 2) dL_law_766 rfl rfl ?_
    refine ev_aload_n (i := 0) dL_law_767 rfl rfl ?_
    refine ev_iload_n (i := 3) dL_law_768 rfl rfl ?_
    refine ev_iconst (v := nI 1) dL_law_769 rfl ?_
    refine ev_iaddN dL_law_770 ?_
    refine ev_sldN dL_law_771 rfl (by omega) (by omega) ?_
    refine ev_aload_n (i := 0) dL_law_772 rfl rfl ?_
    refine ev_iload_n (i := 3) dL_law_773 rfl rfl ?_
    refine ev_iconst (v := nI 2) dL_law_774 rfl ?_
    refine ev_iaddN dL_law_775 ?_
    refine ev_sldN dL_law_776 rfl (by omega) (by omega) ?_
    refine ev_aload_n (i := 0) dL_law_777 rfl rfl ?_
    refine ev_iload_n (i := 3) dL_law_778 rfl rfl ?_
    refine ev_iconst (v := nI 3) dL_law_779 rfl ?_
    refine ev_iaddN dL_law_780 ?_
    refine ev_sldN dL_law_781 rfl (by omega) (by omega) ?_
    refine ev_if_eq 789 dL_law_782 (by decide) (fun b782 => ?_) (fun b782 => absurd hu b782)
    refine ev_iconst (v := nI 0) dL_law_789 rfl ?_
    refine ev_V3 (μ1 := mX8_chance) dL_law_790 sL_121 okX8_chance (by first | omega | decide) (by first | assumption | (simp (disch := omega) only [mu_s, mu_n]; first | assumption | rfl)) (Nat.le_of_ble_eq_true rfl) (Nat.le_of_ble_eq_true rfl) ?_
    refine R_chance (u := false) hM ho (fun M2 ha2 hM2 => ?_)
    refine ev_icmp_eq 921 dL_law_793 (by decide) (fun b793 => ?_) (fun b793 => absurd rfl b793)
    exact nx M2 s (kC_ag hC ha2) hM2 ho
  · skip
    refine ev_aload_n (i := 1) dL_law_739 rfl rfl ?_
    refine ev_aload_n (i := 0) dL_law_740 rfl rfl ?_
    refine ev_iload_n (i := 3) dL_law_741 rfl rfl ?_
    refine ev_iconst (v := nI 1) dL_law_742 rfl ?_
    refine ev_iaddN dL_law_743 ?_
    refine ev_sldN dL_law_744 rfl (by omega) (by omega) ?_
    refine ev_aload_n (i := 0) dL_law_745 rfl rfl ?_
    refine ev_iload_n (i := 3) dL_law_746 rfl rfl ?_
    refine ev_iconst (v := nI 2) dL_law_747 rfl ?_
    refine ev_iaddN dL_law_748 ?_
    refine ev_sldN dL_law_749 rfl (by omega) (by omega) ?_
    refine ev_aload_n (i := 0) dL_law_750 rfl rfl ?_
    refine ev_iload_n (i := 3) dL_law_751 rfl rfl ?_
    refine ev_iconst (v := nI 3) dL_law_752 rfl ?_
    refine ev_iaddN dL_law_753 ?_
    refine ev_sldN dL_law_754 rfl (by omega) (by omega) ?_
    refine ev_if_eq 762 dL_law_755 (by decide) (fun b755 => absurd b755 hu) (fun b755 => ?_)
    refine ev_iconst (v := nI 1) dL_law_758 rfl ?_
    refine ev_goto 763 dL_law_759 (by decide) ?_
    refine ev_V3 (μ1 := mX7_chance) dL_law_763 sL_117 okX7_chance (by first | omega | decide) (by first | assumption | (simp (disch := omega) only [mu_s, mu_n]; first | assumption | rfl)) (Nat.le_of_ble_eq_true rfl) (Nat.le_of_ble_eq_true rfl) ?_
    refine C_chance (u := true) hC ho (ch_hc ho.2.1) ?_
    refine ev_aload_n (i := 2) dL_law_766 rfl rfl ?_
    refine ev_aload_n (i := 0) dL_law_767 rfl rfl ?_
    refine ev_iload_n (i := 3) dL_law_768 rfl rfl ?_
    refine ev_iconst (v := nI 1) dL_law_769 rfl ?_
    refine ev_iaddN dL_law_770 ?_
    refine ev_sldN dL_law_771 rfl (by omega) (by omega) ?_
    refine ev_aload_n (i := 0) dL_law_772 rfl rfl ?_
    refine ev_iload_n (i := 3) dL_law_773 rfl rfl ?_
    refine ev_iconst (v := nI 2) dL_law_774 rfl ?_
    refine ev_iaddN dL_law_775 ?_
    refine ev_sldN dL_law_776 rfl (by omega) (by omega) ?_
    refine ev_aload_n (i := 0) dL_law_777 rfl rfl ?_
    refine ev_iload_n (i := 3) dL_law_778 rfl rfl ?_
    refine ev_iconst (v := nI 3) dL_law_779 rfl ?_
    refine ev_iaddN dL_law_780 ?_
    refine ev_sldN dL_law_781 rfl (by omega) (by omega) ?_
    refine ev_if_eq 789 dL_law_782 (by decide) (fun b782 => absurd b782 hu) (fun b782 => ?_)
    refine ev_iconst (v := nI 1) dL_law_785 rfl ?_
    refine ev_goto 790 dL_law_786 (by decide) ?_
    refine ev_V3 (μ1 := mX8_chance) dL_law_790 sL_121 okX8_chance (by first | omega | decide) (by first | assumption | (simp (disch := omega) only [mu_s, mu_n]; first | assumption | rfl)) (Nat.le_of_ble_eq_true rfl) (Nat.le_of_ble_eq_true rfl) ?_
    refine R_chance (u := true) hM ho (fun M2 ha2 hM2 => ?_)
    refine ev_icmp_eq 921 dL_law_793 (by decide) (fun b793 => ?_) (fun b793 => absurd rfl b793)
    exact nx M2 s (kC_ag hC ha2) hM2 ho
theorem law_seed (hL : Ls ≤ 256) (hi : i + 4 ≤ Ls) (hC : kC M s) (hM : kM M s) (ho : cOk s) (nx : ∀ M2 s2, kC M2 s2 → kM M2 s2 → cOk s2 → Ev 88 8 mL_law (some (Ls, xs)) 921 [.ref 1000, .ref 0, .ref 72, .int (nI i)] [] M2 P) : Ev 88 8 mL_law (some (Ls, xs)) 798 [.ref 1000, .ref 0, .ref 72, .int (nI i)] [] M P := by
  have x0 := hC.1
  unfold kRt at x0
  obtain ⟨e, x72⟩ := hM.1
  unfold kO at x72
  refine ev_aload_n (i := 1) dL_law_798 rfl rfl ?_
  refine ev_aload_n (i := 0) dL_law_799 rfl rfl ?_
  refine ev_iload_n (i := 3) dL_law_800 rfl rfl ?_
  refine ev_iconst (v := nI 1) dL_law_801 rfl ?_
  refine ev_iaddN dL_law_802 ?_
  refine ev_sldN dL_law_803 rfl (by omega) (by omega) ?_
  refine ev_i2l dL_law_804 rfl ?_
  refine ev_bipush (v := nI 32) dL_law_805 rfl ?_
  refine ev_lshl dL_law_807 rfl ?_
  refine ev_aload_n (i := 0) dL_law_808 rfl rfl ?_
  refine ev_iload_n (i := 3) dL_law_809 rfl rfl ?_
  refine ev_iconst (v := nI 2) dL_law_810 rfl ?_
  refine ev_iaddN dL_law_811 ?_
  refine ev_sldN dL_law_812 rfl (by omega) (by omega) ?_
  refine ev_i2l dL_law_813 rfl ?_
  refine ev_ldc2_w dL_law_814 kL_122 ?_
  refine ev_land dL_law_817 ?_
  refine ev_lor dL_law_818 ?_
  refine ev_V1 (μ1 := mX7_seed) dL_law_819 sL_124 okX7_seed (by first | omega | decide) (by first | assumption | (simp (disch := omega) only [mu_s, mu_n]; first | assumption | rfl)) (Nat.le_of_ble_eq_true rfl) (Nat.le_of_ble_eq_true rfl) ?_
  refine C_seed hC ho (fun M1 ha1 hC1 => ?_)
  have hM1 := kM_ag hM ha1
  obtain ⟨e1, x1⟩ := hM1.1
  unfold kO at x1
  refine ev_aload_n (i := 2) dL_law_822 rfl rfl ?_
  refine ev_aload_n (i := 0) dL_law_823 rfl rfl ?_
  refine ev_iload_n (i := 3) dL_law_824 rfl rfl ?_
  refine ev_iconst (v := nI 1) dL_law_825 rfl ?_
  refine ev_iaddN dL_law_826 ?_
  refine ev_sldN dL_law_827 rfl (by omega) (by omega) ?_
  refine ev_i2l dL_law_828 rfl ?_
  refine ev_bipush (v := nI 32) dL_law_829 rfl ?_
  refine ev_lshl dL_law_831 rfl ?_
  refine ev_aload_n (i := 0) dL_law_832 rfl rfl ?_
  refine ev_iload_n (i := 3) dL_law_833 rfl rfl ?_
  refine ev_iconst (v := nI 2) dL_law_834 rfl ?_
  refine ev_iaddN dL_law_835 ?_
  refine ev_sldN dL_law_836 rfl (by omega) (by omega) ?_
  refine ev_i2l dL_law_837 rfl ?_
  refine ev_ldc2_w dL_law_838 kL_122 ?_
  refine ev_land dL_law_841 ?_
  refine ev_lor dL_law_842 ?_
  refine ev_V1 (μ1 := mX8_seed) dL_law_843 sL_128 okX8_seed (by first | omega | decide) (by first | assumption | (simp (disch := omega) only [mu_s, mu_n]; first | assumption | rfl)) (Nat.le_of_ble_eq_true rfl) (Nat.le_of_ble_eq_true rfl) ?_
  refine R_seed hM1 ho (fun M2 ha2 hM2 => ?_)
  refine ev_lcmp dL_law_846 ?_
  refine ev_if_eq 921 dL_law_847 (by decide) (fun b847 => ?_) (fun b847 => absurd (lg_same _) b847)
  exact nx M2 _ (kC_ag hC1 ha2) hM2 (ok_seed ho)
theorem law_years (hL : Ls ≤ 256) (hi : i + 4 ≤ Ls) (hC : kC M s) (hM : kM M s) (ho : cOk s) (nx : ∀ M2 s2, kC M2 s2 → kM M2 s2 → cOk s2 → Ev 88 8 mL_law (some (Ls, xs)) 921 [.ref 1000, .ref 0, .ref 72, .int (nI i)] [] M2 P) : Ev 88 8 mL_law (some (Ls, xs)) 852 [.ref 1000, .ref 0, .ref 72, .int (nI i)] [] M P := by
  have x0 := hC.1
  unfold kRt at x0
  obtain ⟨e, x72⟩ := hM.1
  unfold kO at x72
  refine ev_aload_n (i := 1) dL_law_852 rfl rfl ?_
  refine ev_aload_n (i := 0) dL_law_853 rfl rfl ?_
  refine ev_iload_n (i := 3) dL_law_854 rfl rfl ?_
  refine ev_iconst (v := nI 1) dL_law_855 rfl ?_
  refine ev_iaddN dL_law_856 ?_
  refine ev_sldN dL_law_857 rfl (by omega) (by omega) ?_
  refine ev_V1 (μ1 := mX7_years) dL_law_858 sL_129 okX7_years (by first | omega | decide) (by first | assumption | (simp (disch := omega) only [mu_s, mu_n]; first | assumption | rfl)) (Nat.le_of_ble_eq_true rfl) (Nat.le_of_ble_eq_true rfl) ?_
  refine C_years hC ho (fun M1 ha1 hC1 => ?_)
  have hM1 := kM_ag hM ha1
  obtain ⟨e1, x1⟩ := hM1.1
  unfold kO at x1
  refine ev_aload_n (i := 2) dL_law_861 rfl rfl ?_
  refine ev_aload_n (i := 0) dL_law_862 rfl rfl ?_
  refine ev_iload_n (i := 3) dL_law_863 rfl rfl ?_
  refine ev_iconst (v := nI 1) dL_law_864 rfl ?_
  refine ev_iaddN dL_law_865 ?_
  refine ev_sldN dL_law_866 rfl (by omega) (by omega) ?_
  refine ev_V1 (μ1 := mX8_years) dL_law_867 sL_132 okX8_years (by first | omega | decide) (by first | assumption | (simp (disch := omega) only [mu_s, mu_n]; first | assumption | rfl)) (Nat.le_of_ble_eq_true rfl) (Nat.le_of_ble_eq_true rfl) ?_
  refine R_years hM1 ho (fun M2 ha2 hM2 => ?_)
  refine ev_icmp_eq 921 dL_law_870 (by decide) (fun b870 => ?_) (fun b870 => absurd rfl b870)
  exact nx M2 _ (kC_ag hC1 ha2) hM2 (ok_years ho)
theorem law_keep (hL : Ls ≤ 256) (hi : i + 4 ≤ Ls) (hC : kC M s) (hM : kM M s) (ho : cOk s) (nx : ∀ M2 s2, kC M2 s2 → kM M2 s2 → cOk s2 → Ev 88 8 mL_law (some (Ls, xs)) 921 [.ref 1000, .ref 0, .ref 72, .int (nI i)] [] M2 P) : Ev 88 8 mL_law (some (Ls, xs)) 875 [.ref 1000, .ref 0, .ref 72, .int (nI i)] [] M P := by
  have x0 := hC.1
  unfold kRt at x0
  obtain ⟨e, x72⟩ := hM.1
  unfold kO at x72
  refine ev_aload_n (i := 1) dL_law_875 rfl rfl ?_
  refine ev_aload_n (i := 0) dL_law_876 rfl rfl ?_
  refine ev_iload_n (i := 3) dL_law_877 rfl rfl ?_
  refine ev_iconst (v := nI 1) dL_law_878 rfl ?_
  refine ev_iaddN dL_law_879 ?_
  refine ev_sldN dL_law_880 rfl (by omega) (by omega) ?_
  refine ev_V1 (μ1 := mX7_keep) dL_law_881 sL_133 okX7_keep (by first | omega | decide) (by first | assumption | (simp (disch := omega) only [mu_s, mu_n]; first | assumption | rfl)) (Nat.le_of_ble_eq_true rfl) (Nat.le_of_ble_eq_true rfl) ?_
  refine C_keep hC ho (fun M1 ha1 hC1 => ?_)
  have hM1 := kM_ag hM ha1
  obtain ⟨e1, x1⟩ := hM1.1
  unfold kO at x1
  refine ev_aload_n (i := 2) dL_law_884 rfl rfl ?_
  refine ev_aload_n (i := 0) dL_law_885 rfl rfl ?_
  refine ev_iload_n (i := 3) dL_law_886 rfl rfl ?_
  refine ev_iconst (v := nI 1) dL_law_887 rfl ?_
  refine ev_iaddN dL_law_888 ?_
  refine ev_sldN dL_law_889 rfl (by omega) (by omega) ?_
  refine ev_V1 (μ1 := mX8_keep) dL_law_890 sL_136 okX8_keep (by first | omega | decide) (by first | assumption | (simp (disch := omega) only [mu_s, mu_n]; first | assumption | rfl)) (Nat.le_of_ble_eq_true rfl) (Nat.le_of_ble_eq_true rfl) ?_
  refine R_keep hM1 ho (fun M2 ha2 hM2 => ?_)
  refine ev_icmp_eq 921 dL_law_893 (by decide) (fun b893 => ?_) (fun b893 => absurd rfl b893)
  exact nx M2 _ (kC_ag hC1 ha2) hM2 (ok_keep ho)
theorem law_again (hL : Ls ≤ 256) (hi : i + 4 ≤ Ls) (hC : kC M s) (hM : kM M s) (ho : cOk s) (nx : ∀ M2 s2, kC M2 s2 → kM M2 s2 → cOk s2 → Ev 88 8 mL_law (some (Ls, xs)) 921 [.ref 1000, .ref 0, .ref 72, .int (nI i)] [] M2 P) : Ev 88 8 mL_law (some (Ls, xs)) 898 [.ref 1000, .ref 0, .ref 72, .int (nI i)] [] M P := by
  have x0 := hC.1
  unfold kRt at x0
  obtain ⟨e, x72⟩ := hM.1
  unfold kO at x72
  refine ev_aload_n (i := 1) dL_law_898 rfl rfl ?_
  refine ev_aload_n (i := 0) dL_law_899 rfl rfl ?_
  refine ev_iload_n (i := 3) dL_law_900 rfl rfl ?_
  refine ev_iconst (v := nI 1) dL_law_901 rfl ?_
  refine ev_iaddN dL_law_902 ?_
  refine ev_sldN dL_law_903 rfl (by omega) (by omega) ?_
  refine ev_V1 (μ1 := mX7_again) dL_law_904 sL_137 okX7_again (by first | omega | decide) (by first | assumption | (simp (disch := omega) only [mu_s, mu_n]; first | assumption | rfl)) (Nat.le_of_ble_eq_true rfl) (Nat.le_of_ble_eq_true rfl) ?_
  refine C_again hC ho (fun M1 ha1 hC1 => ?_)
  have hM1 := kM_ag hM ha1
  obtain ⟨e1, x1⟩ := hM1.1
  unfold kO at x1
  refine ev_aload_n (i := 2) dL_law_907 rfl rfl ?_
  refine ev_aload_n (i := 0) dL_law_908 rfl rfl ?_
  refine ev_iload_n (i := 3) dL_law_909 rfl rfl ?_
  refine ev_iconst (v := nI 1) dL_law_910 rfl ?_
  refine ev_iaddN dL_law_911 ?_
  refine ev_sldN dL_law_912 rfl (by omega) (by omega) ?_
  refine ev_V1 (μ1 := mX8_again) dL_law_913 sL_140 okX8_again (by first | omega | decide) (by first | assumption | (simp (disch := omega) only [mu_s, mu_n]; first | assumption | rfl)) (Nat.le_of_ble_eq_true rfl) (Nat.le_of_ble_eq_true rfl) ?_
  refine R_again hM1 ho (fun M2 ha2 hM2 => ?_)
  refine ev_icmp_eq 921 dL_law_916 (by decide) (fun b916 => ?_) (fun b916 => absurd rfl b916)
  exact nx M2 _ (kC_ag hC1 ha2) hM2 (ok_again ho)
theorem law_lp (hL : Ls ≤ 256) (hp : ∀ M1, P (some (.int (nI 1))) M1) : ∀ (j i : Nat) (M : mM) (s : cs), Ls < i + j → i ≤ Ls + 4 → kC M s → kM M s → cOk s → Ev 88 8 mL_law (some (Ls, xs)) 18 [.ref 1000, .ref 0, .ref 72, .int (nI i)] [] M P := by
  have out : ∀ (i : Nat) (M : mM), ¬ i + 4 ≤ Ls → i ≤ Ls + 4 → Ev 88 8 mL_law (some (Ls, xs)) 18 [.ref 1000, .ref 0, .ref 72, .int (nI i)] [] M P := by
    intro i M hi hi2
    have hlt : nI Ls - nI 4 < nI i := by
      rw [Int32.lt_iff_toInt_lt, pk_sub_toInt (by omega) (by decide), nI_toInt (by omega)]
      omega
    refine ev_iload_n (i := 3) dL_law_18 rfl rfl ?_
    refine ev_aload_n (i := 0) dL_law_19 rfl rfl ?_
    refine ev_slen dL_law_20 rfl ?_
    refine ev_iconst (v := nI 4) dL_law_21 rfl ?_
    refine ev_isub dL_law_22 ?_
    refine ev_icmp_gt 927 dL_law_23 (by decide) (fun b23 => ?_) (fun b23 => absurd hlt b23)
    refine ev_iconst (v := nI 1) dL_law_927 rfl ?_
    refine ev_reti dL_law_928 rfl (rfl) ?_
    exact hp M
  intro j
  induction j with
  | zero => intro i M s h1 h2 _ _ _; exact out i M (by omega) h2
  | succ j ih =>
    intro i M s h1 h2 hC hM ho
    by_cases hi : i + 4 ≤ Ls
    · have nx : ∀ M2 s2, kC M2 s2 → kM M2 s2 → cOk s2 → Ev 88 8 mL_law (some (Ls, xs)) 921 [.ref 1000, .ref 0, .ref 72, .int (nI i)] [] M2 P := by
        intro M2 s2 hC2 hM2 ho2
        refine ev_iinc dL_law_921 (by rfl) (n_inc4 i) (by decide) rfl ?_
        refine ev_goto 18 dL_law_924 (by decide) ?_
        exact ih (i + 4) M2 s2 (by omega) (by omega) hC2 hM2 ho2
      obtain ⟨w, hw, hx⟩ := and_31 (xs i)
      have hge : ¬ nI Ls - nI 4 < nI i := by
        rw [Int32.lt_iff_toInt_lt, pk_sub_toInt (by omega) (by decide), nI_toInt (by omega)]
        omega
      rcases (show w = 0 ∨ w = 1 ∨ w = 2 ∨ w = 3 ∨ w = 4 ∨ w = 5 ∨ w = 6 ∨ w = 7 ∨ w = 8 ∨ w = 9 ∨ w = 10 ∨ w = 11 ∨ w = 12 ∨ w = 13 ∨ w = 14 ∨ w = 15 ∨ w = 16 ∨ w = 17 ∨ w = 18 ∨ w = 19 ∨ w = 20 ∨ w = 21 ∨ w = 22 ∨ w = 23 ∨ w = 24 ∨ w = 25 ∨ w = 26 ∨ w = 27 ∨ w = 28 ∨ w = 29 ∨ w = 30 ∨ w = 31 by omega) with rfl | rfl | rfl | rfl | rfl | rfl | rfl | rfl | rfl | rfl | rfl | rfl | rfl | rfl | rfl | rfl | rfl | rfl | rfl | rfl | rfl | rfl | rfl | rfl | rfl | rfl | rfl | rfl | rfl | rfl | rfl | rfl
      · skip
        refine ev_iload_n (i := 3) dL_law_18 rfl rfl ?_
        refine ev_aload_n (i := 0) dL_law_19 rfl rfl ?_
        refine ev_slen dL_law_20 rfl ?_
        refine ev_iconst (v := nI 4) dL_law_21 rfl ?_
        refine ev_isub dL_law_22 ?_
        refine ev_icmp_gt 927 dL_law_23 (by decide) (fun b23 => absurd b23 hge) (fun b23 => ?_)
        refine ev_aload_n (i := 0) dL_law_26 rfl rfl ?_
        refine ev_iload_n (i := 3) dL_law_27 rfl rfl ?_
        refine ev_sldN dL_law_28 rfl (by omega) (by omega) ?_
        refine ev_bipush (v := nI 31) dL_law_29 rfl ?_
        refine ev_iand dL_law_31 ?_
        refine ev_top (i_op hx) ?_
        refine ev_tsw_in (off := 136) 168 dL_law_32 (by decide) (by decide) (by decide) (by decide) ?_
        exact law_write hL hi hC hM ho nx
      · skip
        refine ev_iload_n (i := 3) dL_law_18 rfl rfl ?_
        refine ev_aload_n (i := 0) dL_law_19 rfl rfl ?_
        refine ev_slen dL_law_20 rfl ?_
        refine ev_iconst (v := nI 4) dL_law_21 rfl ?_
        refine ev_isub dL_law_22 ?_
        refine ev_icmp_gt 927 dL_law_23 (by decide) (fun b23 => absurd b23 hge) (fun b23 => ?_)
        refine ev_aload_n (i := 0) dL_law_26 rfl rfl ?_
        refine ev_iload_n (i := 3) dL_law_27 rfl rfl ?_
        refine ev_sldN dL_law_28 rfl (by omega) (by omega) ?_
        refine ev_bipush (v := nI 31) dL_law_29 rfl ?_
        refine ev_iand dL_law_31 ?_
        refine ev_top (i_op hx) ?_
        refine ev_tsw_in (off := 159) 191 dL_law_32 (by decide) (by decide) (by decide) (by decide) ?_
        exact law_wipe hL hi hC hM ho nx
      · skip
        refine ev_iload_n (i := 3) dL_law_18 rfl rfl ?_
        refine ev_aload_n (i := 0) dL_law_19 rfl rfl ?_
        refine ev_slen dL_law_20 rfl ?_
        refine ev_iconst (v := nI 4) dL_law_21 rfl ?_
        refine ev_isub dL_law_22 ?_
        refine ev_icmp_gt 927 dL_law_23 (by decide) (fun b23 => absurd b23 hge) (fun b23 => ?_)
        refine ev_aload_n (i := 0) dL_law_26 rfl rfl ?_
        refine ev_iload_n (i := 3) dL_law_27 rfl rfl ?_
        refine ev_sldN dL_law_28 rfl (by omega) (by omega) ?_
        refine ev_bipush (v := nI 31) dL_law_29 rfl ?_
        refine ev_iand dL_law_31 ?_
        refine ev_top (i_op hx) ?_
        refine ev_tsw_in (off := 172) 204 dL_law_32 (by decide) (by decide) (by decide) (by decide) ?_
        exact law_fault hL hi hC hM ho nx
      · skip
        refine ev_iload_n (i := 3) dL_law_18 rfl rfl ?_
        refine ev_aload_n (i := 0) dL_law_19 rfl rfl ?_
        refine ev_slen dL_law_20 rfl ?_
        refine ev_iconst (v := nI 4) dL_law_21 rfl ?_
        refine ev_isub dL_law_22 ?_
        refine ev_icmp_gt 927 dL_law_23 (by decide) (fun b23 => absurd b23 hge) (fun b23 => ?_)
        refine ev_aload_n (i := 0) dL_law_26 rfl rfl ?_
        refine ev_iload_n (i := 3) dL_law_27 rfl rfl ?_
        refine ev_sldN dL_law_28 rfl (by omega) (by omega) ?_
        refine ev_bipush (v := nI 31) dL_law_29 rfl ?_
        refine ev_iand dL_law_31 ?_
        refine ev_top (i_op hx) ?_
        refine ev_tsw_in (off := 185) 217 dL_law_32 (by decide) (by decide) (by decide) (by decide) ?_
        exact law_office hL hi hC hM ho nx
      · skip
        refine ev_iload_n (i := 3) dL_law_18 rfl rfl ?_
        refine ev_aload_n (i := 0) dL_law_19 rfl rfl ?_
        refine ev_slen dL_law_20 rfl ?_
        refine ev_iconst (v := nI 4) dL_law_21 rfl ?_
        refine ev_isub dL_law_22 ?_
        refine ev_icmp_gt 927 dL_law_23 (by decide) (fun b23 => absurd b23 hge) (fun b23 => ?_)
        refine ev_aload_n (i := 0) dL_law_26 rfl rfl ?_
        refine ev_iload_n (i := 3) dL_law_27 rfl rfl ?_
        refine ev_sldN dL_law_28 rfl (by omega) (by omega) ?_
        refine ev_bipush (v := nI 31) dL_law_29 rfl ?_
        refine ev_iand dL_law_31 ?_
        refine ev_top (i_op hx) ?_
        refine ev_tsw_in (off := 198) 230 dL_law_32 (by decide) (by decide) (by decide) (by decide) ?_
        exact law_about hL hi hC hM ho nx
      · skip
        refine ev_iload_n (i := 3) dL_law_18 rfl rfl ?_
        refine ev_aload_n (i := 0) dL_law_19 rfl rfl ?_
        refine ev_slen dL_law_20 rfl ?_
        refine ev_iconst (v := nI 4) dL_law_21 rfl ?_
        refine ev_isub dL_law_22 ?_
        refine ev_icmp_gt 927 dL_law_23 (by decide) (fun b23 => absurd b23 hge) (fun b23 => ?_)
        refine ev_aload_n (i := 0) dL_law_26 rfl rfl ?_
        refine ev_iload_n (i := 3) dL_law_27 rfl rfl ?_
        refine ev_sldN dL_law_28 rfl (by omega) (by omega) ?_
        refine ev_bipush (v := nI 31) dL_law_29 rfl ?_
        refine ev_iand dL_law_31 ?_
        refine ev_top (i_op hx) ?_
        refine ev_tsw_in (off := 221) 253 dL_law_32 (by decide) (by decide) (by decide) (by decide) ?_
        exact law_letter hL hi hC hM ho nx
      · skip
        refine ev_iload_n (i := 3) dL_law_18 rfl rfl ?_
        refine ev_aload_n (i := 0) dL_law_19 rfl rfl ?_
        refine ev_slen dL_law_20 rfl ?_
        refine ev_iconst (v := nI 4) dL_law_21 rfl ?_
        refine ev_isub dL_law_22 ?_
        refine ev_icmp_gt 927 dL_law_23 (by decide) (fun b23 => absurd b23 hge) (fun b23 => ?_)
        refine ev_aload_n (i := 0) dL_law_26 rfl rfl ?_
        refine ev_iload_n (i := 3) dL_law_27 rfl rfl ?_
        refine ev_sldN dL_law_28 rfl (by omega) (by omega) ?_
        refine ev_bipush (v := nI 31) dL_law_29 rfl ?_
        refine ev_iand dL_law_31 ?_
        refine ev_top (i_op hx) ?_
        refine ev_tsw_in (off := 254) 286 dL_law_32 (by decide) (by decide) (by decide) (by decide) ?_
        exact law_cell hL hi hC hM ho nx
      · skip
        refine ev_iload_n (i := 3) dL_law_18 rfl rfl ?_
        refine ev_aload_n (i := 0) dL_law_19 rfl rfl ?_
        refine ev_slen dL_law_20 rfl ?_
        refine ev_iconst (v := nI 4) dL_law_21 rfl ?_
        refine ev_isub dL_law_22 ?_
        refine ev_icmp_gt 927 dL_law_23 (by decide) (fun b23 => absurd b23 hge) (fun b23 => ?_)
        refine ev_aload_n (i := 0) dL_law_26 rfl rfl ?_
        refine ev_iload_n (i := 3) dL_law_27 rfl rfl ?_
        refine ev_sldN dL_law_28 rfl (by omega) (by omega) ?_
        refine ev_bipush (v := nI 31) dL_law_29 rfl ?_
        refine ev_iand dL_law_31 ?_
        refine ev_top (i_op hx) ?_
        refine ev_tsw_in (off := 287) 319 dL_law_32 (by decide) (by decide) (by decide) (by decide) ?_
        exact law_press hL hi hC hM ho nx
      · skip
        refine ev_iload_n (i := 3) dL_law_18 rfl rfl ?_
        refine ev_aload_n (i := 0) dL_law_19 rfl rfl ?_
        refine ev_slen dL_law_20 rfl ?_
        refine ev_iconst (v := nI 4) dL_law_21 rfl ?_
        refine ev_isub dL_law_22 ?_
        refine ev_icmp_gt 927 dL_law_23 (by decide) (fun b23 => absurd b23 hge) (fun b23 => ?_)
        refine ev_aload_n (i := 0) dL_law_26 rfl rfl ?_
        refine ev_iload_n (i := 3) dL_law_27 rfl rfl ?_
        refine ev_sldN dL_law_28 rfl (by omega) (by omega) ?_
        refine ev_bipush (v := nI 31) dL_law_29 rfl ?_
        refine ev_iand dL_law_31 ?_
        refine ev_top (i_op hx) ?_
        refine ev_tsw_in (off := 310) 342 dL_law_32 (by decide) (by decide) (by decide) (by decide) ?_
        exact law_day hL hi hC hM ho nx
      · skip
        refine ev_iload_n (i := 3) dL_law_18 rfl rfl ?_
        refine ev_aload_n (i := 0) dL_law_19 rfl rfl ?_
        refine ev_slen dL_law_20 rfl ?_
        refine ev_iconst (v := nI 4) dL_law_21 rfl ?_
        refine ev_isub dL_law_22 ?_
        refine ev_icmp_gt 927 dL_law_23 (by decide) (fun b23 => absurd b23 hge) (fun b23 => ?_)
        refine ev_aload_n (i := 0) dL_law_26 rfl rfl ?_
        refine ev_iload_n (i := 3) dL_law_27 rfl rfl ?_
        refine ev_sldN dL_law_28 rfl (by omega) (by omega) ?_
        refine ev_bipush (v := nI 31) dL_law_29 rfl ?_
        refine ev_iand dL_law_31 ?_
        refine ev_top (i_op hx) ?_
        refine ev_tsw_in (off := 323) 355 dL_law_32 (by decide) (by decide) (by decide) (by decide) ?_
        exact law_rub hL hi hC hM ho nx
      · skip
        refine ev_iload_n (i := 3) dL_law_18 rfl rfl ?_
        refine ev_aload_n (i := 0) dL_law_19 rfl rfl ?_
        refine ev_slen dL_law_20 rfl ?_
        refine ev_iconst (v := nI 4) dL_law_21 rfl ?_
        refine ev_isub dL_law_22 ?_
        refine ev_icmp_gt 927 dL_law_23 (by decide) (fun b23 => absurd b23 hge) (fun b23 => ?_)
        refine ev_aload_n (i := 0) dL_law_26 rfl rfl ?_
        refine ev_iload_n (i := 3) dL_law_27 rfl rfl ?_
        refine ev_sldN dL_law_28 rfl (by omega) (by omega) ?_
        refine ev_bipush (v := nI 31) dL_law_29 rfl ?_
        refine ev_iand dL_law_31 ?_
        refine ev_top (i_op hx) ?_
        refine ev_tsw_in (off := 346) 378 dL_law_32 (by decide) (by decide) (by decide) (by decide) ?_
        exact law_change hL hi hC hM ho nx
      · skip
        refine ev_iload_n (i := 3) dL_law_18 rfl rfl ?_
        refine ev_aload_n (i := 0) dL_law_19 rfl rfl ?_
        refine ev_slen dL_law_20 rfl ?_
        refine ev_iconst (v := nI 4) dL_law_21 rfl ?_
        refine ev_isub dL_law_22 ?_
        refine ev_icmp_gt 927 dL_law_23 (by decide) (fun b23 => absurd b23 hge) (fun b23 => ?_)
        refine ev_aload_n (i := 0) dL_law_26 rfl rfl ?_
        refine ev_iload_n (i := 3) dL_law_27 rfl rfl ?_
        refine ev_sldN dL_law_28 rfl (by omega) (by omega) ?_
        refine ev_bipush (v := nI 31) dL_law_29 rfl ?_
        refine ev_iand dL_law_31 ?_
        refine ev_top (i_op hx) ?_
        refine ev_tsw_in (off := 359) 391 dL_law_32 (by decide) (by decide) (by decide) (by decide) ?_
        exact law_undo hL hi hC hM ho nx
      · skip
        refine ev_iload_n (i := 3) dL_law_18 rfl rfl ?_
        refine ev_aload_n (i := 0) dL_law_19 rfl rfl ?_
        refine ev_slen dL_law_20 rfl ?_
        refine ev_iconst (v := nI 4) dL_law_21 rfl ?_
        refine ev_isub dL_law_22 ?_
        refine ev_icmp_gt 927 dL_law_23 (by decide) (fun b23 => absurd b23 hge) (fun b23 => ?_)
        refine ev_aload_n (i := 0) dL_law_26 rfl rfl ?_
        refine ev_iload_n (i := 3) dL_law_27 rfl rfl ?_
        refine ev_sldN dL_law_28 rfl (by omega) (by omega) ?_
        refine ev_bipush (v := nI 31) dL_law_29 rfl ?_
        refine ev_iand dL_law_31 ?_
        refine ev_top (i_op hx) ?_
        refine ev_tsw_in (off := 372) 404 dL_law_32 (by decide) (by decide) (by decide) (by decide) ?_
        exact law_later hL hi hC hM ho nx
      · skip
        refine ev_iload_n (i := 3) dL_law_18 rfl rfl ?_
        refine ev_aload_n (i := 0) dL_law_19 rfl rfl ?_
        refine ev_slen dL_law_20 rfl ?_
        refine ev_iconst (v := nI 4) dL_law_21 rfl ?_
        refine ev_isub dL_law_22 ?_
        refine ev_icmp_gt 927 dL_law_23 (by decide) (fun b23 => absurd b23 hge) (fun b23 => ?_)
        refine ev_aload_n (i := 0) dL_law_26 rfl rfl ?_
        refine ev_iload_n (i := 3) dL_law_27 rfl rfl ?_
        refine ev_sldN dL_law_28 rfl (by omega) (by omega) ?_
        refine ev_bipush (v := nI 31) dL_law_29 rfl ?_
        refine ev_iand dL_law_31 ?_
        refine ev_top (i_op hx) ?_
        refine ev_tsw_in (off := 395) 427 dL_law_32 (by decide) (by decide) (by decide) (by decide) ?_
        exact law_lasts hL hi hC hM ho nx
      · skip
        refine ev_iload_n (i := 3) dL_law_18 rfl rfl ?_
        refine ev_aload_n (i := 0) dL_law_19 rfl rfl ?_
        refine ev_slen dL_law_20 rfl ?_
        refine ev_iconst (v := nI 4) dL_law_21 rfl ?_
        refine ev_isub dL_law_22 ?_
        refine ev_icmp_gt 927 dL_law_23 (by decide) (fun b23 => absurd b23 hge) (fun b23 => ?_)
        refine ev_aload_n (i := 0) dL_law_26 rfl rfl ?_
        refine ev_iload_n (i := 3) dL_law_27 rfl rfl ?_
        refine ev_sldN dL_law_28 rfl (by omega) (by omega) ?_
        refine ev_bipush (v := nI 31) dL_law_29 rfl ?_
        refine ev_iand dL_law_31 ?_
        refine ev_top (i_op hx) ?_
        refine ev_tsw_in (off := 418) 450 dL_law_32 (by decide) (by decide) (by decide) (by decide) ?_
        exact law_shows hL hi hC hM ho nx
      · skip
        refine ev_iload_n (i := 3) dL_law_18 rfl rfl ?_
        refine ev_aload_n (i := 0) dL_law_19 rfl rfl ?_
        refine ev_slen dL_law_20 rfl ?_
        refine ev_iconst (v := nI 4) dL_law_21 rfl ?_
        refine ev_isub dL_law_22 ?_
        refine ev_icmp_gt 927 dL_law_23 (by decide) (fun b23 => absurd b23 hge) (fun b23 => ?_)
        refine ev_aload_n (i := 0) dL_law_26 rfl rfl ?_
        refine ev_iload_n (i := 3) dL_law_27 rfl rfl ?_
        refine ev_sldN dL_law_28 rfl (by omega) (by omega) ?_
        refine ev_bipush (v := nI 31) dL_law_29 rfl ?_
        refine ev_iand dL_law_31 ?_
        refine ev_top (i_op hx) ?_
        refine ev_tsw_in (off := 441) 473 dL_law_32 (by decide) (by decide) (by decide) (by decide) ?_
        exact law_fits hL hi hC hM ho nx
      · skip
        refine ev_iload_n (i := 3) dL_law_18 rfl rfl ?_
        refine ev_aload_n (i := 0) dL_law_19 rfl rfl ?_
        refine ev_slen dL_law_20 rfl ?_
        refine ev_iconst (v := nI 4) dL_law_21 rfl ?_
        refine ev_isub dL_law_22 ?_
        refine ev_icmp_gt 927 dL_law_23 (by decide) (fun b23 => absurd b23 hge) (fun b23 => ?_)
        refine ev_aload_n (i := 0) dL_law_26 rfl rfl ?_
        refine ev_iload_n (i := 3) dL_law_27 rfl rfl ?_
        refine ev_sldN dL_law_28 rfl (by omega) (by omega) ?_
        refine ev_bipush (v := nI 31) dL_law_29 rfl ?_
        refine ev_iand dL_law_31 ?_
        refine ev_top (i_op hx) ?_
        refine ev_tsw_in (off := 464) 496 dL_law_32 (by decide) (by decide) (by decide) (by decide) ?_
        exact law_keeps hL hi hC hM ho nx
      · skip
        refine ev_iload_n (i := 3) dL_law_18 rfl rfl ?_
        refine ev_aload_n (i := 0) dL_law_19 rfl rfl ?_
        refine ev_slen dL_law_20 rfl ?_
        refine ev_iconst (v := nI 4) dL_law_21 rfl ?_
        refine ev_isub dL_law_22 ?_
        refine ev_icmp_gt 927 dL_law_23 (by decide) (fun b23 => absurd b23 hge) (fun b23 => ?_)
        refine ev_aload_n (i := 0) dL_law_26 rfl rfl ?_
        refine ev_iload_n (i := 3) dL_law_27 rfl rfl ?_
        refine ev_sldN dL_law_28 rfl (by omega) (by omega) ?_
        refine ev_bipush (v := nI 31) dL_law_29 rfl ?_
        refine ev_iand dL_law_31 ?_
        refine ev_top (i_op hx) ?_
        refine ev_tsw_in (off := 487) 519 dL_law_32 (by decide) (by decide) (by decide) (by decide) ?_
        exact law_twice hL hi hC hM ho nx
      · skip
        refine ev_iload_n (i := 3) dL_law_18 rfl rfl ?_
        refine ev_aload_n (i := 0) dL_law_19 rfl rfl ?_
        refine ev_slen dL_law_20 rfl ?_
        refine ev_iconst (v := nI 4) dL_law_21 rfl ?_
        refine ev_isub dL_law_22 ?_
        refine ev_icmp_gt 927 dL_law_23 (by decide) (fun b23 => absurd b23 hge) (fun b23 => ?_)
        refine ev_aload_n (i := 0) dL_law_26 rfl rfl ?_
        refine ev_iload_n (i := 3) dL_law_27 rfl rfl ?_
        refine ev_sldN dL_law_28 rfl (by omega) (by omega) ?_
        refine ev_bipush (v := nI 31) dL_law_29 rfl ?_
        refine ev_iand dL_law_31 ?_
        refine ev_top (i_op hx) ?_
        refine ev_tsw_in (off := 510) 542 dL_law_32 (by decide) (by decide) (by decide) (by decide) ?_
        exact law_crossed hL hi hC hM ho nx
      · skip
        refine ev_iload_n (i := 3) dL_law_18 rfl rfl ?_
        refine ev_aload_n (i := 0) dL_law_19 rfl rfl ?_
        refine ev_slen dL_law_20 rfl ?_
        refine ev_iconst (v := nI 4) dL_law_21 rfl ?_
        refine ev_isub dL_law_22 ?_
        refine ev_icmp_gt 927 dL_law_23 (by decide) (fun b23 => absurd b23 hge) (fun b23 => ?_)
        refine ev_aload_n (i := 0) dL_law_26 rfl rfl ?_
        refine ev_iload_n (i := 3) dL_law_27 rfl rfl ?_
        refine ev_sldN dL_law_28 rfl (by omega) (by omega) ?_
        refine ev_bipush (v := nI 31) dL_law_29 rfl ?_
        refine ev_iand dL_law_31 ?_
        refine ev_top (i_op hx) ?_
        refine ev_tsw_in (off := 533) 565 dL_law_32 (by decide) (by decide) (by decide) (by decide) ?_
        exact law_least hL hi hC hM ho nx
      · skip
        refine ev_iload_n (i := 3) dL_law_18 rfl rfl ?_
        refine ev_aload_n (i := 0) dL_law_19 rfl rfl ?_
        refine ev_slen dL_law_20 rfl ?_
        refine ev_iconst (v := nI 4) dL_law_21 rfl ?_
        refine ev_isub dL_law_22 ?_
        refine ev_icmp_gt 927 dL_law_23 (by decide) (fun b23 => absurd b23 hge) (fun b23 => ?_)
        refine ev_aload_n (i := 0) dL_law_26 rfl rfl ?_
        refine ev_iload_n (i := 3) dL_law_27 rfl rfl ?_
        refine ev_sldN dL_law_28 rfl (by omega) (by omega) ?_
        refine ev_bipush (v := nI 31) dL_law_29 rfl ?_
        refine ev_iand dL_law_31 ?_
        refine ev_top (i_op hx) ?_
        refine ev_tsw_in (off := 556) 588 dL_law_32 (by decide) (by decide) (by decide) (by decide) ?_
        exact law_share hL hi hC hM ho nx
      · skip
        refine ev_iload_n (i := 3) dL_law_18 rfl rfl ?_
        refine ev_aload_n (i := 0) dL_law_19 rfl rfl ?_
        refine ev_slen dL_law_20 rfl ?_
        refine ev_iconst (v := nI 4) dL_law_21 rfl ?_
        refine ev_isub dL_law_22 ?_
        refine ev_icmp_gt 927 dL_law_23 (by decide) (fun b23 => absurd b23 hge) (fun b23 => ?_)
        refine ev_aload_n (i := 0) dL_law_26 rfl rfl ?_
        refine ev_iload_n (i := 3) dL_law_27 rfl rfl ?_
        refine ev_sldN dL_law_28 rfl (by omega) (by omega) ?_
        refine ev_bipush (v := nI 31) dL_law_29 rfl ?_
        refine ev_iand dL_law_31 ?_
        refine ev_top (i_op hx) ?_
        refine ev_tsw_in (off := 605) 637 dL_law_32 (by decide) (by decide) (by decide) (by decide) ?_
        exact law_tell hL hi hC hM ho nx
      · skip
        refine ev_iload_n (i := 3) dL_law_18 rfl rfl ?_
        refine ev_aload_n (i := 0) dL_law_19 rfl rfl ?_
        refine ev_slen dL_law_20 rfl ?_
        refine ev_iconst (v := nI 4) dL_law_21 rfl ?_
        refine ev_isub dL_law_22 ?_
        refine ev_icmp_gt 927 dL_law_23 (by decide) (fun b23 => absurd b23 hge) (fun b23 => ?_)
        refine ev_aload_n (i := 0) dL_law_26 rfl rfl ?_
        refine ev_iload_n (i := 3) dL_law_27 rfl rfl ?_
        refine ev_sldN dL_law_28 rfl (by omega) (by omega) ?_
        refine ev_bipush (v := nI 31) dL_law_29 rfl ?_
        refine ev_iand dL_law_31 ?_
        refine ev_top (i_op hx) ?_
        refine ev_tsw_in (off := 638) 670 dL_law_32 (by decide) (by decide) (by decide) (by decide) ?_
        exact law_untell hL hi hC hM ho nx
      · skip
        refine ev_iload_n (i := 3) dL_law_18 rfl rfl ?_
        refine ev_aload_n (i := 0) dL_law_19 rfl rfl ?_
        refine ev_slen dL_law_20 rfl ?_
        refine ev_iconst (v := nI 4) dL_law_21 rfl ?_
        refine ev_isub dL_law_22 ?_
        refine ev_icmp_gt 927 dL_law_23 (by decide) (fun b23 => absurd b23 hge) (fun b23 => ?_)
        refine ev_aload_n (i := 0) dL_law_26 rfl rfl ?_
        refine ev_iload_n (i := 3) dL_law_27 rfl rfl ?_
        refine ev_sldN dL_law_28 rfl (by omega) (by omega) ?_
        refine ev_bipush (v := nI 31) dL_law_29 rfl ?_
        refine ev_iand dL_law_31 ?_
        refine ev_top (i_op hx) ?_
        refine ev_tsw_in (off := 651) 683 dL_law_32 (by decide) (by decide) (by decide) (by decide) ?_
        exact law_orders hL hi hC hM ho nx
      · skip
        refine ev_iload_n (i := 3) dL_law_18 rfl rfl ?_
        refine ev_aload_n (i := 0) dL_law_19 rfl rfl ?_
        refine ev_slen dL_law_20 rfl ?_
        refine ev_iconst (v := nI 4) dL_law_21 rfl ?_
        refine ev_isub dL_law_22 ?_
        refine ev_icmp_gt 927 dL_law_23 (by decide) (fun b23 => absurd b23 hge) (fun b23 => ?_)
        refine ev_aload_n (i := 0) dL_law_26 rfl rfl ?_
        refine ev_iload_n (i := 3) dL_law_27 rfl rfl ?_
        refine ev_sldN dL_law_28 rfl (by omega) (by omega) ?_
        refine ev_bipush (v := nI 31) dL_law_29 rfl ?_
        refine ev_iand dL_law_31 ?_
        refine ev_top (i_op hx) ?_
        refine ev_tsw_in (off := 674) 706 dL_law_32 (by decide) (by decide) (by decide) (by decide) ?_
        exact law_rests hL hi hC hM ho nx
      · skip
        refine ev_iload_n (i := 3) dL_law_18 rfl rfl ?_
        refine ev_aload_n (i := 0) dL_law_19 rfl rfl ?_
        refine ev_slen dL_law_20 rfl ?_
        refine ev_iconst (v := nI 4) dL_law_21 rfl ?_
        refine ev_isub dL_law_22 ?_
        refine ev_icmp_gt 927 dL_law_23 (by decide) (fun b23 => absurd b23 hge) (fun b23 => ?_)
        refine ev_aload_n (i := 0) dL_law_26 rfl rfl ?_
        refine ev_iload_n (i := 3) dL_law_27 rfl rfl ?_
        refine ev_sldN dL_law_28 rfl (by omega) (by omega) ?_
        refine ev_bipush (v := nI 31) dL_law_29 rfl ?_
        refine ev_iand dL_law_31 ?_
        refine ev_top (i_op hx) ?_
        refine ev_tsw_in (off := 707) 739 dL_law_32 (by decide) (by decide) (by decide) (by decide) ?_
        exact law_chance hL hi hC hM ho nx
      · skip
        refine ev_iload_n (i := 3) dL_law_18 rfl rfl ?_
        refine ev_aload_n (i := 0) dL_law_19 rfl rfl ?_
        refine ev_slen dL_law_20 rfl ?_
        refine ev_iconst (v := nI 4) dL_law_21 rfl ?_
        refine ev_isub dL_law_22 ?_
        refine ev_icmp_gt 927 dL_law_23 (by decide) (fun b23 => absurd b23 hge) (fun b23 => ?_)
        refine ev_aload_n (i := 0) dL_law_26 rfl rfl ?_
        refine ev_iload_n (i := 3) dL_law_27 rfl rfl ?_
        refine ev_sldN dL_law_28 rfl (by omega) (by omega) ?_
        refine ev_bipush (v := nI 31) dL_law_29 rfl ?_
        refine ev_iand dL_law_31 ?_
        refine ev_top (i_op hx) ?_
        refine ev_tsw_in (off := 766) 798 dL_law_32 (by decide) (by decide) (by decide) (by decide) ?_
        exact law_seed hL hi hC hM ho nx
      · skip
        refine ev_iload_n (i := 3) dL_law_18 rfl rfl ?_
        refine ev_aload_n (i := 0) dL_law_19 rfl rfl ?_
        refine ev_slen dL_law_20 rfl ?_
        refine ev_iconst (v := nI 4) dL_law_21 rfl ?_
        refine ev_isub dL_law_22 ?_
        refine ev_icmp_gt 927 dL_law_23 (by decide) (fun b23 => absurd b23 hge) (fun b23 => ?_)
        refine ev_aload_n (i := 0) dL_law_26 rfl rfl ?_
        refine ev_iload_n (i := 3) dL_law_27 rfl rfl ?_
        refine ev_sldN dL_law_28 rfl (by omega) (by omega) ?_
        refine ev_bipush (v := nI 31) dL_law_29 rfl ?_
        refine ev_iand dL_law_31 ?_
        refine ev_top (i_op hx) ?_
        refine ev_tsw_in (off := 820) 852 dL_law_32 (by decide) (by decide) (by decide) (by decide) ?_
        exact law_years hL hi hC hM ho nx
      · skip
        refine ev_iload_n (i := 3) dL_law_18 rfl rfl ?_
        refine ev_aload_n (i := 0) dL_law_19 rfl rfl ?_
        refine ev_slen dL_law_20 rfl ?_
        refine ev_iconst (v := nI 4) dL_law_21 rfl ?_
        refine ev_isub dL_law_22 ?_
        refine ev_icmp_gt 927 dL_law_23 (by decide) (fun b23 => absurd b23 hge) (fun b23 => ?_)
        refine ev_aload_n (i := 0) dL_law_26 rfl rfl ?_
        refine ev_iload_n (i := 3) dL_law_27 rfl rfl ?_
        refine ev_sldN dL_law_28 rfl (by omega) (by omega) ?_
        refine ev_bipush (v := nI 31) dL_law_29 rfl ?_
        refine ev_iand dL_law_31 ?_
        refine ev_top (i_op hx) ?_
        refine ev_tsw_in (off := 843) 875 dL_law_32 (by decide) (by decide) (by decide) (by decide) ?_
        exact law_keep hL hi hC hM ho nx
      · skip
        refine ev_iload_n (i := 3) dL_law_18 rfl rfl ?_
        refine ev_aload_n (i := 0) dL_law_19 rfl rfl ?_
        refine ev_slen dL_law_20 rfl ?_
        refine ev_iconst (v := nI 4) dL_law_21 rfl ?_
        refine ev_isub dL_law_22 ?_
        refine ev_icmp_gt 927 dL_law_23 (by decide) (fun b23 => absurd b23 hge) (fun b23 => ?_)
        refine ev_aload_n (i := 0) dL_law_26 rfl rfl ?_
        refine ev_iload_n (i := 3) dL_law_27 rfl rfl ?_
        refine ev_sldN dL_law_28 rfl (by omega) (by omega) ?_
        refine ev_bipush (v := nI 31) dL_law_29 rfl ?_
        refine ev_iand dL_law_31 ?_
        refine ev_top (i_op hx) ?_
        refine ev_tsw_in (off := 866) 898 dL_law_32 (by decide) (by decide) (by decide) (by decide) ?_
        exact law_again hL hi hC hM ho nx
      · skip
        refine ev_iload_n (i := 3) dL_law_18 rfl rfl ?_
        refine ev_aload_n (i := 0) dL_law_19 rfl rfl ?_
        refine ev_slen dL_law_20 rfl ?_
        refine ev_iconst (v := nI 4) dL_law_21 rfl ?_
        refine ev_isub dL_law_22 ?_
        refine ev_icmp_gt 927 dL_law_23 (by decide) (fun b23 => absurd b23 hge) (fun b23 => ?_)
        refine ev_aload_n (i := 0) dL_law_26 rfl rfl ?_
        refine ev_iload_n (i := 3) dL_law_27 rfl rfl ?_
        refine ev_sldN dL_law_28 rfl (by omega) (by omega) ?_
        refine ev_bipush (v := nI 31) dL_law_29 rfl ?_
        refine ev_iand dL_law_31 ?_
        refine ev_top (i_op hx) ?_
        refine ev_tsw_out 921 dL_law_32 (by decide) (by decide) ?_
        exact nx M s hC hM ho
      · skip
        refine ev_iload_n (i := 3) dL_law_18 rfl rfl ?_
        refine ev_aload_n (i := 0) dL_law_19 rfl rfl ?_
        refine ev_slen dL_law_20 rfl ?_
        refine ev_iconst (v := nI 4) dL_law_21 rfl ?_
        refine ev_isub dL_law_22 ?_
        refine ev_icmp_gt 927 dL_law_23 (by decide) (fun b23 => absurd b23 hge) (fun b23 => ?_)
        refine ev_aload_n (i := 0) dL_law_26 rfl rfl ?_
        refine ev_iload_n (i := 3) dL_law_27 rfl rfl ?_
        refine ev_sldN dL_law_28 rfl (by omega) (by omega) ?_
        refine ev_bipush (v := nI 31) dL_law_29 rfl ?_
        refine ev_iand dL_law_31 ?_
        refine ev_top (i_op hx) ?_
        refine ev_tsw_out 921 dL_law_32 (by decide) (by decide) ?_
        exact nx M s hC hM ho
    · exact out i M hi h2
end LAW
