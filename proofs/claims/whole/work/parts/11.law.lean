noncomputable section
-- GreetedMirrorsLaw.law([I)Z
def L_law_b1017 (sc : Nat × (Nat → Int32)) (h18 : ak_K) : ak_K := (k_ii 3 4 h18)
theorem S_L_law_b1017 {sc : Nat × (Nat → Int32)} {h18 : ak_K} (H18 : ak_S cL_law RL 4 4 7 164 sc 18 h18) : ak_S cL_law RL 4 4 7 164 sc 1017 (L_law_b1017 sc h18) := by
  unfold L_law_b1017
  refine s_iinc (y := 4) dL_law_1017 (by decide +kernel) (by decide) ?_
  refine s_goto (tgt := 18) dL_law_1020 (by decide) ?_
  exact H18
def L_law_b180 (sc : Nat × (Nat → Int32)) (h18 : ak_K) : ak_K := (k_al 1 (k_al 0 (k_il 3 (k_ci 1 (k_b (fun x y => x + y) (k_sld sc (k_cv 9 2 G_feed (k_al 2 (k_al 0 (k_il 3 (k_ci 1 (k_b (fun x y => x + y) (k_sld sc (k_cv 10 2 R_feed (k_cmeq (L_law_b1017 sc h18) (k_ci 0 k_rl))))))))))))))))
theorem S_L_law_b180 {sc : Nat × (Nat → Int32)} {h18 : ak_K} (H18 : ak_S cL_law RL 4 4 7 164 sc 18 h18) : ak_S cL_law RL 4 4 7 164 sc 180 (L_law_b180 sc h18) := by
  unfold L_law_b180
  refine s_aload_n dL_law_180 rfl ?_
  refine s_aload_n dL_law_181 rfl ?_
  refine s_iload_n dL_law_182 rfl ?_
  refine s_iconst (x := 1) dL_law_183 (by decide +kernel) ?_
  refine s_iadd dL_law_184 ?_
  refine s_sld rfl dL_law_185 ?_
  refine s_cv (C := RX9) (Tf := TX9) (N := 11) (i := 9) rfl M_G_feed dL_law_186 rfl ⟨by decide +kernel, by decide +kernel, by decide +kernel⟩ (by decide) wd_814 wd_815 wd_10 (Or.inl wd_813) ?_
  refine s_aload_n dL_law_189 rfl ?_
  refine s_aload_n dL_law_190 rfl ?_
  refine s_iload_n dL_law_191 rfl ?_
  refine s_iconst (x := 1) dL_law_192 (by decide +kernel) ?_
  refine s_iadd dL_law_193 ?_
  refine s_sld rfl dL_law_194 ?_
  refine s_cv (C := RX10) (Tf := TX10) (N := 41) (i := 10) rfl M_R_feed dL_law_195 rfl ⟨by decide +kernel, by decide +kernel, by decide +kernel⟩ (by decide) wd_817 wd_818 wd_610 (Or.inl wd_816) ?_
  refine s_cmeq (tgt := 1017) dL_law_198 (by decide) ?_ ?_
  · exact (S_L_law_b1017 H18)
  · refine s_iconst (x := 0) dL_law_201 (by decide +kernel) ?_
    exact s_rl rfl dL_law_202
def L_law_b203 (sc : Nat × (Nat → Int32)) (h18 : ak_K) : ak_K := (k_al 1 (k_cv 9 1 G_house (k_al 2 (k_cv 10 1 R_house (k_cmeq (L_law_b1017 sc h18) (k_ci 0 k_rl))))))
theorem S_L_law_b203 {sc : Nat × (Nat → Int32)} {h18 : ak_K} (H18 : ak_S cL_law RL 4 4 7 164 sc 18 h18) : ak_S cL_law RL 4 4 7 164 sc 203 (L_law_b203 sc h18) := by
  unfold L_law_b203
  refine s_aload_n dL_law_203 rfl ?_
  refine s_cv (C := RX9) (Tf := TX9) (N := 11) (i := 9) rfl M_G_house dL_law_204 rfl ⟨by decide +kernel, by decide +kernel, by decide +kernel⟩ (by decide) wd_820 wd_821 wd_10 (Or.inl wd_819) ?_
  refine s_aload_n dL_law_207 rfl ?_
  refine s_cv (C := RX10) (Tf := TX10) (N := 41) (i := 10) rfl M_R_house dL_law_208 rfl ⟨by decide +kernel, by decide +kernel, by decide +kernel⟩ (by decide) wd_823 wd_824 wd_610 (Or.inl wd_822) ?_
  refine s_cmeq (tgt := 1017) dL_law_211 (by decide) ?_ ?_
  · exact (S_L_law_b1017 H18)
  · refine s_iconst (x := 0) dL_law_214 (by decide +kernel) ?_
    exact s_rl rfl dL_law_215
def L_law_b216 (sc : Nat × (Nat → Int32)) (h18 : ak_K) : ak_K := (k_al 1 (k_cv 9 1 G_fault (k_al 2 (k_cv 10 1 R_fault (k_cmeq (L_law_b1017 sc h18) (k_ci 0 k_rl))))))
theorem S_L_law_b216 {sc : Nat × (Nat → Int32)} {h18 : ak_K} (H18 : ak_S cL_law RL 4 4 7 164 sc 18 h18) : ak_S cL_law RL 4 4 7 164 sc 216 (L_law_b216 sc h18) := by
  unfold L_law_b216
  refine s_aload_n dL_law_216 rfl ?_
  refine s_cv (C := RX9) (Tf := TX9) (N := 11) (i := 9) rfl M_G_fault dL_law_217 rfl ⟨by decide +kernel, by decide +kernel, by decide +kernel⟩ (by decide) wd_826 wd_827 wd_10 (Or.inl wd_825) ?_
  refine s_aload_n dL_law_220 rfl ?_
  refine s_cv (C := RX10) (Tf := TX10) (N := 41) (i := 10) rfl M_R_fault dL_law_221 rfl ⟨by decide +kernel, by decide +kernel, by decide +kernel⟩ (by decide) wd_829 wd_830 wd_610 (Or.inl wd_828) ?_
  refine s_cmeq (tgt := 1017) dL_law_224 (by decide) ?_ ?_
  · exact (S_L_law_b1017 H18)
  · refine s_iconst (x := 0) dL_law_227 (by decide +kernel) ?_
    exact s_rl rfl dL_law_228
def L_law_b229 (sc : Nat × (Nat → Int32)) (h18 : ak_K) : ak_K := (k_al 1 (k_al 0 (k_il 3 (k_ci 1 (k_b (fun x y => x + y) (k_sld sc (k_cv 9 2 G_told (k_al 2 (k_al 0 (k_il 3 (k_ci 1 (k_b (fun x y => x + y) (k_sld sc (k_cv 10 2 R_told (k_cmeq (L_law_b1017 sc h18) (k_ci 0 k_rl))))))))))))))))
theorem S_L_law_b229 {sc : Nat × (Nat → Int32)} {h18 : ak_K} (H18 : ak_S cL_law RL 4 4 7 164 sc 18 h18) : ak_S cL_law RL 4 4 7 164 sc 229 (L_law_b229 sc h18) := by
  unfold L_law_b229
  refine s_aload_n dL_law_229 rfl ?_
  refine s_aload_n dL_law_230 rfl ?_
  refine s_iload_n dL_law_231 rfl ?_
  refine s_iconst (x := 1) dL_law_232 (by decide +kernel) ?_
  refine s_iadd dL_law_233 ?_
  refine s_sld rfl dL_law_234 ?_
  refine s_cv (C := RX9) (Tf := TX9) (N := 11) (i := 9) rfl M_G_told dL_law_235 rfl ⟨by decide +kernel, by decide +kernel, by decide +kernel⟩ (by decide) wd_832 wd_833 wd_10 (Or.inl wd_831) ?_
  refine s_aload_n dL_law_238 rfl ?_
  refine s_aload_n dL_law_239 rfl ?_
  refine s_iload_n dL_law_240 rfl ?_
  refine s_iconst (x := 1) dL_law_241 (by decide +kernel) ?_
  refine s_iadd dL_law_242 ?_
  refine s_sld rfl dL_law_243 ?_
  refine s_cv (C := RX10) (Tf := TX10) (N := 41) (i := 10) rfl M_R_told dL_law_244 rfl ⟨by decide +kernel, by decide +kernel, by decide +kernel⟩ (by decide) wd_835 wd_836 wd_610 (Or.inl wd_834) ?_
  refine s_cmeq (tgt := 1017) dL_law_247 (by decide) ?_ ?_
  · exact (S_L_law_b1017 H18)
  · refine s_iconst (x := 0) dL_law_250 (by decide +kernel) ?_
    exact s_rl rfl dL_law_251
def L_law_b280 (sc : Nat × (Nat → Int32)) (h18 : ak_K) : ak_K := (k_cmeq (L_law_b1017 sc h18) (k_ci 0 k_rl))
theorem S_L_law_b280 {sc : Nat × (Nat → Int32)} {h18 : ak_K} (H18 : ak_S cL_law RL 4 4 7 164 sc 18 h18) : ak_S cL_law RL 4 4 7 164 sc 280 (L_law_b280 sc h18) := by
  unfold L_law_b280
  refine s_cmeq (tgt := 1017) dL_law_280 (by decide) ?_ ?_
  · exact (S_L_law_b1017 H18)
  · refine s_iconst (x := 0) dL_law_283 (by decide +kernel) ?_
    exact s_rl rfl dL_law_284
def L_law_b252 (sc : Nat × (Nat → Int32)) (h18 : ak_K) : ak_K := (k_al 1 (k_al 0 (k_il 3 (k_ci 1 (k_b (fun x y => x + y) (k_sld sc (k_al 0 (k_il 3 (k_ci 2 (k_b (fun x y => x + y) (k_sld sc (k_cv 9 3 G_mirror (k_al 2 (k_al 0 (k_il 3 (k_ci 1 (k_b (fun x y => x + y) (k_sld sc (k_al 0 (k_il 3 (k_ci 2 (k_b (fun x y => x + y) (k_sld sc (k_cv 10 3 R_mirror (L_law_b280 sc h18)))))))))))))))))))))))))
theorem S_L_law_b252 {sc : Nat × (Nat → Int32)} {h18 : ak_K} (H18 : ak_S cL_law RL 4 4 7 164 sc 18 h18) : ak_S cL_law RL 4 4 7 164 sc 252 (L_law_b252 sc h18) := by
  unfold L_law_b252
  refine s_aload_n dL_law_252 rfl ?_
  refine s_aload_n dL_law_253 rfl ?_
  refine s_iload_n dL_law_254 rfl ?_
  refine s_iconst (x := 1) dL_law_255 (by decide +kernel) ?_
  refine s_iadd dL_law_256 ?_
  refine s_sld rfl dL_law_257 ?_
  refine s_aload_n dL_law_258 rfl ?_
  refine s_iload_n dL_law_259 rfl ?_
  refine s_iconst (x := 2) dL_law_260 (by decide +kernel) ?_
  refine s_iadd dL_law_261 ?_
  refine s_sld rfl dL_law_262 ?_
  refine s_cv (C := RX9) (Tf := TX9) (N := 11) (i := 9) rfl M_G_mirror dL_law_263 rfl ⟨by decide +kernel, by decide +kernel, by decide +kernel⟩ (by decide) wd_838 wd_839 wd_10 (Or.inl wd_837) ?_
  refine s_aload_n dL_law_266 rfl ?_
  refine s_aload_n dL_law_267 rfl ?_
  refine s_iload_n dL_law_268 rfl ?_
  refine s_iconst (x := 1) dL_law_269 (by decide +kernel) ?_
  refine s_iadd dL_law_270 ?_
  refine s_sld rfl dL_law_271 ?_
  refine s_aload_n dL_law_272 rfl ?_
  refine s_iload_n dL_law_273 rfl ?_
  refine s_iconst (x := 2) dL_law_274 (by decide +kernel) ?_
  refine s_iadd dL_law_275 ?_
  refine s_sld rfl dL_law_276 ?_
  refine s_cv (C := RX10) (Tf := TX10) (N := 41) (i := 10) rfl M_R_mirror dL_law_277 rfl ⟨by decide +kernel, by decide +kernel, by decide +kernel⟩ (by decide) wd_841 wd_842 wd_610 (Or.inl wd_840) ?_
  exact (S_L_law_b280 H18)
def L_law_b313 (sc : Nat × (Nat → Int32)) (h18 : ak_K) : ak_K := (k_cmeq (L_law_b1017 sc h18) (k_ci 0 k_rl))
theorem S_L_law_b313 {sc : Nat × (Nat → Int32)} {h18 : ak_K} (H18 : ak_S cL_law RL 4 4 7 164 sc 18 h18) : ak_S cL_law RL 4 4 7 164 sc 313 (L_law_b313 sc h18) := by
  unfold L_law_b313
  refine s_cmeq (tgt := 1017) dL_law_313 (by decide) ?_ ?_
  · exact (S_L_law_b1017 H18)
  · refine s_iconst (x := 0) dL_law_316 (by decide +kernel) ?_
    exact s_rl rfl dL_law_317
def L_law_b285 (sc : Nat × (Nat → Int32)) (h18 : ak_K) : ak_K := (k_al 1 (k_al 0 (k_il 3 (k_ci 1 (k_b (fun x y => x + y) (k_sld sc (k_al 0 (k_il 3 (k_ci 2 (k_b (fun x y => x + y) (k_sld sc (k_cv 9 3 G_doorOf (k_al 2 (k_al 0 (k_il 3 (k_ci 1 (k_b (fun x y => x + y) (k_sld sc (k_al 0 (k_il 3 (k_ci 2 (k_b (fun x y => x + y) (k_sld sc (k_cv 10 3 R_doorOf (L_law_b313 sc h18)))))))))))))))))))))))))
theorem S_L_law_b285 {sc : Nat × (Nat → Int32)} {h18 : ak_K} (H18 : ak_S cL_law RL 4 4 7 164 sc 18 h18) : ak_S cL_law RL 4 4 7 164 sc 285 (L_law_b285 sc h18) := by
  unfold L_law_b285
  refine s_aload_n dL_law_285 rfl ?_
  refine s_aload_n dL_law_286 rfl ?_
  refine s_iload_n dL_law_287 rfl ?_
  refine s_iconst (x := 1) dL_law_288 (by decide +kernel) ?_
  refine s_iadd dL_law_289 ?_
  refine s_sld rfl dL_law_290 ?_
  refine s_aload_n dL_law_291 rfl ?_
  refine s_iload_n dL_law_292 rfl ?_
  refine s_iconst (x := 2) dL_law_293 (by decide +kernel) ?_
  refine s_iadd dL_law_294 ?_
  refine s_sld rfl dL_law_295 ?_
  refine s_cv (C := RX9) (Tf := TX9) (N := 11) (i := 9) rfl M_G_doorOf dL_law_296 rfl ⟨by decide +kernel, by decide +kernel, by decide +kernel⟩ (by decide) wd_844 wd_845 wd_10 (Or.inl wd_843) ?_
  refine s_aload_n dL_law_299 rfl ?_
  refine s_aload_n dL_law_300 rfl ?_
  refine s_iload_n dL_law_301 rfl ?_
  refine s_iconst (x := 1) dL_law_302 (by decide +kernel) ?_
  refine s_iadd dL_law_303 ?_
  refine s_sld rfl dL_law_304 ?_
  refine s_aload_n dL_law_305 rfl ?_
  refine s_iload_n dL_law_306 rfl ?_
  refine s_iconst (x := 2) dL_law_307 (by decide +kernel) ?_
  refine s_iadd dL_law_308 ?_
  refine s_sld rfl dL_law_309 ?_
  refine s_cv (C := RX10) (Tf := TX10) (N := 41) (i := 10) rfl M_R_doorOf dL_law_310 rfl ⟨by decide +kernel, by decide +kernel, by decide +kernel⟩ (by decide) wd_847 wd_848 wd_610 (Or.inl wd_846) ?_
  exact (S_L_law_b313 H18)
def L_law_b318 (sc : Nat × (Nat → Int32)) (h18 : ak_K) : ak_K := (k_al 1 (k_al 0 (k_il 3 (k_ci 1 (k_b (fun x y => x + y) (k_sld sc (k_cv 9 2 G_person (k_al 2 (k_al 0 (k_il 3 (k_ci 1 (k_b (fun x y => x + y) (k_sld sc (k_cv 10 2 R_person (k_cmeq (L_law_b1017 sc h18) (k_ci 0 k_rl))))))))))))))))
theorem S_L_law_b318 {sc : Nat × (Nat → Int32)} {h18 : ak_K} (H18 : ak_S cL_law RL 4 4 7 164 sc 18 h18) : ak_S cL_law RL 4 4 7 164 sc 318 (L_law_b318 sc h18) := by
  unfold L_law_b318
  refine s_aload_n dL_law_318 rfl ?_
  refine s_aload_n dL_law_319 rfl ?_
  refine s_iload_n dL_law_320 rfl ?_
  refine s_iconst (x := 1) dL_law_321 (by decide +kernel) ?_
  refine s_iadd dL_law_322 ?_
  refine s_sld rfl dL_law_323 ?_
  refine s_cv (C := RX9) (Tf := TX9) (N := 11) (i := 9) rfl M_G_person dL_law_324 rfl ⟨by decide +kernel, by decide +kernel, by decide +kernel⟩ (by decide) wd_850 wd_851 wd_10 (Or.inl wd_849) ?_
  refine s_aload_n dL_law_327 rfl ?_
  refine s_aload_n dL_law_328 rfl ?_
  refine s_iload_n dL_law_329 rfl ?_
  refine s_iconst (x := 1) dL_law_330 (by decide +kernel) ?_
  refine s_iadd dL_law_331 ?_
  refine s_sld rfl dL_law_332 ?_
  refine s_cv (C := RX10) (Tf := TX10) (N := 41) (i := 10) rfl M_R_person dL_law_333 rfl ⟨by decide +kernel, by decide +kernel, by decide +kernel⟩ (by decide) wd_853 wd_854 wd_610 (Or.inl wd_852) ?_
  refine s_cmeq (tgt := 1017) dL_law_336 (by decide) ?_ ?_
  · exact (S_L_law_b1017 H18)
  · refine s_iconst (x := 0) dL_law_339 (by decide +kernel) ?_
    exact s_rl rfl dL_law_340
def L_law_b369 (sc : Nat × (Nat → Int32)) (h18 : ak_K) : ak_K := (k_cmeq (L_law_b1017 sc h18) (k_ci 0 k_rl))
theorem S_L_law_b369 {sc : Nat × (Nat → Int32)} {h18 : ak_K} (H18 : ak_S cL_law RL 4 4 7 164 sc 18 h18) : ak_S cL_law RL 4 4 7 164 sc 369 (L_law_b369 sc h18) := by
  unfold L_law_b369
  refine s_cmeq (tgt := 1017) dL_law_369 (by decide) ?_ ?_
  · exact (S_L_law_b1017 H18)
  · refine s_iconst (x := 0) dL_law_372 (by decide +kernel) ?_
    exact s_rl rfl dL_law_373
def L_law_b341 (sc : Nat × (Nat → Int32)) (h18 : ak_K) : ak_K := (k_al 1 (k_al 0 (k_il 3 (k_ci 1 (k_b (fun x y => x + y) (k_sld sc (k_al 0 (k_il 3 (k_ci 2 (k_b (fun x y => x + y) (k_sld sc (k_cv 9 3 G_sees (k_al 2 (k_al 0 (k_il 3 (k_ci 1 (k_b (fun x y => x + y) (k_sld sc (k_al 0 (k_il 3 (k_ci 2 (k_b (fun x y => x + y) (k_sld sc (k_cv 10 3 R_sees (L_law_b369 sc h18)))))))))))))))))))))))))
theorem S_L_law_b341 {sc : Nat × (Nat → Int32)} {h18 : ak_K} (H18 : ak_S cL_law RL 4 4 7 164 sc 18 h18) : ak_S cL_law RL 4 4 7 164 sc 341 (L_law_b341 sc h18) := by
  unfold L_law_b341
  refine s_aload_n dL_law_341 rfl ?_
  refine s_aload_n dL_law_342 rfl ?_
  refine s_iload_n dL_law_343 rfl ?_
  refine s_iconst (x := 1) dL_law_344 (by decide +kernel) ?_
  refine s_iadd dL_law_345 ?_
  refine s_sld rfl dL_law_346 ?_
  refine s_aload_n dL_law_347 rfl ?_
  refine s_iload_n dL_law_348 rfl ?_
  refine s_iconst (x := 2) dL_law_349 (by decide +kernel) ?_
  refine s_iadd dL_law_350 ?_
  refine s_sld rfl dL_law_351 ?_
  refine s_cv (C := RX9) (Tf := TX9) (N := 11) (i := 9) rfl M_G_sees dL_law_352 rfl ⟨by decide +kernel, by decide +kernel, by decide +kernel⟩ (by decide) wd_856 wd_857 wd_10 (Or.inl wd_855) ?_
  refine s_aload_n dL_law_355 rfl ?_
  refine s_aload_n dL_law_356 rfl ?_
  refine s_iload_n dL_law_357 rfl ?_
  refine s_iconst (x := 1) dL_law_358 (by decide +kernel) ?_
  refine s_iadd dL_law_359 ?_
  refine s_sld rfl dL_law_360 ?_
  refine s_aload_n dL_law_361 rfl ?_
  refine s_iload_n dL_law_362 rfl ?_
  refine s_iconst (x := 2) dL_law_363 (by decide +kernel) ?_
  refine s_iadd dL_law_364 ?_
  refine s_sld rfl dL_law_365 ?_
  refine s_cv (C := RX10) (Tf := TX10) (N := 41) (i := 10) rfl M_R_sees dL_law_366 rfl ⟨by decide +kernel, by decide +kernel, by decide +kernel⟩ (by decide) wd_859 wd_860 wd_610 (Or.inl wd_858) ?_
  exact (S_L_law_b369 H18)
def L_law_b374 (sc : Nat × (Nat → Int32)) (h18 : ak_K) : ak_K := (k_al 1 (k_al 0 (k_il 3 (k_ci 1 (k_b (fun x y => x + y) (k_sld sc (k_cv 9 2 G_step (k_al 2 (k_al 0 (k_il 3 (k_ci 1 (k_b (fun x y => x + y) (k_sld sc (k_cv 10 2 R_step (k_cmeq (L_law_b1017 sc h18) (k_ci 0 k_rl))))))))))))))))
theorem S_L_law_b374 {sc : Nat × (Nat → Int32)} {h18 : ak_K} (H18 : ak_S cL_law RL 4 4 7 164 sc 18 h18) : ak_S cL_law RL 4 4 7 164 sc 374 (L_law_b374 sc h18) := by
  unfold L_law_b374
  refine s_aload_n dL_law_374 rfl ?_
  refine s_aload_n dL_law_375 rfl ?_
  refine s_iload_n dL_law_376 rfl ?_
  refine s_iconst (x := 1) dL_law_377 (by decide +kernel) ?_
  refine s_iadd dL_law_378 ?_
  refine s_sld rfl dL_law_379 ?_
  refine s_cv (C := RX9) (Tf := TX9) (N := 11) (i := 9) rfl M_G_step dL_law_380 rfl ⟨by decide +kernel, by decide +kernel, by decide +kernel⟩ (by decide) wd_862 wd_863 wd_10 (Or.inl wd_861) ?_
  refine s_aload_n dL_law_383 rfl ?_
  refine s_aload_n dL_law_384 rfl ?_
  refine s_iload_n dL_law_385 rfl ?_
  refine s_iconst (x := 1) dL_law_386 (by decide +kernel) ?_
  refine s_iadd dL_law_387 ?_
  refine s_sld rfl dL_law_388 ?_
  refine s_cv (C := RX10) (Tf := TX10) (N := 41) (i := 10) rfl M_R_step dL_law_389 rfl ⟨by decide +kernel, by decide +kernel, by decide +kernel⟩ (by decide) wd_865 wd_866 wd_610 (Or.inl wd_864) ?_
  refine s_cmeq (tgt := 1017) dL_law_392 (by decide) ?_ ?_
  · exact (S_L_law_b1017 H18)
  · refine s_iconst (x := 0) dL_law_395 (by decide +kernel) ?_
    exact s_rl rfl dL_law_396
def L_law_b425 (sc : Nat × (Nat → Int32)) (h18 : ak_K) : ak_K := (k_cmeq (L_law_b1017 sc h18) (k_ci 0 k_rl))
theorem S_L_law_b425 {sc : Nat × (Nat → Int32)} {h18 : ak_K} (H18 : ak_S cL_law RL 4 4 7 164 sc 18 h18) : ak_S cL_law RL 4 4 7 164 sc 425 (L_law_b425 sc h18) := by
  unfold L_law_b425
  refine s_cmeq (tgt := 1017) dL_law_425 (by decide) ?_ ?_
  · exact (S_L_law_b1017 H18)
  · refine s_iconst (x := 0) dL_law_428 (by decide +kernel) ?_
    exact s_rl rfl dL_law_429
def L_law_b397 (sc : Nat × (Nat → Int32)) (h18 : ak_K) : ak_K := (k_al 1 (k_al 0 (k_il 3 (k_ci 1 (k_b (fun x y => x + y) (k_sld sc (k_al 0 (k_il 3 (k_ci 2 (k_b (fun x y => x + y) (k_sld sc (k_cv 9 3 G_greet (k_al 2 (k_al 0 (k_il 3 (k_ci 1 (k_b (fun x y => x + y) (k_sld sc (k_al 0 (k_il 3 (k_ci 2 (k_b (fun x y => x + y) (k_sld sc (k_cv 10 3 R_greet (L_law_b425 sc h18)))))))))))))))))))))))))
theorem S_L_law_b397 {sc : Nat × (Nat → Int32)} {h18 : ak_K} (H18 : ak_S cL_law RL 4 4 7 164 sc 18 h18) : ak_S cL_law RL 4 4 7 164 sc 397 (L_law_b397 sc h18) := by
  unfold L_law_b397
  refine s_aload_n dL_law_397 rfl ?_
  refine s_aload_n dL_law_398 rfl ?_
  refine s_iload_n dL_law_399 rfl ?_
  refine s_iconst (x := 1) dL_law_400 (by decide +kernel) ?_
  refine s_iadd dL_law_401 ?_
  refine s_sld rfl dL_law_402 ?_
  refine s_aload_n dL_law_403 rfl ?_
  refine s_iload_n dL_law_404 rfl ?_
  refine s_iconst (x := 2) dL_law_405 (by decide +kernel) ?_
  refine s_iadd dL_law_406 ?_
  refine s_sld rfl dL_law_407 ?_
  refine s_cv (C := RX9) (Tf := TX9) (N := 11) (i := 9) rfl M_G_greet dL_law_408 rfl ⟨by decide +kernel, by decide +kernel, by decide +kernel⟩ (by decide) wd_868 wd_869 wd_10 (Or.inl wd_867) ?_
  refine s_aload_n dL_law_411 rfl ?_
  refine s_aload_n dL_law_412 rfl ?_
  refine s_iload_n dL_law_413 rfl ?_
  refine s_iconst (x := 1) dL_law_414 (by decide +kernel) ?_
  refine s_iadd dL_law_415 ?_
  refine s_sld rfl dL_law_416 ?_
  refine s_aload_n dL_law_417 rfl ?_
  refine s_iload_n dL_law_418 rfl ?_
  refine s_iconst (x := 2) dL_law_419 (by decide +kernel) ?_
  refine s_iadd dL_law_420 ?_
  refine s_sld rfl dL_law_421 ?_
  refine s_cv (C := RX10) (Tf := TX10) (N := 41) (i := 10) rfl M_R_greet dL_law_422 rfl ⟨by decide +kernel, by decide +kernel, by decide +kernel⟩ (by decide) wd_871 wd_872 wd_610 (Or.inl wd_870) ?_
  exact (S_L_law_b425 H18)
def L_law_b471 (sc : Nat × (Nat → Int32)) (h18 : ak_K) : ak_K := (k_cv 10 3 R_steam (k_cmeq (L_law_b1017 sc h18) (k_ci 0 k_rl)))
theorem S_L_law_b471 {sc : Nat × (Nat → Int32)} {h18 : ak_K} (H18 : ak_S cL_law RL 4 4 7 164 sc 18 h18) : ak_S cL_law RL 4 4 7 164 sc 471 (L_law_b471 sc h18) := by
  unfold L_law_b471
  refine s_cv (C := RX10) (Tf := TX10) (N := 41) (i := 10) rfl M_R_steam dL_law_471 rfl ⟨by decide +kernel, by decide +kernel, by decide +kernel⟩ (by decide) wd_874 wd_875 wd_610 (Or.inl wd_873) ?_
  refine s_cmeq (tgt := 1017) dL_law_474 (by decide) ?_ ?_
  · exact (S_L_law_b1017 H18)
  · refine s_iconst (x := 0) dL_law_477 (by decide +kernel) ?_
    exact s_rl rfl dL_law_478
def L_law_b449 (sc : Nat × (Nat → Int32)) (h18 : ak_K) : ak_K := (k_cv 9 3 G_steam (k_al 2 (k_al 0 (k_il 3 (k_ci 1 (k_b (fun x y => x + y) (k_sld sc (k_al 0 (k_il 3 (k_ci 2 (k_b (fun x y => x + y) (k_sld sc (k_ifeq (k_ci 0 (L_law_b471 sc h18)) (k_ci 1 (L_law_b471 sc h18)))))))))))))))
theorem S_L_law_b449 {sc : Nat × (Nat → Int32)} {h18 : ak_K} (H18 : ak_S cL_law RL 4 4 7 164 sc 18 h18) : ak_S cL_law RL 4 4 7 164 sc 449 (L_law_b449 sc h18) := by
  unfold L_law_b449
  refine s_cv (C := RX9) (Tf := TX9) (N := 11) (i := 9) rfl M_G_steam dL_law_449 rfl ⟨by decide +kernel, by decide +kernel, by decide +kernel⟩ (by decide) wd_877 wd_878 wd_10 (Or.inl wd_876) ?_
  refine s_aload_n dL_law_452 rfl ?_
  refine s_aload_n dL_law_453 rfl ?_
  refine s_iload_n dL_law_454 rfl ?_
  refine s_iconst (x := 1) dL_law_455 (by decide +kernel) ?_
  refine s_iadd dL_law_456 ?_
  refine s_sld rfl dL_law_457 ?_
  refine s_aload_n dL_law_458 rfl ?_
  refine s_iload_n dL_law_459 rfl ?_
  refine s_iconst (x := 2) dL_law_460 (by decide +kernel) ?_
  refine s_iadd dL_law_461 ?_
  refine s_sld rfl dL_law_462 ?_
  refine s_ifeq (tgt := 470) dL_law_463 (by decide) ?_ ?_
  · refine s_iconst (x := 0) dL_law_470 (by decide +kernel) ?_
    exact (S_L_law_b471 H18)
  · refine s_iconst (x := 1) dL_law_466 (by decide +kernel) ?_
    refine s_goto (tgt := 471) dL_law_467 (by decide) ?_
    exact (S_L_law_b471 H18)
def L_law_b430 (sc : Nat × (Nat → Int32)) (h18 : ak_K) : ak_K := (k_al 1 (k_al 0 (k_il 3 (k_ci 1 (k_b (fun x y => x + y) (k_sld sc (k_al 0 (k_il 3 (k_ci 2 (k_b (fun x y => x + y) (k_sld sc (k_ifeq (k_ci 0 (L_law_b449 sc h18)) (k_ci 1 (L_law_b449 sc h18))))))))))))))
theorem S_L_law_b430 {sc : Nat × (Nat → Int32)} {h18 : ak_K} (H18 : ak_S cL_law RL 4 4 7 164 sc 18 h18) : ak_S cL_law RL 4 4 7 164 sc 430 (L_law_b430 sc h18) := by
  unfold L_law_b430
  refine s_aload_n dL_law_430 rfl ?_
  refine s_aload_n dL_law_431 rfl ?_
  refine s_iload_n dL_law_432 rfl ?_
  refine s_iconst (x := 1) dL_law_433 (by decide +kernel) ?_
  refine s_iadd dL_law_434 ?_
  refine s_sld rfl dL_law_435 ?_
  refine s_aload_n dL_law_436 rfl ?_
  refine s_iload_n dL_law_437 rfl ?_
  refine s_iconst (x := 2) dL_law_438 (by decide +kernel) ?_
  refine s_iadd dL_law_439 ?_
  refine s_sld rfl dL_law_440 ?_
  refine s_ifeq (tgt := 448) dL_law_441 (by decide) ?_ ?_
  · refine s_iconst (x := 0) dL_law_448 (by decide +kernel) ?_
    exact (S_L_law_b449 H18)
  · refine s_iconst (x := 1) dL_law_444 (by decide +kernel) ?_
    refine s_goto (tgt := 449) dL_law_445 (by decide) ?_
    exact (S_L_law_b449 H18)
def L_law_b520 (sc : Nat × (Nat → Int32)) (h18 : ak_K) : ak_K := (k_cv 10 3 R_door (k_cmeq (L_law_b1017 sc h18) (k_ci 0 k_rl)))
theorem S_L_law_b520 {sc : Nat × (Nat → Int32)} {h18 : ak_K} (H18 : ak_S cL_law RL 4 4 7 164 sc 18 h18) : ak_S cL_law RL 4 4 7 164 sc 520 (L_law_b520 sc h18) := by
  unfold L_law_b520
  refine s_cv (C := RX10) (Tf := TX10) (N := 41) (i := 10) rfl M_R_door dL_law_520 rfl ⟨by decide +kernel, by decide +kernel, by decide +kernel⟩ (by decide) wd_880 wd_881 wd_610 (Or.inl wd_879) ?_
  refine s_cmeq (tgt := 1017) dL_law_523 (by decide) ?_ ?_
  · exact (S_L_law_b1017 H18)
  · refine s_iconst (x := 0) dL_law_526 (by decide +kernel) ?_
    exact s_rl rfl dL_law_527
def L_law_b498 (sc : Nat × (Nat → Int32)) (h18 : ak_K) : ak_K := (k_cv 9 3 G_door (k_al 2 (k_al 0 (k_il 3 (k_ci 1 (k_b (fun x y => x + y) (k_sld sc (k_al 0 (k_il 3 (k_ci 2 (k_b (fun x y => x + y) (k_sld sc (k_ifeq (k_ci 0 (L_law_b520 sc h18)) (k_ci 1 (L_law_b520 sc h18)))))))))))))))
theorem S_L_law_b498 {sc : Nat × (Nat → Int32)} {h18 : ak_K} (H18 : ak_S cL_law RL 4 4 7 164 sc 18 h18) : ak_S cL_law RL 4 4 7 164 sc 498 (L_law_b498 sc h18) := by
  unfold L_law_b498
  refine s_cv (C := RX9) (Tf := TX9) (N := 11) (i := 9) rfl M_G_door dL_law_498 rfl ⟨by decide +kernel, by decide +kernel, by decide +kernel⟩ (by decide) wd_883 wd_884 wd_10 (Or.inl wd_882) ?_
  refine s_aload_n dL_law_501 rfl ?_
  refine s_aload_n dL_law_502 rfl ?_
  refine s_iload_n dL_law_503 rfl ?_
  refine s_iconst (x := 1) dL_law_504 (by decide +kernel) ?_
  refine s_iadd dL_law_505 ?_
  refine s_sld rfl dL_law_506 ?_
  refine s_aload_n dL_law_507 rfl ?_
  refine s_iload_n dL_law_508 rfl ?_
  refine s_iconst (x := 2) dL_law_509 (by decide +kernel) ?_
  refine s_iadd dL_law_510 ?_
  refine s_sld rfl dL_law_511 ?_
  refine s_ifeq (tgt := 519) dL_law_512 (by decide) ?_ ?_
  · refine s_iconst (x := 0) dL_law_519 (by decide +kernel) ?_
    exact (S_L_law_b520 H18)
  · refine s_iconst (x := 1) dL_law_515 (by decide +kernel) ?_
    refine s_goto (tgt := 520) dL_law_516 (by decide) ?_
    exact (S_L_law_b520 H18)
def L_law_b479 (sc : Nat × (Nat → Int32)) (h18 : ak_K) : ak_K := (k_al 1 (k_al 0 (k_il 3 (k_ci 1 (k_b (fun x y => x + y) (k_sld sc (k_al 0 (k_il 3 (k_ci 2 (k_b (fun x y => x + y) (k_sld sc (k_ifeq (k_ci 0 (L_law_b498 sc h18)) (k_ci 1 (L_law_b498 sc h18))))))))))))))
theorem S_L_law_b479 {sc : Nat × (Nat → Int32)} {h18 : ak_K} (H18 : ak_S cL_law RL 4 4 7 164 sc 18 h18) : ak_S cL_law RL 4 4 7 164 sc 479 (L_law_b479 sc h18) := by
  unfold L_law_b479
  refine s_aload_n dL_law_479 rfl ?_
  refine s_aload_n dL_law_480 rfl ?_
  refine s_iload_n dL_law_481 rfl ?_
  refine s_iconst (x := 1) dL_law_482 (by decide +kernel) ?_
  refine s_iadd dL_law_483 ?_
  refine s_sld rfl dL_law_484 ?_
  refine s_aload_n dL_law_485 rfl ?_
  refine s_iload_n dL_law_486 rfl ?_
  refine s_iconst (x := 2) dL_law_487 (by decide +kernel) ?_
  refine s_iadd dL_law_488 ?_
  refine s_sld rfl dL_law_489 ?_
  refine s_ifeq (tgt := 497) dL_law_490 (by decide) ?_ ?_
  · refine s_iconst (x := 0) dL_law_497 (by decide +kernel) ?_
    exact (S_L_law_b498 H18)
  · refine s_iconst (x := 1) dL_law_493 (by decide +kernel) ?_
    refine s_goto (tgt := 498) dL_law_494 (by decide) ?_
    exact (S_L_law_b498 H18)
def L_law_b528 (sc : Nat × (Nat → Int32)) (h18 : ak_K) : ak_K := (k_al 1 (k_cv 9 1 G_night (k_al 2 (k_cv 10 1 R_night (k_cmeq (L_law_b1017 sc h18) (k_ci 0 k_rl))))))
theorem S_L_law_b528 {sc : Nat × (Nat → Int32)} {h18 : ak_K} (H18 : ak_S cL_law RL 4 4 7 164 sc 18 h18) : ak_S cL_law RL 4 4 7 164 sc 528 (L_law_b528 sc h18) := by
  unfold L_law_b528
  refine s_aload_n dL_law_528 rfl ?_
  refine s_cv (C := RX9) (Tf := TX9) (N := 11) (i := 9) rfl M_G_night dL_law_529 rfl ⟨by decide +kernel, by decide +kernel, by decide +kernel⟩ (by decide) wd_886 wd_887 wd_10 (Or.inl wd_885) ?_
  refine s_aload_n dL_law_532 rfl ?_
  refine s_cv (C := RX10) (Tf := TX10) (N := 41) (i := 10) rfl M_R_night dL_law_533 rfl ⟨by decide +kernel, by decide +kernel, by decide +kernel⟩ (by decide) wd_889 wd_890 wd_610 (Or.inl wd_888) ?_
  refine s_cmeq (tgt := 1017) dL_law_536 (by decide) ?_ ?_
  · exact (S_L_law_b1017 H18)
  · refine s_iconst (x := 0) dL_law_539 (by decide +kernel) ?_
    exact s_rl rfl dL_law_540
def L_law_b541 (sc : Nat × (Nat → Int32)) (h18 : ak_K) : ak_K := (k_al 1 (k_al 0 (k_il 3 (k_ci 1 (k_b (fun x y => x + y) (k_sld sc (k_cv 9 2 G_envelope (k_al 2 (k_al 0 (k_il 3 (k_ci 1 (k_b (fun x y => x + y) (k_sld sc (k_cv 10 2 R_envelope (k_cmeq (L_law_b1017 sc h18) (k_ci 0 k_rl))))))))))))))))
theorem S_L_law_b541 {sc : Nat × (Nat → Int32)} {h18 : ak_K} (H18 : ak_S cL_law RL 4 4 7 164 sc 18 h18) : ak_S cL_law RL 4 4 7 164 sc 541 (L_law_b541 sc h18) := by
  unfold L_law_b541
  refine s_aload_n dL_law_541 rfl ?_
  refine s_aload_n dL_law_542 rfl ?_
  refine s_iload_n dL_law_543 rfl ?_
  refine s_iconst (x := 1) dL_law_544 (by decide +kernel) ?_
  refine s_iadd dL_law_545 ?_
  refine s_sld rfl dL_law_546 ?_
  refine s_cv (C := RX9) (Tf := TX9) (N := 11) (i := 9) rfl M_G_envelope dL_law_547 rfl ⟨by decide +kernel, by decide +kernel, by decide +kernel⟩ (by decide) wd_892 wd_893 wd_10 (Or.inl wd_891) ?_
  refine s_aload_n dL_law_550 rfl ?_
  refine s_aload_n dL_law_551 rfl ?_
  refine s_iload_n dL_law_552 rfl ?_
  refine s_iconst (x := 1) dL_law_553 (by decide +kernel) ?_
  refine s_iadd dL_law_554 ?_
  refine s_sld rfl dL_law_555 ?_
  refine s_cv (C := RX10) (Tf := TX10) (N := 41) (i := 10) rfl M_R_envelope dL_law_556 rfl ⟨by decide +kernel, by decide +kernel, by decide +kernel⟩ (by decide) wd_895 wd_896 wd_610 (Or.inl wd_894) ?_
  refine s_cmeq (tgt := 1017) dL_law_559 (by decide) ?_ ?_
  · exact (S_L_law_b1017 H18)
  · refine s_iconst (x := 0) dL_law_562 (by decide +kernel) ?_
    exact s_rl rfl dL_law_563
def L_law_b592 (sc : Nat × (Nat → Int32)) (h18 : ak_K) : ak_K := (k_cmeq (L_law_b1017 sc h18) (k_ci 0 k_rl))
theorem S_L_law_b592 {sc : Nat × (Nat → Int32)} {h18 : ak_K} (H18 : ak_S cL_law RL 4 4 7 164 sc 18 h18) : ak_S cL_law RL 4 4 7 164 sc 592 (L_law_b592 sc h18) := by
  unfold L_law_b592
  refine s_cmeq (tgt := 1017) dL_law_592 (by decide) ?_ ?_
  · exact (S_L_law_b1017 H18)
  · refine s_iconst (x := 0) dL_law_595 (by decide +kernel) ?_
    exact s_rl rfl dL_law_596
def L_law_b564 (sc : Nat × (Nat → Int32)) (h18 : ak_K) : ak_K := (k_al 1 (k_al 0 (k_il 3 (k_ci 1 (k_b (fun x y => x + y) (k_sld sc (k_al 0 (k_il 3 (k_ci 2 (k_b (fun x y => x + y) (k_sld sc (k_cv 9 3 G_walk (k_al 2 (k_al 0 (k_il 3 (k_ci 1 (k_b (fun x y => x + y) (k_sld sc (k_al 0 (k_il 3 (k_ci 2 (k_b (fun x y => x + y) (k_sld sc (k_cv 10 3 R_walk (L_law_b592 sc h18)))))))))))))))))))))))))
theorem S_L_law_b564 {sc : Nat × (Nat → Int32)} {h18 : ak_K} (H18 : ak_S cL_law RL 4 4 7 164 sc 18 h18) : ak_S cL_law RL 4 4 7 164 sc 564 (L_law_b564 sc h18) := by
  unfold L_law_b564
  refine s_aload_n dL_law_564 rfl ?_
  refine s_aload_n dL_law_565 rfl ?_
  refine s_iload_n dL_law_566 rfl ?_
  refine s_iconst (x := 1) dL_law_567 (by decide +kernel) ?_
  refine s_iadd dL_law_568 ?_
  refine s_sld rfl dL_law_569 ?_
  refine s_aload_n dL_law_570 rfl ?_
  refine s_iload_n dL_law_571 rfl ?_
  refine s_iconst (x := 2) dL_law_572 (by decide +kernel) ?_
  refine s_iadd dL_law_573 ?_
  refine s_sld rfl dL_law_574 ?_
  refine s_cv (C := RX9) (Tf := TX9) (N := 11) (i := 9) rfl M_G_walk dL_law_575 rfl ⟨by decide +kernel, by decide +kernel, by decide +kernel⟩ (by decide) wd_898 wd_899 wd_10 (Or.inl wd_897) ?_
  refine s_aload_n dL_law_578 rfl ?_
  refine s_aload_n dL_law_579 rfl ?_
  refine s_iload_n dL_law_580 rfl ?_
  refine s_iconst (x := 1) dL_law_581 (by decide +kernel) ?_
  refine s_iadd dL_law_582 ?_
  refine s_sld rfl dL_law_583 ?_
  refine s_aload_n dL_law_584 rfl ?_
  refine s_iload_n dL_law_585 rfl ?_
  refine s_iconst (x := 2) dL_law_586 (by decide +kernel) ?_
  refine s_iadd dL_law_587 ?_
  refine s_sld rfl dL_law_588 ?_
  refine s_cv (C := RX10) (Tf := TX10) (N := 41) (i := 10) rfl M_R_walk dL_law_589 rfl ⟨by decide +kernel, by decide +kernel, by decide +kernel⟩ (by decide) wd_901 wd_902 wd_610 (Or.inl wd_900) ?_
  exact (S_L_law_b592 H18)
def L_law_b597 (sc : Nat × (Nat → Int32)) (h18 : ak_K) : ak_K := (k_al 1 (k_al 0 (k_il 3 (k_ci 1 (k_b (fun x y => x + y) (k_sld sc (k_cv 9 2 G_drift (k_al 2 (k_al 0 (k_il 3 (k_ci 1 (k_b (fun x y => x + y) (k_sld sc (k_cv 10 2 R_drift (k_cmeq (L_law_b1017 sc h18) (k_ci 0 k_rl))))))))))))))))
theorem S_L_law_b597 {sc : Nat × (Nat → Int32)} {h18 : ak_K} (H18 : ak_S cL_law RL 4 4 7 164 sc 18 h18) : ak_S cL_law RL 4 4 7 164 sc 597 (L_law_b597 sc h18) := by
  unfold L_law_b597
  refine s_aload_n dL_law_597 rfl ?_
  refine s_aload_n dL_law_598 rfl ?_
  refine s_iload_n dL_law_599 rfl ?_
  refine s_iconst (x := 1) dL_law_600 (by decide +kernel) ?_
  refine s_iadd dL_law_601 ?_
  refine s_sld rfl dL_law_602 ?_
  refine s_cv (C := RX9) (Tf := TX9) (N := 11) (i := 9) rfl M_G_drift dL_law_603 rfl ⟨by decide +kernel, by decide +kernel, by decide +kernel⟩ (by decide) wd_904 wd_905 wd_10 (Or.inl wd_903) ?_
  refine s_aload_n dL_law_606 rfl ?_
  refine s_aload_n dL_law_607 rfl ?_
  refine s_iload_n dL_law_608 rfl ?_
  refine s_iconst (x := 1) dL_law_609 (by decide +kernel) ?_
  refine s_iadd dL_law_610 ?_
  refine s_sld rfl dL_law_611 ?_
  refine s_cv (C := RX10) (Tf := TX10) (N := 41) (i := 10) rfl M_R_drift dL_law_612 rfl ⟨by decide +kernel, by decide +kernel, by decide +kernel⟩ (by decide) wd_907 wd_908 wd_610 (Or.inl wd_906) ?_
  refine s_cmeq (tgt := 1017) dL_law_615 (by decide) ?_ ?_
  · exact (S_L_law_b1017 H18)
  · refine s_iconst (x := 0) dL_law_618 (by decide +kernel) ?_
    exact s_rl rfl dL_law_619
def L_law_b620 (sc : Nat × (Nat → Int32)) (h18 : ak_K) : ak_K := (k_al 1 (k_cv 9 1 G_undo (k_al 2 (k_cv 10 1 R_undo (k_cmeq (L_law_b1017 sc h18) (k_ci 0 k_rl))))))
theorem S_L_law_b620 {sc : Nat × (Nat → Int32)} {h18 : ak_K} (H18 : ak_S cL_law RL 4 4 7 164 sc 18 h18) : ak_S cL_law RL 4 4 7 164 sc 620 (L_law_b620 sc h18) := by
  unfold L_law_b620
  refine s_aload_n dL_law_620 rfl ?_
  refine s_cv (C := RX9) (Tf := TX9) (N := 11) (i := 9) rfl M_G_undo dL_law_621 rfl ⟨by decide +kernel, by decide +kernel, by decide +kernel⟩ (by decide) wd_910 wd_911 wd_10 (Or.inl wd_909) ?_
  refine s_aload_n dL_law_624 rfl ?_
  refine s_cv (C := RX10) (Tf := TX10) (N := 41) (i := 10) rfl M_R_undo dL_law_625 rfl ⟨by decide +kernel, by decide +kernel, by decide +kernel⟩ (by decide) wd_913 wd_914 wd_610 (Or.inl wd_912) ?_
  refine s_cmeq (tgt := 1017) dL_law_628 (by decide) ?_ ?_
  · exact (S_L_law_b1017 H18)
  · refine s_iconst (x := 0) dL_law_631 (by decide +kernel) ?_
    exact s_rl rfl dL_law_632
def L_law_b661 (sc : Nat × (Nat → Int32)) (h18 : ak_K) : ak_K := (k_cmeq (L_law_b1017 sc h18) (k_ci 0 k_rl))
theorem S_L_law_b661 {sc : Nat × (Nat → Int32)} {h18 : ak_K} (H18 : ak_S cL_law RL 4 4 7 164 sc 18 h18) : ak_S cL_law RL 4 4 7 164 sc 661 (L_law_b661 sc h18) := by
  unfold L_law_b661
  refine s_cmeq (tgt := 1017) dL_law_661 (by decide) ?_ ?_
  · exact (S_L_law_b1017 H18)
  · refine s_iconst (x := 0) dL_law_664 (by decide +kernel) ?_
    exact s_rl rfl dL_law_665
def L_law_b633 (sc : Nat × (Nat → Int32)) (h18 : ak_K) : ak_K := (k_al 1 (k_al 0 (k_il 3 (k_ci 1 (k_b (fun x y => x + y) (k_sld sc (k_al 0 (k_il 3 (k_ci 2 (k_b (fun x y => x + y) (k_sld sc (k_cv 9 3 G_round (k_al 2 (k_al 0 (k_il 3 (k_ci 1 (k_b (fun x y => x + y) (k_sld sc (k_al 0 (k_il 3 (k_ci 2 (k_b (fun x y => x + y) (k_sld sc (k_cv 10 3 R_round (L_law_b661 sc h18)))))))))))))))))))))))))
theorem S_L_law_b633 {sc : Nat × (Nat → Int32)} {h18 : ak_K} (H18 : ak_S cL_law RL 4 4 7 164 sc 18 h18) : ak_S cL_law RL 4 4 7 164 sc 633 (L_law_b633 sc h18) := by
  unfold L_law_b633
  refine s_aload_n dL_law_633 rfl ?_
  refine s_aload_n dL_law_634 rfl ?_
  refine s_iload_n dL_law_635 rfl ?_
  refine s_iconst (x := 1) dL_law_636 (by decide +kernel) ?_
  refine s_iadd dL_law_637 ?_
  refine s_sld rfl dL_law_638 ?_
  refine s_aload_n dL_law_639 rfl ?_
  refine s_iload_n dL_law_640 rfl ?_
  refine s_iconst (x := 2) dL_law_641 (by decide +kernel) ?_
  refine s_iadd dL_law_642 ?_
  refine s_sld rfl dL_law_643 ?_
  refine s_cv (C := RX9) (Tf := TX9) (N := 11) (i := 9) rfl M_G_round dL_law_644 rfl ⟨by decide +kernel, by decide +kernel, by decide +kernel⟩ (by decide) wd_916 wd_917 wd_10 (Or.inl wd_915) ?_
  refine s_aload_n dL_law_647 rfl ?_
  refine s_aload_n dL_law_648 rfl ?_
  refine s_iload_n dL_law_649 rfl ?_
  refine s_iconst (x := 1) dL_law_650 (by decide +kernel) ?_
  refine s_iadd dL_law_651 ?_
  refine s_sld rfl dL_law_652 ?_
  refine s_aload_n dL_law_653 rfl ?_
  refine s_iload_n dL_law_654 rfl ?_
  refine s_iconst (x := 2) dL_law_655 (by decide +kernel) ?_
  refine s_iadd dL_law_656 ?_
  refine s_sld rfl dL_law_657 ?_
  refine s_cv (C := RX10) (Tf := TX10) (N := 41) (i := 10) rfl M_R_round dL_law_658 rfl ⟨by decide +kernel, by decide +kernel, by decide +kernel⟩ (by decide) wd_919 wd_920 wd_610 (Or.inl wd_918) ?_
  exact (S_L_law_b661 H18)
def L_law_b666 (sc : Nat × (Nat → Int32)) (h18 : ak_K) : ak_K := (k_al 1 (k_cv 9 1 G_cannot (k_al 2 (k_cv 10 1 R_cannot (k_cmeq (L_law_b1017 sc h18) (k_ci 0 k_rl))))))
theorem S_L_law_b666 {sc : Nat × (Nat → Int32)} {h18 : ak_K} (H18 : ak_S cL_law RL 4 4 7 164 sc 18 h18) : ak_S cL_law RL 4 4 7 164 sc 666 (L_law_b666 sc h18) := by
  unfold L_law_b666
  refine s_aload_n dL_law_666 rfl ?_
  refine s_cv (C := RX9) (Tf := TX9) (N := 11) (i := 9) rfl M_G_cannot dL_law_667 rfl ⟨by decide +kernel, by decide +kernel, by decide +kernel⟩ (by decide) wd_922 wd_923 wd_10 (Or.inl wd_921) ?_
  refine s_aload_n dL_law_670 rfl ?_
  refine s_cv (C := RX10) (Tf := TX10) (N := 41) (i := 10) rfl M_R_cannot dL_law_671 rfl ⟨by decide +kernel, by decide +kernel, by decide +kernel⟩ (by decide) wd_925 wd_926 wd_610 (Or.inl wd_924) ?_
  refine s_cmeq (tgt := 1017) dL_law_674 (by decide) ?_ ?_
  · exact (S_L_law_b1017 H18)
  · refine s_iconst (x := 0) dL_law_677 (by decide +kernel) ?_
    exact s_rl rfl dL_law_678
def L_law_b679 (sc : Nat × (Nat → Int32)) (h18 : ak_K) : ak_K := (k_al 1 (k_al 0 (k_il 3 (k_ci 1 (k_b (fun x y => x + y) (k_sld sc (k_cv 9 2 G_steps (k_al 2 (k_al 0 (k_il 3 (k_ci 1 (k_b (fun x y => x + y) (k_sld sc (k_cv 10 2 R_steps (k_cmeq (L_law_b1017 sc h18) (k_ci 0 k_rl))))))))))))))))
theorem S_L_law_b679 {sc : Nat × (Nat → Int32)} {h18 : ak_K} (H18 : ak_S cL_law RL 4 4 7 164 sc 18 h18) : ak_S cL_law RL 4 4 7 164 sc 679 (L_law_b679 sc h18) := by
  unfold L_law_b679
  refine s_aload_n dL_law_679 rfl ?_
  refine s_aload_n dL_law_680 rfl ?_
  refine s_iload_n dL_law_681 rfl ?_
  refine s_iconst (x := 1) dL_law_682 (by decide +kernel) ?_
  refine s_iadd dL_law_683 ?_
  refine s_sld rfl dL_law_684 ?_
  refine s_cv (C := RX9) (Tf := TX9) (N := 11) (i := 9) rfl M_G_steps dL_law_685 rfl ⟨by decide +kernel, by decide +kernel, by decide +kernel⟩ (by decide) wd_928 wd_929 wd_10 (Or.inl wd_927) ?_
  refine s_aload_n dL_law_688 rfl ?_
  refine s_aload_n dL_law_689 rfl ?_
  refine s_iload_n dL_law_690 rfl ?_
  refine s_iconst (x := 1) dL_law_691 (by decide +kernel) ?_
  refine s_iadd dL_law_692 ?_
  refine s_sld rfl dL_law_693 ?_
  refine s_cv (C := RX10) (Tf := TX10) (N := 41) (i := 10) rfl M_R_steps dL_law_694 rfl ⟨by decide +kernel, by decide +kernel, by decide +kernel⟩ (by decide) wd_931 wd_932 wd_610 (Or.inl wd_930) ?_
  refine s_cmeq (tgt := 1017) dL_law_697 (by decide) ?_ ?_
  · exact (S_L_law_b1017 H18)
  · refine s_iconst (x := 0) dL_law_700 (by decide +kernel) ?_
    exact s_rl rfl dL_law_701
def L_law_b702 (sc : Nat × (Nat → Int32)) (h18 : ak_K) : ak_K := (k_al 1 (k_al 0 (k_il 3 (k_ci 1 (k_b (fun x y => x + y) (k_sld sc (k_cv 9 2 G_mostSeen (k_al 2 (k_al 0 (k_il 3 (k_ci 1 (k_b (fun x y => x + y) (k_sld sc (k_cv 10 2 R_mostSeen (k_cmeq (L_law_b1017 sc h18) (k_ci 0 k_rl))))))))))))))))
theorem S_L_law_b702 {sc : Nat × (Nat → Int32)} {h18 : ak_K} (H18 : ak_S cL_law RL 4 4 7 164 sc 18 h18) : ak_S cL_law RL 4 4 7 164 sc 702 (L_law_b702 sc h18) := by
  unfold L_law_b702
  refine s_aload_n dL_law_702 rfl ?_
  refine s_aload_n dL_law_703 rfl ?_
  refine s_iload_n dL_law_704 rfl ?_
  refine s_iconst (x := 1) dL_law_705 (by decide +kernel) ?_
  refine s_iadd dL_law_706 ?_
  refine s_sld rfl dL_law_707 ?_
  refine s_cv (C := RX9) (Tf := TX9) (N := 11) (i := 9) rfl M_G_mostSeen dL_law_708 rfl ⟨by decide +kernel, by decide +kernel, by decide +kernel⟩ (by decide) wd_934 wd_935 wd_10 (Or.inl wd_933) ?_
  refine s_aload_n dL_law_711 rfl ?_
  refine s_aload_n dL_law_712 rfl ?_
  refine s_iload_n dL_law_713 rfl ?_
  refine s_iconst (x := 1) dL_law_714 (by decide +kernel) ?_
  refine s_iadd dL_law_715 ?_
  refine s_sld rfl dL_law_716 ?_
  refine s_cv (C := RX10) (Tf := TX10) (N := 41) (i := 10) rfl M_R_mostSeen dL_law_717 rfl ⟨by decide +kernel, by decide +kernel, by decide +kernel⟩ (by decide) wd_937 wd_938 wd_610 (Or.inl wd_936) ?_
  refine s_cmeq (tgt := 1017) dL_law_720 (by decide) ?_ ?_
  · exact (S_L_law_b1017 H18)
  · refine s_iconst (x := 0) dL_law_723 (by decide +kernel) ?_
    exact s_rl rfl dL_law_724
def L_law_b725 (sc : Nat × (Nat → Int32)) (h18 : ak_K) : ak_K := (k_al 1 (k_cv 9 1 G_learn (k_al 2 (k_cv 10 1 R_learn (k_cmeq (L_law_b1017 sc h18) (k_ci 0 k_rl))))))
theorem S_L_law_b725 {sc : Nat × (Nat → Int32)} {h18 : ak_K} (H18 : ak_S cL_law RL 4 4 7 164 sc 18 h18) : ak_S cL_law RL 4 4 7 164 sc 725 (L_law_b725 sc h18) := by
  unfold L_law_b725
  refine s_aload_n dL_law_725 rfl ?_
  refine s_cv (C := RX9) (Tf := TX9) (N := 11) (i := 9) rfl M_G_learn dL_law_726 rfl ⟨by decide +kernel, by decide +kernel, by decide +kernel⟩ (by decide) wd_940 wd_941 wd_10 (Or.inl wd_939) ?_
  refine s_aload_n dL_law_729 rfl ?_
  refine s_cv (C := RX10) (Tf := TX10) (N := 41) (i := 10) rfl M_R_learn dL_law_730 rfl ⟨by decide +kernel, by decide +kernel, by decide +kernel⟩ (by decide) wd_943 wd_944 wd_610 (Or.inl wd_942) ?_
  refine s_cmeq (tgt := 1017) dL_law_733 (by decide) ?_ ?_
  · exact (S_L_law_b1017 H18)
  · refine s_iconst (x := 0) dL_law_736 (by decide +kernel) ?_
    exact s_rl rfl dL_law_737
def L_law_b766 (sc : Nat × (Nat → Int32)) (h18 : ak_K) : ak_K := (k_cmeq (L_law_b1017 sc h18) (k_ci 0 k_rl))
theorem S_L_law_b766 {sc : Nat × (Nat → Int32)} {h18 : ak_K} (H18 : ak_S cL_law RL 4 4 7 164 sc 18 h18) : ak_S cL_law RL 4 4 7 164 sc 766 (L_law_b766 sc h18) := by
  unfold L_law_b766
  refine s_cmeq (tgt := 1017) dL_law_766 (by decide) ?_ ?_
  · exact (S_L_law_b1017 H18)
  · refine s_iconst (x := 0) dL_law_769 (by decide +kernel) ?_
    exact s_rl rfl dL_law_770
def L_law_b738 (sc : Nat × (Nat → Int32)) (h18 : ak_K) : ak_K := (k_al 1 (k_al 0 (k_il 3 (k_ci 1 (k_b (fun x y => x + y) (k_sld sc (k_al 0 (k_il 3 (k_ci 2 (k_b (fun x y => x + y) (k_sld sc (k_cv 9 3 G_steamed (k_al 2 (k_al 0 (k_il 3 (k_ci 1 (k_b (fun x y => x + y) (k_sld sc (k_al 0 (k_il 3 (k_ci 2 (k_b (fun x y => x + y) (k_sld sc (k_cv 10 3 R_steamed (L_law_b766 sc h18)))))))))))))))))))))))))
theorem S_L_law_b738 {sc : Nat × (Nat → Int32)} {h18 : ak_K} (H18 : ak_S cL_law RL 4 4 7 164 sc 18 h18) : ak_S cL_law RL 4 4 7 164 sc 738 (L_law_b738 sc h18) := by
  unfold L_law_b738
  refine s_aload_n dL_law_738 rfl ?_
  refine s_aload_n dL_law_739 rfl ?_
  refine s_iload_n dL_law_740 rfl ?_
  refine s_iconst (x := 1) dL_law_741 (by decide +kernel) ?_
  refine s_iadd dL_law_742 ?_
  refine s_sld rfl dL_law_743 ?_
  refine s_aload_n dL_law_744 rfl ?_
  refine s_iload_n dL_law_745 rfl ?_
  refine s_iconst (x := 2) dL_law_746 (by decide +kernel) ?_
  refine s_iadd dL_law_747 ?_
  refine s_sld rfl dL_law_748 ?_
  refine s_cv (C := RX9) (Tf := TX9) (N := 11) (i := 9) rfl M_G_steamed dL_law_749 rfl ⟨by decide +kernel, by decide +kernel, by decide +kernel⟩ (by decide) wd_946 wd_947 wd_10 (Or.inl wd_945) ?_
  refine s_aload_n dL_law_752 rfl ?_
  refine s_aload_n dL_law_753 rfl ?_
  refine s_iload_n dL_law_754 rfl ?_
  refine s_iconst (x := 1) dL_law_755 (by decide +kernel) ?_
  refine s_iadd dL_law_756 ?_
  refine s_sld rfl dL_law_757 ?_
  refine s_aload_n dL_law_758 rfl ?_
  refine s_iload_n dL_law_759 rfl ?_
  refine s_iconst (x := 2) dL_law_760 (by decide +kernel) ?_
  refine s_iadd dL_law_761 ?_
  refine s_sld rfl dL_law_762 ?_
  refine s_cv (C := RX10) (Tf := TX10) (N := 41) (i := 10) rfl M_R_steamed dL_law_763 rfl ⟨by decide +kernel, by decide +kernel, by decide +kernel⟩ (by decide) wd_949 wd_950 wd_610 (Or.inl wd_948) ?_
  exact (S_L_law_b766 H18)
def L_law_b822 (sc : Nat × (Nat → Int32)) (h18 : ak_K) : ak_K := (k_cv 10 4 R_ask (k_cmeq (L_law_b1017 sc h18) (k_ci 0 k_rl)))
theorem S_L_law_b822 {sc : Nat × (Nat → Int32)} {h18 : ak_K} (H18 : ak_S cL_law RL 4 4 7 164 sc 18 h18) : ak_S cL_law RL 4 4 7 164 sc 822 (L_law_b822 sc h18) := by
  unfold L_law_b822
  refine s_cv (C := RX10) (Tf := TX10) (N := 41) (i := 10) rfl M_R_ask dL_law_822 rfl ⟨by decide +kernel, by decide +kernel, by decide +kernel⟩ (by decide) wd_952 wd_953 wd_610 (Or.inl wd_951) ?_
  refine s_cmeq (tgt := 1017) dL_law_825 (by decide) ?_ ?_
  · exact (S_L_law_b1017 H18)
  · refine s_iconst (x := 0) dL_law_828 (by decide +kernel) ?_
    exact s_rl rfl dL_law_829
def L_law_b795 (sc : Nat × (Nat → Int32)) (h18 : ak_K) : ak_K := (k_cv 9 4 G_ask (k_al 2 (k_al 0 (k_il 3 (k_ci 1 (k_b (fun x y => x + y) (k_sld sc (k_al 0 (k_il 3 (k_ci 2 (k_b (fun x y => x + y) (k_sld sc (k_al 0 (k_il 3 (k_ci 3 (k_b (fun x y => x + y) (k_sld sc (k_ifeq (k_ci 0 (L_law_b822 sc h18)) (k_ci 1 (L_law_b822 sc h18))))))))))))))))))))
theorem S_L_law_b795 {sc : Nat × (Nat → Int32)} {h18 : ak_K} (H18 : ak_S cL_law RL 4 4 7 164 sc 18 h18) : ak_S cL_law RL 4 4 7 164 sc 795 (L_law_b795 sc h18) := by
  unfold L_law_b795
  refine s_cv (C := RX9) (Tf := TX9) (N := 11) (i := 9) rfl M_G_ask dL_law_795 rfl ⟨by decide +kernel, by decide +kernel, by decide +kernel⟩ (by decide) wd_955 wd_956 wd_10 (Or.inl wd_954) ?_
  refine s_aload_n dL_law_798 rfl ?_
  refine s_aload_n dL_law_799 rfl ?_
  refine s_iload_n dL_law_800 rfl ?_
  refine s_iconst (x := 1) dL_law_801 (by decide +kernel) ?_
  refine s_iadd dL_law_802 ?_
  refine s_sld rfl dL_law_803 ?_
  refine s_aload_n dL_law_804 rfl ?_
  refine s_iload_n dL_law_805 rfl ?_
  refine s_iconst (x := 2) dL_law_806 (by decide +kernel) ?_
  refine s_iadd dL_law_807 ?_
  refine s_sld rfl dL_law_808 ?_
  refine s_aload_n dL_law_809 rfl ?_
  refine s_iload_n dL_law_810 rfl ?_
  refine s_iconst (x := 3) dL_law_811 (by decide +kernel) ?_
  refine s_iadd dL_law_812 ?_
  refine s_sld rfl dL_law_813 ?_
  refine s_ifeq (tgt := 821) dL_law_814 (by decide) ?_ ?_
  · refine s_iconst (x := 0) dL_law_821 (by decide +kernel) ?_
    exact (S_L_law_b822 H18)
  · refine s_iconst (x := 1) dL_law_817 (by decide +kernel) ?_
    refine s_goto (tgt := 822) dL_law_818 (by decide) ?_
    exact (S_L_law_b822 H18)
def L_law_b771 (sc : Nat × (Nat → Int32)) (h18 : ak_K) : ak_K := (k_al 1 (k_al 0 (k_il 3 (k_ci 1 (k_b (fun x y => x + y) (k_sld sc (k_al 0 (k_il 3 (k_ci 2 (k_b (fun x y => x + y) (k_sld sc (k_al 0 (k_il 3 (k_ci 3 (k_b (fun x y => x + y) (k_sld sc (k_ifeq (k_ci 0 (L_law_b795 sc h18)) (k_ci 1 (L_law_b795 sc h18)))))))))))))))))))
theorem S_L_law_b771 {sc : Nat × (Nat → Int32)} {h18 : ak_K} (H18 : ak_S cL_law RL 4 4 7 164 sc 18 h18) : ak_S cL_law RL 4 4 7 164 sc 771 (L_law_b771 sc h18) := by
  unfold L_law_b771
  refine s_aload_n dL_law_771 rfl ?_
  refine s_aload_n dL_law_772 rfl ?_
  refine s_iload_n dL_law_773 rfl ?_
  refine s_iconst (x := 1) dL_law_774 (by decide +kernel) ?_
  refine s_iadd dL_law_775 ?_
  refine s_sld rfl dL_law_776 ?_
  refine s_aload_n dL_law_777 rfl ?_
  refine s_iload_n dL_law_778 rfl ?_
  refine s_iconst (x := 2) dL_law_779 (by decide +kernel) ?_
  refine s_iadd dL_law_780 ?_
  refine s_sld rfl dL_law_781 ?_
  refine s_aload_n dL_law_782 rfl ?_
  refine s_iload_n dL_law_783 rfl ?_
  refine s_iconst (x := 3) dL_law_784 (by decide +kernel) ?_
  refine s_iadd dL_law_785 ?_
  refine s_sld rfl dL_law_786 ?_
  refine s_ifeq (tgt := 794) dL_law_787 (by decide) ?_ ?_
  · refine s_iconst (x := 0) dL_law_794 (by decide +kernel) ?_
    exact (S_L_law_b795 H18)
  · refine s_iconst (x := 1) dL_law_790 (by decide +kernel) ?_
    refine s_goto (tgt := 795) dL_law_791 (by decide) ?_
    exact (S_L_law_b795 H18)
def L_law_b830 (sc : Nat × (Nat → Int32)) (h18 : ak_K) : ak_K := (k_al 1 (k_al 0 (k_il 3 (k_ci 1 (k_b (fun x y => x + y) (k_sld sc (k_cv 9 2 G_changed (k_al 2 (k_al 0 (k_il 3 (k_ci 1 (k_b (fun x y => x + y) (k_sld sc (k_cv 10 2 R_changed (k_cmeq (L_law_b1017 sc h18) (k_ci 0 k_rl))))))))))))))))
theorem S_L_law_b830 {sc : Nat × (Nat → Int32)} {h18 : ak_K} (H18 : ak_S cL_law RL 4 4 7 164 sc 18 h18) : ak_S cL_law RL 4 4 7 164 sc 830 (L_law_b830 sc h18) := by
  unfold L_law_b830
  refine s_aload_n dL_law_830 rfl ?_
  refine s_aload_n dL_law_831 rfl ?_
  refine s_iload_n dL_law_832 rfl ?_
  refine s_iconst (x := 1) dL_law_833 (by decide +kernel) ?_
  refine s_iadd dL_law_834 ?_
  refine s_sld rfl dL_law_835 ?_
  refine s_cv (C := RX9) (Tf := TX9) (N := 11) (i := 9) rfl M_G_changed dL_law_836 rfl ⟨by decide +kernel, by decide +kernel, by decide +kernel⟩ (by decide) wd_958 wd_959 wd_10 (Or.inl wd_957) ?_
  refine s_aload_n dL_law_839 rfl ?_
  refine s_aload_n dL_law_840 rfl ?_
  refine s_iload_n dL_law_841 rfl ?_
  refine s_iconst (x := 1) dL_law_842 (by decide +kernel) ?_
  refine s_iadd dL_law_843 ?_
  refine s_sld rfl dL_law_844 ?_
  refine s_cv (C := RX10) (Tf := TX10) (N := 41) (i := 10) rfl M_R_changed dL_law_845 rfl ⟨by decide +kernel, by decide +kernel, by decide +kernel⟩ (by decide) wd_961 wd_962 wd_610 (Or.inl wd_960) ?_
  refine s_cmeq (tgt := 1017) dL_law_848 (by decide) ?_ ?_
  · exact (S_L_law_b1017 H18)
  · refine s_iconst (x := 0) dL_law_851 (by decide +kernel) ?_
    exact s_rl rfl dL_law_852
def L_law_b853 (sc : Nat × (Nat → Int32)) (h18 : ak_K) : ak_K := (k_al 1 (k_cv 9 1 G_askNext (k_al 2 (k_cv 10 1 R_askNext (k_cmeq (L_law_b1017 sc h18) (k_ci 0 k_rl))))))
theorem S_L_law_b853 {sc : Nat × (Nat → Int32)} {h18 : ak_K} (H18 : ak_S cL_law RL 4 4 7 164 sc 18 h18) : ak_S cL_law RL 4 4 7 164 sc 853 (L_law_b853 sc h18) := by
  unfold L_law_b853
  refine s_aload_n dL_law_853 rfl ?_
  refine s_cv (C := RX9) (Tf := TX9) (N := 11) (i := 9) rfl M_G_askNext dL_law_854 rfl ⟨by decide +kernel, by decide +kernel, by decide +kernel⟩ (by decide) wd_964 wd_965 wd_10 (Or.inl wd_963) ?_
  refine s_aload_n dL_law_857 rfl ?_
  refine s_cv (C := RX10) (Tf := TX10) (N := 41) (i := 10) rfl M_R_askNext dL_law_858 rfl ⟨by decide +kernel, by decide +kernel, by decide +kernel⟩ (by decide) wd_967 wd_968 wd_610 (Or.inl wd_966) ?_
  refine s_cmeq (tgt := 1017) dL_law_861 (by decide) ?_ ?_
  · exact (S_L_law_b1017 H18)
  · refine s_iconst (x := 0) dL_law_864 (by decide +kernel) ?_
    exact s_rl rfl dL_law_865
def L_law_b866 (sc : Nat × (Nat → Int32)) (h18 : ak_K) : ak_K := (k_al 1 (k_al 0 (k_il 3 (k_ci 1 (k_b (fun x y => x + y) (k_sld sc (k_cv 9 2 G_called (k_al 2 (k_al 0 (k_il 3 (k_ci 1 (k_b (fun x y => x + y) (k_sld sc (k_cv 10 2 R_called (k_cmeq (L_law_b1017 sc h18) (k_ci 0 k_rl))))))))))))))))
theorem S_L_law_b866 {sc : Nat × (Nat → Int32)} {h18 : ak_K} (H18 : ak_S cL_law RL 4 4 7 164 sc 18 h18) : ak_S cL_law RL 4 4 7 164 sc 866 (L_law_b866 sc h18) := by
  unfold L_law_b866
  refine s_aload_n dL_law_866 rfl ?_
  refine s_aload_n dL_law_867 rfl ?_
  refine s_iload_n dL_law_868 rfl ?_
  refine s_iconst (x := 1) dL_law_869 (by decide +kernel) ?_
  refine s_iadd dL_law_870 ?_
  refine s_sld rfl dL_law_871 ?_
  refine s_cv (C := RX9) (Tf := TX9) (N := 11) (i := 9) rfl M_G_called dL_law_872 rfl ⟨by decide +kernel, by decide +kernel, by decide +kernel⟩ (by decide) wd_970 wd_971 wd_10 (Or.inl wd_969) ?_
  refine s_aload_n dL_law_875 rfl ?_
  refine s_aload_n dL_law_876 rfl ?_
  refine s_iload_n dL_law_877 rfl ?_
  refine s_iconst (x := 1) dL_law_878 (by decide +kernel) ?_
  refine s_iadd dL_law_879 ?_
  refine s_sld rfl dL_law_880 ?_
  refine s_cv (C := RX10) (Tf := TX10) (N := 41) (i := 10) rfl M_R_called dL_law_881 rfl ⟨by decide +kernel, by decide +kernel, by decide +kernel⟩ (by decide) wd_973 wd_974 wd_610 (Or.inl wd_972) ?_
  refine s_cmeq (tgt := 1017) dL_law_884 (by decide) ?_ ?_
  · exact (S_L_law_b1017 H18)
  · refine s_iconst (x := 0) dL_law_887 (by decide +kernel) ?_
    exact s_rl rfl dL_law_888
def L_law_b917 (sc : Nat × (Nat → Int32)) (h18 : ak_K) : ak_K := (k_cmeq (L_law_b1017 sc h18) (k_ci 0 k_rl))
theorem S_L_law_b917 {sc : Nat × (Nat → Int32)} {h18 : ak_K} (H18 : ak_S cL_law RL 4 4 7 164 sc 18 h18) : ak_S cL_law RL 4 4 7 164 sc 917 (L_law_b917 sc h18) := by
  unfold L_law_b917
  refine s_cmeq (tgt := 1017) dL_law_917 (by decide) ?_ ?_
  · exact (S_L_law_b1017 H18)
  · refine s_iconst (x := 0) dL_law_920 (by decide +kernel) ?_
    exact s_rl rfl dL_law_921
def L_law_b889 (sc : Nat × (Nat → Int32)) (h18 : ak_K) : ak_K := (k_al 1 (k_al 0 (k_il 3 (k_ci 1 (k_b (fun x y => x + y) (k_sld sc (k_al 0 (k_il 3 (k_ci 2 (k_b (fun x y => x + y) (k_sld sc (k_cv 9 3 G_write (k_al 2 (k_al 0 (k_il 3 (k_ci 1 (k_b (fun x y => x + y) (k_sld sc (k_al 0 (k_il 3 (k_ci 2 (k_b (fun x y => x + y) (k_sld sc (k_cv 10 3 R_write (L_law_b917 sc h18)))))))))))))))))))))))))
theorem S_L_law_b889 {sc : Nat × (Nat → Int32)} {h18 : ak_K} (H18 : ak_S cL_law RL 4 4 7 164 sc 18 h18) : ak_S cL_law RL 4 4 7 164 sc 889 (L_law_b889 sc h18) := by
  unfold L_law_b889
  refine s_aload_n dL_law_889 rfl ?_
  refine s_aload_n dL_law_890 rfl ?_
  refine s_iload_n dL_law_891 rfl ?_
  refine s_iconst (x := 1) dL_law_892 (by decide +kernel) ?_
  refine s_iadd dL_law_893 ?_
  refine s_sld rfl dL_law_894 ?_
  refine s_aload_n dL_law_895 rfl ?_
  refine s_iload_n dL_law_896 rfl ?_
  refine s_iconst (x := 2) dL_law_897 (by decide +kernel) ?_
  refine s_iadd dL_law_898 ?_
  refine s_sld rfl dL_law_899 ?_
  refine s_cv (C := RX9) (Tf := TX9) (N := 11) (i := 9) rfl M_G_write dL_law_900 rfl ⟨by decide +kernel, by decide +kernel, by decide +kernel⟩ (by decide) wd_976 wd_977 wd_10 (Or.inl wd_975) ?_
  refine s_aload_n dL_law_903 rfl ?_
  refine s_aload_n dL_law_904 rfl ?_
  refine s_iload_n dL_law_905 rfl ?_
  refine s_iconst (x := 1) dL_law_906 (by decide +kernel) ?_
  refine s_iadd dL_law_907 ?_
  refine s_sld rfl dL_law_908 ?_
  refine s_aload_n dL_law_909 rfl ?_
  refine s_iload_n dL_law_910 rfl ?_
  refine s_iconst (x := 2) dL_law_911 (by decide +kernel) ?_
  refine s_iadd dL_law_912 ?_
  refine s_sld rfl dL_law_913 ?_
  refine s_cv (C := RX10) (Tf := TX10) (N := 41) (i := 10) rfl M_R_write dL_law_914 rfl ⟨by decide +kernel, by decide +kernel, by decide +kernel⟩ (by decide) wd_979 wd_980 wd_610 (Or.inl wd_978) ?_
  exact (S_L_law_b917 H18)
def L_law_b922 (sc : Nat × (Nat → Int32)) (h18 : ak_K) : ak_K := (k_al 1 (k_cv 9 1 G_tear (k_al 2 (k_cv 10 1 R_tear (k_cmeq (L_law_b1017 sc h18) (k_ci 0 k_rl))))))
theorem S_L_law_b922 {sc : Nat × (Nat → Int32)} {h18 : ak_K} (H18 : ak_S cL_law RL 4 4 7 164 sc 18 h18) : ak_S cL_law RL 4 4 7 164 sc 922 (L_law_b922 sc h18) := by
  unfold L_law_b922
  refine s_aload_n dL_law_922 rfl ?_
  refine s_cv (C := RX9) (Tf := TX9) (N := 11) (i := 9) rfl M_G_tear dL_law_923 rfl ⟨by decide +kernel, by decide +kernel, by decide +kernel⟩ (by decide) wd_982 wd_983 wd_10 (Or.inl wd_981) ?_
  refine s_aload_n dL_law_926 rfl ?_
  refine s_cv (C := RX10) (Tf := TX10) (N := 41) (i := 10) rfl M_R_tear dL_law_927 rfl ⟨by decide +kernel, by decide +kernel, by decide +kernel⟩ (by decide) wd_985 wd_986 wd_610 (Or.inl wd_984) ?_
  refine s_cmeq (tgt := 1017) dL_law_930 (by decide) ?_ ?_
  · exact (S_L_law_b1017 H18)
  · refine s_iconst (x := 0) dL_law_933 (by decide +kernel) ?_
    exact s_rl rfl dL_law_934
def L_law_b935 (sc : Nat × (Nat → Int32)) (h18 : ak_K) : ak_K := (k_al 1 (k_cv 9 1 G_judge (k_al 2 (k_cv 10 1 R_judge (k_cmeq (L_law_b1017 sc h18) (k_ci 0 k_rl))))))
theorem S_L_law_b935 {sc : Nat × (Nat → Int32)} {h18 : ak_K} (H18 : ak_S cL_law RL 4 4 7 164 sc 18 h18) : ak_S cL_law RL 4 4 7 164 sc 935 (L_law_b935 sc h18) := by
  unfold L_law_b935
  refine s_aload_n dL_law_935 rfl ?_
  refine s_cv (C := RX9) (Tf := TX9) (N := 11) (i := 9) rfl M_G_judge dL_law_936 rfl ⟨by decide +kernel, by decide +kernel, by decide +kernel⟩ (by decide) wd_988 wd_989 wd_10 (Or.inl wd_987) ?_
  refine s_aload_n dL_law_939 rfl ?_
  refine s_cv (C := RX10) (Tf := TX10) (N := 41) (i := 10) rfl M_R_judge dL_law_940 rfl ⟨by decide +kernel, by decide +kernel, by decide +kernel⟩ (by decide) wd_991 wd_992 wd_610 (Or.inl wd_990) ?_
  refine s_cmeq (tgt := 1017) dL_law_943 (by decide) ?_ ?_
  · exact (S_L_law_b1017 H18)
  · refine s_iconst (x := 0) dL_law_946 (by decide +kernel) ?_
    exact s_rl rfl dL_law_947
def L_law_b948 (sc : Nat × (Nat → Int32)) (h18 : ak_K) : ak_K := (k_al 1 (k_al 0 (k_il 3 (k_ci 1 (k_b (fun x y => x + y) (k_sld sc (k_cv 9 2 G_seed (k_al 2 (k_al 0 (k_il 3 (k_ci 1 (k_b (fun x y => x + y) (k_sld sc (k_cv 10 2 R_seed (k_cmeq (L_law_b1017 sc h18) (k_ci 0 k_rl))))))))))))))))
theorem S_L_law_b948 {sc : Nat × (Nat → Int32)} {h18 : ak_K} (H18 : ak_S cL_law RL 4 4 7 164 sc 18 h18) : ak_S cL_law RL 4 4 7 164 sc 948 (L_law_b948 sc h18) := by
  unfold L_law_b948
  refine s_aload_n dL_law_948 rfl ?_
  refine s_aload_n dL_law_949 rfl ?_
  refine s_iload_n dL_law_950 rfl ?_
  refine s_iconst (x := 1) dL_law_951 (by decide +kernel) ?_
  refine s_iadd dL_law_952 ?_
  refine s_sld rfl dL_law_953 ?_
  refine s_cv (C := RX9) (Tf := TX9) (N := 11) (i := 9) rfl M_G_seed dL_law_954 rfl ⟨by decide +kernel, by decide +kernel, by decide +kernel⟩ (by decide) wd_994 wd_995 wd_10 (Or.inl wd_993) ?_
  refine s_aload_n dL_law_957 rfl ?_
  refine s_aload_n dL_law_958 rfl ?_
  refine s_iload_n dL_law_959 rfl ?_
  refine s_iconst (x := 1) dL_law_960 (by decide +kernel) ?_
  refine s_iadd dL_law_961 ?_
  refine s_sld rfl dL_law_962 ?_
  refine s_cv (C := RX10) (Tf := TX10) (N := 41) (i := 10) rfl M_R_seed dL_law_963 rfl ⟨by decide +kernel, by decide +kernel, by decide +kernel⟩ (by decide) wd_997 wd_998 wd_610 (Or.inl wd_996) ?_
  refine s_cmeq (tgt := 1017) dL_law_966 (by decide) ?_ ?_
  · exact (S_L_law_b1017 H18)
  · refine s_iconst (x := 0) dL_law_969 (by decide +kernel) ?_
    exact s_rl rfl dL_law_970
def L_law_b971 (sc : Nat × (Nat → Int32)) (h18 : ak_K) : ak_K := (k_al 1 (k_al 0 (k_il 3 (k_ci 1 (k_b (fun x y => x + y) (k_sld sc (k_cv 9 2 G_keep (k_al 2 (k_al 0 (k_il 3 (k_ci 1 (k_b (fun x y => x + y) (k_sld sc (k_cv 10 2 R_keep (k_cmeq (L_law_b1017 sc h18) (k_ci 0 k_rl))))))))))))))))
theorem S_L_law_b971 {sc : Nat × (Nat → Int32)} {h18 : ak_K} (H18 : ak_S cL_law RL 4 4 7 164 sc 18 h18) : ak_S cL_law RL 4 4 7 164 sc 971 (L_law_b971 sc h18) := by
  unfold L_law_b971
  refine s_aload_n dL_law_971 rfl ?_
  refine s_aload_n dL_law_972 rfl ?_
  refine s_iload_n dL_law_973 rfl ?_
  refine s_iconst (x := 1) dL_law_974 (by decide +kernel) ?_
  refine s_iadd dL_law_975 ?_
  refine s_sld rfl dL_law_976 ?_
  refine s_cv (C := RX9) (Tf := TX9) (N := 11) (i := 9) rfl M_G_keep dL_law_977 rfl ⟨by decide +kernel, by decide +kernel, by decide +kernel⟩ (by decide) wd_1000 wd_1001 wd_10 (Or.inl wd_999) ?_
  refine s_aload_n dL_law_980 rfl ?_
  refine s_aload_n dL_law_981 rfl ?_
  refine s_iload_n dL_law_982 rfl ?_
  refine s_iconst (x := 1) dL_law_983 (by decide +kernel) ?_
  refine s_iadd dL_law_984 ?_
  refine s_sld rfl dL_law_985 ?_
  refine s_cv (C := RX10) (Tf := TX10) (N := 41) (i := 10) rfl M_R_keep dL_law_986 rfl ⟨by decide +kernel, by decide +kernel, by decide +kernel⟩ (by decide) wd_1003 wd_1004 wd_610 (Or.inl wd_1002) ?_
  refine s_cmeq (tgt := 1017) dL_law_989 (by decide) ?_ ?_
  · exact (S_L_law_b1017 H18)
  · refine s_iconst (x := 0) dL_law_992 (by decide +kernel) ?_
    exact s_rl rfl dL_law_993
def L_law_b994 (sc : Nat × (Nat → Int32)) (h18 : ak_K) : ak_K := (k_al 1 (k_al 0 (k_il 3 (k_ci 1 (k_b (fun x y => x + y) (k_sld sc (k_cv 9 2 G_goBack (k_al 2 (k_al 0 (k_il 3 (k_ci 1 (k_b (fun x y => x + y) (k_sld sc (k_cv 10 2 R_goBack (k_cmeq (L_law_b1017 sc h18) (k_ci 0 k_rl))))))))))))))))
theorem S_L_law_b994 {sc : Nat × (Nat → Int32)} {h18 : ak_K} (H18 : ak_S cL_law RL 4 4 7 164 sc 18 h18) : ak_S cL_law RL 4 4 7 164 sc 994 (L_law_b994 sc h18) := by
  unfold L_law_b994
  refine s_aload_n dL_law_994 rfl ?_
  refine s_aload_n dL_law_995 rfl ?_
  refine s_iload_n dL_law_996 rfl ?_
  refine s_iconst (x := 1) dL_law_997 (by decide +kernel) ?_
  refine s_iadd dL_law_998 ?_
  refine s_sld rfl dL_law_999 ?_
  refine s_cv (C := RX9) (Tf := TX9) (N := 11) (i := 9) rfl M_G_goBack dL_law_1000 rfl ⟨by decide +kernel, by decide +kernel, by decide +kernel⟩ (by decide) wd_1006 wd_1007 wd_10 (Or.inl wd_1005) ?_
  refine s_aload_n dL_law_1003 rfl ?_
  refine s_aload_n dL_law_1004 rfl ?_
  refine s_iload_n dL_law_1005 rfl ?_
  refine s_iconst (x := 1) dL_law_1006 (by decide +kernel) ?_
  refine s_iadd dL_law_1007 ?_
  refine s_sld rfl dL_law_1008 ?_
  refine s_cv (C := RX10) (Tf := TX10) (N := 41) (i := 10) rfl M_R_goBack dL_law_1009 rfl ⟨by decide +kernel, by decide +kernel, by decide +kernel⟩ (by decide) wd_1009 wd_1010 wd_610 (Or.inl wd_1008) ?_
  refine s_cmeq (tgt := 1017) dL_law_1012 (by decide) ?_ ?_
  · exact (S_L_law_b1017 H18)
  · refine s_iconst (x := 0) dL_law_1015 (by decide +kernel) ?_
    exact s_rl rfl dL_law_1016
def L_law_b18 (sc : Nat × (Nat → Int32)) (h18 : ak_K) : ak_K := (k_il 3 (k_al 0 (k_slen sc (k_ci 4 (k_b (fun x y => x - y) (k_cmgt (k_ci 1 k_rl) (k_al 0 (k_il 3 (k_sld sc (k_ci 63 (k_b (fun x y => x &&& y) (k_sw [(0, (L_law_b180 sc h18)), (1, (L_law_b203 sc h18)), (2, (L_law_b216 sc h18)), (3, (L_law_b229 sc h18)), (4, (L_law_b252 sc h18)), (5, (L_law_b285 sc h18)), (6, (L_law_b318 sc h18)), (7, (L_law_b341 sc h18)), (8, (L_law_b374 sc h18)), (9, (L_law_b397 sc h18)), (10, (L_law_b430 sc h18)), (11, (L_law_b479 sc h18)), (12, (L_law_b528 sc h18)), (13, (L_law_b541 sc h18)), (14, (L_law_b564 sc h18)), (15, (L_law_b597 sc h18)), (16, (L_law_b620 sc h18)), (17, (L_law_b633 sc h18)), (18, (L_law_b666 sc h18)), (19, (L_law_b679 sc h18)), (20, (L_law_b702 sc h18)), (21, (L_law_b725 sc h18)), (22, (L_law_b738 sc h18)), (23, (L_law_b771 sc h18)), (24, (L_law_b830 sc h18)), (25, (L_law_b853 sc h18)), (26, (L_law_b866 sc h18)), (27, (L_law_b889 sc h18)), (28, (L_law_b922 sc h18)), (29, (L_law_b935 sc h18)), (30, (L_law_b948 sc h18)), (31, (L_law_b971 sc h18)), (32, (L_law_b994 sc h18))] (L_law_b1017 sc h18)))))))))))))
theorem S_L_law_b18 {sc : Nat × (Nat → Int32)} {h18 : ak_K} (H18 : ak_S cL_law RL 4 4 7 164 sc 18 h18) : ak_S cL_law RL 4 4 7 164 sc 18 (L_law_b18 sc h18) := by
  unfold L_law_b18
  refine s_iload_n dL_law_18 rfl ?_
  refine s_aload_n dL_law_19 rfl ?_
  refine s_slen rfl dL_law_20 ?_
  refine s_iconst (x := 4) dL_law_21 (by decide +kernel) ?_
  refine s_isub dL_law_22 ?_
  refine s_cmgt (tgt := 1023) dL_law_23 (by decide) ?_ ?_
  · refine s_iconst (x := 1) dL_law_1023 (by decide +kernel) ?_
    exact s_rl rfl dL_law_1024
  · refine s_aload_n dL_law_26 rfl ?_
    refine s_iload_n dL_law_27 rfl ?_
    refine s_sld rfl dL_law_28 ?_
    refine s_bipush (x := 63) dL_law_29 (by decide +kernel) ?_
    refine s_iand dL_law_31 ?_
    exact s_table (tgd := 1017) [0, 1, 2, 3, 4, 5, 6, 7, 8, 9, 10, 11, 12, 13, 14, 15, 16, 17, 18, 19, 20, 21, 22, 23, 24, 25, 26, 27, 28, 29, 30, 31, 32] rfl dL_law_32 (by decide) (S_L_law_b1017 H18) (List.forall_mem_cons.mpr ⟨⟨180, (S_L_law_b180 H18), (by show _ ≤ (0 : Int32).toInt; decide +kernel), (by show (0 : Int32).toInt ≤ _; decide +kernel), 148, (by show _[((0 : Int32).toInt - _).toNat]? = _; decide +kernel), by decide⟩, List.forall_mem_cons.mpr ⟨⟨203, (S_L_law_b203 H18), (by show _ ≤ (1 : Int32).toInt; decide +kernel), (by show (1 : Int32).toInt ≤ _; decide +kernel), 171, (by show _[((1 : Int32).toInt - _).toNat]? = _; decide +kernel), by decide⟩, List.forall_mem_cons.mpr ⟨⟨216, (S_L_law_b216 H18), (by show _ ≤ (2 : Int32).toInt; decide +kernel), (by show (2 : Int32).toInt ≤ _; decide +kernel), 184, (by show _[((2 : Int32).toInt - _).toNat]? = _; decide +kernel), by decide⟩, List.forall_mem_cons.mpr ⟨⟨229, (S_L_law_b229 H18), (by show _ ≤ (3 : Int32).toInt; decide +kernel), (by show (3 : Int32).toInt ≤ _; decide +kernel), 197, (by show _[((3 : Int32).toInt - _).toNat]? = _; decide +kernel), by decide⟩, List.forall_mem_cons.mpr ⟨⟨252, (S_L_law_b252 H18), (by show _ ≤ (4 : Int32).toInt; decide +kernel), (by show (4 : Int32).toInt ≤ _; decide +kernel), 220, (by show _[((4 : Int32).toInt - _).toNat]? = _; decide +kernel), by decide⟩, List.forall_mem_cons.mpr ⟨⟨285, (S_L_law_b285 H18), (by show _ ≤ (5 : Int32).toInt; decide +kernel), (by show (5 : Int32).toInt ≤ _; decide +kernel), 253, (by show _[((5 : Int32).toInt - _).toNat]? = _; decide +kernel), by decide⟩, List.forall_mem_cons.mpr ⟨⟨318, (S_L_law_b318 H18), (by show _ ≤ (6 : Int32).toInt; decide +kernel), (by show (6 : Int32).toInt ≤ _; decide +kernel), 286, (by show _[((6 : Int32).toInt - _).toNat]? = _; decide +kernel), by decide⟩, List.forall_mem_cons.mpr ⟨⟨341, (S_L_law_b341 H18), (by show _ ≤ (7 : Int32).toInt; decide +kernel), (by show (7 : Int32).toInt ≤ _; decide +kernel), 309, (by show _[((7 : Int32).toInt - _).toNat]? = _; decide +kernel), by decide⟩, List.forall_mem_cons.mpr ⟨⟨374, (S_L_law_b374 H18), (by show _ ≤ (8 : Int32).toInt; decide +kernel), (by show (8 : Int32).toInt ≤ _; decide +kernel), 342, (by show _[((8 : Int32).toInt - _).toNat]? = _; decide +kernel), by decide⟩, List.forall_mem_cons.mpr ⟨⟨397, (S_L_law_b397 H18), (by show _ ≤ (9 : Int32).toInt; decide +kernel), (by show (9 : Int32).toInt ≤ _; decide +kernel), 365, (by show _[((9 : Int32).toInt - _).toNat]? = _; decide +kernel), by decide⟩, List.forall_mem_cons.mpr ⟨⟨430, (S_L_law_b430 H18), (by show _ ≤ (10 : Int32).toInt; decide +kernel), (by show (10 : Int32).toInt ≤ _; decide +kernel), 398, (by show _[((10 : Int32).toInt - _).toNat]? = _; decide +kernel), by decide⟩, List.forall_mem_cons.mpr ⟨⟨479, (S_L_law_b479 H18), (by show _ ≤ (11 : Int32).toInt; decide +kernel), (by show (11 : Int32).toInt ≤ _; decide +kernel), 447, (by show _[((11 : Int32).toInt - _).toNat]? = _; decide +kernel), by decide⟩, List.forall_mem_cons.mpr ⟨⟨528, (S_L_law_b528 H18), (by show _ ≤ (12 : Int32).toInt; decide +kernel), (by show (12 : Int32).toInt ≤ _; decide +kernel), 496, (by show _[((12 : Int32).toInt - _).toNat]? = _; decide +kernel), by decide⟩, List.forall_mem_cons.mpr ⟨⟨541, (S_L_law_b541 H18), (by show _ ≤ (13 : Int32).toInt; decide +kernel), (by show (13 : Int32).toInt ≤ _; decide +kernel), 509, (by show _[((13 : Int32).toInt - _).toNat]? = _; decide +kernel), by decide⟩, List.forall_mem_cons.mpr ⟨⟨564, (S_L_law_b564 H18), (by show _ ≤ (14 : Int32).toInt; decide +kernel), (by show (14 : Int32).toInt ≤ _; decide +kernel), 532, (by show _[((14 : Int32).toInt - _).toNat]? = _; decide +kernel), by decide⟩, List.forall_mem_cons.mpr ⟨⟨597, (S_L_law_b597 H18), (by show _ ≤ (15 : Int32).toInt; decide +kernel), (by show (15 : Int32).toInt ≤ _; decide +kernel), 565, (by show _[((15 : Int32).toInt - _).toNat]? = _; decide +kernel), by decide⟩, List.forall_mem_cons.mpr ⟨⟨620, (S_L_law_b620 H18), (by show _ ≤ (16 : Int32).toInt; decide +kernel), (by show (16 : Int32).toInt ≤ _; decide +kernel), 588, (by show _[((16 : Int32).toInt - _).toNat]? = _; decide +kernel), by decide⟩, List.forall_mem_cons.mpr ⟨⟨633, (S_L_law_b633 H18), (by show _ ≤ (17 : Int32).toInt; decide +kernel), (by show (17 : Int32).toInt ≤ _; decide +kernel), 601, (by show _[((17 : Int32).toInt - _).toNat]? = _; decide +kernel), by decide⟩, List.forall_mem_cons.mpr ⟨⟨666, (S_L_law_b666 H18), (by show _ ≤ (18 : Int32).toInt; decide +kernel), (by show (18 : Int32).toInt ≤ _; decide +kernel), 634, (by show _[((18 : Int32).toInt - _).toNat]? = _; decide +kernel), by decide⟩, List.forall_mem_cons.mpr ⟨⟨679, (S_L_law_b679 H18), (by show _ ≤ (19 : Int32).toInt; decide +kernel), (by show (19 : Int32).toInt ≤ _; decide +kernel), 647, (by show _[((19 : Int32).toInt - _).toNat]? = _; decide +kernel), by decide⟩, List.forall_mem_cons.mpr ⟨⟨702, (S_L_law_b702 H18), (by show _ ≤ (20 : Int32).toInt; decide +kernel), (by show (20 : Int32).toInt ≤ _; decide +kernel), 670, (by show _[((20 : Int32).toInt - _).toNat]? = _; decide +kernel), by decide⟩, List.forall_mem_cons.mpr ⟨⟨725, (S_L_law_b725 H18), (by show _ ≤ (21 : Int32).toInt; decide +kernel), (by show (21 : Int32).toInt ≤ _; decide +kernel), 693, (by show _[((21 : Int32).toInt - _).toNat]? = _; decide +kernel), by decide⟩, List.forall_mem_cons.mpr ⟨⟨738, (S_L_law_b738 H18), (by show _ ≤ (22 : Int32).toInt; decide +kernel), (by show (22 : Int32).toInt ≤ _; decide +kernel), 706, (by show _[((22 : Int32).toInt - _).toNat]? = _; decide +kernel), by decide⟩, List.forall_mem_cons.mpr ⟨⟨771, (S_L_law_b771 H18), (by show _ ≤ (23 : Int32).toInt; decide +kernel), (by show (23 : Int32).toInt ≤ _; decide +kernel), 739, (by show _[((23 : Int32).toInt - _).toNat]? = _; decide +kernel), by decide⟩, List.forall_mem_cons.mpr ⟨⟨830, (S_L_law_b830 H18), (by show _ ≤ (24 : Int32).toInt; decide +kernel), (by show (24 : Int32).toInt ≤ _; decide +kernel), 798, (by show _[((24 : Int32).toInt - _).toNat]? = _; decide +kernel), by decide⟩, List.forall_mem_cons.mpr ⟨⟨853, (S_L_law_b853 H18), (by show _ ≤ (25 : Int32).toInt; decide +kernel), (by show (25 : Int32).toInt ≤ _; decide +kernel), 821, (by show _[((25 : Int32).toInt - _).toNat]? = _; decide +kernel), by decide⟩, List.forall_mem_cons.mpr ⟨⟨866, (S_L_law_b866 H18), (by show _ ≤ (26 : Int32).toInt; decide +kernel), (by show (26 : Int32).toInt ≤ _; decide +kernel), 834, (by show _[((26 : Int32).toInt - _).toNat]? = _; decide +kernel), by decide⟩, List.forall_mem_cons.mpr ⟨⟨889, (S_L_law_b889 H18), (by show _ ≤ (27 : Int32).toInt; decide +kernel), (by show (27 : Int32).toInt ≤ _; decide +kernel), 857, (by show _[((27 : Int32).toInt - _).toNat]? = _; decide +kernel), by decide⟩, List.forall_mem_cons.mpr ⟨⟨922, (S_L_law_b922 H18), (by show _ ≤ (28 : Int32).toInt; decide +kernel), (by show (28 : Int32).toInt ≤ _; decide +kernel), 890, (by show _[((28 : Int32).toInt - _).toNat]? = _; decide +kernel), by decide⟩, List.forall_mem_cons.mpr ⟨⟨935, (S_L_law_b935 H18), (by show _ ≤ (29 : Int32).toInt; decide +kernel), (by show (29 : Int32).toInt ≤ _; decide +kernel), 903, (by show _[((29 : Int32).toInt - _).toNat]? = _; decide +kernel), by decide⟩, List.forall_mem_cons.mpr ⟨⟨948, (S_L_law_b948 H18), (by show _ ≤ (30 : Int32).toInt; decide +kernel), (by show (30 : Int32).toInt ≤ _; decide +kernel), 916, (by show _[((30 : Int32).toInt - _).toNat]? = _; decide +kernel), by decide⟩, List.forall_mem_cons.mpr ⟨⟨971, (S_L_law_b971 H18), (by show _ ≤ (31 : Int32).toInt; decide +kernel), (by show (31 : Int32).toInt ≤ _; decide +kernel), 939, (by show _[((31 : Int32).toInt - _).toNat]? = _; decide +kernel), by decide⟩, List.forall_mem_cons.mpr ⟨⟨994, (S_L_law_b994 H18), (by show _ ≤ (32 : Int32).toInt; decide +kernel), (by show (32 : Int32).toInt ≤ _; decide +kernel), 962, (by show _[((32 : Int32).toInt - _).toNat]? = _; decide +kernel), by decide⟩, fun q h => absurd h List.not_mem_nil⟩⟩⟩⟩⟩⟩⟩⟩⟩⟩⟩⟩⟩⟩⟩⟩⟩⟩⟩⟩⟩⟩⟩⟩⟩⟩⟩⟩⟩⟩⟩⟩⟩) (by decide +kernel)
def L_law_l18 (sc : Nat × (Nat → Int32)) : Nat → ak_K
  | 0 => k_no
  | n + 1 => L_law_b18 sc (L_law_l18 sc n)
theorem S_L_law_l18 {sc : Nat × (Nat → Int32)} : ∀ n : Nat, ak_S cL_law RL 4 4 7 164 sc 18 (L_law_l18 sc n)
  | 0 => s_no
  | n + 1 => S_L_law_b18 (S_L_law_l18 n)
def L_law_b0 (sc : Nat × (Nat → Int32)) : ak_K := (k_new 9 11 (k_dup (k_cn0 1 G_init (k_as 1 (k_new 10 41 (k_dup (k_cn0 1 R_init (k_as 2 (k_ci 0 (k_is 3 (L_law_l18 sc ak_fuel)))))))))))
theorem S_L_law_b0 {sc : Nat × (Nat → Int32)} : ak_S cL_law RL 4 4 7 164 sc 0 (L_law_b0 sc) := by
  unfold L_law_b0
  refine s_new (C := RX9) (Tf := TX9) (N := 11) (i := 9) rfl wd_1011 wd_1012 wd_10 dL_law_0 ?_
  refine s_dup dL_law_3 ?_
  refine s_cn0 M_G_init dL_law_4 rfl ⟨by decide +kernel, by decide +kernel, by decide +kernel⟩ (by decide) wd_1014 wd_10 (Or.inl wd_1013) ?_
  refine s_astore_n dL_law_7 rfl (by decide) ?_
  refine s_new (C := RX10) (Tf := TX10) (N := 41) (i := 10) rfl wd_1015 wd_1016 wd_610 dL_law_8 ?_
  refine s_dup dL_law_11 ?_
  refine s_cn0 M_R_init dL_law_12 rfl ⟨by decide +kernel, by decide +kernel, by decide +kernel⟩ (by decide) wd_1018 wd_610 (Or.inl wd_1017) ?_
  refine s_astore_n dL_law_15 rfl (by decide) ?_
  refine s_iconst (x := 0) dL_law_16 (by decide +kernel) ?_
  refine s_istore_n dL_law_17 rfl (by decide) ?_
  exact (S_L_law_l18 ak_fuel)
end
