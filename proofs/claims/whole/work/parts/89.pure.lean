/-! ===== from the empty memory the law answers 1 ===== -/
def ak_M0 : ak_M := (fun _ _ => 0, fun _ _ => 0, fun _ _ => none, fun _ => (0, 0), 1, 0)
def ptX (b k : Nat) : Option Nat := if b = 1 ∧ k = 1 then some 4 else if b = 1 ∧ k = 2 then some 12 else ptr0 b k
def hasE (b k x : Nat) : List (Nat × Nat × Nat) → Bool
  | [] => false
  | e :: l => (Nat.beq b e.1 && Nat.beq k e.2.1 && Nat.beq x e.2.2) || hasE b k x l
theorem hasE_mem {b k x : Nat} : ∀ {l : List (Nat × Nat × Nat)}, hasE b k x l = true → (b, k, x) ∈ l
  | [], h => by cases h
  | e :: l, h => by
    unfold hasE at h
    simp only [Bool.or_eq_true, Bool.and_eq_true] at h
    rcases h with ⟨⟨h1, h2⟩, h3⟩ | h
    · have e1 := Nat.eq_of_beq_eq_true h1
      have e2 := Nat.eq_of_beq_eq_true h2
      have e3 := Nat.eq_of_beq_eq_true h3
      subst e1 e2 e3
      exact List.mem_cons_self
    · exact List.mem_cons_of_mem _ (hasE_mem h)
def ptB (b k : Nat) : Bool := match ptX b k with
  | none => true
  | some x => hasE b k x gL34
theorem pt_A : ∀ e ∈ gL34, ptX e.1 e.2.1 = some e.2.2 := by decide +kernel
theorem pt_B : ∀ b, b < 177 → ∀ k, k < (ptrL.getD b []).length → ptB b k = true := by decide +kernel
theorem pF_sound {f : Nat → Nat → Option Nat} {b k x : Nat} : ∀ {l : List (Nat × Nat × Nat)}, (∀ e ∈ l, f e.1 e.2.1 = some e.2.2) → pF l b k = some x → f b k = some x
  | [], _, h => by cases h
  | e :: l, hl, h => by
    change (if b = e.1 ∧ k = e.2.1 then some e.2.2 else pF l b k) = some x at h
    by_cases hc : b = e.1 ∧ k = e.2.1
    · rw [if_pos hc] at h
      rw [hc.1, hc.2, ← h]
      exact hl e List.mem_cons_self
    · rw [if_neg hc] at h
      exact pF_sound (fun e' he => hl e' (List.mem_cons_of_mem _ he)) h
theorem pF_full {b k x : Nat} : ∀ {l : List (Nat × Nat × Nat)}, (b, k, x) ∈ l → pF l b k ≠ none
  | [], h, _ => by cases h
  | e :: l, h, g => by
    change (if b = e.1 ∧ k = e.2.1 then some e.2.2 else pF l b k) = none at g
    by_cases hc : b = e.1 ∧ k = e.2.1
    · rw [if_pos hc] at g
      cases g
    · rw [if_neg hc] at g
      rcases List.mem_cons.mp h with he | he
      · exact hc (by rw [← he]; exact ⟨rfl, rfl⟩)
      · exact pF_full he g
theorem ptrL_len : ptrL.length = 177 := by decide +kernel
theorem shpL_len : shpL.length = 177 := by decide +kernel
theorem ptX_in {b k x : Nat} (h : ptX b k = some x) : b < 177 ∧ k < (ptrL.getD b []).length := by
  unfold ptX at h
  by_cases h1 : b = 1 ∧ k = 1
  · rw [h1.1, h1.2]; decide +kernel
  rw [if_neg h1] at h
  by_cases h2 : b = 1 ∧ k = 2
  · rw [h2.1, h2.2]; decide +kernel
  rw [if_neg h2] at h
  unfold ptr0 at h
  by_cases hk : k < (ptrL.getD b []).length
  · by_cases hb : b < 177
    · exact ⟨hb, hk⟩
    · have e : ptrL.getD b [] = [] := by
        rw [List.getD_eq_getElem?_getD, List.getElem?_eq_none (by rw [ptrL_len]; omega)]
        rfl
      rw [e] at hk
      exact absurd hk (by simp)
  · rw [List.getD_eq_getElem?_getD (l := ptrL.getD b []), List.getElem?_eq_none (by omega)] at h
    cases h
theorem pt_X (b k : Nat) : pF gL34 b k = ptX b k := by
  rcases h : pF gL34 b k with _ | x
  · rcases h2 : ptX b k with _ | x
    · rfl
    · have hi := ptX_in h2
      have hb := pt_B b hi.1 k hi.2
      unfold ptB at hb
      rw [h2] at hb
      exact absurd h (pF_full (hasE_mem hb))
  · exact (pF_sound pt_A h).symm
theorem pt_all (b k : Nat) : pF gL34 b k = (if b = 1 ∧ k = 1 then some 4 else if b = 1 ∧ k = 2 then some (16 - 4) else ptr0 b k) := pt_X b k
theorem shp_out {a : Nat} (h : 177 ≤ a) : shp a = (0, 0) := by
  unfold shp
  rw [List.getD_eq_getElem?_getD, List.getElem?_eq_none (by rw [shpL_len]; omega)]
  rfl
theorem bld_mk (I : Nat → Nat → Int32) : bld I (pF gL34) 177 4668 = mk I I (fun _ _ => 0) 4 := by
  refine Prod.ext (funext fun a => funext fun j => ?_) (Prod.ext rfl (Prod.ext (funext fun a => funext fun j => pt_all a j) (Prod.ext (funext fun a => ?_) rfl)))
  · show I a j = if a < 153 then I a j else I a j
    split <;> rfl
  · show (if a < 177 then shp a else (0, 0)) = shp a
    by_cases h : a < 177
    · rw [if_pos h]
    · rw [if_neg h, shp_out (by omega)]
theorem M0_bld : ak_M0 = bld zI (pF gL0) 1 0 := by
  refine Prod.ext rfl (Prod.ext rfl (Prod.ext rfl (Prod.ext (funext fun a => ?_) rfl)))
  show (0, 0) = if a < 1 then shp a else (0, 0)
  by_cases h : a < 1
  · rw [if_pos h, show a = 0 by omega]
    rfl
  · rw [if_neg h]
theorem law_start (sc : Nat × (Nat → Int32)) : ∃ I'', (∀ q j, ¬ (q = 154 ∧ 15 ≤ j ∧ j < 22) → I'' q j = gJ q j) ∧ L_law_b0 sc [some (.ref 0), none, none, none] [] ak_M0 = L_law_l18 sc ak_fuel [some (.ref 0), some (.ref 1), some (.ref 153), some (.int (nI 0))] [] (mk I'' I'' (fun _ _ => 0) 4) := by
  obtain ⟨I'', i1, i2⟩ := R_init_e
  refine ⟨I'', i1, ?_⟩
  have s1 : ∀ K : ak_K, (k_new 9 11 (k_dup (k_cn0 1 G_init K))) [some (.ref 0), none, none, none] [] (bld zI (pF gL0) 1 0) = K [some (.ref 0), none, none, none] [.ref 1] (bld gI (pF gL11) 153 2482) := fun K =>
    new_at (n := 1) (i := 9) (N := 11) (by omega) rfl rfl (Z0_of zI_z (by decide +kernel)) rfl G_init_e
  have s2 : ∀ (K : ak_K) (M : ak_M), (k_as 1 K) [some (.ref 0), none, none, none] [.ref 1] M = K [some (.ref 0), some (.ref 1), none, none] [] M := fun K M => by simp only [e_ci, e_cl, e_cn, e_il, e_ll, e_al, e_is, e_as, e_asn, e_ls, e_ii, e_pop, e_dupi, e_dupr, e_dup2r, e_dup2i, e_b, e_bd, e_lb, e_lbd, e_i2l, e_l2i, e_lcmp, e_ifeq, e_iflt, e_ifge, e_ifgt, e_ifle, e_cmeq, e_cmlt, e_cmge, e_cmgt, e_cmle, e_nulln, e_nullr, e_sw, e_swn, e_swc, e_gi, e_gl, e_gp, e_pi, e_pz, e_pl, e_pp, e_ald, e_zld, e_qld, e_ast, e_zst, e_qst, e_len, e_cs, e_cv, e_cn0, e_obj, e_max, e_min, e_ri, e_rz, e_rq, e_rqn, e_rv, e_rfs, e_rfn, e_mS_uI, e_mZ_uI, e_mT_uI, e_mI_uI, e_mL_uI, e_mP_uI, e_mS_uL, e_mZ_uL, e_mT_uL, e_mI_uL, e_mL_uL, e_mP_uL, e_mS_uP, e_mZ_uP, e_mT_uP, e_mI_uP, e_mL_uP, e_mP_uP, lg, lset, ok1_0, ok1_s, okl_n, okl_i, okl_r, okl_u, okl_l, okl_ov, ak_pop, ak_s4, Option.toList_some, Option.toList_none, List.cons_append, List.nil_append, if_true, ite_true, ite_false, ↓reduceIte, Nat.reduceAdd, Nat.reduceEqDiff, and_true, true_and, and_self, i_00, i_11, i_01, i_10, or_true, true_or, false_or, or_false, mS_mk, mL_mk, mI_mk, mP_11, mP_12, uI_mk, uL_mk, shp_1, shp_2, shp_3, shp_4, shp_5, shp_6, shp_7, shp_8, shp_9, shp_10, shp_11, shp_12, shp_13, shp_14, shp_15, shp_16, shp_17, shp_18, shp_19, shp_20, shp_21, shp_22, shp_23, shp_24, shp_25, shp_26, shp_27, shp_28, shp_29, shp_30, shp_31, shp_32, shp_33, shp_34, shp_35, shp_36, shp_37, shp_38, shp_39, shp_40, shp_41, shp_42, shp_43, shp_44, shp_45, shp_46, shp_47, shp_48, shp_49, shp_50, shp_51, shp_52, shp_53, shp_54, shp_55, shp_56, shp_57, shp_58, shp_59, shp_60, shp_61, shp_62, shp_63, shp_64, shp_65, shp_66, shp_67, shp_68, shp_69, shp_70, shp_71, shp_72, shp_73, shp_74, shp_75, shp_76, shp_77, shp_78, shp_79, shp_80, shp_81, shp_82, shp_83, shp_84, shp_85, shp_86, shp_87, shp_88, shp_89, shp_90, shp_91, shp_92, shp_93, shp_94, shp_95, shp_96, shp_97, shp_98, shp_99, shp_100, shp_101, shp_102, shp_103, shp_104, shp_105, shp_106, shp_107, shp_108, shp_109, shp_110, shp_111, shp_112, shp_113, shp_114, shp_115, shp_116, shp_117, shp_118, shp_119, shp_120, shp_121, shp_122, shp_123, shp_124, shp_125, shp_126, shp_127, shp_128, shp_129, shp_130, shp_131, shp_132, shp_133, shp_134, shp_135, shp_136, shp_137, shp_138, shp_139, shp_140, shp_141, shp_142, shp_143, shp_144, shp_145, shp_146, shp_147, shp_148, shp_149, shp_150, shp_151, shp_152, shp_153, shp_154, shp_155, shp_156, shp_157, shp_158, shp_159, shp_160, shp_161, shp_162, shp_163, shp_164, shp_165, shp_166, shp_167, shp_168, shp_169, shp_170, shp_171, shp_172, shp_173, shp_174, shp_175, shp_176, ptr_1_0, ptr_1_3, ptr_1_4, ptr_1_5, ptr_1_6, ptr_1_7, ptr_1_8, ptr_1_9, ptr_1_10, ptr_2_0, ptr_4_5, ptr_4_6, ptr_4_7, ptr_4_8, ptr_4_9, ptr_4_10, ptr_4_11, ptr_12_5, ptr_12_6, ptr_12_7, ptr_12_8, ptr_12_9, ptr_12_10, ptr_12_11, ptr_20_8, ptr_20_9, ptr_20_10, ptr_20_11, ptr_25_0, ptr_26_0, ptr_26_1, ptr_26_2, ptr_26_3, ptr_26_4, ptr_26_5, ptr_26_6, ptr_26_7, ptr_26_8, ptr_26_9, ptr_26_10, ptr_26_11, ptr_26_12, ptr_26_13, ptr_26_14, ptr_26_15, ptr_26_16, ptr_26_17, ptr_26_18, ptr_26_19, ptr_27_8, ptr_27_9, ptr_27_10, ptr_27_11, ptr_32_8, ptr_32_9, ptr_32_10, ptr_32_11, ptr_37_8, ptr_37_9, ptr_37_10, ptr_37_11, ptr_42_8, ptr_42_9, ptr_42_10, ptr_42_11, ptr_47_8, ptr_47_9, ptr_47_10, ptr_47_11, ptr_52_8, ptr_52_9, ptr_52_10, ptr_52_11, ptr_57_8, ptr_57_9, ptr_57_10, ptr_57_11, ptr_62_8, ptr_62_9, ptr_62_10, ptr_62_11, ptr_67_8, ptr_67_9, ptr_67_10, ptr_67_11, ptr_72_8, ptr_72_9, ptr_72_10, ptr_72_11, ptr_77_8, ptr_77_9, ptr_77_10, ptr_77_11, ptr_82_8, ptr_82_9, ptr_82_10, ptr_82_11, ptr_87_8, ptr_87_9, ptr_87_10, ptr_87_11, ptr_92_8, ptr_92_9, ptr_92_10, ptr_92_11, ptr_97_8, ptr_97_9, ptr_97_10, ptr_97_11, ptr_102_8, ptr_102_9, ptr_102_10, ptr_102_11, ptr_107_8, ptr_107_9, ptr_107_10, ptr_107_11, ptr_112_8, ptr_112_9, ptr_112_10, ptr_112_11, ptr_117_8, ptr_117_9, ptr_117_10, ptr_117_11, ptr_122_8, ptr_122_9, ptr_122_10, ptr_122_11, ptr_127_0, ptr_128_8, ptr_128_9, ptr_128_10, ptr_128_11, ptr_133_0, ptr_134_8, ptr_134_9, ptr_134_10, ptr_134_11, ptr_139_0, ptr_139_1, ptr_139_2, ptr_139_3, ptr_144_0, ptr_144_1, ptr_144_2, ptr_144_3, ptr_149_0, ptr_149_1, ptr_153_0, ptr_153_1, ptr_153_7, ptr_153_8, ptr_153_9, ptr_153_10, ptr_153_11, ptr_153_12, ptr_153_13, ptr_153_25, ptr_153_26, ptr_153_27, ptr_153_28, ptr_153_29, ptr_153_30, ptr_153_31, ptr_153_32, ptr_153_33, ptr_153_35, ptr_153_36, ptr_153_37, ptr_153_39, ptr_153_40, mP_mk, Nat.reduceLT, and_false, false_and]
  have s3 : ∀ K : ak_K, (k_new 10 41 (k_dup (k_cn0 1 R_init K))) [some (.ref 0), some (.ref 1), none, none] [] (bld gI (pF gL11) 153 2482) = K [some (.ref 0), some (.ref 1), none, none] [.ref 153] (bld I'' (pF gL34) 177 4668) := fun K =>
    new_at (n := 153) (i := 10) (N := 41) (by omega) rfl rfl (Z0_of (gI_z (by omega)) (by decide +kernel)) rfl i2
  have s4 : ∀ (K : ak_K) (M : ak_M), (k_as 2 K) [some (.ref 0), some (.ref 1), none, none] [.ref 153] M = K [some (.ref 0), some (.ref 1), some (.ref 153), none] [] M := fun K M => by simp only [e_ci, e_cl, e_cn, e_il, e_ll, e_al, e_is, e_as, e_asn, e_ls, e_ii, e_pop, e_dupi, e_dupr, e_dup2r, e_dup2i, e_b, e_bd, e_lb, e_lbd, e_i2l, e_l2i, e_lcmp, e_ifeq, e_iflt, e_ifge, e_ifgt, e_ifle, e_cmeq, e_cmlt, e_cmge, e_cmgt, e_cmle, e_nulln, e_nullr, e_sw, e_swn, e_swc, e_gi, e_gl, e_gp, e_pi, e_pz, e_pl, e_pp, e_ald, e_zld, e_qld, e_ast, e_zst, e_qst, e_len, e_cs, e_cv, e_cn0, e_obj, e_max, e_min, e_ri, e_rz, e_rq, e_rqn, e_rv, e_rfs, e_rfn, e_mS_uI, e_mZ_uI, e_mT_uI, e_mI_uI, e_mL_uI, e_mP_uI, e_mS_uL, e_mZ_uL, e_mT_uL, e_mI_uL, e_mL_uL, e_mP_uL, e_mS_uP, e_mZ_uP, e_mT_uP, e_mI_uP, e_mL_uP, e_mP_uP, lg, lset, ok1_0, ok1_s, okl_n, okl_i, okl_r, okl_u, okl_l, okl_ov, ak_pop, ak_s4, Option.toList_some, Option.toList_none, List.cons_append, List.nil_append, if_true, ite_true, ite_false, ↓reduceIte, Nat.reduceAdd, Nat.reduceEqDiff, and_true, true_and, and_self, i_00, i_11, i_01, i_10, or_true, true_or, false_or, or_false, mS_mk, mL_mk, mI_mk, mP_11, mP_12, uI_mk, uL_mk, shp_1, shp_2, shp_3, shp_4, shp_5, shp_6, shp_7, shp_8, shp_9, shp_10, shp_11, shp_12, shp_13, shp_14, shp_15, shp_16, shp_17, shp_18, shp_19, shp_20, shp_21, shp_22, shp_23, shp_24, shp_25, shp_26, shp_27, shp_28, shp_29, shp_30, shp_31, shp_32, shp_33, shp_34, shp_35, shp_36, shp_37, shp_38, shp_39, shp_40, shp_41, shp_42, shp_43, shp_44, shp_45, shp_46, shp_47, shp_48, shp_49, shp_50, shp_51, shp_52, shp_53, shp_54, shp_55, shp_56, shp_57, shp_58, shp_59, shp_60, shp_61, shp_62, shp_63, shp_64, shp_65, shp_66, shp_67, shp_68, shp_69, shp_70, shp_71, shp_72, shp_73, shp_74, shp_75, shp_76, shp_77, shp_78, shp_79, shp_80, shp_81, shp_82, shp_83, shp_84, shp_85, shp_86, shp_87, shp_88, shp_89, shp_90, shp_91, shp_92, shp_93, shp_94, shp_95, shp_96, shp_97, shp_98, shp_99, shp_100, shp_101, shp_102, shp_103, shp_104, shp_105, shp_106, shp_107, shp_108, shp_109, shp_110, shp_111, shp_112, shp_113, shp_114, shp_115, shp_116, shp_117, shp_118, shp_119, shp_120, shp_121, shp_122, shp_123, shp_124, shp_125, shp_126, shp_127, shp_128, shp_129, shp_130, shp_131, shp_132, shp_133, shp_134, shp_135, shp_136, shp_137, shp_138, shp_139, shp_140, shp_141, shp_142, shp_143, shp_144, shp_145, shp_146, shp_147, shp_148, shp_149, shp_150, shp_151, shp_152, shp_153, shp_154, shp_155, shp_156, shp_157, shp_158, shp_159, shp_160, shp_161, shp_162, shp_163, shp_164, shp_165, shp_166, shp_167, shp_168, shp_169, shp_170, shp_171, shp_172, shp_173, shp_174, shp_175, shp_176, ptr_1_0, ptr_1_3, ptr_1_4, ptr_1_5, ptr_1_6, ptr_1_7, ptr_1_8, ptr_1_9, ptr_1_10, ptr_2_0, ptr_4_5, ptr_4_6, ptr_4_7, ptr_4_8, ptr_4_9, ptr_4_10, ptr_4_11, ptr_12_5, ptr_12_6, ptr_12_7, ptr_12_8, ptr_12_9, ptr_12_10, ptr_12_11, ptr_20_8, ptr_20_9, ptr_20_10, ptr_20_11, ptr_25_0, ptr_26_0, ptr_26_1, ptr_26_2, ptr_26_3, ptr_26_4, ptr_26_5, ptr_26_6, ptr_26_7, ptr_26_8, ptr_26_9, ptr_26_10, ptr_26_11, ptr_26_12, ptr_26_13, ptr_26_14, ptr_26_15, ptr_26_16, ptr_26_17, ptr_26_18, ptr_26_19, ptr_27_8, ptr_27_9, ptr_27_10, ptr_27_11, ptr_32_8, ptr_32_9, ptr_32_10, ptr_32_11, ptr_37_8, ptr_37_9, ptr_37_10, ptr_37_11, ptr_42_8, ptr_42_9, ptr_42_10, ptr_42_11, ptr_47_8, ptr_47_9, ptr_47_10, ptr_47_11, ptr_52_8, ptr_52_9, ptr_52_10, ptr_52_11, ptr_57_8, ptr_57_9, ptr_57_10, ptr_57_11, ptr_62_8, ptr_62_9, ptr_62_10, ptr_62_11, ptr_67_8, ptr_67_9, ptr_67_10, ptr_67_11, ptr_72_8, ptr_72_9, ptr_72_10, ptr_72_11, ptr_77_8, ptr_77_9, ptr_77_10, ptr_77_11, ptr_82_8, ptr_82_9, ptr_82_10, ptr_82_11, ptr_87_8, ptr_87_9, ptr_87_10, ptr_87_11, ptr_92_8, ptr_92_9, ptr_92_10, ptr_92_11, ptr_97_8, ptr_97_9, ptr_97_10, ptr_97_11, ptr_102_8, ptr_102_9, ptr_102_10, ptr_102_11, ptr_107_8, ptr_107_9, ptr_107_10, ptr_107_11, ptr_112_8, ptr_112_9, ptr_112_10, ptr_112_11, ptr_117_8, ptr_117_9, ptr_117_10, ptr_117_11, ptr_122_8, ptr_122_9, ptr_122_10, ptr_122_11, ptr_127_0, ptr_128_8, ptr_128_9, ptr_128_10, ptr_128_11, ptr_133_0, ptr_134_8, ptr_134_9, ptr_134_10, ptr_134_11, ptr_139_0, ptr_139_1, ptr_139_2, ptr_139_3, ptr_144_0, ptr_144_1, ptr_144_2, ptr_144_3, ptr_149_0, ptr_149_1, ptr_153_0, ptr_153_1, ptr_153_7, ptr_153_8, ptr_153_9, ptr_153_10, ptr_153_11, ptr_153_12, ptr_153_13, ptr_153_25, ptr_153_26, ptr_153_27, ptr_153_28, ptr_153_29, ptr_153_30, ptr_153_31, ptr_153_32, ptr_153_33, ptr_153_35, ptr_153_36, ptr_153_37, ptr_153_39, ptr_153_40, mP_mk, Nat.reduceLT, and_false, false_and]
  have s5 : ∀ (K : ak_K) (M : ak_M), (k_ci 0 (k_is 3 K)) [some (.ref 0), some (.ref 1), some (.ref 153), none] [] M = K [some (.ref 0), some (.ref 1), some (.ref 153), some (.int (nI 0))] [] M := fun K M => by
    simp only [e_ci, e_cl, e_cn, e_il, e_ll, e_al, e_is, e_as, e_asn, e_ls, e_ii, e_pop, e_dupi, e_dupr, e_dup2r, e_dup2i, e_b, e_bd, e_lb, e_lbd, e_i2l, e_l2i, e_lcmp, e_ifeq, e_iflt, e_ifge, e_ifgt, e_ifle, e_cmeq, e_cmlt, e_cmge, e_cmgt, e_cmle, e_nulln, e_nullr, e_sw, e_swn, e_swc, e_gi, e_gl, e_gp, e_pi, e_pz, e_pl, e_pp, e_ald, e_zld, e_qld, e_ast, e_zst, e_qst, e_len, e_cs, e_cv, e_cn0, e_obj, e_max, e_min, e_ri, e_rz, e_rq, e_rqn, e_rv, e_rfs, e_rfn, e_mS_uI, e_mZ_uI, e_mT_uI, e_mI_uI, e_mL_uI, e_mP_uI, e_mS_uL, e_mZ_uL, e_mT_uL, e_mI_uL, e_mL_uL, e_mP_uL, e_mS_uP, e_mZ_uP, e_mT_uP, e_mI_uP, e_mL_uP, e_mP_uP, lg, lset, ok1_0, ok1_s, okl_n, okl_i, okl_r, okl_u, okl_l, okl_ov, ak_pop, ak_s4, Option.toList_some, Option.toList_none, List.cons_append, List.nil_append, if_true, ite_true, ite_false, ↓reduceIte, Nat.reduceAdd, Nat.reduceEqDiff, and_true, true_and, and_self, i_00, i_11, i_01, i_10, or_true, true_or, false_or, or_false, mS_mk, mL_mk, mI_mk, mP_11, mP_12, uI_mk, uL_mk, shp_1, shp_2, shp_3, shp_4, shp_5, shp_6, shp_7, shp_8, shp_9, shp_10, shp_11, shp_12, shp_13, shp_14, shp_15, shp_16, shp_17, shp_18, shp_19, shp_20, shp_21, shp_22, shp_23, shp_24, shp_25, shp_26, shp_27, shp_28, shp_29, shp_30, shp_31, shp_32, shp_33, shp_34, shp_35, shp_36, shp_37, shp_38, shp_39, shp_40, shp_41, shp_42, shp_43, shp_44, shp_45, shp_46, shp_47, shp_48, shp_49, shp_50, shp_51, shp_52, shp_53, shp_54, shp_55, shp_56, shp_57, shp_58, shp_59, shp_60, shp_61, shp_62, shp_63, shp_64, shp_65, shp_66, shp_67, shp_68, shp_69, shp_70, shp_71, shp_72, shp_73, shp_74, shp_75, shp_76, shp_77, shp_78, shp_79, shp_80, shp_81, shp_82, shp_83, shp_84, shp_85, shp_86, shp_87, shp_88, shp_89, shp_90, shp_91, shp_92, shp_93, shp_94, shp_95, shp_96, shp_97, shp_98, shp_99, shp_100, shp_101, shp_102, shp_103, shp_104, shp_105, shp_106, shp_107, shp_108, shp_109, shp_110, shp_111, shp_112, shp_113, shp_114, shp_115, shp_116, shp_117, shp_118, shp_119, shp_120, shp_121, shp_122, shp_123, shp_124, shp_125, shp_126, shp_127, shp_128, shp_129, shp_130, shp_131, shp_132, shp_133, shp_134, shp_135, shp_136, shp_137, shp_138, shp_139, shp_140, shp_141, shp_142, shp_143, shp_144, shp_145, shp_146, shp_147, shp_148, shp_149, shp_150, shp_151, shp_152, shp_153, shp_154, shp_155, shp_156, shp_157, shp_158, shp_159, shp_160, shp_161, shp_162, shp_163, shp_164, shp_165, shp_166, shp_167, shp_168, shp_169, shp_170, shp_171, shp_172, shp_173, shp_174, shp_175, shp_176, ptr_1_0, ptr_1_3, ptr_1_4, ptr_1_5, ptr_1_6, ptr_1_7, ptr_1_8, ptr_1_9, ptr_1_10, ptr_2_0, ptr_4_5, ptr_4_6, ptr_4_7, ptr_4_8, ptr_4_9, ptr_4_10, ptr_4_11, ptr_12_5, ptr_12_6, ptr_12_7, ptr_12_8, ptr_12_9, ptr_12_10, ptr_12_11, ptr_20_8, ptr_20_9, ptr_20_10, ptr_20_11, ptr_25_0, ptr_26_0, ptr_26_1, ptr_26_2, ptr_26_3, ptr_26_4, ptr_26_5, ptr_26_6, ptr_26_7, ptr_26_8, ptr_26_9, ptr_26_10, ptr_26_11, ptr_26_12, ptr_26_13, ptr_26_14, ptr_26_15, ptr_26_16, ptr_26_17, ptr_26_18, ptr_26_19, ptr_27_8, ptr_27_9, ptr_27_10, ptr_27_11, ptr_32_8, ptr_32_9, ptr_32_10, ptr_32_11, ptr_37_8, ptr_37_9, ptr_37_10, ptr_37_11, ptr_42_8, ptr_42_9, ptr_42_10, ptr_42_11, ptr_47_8, ptr_47_9, ptr_47_10, ptr_47_11, ptr_52_8, ptr_52_9, ptr_52_10, ptr_52_11, ptr_57_8, ptr_57_9, ptr_57_10, ptr_57_11, ptr_62_8, ptr_62_9, ptr_62_10, ptr_62_11, ptr_67_8, ptr_67_9, ptr_67_10, ptr_67_11, ptr_72_8, ptr_72_9, ptr_72_10, ptr_72_11, ptr_77_8, ptr_77_9, ptr_77_10, ptr_77_11, ptr_82_8, ptr_82_9, ptr_82_10, ptr_82_11, ptr_87_8, ptr_87_9, ptr_87_10, ptr_87_11, ptr_92_8, ptr_92_9, ptr_92_10, ptr_92_11, ptr_97_8, ptr_97_9, ptr_97_10, ptr_97_11, ptr_102_8, ptr_102_9, ptr_102_10, ptr_102_11, ptr_107_8, ptr_107_9, ptr_107_10, ptr_107_11, ptr_112_8, ptr_112_9, ptr_112_10, ptr_112_11, ptr_117_8, ptr_117_9, ptr_117_10, ptr_117_11, ptr_122_8, ptr_122_9, ptr_122_10, ptr_122_11, ptr_127_0, ptr_128_8, ptr_128_9, ptr_128_10, ptr_128_11, ptr_133_0, ptr_134_8, ptr_134_9, ptr_134_10, ptr_134_11, ptr_139_0, ptr_139_1, ptr_139_2, ptr_139_3, ptr_144_0, ptr_144_1, ptr_144_2, ptr_144_3, ptr_149_0, ptr_149_1, ptr_153_0, ptr_153_1, ptr_153_7, ptr_153_8, ptr_153_9, ptr_153_10, ptr_153_11, ptr_153_12, ptr_153_13, ptr_153_25, ptr_153_26, ptr_153_27, ptr_153_28, ptr_153_29, ptr_153_30, ptr_153_31, ptr_153_32, ptr_153_33, ptr_153_35, ptr_153_36, ptr_153_37, ptr_153_39, ptr_153_40, mP_mk, Nat.reduceLT, and_false, false_and]
    rfl
  rw [M0_bld]
  unfold L_law_b0
  rw [s1, s2, s3, s4, s5, bld_mk]
theorem inv_start {I : Nat → Nat → Int32} (h : ∀ q j, ¬ (q = 154 ∧ 15 ≤ j ∧ j < 22) → I q j = gJ q j) : InvE I I (fun _ _ => 0) 4 := by
  have z : ∀ q j, ¬ (q = 154 ∧ 15 ≤ j ∧ j < 22) → ¬ (q = 2 ∧ j = 5) → ¬ (q = 153 ∧ j = 19) → I q j = 0 := fun q j h1 h2 h3 => by
    rw [h q j h1]
    unfold gJ gI
    rw [up_ne (by omega), up_ne (by omega)]
    rfl
  have a1 : I 2 5 = -1 := by
    rw [h 2 5 (by omega)]
    unfold gJ gI
    rw [up_ne (by omega), up_self]
  have a2 : I 153 19 = -1 := by
    rw [h 153 19 (by omega)]
    unfold gJ
    rw [up_self]
  have n0 : (0 : Int32) = nI 0 := rfl
  refine ⟨0, 0, 0, 0, 0, 0, 0, 0, 0, ⟨Or.inl rfl, by omega, by omega, by omega, by omega, by omega, by omega, by omega, by omega, by omega, fun _ => ⟨rfl, rfl, rfl⟩⟩, ⟨⟨?_, ?_, ?_, ?_⟩, ⟨?_, ?_, ?_, ?_⟩, fun d hd => absurd hd (by omega), fun m hm => absurd hm (by omega), fun n hn h0 => absurd h0 (by omega)⟩, ⟨?_, ?_, fun i hi => absurd hi (by omega), by rw [a1, a2]⟩, ⟨fun k hk => ?_, fun m hm => absurd hm (by omega), fun p hp => absurd hp (by omega), Or.inr ⟨rfl, ?_⟩⟩, ⟨?_, ?_⟩, fun i hi => ⟨?_, Or.inl ?_, fun q => ?_⟩, ⟨?_, ?_, ?_, fun i hi => absurd hi (by omega)⟩, ⟨?_, ?_, fun k hk => absurd hk (by omega)⟩, ⟨?_, ?_, fun k hk => absurd hk (by omega)⟩⟩
  · exact z _ _ (by omega) (by omega) (by omega)
  · exact z _ _ (by omega) (by omega) (by omega)
  · exact z _ _ (by omega) (by omega) (by omega)
  · exact z _ _ (by omega) (by omega) (by omega)
  · exact z _ _ (by omega) (by omega) (by omega)
  · exact z _ _ (by omega) (by omega) (by omega)
  · exact z _ _ (by omega) (by omega) (by omega)
  · exact z _ _ (by omega) (by omega) (by omega)
  · exact z _ _ (by omega) (by omega) (by omega)
  · exact z _ _ (by omega) (by omega) (by omega)
  · rw [z _ _ (by omega) (by omega) (by omega), z _ _ (by omega) (by omega) (by omega)]
  · exact z _ _ (by omega) (by omega) (by omega)
  · rw [z _ _ (by omega) (by omega) (by omega)]
    decide +kernel
  · rw [z _ _ (by omega) (by omega) (by omega)]
    decide +kernel
  · rw [z _ _ (by omega) (by omega) (by omega), z _ _ (by omega) (by omega) (by omega)]
  · exact z _ _ (by omega) (by omega) (by omega)
  · rw [z _ _ (by omega) (by omega) (by omega)] at q
    exact absurd q (by decide +kernel)
  · exact z _ _ (by omega) (by omega) (by omega)
  · exact z _ _ (by omega) (by omega) (by omega)
  · exact z _ _ (by omega) (by omega) (by omega)
  · exact z _ _ (by omega) (by omega) (by omega)
  · exact z _ _ (by omega) (by omega) (by omega)
  · exact z _ _ (by omega) (by omega) (by omega)
  · exact z _ _ (by omega) (by omega) (by omega)
theorem pure_law (L : Nat) (xs : Nat → Int32) (hL : L ≤ 256) : ∃ M' : ak_M, L_law_b0 (L, xs) [some (.ref 0), none, none, none] [] ak_M0 = some (some (.int 1), M') ∧ mZ M' ≤ 1000 ∧ mT M' ≤ 100000 := by
  obtain ⟨I, i1, i2⟩ := law_start (L, xs)
  obtain ⟨C', R', L', hb', g⟩ := law_loop (sc := (L, xs)) hL L ak_fuel 0 I I (fun _ _ => 0) 4 (by omega) (by rw [ak_fuel_eq]; omega) (by omega) (inv_start i1)
  refine ⟨mk C' R' L' hb', i2.trans g, ?_, ?_⟩
  · rw [mZ_mk]; omega
  · rw [mT_mk]; omega
