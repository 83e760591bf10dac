noncomputable section
-- GreetedMirrorsModel.<init>()V
def R_init_b196 (h196 : ak_K) : ak_K := (k_il 1 (k_ci 7 (k_cmge k_rv (k_al 0 (k_gp 10 0 (k_ci 15 (k_il 1 (k_b (fun x y => x + y) (k_ci (-1) (k_ast (k_ii 1 1 h196)))))))))))
theorem S_R_init_b196 {h196 : ak_K} (H196 : ak_S cX10_init RX10 2 5 1 20 (0, fun _ => 0) 196 h196) : ak_S cX10_init RX10 2 5 1 20 (0, fun _ => 0) 196 (R_init_b196 h196) := by
  unfold R_init_b196
  refine s_iload_n dX10_init_196 rfl ?_
  refine s_bipush (x := 7) dX10_init_197 (by decide +kernel) ?_
  refine s_cmge (tgt := 218) dX10_init_199 (by decide) ?_ ?_
  · exact s_rv (Or.inr rfl) dX10_init_218
  · refine s_aload_n dX10_init_202 rfl ?_
    refine s_gp (C := RX10) (Tf := TX10) (N := 41) (i := 10) (j := 0) rfl (by decide) rfl (Or.inl wd_578) dX10_init_203 ?_
    refine s_bipush (x := 15) dX10_init_206 (by decide +kernel) ?_
    refine s_iload_n dX10_init_208 rfl ?_
    refine s_iadd dX10_init_209 ?_
    refine s_iconst (x := (-1)) dX10_init_210 (by decide +kernel) ?_
    refine s_ast dX10_init_211 ?_
    refine s_iinc (y := 1) dX10_init_212 (by decide +kernel) (by decide) ?_
    refine s_goto (tgt := 196) dX10_init_215 (by decide) ?_
    exact H196
def R_init_l196 : Nat → ak_K
  | 0 => k_no
  | n + 1 => R_init_b196 (R_init_l196 n)
theorem S_R_init_l196 : ∀ n : Nat, ak_S cX10_init RX10 2 5 1 20 (0, fun _ => 0) 196 (R_init_l196 n)
  | 0 => s_no
  | n + 1 => S_R_init_b196 (S_R_init_l196 n)
def R_init_b191 : ak_K := (k_pp 10 40 (k_ci 0 (k_is 1 (R_init_l196 ak_fuel))))
theorem S_R_init_b191 : ak_S cX10_init RX10 2 5 1 20 (0, fun _ => 0) 191 (R_init_b191) := by
  unfold R_init_b191
  refine s_pp (C := RX10) (Tf := TX10) (N := 41) (i := 10) (j := 40) rfl (by decide) rfl (Or.inl ⟨wd_579, Or.inr ⟨rfl, rfl, rfl⟩⟩) dX10_init_191 ?_
  refine s_iconst (x := 0) dX10_init_194 (by decide +kernel) ?_
  refine s_istore_n dX10_init_195 rfl (by decide) ?_
  exact (S_R_init_l196 ak_fuel)
def R_init_b142 : ak_K := (k_pp 10 32 (k_al 0 (k_ci 896 (k_na 1 (k_pp 10 33 (k_al 0 (k_ci 8 (k_na 1 (k_pp 10 35 (k_al 0 (k_ci 8 (k_na 1 (k_pp 10 36 (k_al 0 (k_ci 8 (k_na 2 (k_pp 10 37 (k_al 0 (k_ci 15 (k_na 1 (k_pp 10 39 (k_al 0 (k_ci 15 (k_na 1 R_init_b191))))))))))))))))))))))))
theorem S_R_init_b142 : ak_S cX10_init RX10 2 5 1 20 (0, fun _ => 0) 142 (R_init_b142) := by
  unfold R_init_b142
  refine s_pp (C := RX10) (Tf := TX10) (N := 41) (i := 10) (j := 32) rfl (by decide) rfl (Or.inl ⟨wd_580, Or.inr ⟨rfl, rfl, rfl⟩⟩) dX10_init_142 ?_
  refine s_aload_n dX10_init_145 rfl ?_
  refine s_sipush (x := 896) dX10_init_146 (by decide +kernel) ?_
  refine s_na (Or.inl ⟨rfl, rfl⟩) wd_3 dX10_init_149 ?_
  refine s_pp (C := RX10) (Tf := TX10) (N := 41) (i := 10) (j := 33) rfl (by decide) rfl (Or.inl ⟨wd_581, Or.inr ⟨rfl, rfl, rfl⟩⟩) dX10_init_151 ?_
  refine s_aload_n dX10_init_154 rfl ?_
  refine s_bipush (x := 8) dX10_init_155 (by decide +kernel) ?_
  refine s_na (Or.inl ⟨rfl, rfl⟩) wd_3 dX10_init_157 ?_
  refine s_pp (C := RX10) (Tf := TX10) (N := 41) (i := 10) (j := 35) rfl (by decide) rfl (Or.inl ⟨wd_582, Or.inr ⟨rfl, rfl, rfl⟩⟩) dX10_init_159 ?_
  refine s_aload_n dX10_init_162 rfl ?_
  refine s_bipush (x := 8) dX10_init_163 (by decide +kernel) ?_
  refine s_na (Or.inl ⟨rfl, rfl⟩) wd_3 dX10_init_165 ?_
  refine s_pp (C := RX10) (Tf := TX10) (N := 41) (i := 10) (j := 36) rfl (by decide) rfl (Or.inl ⟨wd_583, Or.inr ⟨rfl, rfl, rfl⟩⟩) dX10_init_167 ?_
  refine s_aload_n dX10_init_170 rfl ?_
  refine s_bipush (x := 8) dX10_init_171 (by decide +kernel) ?_
  refine s_na (Or.inr ⟨rfl, rfl⟩) wd_584 dX10_init_173 ?_
  refine s_pp (C := RX10) (Tf := TX10) (N := 41) (i := 10) (j := 37) rfl (by decide) rfl (Or.inl ⟨wd_585, Or.inr ⟨rfl, rfl, rfl⟩⟩) dX10_init_175 ?_
  refine s_aload_n dX10_init_178 rfl ?_
  refine s_bipush (x := 15) dX10_init_179 (by decide +kernel) ?_
  refine s_na (Or.inl ⟨rfl, rfl⟩) wd_3 dX10_init_181 ?_
  refine s_pp (C := RX10) (Tf := TX10) (N := 41) (i := 10) (j := 39) rfl (by decide) rfl (Or.inl ⟨wd_586, Or.inr ⟨rfl, rfl, rfl⟩⟩) dX10_init_183 ?_
  refine s_aload_n dX10_init_186 rfl ?_
  refine s_bipush (x := 15) dX10_init_187 (by decide +kernel) ?_
  refine s_na (Or.inl ⟨rfl, rfl⟩) wd_3 dX10_init_189 ?_
  exact S_R_init_b191
def R_init_b95 : ak_K := (k_pp 10 26 (k_al 0 (k_ci 7 (k_na 1 (k_pp 10 27 (k_al 0 (k_ci 7 (k_na 1 (k_pp 10 28 (k_al 0 (k_ci 7 (k_na 1 (k_pp 10 29 (k_al 0 (k_ci 10 (k_na 1 (k_pp 10 30 (k_al 0 (k_ci 5 (k_na 1 (k_pp 10 31 (k_al 0 (k_ci 49 (k_na 1 R_init_b142))))))))))))))))))))))))
theorem S_R_init_b95 : ak_S cX10_init RX10 2 5 1 20 (0, fun _ => 0) 95 (R_init_b95) := by
  unfold R_init_b95
  refine s_pp (C := RX10) (Tf := TX10) (N := 41) (i := 10) (j := 26) rfl (by decide) rfl (Or.inl ⟨wd_587, Or.inr ⟨rfl, rfl, rfl⟩⟩) dX10_init_95 ?_
  refine s_aload_n dX10_init_98 rfl ?_
  refine s_bipush (x := 7) dX10_init_99 (by decide +kernel) ?_
  refine s_na (Or.inl ⟨rfl, rfl⟩) wd_3 dX10_init_101 ?_
  refine s_pp (C := RX10) (Tf := TX10) (N := 41) (i := 10) (j := 27) rfl (by decide) rfl (Or.inl ⟨wd_588, Or.inr ⟨rfl, rfl, rfl⟩⟩) dX10_init_103 ?_
  refine s_aload_n dX10_init_106 rfl ?_
  refine s_bipush (x := 7) dX10_init_107 (by decide +kernel) ?_
  refine s_na (Or.inl ⟨rfl, rfl⟩) wd_3 dX10_init_109 ?_
  refine s_pp (C := RX10) (Tf := TX10) (N := 41) (i := 10) (j := 28) rfl (by decide) rfl (Or.inl ⟨wd_589, Or.inr ⟨rfl, rfl, rfl⟩⟩) dX10_init_111 ?_
  refine s_aload_n dX10_init_114 rfl ?_
  refine s_bipush (x := 7) dX10_init_115 (by decide +kernel) ?_
  refine s_na (Or.inl ⟨rfl, rfl⟩) wd_3 dX10_init_117 ?_
  refine s_pp (C := RX10) (Tf := TX10) (N := 41) (i := 10) (j := 29) rfl (by decide) rfl (Or.inl ⟨wd_590, Or.inr ⟨rfl, rfl, rfl⟩⟩) dX10_init_119 ?_
  refine s_aload_n dX10_init_122 rfl ?_
  refine s_bipush (x := 10) dX10_init_123 (by decide +kernel) ?_
  refine s_na (Or.inl ⟨rfl, rfl⟩) wd_3 dX10_init_125 ?_
  refine s_pp (C := RX10) (Tf := TX10) (N := 41) (i := 10) (j := 30) rfl (by decide) rfl (Or.inl ⟨wd_591, Or.inr ⟨rfl, rfl, rfl⟩⟩) dX10_init_127 ?_
  refine s_aload_n dX10_init_130 rfl ?_
  refine s_iconst (x := 5) dX10_init_131 (by decide +kernel) ?_
  refine s_na (Or.inl ⟨rfl, rfl⟩) wd_3 dX10_init_132 ?_
  refine s_pp (C := RX10) (Tf := TX10) (N := 41) (i := 10) (j := 31) rfl (by decide) rfl (Or.inl ⟨wd_592, Or.inr ⟨rfl, rfl, rfl⟩⟩) dX10_init_134 ?_
  refine s_aload_n dX10_init_137 rfl ?_
  refine s_bipush (x := 49) dX10_init_138 (by decide +kernel) ?_
  refine s_na (Or.inl ⟨rfl, rfl⟩) wd_3 dX10_init_140 ?_
  exact S_R_init_b142
def R_init_b47 : ak_K := (k_na 1 (k_pp 10 10 (k_al 0 (k_ci 7 (k_na 1 (k_pp 10 11 (k_al 0 (k_ci 10 (k_na 1 (k_pp 10 12 (k_al 0 (k_ci 240 (k_na 1 (k_pp 10 13 (k_al 0 (k_ci (-1) (k_pi 10 19 (k_al 0 (k_ci 8 (k_na 1 (k_pp 10 25 (k_al 0 (k_ci 8 (k_na 1 R_init_b95))))))))))))))))))))))))
theorem S_R_init_b47 : ak_S cX10_init RX10 2 5 1 20 (0, fun _ => 0) 47 (R_init_b47) := by
  unfold R_init_b47
  refine s_na (Or.inl ⟨rfl, rfl⟩) wd_3 dX10_init_47 ?_
  refine s_pp (C := RX10) (Tf := TX10) (N := 41) (i := 10) (j := 10) rfl (by decide) rfl (Or.inl ⟨wd_593, Or.inr ⟨rfl, rfl, rfl⟩⟩) dX10_init_49 ?_
  refine s_aload_n dX10_init_52 rfl ?_
  refine s_bipush (x := 7) dX10_init_53 (by decide +kernel) ?_
  refine s_na (Or.inl ⟨rfl, rfl⟩) wd_3 dX10_init_55 ?_
  refine s_pp (C := RX10) (Tf := TX10) (N := 41) (i := 10) (j := 11) rfl (by decide) rfl (Or.inl ⟨wd_594, Or.inr ⟨rfl, rfl, rfl⟩⟩) dX10_init_57 ?_
  refine s_aload_n dX10_init_60 rfl ?_
  refine s_bipush (x := 10) dX10_init_61 (by decide +kernel) ?_
  refine s_na (Or.inl ⟨rfl, rfl⟩) wd_3 dX10_init_63 ?_
  refine s_pp (C := RX10) (Tf := TX10) (N := 41) (i := 10) (j := 12) rfl (by decide) rfl (Or.inl ⟨wd_595, Or.inr ⟨rfl, rfl, rfl⟩⟩) dX10_init_65 ?_
  refine s_aload_n dX10_init_68 rfl ?_
  refine s_sipush (x := 240) dX10_init_69 (by decide +kernel) ?_
  refine s_na (Or.inl ⟨rfl, rfl⟩) wd_3 dX10_init_72 ?_
  refine s_pp (C := RX10) (Tf := TX10) (N := 41) (i := 10) (j := 13) rfl (by decide) rfl (Or.inl ⟨wd_596, Or.inr ⟨rfl, rfl, rfl⟩⟩) dX10_init_74 ?_
  refine s_aload_n dX10_init_77 rfl ?_
  refine s_iconst (x := (-1)) dX10_init_78 (by decide +kernel) ?_
  refine s_pi (C := RX10) (Tf := TX10) (N := 41) (i := 10) (j := 19) rfl (by decide) rfl (Or.inl ⟨wd_597, Or.inl rfl⟩) dX10_init_79 ?_
  refine s_aload_n dX10_init_82 rfl ?_
  refine s_bipush (x := 8) dX10_init_83 (by decide +kernel) ?_
  refine s_na (Or.inl ⟨rfl, rfl⟩) wd_3 dX10_init_85 ?_
  refine s_pp (C := RX10) (Tf := TX10) (N := 41) (i := 10) (j := 25) rfl (by decide) rfl (Or.inl ⟨wd_598, Or.inr ⟨rfl, rfl, rfl⟩⟩) dX10_init_87 ?_
  refine s_aload_n dX10_init_90 rfl ?_
  refine s_bipush (x := 8) dX10_init_91 (by decide +kernel) ?_
  refine s_na (Or.inl ⟨rfl, rfl⟩) wd_3 dX10_init_93 ?_
  exact S_R_init_b95
def R_init_b0 : ak_K := (k_al 0 (k_obj (k_al 0 (k_ci 805 (k_na 1 (k_pp 10 0 (k_al 0 (k_ci 2 (k_na 2 (k_pp 10 1 (k_al 0 (k_ci 8 (k_na 1 (k_pp 10 7 (k_al 0 (k_ci 8 (k_na 1 (k_pp 10 8 (k_al 0 (k_ci 7 (k_na 1 (k_pp 10 9 (k_al 0 (k_ci 7 R_init_b47))))))))))))))))))))))))
theorem S_R_init_b0 : ak_S cX10_init RX10 2 5 1 20 (0, fun _ => 0) 0 (R_init_b0) := by
  unfold R_init_b0
  refine s_aload_n dX10_init_0 rfl ?_
  refine s_obj (by decide) wd_599 wd_1 wd_2 dX10_init_1 ?_
  refine s_aload_n dX10_init_4 rfl ?_
  refine s_sipush (x := 805) dX10_init_5 (by decide +kernel) ?_
  refine s_na (Or.inl ⟨rfl, rfl⟩) wd_3 dX10_init_8 ?_
  refine s_pp (C := RX10) (Tf := TX10) (N := 41) (i := 10) (j := 0) rfl (by decide) rfl (Or.inl ⟨wd_578, Or.inr ⟨rfl, rfl, rfl⟩⟩) dX10_init_10 ?_
  refine s_aload_n dX10_init_13 rfl ?_
  refine s_iconst (x := 2) dX10_init_14 (by decide +kernel) ?_
  refine s_na (Or.inr ⟨rfl, rfl⟩) wd_584 dX10_init_15 ?_
  refine s_pp (C := RX10) (Tf := TX10) (N := 41) (i := 10) (j := 1) rfl (by decide) rfl (Or.inl ⟨wd_600, Or.inr ⟨rfl, rfl, rfl⟩⟩) dX10_init_17 ?_
  refine s_aload_n dX10_init_20 rfl ?_
  refine s_bipush (x := 8) dX10_init_21 (by decide +kernel) ?_
  refine s_na (Or.inl ⟨rfl, rfl⟩) wd_3 dX10_init_23 ?_
  refine s_pp (C := RX10) (Tf := TX10) (N := 41) (i := 10) (j := 7) rfl (by decide) rfl (Or.inl ⟨wd_601, Or.inr ⟨rfl, rfl, rfl⟩⟩) dX10_init_25 ?_
  refine s_aload_n dX10_init_28 rfl ?_
  refine s_bipush (x := 8) dX10_init_29 (by decide +kernel) ?_
  refine s_na (Or.inl ⟨rfl, rfl⟩) wd_3 dX10_init_31 ?_
  refine s_pp (C := RX10) (Tf := TX10) (N := 41) (i := 10) (j := 8) rfl (by decide) rfl (Or.inl ⟨wd_602, Or.inr ⟨rfl, rfl, rfl⟩⟩) dX10_init_33 ?_
  refine s_aload_n dX10_init_36 rfl ?_
  refine s_bipush (x := 7) dX10_init_37 (by decide +kernel) ?_
  refine s_na (Or.inl ⟨rfl, rfl⟩) wd_3 dX10_init_39 ?_
  refine s_pp (C := RX10) (Tf := TX10) (N := 41) (i := 10) (j := 9) rfl (by decide) rfl (Or.inl ⟨wd_603, Or.inr ⟨rfl, rfl, rfl⟩⟩) dX10_init_41 ?_
  refine s_aload_n dX10_init_44 rfl ?_
  refine s_bipush (x := 7) dX10_init_45 (by decide +kernel) ?_
  exact S_R_init_b47
def R_init (As : List Value) (M : ak_M) : ak_R := match As with
  | [.ref a] => R_init_b0 [some (.ref a), none] [] M
  | _ => none
theorem M_R_init : ak_Mt yX10_init cX10_init 2 none 1 20 R_init := by
  refine ak_met (rk := 5) wd_604 (by decide +kernel) rfl (Or.inl ⟨Or.inr rfl, rfl⟩) (fun h => rfl) S_R_init_b0 (fun As M r h => ?_)
  unfold R_init at h
  split at h
  next => exact ⟨Nat.le_of_ble_eq_true rfl, 1, h⟩
  next => cases h
-- GreetedMirrorsModel.in(JJJ)Z
def R_in_b18 : ak_K := k_rz
theorem S_R_in_b18 : ak_S cX10_in RX10 6 2 0 0 (0, fun _ => 0) 18 (R_in_b18) := by
  unfold R_in_b18
  exact s_rz rfl dX10_in_18
def R_in_b17 : ak_K := (k_ci 0 R_in_b18)
theorem S_R_in_b17 : ak_S cX10_in RX10 6 2 0 0 (0, fun _ => 0) 17 (R_in_b17) := by
  unfold R_in_b17
  refine s_iconst (x := 0) dX10_in_17 (by decide +kernel) ?_
  exact S_R_in_b18
def R_in_b0 : ak_K := (k_ll 0 (k_ll 2 (k_lcmp (k_iflt R_in_b17 (k_ll 0 (k_ll 4 (k_lcmp (k_ifgt R_in_b17 (k_ci 1 R_in_b18)))))))))
theorem S_R_in_b0 : ak_S cX10_in RX10 6 2 0 0 (0, fun _ => 0) 0 (R_in_b0) := by
  unfold R_in_b0
  refine s_lload_n dX10_in_0 rfl ?_
  refine s_lload_n dX10_in_1 rfl ?_
  refine s_lcmp dX10_in_2 ?_
  refine s_iflt (tgt := 17) dX10_in_3 (by decide) ?_ ?_
  · exact S_R_in_b17
  · refine s_lload_n dX10_in_6 rfl ?_
    refine s_lload dX10_in_7 ?_
    refine s_lcmp dX10_in_9 ?_
    refine s_ifgt (tgt := 17) dX10_in_10 (by decide) ?_ ?_
    · exact S_R_in_b17
    · refine s_iconst (x := 1) dX10_in_13 (by decide +kernel) ?_
      refine s_goto (tgt := 18) dX10_in_14 (by decide) ?_
      exact S_R_in_b18
def R_in (As : List Value) (M : ak_M) : ak_R := match As with
  | [.long x0, .long x1, .long x2] => R_in_b0 [some (.long x0), none, some (.long x1), none, some (.long x2), none] [] M
  | _ => none
theorem M_R_in : ak_Mt yX10_in cX10_in 6 (some .boolean) 0 0 R_in := by
  refine ak_met (rk := 2) wd_605 (by decide +kernel) rfl (Or.inr (Or.inr (Or.inl ⟨rfl, rfl⟩))) (fun h => absurd h (by decide)) S_R_in_b0 (fun As M r h => ?_)
  unfold R_in at h
  split at h
  next => exact ⟨Nat.le_of_ble_eq_true rfl, 0, h⟩
  next => cases h
-- GreetedMirrorsModel.has(II)Z
def R_has_b14 : ak_K := k_rz
theorem S_R_has_b14 : ak_S cX10_has RX10 2 2 0 0 (0, fun _ => 0) 14 (R_has_b14) := by
  unfold R_has_b14
  exact s_rz rfl dX10_has_14
def R_has_b0 : ak_K := (k_il 0 (k_il 1 (k_b (fun x y => x >>> (y &&& 31)) (k_ci 1 (k_b (fun x y => x &&& y) (k_ci 1 (k_cmeq (k_ci 1 R_has_b14) (k_ci 0 R_has_b14))))))))
theorem S_R_has_b0 : ak_S cX10_has RX10 2 2 0 0 (0, fun _ => 0) 0 (R_has_b0) := by
  unfold R_has_b0
  refine s_iload_n dX10_has_0 rfl ?_
  refine s_iload_n dX10_has_1 rfl ?_
  refine s_ishr dX10_has_2 ?_
  refine s_iconst (x := 1) dX10_has_3 (by decide +kernel) ?_
  refine s_iand dX10_has_4 ?_
  refine s_iconst (x := 1) dX10_has_5 (by decide +kernel) ?_
  refine s_cmne (tgt := 13) dX10_has_6 (by decide) ?_ ?_
  · refine s_iconst (x := 1) dX10_has_9 (by decide +kernel) ?_
    refine s_goto (tgt := 14) dX10_has_10 (by decide) ?_
    exact S_R_has_b14
  · refine s_iconst (x := 0) dX10_has_13 (by decide +kernel) ?_
    exact S_R_has_b14
def R_has (As : List Value) (M : ak_M) : ak_R := match As with
  | [.int x0, .int x1] => R_has_b0 [some (.int x0), some (.int x1)] [] M
  | _ => none
theorem M_R_has : ak_Mt yX10_has cX10_has 2 (some .boolean) 0 0 R_has := by
  refine ak_met (rk := 2) wd_606 (by decide +kernel) rfl (Or.inr (Or.inr (Or.inl ⟨rfl, rfl⟩))) (fun h => absurd h (by decide)) S_R_has_b0 (fun As M r h => ?_)
  unfold R_has at h
  split at h
  next => exact ⟨Nat.le_of_ble_eq_true rfl, 0, h⟩
  next => cases h
-- GreetedMirrorsModel.copy(II)V
def R_copy_b2 (h2 : ak_K) : ak_K := (k_il 3 (k_ci 35 (k_cmge k_rv (k_al 0 (k_gp 10 0 (k_il 2 (k_il 3 (k_b (fun x y => x + y) (k_al 0 (k_gp 10 0 (k_il 1 (k_il 3 (k_b (fun x y => x + y) (k_ald (k_ast (k_ii 3 1 h2))))))))))))))))
theorem S_R_copy_b2 {h2 : ak_K} (H2 : ak_S cX10_copy RX10 4 0 0 0 (0, fun _ => 0) 2 h2) : ak_S cX10_copy RX10 4 0 0 0 (0, fun _ => 0) 2 (R_copy_b2 h2) := by
  unfold R_copy_b2
  refine s_iload_n dX10_copy_2 rfl ?_
  refine s_bipush (x := 35) dX10_copy_3 (by decide +kernel) ?_
  refine s_cmge (tgt := 30) dX10_copy_5 (by decide) ?_ ?_
  · exact s_rv (Or.inl rfl) dX10_copy_30
  · refine s_aload_n dX10_copy_8 rfl ?_
    refine s_gp (C := RX10) (Tf := TX10) (N := 41) (i := 10) (j := 0) rfl (by decide) rfl (Or.inl wd_578) dX10_copy_9 ?_
    refine s_iload_n dX10_copy_12 rfl ?_
    refine s_iload_n dX10_copy_13 rfl ?_
    refine s_iadd dX10_copy_14 ?_
    refine s_aload_n dX10_copy_15 rfl ?_
    refine s_gp (C := RX10) (Tf := TX10) (N := 41) (i := 10) (j := 0) rfl (by decide) rfl (Or.inl wd_578) dX10_copy_16 ?_
    refine s_iload_n dX10_copy_19 rfl ?_
    refine s_iload_n dX10_copy_20 rfl ?_
    refine s_iadd dX10_copy_21 ?_
    refine s_ald dX10_copy_22 ?_
    refine s_ast dX10_copy_23 ?_
    refine s_iinc (y := 1) dX10_copy_24 (by decide +kernel) (by decide) ?_
    refine s_goto (tgt := 2) dX10_copy_27 (by decide) ?_
    exact H2
def R_copy_l2 : Nat → ak_K
  | 0 => k_no
  | n + 1 => R_copy_b2 (R_copy_l2 n)
theorem S_R_copy_l2 : ∀ n : Nat, ak_S cX10_copy RX10 4 0 0 0 (0, fun _ => 0) 2 (R_copy_l2 n)
  | 0 => s_no
  | n + 1 => S_R_copy_b2 (S_R_copy_l2 n)
def R_copy_b0 : ak_K := (k_ci 0 (k_is 3 (R_copy_l2 ak_fuel)))
theorem S_R_copy_b0 : ak_S cX10_copy RX10 4 0 0 0 (0, fun _ => 0) 0 (R_copy_b0) := by
  unfold R_copy_b0
  refine s_iconst (x := 0) dX10_copy_0 (by decide +kernel) ?_
  refine s_istore_n dX10_copy_1 rfl (by decide) ?_
  exact (S_R_copy_l2 ak_fuel)
def R_copy (As : List Value) (M : ak_M) : ak_R := match As with
  | [.ref a, .int x0, .int x1] => R_copy_b0 [some (.ref a), some (.int x0), some (.int x1), none] [] M
  | _ => none
theorem M_R_copy : ak_Mt yX10_copy cX10_copy 4 none 0 0 R_copy := by
  refine ak_met (rk := 0) wd_607 (by decide +kernel) rfl (Or.inl ⟨Or.inl rfl, rfl⟩) (fun h => absurd h (by decide)) S_R_copy_b0 (fun As M r h => ?_)
  unfold R_copy at h
  split at h
  next => exact ⟨Nat.le_of_ble_eq_true rfl, 1, h⟩
  next => cases h
-- GreetedMirrorsModel.isRoom(I)Z
def R_isRoom_b0 : ak_K := (k_il 1 (k_i2l (k_cl 0 (k_al 0 (k_gi 10 3 (k_ci 1 (k_b (fun x y => x - y) (k_i2l (k_cs 3 R_in k_rz)))))))))
theorem S_R_isRoom_b0 : ak_S cX10_isRoom RX10 2 2 1 25 (0, fun _ => 0) 0 (R_isRoom_b0) := by
  unfold R_isRoom_b0
  refine s_iload_n dX10_isRoom_0 rfl ?_
  refine s_i2l dX10_isRoom_1 ?_
  refine s_lconst (x := 0) dX10_isRoom_2 (by decide +kernel) ?_
  refine s_aload_n dX10_isRoom_3 rfl ?_
  refine s_gi (C := RX10) (Tf := TX10) (N := 41) (i := 10) (j := 3) rfl (by decide) rfl (Or.inl wd_608) dX10_isRoom_4 ?_
  refine s_iconst (x := 1) dX10_isRoom_7 (by decide +kernel) ?_
  refine s_isub dX10_isRoom_8 ?_
  refine s_i2l dX10_isRoom_9 ?_
  refine s_cs M_R_in dX10_isRoom_10 ⟨by decide +kernel, by decide +kernel, by decide +kernel⟩ (by decide) wd_611 wd_610 (Or.inl ⟨wd_609, rfl⟩) ?_
  exact s_rz rfl dX10_isRoom_13
def R_isRoom (As : List Value) (M : ak_M) : ak_R := match As with
  | [.ref a, .int x0] => R_isRoom_b0 [some (.ref a), some (.int x0)] [] M
  | _ => none
theorem M_R_isRoom : ak_Mt yX10_isRoom cX10_isRoom 2 (some .boolean) 1 25 R_isRoom := by
  refine ak_met (rk := 2) wd_612 (by decide +kernel) rfl (Or.inr (Or.inr (Or.inl ⟨rfl, rfl⟩))) (fun h => absurd h (by decide)) S_R_isRoom_b0 (fun As M r h => ?_)
  unfold R_isRoom at h
  split at h
  next => exact ⟨Nat.le_of_ble_eq_true rfl, 0, h⟩
  next => cases h
-- GreetedMirrorsModel.isDoor(I)Z
def R_isDoor_b0 : ak_K := (k_il 1 (k_i2l (k_cl 0 (k_al 0 (k_gi 10 4 (k_ci 1 (k_b (fun x y => x - y) (k_i2l (k_cs 3 R_in k_rz)))))))))
theorem S_R_isDoor_b0 : ak_S cX10_isDoor RX10 2 2 1 25 (0, fun _ => 0) 0 (R_isDoor_b0) := by
  unfold R_isDoor_b0
  refine s_iload_n dX10_isDoor_0 rfl ?_
  refine s_i2l dX10_isDoor_1 ?_
  refine s_lconst (x := 0) dX10_isDoor_2 (by decide +kernel) ?_
  refine s_aload_n dX10_isDoor_3 rfl ?_
  refine s_gi (C := RX10) (Tf := TX10) (N := 41) (i := 10) (j := 4) rfl (by decide) rfl (Or.inl wd_613) dX10_isDoor_4 ?_
  refine s_iconst (x := 1) dX10_isDoor_7 (by decide +kernel) ?_
  refine s_isub dX10_isDoor_8 ?_
  refine s_i2l dX10_isDoor_9 ?_
  refine s_cs M_R_in dX10_isDoor_10 ⟨by decide +kernel, by decide +kernel, by decide +kernel⟩ (by decide) wd_611 wd_610 (Or.inl ⟨wd_609, rfl⟩) ?_
  exact s_rz rfl dX10_isDoor_13
def R_isDoor (As : List Value) (M : ak_M) : ak_R := match As with
  | [.ref a, .int x0] => R_isDoor_b0 [some (.ref a), some (.int x0)] [] M
  | _ => none
theorem M_R_isDoor : ak_Mt yX10_isDoor cX10_isDoor 2 (some .boolean) 1 25 R_isDoor := by
  refine ak_met (rk := 2) wd_614 (by decide +kernel) rfl (Or.inr (Or.inr (Or.inl ⟨rfl, rfl⟩))) (fun h => absurd h (by decide)) S_R_isDoor_b0 (fun As M r h => ?_)
  unfold R_isDoor at h
  split at h
  next => exact ⟨Nat.le_of_ble_eq_true rfl, 0, h⟩
  next => cases h
-- GreetedMirrorsModel.isMirror(I)Z
def R_isMirror_b0 : ak_K := (k_il 1 (k_i2l (k_cl 0 (k_al 0 (k_gi 10 5 (k_ci 1 (k_b (fun x y => x - y) (k_i2l (k_cs 3 R_in k_rz)))))))))
theorem S_R_isMirror_b0 : ak_S cX10_isMirror RX10 2 2 1 25 (0, fun _ => 0) 0 (R_isMirror_b0) := by
  unfold R_isMirror_b0
  refine s_iload_n dX10_isMirror_0 rfl ?_
  refine s_i2l dX10_isMirror_1 ?_
  refine s_lconst (x := 0) dX10_isMirror_2 (by decide +kernel) ?_
  refine s_aload_n dX10_isMirror_3 rfl ?_
  refine s_gi (C := RX10) (Tf := TX10) (N := 41) (i := 10) (j := 5) rfl (by decide) rfl (Or.inl wd_615) dX10_isMirror_4 ?_
  refine s_iconst (x := 1) dX10_isMirror_7 (by decide +kernel) ?_
  refine s_isub dX10_isMirror_8 ?_
  refine s_i2l dX10_isMirror_9 ?_
  refine s_cs M_R_in dX10_isMirror_10 ⟨by decide +kernel, by decide +kernel, by decide +kernel⟩ (by decide) wd_611 wd_610 (Or.inl ⟨wd_609, rfl⟩) ?_
  exact s_rz rfl dX10_isMirror_13
def R_isMirror (As : List Value) (M : ak_M) : ak_R := match As with
  | [.ref a, .int x0] => R_isMirror_b0 [some (.ref a), some (.int x0)] [] M
  | _ => none
theorem M_R_isMirror : ak_Mt yX10_isMirror cX10_isMirror 2 (some .boolean) 1 25 R_isMirror := by
  refine ak_met (rk := 2) wd_616 (by decide +kernel) rfl (Or.inr (Or.inr (Or.inl ⟨rfl, rfl⟩))) (fun h => absurd h (by decide)) S_R_isMirror_b0 (fun As M r h => ?_)
  unfold R_isMirror at h
  split at h
  next => exact ⟨Nat.le_of_ble_eq_true rfl, 0, h⟩
  next => cases h
-- GreetedMirrorsModel.isPerson(I)Z
def R_isPerson_b0 : ak_K := (k_il 1 (k_i2l (k_cl 0 (k_al 0 (k_gi 10 6 (k_ci 1 (k_b (fun x y => x - y) (k_i2l (k_cs 3 R_in k_rz)))))))))
theorem S_R_isPerson_b0 : ak_S cX10_isPerson RX10 2 2 1 25 (0, fun _ => 0) 0 (R_isPerson_b0) := by
  unfold R_isPerson_b0
  refine s_iload_n dX10_isPerson_0 rfl ?_
  refine s_i2l dX10_isPerson_1 ?_
  refine s_lconst (x := 0) dX10_isPerson_2 (by decide +kernel) ?_
  refine s_aload_n dX10_isPerson_3 rfl ?_
  refine s_gi (C := RX10) (Tf := TX10) (N := 41) (i := 10) (j := 6) rfl (by decide) rfl (Or.inl wd_617) dX10_isPerson_4 ?_
  refine s_iconst (x := 1) dX10_isPerson_7 (by decide +kernel) ?_
  refine s_isub dX10_isPerson_8 ?_
  refine s_i2l dX10_isPerson_9 ?_
  refine s_cs M_R_in dX10_isPerson_10 ⟨by decide +kernel, by decide +kernel, by decide +kernel⟩ (by decide) wd_611 wd_610 (Or.inl ⟨wd_609, rfl⟩) ?_
  exact s_rz rfl dX10_isPerson_13
def R_isPerson (As : List Value) (M : ak_M) : ak_R := match As with
  | [.ref a, .int x0] => R_isPerson_b0 [some (.ref a), some (.int x0)] [] M
  | _ => none
theorem M_R_isPerson : ak_Mt yX10_isPerson cX10_isPerson 2 (some .boolean) 1 25 R_isPerson := by
  refine ak_met (rk := 2) wd_618 (by decide +kernel) rfl (Or.inr (Or.inr (Or.inl ⟨rfl, rfl⟩))) (fun h => absurd h (by decide)) S_R_isPerson_b0 (fun As M r h => ?_)
  unfold R_isPerson at h
  split at h
  next => exact ⟨Nat.le_of_ble_eq_true rfl, 0, h⟩
  next => cases h
-- GreetedMirrorsModel.isName(I)Z
def R_isName_b0 : ak_K := (k_il 0 (k_i2l (k_cl 0 (k_cl 9 (k_cs 3 R_in k_rz)))))
theorem S_R_isName_b0 : ak_S cX10_isName RX10 1 2 1 25 (0, fun _ => 0) 0 (R_isName_b0) := by
  unfold R_isName_b0
  refine s_iload_n dX10_isName_0 rfl ?_
  refine s_i2l dX10_isName_1 ?_
  refine s_lconst (x := 0) dX10_isName_2 (by decide +kernel) ?_
  refine s_ldc2 (x := 9) dX10_isName_3 wd_619 ?_
  refine s_cs M_R_in dX10_isName_6 ⟨by decide +kernel, by decide +kernel, by decide +kernel⟩ (by decide) wd_611 wd_610 (Or.inl ⟨wd_609, rfl⟩) ?_
  exact s_rz rfl dX10_isName_9
def R_isName (As : List Value) (M : ak_M) : ak_R := match As with
  | [.int x0] => R_isName_b0 [some (.int x0)] [] M
  | _ => none
theorem M_R_isName : ak_Mt yX10_isName cX10_isName 1 (some .boolean) 1 25 R_isName := by
  refine ak_met (rk := 2) wd_620 (by decide +kernel) rfl (Or.inr (Or.inr (Or.inl ⟨rfl, rfl⟩))) (fun h => absurd h (by decide)) S_R_isName_b0 (fun As M r h => ?_)
  unfold R_isName at h
  split at h
  next => exact ⟨Nat.le_of_ble_eq_true rfl, 0, h⟩
  next => cases h
-- GreetedMirrorsModel.feed(I)I
def R_feed_b52 : ak_K := k_ri
theorem S_R_feed_b52 : ak_S cX10_feed RX10 2 1 1 25 (0, fun _ => 0) 52 (R_feed_b52) := by
  unfold R_feed_b52
  exact s_ri rfl dX10_feed_52
def R_feed_b0 : ak_K := (k_il 1 (k_i2l (k_cl 0 (k_cl 255 (k_cs 3 R_in (k_ifeq (k_ci (-1000000002) k_ri) (k_al 0 (k_gi 10 14 (k_ci 240 (k_cmeq (k_ci (-1000000004) k_ri) (k_al 0 (k_gp 10 13 (k_al 0 (k_gi 10 14 (k_il 1 (k_ast (k_al 0 (k_dup (k_gi 10 14 (k_ci 1 (k_b (fun x y => x + y) (k_pi 10 14 (k_al 0 (k_gi 10 14 R_feed_b52))))))))))))))))))))))))
theorem S_R_feed_b0 : ak_S cX10_feed RX10 2 1 1 25 (0, fun _ => 0) 0 (R_feed_b0) := by
  unfold R_feed_b0
  refine s_iload_n dX10_feed_0 rfl ?_
  refine s_i2l dX10_feed_1 ?_
  refine s_lconst (x := 0) dX10_feed_2 (by decide +kernel) ?_
  refine s_ldc2 (x := 255) dX10_feed_3 wd_621 ?_
  refine s_cs M_R_in dX10_feed_6 ⟨by decide +kernel, by decide +kernel, by decide +kernel⟩ (by decide) wd_611 wd_610 (Or.inl ⟨wd_609, rfl⟩) ?_
  refine s_ifne (tgt := 15) dX10_feed_9 (by decide) ?_ ?_
  · refine s_ldc (x := (-1000000002)) dX10_feed_12 wd_622 ?_
    exact s_ri rfl dX10_feed_14
  · refine s_aload_n dX10_feed_15 rfl ?_
    refine s_gi (C := RX10) (Tf := TX10) (N := 41) (i := 10) (j := 14) rfl (by decide) rfl (Or.inl wd_623) dX10_feed_16 ?_
    refine s_sipush (x := 240) dX10_feed_19 (by decide +kernel) ?_
    refine s_cmne (tgt := 28) dX10_feed_22 (by decide) ?_ ?_
    · refine s_ldc (x := (-1000000004)) dX10_feed_25 wd_624 ?_
      exact s_ri rfl dX10_feed_27
    · refine s_aload_n dX10_feed_28 rfl ?_
      refine s_gp (C := RX10) (Tf := TX10) (N := 41) (i := 10) (j := 13) rfl (by decide) rfl (Or.inl wd_596) dX10_feed_29 ?_
      refine s_aload_n dX10_feed_32 rfl ?_
      refine s_gi (C := RX10) (Tf := TX10) (N := 41) (i := 10) (j := 14) rfl (by decide) rfl (Or.inl wd_623) dX10_feed_33 ?_
      refine s_iload_n dX10_feed_36 rfl ?_
      refine s_ast dX10_feed_37 ?_
      refine s_aload_n dX10_feed_38 rfl ?_
      refine s_dup dX10_feed_39 ?_
      refine s_gi (C := RX10) (Tf := TX10) (N := 41) (i := 10) (j := 14) rfl (by decide) rfl (Or.inl wd_623) dX10_feed_40 ?_
      refine s_iconst (x := 1) dX10_feed_43 (by decide +kernel) ?_
      refine s_iadd dX10_feed_44 ?_
      refine s_pi (C := RX10) (Tf := TX10) (N := 41) (i := 10) (j := 14) rfl (by decide) rfl (Or.inl ⟨wd_623, Or.inl rfl⟩) dX10_feed_45 ?_
      refine s_aload_n dX10_feed_48 rfl ?_
      refine s_gi (C := RX10) (Tf := TX10) (N := 41) (i := 10) (j := 14) rfl (by decide) rfl (Or.inl wd_623) dX10_feed_49 ?_
      exact S_R_feed_b52
def R_feed (As : List Value) (M : ak_M) : ak_R := match As with
  | [.ref a, .int x0] => R_feed_b0 [some (.ref a), some (.int x0)] [] M
  | _ => none
theorem M_R_feed : ak_Mt yX10_feed cX10_feed 2 (some .int) 1 25 R_feed := by
  refine ak_met (rk := 1) wd_625 (by decide +kernel) rfl (Or.inr (Or.inl ⟨rfl, rfl⟩)) (fun h => absurd h (by decide)) S_R_feed_b0 (fun As M r h => ?_)
  unfold R_feed at h
  split at h
  next => exact ⟨Nat.le_of_ble_eq_true rfl, 0, h⟩
  next => cases h
-- GreetedMirrorsModel.letterAt(I)I
def R_letterAt_b18 : ak_K := k_ri
theorem S_R_letterAt_b18 : ak_S cX10_letterAt RX10 2 1 0 0 (0, fun _ => 0) 18 (R_letterAt_b18) := by
  unfold R_letterAt_b18
  exact s_ri rfl dX10_letterAt_18
def R_letterAt_b0 : ak_K := (k_il 1 (k_al 0 (k_gi 10 14 (k_cmge (k_ci (-1) R_letterAt_b18) (k_al 0 (k_gp 10 13 (k_il 1 (k_ald R_letterAt_b18))))))))
theorem S_R_letterAt_b0 : ak_S cX10_letterAt RX10 2 1 0 0 (0, fun _ => 0) 0 (R_letterAt_b0) := by
  unfold R_letterAt_b0
  refine s_iload_n dX10_letterAt_0 rfl ?_
  refine s_aload_n dX10_letterAt_1 rfl ?_
  refine s_gi (C := RX10) (Tf := TX10) (N := 41) (i := 10) (j := 14) rfl (by decide) rfl (Or.inl wd_623) dX10_letterAt_2 ?_
  refine s_cmge (tgt := 17) dX10_letterAt_5 (by decide) ?_ ?_
  · refine s_iconst (x := (-1)) dX10_letterAt_17 (by decide +kernel) ?_
    exact S_R_letterAt_b18
  · refine s_aload_n dX10_letterAt_8 rfl ?_
    refine s_gp (C := RX10) (Tf := TX10) (N := 41) (i := 10) (j := 13) rfl (by decide) rfl (Or.inl wd_596) dX10_letterAt_9 ?_
    refine s_iload_n dX10_letterAt_12 rfl ?_
    refine s_ald dX10_letterAt_13 ?_
    refine s_goto (tgt := 18) dX10_letterAt_14 (by decide) ?_
    exact S_R_letterAt_b18
def R_letterAt (As : List Value) (M : ak_M) : ak_R := match As with
  | [.ref a, .int x0] => R_letterAt_b0 [some (.ref a), some (.int x0)] [] M
  | _ => none
theorem M_R_letterAt : ak_Mt yX10_letterAt cX10_letterAt 2 (some .int) 0 0 R_letterAt := by
  refine ak_met (rk := 1) wd_626 (by decide +kernel) rfl (Or.inr (Or.inl ⟨rfl, rfl⟩)) (fun h => absurd h (by decide)) S_R_letterAt_b0 (fun As M r h => ?_)
  unfold R_letterAt at h
  split at h
  next => exact ⟨Nat.le_of_ble_eq_true rfl, 0, h⟩
  next => cases h
-- GreetedMirrorsModel.here()I
def R_here_b0 (h0 : ak_K) : ak_K := (k_al 0 (k_al 0 (k_gi 10 15 (k_cv 10 2 R_letterAt (k_ci 32 (k_cmeq (k_al 0 (k_dup (k_gi 10 15 (k_ci 1 (k_b (fun x y => x + y) (k_pi 10 15 h0)))))) (k_al 0 (k_al 0 (k_gi 10 15 (k_pi 10 16 (k_al 0 (k_al 0 (k_gi 10 15 (k_cv 10 2 R_letterAt k_ri))))))))))))))
theorem S_R_here_b0 {h0 : ak_K} (H0 : ak_S cX10_here RX10 1 1 1 21 (0, fun _ => 0) 0 h0) : ak_S cX10_here RX10 1 1 1 21 (0, fun _ => 0) 0 (R_here_b0 h0) := by
  unfold R_here_b0
  refine s_aload_n dX10_here_0 rfl ?_
  refine s_aload_n dX10_here_1 rfl ?_
  refine s_gi (C := RX10) (Tf := TX10) (N := 41) (i := 10) (j := 15) rfl (by decide) rfl (Or.inl wd_627) dX10_here_2 ?_
  refine s_cv (C := RX10) (Tf := TX10) (N := 41) (i := 10) rfl M_R_letterAt dX10_here_5 rfl ⟨by decide +kernel, by decide +kernel, by decide +kernel⟩ (by decide) wd_629 wd_630 wd_610 (Or.inl wd_628) ?_
  refine s_bipush (x := 32) dX10_here_8 (by decide +kernel) ?_
  refine s_cmne (tgt := 26) dX10_here_10 (by decide) ?_ ?_
  · refine s_aload_n dX10_here_13 rfl ?_
    refine s_dup dX10_here_14 ?_
    refine s_gi (C := RX10) (Tf := TX10) (N := 41) (i := 10) (j := 15) rfl (by decide) rfl (Or.inl wd_627) dX10_here_15 ?_
    refine s_iconst (x := 1) dX10_here_18 (by decide +kernel) ?_
    refine s_iadd dX10_here_19 ?_
    refine s_pi (C := RX10) (Tf := TX10) (N := 41) (i := 10) (j := 15) rfl (by decide) rfl (Or.inl ⟨wd_627, Or.inl rfl⟩) dX10_here_20 ?_
    refine s_goto (tgt := 0) dX10_here_23 (by decide) ?_
    exact H0
  · refine s_aload_n dX10_here_26 rfl ?_
    refine s_aload_n dX10_here_27 rfl ?_
    refine s_gi (C := RX10) (Tf := TX10) (N := 41) (i := 10) (j := 15) rfl (by decide) rfl (Or.inl wd_627) dX10_here_28 ?_
    refine s_pi (C := RX10) (Tf := TX10) (N := 41) (i := 10) (j := 16) rfl (by decide) rfl (Or.inl ⟨wd_631, Or.inl rfl⟩) dX10_here_31 ?_
    refine s_aload_n dX10_here_34 rfl ?_
    refine s_aload_n dX10_here_35 rfl ?_
    refine s_gi (C := RX10) (Tf := TX10) (N := 41) (i := 10) (j := 15) rfl (by decide) rfl (Or.inl wd_627) dX10_here_36 ?_
    refine s_cv (C := RX10) (Tf := TX10) (N := 41) (i := 10) rfl M_R_letterAt dX10_here_39 rfl ⟨by decide +kernel, by decide +kernel, by decide +kernel⟩ (by decide) wd_629 wd_630 wd_610 (Or.inl wd_628) ?_
    exact s_ri rfl dX10_here_42
def R_here_l0 : Nat → ak_K
  | 0 => k_no
  | n + 1 => R_here_b0 (R_here_l0 n)
theorem S_R_here_l0 : ∀ n : Nat, ak_S cX10_here RX10 1 1 1 21 (0, fun _ => 0) 0 (R_here_l0 n)
  | 0 => s_no
  | n + 1 => S_R_here_b0 (S_R_here_l0 n)
def R_here (As : List Value) (M : ak_M) : ak_R := match As with
  | [.ref a] => R_here_l0 ak_fuel [some (.ref a)] [] M
  | _ => none
theorem M_R_here : ak_Mt yX10_here cX10_here 1 (some .int) 1 21 R_here := by
  refine ak_met (rk := 1) wd_632 (by decide +kernel) rfl (Or.inr (Or.inl ⟨rfl, rfl⟩)) (fun h => absurd h (by decide)) (S_R_here_l0 ak_fuel) (fun As M r h => ?_)
  unfold R_here at h
  split at h
  next => exact ⟨Nat.le_of_ble_eq_true rfl, 0, h⟩
  next => cases h
-- GreetedMirrorsModel.fails(II)Z
def R_fails_b0 : ak_K := (k_al 0 (k_il 1 (k_pi 10 18 (k_al 0 (k_il 2 (k_pi 10 19 (k_ci 0 k_rz)))))))
theorem S_R_fails_b0 : ak_S cX10_fails RX10 3 2 0 0 (0, fun _ => 0) 0 (R_fails_b0) := by
  unfold R_fails_b0
  refine s_aload_n dX10_fails_0 rfl ?_
  refine s_iload_n dX10_fails_1 rfl ?_
  refine s_pi (C := RX10) (Tf := TX10) (N := 41) (i := 10) (j := 18) rfl (by decide) rfl (Or.inl ⟨wd_633, Or.inl rfl⟩) dX10_fails_2 ?_
  refine s_aload_n dX10_fails_5 rfl ?_
  refine s_iload_n dX10_fails_6 rfl ?_
  refine s_pi (C := RX10) (Tf := TX10) (N := 41) (i := 10) (j := 19) rfl (by decide) rfl (Or.inl ⟨wd_597, Or.inl rfl⟩) dX10_fails_7 ?_
  refine s_iconst (x := 0) dX10_fails_10 (by decide +kernel) ?_
  exact s_rz rfl dX10_fails_11
def R_fails (As : List Value) (M : ak_M) : ak_R := match As with
  | [.ref a, .int x0, .int x1] => R_fails_b0 [some (.ref a), some (.int x0), some (.int x1)] [] M
  | _ => none
theorem M_R_fails : ak_Mt yX10_fails cX10_fails 3 (some .boolean) 0 0 R_fails := by
  refine ak_met (rk := 2) wd_634 (by decide +kernel) rfl (Or.inr (Or.inr (Or.inl ⟨rfl, rfl⟩))) (fun h => absurd h (by decide)) S_R_fails_b0 (fun As M r h => ?_)
  unfold R_fails at h
  split at h
  next => exact ⟨Nat.le_of_ble_eq_true rfl, 0, h⟩
  next => cases h
-- GreetedMirrorsModel.takes(I)Z
def R_takes_b0 : ak_K := (k_al 0 (k_cv 10 1 R_here (k_il 1 (k_cmeq (k_al 0 (k_dup (k_gi 10 15 (k_ci 1 (k_b (fun x y => x + y) (k_pi 10 15 (k_ci 1 k_rz))))))) (k_al 0 (k_ci 1 (k_al 0 (k_gi 10 16 (k_cv 10 3 R_fails k_rz)))))))))
theorem S_R_takes_b0 : ak_S cX10_takes RX10 2 2 2 41 (0, fun _ => 0) 0 (R_takes_b0) := by
  unfold R_takes_b0
  refine s_aload_n dX10_takes_0 rfl ?_
  refine s_cv (C := RX10) (Tf := TX10) (N := 41) (i := 10) rfl M_R_here dX10_takes_1 rfl ⟨by decide +kernel, by decide +kernel, by decide +kernel⟩ (by decide) wd_636 wd_637 wd_610 (Or.inl wd_635) ?_
  refine s_iload_n dX10_takes_4 rfl ?_
  refine s_cmeq (tgt := 18) dX10_takes_5 (by decide) ?_ ?_
  · refine s_aload_n dX10_takes_18 rfl ?_
    refine s_dup dX10_takes_19 ?_
    refine s_gi (C := RX10) (Tf := TX10) (N := 41) (i := 10) (j := 15) rfl (by decide) rfl (Or.inl wd_627) dX10_takes_20 ?_
    refine s_iconst (x := 1) dX10_takes_23 (by decide +kernel) ?_
    refine s_iadd dX10_takes_24 ?_
    refine s_pi (C := RX10) (Tf := TX10) (N := 41) (i := 10) (j := 15) rfl (by decide) rfl (Or.inl ⟨wd_627, Or.inl rfl⟩) dX10_takes_25 ?_
    refine s_iconst (x := 1) dX10_takes_28 (by decide +kernel) ?_
    exact s_rz rfl dX10_takes_29
  · refine s_aload_n dX10_takes_8 rfl ?_
    refine s_iconst (x := 1) dX10_takes_9 (by decide +kernel) ?_
    refine s_aload_n dX10_takes_10 rfl ?_
    refine s_gi (C := RX10) (Tf := TX10) (N := 41) (i := 10) (j := 16) rfl (by decide) rfl (Or.inl wd_631) dX10_takes_11 ?_
    refine s_cv (C := RX10) (Tf := TX10) (N := 41) (i := 10) rfl M_R_fails dX10_takes_14 rfl ⟨by decide +kernel, by decide +kernel, by decide +kernel⟩ (by decide) wd_639 wd_640 wd_610 (Or.inl wd_638) ?_
    exact s_rz rfl dX10_takes_17
def R_takes (As : List Value) (M : ak_M) : ak_R := match As with
  | [.ref a, .int x0] => R_takes_b0 [some (.ref a), some (.int x0)] [] M
  | _ => none
theorem M_R_takes : ak_Mt yX10_takes cX10_takes 2 (some .boolean) 2 41 R_takes := by
  refine ak_met (rk := 2) wd_641 (by decide +kernel) rfl (Or.inr (Or.inr (Or.inl ⟨rfl, rfl⟩))) (fun h => absurd h (by decide)) S_R_takes_b0 (fun As M r h => ?_)
  unfold R_takes at h
  split at h
  next => exact ⟨Nat.le_of_ble_eq_true rfl, 0, h⟩
  next => cases h
-- GreetedMirrorsModel.takesNumber(II)Z
def R_takesNumber_b154 : ak_K := k_rz
theorem S_R_takesNumber_b154 : ak_S cX10_takesNumber RX10 3 2 2 41 (0, fun _ => 0) 154 (R_takesNumber_b154) := by
  unfold R_takesNumber_b154
  exact s_rz rfl dX10_takesNumber_154
def R_takesNumber_b149 : ak_K := (k_ci 1 R_takesNumber_b154)
theorem S_R_takesNumber_b149 : ak_S cX10_takesNumber RX10 3 2 2 41 (0, fun _ => 0) 149 (R_takesNumber_b149) := by
  unfold R_takesNumber_b149
  refine s_iconst (x := 1) dX10_takesNumber_149 (by decide +kernel) ?_
  refine s_goto (tgt := 154) dX10_takesNumber_150 (by decide) ?_
  exact S_R_takesNumber_b154
def R_takesNumber_b137 : ak_K := (k_al 0 (k_ci 2 (k_al 0 (k_gi 10 16 (k_cv 10 3 R_fails (k_ifeq (k_ci 0 R_takesNumber_b154) R_takesNumber_b149))))))
theorem S_R_takesNumber_b137 : ak_S cX10_takesNumber RX10 3 2 2 41 (0, fun _ => 0) 137 (R_takesNumber_b137) := by
  unfold R_takesNumber_b137
  refine s_aload_n dX10_takesNumber_137 rfl ?_
  refine s_iconst (x := 2) dX10_takesNumber_138 (by decide +kernel) ?_
  refine s_aload_n dX10_takesNumber_139 rfl ?_
  refine s_gi (C := RX10) (Tf := TX10) (N := 41) (i := 10) (j := 16) rfl (by decide) rfl (Or.inl wd_631) dX10_takesNumber_140 ?_
  refine s_cv (C := RX10) (Tf := TX10) (N := 41) (i := 10) rfl M_R_fails dX10_takesNumber_143 rfl ⟨by decide +kernel, by decide +kernel, by decide +kernel⟩ (by decide) wd_639 wd_640 wd_610 (Or.inl wd_638) ?_
  refine s_ifeq (tgt := 153) dX10_takesNumber_146 (by decide) ?_ ?_
  · refine s_iconst (x := 0) dX10_takesNumber_153 (by decide +kernel) ?_
    exact S_R_takesNumber_b154
  · exact S_R_takesNumber_b149
def R_takesNumber_b134 : ak_K := (k_ifeq R_takesNumber_b137 R_takesNumber_b149)
theorem S_R_takesNumber_b134 : ak_S cX10_takesNumber RX10 3 2 2 41 (0, fun _ => 0) 134 (R_takesNumber_b134) := by
  unfold R_takesNumber_b134
  refine s_ifne (tgt := 149) dX10_takesNumber_134 (by decide) ?_ ?_
  · exact S_R_takesNumber_b137
  · exact S_R_takesNumber_b149
def R_takesNumber_b93 (h32 : ak_K) : ak_K := (k_pi 10 17 (k_al 0 (k_dup (k_gi 10 15 (k_ci 1 (k_b (fun x y => x + y) (k_pi 10 15 h32)))))))
theorem S_R_takesNumber_b93 {h32 : ak_K} (H32 : ak_S cX10_takesNumber RX10 3 2 2 41 (0, fun _ => 0) 32 h32) : ak_S cX10_takesNumber RX10 3 2 2 41 (0, fun _ => 0) 93 (R_takesNumber_b93 h32) := by
  unfold R_takesNumber_b93
  refine s_pi (C := RX10) (Tf := TX10) (N := 41) (i := 10) (j := 17) rfl (by decide) rfl (Or.inl ⟨wd_642, Or.inl rfl⟩) dX10_takesNumber_93 ?_
  refine s_aload_n dX10_takesNumber_96 rfl ?_
  refine s_dup dX10_takesNumber_97 ?_
  refine s_gi (C := RX10) (Tf := TX10) (N := 41) (i := 10) (j := 15) rfl (by decide) rfl (Or.inl wd_627) dX10_takesNumber_98 ?_
  refine s_iconst (x := 1) dX10_takesNumber_101 (by decide +kernel) ?_
  refine s_iadd dX10_takesNumber_102 ?_
  refine s_pi (C := RX10) (Tf := TX10) (N := 41) (i := 10) (j := 15) rfl (by decide) rfl (Or.inl ⟨wd_627, Or.inl rfl⟩) dX10_takesNumber_103 ?_
  refine s_goto (tgt := 32) dX10_takesNumber_106 (by decide) ?_
  exact H32
def R_takesNumber_b79 (h32 : ak_K) : ak_K := (k_cv 10 2 R_letterAt (k_b (fun x y => x + y) (k_ci 48 (k_b (fun x y => x - y) (R_takesNumber_b93 h32)))))
theorem S_R_takesNumber_b79 {h32 : ak_K} (H32 : ak_S cX10_takesNumber RX10 3 2 2 41 (0, fun _ => 0) 32 h32) : ak_S cX10_takesNumber RX10 3 2 2 41 (0, fun _ => 0) 79 (R_takesNumber_b79 h32) := by
  unfold R_takesNumber_b79
  refine s_cv (C := RX10) (Tf := TX10) (N := 41) (i := 10) rfl M_R_letterAt dX10_takesNumber_79 rfl ⟨by decide +kernel, by decide +kernel, by decide +kernel⟩ (by decide) wd_629 wd_630 wd_610 (Or.inl wd_628) ?_
  refine s_iadd dX10_takesNumber_82 ?_
  refine s_bipush (x := 48) dX10_takesNumber_83 (by decide +kernel) ?_
  refine s_isub dX10_takesNumber_85 ?_
  refine s_goto (tgt := 93) dX10_takesNumber_86 (by decide) ?_
  exact (S_R_takesNumber_b93 H32)
def R_takesNumber_b32 (h32 : ak_K) : ak_K := (k_al 0 (k_al 0 (k_gi 10 15 (k_cv 10 2 R_letterAt (k_i2l (k_cl 48 (k_cl 57 (k_cs 3 R_in (k_ifeq (k_al 0 (k_gi 10 15 (k_al 0 (k_gi 10 16 (k_b (fun x y => x - y) (k_ci 5 (k_cmge R_takesNumber_b137 (k_al 0 (k_gi 10 17 (k_i2l (k_il 1 (k_i2l (k_il 2 (k_i2l (k_cs 3 R_in R_takesNumber_b134))))))))))))))) (k_al 0 (k_al 0 (k_gi 10 15 (k_al 0 (k_gi 10 16 (k_b (fun x y => x - y) (k_ci 4 (k_cmge (k_al 0 (k_gi 10 17 (R_takesNumber_b93 h32))) (k_ci 10 (k_al 0 (k_gi 10 17 (k_b (fun x y => x * y) (k_al 0 (k_al 0 (k_gi 10 15 (R_takesNumber_b79 h32)))))))))))))))))))))))))
theorem S_R_takesNumber_b32 {h32 : ak_K} (H32 : ak_S cX10_takesNumber RX10 3 2 2 41 (0, fun _ => 0) 32 h32) : ak_S cX10_takesNumber RX10 3 2 2 41 (0, fun _ => 0) 32 (R_takesNumber_b32 h32) := by
  unfold R_takesNumber_b32
  refine s_aload_n dX10_takesNumber_32 rfl ?_
  refine s_aload_n dX10_takesNumber_33 rfl ?_
  refine s_gi (C := RX10) (Tf := TX10) (N := 41) (i := 10) (j := 15) rfl (by decide) rfl (Or.inl wd_627) dX10_takesNumber_34 ?_
  refine s_cv (C := RX10) (Tf := TX10) (N := 41) (i := 10) rfl M_R_letterAt dX10_takesNumber_37 rfl ⟨by decide +kernel, by decide +kernel, by decide +kernel⟩ (by decide) wd_629 wd_630 wd_610 (Or.inl wd_628) ?_
  refine s_i2l dX10_takesNumber_40 ?_
  refine s_ldc2 (x := 48) dX10_takesNumber_41 wd_643 ?_
  refine s_ldc2 (x := 57) dX10_takesNumber_44 wd_644 ?_
  refine s_cs M_R_in dX10_takesNumber_47 ⟨by decide +kernel, by decide +kernel, by decide +kernel⟩ (by decide) wd_611 wd_610 (Or.inl ⟨wd_609, rfl⟩) ?_
  refine s_ifeq (tgt := 109) dX10_takesNumber_50 (by decide) ?_ ?_
  · refine s_aload_n dX10_takesNumber_109 rfl ?_
    refine s_gi (C := RX10) (Tf := TX10) (N := 41) (i := 10) (j := 15) rfl (by decide) rfl (Or.inl wd_627) dX10_takesNumber_110 ?_
    refine s_aload_n dX10_takesNumber_113 rfl ?_
    refine s_gi (C := RX10) (Tf := TX10) (N := 41) (i := 10) (j := 16) rfl (by decide) rfl (Or.inl wd_631) dX10_takesNumber_114 ?_
    refine s_isub dX10_takesNumber_117 ?_
    refine s_iconst (x := 5) dX10_takesNumber_118 (by decide +kernel) ?_
    refine s_cmge (tgt := 137) dX10_takesNumber_119 (by decide) ?_ ?_
    · exact S_R_takesNumber_b137
    · refine s_aload_n dX10_takesNumber_122 rfl ?_
      refine s_gi (C := RX10) (Tf := TX10) (N := 41) (i := 10) (j := 17) rfl (by decide) rfl (Or.inl wd_642) dX10_takesNumber_123 ?_
      refine s_i2l dX10_takesNumber_126 ?_
      refine s_iload_n dX10_takesNumber_127 rfl ?_
      refine s_i2l dX10_takesNumber_128 ?_
      refine s_iload_n dX10_takesNumber_129 rfl ?_
      refine s_i2l dX10_takesNumber_130 ?_
      refine s_cs M_R_in dX10_takesNumber_131 ⟨by decide +kernel, by decide +kernel, by decide +kernel⟩ (by decide) wd_611 wd_610 (Or.inl ⟨wd_609, rfl⟩) ?_
      exact S_R_takesNumber_b134
  · refine s_aload_n dX10_takesNumber_53 rfl ?_
    refine s_aload_n dX10_takesNumber_54 rfl ?_
    refine s_gi (C := RX10) (Tf := TX10) (N := 41) (i := 10) (j := 15) rfl (by decide) rfl (Or.inl wd_627) dX10_takesNumber_55 ?_
    refine s_aload_n dX10_takesNumber_58 rfl ?_
    refine s_gi (C := RX10) (Tf := TX10) (N := 41) (i := 10) (j := 16) rfl (by decide) rfl (Or.inl wd_631) dX10_takesNumber_59 ?_
    refine s_isub dX10_takesNumber_62 ?_
    refine s_iconst (x := 4) dX10_takesNumber_63 (by decide +kernel) ?_
    refine s_cmge (tgt := 89) dX10_takesNumber_64 (by decide) ?_ ?_
    · refine s_aload_n dX10_takesNumber_89 rfl ?_
      refine s_gi (C := RX10) (Tf := TX10) (N := 41) (i := 10) (j := 17) rfl (by decide) rfl (Or.inl wd_642) dX10_takesNumber_90 ?_
      exact (S_R_takesNumber_b93 H32)
    · refine s_bipush (x := 10) dX10_takesNumber_67 (by decide +kernel) ?_
      refine s_aload_n dX10_takesNumber_69 rfl ?_
      refine s_gi (C := RX10) (Tf := TX10) (N := 41) (i := 10) (j := 17) rfl (by decide) rfl (Or.inl wd_642) dX10_takesNumber_70 ?_
      refine s_imul dX10_takesNumber_73 ?_
      refine s_aload_n dX10_takesNumber_74 rfl ?_
      refine s_aload_n dX10_takesNumber_75 rfl ?_
      refine s_gi (C := RX10) (Tf := TX10) (N := 41) (i := 10) (j := 15) rfl (by decide) rfl (Or.inl wd_627) dX10_takesNumber_76 ?_
      exact (S_R_takesNumber_b79 H32)
def R_takesNumber_l32 : Nat → ak_K
  | 0 => k_no
  | n + 1 => R_takesNumber_b32 (R_takesNumber_l32 n)
theorem S_R_takesNumber_l32 : ∀ n : Nat, ak_S cX10_takesNumber RX10 3 2 2 41 (0, fun _ => 0) 32 (R_takesNumber_l32 n)
  | 0 => s_no
  | n + 1 => S_R_takesNumber_b32 (S_R_takesNumber_l32 n)
def R_takesNumber_b0 : ak_K := (k_al 0 (k_cv 10 1 R_here (k_i2l (k_cl 48 (k_cl 57 (k_cs 3 R_in (k_ifeq (k_al 0 (k_ci 1 (k_al 0 (k_gi 10 16 (k_cv 10 3 R_fails k_rz))))) (k_al 0 (k_ci 0 (k_pi 10 17 (R_takesNumber_l32 ak_fuel)))))))))))
theorem S_R_takesNumber_b0 : ak_S cX10_takesNumber RX10 3 2 2 41 (0, fun _ => 0) 0 (R_takesNumber_b0) := by
  unfold R_takesNumber_b0
  refine s_aload_n dX10_takesNumber_0 rfl ?_
  refine s_cv (C := RX10) (Tf := TX10) (N := 41) (i := 10) rfl M_R_here dX10_takesNumber_1 rfl ⟨by decide +kernel, by decide +kernel, by decide +kernel⟩ (by decide) wd_636 wd_637 wd_610 (Or.inl wd_635) ?_
  refine s_i2l dX10_takesNumber_4 ?_
  refine s_ldc2 (x := 48) dX10_takesNumber_5 wd_643 ?_
  refine s_ldc2 (x := 57) dX10_takesNumber_8 wd_644 ?_
  refine s_cs M_R_in dX10_takesNumber_11 ⟨by decide +kernel, by decide +kernel, by decide +kernel⟩ (by decide) wd_611 wd_610 (Or.inl ⟨wd_609, rfl⟩) ?_
  refine s_ifne (tgt := 27) dX10_takesNumber_14 (by decide) ?_ ?_
  · refine s_aload_n dX10_takesNumber_17 rfl ?_
    refine s_iconst (x := 1) dX10_takesNumber_18 (by decide +kernel) ?_
    refine s_aload_n dX10_takesNumber_19 rfl ?_
    refine s_gi (C := RX10) (Tf := TX10) (N := 41) (i := 10) (j := 16) rfl (by decide) rfl (Or.inl wd_631) dX10_takesNumber_20 ?_
    refine s_cv (C := RX10) (Tf := TX10) (N := 41) (i := 10) rfl M_R_fails dX10_takesNumber_23 rfl ⟨by decide +kernel, by decide +kernel, by decide +kernel⟩ (by decide) wd_639 wd_640 wd_610 (Or.inl wd_638) ?_
    exact s_rz rfl dX10_takesNumber_26
  · refine s_aload_n dX10_takesNumber_27 rfl ?_
    refine s_iconst (x := 0) dX10_takesNumber_28 (by decide +kernel) ?_
    refine s_pi (C := RX10) (Tf := TX10) (N := 41) (i := 10) (j := 17) rfl (by decide) rfl (Or.inl ⟨wd_642, Or.inl rfl⟩) dX10_takesNumber_29 ?_
    exact (S_R_takesNumber_l32 ak_fuel)
def R_takesNumber (As : List Value) (M : ak_M) : ak_R := match As with
  | [.ref a, .int x0, .int x1] => R_takesNumber_b0 [some (.ref a), some (.int x0), some (.int x1)] [] M
  | _ => none
theorem M_R_takesNumber : ak_Mt yX10_takesNumber cX10_takesNumber 3 (some .boolean) 2 41 R_takesNumber := by
  refine ak_met (rk := 2) wd_645 (by decide +kernel) rfl (Or.inr (Or.inr (Or.inl ⟨rfl, rfl⟩))) (fun h => absurd h (by decide)) S_R_takesNumber_b0 (fun As M r h => ?_)
  unfold R_takesNumber at h
  split at h
  next => exact ⟨Nat.le_of_ble_eq_true rfl, 0, h⟩
  next => cases h
-- GreetedMirrorsModel.takesHouse()Z
def R_takesHouse_b0 : ak_K := (k_al 0 (k_ci 1 (k_ci 7 (k_cv 10 3 R_takesNumber (k_ifeq (k_ci 0 k_rz) (k_al 0 (k_al 0 (k_gi 10 17 (k_pi 10 20 (k_al 0 (k_ci 0 (k_ci 1023 (k_cv 10 3 R_takesNumber (k_ifeq (k_ci 0 k_rz) (k_al 0 (k_al 0 (k_gi 10 17 (k_pi 10 21 (k_ci 1 k_rz)))))))))))))))))))
theorem S_R_takesHouse_b0 : ak_S cX10_takesHouse RX10 1 2 3 63 (0, fun _ => 0) 0 (R_takesHouse_b0) := by
  unfold R_takesHouse_b0
  refine s_aload_n dX10_takesHouse_0 rfl ?_
  refine s_iconst (x := 1) dX10_takesHouse_1 (by decide +kernel) ?_
  refine s_bipush (x := 7) dX10_takesHouse_2 (by decide +kernel) ?_
  refine s_cv (C := RX10) (Tf := TX10) (N := 41) (i := 10) rfl M_R_takesNumber dX10_takesHouse_4 rfl ⟨by decide +kernel, by decide +kernel, by decide +kernel⟩ (by decide) wd_647 wd_648 wd_610 (Or.inl wd_646) ?_
  refine s_ifne (tgt := 12) dX10_takesHouse_7 (by decide) ?_ ?_
  · refine s_iconst (x := 0) dX10_takesHouse_10 (by decide +kernel) ?_
    exact s_rz rfl dX10_takesHouse_11
  · refine s_aload_n dX10_takesHouse_12 rfl ?_
    refine s_aload_n dX10_takesHouse_13 rfl ?_
    refine s_gi (C := RX10) (Tf := TX10) (N := 41) (i := 10) (j := 17) rfl (by decide) rfl (Or.inl wd_642) dX10_takesHouse_14 ?_
    refine s_pi (C := RX10) (Tf := TX10) (N := 41) (i := 10) (j := 20) rfl (by decide) rfl (Or.inl ⟨wd_649, Or.inl rfl⟩) dX10_takesHouse_17 ?_
    refine s_aload_n dX10_takesHouse_20 rfl ?_
    refine s_iconst (x := 0) dX10_takesHouse_21 (by decide +kernel) ?_
    refine s_sipush (x := 1023) dX10_takesHouse_22 (by decide +kernel) ?_
    refine s_cv (C := RX10) (Tf := TX10) (N := 41) (i := 10) rfl M_R_takesNumber dX10_takesHouse_25 rfl ⟨by decide +kernel, by decide +kernel, by decide +kernel⟩ (by decide) wd_647 wd_648 wd_610 (Or.inl wd_646) ?_
    refine s_ifne (tgt := 33) dX10_takesHouse_28 (by decide) ?_ ?_
    · refine s_iconst (x := 0) dX10_takesHouse_31 (by decide +kernel) ?_
      exact s_rz rfl dX10_takesHouse_32
    · refine s_aload_n dX10_takesHouse_33 rfl ?_
      refine s_aload_n dX10_takesHouse_34 rfl ?_
      refine s_gi (C := RX10) (Tf := TX10) (N := 41) (i := 10) (j := 17) rfl (by decide) rfl (Or.inl wd_642) dX10_takesHouse_35 ?_
      refine s_pi (C := RX10) (Tf := TX10) (N := 41) (i := 10) (j := 21) rfl (by decide) rfl (Or.inl ⟨wd_650, Or.inl rfl⟩) dX10_takesHouse_38 ?_
      refine s_iconst (x := 1) dX10_takesHouse_41 (by decide +kernel) ?_
      exact s_rz rfl dX10_takesHouse_42
def R_takesHouse (As : List Value) (M : ak_M) : ak_R := match As with
  | [.ref a] => R_takesHouse_b0 [some (.ref a)] [] M
  | _ => none
theorem M_R_takesHouse : ak_Mt yX10_takesHouse cX10_takesHouse 1 (some .boolean) 3 63 R_takesHouse := by
  refine ak_met (rk := 2) wd_651 (by decide +kernel) rfl (Or.inr (Or.inr (Or.inl ⟨rfl, rfl⟩))) (fun h => absurd h (by decide)) S_R_takesHouse_b0 (fun As M r h => ?_)
  unfold R_takesHouse at h
  split at h
  next => exact ⟨Nat.le_of_ble_eq_true rfl, 0, h⟩
  next => cases h
-- GreetedMirrorsModel.takesDoor()Z
def R_takesDoor_b167 : ak_K := (k_pi 10 22 (k_ci 1 k_rz))
theorem S_R_takesDoor_b167 : ak_S cX10_takesDoor RX10 4 2 3 63 (0, fun _ => 0) 167 (R_takesDoor_b167) := by
  unfold R_takesDoor_b167
  refine s_pi (C := RX10) (Tf := TX10) (N := 41) (i := 10) (j := 22) rfl (by decide) rfl (Or.inl ⟨wd_652, Or.inl rfl⟩) dX10_takesDoor_167 ?_
  refine s_iconst (x := 1) dX10_takesDoor_170 (by decide +kernel) ?_
  exact s_rz rfl dX10_takesDoor_171
def R_takesDoor_b116 (h53 : ak_K) : ak_K := (k_is 2 (k_ii 3 1 h53))
theorem S_R_takesDoor_b116 {h53 : ak_K} (H53 : ak_S cX10_takesDoor RX10 4 2 3 63 (0, fun _ => 0) 53 h53) : ak_S cX10_takesDoor RX10 4 2 3 63 (0, fun _ => 0) 116 (R_takesDoor_b116 h53) := by
  unfold R_takesDoor_b116
  refine s_istore_n dX10_takesDoor_116 rfl (by decide) ?_
  refine s_iinc (y := 1) dX10_takesDoor_117 (by decide +kernel) (by decide) ?_
  refine s_goto (tgt := 53) dX10_takesDoor_120 (by decide) ?_
  exact H53
def R_takesDoor_b111 (h53 : ak_K) : ak_K := (k_ci 1 (R_takesDoor_b116 h53))
theorem S_R_takesDoor_b111 {h53 : ak_K} (H53 : ak_S cX10_takesDoor RX10 4 2 3 63 (0, fun _ => 0) 53 h53) : ak_S cX10_takesDoor RX10 4 2 3 63 (0, fun _ => 0) 111 (R_takesDoor_b111 h53) := by
  unfold R_takesDoor_b111
  refine s_iconst (x := 1) dX10_takesDoor_111 (by decide +kernel) ?_
  refine s_goto (tgt := 116) dX10_takesDoor_112 (by decide) ?_
  exact (S_R_takesDoor_b116 H53)
def R_takesDoor_b115 (h53 : ak_K) : ak_K := (k_ci 0 (R_takesDoor_b116 h53))
theorem S_R_takesDoor_b115 {h53 : ak_K} (H53 : ak_S cX10_takesDoor RX10 4 2 3 63 (0, fun _ => 0) 53 h53) : ak_S cX10_takesDoor RX10 4 2 3 63 (0, fun _ => 0) 115 (R_takesDoor_b115 h53) := by
  unfold R_takesDoor_b115
  refine s_iconst (x := 0) dX10_takesDoor_115 (by decide +kernel) ?_
  exact (S_R_takesDoor_b116 H53)
def R_takesDoor_b88 (h53 : ak_K) : ak_K := (k_al 0 (k_gp 10 25 (k_il 3 (k_ald (k_al 0 (k_gi 10 17 (k_cmeq (k_al 0 (k_gp 10 26 (k_il 3 (k_ald (k_il 1 (k_cmeq (R_takesDoor_b111 h53) (R_takesDoor_b115 h53))))))) (R_takesDoor_b115 h53))))))))
theorem S_R_takesDoor_b88 {h53 : ak_K} (H53 : ak_S cX10_takesDoor RX10 4 2 3 63 (0, fun _ => 0) 53 h53) : ak_S cX10_takesDoor RX10 4 2 3 63 (0, fun _ => 0) 88 (R_takesDoor_b88 h53) := by
  unfold R_takesDoor_b88
  refine s_aload_n dX10_takesDoor_88 rfl ?_
  refine s_gp (C := RX10) (Tf := TX10) (N := 41) (i := 10) (j := 25) rfl (by decide) rfl (Or.inl wd_598) dX10_takesDoor_89 ?_
  refine s_iload_n dX10_takesDoor_92 rfl ?_
  refine s_ald dX10_takesDoor_93 ?_
  refine s_aload_n dX10_takesDoor_94 rfl ?_
  refine s_gi (C := RX10) (Tf := TX10) (N := 41) (i := 10) (j := 17) rfl (by decide) rfl (Or.inl wd_642) dX10_takesDoor_95 ?_
  refine s_cmne (tgt := 115) dX10_takesDoor_98 (by decide) ?_ ?_
  · refine s_aload_n dX10_takesDoor_101 rfl ?_
    refine s_gp (C := RX10) (Tf := TX10) (N := 41) (i := 10) (j := 26) rfl (by decide) rfl (Or.inl wd_587) dX10_takesDoor_102 ?_
    refine s_iload_n dX10_takesDoor_105 rfl ?_
    refine s_ald dX10_takesDoor_106 ?_
    refine s_iload_n dX10_takesDoor_107 rfl ?_
    refine s_cmne (tgt := 115) dX10_takesDoor_108 (by decide) ?_ ?_
    · exact (S_R_takesDoor_b111 H53)
    · exact (S_R_takesDoor_b115 H53)
  · exact (S_R_takesDoor_b115 H53)
def R_takesDoor_b53 (h53 : ak_K) : ak_K := (k_il 3 (k_al 0 (k_gi 10 22 (k_cmge (k_il 2 (k_ifeq (k_al 0 (k_gp 10 25 (k_al 0 (k_gi 10 22 (k_il 1 (k_ast (k_al 0 (k_gp 10 26 (k_al 0 (k_gi 10 22 (k_al 0 (k_gi 10 17 (k_ast (k_al 0 (k_dup (k_gi 10 22 (k_ci 1 (k_b (fun x y => x + y) R_takesDoor_b167)))))))))))))))))) (k_al 0 (k_ci 4 (k_al 0 (k_gi 10 16 (k_cv 10 3 R_fails k_rz))))))) (k_il 2 (k_ifeq (k_al 0 (k_gp 10 25 (k_il 3 (k_ald (k_il 1 (k_cmeq (k_al 0 (k_gp 10 26 (k_il 3 (k_ald (k_al 0 (k_gi 10 17 (k_cmeq (R_takesDoor_b111 h53) (R_takesDoor_b88 h53)))))))) (R_takesDoor_b88 h53))))))) (R_takesDoor_b111 h53)))))))
theorem S_R_takesDoor_b53 {h53 : ak_K} (H53 : ak_S cX10_takesDoor RX10 4 2 3 63 (0, fun _ => 0) 53 h53) : ak_S cX10_takesDoor RX10 4 2 3 63 (0, fun _ => 0) 53 (R_takesDoor_b53 h53) := by
  unfold R_takesDoor_b53
  refine s_iload_n dX10_takesDoor_53 rfl ?_
  refine s_aload_n dX10_takesDoor_54 rfl ?_
  refine s_gi (C := RX10) (Tf := TX10) (N := 41) (i := 10) (j := 22) rfl (by decide) rfl (Or.inl wd_652) dX10_takesDoor_55 ?_
  refine s_cmge (tgt := 123) dX10_takesDoor_58 (by decide) ?_ ?_
  · refine s_iload_n dX10_takesDoor_123 rfl ?_
    refine s_ifeq (tgt := 137) dX10_takesDoor_124 (by decide) ?_ ?_
    · refine s_aload_n dX10_takesDoor_137 rfl ?_
      refine s_gp (C := RX10) (Tf := TX10) (N := 41) (i := 10) (j := 25) rfl (by decide) rfl (Or.inl wd_598) dX10_takesDoor_138 ?_
      refine s_aload_n dX10_takesDoor_141 rfl ?_
      refine s_gi (C := RX10) (Tf := TX10) (N := 41) (i := 10) (j := 22) rfl (by decide) rfl (Or.inl wd_652) dX10_takesDoor_142 ?_
      refine s_iload_n dX10_takesDoor_145 rfl ?_
      refine s_ast dX10_takesDoor_146 ?_
      refine s_aload_n dX10_takesDoor_147 rfl ?_
      refine s_gp (C := RX10) (Tf := TX10) (N := 41) (i := 10) (j := 26) rfl (by decide) rfl (Or.inl wd_587) dX10_takesDoor_148 ?_
      refine s_aload_n dX10_takesDoor_151 rfl ?_
      refine s_gi (C := RX10) (Tf := TX10) (N := 41) (i := 10) (j := 22) rfl (by decide) rfl (Or.inl wd_652) dX10_takesDoor_152 ?_
      refine s_aload_n dX10_takesDoor_155 rfl ?_
      refine s_gi (C := RX10) (Tf := TX10) (N := 41) (i := 10) (j := 17) rfl (by decide) rfl (Or.inl wd_642) dX10_takesDoor_156 ?_
      refine s_ast dX10_takesDoor_159 ?_
      refine s_aload_n dX10_takesDoor_160 rfl ?_
      refine s_dup dX10_takesDoor_161 ?_
      refine s_gi (C := RX10) (Tf := TX10) (N := 41) (i := 10) (j := 22) rfl (by decide) rfl (Or.inl wd_652) dX10_takesDoor_162 ?_
      refine s_iconst (x := 1) dX10_takesDoor_165 (by decide +kernel) ?_
      refine s_iadd dX10_takesDoor_166 ?_
      exact S_R_takesDoor_b167
    · refine s_aload_n dX10_takesDoor_127 rfl ?_
      refine s_iconst (x := 4) dX10_takesDoor_128 (by decide +kernel) ?_
      refine s_aload_n dX10_takesDoor_129 rfl ?_
      refine s_gi (C := RX10) (Tf := TX10) (N := 41) (i := 10) (j := 16) rfl (by decide) rfl (Or.inl wd_631) dX10_takesDoor_130 ?_
      refine s_cv (C := RX10) (Tf := TX10) (N := 41) (i := 10) rfl M_R_fails dX10_takesDoor_133 rfl ⟨by decide +kernel, by decide +kernel, by decide +kernel⟩ (by decide) wd_639 wd_640 wd_610 (Or.inl wd_638) ?_
      exact s_rz rfl dX10_takesDoor_136
  · refine s_iload_n dX10_takesDoor_61 rfl ?_
    refine s_ifne (tgt := 111) dX10_takesDoor_62 (by decide) ?_ ?_
    · refine s_aload_n dX10_takesDoor_65 rfl ?_
      refine s_gp (C := RX10) (Tf := TX10) (N := 41) (i := 10) (j := 25) rfl (by decide) rfl (Or.inl wd_598) dX10_takesDoor_66 ?_
      refine s_iload_n dX10_takesDoor_69 rfl ?_
      refine s_ald dX10_takesDoor_70 ?_
      refine s_iload_n dX10_takesDoor_71 rfl ?_
      refine s_cmne (tgt := 88) dX10_takesDoor_72 (by decide) ?_ ?_
      · refine s_aload_n dX10_takesDoor_75 rfl ?_
        refine s_gp (C := RX10) (Tf := TX10) (N := 41) (i := 10) (j := 26) rfl (by decide) rfl (Or.inl wd_587) dX10_takesDoor_76 ?_
        refine s_iload_n dX10_takesDoor_79 rfl ?_
        refine s_ald dX10_takesDoor_80 ?_
        refine s_aload_n dX10_takesDoor_81 rfl ?_
        refine s_gi (C := RX10) (Tf := TX10) (N := 41) (i := 10) (j := 17) rfl (by decide) rfl (Or.inl wd_642) dX10_takesDoor_82 ?_
        refine s_cmeq (tgt := 111) dX10_takesDoor_85 (by decide) ?_ ?_
        · exact (S_R_takesDoor_b111 H53)
        · exact (S_R_takesDoor_b88 H53)
      · exact (S_R_takesDoor_b88 H53)
    · exact (S_R_takesDoor_b111 H53)
def R_takesDoor_l53 : Nat → ak_K
  | 0 => k_no
  | n + 1 => R_takesDoor_b53 (R_takesDoor_l53 n)
theorem S_R_takesDoor_l53 : ∀ n : Nat, ak_S cX10_takesDoor RX10 4 2 3 63 (0, fun _ => 0) 53 (R_takesDoor_l53 n)
  | 0 => s_no
  | n + 1 => S_R_takesDoor_b53 (S_R_takesDoor_l53 n)
def R_takesDoor_b50 : ak_K := (k_is 2 (k_ci 0 (k_is 3 (R_takesDoor_l53 ak_fuel))))
theorem S_R_takesDoor_b50 : ak_S cX10_takesDoor RX10 4 2 3 63 (0, fun _ => 0) 50 (R_takesDoor_b50) := by
  unfold R_takesDoor_b50
  refine s_istore_n dX10_takesDoor_50 rfl (by decide) ?_
  refine s_iconst (x := 0) dX10_takesDoor_51 (by decide +kernel) ?_
  refine s_istore_n dX10_takesDoor_52 rfl (by decide) ?_
  exact (S_R_takesDoor_l53 ak_fuel)
def R_takesDoor_b0 : ak_K := (k_al 0 (k_ci 0 (k_al 0 (k_gi 10 20 (k_ci 1 (k_b (fun x y => x - y) (k_cv 10 3 R_takesNumber (k_ifeq (k_ci 0 k_rz) (k_al 0 (k_gi 10 17 (k_is 1 (k_al 0 (k_ci 0 (k_al 0 (k_gi 10 20 (k_ci 1 (k_b (fun x y => x - y) (k_cv 10 3 R_takesNumber (k_ifeq (k_ci 0 k_rz) (k_al 0 (k_gi 10 17 (k_il 1 (k_cmeq (k_ci 1 R_takesDoor_b50) (k_ci 0 R_takesDoor_b50))))))))))))))))))))))))
theorem S_R_takesDoor_b0 : ak_S cX10_takesDoor RX10 4 2 3 63 (0, fun _ => 0) 0 (R_takesDoor_b0) := by
  unfold R_takesDoor_b0
  refine s_aload_n dX10_takesDoor_0 rfl ?_
  refine s_iconst (x := 0) dX10_takesDoor_1 (by decide +kernel) ?_
  refine s_aload_n dX10_takesDoor_2 rfl ?_
  refine s_gi (C := RX10) (Tf := TX10) (N := 41) (i := 10) (j := 20) rfl (by decide) rfl (Or.inl wd_649) dX10_takesDoor_3 ?_
  refine s_iconst (x := 1) dX10_takesDoor_6 (by decide +kernel) ?_
  refine s_isub dX10_takesDoor_7 ?_
  refine s_cv (C := RX10) (Tf := TX10) (N := 41) (i := 10) rfl M_R_takesNumber dX10_takesDoor_8 rfl ⟨by decide +kernel, by decide +kernel, by decide +kernel⟩ (by decide) wd_647 wd_648 wd_610 (Or.inl wd_646) ?_
  refine s_ifne (tgt := 16) dX10_takesDoor_11 (by decide) ?_ ?_
  · refine s_iconst (x := 0) dX10_takesDoor_14 (by decide +kernel) ?_
    exact s_rz rfl dX10_takesDoor_15
  · refine s_aload_n dX10_takesDoor_16 rfl ?_
    refine s_gi (C := RX10) (Tf := TX10) (N := 41) (i := 10) (j := 17) rfl (by decide) rfl (Or.inl wd_642) dX10_takesDoor_17 ?_
    refine s_istore_n dX10_takesDoor_20 rfl (by decide) ?_
    refine s_aload_n dX10_takesDoor_21 rfl ?_
    refine s_iconst (x := 0) dX10_takesDoor_22 (by decide +kernel) ?_
    refine s_aload_n dX10_takesDoor_23 rfl ?_
    refine s_gi (C := RX10) (Tf := TX10) (N := 41) (i := 10) (j := 20) rfl (by decide) rfl (Or.inl wd_649) dX10_takesDoor_24 ?_
    refine s_iconst (x := 1) dX10_takesDoor_27 (by decide +kernel) ?_
    refine s_isub dX10_takesDoor_28 ?_
    refine s_cv (C := RX10) (Tf := TX10) (N := 41) (i := 10) rfl M_R_takesNumber dX10_takesDoor_29 rfl ⟨by decide +kernel, by decide +kernel, by decide +kernel⟩ (by decide) wd_647 wd_648 wd_610 (Or.inl wd_646) ?_
    refine s_ifne (tgt := 37) dX10_takesDoor_32 (by decide) ?_ ?_
    · refine s_iconst (x := 0) dX10_takesDoor_35 (by decide +kernel) ?_
      exact s_rz rfl dX10_takesDoor_36
    · refine s_aload_n dX10_takesDoor_37 rfl ?_
      refine s_gi (C := RX10) (Tf := TX10) (N := 41) (i := 10) (j := 17) rfl (by decide) rfl (Or.inl wd_642) dX10_takesDoor_38 ?_
      refine s_iload_n dX10_takesDoor_41 rfl ?_
      refine s_cmne (tgt := 49) dX10_takesDoor_42 (by decide) ?_ ?_
      · refine s_iconst (x := 1) dX10_takesDoor_45 (by decide +kernel) ?_
        refine s_goto (tgt := 50) dX10_takesDoor_46 (by decide) ?_
        exact S_R_takesDoor_b50
      · refine s_iconst (x := 0) dX10_takesDoor_49 (by decide +kernel) ?_
        exact S_R_takesDoor_b50
def R_takesDoor (As : List Value) (M : ak_M) : ak_R := match As with
  | [.ref a] => R_takesDoor_b0 [some (.ref a), none, none, none] [] M
  | _ => none
theorem M_R_takesDoor : ak_Mt yX10_takesDoor cX10_takesDoor 4 (some .boolean) 3 63 R_takesDoor := by
  refine ak_met (rk := 2) wd_653 (by decide +kernel) rfl (Or.inr (Or.inr (Or.inl ⟨rfl, rfl⟩))) (fun h => absurd h (by decide)) S_R_takesDoor_b0 (fun As M r h => ?_)
  unfold R_takesDoor at h
  split at h
  next => exact ⟨Nat.le_of_ble_eq_true rfl, 3, h⟩
  next => cases h
-- GreetedMirrorsModel.takesMirror()Z
def R_takesMirror_b49 : ak_K := (k_al 0 (k_gi 10 17 (k_ast (k_al 0 (k_gp 10 29 (k_al 0 (k_gi 10 23 (k_ci (-1) (k_ast (k_al 0 (k_dup (k_gi 10 23 (k_ci 1 (k_b (fun x y => x + y) (k_pi 10 23 (k_ci 1 k_rz))))))))))))))))
theorem S_R_takesMirror_b49 : ak_S cX10_takesMirror RX10 1 2 3 63 (0, fun _ => 0) 49 (R_takesMirror_b49) := by
  unfold R_takesMirror_b49
  refine s_aload_n dX10_takesMirror_49 rfl ?_
  refine s_gi (C := RX10) (Tf := TX10) (N := 41) (i := 10) (j := 17) rfl (by decide) rfl (Or.inl wd_642) dX10_takesMirror_50 ?_
  refine s_ast dX10_takesMirror_53 ?_
  refine s_aload_n dX10_takesMirror_54 rfl ?_
  refine s_gp (C := RX10) (Tf := TX10) (N := 41) (i := 10) (j := 29) rfl (by decide) rfl (Or.inl wd_590) dX10_takesMirror_55 ?_
  refine s_aload_n dX10_takesMirror_58 rfl ?_
  refine s_gi (C := RX10) (Tf := TX10) (N := 41) (i := 10) (j := 23) rfl (by decide) rfl (Or.inl wd_654) dX10_takesMirror_59 ?_
  refine s_iconst (x := (-1)) dX10_takesMirror_62 (by decide +kernel) ?_
  refine s_ast dX10_takesMirror_63 ?_
  refine s_aload_n dX10_takesMirror_64 rfl ?_
  refine s_dup dX10_takesMirror_65 ?_
  refine s_gi (C := RX10) (Tf := TX10) (N := 41) (i := 10) (j := 23) rfl (by decide) rfl (Or.inl wd_654) dX10_takesMirror_66 ?_
  refine s_iconst (x := 1) dX10_takesMirror_69 (by decide +kernel) ?_
  refine s_iadd dX10_takesMirror_70 ?_
  refine s_pi (C := RX10) (Tf := TX10) (N := 41) (i := 10) (j := 23) rfl (by decide) rfl (Or.inl ⟨wd_654, Or.inl rfl⟩) dX10_takesMirror_71 ?_
  refine s_iconst (x := 1) dX10_takesMirror_74 (by decide +kernel) ?_
  exact s_rz rfl dX10_takesMirror_75
def R_takesMirror_b0 : ak_K := (k_al 0 (k_ci 0 (k_al 0 (k_gi 10 20 (k_ci 1 (k_b (fun x y => x - y) (k_cv 10 3 R_takesNumber (k_ifeq (k_ci 0 k_rz) (k_al 0 (k_gp 10 27 (k_al 0 (k_gi 10 23 (k_al 0 (k_gi 10 17 (k_ast (k_al 0 (k_ci 0 (k_ci 9 (k_cv 10 3 R_takesNumber (k_ifeq (k_ci 0 k_rz) (k_al 0 (k_gp 10 28 (k_al 0 (k_gi 10 23 R_takesMirror_b49))))))))))))))))))))))))
theorem S_R_takesMirror_b0 : ak_S cX10_takesMirror RX10 1 2 3 63 (0, fun _ => 0) 0 (R_takesMirror_b0) := by
  unfold R_takesMirror_b0
  refine s_aload_n dX10_takesMirror_0 rfl ?_
  refine s_iconst (x := 0) dX10_takesMirror_1 (by decide +kernel) ?_
  refine s_aload_n dX10_takesMirror_2 rfl ?_
  refine s_gi (C := RX10) (Tf := TX10) (N := 41) (i := 10) (j := 20) rfl (by decide) rfl (Or.inl wd_649) dX10_takesMirror_3 ?_
  refine s_iconst (x := 1) dX10_takesMirror_6 (by decide +kernel) ?_
  refine s_isub dX10_takesMirror_7 ?_
  refine s_cv (C := RX10) (Tf := TX10) (N := 41) (i := 10) rfl M_R_takesNumber dX10_takesMirror_8 rfl ⟨by decide +kernel, by decide +kernel, by decide +kernel⟩ (by decide) wd_647 wd_648 wd_610 (Or.inl wd_646) ?_
  refine s_ifne (tgt := 16) dX10_takesMirror_11 (by decide) ?_ ?_
  · refine s_iconst (x := 0) dX10_takesMirror_14 (by decide +kernel) ?_
    exact s_rz rfl dX10_takesMirror_15
  · refine s_aload_n dX10_takesMirror_16 rfl ?_
    refine s_gp (C := RX10) (Tf := TX10) (N := 41) (i := 10) (j := 27) rfl (by decide) rfl (Or.inl wd_588) dX10_takesMirror_17 ?_
    refine s_aload_n dX10_takesMirror_20 rfl ?_
    refine s_gi (C := RX10) (Tf := TX10) (N := 41) (i := 10) (j := 23) rfl (by decide) rfl (Or.inl wd_654) dX10_takesMirror_21 ?_
    refine s_aload_n dX10_takesMirror_24 rfl ?_
    refine s_gi (C := RX10) (Tf := TX10) (N := 41) (i := 10) (j := 17) rfl (by decide) rfl (Or.inl wd_642) dX10_takesMirror_25 ?_
    refine s_ast dX10_takesMirror_28 ?_
    refine s_aload_n dX10_takesMirror_29 rfl ?_
    refine s_iconst (x := 0) dX10_takesMirror_30 (by decide +kernel) ?_
    refine s_bipush (x := 9) dX10_takesMirror_31 (by decide +kernel) ?_
    refine s_cv (C := RX10) (Tf := TX10) (N := 41) (i := 10) rfl M_R_takesNumber dX10_takesMirror_33 rfl ⟨by decide +kernel, by decide +kernel, by decide +kernel⟩ (by decide) wd_647 wd_648 wd_610 (Or.inl wd_646) ?_
    refine s_ifne (tgt := 41) dX10_takesMirror_36 (by decide) ?_ ?_
    · refine s_iconst (x := 0) dX10_takesMirror_39 (by decide +kernel) ?_
      exact s_rz rfl dX10_takesMirror_40
    · refine s_aload_n dX10_takesMirror_41 rfl ?_
      refine s_gp (C := RX10) (Tf := TX10) (N := 41) (i := 10) (j := 28) rfl (by decide) rfl (Or.inl wd_589) dX10_takesMirror_42 ?_
      refine s_aload_n dX10_takesMirror_45 rfl ?_
      refine s_gi (C := RX10) (Tf := TX10) (N := 41) (i := 10) (j := 23) rfl (by decide) rfl (Or.inl wd_654) dX10_takesMirror_46 ?_
      exact S_R_takesMirror_b49
def R_takesMirror (As : List Value) (M : ak_M) : ak_R := match As with
  | [.ref a] => R_takesMirror_b0 [some (.ref a)] [] M
  | _ => none
theorem M_R_takesMirror : ak_Mt yX10_takesMirror cX10_takesMirror 1 (some .boolean) 3 63 R_takesMirror := by
  refine ak_met (rk := 2) wd_655 (by decide +kernel) rfl (Or.inr (Or.inr (Or.inl ⟨rfl, rfl⟩))) (fun h => absurd h (by decide)) S_R_takesMirror_b0 (fun As M r h => ?_)
  unfold R_takesMirror at h
  split at h
  next => exact ⟨Nat.le_of_ble_eq_true rfl, 0, h⟩
  next => cases h
-- GreetedMirrorsModel.takesOpposite()Z
def R_takesOpposite_b96 : ak_K := (k_al 0 (k_ci 4 (k_al 0 (k_gi 10 16 (k_cv 10 3 R_fails k_rz)))))
theorem S_R_takesOpposite_b96 : ak_S cX10_takesOpposite RX10 2 2 3 63 (0, fun _ => 0) 96 (R_takesOpposite_b96) := by
  unfold R_takesOpposite_b96
  refine s_aload_n dX10_takesOpposite_96 rfl ?_
  refine s_iconst (x := 4) dX10_takesOpposite_97 (by decide +kernel) ?_
  refine s_aload_n dX10_takesOpposite_98 rfl ?_
  refine s_gi (C := RX10) (Tf := TX10) (N := 41) (i := 10) (j := 16) rfl (by decide) rfl (Or.inl wd_631) dX10_takesOpposite_99 ?_
  refine s_cv (C := RX10) (Tf := TX10) (N := 41) (i := 10) rfl M_R_fails dX10_takesOpposite_102 rfl ⟨by decide +kernel, by decide +kernel, by decide +kernel⟩ (by decide) wd_639 wd_640 wd_610 (Or.inl wd_638) ?_
  exact s_rz rfl dX10_takesOpposite_105
def R_takesOpposite_b110 : ak_K := (k_il 1 (k_al 0 (k_gi 10 17 (k_ast (k_al 0 (k_gp 10 29 (k_al 0 (k_gi 10 17 (k_il 1 (k_ast (k_ci 1 k_rz)))))))))))
theorem S_R_takesOpposite_b110 : ak_S cX10_takesOpposite RX10 2 2 3 63 (0, fun _ => 0) 110 (R_takesOpposite_b110) := by
  unfold R_takesOpposite_b110
  refine s_iload_n dX10_takesOpposite_110 rfl ?_
  refine s_aload_n dX10_takesOpposite_111 rfl ?_
  refine s_gi (C := RX10) (Tf := TX10) (N := 41) (i := 10) (j := 17) rfl (by decide) rfl (Or.inl wd_642) dX10_takesOpposite_112 ?_
  refine s_ast dX10_takesOpposite_115 ?_
  refine s_aload_n dX10_takesOpposite_116 rfl ?_
  refine s_gp (C := RX10) (Tf := TX10) (N := 41) (i := 10) (j := 29) rfl (by decide) rfl (Or.inl wd_590) dX10_takesOpposite_117 ?_
  refine s_aload_n dX10_takesOpposite_120 rfl ?_
  refine s_gi (C := RX10) (Tf := TX10) (N := 41) (i := 10) (j := 17) rfl (by decide) rfl (Or.inl wd_642) dX10_takesOpposite_121 ?_
  refine s_iload_n dX10_takesOpposite_124 rfl ?_
  refine s_ast dX10_takesOpposite_125 ?_
  refine s_iconst (x := 1) dX10_takesOpposite_126 (by decide +kernel) ?_
  exact s_rz rfl dX10_takesOpposite_127
def R_takesOpposite_b52 : ak_K := (k_ifeq (k_ci 0 k_rz) (k_al 0 (k_gp 10 29 (k_al 0 (k_gi 10 17 (k_ald (k_ci (-1) (k_cmeq (k_al 0 (k_gi 10 17 (k_il 1 (k_cmeq R_takesOpposite_b96 (k_al 0 (k_gp 10 27 (k_al 0 (k_gi 10 17 (k_ald (k_al 0 (k_gp 10 27 (k_il 1 (k_ald (k_cmeq (k_al 0 (k_gp 10 29 R_takesOpposite_b110)) R_takesOpposite_b96)))))))))))))) R_takesOpposite_b96))))))))
theorem S_R_takesOpposite_b52 : ak_S cX10_takesOpposite RX10 2 2 3 63 (0, fun _ => 0) 52 (R_takesOpposite_b52) := by
  unfold R_takesOpposite_b52
  refine s_ifne (tgt := 57) dX10_takesOpposite_52 (by decide) ?_ ?_
  · refine s_iconst (x := 0) dX10_takesOpposite_55 (by decide +kernel) ?_
    exact s_rz rfl dX10_takesOpposite_56
  · refine s_aload_n dX10_takesOpposite_57 rfl ?_
    refine s_gp (C := RX10) (Tf := TX10) (N := 41) (i := 10) (j := 29) rfl (by decide) rfl (Or.inl wd_590) dX10_takesOpposite_58 ?_
    refine s_aload_n dX10_takesOpposite_61 rfl ?_
    refine s_gi (C := RX10) (Tf := TX10) (N := 41) (i := 10) (j := 17) rfl (by decide) rfl (Or.inl wd_642) dX10_takesOpposite_62 ?_
    refine s_ald dX10_takesOpposite_65 ?_
    refine s_iconst (x := (-1)) dX10_takesOpposite_66 (by decide +kernel) ?_
    refine s_cmne (tgt := 96) dX10_takesOpposite_67 (by decide) ?_ ?_
    · refine s_aload_n dX10_takesOpposite_70 rfl ?_
      refine s_gi (C := RX10) (Tf := TX10) (N := 41) (i := 10) (j := 17) rfl (by decide) rfl (Or.inl wd_642) dX10_takesOpposite_71 ?_
      refine s_iload_n dX10_takesOpposite_74 rfl ?_
      refine s_cmeq (tgt := 96) dX10_takesOpposite_75 (by decide) ?_ ?_
      · exact S_R_takesOpposite_b96
      · refine s_aload_n dX10_takesOpposite_78 rfl ?_
        refine s_gp (C := RX10) (Tf := TX10) (N := 41) (i := 10) (j := 27) rfl (by decide) rfl (Or.inl wd_588) dX10_takesOpposite_79 ?_
        refine s_aload_n dX10_takesOpposite_82 rfl ?_
        refine s_gi (C := RX10) (Tf := TX10) (N := 41) (i := 10) (j := 17) rfl (by decide) rfl (Or.inl wd_642) dX10_takesOpposite_83 ?_
        refine s_ald dX10_takesOpposite_86 ?_
        refine s_aload_n dX10_takesOpposite_87 rfl ?_
        refine s_gp (C := RX10) (Tf := TX10) (N := 41) (i := 10) (j := 27) rfl (by decide) rfl (Or.inl wd_588) dX10_takesOpposite_88 ?_
        refine s_iload_n dX10_takesOpposite_91 rfl ?_
        refine s_ald dX10_takesOpposite_92 ?_
        refine s_cmeq (tgt := 106) dX10_takesOpposite_93 (by decide) ?_ ?_
        · refine s_aload_n dX10_takesOpposite_106 rfl ?_
          refine s_gp (C := RX10) (Tf := TX10) (N := 41) (i := 10) (j := 29) rfl (by decide) rfl (Or.inl wd_590) dX10_takesOpposite_107 ?_
          exact S_R_takesOpposite_b110
        · exact S_R_takesOpposite_b96
    · exact S_R_takesOpposite_b96
def R_takesOpposite_b0 : ak_K := (k_al 0 (k_ci 0 (k_al 0 (k_gi 10 23 (k_ci 1 (k_b (fun x y => x - y) (k_cv 10 3 R_takesNumber (k_ifeq (k_ci 0 k_rz) (k_al 0 (k_gi 10 17 (k_is 1 (k_al 0 (k_gp 10 29 (k_il 1 (k_ald (k_ci (-1) (k_cmeq (k_al 0 (k_ci 0 (k_al 0 (k_gi 10 23 (k_ci 1 (k_b (fun x y => x - y) (k_cv 10 3 R_takesNumber R_takesOpposite_b52))))))) (k_al 0 (k_ci 4 (k_al 0 (k_gi 10 16 (k_cv 10 3 R_fails k_rz))))))))))))))))))))))
theorem S_R_takesOpposite_b0 : ak_S cX10_takesOpposite RX10 2 2 3 63 (0, fun _ => 0) 0 (R_takesOpposite_b0) := by
  unfold R_takesOpposite_b0
  refine s_aload_n dX10_takesOpposite_0 rfl ?_
  refine s_iconst (x := 0) dX10_takesOpposite_1 (by decide +kernel) ?_
  refine s_aload_n dX10_takesOpposite_2 rfl ?_
  refine s_gi (C := RX10) (Tf := TX10) (N := 41) (i := 10) (j := 23) rfl (by decide) rfl (Or.inl wd_654) dX10_takesOpposite_3 ?_
  refine s_iconst (x := 1) dX10_takesOpposite_6 (by decide +kernel) ?_
  refine s_isub dX10_takesOpposite_7 ?_
  refine s_cv (C := RX10) (Tf := TX10) (N := 41) (i := 10) rfl M_R_takesNumber dX10_takesOpposite_8 rfl ⟨by decide +kernel, by decide +kernel, by decide +kernel⟩ (by decide) wd_647 wd_648 wd_610 (Or.inl wd_646) ?_
  refine s_ifne (tgt := 16) dX10_takesOpposite_11 (by decide) ?_ ?_
  · refine s_iconst (x := 0) dX10_takesOpposite_14 (by decide +kernel) ?_
    exact s_rz rfl dX10_takesOpposite_15
  · refine s_aload_n dX10_takesOpposite_16 rfl ?_
    refine s_gi (C := RX10) (Tf := TX10) (N := 41) (i := 10) (j := 17) rfl (by decide) rfl (Or.inl wd_642) dX10_takesOpposite_17 ?_
    refine s_istore_n dX10_takesOpposite_20 rfl (by decide) ?_
    refine s_aload_n dX10_takesOpposite_21 rfl ?_
    refine s_gp (C := RX10) (Tf := TX10) (N := 41) (i := 10) (j := 29) rfl (by decide) rfl (Or.inl wd_590) dX10_takesOpposite_22 ?_
    refine s_iload_n dX10_takesOpposite_25 rfl ?_
    refine s_ald dX10_takesOpposite_26 ?_
    refine s_iconst (x := (-1)) dX10_takesOpposite_27 (by decide +kernel) ?_
    refine s_cmeq (tgt := 41) dX10_takesOpposite_28 (by decide) ?_ ?_
    · refine s_aload_n dX10_takesOpposite_41 rfl ?_
      refine s_iconst (x := 0) dX10_takesOpposite_42 (by decide +kernel) ?_
      refine s_aload_n dX10_takesOpposite_43 rfl ?_
      refine s_gi (C := RX10) (Tf := TX10) (N := 41) (i := 10) (j := 23) rfl (by decide) rfl (Or.inl wd_654) dX10_takesOpposite_44 ?_
      refine s_iconst (x := 1) dX10_takesOpposite_47 (by decide +kernel) ?_
      refine s_isub dX10_takesOpposite_48 ?_
      refine s_cv (C := RX10) (Tf := TX10) (N := 41) (i := 10) rfl M_R_takesNumber dX10_takesOpposite_49 rfl ⟨by decide +kernel, by decide +kernel, by decide +kernel⟩ (by decide) wd_647 wd_648 wd_610 (Or.inl wd_646) ?_
      exact S_R_takesOpposite_b52
    · refine s_aload_n dX10_takesOpposite_31 rfl ?_
      refine s_iconst (x := 4) dX10_takesOpposite_32 (by decide +kernel) ?_
      refine s_aload_n dX10_takesOpposite_33 rfl ?_
      refine s_gi (C := RX10) (Tf := TX10) (N := 41) (i := 10) (j := 16) rfl (by decide) rfl (Or.inl wd_631) dX10_takesOpposite_34 ?_
      refine s_cv (C := RX10) (Tf := TX10) (N := 41) (i := 10) rfl M_R_fails dX10_takesOpposite_37 rfl ⟨by decide +kernel, by decide +kernel, by decide +kernel⟩ (by decide) wd_639 wd_640 wd_610 (Or.inl wd_638) ?_
      exact s_rz rfl dX10_takesOpposite_40
def R_takesOpposite (As : List Value) (M : ak_M) : ak_R := match As with
  | [.ref a] => R_takesOpposite_b0 [some (.ref a), none] [] M
  | _ => none
theorem M_R_takesOpposite : ak_Mt yX10_takesOpposite cX10_takesOpposite 2 (some .boolean) 3 63 R_takesOpposite := by
  refine ak_met (rk := 2) wd_656 (by decide +kernel) rfl (Or.inr (Or.inr (Or.inl ⟨rfl, rfl⟩))) (fun h => absurd h (by decide)) S_R_takesOpposite_b0 (fun As M r h => ?_)
  unfold R_takesOpposite at h
  split at h
  next => exact ⟨Nat.le_of_ble_eq_true rfl, 1, h⟩
  next => cases h
-- GreetedMirrorsModel.takesBreaths()Z
def R_takesBreaths_b58 : ak_K := (k_ci 1 k_rz)
theorem S_R_takesBreaths_b58 : ak_S cX10_takesBreaths RX10 2 2 3 63 (0, fun _ => 0) 58 (R_takesBreaths_b58) := by
  unfold R_takesBreaths_b58
  refine s_iconst (x := 1) dX10_takesBreaths_58 (by decide +kernel) ?_
  exact s_rz rfl dX10_takesBreaths_59
def R_takesBreaths_b0 : ak_K := (k_al 0 (k_ci 0 (k_ci 9 (k_cv 10 3 R_takesNumber (k_ifeq (k_ci 0 k_rz) (k_al 0 (k_gi 10 17 (k_is 1 (k_al 0 (k_gp 10 30 (k_il 1 (k_ald (k_ifeq (k_al 0 (k_ci 1 (k_ci 9 (k_cv 10 3 R_takesNumber (k_ifeq (k_ci 0 k_rz) (k_al 0 (k_gp 10 30 (k_il 1 (k_al 0 (k_gi 10 17 (k_ast R_takesBreaths_b58))))))))))) (k_al 0 (k_ci 4 (k_al 0 (k_gi 10 16 (k_cv 10 3 R_fails k_rz))))))))))))))))))
theorem S_R_takesBreaths_b0 : ak_S cX10_takesBreaths RX10 2 2 3 63 (0, fun _ => 0) 0 (R_takesBreaths_b0) := by
  unfold R_takesBreaths_b0
  refine s_aload_n dX10_takesBreaths_0 rfl ?_
  refine s_iconst (x := 0) dX10_takesBreaths_1 (by decide +kernel) ?_
  refine s_bipush (x := 9) dX10_takesBreaths_2 (by decide +kernel) ?_
  refine s_cv (C := RX10) (Tf := TX10) (N := 41) (i := 10) rfl M_R_takesNumber dX10_takesBreaths_4 rfl ⟨by decide +kernel, by decide +kernel, by decide +kernel⟩ (by decide) wd_647 wd_648 wd_610 (Or.inl wd_646) ?_
  refine s_ifne (tgt := 12) dX10_takesBreaths_7 (by decide) ?_ ?_
  · refine s_iconst (x := 0) dX10_takesBreaths_10 (by decide +kernel) ?_
    exact s_rz rfl dX10_takesBreaths_11
  · refine s_aload_n dX10_takesBreaths_12 rfl ?_
    refine s_gi (C := RX10) (Tf := TX10) (N := 41) (i := 10) (j := 17) rfl (by decide) rfl (Or.inl wd_642) dX10_takesBreaths_13 ?_
    refine s_istore_n dX10_takesBreaths_16 rfl (by decide) ?_
    refine s_aload_n dX10_takesBreaths_17 rfl ?_
    refine s_gp (C := RX10) (Tf := TX10) (N := 41) (i := 10) (j := 30) rfl (by decide) rfl (Or.inl wd_591) dX10_takesBreaths_18 ?_
    refine s_iload_n dX10_takesBreaths_21 rfl ?_
    refine s_ald dX10_takesBreaths_22 ?_
    refine s_ifeq (tgt := 36) dX10_takesBreaths_23 (by decide) ?_ ?_
    · refine s_aload_n dX10_takesBreaths_36 rfl ?_
      refine s_iconst (x := 1) dX10_takesBreaths_37 (by decide +kernel) ?_
      refine s_bipush (x := 9) dX10_takesBreaths_38 (by decide +kernel) ?_
      refine s_cv (C := RX10) (Tf := TX10) (N := 41) (i := 10) rfl M_R_takesNumber dX10_takesBreaths_40 rfl ⟨by decide +kernel, by decide +kernel, by decide +kernel⟩ (by decide) wd_647 wd_648 wd_610 (Or.inl wd_646) ?_
      refine s_ifne (tgt := 48) dX10_takesBreaths_43 (by decide) ?_ ?_
      · refine s_iconst (x := 0) dX10_takesBreaths_46 (by decide +kernel) ?_
        exact s_rz rfl dX10_takesBreaths_47
      · refine s_aload_n dX10_takesBreaths_48 rfl ?_
        refine s_gp (C := RX10) (Tf := TX10) (N := 41) (i := 10) (j := 30) rfl (by decide) rfl (Or.inl wd_591) dX10_takesBreaths_49 ?_
        refine s_iload_n dX10_takesBreaths_52 rfl ?_
        refine s_aload_n dX10_takesBreaths_53 rfl ?_
        refine s_gi (C := RX10) (Tf := TX10) (N := 41) (i := 10) (j := 17) rfl (by decide) rfl (Or.inl wd_642) dX10_takesBreaths_54 ?_
        refine s_ast dX10_takesBreaths_57 ?_
        exact S_R_takesBreaths_b58
    · refine s_aload_n dX10_takesBreaths_26 rfl ?_
      refine s_iconst (x := 4) dX10_takesBreaths_27 (by decide +kernel) ?_
      refine s_aload_n dX10_takesBreaths_28 rfl ?_
      refine s_gi (C := RX10) (Tf := TX10) (N := 41) (i := 10) (j := 16) rfl (by decide) rfl (Or.inl wd_631) dX10_takesBreaths_29 ?_
      refine s_cv (C := RX10) (Tf := TX10) (N := 41) (i := 10) rfl M_R_fails dX10_takesBreaths_32 rfl ⟨by decide +kernel, by decide +kernel, by decide +kernel⟩ (by decide) wd_639 wd_640 wd_610 (Or.inl wd_638) ?_
      exact s_rz rfl dX10_takesBreaths_35
def R_takesBreaths (As : List Value) (M : ak_M) : ak_R := match As with
  | [.ref a] => R_takesBreaths_b0 [some (.ref a), none] [] M
  | _ => none
theorem M_R_takesBreaths : ak_Mt yX10_takesBreaths cX10_takesBreaths 2 (some .boolean) 3 63 R_takesBreaths := by
  refine ak_met (rk := 2) wd_657 (by decide +kernel) rfl (Or.inr (Or.inr (Or.inl ⟨rfl, rfl⟩))) (fun h => absurd h (by decide)) S_R_takesBreaths_b0 (fun As M r h => ?_)
  unfold R_takesBreaths at h
  split at h
  next => exact ⟨Nat.le_of_ble_eq_true rfl, 1, h⟩
  next => cases h
-- GreetedMirrorsModel.takesPerson()Z
def R_takesPerson_b0 : ak_K := (k_al 0 (k_ci 0 (k_al 0 (k_gi 10 20 (k_ci 1 (k_b (fun x y => x - y) (k_cv 10 3 R_takesNumber (k_ifeq (k_ci 0 k_rz) (k_al 0 (k_gp 10 31 (k_al 0 (k_gi 10 24 (k_al 0 (k_gi 10 17 (k_ast (k_al 0 (k_dup (k_gi 10 24 (k_ci 1 (k_b (fun x y => x + y) (k_pi 10 24 (k_ci 1 k_rz))))))))))))))))))))))
theorem S_R_takesPerson_b0 : ak_S cX10_takesPerson RX10 1 2 3 63 (0, fun _ => 0) 0 (R_takesPerson_b0) := by
  unfold R_takesPerson_b0
  refine s_aload_n dX10_takesPerson_0 rfl ?_
  refine s_iconst (x := 0) dX10_takesPerson_1 (by decide +kernel) ?_
  refine s_aload_n dX10_takesPerson_2 rfl ?_
  refine s_gi (C := RX10) (Tf := TX10) (N := 41) (i := 10) (j := 20) rfl (by decide) rfl (Or.inl wd_649) dX10_takesPerson_3 ?_
  refine s_iconst (x := 1) dX10_takesPerson_6 (by decide +kernel) ?_
  refine s_isub dX10_takesPerson_7 ?_
  refine s_cv (C := RX10) (Tf := TX10) (N := 41) (i := 10) rfl M_R_takesNumber dX10_takesPerson_8 rfl ⟨by decide +kernel, by decide +kernel, by decide +kernel⟩ (by decide) wd_647 wd_648 wd_610 (Or.inl wd_646) ?_
  refine s_ifne (tgt := 16) dX10_takesPerson_11 (by decide) ?_ ?_
  · refine s_iconst (x := 0) dX10_takesPerson_14 (by decide +kernel) ?_
    exact s_rz rfl dX10_takesPerson_15
  · refine s_aload_n dX10_takesPerson_16 rfl ?_
    refine s_gp (C := RX10) (Tf := TX10) (N := 41) (i := 10) (j := 31) rfl (by decide) rfl (Or.inl wd_592) dX10_takesPerson_17 ?_
    refine s_aload_n dX10_takesPerson_20 rfl ?_
    refine s_gi (C := RX10) (Tf := TX10) (N := 41) (i := 10) (j := 24) rfl (by decide) rfl (Or.inl wd_658) dX10_takesPerson_21 ?_
    refine s_aload_n dX10_takesPerson_24 rfl ?_
    refine s_gi (C := RX10) (Tf := TX10) (N := 41) (i := 10) (j := 17) rfl (by decide) rfl (Or.inl wd_642) dX10_takesPerson_25 ?_
    refine s_ast dX10_takesPerson_28 ?_
    refine s_aload_n dX10_takesPerson_29 rfl ?_
    refine s_dup dX10_takesPerson_30 ?_
    refine s_gi (C := RX10) (Tf := TX10) (N := 41) (i := 10) (j := 24) rfl (by decide) rfl (Or.inl wd_658) dX10_takesPerson_31 ?_
    refine s_iconst (x := 1) dX10_takesPerson_34 (by decide +kernel) ?_
    refine s_iadd dX10_takesPerson_35 ?_
    refine s_pi (C := RX10) (Tf := TX10) (N := 41) (i := 10) (j := 24) rfl (by decide) rfl (Or.inl ⟨wd_658, Or.inl rfl⟩) dX10_takesPerson_36 ?_
    refine s_iconst (x := 1) dX10_takesPerson_39 (by decide +kernel) ?_
    exact s_rz rfl dX10_takesPerson_40
def R_takesPerson (As : List Value) (M : ak_M) : ak_R := match As with
  | [.ref a] => R_takesPerson_b0 [some (.ref a)] [] M
  | _ => none
theorem M_R_takesPerson : ak_Mt yX10_takesPerson cX10_takesPerson 1 (some .boolean) 3 63 R_takesPerson := by
  refine ak_met (rk := 2) wd_659 (by decide +kernel) rfl (Or.inr (Or.inr (Or.inl ⟨rfl, rfl⟩))) (fun h => absurd h (by decide)) S_R_takesPerson_b0 (fun As M r h => ?_)
  unfold R_takesPerson at h
  split at h
  next => exact ⟨Nat.le_of_ble_eq_true rfl, 0, h⟩
  next => cases h
-- GreetedMirrorsModel.takesWords(I)Z
def R_takesWords_b92 : ak_K := (k_al 0 (k_cv 10 1 R_takesBreaths k_rz))
theorem S_R_takesWords_b92 : ak_S cX10_takesWords RX10 2 2 4 86 (0, fun _ => 0) 92 (R_takesWords_b92) := by
  unfold R_takesWords_b92
  refine s_aload_n dX10_takesWords_92 rfl ?_
  refine s_cv (C := RX10) (Tf := TX10) (N := 41) (i := 10) rfl M_R_takesBreaths dX10_takesWords_93 rfl ⟨by decide +kernel, by decide +kernel, by decide +kernel⟩ (by decide) wd_661 wd_662 wd_610 (Or.inl wd_660) ?_
  exact s_rz rfl dX10_takesWords_96
def R_takesWords_b97 : ak_K := (k_al 0 (k_cv 10 1 R_takesPerson k_rz))
theorem S_R_takesWords_b97 : ak_S cX10_takesWords RX10 2 2 4 86 (0, fun _ => 0) 97 (R_takesWords_b97) := by
  unfold R_takesWords_b97
  refine s_aload_n dX10_takesWords_97 rfl ?_
  refine s_cv (C := RX10) (Tf := TX10) (N := 41) (i := 10) rfl M_R_takesPerson dX10_takesWords_98 rfl ⟨by decide +kernel, by decide +kernel, by decide +kernel⟩ (by decide) wd_664 wd_665 wd_610 (Or.inl wd_663) ?_
  exact s_rz rfl dX10_takesWords_101
def R_takesWords_b77 : ak_K := (k_al 0 (k_cv 10 1 R_takesDoor k_rz))
theorem S_R_takesWords_b77 : ak_S cX10_takesWords RX10 2 2 4 86 (0, fun _ => 0) 77 (R_takesWords_b77) := by
  unfold R_takesWords_b77
  refine s_aload_n dX10_takesWords_77 rfl ?_
  refine s_cv (C := RX10) (Tf := TX10) (N := 41) (i := 10) rfl M_R_takesDoor dX10_takesWords_78 rfl ⟨by decide +kernel, by decide +kernel, by decide +kernel⟩ (by decide) wd_667 wd_668 wd_610 (Or.inl wd_666) ?_
  exact s_rz rfl dX10_takesWords_81
def R_takesWords_b72 : ak_K := (k_al 0 (k_cv 10 1 R_takesHouse k_rz))
theorem S_R_takesWords_b72 : ak_S cX10_takesWords RX10 2 2 4 86 (0, fun _ => 0) 72 (R_takesWords_b72) := by
  unfold R_takesWords_b72
  refine s_aload_n dX10_takesWords_72 rfl ?_
  refine s_cv (C := RX10) (Tf := TX10) (N := 41) (i := 10) rfl M_R_takesHouse dX10_takesWords_73 rfl ⟨by decide +kernel, by decide +kernel, by decide +kernel⟩ (by decide) wd_670 wd_671 wd_610 (Or.inl wd_669) ?_
  exact s_rz rfl dX10_takesWords_76
def R_takesWords_b82 : ak_K := (k_al 0 (k_cv 10 1 R_takesMirror k_rz))
theorem S_R_takesWords_b82 : ak_S cX10_takesWords RX10 2 2 4 86 (0, fun _ => 0) 82 (R_takesWords_b82) := by
  unfold R_takesWords_b82
  refine s_aload_n dX10_takesWords_82 rfl ?_
  refine s_cv (C := RX10) (Tf := TX10) (N := 41) (i := 10) rfl M_R_takesMirror dX10_takesWords_83 rfl ⟨by decide +kernel, by decide +kernel, by decide +kernel⟩ (by decide) wd_673 wd_674 wd_610 (Or.inl wd_672) ?_
  exact s_rz rfl dX10_takesWords_86
def R_takesWords_b87 : ak_K := (k_al 0 (k_cv 10 1 R_takesOpposite k_rz))
theorem S_R_takesWords_b87 : ak_S cX10_takesWords RX10 2 2 4 86 (0, fun _ => 0) 87 (R_takesWords_b87) := by
  unfold R_takesWords_b87
  refine s_aload_n dX10_takesWords_87 rfl ?_
  refine s_cv (C := RX10) (Tf := TX10) (N := 41) (i := 10) rfl M_R_takesOpposite dX10_takesWords_88 rfl ⟨by decide +kernel, by decide +kernel, by decide +kernel⟩ (by decide) wd_676 wd_677 wd_610 (Or.inl wd_675) ?_
  exact s_rz rfl dX10_takesWords_91
def R_takesWords_b0 : ak_K := (k_il 1 (k_sw [(98, R_takesWords_b92), (100, R_takesWords_b77), (104, R_takesWords_b72), (109, R_takesWords_b82), (111, R_takesWords_b87)] R_takesWords_b97))
theorem S_R_takesWords_b0 : ak_S cX10_takesWords RX10 2 2 4 86 (0, fun _ => 0) 0 (R_takesWords_b0) := by
  unfold R_takesWords_b0
  refine s_iload_n dX10_takesWords_0 rfl ?_
  exact s_table (tgd := 97) [98, 100, 104, 109, 111] rfl dX10_takesWords_1 (by decide) S_R_takesWords_b97 (List.forall_mem_cons.mpr ⟨⟨92, S_R_takesWords_b92, (by show _ ≤ (98 : Int32).toInt; decide +kernel), (by show (98 : Int32).toInt ≤ _; decide +kernel), 91, (by show _[((98 : Int32).toInt - _).toNat]? = _; decide +kernel), by decide⟩, List.forall_mem_cons.mpr ⟨⟨77, S_R_takesWords_b77, (by show _ ≤ (100 : Int32).toInt; decide +kernel), (by show (100 : Int32).toInt ≤ _; decide +kernel), 76, (by show _[((100 : Int32).toInt - _).toNat]? = _; decide +kernel), by decide⟩, List.forall_mem_cons.mpr ⟨⟨72, S_R_takesWords_b72, (by show _ ≤ (104 : Int32).toInt; decide +kernel), (by show (104 : Int32).toInt ≤ _; decide +kernel), 71, (by show _[((104 : Int32).toInt - _).toNat]? = _; decide +kernel), by decide⟩, List.forall_mem_cons.mpr ⟨⟨82, S_R_takesWords_b82, (by show _ ≤ (109 : Int32).toInt; decide +kernel), (by show (109 : Int32).toInt ≤ _; decide +kernel), 81, (by show _[((109 : Int32).toInt - _).toNat]? = _; decide +kernel), by decide⟩, List.forall_mem_cons.mpr ⟨⟨87, S_R_takesWords_b87, (by show _ ≤ (111 : Int32).toInt; decide +kernel), (by show (111 : Int32).toInt ≤ _; decide +kernel), 86, (by show _[((111 : Int32).toInt - _).toNat]? = _; decide +kernel), by decide⟩, fun q h => absurd h List.not_mem_nil⟩⟩⟩⟩⟩) (by decide +kernel)
def R_takesWords (As : List Value) (M : ak_M) : ak_R := match As with
  | [.ref a, .int x0] => R_takesWords_b0 [some (.ref a), some (.int x0)] [] M
  | _ => none
theorem M_R_takesWords : ak_Mt yX10_takesWords cX10_takesWords 2 (some .boolean) 4 86 R_takesWords := by
  refine ak_met (rk := 2) wd_678 (by decide +kernel) rfl (Or.inr (Or.inr (Or.inl ⟨rfl, rfl⟩))) (fun h => absurd h (by decide)) S_R_takesWords_b0 (fun As M r h => ?_)
  unfold R_takesWords at h
  split at h
  next => exact ⟨Nat.le_of_ble_eq_true rfl, 0, h⟩
  next => cases h
-- GreetedMirrorsModel.takesClause()Z
def R_takesClause_b201 : ak_K := k_rz
theorem S_R_takesClause_b201 : ak_S cX10_takesClause RX10 4 2 5 107 (0, fun _ => 0) 201 (R_takesClause_b201) := by
  unfold R_takesClause_b201
  exact s_rz rfl dX10_takesClause_201
def R_takesClause_b200 : ak_K := (k_ci 0 R_takesClause_b201)
theorem S_R_takesClause_b200 : ak_S cX10_takesClause RX10 4 2 5 107 (0, fun _ => 0) 200 (R_takesClause_b200) := by
  unfold R_takesClause_b200
  refine s_iconst (x := 0) dX10_takesClause_200 (by decide +kernel) ?_
  exact S_R_takesClause_b201
def R_takesClause_b154 : ak_K := (k_is 3 (k_il 3 (k_ifeq (k_al 0 (k_dup (k_gi 10 15 (k_ci 1 (k_b (fun x y => x + y) (k_pi 10 15 (k_al 0 (k_il 1 (k_cv 10 2 R_takesWords (k_ifeq R_takesClause_b200 (k_al 0 (k_ci 59 (k_cv 10 2 R_takes (k_ifeq R_takesClause_b200 (k_ci 1 R_takesClause_b201))))))))))))))) (k_al 0 (k_ci 3 (k_al 0 (k_gi 10 16 (k_cv 10 3 R_fails k_rz))))))))
theorem S_R_takesClause_b154 : ak_S cX10_takesClause RX10 4 2 5 107 (0, fun _ => 0) 154 (R_takesClause_b154) := by
  unfold R_takesClause_b154
  refine s_istore_n dX10_takesClause_154 rfl (by decide) ?_
  refine s_iload_n dX10_takesClause_155 rfl ?_
  refine s_ifeq (tgt := 169) dX10_takesClause_156 (by decide) ?_ ?_
  · refine s_aload_n dX10_takesClause_169 rfl ?_
    refine s_dup dX10_takesClause_170 ?_
    refine s_gi (C := RX10) (Tf := TX10) (N := 41) (i := 10) (j := 15) rfl (by decide) rfl (Or.inl wd_627) dX10_takesClause_171 ?_
    refine s_iconst (x := 1) dX10_takesClause_174 (by decide +kernel) ?_
    refine s_iadd dX10_takesClause_175 ?_
    refine s_pi (C := RX10) (Tf := TX10) (N := 41) (i := 10) (j := 15) rfl (by decide) rfl (Or.inl ⟨wd_627, Or.inl rfl⟩) dX10_takesClause_176 ?_
    refine s_aload_n dX10_takesClause_179 rfl ?_
    refine s_iload_n dX10_takesClause_180 rfl ?_
    refine s_cv (C := RX10) (Tf := TX10) (N := 41) (i := 10) rfl M_R_takesWords dX10_takesClause_181 rfl ⟨by decide +kernel, by decide +kernel, by decide +kernel⟩ (by decide) wd_680 wd_681 wd_610 (Or.inl wd_679) ?_
    refine s_ifeq (tgt := 200) dX10_takesClause_184 (by decide) ?_ ?_
    · exact S_R_takesClause_b200
    · refine s_aload_n dX10_takesClause_187 rfl ?_
      refine s_bipush (x := 59) dX10_takesClause_188 (by decide +kernel) ?_
      refine s_cv (C := RX10) (Tf := TX10) (N := 41) (i := 10) rfl M_R_takes dX10_takesClause_190 rfl ⟨by decide +kernel, by decide +kernel, by decide +kernel⟩ (by decide) wd_683 wd_684 wd_610 (Or.inl wd_682) ?_
      refine s_ifeq (tgt := 200) dX10_takesClause_193 (by decide) ?_ ?_
      · exact S_R_takesClause_b200
      · refine s_iconst (x := 1) dX10_takesClause_196 (by decide +kernel) ?_
        refine s_goto (tgt := 201) dX10_takesClause_197 (by decide) ?_
        exact S_R_takesClause_b201
  · refine s_aload_n dX10_takesClause_159 rfl ?_
    refine s_iconst (x := 3) dX10_takesClause_160 (by decide +kernel) ?_
    refine s_aload_n dX10_takesClause_161 rfl ?_
    refine s_gi (C := RX10) (Tf := TX10) (N := 41) (i := 10) (j := 16) rfl (by decide) rfl (Or.inl wd_631) dX10_takesClause_162 ?_
    refine s_cv (C := RX10) (Tf := TX10) (N := 41) (i := 10) rfl M_R_fails dX10_takesClause_165 rfl ⟨by decide +kernel, by decide +kernel, by decide +kernel⟩ (by decide) wd_639 wd_640 wd_610 (Or.inl wd_638) ?_
    exact s_rz rfl dX10_takesClause_168
def R_takesClause_b153 : ak_K := (k_ci 0 R_takesClause_b154)
theorem S_R_takesClause_b153 : ak_S cX10_takesClause RX10 4 2 5 107 (0, fun _ => 0) 153 (R_takesClause_b153) := by
  unfold R_takesClause_b153
  refine s_iconst (x := 0) dX10_takesClause_153 (by decide +kernel) ?_
  exact S_R_takesClause_b154
def R_takesClause_b53 : ak_K := (k_is 2 (k_il 2 (k_ifeq (k_al 0 (k_ci 1 (k_al 0 (k_gi 10 16 (k_cv 10 3 R_fails k_rz))))) (k_il 1 (k_ci 104 (k_cmeq (k_al 0 (k_gi 10 20 (k_ifle (k_ci 0 R_takesClause_b154) (k_ci 1 R_takesClause_b154)))) (k_il 1 (k_ci 100 (k_cmeq (k_al 0 (k_gi 10 22 (k_ci 8 (k_cmeq (k_ci 1 R_takesClause_b154) (k_ci 0 R_takesClause_b154))))) (k_il 1 (k_ci 109 (k_cmeq (k_al 0 (k_gi 10 23 (k_ci 7 (k_cmeq (k_ci 1 R_takesClause_b154) (k_ci 0 R_takesClause_b154))))) (k_il 1 (k_ci 112 (k_cmeq (k_al 0 (k_gi 10 24 (k_ci 5 (k_cmeq (k_ci 1 R_takesClause_b154) R_takesClause_b153)))) R_takesClause_b153)))))))))))))))
theorem S_R_takesClause_b53 : ak_S cX10_takesClause RX10 4 2 5 107 (0, fun _ => 0) 53 (R_takesClause_b53) := by
  unfold R_takesClause_b53
  refine s_istore_n dX10_takesClause_53 rfl (by decide) ?_
  refine s_iload_n dX10_takesClause_54 rfl ?_
  refine s_ifne (tgt := 68) dX10_takesClause_55 (by decide) ?_ ?_
  · refine s_aload_n dX10_takesClause_58 rfl ?_
    refine s_iconst (x := 1) dX10_takesClause_59 (by decide +kernel) ?_
    refine s_aload_n dX10_takesClause_60 rfl ?_
    refine s_gi (C := RX10) (Tf := TX10) (N := 41) (i := 10) (j := 16) rfl (by decide) rfl (Or.inl wd_631) dX10_takesClause_61 ?_
    refine s_cv (C := RX10) (Tf := TX10) (N := 41) (i := 10) rfl M_R_fails dX10_takesClause_64 rfl ⟨by decide +kernel, by decide +kernel, by decide +kernel⟩ (by decide) wd_639 wd_640 wd_610 (Or.inl wd_638) ?_
    exact s_rz rfl dX10_takesClause_67
  · refine s_iload_n dX10_takesClause_68 rfl ?_
    refine s_bipush (x := 104) dX10_takesClause_69 (by decide +kernel) ?_
    refine s_cmne (tgt := 89) dX10_takesClause_71 (by decide) ?_ ?_
    · refine s_aload_n dX10_takesClause_74 rfl ?_
      refine s_gi (C := RX10) (Tf := TX10) (N := 41) (i := 10) (j := 20) rfl (by decide) rfl (Or.inl wd_649) dX10_takesClause_75 ?_
      refine s_ifle (tgt := 85) dX10_takesClause_78 (by decide) ?_ ?_
      · refine s_iconst (x := 0) dX10_takesClause_85 (by decide +kernel) ?_
        refine s_goto (tgt := 154) dX10_takesClause_86 (by decide) ?_
        exact S_R_takesClause_b154
      · refine s_iconst (x := 1) dX10_takesClause_81 (by decide +kernel) ?_
        refine s_goto (tgt := 154) dX10_takesClause_82 (by decide) ?_
        exact S_R_takesClause_b154
    · refine s_iload_n dX10_takesClause_89 rfl ?_
      refine s_bipush (x := 100) dX10_takesClause_90 (by decide +kernel) ?_
      refine s_cmne (tgt := 112) dX10_takesClause_92 (by decide) ?_ ?_
      · refine s_aload_n dX10_takesClause_95 rfl ?_
        refine s_gi (C := RX10) (Tf := TX10) (N := 41) (i := 10) (j := 22) rfl (by decide) rfl (Or.inl wd_652) dX10_takesClause_96 ?_
        refine s_bipush (x := 8) dX10_takesClause_99 (by decide +kernel) ?_
        refine s_cmne (tgt := 108) dX10_takesClause_101 (by decide) ?_ ?_
        · refine s_iconst (x := 1) dX10_takesClause_104 (by decide +kernel) ?_
          refine s_goto (tgt := 154) dX10_takesClause_105 (by decide) ?_
          exact S_R_takesClause_b154
        · refine s_iconst (x := 0) dX10_takesClause_108 (by decide +kernel) ?_
          refine s_goto (tgt := 154) dX10_takesClause_109 (by decide) ?_
          exact S_R_takesClause_b154
      · refine s_iload_n dX10_takesClause_112 rfl ?_
        refine s_bipush (x := 109) dX10_takesClause_113 (by decide +kernel) ?_
        refine s_cmne (tgt := 135) dX10_takesClause_115 (by decide) ?_ ?_
        · refine s_aload_n dX10_takesClause_118 rfl ?_
          refine s_gi (C := RX10) (Tf := TX10) (N := 41) (i := 10) (j := 23) rfl (by decide) rfl (Or.inl wd_654) dX10_takesClause_119 ?_
          refine s_bipush (x := 7) dX10_takesClause_122 (by decide +kernel) ?_
          refine s_cmne (tgt := 131) dX10_takesClause_124 (by decide) ?_ ?_
          · refine s_iconst (x := 1) dX10_takesClause_127 (by decide +kernel) ?_
            refine s_goto (tgt := 154) dX10_takesClause_128 (by decide) ?_
            exact S_R_takesClause_b154
          · refine s_iconst (x := 0) dX10_takesClause_131 (by decide +kernel) ?_
            refine s_goto (tgt := 154) dX10_takesClause_132 (by decide) ?_
            exact S_R_takesClause_b154
        · refine s_iload_n dX10_takesClause_135 rfl ?_
          refine s_bipush (x := 112) dX10_takesClause_136 (by decide +kernel) ?_
          refine s_cmne (tgt := 153) dX10_takesClause_138 (by decide) ?_ ?_
          · refine s_aload_n dX10_takesClause_141 rfl ?_
            refine s_gi (C := RX10) (Tf := TX10) (N := 41) (i := 10) (j := 24) rfl (by decide) rfl (Or.inl wd_658) dX10_takesClause_142 ?_
            refine s_iconst (x := 5) dX10_takesClause_145 (by decide +kernel) ?_
            refine s_cmne (tgt := 153) dX10_takesClause_146 (by decide) ?_ ?_
            · refine s_iconst (x := 1) dX10_takesClause_149 (by decide +kernel) ?_
              refine s_goto (tgt := 154) dX10_takesClause_150 (by decide) ?_
              exact S_R_takesClause_b154
            · exact S_R_takesClause_b153
          · exact S_R_takesClause_b153
def R_takesClause_b48 : ak_K := (k_ci 1 R_takesClause_b53)
theorem S_R_takesClause_b48 : ak_S cX10_takesClause RX10 4 2 5 107 (0, fun _ => 0) 48 (R_takesClause_b48) := by
  unfold R_takesClause_b48
  refine s_iconst (x := 1) dX10_takesClause_48 (by decide +kernel) ?_
  refine s_goto (tgt := 53) dX10_takesClause_49 (by decide) ?_
  exact S_R_takesClause_b53
def R_takesClause_b52 : ak_K := (k_ci 0 R_takesClause_b53)
theorem S_R_takesClause_b52 : ak_S cX10_takesClause RX10 4 2 5 107 (0, fun _ => 0) 52 (R_takesClause_b52) := by
  unfold R_takesClause_b52
  refine s_iconst (x := 0) dX10_takesClause_52 (by decide +kernel) ?_
  exact S_R_takesClause_b53
def R_takesClause_b0 : ak_K := (k_al 0 (k_cv 10 1 R_here (k_is 1 (k_il 1 (k_ci 104 (k_cmeq R_takesClause_b48 (k_al 0 (k_gi 10 20 (k_ifle R_takesClause_b52 (k_il 1 (k_ci 100 (k_cmeq R_takesClause_b48 (k_il 1 (k_ci 109 (k_cmeq R_takesClause_b48 (k_il 1 (k_ci 111 (k_cmeq R_takesClause_b48 (k_il 1 (k_ci 98 (k_cmeq R_takesClause_b48 (k_il 1 (k_ci 112 (k_cmeq R_takesClause_b48 R_takesClause_b52))))))))))))))))))))))))
theorem S_R_takesClause_b0 : ak_S cX10_takesClause RX10 4 2 5 107 (0, fun _ => 0) 0 (R_takesClause_b0) := by
  unfold R_takesClause_b0
  refine s_aload_n dX10_takesClause_0 rfl ?_
  refine s_cv (C := RX10) (Tf := TX10) (N := 41) (i := 10) rfl M_R_here dX10_takesClause_1 rfl ⟨by decide +kernel, by decide +kernel, by decide +kernel⟩ (by decide) wd_636 wd_637 wd_610 (Or.inl wd_635) ?_
  refine s_istore_n dX10_takesClause_4 rfl (by decide) ?_
  refine s_iload_n dX10_takesClause_5 rfl ?_
  refine s_bipush (x := 104) dX10_takesClause_6 (by decide +kernel) ?_
  refine s_cmeq (tgt := 48) dX10_takesClause_8 (by decide) ?_ ?_
  · exact S_R_takesClause_b48
  · refine s_aload_n dX10_takesClause_11 rfl ?_
    refine s_gi (C := RX10) (Tf := TX10) (N := 41) (i := 10) (j := 20) rfl (by decide) rfl (Or.inl wd_649) dX10_takesClause_12 ?_
    refine s_ifle (tgt := 52) dX10_takesClause_15 (by decide) ?_ ?_
    · exact S_R_takesClause_b52
    · refine s_iload_n dX10_takesClause_18 rfl ?_
      refine s_bipush (x := 100) dX10_takesClause_19 (by decide +kernel) ?_
      refine s_cmeq (tgt := 48) dX10_takesClause_21 (by decide) ?_ ?_
      · exact S_R_takesClause_b48
      · refine s_iload_n dX10_takesClause_24 rfl ?_
        refine s_bipush (x := 109) dX10_takesClause_25 (by decide +kernel) ?_
        refine s_cmeq (tgt := 48) dX10_takesClause_27 (by decide) ?_ ?_
        · exact S_R_takesClause_b48
        · refine s_iload_n dX10_takesClause_30 rfl ?_
          refine s_bipush (x := 111) dX10_takesClause_31 (by decide +kernel) ?_
          refine s_cmeq (tgt := 48) dX10_takesClause_33 (by decide) ?_ ?_
          · exact S_R_takesClause_b48
          · refine s_iload_n dX10_takesClause_36 rfl ?_
            refine s_bipush (x := 98) dX10_takesClause_37 (by decide +kernel) ?_
            refine s_cmeq (tgt := 48) dX10_takesClause_39 (by decide) ?_ ?_
            · exact S_R_takesClause_b48
            · refine s_iload_n dX10_takesClause_42 rfl ?_
              refine s_bipush (x := 112) dX10_takesClause_43 (by decide +kernel) ?_
              refine s_cmne (tgt := 52) dX10_takesClause_45 (by decide) ?_ ?_
              · exact S_R_takesClause_b48
              · exact S_R_takesClause_b52
def R_takesClause (As : List Value) (M : ak_M) : ak_R := match As with
  | [.ref a] => R_takesClause_b0 [some (.ref a), none, none, none] [] M
  | _ => none
theorem M_R_takesClause : ak_Mt yX10_takesClause cX10_takesClause 4 (some .boolean) 5 107 R_takesClause := by
  refine ak_met (rk := 2) wd_685 (by decide +kernel) rfl (Or.inr (Or.inr (Or.inl ⟨rfl, rfl⟩))) (fun h => absurd h (by decide)) S_R_takesClause_b0 (fun As M r h => ?_)
  unfold R_takesClause at h
  split at h
  next => exact ⟨Nat.le_of_ble_eq_true rfl, 3, h⟩
  next => cases h
-- GreetedMirrorsModel.house()I
def R_house_b377 : ak_K := (k_al 0 (k_gp 10 1 (k_ci 0 (k_ci 0 (k_zst (k_al 0 (k_gp 10 1 (k_ci 1 (k_ci 0 (k_zst (k_al 0 (k_gi 10 5 k_ri))))))))))))
theorem S_R_house_b377 : ak_S cX10_house RX10 4 1 6 130 (0, fun _ => 0) 377 (R_house_b377) := by
  unfold R_house_b377
  refine s_aload_n dX10_house_377 rfl ?_
  refine s_gp (C := RX10) (Tf := TX10) (N := 41) (i := 10) (j := 1) rfl (by decide) rfl (Or.inl wd_600) dX10_house_378 ?_
  refine s_iconst (x := 0) dX10_house_381 (by decide +kernel) ?_
  refine s_iconst (x := 0) dX10_house_382 (by decide +kernel) ?_
  refine s_zst dX10_house_383 ?_
  refine s_aload_n dX10_house_384 rfl ?_
  refine s_gp (C := RX10) (Tf := TX10) (N := 41) (i := 10) (j := 1) rfl (by decide) rfl (Or.inl wd_600) dX10_house_385 ?_
  refine s_iconst (x := 1) dX10_house_388 (by decide +kernel) ?_
  refine s_iconst (x := 0) dX10_house_389 (by decide +kernel) ?_
  refine s_zst dX10_house_390 ?_
  refine s_aload_n dX10_house_391 rfl ?_
  refine s_gi (C := RX10) (Tf := TX10) (N := 41) (i := 10) (j := 5) rfl (by decide) rfl (Or.inl wd_615) dX10_house_392 ?_
  exact s_ri rfl dX10_house_395
def R_house_b315 (h315 : ak_K) : ak_K := (k_il 3 (k_al 0 (k_gi 10 6 (k_cmge (k_al 0 (k_gp 10 0 (k_ci 1 (k_al 0 (k_gi 10 21 (k_ast (k_al 0 (k_gp 10 0 (k_ci 34 (k_il 2 (k_ast (k_al 0 (k_ci 0 (k_pi 10 34 (k_al 0 (k_ci 0 (k_pi 10 38 (k_al 0 (k_ci 0 (k_pi 10 2 R_house_b377)))))))))))))))))))) (k_al 0 (k_gp 10 0 (k_ci 29 (k_il 3 (k_b (fun x y => x + y) (k_al 0 (k_gp 10 31 (k_il 3 (k_ald (k_ast (k_ii 3 1 h315)))))))))))))))
theorem S_R_house_b315 {h315 : ak_K} (H315 : ak_S cX10_house RX10 4 1 6 130 (0, fun _ => 0) 315 h315) : ak_S cX10_house RX10 4 1 6 130 (0, fun _ => 0) 315 (R_house_b315 h315) := by
  unfold R_house_b315
  refine s_iload_n dX10_house_315 rfl ?_
  refine s_aload_n dX10_house_316 rfl ?_
  refine s_gi (C := RX10) (Tf := TX10) (N := 41) (i := 10) (j := 6) rfl (by decide) rfl (Or.inl wd_617) dX10_house_317 ?_
  refine s_cmge (tgt := 344) dX10_house_320 (by decide) ?_ ?_
  · refine s_aload_n dX10_house_344 rfl ?_
    refine s_gp (C := RX10) (Tf := TX10) (N := 41) (i := 10) (j := 0) rfl (by decide) rfl (Or.inl wd_578) dX10_house_345 ?_
    refine s_iconst (x := 1) dX10_house_348 (by decide +kernel) ?_
    refine s_aload_n dX10_house_349 rfl ?_
    refine s_gi (C := RX10) (Tf := TX10) (N := 41) (i := 10) (j := 21) rfl (by decide) rfl (Or.inl wd_650) dX10_house_350 ?_
    refine s_ast dX10_house_353 ?_
    refine s_aload_n dX10_house_354 rfl ?_
    refine s_gp (C := RX10) (Tf := TX10) (N := 41) (i := 10) (j := 0) rfl (by decide) rfl (Or.inl wd_578) dX10_house_355 ?_
    refine s_bipush (x := 34) dX10_house_358 (by decide +kernel) ?_
    refine s_iload_n dX10_house_360 rfl ?_
    refine s_ast dX10_house_361 ?_
    refine s_aload_n dX10_house_362 rfl ?_
    refine s_iconst (x := 0) dX10_house_363 (by decide +kernel) ?_
    refine s_pi (C := RX10) (Tf := TX10) (N := 41) (i := 10) (j := 34) rfl (by decide) rfl (Or.inl ⟨wd_686, Or.inl rfl⟩) dX10_house_364 ?_
    refine s_aload_n dX10_house_367 rfl ?_
    refine s_iconst (x := 0) dX10_house_368 (by decide +kernel) ?_
    refine s_pi (C := RX10) (Tf := TX10) (N := 41) (i := 10) (j := 38) rfl (by decide) rfl (Or.inl ⟨wd_687, Or.inl rfl⟩) dX10_house_369 ?_
    refine s_aload_n dX10_house_372 rfl ?_
    refine s_iconst (x := 0) dX10_house_373 (by decide +kernel) ?_
    refine s_pi (C := RX10) (Tf := TX10) (N := 41) (i := 10) (j := 2) rfl (by decide) rfl (Or.inl ⟨wd_688, Or.inl rfl⟩) dX10_house_374 ?_
    exact S_R_house_b377
  · refine s_aload_n dX10_house_323 rfl ?_
    refine s_gp (C := RX10) (Tf := TX10) (N := 41) (i := 10) (j := 0) rfl (by decide) rfl (Or.inl wd_578) dX10_house_324 ?_
    refine s_bipush (x := 29) dX10_house_327 (by decide +kernel) ?_
    refine s_iload_n dX10_house_329 rfl ?_
    refine s_iadd dX10_house_330 ?_
    refine s_aload_n dX10_house_331 rfl ?_
    refine s_gp (C := RX10) (Tf := TX10) (N := 41) (i := 10) (j := 31) rfl (by decide) rfl (Or.inl wd_592) dX10_house_332 ?_
    refine s_iload_n dX10_house_335 rfl ?_
    refine s_ald dX10_house_336 ?_
    refine s_ast dX10_house_337 ?_
    refine s_iinc (y := 1) dX10_house_338 (by decide +kernel) (by decide) ?_
    refine s_goto (tgt := 315) dX10_house_341 (by decide) ?_
    exact H315
def R_house_l315 : Nat → ak_K
  | 0 => k_no
  | n + 1 => R_house_b315 (R_house_l315 n)
theorem S_R_house_l315 : ∀ n : Nat, ak_S cX10_house RX10 4 1 6 130 (0, fun _ => 0) 315 (R_house_l315 n)
  | 0 => s_no
  | n + 1 => S_R_house_b315 (S_R_house_l315 n)
def R_house_b306 (h276 : ak_K) : ak_K := (k_ast (k_ii 3 1 h276))
theorem S_R_house_b306 {h276 : ak_K} (H276 : ak_S cX10_house RX10 4 1 6 130 (0, fun _ => 0) 276 h276) : ak_S cX10_house RX10 4 1 6 130 (0, fun _ => 0) 306 (R_house_b306 h276) := by
  unfold R_house_b306
  refine s_ast dX10_house_306 ?_
  refine s_iinc (y := 1) dX10_house_307 (by decide +kernel) (by decide) ?_
  refine s_goto (tgt := 276) dX10_house_310 (by decide) ?_
  exact H276
def R_house_b276 (h276 : ak_K) : ak_K := (k_il 3 (k_ci 10 (k_cmge (k_ci 0 (k_is 3 (R_house_l315 ak_fuel))) (k_al 0 (k_gp 10 12 (k_il 3 (k_al 0 (k_gp 10 30 (k_il 3 (k_ald (k_ifeq (k_ci 1 (R_house_b306 h276)) (k_al 0 (k_gp 10 30 (k_il 3 (k_ald (R_house_b306 h276))))))))))))))))
theorem S_R_house_b276 {h276 : ak_K} (H276 : ak_S cX10_house RX10 4 1 6 130 (0, fun _ => 0) 276 h276) : ak_S cX10_house RX10 4 1 6 130 (0, fun _ => 0) 276 (R_house_b276 h276) := by
  unfold R_house_b276
  refine s_iload_n dX10_house_276 rfl ?_
  refine s_bipush (x := 10) dX10_house_277 (by decide +kernel) ?_
  refine s_cmge (tgt := 313) dX10_house_279 (by decide) ?_ ?_
  · refine s_iconst (x := 0) dX10_house_313 (by decide +kernel) ?_
    refine s_istore_n dX10_house_314 rfl (by decide) ?_
    exact (S_R_house_l315 ak_fuel)
  · refine s_aload_n dX10_house_282 rfl ?_
    refine s_gp (C := RX10) (Tf := TX10) (N := 41) (i := 10) (j := 12) rfl (by decide) rfl (Or.inl wd_595) dX10_house_283 ?_
    refine s_iload_n dX10_house_286 rfl ?_
    refine s_aload_n dX10_house_287 rfl ?_
    refine s_gp (C := RX10) (Tf := TX10) (N := 41) (i := 10) (j := 30) rfl (by decide) rfl (Or.inl wd_591) dX10_house_288 ?_
    refine s_iload_n dX10_house_291 rfl ?_
    refine s_ald dX10_house_292 ?_
    refine s_ifne (tgt := 300) dX10_house_293 (by decide) ?_ ?_
    · refine s_iconst (x := 1) dX10_house_296 (by decide +kernel) ?_
      refine s_goto (tgt := 306) dX10_house_297 (by decide) ?_
      exact (S_R_house_b306 H276)
    · refine s_aload_n dX10_house_300 rfl ?_
      refine s_gp (C := RX10) (Tf := TX10) (N := 41) (i := 10) (j := 30) rfl (by decide) rfl (Or.inl wd_591) dX10_house_301 ?_
      refine s_iload_n dX10_house_304 rfl ?_
      refine s_ald dX10_house_305 ?_
      exact (S_R_house_b306 H276)
def R_house_l276 : Nat → ak_K
  | 0 => k_no
  | n + 1 => R_house_b276 (R_house_l276 n)
theorem S_R_house_l276 : ∀ n : Nat, ak_S cX10_house RX10 4 1 6 130 (0, fun _ => 0) 276 (R_house_l276 n)
  | 0 => s_no
  | n + 1 => S_R_house_b276 (S_R_house_l276 n)
def R_house_b240 (h201 : ak_K) : ak_K := (k_il 3 (k_ald (k_ast (k_al 0 (k_gp 10 0 (k_ci 8 (k_il 3 (k_b (fun x y => x + y) (k_al 0 (k_gp 10 28 (k_il 3 (k_ald (k_ast (k_al 0 (k_gp 10 0 (k_ci 15 (k_il 3 (k_b (fun x y => x + y) (k_ci (-1) (k_ast (k_ii 3 1 h201)))))))))))))))))))))
theorem S_R_house_b240 {h201 : ak_K} (H201 : ak_S cX10_house RX10 4 1 6 130 (0, fun _ => 0) 201 h201) : ak_S cX10_house RX10 4 1 6 130 (0, fun _ => 0) 240 (R_house_b240 h201) := by
  unfold R_house_b240
  refine s_iload_n dX10_house_240 rfl ?_
  refine s_ald dX10_house_241 ?_
  refine s_ast dX10_house_242 ?_
  refine s_aload_n dX10_house_243 rfl ?_
  refine s_gp (C := RX10) (Tf := TX10) (N := 41) (i := 10) (j := 0) rfl (by decide) rfl (Or.inl wd_578) dX10_house_244 ?_
  refine s_bipush (x := 8) dX10_house_247 (by decide +kernel) ?_
  refine s_iload_n dX10_house_249 rfl ?_
  refine s_iadd dX10_house_250 ?_
  refine s_aload_n dX10_house_251 rfl ?_
  refine s_gp (C := RX10) (Tf := TX10) (N := 41) (i := 10) (j := 28) rfl (by decide) rfl (Or.inl wd_589) dX10_house_252 ?_
  refine s_iload_n dX10_house_255 rfl ?_
  refine s_ald dX10_house_256 ?_
  refine s_ast dX10_house_257 ?_
  refine s_aload_n dX10_house_258 rfl ?_
  refine s_gp (C := RX10) (Tf := TX10) (N := 41) (i := 10) (j := 0) rfl (by decide) rfl (Or.inl wd_578) dX10_house_259 ?_
  refine s_bipush (x := 15) dX10_house_262 (by decide +kernel) ?_
  refine s_iload_n dX10_house_264 rfl ?_
  refine s_iadd dX10_house_265 ?_
  refine s_iconst (x := (-1)) dX10_house_266 (by decide +kernel) ?_
  refine s_ast dX10_house_267 ?_
  refine s_iinc (y := 1) dX10_house_268 (by decide +kernel) (by decide) ?_
  refine s_goto (tgt := 201) dX10_house_271 (by decide) ?_
  exact H201
def R_house_b201 (h201 : ak_K) : ak_K := (k_il 3 (k_ci 7 (k_cmge (k_ci 0 (k_is 3 (R_house_l276 ak_fuel))) (k_al 0 (k_gp 10 9 (k_il 3 (k_al 0 (k_gp 10 27 (k_il 3 (k_ald (k_ast (k_al 0 (k_gp 10 10 (k_il 3 (k_al 0 (k_gp 10 28 (k_il 3 (k_ald (k_ast (k_al 0 (k_gp 10 11 (k_il 3 (k_al 0 (k_gp 10 29 (R_house_b240 h201)))))))))))))))))))))))))
theorem S_R_house_b201 {h201 : ak_K} (H201 : ak_S cX10_house RX10 4 1 6 130 (0, fun _ => 0) 201 h201) : ak_S cX10_house RX10 4 1 6 130 (0, fun _ => 0) 201 (R_house_b201 h201) := by
  unfold R_house_b201
  refine s_iload_n dX10_house_201 rfl ?_
  refine s_bipush (x := 7) dX10_house_202 (by decide +kernel) ?_
  refine s_cmge (tgt := 274) dX10_house_204 (by decide) ?_ ?_
  · refine s_iconst (x := 0) dX10_house_274 (by decide +kernel) ?_
    refine s_istore_n dX10_house_275 rfl (by decide) ?_
    exact (S_R_house_l276 ak_fuel)
  · refine s_aload_n dX10_house_207 rfl ?_
    refine s_gp (C := RX10) (Tf := TX10) (N := 41) (i := 10) (j := 9) rfl (by decide) rfl (Or.inl wd_603) dX10_house_208 ?_
    refine s_iload_n dX10_house_211 rfl ?_
    refine s_aload_n dX10_house_212 rfl ?_
    refine s_gp (C := RX10) (Tf := TX10) (N := 41) (i := 10) (j := 27) rfl (by decide) rfl (Or.inl wd_588) dX10_house_213 ?_
    refine s_iload_n dX10_house_216 rfl ?_
    refine s_ald dX10_house_217 ?_
    refine s_ast dX10_house_218 ?_
    refine s_aload_n dX10_house_219 rfl ?_
    refine s_gp (C := RX10) (Tf := TX10) (N := 41) (i := 10) (j := 10) rfl (by decide) rfl (Or.inl wd_593) dX10_house_220 ?_
    refine s_iload_n dX10_house_223 rfl ?_
    refine s_aload_n dX10_house_224 rfl ?_
    refine s_gp (C := RX10) (Tf := TX10) (N := 41) (i := 10) (j := 28) rfl (by decide) rfl (Or.inl wd_589) dX10_house_225 ?_
    refine s_iload_n dX10_house_228 rfl ?_
    refine s_ald dX10_house_229 ?_
    refine s_ast dX10_house_230 ?_
    refine s_aload_n dX10_house_231 rfl ?_
    refine s_gp (C := RX10) (Tf := TX10) (N := 41) (i := 10) (j := 11) rfl (by decide) rfl (Or.inl wd_594) dX10_house_232 ?_
    refine s_iload_n dX10_house_235 rfl ?_
    refine s_aload_n dX10_house_236 rfl ?_
    refine s_gp (C := RX10) (Tf := TX10) (N := 41) (i := 10) (j := 29) rfl (by decide) rfl (Or.inl wd_590) dX10_house_237 ?_
    exact (S_R_house_b240 H201)
def R_house_l201 : Nat → ak_K
  | 0 => k_no
  | n + 1 => R_house_b201 (R_house_l201 n)
theorem S_R_house_l201 : ∀ n : Nat, ak_S cX10_house RX10 4 1 6 130 (0, fun _ => 0) 201 (R_house_l201 n)
  | 0 => s_no
  | n + 1 => S_R_house_b201 (S_R_house_l201 n)
def R_house_b163 (h163 : ak_K) : ak_K := (k_il 3 (k_ci 8 (k_cmge (k_ci 0 (k_is 3 (R_house_l201 ak_fuel))) (k_al 0 (k_gp 10 7 (k_il 3 (k_al 0 (k_gp 10 25 (k_il 3 (k_ald (k_ast (k_al 0 (k_gp 10 8 (k_il 3 (k_al 0 (k_gp 10 26 (k_il 3 (k_ald (k_ast (k_ii 3 1 h163))))))))))))))))))))
theorem S_R_house_b163 {h163 : ak_K} (H163 : ak_S cX10_house RX10 4 1 6 130 (0, fun _ => 0) 163 h163) : ak_S cX10_house RX10 4 1 6 130 (0, fun _ => 0) 163 (R_house_b163 h163) := by
  unfold R_house_b163
  refine s_iload_n dX10_house_163 rfl ?_
  refine s_bipush (x := 8) dX10_house_164 (by decide +kernel) ?_
  refine s_cmge (tgt := 199) dX10_house_166 (by decide) ?_ ?_
  · refine s_iconst (x := 0) dX10_house_199 (by decide +kernel) ?_
    refine s_istore_n dX10_house_200 rfl (by decide) ?_
    exact (S_R_house_l201 ak_fuel)
  · refine s_aload_n dX10_house_169 rfl ?_
    refine s_gp (C := RX10) (Tf := TX10) (N := 41) (i := 10) (j := 7) rfl (by decide) rfl (Or.inl wd_601) dX10_house_170 ?_
    refine s_iload_n dX10_house_173 rfl ?_
    refine s_aload_n dX10_house_174 rfl ?_
    refine s_gp (C := RX10) (Tf := TX10) (N := 41) (i := 10) (j := 25) rfl (by decide) rfl (Or.inl wd_598) dX10_house_175 ?_
    refine s_iload_n dX10_house_178 rfl ?_
    refine s_ald dX10_house_179 ?_
    refine s_ast dX10_house_180 ?_
    refine s_aload_n dX10_house_181 rfl ?_
    refine s_gp (C := RX10) (Tf := TX10) (N := 41) (i := 10) (j := 8) rfl (by decide) rfl (Or.inl wd_602) dX10_house_182 ?_
    refine s_iload_n dX10_house_185 rfl ?_
    refine s_aload_n dX10_house_186 rfl ?_
    refine s_gp (C := RX10) (Tf := TX10) (N := 41) (i := 10) (j := 26) rfl (by decide) rfl (Or.inl wd_587) dX10_house_187 ?_
    refine s_iload_n dX10_house_190 rfl ?_
    refine s_ald dX10_house_191 ?_
    refine s_ast dX10_house_192 ?_
    refine s_iinc (y := 1) dX10_house_193 (by decide +kernel) (by decide) ?_
    refine s_goto (tgt := 163) dX10_house_196 (by decide) ?_
    exact H163
def R_house_l163 : Nat → ak_K
  | 0 => k_no
  | n + 1 => R_house_b163 (R_house_l163 n)
theorem S_R_house_l163 : ∀ n : Nat, ak_S cX10_house RX10 4 1 6 130 (0, fun _ => 0) 163 (R_house_l163 n)
  | 0 => s_no
  | n + 1 => S_R_house_b163 (S_R_house_l163 n)
def R_house_b110 (h110 : ak_K) : ak_K := (k_il 3 (k_ci 35 (k_cmge (k_al 0 (k_al 0 (k_gi 10 20 (k_pi 10 3 (k_al 0 (k_al 0 (k_gi 10 22 (k_pi 10 4 (k_al 0 (k_al 0 (k_gi 10 23 (k_pi 10 5 (k_al 0 (k_al 0 (k_gi 10 24 (k_pi 10 6 (k_ci 0 (k_is 3 (R_house_l163 ak_fuel))))))))))))))))))) (k_al 0 (k_gp 10 0 (k_il 3 (k_ci 0 (k_ast (k_ii 3 1 h110)))))))))
theorem S_R_house_b110 {h110 : ak_K} (H110 : ak_S cX10_house RX10 4 1 6 130 (0, fun _ => 0) 110 h110) : ak_S cX10_house RX10 4 1 6 130 (0, fun _ => 0) 110 (R_house_b110 h110) := by
  unfold R_house_b110
  refine s_iload_n dX10_house_110 rfl ?_
  refine s_bipush (x := 35) dX10_house_111 (by decide +kernel) ?_
  refine s_cmge (tgt := 129) dX10_house_113 (by decide) ?_ ?_
  · refine s_aload_n dX10_house_129 rfl ?_
    refine s_aload_n dX10_house_130 rfl ?_
    refine s_gi (C := RX10) (Tf := TX10) (N := 41) (i := 10) (j := 20) rfl (by decide) rfl (Or.inl wd_649) dX10_house_131 ?_
    refine s_pi (C := RX10) (Tf := TX10) (N := 41) (i := 10) (j := 3) rfl (by decide) rfl (Or.inl ⟨wd_608, Or.inl rfl⟩) dX10_house_134 ?_
    refine s_aload_n dX10_house_137 rfl ?_
    refine s_aload_n dX10_house_138 rfl ?_
    refine s_gi (C := RX10) (Tf := TX10) (N := 41) (i := 10) (j := 22) rfl (by decide) rfl (Or.inl wd_652) dX10_house_139 ?_
    refine s_pi (C := RX10) (Tf := TX10) (N := 41) (i := 10) (j := 4) rfl (by decide) rfl (Or.inl ⟨wd_613, Or.inl rfl⟩) dX10_house_142 ?_
    refine s_aload_n dX10_house_145 rfl ?_
    refine s_aload_n dX10_house_146 rfl ?_
    refine s_gi (C := RX10) (Tf := TX10) (N := 41) (i := 10) (j := 23) rfl (by decide) rfl (Or.inl wd_654) dX10_house_147 ?_
    refine s_pi (C := RX10) (Tf := TX10) (N := 41) (i := 10) (j := 5) rfl (by decide) rfl (Or.inl ⟨wd_615, Or.inl rfl⟩) dX10_house_150 ?_
    refine s_aload_n dX10_house_153 rfl ?_
    refine s_aload_n dX10_house_154 rfl ?_
    refine s_gi (C := RX10) (Tf := TX10) (N := 41) (i := 10) (j := 24) rfl (by decide) rfl (Or.inl wd_658) dX10_house_155 ?_
    refine s_pi (C := RX10) (Tf := TX10) (N := 41) (i := 10) (j := 6) rfl (by decide) rfl (Or.inl ⟨wd_617, Or.inl rfl⟩) dX10_house_158 ?_
    refine s_iconst (x := 0) dX10_house_161 (by decide +kernel) ?_
    refine s_istore_n dX10_house_162 rfl (by decide) ?_
    exact (S_R_house_l163 ak_fuel)
  · refine s_aload_n dX10_house_116 rfl ?_
    refine s_gp (C := RX10) (Tf := TX10) (N := 41) (i := 10) (j := 0) rfl (by decide) rfl (Or.inl wd_578) dX10_house_117 ?_
    refine s_iload_n dX10_house_120 rfl ?_
    refine s_iconst (x := 0) dX10_house_121 (by decide +kernel) ?_
    refine s_ast dX10_house_122 ?_
    refine s_iinc (y := 1) dX10_house_123 (by decide +kernel) (by decide) ?_
    refine s_goto (tgt := 110) dX10_house_126 (by decide) ?_
    exact H110
def R_house_l110 : Nat → ak_K
  | 0 => k_no
  | n + 1 => R_house_b110 (R_house_l110 n)
theorem S_R_house_l110 : ∀ n : Nat, ak_S cX10_house RX10 4 1 6 130 (0, fun _ => 0) 110 (R_house_l110 n)
  | 0 => s_no
  | n + 1 => S_R_house_b110 (S_R_house_l110 n)
def R_house_b83 : ak_K := (k_al 0 (k_ci 0 (k_pi 10 14 (k_il 1 (k_ifeq (k_ci (-10) (k_al 0 (k_gi 10 18 (k_b (fun x y => x - y) k_ri)))) (k_al 0 (k_gp 10 0 (k_ci 34 (k_ald (k_is 2 (k_ci 0 (k_is 3 (R_house_l110 ak_fuel)))))))))))))
theorem S_R_house_b83 : ak_S cX10_house RX10 4 1 6 130 (0, fun _ => 0) 83 (R_house_b83) := by
  unfold R_house_b83
  refine s_aload_n dX10_house_83 rfl ?_
  refine s_iconst (x := 0) dX10_house_84 (by decide +kernel) ?_
  refine s_pi (C := RX10) (Tf := TX10) (N := 41) (i := 10) (j := 14) rfl (by decide) rfl (Or.inl ⟨wd_623, Or.inl rfl⟩) dX10_house_85 ?_
  refine s_iload_n dX10_house_88 rfl ?_
  refine s_ifne (tgt := 100) dX10_house_89 (by decide) ?_ ?_
  · refine s_bipush (x := (-10)) dX10_house_92 (by decide +kernel) ?_
    refine s_aload_n dX10_house_94 rfl ?_
    refine s_gi (C := RX10) (Tf := TX10) (N := 41) (i := 10) (j := 18) rfl (by decide) rfl (Or.inl wd_633) dX10_house_95 ?_
    refine s_isub dX10_house_98 ?_
    exact s_ri rfl dX10_house_99
  · refine s_aload_n dX10_house_100 rfl ?_
    refine s_gp (C := RX10) (Tf := TX10) (N := 41) (i := 10) (j := 0) rfl (by decide) rfl (Or.inl wd_578) dX10_house_101 ?_
    refine s_bipush (x := 34) dX10_house_104 (by decide +kernel) ?_
    refine s_ald dX10_house_106 ?_
    refine s_istore_n dX10_house_107 rfl (by decide) ?_
    refine s_iconst (x := 0) dX10_house_108 (by decide +kernel) ?_
    refine s_istore_n dX10_house_109 rfl (by decide) ?_
    exact (S_R_house_l110 ak_fuel)
def R_house_b63 (h63 : ak_K) : ak_K := (k_il 1 (k_ifeq R_house_b83 (k_al 0 (k_cv 10 1 R_here (k_ci (-1) (k_cmeq R_house_b83 (k_al 0 (k_cv 10 1 R_takesClause (k_is 1 h63)))))))))
theorem S_R_house_b63 {h63 : ak_K} (H63 : ak_S cX10_house RX10 4 1 6 130 (0, fun _ => 0) 63 h63) : ak_S cX10_house RX10 4 1 6 130 (0, fun _ => 0) 63 (R_house_b63 h63) := by
  unfold R_house_b63
  refine s_iload_n dX10_house_63 rfl ?_
  refine s_ifeq (tgt := 83) dX10_house_64 (by decide) ?_ ?_
  · exact S_R_house_b83
  · refine s_aload_n dX10_house_67 rfl ?_
    refine s_cv (C := RX10) (Tf := TX10) (N := 41) (i := 10) rfl M_R_here dX10_house_68 rfl ⟨by decide +kernel, by decide +kernel, by decide +kernel⟩ (by decide) wd_636 wd_637 wd_610 (Or.inl wd_635) ?_
    refine s_iconst (x := (-1)) dX10_house_71 (by decide +kernel) ?_
    refine s_cmeq (tgt := 83) dX10_house_72 (by decide) ?_ ?_
    · exact S_R_house_b83
    · refine s_aload_n dX10_house_75 rfl ?_
      refine s_cv (C := RX10) (Tf := TX10) (N := 41) (i := 10) rfl M_R_takesClause dX10_house_76 rfl ⟨by decide +kernel, by decide +kernel, by decide +kernel⟩ (by decide) wd_690 wd_691 wd_610 (Or.inl wd_689) ?_
      refine s_istore_n dX10_house_79 rfl (by decide) ?_
      refine s_goto (tgt := 63) dX10_house_80 (by decide) ?_
      exact H63
def R_house_l63 : Nat → ak_K
  | 0 => k_no
  | n + 1 => R_house_b63 (R_house_l63 n)
theorem S_R_house_l63 : ∀ n : Nat, ak_S cX10_house RX10 4 1 6 130 (0, fun _ => 0) 63 (R_house_l63 n)
  | 0 => s_no
  | n + 1 => S_R_house_b63 (S_R_house_l63 n)
def R_house_b42 (h42 : ak_K) : ak_K := (k_il 1 (k_ci 10 (k_cmge (k_ci 1 (k_is 1 (R_house_l63 ak_fuel))) (k_al 0 (k_gp 10 30 (k_il 1 (k_ci 0 (k_ast (k_ii 1 1 h42)))))))))
theorem S_R_house_b42 {h42 : ak_K} (H42 : ak_S cX10_house RX10 4 1 6 130 (0, fun _ => 0) 42 h42) : ak_S cX10_house RX10 4 1 6 130 (0, fun _ => 0) 42 (R_house_b42 h42) := by
  unfold R_house_b42
  refine s_iload_n dX10_house_42 rfl ?_
  refine s_bipush (x := 10) dX10_house_43 (by decide +kernel) ?_
  refine s_cmge (tgt := 61) dX10_house_45 (by decide) ?_ ?_
  · refine s_iconst (x := 1) dX10_house_61 (by decide +kernel) ?_
    refine s_istore_n dX10_house_62 rfl (by decide) ?_
    exact (S_R_house_l63 ak_fuel)
  · refine s_aload_n dX10_house_48 rfl ?_
    refine s_gp (C := RX10) (Tf := TX10) (N := 41) (i := 10) (j := 30) rfl (by decide) rfl (Or.inl wd_591) dX10_house_49 ?_
    refine s_iload_n dX10_house_52 rfl ?_
    refine s_iconst (x := 0) dX10_house_53 (by decide +kernel) ?_
    refine s_ast dX10_house_54 ?_
    refine s_iinc (y := 1) dX10_house_55 (by decide +kernel) (by decide) ?_
    refine s_goto (tgt := 42) dX10_house_58 (by decide) ?_
    exact H42
def R_house_l42 : Nat → ak_K
  | 0 => k_no
  | n + 1 => R_house_b42 (R_house_l42 n)
theorem S_R_house_l42 : ∀ n : Nat, ak_S cX10_house RX10 4 1 6 130 (0, fun _ => 0) 42 (R_house_l42 n)
  | 0 => s_no
  | n + 1 => S_R_house_b42 (S_R_house_l42 n)
def R_house_b40 : ak_K := (k_ci 0 (k_is 1 (R_house_l42 ak_fuel)))
theorem S_R_house_b40 : ak_S cX10_house RX10 4 1 6 130 (0, fun _ => 0) 40 (R_house_b40) := by
  unfold R_house_b40
  refine s_iconst (x := 0) dX10_house_40 (by decide +kernel) ?_
  refine s_istore_n dX10_house_41 rfl (by decide) ?_
  exact (S_R_house_l42 ak_fuel)
def R_house_b0 : ak_K := (k_al 0 (k_ci 0 (k_pi 10 15 (k_al 0 (k_ci 0 (k_pi 10 18 (k_al 0 (k_ci (-1) (k_pi 10 19 (k_al 0 (k_ci 0 (k_pi 10 20 (k_al 0 (k_ci 0 (k_pi 10 21 (k_al 0 (k_ci 0 (k_pi 10 22 (k_al 0 (k_ci 0 (k_pi 10 23 (k_al 0 (k_ci 0 (k_pi 10 24 R_house_b40))))))))))))))))))))))))
theorem S_R_house_b0 : ak_S cX10_house RX10 4 1 6 130 (0, fun _ => 0) 0 (R_house_b0) := by
  unfold R_house_b0
  refine s_aload_n dX10_house_0 rfl ?_
  refine s_iconst (x := 0) dX10_house_1 (by decide +kernel) ?_
  refine s_pi (C := RX10) (Tf := TX10) (N := 41) (i := 10) (j := 15) rfl (by decide) rfl (Or.inl ⟨wd_627, Or.inl rfl⟩) dX10_house_2 ?_
  refine s_aload_n dX10_house_5 rfl ?_
  refine s_iconst (x := 0) dX10_house_6 (by decide +kernel) ?_
  refine s_pi (C := RX10) (Tf := TX10) (N := 41) (i := 10) (j := 18) rfl (by decide) rfl (Or.inl ⟨wd_633, Or.inl rfl⟩) dX10_house_7 ?_
  refine s_aload_n dX10_house_10 rfl ?_
  refine s_iconst (x := (-1)) dX10_house_11 (by decide +kernel) ?_
  refine s_pi (C := RX10) (Tf := TX10) (N := 41) (i := 10) (j := 19) rfl (by decide) rfl (Or.inl ⟨wd_597, Or.inl rfl⟩) dX10_house_12 ?_
  refine s_aload_n dX10_house_15 rfl ?_
  refine s_iconst (x := 0) dX10_house_16 (by decide +kernel) ?_
  refine s_pi (C := RX10) (Tf := TX10) (N := 41) (i := 10) (j := 20) rfl (by decide) rfl (Or.inl ⟨wd_649, Or.inl rfl⟩) dX10_house_17 ?_
  refine s_aload_n dX10_house_20 rfl ?_
  refine s_iconst (x := 0) dX10_house_21 (by decide +kernel) ?_
  refine s_pi (C := RX10) (Tf := TX10) (N := 41) (i := 10) (j := 21) rfl (by decide) rfl (Or.inl ⟨wd_650, Or.inl rfl⟩) dX10_house_22 ?_
  refine s_aload_n dX10_house_25 rfl ?_
  refine s_iconst (x := 0) dX10_house_26 (by decide +kernel) ?_
  refine s_pi (C := RX10) (Tf := TX10) (N := 41) (i := 10) (j := 22) rfl (by decide) rfl (Or.inl ⟨wd_652, Or.inl rfl⟩) dX10_house_27 ?_
  refine s_aload_n dX10_house_30 rfl ?_
  refine s_iconst (x := 0) dX10_house_31 (by decide +kernel) ?_
  refine s_pi (C := RX10) (Tf := TX10) (N := 41) (i := 10) (j := 23) rfl (by decide) rfl (Or.inl ⟨wd_654, Or.inl rfl⟩) dX10_house_32 ?_
  refine s_aload_n dX10_house_35 rfl ?_
  refine s_iconst (x := 0) dX10_house_36 (by decide +kernel) ?_
  refine s_pi (C := RX10) (Tf := TX10) (N := 41) (i := 10) (j := 24) rfl (by decide) rfl (Or.inl ⟨wd_658, Or.inl rfl⟩) dX10_house_37 ?_
  exact S_R_house_b40
def R_house (As : List Value) (M : ak_M) : ak_R := match As with
  | [.ref a] => R_house_b0 [some (.ref a), none, none, none] [] M
  | _ => none
theorem M_R_house : ak_Mt yX10_house cX10_house 4 (some .int) 6 130 R_house := by
  refine ak_met (rk := 1) wd_692 (by decide +kernel) rfl (Or.inr (Or.inl ⟨rfl, rfl⟩)) (fun h => absurd h (by decide)) S_R_house_b0 (fun As M r h => ?_)
  unfold R_house at h
  split at h
  next => exact ⟨Nat.le_of_ble_eq_true rfl, 3, h⟩
  next => cases h
-- GreetedMirrorsModel.fault()I
def R_fault_b0 : ak_K := (k_al 0 (k_gi 10 19 k_ri))
theorem S_R_fault_b0 : ak_S cX10_fault RX10 1 1 0 0 (0, fun _ => 0) 0 (R_fault_b0) := by
  unfold R_fault_b0
  refine s_aload_n dX10_fault_0 rfl ?_
  refine s_gi (C := RX10) (Tf := TX10) (N := 41) (i := 10) (j := 19) rfl (by decide) rfl (Or.inl wd_597) dX10_fault_1 ?_
  exact s_ri rfl dX10_fault_4
def R_fault (As : List Value) (M : ak_M) : ak_R := match As with
  | [.ref a] => R_fault_b0 [some (.ref a)] [] M
  | _ => none
theorem M_R_fault : ak_Mt yX10_fault cX10_fault 1 (some .int) 0 0 R_fault := by
  refine ak_met (rk := 1) wd_693 (by decide +kernel) rfl (Or.inr (Or.inl ⟨rfl, rfl⟩)) (fun h => absurd h (by decide)) S_R_fault_b0 (fun As M r h => ?_)
  unfold R_fault at h
  split at h
  next => exact ⟨Nat.le_of_ble_eq_true rfl, 0, h⟩
  next => cases h
-- GreetedMirrorsModel.told(I)I
def R_told_b80 : ak_K := (k_al 0 (k_gi 10 3 k_ri))
theorem S_R_told_b80 : ak_S cX10_told RX10 2 1 1 25 (0, fun _ => 0) 80 (R_told_b80) := by
  unfold R_told_b80
  refine s_aload_n dX10_told_80 rfl ?_
  refine s_gi (C := RX10) (Tf := TX10) (N := 41) (i := 10) (j := 3) rfl (by decide) rfl (Or.inl wd_608) dX10_told_81 ?_
  exact s_ri rfl dX10_told_84
def R_told_b85 : ak_K := (k_al 0 (k_gi 10 4 k_ri))
theorem S_R_told_b85 : ak_S cX10_told RX10 2 1 1 25 (0, fun _ => 0) 85 (R_told_b85) := by
  unfold R_told_b85
  refine s_aload_n dX10_told_85 rfl ?_
  refine s_gi (C := RX10) (Tf := TX10) (N := 41) (i := 10) (j := 4) rfl (by decide) rfl (Or.inl wd_613) dX10_told_86 ?_
  exact s_ri rfl dX10_told_89
def R_told_b90 : ak_K := (k_al 0 (k_gi 10 5 k_ri))
theorem S_R_told_b90 : ak_S cX10_told RX10 2 1 1 25 (0, fun _ => 0) 90 (R_told_b90) := by
  unfold R_told_b90
  refine s_aload_n dX10_told_90 rfl ?_
  refine s_gi (C := RX10) (Tf := TX10) (N := 41) (i := 10) (j := 5) rfl (by decide) rfl (Or.inl wd_615) dX10_told_91 ?_
  exact s_ri rfl dX10_told_94
def R_told_b95 : ak_K := (k_al 0 (k_gi 10 6 k_ri))
theorem S_R_told_b95 : ak_S cX10_told RX10 2 1 1 25 (0, fun _ => 0) 95 (R_told_b95) := by
  unfold R_told_b95
  refine s_aload_n dX10_told_95 rfl ?_
  refine s_gi (C := RX10) (Tf := TX10) (N := 41) (i := 10) (j := 6) rfl (by decide) rfl (Or.inl wd_617) dX10_told_96 ?_
  exact s_ri rfl dX10_told_99
def R_told_b100 : ak_K := (k_al 0 (k_gi 10 14 k_ri))
theorem S_R_told_b100 : ak_S cX10_told RX10 2 1 1 25 (0, fun _ => 0) 100 (R_told_b100) := by
  unfold R_told_b100
  refine s_aload_n dX10_told_100 rfl ?_
  refine s_gi (C := RX10) (Tf := TX10) (N := 41) (i := 10) (j := 14) rfl (by decide) rfl (Or.inl wd_623) dX10_told_101 ?_
  exact s_ri rfl dX10_told_104
def R_told_b147 : ak_K := k_ri
theorem S_R_told_b147 : ak_S cX10_told RX10 2 1 1 25 (0, fun _ => 0) 147 (R_told_b147) := by
  unfold R_told_b147
  exact s_ri rfl dX10_told_147
def R_told_b120 : ak_K := (k_il 1 (k_i2l (k_cl 5 (k_cl 12 (k_cs 3 R_in (k_ifeq (k_ci (-1000000002) R_told_b147) (k_al 0 (k_gp 10 0 (k_il 1 (k_ci 5 (k_b (fun x y => x - y) (k_ald R_told_b147))))))))))))
theorem S_R_told_b120 : ak_S cX10_told RX10 2 1 1 25 (0, fun _ => 0) 120 (R_told_b120) := by
  unfold R_told_b120
  refine s_iload_n dX10_told_120 rfl ?_
  refine s_i2l dX10_told_121 ?_
  refine s_ldc2 (x := 5) dX10_told_122 wd_694 ?_
  refine s_ldc2 (x := 12) dX10_told_125 wd_695 ?_
  refine s_cs M_R_in dX10_told_128 ⟨by decide +kernel, by decide +kernel, by decide +kernel⟩ (by decide) wd_611 wd_610 (Or.inl ⟨wd_609, rfl⟩) ?_
  refine s_ifeq (tgt := 145) dX10_told_131 (by decide) ?_ ?_
  · refine s_ldc (x := (-1000000002)) dX10_told_145 wd_622 ?_
    exact S_R_told_b147
  · refine s_aload_n dX10_told_134 rfl ?_
    refine s_gp (C := RX10) (Tf := TX10) (N := 41) (i := 10) (j := 0) rfl (by decide) rfl (Or.inl wd_578) dX10_told_135 ?_
    refine s_iload_n dX10_told_138 rfl ?_
    refine s_iconst (x := 5) dX10_told_139 (by decide +kernel) ?_
    refine s_isub dX10_told_140 ?_
    refine s_ald dX10_told_141 ?_
    refine s_goto (tgt := 147) dX10_told_142 (by decide) ?_
    exact S_R_told_b147
def R_told_b105 : ak_K := (k_al 0 (k_gi 10 34 k_ri))
theorem S_R_told_b105 : ak_S cX10_told RX10 2 1 1 25 (0, fun _ => 0) 105 (R_told_b105) := by
  unfold R_told_b105
  refine s_aload_n dX10_told_105 rfl ?_
  refine s_gi (C := RX10) (Tf := TX10) (N := 41) (i := 10) (j := 34) rfl (by decide) rfl (Or.inl wd_686) dX10_told_106 ?_
  exact s_ri rfl dX10_told_109
def R_told_b110 : ak_K := (k_al 0 (k_gi 10 38 k_ri))
theorem S_R_told_b110 : ak_S cX10_told RX10 2 1 1 25 (0, fun _ => 0) 110 (R_told_b110) := by
  unfold R_told_b110
  refine s_aload_n dX10_told_110 rfl ?_
  refine s_gi (C := RX10) (Tf := TX10) (N := 41) (i := 10) (j := 38) rfl (by decide) rfl (Or.inl wd_687) dX10_told_111 ?_
  exact s_ri rfl dX10_told_114
def R_told_b115 : ak_K := (k_al 0 (k_gi 10 2 k_ri))
theorem S_R_told_b115 : ak_S cX10_told RX10 2 1 1 25 (0, fun _ => 0) 115 (R_told_b115) := by
  unfold R_told_b115
  refine s_aload_n dX10_told_115 rfl ?_
  refine s_gi (C := RX10) (Tf := TX10) (N := 41) (i := 10) (j := 2) rfl (by decide) rfl (Or.inl wd_688) dX10_told_116 ?_
  exact s_ri rfl dX10_told_119
def R_told_b0 : ak_K := (k_il 1 (k_sw [(0, R_told_b80), (1, R_told_b85), (2, R_told_b90), (3, R_told_b95), (4, R_told_b100), (13, R_told_b105), (14, R_told_b110), (15, R_told_b115)] R_told_b120))
theorem S_R_told_b0 : ak_S cX10_told RX10 2 1 1 25 (0, fun _ => 0) 0 (R_told_b0) := by
  unfold R_told_b0
  refine s_iload_n dX10_told_0 rfl ?_
  exact s_table (tgd := 120) [0, 1, 2, 3, 4, 13, 14, 15] rfl dX10_told_1 (by decide) S_R_told_b120 (List.forall_mem_cons.mpr ⟨⟨80, S_R_told_b80, (by show _ ≤ (0 : Int32).toInt; decide +kernel), (by show (0 : Int32).toInt ≤ _; decide +kernel), 79, (by show _[((0 : Int32).toInt - _).toNat]? = _; decide +kernel), by decide⟩, List.forall_mem_cons.mpr ⟨⟨85, S_R_told_b85, (by show _ ≤ (1 : Int32).toInt; decide +kernel), (by show (1 : Int32).toInt ≤ _; decide +kernel), 84, (by show _[((1 : Int32).toInt - _).toNat]? = _; decide +kernel), by decide⟩, List.forall_mem_cons.mpr ⟨⟨90, S_R_told_b90, (by show _ ≤ (2 : Int32).toInt; decide +kernel), (by show (2 : Int32).toInt ≤ _; decide +kernel), 89, (by show _[((2 : Int32).toInt - _).toNat]? = _; decide +kernel), by decide⟩, List.forall_mem_cons.mpr ⟨⟨95, S_R_told_b95, (by show _ ≤ (3 : Int32).toInt; decide +kernel), (by show (3 : Int32).toInt ≤ _; decide +kernel), 94, (by show _[((3 : Int32).toInt - _).toNat]? = _; decide +kernel), by decide⟩, List.forall_mem_cons.mpr ⟨⟨100, S_R_told_b100, (by show _ ≤ (4 : Int32).toInt; decide +kernel), (by show (4 : Int32).toInt ≤ _; decide +kernel), 99, (by show _[((4 : Int32).toInt - _).toNat]? = _; decide +kernel), by decide⟩, List.forall_mem_cons.mpr ⟨⟨105, S_R_told_b105, (by show _ ≤ (13 : Int32).toInt; decide +kernel), (by show (13 : Int32).toInt ≤ _; decide +kernel), 104, (by show _[((13 : Int32).toInt - _).toNat]? = _; decide +kernel), by decide⟩, List.forall_mem_cons.mpr ⟨⟨110, S_R_told_b110, (by show _ ≤ (14 : Int32).toInt; decide +kernel), (by show (14 : Int32).toInt ≤ _; decide +kernel), 109, (by show _[((14 : Int32).toInt - _).toNat]? = _; decide +kernel), by decide⟩, List.forall_mem_cons.mpr ⟨⟨115, S_R_told_b115, (by show _ ≤ (15 : Int32).toInt; decide +kernel), (by show (15 : Int32).toInt ≤ _; decide +kernel), 114, (by show _[((15 : Int32).toInt - _).toNat]? = _; decide +kernel), by decide⟩, fun q h => absurd h List.not_mem_nil⟩⟩⟩⟩⟩⟩⟩⟩) (by decide +kernel)
def R_told (As : List Value) (M : ak_M) : ak_R := match As with
  | [.ref a, .int x0] => R_told_b0 [some (.ref a), some (.int x0)] [] M
  | _ => none
theorem M_R_told : ak_Mt yX10_told cX10_told 2 (some .int) 1 25 R_told := by
  refine ak_met (rk := 1) wd_696 (by decide +kernel) rfl (Or.inr (Or.inl ⟨rfl, rfl⟩)) (fun h => absurd h (by decide)) S_R_told_b0 (fun As M r h => ?_)
  unfold R_told at h
  split at h
  next => exact ⟨Nat.le_of_ble_eq_true rfl, 0, h⟩
  next => cases h
-- GreetedMirrorsModel.mirror(II)I
def R_mirror_b48 : ak_K := (k_al 0 (k_gp 10 9 (k_il 1 (k_ald k_ri))))
theorem S_R_mirror_b48 : ak_S cX10_mirror RX10 3 1 2 46 (0, fun _ => 0) 48 (R_mirror_b48) := by
  unfold R_mirror_b48
  refine s_aload_n dX10_mirror_48 rfl ?_
  refine s_gp (C := RX10) (Tf := TX10) (N := 41) (i := 10) (j := 9) rfl (by decide) rfl (Or.inl wd_603) dX10_mirror_49 ?_
  refine s_iload_n dX10_mirror_52 rfl ?_
  refine s_ald dX10_mirror_53 ?_
  exact s_ri rfl dX10_mirror_54
def R_mirror_b55 : ak_K := (k_al 0 (k_gp 10 0 (k_ci 8 (k_il 1 (k_b (fun x y => x + y) (k_ald k_ri))))))
theorem S_R_mirror_b55 : ak_S cX10_mirror RX10 3 1 2 46 (0, fun _ => 0) 55 (R_mirror_b55) := by
  unfold R_mirror_b55
  refine s_aload_n dX10_mirror_55 rfl ?_
  refine s_gp (C := RX10) (Tf := TX10) (N := 41) (i := 10) (j := 0) rfl (by decide) rfl (Or.inl wd_578) dX10_mirror_56 ?_
  refine s_bipush (x := 8) dX10_mirror_59 (by decide +kernel) ?_
  refine s_iload_n dX10_mirror_61 rfl ?_
  refine s_iadd dX10_mirror_62 ?_
  refine s_ald dX10_mirror_63 ?_
  exact s_ri rfl dX10_mirror_64
def R_mirror_b65 : ak_K := (k_al 0 (k_gp 10 11 (k_il 1 (k_ald k_ri))))
theorem S_R_mirror_b65 : ak_S cX10_mirror RX10 3 1 2 46 (0, fun _ => 0) 65 (R_mirror_b65) := by
  unfold R_mirror_b65
  refine s_aload_n dX10_mirror_65 rfl ?_
  refine s_gp (C := RX10) (Tf := TX10) (N := 41) (i := 10) (j := 11) rfl (by decide) rfl (Or.inl wd_594) dX10_mirror_66 ?_
  refine s_iload_n dX10_mirror_69 rfl ?_
  refine s_ald dX10_mirror_70 ?_
  exact s_ri rfl dX10_mirror_71
def R_mirror_b72 : ak_K := (k_al 0 (k_gp 10 0 (k_ci 15 (k_il 1 (k_b (fun x y => x + y) (k_ald k_ri))))))
theorem S_R_mirror_b72 : ak_S cX10_mirror RX10 3 1 2 46 (0, fun _ => 0) 72 (R_mirror_b72) := by
  unfold R_mirror_b72
  refine s_aload_n dX10_mirror_72 rfl ?_
  refine s_gp (C := RX10) (Tf := TX10) (N := 41) (i := 10) (j := 0) rfl (by decide) rfl (Or.inl wd_578) dX10_mirror_73 ?_
  refine s_bipush (x := 15) dX10_mirror_76 (by decide +kernel) ?_
  refine s_iload_n dX10_mirror_78 rfl ?_
  refine s_iadd dX10_mirror_79 ?_
  refine s_ald dX10_mirror_80 ?_
  exact s_ri rfl dX10_mirror_81
def R_mirror_b82 : ak_K := (k_al 0 (k_gp 10 0 (k_ci 22 (k_il 1 (k_b (fun x y => x + y) (k_ald k_ri))))))
theorem S_R_mirror_b82 : ak_S cX10_mirror RX10 3 1 2 46 (0, fun _ => 0) 82 (R_mirror_b82) := by
  unfold R_mirror_b82
  refine s_aload_n dX10_mirror_82 rfl ?_
  refine s_gp (C := RX10) (Tf := TX10) (N := 41) (i := 10) (j := 0) rfl (by decide) rfl (Or.inl wd_578) dX10_mirror_83 ?_
  refine s_bipush (x := 22) dX10_mirror_86 (by decide +kernel) ?_
  refine s_iload_n dX10_mirror_88 rfl ?_
  refine s_iadd dX10_mirror_89 ?_
  refine s_ald dX10_mirror_90 ?_
  exact s_ri rfl dX10_mirror_91
def R_mirror_b92 : ak_K := (k_ci (-1000000002) k_ri)
theorem S_R_mirror_b92 : ak_S cX10_mirror RX10 3 1 2 46 (0, fun _ => 0) 92 (R_mirror_b92) := by
  unfold R_mirror_b92
  refine s_ldc (x := (-1000000002)) dX10_mirror_92 wd_622 ?_
  exact s_ri rfl dX10_mirror_94
def R_mirror_b0 : ak_K := (k_al 0 (k_il 1 (k_cv 10 2 R_isMirror (k_ifeq (k_ci (-1000000001) k_ri) (k_il 2 (k_sw [(0, R_mirror_b48), (1, R_mirror_b55), (2, R_mirror_b65), (3, R_mirror_b72), (4, R_mirror_b82)] R_mirror_b92))))))
theorem S_R_mirror_b0 : ak_S cX10_mirror RX10 3 1 2 46 (0, fun _ => 0) 0 (R_mirror_b0) := by
  unfold R_mirror_b0
  refine s_aload_n dX10_mirror_0 rfl ?_
  refine s_iload_n dX10_mirror_1 rfl ?_
  refine s_cv (C := RX10) (Tf := TX10) (N := 41) (i := 10) rfl M_R_isMirror dX10_mirror_2 rfl ⟨by decide +kernel, by decide +kernel, by decide +kernel⟩ (by decide) wd_698 wd_699 wd_610 (Or.inl wd_697) ?_
  refine s_ifne (tgt := 11) dX10_mirror_5 (by decide) ?_ ?_
  · refine s_ldc (x := (-1000000001)) dX10_mirror_8 wd_700 ?_
    exact s_ri rfl dX10_mirror_10
  · refine s_iload_n dX10_mirror_11 rfl ?_
    exact s_table (tgd := 92) [0, 1, 2, 3, 4] rfl dX10_mirror_12 (by decide) S_R_mirror_b92 (List.forall_mem_cons.mpr ⟨⟨48, S_R_mirror_b48, (by show _ ≤ (0 : Int32).toInt; decide +kernel), (by show (0 : Int32).toInt ≤ _; decide +kernel), 36, (by show _[((0 : Int32).toInt - _).toNat]? = _; decide +kernel), by decide⟩, List.forall_mem_cons.mpr ⟨⟨55, S_R_mirror_b55, (by show _ ≤ (1 : Int32).toInt; decide +kernel), (by show (1 : Int32).toInt ≤ _; decide +kernel), 43, (by show _[((1 : Int32).toInt - _).toNat]? = _; decide +kernel), by decide⟩, List.forall_mem_cons.mpr ⟨⟨65, S_R_mirror_b65, (by show _ ≤ (2 : Int32).toInt; decide +kernel), (by show (2 : Int32).toInt ≤ _; decide +kernel), 53, (by show _[((2 : Int32).toInt - _).toNat]? = _; decide +kernel), by decide⟩, List.forall_mem_cons.mpr ⟨⟨72, S_R_mirror_b72, (by show _ ≤ (3 : Int32).toInt; decide +kernel), (by show (3 : Int32).toInt ≤ _; decide +kernel), 60, (by show _[((3 : Int32).toInt - _).toNat]? = _; decide +kernel), by decide⟩, List.forall_mem_cons.mpr ⟨⟨82, S_R_mirror_b82, (by show _ ≤ (4 : Int32).toInt; decide +kernel), (by show (4 : Int32).toInt ≤ _; decide +kernel), 70, (by show _[((4 : Int32).toInt - _).toNat]? = _; decide +kernel), by decide⟩, fun q h => absurd h List.not_mem_nil⟩⟩⟩⟩⟩) (by decide +kernel)
def R_mirror (As : List Value) (M : ak_M) : ak_R := match As with
  | [.ref a, .int x0, .int x1] => R_mirror_b0 [some (.ref a), some (.int x0), some (.int x1)] [] M
  | _ => none
theorem M_R_mirror : ak_Mt yX10_mirror cX10_mirror 3 (some .int) 2 46 R_mirror := by
  refine ak_met (rk := 1) wd_701 (by decide +kernel) rfl (Or.inr (Or.inl ⟨rfl, rfl⟩)) (fun h => absurd h (by decide)) S_R_mirror_b0 (fun As M r h => ?_)
  unfold R_mirror at h
  split at h
  next => exact ⟨Nat.le_of_ble_eq_true rfl, 0, h⟩
  next => cases h
-- GreetedMirrorsModel.doorOf(II)I
def R_doorOf_b40 : ak_K := k_ri
theorem S_R_doorOf_b40 : ak_S cX10_doorOf RX10 3 1 2 46 (0, fun _ => 0) 40 (R_doorOf_b40) := by
  unfold R_doorOf_b40
  exact s_ri rfl dX10_doorOf_40
def R_doorOf_b0 : ak_K := (k_al 0 (k_il 1 (k_cv 10 2 R_isDoor (k_ifeq (k_ci (-1000000001) k_ri) (k_il 2 (k_ifeq (k_al 0 (k_gp 10 7 (k_il 1 (k_ald R_doorOf_b40)))) (k_il 2 (k_ci 1 (k_cmeq (k_al 0 (k_gp 10 8 (k_il 1 (k_ald R_doorOf_b40)))) (k_ci (-1000000002) R_doorOf_b40))))))))))
theorem S_R_doorOf_b0 : ak_S cX10_doorOf RX10 3 1 2 46 (0, fun _ => 0) 0 (R_doorOf_b0) := by
  unfold R_doorOf_b0
  refine s_aload_n dX10_doorOf_0 rfl ?_
  refine s_iload_n dX10_doorOf_1 rfl ?_
  refine s_cv (C := RX10) (Tf := TX10) (N := 41) (i := 10) rfl M_R_isDoor dX10_doorOf_2 rfl ⟨by decide +kernel, by decide +kernel, by decide +kernel⟩ (by decide) wd_703 wd_704 wd_610 (Or.inl wd_702) ?_
  refine s_ifne (tgt := 11) dX10_doorOf_5 (by decide) ?_ ?_
  · refine s_ldc (x := (-1000000001)) dX10_doorOf_8 wd_700 ?_
    exact s_ri rfl dX10_doorOf_10
  · refine s_iload_n dX10_doorOf_11 rfl ?_
    refine s_ifne (tgt := 24) dX10_doorOf_12 (by decide) ?_ ?_
    · refine s_aload_n dX10_doorOf_15 rfl ?_
      refine s_gp (C := RX10) (Tf := TX10) (N := 41) (i := 10) (j := 7) rfl (by decide) rfl (Or.inl wd_601) dX10_doorOf_16 ?_
      refine s_iload_n dX10_doorOf_19 rfl ?_
      refine s_ald dX10_doorOf_20 ?_
      refine s_goto (tgt := 40) dX10_doorOf_21 (by decide) ?_
      exact S_R_doorOf_b40
    · refine s_iload_n dX10_doorOf_24 rfl ?_
      refine s_iconst (x := 1) dX10_doorOf_25 (by decide +kernel) ?_
      refine s_cmne (tgt := 38) dX10_doorOf_26 (by decide) ?_ ?_
      · refine s_aload_n dX10_doorOf_29 rfl ?_
        refine s_gp (C := RX10) (Tf := TX10) (N := 41) (i := 10) (j := 8) rfl (by decide) rfl (Or.inl wd_602) dX10_doorOf_30 ?_
        refine s_iload_n dX10_doorOf_33 rfl ?_
        refine s_ald dX10_doorOf_34 ?_
        refine s_goto (tgt := 40) dX10_doorOf_35 (by decide) ?_
        exact S_R_doorOf_b40
      · refine s_ldc (x := (-1000000002)) dX10_doorOf_38 wd_622 ?_
        exact S_R_doorOf_b40
def R_doorOf (As : List Value) (M : ak_M) : ak_R := match As with
  | [.ref a, .int x0, .int x1] => R_doorOf_b0 [some (.ref a), some (.int x0), some (.int x1)] [] M
  | _ => none
theorem M_R_doorOf : ak_Mt yX10_doorOf cX10_doorOf 3 (some .int) 2 46 R_doorOf := by
  refine ak_met (rk := 1) wd_705 (by decide +kernel) rfl (Or.inr (Or.inl ⟨rfl, rfl⟩)) (fun h => absurd h (by decide)) S_R_doorOf_b0 (fun As M r h => ?_)
  unfold R_doorOf at h
  split at h
  next => exact ⟨Nat.le_of_ble_eq_true rfl, 0, h⟩
  next => cases h
-- GreetedMirrorsModel.person(I)I
def R_person_b22 : ak_K := k_ri
theorem S_R_person_b22 : ak_S cX10_person RX10 2 1 2 46 (0, fun _ => 0) 22 (R_person_b22) := by
  unfold R_person_b22
  exact s_ri rfl dX10_person_22
def R_person_b0 : ak_K := (k_al 0 (k_il 1 (k_cv 10 2 R_isPerson (k_ifeq (k_ci (-1000000001) R_person_b22) (k_al 0 (k_gp 10 0 (k_ci 29 (k_il 1 (k_b (fun x y => x + y) (k_ald R_person_b22))))))))))
theorem S_R_person_b0 : ak_S cX10_person RX10 2 1 2 46 (0, fun _ => 0) 0 (R_person_b0) := by
  unfold R_person_b0
  refine s_aload_n dX10_person_0 rfl ?_
  refine s_iload_n dX10_person_1 rfl ?_
  refine s_cv (C := RX10) (Tf := TX10) (N := 41) (i := 10) rfl M_R_isPerson dX10_person_2 rfl ⟨by decide +kernel, by decide +kernel, by decide +kernel⟩ (by decide) wd_707 wd_708 wd_610 (Or.inl wd_706) ?_
  refine s_ifeq (tgt := 20) dX10_person_5 (by decide) ?_ ?_
  · refine s_ldc (x := (-1000000001)) dX10_person_20 wd_700 ?_
    exact S_R_person_b22
  · refine s_aload_n dX10_person_8 rfl ?_
    refine s_gp (C := RX10) (Tf := TX10) (N := 41) (i := 10) (j := 0) rfl (by decide) rfl (Or.inl wd_578) dX10_person_9 ?_
    refine s_bipush (x := 29) dX10_person_12 (by decide +kernel) ?_
    refine s_iload_n dX10_person_14 rfl ?_
    refine s_iadd dX10_person_15 ?_
    refine s_ald dX10_person_16 ?_
    refine s_goto (tgt := 22) dX10_person_17 (by decide) ?_
    exact S_R_person_b22
def R_person (As : List Value) (M : ak_M) : ak_R := match As with
  | [.ref a, .int x0] => R_person_b0 [some (.ref a), some (.int x0)] [] M
  | _ => none
theorem M_R_person : ak_Mt yX10_person cX10_person 2 (some .int) 2 46 R_person := by
  refine ak_met (rk := 1) wd_709 (by decide +kernel) rfl (Or.inr (Or.inl ⟨rfl, rfl⟩)) (fun h => absurd h (by decide)) S_R_person_b0 (fun As M r h => ?_)
  unfold R_person at h
  split at h
  next => exact ⟨Nat.le_of_ble_eq_true rfl, 0, h⟩
  next => cases h
-- GreetedMirrorsModel.isOpen(II)Z
def R_isOpen_b93 (h5 : ak_K) : ak_K := (k_is 3 (k_ii 4 1 h5))
theorem S_R_isOpen_b93 {h5 : ak_K} (H5 : ak_S cX10_isOpen RX10 6 2 1 21 (0, fun _ => 0) 5 h5) : ak_S cX10_isOpen RX10 6 2 1 21 (0, fun _ => 0) 93 (R_isOpen_b93 h5) := by
  unfold R_isOpen_b93
  refine s_istore_n dX10_isOpen_93 rfl (by decide) ?_
  refine s_iinc (y := 1) dX10_isOpen_94 (by decide +kernel) (by decide) ?_
  refine s_goto (tgt := 5) dX10_isOpen_97 (by decide) ?_
  exact H5
def R_isOpen_b88 (h5 : ak_K) : ak_K := (k_ci 1 (R_isOpen_b93 h5))
theorem S_R_isOpen_b88 {h5 : ak_K} (H5 : ak_S cX10_isOpen RX10 6 2 1 21 (0, fun _ => 0) 5 h5) : ak_S cX10_isOpen RX10 6 2 1 21 (0, fun _ => 0) 88 (R_isOpen_b88 h5) := by
  unfold R_isOpen_b88
  refine s_iconst (x := 1) dX10_isOpen_88 (by decide +kernel) ?_
  refine s_goto (tgt := 93) dX10_isOpen_89 (by decide) ?_
  exact (S_R_isOpen_b93 H5)
def R_isOpen_b92 (h5 : ak_K) : ak_K := (k_ci 0 (R_isOpen_b93 h5))
theorem S_R_isOpen_b92 {h5 : ak_K} (H5 : ak_S cX10_isOpen RX10 6 2 1 21 (0, fun _ => 0) 5 h5) : ak_S cX10_isOpen RX10 6 2 1 21 (0, fun _ => 0) 92 (R_isOpen_b92 h5) := by
  unfold R_isOpen_b92
  refine s_iconst (x := 0) dX10_isOpen_92 (by decide +kernel) ?_
  exact (S_R_isOpen_b93 H5)
def R_isOpen_b63 (h5 : ak_K) : ak_K := (k_is 5 (k_il 3 (k_ifeq (k_il 5 (k_ifeq (R_isOpen_b92 h5) (k_al 0 (k_gp 10 0 (k_ci 5 (k_ald (k_il 4 (k_cs 2 R_has (k_ifeq (R_isOpen_b88 h5) (R_isOpen_b92 h5)))))))))) (R_isOpen_b88 h5))))
theorem S_R_isOpen_b63 {h5 : ak_K} (H5 : ak_S cX10_isOpen RX10 6 2 1 21 (0, fun _ => 0) 5 h5) : ak_S cX10_isOpen RX10 6 2 1 21 (0, fun _ => 0) 63 (R_isOpen_b63 h5) := by
  unfold R_isOpen_b63
  refine s_istore dX10_isOpen_63 (by decide) ?_
  refine s_iload_n dX10_isOpen_65 rfl ?_
  refine s_ifne (tgt := 88) dX10_isOpen_66 (by decide) ?_ ?_
  · refine s_iload dX10_isOpen_69 ?_
    refine s_ifeq (tgt := 92) dX10_isOpen_71 (by decide) ?_ ?_
    · exact (S_R_isOpen_b92 H5)
    · refine s_aload_n dX10_isOpen_74 rfl ?_
      refine s_gp (C := RX10) (Tf := TX10) (N := 41) (i := 10) (j := 0) rfl (by decide) rfl (Or.inl wd_578) dX10_isOpen_75 ?_
      refine s_iconst (x := 5) dX10_isOpen_78 (by decide +kernel) ?_
      refine s_ald dX10_isOpen_79 ?_
      refine s_iload dX10_isOpen_80 ?_
      refine s_cs M_R_has dX10_isOpen_82 ⟨by decide +kernel, by decide +kernel, by decide +kernel⟩ (by decide) wd_711 wd_610 (Or.inl ⟨wd_710, rfl⟩) ?_
      refine s_ifne (tgt := 92) dX10_isOpen_85 (by decide) ?_ ?_
      · exact (S_R_isOpen_b88 H5)
      · exact (S_R_isOpen_b92 H5)
  · exact (S_R_isOpen_b88 H5)
def R_isOpen_b62 (h5 : ak_K) : ak_K := (k_ci 0 (R_isOpen_b63 h5))
theorem S_R_isOpen_b62 {h5 : ak_K} (H5 : ak_S cX10_isOpen RX10 6 2 1 21 (0, fun _ => 0) 5 h5) : ak_S cX10_isOpen RX10 6 2 1 21 (0, fun _ => 0) 62 (R_isOpen_b62 h5) := by
  unfold R_isOpen_b62
  refine s_iconst (x := 0) dX10_isOpen_62 (by decide +kernel) ?_
  exact (S_R_isOpen_b63 H5)
def R_isOpen_b58 (h5 : ak_K) : ak_K := (k_ci 1 (R_isOpen_b63 h5))
theorem S_R_isOpen_b58 {h5 : ak_K} (H5 : ak_S cX10_isOpen RX10 6 2 1 21 (0, fun _ => 0) 5 h5) : ak_S cX10_isOpen RX10 6 2 1 21 (0, fun _ => 0) 58 (R_isOpen_b58 h5) := by
  unfold R_isOpen_b58
  refine s_iconst (x := 1) dX10_isOpen_58 (by decide +kernel) ?_
  refine s_goto (tgt := 63) dX10_isOpen_59 (by decide) ?_
  exact (S_R_isOpen_b63 H5)
def R_isOpen_b36 (h5 : ak_K) : ak_K := (k_al 0 (k_gp 10 7 (k_il 4 (k_ald (k_il 2 (k_cmeq (k_al 0 (k_gp 10 8 (k_il 4 (k_ald (k_il 1 (k_cmeq (R_isOpen_b58 h5) (R_isOpen_b62 h5))))))) (R_isOpen_b62 h5)))))))
theorem S_R_isOpen_b36 {h5 : ak_K} (H5 : ak_S cX10_isOpen RX10 6 2 1 21 (0, fun _ => 0) 5 h5) : ak_S cX10_isOpen RX10 6 2 1 21 (0, fun _ => 0) 36 (R_isOpen_b36 h5) := by
  unfold R_isOpen_b36
  refine s_aload_n dX10_isOpen_36 rfl ?_
  refine s_gp (C := RX10) (Tf := TX10) (N := 41) (i := 10) (j := 7) rfl (by decide) rfl (Or.inl wd_601) dX10_isOpen_37 ?_
  refine s_iload dX10_isOpen_40 ?_
  refine s_ald dX10_isOpen_42 ?_
  refine s_iload_n dX10_isOpen_43 rfl ?_
  refine s_cmne (tgt := 62) dX10_isOpen_44 (by decide) ?_ ?_
  · refine s_aload_n dX10_isOpen_47 rfl ?_
    refine s_gp (C := RX10) (Tf := TX10) (N := 41) (i := 10) (j := 8) rfl (by decide) rfl (Or.inl wd_602) dX10_isOpen_48 ?_
    refine s_iload dX10_isOpen_51 ?_
    refine s_ald dX10_isOpen_53 ?_
    refine s_iload_n dX10_isOpen_54 rfl ?_
    refine s_cmne (tgt := 62) dX10_isOpen_55 (by decide) ?_ ?_
    · exact (S_R_isOpen_b58 H5)
    · exact (S_R_isOpen_b62 H5)
  · exact (S_R_isOpen_b62 H5)
def R_isOpen_b5 (h5 : ak_K) : ak_K := (k_il 4 (k_al 0 (k_gi 10 4 (k_cmge (k_il 3 k_rz) (k_al 0 (k_gp 10 7 (k_il 4 (k_ald (k_il 1 (k_cmeq (k_al 0 (k_gp 10 8 (k_il 4 (k_ald (k_il 2 (k_cmeq (R_isOpen_b58 h5) (R_isOpen_b36 h5))))))) (R_isOpen_b36 h5)))))))))))
theorem S_R_isOpen_b5 {h5 : ak_K} (H5 : ak_S cX10_isOpen RX10 6 2 1 21 (0, fun _ => 0) 5 h5) : ak_S cX10_isOpen RX10 6 2 1 21 (0, fun _ => 0) 5 (R_isOpen_b5 h5) := by
  unfold R_isOpen_b5
  refine s_iload dX10_isOpen_5 ?_
  refine s_aload_n dX10_isOpen_7 rfl ?_
  refine s_gi (C := RX10) (Tf := TX10) (N := 41) (i := 10) (j := 4) rfl (by decide) rfl (Or.inl wd_613) dX10_isOpen_8 ?_
  refine s_cmge (tgt := 100) dX10_isOpen_11 (by decide) ?_ ?_
  · refine s_iload_n dX10_isOpen_100 rfl ?_
    exact s_rz rfl dX10_isOpen_101
  · refine s_aload_n dX10_isOpen_14 rfl ?_
    refine s_gp (C := RX10) (Tf := TX10) (N := 41) (i := 10) (j := 7) rfl (by decide) rfl (Or.inl wd_601) dX10_isOpen_15 ?_
    refine s_iload dX10_isOpen_18 ?_
    refine s_ald dX10_isOpen_20 ?_
    refine s_iload_n dX10_isOpen_21 rfl ?_
    refine s_cmne (tgt := 36) dX10_isOpen_22 (by decide) ?_ ?_
    · refine s_aload_n dX10_isOpen_25 rfl ?_
      refine s_gp (C := RX10) (Tf := TX10) (N := 41) (i := 10) (j := 8) rfl (by decide) rfl (Or.inl wd_602) dX10_isOpen_26 ?_
      refine s_iload dX10_isOpen_29 ?_
      refine s_ald dX10_isOpen_31 ?_
      refine s_iload_n dX10_isOpen_32 rfl ?_
      refine s_cmeq (tgt := 58) dX10_isOpen_33 (by decide) ?_ ?_
      · exact (S_R_isOpen_b58 H5)
      · exact (S_R_isOpen_b36 H5)
    · exact (S_R_isOpen_b36 H5)
def R_isOpen_l5 : Nat → ak_K
  | 0 => k_no
  | n + 1 => R_isOpen_b5 (R_isOpen_l5 n)
theorem S_R_isOpen_l5 : ∀ n : Nat, ak_S cX10_isOpen RX10 6 2 1 21 (0, fun _ => 0) 5 (R_isOpen_l5 n)
  | 0 => s_no
  | n + 1 => S_R_isOpen_b5 (S_R_isOpen_l5 n)
def R_isOpen_b0 : ak_K := (k_ci 0 (k_is 3 (k_ci 0 (k_is 4 (R_isOpen_l5 ak_fuel)))))
theorem S_R_isOpen_b0 : ak_S cX10_isOpen RX10 6 2 1 21 (0, fun _ => 0) 0 (R_isOpen_b0) := by
  unfold R_isOpen_b0
  refine s_iconst (x := 0) dX10_isOpen_0 (by decide +kernel) ?_
  refine s_istore_n dX10_isOpen_1 rfl (by decide) ?_
  refine s_iconst (x := 0) dX10_isOpen_2 (by decide +kernel) ?_
  refine s_istore dX10_isOpen_3 (by decide) ?_
  exact (S_R_isOpen_l5 ak_fuel)
def R_isOpen (As : List Value) (M : ak_M) : ak_R := match As with
  | [.ref a, .int x0, .int x1] => R_isOpen_b0 [some (.ref a), some (.int x0), some (.int x1), none, none, none] [] M
  | _ => none
theorem M_R_isOpen : ak_Mt yX10_isOpen cX10_isOpen 6 (some .boolean) 1 21 R_isOpen := by
  refine ak_met (rk := 2) wd_712 (by decide +kernel) rfl (Or.inr (Or.inr (Or.inl ⟨rfl, rfl⟩))) (fun h => absurd h (by decide)) S_R_isOpen_b0 (fun As M r h => ?_)
  unfold R_isOpen at h
  split at h
  next => exact ⟨Nat.le_of_ble_eq_true rfl, 3, h⟩
  next => cases h
-- GreetedMirrorsModel.isNear(II)Z
def R_isNear_b19 : ak_K := k_rz
theorem S_R_isNear_b19 : ak_S cX10_isNear RX10 3 2 2 46 (0, fun _ => 0) 19 (R_isNear_b19) := by
  unfold R_isNear_b19
  exact s_rz rfl dX10_isNear_19
def R_isNear_b14 : ak_K := (k_ci 1 R_isNear_b19)
theorem S_R_isNear_b14 : ak_S cX10_isNear RX10 3 2 2 46 (0, fun _ => 0) 14 (R_isNear_b14) := by
  unfold R_isNear_b14
  refine s_iconst (x := 1) dX10_isNear_14 (by decide +kernel) ?_
  refine s_goto (tgt := 19) dX10_isNear_15 (by decide) ?_
  exact S_R_isNear_b19
def R_isNear_b0 : ak_K := (k_il 1 (k_il 2 (k_cmeq R_isNear_b14 (k_al 0 (k_il 1 (k_il 2 (k_cv 10 3 R_isOpen (k_ifeq (k_ci 0 R_isNear_b19) R_isNear_b14))))))))
theorem S_R_isNear_b0 : ak_S cX10_isNear RX10 3 2 2 46 (0, fun _ => 0) 0 (R_isNear_b0) := by
  unfold R_isNear_b0
  refine s_iload_n dX10_isNear_0 rfl ?_
  refine s_iload_n dX10_isNear_1 rfl ?_
  refine s_cmeq (tgt := 14) dX10_isNear_2 (by decide) ?_ ?_
  · exact S_R_isNear_b14
  · refine s_aload_n dX10_isNear_5 rfl ?_
    refine s_iload_n dX10_isNear_6 rfl ?_
    refine s_iload_n dX10_isNear_7 rfl ?_
    refine s_cv (C := RX10) (Tf := TX10) (N := 41) (i := 10) rfl M_R_isOpen dX10_isNear_8 rfl ⟨by decide +kernel, by decide +kernel, by decide +kernel⟩ (by decide) wd_714 wd_715 wd_610 (Or.inl wd_713) ?_
    refine s_ifeq (tgt := 18) dX10_isNear_11 (by decide) ?_ ?_
    · refine s_iconst (x := 0) dX10_isNear_18 (by decide +kernel) ?_
      exact S_R_isNear_b19
    · exact S_R_isNear_b14
def R_isNear (As : List Value) (M : ak_M) : ak_R := match As with
  | [.ref a, .int x0, .int x1] => R_isNear_b0 [some (.ref a), some (.int x0), some (.int x1)] [] M
  | _ => none
theorem M_R_isNear : ak_Mt yX10_isNear cX10_isNear 3 (some .boolean) 2 46 R_isNear := by
  refine ak_met (rk := 2) wd_716 (by decide +kernel) rfl (Or.inr (Or.inr (Or.inl ⟨rfl, rfl⟩))) (fun h => absurd h (by decide)) S_R_isNear_b0 (fun As M r h => ?_)
  unfold R_isNear at h
  split at h
  next => exact ⟨Nat.le_of_ble_eq_true rfl, 0, h⟩
  next => cases h
-- GreetedMirrorsModel.sees(II)I
def R_sees_b21 : ak_K := (k_ci (-1000000001) k_ri)
theorem S_R_sees_b21 : ak_S cX10_sees RX10 6 1 3 68 (0, fun _ => 0) 21 (R_sees_b21) := by
  unfold R_sees_b21
  refine s_ldc (x := (-1000000001)) dX10_sees_21 wd_700 ?_
  exact s_ri rfl dX10_sees_23
def R_sees_b132 : ak_K := k_ri
theorem S_R_sees_b132 : ak_S cX10_sees RX10 6 1 3 68 (0, fun _ => 0) 132 (R_sees_b132) := by
  unfold R_sees_b132
  exact s_ri rfl dX10_sees_132
def R_sees_b131 : ak_K := (k_ci 0 R_sees_b132)
theorem S_R_sees_b131 : ak_S cX10_sees RX10 6 1 3 68 (0, fun _ => 0) 131 (R_sees_b131) := by
  unfold R_sees_b131
  refine s_iconst (x := 0) dX10_sees_131 (by decide +kernel) ?_
  exact S_R_sees_b132
def R_sees_b84 (h40 : ak_K) : ak_K := (k_is 4 (k_ii 5 1 h40))
theorem S_R_sees_b84 {h40 : ak_K} (H40 : ak_S cX10_sees RX10 6 1 3 68 (0, fun _ => 0) 40 h40) : ak_S cX10_sees RX10 6 1 3 68 (0, fun _ => 0) 84 (R_sees_b84 h40) := by
  unfold R_sees_b84
  refine s_istore dX10_sees_84 (by decide) ?_
  refine s_iinc (y := 1) dX10_sees_86 (by decide +kernel) (by decide) ?_
  refine s_goto (tgt := 40) dX10_sees_89 (by decide) ?_
  exact H40
def R_sees_b79 (h40 : ak_K) : ak_K := (k_ci 1 (R_sees_b84 h40))
theorem S_R_sees_b79 {h40 : ak_K} (H40 : ak_S cX10_sees RX10 6 1 3 68 (0, fun _ => 0) 40 h40) : ak_S cX10_sees RX10 6 1 3 68 (0, fun _ => 0) 79 (R_sees_b79 h40) := by
  unfold R_sees_b79
  refine s_iconst (x := 1) dX10_sees_79 (by decide +kernel) ?_
  refine s_goto (tgt := 84) dX10_sees_80 (by decide) ?_
  exact (S_R_sees_b84 H40)
def R_sees_b83 (h40 : ak_K) : ak_K := (k_ci 0 (R_sees_b84 h40))
theorem S_R_sees_b83 {h40 : ak_K} (H40 : ak_S cX10_sees RX10 6 1 3 68 (0, fun _ => 0) 40 h40) : ak_S cX10_sees RX10 6 1 3 68 (0, fun _ => 0) 83 (R_sees_b83 h40) := by
  unfold R_sees_b83
  refine s_iconst (x := 0) dX10_sees_83 (by decide +kernel) ?_
  exact (S_R_sees_b84 H40)
def R_sees_b40 (h40 : ak_K) : ak_K := (k_il 5 (k_al 0 (k_gi 10 5 (k_cmge (k_il 4 (k_ifeq R_sees_b131 (k_al 0 (k_gp 10 0 (k_ci 4 (k_ald (k_il 3 (k_cs 2 R_has (k_ifeq (k_al 0 (k_il 3 (k_al 0 (k_gp 10 0 (k_ci 29 (k_il 2 (k_b (fun x y => x + y) (k_ald (k_cv 10 3 R_isNear (k_ifeq R_sees_b131 (k_ci 1 R_sees_b132))))))))))) R_sees_b131))))))))) (k_il 4 (k_ifeq (k_al 0 (k_gp 10 9 (k_il 5 (k_ald (k_il 3 (k_cmeq (k_al 0 (k_gp 10 0 (k_ci 2 (k_ald (k_il 5 (k_cs 2 R_has (k_ifeq (R_sees_b83 h40) (R_sees_b79 h40)))))))) (R_sees_b83 h40))))))) (R_sees_b79 h40)))))))
theorem S_R_sees_b40 {h40 : ak_K} (H40 : ak_S cX10_sees RX10 6 1 3 68 (0, fun _ => 0) 40 h40) : ak_S cX10_sees RX10 6 1 3 68 (0, fun _ => 0) 40 (R_sees_b40 h40) := by
  unfold R_sees_b40
  refine s_iload dX10_sees_40 ?_
  refine s_aload_n dX10_sees_42 rfl ?_
  refine s_gi (C := RX10) (Tf := TX10) (N := 41) (i := 10) (j := 5) rfl (by decide) rfl (Or.inl wd_615) dX10_sees_43 ?_
  refine s_cmge (tgt := 92) dX10_sees_46 (by decide) ?_ ?_
  · refine s_iload dX10_sees_92 ?_
    refine s_ifeq (tgt := 131) dX10_sees_94 (by decide) ?_ ?_
    · exact S_R_sees_b131
    · refine s_aload_n dX10_sees_97 rfl ?_
      refine s_gp (C := RX10) (Tf := TX10) (N := 41) (i := 10) (j := 0) rfl (by decide) rfl (Or.inl wd_578) dX10_sees_98 ?_
      refine s_iconst (x := 4) dX10_sees_101 (by decide +kernel) ?_
      refine s_ald dX10_sees_102 ?_
      refine s_iload_n dX10_sees_103 rfl ?_
      refine s_cs M_R_has dX10_sees_104 ⟨by decide +kernel, by decide +kernel, by decide +kernel⟩ (by decide) wd_711 wd_610 (Or.inl ⟨wd_710, rfl⟩) ?_
      refine s_ifne (tgt := 131) dX10_sees_107 (by decide) ?_ ?_
      · refine s_aload_n dX10_sees_110 rfl ?_
        refine s_iload_n dX10_sees_111 rfl ?_
        refine s_aload_n dX10_sees_112 rfl ?_
        refine s_gp (C := RX10) (Tf := TX10) (N := 41) (i := 10) (j := 0) rfl (by decide) rfl (Or.inl wd_578) dX10_sees_113 ?_
        refine s_bipush (x := 29) dX10_sees_116 (by decide +kernel) ?_
        refine s_iload_n dX10_sees_118 rfl ?_
        refine s_iadd dX10_sees_119 ?_
        refine s_ald dX10_sees_120 ?_
        refine s_cv (C := RX10) (Tf := TX10) (N := 41) (i := 10) rfl M_R_isNear dX10_sees_121 rfl ⟨by decide +kernel, by decide +kernel, by decide +kernel⟩ (by decide) wd_718 wd_719 wd_610 (Or.inl wd_717) ?_
        refine s_ifeq (tgt := 131) dX10_sees_124 (by decide) ?_ ?_
        · exact S_R_sees_b131
        · refine s_iconst (x := 1) dX10_sees_127 (by decide +kernel) ?_
          refine s_goto (tgt := 132) dX10_sees_128 (by decide) ?_
          exact S_R_sees_b132
      · exact S_R_sees_b131
  · refine s_iload dX10_sees_49 ?_
    refine s_ifne (tgt := 79) dX10_sees_51 (by decide) ?_ ?_
    · refine s_aload_n dX10_sees_54 rfl ?_
      refine s_gp (C := RX10) (Tf := TX10) (N := 41) (i := 10) (j := 9) rfl (by decide) rfl (Or.inl wd_603) dX10_sees_55 ?_
      refine s_iload dX10_sees_58 ?_
      refine s_ald dX10_sees_60 ?_
      refine s_iload_n dX10_sees_61 rfl ?_
      refine s_cmne (tgt := 83) dX10_sees_62 (by decide) ?_ ?_
      · refine s_aload_n dX10_sees_65 rfl ?_
        refine s_gp (C := RX10) (Tf := TX10) (N := 41) (i := 10) (j := 0) rfl (by decide) rfl (Or.inl wd_578) dX10_sees_66 ?_
        refine s_iconst (x := 2) dX10_sees_69 (by decide +kernel) ?_
        refine s_ald dX10_sees_70 ?_
        refine s_iload dX10_sees_71 ?_
        refine s_cs M_R_has dX10_sees_73 ⟨by decide +kernel, by decide +kernel, by decide +kernel⟩ (by decide) wd_711 wd_610 (Or.inl ⟨wd_710, rfl⟩) ?_
        refine s_ifeq (tgt := 83) dX10_sees_76 (by decide) ?_ ?_
        · exact (S_R_sees_b83 H40)
        · exact (S_R_sees_b79 H40)
      · exact (S_R_sees_b83 H40)
    · exact (S_R_sees_b79 H40)
def R_sees_l40 : Nat → ak_K
  | 0 => k_no
  | n + 1 => R_sees_b40 (R_sees_l40 n)
theorem S_R_sees_l40 : ∀ n : Nat, ak_S cX10_sees RX10 6 1 3 68 (0, fun _ => 0) 40 (R_sees_l40 n)
  | 0 => s_no
  | n + 1 => S_R_sees_b40 (S_R_sees_l40 n)
def R_sees_b0 : ak_K := (k_al 0 (k_il 1 (k_cv 10 2 R_isPerson (k_ifeq R_sees_b21 (k_al 0 (k_il 2 (k_cv 10 2 R_isPerson (k_ifeq R_sees_b21 (k_il 1 (k_il 2 (k_cmeq R_sees_b21 (k_al 0 (k_gp 10 0 (k_ci 29 (k_il 1 (k_b (fun x y => x + y) (k_ald (k_is 3 (k_ci 0 (k_is 4 (k_ci 0 (k_is 5 (R_sees_l40 ak_fuel)))))))))))))))))))))))
theorem S_R_sees_b0 : ak_S cX10_sees RX10 6 1 3 68 (0, fun _ => 0) 0 (R_sees_b0) := by
  unfold R_sees_b0
  refine s_aload_n dX10_sees_0 rfl ?_
  refine s_iload_n dX10_sees_1 rfl ?_
  refine s_cv (C := RX10) (Tf := TX10) (N := 41) (i := 10) rfl M_R_isPerson dX10_sees_2 rfl ⟨by decide +kernel, by decide +kernel, by decide +kernel⟩ (by decide) wd_707 wd_708 wd_610 (Or.inl wd_706) ?_
  refine s_ifeq (tgt := 21) dX10_sees_5 (by decide) ?_ ?_
  · exact S_R_sees_b21
  · refine s_aload_n dX10_sees_8 rfl ?_
    refine s_iload_n dX10_sees_9 rfl ?_
    refine s_cv (C := RX10) (Tf := TX10) (N := 41) (i := 10) rfl M_R_isPerson dX10_sees_10 rfl ⟨by decide +kernel, by decide +kernel, by decide +kernel⟩ (by decide) wd_707 wd_708 wd_610 (Or.inl wd_706) ?_
    refine s_ifeq (tgt := 21) dX10_sees_13 (by decide) ?_ ?_
    · exact S_R_sees_b21
    · refine s_iload_n dX10_sees_16 rfl ?_
      refine s_iload_n dX10_sees_17 rfl ?_
      refine s_cmne (tgt := 24) dX10_sees_18 (by decide) ?_ ?_
      · exact S_R_sees_b21
      · refine s_aload_n dX10_sees_24 rfl ?_
        refine s_gp (C := RX10) (Tf := TX10) (N := 41) (i := 10) (j := 0) rfl (by decide) rfl (Or.inl wd_578) dX10_sees_25 ?_
        refine s_bipush (x := 29) dX10_sees_28 (by decide +kernel) ?_
        refine s_iload_n dX10_sees_30 rfl ?_
        refine s_iadd dX10_sees_31 ?_
        refine s_ald dX10_sees_32 ?_
        refine s_istore_n dX10_sees_33 rfl (by decide) ?_
        refine s_iconst (x := 0) dX10_sees_34 (by decide +kernel) ?_
        refine s_istore dX10_sees_35 (by decide) ?_
        refine s_iconst (x := 0) dX10_sees_37 (by decide +kernel) ?_
        refine s_istore dX10_sees_38 (by decide) ?_
        exact (S_R_sees_l40 ak_fuel)
def R_sees (As : List Value) (M : ak_M) : ak_R := match As with
  | [.ref a, .int x0, .int x1] => R_sees_b0 [some (.ref a), some (.int x0), some (.int x1), none, none, none] [] M
  | _ => none
theorem M_R_sees : ak_Mt yX10_sees cX10_sees 6 (some .int) 3 68 R_sees := by
  refine ak_met (rk := 1) wd_720 (by decide +kernel) rfl (Or.inr (Or.inl ⟨rfl, rfl⟩)) (fun h => absurd h (by decide)) S_R_sees_b0 (fun As M r h => ?_)
  unfold R_sees at h
  split at h
  next => exact ⟨Nat.le_of_ble_eq_true rfl, 3, h⟩
  next => cases h
-- GreetedMirrorsModel.minds()V
def R_minds_b55 : ak_K := (k_al 0 (k_ci 0 (k_ci 105 (k_ci 35 (k_al 0 (k_gi 10 2 (k_b (fun x y => x * y) (k_b (fun x y => x + y) (k_cv 10 3 R_copy (k_al 0 (k_dup (k_gi 10 2 (k_ci 1 (k_b (fun x y => x + y) (k_pi 10 2 k_rv)))))))))))))))
theorem S_R_minds_b55 : ak_S cX10_minds RX10 2 0 1 23 (0, fun _ => 0) 55 (R_minds_b55) := by
  unfold R_minds_b55
  refine s_aload_n dX10_minds_55 rfl ?_
  refine s_iconst (x := 0) dX10_minds_56 (by decide +kernel) ?_
  refine s_bipush (x := 105) dX10_minds_57 (by decide +kernel) ?_
  refine s_bipush (x := 35) dX10_minds_59 (by decide +kernel) ?_
  refine s_aload_n dX10_minds_61 rfl ?_
  refine s_gi (C := RX10) (Tf := TX10) (N := 41) (i := 10) (j := 2) rfl (by decide) rfl (Or.inl wd_688) dX10_minds_62 ?_
  refine s_imul dX10_minds_65 ?_
  refine s_iadd dX10_minds_66 ?_
  refine s_cv (C := RX10) (Tf := TX10) (N := 41) (i := 10) rfl M_R_copy dX10_minds_67 rfl ⟨by decide +kernel, by decide +kernel, by decide +kernel⟩ (by decide) wd_722 wd_723 wd_610 (Or.inl wd_721) ?_
  refine s_aload_n dX10_minds_70 rfl ?_
  refine s_dup dX10_minds_71 ?_
  refine s_gi (C := RX10) (Tf := TX10) (N := 41) (i := 10) (j := 2) rfl (by decide) rfl (Or.inl wd_688) dX10_minds_72 ?_
  refine s_iconst (x := 1) dX10_minds_75 (by decide +kernel) ?_
  refine s_iadd dX10_minds_76 ?_
  refine s_pi (C := RX10) (Tf := TX10) (N := 41) (i := 10) (j := 2) rfl (by decide) rfl (Or.inl ⟨wd_688, Or.inl rfl⟩) dX10_minds_77 ?_
  exact s_rv (Or.inl rfl) dX10_minds_80
def R_minds_b11 (h11 : ak_K) : ak_K := (k_il 1 (k_ci 665 (k_cmge (k_al 0 (k_dup (k_gi 10 2 (k_ci 1 (k_b (fun x y => x - y) (k_pi 10 2 R_minds_b55)))))) (k_al 0 (k_gp 10 0 (k_ci 105 (k_il 1 (k_b (fun x y => x + y) (k_al 0 (k_gp 10 0 (k_ci 105 (k_il 1 (k_b (fun x y => x + y) (k_ci 35 (k_b (fun x y => x + y) (k_ald (k_ast (k_ii 1 1 h11))))))))))))))))))
theorem S_R_minds_b11 {h11 : ak_K} (H11 : ak_S cX10_minds RX10 2 0 1 23 (0, fun _ => 0) 11 h11) : ak_S cX10_minds RX10 2 0 1 23 (0, fun _ => 0) 11 (R_minds_b11 h11) := by
  unfold R_minds_b11
  refine s_iload_n dX10_minds_11 rfl ?_
  refine s_sipush (x := 665) dX10_minds_12 (by decide +kernel) ?_
  refine s_cmge (tgt := 45) dX10_minds_15 (by decide) ?_ ?_
  · refine s_aload_n dX10_minds_45 rfl ?_
    refine s_dup dX10_minds_46 ?_
    refine s_gi (C := RX10) (Tf := TX10) (N := 41) (i := 10) (j := 2) rfl (by decide) rfl (Or.inl wd_688) dX10_minds_47 ?_
    refine s_iconst (x := 1) dX10_minds_50 (by decide +kernel) ?_
    refine s_isub dX10_minds_51 ?_
    refine s_pi (C := RX10) (Tf := TX10) (N := 41) (i := 10) (j := 2) rfl (by decide) rfl (Or.inl ⟨wd_688, Or.inl rfl⟩) dX10_minds_52 ?_
    exact S_R_minds_b55
  · refine s_aload_n dX10_minds_18 rfl ?_
    refine s_gp (C := RX10) (Tf := TX10) (N := 41) (i := 10) (j := 0) rfl (by decide) rfl (Or.inl wd_578) dX10_minds_19 ?_
    refine s_bipush (x := 105) dX10_minds_22 (by decide +kernel) ?_
    refine s_iload_n dX10_minds_24 rfl ?_
    refine s_iadd dX10_minds_25 ?_
    refine s_aload_n dX10_minds_26 rfl ?_
    refine s_gp (C := RX10) (Tf := TX10) (N := 41) (i := 10) (j := 0) rfl (by decide) rfl (Or.inl wd_578) dX10_minds_27 ?_
    refine s_bipush (x := 105) dX10_minds_30 (by decide +kernel) ?_
    refine s_iload_n dX10_minds_32 rfl ?_
    refine s_iadd dX10_minds_33 ?_
    refine s_bipush (x := 35) dX10_minds_34 (by decide +kernel) ?_
    refine s_iadd dX10_minds_36 ?_
    refine s_ald dX10_minds_37 ?_
    refine s_ast dX10_minds_38 ?_
    refine s_iinc (y := 1) dX10_minds_39 (by decide +kernel) (by decide) ?_
    refine s_goto (tgt := 11) dX10_minds_42 (by decide) ?_
    exact H11
def R_minds_l11 : Nat → ak_K
  | 0 => k_no
  | n + 1 => R_minds_b11 (R_minds_l11 n)
theorem S_R_minds_l11 : ∀ n : Nat, ak_S cX10_minds RX10 2 0 1 23 (0, fun _ => 0) 11 (R_minds_l11 n)
  | 0 => s_no
  | n + 1 => S_R_minds_b11 (S_R_minds_l11 n)
def R_minds_b0 : ak_K := (k_al 0 (k_gi 10 2 (k_ci 20 (k_cmeq (k_ci 0 (k_is 1 (R_minds_l11 ak_fuel))) R_minds_b55))))
theorem S_R_minds_b0 : ak_S cX10_minds RX10 2 0 1 23 (0, fun _ => 0) 0 (R_minds_b0) := by
  unfold R_minds_b0
  refine s_aload_n dX10_minds_0 rfl ?_
  refine s_gi (C := RX10) (Tf := TX10) (N := 41) (i := 10) (j := 2) rfl (by decide) rfl (Or.inl wd_688) dX10_minds_1 ?_
  refine s_bipush (x := 20) dX10_minds_4 (by decide +kernel) ?_
  refine s_cmne (tgt := 55) dX10_minds_6 (by decide) ?_ ?_
  · refine s_iconst (x := 0) dX10_minds_9 (by decide +kernel) ?_
    refine s_istore_n dX10_minds_10 rfl (by decide) ?_
    exact (S_R_minds_l11 ak_fuel)
  · exact S_R_minds_b55
def R_minds (As : List Value) (M : ak_M) : ak_R := match As with
  | [.ref a] => R_minds_b0 [some (.ref a), none] [] M
  | _ => none
theorem M_R_minds : ak_Mt yX10_minds cX10_minds 2 none 1 23 R_minds := by
  refine ak_met (rk := 0) wd_724 (by decide +kernel) rfl (Or.inl ⟨Or.inl rfl, rfl⟩) (fun h => absurd h (by decide)) S_R_minds_b0 (fun As M r h => ?_)
  unfold R_minds at h
  split at h
  next => exact ⟨Nat.le_of_ble_eq_true rfl, 1, h⟩
  next => cases h
-- GreetedMirrorsModel.undo()I
def R_undo_b44 : ak_K := (k_gp 10 0 (k_ci 34 (k_il 1 (k_ast (k_al 0 (k_gi 10 2 k_ri))))))
theorem S_R_undo_b44 : ak_S cX10_undo RX10 2 1 1 23 (0, fun _ => 0) 44 (R_undo_b44) := by
  unfold R_undo_b44
  refine s_gp (C := RX10) (Tf := TX10) (N := 41) (i := 10) (j := 0) rfl (by decide) rfl (Or.inl wd_578) dX10_undo_44 ?_
  refine s_bipush (x := 34) dX10_undo_47 (by decide +kernel) ?_
  refine s_iload_n dX10_undo_49 rfl ?_
  refine s_ast dX10_undo_50 ?_
  refine s_aload_n dX10_undo_51 rfl ?_
  refine s_gi (C := RX10) (Tf := TX10) (N := 41) (i := 10) (j := 2) rfl (by decide) rfl (Or.inl wd_688) dX10_undo_52 ?_
  exact s_ri rfl dX10_undo_55
def R_undo_b0 : ak_K := (k_al 0 (k_gi 10 2 (k_ifeq (k_ci (-1000000003) k_ri) (k_al 0 (k_gp 10 0 (k_ci 34 (k_ald (k_is 1 (k_al 0 (k_dup (k_gi 10 2 (k_ci 1 (k_b (fun x y => x - y) (k_pi 10 2 (k_al 0 (k_ci 105 (k_ci 35 (k_al 0 (k_gi 10 2 (k_b (fun x y => x * y) (k_b (fun x y => x + y) (k_ci 0 (k_cv 10 3 R_copy (k_al 0 R_undo_b44))))))))))))))))))))))))
theorem S_R_undo_b0 : ak_S cX10_undo RX10 2 1 1 23 (0, fun _ => 0) 0 (R_undo_b0) := by
  unfold R_undo_b0
  refine s_aload_n dX10_undo_0 rfl ?_
  refine s_gi (C := RX10) (Tf := TX10) (N := 41) (i := 10) (j := 2) rfl (by decide) rfl (Or.inl wd_688) dX10_undo_1 ?_
  refine s_ifne (tgt := 10) dX10_undo_4 (by decide) ?_ ?_
  · refine s_ldc (x := (-1000000003)) dX10_undo_7 wd_725 ?_
    exact s_ri rfl dX10_undo_9
  · refine s_aload_n dX10_undo_10 rfl ?_
    refine s_gp (C := RX10) (Tf := TX10) (N := 41) (i := 10) (j := 0) rfl (by decide) rfl (Or.inl wd_578) dX10_undo_11 ?_
    refine s_bipush (x := 34) dX10_undo_14 (by decide +kernel) ?_
    refine s_ald dX10_undo_16 ?_
    refine s_istore_n dX10_undo_17 rfl (by decide) ?_
    refine s_aload_n dX10_undo_18 rfl ?_
    refine s_dup dX10_undo_19 ?_
    refine s_gi (C := RX10) (Tf := TX10) (N := 41) (i := 10) (j := 2) rfl (by decide) rfl (Or.inl wd_688) dX10_undo_20 ?_
    refine s_iconst (x := 1) dX10_undo_23 (by decide +kernel) ?_
    refine s_isub dX10_undo_24 ?_
    refine s_pi (C := RX10) (Tf := TX10) (N := 41) (i := 10) (j := 2) rfl (by decide) rfl (Or.inl ⟨wd_688, Or.inl rfl⟩) dX10_undo_25 ?_
    refine s_aload_n dX10_undo_28 rfl ?_
    refine s_bipush (x := 105) dX10_undo_29 (by decide +kernel) ?_
    refine s_bipush (x := 35) dX10_undo_31 (by decide +kernel) ?_
    refine s_aload_n dX10_undo_33 rfl ?_
    refine s_gi (C := RX10) (Tf := TX10) (N := 41) (i := 10) (j := 2) rfl (by decide) rfl (Or.inl wd_688) dX10_undo_34 ?_
    refine s_imul dX10_undo_37 ?_
    refine s_iadd dX10_undo_38 ?_
    refine s_iconst (x := 0) dX10_undo_39 (by decide +kernel) ?_
    refine s_cv (C := RX10) (Tf := TX10) (N := 41) (i := 10) rfl M_R_copy dX10_undo_40 rfl ⟨by decide +kernel, by decide +kernel, by decide +kernel⟩ (by decide) wd_722 wd_723 wd_610 (Or.inl wd_721) ?_
    refine s_aload_n dX10_undo_43 rfl ?_
    exact S_R_undo_b44
def R_undo (As : List Value) (M : ak_M) : ak_R := match As with
  | [.ref a] => R_undo_b0 [some (.ref a), none] [] M
  | _ => none
theorem M_R_undo : ak_Mt yX10_undo cX10_undo 2 (some .int) 1 23 R_undo := by
  refine ak_met (rk := 1) wd_726 (by decide +kernel) rfl (Or.inr (Or.inl ⟨rfl, rfl⟩)) (fun h => absurd h (by decide)) S_R_undo_b0 (fun As M r h => ?_)
  unfold R_undo at h
  split at h
  next => exact ⟨Nat.le_of_ble_eq_true rfl, 1, h⟩
  next => cases h
-- GreetedMirrorsModel.step(I)I
def R_step_b53 : ak_K := (k_ast (k_al 0 (k_gp 10 0 (k_ci 6 (k_dup2 (k_ald (k_ci 1 (k_b (fun x y => x + y) (k_ast (k_al 0 (k_gp 10 0 (k_ci 6 (k_ald k_ri)))))))))))))
theorem S_R_step_b53 : ak_S cX10_step RX10 2 1 2 46 (0, fun _ => 0) 53 (R_step_b53) := by
  unfold R_step_b53
  refine s_ast dX10_step_53 ?_
  refine s_aload_n dX10_step_54 rfl ?_
  refine s_gp (C := RX10) (Tf := TX10) (N := 41) (i := 10) (j := 0) rfl (by decide) rfl (Or.inl wd_578) dX10_step_55 ?_
  refine s_bipush (x := 6) dX10_step_58 (by decide +kernel) ?_
  refine s_dup2 dX10_step_60 ?_
  refine s_ald dX10_step_61 ?_
  refine s_iconst (x := 1) dX10_step_62 (by decide +kernel) ?_
  refine s_iadd dX10_step_63 ?_
  refine s_ast dX10_step_64 ?_
  refine s_aload_n dX10_step_65 rfl ?_
  refine s_gp (C := RX10) (Tf := TX10) (N := 41) (i := 10) (j := 0) rfl (by decide) rfl (Or.inl wd_578) dX10_step_66 ?_
  refine s_bipush (x := 6) dX10_step_69 (by decide +kernel) ?_
  refine s_ald dX10_step_71 ?_
  exact s_ri rfl dX10_step_72
def R_step_b0 : ak_K := (k_al 0 (k_il 1 (k_cv 10 2 R_isRoom (k_ifeq (k_ci (-1000000001) k_ri) (k_al 0 (k_al 0 (k_gp 10 0 (k_ci 0 (k_ald (k_il 1 (k_cv 10 3 R_isOpen (k_ifeq (k_ci (-1000000003) k_ri) (k_al 0 (k_gp 10 0 (k_ci 6 (k_ald (k_ci 90000 (k_cmle (k_al 0 (k_cv 10 1 R_minds (k_al 0 (k_gp 10 0 (k_ci 0 (k_il 1 R_step_b53)))))) (k_ci (-1000000004) k_ri)))))))))))))))))))
theorem S_R_step_b0 : ak_S cX10_step RX10 2 1 2 46 (0, fun _ => 0) 0 (R_step_b0) := by
  unfold R_step_b0
  refine s_aload_n dX10_step_0 rfl ?_
  refine s_iload_n dX10_step_1 rfl ?_
  refine s_cv (C := RX10) (Tf := TX10) (N := 41) (i := 10) rfl M_R_isRoom dX10_step_2 rfl ⟨by decide +kernel, by decide +kernel, by decide +kernel⟩ (by decide) wd_728 wd_729 wd_610 (Or.inl wd_727) ?_
  refine s_ifne (tgt := 11) dX10_step_5 (by decide) ?_ ?_
  · refine s_ldc (x := (-1000000001)) dX10_step_8 wd_700 ?_
    exact s_ri rfl dX10_step_10
  · refine s_aload_n dX10_step_11 rfl ?_
    refine s_aload_n dX10_step_12 rfl ?_
    refine s_gp (C := RX10) (Tf := TX10) (N := 41) (i := 10) (j := 0) rfl (by decide) rfl (Or.inl wd_578) dX10_step_13 ?_
    refine s_iconst (x := 0) dX10_step_16 (by decide +kernel) ?_
    refine s_ald dX10_step_17 ?_
    refine s_iload_n dX10_step_18 rfl ?_
    refine s_cv (C := RX10) (Tf := TX10) (N := 41) (i := 10) rfl M_R_isOpen dX10_step_19 rfl ⟨by decide +kernel, by decide +kernel, by decide +kernel⟩ (by decide) wd_714 wd_715 wd_610 (Or.inl wd_713) ?_
    refine s_ifne (tgt := 28) dX10_step_22 (by decide) ?_ ?_
    · refine s_ldc (x := (-1000000003)) dX10_step_25 wd_725 ?_
      exact s_ri rfl dX10_step_27
    · refine s_aload_n dX10_step_28 rfl ?_
      refine s_gp (C := RX10) (Tf := TX10) (N := 41) (i := 10) (j := 0) rfl (by decide) rfl (Or.inl wd_578) dX10_step_29 ?_
      refine s_bipush (x := 6) dX10_step_32 (by decide +kernel) ?_
      refine s_ald dX10_step_34 ?_
      refine s_ldc (x := 90000) dX10_step_35 wd_730 ?_
      refine s_cmle (tgt := 43) dX10_step_37 (by decide) ?_ ?_
      · refine s_aload_n dX10_step_43 rfl ?_
        refine s_cv (C := RX10) (Tf := TX10) (N := 41) (i := 10) rfl M_R_minds dX10_step_44 rfl ⟨by decide +kernel, by decide +kernel, by decide +kernel⟩ (by decide) wd_732 wd_733 wd_610 (Or.inl wd_731) ?_
        refine s_aload_n dX10_step_47 rfl ?_
        refine s_gp (C := RX10) (Tf := TX10) (N := 41) (i := 10) (j := 0) rfl (by decide) rfl (Or.inl wd_578) dX10_step_48 ?_
        refine s_iconst (x := 0) dX10_step_51 (by decide +kernel) ?_
        refine s_iload_n dX10_step_52 rfl ?_
        exact S_R_step_b53
      · refine s_ldc (x := (-1000000004)) dX10_step_40 wd_624 ?_
        exact s_ri rfl dX10_step_42
def R_step (As : List Value) (M : ak_M) : ak_R := match As with
  | [.ref a, .int x0] => R_step_b0 [some (.ref a), some (.int x0)] [] M
  | _ => none
theorem M_R_step : ak_Mt yX10_step cX10_step 2 (some .int) 2 46 R_step := by
  refine ak_met (rk := 1) wd_734 (by decide +kernel) rfl (Or.inr (Or.inl ⟨rfl, rfl⟩)) (fun h => absurd h (by decide)) S_R_step_b0 (fun As M r h => ?_)
  unfold R_step at h
  split at h
  next => exact ⟨Nat.le_of_ble_eq_true rfl, 0, h⟩
  next => cases h
-- GreetedMirrorsModel.isTooEarly(III)Z
def R_isTooEarly_b43 : ak_K := k_rz
theorem S_R_isTooEarly_b43 : ak_S cX10_isTooEarly RX10 5 2 1 21 (0, fun _ => 0) 43 (R_isTooEarly_b43) := by
  unfold R_isTooEarly_b43
  exact s_rz rfl dX10_isTooEarly_43
def R_isTooEarly_b42 : ak_K := (k_ci 0 R_isTooEarly_b43)
theorem S_R_isTooEarly_b42 : ak_S cX10_isTooEarly RX10 5 2 1 21 (0, fun _ => 0) 42 (R_isTooEarly_b42) := by
  unfold R_isTooEarly_b42
  refine s_iconst (x := 0) dX10_isTooEarly_42 (by decide +kernel) ?_
  exact S_R_isTooEarly_b43
def R_isTooEarly_b0 : ak_K := (k_al 0 (k_gp 10 11 (k_il 1 (k_ald (k_is 4 (k_il 4 (k_ci (-1) (k_cmeq R_isTooEarly_b42 (k_il 4 (k_il 1 (k_cmge R_isTooEarly_b42 (k_il 2 (k_il 4 (k_cs 2 R_has (k_ifeq (k_il 3 (k_il 4 (k_cs 2 R_has (k_ifeq (k_ci 1 R_isTooEarly_b43) R_isTooEarly_b42)))) R_isTooEarly_b42)))))))))))))))
theorem S_R_isTooEarly_b0 : ak_S cX10_isTooEarly RX10 5 2 1 21 (0, fun _ => 0) 0 (R_isTooEarly_b0) := by
  unfold R_isTooEarly_b0
  refine s_aload_n dX10_isTooEarly_0 rfl ?_
  refine s_gp (C := RX10) (Tf := TX10) (N := 41) (i := 10) (j := 11) rfl (by decide) rfl (Or.inl wd_594) dX10_isTooEarly_1 ?_
  refine s_iload_n dX10_isTooEarly_4 rfl ?_
  refine s_ald dX10_isTooEarly_5 ?_
  refine s_istore dX10_isTooEarly_6 (by decide) ?_
  refine s_iload dX10_isTooEarly_8 ?_
  refine s_iconst (x := (-1)) dX10_isTooEarly_10 (by decide +kernel) ?_
  refine s_cmeq (tgt := 42) dX10_isTooEarly_11 (by decide) ?_ ?_
  · exact S_R_isTooEarly_b42
  · refine s_iload dX10_isTooEarly_14 ?_
    refine s_iload_n dX10_isTooEarly_16 rfl ?_
    refine s_cmge (tgt := 42) dX10_isTooEarly_17 (by decide) ?_ ?_
    · exact S_R_isTooEarly_b42
    · refine s_iload_n dX10_isTooEarly_20 rfl ?_
      refine s_iload dX10_isTooEarly_21 ?_
      refine s_cs M_R_has dX10_isTooEarly_23 ⟨by decide +kernel, by decide +kernel, by decide +kernel⟩ (by decide) wd_711 wd_610 (Or.inl ⟨wd_710, rfl⟩) ?_
      refine s_ifne (tgt := 42) dX10_isTooEarly_26 (by decide) ?_ ?_
      · refine s_iload_n dX10_isTooEarly_29 rfl ?_
        refine s_iload dX10_isTooEarly_30 ?_
        refine s_cs M_R_has dX10_isTooEarly_32 ⟨by decide +kernel, by decide +kernel, by decide +kernel⟩ (by decide) wd_711 wd_610 (Or.inl ⟨wd_710, rfl⟩) ?_
        refine s_ifne (tgt := 42) dX10_isTooEarly_35 (by decide) ?_ ?_
        · refine s_iconst (x := 1) dX10_isTooEarly_38 (by decide +kernel) ?_
          refine s_goto (tgt := 43) dX10_isTooEarly_39 (by decide) ?_
          exact S_R_isTooEarly_b43
        · exact S_R_isTooEarly_b42
      · exact S_R_isTooEarly_b42
def R_isTooEarly (As : List Value) (M : ak_M) : ak_R := match As with
  | [.ref a, .int x0, .int x1, .int x2] => R_isTooEarly_b0 [some (.ref a), some (.int x0), some (.int x1), some (.int x2), none] [] M
  | _ => none
theorem M_R_isTooEarly : ak_Mt yX10_isTooEarly cX10_isTooEarly 5 (some .boolean) 1 21 R_isTooEarly := by
  refine ak_met (rk := 2) wd_735 (by decide +kernel) rfl (Or.inr (Or.inr (Or.inl ⟨rfl, rfl⟩))) (fun h => absurd h (by decide)) S_R_isTooEarly_b0 (fun As M r h => ?_)
  unfold R_isTooEarly at h
  split at h
  next => exact ⟨Nat.le_of_ble_eq_true rfl, 1, h⟩
  next => cases h
-- GreetedMirrorsModel.greets(II)I
def R_greets_b151 : ak_K := (k_ci 0 k_ri)
theorem S_R_greets_b151 : ak_S cX10_greets RX10 3 1 2 45 (0, fun _ => 0) 151 (R_greets_b151) := by
  unfold R_greets_b151
  refine s_iconst (x := 0) dX10_greets_151 (by decide +kernel) ?_
  exact s_ri rfl dX10_greets_152
def R_greets_b196 : ak_K := (k_al 0 (k_gp 10 0 (k_ci 2 (k_dup2 (k_ald (k_ci 1 (k_il 1 (k_b (fun x y => x <<< (y &&& 31)) (k_b (fun x y => x ||| y) (k_ast (k_ci 1 k_ri)))))))))))
theorem S_R_greets_b196 : ak_S cX10_greets RX10 3 1 2 45 (0, fun _ => 0) 196 (R_greets_b196) := by
  unfold R_greets_b196
  refine s_aload_n dX10_greets_196 rfl ?_
  refine s_gp (C := RX10) (Tf := TX10) (N := 41) (i := 10) (j := 0) rfl (by decide) rfl (Or.inl wd_578) dX10_greets_197 ?_
  refine s_iconst (x := 2) dX10_greets_200 (by decide +kernel) ?_
  refine s_dup2 dX10_greets_201 ?_
  refine s_ald dX10_greets_202 ?_
  refine s_iconst (x := 1) dX10_greets_203 (by decide +kernel) ?_
  refine s_iload_n dX10_greets_204 rfl ?_
  refine s_ishl dX10_greets_205 ?_
  refine s_ior dX10_greets_206 ?_
  refine s_ast dX10_greets_207 ?_
  refine s_iconst (x := 1) dX10_greets_208 (by decide +kernel) ?_
  exact s_ri rfl dX10_greets_209
def R_greets_b173 : ak_K := (k_al 0 (k_gp 10 0 (k_ci 3 (k_dup2 (k_ald (k_ci 1 (k_il 1 (k_b (fun x y => x <<< (y &&& 31)) (k_ci 1 (k_al 0 (k_gp 10 11 (k_il 1 (k_ald (k_b (fun x y => x <<< (y &&& 31)) (k_b (fun x y => x ||| y) (k_b (fun x y => x ||| y) (k_ast (k_ci 0 k_ri))))))))))))))))))
theorem S_R_greets_b173 : ak_S cX10_greets RX10 3 1 2 45 (0, fun _ => 0) 173 (R_greets_b173) := by
  unfold R_greets_b173
  refine s_aload_n dX10_greets_173 rfl ?_
  refine s_gp (C := RX10) (Tf := TX10) (N := 41) (i := 10) (j := 0) rfl (by decide) rfl (Or.inl wd_578) dX10_greets_174 ?_
  refine s_iconst (x := 3) dX10_greets_177 (by decide +kernel) ?_
  refine s_dup2 dX10_greets_178 ?_
  refine s_ald dX10_greets_179 ?_
  refine s_iconst (x := 1) dX10_greets_180 (by decide +kernel) ?_
  refine s_iload_n dX10_greets_181 rfl ?_
  refine s_ishl dX10_greets_182 ?_
  refine s_iconst (x := 1) dX10_greets_183 (by decide +kernel) ?_
  refine s_aload_n dX10_greets_184 rfl ?_
  refine s_gp (C := RX10) (Tf := TX10) (N := 41) (i := 10) (j := 11) rfl (by decide) rfl (Or.inl wd_594) dX10_greets_185 ?_
  refine s_iload_n dX10_greets_188 rfl ?_
  refine s_ald dX10_greets_189 ?_
  refine s_ishl dX10_greets_190 ?_
  refine s_ior dX10_greets_191 ?_
  refine s_ior dX10_greets_192 ?_
  refine s_ast dX10_greets_193 ?_
  refine s_iconst (x := 0) dX10_greets_194 (by decide +kernel) ?_
  exact s_ri rfl dX10_greets_195
def R_greets_b129 : ak_K := (k_ci 2 (k_ald (k_il 1 (k_cs 2 R_has (k_ifeq (k_al 0 (k_gp 10 0 (k_ci 3 (k_ald (k_il 1 (k_cs 2 R_has (k_ifeq (k_al 0 (k_il 1 (k_al 0 (k_gp 10 0 (k_ci 2 (k_ald (k_al 0 (k_gp 10 0 (k_ci 3 (k_ald (k_cv 10 4 R_isTooEarly (k_ifeq R_greets_b196 R_greets_b173)))))))))))) R_greets_b151))))))) R_greets_b151)))))
theorem S_R_greets_b129 : ak_S cX10_greets RX10 3 1 2 45 (0, fun _ => 0) 129 (R_greets_b129) := by
  unfold R_greets_b129
  refine s_iconst (x := 2) dX10_greets_129 (by decide +kernel) ?_
  refine s_ald dX10_greets_130 ?_
  refine s_iload_n dX10_greets_131 rfl ?_
  refine s_cs M_R_has dX10_greets_132 ⟨by decide +kernel, by decide +kernel, by decide +kernel⟩ (by decide) wd_711 wd_610 (Or.inl ⟨wd_710, rfl⟩) ?_
  refine s_ifne (tgt := 151) dX10_greets_135 (by decide) ?_ ?_
  · refine s_aload_n dX10_greets_138 rfl ?_
    refine s_gp (C := RX10) (Tf := TX10) (N := 41) (i := 10) (j := 0) rfl (by decide) rfl (Or.inl wd_578) dX10_greets_139 ?_
    refine s_iconst (x := 3) dX10_greets_142 (by decide +kernel) ?_
    refine s_ald dX10_greets_143 ?_
    refine s_iload_n dX10_greets_144 rfl ?_
    refine s_cs M_R_has dX10_greets_145 ⟨by decide +kernel, by decide +kernel, by decide +kernel⟩ (by decide) wd_711 wd_610 (Or.inl ⟨wd_710, rfl⟩) ?_
    refine s_ifeq (tgt := 153) dX10_greets_148 (by decide) ?_ ?_
    · refine s_aload_n dX10_greets_153 rfl ?_
      refine s_iload_n dX10_greets_154 rfl ?_
      refine s_aload_n dX10_greets_155 rfl ?_
      refine s_gp (C := RX10) (Tf := TX10) (N := 41) (i := 10) (j := 0) rfl (by decide) rfl (Or.inl wd_578) dX10_greets_156 ?_
      refine s_iconst (x := 2) dX10_greets_159 (by decide +kernel) ?_
      refine s_ald dX10_greets_160 ?_
      refine s_aload_n dX10_greets_161 rfl ?_
      refine s_gp (C := RX10) (Tf := TX10) (N := 41) (i := 10) (j := 0) rfl (by decide) rfl (Or.inl wd_578) dX10_greets_162 ?_
      refine s_iconst (x := 3) dX10_greets_165 (by decide +kernel) ?_
      refine s_ald dX10_greets_166 ?_
      refine s_cv (C := RX10) (Tf := TX10) (N := 41) (i := 10) rfl M_R_isTooEarly dX10_greets_167 rfl ⟨by decide +kernel, by decide +kernel, by decide +kernel⟩ (by decide) wd_737 wd_738 wd_610 (Or.inl wd_736) ?_
      refine s_ifeq (tgt := 196) dX10_greets_170 (by decide) ?_ ?_
      · exact S_R_greets_b196
      · exact S_R_greets_b173
    · exact S_R_greets_b151
  · exact S_R_greets_b151
def R_greets_b103 : ak_K := (k_ci 0 k_ri)
theorem S_R_greets_b103 : ak_S cX10_greets RX10 3 1 2 45 (0, fun _ => 0) 103 (R_greets_b103) := by
  unfold R_greets_b103
  refine s_iconst (x := 0) dX10_greets_103 (by decide +kernel) ?_
  exact s_ri rfl dX10_greets_104
def R_greets_b84 : ak_K := (k_gp 10 0 (k_ci 15 (k_il 1 (k_b (fun x y => x + y) (k_ci (-1) (k_ast (k_al 0 (k_gp 10 0 (k_ci 22 (k_il 1 (k_b (fun x y => x + y) (k_ci 0 (k_ast R_greets_b103)))))))))))))
theorem S_R_greets_b84 : ak_S cX10_greets RX10 3 1 2 45 (0, fun _ => 0) 84 (R_greets_b84) := by
  unfold R_greets_b84
  refine s_gp (C := RX10) (Tf := TX10) (N := 41) (i := 10) (j := 0) rfl (by decide) rfl (Or.inl wd_578) dX10_greets_84 ?_
  refine s_bipush (x := 15) dX10_greets_87 (by decide +kernel) ?_
  refine s_iload_n dX10_greets_89 rfl ?_
  refine s_iadd dX10_greets_90 ?_
  refine s_iconst (x := (-1)) dX10_greets_91 (by decide +kernel) ?_
  refine s_ast dX10_greets_92 ?_
  refine s_aload_n dX10_greets_93 rfl ?_
  refine s_gp (C := RX10) (Tf := TX10) (N := 41) (i := 10) (j := 0) rfl (by decide) rfl (Or.inl wd_578) dX10_greets_94 ?_
  refine s_bipush (x := 22) dX10_greets_97 (by decide +kernel) ?_
  refine s_iload_n dX10_greets_99 rfl ?_
  refine s_iadd dX10_greets_100 ?_
  refine s_iconst (x := 0) dX10_greets_101 (by decide +kernel) ?_
  refine s_ast dX10_greets_102 ?_
  exact S_R_greets_b103
def R_greets_b49 : ak_K := (k_ast (k_al 0 (k_gp 10 0 (k_ci 15 (k_il 1 (k_b (fun x y => x + y) (k_il 2 (k_ast (k_al 0 (k_gp 10 0 (k_ci 22 (k_il 1 (k_b (fun x y => x + y) (k_ald (k_ci 3 (k_cmeq (k_al 0 (k_gp 10 0 (k_ci 8 (k_il 1 (k_b (fun x y => x + y) (k_il 2 (k_ast (k_al 0 R_greets_b84)))))))) R_greets_b103))))))))))))))))
theorem S_R_greets_b49 : ak_S cX10_greets RX10 3 1 2 45 (0, fun _ => 0) 49 (R_greets_b49) := by
  unfold R_greets_b49
  refine s_ast dX10_greets_49 ?_
  refine s_aload_n dX10_greets_50 rfl ?_
  refine s_gp (C := RX10) (Tf := TX10) (N := 41) (i := 10) (j := 0) rfl (by decide) rfl (Or.inl wd_578) dX10_greets_51 ?_
  refine s_bipush (x := 15) dX10_greets_54 (by decide +kernel) ?_
  refine s_iload_n dX10_greets_56 rfl ?_
  refine s_iadd dX10_greets_57 ?_
  refine s_iload_n dX10_greets_58 rfl ?_
  refine s_ast dX10_greets_59 ?_
  refine s_aload_n dX10_greets_60 rfl ?_
  refine s_gp (C := RX10) (Tf := TX10) (N := 41) (i := 10) (j := 0) rfl (by decide) rfl (Or.inl wd_578) dX10_greets_61 ?_
  refine s_bipush (x := 22) dX10_greets_64 (by decide +kernel) ?_
  refine s_iload_n dX10_greets_66 rfl ?_
  refine s_iadd dX10_greets_67 ?_
  refine s_ald dX10_greets_68 ?_
  refine s_iconst (x := 3) dX10_greets_69 (by decide +kernel) ?_
  refine s_cmne (tgt := 103) dX10_greets_70 (by decide) ?_ ?_
  · refine s_aload_n dX10_greets_73 rfl ?_
    refine s_gp (C := RX10) (Tf := TX10) (N := 41) (i := 10) (j := 0) rfl (by decide) rfl (Or.inl wd_578) dX10_greets_74 ?_
    refine s_bipush (x := 8) dX10_greets_77 (by decide +kernel) ?_
    refine s_iload_n dX10_greets_79 rfl ?_
    refine s_iadd dX10_greets_80 ?_
    refine s_iload_n dX10_greets_81 rfl ?_
    refine s_ast dX10_greets_82 ?_
    refine s_aload_n dX10_greets_83 rfl ?_
    exact S_R_greets_b84
  · exact S_R_greets_b103
def R_greets_b40 : ak_K := (k_il 1 (k_b (fun x y => x + y) (k_ald (k_ci 1 (k_b (fun x y => x + y) R_greets_b49)))))
theorem S_R_greets_b40 : ak_S cX10_greets RX10 3 1 2 45 (0, fun _ => 0) 40 (R_greets_b40) := by
  unfold R_greets_b40
  refine s_iload_n dX10_greets_40 rfl ?_
  refine s_iadd dX10_greets_41 ?_
  refine s_ald dX10_greets_42 ?_
  refine s_iconst (x := 1) dX10_greets_43 (by decide +kernel) ?_
  refine s_iadd dX10_greets_44 ?_
  refine s_goto (tgt := 49) dX10_greets_45 (by decide) ?_
  exact S_R_greets_b49
def R_greets_b0 : ak_K := (k_il 2 (k_al 0 (k_gp 10 0 (k_ci 8 (k_il 1 (k_b (fun x y => x + y) (k_ald (k_cmeq (k_al 0 (k_gp 10 0 (k_ci 15 (k_il 1 (k_b (fun x y => x + y) (k_ci (-1) (k_ast (k_al 0 (k_gp 10 0 (k_ci 22 (k_il 1 (k_b (fun x y => x + y) (k_ci 0 (k_ast (k_al 0 (k_gp 10 0 R_greets_b129)))))))))))))))) (k_al 0 (k_gp 10 0 (k_ci 22 (k_il 1 (k_b (fun x y => x + y) (k_al 0 (k_gp 10 0 (k_ci 15 (k_il 1 (k_b (fun x y => x + y) (k_ald (k_il 2 (k_cmeq (k_al 0 (k_gp 10 0 (k_ci 22 R_greets_b40))) (k_ci 1 R_greets_b49))))))))))))))))))))))
theorem S_R_greets_b0 : ak_S cX10_greets RX10 3 1 2 45 (0, fun _ => 0) 0 (R_greets_b0) := by
  unfold R_greets_b0
  refine s_iload_n dX10_greets_0 rfl ?_
  refine s_aload_n dX10_greets_1 rfl ?_
  refine s_gp (C := RX10) (Tf := TX10) (N := 41) (i := 10) (j := 0) rfl (by decide) rfl (Or.inl wd_578) dX10_greets_2 ?_
  refine s_bipush (x := 8) dX10_greets_5 (by decide +kernel) ?_
  refine s_iload_n dX10_greets_7 rfl ?_
  refine s_iadd dX10_greets_8 ?_
  refine s_ald dX10_greets_9 ?_
  refine s_cmeq (tgt := 105) dX10_greets_10 (by decide) ?_ ?_
  · refine s_aload_n dX10_greets_105 rfl ?_
    refine s_gp (C := RX10) (Tf := TX10) (N := 41) (i := 10) (j := 0) rfl (by decide) rfl (Or.inl wd_578) dX10_greets_106 ?_
    refine s_bipush (x := 15) dX10_greets_109 (by decide +kernel) ?_
    refine s_iload_n dX10_greets_111 rfl ?_
    refine s_iadd dX10_greets_112 ?_
    refine s_iconst (x := (-1)) dX10_greets_113 (by decide +kernel) ?_
    refine s_ast dX10_greets_114 ?_
    refine s_aload_n dX10_greets_115 rfl ?_
    refine s_gp (C := RX10) (Tf := TX10) (N := 41) (i := 10) (j := 0) rfl (by decide) rfl (Or.inl wd_578) dX10_greets_116 ?_
    refine s_bipush (x := 22) dX10_greets_119 (by decide +kernel) ?_
    refine s_iload_n dX10_greets_121 rfl ?_
    refine s_iadd dX10_greets_122 ?_
    refine s_iconst (x := 0) dX10_greets_123 (by decide +kernel) ?_
    refine s_ast dX10_greets_124 ?_
    refine s_aload_n dX10_greets_125 rfl ?_
    refine s_gp (C := RX10) (Tf := TX10) (N := 41) (i := 10) (j := 0) rfl (by decide) rfl (Or.inl wd_578) dX10_greets_126 ?_
    exact S_R_greets_b129
  · refine s_aload_n dX10_greets_13 rfl ?_
    refine s_gp (C := RX10) (Tf := TX10) (N := 41) (i := 10) (j := 0) rfl (by decide) rfl (Or.inl wd_578) dX10_greets_14 ?_
    refine s_bipush (x := 22) dX10_greets_17 (by decide +kernel) ?_
    refine s_iload_n dX10_greets_19 rfl ?_
    refine s_iadd dX10_greets_20 ?_
    refine s_aload_n dX10_greets_21 rfl ?_
    refine s_gp (C := RX10) (Tf := TX10) (N := 41) (i := 10) (j := 0) rfl (by decide) rfl (Or.inl wd_578) dX10_greets_22 ?_
    refine s_bipush (x := 15) dX10_greets_25 (by decide +kernel) ?_
    refine s_iload_n dX10_greets_27 rfl ?_
    refine s_iadd dX10_greets_28 ?_
    refine s_ald dX10_greets_29 ?_
    refine s_iload_n dX10_greets_30 rfl ?_
    refine s_cmne (tgt := 48) dX10_greets_31 (by decide) ?_ ?_
    · refine s_aload_n dX10_greets_34 rfl ?_
      refine s_gp (C := RX10) (Tf := TX10) (N := 41) (i := 10) (j := 0) rfl (by decide) rfl (Or.inl wd_578) dX10_greets_35 ?_
      refine s_bipush (x := 22) dX10_greets_38 (by decide +kernel) ?_
      exact S_R_greets_b40
    · refine s_iconst (x := 1) dX10_greets_48 (by decide +kernel) ?_
      exact S_R_greets_b49
def R_greets (As : List Value) (M : ak_M) : ak_R := match As with
  | [.ref a, .int x0, .int x1] => R_greets_b0 [some (.ref a), some (.int x0), some (.int x1)] [] M
  | _ => none
theorem M_R_greets : ak_Mt yX10_greets cX10_greets 3 (some .int) 2 45 R_greets := by
  refine ak_met (rk := 1) wd_739 (by decide +kernel) rfl (Or.inr (Or.inl ⟨rfl, rfl⟩)) (fun h => absurd h (by decide)) S_R_greets_b0 (fun As M r h => ?_)
  unfold R_greets at h
  split at h
  next => exact ⟨Nat.le_of_ble_eq_true rfl, 0, h⟩
  next => cases h
-- GreetedMirrorsModel.greet(II)I
def R_greet_b15 : ak_K := (k_ci (-1000000001) k_ri)
theorem S_R_greet_b15 : ak_S cX10_greet RX10 3 1 3 67 (0, fun _ => 0) 15 (R_greet_b15) := by
  unfold R_greet_b15
  refine s_ldc (x := (-1000000001)) dX10_greet_15 wd_700 ?_
  exact s_ri rfl dX10_greet_17
def R_greet_b46 : ak_K := (k_ci (-1000000003) k_ri)
theorem S_R_greet_b46 : ak_S cX10_greet RX10 3 1 3 67 (0, fun _ => 0) 46 (R_greet_b46) := by
  unfold R_greet_b46
  refine s_ldc (x := (-1000000003)) dX10_greet_46 wd_725 ?_
  exact s_ri rfl dX10_greet_48
def R_greet_b50 : ak_K := (k_gp 10 0 (k_ci 6 (k_ald (k_ci 90000 (k_cmle (k_al 0 (k_cv 10 1 R_minds (k_al 0 (k_gp 10 0 (k_ci 6 (k_dup2 (k_ald (k_al 0 (k_gp 10 12 (k_il 2 (k_ald (k_b (fun x y => x + y) (k_ast (k_al 0 (k_il 1 (k_il 2 (k_cv 10 3 R_greets k_ri))))))))))))))))) (k_ci (-1000000004) k_ri))))))
theorem S_R_greet_b50 : ak_S cX10_greet RX10 3 1 3 67 (0, fun _ => 0) 50 (R_greet_b50) := by
  unfold R_greet_b50
  refine s_gp (C := RX10) (Tf := TX10) (N := 41) (i := 10) (j := 0) rfl (by decide) rfl (Or.inl wd_578) dX10_greet_50 ?_
  refine s_bipush (x := 6) dX10_greet_53 (by decide +kernel) ?_
  refine s_ald dX10_greet_55 ?_
  refine s_ldc (x := 90000) dX10_greet_56 wd_730 ?_
  refine s_cmle (tgt := 64) dX10_greet_58 (by decide) ?_ ?_
  · refine s_aload_n dX10_greet_64 rfl ?_
    refine s_cv (C := RX10) (Tf := TX10) (N := 41) (i := 10) rfl M_R_minds dX10_greet_65 rfl ⟨by decide +kernel, by decide +kernel, by decide +kernel⟩ (by decide) wd_732 wd_733 wd_610 (Or.inl wd_731) ?_
    refine s_aload_n dX10_greet_68 rfl ?_
    refine s_gp (C := RX10) (Tf := TX10) (N := 41) (i := 10) (j := 0) rfl (by decide) rfl (Or.inl wd_578) dX10_greet_69 ?_
    refine s_bipush (x := 6) dX10_greet_72 (by decide +kernel) ?_
    refine s_dup2 dX10_greet_74 ?_
    refine s_ald dX10_greet_75 ?_
    refine s_aload_n dX10_greet_76 rfl ?_
    refine s_gp (C := RX10) (Tf := TX10) (N := 41) (i := 10) (j := 12) rfl (by decide) rfl (Or.inl wd_595) dX10_greet_77 ?_
    refine s_iload_n dX10_greet_80 rfl ?_
    refine s_ald dX10_greet_81 ?_
    refine s_iadd dX10_greet_82 ?_
    refine s_ast dX10_greet_83 ?_
    refine s_aload_n dX10_greet_84 rfl ?_
    refine s_iload_n dX10_greet_85 rfl ?_
    refine s_iload_n dX10_greet_86 rfl ?_
    refine s_cv (C := RX10) (Tf := TX10) (N := 41) (i := 10) rfl M_R_greets dX10_greet_87 rfl ⟨by decide +kernel, by decide +kernel, by decide +kernel⟩ (by decide) wd_741 wd_742 wd_610 (Or.inl wd_740) ?_
    exact s_ri rfl dX10_greet_90
  · refine s_ldc (x := (-1000000004)) dX10_greet_61 wd_624 ?_
    exact s_ri rfl dX10_greet_63
def R_greet_b0 : ak_K := (k_al 0 (k_il 1 (k_cv 10 2 R_isMirror (k_ifeq R_greet_b15 (k_il 2 (k_cs 1 R_isName (k_ifeq R_greet_b15 (k_al 0 (k_gp 10 9 (k_il 1 (k_ald (k_al 0 (k_gp 10 0 (k_ci 0 (k_ald (k_cmeq (k_al 0 (k_gp 10 0 (k_ci 1 (k_ald (k_il 2 (k_cs 2 R_has (k_ifeq R_greet_b46 (k_al 0 R_greet_b50)))))))) R_greet_b46))))))))))))))))
theorem S_R_greet_b0 : ak_S cX10_greet RX10 3 1 3 67 (0, fun _ => 0) 0 (R_greet_b0) := by
  unfold R_greet_b0
  refine s_aload_n dX10_greet_0 rfl ?_
  refine s_iload_n dX10_greet_1 rfl ?_
  refine s_cv (C := RX10) (Tf := TX10) (N := 41) (i := 10) rfl M_R_isMirror dX10_greet_2 rfl ⟨by decide +kernel, by decide +kernel, by decide +kernel⟩ (by decide) wd_698 wd_699 wd_610 (Or.inl wd_697) ?_
  refine s_ifeq (tgt := 15) dX10_greet_5 (by decide) ?_ ?_
  · exact S_R_greet_b15
  · refine s_iload_n dX10_greet_8 rfl ?_
    refine s_cs M_R_isName dX10_greet_9 ⟨by decide +kernel, by decide +kernel, by decide +kernel⟩ (by decide) wd_744 wd_610 (Or.inl ⟨wd_743, rfl⟩) ?_
    refine s_ifne (tgt := 18) dX10_greet_12 (by decide) ?_ ?_
    · exact S_R_greet_b15
    · refine s_aload_n dX10_greet_18 rfl ?_
      refine s_gp (C := RX10) (Tf := TX10) (N := 41) (i := 10) (j := 9) rfl (by decide) rfl (Or.inl wd_603) dX10_greet_19 ?_
      refine s_iload_n dX10_greet_22 rfl ?_
      refine s_ald dX10_greet_23 ?_
      refine s_aload_n dX10_greet_24 rfl ?_
      refine s_gp (C := RX10) (Tf := TX10) (N := 41) (i := 10) (j := 0) rfl (by decide) rfl (Or.inl wd_578) dX10_greet_25 ?_
      refine s_iconst (x := 0) dX10_greet_28 (by decide +kernel) ?_
      refine s_ald dX10_greet_29 ?_
      refine s_cmne (tgt := 46) dX10_greet_30 (by decide) ?_ ?_
      · refine s_aload_n dX10_greet_33 rfl ?_
        refine s_gp (C := RX10) (Tf := TX10) (N := 41) (i := 10) (j := 0) rfl (by decide) rfl (Or.inl wd_578) dX10_greet_34 ?_
        refine s_iconst (x := 1) dX10_greet_37 (by decide +kernel) ?_
        refine s_ald dX10_greet_38 ?_
        refine s_iload_n dX10_greet_39 rfl ?_
        refine s_cs M_R_has dX10_greet_40 ⟨by decide +kernel, by decide +kernel, by decide +kernel⟩ (by decide) wd_711 wd_610 (Or.inl ⟨wd_710, rfl⟩) ?_
        refine s_ifne (tgt := 49) dX10_greet_43 (by decide) ?_ ?_
        · exact S_R_greet_b46
        · refine s_aload_n dX10_greet_49 rfl ?_
          exact S_R_greet_b50
      · exact S_R_greet_b46
def R_greet (As : List Value) (M : ak_M) : ak_R := match As with
  | [.ref a, .int x0, .int x1] => R_greet_b0 [some (.ref a), some (.int x0), some (.int x1)] [] M
  | _ => none
theorem M_R_greet : ak_Mt yX10_greet cX10_greet 3 (some .int) 3 67 R_greet := by
  refine ak_met (rk := 1) wd_745 (by decide +kernel) rfl (Or.inr (Or.inl ⟨rfl, rfl⟩)) (fun h => absurd h (by decide)) S_R_greet_b0 (fun As M r h => ?_)
  unfold R_greet at h
  split at h
  next => exact ⟨Nat.le_of_ble_eq_true rfl, 0, h⟩
  next => cases h
-- GreetedMirrorsModel.steam(IZ)I
def R_steam_b60 : ak_K := (k_ast (k_il 3 k_ri))
theorem S_R_steam_b60 : ak_S cX10_steam RX10 4 1 2 46 (0, fun _ => 0) 60 (R_steam_b60) := by
  unfold R_steam_b60
  refine s_ast dX10_steam_60 ?_
  refine s_iload_n dX10_steam_61 rfl ?_
  exact s_ri rfl dX10_steam_62
def R_steam_b54 : ak_K := (k_ci 1 (k_il 1 (k_b (fun x y => x <<< (y &&& 31)) (k_ci (-1) (k_b (fun x y => x ^^^ y) (k_b (fun x y => x &&& y) R_steam_b60))))))
theorem S_R_steam_b54 : ak_S cX10_steam RX10 4 1 2 46 (0, fun _ => 0) 54 (R_steam_b54) := by
  unfold R_steam_b54
  refine s_iconst (x := 1) dX10_steam_54 (by decide +kernel) ?_
  refine s_iload_n dX10_steam_55 rfl ?_
  refine s_ishl dX10_steam_56 ?_
  refine s_iconst (x := (-1)) dX10_steam_57 (by decide +kernel) ?_
  refine s_ixor dX10_steam_58 ?_
  refine s_iand dX10_steam_59 ?_
  exact S_R_steam_b60
def R_steam_b41 : ak_K := (k_ci 1 (k_il 1 (k_b (fun x y => x <<< (y &&& 31)) (k_b (fun x y => x ||| y) R_steam_b60))))
theorem S_R_steam_b41 : ak_S cX10_steam RX10 4 1 2 46 (0, fun _ => 0) 41 (R_steam_b41) := by
  unfold R_steam_b41
  refine s_iconst (x := 1) dX10_steam_41 (by decide +kernel) ?_
  refine s_iload_n dX10_steam_42 rfl ?_
  refine s_ishl dX10_steam_43 ?_
  refine s_ior dX10_steam_44 ?_
  refine s_goto (tgt := 60) dX10_steam_45 (by decide) ?_
  exact S_R_steam_b60
def R_steam_b0 : ak_K := (k_al 0 (k_il 1 (k_cv 10 2 R_isRoom (k_ifeq (k_ci (-1000000001) k_ri) (k_al 0 (k_cv 10 1 R_minds (k_al 0 (k_gp 10 0 (k_ci 4 (k_ald (k_il 1 (k_b (fun x y => x >>> (y &&& 31)) (k_ci 1 (k_b (fun x y => x &&& y) (k_is 3 (k_al 0 (k_gp 10 0 (k_ci 4 (k_il 2 (k_ifeq (k_al 0 (k_gp 10 0 (k_ci 4 (k_ald R_steam_b54)))) (k_al 0 (k_gp 10 0 (k_ci 4 (k_ald R_steam_b41))))))))))))))))))))))))
theorem S_R_steam_b0 : ak_S cX10_steam RX10 4 1 2 46 (0, fun _ => 0) 0 (R_steam_b0) := by
  unfold R_steam_b0
  refine s_aload_n dX10_steam_0 rfl ?_
  refine s_iload_n dX10_steam_1 rfl ?_
  refine s_cv (C := RX10) (Tf := TX10) (N := 41) (i := 10) rfl M_R_isRoom dX10_steam_2 rfl ⟨by decide +kernel, by decide +kernel, by decide +kernel⟩ (by decide) wd_728 wd_729 wd_610 (Or.inl wd_727) ?_
  refine s_ifne (tgt := 11) dX10_steam_5 (by decide) ?_ ?_
  · refine s_ldc (x := (-1000000001)) dX10_steam_8 wd_700 ?_
    exact s_ri rfl dX10_steam_10
  · refine s_aload_n dX10_steam_11 rfl ?_
    refine s_cv (C := RX10) (Tf := TX10) (N := 41) (i := 10) rfl M_R_minds dX10_steam_12 rfl ⟨by decide +kernel, by decide +kernel, by decide +kernel⟩ (by decide) wd_732 wd_733 wd_610 (Or.inl wd_731) ?_
    refine s_aload_n dX10_steam_15 rfl ?_
    refine s_gp (C := RX10) (Tf := TX10) (N := 41) (i := 10) (j := 0) rfl (by decide) rfl (Or.inl wd_578) dX10_steam_16 ?_
    refine s_iconst (x := 4) dX10_steam_19 (by decide +kernel) ?_
    refine s_ald dX10_steam_20 ?_
    refine s_iload_n dX10_steam_21 rfl ?_
    refine s_ishr dX10_steam_22 ?_
    refine s_iconst (x := 1) dX10_steam_23 (by decide +kernel) ?_
    refine s_iand dX10_steam_24 ?_
    refine s_istore_n dX10_steam_25 rfl (by decide) ?_
    refine s_aload_n dX10_steam_26 rfl ?_
    refine s_gp (C := RX10) (Tf := TX10) (N := 41) (i := 10) (j := 0) rfl (by decide) rfl (Or.inl wd_578) dX10_steam_27 ?_
    refine s_iconst (x := 4) dX10_steam_30 (by decide +kernel) ?_
    refine s_iload_n dX10_steam_31 rfl ?_
    refine s_ifeq (tgt := 48) dX10_steam_32 (by decide) ?_ ?_
    · refine s_aload_n dX10_steam_48 rfl ?_
      refine s_gp (C := RX10) (Tf := TX10) (N := 41) (i := 10) (j := 0) rfl (by decide) rfl (Or.inl wd_578) dX10_steam_49 ?_
      refine s_iconst (x := 4) dX10_steam_52 (by decide +kernel) ?_
      refine s_ald dX10_steam_53 ?_
      exact S_R_steam_b54
    · refine s_aload_n dX10_steam_35 rfl ?_
      refine s_gp (C := RX10) (Tf := TX10) (N := 41) (i := 10) (j := 0) rfl (by decide) rfl (Or.inl wd_578) dX10_steam_36 ?_
      refine s_iconst (x := 4) dX10_steam_39 (by decide +kernel) ?_
      refine s_ald dX10_steam_40 ?_
      exact S_R_steam_b41
def R_steam (As : List Value) (M : ak_M) : ak_R := match As with
  | [.ref a, .int x0, .int x1] => R_steam_b0 [some (.ref a), some (.int x0), some (.int x1), none] [] M
  | _ => none
theorem M_R_steam : ak_Mt yX10_steam cX10_steam 4 (some .int) 2 46 R_steam := by
  refine ak_met (rk := 1) wd_746 (by decide +kernel) rfl (Or.inr (Or.inl ⟨rfl, rfl⟩)) (fun h => absurd h (by decide)) S_R_steam_b0 (fun As M r h => ?_)
  unfold R_steam at h
  split at h
  next => exact ⟨Nat.le_of_ble_eq_true rfl, 1, h⟩
  next => cases h
-- GreetedMirrorsModel.door(IZ)I
def R_door_b60 : ak_K := (k_ast (k_il 3 k_ri))
theorem S_R_door_b60 : ak_S cX10_door RX10 4 1 2 46 (0, fun _ => 0) 60 (R_door_b60) := by
  unfold R_door_b60
  refine s_ast dX10_door_60 ?_
  refine s_iload_n dX10_door_61 rfl ?_
  exact s_ri rfl dX10_door_62
def R_door_b54 : ak_K := (k_ci 1 (k_il 1 (k_b (fun x y => x <<< (y &&& 31)) (k_ci (-1) (k_b (fun x y => x ^^^ y) (k_b (fun x y => x &&& y) R_door_b60))))))
theorem S_R_door_b54 : ak_S cX10_door RX10 4 1 2 46 (0, fun _ => 0) 54 (R_door_b54) := by
  unfold R_door_b54
  refine s_iconst (x := 1) dX10_door_54 (by decide +kernel) ?_
  refine s_iload_n dX10_door_55 rfl ?_
  refine s_ishl dX10_door_56 ?_
  refine s_iconst (x := (-1)) dX10_door_57 (by decide +kernel) ?_
  refine s_ixor dX10_door_58 ?_
  refine s_iand dX10_door_59 ?_
  exact S_R_door_b60
def R_door_b41 : ak_K := (k_ci 1 (k_il 1 (k_b (fun x y => x <<< (y &&& 31)) (k_b (fun x y => x ||| y) R_door_b60))))
theorem S_R_door_b41 : ak_S cX10_door RX10 4 1 2 46 (0, fun _ => 0) 41 (R_door_b41) := by
  unfold R_door_b41
  refine s_iconst (x := 1) dX10_door_41 (by decide +kernel) ?_
  refine s_iload_n dX10_door_42 rfl ?_
  refine s_ishl dX10_door_43 ?_
  refine s_ior dX10_door_44 ?_
  refine s_goto (tgt := 60) dX10_door_45 (by decide) ?_
  exact S_R_door_b60
def R_door_b0 : ak_K := (k_al 0 (k_il 1 (k_cv 10 2 R_isDoor (k_ifeq (k_ci (-1000000001) k_ri) (k_al 0 (k_cv 10 1 R_minds (k_al 0 (k_gp 10 0 (k_ci 5 (k_ald (k_il 1 (k_b (fun x y => x >>> (y &&& 31)) (k_ci 1 (k_b (fun x y => x &&& y) (k_is 3 (k_al 0 (k_gp 10 0 (k_ci 5 (k_il 2 (k_ifeq (k_al 0 (k_gp 10 0 (k_ci 5 (k_ald R_door_b54)))) (k_al 0 (k_gp 10 0 (k_ci 5 (k_ald R_door_b41))))))))))))))))))))))))
theorem S_R_door_b0 : ak_S cX10_door RX10 4 1 2 46 (0, fun _ => 0) 0 (R_door_b0) := by
  unfold R_door_b0
  refine s_aload_n dX10_door_0 rfl ?_
  refine s_iload_n dX10_door_1 rfl ?_
  refine s_cv (C := RX10) (Tf := TX10) (N := 41) (i := 10) rfl M_R_isDoor dX10_door_2 rfl ⟨by decide +kernel, by decide +kernel, by decide +kernel⟩ (by decide) wd_703 wd_704 wd_610 (Or.inl wd_702) ?_
  refine s_ifne (tgt := 11) dX10_door_5 (by decide) ?_ ?_
  · refine s_ldc (x := (-1000000001)) dX10_door_8 wd_700 ?_
    exact s_ri rfl dX10_door_10
  · refine s_aload_n dX10_door_11 rfl ?_
    refine s_cv (C := RX10) (Tf := TX10) (N := 41) (i := 10) rfl M_R_minds dX10_door_12 rfl ⟨by decide +kernel, by decide +kernel, by decide +kernel⟩ (by decide) wd_732 wd_733 wd_610 (Or.inl wd_731) ?_
    refine s_aload_n dX10_door_15 rfl ?_
    refine s_gp (C := RX10) (Tf := TX10) (N := 41) (i := 10) (j := 0) rfl (by decide) rfl (Or.inl wd_578) dX10_door_16 ?_
    refine s_iconst (x := 5) dX10_door_19 (by decide +kernel) ?_
    refine s_ald dX10_door_20 ?_
    refine s_iload_n dX10_door_21 rfl ?_
    refine s_ishr dX10_door_22 ?_
    refine s_iconst (x := 1) dX10_door_23 (by decide +kernel) ?_
    refine s_iand dX10_door_24 ?_
    refine s_istore_n dX10_door_25 rfl (by decide) ?_
    refine s_aload_n dX10_door_26 rfl ?_
    refine s_gp (C := RX10) (Tf := TX10) (N := 41) (i := 10) (j := 0) rfl (by decide) rfl (Or.inl wd_578) dX10_door_27 ?_
    refine s_iconst (x := 5) dX10_door_30 (by decide +kernel) ?_
    refine s_iload_n dX10_door_31 rfl ?_
    refine s_ifeq (tgt := 48) dX10_door_32 (by decide) ?_ ?_
    · refine s_aload_n dX10_door_48 rfl ?_
      refine s_gp (C := RX10) (Tf := TX10) (N := 41) (i := 10) (j := 0) rfl (by decide) rfl (Or.inl wd_578) dX10_door_49 ?_
      refine s_iconst (x := 5) dX10_door_52 (by decide +kernel) ?_
      refine s_ald dX10_door_53 ?_
      exact S_R_door_b54
    · refine s_aload_n dX10_door_35 rfl ?_
      refine s_gp (C := RX10) (Tf := TX10) (N := 41) (i := 10) (j := 0) rfl (by decide) rfl (Or.inl wd_578) dX10_door_36 ?_
      refine s_iconst (x := 5) dX10_door_39 (by decide +kernel) ?_
      refine s_ald dX10_door_40 ?_
      exact S_R_door_b41
def R_door (As : List Value) (M : ak_M) : ak_R := match As with
  | [.ref a, .int x0, .int x1] => R_door_b0 [some (.ref a), some (.int x0), some (.int x1), none] [] M
  | _ => none
theorem M_R_door : ak_Mt yX10_door cX10_door 4 (some .int) 2 46 R_door := by
  refine ak_met (rk := 1) wd_747 (by decide +kernel) rfl (Or.inr (Or.inl ⟨rfl, rfl⟩)) (fun h => absurd h (by decide)) S_R_door_b0 (fun As M r h => ?_)
  unfold R_door at h
  split at h
  next => exact ⟨Nat.le_of_ble_eq_true rfl, 1, h⟩
  next => cases h
-- GreetedMirrorsModel.night()I
def R_night_b49 : ak_K := (k_ci 0 (k_ast (k_al 0 (k_gp 10 0 (k_ci 7 (k_dup2 (k_ald (k_ci 1 (k_b (fun x y => x + y) (k_ast (k_al 0 (k_gp 10 0 (k_ci 7 (k_ald k_ri))))))))))))))
theorem S_R_night_b49 : ak_S cX10_night RX10 1 1 2 44 (0, fun _ => 0) 49 (R_night_b49) := by
  unfold R_night_b49
  refine s_iconst (x := 0) dX10_night_49 (by decide +kernel) ?_
  refine s_ast dX10_night_50 ?_
  refine s_aload_n dX10_night_51 rfl ?_
  refine s_gp (C := RX10) (Tf := TX10) (N := 41) (i := 10) (j := 0) rfl (by decide) rfl (Or.inl wd_578) dX10_night_52 ?_
  refine s_bipush (x := 7) dX10_night_55 (by decide +kernel) ?_
  refine s_dup2 dX10_night_57 ?_
  refine s_ald dX10_night_58 ?_
  refine s_iconst (x := 1) dX10_night_59 (by decide +kernel) ?_
  refine s_iadd dX10_night_60 ?_
  refine s_ast dX10_night_61 ?_
  refine s_aload_n dX10_night_62 rfl ?_
  refine s_gp (C := RX10) (Tf := TX10) (N := 41) (i := 10) (j := 0) rfl (by decide) rfl (Or.inl wd_578) dX10_night_63 ?_
  refine s_bipush (x := 7) dX10_night_66 (by decide +kernel) ?_
  refine s_ald dX10_night_68 ?_
  exact s_ri rfl dX10_night_69
def R_night_b0 : ak_K := (k_al 0 (k_gi 10 3 (k_ifeq (k_ci (-1000000003) k_ri) (k_al 0 (k_gp 10 0 (k_ci 7 (k_ald (k_ci 9000 (k_cmle (k_al 0 (k_cv 10 1 R_minds (k_al 0 (k_gp 10 0 (k_ci 2 (k_ci 0 (k_ast (k_al 0 (k_gp 10 0 (k_ci 3 (k_ci 0 (k_ast (k_al 0 (k_gp 10 0 (k_ci 4 R_night_b49))))))))))))))) (k_ci (-1000000004) k_ri))))))))))
theorem S_R_night_b0 : ak_S cX10_night RX10 1 1 2 44 (0, fun _ => 0) 0 (R_night_b0) := by
  unfold R_night_b0
  refine s_aload_n dX10_night_0 rfl ?_
  refine s_gi (C := RX10) (Tf := TX10) (N := 41) (i := 10) (j := 3) rfl (by decide) rfl (Or.inl wd_608) dX10_night_1 ?_
  refine s_ifne (tgt := 10) dX10_night_4 (by decide) ?_ ?_
  · refine s_ldc (x := (-1000000003)) dX10_night_7 wd_725 ?_
    exact s_ri rfl dX10_night_9
  · refine s_aload_n dX10_night_10 rfl ?_
    refine s_gp (C := RX10) (Tf := TX10) (N := 41) (i := 10) (j := 0) rfl (by decide) rfl (Or.inl wd_578) dX10_night_11 ?_
    refine s_bipush (x := 7) dX10_night_14 (by decide +kernel) ?_
    refine s_ald dX10_night_16 ?_
    refine s_sipush (x := 9000) dX10_night_17 (by decide +kernel) ?_
    refine s_cmle (tgt := 26) dX10_night_20 (by decide) ?_ ?_
    · refine s_aload_n dX10_night_26 rfl ?_
      refine s_cv (C := RX10) (Tf := TX10) (N := 41) (i := 10) rfl M_R_minds dX10_night_27 rfl ⟨by decide +kernel, by decide +kernel, by decide +kernel⟩ (by decide) wd_732 wd_733 wd_610 (Or.inl wd_731) ?_
      refine s_aload_n dX10_night_30 rfl ?_
      refine s_gp (C := RX10) (Tf := TX10) (N := 41) (i := 10) (j := 0) rfl (by decide) rfl (Or.inl wd_578) dX10_night_31 ?_
      refine s_iconst (x := 2) dX10_night_34 (by decide +kernel) ?_
      refine s_iconst (x := 0) dX10_night_35 (by decide +kernel) ?_
      refine s_ast dX10_night_36 ?_
      refine s_aload_n dX10_night_37 rfl ?_
      refine s_gp (C := RX10) (Tf := TX10) (N := 41) (i := 10) (j := 0) rfl (by decide) rfl (Or.inl wd_578) dX10_night_38 ?_
      refine s_iconst (x := 3) dX10_night_41 (by decide +kernel) ?_
      refine s_iconst (x := 0) dX10_night_42 (by decide +kernel) ?_
      refine s_ast dX10_night_43 ?_
      refine s_aload_n dX10_night_44 rfl ?_
      refine s_gp (C := RX10) (Tf := TX10) (N := 41) (i := 10) (j := 0) rfl (by decide) rfl (Or.inl wd_578) dX10_night_45 ?_
      refine s_iconst (x := 4) dX10_night_48 (by decide +kernel) ?_
      exact S_R_night_b49
    · refine s_ldc (x := (-1000000004)) dX10_night_23 wd_624 ?_
      exact s_ri rfl dX10_night_25
def R_night (As : List Value) (M : ak_M) : ak_R := match As with
  | [.ref a] => R_night_b0 [some (.ref a)] [] M
  | _ => none
theorem M_R_night : ak_Mt yX10_night cX10_night 1 (some .int) 2 44 R_night := by
  refine ak_met (rk := 1) wd_748 (by decide +kernel) rfl (Or.inr (Or.inl ⟨rfl, rfl⟩)) (fun h => absurd h (by decide)) S_R_night_b0 (fun As M r h => ?_)
  unfold R_night at h
  split at h
  next => exact ⟨Nat.le_of_ble_eq_true rfl, 0, h⟩
  next => cases h
-- GreetedMirrorsModel.envelope(I)I
def R_envelope_b0 : ak_K := (k_il 1 (k_cs 1 R_isName (k_ifeq (k_ci (-1000000001) k_ri) (k_al 0 (k_cv 10 1 R_minds (k_al 0 (k_gp 10 0 (k_ci 1 (k_dup2 (k_ald (k_ci 1 (k_il 1 (k_b (fun x y => x <<< (y &&& 31)) (k_b (fun x y => x ||| y) (k_ast (k_al 0 (k_gp 10 0 (k_ci 1 (k_ald k_ri)))))))))))))))))))
theorem S_R_envelope_b0 : ak_S cX10_envelope RX10 2 1 2 45 (0, fun _ => 0) 0 (R_envelope_b0) := by
  unfold R_envelope_b0
  refine s_iload_n dX10_envelope_0 rfl ?_
  refine s_cs M_R_isName dX10_envelope_1 ⟨by decide +kernel, by decide +kernel, by decide +kernel⟩ (by decide) wd_744 wd_610 (Or.inl ⟨wd_743, rfl⟩) ?_
  refine s_ifne (tgt := 10) dX10_envelope_4 (by decide) ?_ ?_
  · refine s_ldc (x := (-1000000001)) dX10_envelope_7 wd_700 ?_
    exact s_ri rfl dX10_envelope_9
  · refine s_aload_n dX10_envelope_10 rfl ?_
    refine s_cv (C := RX10) (Tf := TX10) (N := 41) (i := 10) rfl M_R_minds dX10_envelope_11 rfl ⟨by decide +kernel, by decide +kernel, by decide +kernel⟩ (by decide) wd_732 wd_733 wd_610 (Or.inl wd_731) ?_
    refine s_aload_n dX10_envelope_14 rfl ?_
    refine s_gp (C := RX10) (Tf := TX10) (N := 41) (i := 10) (j := 0) rfl (by decide) rfl (Or.inl wd_578) dX10_envelope_15 ?_
    refine s_iconst (x := 1) dX10_envelope_18 (by decide +kernel) ?_
    refine s_dup2 dX10_envelope_19 ?_
    refine s_ald dX10_envelope_20 ?_
    refine s_iconst (x := 1) dX10_envelope_21 (by decide +kernel) ?_
    refine s_iload_n dX10_envelope_22 rfl ?_
    refine s_ishl dX10_envelope_23 ?_
    refine s_ior dX10_envelope_24 ?_
    refine s_ast dX10_envelope_25 ?_
    refine s_aload_n dX10_envelope_26 rfl ?_
    refine s_gp (C := RX10) (Tf := TX10) (N := 41) (i := 10) (j := 0) rfl (by decide) rfl (Or.inl wd_578) dX10_envelope_27 ?_
    refine s_iconst (x := 1) dX10_envelope_30 (by decide +kernel) ?_
    refine s_ald dX10_envelope_31 ?_
    exact s_ri rfl dX10_envelope_32
def R_envelope (As : List Value) (M : ak_M) : ak_R := match As with
  | [.ref a, .int x0] => R_envelope_b0 [some (.ref a), some (.int x0)] [] M
  | _ => none
theorem M_R_envelope : ak_Mt yX10_envelope cX10_envelope 2 (some .int) 2 45 R_envelope := by
  refine ak_met (rk := 1) wd_749 (by decide +kernel) rfl (Or.inr (Or.inl ⟨rfl, rfl⟩)) (fun h => absurd h (by decide)) S_R_envelope_b0 (fun As M r h => ?_)
  unfold R_envelope at h
  split at h
  next => exact ⟨Nat.le_of_ble_eq_true rfl, 0, h⟩
  next => cases h
-- GreetedMirrorsModel.walk(II)I
def R_walk_b16 : ak_K := (k_ci (-1000000001) k_ri)
theorem S_R_walk_b16 : ak_S cX10_walk RX10 4 1 2 46 (0, fun _ => 0) 16 (R_walk_b16) := by
  unfold R_walk_b16
  refine s_ldc (x := (-1000000001)) dX10_walk_16 wd_700 ?_
  exact s_ri rfl dX10_walk_18
def R_walk_b43 : ak_K := (k_il 3 k_ri)
theorem S_R_walk_b43 : ak_S cX10_walk RX10 4 1 2 46 (0, fun _ => 0) 43 (R_walk_b43) := by
  unfold R_walk_b43
  refine s_iload_n dX10_walk_43 rfl ?_
  exact s_ri rfl dX10_walk_44
def R_walk_b0 : ak_K := (k_al 0 (k_il 1 (k_cv 10 2 R_isPerson (k_ifeq R_walk_b16 (k_al 0 (k_il 2 (k_cv 10 2 R_isRoom (k_ifeq R_walk_b16 (k_al 0 (k_cv 10 1 R_minds (k_al 0 (k_gp 10 0 (k_ci 29 (k_il 1 (k_b (fun x y => x + y) (k_ald (k_is 3 (k_al 0 (k_gp 10 0 (k_ci 29 (k_il 1 (k_b (fun x y => x + y) (k_il 2 (k_ast R_walk_b43))))))))))))))))))))))))
theorem S_R_walk_b0 : ak_S cX10_walk RX10 4 1 2 46 (0, fun _ => 0) 0 (R_walk_b0) := by
  unfold R_walk_b0
  refine s_aload_n dX10_walk_0 rfl ?_
  refine s_iload_n dX10_walk_1 rfl ?_
  refine s_cv (C := RX10) (Tf := TX10) (N := 41) (i := 10) rfl M_R_isPerson dX10_walk_2 rfl ⟨by decide +kernel, by decide +kernel, by decide +kernel⟩ (by decide) wd_707 wd_708 wd_610 (Or.inl wd_706) ?_
  refine s_ifeq (tgt := 16) dX10_walk_5 (by decide) ?_ ?_
  · exact S_R_walk_b16
  · refine s_aload_n dX10_walk_8 rfl ?_
    refine s_iload_n dX10_walk_9 rfl ?_
    refine s_cv (C := RX10) (Tf := TX10) (N := 41) (i := 10) rfl M_R_isRoom dX10_walk_10 rfl ⟨by decide +kernel, by decide +kernel, by decide +kernel⟩ (by decide) wd_728 wd_729 wd_610 (Or.inl wd_727) ?_
    refine s_ifne (tgt := 19) dX10_walk_13 (by decide) ?_ ?_
    · exact S_R_walk_b16
    · refine s_aload_n dX10_walk_19 rfl ?_
      refine s_cv (C := RX10) (Tf := TX10) (N := 41) (i := 10) rfl M_R_minds dX10_walk_20 rfl ⟨by decide +kernel, by decide +kernel, by decide +kernel⟩ (by decide) wd_732 wd_733 wd_610 (Or.inl wd_731) ?_
      refine s_aload_n dX10_walk_23 rfl ?_
      refine s_gp (C := RX10) (Tf := TX10) (N := 41) (i := 10) (j := 0) rfl (by decide) rfl (Or.inl wd_578) dX10_walk_24 ?_
      refine s_bipush (x := 29) dX10_walk_27 (by decide +kernel) ?_
      refine s_iload_n dX10_walk_29 rfl ?_
      refine s_iadd dX10_walk_30 ?_
      refine s_ald dX10_walk_31 ?_
      refine s_istore_n dX10_walk_32 rfl (by decide) ?_
      refine s_aload_n dX10_walk_33 rfl ?_
      refine s_gp (C := RX10) (Tf := TX10) (N := 41) (i := 10) (j := 0) rfl (by decide) rfl (Or.inl wd_578) dX10_walk_34 ?_
      refine s_bipush (x := 29) dX10_walk_37 (by decide +kernel) ?_
      refine s_iload_n dX10_walk_39 rfl ?_
      refine s_iadd dX10_walk_40 ?_
      refine s_iload_n dX10_walk_41 rfl ?_
      refine s_ast dX10_walk_42 ?_
      exact S_R_walk_b43
def R_walk (As : List Value) (M : ak_M) : ak_R := match As with
  | [.ref a, .int x0, .int x1] => R_walk_b0 [some (.ref a), some (.int x0), some (.int x1), none] [] M
  | _ => none
theorem M_R_walk : ak_Mt yX10_walk cX10_walk 4 (some .int) 2 46 R_walk := by
  refine ak_met (rk := 1) wd_750 (by decide +kernel) rfl (Or.inr (Or.inl ⟨rfl, rfl⟩)) (fun h => absurd h (by decide)) S_R_walk_b0 (fun As M r h => ?_)
  unfold R_walk at h
  split at h
  next => exact ⟨Nat.le_of_ble_eq_true rfl, 1, h⟩
  next => cases h
-- GreetedMirrorsModel.draw(I)I
def R_draw_b40 : ak_K := k_ri
theorem S_R_draw_b40 : ak_S cX10_draw RX10 2 1 0 0 (0, fun _ => 0) 40 (R_draw_b40) := by
  unfold R_draw_b40
  exact s_ri rfl dX10_draw_40
def R_draw_b0 : ak_K := (k_al 0 (k_gp 10 0 (k_ci 34 (k_al 0 (k_gp 10 0 (k_ci 34 (k_ald (k_i2l (k_cl 1103515245 (k_lb (fun x y => x * y) (k_cl 12345 (k_lb (fun x y => x + y) (k_cl 2147483648 (k_lbd (fun x y => x - x / y * y) (k_l2i (k_ast (k_al 0 (k_gp 10 0 (k_ci 34 (k_ald (k_ci 65536 (k_bd (fun x y => x / y) (k_il 1 (k_bd (fun x y => x - x / y * y) R_draw_b40))))))))))))))))))))))))
theorem S_R_draw_b0 : ak_S cX10_draw RX10 2 1 0 0 (0, fun _ => 0) 0 (R_draw_b0) := by
  unfold R_draw_b0
  refine s_aload_n dX10_draw_0 rfl ?_
  refine s_gp (C := RX10) (Tf := TX10) (N := 41) (i := 10) (j := 0) rfl (by decide) rfl (Or.inl wd_578) dX10_draw_1 ?_
  refine s_bipush (x := 34) dX10_draw_4 (by decide +kernel) ?_
  refine s_aload_n dX10_draw_6 rfl ?_
  refine s_gp (C := RX10) (Tf := TX10) (N := 41) (i := 10) (j := 0) rfl (by decide) rfl (Or.inl wd_578) dX10_draw_7 ?_
  refine s_bipush (x := 34) dX10_draw_10 (by decide +kernel) ?_
  refine s_ald dX10_draw_12 ?_
  refine s_i2l dX10_draw_13 ?_
  refine s_ldc2 (x := 1103515245) dX10_draw_14 wd_751 ?_
  refine s_lmul dX10_draw_17 ?_
  refine s_ldc2 (x := 12345) dX10_draw_18 wd_752 ?_
  refine s_ladd dX10_draw_21 ?_
  refine s_ldc2 (x := 2147483648) dX10_draw_22 wd_753 ?_
  refine s_lrem dX10_draw_25 ?_
  refine s_l2i dX10_draw_26 ?_
  refine s_ast dX10_draw_27 ?_
  refine s_aload_n dX10_draw_28 rfl ?_
  refine s_gp (C := RX10) (Tf := TX10) (N := 41) (i := 10) (j := 0) rfl (by decide) rfl (Or.inl wd_578) dX10_draw_29 ?_
  refine s_bipush (x := 34) dX10_draw_32 (by decide +kernel) ?_
  refine s_ald dX10_draw_34 ?_
  refine s_ldc (x := 65536) dX10_draw_35 wd_754 ?_
  refine s_idiv dX10_draw_37 ?_
  refine s_iload_n dX10_draw_38 rfl ?_
  refine s_irem dX10_draw_39 ?_
  exact S_R_draw_b40
def R_draw (As : List Value) (M : ak_M) : ak_R := match As with
  | [.ref a, .int x0] => R_draw_b0 [some (.ref a), some (.int x0)] [] M
  | _ => none
theorem M_R_draw : ak_Mt yX10_draw cX10_draw 2 (some .int) 0 0 R_draw := by
  refine ak_met (rk := 1) wd_755 (by decide +kernel) rfl (Or.inr (Or.inl ⟨rfl, rfl⟩)) (fun h => absurd h (by decide)) S_R_draw_b0 (fun As M r h => ?_)
  unfold R_draw at h
  split at h
  next => exact ⟨Nat.le_of_ble_eq_true rfl, 0, h⟩
  next => cases h
-- GreetedMirrorsModel.drift(I)I
def R_drift_b150 (h31 : ak_K) : ak_K := (k_ii 2 1 h31)
theorem S_R_drift_b150 {h31 : ak_K} (H31 : ak_S cX10_drift RX10 5 1 3 67 (0, fun _ => 0) 31 h31) : ak_S cX10_drift RX10 5 1 3 67 (0, fun _ => 0) 150 (R_drift_b150 h31) := by
  unfold R_drift_b150
  refine s_iinc (y := 1) dX10_drift_150 (by decide +kernel) (by decide) ?_
  refine s_goto (tgt := 31) dX10_drift_153 (by decide) ?_
  exact H31
def R_drift_b111 (h31 : ak_K) : ak_K := (k_il 3 (k_ci 2 (k_cmeq (k_al 0 (k_gi 10 5 (k_ifle (R_drift_b150 h31) (k_al 0 (k_al 0 (k_gi 10 5 (k_cv 10 2 R_draw (k_is 4 (k_al 0 (k_il 4 (k_al 0 (k_gp 10 0 (k_ci 8 (k_il 4 (k_b (fun x y => x + y) (k_ald (k_cv 10 3 R_greets (k_pop (R_drift_b150 h31))))))))))))))))))) (R_drift_b150 h31))))
theorem S_R_drift_b111 {h31 : ak_K} (H31 : ak_S cX10_drift RX10 5 1 3 67 (0, fun _ => 0) 31 h31) : ak_S cX10_drift RX10 5 1 3 67 (0, fun _ => 0) 111 (R_drift_b111 h31) := by
  unfold R_drift_b111
  refine s_iload_n dX10_drift_111 rfl ?_
  refine s_iconst (x := 2) dX10_drift_112 (by decide +kernel) ?_
  refine s_cmne (tgt := 150) dX10_drift_113 (by decide) ?_ ?_
  · refine s_aload_n dX10_drift_116 rfl ?_
    refine s_gi (C := RX10) (Tf := TX10) (N := 41) (i := 10) (j := 5) rfl (by decide) rfl (Or.inl wd_615) dX10_drift_117 ?_
    refine s_ifle (tgt := 150) dX10_drift_120 (by decide) ?_ ?_
    · exact (S_R_drift_b150 H31)
    · refine s_aload_n dX10_drift_123 rfl ?_
      refine s_aload_n dX10_drift_124 rfl ?_
      refine s_gi (C := RX10) (Tf := TX10) (N := 41) (i := 10) (j := 5) rfl (by decide) rfl (Or.inl wd_615) dX10_drift_125 ?_
      refine s_cv (C := RX10) (Tf := TX10) (N := 41) (i := 10) rfl M_R_draw dX10_drift_128 rfl ⟨by decide +kernel, by decide +kernel, by decide +kernel⟩ (by decide) wd_757 wd_758 wd_610 (Or.inl wd_756) ?_
      refine s_istore dX10_drift_131 (by decide) ?_
      refine s_aload_n dX10_drift_133 rfl ?_
      refine s_iload dX10_drift_134 ?_
      refine s_aload_n dX10_drift_136 rfl ?_
      refine s_gp (C := RX10) (Tf := TX10) (N := 41) (i := 10) (j := 0) rfl (by decide) rfl (Or.inl wd_578) dX10_drift_137 ?_
      refine s_bipush (x := 8) dX10_drift_140 (by decide +kernel) ?_
      refine s_iload dX10_drift_142 ?_
      refine s_iadd dX10_drift_144 ?_
      refine s_ald dX10_drift_145 ?_
      refine s_cv (C := RX10) (Tf := TX10) (N := 41) (i := 10) rfl M_R_greets dX10_drift_146 rfl ⟨by decide +kernel, by decide +kernel, by decide +kernel⟩ (by decide) wd_741 wd_742 wd_610 (Or.inl wd_740) ?_
      refine s_pop dX10_drift_149 ?_
      exact (S_R_drift_b150 H31)
  · exact (S_R_drift_b150 H31)
def R_drift_b98 (h31 : ak_K) : ak_K := (k_b (fun x y => x + y) (k_al 0 (k_al 0 (k_gi 10 3 (k_cv 10 2 R_draw (k_ast (R_drift_b150 h31)))))))
theorem S_R_drift_b98 {h31 : ak_K} (H31 : ak_S cX10_drift RX10 5 1 3 67 (0, fun _ => 0) 31 h31) : ak_S cX10_drift RX10 5 1 3 67 (0, fun _ => 0) 98 (R_drift_b98 h31) := by
  unfold R_drift_b98
  refine s_iadd dX10_drift_98 ?_
  refine s_aload_n dX10_drift_99 rfl ?_
  refine s_aload_n dX10_drift_100 rfl ?_
  refine s_gi (C := RX10) (Tf := TX10) (N := 41) (i := 10) (j := 3) rfl (by decide) rfl (Or.inl wd_608) dX10_drift_101 ?_
  refine s_cv (C := RX10) (Tf := TX10) (N := 41) (i := 10) rfl M_R_draw dX10_drift_104 rfl ⟨by decide +kernel, by decide +kernel, by decide +kernel⟩ (by decide) wd_757 wd_758 wd_610 (Or.inl wd_756) ?_
  refine s_ast dX10_drift_107 ?_
  refine s_goto (tgt := 150) dX10_drift_108 (by decide) ?_
  exact (S_R_drift_b150 H31)
def R_drift_b31 (h31 : ak_K) : ak_K := (k_il 2 (k_il 1 (k_cmge (k_al 0 (k_gp 10 0 (k_ci 2 (k_ald k_ri)))) (k_al 0 (k_ci 3 (k_cv 10 2 R_draw (k_is 3 (k_il 3 (k_ifeq (k_al 0 (k_gp 10 0 (k_ci 4 (k_dup2 (k_ald (k_ci 1 (k_al 0 (k_al 0 (k_gi 10 3 (k_cv 10 2 R_draw (k_b (fun x y => x <<< (y &&& 31)) (k_b (fun x y => x ||| y) (k_ast (R_drift_b150 h31)))))))))))))) (k_il 3 (k_ci 1 (k_cmeq (k_al 0 (k_gi 10 6 (k_ifle (R_drift_b111 h31) (k_al 0 (k_al 0 (k_gi 10 6 (k_cv 10 2 R_draw (k_is 4 (k_al 0 (k_gp 10 0 (k_ci 29 (k_il 4 (R_drift_b98 h31))))))))))))) (R_drift_b111 h31)))))))))))))
theorem S_R_drift_b31 {h31 : ak_K} (H31 : ak_S cX10_drift RX10 5 1 3 67 (0, fun _ => 0) 31 h31) : ak_S cX10_drift RX10 5 1 3 67 (0, fun _ => 0) 31 (R_drift_b31 h31) := by
  unfold R_drift_b31
  refine s_iload_n dX10_drift_31 rfl ?_
  refine s_iload_n dX10_drift_32 rfl ?_
  refine s_cmge (tgt := 156) dX10_drift_33 (by decide) ?_ ?_
  · refine s_aload_n dX10_drift_156 rfl ?_
    refine s_gp (C := RX10) (Tf := TX10) (N := 41) (i := 10) (j := 0) rfl (by decide) rfl (Or.inl wd_578) dX10_drift_157 ?_
    refine s_iconst (x := 2) dX10_drift_160 (by decide +kernel) ?_
    refine s_ald dX10_drift_161 ?_
    exact s_ri rfl dX10_drift_162
  · refine s_aload_n dX10_drift_36 rfl ?_
    refine s_iconst (x := 3) dX10_drift_37 (by decide +kernel) ?_
    refine s_cv (C := RX10) (Tf := TX10) (N := 41) (i := 10) rfl M_R_draw dX10_drift_38 rfl ⟨by decide +kernel, by decide +kernel, by decide +kernel⟩ (by decide) wd_757 wd_758 wd_610 (Or.inl wd_756) ?_
    refine s_istore_n dX10_drift_41 rfl (by decide) ?_
    refine s_iload_n dX10_drift_42 rfl ?_
    refine s_ifne (tgt := 68) dX10_drift_43 (by decide) ?_ ?_
    · refine s_aload_n dX10_drift_46 rfl ?_
      refine s_gp (C := RX10) (Tf := TX10) (N := 41) (i := 10) (j := 0) rfl (by decide) rfl (Or.inl wd_578) dX10_drift_47 ?_
      refine s_iconst (x := 4) dX10_drift_50 (by decide +kernel) ?_
      refine s_dup2 dX10_drift_51 ?_
      refine s_ald dX10_drift_52 ?_
      refine s_iconst (x := 1) dX10_drift_53 (by decide +kernel) ?_
      refine s_aload_n dX10_drift_54 rfl ?_
      refine s_aload_n dX10_drift_55 rfl ?_
      refine s_gi (C := RX10) (Tf := TX10) (N := 41) (i := 10) (j := 3) rfl (by decide) rfl (Or.inl wd_608) dX10_drift_56 ?_
      refine s_cv (C := RX10) (Tf := TX10) (N := 41) (i := 10) rfl M_R_draw dX10_drift_59 rfl ⟨by decide +kernel, by decide +kernel, by decide +kernel⟩ (by decide) wd_757 wd_758 wd_610 (Or.inl wd_756) ?_
      refine s_ishl dX10_drift_62 ?_
      refine s_ior dX10_drift_63 ?_
      refine s_ast dX10_drift_64 ?_
      refine s_goto (tgt := 150) dX10_drift_65 (by decide) ?_
      exact (S_R_drift_b150 H31)
    · refine s_iload_n dX10_drift_68 rfl ?_
      refine s_iconst (x := 1) dX10_drift_69 (by decide +kernel) ?_
      refine s_cmne (tgt := 111) dX10_drift_70 (by decide) ?_ ?_
      · refine s_aload_n dX10_drift_73 rfl ?_
        refine s_gi (C := RX10) (Tf := TX10) (N := 41) (i := 10) (j := 6) rfl (by decide) rfl (Or.inl wd_617) dX10_drift_74 ?_
        refine s_ifle (tgt := 111) dX10_drift_77 (by decide) ?_ ?_
        · exact (S_R_drift_b111 H31)
        · refine s_aload_n dX10_drift_80 rfl ?_
          refine s_aload_n dX10_drift_81 rfl ?_
          refine s_gi (C := RX10) (Tf := TX10) (N := 41) (i := 10) (j := 6) rfl (by decide) rfl (Or.inl wd_617) dX10_drift_82 ?_
          refine s_cv (C := RX10) (Tf := TX10) (N := 41) (i := 10) rfl M_R_draw dX10_drift_85 rfl ⟨by decide +kernel, by decide +kernel, by decide +kernel⟩ (by decide) wd_757 wd_758 wd_610 (Or.inl wd_756) ?_
          refine s_istore dX10_drift_88 (by decide) ?_
          refine s_aload_n dX10_drift_90 rfl ?_
          refine s_gp (C := RX10) (Tf := TX10) (N := 41) (i := 10) (j := 0) rfl (by decide) rfl (Or.inl wd_578) dX10_drift_91 ?_
          refine s_bipush (x := 29) dX10_drift_94 (by decide +kernel) ?_
          refine s_iload dX10_drift_96 ?_
          exact (S_R_drift_b98 H31)
      · exact (S_R_drift_b111 H31)
def R_drift_l31 : Nat → ak_K
  | 0 => k_no
  | n + 1 => R_drift_b31 (R_drift_l31 n)
theorem S_R_drift_l31 : ∀ n : Nat, ak_S cX10_drift RX10 5 1 3 67 (0, fun _ => 0) 31 (R_drift_l31 n)
  | 0 => s_no
  | n + 1 => S_R_drift_b31 (S_R_drift_l31 n)
def R_drift_b0 : ak_K := (k_il 1 (k_i2l (k_cl 1 (k_cl 40 (k_cs 3 R_in (k_ifeq (k_ci (-1000000002) k_ri) (k_al 0 (k_gi 10 3 (k_ifeq (k_ci (-1000000003) k_ri) (k_al 0 (k_cv 10 1 R_minds (k_ci 0 (k_is 2 (R_drift_l31 ak_fuel))))))))))))))
theorem S_R_drift_b0 : ak_S cX10_drift RX10 5 1 3 67 (0, fun _ => 0) 0 (R_drift_b0) := by
  unfold R_drift_b0
  refine s_iload_n dX10_drift_0 rfl ?_
  refine s_i2l dX10_drift_1 ?_
  refine s_lconst (x := 1) dX10_drift_2 (by decide +kernel) ?_
  refine s_ldc2 (x := 40) dX10_drift_3 wd_759 ?_
  refine s_cs M_R_in dX10_drift_6 ⟨by decide +kernel, by decide +kernel, by decide +kernel⟩ (by decide) wd_611 wd_610 (Or.inl ⟨wd_609, rfl⟩) ?_
  refine s_ifne (tgt := 15) dX10_drift_9 (by decide) ?_ ?_
  · refine s_ldc (x := (-1000000002)) dX10_drift_12 wd_622 ?_
    exact s_ri rfl dX10_drift_14
  · refine s_aload_n dX10_drift_15 rfl ?_
    refine s_gi (C := RX10) (Tf := TX10) (N := 41) (i := 10) (j := 3) rfl (by decide) rfl (Or.inl wd_608) dX10_drift_16 ?_
    refine s_ifne (tgt := 25) dX10_drift_19 (by decide) ?_ ?_
    · refine s_ldc (x := (-1000000003)) dX10_drift_22 wd_725 ?_
      exact s_ri rfl dX10_drift_24
    · refine s_aload_n dX10_drift_25 rfl ?_
      refine s_cv (C := RX10) (Tf := TX10) (N := 41) (i := 10) rfl M_R_minds dX10_drift_26 rfl ⟨by decide +kernel, by decide +kernel, by decide +kernel⟩ (by decide) wd_732 wd_733 wd_610 (Or.inl wd_731) ?_
      refine s_iconst (x := 0) dX10_drift_29 (by decide +kernel) ?_
      refine s_istore_n dX10_drift_30 rfl (by decide) ?_
      exact (S_R_drift_l31 ak_fuel)
def R_drift (As : List Value) (M : ak_M) : ak_R := match As with
  | [.ref a, .int x0] => R_drift_b0 [some (.ref a), some (.int x0), none, none, none] [] M
  | _ => none
theorem M_R_drift : ak_Mt yX10_drift cX10_drift 5 (some .int) 3 67 R_drift := by
  refine ak_met (rk := 1) wd_760 (by decide +kernel) rfl (Or.inr (Or.inl ⟨rfl, rfl⟩)) (fun h => absurd h (by decide)) S_R_drift_b0 (fun As M r h => ?_)
  unfold R_drift at h
  split at h
  next => exact ⟨Nat.le_of_ble_eq_true rfl, 3, h⟩
  next => cases h
-- GreetedMirrorsModel.layWays()V
def R_layWays_b164 (h69 : ak_K) (h79 : ak_K) (h89 : ak_K) : ak_K := (k_ast (k_ii 3 1 h89))
theorem S_R_layWays_b164 {h69 : ak_K} (H69 : ak_S cX10_layWays RX10 5 0 2 46 (0, fun _ => 0) 69 h69) {h79 : ak_K} (H79 : ak_S cX10_layWays RX10 5 0 2 46 (0, fun _ => 0) 79 h79) {h89 : ak_K} (H89 : ak_S cX10_layWays RX10 5 0 2 46 (0, fun _ => 0) 89 h89) : ak_S cX10_layWays RX10 5 0 2 46 (0, fun _ => 0) 164 (R_layWays_b164 h69 h79 h89) := by
  unfold R_layWays_b164
  refine s_ast dX10_layWays_164 ?_
  refine s_iinc (y := 1) dX10_layWays_165 (by decide +kernel) (by decide) ?_
  refine s_goto (tgt := 89) dX10_layWays_168 (by decide) ?_
  exact H89
def R_layWays_b126 (h69 : ak_K) (h79 : ak_K) (h89 : ak_K) : ak_K := (k_ci 7 (k_il 2 (k_b (fun x y => x * y) (k_il 3 (k_b (fun x y => x + y) (k_il 4 (k_al 0 (k_gp 10 32 (k_ci 7 (k_il 2 (k_b (fun x y => x * y) (k_il 3 (k_b (fun x y => x + y) (k_ald (k_cmge (k_al 0 (k_gp 10 32 (k_ci 7 (k_il 2 (k_b (fun x y => x * y) (k_il 3 (k_b (fun x y => x + y) (k_ald (R_layWays_b164 h69 h79 h89))))))))) (k_il 4 (R_layWays_b164 h69 h79 h89)))))))))))))))))
theorem S_R_layWays_b126 {h69 : ak_K} (H69 : ak_S cX10_layWays RX10 5 0 2 46 (0, fun _ => 0) 69 h69) {h79 : ak_K} (H79 : ak_S cX10_layWays RX10 5 0 2 46 (0, fun _ => 0) 79 h79) {h89 : ak_K} (H89 : ak_S cX10_layWays RX10 5 0 2 46 (0, fun _ => 0) 89 h89) : ak_S cX10_layWays RX10 5 0 2 46 (0, fun _ => 0) 126 (R_layWays_b126 h69 h79 h89) := by
  unfold R_layWays_b126
  refine s_bipush (x := 7) dX10_layWays_126 (by decide +kernel) ?_
  refine s_iload_n dX10_layWays_128 rfl ?_
  refine s_imul dX10_layWays_129 ?_
  refine s_iload_n dX10_layWays_130 rfl ?_
  refine s_iadd dX10_layWays_131 ?_
  refine s_iload dX10_layWays_132 ?_
  refine s_aload_n dX10_layWays_134 rfl ?_
  refine s_gp (C := RX10) (Tf := TX10) (N := 41) (i := 10) (j := 32) rfl (by decide) rfl (Or.inl wd_580) dX10_layWays_135 ?_
  refine s_bipush (x := 7) dX10_layWays_138 (by decide +kernel) ?_
  refine s_iload_n dX10_layWays_140 rfl ?_
  refine s_imul dX10_layWays_141 ?_
  refine s_iload_n dX10_layWays_142 rfl ?_
  refine s_iadd dX10_layWays_143 ?_
  refine s_ald dX10_layWays_144 ?_
  refine s_cmge (tgt := 153) dX10_layWays_145 (by decide) ?_ ?_
  · refine s_aload_n dX10_layWays_153 rfl ?_
    refine s_gp (C := RX10) (Tf := TX10) (N := 41) (i := 10) (j := 32) rfl (by decide) rfl (Or.inl wd_580) dX10_layWays_154 ?_
    refine s_bipush (x := 7) dX10_layWays_157 (by decide +kernel) ?_
    refine s_iload_n dX10_layWays_159 rfl ?_
    refine s_imul dX10_layWays_160 ?_
    refine s_iload_n dX10_layWays_161 rfl ?_
    refine s_iadd dX10_layWays_162 ?_
    refine s_ald dX10_layWays_163 ?_
    exact (S_R_layWays_b164 H69 H79 H89)
  · refine s_iload dX10_layWays_148 ?_
    refine s_goto (tgt := 164) dX10_layWays_150 (by decide) ?_
    exact (S_R_layWays_b164 H69 H79 H89)
def R_layWays_b89 (h69 : ak_K) (h79 : ak_K) (h89 : ak_K) : ak_K := (k_il 3 (k_al 0 (k_gi 10 3 (k_cmge (k_ii 2 1 h79) (k_al 0 (k_gp 10 32 (k_ci 7 (k_il 2 (k_b (fun x y => x * y) (k_il 1 (k_b (fun x y => x + y) (k_ald (k_al 0 (k_gp 10 32 (k_ci 7 (k_il 1 (k_b (fun x y => x * y) (k_il 3 (k_b (fun x y => x + y) (k_ald (k_b (fun x y => x + y) (k_is 4 (k_al 0 (k_gp 10 32 (R_layWays_b126 h69 h79 h89)))))))))))))))))))))))))
theorem S_R_layWays_b89 {h69 : ak_K} (H69 : ak_S cX10_layWays RX10 5 0 2 46 (0, fun _ => 0) 69 h69) {h79 : ak_K} (H79 : ak_S cX10_layWays RX10 5 0 2 46 (0, fun _ => 0) 79 h79) {h89 : ak_K} (H89 : ak_S cX10_layWays RX10 5 0 2 46 (0, fun _ => 0) 89 h89) : ak_S cX10_layWays RX10 5 0 2 46 (0, fun _ => 0) 89 (R_layWays_b89 h69 h79 h89) := by
  unfold R_layWays_b89
  refine s_iload_n dX10_layWays_89 rfl ?_
  refine s_aload_n dX10_layWays_90 rfl ?_
  refine s_gi (C := RX10) (Tf := TX10) (N := 41) (i := 10) (j := 3) rfl (by decide) rfl (Or.inl wd_608) dX10_layWays_91 ?_
  refine s_cmge (tgt := 171) dX10_layWays_94 (by decide) ?_ ?_
  · refine s_iinc (y := 1) dX10_layWays_171 (by decide +kernel) (by decide) ?_
    refine s_goto (tgt := 79) dX10_layWays_174 (by decide) ?_
    exact H79
  · refine s_aload_n dX10_layWays_97 rfl ?_
    refine s_gp (C := RX10) (Tf := TX10) (N := 41) (i := 10) (j := 32) rfl (by decide) rfl (Or.inl wd_580) dX10_layWays_98 ?_
    refine s_bipush (x := 7) dX10_layWays_101 (by decide +kernel) ?_
    refine s_iload_n dX10_layWays_103 rfl ?_
    refine s_imul dX10_layWays_104 ?_
    refine s_iload_n dX10_layWays_105 rfl ?_
    refine s_iadd dX10_layWays_106 ?_
    refine s_ald dX10_layWays_107 ?_
    refine s_aload_n dX10_layWays_108 rfl ?_
    refine s_gp (C := RX10) (Tf := TX10) (N := 41) (i := 10) (j := 32) rfl (by decide) rfl (Or.inl wd_580) dX10_layWays_109 ?_
    refine s_bipush (x := 7) dX10_layWays_112 (by decide +kernel) ?_
    refine s_iload_n dX10_layWays_114 rfl ?_
    refine s_imul dX10_layWays_115 ?_
    refine s_iload_n dX10_layWays_116 rfl ?_
    refine s_iadd dX10_layWays_117 ?_
    refine s_ald dX10_layWays_118 ?_
    refine s_iadd dX10_layWays_119 ?_
    refine s_istore dX10_layWays_120 (by decide) ?_
    refine s_aload_n dX10_layWays_122 rfl ?_
    refine s_gp (C := RX10) (Tf := TX10) (N := 41) (i := 10) (j := 32) rfl (by decide) rfl (Or.inl wd_580) dX10_layWays_123 ?_
    exact (S_R_layWays_b126 H69 H79 H89)
def R_layWays_l89 (h69 : ak_K) (h79 : ak_K) : Nat → ak_K
  | 0 => k_no
  | n + 1 => R_layWays_b89 h69 h79 (R_layWays_l89 h69 h79 n)
theorem S_R_layWays_l89 {h69 : ak_K} (H69 : ak_S cX10_layWays RX10 5 0 2 46 (0, fun _ => 0) 69 h69) {h79 : ak_K} (H79 : ak_S cX10_layWays RX10 5 0 2 46 (0, fun _ => 0) 79 h79) : ∀ n : Nat, ak_S cX10_layWays RX10 5 0 2 46 (0, fun _ => 0) 89 (R_layWays_l89 h69 h79 n)
  | 0 => s_no
  | n + 1 => S_R_layWays_b89 H69 H79 (S_R_layWays_l89 H69 H79 n)
def R_layWays_b79 (h69 : ak_K) (h79 : ak_K) : ak_K := (k_il 2 (k_al 0 (k_gi 10 3 (k_cmge (k_ii 1 1 h69) (k_ci 0 (k_is 3 (R_layWays_l89 h69 h79 ak_fuel)))))))
theorem S_R_layWays_b79 {h69 : ak_K} (H69 : ak_S cX10_layWays RX10 5 0 2 46 (0, fun _ => 0) 69 h69) {h79 : ak_K} (H79 : ak_S cX10_layWays RX10 5 0 2 46 (0, fun _ => 0) 79 h79) : ak_S cX10_layWays RX10 5 0 2 46 (0, fun _ => 0) 79 (R_layWays_b79 h69 h79) := by
  unfold R_layWays_b79
  refine s_iload_n dX10_layWays_79 rfl ?_
  refine s_aload_n dX10_layWays_80 rfl ?_
  refine s_gi (C := RX10) (Tf := TX10) (N := 41) (i := 10) (j := 3) rfl (by decide) rfl (Or.inl wd_608) dX10_layWays_81 ?_
  refine s_cmge (tgt := 177) dX10_layWays_84 (by decide) ?_ ?_
  · refine s_iinc (y := 1) dX10_layWays_177 (by decide +kernel) (by decide) ?_
    refine s_goto (tgt := 69) dX10_layWays_180 (by decide) ?_
    exact H69
  · refine s_iconst (x := 0) dX10_layWays_87 (by decide +kernel) ?_
    refine s_istore_n dX10_layWays_88 rfl (by decide) ?_
    exact (S_R_layWays_l89 H69 H79 ak_fuel)
def R_layWays_l79 (h69 : ak_K) : Nat → ak_K
  | 0 => k_no
  | n + 1 => R_layWays_b79 h69 (R_layWays_l79 h69 n)
theorem S_R_layWays_l79 {h69 : ak_K} (H69 : ak_S cX10_layWays RX10 5 0 2 46 (0, fun _ => 0) 69 h69) : ∀ n : Nat, ak_S cX10_layWays RX10 5 0 2 46 (0, fun _ => 0) 79 (R_layWays_l79 h69 n)
  | 0 => s_no
  | n + 1 => S_R_layWays_b79 H69 (S_R_layWays_l79 H69 n)
def R_layWays_b69 (h69 : ak_K) : ak_K := (k_il 1 (k_al 0 (k_gi 10 3 (k_cmge k_rv (k_ci 0 (k_is 2 (R_layWays_l79 h69 ak_fuel)))))))
theorem S_R_layWays_b69 {h69 : ak_K} (H69 : ak_S cX10_layWays RX10 5 0 2 46 (0, fun _ => 0) 69 h69) : ak_S cX10_layWays RX10 5 0 2 46 (0, fun _ => 0) 69 (R_layWays_b69 h69) := by
  unfold R_layWays_b69
  refine s_iload_n dX10_layWays_69 rfl ?_
  refine s_aload_n dX10_layWays_70 rfl ?_
  refine s_gi (C := RX10) (Tf := TX10) (N := 41) (i := 10) (j := 3) rfl (by decide) rfl (Or.inl wd_608) dX10_layWays_71 ?_
  refine s_cmge (tgt := 183) dX10_layWays_74 (by decide) ?_ ?_
  · exact s_rv (Or.inl rfl) dX10_layWays_183
  · refine s_iconst (x := 0) dX10_layWays_77 (by decide +kernel) ?_
    refine s_istore_n dX10_layWays_78 rfl (by decide) ?_
    exact (S_R_layWays_l79 H69 ak_fuel)
def R_layWays_l69 : Nat → ak_K
  | 0 => k_no
  | n + 1 => R_layWays_b69 (R_layWays_l69 n)
theorem S_R_layWays_l69 : ∀ n : Nat, ak_S cX10_layWays RX10 5 0 2 46 (0, fun _ => 0) 69 (R_layWays_l69 n)
  | 0 => s_no
  | n + 1 => S_R_layWays_b69 (S_R_layWays_l69 n)
def R_layWays_b54 (h2 : ak_K) (h12 : ak_K) : ak_K := (k_ast (k_ii 2 1 h12))
theorem S_R_layWays_b54 {h2 : ak_K} (H2 : ak_S cX10_layWays RX10 5 0 2 46 (0, fun _ => 0) 2 h2) {h12 : ak_K} (H12 : ak_S cX10_layWays RX10 5 0 2 46 (0, fun _ => 0) 12 h12) : ak_S cX10_layWays RX10 5 0 2 46 (0, fun _ => 0) 54 (R_layWays_b54 h2 h12) := by
  unfold R_layWays_b54
  refine s_ast dX10_layWays_54 ?_
  refine s_iinc (y := 1) dX10_layWays_55 (by decide +kernel) (by decide) ?_
  refine s_goto (tgt := 12) dX10_layWays_58 (by decide) ?_
  exact H12
def R_layWays_b12 (h2 : ak_K) (h12 : ak_K) : ak_K := (k_il 2 (k_al 0 (k_gi 10 3 (k_cmge (k_ii 1 1 h2) (k_al 0 (k_gp 10 32 (k_ci 7 (k_il 1 (k_b (fun x y => x * y) (k_il 2 (k_b (fun x y => x + y) (k_il 1 (k_il 2 (k_cmeq (k_ci 0 (R_layWays_b54 h2 h12)) (k_al 0 (k_il 1 (k_il 2 (k_cv 10 3 R_isOpen (k_ifeq (k_ci 1000000 (R_layWays_b54 h2 h12)) (k_ci 1 (R_layWays_b54 h2 h12)))))))))))))))))))))
theorem S_R_layWays_b12 {h2 : ak_K} (H2 : ak_S cX10_layWays RX10 5 0 2 46 (0, fun _ => 0) 2 h2) {h12 : ak_K} (H12 : ak_S cX10_layWays RX10 5 0 2 46 (0, fun _ => 0) 12 h12) : ak_S cX10_layWays RX10 5 0 2 46 (0, fun _ => 0) 12 (R_layWays_b12 h2 h12) := by
  unfold R_layWays_b12
  refine s_iload_n dX10_layWays_12 rfl ?_
  refine s_aload_n dX10_layWays_13 rfl ?_
  refine s_gi (C := RX10) (Tf := TX10) (N := 41) (i := 10) (j := 3) rfl (by decide) rfl (Or.inl wd_608) dX10_layWays_14 ?_
  refine s_cmge (tgt := 61) dX10_layWays_17 (by decide) ?_ ?_
  · refine s_iinc (y := 1) dX10_layWays_61 (by decide +kernel) (by decide) ?_
    refine s_goto (tgt := 2) dX10_layWays_64 (by decide) ?_
    exact H2
  · refine s_aload_n dX10_layWays_20 rfl ?_
    refine s_gp (C := RX10) (Tf := TX10) (N := 41) (i := 10) (j := 32) rfl (by decide) rfl (Or.inl wd_580) dX10_layWays_21 ?_
    refine s_bipush (x := 7) dX10_layWays_24 (by decide +kernel) ?_
    refine s_iload_n dX10_layWays_26 rfl ?_
    refine s_imul dX10_layWays_27 ?_
    refine s_iload_n dX10_layWays_28 rfl ?_
    refine s_iadd dX10_layWays_29 ?_
    refine s_iload_n dX10_layWays_30 rfl ?_
    refine s_iload_n dX10_layWays_31 rfl ?_
    refine s_cmne (tgt := 39) dX10_layWays_32 (by decide) ?_ ?_
    · refine s_iconst (x := 0) dX10_layWays_35 (by decide +kernel) ?_
      refine s_goto (tgt := 54) dX10_layWays_36 (by decide) ?_
      exact (S_R_layWays_b54 H2 H12)
    · refine s_aload_n dX10_layWays_39 rfl ?_
      refine s_iload_n dX10_layWays_40 rfl ?_
      refine s_iload_n dX10_layWays_41 rfl ?_
      refine s_cv (C := RX10) (Tf := TX10) (N := 41) (i := 10) rfl M_R_isOpen dX10_layWays_42 rfl ⟨by decide +kernel, by decide +kernel, by decide +kernel⟩ (by decide) wd_714 wd_715 wd_610 (Or.inl wd_713) ?_
      refine s_ifeq (tgt := 52) dX10_layWays_45 (by decide) ?_ ?_
      · refine s_ldc (x := 1000000) dX10_layWays_52 wd_761 ?_
        exact (S_R_layWays_b54 H2 H12)
      · refine s_iconst (x := 1) dX10_layWays_48 (by decide +kernel) ?_
        refine s_goto (tgt := 54) dX10_layWays_49 (by decide) ?_
        exact (S_R_layWays_b54 H2 H12)
def R_layWays_l12 (h2 : ak_K) : Nat → ak_K
  | 0 => k_no
  | n + 1 => R_layWays_b12 h2 (R_layWays_l12 h2 n)
theorem S_R_layWays_l12 {h2 : ak_K} (H2 : ak_S cX10_layWays RX10 5 0 2 46 (0, fun _ => 0) 2 h2) : ∀ n : Nat, ak_S cX10_layWays RX10 5 0 2 46 (0, fun _ => 0) 12 (R_layWays_l12 h2 n)
  | 0 => s_no
  | n + 1 => S_R_layWays_b12 H2 (S_R_layWays_l12 H2 n)
def R_layWays_b2 (h2 : ak_K) : ak_K := (k_il 1 (k_al 0 (k_gi 10 3 (k_cmge (k_ci 0 (k_is 1 (R_layWays_l69 ak_fuel))) (k_ci 0 (k_is 2 (R_layWays_l12 h2 ak_fuel)))))))
theorem S_R_layWays_b2 {h2 : ak_K} (H2 : ak_S cX10_layWays RX10 5 0 2 46 (0, fun _ => 0) 2 h2) : ak_S cX10_layWays RX10 5 0 2 46 (0, fun _ => 0) 2 (R_layWays_b2 h2) := by
  unfold R_layWays_b2
  refine s_iload_n dX10_layWays_2 rfl ?_
  refine s_aload_n dX10_layWays_3 rfl ?_
  refine s_gi (C := RX10) (Tf := TX10) (N := 41) (i := 10) (j := 3) rfl (by decide) rfl (Or.inl wd_608) dX10_layWays_4 ?_
  refine s_cmge (tgt := 67) dX10_layWays_7 (by decide) ?_ ?_
  · refine s_iconst (x := 0) dX10_layWays_67 (by decide +kernel) ?_
    refine s_istore_n dX10_layWays_68 rfl (by decide) ?_
    exact (S_R_layWays_l69 ak_fuel)
  · refine s_iconst (x := 0) dX10_layWays_10 (by decide +kernel) ?_
    refine s_istore_n dX10_layWays_11 rfl (by decide) ?_
    exact (S_R_layWays_l12 H2 ak_fuel)
def R_layWays_l2 : Nat → ak_K
  | 0 => k_no
  | n + 1 => R_layWays_b2 (R_layWays_l2 n)
theorem S_R_layWays_l2 : ∀ n : Nat, ak_S cX10_layWays RX10 5 0 2 46 (0, fun _ => 0) 2 (R_layWays_l2 n)
  | 0 => s_no
  | n + 1 => S_R_layWays_b2 (S_R_layWays_l2 n)
def R_layWays_b0 : ak_K := (k_ci 0 (k_is 1 (R_layWays_l2 ak_fuel)))
theorem S_R_layWays_b0 : ak_S cX10_layWays RX10 5 0 2 46 (0, fun _ => 0) 0 (R_layWays_b0) := by
  unfold R_layWays_b0
  refine s_iconst (x := 0) dX10_layWays_0 (by decide +kernel) ?_
  refine s_istore_n dX10_layWays_1 rfl (by decide) ?_
  exact (S_R_layWays_l2 ak_fuel)
def R_layWays (As : List Value) (M : ak_M) : ak_R := match As with
  | [.ref a] => R_layWays_b0 [some (.ref a), none, none, none, none] [] M
  | _ => none
theorem M_R_layWays : ak_Mt yX10_layWays cX10_layWays 5 none 2 46 R_layWays := by
  refine ak_met (rk := 0) wd_762 (by decide +kernel) rfl (Or.inl ⟨Or.inl rfl, rfl⟩) (fun h => absurd h (by decide)) S_R_layWays_b0 (fun As M r h => ?_)
  unfold R_layWays at h
  split at h
  next => exact ⟨Nat.le_of_ble_eq_true rfl, 4, h⟩
  next => cases h
-- GreetedMirrorsModel.canBeLit(II)Z
def R_canBeLit_b82 : ak_K := k_rz
theorem S_R_canBeLit_b82 : ak_S cX10_canBeLit RX10 4 2 1 21 (0, fun _ => 0) 82 (R_canBeLit_b82) := by
  unfold R_canBeLit_b82
  exact s_rz rfl dX10_canBeLit_82
def R_canBeLit_b81 : ak_K := (k_ci 0 R_canBeLit_b82)
theorem S_R_canBeLit_b81 : ak_S cX10_canBeLit RX10 4 2 1 21 (0, fun _ => 0) 81 (R_canBeLit_b81) := by
  unfold R_canBeLit_b81
  refine s_iconst (x := 0) dX10_canBeLit_81 (by decide +kernel) ?_
  exact S_R_canBeLit_b82
def R_canBeLit_b77 : ak_K := (k_ci 1 R_canBeLit_b82)
theorem S_R_canBeLit_b77 : ak_S cX10_canBeLit RX10 4 2 1 21 (0, fun _ => 0) 77 (R_canBeLit_b77) := by
  unfold R_canBeLit_b77
  refine s_iconst (x := 1) dX10_canBeLit_77 (by decide +kernel) ?_
  refine s_goto (tgt := 82) dX10_canBeLit_78 (by decide) ?_
  exact S_R_canBeLit_b82
def R_canBeLit_b66 : ak_K := (k_gp 10 11 (k_il 1 (k_ald (k_cs 2 R_has (k_ifeq R_canBeLit_b81 R_canBeLit_b77)))))
theorem S_R_canBeLit_b66 : ak_S cX10_canBeLit RX10 4 2 1 21 (0, fun _ => 0) 66 (R_canBeLit_b66) := by
  unfold R_canBeLit_b66
  refine s_gp (C := RX10) (Tf := TX10) (N := 41) (i := 10) (j := 11) rfl (by decide) rfl (Or.inl wd_594) dX10_canBeLit_66 ?_
  refine s_iload_n dX10_canBeLit_69 rfl ?_
  refine s_ald dX10_canBeLit_70 ?_
  refine s_cs M_R_has dX10_canBeLit_71 ⟨by decide +kernel, by decide +kernel, by decide +kernel⟩ (by decide) wd_711 wd_610 (Or.inl ⟨wd_710, rfl⟩) ?_
  refine s_ifeq (tgt := 81) dX10_canBeLit_74 (by decide) ?_ ?_
  · exact S_R_canBeLit_b81
  · exact S_R_canBeLit_b77
def R_canBeLit_b25 : ak_K := (k_is 3 (k_al 0 (k_gp 10 0 (k_ci 1 (k_ald (k_al 0 (k_gp 10 0 (k_ci 8 (k_il 1 (k_b (fun x y => x + y) (k_ald (k_cs 2 R_has (k_ifeq R_canBeLit_b81 (k_al 0 (k_gp 10 0 (k_ci 3 (k_ald (k_il 1 (k_cs 2 R_has (k_ifeq (k_il 3 (k_ifeq R_canBeLit_b77 (k_il 2 (k_al 0 R_canBeLit_b66)))) R_canBeLit_b81))))))))))))))))))))
theorem S_R_canBeLit_b25 : ak_S cX10_canBeLit RX10 4 2 1 21 (0, fun _ => 0) 25 (R_canBeLit_b25) := by
  unfold R_canBeLit_b25
  refine s_istore_n dX10_canBeLit_25 rfl (by decide) ?_
  refine s_aload_n dX10_canBeLit_26 rfl ?_
  refine s_gp (C := RX10) (Tf := TX10) (N := 41) (i := 10) (j := 0) rfl (by decide) rfl (Or.inl wd_578) dX10_canBeLit_27 ?_
  refine s_iconst (x := 1) dX10_canBeLit_30 (by decide +kernel) ?_
  refine s_ald dX10_canBeLit_31 ?_
  refine s_aload_n dX10_canBeLit_32 rfl ?_
  refine s_gp (C := RX10) (Tf := TX10) (N := 41) (i := 10) (j := 0) rfl (by decide) rfl (Or.inl wd_578) dX10_canBeLit_33 ?_
  refine s_bipush (x := 8) dX10_canBeLit_36 (by decide +kernel) ?_
  refine s_iload_n dX10_canBeLit_38 rfl ?_
  refine s_iadd dX10_canBeLit_39 ?_
  refine s_ald dX10_canBeLit_40 ?_
  refine s_cs M_R_has dX10_canBeLit_41 ⟨by decide +kernel, by decide +kernel, by decide +kernel⟩ (by decide) wd_711 wd_610 (Or.inl ⟨wd_710, rfl⟩) ?_
  refine s_ifeq (tgt := 81) dX10_canBeLit_44 (by decide) ?_ ?_
  · exact S_R_canBeLit_b81
  · refine s_aload_n dX10_canBeLit_47 rfl ?_
    refine s_gp (C := RX10) (Tf := TX10) (N := 41) (i := 10) (j := 0) rfl (by decide) rfl (Or.inl wd_578) dX10_canBeLit_48 ?_
    refine s_iconst (x := 3) dX10_canBeLit_51 (by decide +kernel) ?_
    refine s_ald dX10_canBeLit_52 ?_
    refine s_iload_n dX10_canBeLit_53 rfl ?_
    refine s_cs M_R_has dX10_canBeLit_54 ⟨by decide +kernel, by decide +kernel, by decide +kernel⟩ (by decide) wd_711 wd_610 (Or.inl ⟨wd_710, rfl⟩) ?_
    refine s_ifne (tgt := 81) dX10_canBeLit_57 (by decide) ?_ ?_
    · refine s_iload_n dX10_canBeLit_60 rfl ?_
      refine s_ifeq (tgt := 77) dX10_canBeLit_61 (by decide) ?_ ?_
      · exact S_R_canBeLit_b77
      · refine s_iload_n dX10_canBeLit_64 rfl ?_
        refine s_aload_n dX10_canBeLit_65 rfl ?_
        exact S_R_canBeLit_b66
    · exact S_R_canBeLit_b81
def R_canBeLit_b24 : ak_K := (k_ci 0 R_canBeLit_b25)
theorem S_R_canBeLit_b24 : ak_S cX10_canBeLit RX10 4 2 1 21 (0, fun _ => 0) 24 (R_canBeLit_b24) := by
  unfold R_canBeLit_b24
  refine s_iconst (x := 0) dX10_canBeLit_24 (by decide +kernel) ?_
  exact S_R_canBeLit_b25
def R_canBeLit_b0 : ak_K := (k_al 0 (k_gp 10 11 (k_il 1 (k_ald (k_ci (-1) (k_cmeq R_canBeLit_b24 (k_al 0 (k_gp 10 11 (k_il 1 (k_ald (k_il 1 (k_cmge R_canBeLit_b24 (k_ci 1 R_canBeLit_b25)))))))))))))
theorem S_R_canBeLit_b0 : ak_S cX10_canBeLit RX10 4 2 1 21 (0, fun _ => 0) 0 (R_canBeLit_b0) := by
  unfold R_canBeLit_b0
  refine s_aload_n dX10_canBeLit_0 rfl ?_
  refine s_gp (C := RX10) (Tf := TX10) (N := 41) (i := 10) (j := 11) rfl (by decide) rfl (Or.inl wd_594) dX10_canBeLit_1 ?_
  refine s_iload_n dX10_canBeLit_4 rfl ?_
  refine s_ald dX10_canBeLit_5 ?_
  refine s_iconst (x := (-1)) dX10_canBeLit_6 (by decide +kernel) ?_
  refine s_cmeq (tgt := 24) dX10_canBeLit_7 (by decide) ?_ ?_
  · exact S_R_canBeLit_b24
  · refine s_aload_n dX10_canBeLit_10 rfl ?_
    refine s_gp (C := RX10) (Tf := TX10) (N := 41) (i := 10) (j := 11) rfl (by decide) rfl (Or.inl wd_594) dX10_canBeLit_11 ?_
    refine s_iload_n dX10_canBeLit_14 rfl ?_
    refine s_ald dX10_canBeLit_15 ?_
    refine s_iload_n dX10_canBeLit_16 rfl ?_
    refine s_cmge (tgt := 24) dX10_canBeLit_17 (by decide) ?_ ?_
    · exact S_R_canBeLit_b24
    · refine s_iconst (x := 1) dX10_canBeLit_20 (by decide +kernel) ?_
      refine s_goto (tgt := 25) dX10_canBeLit_21 (by decide) ?_
      exact S_R_canBeLit_b25
def R_canBeLit (As : List Value) (M : ak_M) : ak_R := match As with
  | [.ref a, .int x0, .int x1] => R_canBeLit_b0 [some (.ref a), some (.int x0), some (.int x1), none] [] M
  | _ => none
theorem M_R_canBeLit : ak_Mt yX10_canBeLit cX10_canBeLit 4 (some .boolean) 1 21 R_canBeLit := by
  refine ak_met (rk := 2) wd_763 (by decide +kernel) rfl (Or.inr (Or.inr (Or.inl ⟨rfl, rfl⟩))) (fun h => absurd h (by decide)) S_R_canBeLit_b0 (fun As M r h => ?_)
  unfold R_canBeLit at h
  split at h
  next => exact ⟨Nat.le_of_ble_eq_true rfl, 1, h⟩
  next => cases h
-- GreetedMirrorsModel.costOf(II)I
def R_costOf_b0 : ak_K := (k_al 0 (k_gp 10 32 (k_ci 7 (k_il 2 (k_b (fun x y => x * y) (k_al 0 (k_gp 10 9 (k_il 1 (k_ald (k_b (fun x y => x + y) (k_ald (k_al 0 (k_gp 10 12 (k_al 0 (k_gp 10 0 (k_ci 8 (k_il 1 (k_b (fun x y => x + y) (k_ald (k_ald (k_b (fun x y => x + y) k_ri)))))))))))))))))))))
theorem S_R_costOf_b0 : ak_S cX10_costOf RX10 3 1 0 0 (0, fun _ => 0) 0 (R_costOf_b0) := by
  unfold R_costOf_b0
  refine s_aload_n dX10_costOf_0 rfl ?_
  refine s_gp (C := RX10) (Tf := TX10) (N := 41) (i := 10) (j := 32) rfl (by decide) rfl (Or.inl wd_580) dX10_costOf_1 ?_
  refine s_bipush (x := 7) dX10_costOf_4 (by decide +kernel) ?_
  refine s_iload_n dX10_costOf_6 rfl ?_
  refine s_imul dX10_costOf_7 ?_
  refine s_aload_n dX10_costOf_8 rfl ?_
  refine s_gp (C := RX10) (Tf := TX10) (N := 41) (i := 10) (j := 9) rfl (by decide) rfl (Or.inl wd_603) dX10_costOf_9 ?_
  refine s_iload_n dX10_costOf_12 rfl ?_
  refine s_ald dX10_costOf_13 ?_
  refine s_iadd dX10_costOf_14 ?_
  refine s_ald dX10_costOf_15 ?_
  refine s_aload_n dX10_costOf_16 rfl ?_
  refine s_gp (C := RX10) (Tf := TX10) (N := 41) (i := 10) (j := 12) rfl (by decide) rfl (Or.inl wd_595) dX10_costOf_17 ?_
  refine s_aload_n dX10_costOf_20 rfl ?_
  refine s_gp (C := RX10) (Tf := TX10) (N := 41) (i := 10) (j := 0) rfl (by decide) rfl (Or.inl wd_578) dX10_costOf_21 ?_
  refine s_bipush (x := 8) dX10_costOf_24 (by decide +kernel) ?_
  refine s_iload_n dX10_costOf_26 rfl ?_
  refine s_iadd dX10_costOf_27 ?_
  refine s_ald dX10_costOf_28 ?_
  refine s_ald dX10_costOf_29 ?_
  refine s_iadd dX10_costOf_30 ?_
  exact s_ri rfl dX10_costOf_31
def R_costOf (As : List Value) (M : ak_M) : ak_R := match As with
  | [.ref a, .int x0, .int x1] => R_costOf_b0 [some (.ref a), some (.int x0), some (.int x1)] [] M
  | _ => none
theorem M_R_costOf : ak_Mt yX10_costOf cX10_costOf 3 (some .int) 0 0 R_costOf := by
  refine ak_met (rk := 1) wd_764 (by decide +kernel) rfl (Or.inr (Or.inl ⟨rfl, rfl⟩)) (fun h => absurd h (by decide)) S_R_costOf_b0 (fun As M r h => ?_)
  unfold R_costOf at h
  split at h
  next => exact ⟨Nat.le_of_ble_eq_true rfl, 0, h⟩
  next => cases h
-- GreetedMirrorsModel.restBy(III)I
def R_restBy_b105 : ak_K := k_ri
theorem S_R_restBy_b105 : ak_S cX10_restBy RX10 6 1 2 44 (0, fun _ => 0) 105 (R_restBy_b105) := by
  unfold R_restBy_b105
  exact s_ri rfl dX10_restBy_105
def R_restBy_b82 : ak_K := (k_is 5 (k_il 5 (k_ci 1000000 (k_cmlt (k_al 0 (k_il 1 (k_il 3 (k_cv 10 3 R_costOf (k_il 5 (k_b (fun x y => x + y) R_restBy_b105)))))) (k_ci 1000000 R_restBy_b105)))))
theorem S_R_restBy_b82 : ak_S cX10_restBy RX10 6 1 2 44 (0, fun _ => 0) 82 (R_restBy_b82) := by
  unfold R_restBy_b82
  refine s_istore dX10_restBy_82 (by decide) ?_
  refine s_iload dX10_restBy_84 ?_
  refine s_ldc (x := 1000000) dX10_restBy_86 wd_761 ?_
  refine s_cmlt (tgt := 96) dX10_restBy_88 (by decide) ?_ ?_
  · refine s_aload_n dX10_restBy_96 rfl ?_
    refine s_iload_n dX10_restBy_97 rfl ?_
    refine s_iload_n dX10_restBy_98 rfl ?_
    refine s_cv (C := RX10) (Tf := TX10) (N := 41) (i := 10) rfl M_R_costOf dX10_restBy_99 rfl ⟨by decide +kernel, by decide +kernel, by decide +kernel⟩ (by decide) wd_766 wd_767 wd_610 (Or.inl wd_765) ?_
    refine s_iload dX10_restBy_102 ?_
    refine s_iadd dX10_restBy_104 ?_
    exact S_R_restBy_b105
  · refine s_ldc (x := 1000000) dX10_restBy_91 wd_761 ?_
    refine s_goto (tgt := 105) dX10_restBy_93 (by decide) ?_
    exact S_R_restBy_b105
def R_restBy_b50 : ak_K := (k_is 4 (k_il 4 (k_ifeq (k_ci 1000000 R_restBy_b82) (k_al 0 (k_gp 10 33 (k_ci 7 (k_il 2 (k_ci 1 (k_il 1 (k_b (fun x y => x <<< (y &&& 31)) (k_b (fun x y => x ||| y) (k_b (fun x y => x * y) (k_al 0 (k_gp 10 9 (k_il 1 (k_ald (k_b (fun x y => x + y) (k_ald R_restBy_b82))))))))))))))))))
theorem S_R_restBy_b50 : ak_S cX10_restBy RX10 6 1 2 44 (0, fun _ => 0) 50 (R_restBy_b50) := by
  unfold R_restBy_b50
  refine s_istore dX10_restBy_50 (by decide) ?_
  refine s_iload dX10_restBy_52 ?_
  refine s_ifeq (tgt := 80) dX10_restBy_54 (by decide) ?_ ?_
  · refine s_ldc (x := 1000000) dX10_restBy_80 wd_761 ?_
    exact S_R_restBy_b82
  · refine s_aload_n dX10_restBy_57 rfl ?_
    refine s_gp (C := RX10) (Tf := TX10) (N := 41) (i := 10) (j := 33) rfl (by decide) rfl (Or.inl wd_581) dX10_restBy_58 ?_
    refine s_bipush (x := 7) dX10_restBy_61 (by decide +kernel) ?_
    refine s_iload_n dX10_restBy_63 rfl ?_
    refine s_iconst (x := 1) dX10_restBy_64 (by decide +kernel) ?_
    refine s_iload_n dX10_restBy_65 rfl ?_
    refine s_ishl dX10_restBy_66 ?_
    refine s_ior dX10_restBy_67 ?_
    refine s_imul dX10_restBy_68 ?_
    refine s_aload_n dX10_restBy_69 rfl ?_
    refine s_gp (C := RX10) (Tf := TX10) (N := 41) (i := 10) (j := 9) rfl (by decide) rfl (Or.inl wd_603) dX10_restBy_70 ?_
    refine s_iload_n dX10_restBy_73 rfl ?_
    refine s_ald dX10_restBy_74 ?_
    refine s_iadd dX10_restBy_75 ?_
    refine s_ald dX10_restBy_76 ?_
    refine s_goto (tgt := 82) dX10_restBy_77 (by decide) ?_
    exact S_R_restBy_b82
def R_restBy_b49 : ak_K := (k_ci 0 R_restBy_b50)
theorem S_R_restBy_b49 : ak_S cX10_restBy RX10 6 1 2 44 (0, fun _ => 0) 49 (R_restBy_b49) := by
  unfold R_restBy_b49
  refine s_iconst (x := 0) dX10_restBy_49 (by decide +kernel) ?_
  exact S_R_restBy_b50
def R_restBy_b39 : ak_K := (k_ald (k_ci 1000000 (k_cmge R_restBy_b49 (k_ci 1 R_restBy_b50))))
theorem S_R_restBy_b39 : ak_S cX10_restBy RX10 6 1 2 44 (0, fun _ => 0) 39 (R_restBy_b39) := by
  unfold R_restBy_b39
  refine s_ald dX10_restBy_39 ?_
  refine s_ldc (x := 1000000) dX10_restBy_40 wd_761 ?_
  refine s_cmge (tgt := 49) dX10_restBy_42 (by decide) ?_ ?_
  · exact S_R_restBy_b49
  · refine s_iconst (x := 1) dX10_restBy_45 (by decide +kernel) ?_
    refine s_goto (tgt := 50) dX10_restBy_46 (by decide) ?_
    exact S_R_restBy_b50
def R_restBy_b0 : ak_K := (k_il 2 (k_il 1 (k_cs 2 R_has (k_ifeq (k_al 0 (k_il 1 (k_al 0 (k_gp 10 0 (k_ci 2 (k_ald (k_il 2 (k_b (fun x y => x ||| y) (k_cv 10 3 R_canBeLit (k_ifeq R_restBy_b49 (k_al 0 (k_gp 10 32 (k_ci 7 (k_il 3 (k_b (fun x y => x * y) (k_al 0 (k_gp 10 9 (k_il 1 (k_ald (k_b (fun x y => x + y) R_restBy_b39)))))))))))))))))))) R_restBy_b49))))
theorem S_R_restBy_b0 : ak_S cX10_restBy RX10 6 1 2 44 (0, fun _ => 0) 0 (R_restBy_b0) := by
  unfold R_restBy_b0
  refine s_iload_n dX10_restBy_0 rfl ?_
  refine s_iload_n dX10_restBy_1 rfl ?_
  refine s_cs M_R_has dX10_restBy_2 ⟨by decide +kernel, by decide +kernel, by decide +kernel⟩ (by decide) wd_711 wd_610 (Or.inl ⟨wd_710, rfl⟩) ?_
  refine s_ifne (tgt := 49) dX10_restBy_5 (by decide) ?_ ?_
  · refine s_aload_n dX10_restBy_8 rfl ?_
    refine s_iload_n dX10_restBy_9 rfl ?_
    refine s_aload_n dX10_restBy_10 rfl ?_
    refine s_gp (C := RX10) (Tf := TX10) (N := 41) (i := 10) (j := 0) rfl (by decide) rfl (Or.inl wd_578) dX10_restBy_11 ?_
    refine s_iconst (x := 2) dX10_restBy_14 (by decide +kernel) ?_
    refine s_ald dX10_restBy_15 ?_
    refine s_iload_n dX10_restBy_16 rfl ?_
    refine s_ior dX10_restBy_17 ?_
    refine s_cv (C := RX10) (Tf := TX10) (N := 41) (i := 10) rfl M_R_canBeLit dX10_restBy_18 rfl ⟨by decide +kernel, by decide +kernel, by decide +kernel⟩ (by decide) wd_769 wd_770 wd_610 (Or.inl wd_768) ?_
    refine s_ifeq (tgt := 49) dX10_restBy_21 (by decide) ?_ ?_
    · exact S_R_restBy_b49
    · refine s_aload_n dX10_restBy_24 rfl ?_
      refine s_gp (C := RX10) (Tf := TX10) (N := 41) (i := 10) (j := 32) rfl (by decide) rfl (Or.inl wd_580) dX10_restBy_25 ?_
      refine s_bipush (x := 7) dX10_restBy_28 (by decide +kernel) ?_
      refine s_iload_n dX10_restBy_30 rfl ?_
      refine s_imul dX10_restBy_31 ?_
      refine s_aload_n dX10_restBy_32 rfl ?_
      refine s_gp (C := RX10) (Tf := TX10) (N := 41) (i := 10) (j := 9) rfl (by decide) rfl (Or.inl wd_603) dX10_restBy_33 ?_
      refine s_iload_n dX10_restBy_36 rfl ?_
      refine s_ald dX10_restBy_37 ?_
      refine s_iadd dX10_restBy_38 ?_
      exact S_R_restBy_b39
  · exact S_R_restBy_b49
def R_restBy (As : List Value) (M : ak_M) : ak_R := match As with
  | [.ref a, .int x0, .int x1, .int x2] => R_restBy_b0 [some (.ref a), some (.int x0), some (.int x1), some (.int x2), none, none] [] M
  | _ => none
theorem M_R_restBy : ak_Mt yX10_restBy cX10_restBy 6 (some .int) 2 44 R_restBy := by
  refine ak_met (rk := 1) wd_771 (by decide +kernel) rfl (Or.inr (Or.inl ⟨rfl, rfl⟩)) (fun h => absurd h (by decide)) S_R_restBy_b0 (fun As M r h => ?_)
  unfold R_restBy at h
  split at h
  next => exact ⟨Nat.le_of_ble_eq_true rfl, 2, h⟩
  next => cases h
-- GreetedMirrorsModel.layRests(I)V
def R_layRests_b119 (h7 : ak_K) : ak_K := (k_ii 2 (-1) h7)
theorem S_R_layRests_b119 {h7 : ak_K} (H7 : ak_S cX10_layRests RX10 7 0 3 70 (0, fun _ => 0) 7 h7) : ak_S cX10_layRests RX10 7 0 3 70 (0, fun _ => 0) 119 (R_layRests_b119 h7) := by
  unfold R_layRests_b119
  refine s_iinc (y := (-1)) dX10_layRests_119 (by decide +kernel) (by decide) ?_
  refine s_goto (tgt := 7) dX10_layRests_122 (by decide) ?_
  exact H7
def R_layRests_b92 (h7 : ak_K) (h13 : ak_K) (h45 : ak_K) : ak_K := (k_is 4 (k_ii 5 1 h45))
theorem S_R_layRests_b92 {h7 : ak_K} (H7 : ak_S cX10_layRests RX10 7 0 3 70 (0, fun _ => 0) 7 h7) {h13 : ak_K} (H13 : ak_S cX10_layRests RX10 7 0 3 70 (0, fun _ => 0) 13 h13) {h45 : ak_K} (H45 : ak_S cX10_layRests RX10 7 0 3 70 (0, fun _ => 0) 45 h45) : ak_S cX10_layRests RX10 7 0 3 70 (0, fun _ => 0) 92 (R_layRests_b92 h7 h13 h45) := by
  unfold R_layRests_b92
  refine s_istore dX10_layRests_92 (by decide) ?_
  refine s_iinc (y := 1) dX10_layRests_94 (by decide +kernel) (by decide) ?_
  refine s_goto (tgt := 45) dX10_layRests_97 (by decide) ?_
  exact H45
def R_layRests_b76 (h7 : ak_K) (h13 : ak_K) (h45 : ak_K) : ak_K := (k_is 6 (k_il 6 (k_il 4 (k_cmge (k_il 4 (R_layRests_b92 h7 h13 h45)) (k_il 6 (R_layRests_b92 h7 h13 h45))))))
theorem S_R_layRests_b76 {h7 : ak_K} (H7 : ak_S cX10_layRests RX10 7 0 3 70 (0, fun _ => 0) 7 h7) {h13 : ak_K} (H13 : ak_S cX10_layRests RX10 7 0 3 70 (0, fun _ => 0) 13 h13) {h45 : ak_K} (H45 : ak_S cX10_layRests RX10 7 0 3 70 (0, fun _ => 0) 45 h45) : ak_S cX10_layRests RX10 7 0 3 70 (0, fun _ => 0) 76 (R_layRests_b76 h7 h13 h45) := by
  unfold R_layRests_b76
  refine s_istore dX10_layRests_76 (by decide) ?_
  refine s_iload dX10_layRests_78 ?_
  refine s_iload dX10_layRests_80 ?_
  refine s_cmge (tgt := 90) dX10_layRests_82 (by decide) ?_ ?_
  · refine s_iload dX10_layRests_90 ?_
    exact (S_R_layRests_b92 H7 H13 H45)
  · refine s_iload dX10_layRests_85 ?_
    refine s_goto (tgt := 92) dX10_layRests_87 (by decide) ?_
    exact (S_R_layRests_b92 H7 H13 H45)
def R_layRests_b45 (h7 : ak_K) (h13 : ak_K) (h45 : ak_K) : ak_K := (k_il 5 (k_al 0 (k_gi 10 5 (k_cmge (k_al 0 (k_gp 10 33 (k_ci 7 (k_il 2 (k_b (fun x y => x * y) (k_il 3 (k_b (fun x y => x + y) (k_il 4 (k_ast (k_ii 3 1 h13)))))))))) (k_il 1 (k_il 5 (k_cs 2 R_has (k_ifeq (k_ci 1000000 (R_layRests_b76 h7 h13 h45)) (k_al 0 (k_il 5 (k_il 2 (k_il 3 (k_cv 10 4 R_restBy (R_layRests_b76 h7 h13 h45))))))))))))))
theorem S_R_layRests_b45 {h7 : ak_K} (H7 : ak_S cX10_layRests RX10 7 0 3 70 (0, fun _ => 0) 7 h7) {h13 : ak_K} (H13 : ak_S cX10_layRests RX10 7 0 3 70 (0, fun _ => 0) 13 h13) {h45 : ak_K} (H45 : ak_S cX10_layRests RX10 7 0 3 70 (0, fun _ => 0) 45 h45) : ak_S cX10_layRests RX10 7 0 3 70 (0, fun _ => 0) 45 (R_layRests_b45 h7 h13 h45) := by
  unfold R_layRests_b45
  refine s_iload dX10_layRests_45 ?_
  refine s_aload_n dX10_layRests_47 rfl ?_
  refine s_gi (C := RX10) (Tf := TX10) (N := 41) (i := 10) (j := 5) rfl (by decide) rfl (Or.inl wd_615) dX10_layRests_48 ?_
  refine s_cmge (tgt := 100) dX10_layRests_51 (by decide) ?_ ?_
  · refine s_aload_n dX10_layRests_100 rfl ?_
    refine s_gp (C := RX10) (Tf := TX10) (N := 41) (i := 10) (j := 33) rfl (by decide) rfl (Or.inl wd_581) dX10_layRests_101 ?_
    refine s_bipush (x := 7) dX10_layRests_104 (by decide +kernel) ?_
    refine s_iload_n dX10_layRests_106 rfl ?_
    refine s_imul dX10_layRests_107 ?_
    refine s_iload_n dX10_layRests_108 rfl ?_
    refine s_iadd dX10_layRests_109 ?_
    refine s_iload dX10_layRests_110 ?_
    refine s_ast dX10_layRests_112 ?_
    refine s_iinc (y := 1) dX10_layRests_113 (by decide +kernel) (by decide) ?_
    refine s_goto (tgt := 13) dX10_layRests_116 (by decide) ?_
    exact H13
  · refine s_iload_n dX10_layRests_54 rfl ?_
    refine s_iload dX10_layRests_55 ?_
    refine s_cs M_R_has dX10_layRests_57 ⟨by decide +kernel, by decide +kernel, by decide +kernel⟩ (by decide) wd_711 wd_610 (Or.inl ⟨wd_710, rfl⟩) ?_
    refine s_ifeq (tgt := 74) dX10_layRests_60 (by decide) ?_ ?_
    · refine s_ldc (x := 1000000) dX10_layRests_74 wd_761 ?_
      exact (S_R_layRests_b76 H7 H13 H45)
    · refine s_aload_n dX10_layRests_63 rfl ?_
      refine s_iload dX10_layRests_64 ?_
      refine s_iload_n dX10_layRests_66 rfl ?_
      refine s_iload_n dX10_layRests_67 rfl ?_
      refine s_cv (C := RX10) (Tf := TX10) (N := 41) (i := 10) rfl M_R_restBy dX10_layRests_68 rfl ⟨by decide +kernel, by decide +kernel, by decide +kernel⟩ (by decide) wd_773 wd_774 wd_610 (Or.inl wd_772) ?_
      refine s_goto (tgt := 76) dX10_layRests_71 (by decide) ?_
      exact (S_R_layRests_b76 H7 H13 H45)
def R_layRests_l45 (h7 : ak_K) (h13 : ak_K) : Nat → ak_K
  | 0 => k_no
  | n + 1 => R_layRests_b45 h7 h13 (R_layRests_l45 h7 h13 n)
theorem S_R_layRests_l45 {h7 : ak_K} (H7 : ak_S cX10_layRests RX10 7 0 3 70 (0, fun _ => 0) 7 h7) {h13 : ak_K} (H13 : ak_S cX10_layRests RX10 7 0 3 70 (0, fun _ => 0) 13 h13) : ∀ n : Nat, ak_S cX10_layRests RX10 7 0 3 70 (0, fun _ => 0) 45 (R_layRests_l45 h7 h13 n)
  | 0 => s_no
  | n + 1 => S_R_layRests_b45 H7 H13 (S_R_layRests_l45 H7 H13 n)
def R_layRests_b40 (h7 : ak_K) (h13 : ak_K) : ak_K := (k_is 4 (k_ci 0 (k_is 5 (R_layRests_l45 h7 h13 ak_fuel))))
theorem S_R_layRests_b40 {h7 : ak_K} (H7 : ak_S cX10_layRests RX10 7 0 3 70 (0, fun _ => 0) 7 h7) {h13 : ak_K} (H13 : ak_S cX10_layRests RX10 7 0 3 70 (0, fun _ => 0) 13 h13) : ak_S cX10_layRests RX10 7 0 3 70 (0, fun _ => 0) 40 (R_layRests_b40 h7 h13) := by
  unfold R_layRests_b40
  refine s_istore dX10_layRests_40 (by decide) ?_
  refine s_iconst (x := 0) dX10_layRests_42 (by decide +kernel) ?_
  refine s_istore dX10_layRests_43 (by decide) ?_
  exact (S_R_layRests_l45 H7 H13 ak_fuel)
def R_layRests_b13 (h7 : ak_K) (h13 : ak_K) : ak_K := (k_il 3 (k_al 0 (k_gi 10 3 (k_cmge (R_layRests_b119 h7) (k_il 2 (k_il 1 (k_ci (-1) (k_b (fun x y => x ^^^ y) (k_b (fun x y => x &&& y) (k_ifeq (k_il 2 (k_il 1 (k_cmeq (k_ci 0 (R_layRests_b40 h7 h13)) (k_ci 1000000 (R_layRests_b40 h7 h13))))) (R_layRests_b119 h7)))))))))))
theorem S_R_layRests_b13 {h7 : ak_K} (H7 : ak_S cX10_layRests RX10 7 0 3 70 (0, fun _ => 0) 7 h7) {h13 : ak_K} (H13 : ak_S cX10_layRests RX10 7 0 3 70 (0, fun _ => 0) 13 h13) : ak_S cX10_layRests RX10 7 0 3 70 (0, fun _ => 0) 13 (R_layRests_b13 h7 h13) := by
  unfold R_layRests_b13
  refine s_iload_n dX10_layRests_13 rfl ?_
  refine s_aload_n dX10_layRests_14 rfl ?_
  refine s_gi (C := RX10) (Tf := TX10) (N := 41) (i := 10) (j := 3) rfl (by decide) rfl (Or.inl wd_608) dX10_layRests_15 ?_
  refine s_cmge (tgt := 119) dX10_layRests_18 (by decide) ?_ ?_
  · exact (S_R_layRests_b119 H7)
  · refine s_iload_n dX10_layRests_21 rfl ?_
    refine s_iload_n dX10_layRests_22 rfl ?_
    refine s_iconst (x := (-1)) dX10_layRests_23 (by decide +kernel) ?_
    refine s_ixor dX10_layRests_24 ?_
    refine s_iand dX10_layRests_25 ?_
    refine s_ifne (tgt := 119) dX10_layRests_26 (by decide) ?_ ?_
    · refine s_iload_n dX10_layRests_29 rfl ?_
      refine s_iload_n dX10_layRests_30 rfl ?_
      refine s_cmne (tgt := 38) dX10_layRests_31 (by decide) ?_ ?_
      · refine s_iconst (x := 0) dX10_layRests_34 (by decide +kernel) ?_
        refine s_goto (tgt := 40) dX10_layRests_35 (by decide) ?_
        exact (S_R_layRests_b40 H7 H13)
      · refine s_ldc (x := 1000000) dX10_layRests_38 wd_761 ?_
        exact (S_R_layRests_b40 H7 H13)
    · exact (S_R_layRests_b119 H7)
def R_layRests_l13 (h7 : ak_K) : Nat → ak_K
  | 0 => k_no
  | n + 1 => R_layRests_b13 h7 (R_layRests_l13 h7 n)
theorem S_R_layRests_l13 {h7 : ak_K} (H7 : ak_S cX10_layRests RX10 7 0 3 70 (0, fun _ => 0) 7 h7) : ∀ n : Nat, ak_S cX10_layRests RX10 7 0 3 70 (0, fun _ => 0) 13 (R_layRests_l13 h7 n)
  | 0 => s_no
  | n + 1 => S_R_layRests_b13 H7 (S_R_layRests_l13 H7 n)
def R_layRests_b7 (h7 : ak_K) : ak_K := (k_il 2 (k_iflt k_rv (k_ci 0 (k_is 3 (R_layRests_l13 h7 ak_fuel)))))
theorem S_R_layRests_b7 {h7 : ak_K} (H7 : ak_S cX10_layRests RX10 7 0 3 70 (0, fun _ => 0) 7 h7) : ak_S cX10_layRests RX10 7 0 3 70 (0, fun _ => 0) 7 (R_layRests_b7 h7) := by
  unfold R_layRests_b7
  refine s_iload_n dX10_layRests_7 rfl ?_
  refine s_iflt (tgt := 125) dX10_layRests_8 (by decide) ?_ ?_
  · exact s_rv (Or.inl rfl) dX10_layRests_125
  · refine s_iconst (x := 0) dX10_layRests_11 (by decide +kernel) ?_
    refine s_istore_n dX10_layRests_12 rfl (by decide) ?_
    exact (S_R_layRests_l13 H7 ak_fuel)
def R_layRests_l7 : Nat → ak_K
  | 0 => k_no
  | n + 1 => R_layRests_b7 (R_layRests_l7 n)
theorem S_R_layRests_l7 : ∀ n : Nat, ak_S cX10_layRests RX10 7 0 3 70 (0, fun _ => 0) 7 (R_layRests_l7 n)
  | 0 => s_no
  | n + 1 => S_R_layRests_b7 (S_R_layRests_l7 n)
def R_layRests_b0 : ak_K := (k_al 0 (k_cv 10 1 R_layWays (k_ci 127 (k_is 2 (R_layRests_l7 ak_fuel)))))
theorem S_R_layRests_b0 : ak_S cX10_layRests RX10 7 0 3 70 (0, fun _ => 0) 0 (R_layRests_b0) := by
  unfold R_layRests_b0
  refine s_aload_n dX10_layRests_0 rfl ?_
  refine s_cv (C := RX10) (Tf := TX10) (N := 41) (i := 10) rfl M_R_layWays dX10_layRests_1 rfl ⟨by decide +kernel, by decide +kernel, by decide +kernel⟩ (by decide) wd_776 wd_777 wd_610 (Or.inl wd_775) ?_
  refine s_bipush (x := 127) dX10_layRests_4 (by decide +kernel) ?_
  refine s_istore_n dX10_layRests_6 rfl (by decide) ?_
  exact (S_R_layRests_l7 ak_fuel)
def R_layRests (As : List Value) (M : ak_M) : ak_R := match As with
  | [.ref a, .int x0] => R_layRests_b0 [some (.ref a), some (.int x0), none, none, none, none, none] [] M
  | _ => none
theorem M_R_layRests : ak_Mt yX10_layRests cX10_layRests 7 none 3 70 R_layRests := by
  refine ak_met (rk := 0) wd_778 (by decide +kernel) rfl (Or.inl ⟨Or.inl rfl, rfl⟩) (fun h => absurd h (by decide)) S_R_layRests_b0 (fun As M r h => ?_)
  unfold R_layRests at h
  split at h
  next => exact ⟨Nat.le_of_ble_eq_true rfl, 5, h⟩
  next => cases h
-- GreetedMirrorsModel.round(II)I
def R_round_b80 : ak_K := (k_ci (-1) k_ri)
theorem S_R_round_b80 : ak_S cX10_round RX10 10 1 4 96 (0, fun _ => 0) 80 (R_round_b80) := by
  unfold R_round_b80
  refine s_iconst (x := (-1)) dX10_round_80 (by decide +kernel) ?_
  exact s_ri rfl dX10_round_81
def R_round_b164 (h94 : ak_K) (h111 : ak_K) : ak_K := (k_is 8 (k_ii 9 (-1) h111))
theorem S_R_round_b164 {h94 : ak_K} (H94 : ak_S cX10_round RX10 10 1 4 96 (0, fun _ => 0) 94 h94) {h111 : ak_K} (H111 : ak_S cX10_round RX10 10 1 4 96 (0, fun _ => 0) 111 h111) : ak_S cX10_round RX10 10 1 4 96 (0, fun _ => 0) 164 (R_round_b164 h94 h111) := by
  unfold R_round_b164
  refine s_istore dX10_round_164 (by decide) ?_
  refine s_iinc (y := (-1)) dX10_round_166 (by decide +kernel) (by decide) ?_
  refine s_goto (tgt := 111) dX10_round_169 (by decide) ?_
  exact H111
def R_round_b162 (h94 : ak_K) (h111 : ak_K) : ak_K := (k_il 8 (R_round_b164 h94 h111))
theorem S_R_round_b162 {h94 : ak_K} (H94 : ak_S cX10_round RX10 10 1 4 96 (0, fun _ => 0) 94 h94) {h111 : ak_K} (H111 : ak_S cX10_round RX10 10 1 4 96 (0, fun _ => 0) 111 h111) : ak_S cX10_round RX10 10 1 4 96 (0, fun _ => 0) 162 (R_round_b162 h94 h111) := by
  unfold R_round_b162
  refine s_iload dX10_round_162 ?_
  exact (S_R_round_b164 H94 H111)
def R_round_b111 (h94 : ak_K) (h111 : ak_K) : ak_K := (k_il 9 (k_iflt (k_il 8 (k_ci (-1) (k_cmeq (k_ci (-1) k_ri) (k_il 8 (k_is 6 (k_il 5 (k_ci 1 (k_il 8 (k_b (fun x y => x <<< (y &&& 31)) (k_b (fun x y => x ||| y) (k_is 5 (k_al 0 (k_gp 10 9 (k_il 8 (k_ald (k_is 4 (k_ii 7 1 h94))))))))))))))))) (k_il 5 (k_il 3 (k_cmeq (R_round_b162 h94 h111) (k_il 3 (k_il 9 (k_cs 2 R_has (k_ifeq (R_round_b162 h94 h111) (k_al 0 (k_il 9 (k_il 5 (k_il 4 (k_cv 10 4 R_restBy (k_al 0 (k_gp 10 33 (k_ci 7 (k_il 5 (k_b (fun x y => x * y) (k_il 4 (k_b (fun x y => x + y) (k_ald (k_cmeq (k_il 9 (R_round_b164 h94 h111)) (R_round_b162 h94 h111))))))))))))))))))))))))
theorem S_R_round_b111 {h94 : ak_K} (H94 : ak_S cX10_round RX10 10 1 4 96 (0, fun _ => 0) 94 h94) {h111 : ak_K} (H111 : ak_S cX10_round RX10 10 1 4 96 (0, fun _ => 0) 111 h111) : ak_S cX10_round RX10 10 1 4 96 (0, fun _ => 0) 111 (R_round_b111 h94 h111) := by
  unfold R_round_b111
  refine s_iload dX10_round_111 ?_
  refine s_iflt (tgt := 172) dX10_round_113 (by decide) ?_ ?_
  · refine s_iload dX10_round_172 ?_
    refine s_iconst (x := (-1)) dX10_round_174 (by decide +kernel) ?_
    refine s_cmne (tgt := 180) dX10_round_175 (by decide) ?_ ?_
    · refine s_iconst (x := (-1)) dX10_round_178 (by decide +kernel) ?_
      exact s_ri rfl dX10_round_179
    · refine s_iload dX10_round_180 ?_
      refine s_istore dX10_round_182 (by decide) ?_
      refine s_iload dX10_round_184 ?_
      refine s_iconst (x := 1) dX10_round_186 (by decide +kernel) ?_
      refine s_iload dX10_round_187 ?_
      refine s_ishl dX10_round_189 ?_
      refine s_ior dX10_round_190 ?_
      refine s_istore dX10_round_191 (by decide) ?_
      refine s_aload_n dX10_round_193 rfl ?_
      refine s_gp (C := RX10) (Tf := TX10) (N := 41) (i := 10) (j := 9) rfl (by decide) rfl (Or.inl wd_603) dX10_round_194 ?_
      refine s_iload dX10_round_197 ?_
      refine s_ald dX10_round_199 ?_
      refine s_istore dX10_round_200 (by decide) ?_
      refine s_iinc (y := 1) dX10_round_202 (by decide +kernel) (by decide) ?_
      refine s_goto (tgt := 94) dX10_round_205 (by decide) ?_
      exact H94
  · refine s_iload dX10_round_116 ?_
    refine s_iload_n dX10_round_118 rfl ?_
    refine s_cmeq (tgt := 162) dX10_round_119 (by decide) ?_ ?_
    · exact (S_R_round_b162 H94 H111)
    · refine s_iload_n dX10_round_122 rfl ?_
      refine s_iload dX10_round_123 ?_
      refine s_cs M_R_has dX10_round_125 ⟨by decide +kernel, by decide +kernel, by decide +kernel⟩ (by decide) wd_711 wd_610 (Or.inl ⟨wd_710, rfl⟩) ?_
      refine s_ifeq (tgt := 162) dX10_round_128 (by decide) ?_ ?_
      · exact (S_R_round_b162 H94 H111)
      · refine s_aload_n dX10_round_131 rfl ?_
        refine s_iload dX10_round_132 ?_
        refine s_iload dX10_round_134 ?_
        refine s_iload dX10_round_136 ?_
        refine s_cv (C := RX10) (Tf := TX10) (N := 41) (i := 10) rfl M_R_restBy dX10_round_138 rfl ⟨by decide +kernel, by decide +kernel, by decide +kernel⟩ (by decide) wd_773 wd_774 wd_610 (Or.inl wd_772) ?_
        refine s_aload_n dX10_round_141 rfl ?_
        refine s_gp (C := RX10) (Tf := TX10) (N := 41) (i := 10) (j := 33) rfl (by decide) rfl (Or.inl wd_581) dX10_round_142 ?_
        refine s_bipush (x := 7) dX10_round_145 (by decide +kernel) ?_
        refine s_iload dX10_round_147 ?_
        refine s_imul dX10_round_149 ?_
        refine s_iload dX10_round_150 ?_
        refine s_iadd dX10_round_152 ?_
        refine s_ald dX10_round_153 ?_
        refine s_cmne (tgt := 162) dX10_round_154 (by decide) ?_ ?_
        · refine s_iload dX10_round_157 ?_
          refine s_goto (tgt := 164) dX10_round_159 (by decide) ?_
          exact (S_R_round_b164 H94 H111)
        · exact (S_R_round_b162 H94 H111)
def R_round_l111 (h94 : ak_K) : Nat → ak_K
  | 0 => k_no
  | n + 1 => R_round_b111 h94 (R_round_l111 h94 n)
theorem S_R_round_l111 {h94 : ak_K} (H94 : ak_S cX10_round RX10 10 1 4 96 (0, fun _ => 0) 94 h94) : ∀ n : Nat, ak_S cX10_round RX10 10 1 4 96 (0, fun _ => 0) 111 (R_round_l111 h94 n)
  | 0 => s_no
  | n + 1 => S_R_round_b111 H94 (S_R_round_l111 H94 n)
def R_round_b94 (h94 : ak_K) : ak_K := (k_il 7 (k_il 2 (k_cmgt (k_il 6 k_ri) (k_ci (-1) (k_is 8 (k_al 0 (k_gi 10 5 (k_ci 1 (k_b (fun x y => x - y) (k_is 9 (R_round_l111 h94 ak_fuel)))))))))))
theorem S_R_round_b94 {h94 : ak_K} (H94 : ak_S cX10_round RX10 10 1 4 96 (0, fun _ => 0) 94 h94) : ak_S cX10_round RX10 10 1 4 96 (0, fun _ => 0) 94 (R_round_b94 h94) := by
  unfold R_round_b94
  refine s_iload dX10_round_94 ?_
  refine s_iload_n dX10_round_96 rfl ?_
  refine s_cmgt (tgt := 208) dX10_round_97 (by decide) ?_ ?_
  · refine s_iload dX10_round_208 ?_
    exact s_ri rfl dX10_round_210
  · refine s_iconst (x := (-1)) dX10_round_100 (by decide +kernel) ?_
    refine s_istore dX10_round_101 (by decide) ?_
    refine s_aload_n dX10_round_103 rfl ?_
    refine s_gi (C := RX10) (Tf := TX10) (N := 41) (i := 10) (j := 5) rfl (by decide) rfl (Or.inl wd_615) dX10_round_104 ?_
    refine s_iconst (x := 1) dX10_round_107 (by decide +kernel) ?_
    refine s_isub dX10_round_108 ?_
    refine s_istore dX10_round_109 (by decide) ?_
    exact (S_R_round_l111 H94 ak_fuel)
def R_round_l94 : Nat → ak_K
  | 0 => k_no
  | n + 1 => R_round_b94 (R_round_l94 n)
theorem S_R_round_l94 : ∀ n : Nat, ak_S cX10_round RX10 10 1 4 96 (0, fun _ => 0) 94 (R_round_l94 n)
  | 0 => s_no
  | n + 1 => S_R_round_b94 (S_R_round_l94 n)
def R_round_b92 : ak_K := (k_is 7 (R_round_l94 ak_fuel))
theorem S_R_round_b92 : ak_S cX10_round RX10 10 1 4 96 (0, fun _ => 0) 92 (R_round_b92) := by
  unfold R_round_b92
  refine s_istore dX10_round_92 (by decide) ?_
  exact (S_R_round_l94 ak_fuel)
def R_round_b48 : ak_K := (k_il 3 (k_cv 10 2 R_layRests (k_al 0 (k_gp 10 0 (k_ci 0 (k_ald (k_is 4 (k_ci 0 (k_is 5 (k_al 0 (k_gp 10 33 (k_il 4 (k_ald (k_ci 1000000 (k_cmge R_round_b80 (k_il 2 (k_ci (-1) (k_cmge (k_al 0 (k_gp 10 33 (k_il 4 (k_ald (k_is 6 (k_ci 0 R_round_b92)))))) R_round_b80))))))))))))))))))
theorem S_R_round_b48 : ak_S cX10_round RX10 10 1 4 96 (0, fun _ => 0) 48 (R_round_b48) := by
  unfold R_round_b48
  refine s_iload_n dX10_round_48 rfl ?_
  refine s_cv (C := RX10) (Tf := TX10) (N := 41) (i := 10) rfl M_R_layRests dX10_round_49 rfl ⟨by decide +kernel, by decide +kernel, by decide +kernel⟩ (by decide) wd_780 wd_781 wd_610 (Or.inl wd_779) ?_
  refine s_aload_n dX10_round_52 rfl ?_
  refine s_gp (C := RX10) (Tf := TX10) (N := 41) (i := 10) (j := 0) rfl (by decide) rfl (Or.inl wd_578) dX10_round_53 ?_
  refine s_iconst (x := 0) dX10_round_56 (by decide +kernel) ?_
  refine s_ald dX10_round_57 ?_
  refine s_istore dX10_round_58 (by decide) ?_
  refine s_iconst (x := 0) dX10_round_60 (by decide +kernel) ?_
  refine s_istore dX10_round_61 (by decide) ?_
  refine s_aload_n dX10_round_63 rfl ?_
  refine s_gp (C := RX10) (Tf := TX10) (N := 41) (i := 10) (j := 33) rfl (by decide) rfl (Or.inl wd_581) dX10_round_64 ?_
  refine s_iload dX10_round_67 ?_
  refine s_ald dX10_round_69 ?_
  refine s_ldc (x := 1000000) dX10_round_70 wd_761 ?_
  refine s_cmge (tgt := 80) dX10_round_72 (by decide) ?_ ?_
  · exact S_R_round_b80
  · refine s_iload_n dX10_round_75 rfl ?_
    refine s_iconst (x := (-1)) dX10_round_76 (by decide +kernel) ?_
    refine s_cmge (tgt := 82) dX10_round_77 (by decide) ?_ ?_
    · refine s_aload_n dX10_round_82 rfl ?_
      refine s_gp (C := RX10) (Tf := TX10) (N := 41) (i := 10) (j := 33) rfl (by decide) rfl (Or.inl wd_581) dX10_round_83 ?_
      refine s_iload dX10_round_86 ?_
      refine s_ald dX10_round_88 ?_
      refine s_istore dX10_round_89 (by decide) ?_
      refine s_iconst (x := 0) dX10_round_91 (by decide +kernel) ?_
      exact S_R_round_b92
    · exact S_R_round_b80
def R_round_b46 : ak_K := k_ri
theorem S_R_round_b46 : ak_S cX10_round RX10 10 1 4 96 (0, fun _ => 0) 46 (R_round_b46) := by
  unfold R_round_b46
  exact s_ri rfl dX10_round_46
def R_round_b37 : ak_K := (k_ci (-1) (k_cmeq (k_ci 0 R_round_b46) (k_ci (-1) R_round_b46)))
theorem S_R_round_b37 : ak_S cX10_round RX10 10 1 4 96 (0, fun _ => 0) 37 (R_round_b37) := by
  unfold R_round_b37
  refine s_iconst (x := (-1)) dX10_round_37 (by decide +kernel) ?_
  refine s_cmne (tgt := 45) dX10_round_38 (by decide) ?_ ?_
  · refine s_iconst (x := 0) dX10_round_41 (by decide +kernel) ?_
    refine s_goto (tgt := 46) dX10_round_42 (by decide) ?_
    exact S_R_round_b46
  · refine s_iconst (x := (-1)) dX10_round_45 (by decide +kernel) ?_
    exact S_R_round_b46
def R_round_b0 : ak_K := (k_il 1 (k_i2l (k_cl 0 (k_ci 1 (k_al 0 (k_gi 10 5 (k_b (fun x y => x <<< (y &&& 31)) (k_ci 1 (k_b (fun x y => x - y) (k_i2l (k_cs 3 R_in (k_ifeq (k_ci (-1000000001) k_ri) (k_il 1 (k_al 0 (k_gp 10 0 (k_ci 2 (k_ald (k_ci (-1) (k_b (fun x y => x ^^^ y) (k_b (fun x y => x &&& y) (k_is 3 (k_il 3 (k_ifeq (k_il 2 R_round_b37) (k_al 0 R_round_b48))))))))))))))))))))))))
theorem S_R_round_b0 : ak_S cX10_round RX10 10 1 4 96 (0, fun _ => 0) 0 (R_round_b0) := by
  unfold R_round_b0
  refine s_iload_n dX10_round_0 rfl ?_
  refine s_i2l dX10_round_1 ?_
  refine s_lconst (x := 0) dX10_round_2 (by decide +kernel) ?_
  refine s_iconst (x := 1) dX10_round_3 (by decide +kernel) ?_
  refine s_aload_n dX10_round_4 rfl ?_
  refine s_gi (C := RX10) (Tf := TX10) (N := 41) (i := 10) (j := 5) rfl (by decide) rfl (Or.inl wd_615) dX10_round_5 ?_
  refine s_ishl dX10_round_8 ?_
  refine s_iconst (x := 1) dX10_round_9 (by decide +kernel) ?_
  refine s_isub dX10_round_10 ?_
  refine s_i2l dX10_round_11 ?_
  refine s_cs M_R_in dX10_round_12 ⟨by decide +kernel, by decide +kernel, by decide +kernel⟩ (by decide) wd_611 wd_610 (Or.inl ⟨wd_609, rfl⟩) ?_
  refine s_ifne (tgt := 21) dX10_round_15 (by decide) ?_ ?_
  · refine s_ldc (x := (-1000000001)) dX10_round_18 wd_700 ?_
    exact s_ri rfl dX10_round_20
  · refine s_iload_n dX10_round_21 rfl ?_
    refine s_aload_n dX10_round_22 rfl ?_
    refine s_gp (C := RX10) (Tf := TX10) (N := 41) (i := 10) (j := 0) rfl (by decide) rfl (Or.inl wd_578) dX10_round_23 ?_
    refine s_iconst (x := 2) dX10_round_26 (by decide +kernel) ?_
    refine s_ald dX10_round_27 ?_
    refine s_iconst (x := (-1)) dX10_round_28 (by decide +kernel) ?_
    refine s_ixor dX10_round_29 ?_
    refine s_iand dX10_round_30 ?_
    refine s_istore_n dX10_round_31 rfl (by decide) ?_
    refine s_iload_n dX10_round_32 rfl ?_
    refine s_ifne (tgt := 47) dX10_round_33 (by decide) ?_ ?_
    · refine s_iload_n dX10_round_36 rfl ?_
      exact S_R_round_b37
    · refine s_aload_n dX10_round_47 rfl ?_
      exact S_R_round_b48
def R_round (As : List Value) (M : ak_M) : ak_R := match As with
  | [.ref a, .int x0, .int x1] => R_round_b0 [some (.ref a), some (.int x0), some (.int x1), none, none, none, none, none, none, none] [] M
  | _ => none
theorem M_R_round : ak_Mt yX10_round cX10_round 10 (some .int) 4 96 R_round := by
  refine ak_met (rk := 1) wd_782 (by decide +kernel) rfl (Or.inr (Or.inl ⟨rfl, rfl⟩)) (fun h => absurd h (by decide)) S_R_round_b0 (fun As M r h => ?_)
  unfold R_round at h
  split at h
  next => exact ⟨Nat.le_of_ble_eq_true rfl, 7, h⟩
  next => cases h
-- GreetedMirrorsModel.cannot()I
def R_cannot_b87 (h8 : ak_K) : ak_K := (k_b (fun x y => x ||| y) (k_is 1 (k_ii 2 1 h8)))
theorem S_R_cannot_b87 {h8 : ak_K} (H8 : ak_S cX10_cannot RX10 4 1 3 70 (0, fun _ => 0) 8 h8) : ak_S cX10_cannot RX10 4 1 3 70 (0, fun _ => 0) 87 (R_cannot_b87 h8) := by
  unfold R_cannot_b87
  refine s_ior dX10_cannot_87 ?_
  refine s_istore_n dX10_cannot_88 rfl (by decide) ?_
  refine s_iinc (y := 1) dX10_cannot_89 (by decide +kernel) (by decide) ?_
  refine s_goto (tgt := 8) dX10_cannot_92 (by decide) ?_
  exact H8
def R_cannot_b86 (h8 : ak_K) : ak_K := (k_ci 0 (R_cannot_b87 h8))
theorem S_R_cannot_b86 {h8 : ak_K} (H8 : ak_S cX10_cannot RX10 4 1 3 70 (0, fun _ => 0) 8 h8) : ak_S cX10_cannot RX10 4 1 3 70 (0, fun _ => 0) 86 (R_cannot_b86 h8) := by
  unfold R_cannot_b86
  refine s_iconst (x := 0) dX10_cannot_86 (by decide +kernel) ?_
  exact (S_R_cannot_b87 H8)
def R_cannot_b61 (h8 : ak_K) : ak_K := (k_is 3 (k_il 1 (k_al 0 (k_gp 10 0 (k_ci 2 (k_ald (k_il 2 (k_cs 2 R_has (k_ifeq (k_il 3 (k_ifeq (k_ci 1 (k_il 2 (k_b (fun x y => x <<< (y &&& 31)) (R_cannot_b87 h8)))) (R_cannot_b86 h8))) (R_cannot_b86 h8))))))))))
theorem S_R_cannot_b61 {h8 : ak_K} (H8 : ak_S cX10_cannot RX10 4 1 3 70 (0, fun _ => 0) 8 h8) : ak_S cX10_cannot RX10 4 1 3 70 (0, fun _ => 0) 61 (R_cannot_b61 h8) := by
  unfold R_cannot_b61
  refine s_istore_n dX10_cannot_61 rfl (by decide) ?_
  refine s_iload_n dX10_cannot_62 rfl ?_
  refine s_aload_n dX10_cannot_63 rfl ?_
  refine s_gp (C := RX10) (Tf := TX10) (N := 41) (i := 10) (j := 0) rfl (by decide) rfl (Or.inl wd_578) dX10_cannot_64 ?_
  refine s_iconst (x := 2) dX10_cannot_67 (by decide +kernel) ?_
  refine s_ald dX10_cannot_68 ?_
  refine s_iload_n dX10_cannot_69 rfl ?_
  refine s_cs M_R_has dX10_cannot_70 ⟨by decide +kernel, by decide +kernel, by decide +kernel⟩ (by decide) wd_711 wd_610 (Or.inl ⟨wd_710, rfl⟩) ?_
  refine s_ifne (tgt := 86) dX10_cannot_73 (by decide) ?_ ?_
  · refine s_iload_n dX10_cannot_76 rfl ?_
    refine s_ifne (tgt := 86) dX10_cannot_77 (by decide) ?_ ?_
    · refine s_iconst (x := 1) dX10_cannot_80 (by decide +kernel) ?_
      refine s_iload_n dX10_cannot_81 rfl ?_
      refine s_ishl dX10_cannot_82 ?_
      refine s_goto (tgt := 87) dX10_cannot_83 (by decide) ?_
      exact (S_R_cannot_b87 H8)
    · exact (S_R_cannot_b86 H8)
  · exact (S_R_cannot_b86 H8)
def R_cannot_b60 (h8 : ak_K) : ak_K := (k_ci 0 (R_cannot_b61 h8))
theorem S_R_cannot_b60 {h8 : ak_K} (H8 : ak_S cX10_cannot RX10 4 1 3 70 (0, fun _ => 0) 8 h8) : ak_S cX10_cannot RX10 4 1 3 70 (0, fun _ => 0) 60 (R_cannot_b60 h8) := by
  unfold R_cannot_b60
  refine s_iconst (x := 0) dX10_cannot_60 (by decide +kernel) ?_
  exact (S_R_cannot_b61 H8)
def R_cannot_b49 (h8 : ak_K) : ak_K := (k_b (fun x y => x + y) (k_ald (k_ci 1000000 (k_cmge (R_cannot_b60 h8) (k_ci 1 (R_cannot_b61 h8))))))
theorem S_R_cannot_b49 {h8 : ak_K} (H8 : ak_S cX10_cannot RX10 4 1 3 70 (0, fun _ => 0) 8 h8) : ak_S cX10_cannot RX10 4 1 3 70 (0, fun _ => 0) 49 (R_cannot_b49 h8) := by
  unfold R_cannot_b49
  refine s_iadd dX10_cannot_49 ?_
  refine s_ald dX10_cannot_50 ?_
  refine s_ldc (x := 1000000) dX10_cannot_51 wd_761 ?_
  refine s_cmge (tgt := 60) dX10_cannot_53 (by decide) ?_ ?_
  · exact (S_R_cannot_b60 H8)
  · refine s_iconst (x := 1) dX10_cannot_56 (by decide +kernel) ?_
    refine s_goto (tgt := 61) dX10_cannot_57 (by decide) ?_
    exact (S_R_cannot_b61 H8)
def R_cannot_b8 (h8 : ak_K) : ak_K := (k_il 2 (k_al 0 (k_gi 10 5 (k_cmge (k_il 1 k_ri) (k_al 0 (k_il 2 (k_al 0 (k_gp 10 0 (k_ci 2 (k_ald (k_cv 10 3 R_canBeLit (k_ifeq (R_cannot_b60 h8) (k_al 0 (k_gp 10 32 (k_ci 7 (k_al 0 (k_gp 10 0 (k_ci 0 (k_ald (k_b (fun x y => x * y) (k_al 0 (k_gp 10 9 (k_il 2 (k_ald (R_cannot_b49 h8)))))))))))))))))))))))))
theorem S_R_cannot_b8 {h8 : ak_K} (H8 : ak_S cX10_cannot RX10 4 1 3 70 (0, fun _ => 0) 8 h8) : ak_S cX10_cannot RX10 4 1 3 70 (0, fun _ => 0) 8 (R_cannot_b8 h8) := by
  unfold R_cannot_b8
  refine s_iload_n dX10_cannot_8 rfl ?_
  refine s_aload_n dX10_cannot_9 rfl ?_
  refine s_gi (C := RX10) (Tf := TX10) (N := 41) (i := 10) (j := 5) rfl (by decide) rfl (Or.inl wd_615) dX10_cannot_10 ?_
  refine s_cmge (tgt := 95) dX10_cannot_13 (by decide) ?_ ?_
  · refine s_iload_n dX10_cannot_95 rfl ?_
    exact s_ri rfl dX10_cannot_96
  · refine s_aload_n dX10_cannot_16 rfl ?_
    refine s_iload_n dX10_cannot_17 rfl ?_
    refine s_aload_n dX10_cannot_18 rfl ?_
    refine s_gp (C := RX10) (Tf := TX10) (N := 41) (i := 10) (j := 0) rfl (by decide) rfl (Or.inl wd_578) dX10_cannot_19 ?_
    refine s_iconst (x := 2) dX10_cannot_22 (by decide +kernel) ?_
    refine s_ald dX10_cannot_23 ?_
    refine s_cv (C := RX10) (Tf := TX10) (N := 41) (i := 10) rfl M_R_canBeLit dX10_cannot_24 rfl ⟨by decide +kernel, by decide +kernel, by decide +kernel⟩ (by decide) wd_769 wd_770 wd_610 (Or.inl wd_768) ?_
    refine s_ifeq (tgt := 60) dX10_cannot_27 (by decide) ?_ ?_
    · exact (S_R_cannot_b60 H8)
    · refine s_aload_n dX10_cannot_30 rfl ?_
      refine s_gp (C := RX10) (Tf := TX10) (N := 41) (i := 10) (j := 32) rfl (by decide) rfl (Or.inl wd_580) dX10_cannot_31 ?_
      refine s_bipush (x := 7) dX10_cannot_34 (by decide +kernel) ?_
      refine s_aload_n dX10_cannot_36 rfl ?_
      refine s_gp (C := RX10) (Tf := TX10) (N := 41) (i := 10) (j := 0) rfl (by decide) rfl (Or.inl wd_578) dX10_cannot_37 ?_
      refine s_iconst (x := 0) dX10_cannot_40 (by decide +kernel) ?_
      refine s_ald dX10_cannot_41 ?_
      refine s_imul dX10_cannot_42 ?_
      refine s_aload_n dX10_cannot_43 rfl ?_
      refine s_gp (C := RX10) (Tf := TX10) (N := 41) (i := 10) (j := 9) rfl (by decide) rfl (Or.inl wd_603) dX10_cannot_44 ?_
      refine s_iload_n dX10_cannot_47 rfl ?_
      refine s_ald dX10_cannot_48 ?_
      exact (S_R_cannot_b49 H8)
def R_cannot_l8 : Nat → ak_K
  | 0 => k_no
  | n + 1 => R_cannot_b8 (R_cannot_l8 n)
theorem S_R_cannot_l8 : ∀ n : Nat, ak_S cX10_cannot RX10 4 1 3 70 (0, fun _ => 0) 8 (R_cannot_l8 n)
  | 0 => s_no
  | n + 1 => S_R_cannot_b8 (S_R_cannot_l8 n)
def R_cannot_b0 : ak_K := (k_al 0 (k_cv 10 1 R_layWays (k_ci 0 (k_is 1 (k_ci 0 (k_is 2 (R_cannot_l8 ak_fuel)))))))
theorem S_R_cannot_b0 : ak_S cX10_cannot RX10 4 1 3 70 (0, fun _ => 0) 0 (R_cannot_b0) := by
  unfold R_cannot_b0
  refine s_aload_n dX10_cannot_0 rfl ?_
  refine s_cv (C := RX10) (Tf := TX10) (N := 41) (i := 10) rfl M_R_layWays dX10_cannot_1 rfl ⟨by decide +kernel, by decide +kernel, by decide +kernel⟩ (by decide) wd_776 wd_777 wd_610 (Or.inl wd_775) ?_
  refine s_iconst (x := 0) dX10_cannot_4 (by decide +kernel) ?_
  refine s_istore_n dX10_cannot_5 rfl (by decide) ?_
  refine s_iconst (x := 0) dX10_cannot_6 (by decide +kernel) ?_
  refine s_istore_n dX10_cannot_7 rfl (by decide) ?_
  exact (S_R_cannot_l8 ak_fuel)
def R_cannot (As : List Value) (M : ak_M) : ak_R := match As with
  | [.ref a] => R_cannot_b0 [some (.ref a), none, none, none] [] M
  | _ => none
theorem M_R_cannot : ak_Mt yX10_cannot cX10_cannot 4 (some .int) 3 70 R_cannot := by
  refine ak_met (rk := 1) wd_783 (by decide +kernel) rfl (Or.inr (Or.inl ⟨rfl, rfl⟩)) (fun h => absurd h (by decide)) S_R_cannot_b0 (fun As M r h => ?_)
  unfold R_cannot at h
  split at h
  next => exact ⟨Nat.le_of_ble_eq_true rfl, 3, h⟩
  next => cases h
-- GreetedMirrorsModel.steps(I)I
def R_steps_b43 : ak_K := k_ri
theorem S_R_steps_b43 : ak_S cX10_steps RX10 3 1 3 70 (0, fun _ => 0) 43 (R_steps_b43) := by
  unfold R_steps_b43
  exact s_ri rfl dX10_steps_43
def R_steps_b0 : ak_K := (k_al 0 (k_il 1 (k_cv 10 2 R_isRoom (k_ifeq (k_ci (-1000000001) k_ri) (k_al 0 (k_cv 10 1 R_layWays (k_al 0 (k_gp 10 32 (k_ci 7 (k_al 0 (k_gp 10 0 (k_ci 0 (k_ald (k_b (fun x y => x * y) (k_il 1 (k_b (fun x y => x + y) (k_ald (k_is 2 (k_il 2 (k_ci 1000000 (k_cmlt (k_il 2 R_steps_b43) (k_ci (-1) R_steps_b43))))))))))))))))))))))
theorem S_R_steps_b0 : ak_S cX10_steps RX10 3 1 3 70 (0, fun _ => 0) 0 (R_steps_b0) := by
  unfold R_steps_b0
  refine s_aload_n dX10_steps_0 rfl ?_
  refine s_iload_n dX10_steps_1 rfl ?_
  refine s_cv (C := RX10) (Tf := TX10) (N := 41) (i := 10) rfl M_R_isRoom dX10_steps_2 rfl ⟨by decide +kernel, by decide +kernel, by decide +kernel⟩ (by decide) wd_728 wd_729 wd_610 (Or.inl wd_727) ?_
  refine s_ifne (tgt := 11) dX10_steps_5 (by decide) ?_ ?_
  · refine s_ldc (x := (-1000000001)) dX10_steps_8 wd_700 ?_
    exact s_ri rfl dX10_steps_10
  · refine s_aload_n dX10_steps_11 rfl ?_
    refine s_cv (C := RX10) (Tf := TX10) (N := 41) (i := 10) rfl M_R_layWays dX10_steps_12 rfl ⟨by decide +kernel, by decide +kernel, by decide +kernel⟩ (by decide) wd_776 wd_777 wd_610 (Or.inl wd_775) ?_
    refine s_aload_n dX10_steps_15 rfl ?_
    refine s_gp (C := RX10) (Tf := TX10) (N := 41) (i := 10) (j := 32) rfl (by decide) rfl (Or.inl wd_580) dX10_steps_16 ?_
    refine s_bipush (x := 7) dX10_steps_19 (by decide +kernel) ?_
    refine s_aload_n dX10_steps_21 rfl ?_
    refine s_gp (C := RX10) (Tf := TX10) (N := 41) (i := 10) (j := 0) rfl (by decide) rfl (Or.inl wd_578) dX10_steps_22 ?_
    refine s_iconst (x := 0) dX10_steps_25 (by decide +kernel) ?_
    refine s_ald dX10_steps_26 ?_
    refine s_imul dX10_steps_27 ?_
    refine s_iload_n dX10_steps_28 rfl ?_
    refine s_iadd dX10_steps_29 ?_
    refine s_ald dX10_steps_30 ?_
    refine s_istore_n dX10_steps_31 rfl (by decide) ?_
    refine s_iload_n dX10_steps_32 rfl ?_
    refine s_ldc (x := 1000000) dX10_steps_33 wd_761 ?_
    refine s_cmlt (tgt := 42) dX10_steps_35 (by decide) ?_ ?_
    · refine s_iload_n dX10_steps_42 rfl ?_
      exact S_R_steps_b43
    · refine s_iconst (x := (-1)) dX10_steps_38 (by decide +kernel) ?_
      refine s_goto (tgt := 43) dX10_steps_39 (by decide) ?_
      exact S_R_steps_b43
def R_steps (As : List Value) (M : ak_M) : ak_R := match As with
  | [.ref a, .int x0] => R_steps_b0 [some (.ref a), some (.int x0), none] [] M
  | _ => none
theorem M_R_steps : ak_Mt yX10_steps cX10_steps 3 (some .int) 3 70 R_steps := by
  refine ak_met (rk := 1) wd_784 (by decide +kernel) rfl (Or.inr (Or.inl ⟨rfl, rfl⟩)) (fun h => absurd h (by decide)) S_R_steps_b0 (fun As M r h => ?_)
  unfold R_steps at h
  split at h
  next => exact ⟨Nat.le_of_ble_eq_true rfl, 1, h⟩
  next => cases h
-- GreetedMirrorsModel.mostSeen(I)I
def R_mostSeen_b195 : ak_K := k_ri
theorem S_R_mostSeen_b195 : ak_S cX10_mostSeen RX10 8 1 3 68 (0, fun _ => 0) 195 (R_mostSeen_b195) := by
  unfold R_mostSeen_b195
  exact s_ri rfl dX10_mostSeen_195
def R_mostSeen_b179 (h20 : ak_K) : ak_K := (k_is 3 (k_ii 4 1 h20))
theorem S_R_mostSeen_b179 {h20 : ak_K} (H20 : ak_S cX10_mostSeen RX10 8 1 3 68 (0, fun _ => 0) 20 h20) : ak_S cX10_mostSeen RX10 8 1 3 68 (0, fun _ => 0) 179 (R_mostSeen_b179 h20) := by
  unfold R_mostSeen_b179
  refine s_istore_n dX10_mostSeen_179 rfl (by decide) ?_
  refine s_iinc (y := 1) dX10_mostSeen_180 (by decide +kernel) (by decide) ?_
  refine s_goto (tgt := 20) dX10_mostSeen_183 (by decide) ?_
  exact H20
def R_mostSeen_b167 (h20 : ak_K) : ak_K := (k_is 2 (k_il 7 (k_ifeq (k_il 3 (R_mostSeen_b179 h20)) (k_il 6 (R_mostSeen_b179 h20)))))
theorem S_R_mostSeen_b167 {h20 : ak_K} (H20 : ak_S cX10_mostSeen RX10 8 1 3 68 (0, fun _ => 0) 20 h20) : ak_S cX10_mostSeen RX10 8 1 3 68 (0, fun _ => 0) 167 (R_mostSeen_b167 h20) := by
  unfold R_mostSeen_b167
  refine s_istore_n dX10_mostSeen_167 rfl (by decide) ?_
  refine s_iload dX10_mostSeen_168 ?_
  refine s_ifeq (tgt := 178) dX10_mostSeen_170 (by decide) ?_ ?_
  · refine s_iload_n dX10_mostSeen_178 rfl ?_
    exact (S_R_mostSeen_b179 H20)
  · refine s_iload dX10_mostSeen_173 ?_
    refine s_goto (tgt := 179) dX10_mostSeen_175 (by decide) ?_
    exact (S_R_mostSeen_b179 H20)
def R_mostSeen_b154 (h20 : ak_K) : ak_K := (k_is 7 (k_il 7 (k_ifeq (k_il 2 (R_mostSeen_b167 h20)) (k_il 4 (R_mostSeen_b167 h20)))))
theorem S_R_mostSeen_b154 {h20 : ak_K} (H20 : ak_S cX10_mostSeen RX10 8 1 3 68 (0, fun _ => 0) 20 h20) : ak_S cX10_mostSeen RX10 8 1 3 68 (0, fun _ => 0) 154 (R_mostSeen_b154 h20) := by
  unfold R_mostSeen_b154
  refine s_istore dX10_mostSeen_154 (by decide) ?_
  refine s_iload dX10_mostSeen_156 ?_
  refine s_ifeq (tgt := 166) dX10_mostSeen_158 (by decide) ?_ ?_
  · refine s_iload_n dX10_mostSeen_166 rfl ?_
    exact (S_R_mostSeen_b167 H20)
  · refine s_iload dX10_mostSeen_161 ?_
    refine s_goto (tgt := 167) dX10_mostSeen_163 (by decide) ?_
    exact (S_R_mostSeen_b167 H20)
def R_mostSeen_b153 (h20 : ak_K) : ak_K := (k_ci 0 (R_mostSeen_b154 h20))
theorem S_R_mostSeen_b153 {h20 : ak_K} (H20 : ak_S cX10_mostSeen RX10 8 1 3 68 (0, fun _ => 0) 20 h20) : ak_S cX10_mostSeen RX10 8 1 3 68 (0, fun _ => 0) 153 (R_mostSeen_b153 h20) := by
  unfold R_mostSeen_b153
  refine s_iconst (x := 0) dX10_mostSeen_153 (by decide +kernel) ?_
  exact (S_R_mostSeen_b154 H20)
def R_mostSeen_b115 (h20 : ak_K) (h80 : ak_K) : ak_K := (k_b (fun x y => x + y) (k_is 6 (k_ii 7 1 h80)))
theorem S_R_mostSeen_b115 {h20 : ak_K} (H20 : ak_S cX10_mostSeen RX10 8 1 3 68 (0, fun _ => 0) 20 h20) {h80 : ak_K} (H80 : ak_S cX10_mostSeen RX10 8 1 3 68 (0, fun _ => 0) 80 h80) : ak_S cX10_mostSeen RX10 8 1 3 68 (0, fun _ => 0) 115 (R_mostSeen_b115 h20 h80) := by
  unfold R_mostSeen_b115
  refine s_iadd dX10_mostSeen_115 ?_
  refine s_istore dX10_mostSeen_116 (by decide) ?_
  refine s_iinc (y := 1) dX10_mostSeen_118 (by decide +kernel) (by decide) ?_
  refine s_goto (tgt := 80) dX10_mostSeen_121 (by decide) ?_
  exact H80
def R_mostSeen_b80 (h20 : ak_K) (h80 : ak_K) : ak_K := (k_il 7 (k_al 0 (k_gi 10 6 (k_cmge (k_il 5 (k_ifeq (R_mostSeen_b153 h20) (k_al 0 (k_gp 10 0 (k_ci 4 (k_ald (k_il 4 (k_cs 2 R_has (k_ifeq (k_il 6 (k_il 3 (k_cmle (R_mostSeen_b153 h20) (k_ci 1 (R_mostSeen_b154 h20))))) (R_mostSeen_b153 h20)))))))))) (k_il 6 (k_al 0 (k_il 4 (k_al 0 (k_gp 10 0 (k_ci 29 (k_il 7 (k_b (fun x y => x + y) (k_ald (k_cv 10 3 R_isNear (k_ifeq (k_ci 0 (R_mostSeen_b115 h20 h80)) (k_ci 1 (R_mostSeen_b115 h20 h80)))))))))))))))))
theorem S_R_mostSeen_b80 {h20 : ak_K} (H20 : ak_S cX10_mostSeen RX10 8 1 3 68 (0, fun _ => 0) 20 h20) {h80 : ak_K} (H80 : ak_S cX10_mostSeen RX10 8 1 3 68 (0, fun _ => 0) 80 h80) : ak_S cX10_mostSeen RX10 8 1 3 68 (0, fun _ => 0) 80 (R_mostSeen_b80 h20 h80) := by
  unfold R_mostSeen_b80
  refine s_iload dX10_mostSeen_80 ?_
  refine s_aload_n dX10_mostSeen_82 rfl ?_
  refine s_gi (C := RX10) (Tf := TX10) (N := 41) (i := 10) (j := 6) rfl (by decide) rfl (Or.inl wd_617) dX10_mostSeen_83 ?_
  refine s_cmge (tgt := 124) dX10_mostSeen_86 (by decide) ?_ ?_
  · refine s_iload dX10_mostSeen_124 ?_
    refine s_ifeq (tgt := 153) dX10_mostSeen_126 (by decide) ?_ ?_
    · exact (S_R_mostSeen_b153 H20)
    · refine s_aload_n dX10_mostSeen_129 rfl ?_
      refine s_gp (C := RX10) (Tf := TX10) (N := 41) (i := 10) (j := 0) rfl (by decide) rfl (Or.inl wd_578) dX10_mostSeen_130 ?_
      refine s_iconst (x := 4) dX10_mostSeen_133 (by decide +kernel) ?_
      refine s_ald dX10_mostSeen_134 ?_
      refine s_iload dX10_mostSeen_135 ?_
      refine s_cs M_R_has dX10_mostSeen_137 ⟨by decide +kernel, by decide +kernel, by decide +kernel⟩ (by decide) wd_711 wd_610 (Or.inl ⟨wd_710, rfl⟩) ?_
      refine s_ifne (tgt := 153) dX10_mostSeen_140 (by decide) ?_ ?_
      · refine s_iload dX10_mostSeen_143 ?_
        refine s_iload_n dX10_mostSeen_145 rfl ?_
        refine s_cmle (tgt := 153) dX10_mostSeen_146 (by decide) ?_ ?_
        · exact (S_R_mostSeen_b153 H20)
        · refine s_iconst (x := 1) dX10_mostSeen_149 (by decide +kernel) ?_
          refine s_goto (tgt := 154) dX10_mostSeen_150 (by decide) ?_
          exact (S_R_mostSeen_b154 H20)
      · exact (S_R_mostSeen_b153 H20)
  · refine s_iload dX10_mostSeen_89 ?_
    refine s_aload_n dX10_mostSeen_91 rfl ?_
    refine s_iload dX10_mostSeen_92 ?_
    refine s_aload_n dX10_mostSeen_94 rfl ?_
    refine s_gp (C := RX10) (Tf := TX10) (N := 41) (i := 10) (j := 0) rfl (by decide) rfl (Or.inl wd_578) dX10_mostSeen_95 ?_
    refine s_bipush (x := 29) dX10_mostSeen_98 (by decide +kernel) ?_
    refine s_iload dX10_mostSeen_100 ?_
    refine s_iadd dX10_mostSeen_102 ?_
    refine s_ald dX10_mostSeen_103 ?_
    refine s_cv (C := RX10) (Tf := TX10) (N := 41) (i := 10) rfl M_R_isNear dX10_mostSeen_104 rfl ⟨by decide +kernel, by decide +kernel, by decide +kernel⟩ (by decide) wd_718 wd_719 wd_610 (Or.inl wd_717) ?_
    refine s_ifeq (tgt := 114) dX10_mostSeen_107 (by decide) ?_ ?_
    · refine s_iconst (x := 0) dX10_mostSeen_114 (by decide +kernel) ?_
      exact (S_R_mostSeen_b115 H20 H80)
    · refine s_iconst (x := 1) dX10_mostSeen_110 (by decide +kernel) ?_
      refine s_goto (tgt := 115) dX10_mostSeen_111 (by decide) ?_
      exact (S_R_mostSeen_b115 H20 H80)
def R_mostSeen_l80 (h20 : ak_K) : Nat → ak_K
  | 0 => k_no
  | n + 1 => R_mostSeen_b80 h20 (R_mostSeen_l80 h20 n)
theorem S_R_mostSeen_l80 {h20 : ak_K} (H20 : ak_S cX10_mostSeen RX10 8 1 3 68 (0, fun _ => 0) 20 h20) : ∀ n : Nat, ak_S cX10_mostSeen RX10 8 1 3 68 (0, fun _ => 0) 80 (R_mostSeen_l80 h20 n)
  | 0 => s_no
  | n + 1 => S_R_mostSeen_b80 H20 (S_R_mostSeen_l80 H20 n)
def R_mostSeen_b66 (h20 : ak_K) (h35 : ak_K) : ak_K := (k_is 5 (k_ii 6 1 h35))
theorem S_R_mostSeen_b66 {h20 : ak_K} (H20 : ak_S cX10_mostSeen RX10 8 1 3 68 (0, fun _ => 0) 20 h20) {h35 : ak_K} (H35 : ak_S cX10_mostSeen RX10 8 1 3 68 (0, fun _ => 0) 35 h35) : ak_S cX10_mostSeen RX10 8 1 3 68 (0, fun _ => 0) 66 (R_mostSeen_b66 h20 h35) := by
  unfold R_mostSeen_b66
  refine s_istore dX10_mostSeen_66 (by decide) ?_
  refine s_iinc (y := 1) dX10_mostSeen_68 (by decide +kernel) (by decide) ?_
  refine s_goto (tgt := 35) dX10_mostSeen_71 (by decide) ?_
  exact H35
def R_mostSeen_b61 (h20 : ak_K) (h35 : ak_K) : ak_K := (k_ci 1 (R_mostSeen_b66 h20 h35))
theorem S_R_mostSeen_b61 {h20 : ak_K} (H20 : ak_S cX10_mostSeen RX10 8 1 3 68 (0, fun _ => 0) 20 h20) {h35 : ak_K} (H35 : ak_S cX10_mostSeen RX10 8 1 3 68 (0, fun _ => 0) 35 h35) : ak_S cX10_mostSeen RX10 8 1 3 68 (0, fun _ => 0) 61 (R_mostSeen_b61 h20 h35) := by
  unfold R_mostSeen_b61
  refine s_iconst (x := 1) dX10_mostSeen_61 (by decide +kernel) ?_
  refine s_goto (tgt := 66) dX10_mostSeen_62 (by decide) ?_
  exact (S_R_mostSeen_b66 H20 H35)
def R_mostSeen_b35 (h20 : ak_K) (h35 : ak_K) : ak_K := (k_il 6 (k_al 0 (k_gi 10 5 (k_cmge (k_ci 0 (k_is 6 (k_ci 0 (k_is 7 (R_mostSeen_l80 h20 ak_fuel))))) (k_il 5 (k_ifeq (k_al 0 (k_gp 10 9 (k_il 6 (k_ald (k_il 4 (k_cmeq (R_mostSeen_b61 h20 h35) (k_ci 0 (R_mostSeen_b66 h20 h35)))))))) (R_mostSeen_b61 h20 h35)))))))
theorem S_R_mostSeen_b35 {h20 : ak_K} (H20 : ak_S cX10_mostSeen RX10 8 1 3 68 (0, fun _ => 0) 20 h20) {h35 : ak_K} (H35 : ak_S cX10_mostSeen RX10 8 1 3 68 (0, fun _ => 0) 35 h35) : ak_S cX10_mostSeen RX10 8 1 3 68 (0, fun _ => 0) 35 (R_mostSeen_b35 h20 h35) := by
  unfold R_mostSeen_b35
  refine s_iload dX10_mostSeen_35 ?_
  refine s_aload_n dX10_mostSeen_37 rfl ?_
  refine s_gi (C := RX10) (Tf := TX10) (N := 41) (i := 10) (j := 5) rfl (by decide) rfl (Or.inl wd_615) dX10_mostSeen_38 ?_
  refine s_cmge (tgt := 74) dX10_mostSeen_41 (by decide) ?_ ?_
  · refine s_iconst (x := 0) dX10_mostSeen_74 (by decide +kernel) ?_
    refine s_istore dX10_mostSeen_75 (by decide) ?_
    refine s_iconst (x := 0) dX10_mostSeen_77 (by decide +kernel) ?_
    refine s_istore dX10_mostSeen_78 (by decide) ?_
    exact (S_R_mostSeen_l80 H20 ak_fuel)
  · refine s_iload dX10_mostSeen_44 ?_
    refine s_ifne (tgt := 61) dX10_mostSeen_46 (by decide) ?_ ?_
    · refine s_aload_n dX10_mostSeen_49 rfl ?_
      refine s_gp (C := RX10) (Tf := TX10) (N := 41) (i := 10) (j := 9) rfl (by decide) rfl (Or.inl wd_603) dX10_mostSeen_50 ?_
      refine s_iload dX10_mostSeen_53 ?_
      refine s_ald dX10_mostSeen_55 ?_
      refine s_iload dX10_mostSeen_56 ?_
      refine s_cmne (tgt := 65) dX10_mostSeen_58 (by decide) ?_ ?_
      · exact (S_R_mostSeen_b61 H20 H35)
      · refine s_iconst (x := 0) dX10_mostSeen_65 (by decide +kernel) ?_
        exact (S_R_mostSeen_b66 H20 H35)
    · exact (S_R_mostSeen_b61 H20 H35)
def R_mostSeen_l35 (h20 : ak_K) : Nat → ak_K
  | 0 => k_no
  | n + 1 => R_mostSeen_b35 h20 (R_mostSeen_l35 h20 n)
theorem S_R_mostSeen_l35 {h20 : ak_K} (H20 : ak_S cX10_mostSeen RX10 8 1 3 68 (0, fun _ => 0) 20 h20) : ∀ n : Nat, ak_S cX10_mostSeen RX10 8 1 3 68 (0, fun _ => 0) 35 (R_mostSeen_l35 h20 n)
  | 0 => s_no
  | n + 1 => S_R_mostSeen_b35 H20 (S_R_mostSeen_l35 H20 n)
def R_mostSeen_b20 (h20 : ak_K) : ak_K := (k_il 4 (k_al 0 (k_gi 10 3 (k_cmge (k_il 1 (k_ifeq (k_il 2 R_mostSeen_b195) (k_il 3 R_mostSeen_b195))) (k_ci 0 (k_is 5 (k_ci 0 (k_is 6 (R_mostSeen_l35 h20 ak_fuel)))))))))
theorem S_R_mostSeen_b20 {h20 : ak_K} (H20 : ak_S cX10_mostSeen RX10 8 1 3 68 (0, fun _ => 0) 20 h20) : ak_S cX10_mostSeen RX10 8 1 3 68 (0, fun _ => 0) 20 (R_mostSeen_b20 h20) := by
  unfold R_mostSeen_b20
  refine s_iload dX10_mostSeen_20 ?_
  refine s_aload_n dX10_mostSeen_22 rfl ?_
  refine s_gi (C := RX10) (Tf := TX10) (N := 41) (i := 10) (j := 3) rfl (by decide) rfl (Or.inl wd_608) dX10_mostSeen_23 ?_
  refine s_cmge (tgt := 186) dX10_mostSeen_26 (by decide) ?_ ?_
  · refine s_iload_n dX10_mostSeen_186 rfl ?_
    refine s_ifne (tgt := 194) dX10_mostSeen_187 (by decide) ?_ ?_
    · refine s_iload_n dX10_mostSeen_190 rfl ?_
      refine s_goto (tgt := 195) dX10_mostSeen_191 (by decide) ?_
      exact S_R_mostSeen_b195
    · refine s_iload_n dX10_mostSeen_194 rfl ?_
      exact S_R_mostSeen_b195
  · refine s_iconst (x := 0) dX10_mostSeen_29 (by decide +kernel) ?_
    refine s_istore dX10_mostSeen_30 (by decide) ?_
    refine s_iconst (x := 0) dX10_mostSeen_32 (by decide +kernel) ?_
    refine s_istore dX10_mostSeen_33 (by decide) ?_
    exact (S_R_mostSeen_l35 H20 ak_fuel)
def R_mostSeen_l20 : Nat → ak_K
  | 0 => k_no
  | n + 1 => R_mostSeen_b20 (R_mostSeen_l20 n)
theorem S_R_mostSeen_l20 : ∀ n : Nat, ak_S cX10_mostSeen RX10 8 1 3 68 (0, fun _ => 0) 20 (R_mostSeen_l20 n)
  | 0 => s_no
  | n + 1 => S_R_mostSeen_b20 (S_R_mostSeen_l20 n)
def R_mostSeen_b0 : ak_K := (k_il 1 (k_i2l (k_cl 0 (k_cl 1 (k_cs 3 R_in (k_ifeq (k_ci (-1000000002) k_ri) (k_ci (-1) (k_is 2 (k_ci (-1) (k_is 3 (k_ci 0 (k_is 4 (R_mostSeen_l20 ak_fuel)))))))))))))
theorem S_R_mostSeen_b0 : ak_S cX10_mostSeen RX10 8 1 3 68 (0, fun _ => 0) 0 (R_mostSeen_b0) := by
  unfold R_mostSeen_b0
  refine s_iload_n dX10_mostSeen_0 rfl ?_
  refine s_i2l dX10_mostSeen_1 ?_
  refine s_lconst (x := 0) dX10_mostSeen_2 (by decide +kernel) ?_
  refine s_lconst (x := 1) dX10_mostSeen_3 (by decide +kernel) ?_
  refine s_cs M_R_in dX10_mostSeen_4 ⟨by decide +kernel, by decide +kernel, by decide +kernel⟩ (by decide) wd_611 wd_610 (Or.inl ⟨wd_609, rfl⟩) ?_
  refine s_ifne (tgt := 13) dX10_mostSeen_7 (by decide) ?_ ?_
  · refine s_ldc (x := (-1000000002)) dX10_mostSeen_10 wd_622 ?_
    exact s_ri rfl dX10_mostSeen_12
  · refine s_iconst (x := (-1)) dX10_mostSeen_13 (by decide +kernel) ?_
    refine s_istore_n dX10_mostSeen_14 rfl (by decide) ?_
    refine s_iconst (x := (-1)) dX10_mostSeen_15 (by decide +kernel) ?_
    refine s_istore_n dX10_mostSeen_16 rfl (by decide) ?_
    refine s_iconst (x := 0) dX10_mostSeen_17 (by decide +kernel) ?_
    refine s_istore dX10_mostSeen_18 (by decide) ?_
    exact (S_R_mostSeen_l20 ak_fuel)
def R_mostSeen (As : List Value) (M : ak_M) : ak_R := match As with
  | [.ref a, .int x0] => R_mostSeen_b0 [some (.ref a), some (.int x0), none, none, none, none, none, none] [] M
  | _ => none
theorem M_R_mostSeen : ak_Mt yX10_mostSeen cX10_mostSeen 8 (some .int) 3 68 R_mostSeen := by
  refine ak_met (rk := 1) wd_785 (by decide +kernel) rfl (Or.inr (Or.inl ⟨rfl, rfl⟩)) (fun h => absurd h (by decide)) S_R_mostSeen_b0 (fun As M r h => ?_)
  unfold R_mostSeen at h
  split at h
  next => exact ⟨Nat.le_of_ble_eq_true rfl, 6, h⟩
  next => cases h
-- GreetedMirrorsModel.learn()I
def R_learn_b41 (h4 : ak_K) : ak_K := (k_b (fun x y => x ||| y) (k_is 1 (k_ii 2 1 h4)))
theorem S_R_learn_b41 {h4 : ak_K} (H4 : ak_S cX10_learn RX10 3 1 1 21 (0, fun _ => 0) 4 h4) : ak_S cX10_learn RX10 3 1 1 21 (0, fun _ => 0) 41 (R_learn_b41 h4) := by
  unfold R_learn_b41
  refine s_ior dX10_learn_41 ?_
  refine s_istore_n dX10_learn_42 rfl (by decide) ?_
  refine s_iinc (y := 1) dX10_learn_43 (by decide +kernel) (by decide) ?_
  refine s_goto (tgt := 4) dX10_learn_46 (by decide) ?_
  exact H4
def R_learn_b4 (h4 : ak_K) : ak_K := (k_il 2 (k_al 0 (k_gi 10 5 (k_cmge (k_il 1 (k_al 0 (k_gp 10 0 (k_ci 1 (k_ald (k_ci (-1) (k_b (fun x y => x ^^^ y) (k_b (fun x y => x &&& y) k_ri)))))))) (k_il 1 (k_al 0 (k_gp 10 0 (k_ci 2 (k_ald (k_il 2 (k_cs 2 R_has (k_ifeq (k_ci 1 (k_al 0 (k_gp 10 0 (k_ci 8 (k_il 2 (k_b (fun x y => x + y) (k_ald (k_b (fun x y => x <<< (y &&& 31)) (R_learn_b41 h4))))))))) (k_ci 0 (R_learn_b41 h4))))))))))))))
theorem S_R_learn_b4 {h4 : ak_K} (H4 : ak_S cX10_learn RX10 3 1 1 21 (0, fun _ => 0) 4 h4) : ak_S cX10_learn RX10 3 1 1 21 (0, fun _ => 0) 4 (R_learn_b4 h4) := by
  unfold R_learn_b4
  refine s_iload_n dX10_learn_4 rfl ?_
  refine s_aload_n dX10_learn_5 rfl ?_
  refine s_gi (C := RX10) (Tf := TX10) (N := 41) (i := 10) (j := 5) rfl (by decide) rfl (Or.inl wd_615) dX10_learn_6 ?_
  refine s_cmge (tgt := 49) dX10_learn_9 (by decide) ?_ ?_
  · refine s_iload_n dX10_learn_49 rfl ?_
    refine s_aload_n dX10_learn_50 rfl ?_
    refine s_gp (C := RX10) (Tf := TX10) (N := 41) (i := 10) (j := 0) rfl (by decide) rfl (Or.inl wd_578) dX10_learn_51 ?_
    refine s_iconst (x := 1) dX10_learn_54 (by decide +kernel) ?_
    refine s_ald dX10_learn_55 ?_
    refine s_iconst (x := (-1)) dX10_learn_56 (by decide +kernel) ?_
    refine s_ixor dX10_learn_57 ?_
    refine s_iand dX10_learn_58 ?_
    exact s_ri rfl dX10_learn_59
  · refine s_iload_n dX10_learn_12 rfl ?_
    refine s_aload_n dX10_learn_13 rfl ?_
    refine s_gp (C := RX10) (Tf := TX10) (N := 41) (i := 10) (j := 0) rfl (by decide) rfl (Or.inl wd_578) dX10_learn_14 ?_
    refine s_iconst (x := 2) dX10_learn_17 (by decide +kernel) ?_
    refine s_ald dX10_learn_18 ?_
    refine s_iload_n dX10_learn_19 rfl ?_
    refine s_cs M_R_has dX10_learn_20 ⟨by decide +kernel, by decide +kernel, by decide +kernel⟩ (by decide) wd_711 wd_610 (Or.inl ⟨wd_710, rfl⟩) ?_
    refine s_ifeq (tgt := 30) dX10_learn_23 (by decide) ?_ ?_
    · refine s_iconst (x := 1) dX10_learn_30 (by decide +kernel) ?_
      refine s_aload_n dX10_learn_31 rfl ?_
      refine s_gp (C := RX10) (Tf := TX10) (N := 41) (i := 10) (j := 0) rfl (by decide) rfl (Or.inl wd_578) dX10_learn_32 ?_
      refine s_bipush (x := 8) dX10_learn_35 (by decide +kernel) ?_
      refine s_iload_n dX10_learn_37 rfl ?_
      refine s_iadd dX10_learn_38 ?_
      refine s_ald dX10_learn_39 ?_
      refine s_ishl dX10_learn_40 ?_
      exact (S_R_learn_b41 H4)
    · refine s_iconst (x := 0) dX10_learn_26 (by decide +kernel) ?_
      refine s_goto (tgt := 41) dX10_learn_27 (by decide) ?_
      exact (S_R_learn_b41 H4)
def R_learn_l4 : Nat → ak_K
  | 0 => k_no
  | n + 1 => R_learn_b4 (R_learn_l4 n)
theorem S_R_learn_l4 : ∀ n : Nat, ak_S cX10_learn RX10 3 1 1 21 (0, fun _ => 0) 4 (R_learn_l4 n)
  | 0 => s_no
  | n + 1 => S_R_learn_b4 (S_R_learn_l4 n)
def R_learn_b0 : ak_K := (k_ci 0 (k_is 1 (k_ci 0 (k_is 2 (R_learn_l4 ak_fuel)))))
theorem S_R_learn_b0 : ak_S cX10_learn RX10 3 1 1 21 (0, fun _ => 0) 0 (R_learn_b0) := by
  unfold R_learn_b0
  refine s_iconst (x := 0) dX10_learn_0 (by decide +kernel) ?_
  refine s_istore_n dX10_learn_1 rfl (by decide) ?_
  refine s_iconst (x := 0) dX10_learn_2 (by decide +kernel) ?_
  refine s_istore_n dX10_learn_3 rfl (by decide) ?_
  exact (S_R_learn_l4 ak_fuel)
def R_learn (As : List Value) (M : ak_M) : ak_R := match As with
  | [.ref a] => R_learn_b0 [some (.ref a), none, none] [] M
  | _ => none
theorem M_R_learn : ak_Mt yX10_learn cX10_learn 3 (some .int) 1 21 R_learn := by
  refine ak_met (rk := 1) wd_786 (by decide +kernel) rfl (Or.inr (Or.inl ⟨rfl, rfl⟩)) (fun h => absurd h (by decide)) S_R_learn_b0 (fun As M r h => ?_)
  unfold R_learn at h
  split at h
  next => exact ⟨Nat.le_of_ble_eq_true rfl, 2, h⟩
  next => cases h
-- GreetedMirrorsModel.steamed(II)I
def R_steamed_b24 : ak_K := (k_ci (-1000000002) k_ri)
theorem S_R_steamed_b24 : ak_S cX10_steamed RX10 6 1 1 25 (0, fun _ => 0) 24 (R_steamed_b24) := by
  unfold R_steamed_b24
  refine s_ldc (x := (-1000000002)) dX10_steamed_24 wd_622 ?_
  exact s_ri rfl dX10_steamed_26
def R_steamed_b34 (h34 : ak_K) : ak_K := (k_il 5 (k_il 1 (k_cmge (k_ll 3 (k_l2i k_ri)) (k_ll 3 (k_ci 100 (k_il 2 (k_b (fun x y => x - y) (k_i2l (k_lb (fun x y => x * y) (k_cl 100 (k_lbd (fun x y => x / y) (k_ls 3 (k_ii 5 1 h34)))))))))))))
theorem S_R_steamed_b34 {h34 : ak_K} (H34 : ak_S cX10_steamed RX10 6 1 1 25 (0, fun _ => 0) 34 h34) : ak_S cX10_steamed RX10 6 1 1 25 (0, fun _ => 0) 34 (R_steamed_b34 h34) := by
  unfold R_steamed_b34
  refine s_iload dX10_steamed_34 ?_
  refine s_iload_n dX10_steamed_36 rfl ?_
  refine s_cmge (tgt := 58) dX10_steamed_37 (by decide) ?_ ?_
  · refine s_lload_n dX10_steamed_58 rfl ?_
    refine s_l2i dX10_steamed_59 ?_
    exact s_ri rfl dX10_steamed_60
  · refine s_lload_n dX10_steamed_40 rfl ?_
    refine s_bipush (x := 100) dX10_steamed_41 (by decide +kernel) ?_
    refine s_iload_n dX10_steamed_43 rfl ?_
    refine s_isub dX10_steamed_44 ?_
    refine s_i2l dX10_steamed_45 ?_
    refine s_lmul dX10_steamed_46 ?_
    refine s_ldc2 (x := 100) dX10_steamed_47 wd_787 ?_
    refine s_ldiv dX10_steamed_50 ?_
    refine s_lstore_n dX10_steamed_51 rfl (by decide) ?_
    refine s_iinc (y := 1) dX10_steamed_52 (by decide +kernel) (by decide) ?_
    refine s_goto (tgt := 34) dX10_steamed_55 (by decide) ?_
    exact H34
def R_steamed_l34 : Nat → ak_K
  | 0 => k_no
  | n + 1 => R_steamed_b34 (R_steamed_l34 n)
theorem S_R_steamed_l34 : ∀ n : Nat, ak_S cX10_steamed RX10 6 1 1 25 (0, fun _ => 0) 34 (R_steamed_l34 n)
  | 0 => s_no
  | n + 1 => S_R_steamed_b34 (S_R_steamed_l34 n)
def R_steamed_b0 : ak_K := (k_il 1 (k_i2l (k_cl 0 (k_cl 60 (k_cs 3 R_in (k_ifeq R_steamed_b24 (k_il 2 (k_i2l (k_cl 0 (k_cl 100 (k_cs 3 R_in (k_ifeq R_steamed_b24 (k_cl 1000000000 (k_ls 3 (k_ci 0 (k_is 5 (R_steamed_l34 ak_fuel)))))))))))))))))
theorem S_R_steamed_b0 : ak_S cX10_steamed RX10 6 1 1 25 (0, fun _ => 0) 0 (R_steamed_b0) := by
  unfold R_steamed_b0
  refine s_iload_n dX10_steamed_0 rfl ?_
  refine s_i2l dX10_steamed_1 ?_
  refine s_lconst (x := 0) dX10_steamed_2 (by decide +kernel) ?_
  refine s_ldc2 (x := 60) dX10_steamed_3 wd_788 ?_
  refine s_cs M_R_in dX10_steamed_6 ⟨by decide +kernel, by decide +kernel, by decide +kernel⟩ (by decide) wd_611 wd_610 (Or.inl ⟨wd_609, rfl⟩) ?_
  refine s_ifeq (tgt := 24) dX10_steamed_9 (by decide) ?_ ?_
  · exact S_R_steamed_b24
  · refine s_iload_n dX10_steamed_12 rfl ?_
    refine s_i2l dX10_steamed_13 ?_
    refine s_lconst (x := 0) dX10_steamed_14 (by decide +kernel) ?_
    refine s_ldc2 (x := 100) dX10_steamed_15 wd_787 ?_
    refine s_cs M_R_in dX10_steamed_18 ⟨by decide +kernel, by decide +kernel, by decide +kernel⟩ (by decide) wd_611 wd_610 (Or.inl ⟨wd_609, rfl⟩) ?_
    refine s_ifne (tgt := 27) dX10_steamed_21 (by decide) ?_ ?_
    · exact S_R_steamed_b24
    · refine s_ldc2 (x := 1000000000) dX10_steamed_27 wd_789 ?_
      refine s_lstore_n dX10_steamed_30 rfl (by decide) ?_
      refine s_iconst (x := 0) dX10_steamed_31 (by decide +kernel) ?_
      refine s_istore dX10_steamed_32 (by decide) ?_
      exact (S_R_steamed_l34 ak_fuel)
def R_steamed (As : List Value) (M : ak_M) : ak_R := match As with
  | [.ref a, .int x0, .int x1] => R_steamed_b0 [some (.ref a), some (.int x0), some (.int x1), none, none, none] [] M
  | _ => none
theorem M_R_steamed : ak_Mt yX10_steamed cX10_steamed 6 (some .int) 1 25 R_steamed := by
  refine ak_met (rk := 1) wd_790 (by decide +kernel) rfl (Or.inr (Or.inl ⟨rfl, rfl⟩)) (fun h => absurd h (by decide)) S_R_steamed_b0 (fun As M r h => ?_)
  unfold R_steamed at h
  split at h
  next => exact ⟨Nat.le_of_ble_eq_true rfl, 3, h⟩
  next => cases h
-- GreetedMirrorsModel.ask(IIZ)I
def R_ask_b15 : ak_K := (k_ci (-1000000001) k_ri)
theorem S_R_ask_b15 : ak_S cX10_ask RX10 4 1 2 46 (0, fun _ => 0) 15 (R_ask_b15) := by
  unfold R_ask_b15
  refine s_ldc (x := (-1000000001)) dX10_ask_15 wd_700 ?_
  exact s_ri rfl dX10_ask_17
def R_ask_b51 : ak_K := (k_gp 10 37 (k_al 0 (k_gi 10 34 (k_il 3 (k_zst (k_al 0 (k_dup (k_gi 10 34 (k_ci 1 (k_b (fun x y => x + y) (k_pi 10 34 (k_al 0 (k_gi 10 34 k_ri)))))))))))))
theorem S_R_ask_b51 : ak_S cX10_ask RX10 4 1 2 46 (0, fun _ => 0) 51 (R_ask_b51) := by
  unfold R_ask_b51
  refine s_gp (C := RX10) (Tf := TX10) (N := 41) (i := 10) (j := 37) rfl (by decide) rfl (Or.inl wd_585) dX10_ask_51 ?_
  refine s_aload_n dX10_ask_54 rfl ?_
  refine s_gi (C := RX10) (Tf := TX10) (N := 41) (i := 10) (j := 34) rfl (by decide) rfl (Or.inl wd_686) dX10_ask_55 ?_
  refine s_iload_n dX10_ask_58 rfl ?_
  refine s_zst dX10_ask_59 ?_
  refine s_aload_n dX10_ask_60 rfl ?_
  refine s_dup dX10_ask_61 ?_
  refine s_gi (C := RX10) (Tf := TX10) (N := 41) (i := 10) (j := 34) rfl (by decide) rfl (Or.inl wd_686) dX10_ask_62 ?_
  refine s_iconst (x := 1) dX10_ask_65 (by decide +kernel) ?_
  refine s_iadd dX10_ask_66 ?_
  refine s_pi (C := RX10) (Tf := TX10) (N := 41) (i := 10) (j := 34) rfl (by decide) rfl (Or.inl ⟨wd_686, Or.inl rfl⟩) dX10_ask_67 ?_
  refine s_aload_n dX10_ask_70 rfl ?_
  refine s_gi (C := RX10) (Tf := TX10) (N := 41) (i := 10) (j := 34) rfl (by decide) rfl (Or.inl wd_686) dX10_ask_71 ?_
  exact s_ri rfl dX10_ask_74
def R_ask_b0 : ak_K := (k_al 0 (k_il 1 (k_cv 10 2 R_isMirror (k_ifeq R_ask_b15 (k_il 2 (k_cs 1 R_isName (k_ifeq R_ask_b15 (k_al 0 (k_gi 10 34 (k_ci 8 (k_cmeq (k_ci (-1000000004) k_ri) (k_al 0 (k_gp 10 35 (k_al 0 (k_gi 10 34 (k_il 1 (k_ast (k_al 0 (k_gp 10 36 (k_al 0 (k_gi 10 34 (k_il 2 (k_ast (k_al 0 R_ask_b51))))))))))))))))))))))))
theorem S_R_ask_b0 : ak_S cX10_ask RX10 4 1 2 46 (0, fun _ => 0) 0 (R_ask_b0) := by
  unfold R_ask_b0
  refine s_aload_n dX10_ask_0 rfl ?_
  refine s_iload_n dX10_ask_1 rfl ?_
  refine s_cv (C := RX10) (Tf := TX10) (N := 41) (i := 10) rfl M_R_isMirror dX10_ask_2 rfl ⟨by decide +kernel, by decide +kernel, by decide +kernel⟩ (by decide) wd_698 wd_699 wd_610 (Or.inl wd_697) ?_
  refine s_ifeq (tgt := 15) dX10_ask_5 (by decide) ?_ ?_
  · exact S_R_ask_b15
  · refine s_iload_n dX10_ask_8 rfl ?_
    refine s_cs M_R_isName dX10_ask_9 ⟨by decide +kernel, by decide +kernel, by decide +kernel⟩ (by decide) wd_744 wd_610 (Or.inl ⟨wd_743, rfl⟩) ?_
    refine s_ifne (tgt := 18) dX10_ask_12 (by decide) ?_ ?_
    · exact S_R_ask_b15
    · refine s_aload_n dX10_ask_18 rfl ?_
      refine s_gi (C := RX10) (Tf := TX10) (N := 41) (i := 10) (j := 34) rfl (by decide) rfl (Or.inl wd_686) dX10_ask_19 ?_
      refine s_bipush (x := 8) dX10_ask_22 (by decide +kernel) ?_
      refine s_cmne (tgt := 30) dX10_ask_24 (by decide) ?_ ?_
      · refine s_ldc (x := (-1000000004)) dX10_ask_27 wd_624 ?_
        exact s_ri rfl dX10_ask_29
      · refine s_aload_n dX10_ask_30 rfl ?_
        refine s_gp (C := RX10) (Tf := TX10) (N := 41) (i := 10) (j := 35) rfl (by decide) rfl (Or.inl wd_582) dX10_ask_31 ?_
        refine s_aload_n dX10_ask_34 rfl ?_
        refine s_gi (C := RX10) (Tf := TX10) (N := 41) (i := 10) (j := 34) rfl (by decide) rfl (Or.inl wd_686) dX10_ask_35 ?_
        refine s_iload_n dX10_ask_38 rfl ?_
        refine s_ast dX10_ask_39 ?_
        refine s_aload_n dX10_ask_40 rfl ?_
        refine s_gp (C := RX10) (Tf := TX10) (N := 41) (i := 10) (j := 36) rfl (by decide) rfl (Or.inl wd_583) dX10_ask_41 ?_
        refine s_aload_n dX10_ask_44 rfl ?_
        refine s_gi (C := RX10) (Tf := TX10) (N := 41) (i := 10) (j := 34) rfl (by decide) rfl (Or.inl wd_686) dX10_ask_45 ?_
        refine s_iload_n dX10_ask_48 rfl ?_
        refine s_ast dX10_ask_49 ?_
        refine s_aload_n dX10_ask_50 rfl ?_
        exact S_R_ask_b51
def R_ask (As : List Value) (M : ak_M) : ak_R := match As with
  | [.ref a, .int x0, .int x1, .int x2] => R_ask_b0 [some (.ref a), some (.int x0), some (.int x1), some (.int x2)] [] M
  | _ => none
theorem M_R_ask : ak_Mt yX10_ask cX10_ask 4 (some .int) 2 46 R_ask := by
  refine ak_met (rk := 1) wd_791 (by decide +kernel) rfl (Or.inr (Or.inl ⟨rfl, rfl⟩)) (fun h => absurd h (by decide)) S_R_ask_b0 (fun As M r h => ?_)
  unfold R_ask at h
  split at h
  next => exact ⟨Nat.le_of_ble_eq_true rfl, 0, h⟩
  next => cases h
-- GreetedMirrorsModel.nameBy(III)I
def R_nameBy_b23 : ak_K := (k_ald k_ri)
theorem S_R_nameBy_b23 : ak_S cX10_nameBy RX10 4 1 0 0 (0, fun _ => 0) 23 (R_nameBy_b23) := by
  unfold R_nameBy_b23
  refine s_ald dX10_nameBy_23 ?_
  exact s_ri rfl dX10_nameBy_24
def R_nameBy_b0 : ak_K := (k_al 0 (k_gp 10 10 (k_il 1 (k_il 2 (k_cmeq (k_il 3 R_nameBy_b23) (k_il 1 (k_il 3 (k_cmeq (k_il 2 R_nameBy_b23) (k_il 1 R_nameBy_b23)))))))))
theorem S_R_nameBy_b0 : ak_S cX10_nameBy RX10 4 1 0 0 (0, fun _ => 0) 0 (R_nameBy_b0) := by
  unfold R_nameBy_b0
  refine s_aload_n dX10_nameBy_0 rfl ?_
  refine s_gp (C := RX10) (Tf := TX10) (N := 41) (i := 10) (j := 10) rfl (by decide) rfl (Or.inl wd_593) dX10_nameBy_1 ?_
  refine s_iload_n dX10_nameBy_4 rfl ?_
  refine s_iload_n dX10_nameBy_5 rfl ?_
  refine s_cmne (tgt := 13) dX10_nameBy_6 (by decide) ?_ ?_
  · refine s_iload_n dX10_nameBy_9 rfl ?_
    refine s_goto (tgt := 23) dX10_nameBy_10 (by decide) ?_
    exact S_R_nameBy_b23
  · refine s_iload_n dX10_nameBy_13 rfl ?_
    refine s_iload_n dX10_nameBy_14 rfl ?_
    refine s_cmne (tgt := 22) dX10_nameBy_15 (by decide) ?_ ?_
    · refine s_iload_n dX10_nameBy_18 rfl ?_
      refine s_goto (tgt := 23) dX10_nameBy_19 (by decide) ?_
      exact S_R_nameBy_b23
    · refine s_iload_n dX10_nameBy_22 rfl ?_
      exact S_R_nameBy_b23
def R_nameBy (As : List Value) (M : ak_M) : ak_R := match As with
  | [.ref a, .int x0, .int x1, .int x2] => R_nameBy_b0 [some (.ref a), some (.int x0), some (.int x1), some (.int x2)] [] M
  | _ => none
theorem M_R_nameBy : ak_Mt yX10_nameBy cX10_nameBy 4 (some .int) 0 0 R_nameBy := by
  refine ak_met (rk := 1) wd_792 (by decide +kernel) rfl (Or.inr (Or.inl ⟨rfl, rfl⟩)) (fun h => absurd h (by decide)) S_R_nameBy_b0 (fun As M r h => ?_)
  unfold R_nameBy at h
  split at h
  next => exact ⟨Nat.le_of_ble_eq_true rfl, 0, h⟩
  next => cases h
-- GreetedMirrorsModel.isSo(II)Z
def R_isSo_b61 (h5 : ak_K) : ak_K := (k_is 3 (k_ii 4 1 h5))
theorem S_R_isSo_b61 {h5 : ak_K} (H5 : ak_S cX10_isSo RX10 5 2 1 23 (0, fun _ => 0) 5 h5) : ak_S cX10_isSo RX10 5 2 1 23 (0, fun _ => 0) 61 (R_isSo_b61 h5) := by
  unfold R_isSo_b61
  refine s_istore_n dX10_isSo_61 rfl (by decide) ?_
  refine s_iinc (y := 1) dX10_isSo_62 (by decide +kernel) (by decide) ?_
  refine s_goto (tgt := 5) dX10_isSo_65 (by decide) ?_
  exact H5
def R_isSo_b60 (h5 : ak_K) : ak_K := (k_ci 0 (R_isSo_b61 h5))
theorem S_R_isSo_b60 {h5 : ak_K} (H5 : ak_S cX10_isSo RX10 5 2 1 23 (0, fun _ => 0) 5 h5) : ak_S cX10_isSo RX10 5 2 1 23 (0, fun _ => 0) 60 (R_isSo_b60 h5) := by
  unfold R_isSo_b60
  refine s_iconst (x := 0) dX10_isSo_60 (by decide +kernel) ?_
  exact (S_R_isSo_b61 H5)
def R_isSo_b46 (h5 : ak_K) : ak_K := (k_al 0 (k_gp 10 37 (k_il 4 (k_zld (k_cmeq (k_ci 1 (R_isSo_b61 h5)) (R_isSo_b60 h5))))))
theorem S_R_isSo_b46 {h5 : ak_K} (H5 : ak_S cX10_isSo RX10 5 2 1 23 (0, fun _ => 0) 5 h5) : ak_S cX10_isSo RX10 5 2 1 23 (0, fun _ => 0) 46 (R_isSo_b46 h5) := by
  unfold R_isSo_b46
  refine s_aload_n dX10_isSo_46 rfl ?_
  refine s_gp (C := RX10) (Tf := TX10) (N := 41) (i := 10) (j := 37) rfl (by decide) rfl (Or.inl wd_585) dX10_isSo_47 ?_
  refine s_iload dX10_isSo_50 ?_
  refine s_zld dX10_isSo_52 ?_
  refine s_cmne (tgt := 60) dX10_isSo_53 (by decide) ?_ ?_
  · refine s_iconst (x := 1) dX10_isSo_56 (by decide +kernel) ?_
    refine s_goto (tgt := 61) dX10_isSo_57 (by decide) ?_
    exact (S_R_isSo_b61 H5)
  · exact (S_R_isSo_b60 H5)
def R_isSo_b5 (h5 : ak_K) : ak_K := (k_il 4 (k_al 0 (k_gi 10 34 (k_cmge (k_il 3 k_rz) (k_il 3 (k_ifeq (R_isSo_b60 h5) (k_al 0 (k_al 0 (k_gp 10 35 (k_il 4 (k_ald (k_il 1 (k_il 2 (k_cv 10 4 R_nameBy (k_al 0 (k_gp 10 36 (k_il 4 (k_ald (k_cmeq (k_ci 1 (R_isSo_b46 h5)) (k_ci 0 (R_isSo_b46 h5)))))))))))))))))))))
theorem S_R_isSo_b5 {h5 : ak_K} (H5 : ak_S cX10_isSo RX10 5 2 1 23 (0, fun _ => 0) 5 h5) : ak_S cX10_isSo RX10 5 2 1 23 (0, fun _ => 0) 5 (R_isSo_b5 h5) := by
  unfold R_isSo_b5
  refine s_iload dX10_isSo_5 ?_
  refine s_aload_n dX10_isSo_7 rfl ?_
  refine s_gi (C := RX10) (Tf := TX10) (N := 41) (i := 10) (j := 34) rfl (by decide) rfl (Or.inl wd_686) dX10_isSo_8 ?_
  refine s_cmge (tgt := 68) dX10_isSo_11 (by decide) ?_ ?_
  · refine s_iload_n dX10_isSo_68 rfl ?_
    exact s_rz rfl dX10_isSo_69
  · refine s_iload_n dX10_isSo_14 rfl ?_
    refine s_ifeq (tgt := 60) dX10_isSo_15 (by decide) ?_ ?_
    · exact (S_R_isSo_b60 H5)
    · refine s_aload_n dX10_isSo_18 rfl ?_
      refine s_aload_n dX10_isSo_19 rfl ?_
      refine s_gp (C := RX10) (Tf := TX10) (N := 41) (i := 10) (j := 35) rfl (by decide) rfl (Or.inl wd_582) dX10_isSo_20 ?_
      refine s_iload dX10_isSo_23 ?_
      refine s_ald dX10_isSo_25 ?_
      refine s_iload_n dX10_isSo_26 rfl ?_
      refine s_iload_n dX10_isSo_27 rfl ?_
      refine s_cv (C := RX10) (Tf := TX10) (N := 41) (i := 10) rfl M_R_nameBy dX10_isSo_28 rfl ⟨by decide +kernel, by decide +kernel, by decide +kernel⟩ (by decide) wd_794 wd_795 wd_610 (Or.inl wd_793) ?_
      refine s_aload_n dX10_isSo_31 rfl ?_
      refine s_gp (C := RX10) (Tf := TX10) (N := 41) (i := 10) (j := 36) rfl (by decide) rfl (Or.inl wd_583) dX10_isSo_32 ?_
      refine s_iload dX10_isSo_35 ?_
      refine s_ald dX10_isSo_37 ?_
      refine s_cmne (tgt := 45) dX10_isSo_38 (by decide) ?_ ?_
      · refine s_iconst (x := 1) dX10_isSo_41 (by decide +kernel) ?_
        refine s_goto (tgt := 46) dX10_isSo_42 (by decide) ?_
        exact (S_R_isSo_b46 H5)
      · refine s_iconst (x := 0) dX10_isSo_45 (by decide +kernel) ?_
        exact (S_R_isSo_b46 H5)
def R_isSo_l5 : Nat → ak_K
  | 0 => k_no
  | n + 1 => R_isSo_b5 (R_isSo_l5 n)
theorem S_R_isSo_l5 : ∀ n : Nat, ak_S cX10_isSo RX10 5 2 1 23 (0, fun _ => 0) 5 (R_isSo_l5 n)
  | 0 => s_no
  | n + 1 => S_R_isSo_b5 (S_R_isSo_l5 n)
def R_isSo_b0 : ak_K := (k_ci 1 (k_is 3 (k_ci 0 (k_is 4 (R_isSo_l5 ak_fuel)))))
theorem S_R_isSo_b0 : ak_S cX10_isSo RX10 5 2 1 23 (0, fun _ => 0) 0 (R_isSo_b0) := by
  unfold R_isSo_b0
  refine s_iconst (x := 1) dX10_isSo_0 (by decide +kernel) ?_
  refine s_istore_n dX10_isSo_1 rfl (by decide) ?_
  refine s_iconst (x := 0) dX10_isSo_2 (by decide +kernel) ?_
  refine s_istore dX10_isSo_3 (by decide) ?_
  exact (S_R_isSo_l5 ak_fuel)
def R_isSo (As : List Value) (M : ak_M) : ak_R := match As with
  | [.ref a, .int x0, .int x1] => R_isSo_b0 [some (.ref a), some (.int x0), some (.int x1), none, none] [] M
  | _ => none
theorem M_R_isSo : ak_Mt yX10_isSo cX10_isSo 5 (some .boolean) 1 23 R_isSo := by
  refine ak_met (rk := 2) wd_796 (by decide +kernel) rfl (Or.inr (Or.inr (Or.inl ⟨rfl, rfl⟩))) (fun h => absurd h (by decide)) S_R_isSo_b0 (fun As M r h => ?_)
  unfold R_isSo at h
  split at h
  next => exact ⟨Nat.le_of_ble_eq_true rfl, 2, h⟩
  next => cases h
-- GreetedMirrorsModel.mayBe(II)Z
def R_mayBe_b41 : ak_K := k_rz
theorem S_R_mayBe_b41 : ak_S cX10_mayBe RX10 3 2 2 47 (0, fun _ => 0) 41 (R_mayBe_b41) := by
  unfold R_mayBe_b41
  exact s_rz rfl dX10_mayBe_41
def R_mayBe_b40 : ak_K := (k_ci 0 R_mayBe_b41)
theorem S_R_mayBe_b40 : ak_S cX10_mayBe RX10 3 2 2 47 (0, fun _ => 0) 40 (R_mayBe_b40) := by
  unfold R_mayBe_b40
  refine s_iconst (x := 0) dX10_mayBe_40 (by decide +kernel) ?_
  exact S_R_mayBe_b41
def R_mayBe_b27 : ak_K := (k_al 0 (k_il 1 (k_il 2 (k_cv 10 3 R_isSo (k_ifeq R_mayBe_b40 (k_ci 1 R_mayBe_b41))))))
theorem S_R_mayBe_b27 : ak_S cX10_mayBe RX10 3 2 2 47 (0, fun _ => 0) 27 (R_mayBe_b27) := by
  unfold R_mayBe_b27
  refine s_aload_n dX10_mayBe_27 rfl ?_
  refine s_iload_n dX10_mayBe_28 rfl ?_
  refine s_iload_n dX10_mayBe_29 rfl ?_
  refine s_cv (C := RX10) (Tf := TX10) (N := 41) (i := 10) rfl M_R_isSo dX10_mayBe_30 rfl ⟨by decide +kernel, by decide +kernel, by decide +kernel⟩ (by decide) wd_798 wd_799 wd_610 (Or.inl wd_797) ?_
  refine s_ifeq (tgt := 40) dX10_mayBe_33 (by decide) ?_ ?_
  · exact S_R_mayBe_b40
  · refine s_iconst (x := 1) dX10_mayBe_36 (by decide +kernel) ?_
    refine s_goto (tgt := 41) dX10_mayBe_37 (by decide) ?_
    exact S_R_mayBe_b41
def R_mayBe_b0 : ak_K := (k_il 1 (k_il 2 (k_cmeq (k_il 1 (k_ifeq R_mayBe_b27 R_mayBe_b40)) (k_al 0 (k_gp 10 10 (k_il 1 (k_ald (k_al 0 (k_gp 10 10 (k_il 2 (k_ald (k_cmeq R_mayBe_b40 R_mayBe_b27))))))))))))
theorem S_R_mayBe_b0 : ak_S cX10_mayBe RX10 3 2 2 47 (0, fun _ => 0) 0 (R_mayBe_b0) := by
  unfold R_mayBe_b0
  refine s_iload_n dX10_mayBe_0 rfl ?_
  refine s_iload_n dX10_mayBe_1 rfl ?_
  refine s_cmne (tgt := 12) dX10_mayBe_2 (by decide) ?_ ?_
  · refine s_iload_n dX10_mayBe_5 rfl ?_
    refine s_ifne (tgt := 40) dX10_mayBe_6 (by decide) ?_ ?_
    · refine s_goto (tgt := 27) dX10_mayBe_9 (by decide) ?_
      exact S_R_mayBe_b27
    · exact S_R_mayBe_b40
  · refine s_aload_n dX10_mayBe_12 rfl ?_
    refine s_gp (C := RX10) (Tf := TX10) (N := 41) (i := 10) (j := 10) rfl (by decide) rfl (Or.inl wd_593) dX10_mayBe_13 ?_
    refine s_iload_n dX10_mayBe_16 rfl ?_
    refine s_ald dX10_mayBe_17 ?_
    refine s_aload_n dX10_mayBe_18 rfl ?_
    refine s_gp (C := RX10) (Tf := TX10) (N := 41) (i := 10) (j := 10) rfl (by decide) rfl (Or.inl wd_593) dX10_mayBe_19 ?_
    refine s_iload_n dX10_mayBe_22 rfl ?_
    refine s_ald dX10_mayBe_23 ?_
    refine s_cmeq (tgt := 40) dX10_mayBe_24 (by decide) ?_ ?_
    · exact S_R_mayBe_b40
    · exact S_R_mayBe_b27
def R_mayBe (As : List Value) (M : ak_M) : ak_R := match As with
  | [.ref a, .int x0, .int x1] => R_mayBe_b0 [some (.ref a), some (.int x0), some (.int x1)] [] M
  | _ => none
theorem M_R_mayBe : ak_Mt yX10_mayBe cX10_mayBe 3 (some .boolean) 2 47 R_mayBe := by
  refine ak_met (rk := 2) wd_800 (by decide +kernel) rfl (Or.inr (Or.inr (Or.inl ⟨rfl, rfl⟩))) (fun h => absurd h (by decide)) S_R_mayBe_b0 (fun As M r h => ?_)
  unfold R_mayBe at h
  split at h
  next => exact ⟨Nat.le_of_ble_eq_true rfl, 0, h⟩
  next => cases h
-- GreetedMirrorsModel.changed(I)I
def R_changed_b95 : ak_K := k_ri
theorem S_R_changed_b95 : ak_S cX10_changed RX10 5 1 3 69 (0, fun _ => 0) 95 (R_changed_b95) := by
  unfold R_changed_b95
  exact s_ri rfl dX10_changed_95
def R_changed_b73 (h25 : ak_K) (h38 : ak_K) : ak_K := (k_ii 4 1 h38)
theorem S_R_changed_b73 {h25 : ak_K} (H25 : ak_S cX10_changed RX10 5 1 3 69 (0, fun _ => 0) 25 h25) {h38 : ak_K} (H38 : ak_S cX10_changed RX10 5 1 3 69 (0, fun _ => 0) 38 h38) : ak_S cX10_changed RX10 5 1 3 69 (0, fun _ => 0) 73 (R_changed_b73 h25 h38) := by
  unfold R_changed_b73
  refine s_iinc (y := 1) dX10_changed_73 (by decide +kernel) (by decide) ?_
  refine s_goto (tgt := 38) dX10_changed_76 (by decide) ?_
  exact H38
def R_changed_b38 (h25 : ak_K) (h38 : ak_K) : ak_K := (k_il 4 (k_al 0 (k_gi 10 5 (k_cmge (k_ii 3 1 h25) (k_al 0 (k_il 3 (k_il 4 (k_cv 10 3 R_mayBe (k_ifeq (R_changed_b73 h25 h38) (k_il 2 (k_il 1 (k_cmeq (k_ci 10 (k_il 3 (k_b (fun x y => x * y) (k_il 4 (k_b (fun x y => x + y) k_ri))))) (k_ii 2 1 (R_changed_b73 h25 h38))))))))))))))
theorem S_R_changed_b38 {h25 : ak_K} (H25 : ak_S cX10_changed RX10 5 1 3 69 (0, fun _ => 0) 25 h25) {h38 : ak_K} (H38 : ak_S cX10_changed RX10 5 1 3 69 (0, fun _ => 0) 38 h38) : ak_S cX10_changed RX10 5 1 3 69 (0, fun _ => 0) 38 (R_changed_b38 h25 h38) := by
  unfold R_changed_b38
  refine s_iload dX10_changed_38 ?_
  refine s_aload_n dX10_changed_40 rfl ?_
  refine s_gi (C := RX10) (Tf := TX10) (N := 41) (i := 10) (j := 5) rfl (by decide) rfl (Or.inl wd_615) dX10_changed_41 ?_
  refine s_cmge (tgt := 79) dX10_changed_44 (by decide) ?_ ?_
  · refine s_iinc (y := 1) dX10_changed_79 (by decide +kernel) (by decide) ?_
    refine s_goto (tgt := 25) dX10_changed_82 (by decide) ?_
    exact H25
  · refine s_aload_n dX10_changed_47 rfl ?_
    refine s_iload_n dX10_changed_48 rfl ?_
    refine s_iload dX10_changed_49 ?_
    refine s_cv (C := RX10) (Tf := TX10) (N := 41) (i := 10) rfl M_R_mayBe dX10_changed_51 rfl ⟨by decide +kernel, by decide +kernel, by decide +kernel⟩ (by decide) wd_802 wd_803 wd_610 (Or.inl wd_801) ?_
    refine s_ifeq (tgt := 73) dX10_changed_54 (by decide) ?_ ?_
    · exact (S_R_changed_b73 H25 H38)
    · refine s_iload_n dX10_changed_57 rfl ?_
      refine s_iload_n dX10_changed_58 rfl ?_
      refine s_cmne (tgt := 70) dX10_changed_59 (by decide) ?_ ?_
      · refine s_bipush (x := 10) dX10_changed_62 (by decide +kernel) ?_
        refine s_iload_n dX10_changed_64 rfl ?_
        refine s_imul dX10_changed_65 ?_
        refine s_iload dX10_changed_66 ?_
        refine s_iadd dX10_changed_68 ?_
        exact s_ri rfl dX10_changed_69
      · refine s_iinc (y := 1) dX10_changed_70 (by decide +kernel) (by decide) ?_
        exact (S_R_changed_b73 H25 H38)
def R_changed_l38 (h25 : ak_K) : Nat → ak_K
  | 0 => k_no
  | n + 1 => R_changed_b38 h25 (R_changed_l38 h25 n)
theorem S_R_changed_l38 {h25 : ak_K} (H25 : ak_S cX10_changed RX10 5 1 3 69 (0, fun _ => 0) 25 h25) : ∀ n : Nat, ak_S cX10_changed RX10 5 1 3 69 (0, fun _ => 0) 38 (R_changed_l38 h25 n)
  | 0 => s_no
  | n + 1 => S_R_changed_b38 H25 (S_R_changed_l38 H25 n)
def R_changed_b25 (h25 : ak_K) : ak_K := (k_il 3 (k_al 0 (k_gi 10 5 (k_cmge (k_il 1 (k_ci (-1) (k_cmeq (k_il 2 R_changed_b95) (k_ci (-1) R_changed_b95)))) (k_il 3 (k_ci 1 (k_b (fun x y => x + y) (k_is 4 (R_changed_l38 h25 ak_fuel)))))))))
theorem S_R_changed_b25 {h25 : ak_K} (H25 : ak_S cX10_changed RX10 5 1 3 69 (0, fun _ => 0) 25 h25) : ak_S cX10_changed RX10 5 1 3 69 (0, fun _ => 0) 25 (R_changed_b25 h25) := by
  unfold R_changed_b25
  refine s_iload_n dX10_changed_25 rfl ?_
  refine s_aload_n dX10_changed_26 rfl ?_
  refine s_gi (C := RX10) (Tf := TX10) (N := 41) (i := 10) (j := 5) rfl (by decide) rfl (Or.inl wd_615) dX10_changed_27 ?_
  refine s_cmge (tgt := 85) dX10_changed_30 (by decide) ?_ ?_
  · refine s_iload_n dX10_changed_85 rfl ?_
    refine s_iconst (x := (-1)) dX10_changed_86 (by decide +kernel) ?_
    refine s_cmne (tgt := 94) dX10_changed_87 (by decide) ?_ ?_
    · refine s_iload_n dX10_changed_90 rfl ?_
      refine s_goto (tgt := 95) dX10_changed_91 (by decide) ?_
      exact S_R_changed_b95
    · refine s_iconst (x := (-1)) dX10_changed_94 (by decide +kernel) ?_
      exact S_R_changed_b95
  · refine s_iload_n dX10_changed_33 rfl ?_
    refine s_iconst (x := 1) dX10_changed_34 (by decide +kernel) ?_
    refine s_iadd dX10_changed_35 ?_
    refine s_istore dX10_changed_36 (by decide) ?_
    exact (S_R_changed_l38 H25 ak_fuel)
def R_changed_l25 : Nat → ak_K
  | 0 => k_no
  | n + 1 => R_changed_b25 (R_changed_l25 n)
theorem S_R_changed_l25 : ∀ n : Nat, ak_S cX10_changed RX10 5 1 3 69 (0, fun _ => 0) 25 (R_changed_l25 n)
  | 0 => s_no
  | n + 1 => S_R_changed_b25 (S_R_changed_l25 n)
def R_changed_b20 : ak_K := k_ri
theorem S_R_changed_b20 : ak_S cX10_changed RX10 5 1 3 69 (0, fun _ => 0) 20 (R_changed_b20) := by
  unfold R_changed_b20
  exact s_ri rfl dX10_changed_20
def R_changed_b0 : ak_K := (k_il 1 (k_ci (-2) (k_cmeq (k_al 0 (k_ci 0 (k_ci 0 (k_cv 10 3 R_isSo (k_ifeq (k_ci 0 R_changed_b20) (k_ci 1 R_changed_b20)))))) (k_ci 0 (k_is 2 (k_ci 0 (k_is 3 (R_changed_l25 ak_fuel))))))))
theorem S_R_changed_b0 : ak_S cX10_changed RX10 5 1 3 69 (0, fun _ => 0) 0 (R_changed_b0) := by
  unfold R_changed_b0
  refine s_iload_n dX10_changed_0 rfl ?_
  refine s_bipush (x := (-2)) dX10_changed_1 (by decide +kernel) ?_
  refine s_cmne (tgt := 21) dX10_changed_3 (by decide) ?_ ?_
  · refine s_aload_n dX10_changed_6 rfl ?_
    refine s_iconst (x := 0) dX10_changed_7 (by decide +kernel) ?_
    refine s_iconst (x := 0) dX10_changed_8 (by decide +kernel) ?_
    refine s_cv (C := RX10) (Tf := TX10) (N := 41) (i := 10) rfl M_R_isSo dX10_changed_9 rfl ⟨by decide +kernel, by decide +kernel, by decide +kernel⟩ (by decide) wd_798 wd_799 wd_610 (Or.inl wd_797) ?_
    refine s_ifeq (tgt := 19) dX10_changed_12 (by decide) ?_ ?_
    · refine s_iconst (x := 0) dX10_changed_19 (by decide +kernel) ?_
      exact S_R_changed_b20
    · refine s_iconst (x := 1) dX10_changed_15 (by decide +kernel) ?_
      refine s_goto (tgt := 20) dX10_changed_16 (by decide) ?_
      exact S_R_changed_b20
  · refine s_iconst (x := 0) dX10_changed_21 (by decide +kernel) ?_
    refine s_istore_n dX10_changed_22 rfl (by decide) ?_
    refine s_iconst (x := 0) dX10_changed_23 (by decide +kernel) ?_
    refine s_istore_n dX10_changed_24 rfl (by decide) ?_
    exact (S_R_changed_l25 ak_fuel)
def R_changed (As : List Value) (M : ak_M) : ak_R := match As with
  | [.ref a, .int x0] => R_changed_b0 [some (.ref a), some (.int x0), none, none, none] [] M
  | _ => none
theorem M_R_changed : ak_Mt yX10_changed cX10_changed 5 (some .int) 3 69 R_changed := by
  refine ak_met (rk := 1) wd_804 (by decide +kernel) rfl (Or.inr (Or.inl ⟨rfl, rfl⟩)) (fun h => absurd h (by decide)) S_R_changed_b0 (fun As M r h => ?_)
  unfold R_changed at h
  split at h
  next => exact ⟨Nat.le_of_ble_eq_true rfl, 3, h⟩
  next => cases h
-- GreetedMirrorsModel.askNext()I
def R_askNext_b212 (h7 : ak_K) (h18 : ak_K) : ak_K := (k_is 2 (k_ii 4 1 h18))
theorem S_R_askNext_b212 {h7 : ak_K} (H7 : ak_S cX10_askNext RX10 11 1 3 69 (0, fun _ => 0) 7 h7) {h18 : ak_K} (H18 : ak_S cX10_askNext RX10 11 1 3 69 (0, fun _ => 0) 18 h18) : ak_S cX10_askNext RX10 11 1 3 69 (0, fun _ => 0) 212 (R_askNext_b212 h7 h18) := by
  unfold R_askNext_b212
  refine s_istore_n dX10_askNext_212 rfl (by decide) ?_
  refine s_iinc (y := 1) dX10_askNext_213 (by decide +kernel) (by decide) ?_
  refine s_goto (tgt := 18) dX10_askNext_216 (by decide) ?_
  exact H18
def R_askNext_b211 (h7 : ak_K) (h18 : ak_K) : ak_K := (k_il 2 (R_askNext_b212 h7 h18))
theorem S_R_askNext_b211 {h7 : ak_K} (H7 : ak_S cX10_askNext RX10 11 1 3 69 (0, fun _ => 0) 7 h7) {h18 : ak_K} (H18 : ak_S cX10_askNext RX10 11 1 3 69 (0, fun _ => 0) 18 h18) : ak_S cX10_askNext RX10 11 1 3 69 (0, fun _ => 0) 211 (R_askNext_b211 h7 h18) := by
  unfold R_askNext_b211
  refine s_iload_n dX10_askNext_211 rfl ?_
  exact (S_R_askNext_b212 H7 H18)
def R_askNext_b194 (h7 : ak_K) (h18 : ak_K) : ak_K := (k_is 1 (k_il 8 (k_ifeq (R_askNext_b211 h7 h18) (k_il 7 (k_il 2 (k_cmge (R_askNext_b211 h7 h18) (k_il 7 (R_askNext_b212 h7 h18))))))))
theorem S_R_askNext_b194 {h7 : ak_K} (H7 : ak_S cX10_askNext RX10 11 1 3 69 (0, fun _ => 0) 7 h7) {h18 : ak_K} (H18 : ak_S cX10_askNext RX10 11 1 3 69 (0, fun _ => 0) 18 h18) : ak_S cX10_askNext RX10 11 1 3 69 (0, fun _ => 0) 194 (R_askNext_b194 h7 h18) := by
  unfold R_askNext_b194
  refine s_istore_n dX10_askNext_194 rfl (by decide) ?_
  refine s_iload dX10_askNext_195 ?_
  refine s_ifeq (tgt := 211) dX10_askNext_197 (by decide) ?_ ?_
  · exact (S_R_askNext_b211 H7 H18)
  · refine s_iload dX10_askNext_200 ?_
    refine s_iload_n dX10_askNext_202 rfl ?_
    refine s_cmge (tgt := 211) dX10_askNext_203 (by decide) ?_ ?_
    · exact (S_R_askNext_b211 H7 H18)
    · refine s_iload dX10_askNext_206 ?_
      refine s_goto (tgt := 212) dX10_askNext_208 (by decide) ?_
      exact (S_R_askNext_b212 H7 H18)
def R_askNext_b193 (h7 : ak_K) (h18 : ak_K) : ak_K := (k_il 1 (R_askNext_b194 h7 h18))
theorem S_R_askNext_b193 {h7 : ak_K} (H7 : ak_S cX10_askNext RX10 11 1 3 69 (0, fun _ => 0) 7 h7) {h18 : ak_K} (H18 : ak_S cX10_askNext RX10 11 1 3 69 (0, fun _ => 0) 18 h18) : ak_S cX10_askNext RX10 11 1 3 69 (0, fun _ => 0) 193 (R_askNext_b193 h7 h18) := by
  unfold R_askNext_b193
  refine s_iload_n dX10_askNext_193 rfl ?_
  exact (S_R_askNext_b194 H7 H18)
def R_askNext_b170 (h7 : ak_K) (h18 : ak_K) : ak_K := (k_is 8 (k_il 8 (k_ifeq (R_askNext_b193 h7 h18) (k_il 7 (k_il 2 (k_cmge (R_askNext_b193 h7 h18) (k_ci 10 (k_il 3 (k_b (fun x y => x * y) (k_il 4 (k_b (fun x y => x + y) (R_askNext_b194 h7 h18))))))))))))
theorem S_R_askNext_b170 {h7 : ak_K} (H7 : ak_S cX10_askNext RX10 11 1 3 69 (0, fun _ => 0) 7 h7) {h18 : ak_K} (H18 : ak_S cX10_askNext RX10 11 1 3 69 (0, fun _ => 0) 18 h18) : ak_S cX10_askNext RX10 11 1 3 69 (0, fun _ => 0) 170 (R_askNext_b170 h7 h18) := by
  unfold R_askNext_b170
  refine s_istore dX10_askNext_170 (by decide) ?_
  refine s_iload dX10_askNext_172 ?_
  refine s_ifeq (tgt := 193) dX10_askNext_174 (by decide) ?_ ?_
  · exact (S_R_askNext_b193 H7 H18)
  · refine s_iload dX10_askNext_177 ?_
    refine s_iload_n dX10_askNext_179 rfl ?_
    refine s_cmge (tgt := 193) dX10_askNext_180 (by decide) ?_ ?_
    · exact (S_R_askNext_b193 H7 H18)
    · refine s_bipush (x := 10) dX10_askNext_183 (by decide +kernel) ?_
      refine s_iload_n dX10_askNext_185 rfl ?_
      refine s_imul dX10_askNext_186 ?_
      refine s_iload dX10_askNext_187 ?_
      refine s_iadd dX10_askNext_189 ?_
      refine s_goto (tgt := 194) dX10_askNext_190 (by decide) ?_
      exact (S_R_askNext_b194 H7 H18)
def R_askNext_b169 (h7 : ak_K) (h18 : ak_K) : ak_K := (k_ci 0 (R_askNext_b170 h7 h18))
theorem S_R_askNext_b169 {h7 : ak_K} (H7 : ak_S cX10_askNext RX10 11 1 3 69 (0, fun _ => 0) 7 h7) {h18 : ak_K} (H18 : ak_S cX10_askNext RX10 11 1 3 69 (0, fun _ => 0) 18 h18) : ak_S cX10_askNext RX10 11 1 3 69 (0, fun _ => 0) 169 (R_askNext_b169 h7 h18) := by
  unfold R_askNext_b169
  refine s_iconst (x := 0) dX10_askNext_169 (by decide +kernel) ?_
  exact (S_R_askNext_b170 H7 H18)
def R_askNext_b153 (h7 : ak_K) (h18 : ak_K) : ak_K := (k_is 7 (k_il 5 (k_ifle (R_askNext_b169 h7 h18) (k_il 6 (k_ifle (R_askNext_b169 h7 h18) (k_ci 1 (R_askNext_b170 h7 h18)))))))
theorem S_R_askNext_b153 {h7 : ak_K} (H7 : ak_S cX10_askNext RX10 11 1 3 69 (0, fun _ => 0) 7 h7) {h18 : ak_K} (H18 : ak_S cX10_askNext RX10 11 1 3 69 (0, fun _ => 0) 18 h18) : ak_S cX10_askNext RX10 11 1 3 69 (0, fun _ => 0) 153 (R_askNext_b153 h7 h18) := by
  unfold R_askNext_b153
  refine s_istore dX10_askNext_153 (by decide) ?_
  refine s_iload dX10_askNext_155 ?_
  refine s_ifle (tgt := 169) dX10_askNext_157 (by decide) ?_ ?_
  · exact (S_R_askNext_b169 H7 H18)
  · refine s_iload dX10_askNext_160 ?_
    refine s_ifle (tgt := 169) dX10_askNext_162 (by decide) ?_ ?_
    · exact (S_R_askNext_b169 H7 H18)
    · refine s_iconst (x := 1) dX10_askNext_165 (by decide +kernel) ?_
      refine s_goto (tgt := 170) dX10_askNext_166 (by decide) ?_
      exact (S_R_askNext_b170 H7 H18)
def R_askNext_b124 (h7 : ak_K) (h18 : ak_K) (h34 : ak_K) (h47 : ak_K) : ak_K := (k_b (fun x y => x + y) (k_is 6 (k_ii 8 1 h47)))
theorem S_R_askNext_b124 {h7 : ak_K} (H7 : ak_S cX10_askNext RX10 11 1 3 69 (0, fun _ => 0) 7 h7) {h18 : ak_K} (H18 : ak_S cX10_askNext RX10 11 1 3 69 (0, fun _ => 0) 18 h18) {h34 : ak_K} (H34 : ak_S cX10_askNext RX10 11 1 3 69 (0, fun _ => 0) 34 h34) {h47 : ak_K} (H47 : ak_S cX10_askNext RX10 11 1 3 69 (0, fun _ => 0) 47 h47) : ak_S cX10_askNext RX10 11 1 3 69 (0, fun _ => 0) 124 (R_askNext_b124 h7 h18 h34 h47) := by
  unfold R_askNext_b124
  refine s_iadd dX10_askNext_124 ?_
  refine s_istore dX10_askNext_125 (by decide) ?_
  refine s_iinc (y := 1) dX10_askNext_127 (by decide +kernel) (by decide) ?_
  refine s_goto (tgt := 47) dX10_askNext_130 (by decide) ?_
  exact H47
def R_askNext_b123 (h7 : ak_K) (h18 : ak_K) (h34 : ak_K) (h47 : ak_K) : ak_K := (k_ci 0 (R_askNext_b124 h7 h18 h34 h47))
theorem S_R_askNext_b123 {h7 : ak_K} (H7 : ak_S cX10_askNext RX10 11 1 3 69 (0, fun _ => 0) 7 h7) {h18 : ak_K} (H18 : ak_S cX10_askNext RX10 11 1 3 69 (0, fun _ => 0) 18 h18) {h34 : ak_K} (H34 : ak_S cX10_askNext RX10 11 1 3 69 (0, fun _ => 0) 34 h34) {h47 : ak_K} (H47 : ak_S cX10_askNext RX10 11 1 3 69 (0, fun _ => 0) 47 h47) : ak_S cX10_askNext RX10 11 1 3 69 (0, fun _ => 0) 123 (R_askNext_b123 h7 h18 h34 h47) := by
  unfold R_askNext_b123
  refine s_iconst (x := 0) dX10_askNext_123 (by decide +kernel) ?_
  exact (S_R_askNext_b124 H7 H18 H34 H47)
def R_askNext_b104 (h7 : ak_K) (h18 : ak_K) (h34 : ak_K) (h47 : ak_K) : ak_K := (k_b (fun x y => x + y) (k_is 5 (k_il 6 (k_il 9 (k_ifeq (R_askNext_b123 h7 h18 h34 h47) (k_il 10 (k_ifeq (k_ci 1 (R_askNext_b124 h7 h18 h34 h47)) (R_askNext_b123 h7 h18 h34 h47))))))))
theorem S_R_askNext_b104 {h7 : ak_K} (H7 : ak_S cX10_askNext RX10 11 1 3 69 (0, fun _ => 0) 7 h7) {h18 : ak_K} (H18 : ak_S cX10_askNext RX10 11 1 3 69 (0, fun _ => 0) 18 h18) {h34 : ak_K} (H34 : ak_S cX10_askNext RX10 11 1 3 69 (0, fun _ => 0) 34 h34) {h47 : ak_K} (H47 : ak_S cX10_askNext RX10 11 1 3 69 (0, fun _ => 0) 47 h47) : ak_S cX10_askNext RX10 11 1 3 69 (0, fun _ => 0) 104 (R_askNext_b104 h7 h18 h34 h47) := by
  unfold R_askNext_b104
  refine s_iadd dX10_askNext_104 ?_
  refine s_istore dX10_askNext_105 (by decide) ?_
  refine s_iload dX10_askNext_107 ?_
  refine s_iload dX10_askNext_109 ?_
  refine s_ifeq (tgt := 123) dX10_askNext_111 (by decide) ?_ ?_
  · exact (S_R_askNext_b123 H7 H18 H34 H47)
  · refine s_iload dX10_askNext_114 ?_
    refine s_ifne (tgt := 123) dX10_askNext_116 (by decide) ?_ ?_
    · refine s_iconst (x := 1) dX10_askNext_119 (by decide +kernel) ?_
      refine s_goto (tgt := 124) dX10_askNext_120 (by decide) ?_
      exact (S_R_askNext_b124 H7 H18 H34 H47)
    · exact (S_R_askNext_b123 H7 H18 H34 H47)
def R_askNext_b103 (h7 : ak_K) (h18 : ak_K) (h34 : ak_K) (h47 : ak_K) : ak_K := (k_ci 0 (R_askNext_b104 h7 h18 h34 h47))
theorem S_R_askNext_b103 {h7 : ak_K} (H7 : ak_S cX10_askNext RX10 11 1 3 69 (0, fun _ => 0) 7 h7) {h18 : ak_K} (H18 : ak_S cX10_askNext RX10 11 1 3 69 (0, fun _ => 0) 18 h18) {h34 : ak_K} (H34 : ak_S cX10_askNext RX10 11 1 3 69 (0, fun _ => 0) 34 h34) {h47 : ak_K} (H47 : ak_S cX10_askNext RX10 11 1 3 69 (0, fun _ => 0) 47 h47) : ak_S cX10_askNext RX10 11 1 3 69 (0, fun _ => 0) 103 (R_askNext_b103 h7 h18 h34 h47) := by
  unfold R_askNext_b103
  refine s_iconst (x := 0) dX10_askNext_103 (by decide +kernel) ?_
  exact (S_R_askNext_b104 H7 H18 H34 H47)
def R_askNext_b85 (h7 : ak_K) (h18 : ak_K) (h34 : ak_K) (h47 : ak_K) : ak_K := (k_is 10 (k_il 5 (k_il 9 (k_ifeq (R_askNext_b103 h7 h18 h34 h47) (k_il 10 (k_ifeq (R_askNext_b103 h7 h18 h34 h47) (k_ci 1 (R_askNext_b104 h7 h18 h34 h47))))))))
theorem S_R_askNext_b85 {h7 : ak_K} (H7 : ak_S cX10_askNext RX10 11 1 3 69 (0, fun _ => 0) 7 h7) {h18 : ak_K} (H18 : ak_S cX10_askNext RX10 11 1 3 69 (0, fun _ => 0) 18 h18) {h34 : ak_K} (H34 : ak_S cX10_askNext RX10 11 1 3 69 (0, fun _ => 0) 34 h34) {h47 : ak_K} (H47 : ak_S cX10_askNext RX10 11 1 3 69 (0, fun _ => 0) 47 h47) : ak_S cX10_askNext RX10 11 1 3 69 (0, fun _ => 0) 85 (R_askNext_b85 h7 h18 h34 h47) := by
  unfold R_askNext_b85
  refine s_istore dX10_askNext_85 (by decide) ?_
  refine s_iload dX10_askNext_87 ?_
  refine s_iload dX10_askNext_89 ?_
  refine s_ifeq (tgt := 103) dX10_askNext_91 (by decide) ?_ ?_
  · exact (S_R_askNext_b103 H7 H18 H34 H47)
  · refine s_iload dX10_askNext_94 ?_
    refine s_ifeq (tgt := 103) dX10_askNext_96 (by decide) ?_ ?_
    · exact (S_R_askNext_b103 H7 H18 H34 H47)
    · refine s_iconst (x := 1) dX10_askNext_99 (by decide +kernel) ?_
      refine s_goto (tgt := 104) dX10_askNext_100 (by decide) ?_
      exact (S_R_askNext_b104 H7 H18 H34 H47)
def R_askNext_b47 (h7 : ak_K) (h18 : ak_K) (h34 : ak_K) (h47 : ak_K) : ak_K := (k_il 8 (k_al 0 (k_gi 10 5 (k_cmge (k_ii 7 1 h34) (k_al 0 (k_il 7 (k_il 8 (k_cv 10 3 R_mayBe (k_is 9 (k_al 0 (k_il 3 (k_il 7 (k_il 8 (k_cv 10 4 R_nameBy (k_il 4 (k_cmeq (k_ci 1 (R_askNext_b85 h7 h18 h34 h47)) (k_ci 0 (R_askNext_b85 h7 h18 h34 h47))))))))))))))))))
theorem S_R_askNext_b47 {h7 : ak_K} (H7 : ak_S cX10_askNext RX10 11 1 3 69 (0, fun _ => 0) 7 h7) {h18 : ak_K} (H18 : ak_S cX10_askNext RX10 11 1 3 69 (0, fun _ => 0) 18 h18) {h34 : ak_K} (H34 : ak_S cX10_askNext RX10 11 1 3 69 (0, fun _ => 0) 34 h34) {h47 : ak_K} (H47 : ak_S cX10_askNext RX10 11 1 3 69 (0, fun _ => 0) 47 h47) : ak_S cX10_askNext RX10 11 1 3 69 (0, fun _ => 0) 47 (R_askNext_b47 h7 h18 h34 h47) := by
  unfold R_askNext_b47
  refine s_iload dX10_askNext_47 ?_
  refine s_aload_n dX10_askNext_49 rfl ?_
  refine s_gi (C := RX10) (Tf := TX10) (N := 41) (i := 10) (j := 5) rfl (by decide) rfl (Or.inl wd_615) dX10_askNext_50 ?_
  refine s_cmge (tgt := 133) dX10_askNext_53 (by decide) ?_ ?_
  · refine s_iinc (y := 1) dX10_askNext_133 (by decide +kernel) (by decide) ?_
    refine s_goto (tgt := 34) dX10_askNext_136 (by decide) ?_
    exact H34
  · refine s_aload_n dX10_askNext_56 rfl ?_
    refine s_iload dX10_askNext_57 ?_
    refine s_iload dX10_askNext_59 ?_
    refine s_cv (C := RX10) (Tf := TX10) (N := 41) (i := 10) rfl M_R_mayBe dX10_askNext_61 rfl ⟨by decide +kernel, by decide +kernel, by decide +kernel⟩ (by decide) wd_802 wd_803 wd_610 (Or.inl wd_801) ?_
    refine s_istore dX10_askNext_64 (by decide) ?_
    refine s_aload_n dX10_askNext_66 rfl ?_
    refine s_iload_n dX10_askNext_67 rfl ?_
    refine s_iload dX10_askNext_68 ?_
    refine s_iload dX10_askNext_70 ?_
    refine s_cv (C := RX10) (Tf := TX10) (N := 41) (i := 10) rfl M_R_nameBy dX10_askNext_72 rfl ⟨by decide +kernel, by decide +kernel, by decide +kernel⟩ (by decide) wd_794 wd_795 wd_610 (Or.inl wd_793) ?_
    refine s_iload dX10_askNext_75 ?_
    refine s_cmne (tgt := 84) dX10_askNext_77 (by decide) ?_ ?_
    · refine s_iconst (x := 1) dX10_askNext_80 (by decide +kernel) ?_
      refine s_goto (tgt := 85) dX10_askNext_81 (by decide) ?_
      exact (S_R_askNext_b85 H7 H18 H34 H47)
    · refine s_iconst (x := 0) dX10_askNext_84 (by decide +kernel) ?_
      exact (S_R_askNext_b85 H7 H18 H34 H47)
def R_askNext_l47 (h7 : ak_K) (h18 : ak_K) (h34 : ak_K) : Nat → ak_K
  | 0 => k_no
  | n + 1 => R_askNext_b47 h7 h18 h34 (R_askNext_l47 h7 h18 h34 n)
theorem S_R_askNext_l47 {h7 : ak_K} (H7 : ak_S cX10_askNext RX10 11 1 3 69 (0, fun _ => 0) 7 h7) {h18 : ak_K} (H18 : ak_S cX10_askNext RX10 11 1 3 69 (0, fun _ => 0) 18 h18) {h34 : ak_K} (H34 : ak_S cX10_askNext RX10 11 1 3 69 (0, fun _ => 0) 34 h34) : ∀ n : Nat, ak_S cX10_askNext RX10 11 1 3 69 (0, fun _ => 0) 47 (R_askNext_l47 h7 h18 h34 n)
  | 0 => s_no
  | n + 1 => S_R_askNext_b47 H7 H18 H34 (S_R_askNext_l47 H7 H18 H34 n)
def R_askNext_b34 (h7 : ak_K) (h18 : ak_K) (h34 : ak_K) : ak_K := (k_il 7 (k_al 0 (k_gi 10 5 (k_cmge (k_il 5 (k_il 6 (k_cmle (k_il 6 (R_askNext_b153 h7 h18)) (k_il 5 (R_askNext_b153 h7 h18))))) (k_il 7 (k_is 8 (R_askNext_l47 h7 h18 h34 ak_fuel)))))))
theorem S_R_askNext_b34 {h7 : ak_K} (H7 : ak_S cX10_askNext RX10 11 1 3 69 (0, fun _ => 0) 7 h7) {h18 : ak_K} (H18 : ak_S cX10_askNext RX10 11 1 3 69 (0, fun _ => 0) 18 h18) {h34 : ak_K} (H34 : ak_S cX10_askNext RX10 11 1 3 69 (0, fun _ => 0) 34 h34) : ak_S cX10_askNext RX10 11 1 3 69 (0, fun _ => 0) 34 (R_askNext_b34 h7 h18 h34) := by
  unfold R_askNext_b34
  refine s_iload dX10_askNext_34 ?_
  refine s_aload_n dX10_askNext_36 rfl ?_
  refine s_gi (C := RX10) (Tf := TX10) (N := 41) (i := 10) (j := 5) rfl (by decide) rfl (Or.inl wd_615) dX10_askNext_37 ?_
  refine s_cmge (tgt := 139) dX10_askNext_40 (by decide) ?_ ?_
  · refine s_iload dX10_askNext_139 ?_
    refine s_iload dX10_askNext_141 ?_
    refine s_cmle (tgt := 151) dX10_askNext_143 (by decide) ?_ ?_
    · refine s_iload dX10_askNext_151 ?_
      exact (S_R_askNext_b153 H7 H18)
    · refine s_iload dX10_askNext_146 ?_
      refine s_goto (tgt := 153) dX10_askNext_148 (by decide) ?_
      exact (S_R_askNext_b153 H7 H18)
  · refine s_iload dX10_askNext_43 ?_
    refine s_istore dX10_askNext_45 (by decide) ?_
    exact (S_R_askNext_l47 H7 H18 H34 ak_fuel)
def R_askNext_l34 (h7 : ak_K) (h18 : ak_K) : Nat → ak_K
  | 0 => k_no
  | n + 1 => R_askNext_b34 h7 h18 (R_askNext_l34 h7 h18 n)
theorem S_R_askNext_l34 {h7 : ak_K} (H7 : ak_S cX10_askNext RX10 11 1 3 69 (0, fun _ => 0) 7 h7) {h18 : ak_K} (H18 : ak_S cX10_askNext RX10 11 1 3 69 (0, fun _ => 0) 18 h18) : ∀ n : Nat, ak_S cX10_askNext RX10 11 1 3 69 (0, fun _ => 0) 34 (R_askNext_l34 h7 h18 n)
  | 0 => s_no
  | n + 1 => S_R_askNext_b34 H7 H18 (S_R_askNext_l34 H7 H18 n)
def R_askNext_b18 (h7 : ak_K) (h18 : ak_K) : ak_K := (k_il 4 (k_ci 10 (k_cmge (k_ii 3 1 h7) (k_ci 0 (k_is 5 (k_ci 0 (k_is 6 (k_ci 0 (k_is 7 (R_askNext_l34 h7 h18 ak_fuel))))))))))
theorem S_R_askNext_b18 {h7 : ak_K} (H7 : ak_S cX10_askNext RX10 11 1 3 69 (0, fun _ => 0) 7 h7) {h18 : ak_K} (H18 : ak_S cX10_askNext RX10 11 1 3 69 (0, fun _ => 0) 18 h18) : ak_S cX10_askNext RX10 11 1 3 69 (0, fun _ => 0) 18 (R_askNext_b18 h7 h18) := by
  unfold R_askNext_b18
  refine s_iload dX10_askNext_18 ?_
  refine s_bipush (x := 10) dX10_askNext_20 (by decide +kernel) ?_
  refine s_cmge (tgt := 219) dX10_askNext_22 (by decide) ?_ ?_
  · refine s_iinc (y := 1) dX10_askNext_219 (by decide +kernel) (by decide) ?_
    refine s_goto (tgt := 7) dX10_askNext_222 (by decide) ?_
    exact H7
  · refine s_iconst (x := 0) dX10_askNext_25 (by decide +kernel) ?_
    refine s_istore dX10_askNext_26 (by decide) ?_
    refine s_iconst (x := 0) dX10_askNext_28 (by decide +kernel) ?_
    refine s_istore dX10_askNext_29 (by decide) ?_
    refine s_iconst (x := 0) dX10_askNext_31 (by decide +kernel) ?_
    refine s_istore dX10_askNext_32 (by decide) ?_
    exact (S_R_askNext_l34 H7 H18 ak_fuel)
def R_askNext_l18 (h7 : ak_K) : Nat → ak_K
  | 0 => k_no
  | n + 1 => R_askNext_b18 h7 (R_askNext_l18 h7 n)
theorem S_R_askNext_l18 {h7 : ak_K} (H7 : ak_S cX10_askNext RX10 11 1 3 69 (0, fun _ => 0) 7 h7) : ∀ n : Nat, ak_S cX10_askNext RX10 11 1 3 69 (0, fun _ => 0) 18 (R_askNext_l18 h7 n)
  | 0 => s_no
  | n + 1 => S_R_askNext_b18 H7 (S_R_askNext_l18 H7 n)
def R_askNext_b7 (h7 : ak_K) : ak_K := (k_il 3 (k_al 0 (k_gi 10 5 (k_cmge (k_il 1 k_ri) (k_ci 0 (k_is 4 (R_askNext_l18 h7 ak_fuel)))))))
theorem S_R_askNext_b7 {h7 : ak_K} (H7 : ak_S cX10_askNext RX10 11 1 3 69 (0, fun _ => 0) 7 h7) : ak_S cX10_askNext RX10 11 1 3 69 (0, fun _ => 0) 7 (R_askNext_b7 h7) := by
  unfold R_askNext_b7
  refine s_iload_n dX10_askNext_7 rfl ?_
  refine s_aload_n dX10_askNext_8 rfl ?_
  refine s_gi (C := RX10) (Tf := TX10) (N := 41) (i := 10) (j := 5) rfl (by decide) rfl (Or.inl wd_615) dX10_askNext_9 ?_
  refine s_cmge (tgt := 225) dX10_askNext_12 (by decide) ?_ ?_
  · refine s_iload_n dX10_askNext_225 rfl ?_
    exact s_ri rfl dX10_askNext_226
  · refine s_iconst (x := 0) dX10_askNext_15 (by decide +kernel) ?_
    refine s_istore dX10_askNext_16 (by decide) ?_
    exact (S_R_askNext_l18 H7 ak_fuel)
def R_askNext_l7 : Nat → ak_K
  | 0 => k_no
  | n + 1 => R_askNext_b7 (R_askNext_l7 n)
theorem S_R_askNext_l7 : ∀ n : Nat, ak_S cX10_askNext RX10 11 1 3 69 (0, fun _ => 0) 7 (R_askNext_l7 n)
  | 0 => s_no
  | n + 1 => S_R_askNext_b7 (S_R_askNext_l7 n)
def R_askNext_b0 : ak_K := (k_ci (-1) (k_is 1 (k_ci 1000000 (k_is 2 (k_ci 0 (k_is 3 (R_askNext_l7 ak_fuel)))))))
theorem S_R_askNext_b0 : ak_S cX10_askNext RX10 11 1 3 69 (0, fun _ => 0) 0 (R_askNext_b0) := by
  unfold R_askNext_b0
  refine s_iconst (x := (-1)) dX10_askNext_0 (by decide +kernel) ?_
  refine s_istore_n dX10_askNext_1 rfl (by decide) ?_
  refine s_ldc (x := 1000000) dX10_askNext_2 wd_761 ?_
  refine s_istore_n dX10_askNext_4 rfl (by decide) ?_
  refine s_iconst (x := 0) dX10_askNext_5 (by decide +kernel) ?_
  refine s_istore_n dX10_askNext_6 rfl (by decide) ?_
  exact (S_R_askNext_l7 ak_fuel)
def R_askNext (As : List Value) (M : ak_M) : ak_R := match As with
  | [.ref a] => R_askNext_b0 [some (.ref a), none, none, none, none, none, none, none, none, none, none] [] M
  | _ => none
theorem M_R_askNext : ak_Mt yX10_askNext cX10_askNext 11 (some .int) 3 69 R_askNext := by
  refine ak_met (rk := 1) wd_805 (by decide +kernel) rfl (Or.inr (Or.inl ⟨rfl, rfl⟩)) (fun h => absurd h (by decide)) S_R_askNext_b0 (fun As M r h => ?_)
  unfold R_askNext at h
  split at h
  next => exact ⟨Nat.le_of_ble_eq_true rfl, 10, h⟩
  next => cases h
-- GreetedMirrorsModel.called(I)I
def R_called_b104 (h15 : ak_K) : ak_K := (k_b (fun x y => x ||| y) (k_is 2 (k_ii 3 1 h15)))
theorem S_R_called_b104 {h15 : ak_K} (H15 : ak_S cX10_called RX10 6 1 2 46 (0, fun _ => 0) 15 h15) : ak_S cX10_called RX10 6 1 2 46 (0, fun _ => 0) 104 (R_called_b104 h15) := by
  unfold R_called_b104
  refine s_ior dX10_called_104 ?_
  refine s_istore_n dX10_called_105 rfl (by decide) ?_
  refine s_iinc (y := 1) dX10_called_106 (by decide +kernel) (by decide) ?_
  refine s_goto (tgt := 15) dX10_called_109 (by decide) ?_
  exact H15
def R_called_b83 (h15 : ak_K) (h27 : ak_K) : ak_K := (k_is 4 (k_ii 5 1 h27))
theorem S_R_called_b83 {h15 : ak_K} (H15 : ak_S cX10_called RX10 6 1 2 46 (0, fun _ => 0) 15 h15) {h27 : ak_K} (H27 : ak_S cX10_called RX10 6 1 2 46 (0, fun _ => 0) 27 h27) : ak_S cX10_called RX10 6 1 2 46 (0, fun _ => 0) 83 (R_called_b83 h15 h27) := by
  unfold R_called_b83
  refine s_istore dX10_called_83 (by decide) ?_
  refine s_iinc (y := 1) dX10_called_85 (by decide +kernel) (by decide) ?_
  refine s_goto (tgt := 27) dX10_called_88 (by decide) ?_
  exact H27
def R_called_b82 (h15 : ak_K) (h27 : ak_K) : ak_K := (k_ci 0 (R_called_b83 h15 h27))
theorem S_R_called_b82 {h15 : ak_K} (H15 : ak_S cX10_called RX10 6 1 2 46 (0, fun _ => 0) 15 h15) {h27 : ak_K} (H27 : ak_S cX10_called RX10 6 1 2 46 (0, fun _ => 0) 27 h27) : ak_S cX10_called RX10 6 1 2 46 (0, fun _ => 0) 82 (R_called_b82 h15 h27) := by
  unfold R_called_b82
  refine s_iconst (x := 0) dX10_called_82 (by decide +kernel) ?_
  exact (S_R_called_b83 H15 H27)
def R_called_b78 (h15 : ak_K) (h27 : ak_K) : ak_K := (k_ci 1 (R_called_b83 h15 h27))
theorem S_R_called_b78 {h15 : ak_K} (H15 : ak_S cX10_called RX10 6 1 2 46 (0, fun _ => 0) 15 h15) {h27 : ak_K} (H27 : ak_S cX10_called RX10 6 1 2 46 (0, fun _ => 0) 27 h27) : ak_S cX10_called RX10 6 1 2 46 (0, fun _ => 0) 78 (R_called_b78 h15 h27) := by
  unfold R_called_b78
  refine s_iconst (x := 1) dX10_called_78 (by decide +kernel) ?_
  refine s_goto (tgt := 83) dX10_called_79 (by decide) ?_
  exact (S_R_called_b83 H15 H27)
def R_called_b68 (h15 : ak_K) (h27 : ak_K) : ak_K := (k_al 0 (k_gp 10 37 (k_il 5 (k_zld (k_cmeq (R_called_b78 h15 h27) (R_called_b82 h15 h27))))))
theorem S_R_called_b68 {h15 : ak_K} (H15 : ak_S cX10_called RX10 6 1 2 46 (0, fun _ => 0) 15 h15) {h27 : ak_K} (H27 : ak_S cX10_called RX10 6 1 2 46 (0, fun _ => 0) 27 h27) : ak_S cX10_called RX10 6 1 2 46 (0, fun _ => 0) 68 (R_called_b68 h15 h27) := by
  unfold R_called_b68
  refine s_aload_n dX10_called_68 rfl ?_
  refine s_gp (C := RX10) (Tf := TX10) (N := 41) (i := 10) (j := 37) rfl (by decide) rfl (Or.inl wd_585) dX10_called_69 ?_
  refine s_iload dX10_called_72 ?_
  refine s_zld dX10_called_74 ?_
  refine s_cmne (tgt := 82) dX10_called_75 (by decide) ?_ ?_
  · exact (S_R_called_b78 H15 H27)
  · exact (S_R_called_b82 H15 H27)
def R_called_b27 (h15 : ak_K) (h27 : ak_K) : ak_K := (k_il 5 (k_al 0 (k_gi 10 34 (k_cmge (k_il 2 (k_il 4 (k_ifeq (k_ci 0 (R_called_b104 h15)) (k_ci 1 (k_il 3 (k_b (fun x y => x <<< (y &&& 31)) (R_called_b104 h15))))))) (k_il 4 (k_ifeq (R_called_b82 h15 h27) (k_al 0 (k_gp 10 35 (k_il 5 (k_ald (k_il 1 (k_cmeq (k_al 0 (k_gp 10 36 (k_il 5 (k_ald (k_il 3 (k_cmeq (k_ci 1 (R_called_b68 h15 h27)) (k_ci 0 (R_called_b68 h15 h27)))))))) (R_called_b78 h15 h27)))))))))))))
theorem S_R_called_b27 {h15 : ak_K} (H15 : ak_S cX10_called RX10 6 1 2 46 (0, fun _ => 0) 15 h15) {h27 : ak_K} (H27 : ak_S cX10_called RX10 6 1 2 46 (0, fun _ => 0) 27 h27) : ak_S cX10_called RX10 6 1 2 46 (0, fun _ => 0) 27 (R_called_b27 h15 h27) := by
  unfold R_called_b27
  refine s_iload dX10_called_27 ?_
  refine s_aload_n dX10_called_29 rfl ?_
  refine s_gi (C := RX10) (Tf := TX10) (N := 41) (i := 10) (j := 34) rfl (by decide) rfl (Or.inl wd_686) dX10_called_30 ?_
  refine s_cmge (tgt := 91) dX10_called_33 (by decide) ?_ ?_
  · refine s_iload_n dX10_called_91 rfl ?_
    refine s_iload dX10_called_92 ?_
    refine s_ifeq (tgt := 103) dX10_called_94 (by decide) ?_ ?_
    · refine s_iconst (x := 0) dX10_called_103 (by decide +kernel) ?_
      exact (S_R_called_b104 H15)
    · refine s_iconst (x := 1) dX10_called_97 (by decide +kernel) ?_
      refine s_iload_n dX10_called_98 rfl ?_
      refine s_ishl dX10_called_99 ?_
      refine s_goto (tgt := 104) dX10_called_100 (by decide) ?_
      exact (S_R_called_b104 H15)
  · refine s_iload dX10_called_36 ?_
    refine s_ifeq (tgt := 82) dX10_called_38 (by decide) ?_ ?_
    · exact (S_R_called_b82 H15 H27)
    · refine s_aload_n dX10_called_41 rfl ?_
      refine s_gp (C := RX10) (Tf := TX10) (N := 41) (i := 10) (j := 35) rfl (by decide) rfl (Or.inl wd_582) dX10_called_42 ?_
      refine s_iload dX10_called_45 ?_
      refine s_ald dX10_called_47 ?_
      refine s_iload_n dX10_called_48 rfl ?_
      refine s_cmne (tgt := 78) dX10_called_49 (by decide) ?_ ?_
      · refine s_aload_n dX10_called_52 rfl ?_
        refine s_gp (C := RX10) (Tf := TX10) (N := 41) (i := 10) (j := 36) rfl (by decide) rfl (Or.inl wd_583) dX10_called_53 ?_
        refine s_iload dX10_called_56 ?_
        refine s_ald dX10_called_58 ?_
        refine s_iload_n dX10_called_59 rfl ?_
        refine s_cmne (tgt := 67) dX10_called_60 (by decide) ?_ ?_
        · refine s_iconst (x := 1) dX10_called_63 (by decide +kernel) ?_
          refine s_goto (tgt := 68) dX10_called_64 (by decide) ?_
          exact (S_R_called_b68 H15 H27)
        · refine s_iconst (x := 0) dX10_called_67 (by decide +kernel) ?_
          exact (S_R_called_b68 H15 H27)
      · exact (S_R_called_b78 H15 H27)
def R_called_l27 (h15 : ak_K) : Nat → ak_K
  | 0 => k_no
  | n + 1 => R_called_b27 h15 (R_called_l27 h15 n)
theorem S_R_called_l27 {h15 : ak_K} (H15 : ak_S cX10_called RX10 6 1 2 46 (0, fun _ => 0) 15 h15) : ∀ n : Nat, ak_S cX10_called RX10 6 1 2 46 (0, fun _ => 0) 27 (R_called_l27 h15 n)
  | 0 => s_no
  | n + 1 => S_R_called_b27 H15 (S_R_called_l27 H15 n)
def R_called_b15 (h15 : ak_K) : ak_K := (k_il 3 (k_ci 10 (k_cmge (k_il 2 k_ri) (k_ci 1 (k_is 4 (k_ci 0 (k_is 5 (R_called_l27 h15 ak_fuel))))))))
theorem S_R_called_b15 {h15 : ak_K} (H15 : ak_S cX10_called RX10 6 1 2 46 (0, fun _ => 0) 15 h15) : ak_S cX10_called RX10 6 1 2 46 (0, fun _ => 0) 15 (R_called_b15 h15) := by
  unfold R_called_b15
  refine s_iload_n dX10_called_15 rfl ?_
  refine s_bipush (x := 10) dX10_called_16 (by decide +kernel) ?_
  refine s_cmge (tgt := 112) dX10_called_18 (by decide) ?_ ?_
  · refine s_iload_n dX10_called_112 rfl ?_
    exact s_ri rfl dX10_called_113
  · refine s_iconst (x := 1) dX10_called_21 (by decide +kernel) ?_
    refine s_istore dX10_called_22 (by decide) ?_
    refine s_iconst (x := 0) dX10_called_24 (by decide +kernel) ?_
    refine s_istore dX10_called_25 (by decide) ?_
    exact (S_R_called_l27 H15 ak_fuel)
def R_called_l15 : Nat → ak_K
  | 0 => k_no
  | n + 1 => R_called_b15 (R_called_l15 n)
theorem S_R_called_l15 : ∀ n : Nat, ak_S cX10_called RX10 6 1 2 46 (0, fun _ => 0) 15 (R_called_l15 n)
  | 0 => s_no
  | n + 1 => S_R_called_b15 (S_R_called_l15 n)
def R_called_b0 : ak_K := (k_al 0 (k_il 1 (k_cv 10 2 R_isMirror (k_ifeq (k_ci (-1000000001) k_ri) (k_ci 0 (k_is 2 (k_ci 0 (k_is 3 (R_called_l15 ak_fuel)))))))))
theorem S_R_called_b0 : ak_S cX10_called RX10 6 1 2 46 (0, fun _ => 0) 0 (R_called_b0) := by
  unfold R_called_b0
  refine s_aload_n dX10_called_0 rfl ?_
  refine s_iload_n dX10_called_1 rfl ?_
  refine s_cv (C := RX10) (Tf := TX10) (N := 41) (i := 10) rfl M_R_isMirror dX10_called_2 rfl ⟨by decide +kernel, by decide +kernel, by decide +kernel⟩ (by decide) wd_698 wd_699 wd_610 (Or.inl wd_697) ?_
  refine s_ifne (tgt := 11) dX10_called_5 (by decide) ?_ ?_
  · refine s_ldc (x := (-1000000001)) dX10_called_8 wd_700 ?_
    exact s_ri rfl dX10_called_10
  · refine s_iconst (x := 0) dX10_called_11 (by decide +kernel) ?_
    refine s_istore_n dX10_called_12 rfl (by decide) ?_
    refine s_iconst (x := 0) dX10_called_13 (by decide +kernel) ?_
    refine s_istore_n dX10_called_14 rfl (by decide) ?_
    exact (S_R_called_l15 ak_fuel)
def R_called (As : List Value) (M : ak_M) : ak_R := match As with
  | [.ref a, .int x0] => R_called_b0 [some (.ref a), some (.int x0), none, none, none, none] [] M
  | _ => none
theorem M_R_called : ak_Mt yX10_called cX10_called 6 (some .int) 2 46 R_called := by
  refine ak_met (rk := 1) wd_806 (by decide +kernel) rfl (Or.inr (Or.inl ⟨rfl, rfl⟩)) (fun h => absurd h (by decide)) S_R_called_b0 (fun As M r h => ?_)
  unfold R_called at h
  split at h
  next => exact ⟨Nat.le_of_ble_eq_true rfl, 4, h⟩
  next => cases h
-- GreetedMirrorsModel.write(II)I
def R_write_b15 : ak_K := (k_ci (-1000000001) k_ri)
theorem S_R_write_b15 : ak_S cX10_write RX10 3 1 2 46 (0, fun _ => 0) 15 (R_write_b15) := by
  unfold R_write_b15
  refine s_ldc (x := (-1000000001)) dX10_write_15 wd_700 ?_
  exact s_ri rfl dX10_write_17
def R_write_b51 : ak_K := (k_dup (k_gi 10 38 (k_ci 1 (k_b (fun x y => x + y) (k_pi 10 38 (k_al 0 (k_gi 10 38 k_ri)))))))
theorem S_R_write_b51 : ak_S cX10_write RX10 3 1 2 46 (0, fun _ => 0) 51 (R_write_b51) := by
  unfold R_write_b51
  refine s_dup dX10_write_51 ?_
  refine s_gi (C := RX10) (Tf := TX10) (N := 41) (i := 10) (j := 38) rfl (by decide) rfl (Or.inl wd_687) dX10_write_52 ?_
  refine s_iconst (x := 1) dX10_write_55 (by decide +kernel) ?_
  refine s_iadd dX10_write_56 ?_
  refine s_pi (C := RX10) (Tf := TX10) (N := 41) (i := 10) (j := 38) rfl (by decide) rfl (Or.inl ⟨wd_687, Or.inl rfl⟩) dX10_write_57 ?_
  refine s_aload_n dX10_write_60 rfl ?_
  refine s_gi (C := RX10) (Tf := TX10) (N := 41) (i := 10) (j := 38) rfl (by decide) rfl (Or.inl wd_687) dX10_write_61 ?_
  exact s_ri rfl dX10_write_64
def R_write_b0 : ak_K := (k_al 0 (k_il 1 (k_cv 10 2 R_isMirror (k_ifeq R_write_b15 (k_il 2 (k_cs 1 R_isName (k_ifeq R_write_b15 (k_al 0 (k_gi 10 38 (k_ci 15 (k_cmeq (k_ci (-1000000004) k_ri) (k_al 0 (k_gp 10 39 (k_al 0 (k_gi 10 38 (k_il 1 (k_ast (k_al 0 (k_gp 10 40 (k_al 0 (k_gi 10 38 (k_il 2 (k_ast (k_al 0 R_write_b51))))))))))))))))))))))))
theorem S_R_write_b0 : ak_S cX10_write RX10 3 1 2 46 (0, fun _ => 0) 0 (R_write_b0) := by
  unfold R_write_b0
  refine s_aload_n dX10_write_0 rfl ?_
  refine s_iload_n dX10_write_1 rfl ?_
  refine s_cv (C := RX10) (Tf := TX10) (N := 41) (i := 10) rfl M_R_isMirror dX10_write_2 rfl ⟨by decide +kernel, by decide +kernel, by decide +kernel⟩ (by decide) wd_698 wd_699 wd_610 (Or.inl wd_697) ?_
  refine s_ifeq (tgt := 15) dX10_write_5 (by decide) ?_ ?_
  · exact S_R_write_b15
  · refine s_iload_n dX10_write_8 rfl ?_
    refine s_cs M_R_isName dX10_write_9 ⟨by decide +kernel, by decide +kernel, by decide +kernel⟩ (by decide) wd_744 wd_610 (Or.inl ⟨wd_743, rfl⟩) ?_
    refine s_ifne (tgt := 18) dX10_write_12 (by decide) ?_ ?_
    · exact S_R_write_b15
    · refine s_aload_n dX10_write_18 rfl ?_
      refine s_gi (C := RX10) (Tf := TX10) (N := 41) (i := 10) (j := 38) rfl (by decide) rfl (Or.inl wd_687) dX10_write_19 ?_
      refine s_bipush (x := 15) dX10_write_22 (by decide +kernel) ?_
      refine s_cmne (tgt := 30) dX10_write_24 (by decide) ?_ ?_
      · refine s_ldc (x := (-1000000004)) dX10_write_27 wd_624 ?_
        exact s_ri rfl dX10_write_29
      · refine s_aload_n dX10_write_30 rfl ?_
        refine s_gp (C := RX10) (Tf := TX10) (N := 41) (i := 10) (j := 39) rfl (by decide) rfl (Or.inl wd_586) dX10_write_31 ?_
        refine s_aload_n dX10_write_34 rfl ?_
        refine s_gi (C := RX10) (Tf := TX10) (N := 41) (i := 10) (j := 38) rfl (by decide) rfl (Or.inl wd_687) dX10_write_35 ?_
        refine s_iload_n dX10_write_38 rfl ?_
        refine s_ast dX10_write_39 ?_
        refine s_aload_n dX10_write_40 rfl ?_
        refine s_gp (C := RX10) (Tf := TX10) (N := 41) (i := 10) (j := 40) rfl (by decide) rfl (Or.inl wd_579) dX10_write_41 ?_
        refine s_aload_n dX10_write_44 rfl ?_
        refine s_gi (C := RX10) (Tf := TX10) (N := 41) (i := 10) (j := 38) rfl (by decide) rfl (Or.inl wd_687) dX10_write_45 ?_
        refine s_iload_n dX10_write_48 rfl ?_
        refine s_ast dX10_write_49 ?_
        refine s_aload_n dX10_write_50 rfl ?_
        exact S_R_write_b51
def R_write (As : List Value) (M : ak_M) : ak_R := match As with
  | [.ref a, .int x0, .int x1] => R_write_b0 [some (.ref a), some (.int x0), some (.int x1)] [] M
  | _ => none
theorem M_R_write : ak_Mt yX10_write cX10_write 3 (some .int) 2 46 R_write := by
  refine ak_met (rk := 1) wd_807 (by decide +kernel) rfl (Or.inr (Or.inl ⟨rfl, rfl⟩)) (fun h => absurd h (by decide)) S_R_write_b0 (fun As M r h => ?_)
  unfold R_write at h
  split at h
  next => exact ⟨Nat.le_of_ble_eq_true rfl, 0, h⟩
  next => cases h
-- GreetedMirrorsModel.tear()I
def R_tear_b0 : ak_K := (k_al 0 (k_gi 10 34 (k_al 0 (k_gi 10 38 (k_b (fun x y => x + y) (k_is 1 (k_al 0 (k_ci 0 (k_pi 10 34 (k_al 0 (k_ci 0 (k_pi 10 38 (k_il 1 k_ri)))))))))))))
theorem S_R_tear_b0 : ak_S cX10_tear RX10 2 1 0 0 (0, fun _ => 0) 0 (R_tear_b0) := by
  unfold R_tear_b0
  refine s_aload_n dX10_tear_0 rfl ?_
  refine s_gi (C := RX10) (Tf := TX10) (N := 41) (i := 10) (j := 34) rfl (by decide) rfl (Or.inl wd_686) dX10_tear_1 ?_
  refine s_aload_n dX10_tear_4 rfl ?_
  refine s_gi (C := RX10) (Tf := TX10) (N := 41) (i := 10) (j := 38) rfl (by decide) rfl (Or.inl wd_687) dX10_tear_5 ?_
  refine s_iadd dX10_tear_8 ?_
  refine s_istore_n dX10_tear_9 rfl (by decide) ?_
  refine s_aload_n dX10_tear_10 rfl ?_
  refine s_iconst (x := 0) dX10_tear_11 (by decide +kernel) ?_
  refine s_pi (C := RX10) (Tf := TX10) (N := 41) (i := 10) (j := 34) rfl (by decide) rfl (Or.inl ⟨wd_686, Or.inl rfl⟩) dX10_tear_12 ?_
  refine s_aload_n dX10_tear_15 rfl ?_
  refine s_iconst (x := 0) dX10_tear_16 (by decide +kernel) ?_
  refine s_pi (C := RX10) (Tf := TX10) (N := 41) (i := 10) (j := 38) rfl (by decide) rfl (Or.inl ⟨wd_687, Or.inl rfl⟩) dX10_tear_17 ?_
  refine s_iload_n dX10_tear_20 rfl ?_
  exact s_ri rfl dX10_tear_21
def R_tear (As : List Value) (M : ak_M) : ak_R := match As with
  | [.ref a] => R_tear_b0 [some (.ref a), none] [] M
  | _ => none
theorem M_R_tear : ak_Mt yX10_tear cX10_tear 2 (some .int) 0 0 R_tear := by
  refine ak_met (rk := 1) wd_808 (by decide +kernel) rfl (Or.inr (Or.inl ⟨rfl, rfl⟩)) (fun h => absurd h (by decide)) S_R_tear_b0 (fun As M r h => ?_)
  unfold R_tear at h
  split at h
  next => exact ⟨Nat.le_of_ble_eq_true rfl, 1, h⟩
  next => cases h
-- GreetedMirrorsModel.judge()I
def R_judge_b2 (h2 : ak_K) : ak_K := (k_il 1 (k_al 0 (k_gi 10 38 (k_cmge (k_ci (-1) k_ri) (k_al 0 (k_gp 10 0 (k_ci 8 (k_al 0 (k_gp 10 39 (k_il 1 (k_ald (k_b (fun x y => x + y) (k_ald (k_al 0 (k_gp 10 40 (k_il 1 (k_ald (k_cmeq (k_ii 1 1 h2) (k_il 1 k_ri)))))))))))))))))))
theorem S_R_judge_b2 {h2 : ak_K} (H2 : ak_S cX10_judge RX10 2 1 0 0 (0, fun _ => 0) 2 h2) : ak_S cX10_judge RX10 2 1 0 0 (0, fun _ => 0) 2 (R_judge_b2 h2) := by
  unfold R_judge_b2
  refine s_iload_n dX10_judge_2 rfl ?_
  refine s_aload_n dX10_judge_3 rfl ?_
  refine s_gi (C := RX10) (Tf := TX10) (N := 41) (i := 10) (j := 38) rfl (by decide) rfl (Or.inl wd_687) dX10_judge_4 ?_
  refine s_cmge (tgt := 41) dX10_judge_7 (by decide) ?_ ?_
  · refine s_iconst (x := (-1)) dX10_judge_41 (by decide +kernel) ?_
    exact s_ri rfl dX10_judge_42
  · refine s_aload_n dX10_judge_10 rfl ?_
    refine s_gp (C := RX10) (Tf := TX10) (N := 41) (i := 10) (j := 0) rfl (by decide) rfl (Or.inl wd_578) dX10_judge_11 ?_
    refine s_bipush (x := 8) dX10_judge_14 (by decide +kernel) ?_
    refine s_aload_n dX10_judge_16 rfl ?_
    refine s_gp (C := RX10) (Tf := TX10) (N := 41) (i := 10) (j := 39) rfl (by decide) rfl (Or.inl wd_586) dX10_judge_17 ?_
    refine s_iload_n dX10_judge_20 rfl ?_
    refine s_ald dX10_judge_21 ?_
    refine s_iadd dX10_judge_22 ?_
    refine s_ald dX10_judge_23 ?_
    refine s_aload_n dX10_judge_24 rfl ?_
    refine s_gp (C := RX10) (Tf := TX10) (N := 41) (i := 10) (j := 40) rfl (by decide) rfl (Or.inl wd_579) dX10_judge_25 ?_
    refine s_iload_n dX10_judge_28 rfl ?_
    refine s_ald dX10_judge_29 ?_
    refine s_cmeq (tgt := 35) dX10_judge_30 (by decide) ?_ ?_
    · refine s_iinc (y := 1) dX10_judge_35 (by decide +kernel) (by decide) ?_
      refine s_goto (tgt := 2) dX10_judge_38 (by decide) ?_
      exact H2
    · refine s_iload_n dX10_judge_33 rfl ?_
      exact s_ri rfl dX10_judge_34
def R_judge_l2 : Nat → ak_K
  | 0 => k_no
  | n + 1 => R_judge_b2 (R_judge_l2 n)
theorem S_R_judge_l2 : ∀ n : Nat, ak_S cX10_judge RX10 2 1 0 0 (0, fun _ => 0) 2 (R_judge_l2 n)
  | 0 => s_no
  | n + 1 => S_R_judge_b2 (S_R_judge_l2 n)
def R_judge_b0 : ak_K := (k_ci 0 (k_is 1 (R_judge_l2 ak_fuel)))
theorem S_R_judge_b0 : ak_S cX10_judge RX10 2 1 0 0 (0, fun _ => 0) 0 (R_judge_b0) := by
  unfold R_judge_b0
  refine s_iconst (x := 0) dX10_judge_0 (by decide +kernel) ?_
  refine s_istore_n dX10_judge_1 rfl (by decide) ?_
  exact (S_R_judge_l2 ak_fuel)
def R_judge (As : List Value) (M : ak_M) : ak_R := match As with
  | [.ref a] => R_judge_b0 [some (.ref a), none] [] M
  | _ => none
theorem M_R_judge : ak_Mt yX10_judge cX10_judge 2 (some .int) 0 0 R_judge := by
  refine ak_met (rk := 1) wd_809 (by decide +kernel) rfl (Or.inr (Or.inl ⟨rfl, rfl⟩)) (fun h => absurd h (by decide)) S_R_judge_b0 (fun As M r h => ?_)
  unfold R_judge at h
  split at h
  next => exact ⟨Nat.le_of_ble_eq_true rfl, 1, h⟩
  next => cases h
-- GreetedMirrorsModel.seed(I)I
def R_seed_b0 : ak_K := (k_il 1 (k_ifge (k_al 0 (k_gp 10 0 (k_ci 34 (k_ald (k_is 2 (k_al 0 (k_gp 10 0 (k_ci 34 (k_il 1 (k_ast (k_il 2 k_ri))))))))))) (k_ci (-1000000002) k_ri)))
theorem S_R_seed_b0 : ak_S cX10_seed RX10 3 1 0 0 (0, fun _ => 0) 0 (R_seed_b0) := by
  unfold R_seed_b0
  refine s_iload_n dX10_seed_0 rfl ?_
  refine s_ifge (tgt := 7) dX10_seed_1 (by decide) ?_ ?_
  · refine s_aload_n dX10_seed_7 rfl ?_
    refine s_gp (C := RX10) (Tf := TX10) (N := 41) (i := 10) (j := 0) rfl (by decide) rfl (Or.inl wd_578) dX10_seed_8 ?_
    refine s_bipush (x := 34) dX10_seed_11 (by decide +kernel) ?_
    refine s_ald dX10_seed_13 ?_
    refine s_istore_n dX10_seed_14 rfl (by decide) ?_
    refine s_aload_n dX10_seed_15 rfl ?_
    refine s_gp (C := RX10) (Tf := TX10) (N := 41) (i := 10) (j := 0) rfl (by decide) rfl (Or.inl wd_578) dX10_seed_16 ?_
    refine s_bipush (x := 34) dX10_seed_19 (by decide +kernel) ?_
    refine s_iload_n dX10_seed_21 rfl ?_
    refine s_ast dX10_seed_22 ?_
    refine s_iload_n dX10_seed_23 rfl ?_
    exact s_ri rfl dX10_seed_24
  · refine s_ldc (x := (-1000000002)) dX10_seed_4 wd_622 ?_
    exact s_ri rfl dX10_seed_6
def R_seed (As : List Value) (M : ak_M) : ak_R := match As with
  | [.ref a, .int x0] => R_seed_b0 [some (.ref a), some (.int x0), none] [] M
  | _ => none
theorem M_R_seed : ak_Mt yX10_seed cX10_seed 3 (some .int) 0 0 R_seed := by
  refine ak_met (rk := 1) wd_810 (by decide +kernel) rfl (Or.inr (Or.inl ⟨rfl, rfl⟩)) (fun h => absurd h (by decide)) S_R_seed_b0 (fun As M r h => ?_)
  unfold R_seed at h
  split at h
  next => exact ⟨Nat.le_of_ble_eq_true rfl, 1, h⟩
  next => cases h
-- GreetedMirrorsModel.keep(I)I
def R_keep_b0 : ak_K := (k_il 1 (k_i2l (k_cl 0 (k_cl 1 (k_cs 3 R_in (k_ifeq (k_ci (-1000000001) k_ri) (k_al 0 (k_ci 0 (k_ci 35 (k_ci 35 (k_il 1 (k_b (fun x y => x * y) (k_b (fun x y => x + y) (k_cv 10 3 R_copy (k_al 0 (k_gp 10 1 (k_il 1 (k_ci 1 (k_zst (k_al 0 (k_ci 0 (k_pi 10 2 (k_ci 1 k_ri)))))))))))))))))))))))
theorem S_R_keep_b0 : ak_S cX10_keep RX10 2 1 1 25 (0, fun _ => 0) 0 (R_keep_b0) := by
  unfold R_keep_b0
  refine s_iload_n dX10_keep_0 rfl ?_
  refine s_i2l dX10_keep_1 ?_
  refine s_lconst (x := 0) dX10_keep_2 (by decide +kernel) ?_
  refine s_lconst (x := 1) dX10_keep_3 (by decide +kernel) ?_
  refine s_cs M_R_in dX10_keep_4 ⟨by decide +kernel, by decide +kernel, by decide +kernel⟩ (by decide) wd_611 wd_610 (Or.inl ⟨wd_609, rfl⟩) ?_
  refine s_ifne (tgt := 13) dX10_keep_7 (by decide) ?_ ?_
  · refine s_ldc (x := (-1000000001)) dX10_keep_10 wd_700 ?_
    exact s_ri rfl dX10_keep_12
  · refine s_aload_n dX10_keep_13 rfl ?_
    refine s_iconst (x := 0) dX10_keep_14 (by decide +kernel) ?_
    refine s_bipush (x := 35) dX10_keep_15 (by decide +kernel) ?_
    refine s_bipush (x := 35) dX10_keep_17 (by decide +kernel) ?_
    refine s_iload_n dX10_keep_19 rfl ?_
    refine s_imul dX10_keep_20 ?_
    refine s_iadd dX10_keep_21 ?_
    refine s_cv (C := RX10) (Tf := TX10) (N := 41) (i := 10) rfl M_R_copy dX10_keep_22 rfl ⟨by decide +kernel, by decide +kernel, by decide +kernel⟩ (by decide) wd_722 wd_723 wd_610 (Or.inl wd_721) ?_
    refine s_aload_n dX10_keep_25 rfl ?_
    refine s_gp (C := RX10) (Tf := TX10) (N := 41) (i := 10) (j := 1) rfl (by decide) rfl (Or.inl wd_600) dX10_keep_26 ?_
    refine s_iload_n dX10_keep_29 rfl ?_
    refine s_iconst (x := 1) dX10_keep_30 (by decide +kernel) ?_
    refine s_zst dX10_keep_31 ?_
    refine s_aload_n dX10_keep_32 rfl ?_
    refine s_iconst (x := 0) dX10_keep_33 (by decide +kernel) ?_
    refine s_pi (C := RX10) (Tf := TX10) (N := 41) (i := 10) (j := 2) rfl (by decide) rfl (Or.inl ⟨wd_688, Or.inl rfl⟩) dX10_keep_34 ?_
    refine s_iconst (x := 1) dX10_keep_37 (by decide +kernel) ?_
    exact s_ri rfl dX10_keep_38
def R_keep (As : List Value) (M : ak_M) : ak_R := match As with
  | [.ref a, .int x0] => R_keep_b0 [some (.ref a), some (.int x0)] [] M
  | _ => none
theorem M_R_keep : ak_Mt yX10_keep cX10_keep 2 (some .int) 1 25 R_keep := by
  refine ak_met (rk := 1) wd_811 (by decide +kernel) rfl (Or.inr (Or.inl ⟨rfl, rfl⟩)) (fun h => absurd h (by decide)) S_R_keep_b0 (fun As M r h => ?_)
  unfold R_keep at h
  split at h
  next => exact ⟨Nat.le_of_ble_eq_true rfl, 0, h⟩
  next => cases h
-- GreetedMirrorsModel.goBack(I)I
def R_goBack_b0 : ak_K := (k_il 1 (k_i2l (k_cl 0 (k_cl 1 (k_cs 3 R_in (k_ifeq (k_ci (-1000000001) k_ri) (k_al 0 (k_gp 10 1 (k_il 1 (k_zld (k_ifeq (k_ci (-1000000003) k_ri) (k_al 0 (k_ci 35 (k_ci 35 (k_il 1 (k_b (fun x y => x * y) (k_b (fun x y => x + y) (k_ci 0 (k_cv 10 3 R_copy (k_al 0 (k_ci 0 (k_pi 10 2 (k_ci 1 k_ri)))))))))))))))))))))))
theorem S_R_goBack_b0 : ak_S cX10_goBack RX10 2 1 1 25 (0, fun _ => 0) 0 (R_goBack_b0) := by
  unfold R_goBack_b0
  refine s_iload_n dX10_goBack_0 rfl ?_
  refine s_i2l dX10_goBack_1 ?_
  refine s_lconst (x := 0) dX10_goBack_2 (by decide +kernel) ?_
  refine s_lconst (x := 1) dX10_goBack_3 (by decide +kernel) ?_
  refine s_cs M_R_in dX10_goBack_4 ⟨by decide +kernel, by decide +kernel, by decide +kernel⟩ (by decide) wd_611 wd_610 (Or.inl ⟨wd_609, rfl⟩) ?_
  refine s_ifne (tgt := 13) dX10_goBack_7 (by decide) ?_ ?_
  · refine s_ldc (x := (-1000000001)) dX10_goBack_10 wd_700 ?_
    exact s_ri rfl dX10_goBack_12
  · refine s_aload_n dX10_goBack_13 rfl ?_
    refine s_gp (C := RX10) (Tf := TX10) (N := 41) (i := 10) (j := 1) rfl (by decide) rfl (Or.inl wd_600) dX10_goBack_14 ?_
    refine s_iload_n dX10_goBack_17 rfl ?_
    refine s_zld dX10_goBack_18 ?_
    refine s_ifne (tgt := 25) dX10_goBack_19 (by decide) ?_ ?_
    · refine s_ldc (x := (-1000000003)) dX10_goBack_22 wd_725 ?_
      exact s_ri rfl dX10_goBack_24
    · refine s_aload_n dX10_goBack_25 rfl ?_
      refine s_bipush (x := 35) dX10_goBack_26 (by decide +kernel) ?_
      refine s_bipush (x := 35) dX10_goBack_28 (by decide +kernel) ?_
      refine s_iload_n dX10_goBack_30 rfl ?_
      refine s_imul dX10_goBack_31 ?_
      refine s_iadd dX10_goBack_32 ?_
      refine s_iconst (x := 0) dX10_goBack_33 (by decide +kernel) ?_
      refine s_cv (C := RX10) (Tf := TX10) (N := 41) (i := 10) rfl M_R_copy dX10_goBack_34 rfl ⟨by decide +kernel, by decide +kernel, by decide +kernel⟩ (by decide) wd_722 wd_723 wd_610 (Or.inl wd_721) ?_
      refine s_aload_n dX10_goBack_37 rfl ?_
      refine s_iconst (x := 0) dX10_goBack_38 (by decide +kernel) ?_
      refine s_pi (C := RX10) (Tf := TX10) (N := 41) (i := 10) (j := 2) rfl (by decide) rfl (Or.inl ⟨wd_688, Or.inl rfl⟩) dX10_goBack_39 ?_
      refine s_iconst (x := 1) dX10_goBack_42 (by decide +kernel) ?_
      exact s_ri rfl dX10_goBack_43
def R_goBack (As : List Value) (M : ak_M) : ak_R := match As with
  | [.ref a, .int x0] => R_goBack_b0 [some (.ref a), some (.int x0)] [] M
  | _ => none
theorem M_R_goBack : ak_Mt yX10_goBack cX10_goBack 2 (some .int) 1 25 R_goBack := by
  refine ak_met (rk := 1) wd_812 (by decide +kernel) rfl (Or.inr (Or.inl ⟨rfl, rfl⟩)) (fun h => absurd h (by decide)) S_R_goBack_b0 (fun As M r h => ?_)
  unfold R_goBack at h
  split at h
  next => exact ⟨Nat.le_of_ble_eq_true rfl, 0, h⟩
  next => cases h
end
