noncomputable section
/-- how often a loop may turn: 1000, a number that no evaluation opens -/
def ak_fuel : Nat := Classical.choose (⟨1000, rfl⟩ : ∃ n : Nat, n = 1000)
theorem ak_fuel_eq : ak_fuel = 1000 := Classical.choose_spec (⟨1000, rfl⟩ : ∃ n : Nat, n = 1000)
-- GreetedMirrors$Book.<init>()V
def Book_init_b0 : ak_K := (k_al 0 (k_obj (k_al 0 (k_ci 15 (k_na 1 (k_pp 0 0 (k_al 0 (k_ci 15 (k_na 1 (k_pp 0 1 k_rv))))))))))
theorem S_Book_init_b0 : ak_S cX0_init RX0 1 5 1 20 (0, fun _ => 0) 0 (Book_init_b0) := by
  unfold Book_init_b0
  refine s_aload_n dX0_init_0 rfl ?_
  refine s_obj (by decide) wd_0 wd_1 wd_2 dX0_init_1 ?_
  refine s_aload_n dX0_init_4 rfl ?_
  refine s_bipush (x := 15) dX0_init_5 (by decide +kernel) ?_
  refine s_na (Or.inl ⟨rfl, rfl⟩) wd_3 dX0_init_7 ?_
  refine s_pp (C := RX0) (Tf := TX0) (N := 3) (i := 0) (j := 0) rfl (by decide) rfl (Or.inl ⟨wd_4, Or.inr ⟨rfl, rfl, rfl⟩⟩) dX0_init_9 ?_
  refine s_aload_n dX0_init_12 rfl ?_
  refine s_bipush (x := 15) dX0_init_13 (by decide +kernel) ?_
  refine s_na (Or.inl ⟨rfl, rfl⟩) wd_3 dX0_init_15 ?_
  refine s_pp (C := RX0) (Tf := TX0) (N := 3) (i := 0) (j := 1) rfl (by decide) rfl (Or.inl ⟨wd_5, Or.inr ⟨rfl, rfl, rfl⟩⟩) dX0_init_17 ?_
  exact s_rv (Or.inr rfl) dX0_init_20
def Book_init (As : List Value) (M : ak_M) : ak_R := match As with
  | [.ref a] => Book_init_b0 [some (.ref a)] [] M
  | _ => none
theorem M_Book_init : ak_Mt yX0_init cX0_init 1 none 1 20 Book_init := by
  refine ak_met (rk := 5) wd_6 (by decide +kernel) rfl (Or.inl ⟨Or.inr rfl, rfl⟩) (fun h => rfl) S_Book_init_b0 (fun As M r h => ?_)
  unfold Book_init at h
  split at h
  next => exact ⟨Nat.le_of_ble_eq_true rfl, 0, h⟩
  next => cases h
-- GreetedMirrors.put([III)V
def G_put_b14 : ak_K := k_rv
theorem S_G_put_b14 : ak_S cX9_put RX9 3 0 0 0 (0, fun _ => 0) 14 (G_put_b14) := by
  unfold G_put_b14
  exact s_rv (Or.inl rfl) dX9_put_14
def G_put_b0 : ak_K := (k_il 1 (k_iflt G_put_b14 (k_il 1 (k_al 0 (k_len (k_cmge G_put_b14 (k_al 0 (k_il 1 (k_il 2 (k_ast G_put_b14))))))))))
theorem S_G_put_b0 : ak_S cX9_put RX9 3 0 0 0 (0, fun _ => 0) 0 (G_put_b0) := by
  unfold G_put_b0
  refine s_iload_n dX9_put_0 rfl ?_
  refine s_iflt (tgt := 14) dX9_put_1 (by decide) ?_ ?_
  · exact S_G_put_b14
  · refine s_iload_n dX9_put_4 rfl ?_
    refine s_aload_n dX9_put_5 rfl ?_
    refine s_len dX9_put_6 ?_
    refine s_cmge (tgt := 14) dX9_put_7 (by decide) ?_ ?_
    · exact S_G_put_b14
    · refine s_aload_n dX9_put_10 rfl ?_
      refine s_iload_n dX9_put_11 rfl ?_
      refine s_iload_n dX9_put_12 rfl ?_
      refine s_ast dX9_put_13 ?_
      exact S_G_put_b14
def G_put (As : List Value) (M : ak_M) : ak_R := match As with
  | [.ref x0, .int x1, .int x2] => G_put_b0 [some (.ref x0), some (.int x1), some (.int x2)] [] M
  | _ => none
theorem M_G_put : ak_Mt yX9_put cX9_put 3 none 0 0 G_put := by
  refine ak_met (rk := 0) wd_7 (by decide +kernel) rfl (Or.inl ⟨Or.inl rfl, rfl⟩) (fun h => absurd h (by decide)) S_G_put_b0 (fun As M r h => ?_)
  unfold G_put at h
  split at h
  next => exact ⟨Nat.le_of_ble_eq_true rfl, 0, h⟩
  next => cases h
-- GreetedMirrors$Book.enter(II)I
def Book_enter_b0 : ak_K := (k_al 0 (k_gp 0 0 (k_al 0 (k_gi 0 2 (k_il 1 (k_cs 3 G_put (k_al 0 (k_gp 0 1 (k_al 0 (k_gi 0 2 (k_il 2 (k_cs 3 G_put (k_al 0 (k_dup (k_gi 0 2 (k_ci 1 (k_b (fun x y => x + y) (k_pi 0 2 (k_al 0 (k_gi 0 2 k_ri))))))))))))))))))))
theorem S_Book_enter_b0 : ak_S cX0_enter RX0 3 1 1 22 (0, fun _ => 0) 0 (Book_enter_b0) := by
  unfold Book_enter_b0
  refine s_aload_n dX0_enter_0 rfl ?_
  refine s_gp (C := RX0) (Tf := TX0) (N := 3) (i := 0) (j := 0) rfl (by decide) rfl (Or.inl wd_4) dX0_enter_1 ?_
  refine s_aload_n dX0_enter_4 rfl ?_
  refine s_gi (C := RX0) (Tf := TX0) (N := 3) (i := 0) (j := 2) rfl (by decide) rfl (Or.inl wd_8) dX0_enter_5 ?_
  refine s_iload_n dX0_enter_8 rfl ?_
  refine s_cs M_G_put dX0_enter_9 ⟨by decide +kernel, by decide +kernel, by decide +kernel⟩ (by decide) wd_11 wd_10 (Or.inr ⟨_, wd_9⟩) ?_
  refine s_aload_n dX0_enter_12 rfl ?_
  refine s_gp (C := RX0) (Tf := TX0) (N := 3) (i := 0) (j := 1) rfl (by decide) rfl (Or.inl wd_5) dX0_enter_13 ?_
  refine s_aload_n dX0_enter_16 rfl ?_
  refine s_gi (C := RX0) (Tf := TX0) (N := 3) (i := 0) (j := 2) rfl (by decide) rfl (Or.inl wd_8) dX0_enter_17 ?_
  refine s_iload_n dX0_enter_20 rfl ?_
  refine s_cs M_G_put dX0_enter_21 ⟨by decide +kernel, by decide +kernel, by decide +kernel⟩ (by decide) wd_11 wd_10 (Or.inr ⟨_, wd_9⟩) ?_
  refine s_aload_n dX0_enter_24 rfl ?_
  refine s_dup dX0_enter_25 ?_
  refine s_gi (C := RX0) (Tf := TX0) (N := 3) (i := 0) (j := 2) rfl (by decide) rfl (Or.inl wd_8) dX0_enter_26 ?_
  refine s_iconst (x := 1) dX0_enter_29 (by decide +kernel) ?_
  refine s_iadd dX0_enter_30 ?_
  refine s_pi (C := RX0) (Tf := TX0) (N := 3) (i := 0) (j := 2) rfl (by decide) rfl (Or.inl ⟨wd_8, Or.inl rfl⟩) dX0_enter_31 ?_
  refine s_aload_n dX0_enter_34 rfl ?_
  refine s_gi (C := RX0) (Tf := TX0) (N := 3) (i := 0) (j := 2) rfl (by decide) rfl (Or.inl wd_8) dX0_enter_35 ?_
  exact s_ri rfl dX0_enter_38
def Book_enter (As : List Value) (M : ak_M) : ak_R := match As with
  | [.ref a, .int x0, .int x1] => Book_enter_b0 [some (.ref a), some (.int x0), some (.int x1)] [] M
  | _ => none
theorem M_Book_enter : ak_Mt yX0_enter cX0_enter 3 (some .int) 1 22 Book_enter := by
  refine ak_met (rk := 1) wd_12 (by decide +kernel) rfl (Or.inr (Or.inl ⟨rfl, rfl⟩)) (fun h => absurd h (by decide)) S_Book_enter_b0 (fun As M r h => ?_)
  unfold Book_enter at h
  split at h
  next => exact ⟨Nat.le_of_ble_eq_true rfl, 0, h⟩
  next => cases h
-- GreetedMirrors.at([II)I
def G_at_b17 : ak_K := k_ri
theorem S_G_at_b17 : ak_S cX9_at RX9 2 1 0 0 (0, fun _ => 0) 17 (G_at_b17) := by
  unfold G_at_b17
  exact s_ri rfl dX9_at_17
def G_at_b16 : ak_K := (k_ci 0 G_at_b17)
theorem S_G_at_b16 : ak_S cX9_at RX9 2 1 0 0 (0, fun _ => 0) 16 (G_at_b16) := by
  unfold G_at_b16
  refine s_iconst (x := 0) dX9_at_16 (by decide +kernel) ?_
  exact S_G_at_b17
def G_at_b0 : ak_K := (k_il 1 (k_iflt G_at_b16 (k_il 1 (k_al 0 (k_len (k_cmge G_at_b16 (k_al 0 (k_il 1 (k_ald G_at_b17)))))))))
theorem S_G_at_b0 : ak_S cX9_at RX9 2 1 0 0 (0, fun _ => 0) 0 (G_at_b0) := by
  unfold G_at_b0
  refine s_iload_n dX9_at_0 rfl ?_
  refine s_iflt (tgt := 16) dX9_at_1 (by decide) ?_ ?_
  · exact S_G_at_b16
  · refine s_iload_n dX9_at_4 rfl ?_
    refine s_aload_n dX9_at_5 rfl ?_
    refine s_len dX9_at_6 ?_
    refine s_cmge (tgt := 16) dX9_at_7 (by decide) ?_ ?_
    · exact S_G_at_b16
    · refine s_aload_n dX9_at_10 rfl ?_
      refine s_iload_n dX9_at_11 rfl ?_
      refine s_ald dX9_at_12 ?_
      refine s_goto (tgt := 17) dX9_at_13 (by decide) ?_
      exact S_G_at_b17
def G_at (As : List Value) (M : ak_M) : ak_R := match As with
  | [.ref x0, .int x1] => G_at_b0 [some (.ref x0), some (.int x1)] [] M
  | _ => none
theorem M_G_at : ak_Mt yX9_at cX9_at 2 (some .int) 0 0 G_at := by
  refine ak_met (rk := 1) wd_13 (by decide +kernel) rfl (Or.inr (Or.inl ⟨rfl, rfl⟩)) (fun h => absurd h (by decide)) S_G_at_b0 (fun As M r h => ?_)
  unfold G_at at h
  split at h
  next => exact ⟨Nat.le_of_ble_eq_true rfl, 0, h⟩
  next => cases h
-- GreetedMirrors$Book.firstWrong(LGreetedMirrors$State;)I
def Book_firstWrong_b2 (h2 : ak_K) : ak_K := (k_il 2 (k_al 0 (k_gi 0 2 (k_cmge (k_ci (-1) k_ri) (k_al 1 (k_gp 8 8 (k_al 0 (k_gp 0 0 (k_il 2 (k_cs 2 G_at (k_cs 2 G_at (k_al 0 (k_gp 0 1 (k_il 2 (k_cs 2 G_at (k_cmeq (k_ii 2 1 h2) (k_il 2 k_ri)))))))))))))))))
theorem S_Book_firstWrong_b2 {h2 : ak_K} (H2 : ak_S cX0_firstWrong RX0 3 1 1 21 (0, fun _ => 0) 2 h2) : ak_S cX0_firstWrong RX0 3 1 1 21 (0, fun _ => 0) 2 (Book_firstWrong_b2 h2) := by
  unfold Book_firstWrong_b2
  refine s_iload_n dX0_firstWrong_2 rfl ?_
  refine s_aload_n dX0_firstWrong_3 rfl ?_
  refine s_gi (C := RX0) (Tf := TX0) (N := 3) (i := 0) (j := 2) rfl (by decide) rfl (Or.inl wd_8) dX0_firstWrong_4 ?_
  refine s_cmge (tgt := 44) dX0_firstWrong_7 (by decide) ?_ ?_
  · refine s_iconst (x := (-1)) dX0_firstWrong_44 (by decide +kernel) ?_
    exact s_ri rfl dX0_firstWrong_45
  · refine s_aload_n dX0_firstWrong_10 rfl ?_
    refine s_gp (C := RX8) (Tf := TX8) (N := 12) (i := 8) (j := 8) rfl (by decide) rfl (Or.inr ⟨_, wd_14⟩) dX0_firstWrong_11 ?_
    refine s_aload_n dX0_firstWrong_14 rfl ?_
    refine s_gp (C := RX0) (Tf := TX0) (N := 3) (i := 0) (j := 0) rfl (by decide) rfl (Or.inl wd_4) dX0_firstWrong_15 ?_
    refine s_iload_n dX0_firstWrong_18 rfl ?_
    refine s_cs M_G_at dX0_firstWrong_19 ⟨by decide +kernel, by decide +kernel, by decide +kernel⟩ (by decide) wd_16 wd_10 (Or.inr ⟨_, wd_15⟩) ?_
    refine s_cs M_G_at dX0_firstWrong_22 ⟨by decide +kernel, by decide +kernel, by decide +kernel⟩ (by decide) wd_16 wd_10 (Or.inr ⟨_, wd_15⟩) ?_
    refine s_aload_n dX0_firstWrong_25 rfl ?_
    refine s_gp (C := RX0) (Tf := TX0) (N := 3) (i := 0) (j := 1) rfl (by decide) rfl (Or.inl wd_5) dX0_firstWrong_26 ?_
    refine s_iload_n dX0_firstWrong_29 rfl ?_
    refine s_cs M_G_at dX0_firstWrong_30 ⟨by decide +kernel, by decide +kernel, by decide +kernel⟩ (by decide) wd_16 wd_10 (Or.inr ⟨_, wd_15⟩) ?_
    refine s_cmeq (tgt := 38) dX0_firstWrong_33 (by decide) ?_ ?_
    · refine s_iinc (y := 1) dX0_firstWrong_38 (by decide +kernel) (by decide) ?_
      refine s_goto (tgt := 2) dX0_firstWrong_41 (by decide) ?_
      exact H2
    · refine s_iload_n dX0_firstWrong_36 rfl ?_
      exact s_ri rfl dX0_firstWrong_37
def Book_firstWrong_l2 : Nat → ak_K
  | 0 => k_no
  | n + 1 => Book_firstWrong_b2 (Book_firstWrong_l2 n)
theorem S_Book_firstWrong_l2 : ∀ n : Nat, ak_S cX0_firstWrong RX0 3 1 1 21 (0, fun _ => 0) 2 (Book_firstWrong_l2 n)
  | 0 => s_no
  | n + 1 => S_Book_firstWrong_b2 (S_Book_firstWrong_l2 n)
def Book_firstWrong_b0 : ak_K := (k_ci 0 (k_is 2 (Book_firstWrong_l2 ak_fuel)))
theorem S_Book_firstWrong_b0 : ak_S cX0_firstWrong RX0 3 1 1 21 (0, fun _ => 0) 0 (Book_firstWrong_b0) := by
  unfold Book_firstWrong_b0
  refine s_iconst (x := 0) dX0_firstWrong_0 (by decide +kernel) ?_
  refine s_istore_n dX0_firstWrong_1 rfl (by decide) ?_
  exact (S_Book_firstWrong_l2 ak_fuel)
def Book_firstWrong (As : List Value) (M : ak_M) : ak_R := match As with
  | [.ref a, .ref x0] => Book_firstWrong_b0 [some (.ref a), some (.ref x0), none] [] M
  | _ => none
theorem M_Book_firstWrong : ak_Mt yX0_firstWrong cX0_firstWrong 3 (some .int) 1 21 Book_firstWrong := by
  refine ak_met (rk := 1) wd_17 (by decide +kernel) rfl (Or.inr (Or.inl ⟨rfl, rfl⟩)) (fun h => absurd h (by decide)) S_Book_firstWrong_b0 (fun As M r h => ?_)
  unfold Book_firstWrong at h
  split at h
  next => exact ⟨Nat.le_of_ble_eq_true rfl, 1, h⟩
  next => cases h
-- GreetedMirrors$Draws.<init>()V
def Draws_init_b0 : ak_K := (k_al 0 (k_obj k_rv))
theorem S_Draws_init_b0 : ak_S cX1_init RX1 1 5 1 20 (0, fun _ => 0) 0 (Draws_init_b0) := by
  unfold Draws_init_b0
  refine s_aload_n dX1_init_0 rfl ?_
  refine s_obj (by decide) wd_18 wd_1 wd_2 dX1_init_1 ?_
  exact s_rv (Or.inr rfl) dX1_init_4
def Draws_init (As : List Value) (M : ak_M) : ak_R := match As with
  | [.ref a] => Draws_init_b0 [some (.ref a)] [] M
  | _ => none
theorem M_Draws_init : ak_Mt yX1_init cX1_init 1 none 1 20 Draws_init := by
  refine ak_met (rk := 5) wd_19 (by decide +kernel) rfl (Or.inl ⟨Or.inr rfl, rfl⟩) (fun h => rfl) S_Draws_init_b0 (fun As M r h => ?_)
  unfold Draws_init at h
  split at h
  next => exact ⟨Nat.le_of_ble_eq_true rfl, 0, h⟩
  next => cases h
-- GreetedMirrors$Draws.next(I)I
def Draws_next_b40 : ak_K := k_ri
theorem S_Draws_next_b40 : ak_S cX1_next RX1 2 1 0 0 (0, fun _ => 0) 40 (Draws_next_b40) := by
  unfold Draws_next_b40
  exact s_ri rfl dX1_next_40
def Draws_next_b0 : ak_K := (k_al 0 (k_al 0 (k_gl 1 0 (k_cl 1103515245 (k_lb (fun x y => x * y) (k_cl 12345 (k_lb (fun x y => x + y) (k_cl 2147483647 (k_lb (fun x y => x &&& y) (k_pl 1 0 (k_il 1 (k_ifle (k_ci 0 Draws_next_b40) (k_al 0 (k_gl 1 0 (k_cl 65536 (k_lbd (fun x y => x / y) (k_il 1 (k_i2l (k_lbd (fun x y => x - x / y * y) (k_l2i Draws_next_b40))))))))))))))))))))
theorem S_Draws_next_b0 : ak_S cX1_next RX1 2 1 0 0 (0, fun _ => 0) 0 (Draws_next_b0) := by
  unfold Draws_next_b0
  refine s_aload_n dX1_next_0 rfl ?_
  refine s_aload_n dX1_next_1 rfl ?_
  refine s_gl (C := RX1) (Tf := TX1) (N := 1) (i := 1) (j := 0) rfl (by decide) rfl (Or.inl wd_20) dX1_next_2 ?_
  refine s_ldc2 (x := 1103515245) dX1_next_5 wd_21 ?_
  refine s_lmul dX1_next_8 ?_
  refine s_ldc2 (x := 12345) dX1_next_9 wd_22 ?_
  refine s_ladd dX1_next_12 ?_
  refine s_ldc2 (x := 2147483647) dX1_next_13 wd_23 ?_
  refine s_land dX1_next_16 ?_
  refine s_pl (C := RX1) (Tf := TX1) (N := 1) (i := 1) (j := 0) rfl (by decide) rfl (Or.inl ⟨wd_20, Or.inl rfl⟩) dX1_next_17 ?_
  refine s_iload_n dX1_next_20 rfl ?_
  refine s_ifle (tgt := 39) dX1_next_21 (by decide) ?_ ?_
  · refine s_iconst (x := 0) dX1_next_39 (by decide +kernel) ?_
    exact S_Draws_next_b40
  · refine s_aload_n dX1_next_24 rfl ?_
    refine s_gl (C := RX1) (Tf := TX1) (N := 1) (i := 1) (j := 0) rfl (by decide) rfl (Or.inl wd_20) dX1_next_25 ?_
    refine s_ldc2 (x := 65536) dX1_next_28 wd_24 ?_
    refine s_ldiv dX1_next_31 ?_
    refine s_iload_n dX1_next_32 rfl ?_
    refine s_i2l dX1_next_33 ?_
    refine s_lrem dX1_next_34 ?_
    refine s_l2i dX1_next_35 ?_
    refine s_goto (tgt := 40) dX1_next_36 (by decide) ?_
    exact S_Draws_next_b40
def Draws_next (As : List Value) (M : ak_M) : ak_R := match As with
  | [.ref a, .int x0] => Draws_next_b0 [some (.ref a), some (.int x0)] [] M
  | _ => none
theorem M_Draws_next : ak_Mt yX1_next cX1_next 2 (some .int) 0 0 Draws_next := by
  refine ak_met (rk := 1) wd_25 (by decide +kernel) rfl (Or.inr (Or.inl ⟨rfl, rfl⟩)) (fun h => absurd h (by decide)) S_Draws_next_b0 (fun As M r h => ?_)
  unfold Draws_next at h
  split at h
  next => exact ⟨Nat.le_of_ble_eq_true rfl, 0, h⟩
  next => cases h
-- GreetedMirrors$House.<init>()V
def House_init_b47 : ak_K := (k_na 1 (k_pp 2 10 (k_al 0 (k_ci 5 (k_na 1 (k_pp 2 11 k_rv))))))
theorem S_House_init_b47 : ak_S cX2_init RX2 1 5 1 20 (0, fun _ => 0) 47 (House_init_b47) := by
  unfold House_init_b47
  refine s_na (Or.inl ⟨rfl, rfl⟩) wd_3 dX2_init_47 ?_
  refine s_pp (C := RX2) (Tf := TX2) (N := 12) (i := 2) (j := 10) rfl (by decide) rfl (Or.inl ⟨wd_26, Or.inr ⟨rfl, rfl, rfl⟩⟩) dX2_init_49 ?_
  refine s_aload_n dX2_init_52 rfl ?_
  refine s_iconst (x := 5) dX2_init_53 (by decide +kernel) ?_
  refine s_na (Or.inl ⟨rfl, rfl⟩) wd_3 dX2_init_54 ?_
  refine s_pp (C := RX2) (Tf := TX2) (N := 12) (i := 2) (j := 11) rfl (by decide) rfl (Or.inl ⟨wd_27, Or.inr ⟨rfl, rfl, rfl⟩⟩) dX2_init_56 ?_
  exact s_rv (Or.inr rfl) dX2_init_59
def House_init_b0 : ak_K := (k_al 0 (k_obj (k_al 0 (k_ci 8 (k_na 1 (k_pp 2 5 (k_al 0 (k_ci 8 (k_na 1 (k_pp 2 6 (k_al 0 (k_ci 7 (k_na 1 (k_pp 2 7 (k_al 0 (k_ci 7 (k_na 1 (k_pp 2 8 (k_al 0 (k_ci 7 (k_na 1 (k_pp 2 9 (k_al 0 (k_ci 10 House_init_b47))))))))))))))))))))))))
theorem S_House_init_b0 : ak_S cX2_init RX2 1 5 1 20 (0, fun _ => 0) 0 (House_init_b0) := by
  unfold House_init_b0
  refine s_aload_n dX2_init_0 rfl ?_
  refine s_obj (by decide) wd_28 wd_1 wd_2 dX2_init_1 ?_
  refine s_aload_n dX2_init_4 rfl ?_
  refine s_bipush (x := 8) dX2_init_5 (by decide +kernel) ?_
  refine s_na (Or.inl ⟨rfl, rfl⟩) wd_3 dX2_init_7 ?_
  refine s_pp (C := RX2) (Tf := TX2) (N := 12) (i := 2) (j := 5) rfl (by decide) rfl (Or.inl ⟨wd_29, Or.inr ⟨rfl, rfl, rfl⟩⟩) dX2_init_9 ?_
  refine s_aload_n dX2_init_12 rfl ?_
  refine s_bipush (x := 8) dX2_init_13 (by decide +kernel) ?_
  refine s_na (Or.inl ⟨rfl, rfl⟩) wd_3 dX2_init_15 ?_
  refine s_pp (C := RX2) (Tf := TX2) (N := 12) (i := 2) (j := 6) rfl (by decide) rfl (Or.inl ⟨wd_30, Or.inr ⟨rfl, rfl, rfl⟩⟩) dX2_init_17 ?_
  refine s_aload_n dX2_init_20 rfl ?_
  refine s_bipush (x := 7) dX2_init_21 (by decide +kernel) ?_
  refine s_na (Or.inl ⟨rfl, rfl⟩) wd_3 dX2_init_23 ?_
  refine s_pp (C := RX2) (Tf := TX2) (N := 12) (i := 2) (j := 7) rfl (by decide) rfl (Or.inl ⟨wd_31, Or.inr ⟨rfl, rfl, rfl⟩⟩) dX2_init_25 ?_
  refine s_aload_n dX2_init_28 rfl ?_
  refine s_bipush (x := 7) dX2_init_29 (by decide +kernel) ?_
  refine s_na (Or.inl ⟨rfl, rfl⟩) wd_3 dX2_init_31 ?_
  refine s_pp (C := RX2) (Tf := TX2) (N := 12) (i := 2) (j := 8) rfl (by decide) rfl (Or.inl ⟨wd_32, Or.inr ⟨rfl, rfl, rfl⟩⟩) dX2_init_33 ?_
  refine s_aload_n dX2_init_36 rfl ?_
  refine s_bipush (x := 7) dX2_init_37 (by decide +kernel) ?_
  refine s_na (Or.inl ⟨rfl, rfl⟩) wd_3 dX2_init_39 ?_
  refine s_pp (C := RX2) (Tf := TX2) (N := 12) (i := 2) (j := 9) rfl (by decide) rfl (Or.inl ⟨wd_33, Or.inr ⟨rfl, rfl, rfl⟩⟩) dX2_init_41 ?_
  refine s_aload_n dX2_init_44 rfl ?_
  refine s_bipush (x := 10) dX2_init_45 (by decide +kernel) ?_
  exact S_House_init_b47
def House_init (As : List Value) (M : ak_M) : ak_R := match As with
  | [.ref a] => House_init_b0 [some (.ref a)] [] M
  | _ => none
theorem M_House_init : ak_Mt yX2_init cX2_init 1 none 1 20 House_init := by
  refine ak_met (rk := 5) wd_34 (by decide +kernel) rfl (Or.inl ⟨Or.inr rfl, rfl⟩) (fun h => rfl) S_House_init_b0 (fun As M r h => ?_)
  unfold House_init at h
  split at h
  next => exact ⟨Nat.le_of_ble_eq_true rfl, 0, h⟩
  next => cases h
-- GreetedMirrors.fill([II)V
def G_fill_b2 (h2 : ak_K) : ak_K := (k_il 2 (k_al 0 (k_len (k_cmge k_rv (k_al 0 (k_il 2 (k_il 1 (k_ast (k_ii 2 1 h2)))))))))
theorem S_G_fill_b2 {h2 : ak_K} (H2 : ak_S cX9_fill RX9 3 0 0 0 (0, fun _ => 0) 2 h2) : ak_S cX9_fill RX9 3 0 0 0 (0, fun _ => 0) 2 (G_fill_b2 h2) := by
  unfold G_fill_b2
  refine s_iload_n dX9_fill_2 rfl ?_
  refine s_aload_n dX9_fill_3 rfl ?_
  refine s_len dX9_fill_4 ?_
  refine s_cmge (tgt := 18) dX9_fill_5 (by decide) ?_ ?_
  · exact s_rv (Or.inl rfl) dX9_fill_18
  · refine s_aload_n dX9_fill_8 rfl ?_
    refine s_iload_n dX9_fill_9 rfl ?_
    refine s_iload_n dX9_fill_10 rfl ?_
    refine s_ast dX9_fill_11 ?_
    refine s_iinc (y := 1) dX9_fill_12 (by decide +kernel) (by decide) ?_
    refine s_goto (tgt := 2) dX9_fill_15 (by decide) ?_
    exact H2
def G_fill_l2 : Nat → ak_K
  | 0 => k_no
  | n + 1 => G_fill_b2 (G_fill_l2 n)
theorem S_G_fill_l2 : ∀ n : Nat, ak_S cX9_fill RX9 3 0 0 0 (0, fun _ => 0) 2 (G_fill_l2 n)
  | 0 => s_no
  | n + 1 => S_G_fill_b2 (S_G_fill_l2 n)
def G_fill_b0 : ak_K := (k_ci 0 (k_is 2 (G_fill_l2 ak_fuel)))
theorem S_G_fill_b0 : ak_S cX9_fill RX9 3 0 0 0 (0, fun _ => 0) 0 (G_fill_b0) := by
  unfold G_fill_b0
  refine s_iconst (x := 0) dX9_fill_0 (by decide +kernel) ?_
  refine s_istore_n dX9_fill_1 rfl (by decide) ?_
  exact (S_G_fill_l2 ak_fuel)
def G_fill (As : List Value) (M : ak_M) : ak_R := match As with
  | [.ref x0, .int x1] => G_fill_b0 [some (.ref x0), some (.int x1), none] [] M
  | _ => none
theorem M_G_fill : ak_Mt yX9_fill cX9_fill 3 none 0 0 G_fill := by
  refine ak_met (rk := 0) wd_35 (by decide +kernel) rfl (Or.inl ⟨Or.inl rfl, rfl⟩) (fun h => absurd h (by decide)) S_G_fill_b0 (fun As M r h => ?_)
  unfold G_fill at h
  split at h
  next => exact ⟨Nat.le_of_ble_eq_true rfl, 1, h⟩
  next => cases h
-- GreetedMirrors$House.empty()V
def House_empty_b0 : ak_K := (k_al 0 (k_ci 0 (k_pi 2 0 (k_al 0 (k_ci 0 (k_pi 2 1 (k_al 0 (k_ci 0 (k_pi 2 2 (k_al 0 (k_ci 0 (k_pi 2 3 (k_al 0 (k_ci 0 (k_pi 2 4 (k_al 0 (k_gp 2 9 (k_ci (-1) (k_cs 2 G_fill (k_al 0 (k_gp 2 10 (k_ci 0 (k_cs 2 G_fill k_rv)))))))))))))))))))))))
theorem S_House_empty_b0 : ak_S cX2_empty RX2 1 0 1 22 (0, fun _ => 0) 0 (House_empty_b0) := by
  unfold House_empty_b0
  refine s_aload_n dX2_empty_0 rfl ?_
  refine s_iconst (x := 0) dX2_empty_1 (by decide +kernel) ?_
  refine s_pi (C := RX2) (Tf := TX2) (N := 12) (i := 2) (j := 0) rfl (by decide) rfl (Or.inl ⟨wd_36, Or.inl rfl⟩) dX2_empty_2 ?_
  refine s_aload_n dX2_empty_5 rfl ?_
  refine s_iconst (x := 0) dX2_empty_6 (by decide +kernel) ?_
  refine s_pi (C := RX2) (Tf := TX2) (N := 12) (i := 2) (j := 1) rfl (by decide) rfl (Or.inl ⟨wd_37, Or.inl rfl⟩) dX2_empty_7 ?_
  refine s_aload_n dX2_empty_10 rfl ?_
  refine s_iconst (x := 0) dX2_empty_11 (by decide +kernel) ?_
  refine s_pi (C := RX2) (Tf := TX2) (N := 12) (i := 2) (j := 2) rfl (by decide) rfl (Or.inl ⟨wd_38, Or.inl rfl⟩) dX2_empty_12 ?_
  refine s_aload_n dX2_empty_15 rfl ?_
  refine s_iconst (x := 0) dX2_empty_16 (by decide +kernel) ?_
  refine s_pi (C := RX2) (Tf := TX2) (N := 12) (i := 2) (j := 3) rfl (by decide) rfl (Or.inl ⟨wd_39, Or.inl rfl⟩) dX2_empty_17 ?_
  refine s_aload_n dX2_empty_20 rfl ?_
  refine s_iconst (x := 0) dX2_empty_21 (by decide +kernel) ?_
  refine s_pi (C := RX2) (Tf := TX2) (N := 12) (i := 2) (j := 4) rfl (by decide) rfl (Or.inl ⟨wd_40, Or.inl rfl⟩) dX2_empty_22 ?_
  refine s_aload_n dX2_empty_25 rfl ?_
  refine s_gp (C := RX2) (Tf := TX2) (N := 12) (i := 2) (j := 9) rfl (by decide) rfl (Or.inl wd_33) dX2_empty_26 ?_
  refine s_iconst (x := (-1)) dX2_empty_29 (by decide +kernel) ?_
  refine s_cs M_G_fill dX2_empty_30 ⟨by decide +kernel, by decide +kernel, by decide +kernel⟩ (by decide) wd_42 wd_10 (Or.inr ⟨_, wd_41⟩) ?_
  refine s_aload_n dX2_empty_33 rfl ?_
  refine s_gp (C := RX2) (Tf := TX2) (N := 12) (i := 2) (j := 10) rfl (by decide) rfl (Or.inl wd_26) dX2_empty_34 ?_
  refine s_iconst (x := 0) dX2_empty_37 (by decide +kernel) ?_
  refine s_cs M_G_fill dX2_empty_38 ⟨by decide +kernel, by decide +kernel, by decide +kernel⟩ (by decide) wd_42 wd_10 (Or.inr ⟨_, wd_41⟩) ?_
  exact s_rv (Or.inl rfl) dX2_empty_41
def House_empty (As : List Value) (M : ak_M) : ak_R := match As with
  | [.ref a] => House_empty_b0 [some (.ref a)] [] M
  | _ => none
theorem M_House_empty : ak_Mt yX2_empty cX2_empty 1 none 1 22 House_empty := by
  refine ak_met (rk := 0) wd_43 (by decide +kernel) rfl (Or.inl ⟨Or.inl rfl, rfl⟩) (fun h => absurd h (by decide)) S_House_empty_b0 (fun As M r h => ?_)
  unfold House_empty at h
  split at h
  next => exact ⟨Nat.le_of_ble_eq_true rfl, 0, h⟩
  next => cases h
-- GreetedMirrors$House.hasRoom(I)Z
def House_hasRoom_b17 : ak_K := k_rz
theorem S_House_hasRoom_b17 : ak_S cX2_hasRoom RX2 2 2 0 0 (0, fun _ => 0) 17 (House_hasRoom_b17) := by
  unfold House_hasRoom_b17
  exact s_rz rfl dX2_hasRoom_17
def House_hasRoom_b16 : ak_K := (k_ci 0 House_hasRoom_b17)
theorem S_House_hasRoom_b16 : ak_S cX2_hasRoom RX2 2 2 0 0 (0, fun _ => 0) 16 (House_hasRoom_b16) := by
  unfold House_hasRoom_b16
  refine s_iconst (x := 0) dX2_hasRoom_16 (by decide +kernel) ?_
  exact S_House_hasRoom_b17
def House_hasRoom_b0 : ak_K := (k_il 1 (k_iflt House_hasRoom_b16 (k_il 1 (k_al 0 (k_gi 2 0 (k_cmge House_hasRoom_b16 (k_ci 1 House_hasRoom_b17)))))))
theorem S_House_hasRoom_b0 : ak_S cX2_hasRoom RX2 2 2 0 0 (0, fun _ => 0) 0 (House_hasRoom_b0) := by
  unfold House_hasRoom_b0
  refine s_iload_n dX2_hasRoom_0 rfl ?_
  refine s_iflt (tgt := 16) dX2_hasRoom_1 (by decide) ?_ ?_
  · exact S_House_hasRoom_b16
  · refine s_iload_n dX2_hasRoom_4 rfl ?_
    refine s_aload_n dX2_hasRoom_5 rfl ?_
    refine s_gi (C := RX2) (Tf := TX2) (N := 12) (i := 2) (j := 0) rfl (by decide) rfl (Or.inl wd_36) dX2_hasRoom_6 ?_
    refine s_cmge (tgt := 16) dX2_hasRoom_9 (by decide) ?_ ?_
    · exact S_House_hasRoom_b16
    · refine s_iconst (x := 1) dX2_hasRoom_12 (by decide +kernel) ?_
      refine s_goto (tgt := 17) dX2_hasRoom_13 (by decide) ?_
      exact S_House_hasRoom_b17
def House_hasRoom (As : List Value) (M : ak_M) : ak_R := match As with
  | [.ref a, .int x0] => House_hasRoom_b0 [some (.ref a), some (.int x0)] [] M
  | _ => none
theorem M_House_hasRoom : ak_Mt yX2_hasRoom cX2_hasRoom 2 (some .boolean) 0 0 House_hasRoom := by
  refine ak_met (rk := 2) wd_44 (by decide +kernel) rfl (Or.inr (Or.inr (Or.inl ⟨rfl, rfl⟩))) (fun h => absurd h (by decide)) S_House_hasRoom_b0 (fun As M r h => ?_)
  unfold House_hasRoom at h
  split at h
  next => exact ⟨Nat.le_of_ble_eq_true rfl, 0, h⟩
  next => cases h
-- GreetedMirrors$House.hasDoor(I)Z
def House_hasDoor_b17 : ak_K := k_rz
theorem S_House_hasDoor_b17 : ak_S cX2_hasDoor RX2 2 2 0 0 (0, fun _ => 0) 17 (House_hasDoor_b17) := by
  unfold House_hasDoor_b17
  exact s_rz rfl dX2_hasDoor_17
def House_hasDoor_b16 : ak_K := (k_ci 0 House_hasDoor_b17)
theorem S_House_hasDoor_b16 : ak_S cX2_hasDoor RX2 2 2 0 0 (0, fun _ => 0) 16 (House_hasDoor_b16) := by
  unfold House_hasDoor_b16
  refine s_iconst (x := 0) dX2_hasDoor_16 (by decide +kernel) ?_
  exact S_House_hasDoor_b17
def House_hasDoor_b0 : ak_K := (k_il 1 (k_iflt House_hasDoor_b16 (k_il 1 (k_al 0 (k_gi 2 2 (k_cmge House_hasDoor_b16 (k_ci 1 House_hasDoor_b17)))))))
theorem S_House_hasDoor_b0 : ak_S cX2_hasDoor RX2 2 2 0 0 (0, fun _ => 0) 0 (House_hasDoor_b0) := by
  unfold House_hasDoor_b0
  refine s_iload_n dX2_hasDoor_0 rfl ?_
  refine s_iflt (tgt := 16) dX2_hasDoor_1 (by decide) ?_ ?_
  · exact S_House_hasDoor_b16
  · refine s_iload_n dX2_hasDoor_4 rfl ?_
    refine s_aload_n dX2_hasDoor_5 rfl ?_
    refine s_gi (C := RX2) (Tf := TX2) (N := 12) (i := 2) (j := 2) rfl (by decide) rfl (Or.inl wd_38) dX2_hasDoor_6 ?_
    refine s_cmge (tgt := 16) dX2_hasDoor_9 (by decide) ?_ ?_
    · exact S_House_hasDoor_b16
    · refine s_iconst (x := 1) dX2_hasDoor_12 (by decide +kernel) ?_
      refine s_goto (tgt := 17) dX2_hasDoor_13 (by decide) ?_
      exact S_House_hasDoor_b17
def House_hasDoor (As : List Value) (M : ak_M) : ak_R := match As with
  | [.ref a, .int x0] => House_hasDoor_b0 [some (.ref a), some (.int x0)] [] M
  | _ => none
theorem M_House_hasDoor : ak_Mt yX2_hasDoor cX2_hasDoor 2 (some .boolean) 0 0 House_hasDoor := by
  refine ak_met (rk := 2) wd_45 (by decide +kernel) rfl (Or.inr (Or.inr (Or.inl ⟨rfl, rfl⟩))) (fun h => absurd h (by decide)) S_House_hasDoor_b0 (fun As M r h => ?_)
  unfold House_hasDoor at h
  split at h
  next => exact ⟨Nat.le_of_ble_eq_true rfl, 0, h⟩
  next => cases h
-- GreetedMirrors$House.hasMirror(I)Z
def House_hasMirror_b17 : ak_K := k_rz
theorem S_House_hasMirror_b17 : ak_S cX2_hasMirror RX2 2 2 0 0 (0, fun _ => 0) 17 (House_hasMirror_b17) := by
  unfold House_hasMirror_b17
  exact s_rz rfl dX2_hasMirror_17
def House_hasMirror_b16 : ak_K := (k_ci 0 House_hasMirror_b17)
theorem S_House_hasMirror_b16 : ak_S cX2_hasMirror RX2 2 2 0 0 (0, fun _ => 0) 16 (House_hasMirror_b16) := by
  unfold House_hasMirror_b16
  refine s_iconst (x := 0) dX2_hasMirror_16 (by decide +kernel) ?_
  exact S_House_hasMirror_b17
def House_hasMirror_b0 : ak_K := (k_il 1 (k_iflt House_hasMirror_b16 (k_il 1 (k_al 0 (k_gi 2 3 (k_cmge House_hasMirror_b16 (k_ci 1 House_hasMirror_b17)))))))
theorem S_House_hasMirror_b0 : ak_S cX2_hasMirror RX2 2 2 0 0 (0, fun _ => 0) 0 (House_hasMirror_b0) := by
  unfold House_hasMirror_b0
  refine s_iload_n dX2_hasMirror_0 rfl ?_
  refine s_iflt (tgt := 16) dX2_hasMirror_1 (by decide) ?_ ?_
  · exact S_House_hasMirror_b16
  · refine s_iload_n dX2_hasMirror_4 rfl ?_
    refine s_aload_n dX2_hasMirror_5 rfl ?_
    refine s_gi (C := RX2) (Tf := TX2) (N := 12) (i := 2) (j := 3) rfl (by decide) rfl (Or.inl wd_39) dX2_hasMirror_6 ?_
    refine s_cmge (tgt := 16) dX2_hasMirror_9 (by decide) ?_ ?_
    · exact S_House_hasMirror_b16
    · refine s_iconst (x := 1) dX2_hasMirror_12 (by decide +kernel) ?_
      refine s_goto (tgt := 17) dX2_hasMirror_13 (by decide) ?_
      exact S_House_hasMirror_b17
def House_hasMirror (As : List Value) (M : ak_M) : ak_R := match As with
  | [.ref a, .int x0] => House_hasMirror_b0 [some (.ref a), some (.int x0)] [] M
  | _ => none
theorem M_House_hasMirror : ak_Mt yX2_hasMirror cX2_hasMirror 2 (some .boolean) 0 0 House_hasMirror := by
  refine ak_met (rk := 2) wd_46 (by decide +kernel) rfl (Or.inr (Or.inr (Or.inl ⟨rfl, rfl⟩))) (fun h => absurd h (by decide)) S_House_hasMirror_b0 (fun As M r h => ?_)
  unfold House_hasMirror at h
  split at h
  next => exact ⟨Nat.le_of_ble_eq_true rfl, 0, h⟩
  next => cases h
-- GreetedMirrors$House.hasPerson(I)Z
def House_hasPerson_b17 : ak_K := k_rz
theorem S_House_hasPerson_b17 : ak_S cX2_hasPerson RX2 2 2 0 0 (0, fun _ => 0) 17 (House_hasPerson_b17) := by
  unfold House_hasPerson_b17
  exact s_rz rfl dX2_hasPerson_17
def House_hasPerson_b16 : ak_K := (k_ci 0 House_hasPerson_b17)
theorem S_House_hasPerson_b16 : ak_S cX2_hasPerson RX2 2 2 0 0 (0, fun _ => 0) 16 (House_hasPerson_b16) := by
  unfold House_hasPerson_b16
  refine s_iconst (x := 0) dX2_hasPerson_16 (by decide +kernel) ?_
  exact S_House_hasPerson_b17
def House_hasPerson_b0 : ak_K := (k_il 1 (k_iflt House_hasPerson_b16 (k_il 1 (k_al 0 (k_gi 2 4 (k_cmge House_hasPerson_b16 (k_ci 1 House_hasPerson_b17)))))))
theorem S_House_hasPerson_b0 : ak_S cX2_hasPerson RX2 2 2 0 0 (0, fun _ => 0) 0 (House_hasPerson_b0) := by
  unfold House_hasPerson_b0
  refine s_iload_n dX2_hasPerson_0 rfl ?_
  refine s_iflt (tgt := 16) dX2_hasPerson_1 (by decide) ?_ ?_
  · exact S_House_hasPerson_b16
  · refine s_iload_n dX2_hasPerson_4 rfl ?_
    refine s_aload_n dX2_hasPerson_5 rfl ?_
    refine s_gi (C := RX2) (Tf := TX2) (N := 12) (i := 2) (j := 4) rfl (by decide) rfl (Or.inl wd_40) dX2_hasPerson_6 ?_
    refine s_cmge (tgt := 16) dX2_hasPerson_9 (by decide) ?_ ?_
    · exact S_House_hasPerson_b16
    · refine s_iconst (x := 1) dX2_hasPerson_12 (by decide +kernel) ?_
      refine s_goto (tgt := 17) dX2_hasPerson_13 (by decide) ?_
      exact S_House_hasPerson_b17
def House_hasPerson (As : List Value) (M : ak_M) : ak_R := match As with
  | [.ref a, .int x0] => House_hasPerson_b0 [some (.ref a), some (.int x0)] [] M
  | _ => none
theorem M_House_hasPerson : ak_Mt yX2_hasPerson cX2_hasPerson 2 (some .boolean) 0 0 House_hasPerson := by
  refine ak_met (rk := 2) wd_47 (by decide +kernel) rfl (Or.inr (Or.inr (Or.inl ⟨rfl, rfl⟩))) (fun h => absurd h (by decide)) S_House_hasPerson_b0 (fun As M r h => ?_)
  unfold House_hasPerson at h
  split at h
  next => exact ⟨Nat.le_of_ble_eq_true rfl, 0, h⟩
  next => cases h
-- GreetedMirrors$House.allMirrors()I
def House_allMirrors_b0 : ak_K := (k_ci 1 (k_al 0 (k_gi 2 3 (k_b (fun x y => x <<< (y &&& 31)) (k_ci 1 (k_b (fun x y => x - y) k_ri))))))
theorem S_House_allMirrors_b0 : ak_S cX2_allMirrors RX2 1 1 0 0 (0, fun _ => 0) 0 (House_allMirrors_b0) := by
  unfold House_allMirrors_b0
  refine s_iconst (x := 1) dX2_allMirrors_0 (by decide +kernel) ?_
  refine s_aload_n dX2_allMirrors_1 rfl ?_
  refine s_gi (C := RX2) (Tf := TX2) (N := 12) (i := 2) (j := 3) rfl (by decide) rfl (Or.inl wd_39) dX2_allMirrors_2 ?_
  refine s_ishl dX2_allMirrors_5 ?_
  refine s_iconst (x := 1) dX2_allMirrors_6 (by decide +kernel) ?_
  refine s_isub dX2_allMirrors_7 ?_
  exact s_ri rfl dX2_allMirrors_8
def House_allMirrors (As : List Value) (M : ak_M) : ak_R := match As with
  | [.ref a] => House_allMirrors_b0 [some (.ref a)] [] M
  | _ => none
theorem M_House_allMirrors : ak_Mt yX2_allMirrors cX2_allMirrors 1 (some .int) 0 0 House_allMirrors := by
  refine ak_met (rk := 1) wd_48 (by decide +kernel) rfl (Or.inr (Or.inl ⟨rfl, rfl⟩)) (fun h => absurd h (by decide)) S_House_allMirrors_b0 (fun As M r h => ?_)
  unfold House_allMirrors at h
  split at h
  next => exact ⟨Nat.le_of_ble_eq_true rfl, 0, h⟩
  next => cases h
-- GreetedMirrors.with(IIZ)I
def G_with_b10 : ak_K := (k_il 0 k_ri)
theorem S_G_with_b10 : ak_S cX9_with RX9 3 1 0 0 (0, fun _ => 0) 10 (G_with_b10) := by
  unfold G_with_b10
  refine s_iload_n dX9_with_10 rfl ?_
  exact s_ri rfl dX9_with_11
def G_with_b31 : ak_K := k_ri
theorem S_G_with_b31 : ak_S cX9_with RX9 3 1 0 0 (0, fun _ => 0) 31 (G_with_b31) := by
  unfold G_with_b31
  exact s_ri rfl dX9_with_31
def G_with_b0 : ak_K := (k_il 1 (k_iflt G_with_b10 (k_il 1 (k_ci 31 (k_cmlt (k_il 2 (k_ifeq (k_il 0 (k_ci 1 (k_il 1 (k_b (fun x y => x <<< (y &&& 31)) (k_ci (-1) (k_b (fun x y => x ^^^ y) (k_b (fun x y => x &&& y) G_with_b31))))))) (k_il 0 (k_ci 1 (k_il 1 (k_b (fun x y => x <<< (y &&& 31)) (k_b (fun x y => x ||| y) G_with_b31))))))) G_with_b10)))))
theorem S_G_with_b0 : ak_S cX9_with RX9 3 1 0 0 (0, fun _ => 0) 0 (G_with_b0) := by
  unfold G_with_b0
  refine s_iload_n dX9_with_0 rfl ?_
  refine s_iflt (tgt := 10) dX9_with_1 (by decide) ?_ ?_
  · exact S_G_with_b10
  · refine s_iload_n dX9_with_4 rfl ?_
    refine s_bipush (x := 31) dX9_with_5 (by decide +kernel) ?_
    refine s_cmlt (tgt := 12) dX9_with_7 (by decide) ?_ ?_
    · refine s_iload_n dX9_with_12 rfl ?_
      refine s_ifeq (tgt := 24) dX9_with_13 (by decide) ?_ ?_
      · refine s_iload_n dX9_with_24 rfl ?_
        refine s_iconst (x := 1) dX9_with_25 (by decide +kernel) ?_
        refine s_iload_n dX9_with_26 rfl ?_
        refine s_ishl dX9_with_27 ?_
        refine s_iconst (x := (-1)) dX9_with_28 (by decide +kernel) ?_
        refine s_ixor dX9_with_29 ?_
        refine s_iand dX9_with_30 ?_
        exact S_G_with_b31
      · refine s_iload_n dX9_with_16 rfl ?_
        refine s_iconst (x := 1) dX9_with_17 (by decide +kernel) ?_
        refine s_iload_n dX9_with_18 rfl ?_
        refine s_ishl dX9_with_19 ?_
        refine s_ior dX9_with_20 ?_
        refine s_goto (tgt := 31) dX9_with_21 (by decide) ?_
        exact S_G_with_b31
    · exact S_G_with_b10
def G_with (As : List Value) (M : ak_M) : ak_R := match As with
  | [.int x0, .int x1, .int x2] => G_with_b0 [some (.int x0), some (.int x1), some (.int x2)] [] M
  | _ => none
theorem M_G_with : ak_Mt yX9_with cX9_with 3 (some .int) 0 0 G_with := by
  refine ak_met (rk := 1) wd_49 (by decide +kernel) rfl (Or.inr (Or.inl ⟨rfl, rfl⟩)) (fun h => absurd h (by decide)) S_G_with_b0 (fun As M r h => ?_)
  unfold G_with at h
  split at h
  next => exact ⟨Nat.le_of_ble_eq_true rfl, 0, h⟩
  next => cases h
-- GreetedMirrors$House.mirrorsIn(I)I
def House_mirrorsIn_b31 (h4 : ak_K) : ak_K := (k_ii 3 1 h4)
theorem S_House_mirrorsIn_b31 {h4 : ak_K} (H4 : ak_S cX2_mirrorsIn RX2 4 1 1 22 (0, fun _ => 0) 4 h4) : ak_S cX2_mirrorsIn RX2 4 1 1 22 (0, fun _ => 0) 31 (House_mirrorsIn_b31 h4) := by
  unfold House_mirrorsIn_b31
  refine s_iinc (y := 1) dX2_mirrorsIn_31 (by decide +kernel) (by decide) ?_
  refine s_goto (tgt := 4) dX2_mirrorsIn_34 (by decide) ?_
  exact H4
def House_mirrorsIn_b4 (h4 : ak_K) : ak_K := (k_il 3 (k_al 0 (k_gi 2 3 (k_cmge (k_il 2 k_ri) (k_al 0 (k_gp 2 7 (k_il 3 (k_cs 2 G_at (k_il 1 (k_cmeq (k_il 2 (k_il 3 (k_ci 1 (k_cs 3 G_with (k_is 2 (House_mirrorsIn_b31 h4)))))) (House_mirrorsIn_b31 h4)))))))))))
theorem S_House_mirrorsIn_b4 {h4 : ak_K} (H4 : ak_S cX2_mirrorsIn RX2 4 1 1 22 (0, fun _ => 0) 4 h4) : ak_S cX2_mirrorsIn RX2 4 1 1 22 (0, fun _ => 0) 4 (House_mirrorsIn_b4 h4) := by
  unfold House_mirrorsIn_b4
  refine s_iload_n dX2_mirrorsIn_4 rfl ?_
  refine s_aload_n dX2_mirrorsIn_5 rfl ?_
  refine s_gi (C := RX2) (Tf := TX2) (N := 12) (i := 2) (j := 3) rfl (by decide) rfl (Or.inl wd_39) dX2_mirrorsIn_6 ?_
  refine s_cmge (tgt := 37) dX2_mirrorsIn_9 (by decide) ?_ ?_
  · refine s_iload_n dX2_mirrorsIn_37 rfl ?_
    exact s_ri rfl dX2_mirrorsIn_38
  · refine s_aload_n dX2_mirrorsIn_12 rfl ?_
    refine s_gp (C := RX2) (Tf := TX2) (N := 12) (i := 2) (j := 7) rfl (by decide) rfl (Or.inl wd_31) dX2_mirrorsIn_13 ?_
    refine s_iload_n dX2_mirrorsIn_16 rfl ?_
    refine s_cs M_G_at dX2_mirrorsIn_17 ⟨by decide +kernel, by decide +kernel, by decide +kernel⟩ (by decide) wd_16 wd_10 (Or.inr ⟨_, wd_50⟩) ?_
    refine s_iload_n dX2_mirrorsIn_20 rfl ?_
    refine s_cmne (tgt := 31) dX2_mirrorsIn_21 (by decide) ?_ ?_
    · refine s_iload_n dX2_mirrorsIn_24 rfl ?_
      refine s_iload_n dX2_mirrorsIn_25 rfl ?_
      refine s_iconst (x := 1) dX2_mirrorsIn_26 (by decide +kernel) ?_
      refine s_cs M_G_with dX2_mirrorsIn_27 ⟨by decide +kernel, by decide +kernel, by decide +kernel⟩ (by decide) wd_52 wd_10 (Or.inr ⟨_, wd_51⟩) ?_
      refine s_istore_n dX2_mirrorsIn_30 rfl (by decide) ?_
      exact (S_House_mirrorsIn_b31 H4)
    · exact (S_House_mirrorsIn_b31 H4)
def House_mirrorsIn_l4 : Nat → ak_K
  | 0 => k_no
  | n + 1 => House_mirrorsIn_b4 (House_mirrorsIn_l4 n)
theorem S_House_mirrorsIn_l4 : ∀ n : Nat, ak_S cX2_mirrorsIn RX2 4 1 1 22 (0, fun _ => 0) 4 (House_mirrorsIn_l4 n)
  | 0 => s_no
  | n + 1 => S_House_mirrorsIn_b4 (S_House_mirrorsIn_l4 n)
def House_mirrorsIn_b0 : ak_K := (k_ci 0 (k_is 2 (k_ci 0 (k_is 3 (House_mirrorsIn_l4 ak_fuel)))))
theorem S_House_mirrorsIn_b0 : ak_S cX2_mirrorsIn RX2 4 1 1 22 (0, fun _ => 0) 0 (House_mirrorsIn_b0) := by
  unfold House_mirrorsIn_b0
  refine s_iconst (x := 0) dX2_mirrorsIn_0 (by decide +kernel) ?_
  refine s_istore_n dX2_mirrorsIn_1 rfl (by decide) ?_
  refine s_iconst (x := 0) dX2_mirrorsIn_2 (by decide +kernel) ?_
  refine s_istore_n dX2_mirrorsIn_3 rfl (by decide) ?_
  exact (S_House_mirrorsIn_l4 ak_fuel)
def House_mirrorsIn (As : List Value) (M : ak_M) : ak_R := match As with
  | [.ref a, .int x0] => House_mirrorsIn_b0 [some (.ref a), some (.int x0), none, none] [] M
  | _ => none
theorem M_House_mirrorsIn : ak_Mt yX2_mirrorsIn cX2_mirrorsIn 4 (some .int) 1 22 House_mirrorsIn := by
  refine ak_met (rk := 1) wd_53 (by decide +kernel) rfl (Or.inr (Or.inl ⟨rfl, rfl⟩)) (fun h => absurd h (by decide)) S_House_mirrorsIn_b0 (fun As M r h => ?_)
  unfold House_mirrorsIn at h
  split at h
  next => exact ⟨Nat.le_of_ble_eq_true rfl, 2, h⟩
  next => cases h
-- GreetedMirrors$House.hungAhead(I)I
def House_hungAhead_b19 : ak_K := k_ri
theorem S_House_hungAhead_b19 : ak_S cX2_hungAhead RX2 3 1 1 21 (0, fun _ => 0) 19 (House_hungAhead_b19) := by
  unfold House_hungAhead_b19
  exact s_ri rfl dX2_hungAhead_19
def House_hungAhead_b0 : ak_K := (k_al 0 (k_gp 2 9 (k_il 1 (k_cs 2 G_at (k_is 2 (k_il 2 (k_il 1 (k_cmge (k_ci (-1) House_hungAhead_b19) (k_il 2 House_hungAhead_b19)))))))))
theorem S_House_hungAhead_b0 : ak_S cX2_hungAhead RX2 3 1 1 21 (0, fun _ => 0) 0 (House_hungAhead_b0) := by
  unfold House_hungAhead_b0
  refine s_aload_n dX2_hungAhead_0 rfl ?_
  refine s_gp (C := RX2) (Tf := TX2) (N := 12) (i := 2) (j := 9) rfl (by decide) rfl (Or.inl wd_33) dX2_hungAhead_1 ?_
  refine s_iload_n dX2_hungAhead_4 rfl ?_
  refine s_cs M_G_at dX2_hungAhead_5 ⟨by decide +kernel, by decide +kernel, by decide +kernel⟩ (by decide) wd_16 wd_10 (Or.inr ⟨_, wd_50⟩) ?_
  refine s_istore_n dX2_hungAhead_8 rfl (by decide) ?_
  refine s_iload_n dX2_hungAhead_9 rfl ?_
  refine s_iload_n dX2_hungAhead_10 rfl ?_
  refine s_cmge (tgt := 18) dX2_hungAhead_11 (by decide) ?_ ?_
  · refine s_iconst (x := (-1)) dX2_hungAhead_18 (by decide +kernel) ?_
    exact S_House_hungAhead_b19
  · refine s_iload_n dX2_hungAhead_14 rfl ?_
    refine s_goto (tgt := 19) dX2_hungAhead_15 (by decide) ?_
    exact S_House_hungAhead_b19
def House_hungAhead (As : List Value) (M : ak_M) : ak_R := match As with
  | [.ref a, .int x0] => House_hungAhead_b0 [some (.ref a), some (.int x0), none] [] M
  | _ => none
theorem M_House_hungAhead : ak_Mt yX2_hungAhead cX2_hungAhead 3 (some .int) 1 21 House_hungAhead := by
  refine ak_met (rk := 1) wd_54 (by decide +kernel) rfl (Or.inr (Or.inl ⟨rfl, rfl⟩)) (fun h => absurd h (by decide)) S_House_hungAhead_b0 (fun As M r h => ?_)
  unfold House_hungAhead at h
  split at h
  next => exact ⟨Nat.le_of_ble_eq_true rfl, 1, h⟩
  next => cases h
-- GreetedMirrors$House.breathOf(I)I
def House_breathOf_b0 : ak_K := (k_ci 1 (k_al 0 (k_gp 2 10 (k_il 1 (k_cs 2 G_at (k_max k_ri))))))
theorem S_House_breathOf_b0 : ak_S cX2_breathOf RX2 2 1 1 21 (0, fun _ => 0) 0 (House_breathOf_b0) := by
  unfold House_breathOf_b0
  refine s_iconst (x := 1) dX2_breathOf_0 (by decide +kernel) ?_
  refine s_aload_n dX2_breathOf_1 rfl ?_
  refine s_gp (C := RX2) (Tf := TX2) (N := 12) (i := 2) (j := 10) rfl (by decide) rfl (Or.inl wd_26) dX2_breathOf_2 ?_
  refine s_iload_n dX2_breathOf_5 rfl ?_
  refine s_cs M_G_at dX2_breathOf_6 ⟨by decide +kernel, by decide +kernel, by decide +kernel⟩ (by decide) wd_16 wd_10 (Or.inr ⟨_, wd_50⟩) ?_
  refine s_max (by decide) wd_55 wd_56 wd_57 wd_58 dX2_breathOf_9 ?_
  exact s_ri rfl dX2_breathOf_12
def House_breathOf (As : List Value) (M : ak_M) : ak_R := match As with
  | [.ref a, .int x0] => House_breathOf_b0 [some (.ref a), some (.int x0)] [] M
  | _ => none
theorem M_House_breathOf : ak_Mt yX2_breathOf cX2_breathOf 2 (some .int) 1 21 House_breathOf := by
  refine ak_met (rk := 1) wd_59 (by decide +kernel) rfl (Or.inr (Or.inl ⟨rfl, rfl⟩)) (fun h => absurd h (by decide)) S_House_breathOf_b0 (fun As M r h => ?_)
  unfold House_breathOf at h
  split at h
  next => exact ⟨Nat.le_of_ble_eq_true rfl, 0, h⟩
  next => cases h
-- GreetedMirrors$House.haveDoor(II)Z
def House_haveDoor_b56 (h2 : ak_K) : ak_K := (k_ii 3 1 h2)
theorem S_House_haveDoor_b56 {h2 : ak_K} (H2 : ak_S cX2_haveDoor RX2 6 2 1 21 (0, fun _ => 0) 2 h2) : ak_S cX2_haveDoor RX2 6 2 1 21 (0, fun _ => 0) 56 (House_haveDoor_b56 h2) := by
  unfold House_haveDoor_b56
  refine s_iinc (y := 1) dX2_haveDoor_56 (by decide +kernel) (by decide) ?_
  refine s_goto (tgt := 2) dX2_haveDoor_59 (by decide) ?_
  exact H2
def House_haveDoor_b54 : ak_K := (k_ci 1 k_rz)
theorem S_House_haveDoor_b54 : ak_S cX2_haveDoor RX2 6 2 1 21 (0, fun _ => 0) 54 (House_haveDoor_b54) := by
  unfold House_haveDoor_b54
  refine s_iconst (x := 1) dX2_haveDoor_54 (by decide +kernel) ?_
  exact s_rz rfl dX2_haveDoor_55
def House_haveDoor_b42 (h2 : ak_K) : ak_K := (k_il 4 (k_il 2 (k_cmeq (k_il 5 (k_il 1 (k_cmeq House_haveDoor_b54 (House_haveDoor_b56 h2)))) (House_haveDoor_b56 h2))))
theorem S_House_haveDoor_b42 {h2 : ak_K} (H2 : ak_S cX2_haveDoor RX2 6 2 1 21 (0, fun _ => 0) 2 h2) : ak_S cX2_haveDoor RX2 6 2 1 21 (0, fun _ => 0) 42 (House_haveDoor_b42 h2) := by
  unfold House_haveDoor_b42
  refine s_iload dX2_haveDoor_42 ?_
  refine s_iload_n dX2_haveDoor_44 rfl ?_
  refine s_cmne (tgt := 56) dX2_haveDoor_45 (by decide) ?_ ?_
  · refine s_iload dX2_haveDoor_48 ?_
    refine s_iload_n dX2_haveDoor_50 rfl ?_
    refine s_cmne (tgt := 56) dX2_haveDoor_51 (by decide) ?_ ?_
    · exact S_House_haveDoor_b54
    · exact (S_House_haveDoor_b56 H2)
  · exact (S_House_haveDoor_b56 H2)
def House_haveDoor_b2 (h2 : ak_K) : ak_K := (k_il 3 (k_al 0 (k_gi 2 2 (k_cmge (k_ci 0 k_rz) (k_al 0 (k_gp 2 5 (k_il 3 (k_cs 2 G_at (k_is 4 (k_al 0 (k_gp 2 6 (k_il 3 (k_cs 2 G_at (k_is 5 (k_il 4 (k_il 1 (k_cmeq (k_il 5 (k_il 2 (k_cmeq House_haveDoor_b54 (House_haveDoor_b42 h2)))) (House_haveDoor_b42 h2))))))))))))))))))
theorem S_House_haveDoor_b2 {h2 : ak_K} (H2 : ak_S cX2_haveDoor RX2 6 2 1 21 (0, fun _ => 0) 2 h2) : ak_S cX2_haveDoor RX2 6 2 1 21 (0, fun _ => 0) 2 (House_haveDoor_b2 h2) := by
  unfold House_haveDoor_b2
  refine s_iload_n dX2_haveDoor_2 rfl ?_
  refine s_aload_n dX2_haveDoor_3 rfl ?_
  refine s_gi (C := RX2) (Tf := TX2) (N := 12) (i := 2) (j := 2) rfl (by decide) rfl (Or.inl wd_38) dX2_haveDoor_4 ?_
  refine s_cmge (tgt := 62) dX2_haveDoor_7 (by decide) ?_ ?_
  · refine s_iconst (x := 0) dX2_haveDoor_62 (by decide +kernel) ?_
    exact s_rz rfl dX2_haveDoor_63
  · refine s_aload_n dX2_haveDoor_10 rfl ?_
    refine s_gp (C := RX2) (Tf := TX2) (N := 12) (i := 2) (j := 5) rfl (by decide) rfl (Or.inl wd_29) dX2_haveDoor_11 ?_
    refine s_iload_n dX2_haveDoor_14 rfl ?_
    refine s_cs M_G_at dX2_haveDoor_15 ⟨by decide +kernel, by decide +kernel, by decide +kernel⟩ (by decide) wd_16 wd_10 (Or.inr ⟨_, wd_50⟩) ?_
    refine s_istore dX2_haveDoor_18 (by decide) ?_
    refine s_aload_n dX2_haveDoor_20 rfl ?_
    refine s_gp (C := RX2) (Tf := TX2) (N := 12) (i := 2) (j := 6) rfl (by decide) rfl (Or.inl wd_30) dX2_haveDoor_21 ?_
    refine s_iload_n dX2_haveDoor_24 rfl ?_
    refine s_cs M_G_at dX2_haveDoor_25 ⟨by decide +kernel, by decide +kernel, by decide +kernel⟩ (by decide) wd_16 wd_10 (Or.inr ⟨_, wd_50⟩) ?_
    refine s_istore dX2_haveDoor_28 (by decide) ?_
    refine s_iload dX2_haveDoor_30 ?_
    refine s_iload_n dX2_haveDoor_32 rfl ?_
    refine s_cmne (tgt := 42) dX2_haveDoor_33 (by decide) ?_ ?_
    · refine s_iload dX2_haveDoor_36 ?_
      refine s_iload_n dX2_haveDoor_38 rfl ?_
      refine s_cmeq (tgt := 54) dX2_haveDoor_39 (by decide) ?_ ?_
      · exact S_House_haveDoor_b54
      · exact (S_House_haveDoor_b42 H2)
    · exact (S_House_haveDoor_b42 H2)
def House_haveDoor_l2 : Nat → ak_K
  | 0 => k_no
  | n + 1 => House_haveDoor_b2 (House_haveDoor_l2 n)
theorem S_House_haveDoor_l2 : ∀ n : Nat, ak_S cX2_haveDoor RX2 6 2 1 21 (0, fun _ => 0) 2 (House_haveDoor_l2 n)
  | 0 => s_no
  | n + 1 => S_House_haveDoor_b2 (S_House_haveDoor_l2 n)
def House_haveDoor_b0 : ak_K := (k_ci 0 (k_is 3 (House_haveDoor_l2 ak_fuel)))
theorem S_House_haveDoor_b0 : ak_S cX2_haveDoor RX2 6 2 1 21 (0, fun _ => 0) 0 (House_haveDoor_b0) := by
  unfold House_haveDoor_b0
  refine s_iconst (x := 0) dX2_haveDoor_0 (by decide +kernel) ?_
  refine s_istore_n dX2_haveDoor_1 rfl (by decide) ?_
  exact (S_House_haveDoor_l2 ak_fuel)
def House_haveDoor (As : List Value) (M : ak_M) : ak_R := match As with
  | [.ref a, .int x0, .int x1] => House_haveDoor_b0 [some (.ref a), some (.int x0), some (.int x1), none, none, none] [] M
  | _ => none
theorem M_House_haveDoor : ak_Mt yX2_haveDoor cX2_haveDoor 6 (some .boolean) 1 21 House_haveDoor := by
  refine ak_met (rk := 2) wd_60 (by decide +kernel) rfl (Or.inr (Or.inr (Or.inl ⟨rfl, rfl⟩))) (fun h => absurd h (by decide)) S_House_haveDoor_b0 (fun As M r h => ?_)
  unfold House_haveDoor at h
  split at h
  next => exact ⟨Nat.le_of_ble_eq_true rfl, 3, h⟩
  next => cases h
-- GreetedMirrors$House.addDoor(II)V
def House_addDoor_b0 : ak_K := (k_al 0 (k_gp 2 5 (k_al 0 (k_gi 2 2 (k_il 1 (k_cs 3 G_put (k_al 0 (k_gp 2 6 (k_al 0 (k_gi 2 2 (k_il 2 (k_cs 3 G_put (k_al 0 (k_dup (k_gi 2 2 (k_ci 1 (k_b (fun x y => x + y) (k_pi 2 2 k_rv))))))))))))))))))
theorem S_House_addDoor_b0 : ak_S cX2_addDoor RX2 3 0 1 22 (0, fun _ => 0) 0 (House_addDoor_b0) := by
  unfold House_addDoor_b0
  refine s_aload_n dX2_addDoor_0 rfl ?_
  refine s_gp (C := RX2) (Tf := TX2) (N := 12) (i := 2) (j := 5) rfl (by decide) rfl (Or.inl wd_29) dX2_addDoor_1 ?_
  refine s_aload_n dX2_addDoor_4 rfl ?_
  refine s_gi (C := RX2) (Tf := TX2) (N := 12) (i := 2) (j := 2) rfl (by decide) rfl (Or.inl wd_38) dX2_addDoor_5 ?_
  refine s_iload_n dX2_addDoor_8 rfl ?_
  refine s_cs M_G_put dX2_addDoor_9 ⟨by decide +kernel, by decide +kernel, by decide +kernel⟩ (by decide) wd_11 wd_10 (Or.inr ⟨_, wd_61⟩) ?_
  refine s_aload_n dX2_addDoor_12 rfl ?_
  refine s_gp (C := RX2) (Tf := TX2) (N := 12) (i := 2) (j := 6) rfl (by decide) rfl (Or.inl wd_30) dX2_addDoor_13 ?_
  refine s_aload_n dX2_addDoor_16 rfl ?_
  refine s_gi (C := RX2) (Tf := TX2) (N := 12) (i := 2) (j := 2) rfl (by decide) rfl (Or.inl wd_38) dX2_addDoor_17 ?_
  refine s_iload_n dX2_addDoor_20 rfl ?_
  refine s_cs M_G_put dX2_addDoor_21 ⟨by decide +kernel, by decide +kernel, by decide +kernel⟩ (by decide) wd_11 wd_10 (Or.inr ⟨_, wd_61⟩) ?_
  refine s_aload_n dX2_addDoor_24 rfl ?_
  refine s_dup dX2_addDoor_25 ?_
  refine s_gi (C := RX2) (Tf := TX2) (N := 12) (i := 2) (j := 2) rfl (by decide) rfl (Or.inl wd_38) dX2_addDoor_26 ?_
  refine s_iconst (x := 1) dX2_addDoor_29 (by decide +kernel) ?_
  refine s_iadd dX2_addDoor_30 ?_
  refine s_pi (C := RX2) (Tf := TX2) (N := 12) (i := 2) (j := 2) rfl (by decide) rfl (Or.inl ⟨wd_38, Or.inl rfl⟩) dX2_addDoor_31 ?_
  exact s_rv (Or.inl rfl) dX2_addDoor_34
def House_addDoor (As : List Value) (M : ak_M) : ak_R := match As with
  | [.ref a, .int x0, .int x1] => House_addDoor_b0 [some (.ref a), some (.int x0), some (.int x1)] [] M
  | _ => none
theorem M_House_addDoor : ak_Mt yX2_addDoor cX2_addDoor 3 none 1 22 House_addDoor := by
  refine ak_met (rk := 0) wd_62 (by decide +kernel) rfl (Or.inl ⟨Or.inl rfl, rfl⟩) (fun h => absurd h (by decide)) S_House_addDoor_b0 (fun As M r h => ?_)
  unfold House_addDoor at h
  split at h
  next => exact ⟨Nat.le_of_ble_eq_true rfl, 0, h⟩
  next => cases h
-- GreetedMirrors$House.addMirror(II)V
def House_addMirror_b0 : ak_K := (k_al 0 (k_gp 2 7 (k_al 0 (k_gi 2 3 (k_il 1 (k_cs 3 G_put (k_al 0 (k_gp 2 8 (k_al 0 (k_gi 2 3 (k_il 2 (k_cs 3 G_put (k_al 0 (k_dup (k_gi 2 3 (k_ci 1 (k_b (fun x y => x + y) (k_pi 2 3 k_rv))))))))))))))))))
theorem S_House_addMirror_b0 : ak_S cX2_addMirror RX2 3 0 1 22 (0, fun _ => 0) 0 (House_addMirror_b0) := by
  unfold House_addMirror_b0
  refine s_aload_n dX2_addMirror_0 rfl ?_
  refine s_gp (C := RX2) (Tf := TX2) (N := 12) (i := 2) (j := 7) rfl (by decide) rfl (Or.inl wd_31) dX2_addMirror_1 ?_
  refine s_aload_n dX2_addMirror_4 rfl ?_
  refine s_gi (C := RX2) (Tf := TX2) (N := 12) (i := 2) (j := 3) rfl (by decide) rfl (Or.inl wd_39) dX2_addMirror_5 ?_
  refine s_iload_n dX2_addMirror_8 rfl ?_
  refine s_cs M_G_put dX2_addMirror_9 ⟨by decide +kernel, by decide +kernel, by decide +kernel⟩ (by decide) wd_11 wd_10 (Or.inr ⟨_, wd_61⟩) ?_
  refine s_aload_n dX2_addMirror_12 rfl ?_
  refine s_gp (C := RX2) (Tf := TX2) (N := 12) (i := 2) (j := 8) rfl (by decide) rfl (Or.inl wd_32) dX2_addMirror_13 ?_
  refine s_aload_n dX2_addMirror_16 rfl ?_
  refine s_gi (C := RX2) (Tf := TX2) (N := 12) (i := 2) (j := 3) rfl (by decide) rfl (Or.inl wd_39) dX2_addMirror_17 ?_
  refine s_iload_n dX2_addMirror_20 rfl ?_
  refine s_cs M_G_put dX2_addMirror_21 ⟨by decide +kernel, by decide +kernel, by decide +kernel⟩ (by decide) wd_11 wd_10 (Or.inr ⟨_, wd_61⟩) ?_
  refine s_aload_n dX2_addMirror_24 rfl ?_
  refine s_dup dX2_addMirror_25 ?_
  refine s_gi (C := RX2) (Tf := TX2) (N := 12) (i := 2) (j := 3) rfl (by decide) rfl (Or.inl wd_39) dX2_addMirror_26 ?_
  refine s_iconst (x := 1) dX2_addMirror_29 (by decide +kernel) ?_
  refine s_iadd dX2_addMirror_30 ?_
  refine s_pi (C := RX2) (Tf := TX2) (N := 12) (i := 2) (j := 3) rfl (by decide) rfl (Or.inl ⟨wd_39, Or.inl rfl⟩) dX2_addMirror_31 ?_
  exact s_rv (Or.inl rfl) dX2_addMirror_34
def House_addMirror (As : List Value) (M : ak_M) : ak_R := match As with
  | [.ref a, .int x0, .int x1] => House_addMirror_b0 [some (.ref a), some (.int x0), some (.int x1)] [] M
  | _ => none
theorem M_House_addMirror : ak_Mt yX2_addMirror cX2_addMirror 3 none 1 22 House_addMirror := by
  refine ak_met (rk := 0) wd_63 (by decide +kernel) rfl (Or.inl ⟨Or.inl rfl, rfl⟩) (fun h => absurd h (by decide)) S_House_addMirror_b0 (fun As M r h => ?_)
  unfold House_addMirror at h
  split at h
  next => exact ⟨Nat.le_of_ble_eq_true rfl, 0, h⟩
  next => cases h
-- GreetedMirrors$House.addPerson(I)V
def House_addPerson_b0 : ak_K := (k_al 0 (k_gp 2 11 (k_al 0 (k_gi 2 4 (k_il 1 (k_cs 3 G_put (k_al 0 (k_dup (k_gi 2 4 (k_ci 1 (k_b (fun x y => x + y) (k_pi 2 4 k_rv))))))))))))
theorem S_House_addPerson_b0 : ak_S cX2_addPerson RX2 2 0 1 22 (0, fun _ => 0) 0 (House_addPerson_b0) := by
  unfold House_addPerson_b0
  refine s_aload_n dX2_addPerson_0 rfl ?_
  refine s_gp (C := RX2) (Tf := TX2) (N := 12) (i := 2) (j := 11) rfl (by decide) rfl (Or.inl wd_27) dX2_addPerson_1 ?_
  refine s_aload_n dX2_addPerson_4 rfl ?_
  refine s_gi (C := RX2) (Tf := TX2) (N := 12) (i := 2) (j := 4) rfl (by decide) rfl (Or.inl wd_40) dX2_addPerson_5 ?_
  refine s_iload_n dX2_addPerson_8 rfl ?_
  refine s_cs M_G_put dX2_addPerson_9 ⟨by decide +kernel, by decide +kernel, by decide +kernel⟩ (by decide) wd_11 wd_10 (Or.inr ⟨_, wd_61⟩) ?_
  refine s_aload_n dX2_addPerson_12 rfl ?_
  refine s_dup dX2_addPerson_13 ?_
  refine s_gi (C := RX2) (Tf := TX2) (N := 12) (i := 2) (j := 4) rfl (by decide) rfl (Or.inl wd_40) dX2_addPerson_14 ?_
  refine s_iconst (x := 1) dX2_addPerson_17 (by decide +kernel) ?_
  refine s_iadd dX2_addPerson_18 ?_
  refine s_pi (C := RX2) (Tf := TX2) (N := 12) (i := 2) (j := 4) rfl (by decide) rfl (Or.inl ⟨wd_40, Or.inl rfl⟩) dX2_addPerson_19 ?_
  exact s_rv (Or.inl rfl) dX2_addPerson_22
def House_addPerson (As : List Value) (M : ak_M) : ak_R := match As with
  | [.ref a, .int x0] => House_addPerson_b0 [some (.ref a), some (.int x0)] [] M
  | _ => none
theorem M_House_addPerson : ak_Mt yX2_addPerson cX2_addPerson 2 none 1 22 House_addPerson := by
  refine ak_met (rk := 0) wd_64 (by decide +kernel) rfl (Or.inl ⟨Or.inl rfl, rfl⟩) (fun h => absurd h (by decide)) S_House_addPerson_b0 (fun As M r h => ?_)
  unfold House_addPerson at h
  split at h
  next => exact ⟨Nat.le_of_ble_eq_true rfl, 0, h⟩
  next => cases h
-- GreetedMirrors$State.<init>()V
def State_init_b0 : ak_K := (k_al 0 (k_obj (k_al 0 (k_ci 7 (k_na 1 (k_pp 8 8 (k_al 0 (k_ci 7 (k_na 1 (k_pp 8 9 (k_al 0 (k_ci 7 (k_na 1 (k_pp 8 10 (k_al 0 (k_ci 5 (k_na 1 (k_pp 8 11 k_rv))))))))))))))))))
theorem S_State_init_b0 : ak_S cX8_init RX8 1 5 1 20 (0, fun _ => 0) 0 (State_init_b0) := by
  unfold State_init_b0
  refine s_aload_n dX8_init_0 rfl ?_
  refine s_obj (by decide) wd_65 wd_1 wd_2 dX8_init_1 ?_
  refine s_aload_n dX8_init_4 rfl ?_
  refine s_bipush (x := 7) dX8_init_5 (by decide +kernel) ?_
  refine s_na (Or.inl ⟨rfl, rfl⟩) wd_3 dX8_init_7 ?_
  refine s_pp (C := RX8) (Tf := TX8) (N := 12) (i := 8) (j := 8) rfl (by decide) rfl (Or.inl ⟨wd_66, Or.inr ⟨rfl, rfl, rfl⟩⟩) dX8_init_9 ?_
  refine s_aload_n dX8_init_12 rfl ?_
  refine s_bipush (x := 7) dX8_init_13 (by decide +kernel) ?_
  refine s_na (Or.inl ⟨rfl, rfl⟩) wd_3 dX8_init_15 ?_
  refine s_pp (C := RX8) (Tf := TX8) (N := 12) (i := 8) (j := 9) rfl (by decide) rfl (Or.inl ⟨wd_67, Or.inr ⟨rfl, rfl, rfl⟩⟩) dX8_init_17 ?_
  refine s_aload_n dX8_init_20 rfl ?_
  refine s_bipush (x := 7) dX8_init_21 (by decide +kernel) ?_
  refine s_na (Or.inl ⟨rfl, rfl⟩) wd_3 dX8_init_23 ?_
  refine s_pp (C := RX8) (Tf := TX8) (N := 12) (i := 8) (j := 10) rfl (by decide) rfl (Or.inl ⟨wd_68, Or.inr ⟨rfl, rfl, rfl⟩⟩) dX8_init_25 ?_
  refine s_aload_n dX8_init_28 rfl ?_
  refine s_iconst (x := 5) dX8_init_29 (by decide +kernel) ?_
  refine s_na (Or.inl ⟨rfl, rfl⟩) wd_3 dX8_init_30 ?_
  refine s_pp (C := RX8) (Tf := TX8) (N := 12) (i := 8) (j := 11) rfl (by decide) rfl (Or.inl ⟨wd_69, Or.inr ⟨rfl, rfl, rfl⟩⟩) dX8_init_32 ?_
  exact s_rv (Or.inr rfl) dX8_init_35
def State_init (As : List Value) (M : ak_M) : ak_R := match As with
  | [.ref a] => State_init_b0 [some (.ref a)] [] M
  | _ => none
theorem M_State_init : ak_Mt yX8_init cX8_init 1 none 1 20 State_init := by
  refine ak_met (rk := 5) wd_70 (by decide +kernel) rfl (Or.inl ⟨Or.inr rfl, rfl⟩) (fun h => rfl) S_State_init_b0 (fun As M r h => ?_)
  unfold State_init at h
  split at h
  next => exact ⟨Nat.le_of_ble_eq_true rfl, 0, h⟩
  next => cases h
-- GreetedMirrors$Image.<init>()V
def Image_init_b0 : ak_K := (k_al 0 (k_obj (k_al 0 (k_new 8 12 (k_dup (k_cn0 1 State_init (k_pp 3 0 k_rv)))))))
theorem S_Image_init_b0 : ak_S cX3_init RX3 1 5 2 40 (0, fun _ => 0) 0 (Image_init_b0) := by
  unfold Image_init_b0
  refine s_aload_n dX3_init_0 rfl ?_
  refine s_obj (by decide) wd_71 wd_1 wd_2 dX3_init_1 ?_
  refine s_aload_n dX3_init_4 rfl ?_
  refine s_new (C := RX8) (Tf := TX8) (N := 12) (i := 8) rfl wd_72 wd_73 wd_74 dX3_init_5 ?_
  refine s_dup dX3_init_8 ?_
  refine s_cn0 M_State_init dX3_init_9 rfl ⟨by decide +kernel, by decide +kernel, by decide +kernel⟩ (by decide) wd_76 wd_74 (Or.inr ⟨_, wd_75⟩) ?_
  refine s_pp (C := RX3) (Tf := TX3) (N := 3) (i := 3) (j := 0) rfl (by decide) rfl (Or.inl ⟨wd_77, Or.inr ⟨rfl, rfl, rfl⟩⟩) dX3_init_12 ?_
  exact s_rv (Or.inr rfl) dX3_init_15
def Image_init (As : List Value) (M : ak_M) : ak_R := match As with
  | [.ref a] => Image_init_b0 [some (.ref a)] [] M
  | _ => none
theorem M_Image_init : ak_Mt yX3_init cX3_init 1 none 2 40 Image_init := by
  refine ak_met (rk := 5) wd_78 (by decide +kernel) rfl (Or.inl ⟨Or.inr rfl, rfl⟩) (fun h => rfl) S_Image_init_b0 (fun As M r h => ?_)
  unfold Image_init at h
  split at h
  next => exact ⟨Nat.le_of_ble_eq_true rfl, 0, h⟩
  next => cases h
-- GreetedMirrors$Inquiry.<init>()V
def Inquiry_init_b0 : ak_K := (k_al 0 (k_obj (k_al 0 (k_ci 8 (k_na 1 (k_pp 4 0 (k_al 0 (k_ci 8 (k_na 1 (k_pp 4 1 (k_al 0 (k_ci 8 (k_na 1 (k_pp 4 2 (k_al 0 (k_ci 22 (k_na 1 (k_pp 4 3 k_rv))))))))))))))))))
theorem S_Inquiry_init_b0 : ak_S cX4_init RX4 1 5 1 20 (0, fun _ => 0) 0 (Inquiry_init_b0) := by
  unfold Inquiry_init_b0
  refine s_aload_n dX4_init_0 rfl ?_
  refine s_obj (by decide) wd_79 wd_1 wd_2 dX4_init_1 ?_
  refine s_aload_n dX4_init_4 rfl ?_
  refine s_bipush (x := 8) dX4_init_5 (by decide +kernel) ?_
  refine s_na (Or.inl ⟨rfl, rfl⟩) wd_3 dX4_init_7 ?_
  refine s_pp (C := RX4) (Tf := TX4) (N := 5) (i := 4) (j := 0) rfl (by decide) rfl (Or.inl ⟨wd_80, Or.inr ⟨rfl, rfl, rfl⟩⟩) dX4_init_9 ?_
  refine s_aload_n dX4_init_12 rfl ?_
  refine s_bipush (x := 8) dX4_init_13 (by decide +kernel) ?_
  refine s_na (Or.inl ⟨rfl, rfl⟩) wd_3 dX4_init_15 ?_
  refine s_pp (C := RX4) (Tf := TX4) (N := 5) (i := 4) (j := 1) rfl (by decide) rfl (Or.inl ⟨wd_81, Or.inr ⟨rfl, rfl, rfl⟩⟩) dX4_init_17 ?_
  refine s_aload_n dX4_init_20 rfl ?_
  refine s_bipush (x := 8) dX4_init_21 (by decide +kernel) ?_
  refine s_na (Or.inl ⟨rfl, rfl⟩) wd_3 dX4_init_23 ?_
  refine s_pp (C := RX4) (Tf := TX4) (N := 5) (i := 4) (j := 2) rfl (by decide) rfl (Or.inl ⟨wd_82, Or.inr ⟨rfl, rfl, rfl⟩⟩) dX4_init_25 ?_
  refine s_aload_n dX4_init_28 rfl ?_
  refine s_bipush (x := 22) dX4_init_29 (by decide +kernel) ?_
  refine s_na (Or.inl ⟨rfl, rfl⟩) wd_3 dX4_init_31 ?_
  refine s_pp (C := RX4) (Tf := TX4) (N := 5) (i := 4) (j := 3) rfl (by decide) rfl (Or.inl ⟨wd_83, Or.inr ⟨rfl, rfl, rfl⟩⟩) dX4_init_33 ?_
  exact s_rv (Or.inr rfl) dX4_init_36
def Inquiry_init (As : List Value) (M : ak_M) : ak_R := match As with
  | [.ref a] => Inquiry_init_b0 [some (.ref a)] [] M
  | _ => none
theorem M_Inquiry_init : ak_Mt yX4_init cX4_init 1 none 1 20 Inquiry_init := by
  refine ak_met (rk := 5) wd_84 (by decide +kernel) rfl (Or.inl ⟨Or.inr rfl, rfl⟩) (fun h => rfl) S_Inquiry_init_b0 (fun As M r h => ?_)
  unfold Inquiry_init at h
  split at h
  next => exact ⟨Nat.le_of_ble_eq_true rfl, 0, h⟩
  next => cases h
-- GreetedMirrors$Inquiry.note(IIZ)I
def Inquiry_note_b41 : ak_K := (k_cs 3 G_put (k_al 0 (k_dup (k_gi 4 4 (k_ci 1 (k_b (fun x y => x + y) (k_pi 4 4 (k_al 0 (k_gi 4 4 k_ri)))))))))
theorem S_Inquiry_note_b41 : ak_S cX4_note RX4 4 1 1 22 (0, fun _ => 0) 41 (Inquiry_note_b41) := by
  unfold Inquiry_note_b41
  refine s_cs M_G_put dX4_note_41 ⟨by decide +kernel, by decide +kernel, by decide +kernel⟩ (by decide) wd_11 wd_10 (Or.inr ⟨_, wd_85⟩) ?_
  refine s_aload_n dX4_note_44 rfl ?_
  refine s_dup dX4_note_45 ?_
  refine s_gi (C := RX4) (Tf := TX4) (N := 5) (i := 4) (j := 4) rfl (by decide) rfl (Or.inl wd_86) dX4_note_46 ?_
  refine s_iconst (x := 1) dX4_note_49 (by decide +kernel) ?_
  refine s_iadd dX4_note_50 ?_
  refine s_pi (C := RX4) (Tf := TX4) (N := 5) (i := 4) (j := 4) rfl (by decide) rfl (Or.inl ⟨wd_86, Or.inl rfl⟩) dX4_note_51 ?_
  refine s_aload_n dX4_note_54 rfl ?_
  refine s_gi (C := RX4) (Tf := TX4) (N := 5) (i := 4) (j := 4) rfl (by decide) rfl (Or.inl wd_86) dX4_note_55 ?_
  exact s_ri rfl dX4_note_58
def Inquiry_note_b0 : ak_K := (k_al 0 (k_gp 4 0 (k_al 0 (k_gi 4 4 (k_il 1 (k_cs 3 G_put (k_al 0 (k_gp 4 1 (k_al 0 (k_gi 4 4 (k_il 2 (k_cs 3 G_put (k_al 0 (k_gp 4 2 (k_al 0 (k_gi 4 4 (k_il 3 (k_ifeq (k_ci 0 Inquiry_note_b41) (k_ci 1 Inquiry_note_b41)))))))))))))))))))
theorem S_Inquiry_note_b0 : ak_S cX4_note RX4 4 1 1 22 (0, fun _ => 0) 0 (Inquiry_note_b0) := by
  unfold Inquiry_note_b0
  refine s_aload_n dX4_note_0 rfl ?_
  refine s_gp (C := RX4) (Tf := TX4) (N := 5) (i := 4) (j := 0) rfl (by decide) rfl (Or.inl wd_80) dX4_note_1 ?_
  refine s_aload_n dX4_note_4 rfl ?_
  refine s_gi (C := RX4) (Tf := TX4) (N := 5) (i := 4) (j := 4) rfl (by decide) rfl (Or.inl wd_86) dX4_note_5 ?_
  refine s_iload_n dX4_note_8 rfl ?_
  refine s_cs M_G_put dX4_note_9 ⟨by decide +kernel, by decide +kernel, by decide +kernel⟩ (by decide) wd_11 wd_10 (Or.inr ⟨_, wd_85⟩) ?_
  refine s_aload_n dX4_note_12 rfl ?_
  refine s_gp (C := RX4) (Tf := TX4) (N := 5) (i := 4) (j := 1) rfl (by decide) rfl (Or.inl wd_81) dX4_note_13 ?_
  refine s_aload_n dX4_note_16 rfl ?_
  refine s_gi (C := RX4) (Tf := TX4) (N := 5) (i := 4) (j := 4) rfl (by decide) rfl (Or.inl wd_86) dX4_note_17 ?_
  refine s_iload_n dX4_note_20 rfl ?_
  refine s_cs M_G_put dX4_note_21 ⟨by decide +kernel, by decide +kernel, by decide +kernel⟩ (by decide) wd_11 wd_10 (Or.inr ⟨_, wd_85⟩) ?_
  refine s_aload_n dX4_note_24 rfl ?_
  refine s_gp (C := RX4) (Tf := TX4) (N := 5) (i := 4) (j := 2) rfl (by decide) rfl (Or.inl wd_82) dX4_note_25 ?_
  refine s_aload_n dX4_note_28 rfl ?_
  refine s_gi (C := RX4) (Tf := TX4) (N := 5) (i := 4) (j := 4) rfl (by decide) rfl (Or.inl wd_86) dX4_note_29 ?_
  refine s_iload_n dX4_note_32 rfl ?_
  refine s_ifeq (tgt := 40) dX4_note_33 (by decide) ?_ ?_
  · refine s_iconst (x := 0) dX4_note_40 (by decide +kernel) ?_
    exact S_Inquiry_note_b41
  · refine s_iconst (x := 1) dX4_note_36 (by decide +kernel) ?_
    refine s_goto (tgt := 41) dX4_note_37 (by decide) ?_
    exact S_Inquiry_note_b41
def Inquiry_note (As : List Value) (M : ak_M) : ak_R := match As with
  | [.ref a, .int x0, .int x1, .int x2] => Inquiry_note_b0 [some (.ref a), some (.int x0), some (.int x1), some (.int x2)] [] M
  | _ => none
theorem M_Inquiry_note : ak_Mt yX4_note cX4_note 4 (some .int) 1 22 Inquiry_note := by
  refine ak_met (rk := 1) wd_87 (by decide +kernel) rfl (Or.inr (Or.inl ⟨rfl, rfl⟩)) (fun h => absurd h (by decide)) S_Inquiry_note_b0 (fun As M r h => ?_)
  unfold Inquiry_note at h
  split at h
  next => exact ⟨Nat.le_of_ble_eq_true rfl, 0, h⟩
  next => cases h
-- GreetedMirrors$Inquiry.forget()V
def Inquiry_forget_b0 : ak_K := (k_al 0 (k_ci 0 (k_pi 4 4 k_rv)))
theorem S_Inquiry_forget_b0 : ak_S cX4_forget RX4 1 0 0 0 (0, fun _ => 0) 0 (Inquiry_forget_b0) := by
  unfold Inquiry_forget_b0
  refine s_aload_n dX4_forget_0 rfl ?_
  refine s_iconst (x := 0) dX4_forget_1 (by decide +kernel) ?_
  refine s_pi (C := RX4) (Tf := TX4) (N := 5) (i := 4) (j := 4) rfl (by decide) rfl (Or.inl ⟨wd_86, Or.inl rfl⟩) dX4_forget_2 ?_
  exact s_rv (Or.inl rfl) dX4_forget_5
def Inquiry_forget (As : List Value) (M : ak_M) : ak_R := match As with
  | [.ref a] => Inquiry_forget_b0 [some (.ref a)] [] M
  | _ => none
theorem M_Inquiry_forget : ak_Mt yX4_forget cX4_forget 1 none 0 0 Inquiry_forget := by
  refine ak_met (rk := 0) wd_88 (by decide +kernel) rfl (Or.inl ⟨Or.inl rfl, rfl⟩) (fun h => absurd h (by decide)) S_Inquiry_forget_b0 (fun As M r h => ?_)
  unfold Inquiry_forget at h
  split at h
  next => exact ⟨Nat.le_of_ble_eq_true rfl, 0, h⟩
  next => cases h
-- GreetedMirrors$Inquiry.nameBy(LGreetedMirrors$House;II)I
def Inquiry_nameBy_b44 : ak_K := (k_cs 2 G_at k_ri)
theorem S_Inquiry_nameBy_b44 : ak_S cX4_nameBy RX4 6 1 1 21 (0, fun _ => 0) 44 (Inquiry_nameBy_b44) := by
  unfold Inquiry_nameBy_b44
  refine s_cs M_G_at dX4_nameBy_44 ⟨by decide +kernel, by decide +kernel, by decide +kernel⟩ (by decide) wd_16 wd_10 (Or.inr ⟨_, wd_89⟩) ?_
  exact s_ri rfl dX4_nameBy_47
def Inquiry_nameBy_b0 : ak_K := (k_il 2 (k_ci 10 (k_bd (fun x y => x / y) (k_is 4 (k_il 2 (k_ci 10 (k_bd (fun x y => x - x / y * y) (k_is 5 (k_il 3 (k_il 4 (k_cmeq (k_al 1 (k_gp 2 8 (k_il 5 (k_cs 2 G_at k_ri)))) (k_al 1 (k_gp 2 8 (k_il 3 (k_il 5 (k_cmeq (k_il 4 Inquiry_nameBy_b44) (k_il 3 Inquiry_nameBy_b44)))))))))))))))))
theorem S_Inquiry_nameBy_b0 : ak_S cX4_nameBy RX4 6 1 1 21 (0, fun _ => 0) 0 (Inquiry_nameBy_b0) := by
  unfold Inquiry_nameBy_b0
  refine s_iload_n dX4_nameBy_0 rfl ?_
  refine s_bipush (x := 10) dX4_nameBy_1 (by decide +kernel) ?_
  refine s_idiv dX4_nameBy_3 ?_
  refine s_istore dX4_nameBy_4 (by decide) ?_
  refine s_iload_n dX4_nameBy_6 rfl ?_
  refine s_bipush (x := 10) dX4_nameBy_7 (by decide +kernel) ?_
  refine s_irem dX4_nameBy_9 ?_
  refine s_istore dX4_nameBy_10 (by decide) ?_
  refine s_iload_n dX4_nameBy_12 rfl ?_
  refine s_iload dX4_nameBy_13 ?_
  refine s_cmne (tgt := 28) dX4_nameBy_15 (by decide) ?_ ?_
  · refine s_aload_n dX4_nameBy_18 rfl ?_
    refine s_gp (C := RX2) (Tf := TX2) (N := 12) (i := 2) (j := 8) rfl (by decide) rfl (Or.inr ⟨_, wd_90⟩) dX4_nameBy_19 ?_
    refine s_iload dX4_nameBy_22 ?_
    refine s_cs M_G_at dX4_nameBy_24 ⟨by decide +kernel, by decide +kernel, by decide +kernel⟩ (by decide) wd_16 wd_10 (Or.inr ⟨_, wd_89⟩) ?_
    exact s_ri rfl dX4_nameBy_27
  · refine s_aload_n dX4_nameBy_28 rfl ?_
    refine s_gp (C := RX2) (Tf := TX2) (N := 12) (i := 2) (j := 8) rfl (by decide) rfl (Or.inr ⟨_, wd_90⟩) dX4_nameBy_29 ?_
    refine s_iload_n dX4_nameBy_32 rfl ?_
    refine s_iload dX4_nameBy_33 ?_
    refine s_cmne (tgt := 43) dX4_nameBy_35 (by decide) ?_ ?_
    · refine s_iload dX4_nameBy_38 ?_
      refine s_goto (tgt := 44) dX4_nameBy_40 (by decide) ?_
      exact S_Inquiry_nameBy_b44
    · refine s_iload_n dX4_nameBy_43 rfl ?_
      exact S_Inquiry_nameBy_b44
def Inquiry_nameBy (As : List Value) (M : ak_M) : ak_R := match As with
  | [.ref a, .ref x0, .int x1, .int x2] => Inquiry_nameBy_b0 [some (.ref a), some (.ref x0), some (.int x1), some (.int x2), none, none] [] M
  | _ => none
theorem M_Inquiry_nameBy : ak_Mt yX4_nameBy cX4_nameBy 6 (some .int) 1 21 Inquiry_nameBy := by
  refine ak_met (rk := 1) wd_91 (by decide +kernel) rfl (Or.inr (Or.inl ⟨rfl, rfl⟩)) (fun h => absurd h (by decide)) S_Inquiry_nameBy_b0 (fun As M r h => ?_)
  unfold Inquiry_nameBy at h
  split at h
  next => exact ⟨Nat.le_of_ble_eq_true rfl, 2, h⟩
  next => cases h
-- GreetedMirrors$Inquiry.fits(LGreetedMirrors$House;I)Z
def Inquiry_fits_b61 (h2 : ak_K) : ak_K := (k_cmeq (k_ii 3 1 h2) (k_ci 0 k_rz))
theorem S_Inquiry_fits_b61 {h2 : ak_K} (H2 : ak_S cX4_fits RX4 5 2 2 46 (0, fun _ => 0) 2 h2) : ak_S cX4_fits RX4 5 2 2 46 (0, fun _ => 0) 61 (Inquiry_fits_b61 h2) := by
  unfold Inquiry_fits_b61
  refine s_cmeq (tgt := 66) dX4_fits_61 (by decide) ?_ ?_
  · refine s_iinc (y := 1) dX4_fits_66 (by decide +kernel) (by decide) ?_
    refine s_goto (tgt := 2) dX4_fits_69 (by decide) ?_
    exact H2
  · refine s_iconst (x := 0) dX4_fits_64 (by decide +kernel) ?_
    exact s_rz rfl dX4_fits_65
def Inquiry_fits_b40 (h2 : ak_K) : ak_K := (k_is 4 (k_il 4 (k_al 0 (k_gp 4 2 (k_il 3 (k_cs 2 G_at (k_ci 1 (k_cmeq (k_ci 1 (Inquiry_fits_b61 h2)) (k_ci 0 (Inquiry_fits_b61 h2))))))))))
theorem S_Inquiry_fits_b40 {h2 : ak_K} (H2 : ak_S cX4_fits RX4 5 2 2 46 (0, fun _ => 0) 2 h2) : ak_S cX4_fits RX4 5 2 2 46 (0, fun _ => 0) 40 (Inquiry_fits_b40 h2) := by
  unfold Inquiry_fits_b40
  refine s_istore dX4_fits_40 (by decide) ?_
  refine s_iload dX4_fits_42 ?_
  refine s_aload_n dX4_fits_44 rfl ?_
  refine s_gp (C := RX4) (Tf := TX4) (N := 5) (i := 4) (j := 2) rfl (by decide) rfl (Or.inl wd_82) dX4_fits_45 ?_
  refine s_iload_n dX4_fits_48 rfl ?_
  refine s_cs M_G_at dX4_fits_49 ⟨by decide +kernel, by decide +kernel, by decide +kernel⟩ (by decide) wd_16 wd_10 (Or.inr ⟨_, wd_89⟩) ?_
  refine s_iconst (x := 1) dX4_fits_52 (by decide +kernel) ?_
  refine s_cmne (tgt := 60) dX4_fits_53 (by decide) ?_ ?_
  · refine s_iconst (x := 1) dX4_fits_56 (by decide +kernel) ?_
    refine s_goto (tgt := 61) dX4_fits_57 (by decide) ?_
    exact (S_Inquiry_fits_b61 H2)
  · refine s_iconst (x := 0) dX4_fits_60 (by decide +kernel) ?_
    exact (S_Inquiry_fits_b61 H2)
def Inquiry_fits_b2 (h2 : ak_K) : ak_K := (k_il 3 (k_al 0 (k_gi 4 4 (k_cmge (k_ci 1 k_rz) (k_al 0 (k_al 1 (k_il 2 (k_al 0 (k_gp 4 0 (k_il 3 (k_cs 2 G_at (k_cv 4 4 Inquiry_nameBy (k_al 0 (k_gp 4 1 (k_il 3 (k_cs 2 G_at (k_cmeq (k_ci 1 (Inquiry_fits_b40 h2)) (k_ci 0 (Inquiry_fits_b40 h2)))))))))))))))))))
theorem S_Inquiry_fits_b2 {h2 : ak_K} (H2 : ak_S cX4_fits RX4 5 2 2 46 (0, fun _ => 0) 2 h2) : ak_S cX4_fits RX4 5 2 2 46 (0, fun _ => 0) 2 (Inquiry_fits_b2 h2) := by
  unfold Inquiry_fits_b2
  refine s_iload_n dX4_fits_2 rfl ?_
  refine s_aload_n dX4_fits_3 rfl ?_
  refine s_gi (C := RX4) (Tf := TX4) (N := 5) (i := 4) (j := 4) rfl (by decide) rfl (Or.inl wd_86) dX4_fits_4 ?_
  refine s_cmge (tgt := 72) dX4_fits_7 (by decide) ?_ ?_
  · refine s_iconst (x := 1) dX4_fits_72 (by decide +kernel) ?_
    exact s_rz rfl dX4_fits_73
  · refine s_aload_n dX4_fits_10 rfl ?_
    refine s_aload_n dX4_fits_11 rfl ?_
    refine s_iload_n dX4_fits_12 rfl ?_
    refine s_aload_n dX4_fits_13 rfl ?_
    refine s_gp (C := RX4) (Tf := TX4) (N := 5) (i := 4) (j := 0) rfl (by decide) rfl (Or.inl wd_80) dX4_fits_14 ?_
    refine s_iload_n dX4_fits_17 rfl ?_
    refine s_cs M_G_at dX4_fits_18 ⟨by decide +kernel, by decide +kernel, by decide +kernel⟩ (by decide) wd_16 wd_10 (Or.inr ⟨_, wd_89⟩) ?_
    refine s_cv (C := RX4) (Tf := TX4) (N := 5) (i := 4) rfl M_Inquiry_nameBy dX4_fits_21 rfl ⟨by decide +kernel, by decide +kernel, by decide +kernel⟩ (by decide) wd_94 wd_95 wd_93 (Or.inl wd_92) ?_
    refine s_aload_n dX4_fits_24 rfl ?_
    refine s_gp (C := RX4) (Tf := TX4) (N := 5) (i := 4) (j := 1) rfl (by decide) rfl (Or.inl wd_81) dX4_fits_25 ?_
    refine s_iload_n dX4_fits_28 rfl ?_
    refine s_cs M_G_at dX4_fits_29 ⟨by decide +kernel, by decide +kernel, by decide +kernel⟩ (by decide) wd_16 wd_10 (Or.inr ⟨_, wd_89⟩) ?_
    refine s_cmne (tgt := 39) dX4_fits_32 (by decide) ?_ ?_
    · refine s_iconst (x := 1) dX4_fits_35 (by decide +kernel) ?_
      refine s_goto (tgt := 40) dX4_fits_36 (by decide) ?_
      exact (S_Inquiry_fits_b40 H2)
    · refine s_iconst (x := 0) dX4_fits_39 (by decide +kernel) ?_
      exact (S_Inquiry_fits_b40 H2)
def Inquiry_fits_l2 : Nat → ak_K
  | 0 => k_no
  | n + 1 => Inquiry_fits_b2 (Inquiry_fits_l2 n)
theorem S_Inquiry_fits_l2 : ∀ n : Nat, ak_S cX4_fits RX4 5 2 2 46 (0, fun _ => 0) 2 (Inquiry_fits_l2 n)
  | 0 => s_no
  | n + 1 => S_Inquiry_fits_b2 (S_Inquiry_fits_l2 n)
def Inquiry_fits_b0 : ak_K := (k_ci 0 (k_is 3 (Inquiry_fits_l2 ak_fuel)))
theorem S_Inquiry_fits_b0 : ak_S cX4_fits RX4 5 2 2 46 (0, fun _ => 0) 0 (Inquiry_fits_b0) := by
  unfold Inquiry_fits_b0
  refine s_iconst (x := 0) dX4_fits_0 (by decide +kernel) ?_
  refine s_istore_n dX4_fits_1 rfl (by decide) ?_
  exact (S_Inquiry_fits_l2 ak_fuel)
def Inquiry_fits (As : List Value) (M : ak_M) : ak_R := match As with
  | [.ref a, .ref x0, .int x1] => Inquiry_fits_b0 [some (.ref a), some (.ref x0), some (.int x1), none, none] [] M
  | _ => none
theorem M_Inquiry_fits : ak_Mt yX4_fits cX4_fits 5 (some .boolean) 2 46 Inquiry_fits := by
  refine ak_met (rk := 2) wd_96 (by decide +kernel) rfl (Or.inr (Or.inr (Or.inl ⟨rfl, rfl⟩))) (fun h => absurd h (by decide)) S_Inquiry_fits_b0 (fun As M r h => ?_)
  unfold Inquiry_fits at h
  split at h
  next => exact ⟨Nat.le_of_ble_eq_true rfl, 2, h⟩
  next => cases h
-- GreetedMirrors$Inquiry.findPairs(LGreetedMirrors$House;)I
def Inquiry_findPairs_b78 (h4 : ak_K) (h17 : ak_K) : ak_K := (k_ii 4 1 h17)
theorem S_Inquiry_findPairs_b78 {h4 : ak_K} (H4 : ak_S cX4_findPairs RX4 6 1 3 70 (0, fun _ => 0) 4 h4) {h17 : ak_K} (H17 : ak_S cX4_findPairs RX4 6 1 3 70 (0, fun _ => 0) 17 h17) : ak_S cX4_findPairs RX4 6 1 3 70 (0, fun _ => 0) 78 (Inquiry_findPairs_b78 h4 h17) := by
  unfold Inquiry_findPairs_b78
  refine s_iinc (y := 1) dX4_findPairs_78 (by decide +kernel) (by decide) ?_
  refine s_goto (tgt := 17) dX4_findPairs_81 (by decide) ?_
  exact H17
def Inquiry_findPairs_b65 (h4 : ak_K) (h17 : ak_K) : ak_K := (k_al 0 (k_gp 4 3 (k_il 2 (k_il 5 (k_cs 3 G_put (k_ii 2 1 (Inquiry_findPairs_b78 h4 h17)))))))
theorem S_Inquiry_findPairs_b65 {h4 : ak_K} (H4 : ak_S cX4_findPairs RX4 6 1 3 70 (0, fun _ => 0) 4 h4) {h17 : ak_K} (H17 : ak_S cX4_findPairs RX4 6 1 3 70 (0, fun _ => 0) 17 h17) : ak_S cX4_findPairs RX4 6 1 3 70 (0, fun _ => 0) 65 (Inquiry_findPairs_b65 h4 h17) := by
  unfold Inquiry_findPairs_b65
  refine s_aload_n dX4_findPairs_65 rfl ?_
  refine s_gp (C := RX4) (Tf := TX4) (N := 5) (i := 4) (j := 3) rfl (by decide) rfl (Or.inl wd_83) dX4_findPairs_66 ?_
  refine s_iload_n dX4_findPairs_69 rfl ?_
  refine s_iload dX4_findPairs_70 ?_
  refine s_cs M_G_put dX4_findPairs_72 ⟨by decide +kernel, by decide +kernel, by decide +kernel⟩ (by decide) wd_11 wd_10 (Or.inr ⟨_, wd_85⟩) ?_
  refine s_iinc (y := 1) dX4_findPairs_75 (by decide +kernel) (by decide) ?_
  exact (S_Inquiry_findPairs_b78 H4 H17)
def Inquiry_findPairs_b17 (h4 : ak_K) (h17 : ak_K) : ak_K := (k_il 4 (k_al 1 (k_gi 2 3 (k_cmge (k_ii 3 1 h4) (k_ci 10 (k_il 3 (k_b (fun x y => x * y) (k_il 4 (k_b (fun x y => x + y) (k_is 5 (k_al 1 (k_gp 2 8 (k_il 3 (k_cs 2 G_at (k_al 1 (k_gp 2 8 (k_il 4 (k_cs 2 G_at (k_cmeq (Inquiry_findPairs_b78 h4 h17) (k_al 0 (k_al 1 (k_il 5 (k_cv 4 3 Inquiry_fits (k_ifeq (Inquiry_findPairs_b78 h4 h17) (Inquiry_findPairs_b65 h4 h17)))))))))))))))))))))))))
theorem S_Inquiry_findPairs_b17 {h4 : ak_K} (H4 : ak_S cX4_findPairs RX4 6 1 3 70 (0, fun _ => 0) 4 h4) {h17 : ak_K} (H17 : ak_S cX4_findPairs RX4 6 1 3 70 (0, fun _ => 0) 17 h17) : ak_S cX4_findPairs RX4 6 1 3 70 (0, fun _ => 0) 17 (Inquiry_findPairs_b17 h4 h17) := by
  unfold Inquiry_findPairs_b17
  refine s_iload dX4_findPairs_17 ?_
  refine s_aload_n dX4_findPairs_19 rfl ?_
  refine s_gi (C := RX2) (Tf := TX2) (N := 12) (i := 2) (j := 3) rfl (by decide) rfl (Or.inr ⟨_, wd_97⟩) dX4_findPairs_20 ?_
  refine s_cmge (tgt := 84) dX4_findPairs_23 (by decide) ?_ ?_
  · refine s_iinc (y := 1) dX4_findPairs_84 (by decide +kernel) (by decide) ?_
    refine s_goto (tgt := 4) dX4_findPairs_87 (by decide) ?_
    exact H4
  · refine s_bipush (x := 10) dX4_findPairs_26 (by decide +kernel) ?_
    refine s_iload_n dX4_findPairs_28 rfl ?_
    refine s_imul dX4_findPairs_29 ?_
    refine s_iload dX4_findPairs_30 ?_
    refine s_iadd dX4_findPairs_32 ?_
    refine s_istore dX4_findPairs_33 (by decide) ?_
    refine s_aload_n dX4_findPairs_35 rfl ?_
    refine s_gp (C := RX2) (Tf := TX2) (N := 12) (i := 2) (j := 8) rfl (by decide) rfl (Or.inr ⟨_, wd_90⟩) dX4_findPairs_36 ?_
    refine s_iload_n dX4_findPairs_39 rfl ?_
    refine s_cs M_G_at dX4_findPairs_40 ⟨by decide +kernel, by decide +kernel, by decide +kernel⟩ (by decide) wd_16 wd_10 (Or.inr ⟨_, wd_89⟩) ?_
    refine s_aload_n dX4_findPairs_43 rfl ?_
    refine s_gp (C := RX2) (Tf := TX2) (N := 12) (i := 2) (j := 8) rfl (by decide) rfl (Or.inr ⟨_, wd_90⟩) dX4_findPairs_44 ?_
    refine s_iload dX4_findPairs_47 ?_
    refine s_cs M_G_at dX4_findPairs_49 ⟨by decide +kernel, by decide +kernel, by decide +kernel⟩ (by decide) wd_16 wd_10 (Or.inr ⟨_, wd_89⟩) ?_
    refine s_cmeq (tgt := 78) dX4_findPairs_52 (by decide) ?_ ?_
    · exact (S_Inquiry_findPairs_b78 H4 H17)
    · refine s_aload_n dX4_findPairs_55 rfl ?_
      refine s_aload_n dX4_findPairs_56 rfl ?_
      refine s_iload dX4_findPairs_57 ?_
      refine s_cv (C := RX4) (Tf := TX4) (N := 5) (i := 4) rfl M_Inquiry_fits dX4_findPairs_59 rfl ⟨by decide +kernel, by decide +kernel, by decide +kernel⟩ (by decide) wd_99 wd_100 wd_93 (Or.inl wd_98) ?_
      refine s_ifeq (tgt := 78) dX4_findPairs_62 (by decide) ?_ ?_
      · exact (S_Inquiry_findPairs_b78 H4 H17)
      · exact (S_Inquiry_findPairs_b65 H4 H17)
def Inquiry_findPairs_l17 (h4 : ak_K) : Nat → ak_K
  | 0 => k_no
  | n + 1 => Inquiry_findPairs_b17 h4 (Inquiry_findPairs_l17 h4 n)
theorem S_Inquiry_findPairs_l17 {h4 : ak_K} (H4 : ak_S cX4_findPairs RX4 6 1 3 70 (0, fun _ => 0) 4 h4) : ∀ n : Nat, ak_S cX4_findPairs RX4 6 1 3 70 (0, fun _ => 0) 17 (Inquiry_findPairs_l17 h4 n)
  | 0 => s_no
  | n + 1 => S_Inquiry_findPairs_b17 H4 (S_Inquiry_findPairs_l17 H4 n)
def Inquiry_findPairs_b4 (h4 : ak_K) : ak_K := (k_il 3 (k_al 1 (k_gi 2 3 (k_cmge (k_il 2 k_ri) (k_il 3 (k_ci 1 (k_b (fun x y => x + y) (k_is 4 (Inquiry_findPairs_l17 h4 ak_fuel)))))))))
theorem S_Inquiry_findPairs_b4 {h4 : ak_K} (H4 : ak_S cX4_findPairs RX4 6 1 3 70 (0, fun _ => 0) 4 h4) : ak_S cX4_findPairs RX4 6 1 3 70 (0, fun _ => 0) 4 (Inquiry_findPairs_b4 h4) := by
  unfold Inquiry_findPairs_b4
  refine s_iload_n dX4_findPairs_4 rfl ?_
  refine s_aload_n dX4_findPairs_5 rfl ?_
  refine s_gi (C := RX2) (Tf := TX2) (N := 12) (i := 2) (j := 3) rfl (by decide) rfl (Or.inr ⟨_, wd_97⟩) dX4_findPairs_6 ?_
  refine s_cmge (tgt := 90) dX4_findPairs_9 (by decide) ?_ ?_
  · refine s_iload_n dX4_findPairs_90 rfl ?_
    exact s_ri rfl dX4_findPairs_91
  · refine s_iload_n dX4_findPairs_12 rfl ?_
    refine s_iconst (x := 1) dX4_findPairs_13 (by decide +kernel) ?_
    refine s_iadd dX4_findPairs_14 ?_
    refine s_istore dX4_findPairs_15 (by decide) ?_
    exact (S_Inquiry_findPairs_l17 H4 ak_fuel)
def Inquiry_findPairs_l4 : Nat → ak_K
  | 0 => k_no
  | n + 1 => Inquiry_findPairs_b4 (Inquiry_findPairs_l4 n)
theorem S_Inquiry_findPairs_l4 : ∀ n : Nat, ak_S cX4_findPairs RX4 6 1 3 70 (0, fun _ => 0) 4 (Inquiry_findPairs_l4 n)
  | 0 => s_no
  | n + 1 => S_Inquiry_findPairs_b4 (S_Inquiry_findPairs_l4 n)
def Inquiry_findPairs_b0 : ak_K := (k_ci 0 (k_is 2 (k_ci 0 (k_is 3 (Inquiry_findPairs_l4 ak_fuel)))))
theorem S_Inquiry_findPairs_b0 : ak_S cX4_findPairs RX4 6 1 3 70 (0, fun _ => 0) 0 (Inquiry_findPairs_b0) := by
  unfold Inquiry_findPairs_b0
  refine s_iconst (x := 0) dX4_findPairs_0 (by decide +kernel) ?_
  refine s_istore_n dX4_findPairs_1 rfl (by decide) ?_
  refine s_iconst (x := 0) dX4_findPairs_2 (by decide +kernel) ?_
  refine s_istore_n dX4_findPairs_3 rfl (by decide) ?_
  exact (S_Inquiry_findPairs_l4 ak_fuel)
def Inquiry_findPairs (As : List Value) (M : ak_M) : ak_R := match As with
  | [.ref a, .ref x0] => Inquiry_findPairs_b0 [some (.ref a), some (.ref x0), none, none, none, none] [] M
  | _ => none
theorem M_Inquiry_findPairs : ak_Mt yX4_findPairs cX4_findPairs 6 (some .int) 3 70 Inquiry_findPairs := by
  refine ak_met (rk := 1) wd_101 (by decide +kernel) rfl (Or.inr (Or.inl ⟨rfl, rfl⟩)) (fun h => absurd h (by decide)) S_Inquiry_findPairs_b0 (fun As M r h => ?_)
  unfold Inquiry_findPairs at h
  split at h
  next => exact ⟨Nat.le_of_ble_eq_true rfl, 4, h⟩
  next => cases h
-- GreetedMirrors$Inquiry.greatestPart(LGreetedMirrors$House;III)I
def Inquiry_greatestPart_b35 (h6 : ak_K) : ak_K := (k_ii 6 1 h6)
theorem S_Inquiry_greatestPart_b35 {h6 : ak_K} (H6 : ak_S cX4_greatestPart RX4 7 1 2 46 (0, fun _ => 0) 6 h6) : ak_S cX4_greatestPart RX4 7 1 2 46 (0, fun _ => 0) 35 (Inquiry_greatestPart_b35 h6) := by
  unfold Inquiry_greatestPart_b35
  refine s_iinc (y := 1) dX4_greatestPart_35 (by decide +kernel) (by decide) ?_
  refine s_goto (tgt := 6) dX4_greatestPart_38 (by decide) ?_
  exact H6
def Inquiry_greatestPart_b6 (h6 : ak_K) : ak_K := (k_il 6 (k_il 2 (k_cmge (k_il 5 (k_il 2 (k_il 5 (k_b (fun x y => x - y) (k_max k_ri))))) (k_al 0 (k_al 1 (k_al 0 (k_gp 4 3 (k_il 6 (k_cs 2 G_at (k_il 3 (k_cv 4 4 Inquiry_nameBy (k_il 4 (k_cmeq (k_ii 5 1 (Inquiry_greatestPart_b35 h6)) (Inquiry_greatestPart_b35 h6))))))))))))))
theorem S_Inquiry_greatestPart_b6 {h6 : ak_K} (H6 : ak_S cX4_greatestPart RX4 7 1 2 46 (0, fun _ => 0) 6 h6) : ak_S cX4_greatestPart RX4 7 1 2 46 (0, fun _ => 0) 6 (Inquiry_greatestPart_b6 h6) := by
  unfold Inquiry_greatestPart_b6
  refine s_iload dX4_greatestPart_6 ?_
  refine s_iload_n dX4_greatestPart_8 rfl ?_
  refine s_cmge (tgt := 41) dX4_greatestPart_9 (by decide) ?_ ?_
  · refine s_iload dX4_greatestPart_41 ?_
    refine s_iload_n dX4_greatestPart_43 rfl ?_
    refine s_iload dX4_greatestPart_44 ?_
    refine s_isub dX4_greatestPart_46 ?_
    refine s_max (by decide) wd_102 wd_56 wd_57 wd_58 dX4_greatestPart_47 ?_
    exact s_ri rfl dX4_greatestPart_50
  · refine s_aload_n dX4_greatestPart_12 rfl ?_
    refine s_aload_n dX4_greatestPart_13 rfl ?_
    refine s_aload_n dX4_greatestPart_14 rfl ?_
    refine s_gp (C := RX4) (Tf := TX4) (N := 5) (i := 4) (j := 3) rfl (by decide) rfl (Or.inl wd_83) dX4_greatestPart_15 ?_
    refine s_iload dX4_greatestPart_18 ?_
    refine s_cs M_G_at dX4_greatestPart_20 ⟨by decide +kernel, by decide +kernel, by decide +kernel⟩ (by decide) wd_16 wd_10 (Or.inr ⟨_, wd_89⟩) ?_
    refine s_iload_n dX4_greatestPart_23 rfl ?_
    refine s_cv (C := RX4) (Tf := TX4) (N := 5) (i := 4) rfl M_Inquiry_nameBy dX4_greatestPart_24 rfl ⟨by decide +kernel, by decide +kernel, by decide +kernel⟩ (by decide) wd_94 wd_95 wd_93 (Or.inl wd_92) ?_
    refine s_iload dX4_greatestPart_27 ?_
    refine s_cmne (tgt := 35) dX4_greatestPart_29 (by decide) ?_ ?_
    · refine s_iinc (y := 1) dX4_greatestPart_32 (by decide +kernel) (by decide) ?_
      exact (S_Inquiry_greatestPart_b35 H6)
    · exact (S_Inquiry_greatestPart_b35 H6)
def Inquiry_greatestPart_l6 : Nat → ak_K
  | 0 => k_no
  | n + 1 => Inquiry_greatestPart_b6 (Inquiry_greatestPart_l6 n)
theorem S_Inquiry_greatestPart_l6 : ∀ n : Nat, ak_S cX4_greatestPart RX4 7 1 2 46 (0, fun _ => 0) 6 (Inquiry_greatestPart_l6 n)
  | 0 => s_no
  | n + 1 => S_Inquiry_greatestPart_b6 (S_Inquiry_greatestPart_l6 n)
def Inquiry_greatestPart_b0 : ak_K := (k_ci 0 (k_is 5 (k_ci 0 (k_is 6 (Inquiry_greatestPart_l6 ak_fuel)))))
theorem S_Inquiry_greatestPart_b0 : ak_S cX4_greatestPart RX4 7 1 2 46 (0, fun _ => 0) 0 (Inquiry_greatestPart_b0) := by
  unfold Inquiry_greatestPart_b0
  refine s_iconst (x := 0) dX4_greatestPart_0 (by decide +kernel) ?_
  refine s_istore dX4_greatestPart_1 (by decide) ?_
  refine s_iconst (x := 0) dX4_greatestPart_3 (by decide +kernel) ?_
  refine s_istore dX4_greatestPart_4 (by decide) ?_
  exact (S_Inquiry_greatestPart_l6 ak_fuel)
def Inquiry_greatestPart (As : List Value) (M : ak_M) : ak_R := match As with
  | [.ref a, .ref x0, .int x1, .int x2, .int x3] => Inquiry_greatestPart_b0 [some (.ref a), some (.ref x0), some (.int x1), some (.int x2), some (.int x3), none, none] [] M
  | _ => none
theorem M_Inquiry_greatestPart : ak_Mt yX4_greatestPart cX4_greatestPart 7 (some .int) 2 46 Inquiry_greatestPart := by
  refine ak_met (rk := 1) wd_103 (by decide +kernel) rfl (Or.inr (Or.inl ⟨rfl, rfl⟩)) (fun h => absurd h (by decide)) S_Inquiry_greatestPart_b0 (fun As M r h => ?_)
  unfold Inquiry_greatestPart at h
  split at h
  next => exact ⟨Nat.le_of_ble_eq_true rfl, 2, h⟩
  next => cases h
-- GreetedMirrors$Inquiry.bestQuestion(LGreetedMirrors$House;)I
def Inquiry_bestQuestion_b86 (h35 : ak_K) (h47 : ak_K) : ak_K := (k_ii 6 1 h47)
theorem S_Inquiry_bestQuestion_b86 {h35 : ak_K} (H35 : ak_S cX4_bestQuestion RX4 8 1 4 95 (0, fun _ => 0) 35 h35) {h47 : ak_K} (H47 : ak_S cX4_bestQuestion RX4 8 1 4 95 (0, fun _ => 0) 47 h47) : ak_S cX4_bestQuestion RX4 8 1 4 95 (0, fun _ => 0) 86 (Inquiry_bestQuestion_b86 h35 h47) := by
  unfold Inquiry_bestQuestion_b86
  refine s_iinc (y := 1) dX4_bestQuestion_86 (by decide +kernel) (by decide) ?_
  refine s_goto (tgt := 47) dX4_bestQuestion_89 (by decide) ?_
  exact H47
def Inquiry_bestQuestion_b47 (h35 : ak_K) (h47 : ak_K) : ak_K := (k_il 6 (k_ci 10 (k_cmge (k_ii 5 1 h35) (k_al 0 (k_al 1 (k_il 2 (k_il 5 (k_il 6 (k_cv 4 5 Inquiry_greatestPart (k_is 7 (k_il 7 (k_il 4 (k_cmge (Inquiry_bestQuestion_b86 h35 h47) (k_il 7 (k_is 4 (k_ci 10 (k_il 5 (k_b (fun x y => x * y) (k_il 6 (k_b (fun x y => x + y) (k_is 3 (Inquiry_bestQuestion_b86 h35 h47))))))))))))))))))))))
theorem S_Inquiry_bestQuestion_b47 {h35 : ak_K} (H35 : ak_S cX4_bestQuestion RX4 8 1 4 95 (0, fun _ => 0) 35 h35) {h47 : ak_K} (H47 : ak_S cX4_bestQuestion RX4 8 1 4 95 (0, fun _ => 0) 47 h47) : ak_S cX4_bestQuestion RX4 8 1 4 95 (0, fun _ => 0) 47 (Inquiry_bestQuestion_b47 h35 h47) := by
  unfold Inquiry_bestQuestion_b47
  refine s_iload dX4_bestQuestion_47 ?_
  refine s_bipush (x := 10) dX4_bestQuestion_49 (by decide +kernel) ?_
  refine s_cmge (tgt := 92) dX4_bestQuestion_51 (by decide) ?_ ?_
  · refine s_iinc (y := 1) dX4_bestQuestion_92 (by decide +kernel) (by decide) ?_
    refine s_goto (tgt := 35) dX4_bestQuestion_95 (by decide) ?_
    exact H35
  · refine s_aload_n dX4_bestQuestion_54 rfl ?_
    refine s_aload_n dX4_bestQuestion_55 rfl ?_
    refine s_iload_n dX4_bestQuestion_56 rfl ?_
    refine s_iload dX4_bestQuestion_57 ?_
    refine s_iload dX4_bestQuestion_59 ?_
    refine s_cv (C := RX4) (Tf := TX4) (N := 5) (i := 4) rfl M_Inquiry_greatestPart dX4_bestQuestion_61 rfl ⟨by decide +kernel, by decide +kernel, by decide +kernel⟩ (by decide) wd_105 wd_106 wd_93 (Or.inl wd_104) ?_
    refine s_istore dX4_bestQuestion_64 (by decide) ?_
    refine s_iload dX4_bestQuestion_66 ?_
    refine s_iload dX4_bestQuestion_68 ?_
    refine s_cmge (tgt := 86) dX4_bestQuestion_70 (by decide) ?_ ?_
    · exact (S_Inquiry_bestQuestion_b86 H35 H47)
    · refine s_iload dX4_bestQuestion_73 ?_
      refine s_istore dX4_bestQuestion_75 (by decide) ?_
      refine s_bipush (x := 10) dX4_bestQuestion_77 (by decide +kernel) ?_
      refine s_iload dX4_bestQuestion_79 ?_
      refine s_imul dX4_bestQuestion_81 ?_
      refine s_iload dX4_bestQuestion_82 ?_
      refine s_iadd dX4_bestQuestion_84 ?_
      refine s_istore_n dX4_bestQuestion_85 rfl (by decide) ?_
      exact (S_Inquiry_bestQuestion_b86 H35 H47)
def Inquiry_bestQuestion_l47 (h35 : ak_K) : Nat → ak_K
  | 0 => k_no
  | n + 1 => Inquiry_bestQuestion_b47 h35 (Inquiry_bestQuestion_l47 h35 n)
theorem S_Inquiry_bestQuestion_l47 {h35 : ak_K} (H35 : ak_S cX4_bestQuestion RX4 8 1 4 95 (0, fun _ => 0) 35 h35) : ∀ n : Nat, ak_S cX4_bestQuestion RX4 8 1 4 95 (0, fun _ => 0) 47 (Inquiry_bestQuestion_l47 h35 n)
  | 0 => s_no
  | n + 1 => S_Inquiry_bestQuestion_b47 H35 (S_Inquiry_bestQuestion_l47 H35 n)
def Inquiry_bestQuestion_b35 (h35 : ak_K) : ak_K := (k_il 5 (k_al 1 (k_gi 2 3 (k_cmge (k_il 3 k_ri) (k_ci 0 (k_is 6 (Inquiry_bestQuestion_l47 h35 ak_fuel)))))))
theorem S_Inquiry_bestQuestion_b35 {h35 : ak_K} (H35 : ak_S cX4_bestQuestion RX4 8 1 4 95 (0, fun _ => 0) 35 h35) : ak_S cX4_bestQuestion RX4 8 1 4 95 (0, fun _ => 0) 35 (Inquiry_bestQuestion_b35 h35) := by
  unfold Inquiry_bestQuestion_b35
  refine s_iload dX4_bestQuestion_35 ?_
  refine s_aload_n dX4_bestQuestion_37 rfl ?_
  refine s_gi (C := RX2) (Tf := TX2) (N := 12) (i := 2) (j := 3) rfl (by decide) rfl (Or.inr ⟨_, wd_97⟩) dX4_bestQuestion_38 ?_
  refine s_cmge (tgt := 98) dX4_bestQuestion_41 (by decide) ?_ ?_
  · refine s_iload_n dX4_bestQuestion_98 rfl ?_
    exact s_ri rfl dX4_bestQuestion_99
  · refine s_iconst (x := 0) dX4_bestQuestion_44 (by decide +kernel) ?_
    refine s_istore dX4_bestQuestion_45 (by decide) ?_
    exact (S_Inquiry_bestQuestion_l47 H35 ak_fuel)
def Inquiry_bestQuestion_l35 : Nat → ak_K
  | 0 => k_no
  | n + 1 => Inquiry_bestQuestion_b35 (Inquiry_bestQuestion_l35 n)
theorem S_Inquiry_bestQuestion_l35 : ∀ n : Nat, ak_S cX4_bestQuestion RX4 8 1 4 95 (0, fun _ => 0) 35 (Inquiry_bestQuestion_l35 n)
  | 0 => s_no
  | n + 1 => S_Inquiry_bestQuestion_b35 (S_Inquiry_bestQuestion_l35 n)
def Inquiry_bestQuestion_b27 : ak_K := (k_ci (-1) (k_is 3 (k_il 2 (k_is 4 (k_ci 0 (k_is 5 (Inquiry_bestQuestion_l35 ak_fuel)))))))
theorem S_Inquiry_bestQuestion_b27 : ak_S cX4_bestQuestion RX4 8 1 4 95 (0, fun _ => 0) 27 (Inquiry_bestQuestion_b27) := by
  unfold Inquiry_bestQuestion_b27
  refine s_iconst (x := (-1)) dX4_bestQuestion_27 (by decide +kernel) ?_
  refine s_istore_n dX4_bestQuestion_28 rfl (by decide) ?_
  refine s_iload_n dX4_bestQuestion_29 rfl ?_
  refine s_istore dX4_bestQuestion_30 (by decide) ?_
  refine s_iconst (x := 0) dX4_bestQuestion_32 (by decide +kernel) ?_
  refine s_istore dX4_bestQuestion_33 (by decide) ?_
  exact (S_Inquiry_bestQuestion_l35 ak_fuel)
def Inquiry_bestQuestion_b0 : ak_K := (k_al 0 (k_al 1 (k_cv 4 2 Inquiry_findPairs (k_is 2 (k_al 0 (k_al 1 (k_ci 0 (k_cv 4 3 Inquiry_fits (k_ifeq Inquiry_bestQuestion_b27 (k_al 0 (k_gp 4 3 (k_il 2 (k_ci 0 (k_cs 3 G_put (k_ii 2 1 Inquiry_bestQuestion_b27)))))))))))))))
theorem S_Inquiry_bestQuestion_b0 : ak_S cX4_bestQuestion RX4 8 1 4 95 (0, fun _ => 0) 0 (Inquiry_bestQuestion_b0) := by
  unfold Inquiry_bestQuestion_b0
  refine s_aload_n dX4_bestQuestion_0 rfl ?_
  refine s_aload_n dX4_bestQuestion_1 rfl ?_
  refine s_cv (C := RX4) (Tf := TX4) (N := 5) (i := 4) rfl M_Inquiry_findPairs dX4_bestQuestion_2 rfl ⟨by decide +kernel, by decide +kernel, by decide +kernel⟩ (by decide) wd_108 wd_109 wd_93 (Or.inl wd_107) ?_
  refine s_istore_n dX4_bestQuestion_5 rfl (by decide) ?_
  refine s_aload_n dX4_bestQuestion_6 rfl ?_
  refine s_aload_n dX4_bestQuestion_7 rfl ?_
  refine s_iconst (x := 0) dX4_bestQuestion_8 (by decide +kernel) ?_
  refine s_cv (C := RX4) (Tf := TX4) (N := 5) (i := 4) rfl M_Inquiry_fits dX4_bestQuestion_9 rfl ⟨by decide +kernel, by decide +kernel, by decide +kernel⟩ (by decide) wd_99 wd_100 wd_93 (Or.inl wd_98) ?_
  refine s_ifeq (tgt := 27) dX4_bestQuestion_12 (by decide) ?_ ?_
  · exact S_Inquiry_bestQuestion_b27
  · refine s_aload_n dX4_bestQuestion_15 rfl ?_
    refine s_gp (C := RX4) (Tf := TX4) (N := 5) (i := 4) (j := 3) rfl (by decide) rfl (Or.inl wd_83) dX4_bestQuestion_16 ?_
    refine s_iload_n dX4_bestQuestion_19 rfl ?_
    refine s_iconst (x := 0) dX4_bestQuestion_20 (by decide +kernel) ?_
    refine s_cs M_G_put dX4_bestQuestion_21 ⟨by decide +kernel, by decide +kernel, by decide +kernel⟩ (by decide) wd_11 wd_10 (Or.inr ⟨_, wd_85⟩) ?_
    refine s_iinc (y := 1) dX4_bestQuestion_24 (by decide +kernel) (by decide) ?_
    exact S_Inquiry_bestQuestion_b27
def Inquiry_bestQuestion (As : List Value) (M : ak_M) : ak_R := match As with
  | [.ref a, .ref x0] => Inquiry_bestQuestion_b0 [some (.ref a), some (.ref x0), none, none, none, none, none, none] [] M
  | _ => none
theorem M_Inquiry_bestQuestion : ak_Mt yX4_bestQuestion cX4_bestQuestion 8 (some .int) 4 95 Inquiry_bestQuestion := by
  refine ak_met (rk := 1) wd_110 (by decide +kernel) rfl (Or.inr (Or.inl ⟨rfl, rfl⟩)) (fun h => absurd h (by decide)) S_Inquiry_bestQuestion_b0 (fun As M r h => ?_)
  unfold Inquiry_bestQuestion at h
  split at h
  next => exact ⟨Nat.le_of_ble_eq_true rfl, 6, h⟩
  next => cases h
-- GreetedMirrors$Inquiry.namesThatFit(I)I
def Inquiry_namesThatFit_b65 (h6 : ak_K) : ak_K := (k_ii 3 1 h6)
theorem S_Inquiry_namesThatFit_b65 {h6 : ak_K} (H6 : ak_S cX4_namesThatFit RX4 5 1 1 22 (0, fun _ => 0) 6 h6) : ak_S cX4_namesThatFit RX4 5 1 1 22 (0, fun _ => 0) 65 (Inquiry_namesThatFit_b65 h6) := by
  unfold Inquiry_namesThatFit_b65
  refine s_iinc (y := 1) dX4_namesThatFit_65 (by decide +kernel) (by decide) ?_
  refine s_goto (tgt := 6) dX4_namesThatFit_68 (by decide) ?_
  exact H6
def Inquiry_namesThatFit_b63 (h6 : ak_K) : ak_K := (k_b (fun x y => x &&& y) (k_is 2 (Inquiry_namesThatFit_b65 h6)))
theorem S_Inquiry_namesThatFit_b63 {h6 : ak_K} (H6 : ak_S cX4_namesThatFit RX4 5 1 1 22 (0, fun _ => 0) 6 h6) : ak_S cX4_namesThatFit RX4 5 1 1 22 (0, fun _ => 0) 63 (Inquiry_namesThatFit_b63 h6) := by
  unfold Inquiry_namesThatFit_b63
  refine s_iand dX4_namesThatFit_63 ?_
  refine s_istore_n dX4_namesThatFit_64 rfl (by decide) ?_
  exact (S_Inquiry_namesThatFit_b65 H6)
def Inquiry_namesThatFit_b51 (h6 : ak_K) : ak_K := (k_cmeq (k_il 4 (Inquiry_namesThatFit_b63 h6)) (k_il 4 (k_ci (-1) (k_b (fun x y => x ^^^ y) (Inquiry_namesThatFit_b63 h6)))))
theorem S_Inquiry_namesThatFit_b51 {h6 : ak_K} (H6 : ak_S cX4_namesThatFit RX4 5 1 1 22 (0, fun _ => 0) 6 h6) : ak_S cX4_namesThatFit RX4 5 1 1 22 (0, fun _ => 0) 51 (Inquiry_namesThatFit_b51 h6) := by
  unfold Inquiry_namesThatFit_b51
  refine s_cmne (tgt := 59) dX4_namesThatFit_51 (by decide) ?_ ?_
  · refine s_iload dX4_namesThatFit_54 ?_
    refine s_goto (tgt := 63) dX4_namesThatFit_56 (by decide) ?_
    exact (S_Inquiry_namesThatFit_b63 H6)
  · refine s_iload dX4_namesThatFit_59 ?_
    refine s_iconst (x := (-1)) dX4_namesThatFit_61 (by decide +kernel) ?_
    refine s_ixor dX4_namesThatFit_62 ?_
    exact (S_Inquiry_namesThatFit_b63 H6)
def Inquiry_namesThatFit_b6 (h6 : ak_K) : ak_K := (k_il 3 (k_al 0 (k_gi 4 4 (k_cmge (k_il 2 k_ri) (k_al 0 (k_gp 4 0 (k_il 3 (k_cs 2 G_at (k_il 1 (k_cmeq (k_ci 0 (k_al 0 (k_gp 4 1 (k_il 3 (k_cs 2 G_at (k_ci 1 (k_cs 3 G_with (k_is 4 (k_il 2 (k_al 0 (k_gp 4 2 (k_il 3 (k_cs 2 G_at (k_ci 1 (Inquiry_namesThatFit_b51 h6))))))))))))))) (Inquiry_namesThatFit_b65 h6)))))))))))
theorem S_Inquiry_namesThatFit_b6 {h6 : ak_K} (H6 : ak_S cX4_namesThatFit RX4 5 1 1 22 (0, fun _ => 0) 6 h6) : ak_S cX4_namesThatFit RX4 5 1 1 22 (0, fun _ => 0) 6 (Inquiry_namesThatFit_b6 h6) := by
  unfold Inquiry_namesThatFit_b6
  refine s_iload_n dX4_namesThatFit_6 rfl ?_
  refine s_aload_n dX4_namesThatFit_7 rfl ?_
  refine s_gi (C := RX4) (Tf := TX4) (N := 5) (i := 4) (j := 4) rfl (by decide) rfl (Or.inl wd_86) dX4_namesThatFit_8 ?_
  refine s_cmge (tgt := 71) dX4_namesThatFit_11 (by decide) ?_ ?_
  · refine s_iload_n dX4_namesThatFit_71 rfl ?_
    exact s_ri rfl dX4_namesThatFit_72
  · refine s_aload_n dX4_namesThatFit_14 rfl ?_
    refine s_gp (C := RX4) (Tf := TX4) (N := 5) (i := 4) (j := 0) rfl (by decide) rfl (Or.inl wd_80) dX4_namesThatFit_15 ?_
    refine s_iload_n dX4_namesThatFit_18 rfl ?_
    refine s_cs M_G_at dX4_namesThatFit_19 ⟨by decide +kernel, by decide +kernel, by decide +kernel⟩ (by decide) wd_16 wd_10 (Or.inr ⟨_, wd_89⟩) ?_
    refine s_iload_n dX4_namesThatFit_22 rfl ?_
    refine s_cmne (tgt := 65) dX4_namesThatFit_23 (by decide) ?_ ?_
    · refine s_iconst (x := 0) dX4_namesThatFit_26 (by decide +kernel) ?_
      refine s_aload_n dX4_namesThatFit_27 rfl ?_
      refine s_gp (C := RX4) (Tf := TX4) (N := 5) (i := 4) (j := 1) rfl (by decide) rfl (Or.inl wd_81) dX4_namesThatFit_28 ?_
      refine s_iload_n dX4_namesThatFit_31 rfl ?_
      refine s_cs M_G_at dX4_namesThatFit_32 ⟨by decide +kernel, by decide +kernel, by decide +kernel⟩ (by decide) wd_16 wd_10 (Or.inr ⟨_, wd_89⟩) ?_
      refine s_iconst (x := 1) dX4_namesThatFit_35 (by decide +kernel) ?_
      refine s_cs M_G_with dX4_namesThatFit_36 ⟨by decide +kernel, by decide +kernel, by decide +kernel⟩ (by decide) wd_52 wd_10 (Or.inr ⟨_, wd_111⟩) ?_
      refine s_istore dX4_namesThatFit_39 (by decide) ?_
      refine s_iload_n dX4_namesThatFit_41 rfl ?_
      refine s_aload_n dX4_namesThatFit_42 rfl ?_
      refine s_gp (C := RX4) (Tf := TX4) (N := 5) (i := 4) (j := 2) rfl (by decide) rfl (Or.inl wd_82) dX4_namesThatFit_43 ?_
      refine s_iload_n dX4_namesThatFit_46 rfl ?_
      refine s_cs M_G_at dX4_namesThatFit_47 ⟨by decide +kernel, by decide +kernel, by decide +kernel⟩ (by decide) wd_16 wd_10 (Or.inr ⟨_, wd_89⟩) ?_
      refine s_iconst (x := 1) dX4_namesThatFit_50 (by decide +kernel) ?_
      exact (S_Inquiry_namesThatFit_b51 H6)
    · exact (S_Inquiry_namesThatFit_b65 H6)
def Inquiry_namesThatFit_l6 : Nat → ak_K
  | 0 => k_no
  | n + 1 => Inquiry_namesThatFit_b6 (Inquiry_namesThatFit_l6 n)
theorem S_Inquiry_namesThatFit_l6 : ∀ n : Nat, ak_S cX4_namesThatFit RX4 5 1 1 22 (0, fun _ => 0) 6 (Inquiry_namesThatFit_l6 n)
  | 0 => s_no
  | n + 1 => S_Inquiry_namesThatFit_b6 (S_Inquiry_namesThatFit_l6 n)
def Inquiry_namesThatFit_b0 : ak_K := (k_ci 1023 (k_is 2 (k_ci 0 (k_is 3 (Inquiry_namesThatFit_l6 ak_fuel)))))
theorem S_Inquiry_namesThatFit_b0 : ak_S cX4_namesThatFit RX4 5 1 1 22 (0, fun _ => 0) 0 (Inquiry_namesThatFit_b0) := by
  unfold Inquiry_namesThatFit_b0
  refine s_sipush (x := 1023) dX4_namesThatFit_0 (by decide +kernel) ?_
  refine s_istore_n dX4_namesThatFit_3 rfl (by decide) ?_
  refine s_iconst (x := 0) dX4_namesThatFit_4 (by decide +kernel) ?_
  refine s_istore_n dX4_namesThatFit_5 rfl (by decide) ?_
  exact (S_Inquiry_namesThatFit_l6 ak_fuel)
def Inquiry_namesThatFit (As : List Value) (M : ak_M) : ak_R := match As with
  | [.ref a, .int x0] => Inquiry_namesThatFit_b0 [some (.ref a), some (.int x0), none, none, none] [] M
  | _ => none
theorem M_Inquiry_namesThatFit : ak_Mt yX4_namesThatFit cX4_namesThatFit 5 (some .int) 1 22 Inquiry_namesThatFit := by
  refine ak_met (rk := 1) wd_112 (by decide +kernel) rfl (Or.inr (Or.inl ⟨rfl, rfl⟩)) (fun h => absurd h (by decide)) S_Inquiry_namesThatFit_b0 (fun As M r h => ?_)
  unfold Inquiry_namesThatFit at h
  split at h
  next => exact ⟨Nat.le_of_ble_eq_true rfl, 3, h⟩
  next => cases h
-- GreetedMirrors$Past.<init>()V
def Past_init_b15 (h15 : ak_K) : ak_K := (k_il 1 (k_al 0 (k_gp 5 0 (k_len (k_cmge k_rv (k_al 0 (k_gp 5 0 (k_il 1 (k_new 8 12 (k_dup (k_cn0 1 State_init (k_qst (k_ii 1 1 h15)))))))))))))
theorem S_Past_init_b15 {h15 : ak_K} (H15 : ak_S cX5_init RX5 2 5 2 40 (0, fun _ => 0) 15 h15) : ak_S cX5_init RX5 2 5 2 40 (0, fun _ => 0) 15 (Past_init_b15 h15) := by
  unfold Past_init_b15
  refine s_iload_n dX5_init_15 rfl ?_
  refine s_aload_n dX5_init_16 rfl ?_
  refine s_gp (C := RX5) (Tf := TX5) (N := 3) (i := 5) (j := 0) rfl (by decide) rfl (Or.inl wd_113) dX5_init_17 ?_
  refine s_len dX5_init_20 ?_
  refine s_cmge (tgt := 43) dX5_init_21 (by decide) ?_ ?_
  · exact s_rv (Or.inr rfl) dX5_init_43
  · refine s_aload_n dX5_init_24 rfl ?_
    refine s_gp (C := RX5) (Tf := TX5) (N := 3) (i := 5) (j := 0) rfl (by decide) rfl (Or.inl wd_113) dX5_init_25 ?_
    refine s_iload_n dX5_init_28 rfl ?_
    refine s_new (C := RX8) (Tf := TX8) (N := 12) (i := 8) rfl wd_114 wd_73 wd_74 dX5_init_29 ?_
    refine s_dup dX5_init_32 ?_
    refine s_cn0 M_State_init dX5_init_33 rfl ⟨by decide +kernel, by decide +kernel, by decide +kernel⟩ (by decide) wd_76 wd_74 (Or.inr ⟨_, wd_115⟩) ?_
    refine s_qst dX5_init_36 ?_
    refine s_iinc (y := 1) dX5_init_37 (by decide +kernel) (by decide) ?_
    refine s_goto (tgt := 15) dX5_init_40 (by decide) ?_
    exact H15
def Past_init_l15 : Nat → ak_K
  | 0 => k_no
  | n + 1 => Past_init_b15 (Past_init_l15 n)
theorem S_Past_init_l15 : ∀ n : Nat, ak_S cX5_init RX5 2 5 2 40 (0, fun _ => 0) 15 (Past_init_l15 n)
  | 0 => s_no
  | n + 1 => S_Past_init_b15 (S_Past_init_l15 n)
def Past_init_b0 : ak_K := (k_al 0 (k_obj (k_al 0 (k_ci 20 (k_na 3 (k_pp 5 0 (k_ci 0 (k_is 1 (Past_init_l15 ak_fuel)))))))))
theorem S_Past_init_b0 : ak_S cX5_init RX5 2 5 2 40 (0, fun _ => 0) 0 (Past_init_b0) := by
  unfold Past_init_b0
  refine s_aload_n dX5_init_0 rfl ?_
  refine s_obj (by decide) wd_116 wd_1 wd_2 dX5_init_1 ?_
  refine s_aload_n dX5_init_4 rfl ?_
  refine s_bipush (x := 20) dX5_init_5 (by decide +kernel) ?_
  refine s_nq wd_114 dX5_init_7 ?_
  refine s_pp (C := RX5) (Tf := TX5) (N := 3) (i := 5) (j := 0) rfl (by decide) rfl (Or.inl ⟨wd_113, Or.inr ⟨rfl, rfl, rfl⟩⟩) dX5_init_10 ?_
  refine s_iconst (x := 0) dX5_init_13 (by decide +kernel) ?_
  refine s_istore_n dX5_init_14 rfl (by decide) ?_
  exact (S_Past_init_l15 ak_fuel)
def Past_init (As : List Value) (M : ak_M) : ak_R := match As with
  | [.ref a] => Past_init_b0 [some (.ref a), none] [] M
  | _ => none
theorem M_Past_init : ak_Mt yX5_init cX5_init 2 none 2 40 Past_init := by
  refine ak_met (rk := 5) wd_117 (by decide +kernel) rfl (Or.inl ⟨Or.inr rfl, rfl⟩) (fun h => rfl) S_Past_init_b0 (fun As M r h => ?_)
  unfold Past_init at h
  split at h
  next => exact ⟨Nat.le_of_ble_eq_true rfl, 1, h⟩
  next => cases h
-- GreetedMirrors$Past.stateAt(I)LGreetedMirrors$State;
def Past_stateAt_b23 : ak_K := k_rq
theorem S_Past_stateAt_b23 : ak_S cX5_stateAt RX5 2 3 0 0 (0, fun _ => 0) 23 (Past_stateAt_b23) := by
  unfold Past_stateAt_b23
  exact s_rq rfl dX5_stateAt_23
def Past_stateAt_b22 : ak_K := (k_cn Past_stateAt_b23)
theorem S_Past_stateAt_b22 : ak_S cX5_stateAt RX5 2 3 0 0 (0, fun _ => 0) 22 (Past_stateAt_b22) := by
  unfold Past_stateAt_b22
  refine s_null dX5_stateAt_22 ?_
  exact S_Past_stateAt_b23
def Past_stateAt_b0 : ak_K := (k_il 1 (k_iflt Past_stateAt_b22 (k_il 1 (k_al 0 (k_gp 5 0 (k_len (k_cmge Past_stateAt_b22 (k_al 0 (k_gp 5 0 (k_il 1 (k_qld Past_stateAt_b23)))))))))))
theorem S_Past_stateAt_b0 : ak_S cX5_stateAt RX5 2 3 0 0 (0, fun _ => 0) 0 (Past_stateAt_b0) := by
  unfold Past_stateAt_b0
  refine s_iload_n dX5_stateAt_0 rfl ?_
  refine s_iflt (tgt := 22) dX5_stateAt_1 (by decide) ?_ ?_
  · exact S_Past_stateAt_b22
  · refine s_iload_n dX5_stateAt_4 rfl ?_
    refine s_aload_n dX5_stateAt_5 rfl ?_
    refine s_gp (C := RX5) (Tf := TX5) (N := 3) (i := 5) (j := 0) rfl (by decide) rfl (Or.inl wd_113) dX5_stateAt_6 ?_
    refine s_len dX5_stateAt_9 ?_
    refine s_cmge (tgt := 22) dX5_stateAt_10 (by decide) ?_ ?_
    · exact S_Past_stateAt_b22
    · refine s_aload_n dX5_stateAt_13 rfl ?_
      refine s_gp (C := RX5) (Tf := TX5) (N := 3) (i := 5) (j := 0) rfl (by decide) rfl (Or.inl wd_113) dX5_stateAt_14 ?_
      refine s_iload_n dX5_stateAt_17 rfl ?_
      refine s_qld dX5_stateAt_18 ?_
      refine s_goto (tgt := 23) dX5_stateAt_19 (by decide) ?_
      exact S_Past_stateAt_b23
def Past_stateAt (As : List Value) (M : ak_M) : ak_R := match As with
  | [.ref a, .int x0] => Past_stateAt_b0 [some (.ref a), some (.int x0)] [] M
  | _ => none
theorem M_Past_stateAt : ak_Mt yX5_stateAt cX5_stateAt 2 (some (.object "GreetedMirrors$State")) 0 0 Past_stateAt := by
  refine ak_met (rk := 3) wd_118 (by decide +kernel) rfl (Or.inr (Or.inr (Or.inr ⟨rfl, _, rfl⟩))) (fun h => absurd h (by decide)) S_Past_stateAt_b0 (fun As M r h => ?_)
  unfold Past_stateAt at h
  split at h
  next => exact ⟨Nat.le_of_ble_eq_true rfl, 0, h⟩
  next => cases h
-- GreetedMirrors.copy([I[I)V
def G_copy_b26 : ak_K := k_rv
theorem S_G_copy_b26 : ak_S cX9_copy RX9 3 0 0 0 (0, fun _ => 0) 26 (G_copy_b26) := by
  unfold G_copy_b26
  exact s_rv (Or.inl rfl) dX9_copy_26
def G_copy_b2 (h2 : ak_K) : ak_K := (k_il 2 (k_al 0 (k_len (k_cmge G_copy_b26 (k_il 2 (k_al 1 (k_len (k_cmge G_copy_b26 (k_al 1 (k_il 2 (k_al 0 (k_il 2 (k_ald (k_ast (k_ii 2 1 h2)))))))))))))))
theorem S_G_copy_b2 {h2 : ak_K} (H2 : ak_S cX9_copy RX9 3 0 0 0 (0, fun _ => 0) 2 h2) : ak_S cX9_copy RX9 3 0 0 0 (0, fun _ => 0) 2 (G_copy_b2 h2) := by
  unfold G_copy_b2
  refine s_iload_n dX9_copy_2 rfl ?_
  refine s_aload_n dX9_copy_3 rfl ?_
  refine s_len dX9_copy_4 ?_
  refine s_cmge (tgt := 26) dX9_copy_5 (by decide) ?_ ?_
  · exact S_G_copy_b26
  · refine s_iload_n dX9_copy_8 rfl ?_
    refine s_aload_n dX9_copy_9 rfl ?_
    refine s_len dX9_copy_10 ?_
    refine s_cmge (tgt := 26) dX9_copy_11 (by decide) ?_ ?_
    · exact S_G_copy_b26
    · refine s_aload_n dX9_copy_14 rfl ?_
      refine s_iload_n dX9_copy_15 rfl ?_
      refine s_aload_n dX9_copy_16 rfl ?_
      refine s_iload_n dX9_copy_17 rfl ?_
      refine s_ald dX9_copy_18 ?_
      refine s_ast dX9_copy_19 ?_
      refine s_iinc (y := 1) dX9_copy_20 (by decide +kernel) (by decide) ?_
      refine s_goto (tgt := 2) dX9_copy_23 (by decide) ?_
      exact H2
def G_copy_l2 : Nat → ak_K
  | 0 => k_no
  | n + 1 => G_copy_b2 (G_copy_l2 n)
theorem S_G_copy_l2 : ∀ n : Nat, ak_S cX9_copy RX9 3 0 0 0 (0, fun _ => 0) 2 (G_copy_l2 n)
  | 0 => s_no
  | n + 1 => S_G_copy_b2 (S_G_copy_l2 n)
def G_copy_b0 : ak_K := (k_ci 0 (k_is 2 (G_copy_l2 ak_fuel)))
theorem S_G_copy_b0 : ak_S cX9_copy RX9 3 0 0 0 (0, fun _ => 0) 0 (G_copy_b0) := by
  unfold G_copy_b0
  refine s_iconst (x := 0) dX9_copy_0 (by decide +kernel) ?_
  refine s_istore_n dX9_copy_1 rfl (by decide) ?_
  exact (S_G_copy_l2 ak_fuel)
def G_copy (As : List Value) (M : ak_M) : ak_R := match As with
  | [.ref x0, .ref x1] => G_copy_b0 [some (.ref x0), some (.ref x1), none] [] M
  | _ => none
theorem M_G_copy : ak_Mt yX9_copy cX9_copy 3 none 0 0 G_copy := by
  refine ak_met (rk := 0) wd_119 (by decide +kernel) rfl (Or.inl ⟨Or.inl rfl, rfl⟩) (fun h => absurd h (by decide)) S_G_copy_b0 (fun As M r h => ?_)
  unfold G_copy at h
  split at h
  next => exact ⟨Nat.le_of_ble_eq_true rfl, 1, h⟩
  next => cases h
-- GreetedMirrors$State.become(LGreetedMirrors$State;)V
def State_become_b98 : ak_K := (k_gp 8 11 (k_al 0 (k_gp 8 11 (k_cs 2 G_copy k_rv))))
theorem S_State_become_b98 : ak_S cX8_become RX8 2 0 1 22 (0, fun _ => 0) 98 (State_become_b98) := by
  unfold State_become_b98
  refine s_gp (C := RX8) (Tf := TX8) (N := 12) (i := 8) (j := 11) rfl (by decide) rfl (Or.inl wd_69) dX8_become_98 ?_
  refine s_aload_n dX8_become_101 rfl ?_
  refine s_gp (C := RX8) (Tf := TX8) (N := 12) (i := 8) (j := 11) rfl (by decide) rfl (Or.inl wd_69) dX8_become_102 ?_
  refine s_cs M_G_copy dX8_become_105 ⟨by decide +kernel, by decide +kernel, by decide +kernel⟩ (by decide) wd_121 wd_10 (Or.inr ⟨_, wd_120⟩) ?_
  exact s_rv (Or.inl rfl) dX8_become_108
def State_become_b48 : ak_K := (k_al 0 (k_al 1 (k_gi 8 6 (k_pi 8 6 (k_al 0 (k_al 1 (k_gi 8 7 (k_pi 8 7 (k_al 1 (k_gp 8 8 (k_al 0 (k_gp 8 8 (k_cs 2 G_copy (k_al 1 (k_gp 8 9 (k_al 0 (k_gp 8 9 (k_cs 2 G_copy (k_al 1 (k_gp 8 10 (k_al 0 (k_gp 8 10 (k_cs 2 G_copy (k_al 1 State_become_b98))))))))))))))))))))))))
theorem S_State_become_b48 : ak_S cX8_become RX8 2 0 1 22 (0, fun _ => 0) 48 (State_become_b48) := by
  unfold State_become_b48
  refine s_aload_n dX8_become_48 rfl ?_
  refine s_aload_n dX8_become_49 rfl ?_
  refine s_gi (C := RX8) (Tf := TX8) (N := 12) (i := 8) (j := 6) rfl (by decide) rfl (Or.inl wd_122) dX8_become_50 ?_
  refine s_pi (C := RX8) (Tf := TX8) (N := 12) (i := 8) (j := 6) rfl (by decide) rfl (Or.inl ⟨wd_122, Or.inl rfl⟩) dX8_become_53 ?_
  refine s_aload_n dX8_become_56 rfl ?_
  refine s_aload_n dX8_become_57 rfl ?_
  refine s_gi (C := RX8) (Tf := TX8) (N := 12) (i := 8) (j := 7) rfl (by decide) rfl (Or.inl wd_123) dX8_become_58 ?_
  refine s_pi (C := RX8) (Tf := TX8) (N := 12) (i := 8) (j := 7) rfl (by decide) rfl (Or.inl ⟨wd_123, Or.inl rfl⟩) dX8_become_61 ?_
  refine s_aload_n dX8_become_64 rfl ?_
  refine s_gp (C := RX8) (Tf := TX8) (N := 12) (i := 8) (j := 8) rfl (by decide) rfl (Or.inl wd_66) dX8_become_65 ?_
  refine s_aload_n dX8_become_68 rfl ?_
  refine s_gp (C := RX8) (Tf := TX8) (N := 12) (i := 8) (j := 8) rfl (by decide) rfl (Or.inl wd_66) dX8_become_69 ?_
  refine s_cs M_G_copy dX8_become_72 ⟨by decide +kernel, by decide +kernel, by decide +kernel⟩ (by decide) wd_121 wd_10 (Or.inr ⟨_, wd_120⟩) ?_
  refine s_aload_n dX8_become_75 rfl ?_
  refine s_gp (C := RX8) (Tf := TX8) (N := 12) (i := 8) (j := 9) rfl (by decide) rfl (Or.inl wd_67) dX8_become_76 ?_
  refine s_aload_n dX8_become_79 rfl ?_
  refine s_gp (C := RX8) (Tf := TX8) (N := 12) (i := 8) (j := 9) rfl (by decide) rfl (Or.inl wd_67) dX8_become_80 ?_
  refine s_cs M_G_copy dX8_become_83 ⟨by decide +kernel, by decide +kernel, by decide +kernel⟩ (by decide) wd_121 wd_10 (Or.inr ⟨_, wd_120⟩) ?_
  refine s_aload_n dX8_become_86 rfl ?_
  refine s_gp (C := RX8) (Tf := TX8) (N := 12) (i := 8) (j := 10) rfl (by decide) rfl (Or.inl wd_68) dX8_become_87 ?_
  refine s_aload_n dX8_become_90 rfl ?_
  refine s_gp (C := RX8) (Tf := TX8) (N := 12) (i := 8) (j := 10) rfl (by decide) rfl (Or.inl wd_68) dX8_become_91 ?_
  refine s_cs M_G_copy dX8_become_94 ⟨by decide +kernel, by decide +kernel, by decide +kernel⟩ (by decide) wd_121 wd_10 (Or.inr ⟨_, wd_120⟩) ?_
  refine s_aload_n dX8_become_97 rfl ?_
  exact S_State_become_b98
def State_become_b0 : ak_K := (k_al 0 (k_al 1 (k_gi 8 0 (k_pi 8 0 (k_al 0 (k_al 1 (k_gi 8 1 (k_pi 8 1 (k_al 0 (k_al 1 (k_gi 8 2 (k_pi 8 2 (k_al 0 (k_al 1 (k_gi 8 3 (k_pi 8 3 (k_al 0 (k_al 1 (k_gi 8 4 (k_pi 8 4 (k_al 0 (k_al 1 (k_gi 8 5 (k_pi 8 5 State_become_b48))))))))))))))))))))))))
theorem S_State_become_b0 : ak_S cX8_become RX8 2 0 1 22 (0, fun _ => 0) 0 (State_become_b0) := by
  unfold State_become_b0
  refine s_aload_n dX8_become_0 rfl ?_
  refine s_aload_n dX8_become_1 rfl ?_
  refine s_gi (C := RX8) (Tf := TX8) (N := 12) (i := 8) (j := 0) rfl (by decide) rfl (Or.inl wd_124) dX8_become_2 ?_
  refine s_pi (C := RX8) (Tf := TX8) (N := 12) (i := 8) (j := 0) rfl (by decide) rfl (Or.inl ⟨wd_124, Or.inl rfl⟩) dX8_become_5 ?_
  refine s_aload_n dX8_become_8 rfl ?_
  refine s_aload_n dX8_become_9 rfl ?_
  refine s_gi (C := RX8) (Tf := TX8) (N := 12) (i := 8) (j := 1) rfl (by decide) rfl (Or.inl wd_125) dX8_become_10 ?_
  refine s_pi (C := RX8) (Tf := TX8) (N := 12) (i := 8) (j := 1) rfl (by decide) rfl (Or.inl ⟨wd_125, Or.inl rfl⟩) dX8_become_13 ?_
  refine s_aload_n dX8_become_16 rfl ?_
  refine s_aload_n dX8_become_17 rfl ?_
  refine s_gi (C := RX8) (Tf := TX8) (N := 12) (i := 8) (j := 2) rfl (by decide) rfl (Or.inl wd_126) dX8_become_18 ?_
  refine s_pi (C := RX8) (Tf := TX8) (N := 12) (i := 8) (j := 2) rfl (by decide) rfl (Or.inl ⟨wd_126, Or.inl rfl⟩) dX8_become_21 ?_
  refine s_aload_n dX8_become_24 rfl ?_
  refine s_aload_n dX8_become_25 rfl ?_
  refine s_gi (C := RX8) (Tf := TX8) (N := 12) (i := 8) (j := 3) rfl (by decide) rfl (Or.inl wd_127) dX8_become_26 ?_
  refine s_pi (C := RX8) (Tf := TX8) (N := 12) (i := 8) (j := 3) rfl (by decide) rfl (Or.inl ⟨wd_127, Or.inl rfl⟩) dX8_become_29 ?_
  refine s_aload_n dX8_become_32 rfl ?_
  refine s_aload_n dX8_become_33 rfl ?_
  refine s_gi (C := RX8) (Tf := TX8) (N := 12) (i := 8) (j := 4) rfl (by decide) rfl (Or.inl wd_128) dX8_become_34 ?_
  refine s_pi (C := RX8) (Tf := TX8) (N := 12) (i := 8) (j := 4) rfl (by decide) rfl (Or.inl ⟨wd_128, Or.inl rfl⟩) dX8_become_37 ?_
  refine s_aload_n dX8_become_40 rfl ?_
  refine s_aload_n dX8_become_41 rfl ?_
  refine s_gi (C := RX8) (Tf := TX8) (N := 12) (i := 8) (j := 5) rfl (by decide) rfl (Or.inl wd_129) dX8_become_42 ?_
  refine s_pi (C := RX8) (Tf := TX8) (N := 12) (i := 8) (j := 5) rfl (by decide) rfl (Or.inl ⟨wd_129, Or.inl rfl⟩) dX8_become_45 ?_
  exact S_State_become_b48
def State_become (As : List Value) (M : ak_M) : ak_R := match As with
  | [.ref a, .ref x0] => State_become_b0 [some (.ref a), some (.ref x0)] [] M
  | _ => none
theorem M_State_become : ak_Mt yX8_become cX8_become 2 none 1 22 State_become := by
  refine ak_met (rk := 0) wd_130 (by decide +kernel) rfl (Or.inl ⟨Or.inl rfl, rfl⟩) (fun h => absurd h (by decide)) S_State_become_b0 (fun As M r h => ?_)
  unfold State_become at h
  split at h
  next => exact ⟨Nat.le_of_ble_eq_true rfl, 0, h⟩
  next => cases h
-- GreetedMirrors$Past.push(LGreetedMirrors$State;)V
def Past_push_b44 : ak_K := (k_pi 5 1 (k_al 0 (k_al 0 (k_gi 5 2 (k_ci 1 (k_b (fun x y => x + y) (k_al 0 (k_gp 5 0 (k_len (k_min (k_pi 5 2 k_rv)))))))))))
theorem S_Past_push_b44 : ak_S cX5_push RX5 3 0 2 43 (0, fun _ => 0) 44 (Past_push_b44) := by
  unfold Past_push_b44
  refine s_pi (C := RX5) (Tf := TX5) (N := 3) (i := 5) (j := 1) rfl (by decide) rfl (Or.inl ⟨wd_131, Or.inl rfl⟩) dX5_push_44 ?_
  refine s_aload_n dX5_push_47 rfl ?_
  refine s_aload_n dX5_push_48 rfl ?_
  refine s_gi (C := RX5) (Tf := TX5) (N := 3) (i := 5) (j := 2) rfl (by decide) rfl (Or.inl wd_132) dX5_push_49 ?_
  refine s_iconst (x := 1) dX5_push_52 (by decide +kernel) ?_
  refine s_iadd dX5_push_53 ?_
  refine s_aload_n dX5_push_54 rfl ?_
  refine s_gp (C := RX5) (Tf := TX5) (N := 3) (i := 5) (j := 0) rfl (by decide) rfl (Or.inl wd_113) dX5_push_55 ?_
  refine s_len dX5_push_58 ?_
  refine s_min (by decide) wd_133 wd_134 wd_57 wd_135 dX5_push_59 ?_
  refine s_pi (C := RX5) (Tf := TX5) (N := 3) (i := 5) (j := 2) rfl (by decide) rfl (Or.inl ⟨wd_132, Or.inl rfl⟩) dX5_push_62 ?_
  exact s_rv (Or.inl rfl) dX5_push_65
def Past_push_b0 : ak_K := (k_al 0 (k_al 0 (k_gi 5 1 (k_cv 5 2 Past_stateAt (k_as 2 (k_al 2 (k_ifnull k_rv (k_al 2 (k_al 1 (k_cv 8 2 State_become (k_al 0 (k_al 0 (k_gi 5 1 (k_ci 1 (k_b (fun x y => x + y) (k_al 0 (k_gp 5 0 (k_len (k_cmge (k_ci 0 Past_push_b44) (k_al 0 (k_gi 5 1 (k_ci 1 (k_b (fun x y => x + y) Past_push_b44)))))))))))))))))))))))
theorem S_Past_push_b0 : ak_S cX5_push RX5 3 0 2 43 (0, fun _ => 0) 0 (Past_push_b0) := by
  unfold Past_push_b0
  refine s_aload_n dX5_push_0 rfl ?_
  refine s_aload_n dX5_push_1 rfl ?_
  refine s_gi (C := RX5) (Tf := TX5) (N := 3) (i := 5) (j := 1) rfl (by decide) rfl (Or.inl wd_131) dX5_push_2 ?_
  refine s_cv (C := RX5) (Tf := TX5) (N := 3) (i := 5) rfl M_Past_stateAt dX5_push_5 rfl ⟨by decide +kernel, by decide +kernel, by decide +kernel⟩ (by decide) wd_138 wd_139 wd_137 (Or.inl wd_136) ?_
  refine s_astore_n dX5_push_8 rfl (by decide) ?_
  refine s_aload_n dX5_push_9 rfl ?_
  refine s_ifnonnull (tgt := 14) dX5_push_10 (by decide) ?_ ?_
  · exact s_rv (Or.inl rfl) dX5_push_13
  · refine s_aload_n dX5_push_14 rfl ?_
    refine s_aload_n dX5_push_15 rfl ?_
    refine s_cv (C := RX8) (Tf := TX8) (N := 12) (i := 8) rfl M_State_become dX5_push_16 rfl ⟨by decide +kernel, by decide +kernel, by decide +kernel⟩ (by decide) wd_141 wd_142 wd_74 (Or.inr ⟨_, wd_140⟩) ?_
    refine s_aload_n dX5_push_19 rfl ?_
    refine s_aload_n dX5_push_20 rfl ?_
    refine s_gi (C := RX5) (Tf := TX5) (N := 3) (i := 5) (j := 1) rfl (by decide) rfl (Or.inl wd_131) dX5_push_21 ?_
    refine s_iconst (x := 1) dX5_push_24 (by decide +kernel) ?_
    refine s_iadd dX5_push_25 ?_
    refine s_aload_n dX5_push_26 rfl ?_
    refine s_gp (C := RX5) (Tf := TX5) (N := 3) (i := 5) (j := 0) rfl (by decide) rfl (Or.inl wd_113) dX5_push_27 ?_
    refine s_len dX5_push_30 ?_
    refine s_cmge (tgt := 43) dX5_push_31 (by decide) ?_ ?_
    · refine s_iconst (x := 0) dX5_push_43 (by decide +kernel) ?_
      exact S_Past_push_b44
    · refine s_aload_n dX5_push_34 rfl ?_
      refine s_gi (C := RX5) (Tf := TX5) (N := 3) (i := 5) (j := 1) rfl (by decide) rfl (Or.inl wd_131) dX5_push_35 ?_
      refine s_iconst (x := 1) dX5_push_38 (by decide +kernel) ?_
      refine s_iadd dX5_push_39 ?_
      refine s_goto (tgt := 44) dX5_push_40 (by decide) ?_
      exact S_Past_push_b44
def Past_push (As : List Value) (M : ak_M) : ak_R := match As with
  | [.ref a, .ref x0] => Past_push_b0 [some (.ref a), some (.ref x0), none] [] M
  | _ => none
theorem M_Past_push : ak_Mt yX5_push cX5_push 3 none 2 43 Past_push := by
  refine ak_met (rk := 0) wd_143 (by decide +kernel) rfl (Or.inl ⟨Or.inl rfl, rfl⟩) (fun h => absurd h (by decide)) S_Past_push_b0 (fun As M r h => ?_)
  unfold Past_push at h
  split at h
  next => exact ⟨Nat.le_of_ble_eq_true rfl, 1, h⟩
  next => cases h
-- GreetedMirrors$Past.pop(LGreetedMirrors$State;)I
def Past_pop_b41 : ak_K := (k_ci (-1000000003) k_ri)
theorem S_Past_pop_b41 : ak_S cX5_pop RX5 4 1 2 43 (0, fun _ => 0) 41 (Past_pop_b41) := by
  unfold Past_pop_b41
  refine s_ldc (x := (-1000000003)) dX5_pop_41 wd_144 ?_
  exact s_ri rfl dX5_pop_43
def Past_pop_b68 : ak_K := k_ri
theorem S_Past_pop_b68 : ak_S cX5_pop RX5 4 1 2 43 (0, fun _ => 0) 68 (Past_pop_b68) := by
  unfold Past_pop_b68
  exact s_ri rfl dX5_pop_68
def Past_pop_b23 : ak_K := (k_is 2 (k_al 0 (k_il 2 (k_cv 5 2 Past_stateAt (k_as 3 (k_al 3 (k_ifnull Past_pop_b41 (k_al 0 (k_gi 5 2 (k_ifeq Past_pop_b41 (k_al 1 (k_al 3 (k_cv 8 2 State_become (k_al 0 (k_il 2 (k_pi 5 1 (k_al 0 (k_dup (k_gi 5 2 (k_ci 1 (k_b (fun x y => x - y) (k_pi 5 2 (k_al 0 (k_gi 5 2 Past_pop_b68))))))))))))))))))))))))
theorem S_Past_pop_b23 : ak_S cX5_pop RX5 4 1 2 43 (0, fun _ => 0) 23 (Past_pop_b23) := by
  unfold Past_pop_b23
  refine s_istore_n dX5_pop_23 rfl (by decide) ?_
  refine s_aload_n dX5_pop_24 rfl ?_
  refine s_iload_n dX5_pop_25 rfl ?_
  refine s_cv (C := RX5) (Tf := TX5) (N := 3) (i := 5) rfl M_Past_stateAt dX5_pop_26 rfl ⟨by decide +kernel, by decide +kernel, by decide +kernel⟩ (by decide) wd_138 wd_139 wd_137 (Or.inl wd_136) ?_
  refine s_astore_n dX5_pop_29 rfl (by decide) ?_
  refine s_aload_n dX5_pop_30 rfl ?_
  refine s_ifnull (tgt := 41) dX5_pop_31 (by decide) ?_ ?_
  · exact S_Past_pop_b41
  · refine s_aload_n dX5_pop_34 rfl ?_
    refine s_gi (C := RX5) (Tf := TX5) (N := 3) (i := 5) (j := 2) rfl (by decide) rfl (Or.inl wd_132) dX5_pop_35 ?_
    refine s_ifne (tgt := 44) dX5_pop_38 (by decide) ?_ ?_
    · exact S_Past_pop_b41
    · refine s_aload_n dX5_pop_44 rfl ?_
      refine s_aload_n dX5_pop_45 rfl ?_
      refine s_cv (C := RX8) (Tf := TX8) (N := 12) (i := 8) rfl M_State_become dX5_pop_46 rfl ⟨by decide +kernel, by decide +kernel, by decide +kernel⟩ (by decide) wd_141 wd_142 wd_74 (Or.inr ⟨_, wd_140⟩) ?_
      refine s_aload_n dX5_pop_49 rfl ?_
      refine s_iload_n dX5_pop_50 rfl ?_
      refine s_pi (C := RX5) (Tf := TX5) (N := 3) (i := 5) (j := 1) rfl (by decide) rfl (Or.inl ⟨wd_131, Or.inl rfl⟩) dX5_pop_51 ?_
      refine s_aload_n dX5_pop_54 rfl ?_
      refine s_dup dX5_pop_55 ?_
      refine s_gi (C := RX5) (Tf := TX5) (N := 3) (i := 5) (j := 2) rfl (by decide) rfl (Or.inl wd_132) dX5_pop_56 ?_
      refine s_iconst (x := 1) dX5_pop_59 (by decide +kernel) ?_
      refine s_isub dX5_pop_60 ?_
      refine s_pi (C := RX5) (Tf := TX5) (N := 3) (i := 5) (j := 2) rfl (by decide) rfl (Or.inl ⟨wd_132, Or.inl rfl⟩) dX5_pop_61 ?_
      refine s_aload_n dX5_pop_64 rfl ?_
      refine s_gi (C := RX5) (Tf := TX5) (N := 3) (i := 5) (j := 2) rfl (by decide) rfl (Or.inl wd_132) dX5_pop_65 ?_
      exact S_Past_pop_b68
def Past_pop_b0 : ak_K := (k_al 0 (k_gi 5 1 (k_ifle (k_al 0 (k_gp 5 0 (k_len (k_ci 1 (k_b (fun x y => x - y) Past_pop_b23))))) (k_al 0 (k_gi 5 1 (k_ci 1 (k_b (fun x y => x - y) Past_pop_b23)))))))
theorem S_Past_pop_b0 : ak_S cX5_pop RX5 4 1 2 43 (0, fun _ => 0) 0 (Past_pop_b0) := by
  unfold Past_pop_b0
  refine s_aload_n dX5_pop_0 rfl ?_
  refine s_gi (C := RX5) (Tf := TX5) (N := 3) (i := 5) (j := 1) rfl (by decide) rfl (Or.inl wd_131) dX5_pop_1 ?_
  refine s_ifle (tgt := 16) dX5_pop_4 (by decide) ?_ ?_
  · refine s_aload_n dX5_pop_16 rfl ?_
    refine s_gp (C := RX5) (Tf := TX5) (N := 3) (i := 5) (j := 0) rfl (by decide) rfl (Or.inl wd_113) dX5_pop_17 ?_
    refine s_len dX5_pop_20 ?_
    refine s_iconst (x := 1) dX5_pop_21 (by decide +kernel) ?_
    refine s_isub dX5_pop_22 ?_
    exact S_Past_pop_b23
  · refine s_aload_n dX5_pop_7 rfl ?_
    refine s_gi (C := RX5) (Tf := TX5) (N := 3) (i := 5) (j := 1) rfl (by decide) rfl (Or.inl wd_131) dX5_pop_8 ?_
    refine s_iconst (x := 1) dX5_pop_11 (by decide +kernel) ?_
    refine s_isub dX5_pop_12 ?_
    refine s_goto (tgt := 23) dX5_pop_13 (by decide) ?_
    exact S_Past_pop_b23
def Past_pop (As : List Value) (M : ak_M) : ak_R := match As with
  | [.ref a, .ref x0] => Past_pop_b0 [some (.ref a), some (.ref x0), none, none] [] M
  | _ => none
theorem M_Past_pop : ak_Mt yX5_pop cX5_pop 4 (some .int) 2 43 Past_pop := by
  refine ak_met (rk := 1) wd_145 (by decide +kernel) rfl (Or.inr (Or.inl ⟨rfl, rfl⟩)) (fun h => absurd h (by decide)) S_Past_pop_b0 (fun As M r h => ?_)
  unfold Past_pop at h
  split at h
  next => exact ⟨Nat.le_of_ble_eq_true rfl, 2, h⟩
  next => cases h
-- GreetedMirrors$Past.forget()V
def Past_forget_b0 : ak_K := (k_al 0 (k_ci 0 (k_pi 5 2 k_rv)))
theorem S_Past_forget_b0 : ak_S cX5_forget RX5 1 0 0 0 (0, fun _ => 0) 0 (Past_forget_b0) := by
  unfold Past_forget_b0
  refine s_aload_n dX5_forget_0 rfl ?_
  refine s_iconst (x := 0) dX5_forget_1 (by decide +kernel) ?_
  refine s_pi (C := RX5) (Tf := TX5) (N := 3) (i := 5) (j := 2) rfl (by decide) rfl (Or.inl ⟨wd_132, Or.inl rfl⟩) dX5_forget_2 ?_
  exact s_rv (Or.inl rfl) dX5_forget_5
def Past_forget (As : List Value) (M : ak_M) : ak_R := match As with
  | [.ref a] => Past_forget_b0 [some (.ref a)] [] M
  | _ => none
theorem M_Past_forget : ak_Mt yX5_forget cX5_forget 1 none 0 0 Past_forget := by
  refine ak_met (rk := 0) wd_146 (by decide +kernel) rfl (Or.inl ⟨Or.inl rfl, rfl⟩) (fun h => absurd h (by decide)) S_Past_forget_b0 (fun As M r h => ?_)
  unfold Past_forget at h
  split at h
  next => exact ⟨Nat.le_of_ble_eq_true rfl, 0, h⟩
  next => cases h
-- GreetedMirrors$Reader.<init>()V
def Reader_init_b0 : ak_K := (k_al 0 (k_obj (k_al 0 (k_ci 240 (k_na 1 (k_pp 6 0 (k_al 0 (k_ci (-1) (k_pi 6 5 k_rv)))))))))
theorem S_Reader_init_b0 : ak_S cX6_init RX6 1 5 1 20 (0, fun _ => 0) 0 (Reader_init_b0) := by
  unfold Reader_init_b0
  refine s_aload_n dX6_init_0 rfl ?_
  refine s_obj (by decide) wd_147 wd_1 wd_2 dX6_init_1 ?_
  refine s_aload_n dX6_init_4 rfl ?_
  refine s_sipush (x := 240) dX6_init_5 (by decide +kernel) ?_
  refine s_na (Or.inl ⟨rfl, rfl⟩) wd_3 dX6_init_8 ?_
  refine s_pp (C := RX6) (Tf := TX6) (N := 6) (i := 6) (j := 0) rfl (by decide) rfl (Or.inl ⟨wd_148, Or.inr ⟨rfl, rfl, rfl⟩⟩) dX6_init_10 ?_
  refine s_aload_n dX6_init_13 rfl ?_
  refine s_iconst (x := (-1)) dX6_init_14 (by decide +kernel) ?_
  refine s_pi (C := RX6) (Tf := TX6) (N := 6) (i := 6) (j := 5) rfl (by decide) rfl (Or.inl ⟨wd_149, Or.inl rfl⟩) dX6_init_15 ?_
  exact s_rv (Or.inr rfl) dX6_init_18
def Reader_init (As : List Value) (M : ak_M) : ak_R := match As with
  | [.ref a] => Reader_init_b0 [some (.ref a)] [] M
  | _ => none
theorem M_Reader_init : ak_Mt yX6_init cX6_init 1 none 1 20 Reader_init := by
  refine ak_met (rk := 5) wd_150 (by decide +kernel) rfl (Or.inl ⟨Or.inr rfl, rfl⟩) (fun h => rfl) S_Reader_init_b0 (fun As M r h => ?_)
  unfold Reader_init at h
  split at h
  next => exact ⟨Nat.le_of_ble_eq_true rfl, 0, h⟩
  next => cases h
-- GreetedMirrors$Reader.append(I)I
def Reader_append_b0 : ak_K := (k_al 0 (k_gp 6 0 (k_al 0 (k_gi 6 1 (k_il 1 (k_cs 3 G_put (k_al 0 (k_dup (k_gi 6 1 (k_ci 1 (k_b (fun x y => x + y) (k_pi 6 1 (k_al 0 (k_gi 6 1 k_ri))))))))))))))
theorem S_Reader_append_b0 : ak_S cX6_append RX6 2 1 1 22 (0, fun _ => 0) 0 (Reader_append_b0) := by
  unfold Reader_append_b0
  refine s_aload_n dX6_append_0 rfl ?_
  refine s_gp (C := RX6) (Tf := TX6) (N := 6) (i := 6) (j := 0) rfl (by decide) rfl (Or.inl wd_148) dX6_append_1 ?_
  refine s_aload_n dX6_append_4 rfl ?_
  refine s_gi (C := RX6) (Tf := TX6) (N := 6) (i := 6) (j := 1) rfl (by decide) rfl (Or.inl wd_151) dX6_append_5 ?_
  refine s_iload_n dX6_append_8 rfl ?_
  refine s_cs M_G_put dX6_append_9 ⟨by decide +kernel, by decide +kernel, by decide +kernel⟩ (by decide) wd_11 wd_10 (Or.inr ⟨_, wd_152⟩) ?_
  refine s_aload_n dX6_append_12 rfl ?_
  refine s_dup dX6_append_13 ?_
  refine s_gi (C := RX6) (Tf := TX6) (N := 6) (i := 6) (j := 1) rfl (by decide) rfl (Or.inl wd_151) dX6_append_14 ?_
  refine s_iconst (x := 1) dX6_append_17 (by decide +kernel) ?_
  refine s_iadd dX6_append_18 ?_
  refine s_pi (C := RX6) (Tf := TX6) (N := 6) (i := 6) (j := 1) rfl (by decide) rfl (Or.inl ⟨wd_151, Or.inl rfl⟩) dX6_append_19 ?_
  refine s_aload_n dX6_append_22 rfl ?_
  refine s_gi (C := RX6) (Tf := TX6) (N := 6) (i := 6) (j := 1) rfl (by decide) rfl (Or.inl wd_151) dX6_append_23 ?_
  exact s_ri rfl dX6_append_26
def Reader_append (As : List Value) (M : ak_M) : ak_R := match As with
  | [.ref a, .int x0] => Reader_append_b0 [some (.ref a), some (.int x0)] [] M
  | _ => none
theorem M_Reader_append : ak_Mt yX6_append cX6_append 2 (some .int) 1 22 Reader_append := by
  refine ak_met (rk := 1) wd_153 (by decide +kernel) rfl (Or.inr (Or.inl ⟨rfl, rfl⟩)) (fun h => absurd h (by decide)) S_Reader_append_b0 (fun As M r h => ?_)
  unfold Reader_append at h
  split at h
  next => exact ⟨Nat.le_of_ble_eq_true rfl, 0, h⟩
  next => cases h
-- GreetedMirrors$Reader.here()I
def Reader_here_b43 : ak_K := k_ri
theorem S_Reader_here_b43 : ak_S cX6_here RX6 1 1 0 0 (0, fun _ => 0) 43 (Reader_here_b43) := by
  unfold Reader_here_b43
  exact s_ri rfl dX6_here_43
def Reader_here_b42 : ak_K := (k_ci (-1) Reader_here_b43)
theorem S_Reader_here_b42 : ak_S cX6_here RX6 1 1 0 0 (0, fun _ => 0) 42 (Reader_here_b42) := by
  unfold Reader_here_b42
  refine s_iconst (x := (-1)) dX6_here_42 (by decide +kernel) ?_
  exact S_Reader_here_b43
def Reader_here_b0 : ak_K := (k_al 0 (k_gi 6 2 (k_iflt Reader_here_b42 (k_al 0 (k_gi 6 2 (k_al 0 (k_gi 6 1 (k_cmge Reader_here_b42 (k_al 0 (k_gi 6 2 (k_al 0 (k_gp 6 0 (k_len (k_cmge Reader_here_b42 (k_al 0 (k_gp 6 0 (k_al 0 (k_gi 6 2 (k_ald Reader_here_b43)))))))))))))))))))
theorem S_Reader_here_b0 : ak_S cX6_here RX6 1 1 0 0 (0, fun _ => 0) 0 (Reader_here_b0) := by
  unfold Reader_here_b0
  refine s_aload_n dX6_here_0 rfl ?_
  refine s_gi (C := RX6) (Tf := TX6) (N := 6) (i := 6) (j := 2) rfl (by decide) rfl (Or.inl wd_154) dX6_here_1 ?_
  refine s_iflt (tgt := 42) dX6_here_4 (by decide) ?_ ?_
  · exact S_Reader_here_b42
  · refine s_aload_n dX6_here_7 rfl ?_
    refine s_gi (C := RX6) (Tf := TX6) (N := 6) (i := 6) (j := 2) rfl (by decide) rfl (Or.inl wd_154) dX6_here_8 ?_
    refine s_aload_n dX6_here_11 rfl ?_
    refine s_gi (C := RX6) (Tf := TX6) (N := 6) (i := 6) (j := 1) rfl (by decide) rfl (Or.inl wd_151) dX6_here_12 ?_
    refine s_cmge (tgt := 42) dX6_here_15 (by decide) ?_ ?_
    · exact S_Reader_here_b42
    · refine s_aload_n dX6_here_18 rfl ?_
      refine s_gi (C := RX6) (Tf := TX6) (N := 6) (i := 6) (j := 2) rfl (by decide) rfl (Or.inl wd_154) dX6_here_19 ?_
      refine s_aload_n dX6_here_22 rfl ?_
      refine s_gp (C := RX6) (Tf := TX6) (N := 6) (i := 6) (j := 0) rfl (by decide) rfl (Or.inl wd_148) dX6_here_23 ?_
      refine s_len dX6_here_26 ?_
      refine s_cmge (tgt := 42) dX6_here_27 (by decide) ?_ ?_
      · exact S_Reader_here_b42
      · refine s_aload_n dX6_here_30 rfl ?_
        refine s_gp (C := RX6) (Tf := TX6) (N := 6) (i := 6) (j := 0) rfl (by decide) rfl (Or.inl wd_148) dX6_here_31 ?_
        refine s_aload_n dX6_here_34 rfl ?_
        refine s_gi (C := RX6) (Tf := TX6) (N := 6) (i := 6) (j := 2) rfl (by decide) rfl (Or.inl wd_154) dX6_here_35 ?_
        refine s_ald dX6_here_38 ?_
        refine s_goto (tgt := 43) dX6_here_39 (by decide) ?_
        exact S_Reader_here_b43
def Reader_here (As : List Value) (M : ak_M) : ak_R := match As with
  | [.ref a] => Reader_here_b0 [some (.ref a)] [] M
  | _ => none
theorem M_Reader_here : ak_Mt yX6_here cX6_here 1 (some .int) 0 0 Reader_here := by
  refine ak_met (rk := 1) wd_155 (by decide +kernel) rfl (Or.inr (Or.inl ⟨rfl, rfl⟩)) (fun h => absurd h (by decide)) S_Reader_here_b0 (fun As M r h => ?_)
  unfold Reader_here at h
  split at h
  next => exact ⟨Nat.le_of_ble_eq_true rfl, 0, h⟩
  next => cases h
-- GreetedMirrors$Reader.skipBlanks()V
def Reader_skipBlanks_b33 : ak_K := k_rv
theorem S_Reader_skipBlanks_b33 : ak_S cX6_skipBlanks RX6 1 0 1 20 (0, fun _ => 0) 33 (Reader_skipBlanks_b33) := by
  unfold Reader_skipBlanks_b33
  exact s_rv (Or.inl rfl) dX6_skipBlanks_33
def Reader_skipBlanks_b0 (h0 : ak_K) : ak_K := (k_al 0 (k_gi 6 2 (k_al 0 (k_gi 6 1 (k_cmge Reader_skipBlanks_b33 (k_al 0 (k_cv 6 1 Reader_here (k_ci 32 (k_cmeq (k_al 0 (k_dup (k_gi 6 2 (k_ci 1 (k_b (fun x y => x + y) (k_pi 6 2 h0)))))) Reader_skipBlanks_b33)))))))))
theorem S_Reader_skipBlanks_b0 {h0 : ak_K} (H0 : ak_S cX6_skipBlanks RX6 1 0 1 20 (0, fun _ => 0) 0 h0) : ak_S cX6_skipBlanks RX6 1 0 1 20 (0, fun _ => 0) 0 (Reader_skipBlanks_b0 h0) := by
  unfold Reader_skipBlanks_b0
  refine s_aload_n dX6_skipBlanks_0 rfl ?_
  refine s_gi (C := RX6) (Tf := TX6) (N := 6) (i := 6) (j := 2) rfl (by decide) rfl (Or.inl wd_154) dX6_skipBlanks_1 ?_
  refine s_aload_n dX6_skipBlanks_4 rfl ?_
  refine s_gi (C := RX6) (Tf := TX6) (N := 6) (i := 6) (j := 1) rfl (by decide) rfl (Or.inl wd_151) dX6_skipBlanks_5 ?_
  refine s_cmge (tgt := 33) dX6_skipBlanks_8 (by decide) ?_ ?_
  · exact S_Reader_skipBlanks_b33
  · refine s_aload_n dX6_skipBlanks_11 rfl ?_
    refine s_cv (C := RX6) (Tf := TX6) (N := 6) (i := 6) rfl M_Reader_here dX6_skipBlanks_12 rfl ⟨by decide +kernel, by decide +kernel, by decide +kernel⟩ (by decide) wd_158 wd_159 wd_157 (Or.inl wd_156) ?_
    refine s_bipush (x := 32) dX6_skipBlanks_15 (by decide +kernel) ?_
    refine s_cmne (tgt := 33) dX6_skipBlanks_17 (by decide) ?_ ?_
    · refine s_aload_n dX6_skipBlanks_20 rfl ?_
      refine s_dup dX6_skipBlanks_21 ?_
      refine s_gi (C := RX6) (Tf := TX6) (N := 6) (i := 6) (j := 2) rfl (by decide) rfl (Or.inl wd_154) dX6_skipBlanks_22 ?_
      refine s_iconst (x := 1) dX6_skipBlanks_25 (by decide +kernel) ?_
      refine s_iadd dX6_skipBlanks_26 ?_
      refine s_pi (C := RX6) (Tf := TX6) (N := 6) (i := 6) (j := 2) rfl (by decide) rfl (Or.inl ⟨wd_154, Or.inl rfl⟩) dX6_skipBlanks_27 ?_
      refine s_goto (tgt := 0) dX6_skipBlanks_30 (by decide) ?_
      exact H0
    · exact S_Reader_skipBlanks_b33
def Reader_skipBlanks_l0 : Nat → ak_K
  | 0 => k_no
  | n + 1 => Reader_skipBlanks_b0 (Reader_skipBlanks_l0 n)
theorem S_Reader_skipBlanks_l0 : ∀ n : Nat, ak_S cX6_skipBlanks RX6 1 0 1 20 (0, fun _ => 0) 0 (Reader_skipBlanks_l0 n)
  | 0 => s_no
  | n + 1 => S_Reader_skipBlanks_b0 (S_Reader_skipBlanks_l0 n)
def Reader_skipBlanks (As : List Value) (M : ak_M) : ak_R := match As with
  | [.ref a] => Reader_skipBlanks_l0 ak_fuel [some (.ref a)] [] M
  | _ => none
theorem M_Reader_skipBlanks : ak_Mt yX6_skipBlanks cX6_skipBlanks 1 none 1 20 Reader_skipBlanks := by
  refine ak_met (rk := 0) wd_160 (by decide +kernel) rfl (Or.inl ⟨Or.inl rfl, rfl⟩) (fun h => absurd h (by decide)) (S_Reader_skipBlanks_l0 ak_fuel) (fun As M r h => ?_)
  unfold Reader_skipBlanks at h
  split at h
  next => exact ⟨Nat.le_of_ble_eq_true rfl, 0, h⟩
  next => cases h
-- GreetedMirrors$Reader.isWord(I)Z
def Reader_isWord_b76 : ak_K := (k_ci 1 k_rz)
theorem S_Reader_isWord_b76 : ak_S cX6_isWord RX6 2 2 0 0 (0, fun _ => 0) 76 (Reader_isWord_b76) := by
  unfold Reader_isWord_b76
  refine s_iconst (x := 1) dX6_isWord_76 (by decide +kernel) ?_
  exact s_rz rfl dX6_isWord_77
def Reader_isWord_b78 : ak_K := (k_ci 0 k_rz)
theorem S_Reader_isWord_b78 : ak_S cX6_isWord RX6 2 2 0 0 (0, fun _ => 0) 78 (Reader_isWord_b78) := by
  unfold Reader_isWord_b78
  refine s_iconst (x := 0) dX6_isWord_78 (by decide +kernel) ?_
  exact s_rz rfl dX6_isWord_79
def Reader_isWord_b0 : ak_K := (k_il 1 (k_sw [(98, Reader_isWord_b76), (100, Reader_isWord_b76), (104, Reader_isWord_b76), (109, Reader_isWord_b76), (111, Reader_isWord_b76), (112, Reader_isWord_b76)] Reader_isWord_b78))
theorem S_Reader_isWord_b0 : ak_S cX6_isWord RX6 2 2 0 0 (0, fun _ => 0) 0 (Reader_isWord_b0) := by
  unfold Reader_isWord_b0
  refine s_iload_n dX6_isWord_0 rfl ?_
  exact s_table (tgd := 78) [98, 100, 104, 109, 111, 112] rfl dX6_isWord_1 (by decide) S_Reader_isWord_b78 (List.forall_mem_cons.mpr ⟨⟨76, S_Reader_isWord_b76, (by show _ ≤ (98 : Int32).toInt; decide +kernel), (by show (98 : Int32).toInt ≤ _; decide +kernel), 75, (by show _[((98 : Int32).toInt - _).toNat]? = _; decide +kernel), by decide⟩, List.forall_mem_cons.mpr ⟨⟨76, S_Reader_isWord_b76, (by show _ ≤ (100 : Int32).toInt; decide +kernel), (by show (100 : Int32).toInt ≤ _; decide +kernel), 75, (by show _[((100 : Int32).toInt - _).toNat]? = _; decide +kernel), by decide⟩, List.forall_mem_cons.mpr ⟨⟨76, S_Reader_isWord_b76, (by show _ ≤ (104 : Int32).toInt; decide +kernel), (by show (104 : Int32).toInt ≤ _; decide +kernel), 75, (by show _[((104 : Int32).toInt - _).toNat]? = _; decide +kernel), by decide⟩, List.forall_mem_cons.mpr ⟨⟨76, S_Reader_isWord_b76, (by show _ ≤ (109 : Int32).toInt; decide +kernel), (by show (109 : Int32).toInt ≤ _; decide +kernel), 75, (by show _[((109 : Int32).toInt - _).toNat]? = _; decide +kernel), by decide⟩, List.forall_mem_cons.mpr ⟨⟨76, S_Reader_isWord_b76, (by show _ ≤ (111 : Int32).toInt; decide +kernel), (by show (111 : Int32).toInt ≤ _; decide +kernel), 75, (by show _[((111 : Int32).toInt - _).toNat]? = _; decide +kernel), by decide⟩, List.forall_mem_cons.mpr ⟨⟨76, S_Reader_isWord_b76, (by show _ ≤ (112 : Int32).toInt; decide +kernel), (by show (112 : Int32).toInt ≤ _; decide +kernel), 75, (by show _[((112 : Int32).toInt - _).toNat]? = _; decide +kernel), by decide⟩, fun q h => absurd h List.not_mem_nil⟩⟩⟩⟩⟩⟩) (by decide +kernel)
def Reader_isWord (As : List Value) (M : ak_M) : ak_R := match As with
  | [.ref a, .int x0] => Reader_isWord_b0 [some (.ref a), some (.int x0)] [] M
  | _ => none
theorem M_Reader_isWord : ak_Mt yX6_isWord cX6_isWord 2 (some .boolean) 0 0 Reader_isWord := by
  refine ak_met (rk := 2) wd_161 (by decide +kernel) rfl (Or.inr (Or.inr (Or.inl ⟨rfl, rfl⟩))) (fun h => absurd h (by decide)) S_Reader_isWord_b0 (fun As M r h => ?_)
  unfold Reader_isWord at h
  split at h
  next => exact ⟨Nat.le_of_ble_eq_true rfl, 0, h⟩
  next => cases h
-- GreetedMirrors$Reader.mark(II)V
def Reader_mark_b17 : ak_K := k_rv
theorem S_Reader_mark_b17 : ak_S cX6_mark RX6 3 0 0 0 (0, fun _ => 0) 17 (Reader_mark_b17) := by
  unfold Reader_mark_b17
  exact s_rv (Or.inl rfl) dX6_mark_17
def Reader_mark_b0 : ak_K := (k_al 0 (k_gi 6 4 (k_ifeq (k_al 0 (k_il 1 (k_pi 6 4 (k_al 0 (k_il 2 (k_pi 6 5 Reader_mark_b17)))))) Reader_mark_b17)))
theorem S_Reader_mark_b0 : ak_S cX6_mark RX6 3 0 0 0 (0, fun _ => 0) 0 (Reader_mark_b0) := by
  unfold Reader_mark_b0
  refine s_aload_n dX6_mark_0 rfl ?_
  refine s_gi (C := RX6) (Tf := TX6) (N := 6) (i := 6) (j := 4) rfl (by decide) rfl (Or.inl wd_162) dX6_mark_1 ?_
  refine s_ifne (tgt := 17) dX6_mark_4 (by decide) ?_ ?_
  · refine s_aload_n dX6_mark_7 rfl ?_
    refine s_iload_n dX6_mark_8 rfl ?_
    refine s_pi (C := RX6) (Tf := TX6) (N := 6) (i := 6) (j := 4) rfl (by decide) rfl (Or.inl ⟨wd_162, Or.inl rfl⟩) dX6_mark_9 ?_
    refine s_aload_n dX6_mark_12 rfl ?_
    refine s_iload_n dX6_mark_13 rfl ?_
    refine s_pi (C := RX6) (Tf := TX6) (N := 6) (i := 6) (j := 5) rfl (by decide) rfl (Or.inl ⟨wd_149, Or.inl rfl⟩) dX6_mark_14 ?_
    exact S_Reader_mark_b17
  · exact S_Reader_mark_b17
def Reader_mark (As : List Value) (M : ak_M) : ak_R := match As with
  | [.ref a, .int x0, .int x1] => Reader_mark_b0 [some (.ref a), some (.int x0), some (.int x1)] [] M
  | _ => none
theorem M_Reader_mark : ak_Mt yX6_mark cX6_mark 3 none 0 0 Reader_mark := by
  refine ak_met (rk := 0) wd_163 (by decide +kernel) rfl (Or.inl ⟨Or.inl rfl, rfl⟩) (fun h => absurd h (by decide)) S_Reader_mark_b0 (fun As M r h => ?_)
  unfold Reader_mark at h
  split at h
  next => exact ⟨Nat.le_of_ble_eq_true rfl, 0, h⟩
  next => cases h
-- GreetedMirrors$Reader.isOneTooMany(LGreetedMirrors$House;I)Z
def Reader_isOneTooMany_b71 : ak_K := k_rz
theorem S_Reader_isOneTooMany_b71 : ak_S cX6_isOneTooMany RX6 3 2 0 0 (0, fun _ => 0) 71 (Reader_isOneTooMany_b71) := by
  unfold Reader_isOneTooMany_b71
  exact s_rz rfl dX6_isOneTooMany_71
def Reader_isOneTooMany_b57 : ak_K := (k_al 1 (k_gi 2 2 (k_ci 8 (k_cmlt (k_ci 0 Reader_isOneTooMany_b71) (k_ci 1 Reader_isOneTooMany_b71)))))
theorem S_Reader_isOneTooMany_b57 : ak_S cX6_isOneTooMany RX6 3 2 0 0 (0, fun _ => 0) 57 (Reader_isOneTooMany_b57) := by
  unfold Reader_isOneTooMany_b57
  refine s_aload_n dX6_isOneTooMany_57 rfl ?_
  refine s_gi (C := RX2) (Tf := TX2) (N := 12) (i := 2) (j := 2) rfl (by decide) rfl (Or.inr ⟨_, wd_164⟩) dX6_isOneTooMany_58 ?_
  refine s_bipush (x := 8) dX6_isOneTooMany_61 (by decide +kernel) ?_
  refine s_cmlt (tgt := 70) dX6_isOneTooMany_63 (by decide) ?_ ?_
  · refine s_iconst (x := 0) dX6_isOneTooMany_70 (by decide +kernel) ?_
    exact S_Reader_isOneTooMany_b71
  · refine s_iconst (x := 1) dX6_isOneTooMany_66 (by decide +kernel) ?_
    refine s_goto (tgt := 71) dX6_isOneTooMany_67 (by decide) ?_
    exact S_Reader_isOneTooMany_b71
def Reader_isOneTooMany_b56 : ak_K := k_rz
theorem S_Reader_isOneTooMany_b56 : ak_S cX6_isOneTooMany RX6 3 2 0 0 (0, fun _ => 0) 56 (Reader_isOneTooMany_b56) := by
  unfold Reader_isOneTooMany_b56
  exact s_rz rfl dX6_isOneTooMany_56
def Reader_isOneTooMany_b44 : ak_K := (k_al 1 (k_gi 2 0 (k_ifle (k_ci 0 Reader_isOneTooMany_b56) (k_ci 1 Reader_isOneTooMany_b56))))
theorem S_Reader_isOneTooMany_b44 : ak_S cX6_isOneTooMany RX6 3 2 0 0 (0, fun _ => 0) 44 (Reader_isOneTooMany_b44) := by
  unfold Reader_isOneTooMany_b44
  refine s_aload_n dX6_isOneTooMany_44 rfl ?_
  refine s_gi (C := RX2) (Tf := TX2) (N := 12) (i := 2) (j := 0) rfl (by decide) rfl (Or.inr ⟨_, wd_165⟩) dX6_isOneTooMany_45 ?_
  refine s_ifle (tgt := 55) dX6_isOneTooMany_48 (by decide) ?_ ?_
  · refine s_iconst (x := 0) dX6_isOneTooMany_55 (by decide +kernel) ?_
    exact S_Reader_isOneTooMany_b56
  · refine s_iconst (x := 1) dX6_isOneTooMany_51 (by decide +kernel) ?_
    refine s_goto (tgt := 56) dX6_isOneTooMany_52 (by decide) ?_
    exact S_Reader_isOneTooMany_b56
def Reader_isOneTooMany_b86 : ak_K := k_rz
theorem S_Reader_isOneTooMany_b86 : ak_S cX6_isOneTooMany RX6 3 2 0 0 (0, fun _ => 0) 86 (Reader_isOneTooMany_b86) := by
  unfold Reader_isOneTooMany_b86
  exact s_rz rfl dX6_isOneTooMany_86
def Reader_isOneTooMany_b72 : ak_K := (k_al 1 (k_gi 2 3 (k_ci 7 (k_cmlt (k_ci 0 Reader_isOneTooMany_b86) (k_ci 1 Reader_isOneTooMany_b86)))))
theorem S_Reader_isOneTooMany_b72 : ak_S cX6_isOneTooMany RX6 3 2 0 0 (0, fun _ => 0) 72 (Reader_isOneTooMany_b72) := by
  unfold Reader_isOneTooMany_b72
  refine s_aload_n dX6_isOneTooMany_72 rfl ?_
  refine s_gi (C := RX2) (Tf := TX2) (N := 12) (i := 2) (j := 3) rfl (by decide) rfl (Or.inr ⟨_, wd_166⟩) dX6_isOneTooMany_73 ?_
  refine s_bipush (x := 7) dX6_isOneTooMany_76 (by decide +kernel) ?_
  refine s_cmlt (tgt := 85) dX6_isOneTooMany_78 (by decide) ?_ ?_
  · refine s_iconst (x := 0) dX6_isOneTooMany_85 (by decide +kernel) ?_
    exact S_Reader_isOneTooMany_b86
  · refine s_iconst (x := 1) dX6_isOneTooMany_81 (by decide +kernel) ?_
    refine s_goto (tgt := 86) dX6_isOneTooMany_82 (by decide) ?_
    exact S_Reader_isOneTooMany_b86
def Reader_isOneTooMany_b100 : ak_K := k_rz
theorem S_Reader_isOneTooMany_b100 : ak_S cX6_isOneTooMany RX6 3 2 0 0 (0, fun _ => 0) 100 (Reader_isOneTooMany_b100) := by
  unfold Reader_isOneTooMany_b100
  exact s_rz rfl dX6_isOneTooMany_100
def Reader_isOneTooMany_b87 : ak_K := (k_al 1 (k_gi 2 4 (k_ci 5 (k_cmlt (k_ci 0 Reader_isOneTooMany_b100) (k_ci 1 Reader_isOneTooMany_b100)))))
theorem S_Reader_isOneTooMany_b87 : ak_S cX6_isOneTooMany RX6 3 2 0 0 (0, fun _ => 0) 87 (Reader_isOneTooMany_b87) := by
  unfold Reader_isOneTooMany_b87
  refine s_aload_n dX6_isOneTooMany_87 rfl ?_
  refine s_gi (C := RX2) (Tf := TX2) (N := 12) (i := 2) (j := 4) rfl (by decide) rfl (Or.inr ⟨_, wd_167⟩) dX6_isOneTooMany_88 ?_
  refine s_iconst (x := 5) dX6_isOneTooMany_91 (by decide +kernel) ?_
  refine s_cmlt (tgt := 99) dX6_isOneTooMany_92 (by decide) ?_ ?_
  · refine s_iconst (x := 0) dX6_isOneTooMany_99 (by decide +kernel) ?_
    exact S_Reader_isOneTooMany_b100
  · refine s_iconst (x := 1) dX6_isOneTooMany_95 (by decide +kernel) ?_
    refine s_goto (tgt := 100) dX6_isOneTooMany_96 (by decide) ?_
    exact S_Reader_isOneTooMany_b100
def Reader_isOneTooMany_b101 : ak_K := (k_ci 0 k_rz)
theorem S_Reader_isOneTooMany_b101 : ak_S cX6_isOneTooMany RX6 3 2 0 0 (0, fun _ => 0) 101 (Reader_isOneTooMany_b101) := by
  unfold Reader_isOneTooMany_b101
  refine s_iconst (x := 0) dX6_isOneTooMany_101 (by decide +kernel) ?_
  exact s_rz rfl dX6_isOneTooMany_102
def Reader_isOneTooMany_b0 : ak_K := (k_il 2 (k_sw [(100, Reader_isOneTooMany_b57), (104, Reader_isOneTooMany_b44), (109, Reader_isOneTooMany_b72), (112, Reader_isOneTooMany_b87)] Reader_isOneTooMany_b101))
theorem S_Reader_isOneTooMany_b0 : ak_S cX6_isOneTooMany RX6 3 2 0 0 (0, fun _ => 0) 0 (Reader_isOneTooMany_b0) := by
  unfold Reader_isOneTooMany_b0
  refine s_iload_n dX6_isOneTooMany_0 rfl ?_
  exact s_lookup (tgd := 101) [100, 104, 109, 112] rfl dX6_isOneTooMany_1 (by decide +kernel) (by decide) S_Reader_isOneTooMany_b101 (List.forall_mem_cons.mpr ⟨⟨57, S_Reader_isOneTooMany_b57, 56, by decide +kernel, by decide⟩, List.forall_mem_cons.mpr ⟨⟨44, S_Reader_isOneTooMany_b44, 43, by decide +kernel, by decide⟩, List.forall_mem_cons.mpr ⟨⟨72, S_Reader_isOneTooMany_b72, 71, by decide +kernel, by decide⟩, List.forall_mem_cons.mpr ⟨⟨87, S_Reader_isOneTooMany_b87, 86, by decide +kernel, by decide⟩, fun q h => absurd h List.not_mem_nil⟩⟩⟩⟩) (fun x hx => (lv_osw (k := 100) (hx 100 (by decide)) (by decide +kernel)).trans ((lv_osw (k := 104) (hx 104 (by decide)) (by decide +kernel)).trans ((lv_osw (k := 109) (hx 109 (by decide)) (by decide +kernel)).trans ((lv_osw (k := 112) (hx 112 (by decide)) (by decide +kernel)).trans (rfl)))))
def Reader_isOneTooMany (As : List Value) (M : ak_M) : ak_R := match As with
  | [.ref a, .ref x0, .int x1] => Reader_isOneTooMany_b0 [some (.ref a), some (.ref x0), some (.int x1)] [] M
  | _ => none
theorem M_Reader_isOneTooMany : ak_Mt yX6_isOneTooMany cX6_isOneTooMany 3 (some .boolean) 0 0 Reader_isOneTooMany := by
  refine ak_met (rk := 2) wd_168 (by decide +kernel) rfl (Or.inr (Or.inr (Or.inl ⟨rfl, rfl⟩))) (fun h => absurd h (by decide)) S_Reader_isOneTooMany_b0 (fun As M r h => ?_)
  unfold Reader_isOneTooMany at h
  split at h
  next => exact ⟨Nat.le_of_ble_eq_true rfl, 0, h⟩
  next => cases h
-- GreetedMirrors$Reader.readWord(LGreetedMirrors$House;)I
def Reader_readWord_b66 : ak_K := (k_al 0 (k_dup (k_gi 6 2 (k_ci 1 (k_b (fun x y => x + y) (k_pi 6 2 (k_il 2 k_ri)))))))
theorem S_Reader_readWord_b66 : ak_S cX6_readWord RX6 4 1 1 22 (0, fun _ => 0) 66 (Reader_readWord_b66) := by
  unfold Reader_readWord_b66
  refine s_aload_n dX6_readWord_66 rfl ?_
  refine s_dup dX6_readWord_67 ?_
  refine s_gi (C := RX6) (Tf := TX6) (N := 6) (i := 6) (j := 2) rfl (by decide) rfl (Or.inl wd_154) dX6_readWord_68 ?_
  refine s_iconst (x := 1) dX6_readWord_71 (by decide +kernel) ?_
  refine s_iadd dX6_readWord_72 ?_
  refine s_pi (C := RX6) (Tf := TX6) (N := 6) (i := 6) (j := 2) rfl (by decide) rfl (Or.inl ⟨wd_154, Or.inl rfl⟩) dX6_readWord_73 ?_
  refine s_iload_n dX6_readWord_76 rfl ?_
  exact s_ri rfl dX6_readWord_77
def Reader_readWord_b31 : ak_K := (k_is 3 (k_il 3 (k_ifeq (k_al 0 (k_ci 1 (k_al 0 (k_gi 6 2 (k_cv 6 3 Reader_mark Reader_readWord_b66))))) (k_al 0 (k_al 1 (k_il 2 (k_cv 6 3 Reader_isOneTooMany (k_ifeq Reader_readWord_b66 (k_al 0 (k_ci 3 (k_al 0 (k_gi 6 2 (k_cv 6 3 Reader_mark Reader_readWord_b66)))))))))))))
theorem S_Reader_readWord_b31 : ak_S cX6_readWord RX6 4 1 1 22 (0, fun _ => 0) 31 (Reader_readWord_b31) := by
  unfold Reader_readWord_b31
  refine s_istore_n dX6_readWord_31 rfl (by decide) ?_
  refine s_iload_n dX6_readWord_32 rfl ?_
  refine s_ifne (tgt := 48) dX6_readWord_33 (by decide) ?_ ?_
  · refine s_aload_n dX6_readWord_36 rfl ?_
    refine s_iconst (x := 1) dX6_readWord_37 (by decide +kernel) ?_
    refine s_aload_n dX6_readWord_38 rfl ?_
    refine s_gi (C := RX6) (Tf := TX6) (N := 6) (i := 6) (j := 2) rfl (by decide) rfl (Or.inl wd_154) dX6_readWord_39 ?_
    refine s_cv (C := RX6) (Tf := TX6) (N := 6) (i := 6) rfl M_Reader_mark dX6_readWord_42 rfl ⟨by decide +kernel, by decide +kernel, by decide +kernel⟩ (by decide) wd_170 wd_171 wd_157 (Or.inl wd_169) ?_
    refine s_goto (tgt := 66) dX6_readWord_45 (by decide) ?_
    exact S_Reader_readWord_b66
  · refine s_aload_n dX6_readWord_48 rfl ?_
    refine s_aload_n dX6_readWord_49 rfl ?_
    refine s_iload_n dX6_readWord_50 rfl ?_
    refine s_cv (C := RX6) (Tf := TX6) (N := 6) (i := 6) rfl M_Reader_isOneTooMany dX6_readWord_51 rfl ⟨by decide +kernel, by decide +kernel, by decide +kernel⟩ (by decide) wd_173 wd_174 wd_157 (Or.inl wd_172) ?_
    refine s_ifeq (tgt := 66) dX6_readWord_54 (by decide) ?_ ?_
    · exact S_Reader_readWord_b66
    · refine s_aload_n dX6_readWord_57 rfl ?_
      refine s_iconst (x := 3) dX6_readWord_58 (by decide +kernel) ?_
      refine s_aload_n dX6_readWord_59 rfl ?_
      refine s_gi (C := RX6) (Tf := TX6) (N := 6) (i := 6) (j := 2) rfl (by decide) rfl (Or.inl wd_154) dX6_readWord_60 ?_
      refine s_cv (C := RX6) (Tf := TX6) (N := 6) (i := 6) rfl M_Reader_mark dX6_readWord_63 rfl ⟨by decide +kernel, by decide +kernel, by decide +kernel⟩ (by decide) wd_170 wd_171 wd_157 (Or.inl wd_169) ?_
      exact S_Reader_readWord_b66
def Reader_readWord_b0 : ak_K := (k_al 0 (k_cv 6 1 Reader_here (k_is 2 (k_al 1 (k_gi 2 0 (k_ifeq (k_il 2 (k_ci 104 (k_cmeq (k_ci 1 Reader_readWord_b31) (k_ci 0 Reader_readWord_b31)))) (k_al 0 (k_il 2 (k_cv 6 2 Reader_isWord Reader_readWord_b31)))))))))
theorem S_Reader_readWord_b0 : ak_S cX6_readWord RX6 4 1 1 22 (0, fun _ => 0) 0 (Reader_readWord_b0) := by
  unfold Reader_readWord_b0
  refine s_aload_n dX6_readWord_0 rfl ?_
  refine s_cv (C := RX6) (Tf := TX6) (N := 6) (i := 6) rfl M_Reader_here dX6_readWord_1 rfl ⟨by decide +kernel, by decide +kernel, by decide +kernel⟩ (by decide) wd_158 wd_159 wd_157 (Or.inl wd_156) ?_
  refine s_istore_n dX6_readWord_4 rfl (by decide) ?_
  refine s_aload_n dX6_readWord_5 rfl ?_
  refine s_gi (C := RX2) (Tf := TX2) (N := 12) (i := 2) (j := 0) rfl (by decide) rfl (Or.inr ⟨_, wd_165⟩) dX6_readWord_6 ?_
  refine s_ifne (tgt := 26) dX6_readWord_9 (by decide) ?_ ?_
  · refine s_iload_n dX6_readWord_12 rfl ?_
    refine s_bipush (x := 104) dX6_readWord_13 (by decide +kernel) ?_
    refine s_cmne (tgt := 22) dX6_readWord_15 (by decide) ?_ ?_
    · refine s_iconst (x := 1) dX6_readWord_18 (by decide +kernel) ?_
      refine s_goto (tgt := 31) dX6_readWord_19 (by decide) ?_
      exact S_Reader_readWord_b31
    · refine s_iconst (x := 0) dX6_readWord_22 (by decide +kernel) ?_
      refine s_goto (tgt := 31) dX6_readWord_23 (by decide) ?_
      exact S_Reader_readWord_b31
  · refine s_aload_n dX6_readWord_26 rfl ?_
    refine s_iload_n dX6_readWord_27 rfl ?_
    refine s_cv (C := RX6) (Tf := TX6) (N := 6) (i := 6) rfl M_Reader_isWord dX6_readWord_28 rfl ⟨by decide +kernel, by decide +kernel, by decide +kernel⟩ (by decide) wd_176 wd_177 wd_157 (Or.inl wd_175) ?_
    exact S_Reader_readWord_b31
def Reader_readWord (As : List Value) (M : ak_M) : ak_R := match As with
  | [.ref a, .ref x0] => Reader_readWord_b0 [some (.ref a), some (.ref x0), none, none] [] M
  | _ => none
theorem M_Reader_readWord : ak_Mt yX6_readWord cX6_readWord 4 (some .int) 1 22 Reader_readWord := by
  refine ak_met (rk := 1) wd_178 (by decide +kernel) rfl (Or.inr (Or.inl ⟨rfl, rfl⟩)) (fun h => absurd h (by decide)) S_Reader_readWord_b0 (fun As M r h => ?_)
  unfold Reader_readWord at h
  split at h
  next => exact ⟨Nat.le_of_ble_eq_true rfl, 2, h⟩
  next => cases h
-- GreetedMirrors$Reader.isFigure(I)Z
def Reader_isFigure_b17 : ak_K := k_rz
theorem S_Reader_isFigure_b17 : ak_S cX6_isFigure RX6 2 2 0 0 (0, fun _ => 0) 17 (Reader_isFigure_b17) := by
  unfold Reader_isFigure_b17
  exact s_rz rfl dX6_isFigure_17
def Reader_isFigure_b16 : ak_K := (k_ci 0 Reader_isFigure_b17)
theorem S_Reader_isFigure_b16 : ak_S cX6_isFigure RX6 2 2 0 0 (0, fun _ => 0) 16 (Reader_isFigure_b16) := by
  unfold Reader_isFigure_b16
  refine s_iconst (x := 0) dX6_isFigure_16 (by decide +kernel) ?_
  exact S_Reader_isFigure_b17
def Reader_isFigure_b0 : ak_K := (k_il 1 (k_ci 48 (k_cmlt Reader_isFigure_b16 (k_il 1 (k_ci 57 (k_cmgt Reader_isFigure_b16 (k_ci 1 Reader_isFigure_b17)))))))
theorem S_Reader_isFigure_b0 : ak_S cX6_isFigure RX6 2 2 0 0 (0, fun _ => 0) 0 (Reader_isFigure_b0) := by
  unfold Reader_isFigure_b0
  refine s_iload_n dX6_isFigure_0 rfl ?_
  refine s_bipush (x := 48) dX6_isFigure_1 (by decide +kernel) ?_
  refine s_cmlt (tgt := 16) dX6_isFigure_3 (by decide) ?_ ?_
  · exact S_Reader_isFigure_b16
  · refine s_iload_n dX6_isFigure_6 rfl ?_
    refine s_bipush (x := 57) dX6_isFigure_7 (by decide +kernel) ?_
    refine s_cmgt (tgt := 16) dX6_isFigure_9 (by decide) ?_ ?_
    · exact S_Reader_isFigure_b16
    · refine s_iconst (x := 1) dX6_isFigure_12 (by decide +kernel) ?_
      refine s_goto (tgt := 17) dX6_isFigure_13 (by decide) ?_
      exact S_Reader_isFigure_b17
def Reader_isFigure (As : List Value) (M : ak_M) : ak_R := match As with
  | [.ref a, .int x0] => Reader_isFigure_b0 [some (.ref a), some (.int x0)] [] M
  | _ => none
theorem M_Reader_isFigure : ak_Mt yX6_isFigure cX6_isFigure 2 (some .boolean) 0 0 Reader_isFigure := by
  refine ak_met (rk := 2) wd_179 (by decide +kernel) rfl (Or.inr (Or.inr (Or.inl ⟨rfl, rfl⟩))) (fun h => absurd h (by decide)) S_Reader_isFigure_b0 (fun As M r h => ?_)
  unfold Reader_isFigure at h
  split at h
  next => exact ⟨Nat.le_of_ble_eq_true rfl, 0, h⟩
  next => cases h
-- GreetedMirrors$Reader.readNumber(II)I
def Reader_readNumber_b137 : ak_K := (k_il 3 k_ri)
theorem S_Reader_readNumber_b137 : ak_S cX6_readNumber RX6 5 1 2 40 (0, fun _ => 0) 137 (Reader_readNumber_b137) := by
  unfold Reader_readNumber_b137
  refine s_iload_n dX6_readNumber_137 rfl ?_
  exact s_ri rfl dX6_readNumber_138
def Reader_readNumber_b128 : ak_K := (k_al 0 (k_ci 2 (k_al 0 (k_gi 6 3 (k_cv 6 3 Reader_mark Reader_readNumber_b137)))))
theorem S_Reader_readNumber_b128 : ak_S cX6_readNumber RX6 5 1 2 40 (0, fun _ => 0) 128 (Reader_readNumber_b128) := by
  unfold Reader_readNumber_b128
  refine s_aload_n dX6_readNumber_128 rfl ?_
  refine s_iconst (x := 2) dX6_readNumber_129 (by decide +kernel) ?_
  refine s_aload_n dX6_readNumber_130 rfl ?_
  refine s_gi (C := RX6) (Tf := TX6) (N := 6) (i := 6) (j := 3) rfl (by decide) rfl (Or.inl wd_180) dX6_readNumber_131 ?_
  refine s_cv (C := RX6) (Tf := TX6) (N := 6) (i := 6) rfl M_Reader_mark dX6_readNumber_134 rfl ⟨by decide +kernel, by decide +kernel, by decide +kernel⟩ (by decide) wd_170 wd_171 wd_157 (Or.inl wd_169) ?_
  exact S_Reader_readNumber_b137
def Reader_readNumber_b84 : ak_K := (k_al 0 (k_gi 6 2 (k_al 0 (k_gi 6 3 (k_b (fun x y => x - y) (k_is 4 (k_il 4 (k_ifeq (k_al 0 (k_ci 1 (k_al 0 (k_gi 6 3 (k_cv 6 3 Reader_mark Reader_readNumber_b137))))) (k_il 4 (k_ci 4 (k_cmgt Reader_readNumber_b128 (k_il 3 (k_il 1 (k_cmlt Reader_readNumber_b128 (k_il 3 (k_il 2 (k_cmle Reader_readNumber_b137 Reader_readNumber_b128)))))))))))))))))
theorem S_Reader_readNumber_b84 : ak_S cX6_readNumber RX6 5 1 2 40 (0, fun _ => 0) 84 (Reader_readNumber_b84) := by
  unfold Reader_readNumber_b84
  refine s_aload_n dX6_readNumber_84 rfl ?_
  refine s_gi (C := RX6) (Tf := TX6) (N := 6) (i := 6) (j := 2) rfl (by decide) rfl (Or.inl wd_154) dX6_readNumber_85 ?_
  refine s_aload_n dX6_readNumber_88 rfl ?_
  refine s_gi (C := RX6) (Tf := TX6) (N := 6) (i := 6) (j := 3) rfl (by decide) rfl (Or.inl wd_180) dX6_readNumber_89 ?_
  refine s_isub dX6_readNumber_92 ?_
  refine s_istore dX6_readNumber_93 (by decide) ?_
  refine s_iload dX6_readNumber_95 ?_
  refine s_ifne (tgt := 112) dX6_readNumber_97 (by decide) ?_ ?_
  · refine s_aload_n dX6_readNumber_100 rfl ?_
    refine s_iconst (x := 1) dX6_readNumber_101 (by decide +kernel) ?_
    refine s_aload_n dX6_readNumber_102 rfl ?_
    refine s_gi (C := RX6) (Tf := TX6) (N := 6) (i := 6) (j := 3) rfl (by decide) rfl (Or.inl wd_180) dX6_readNumber_103 ?_
    refine s_cv (C := RX6) (Tf := TX6) (N := 6) (i := 6) rfl M_Reader_mark dX6_readNumber_106 rfl ⟨by decide +kernel, by decide +kernel, by decide +kernel⟩ (by decide) wd_170 wd_171 wd_157 (Or.inl wd_169) ?_
    refine s_goto (tgt := 137) dX6_readNumber_109 (by decide) ?_
    exact S_Reader_readNumber_b137
  · refine s_iload dX6_readNumber_112 ?_
    refine s_iconst (x := 4) dX6_readNumber_114 (by decide +kernel) ?_
    refine s_cmgt (tgt := 128) dX6_readNumber_115 (by decide) ?_ ?_
    · exact S_Reader_readNumber_b128
    · refine s_iload_n dX6_readNumber_118 rfl ?_
      refine s_iload_n dX6_readNumber_119 rfl ?_
      refine s_cmlt (tgt := 128) dX6_readNumber_120 (by decide) ?_ ?_
      · exact S_Reader_readNumber_b128
      · refine s_iload_n dX6_readNumber_123 rfl ?_
        refine s_iload_n dX6_readNumber_124 rfl ?_
        refine s_cmle (tgt := 137) dX6_readNumber_125 (by decide) ?_ ?_
        · exact S_Reader_readNumber_b137
        · exact S_Reader_readNumber_b128
def Reader_readNumber_b71 (h23 : ak_K) : ak_K := (k_al 0 (k_dup (k_gi 6 2 (k_ci 1 (k_b (fun x y => x + y) (k_pi 6 2 h23))))))
theorem S_Reader_readNumber_b71 {h23 : ak_K} (H23 : ak_S cX6_readNumber RX6 5 1 2 40 (0, fun _ => 0) 23 h23) : ak_S cX6_readNumber RX6 5 1 2 40 (0, fun _ => 0) 71 (Reader_readNumber_b71 h23) := by
  unfold Reader_readNumber_b71
  refine s_aload_n dX6_readNumber_71 rfl ?_
  refine s_dup dX6_readNumber_72 ?_
  refine s_gi (C := RX6) (Tf := TX6) (N := 6) (i := 6) (j := 2) rfl (by decide) rfl (Or.inl wd_154) dX6_readNumber_73 ?_
  refine s_iconst (x := 1) dX6_readNumber_76 (by decide +kernel) ?_
  refine s_iadd dX6_readNumber_77 ?_
  refine s_pi (C := RX6) (Tf := TX6) (N := 6) (i := 6) (j := 2) rfl (by decide) rfl (Or.inl ⟨wd_154, Or.inl rfl⟩) dX6_readNumber_78 ?_
  refine s_goto (tgt := 23) dX6_readNumber_81 (by decide) ?_
  exact H23
def Reader_readNumber_b69 (h23 : ak_K) : ak_K := (k_b (fun x y => x - y) (k_is 3 (Reader_readNumber_b71 h23)))
theorem S_Reader_readNumber_b69 {h23 : ak_K} (H23 : ak_S cX6_readNumber RX6 5 1 2 40 (0, fun _ => 0) 23 h23) : ak_S cX6_readNumber RX6 5 1 2 40 (0, fun _ => 0) 69 (Reader_readNumber_b69 h23) := by
  unfold Reader_readNumber_b69
  refine s_isub dX6_readNumber_69 ?_
  refine s_istore_n dX6_readNumber_70 rfl (by decide) ?_
  exact (S_Reader_readNumber_b71 H23)
def Reader_readNumber_b23 (h23 : ak_K) : ak_K := (k_al 0 (k_gi 6 2 (k_al 0 (k_gi 6 1 (k_cmge Reader_readNumber_b84 (k_al 0 (k_al 0 (k_cv 6 1 Reader_here (k_cv 6 2 Reader_isFigure (k_ifeq Reader_readNumber_b84 (k_al 0 (k_gi 6 2 (k_al 0 (k_gi 6 3 (k_b (fun x y => x - y) (k_ci 4 (k_cmge (Reader_readNumber_b71 h23) (k_il 3 (k_ci 10 (k_b (fun x y => x * y) (k_al 0 (k_cv 6 1 Reader_here (k_b (fun x y => x + y) (k_ci 48 (Reader_readNumber_b69 h23)))))))))))))))))))))))))
theorem S_Reader_readNumber_b23 {h23 : ak_K} (H23 : ak_S cX6_readNumber RX6 5 1 2 40 (0, fun _ => 0) 23 h23) : ak_S cX6_readNumber RX6 5 1 2 40 (0, fun _ => 0) 23 (Reader_readNumber_b23 h23) := by
  unfold Reader_readNumber_b23
  refine s_aload_n dX6_readNumber_23 rfl ?_
  refine s_gi (C := RX6) (Tf := TX6) (N := 6) (i := 6) (j := 2) rfl (by decide) rfl (Or.inl wd_154) dX6_readNumber_24 ?_
  refine s_aload_n dX6_readNumber_27 rfl ?_
  refine s_gi (C := RX6) (Tf := TX6) (N := 6) (i := 6) (j := 1) rfl (by decide) rfl (Or.inl wd_151) dX6_readNumber_28 ?_
  refine s_cmge (tgt := 84) dX6_readNumber_31 (by decide) ?_ ?_
  · exact S_Reader_readNumber_b84
  · refine s_aload_n dX6_readNumber_34 rfl ?_
    refine s_aload_n dX6_readNumber_35 rfl ?_
    refine s_cv (C := RX6) (Tf := TX6) (N := 6) (i := 6) rfl M_Reader_here dX6_readNumber_36 rfl ⟨by decide +kernel, by decide +kernel, by decide +kernel⟩ (by decide) wd_158 wd_159 wd_157 (Or.inl wd_156) ?_
    refine s_cv (C := RX6) (Tf := TX6) (N := 6) (i := 6) rfl M_Reader_isFigure dX6_readNumber_39 rfl ⟨by decide +kernel, by decide +kernel, by decide +kernel⟩ (by decide) wd_182 wd_183 wd_157 (Or.inl wd_181) ?_
    refine s_ifeq (tgt := 84) dX6_readNumber_42 (by decide) ?_ ?_
    · exact S_Reader_readNumber_b84
    · refine s_aload_n dX6_readNumber_45 rfl ?_
      refine s_gi (C := RX6) (Tf := TX6) (N := 6) (i := 6) (j := 2) rfl (by decide) rfl (Or.inl wd_154) dX6_readNumber_46 ?_
      refine s_aload_n dX6_readNumber_49 rfl ?_
      refine s_gi (C := RX6) (Tf := TX6) (N := 6) (i := 6) (j := 3) rfl (by decide) rfl (Or.inl wd_180) dX6_readNumber_50 ?_
      refine s_isub dX6_readNumber_53 ?_
      refine s_iconst (x := 4) dX6_readNumber_54 (by decide +kernel) ?_
      refine s_cmge (tgt := 71) dX6_readNumber_55 (by decide) ?_ ?_
      · exact (S_Reader_readNumber_b71 H23)
      · refine s_iload_n dX6_readNumber_58 rfl ?_
        refine s_bipush (x := 10) dX6_readNumber_59 (by decide +kernel) ?_
        refine s_imul dX6_readNumber_61 ?_
        refine s_aload_n dX6_readNumber_62 rfl ?_
        refine s_cv (C := RX6) (Tf := TX6) (N := 6) (i := 6) rfl M_Reader_here dX6_readNumber_63 rfl ⟨by decide +kernel, by decide +kernel, by decide +kernel⟩ (by decide) wd_158 wd_159 wd_157 (Or.inl wd_156) ?_
        refine s_iadd dX6_readNumber_66 ?_
        refine s_bipush (x := 48) dX6_readNumber_67 (by decide +kernel) ?_
        exact (S_Reader_readNumber_b69 H23)
def Reader_readNumber_l23 : Nat → ak_K
  | 0 => k_no
  | n + 1 => Reader_readNumber_b23 (Reader_readNumber_l23 n)
theorem S_Reader_readNumber_l23 : ∀ n : Nat, ak_S cX6_readNumber RX6 5 1 2 40 (0, fun _ => 0) 23 (Reader_readNumber_l23 n)
  | 0 => s_no
  | n + 1 => S_Reader_readNumber_b23 (S_Reader_readNumber_l23 n)
def Reader_readNumber_b0 : ak_K := (k_al 0 (k_gi 6 4 (k_ifeq (k_al 0 (k_cv 6 1 Reader_skipBlanks (k_al 0 (k_al 0 (k_gi 6 2 (k_pi 6 3 (k_ci 0 (k_is 3 (Reader_readNumber_l23 ak_fuel))))))))) (k_ci 0 k_ri))))
theorem S_Reader_readNumber_b0 : ak_S cX6_readNumber RX6 5 1 2 40 (0, fun _ => 0) 0 (Reader_readNumber_b0) := by
  unfold Reader_readNumber_b0
  refine s_aload_n dX6_readNumber_0 rfl ?_
  refine s_gi (C := RX6) (Tf := TX6) (N := 6) (i := 6) (j := 4) rfl (by decide) rfl (Or.inl wd_162) dX6_readNumber_1 ?_
  refine s_ifeq (tgt := 9) dX6_readNumber_4 (by decide) ?_ ?_
  · refine s_aload_n dX6_readNumber_9 rfl ?_
    refine s_cv (C := RX6) (Tf := TX6) (N := 6) (i := 6) rfl M_Reader_skipBlanks dX6_readNumber_10 rfl ⟨by decide +kernel, by decide +kernel, by decide +kernel⟩ (by decide) wd_185 wd_186 wd_157 (Or.inl wd_184) ?_
    refine s_aload_n dX6_readNumber_13 rfl ?_
    refine s_aload_n dX6_readNumber_14 rfl ?_
    refine s_gi (C := RX6) (Tf := TX6) (N := 6) (i := 6) (j := 2) rfl (by decide) rfl (Or.inl wd_154) dX6_readNumber_15 ?_
    refine s_pi (C := RX6) (Tf := TX6) (N := 6) (i := 6) (j := 3) rfl (by decide) rfl (Or.inl ⟨wd_180, Or.inl rfl⟩) dX6_readNumber_18 ?_
    refine s_iconst (x := 0) dX6_readNumber_21 (by decide +kernel) ?_
    refine s_istore_n dX6_readNumber_22 rfl (by decide) ?_
    exact (S_Reader_readNumber_l23 ak_fuel)
  · refine s_iconst (x := 0) dX6_readNumber_7 (by decide +kernel) ?_
    exact s_ri rfl dX6_readNumber_8
def Reader_readNumber (As : List Value) (M : ak_M) : ak_R := match As with
  | [.ref a, .int x0, .int x1] => Reader_readNumber_b0 [some (.ref a), some (.int x0), some (.int x1), none, none] [] M
  | _ => none
theorem M_Reader_readNumber : ak_Mt yX6_readNumber cX6_readNumber 5 (some .int) 2 40 Reader_readNumber := by
  refine ak_met (rk := 1) wd_187 (by decide +kernel) rfl (Or.inr (Or.inl ⟨rfl, rfl⟩)) (fun h => absurd h (by decide)) S_Reader_readNumber_b0 (fun As M r h => ?_)
  unfold Reader_readNumber at h
  split at h
  next => exact ⟨Nat.le_of_ble_eq_true rfl, 2, h⟩
  next => cases h
-- GreetedMirrors$Reader.readRooms(LGreetedMirrors$House;)V
def Reader_readRooms_b0 : ak_K := (k_al 1 (k_al 0 (k_ci 1 (k_ci 7 (k_cv 6 3 Reader_readNumber (k_pi 2 0 (k_al 1 (k_al 0 (k_ci 0 (k_ci 1023 (k_cv 6 3 Reader_readNumber (k_pi 2 1 k_rv))))))))))))
theorem S_Reader_readRooms_b0 : ak_S cX6_readRooms RX6 2 0 3 64 (0, fun _ => 0) 0 (Reader_readRooms_b0) := by
  unfold Reader_readRooms_b0
  refine s_aload_n dX6_readRooms_0 rfl ?_
  refine s_aload_n dX6_readRooms_1 rfl ?_
  refine s_iconst (x := 1) dX6_readRooms_2 (by decide +kernel) ?_
  refine s_bipush (x := 7) dX6_readRooms_3 (by decide +kernel) ?_
  refine s_cv (C := RX6) (Tf := TX6) (N := 6) (i := 6) rfl M_Reader_readNumber dX6_readRooms_5 rfl ⟨by decide +kernel, by decide +kernel, by decide +kernel⟩ (by decide) wd_189 wd_190 wd_157 (Or.inl wd_188) ?_
  refine s_pi (C := RX2) (Tf := TX2) (N := 12) (i := 2) (j := 0) rfl (by decide) rfl (Or.inr ⟨⟨_, wd_165⟩, rfl⟩) dX6_readRooms_8 ?_
  refine s_aload_n dX6_readRooms_11 rfl ?_
  refine s_aload_n dX6_readRooms_12 rfl ?_
  refine s_iconst (x := 0) dX6_readRooms_13 (by decide +kernel) ?_
  refine s_sipush (x := 1023) dX6_readRooms_14 (by decide +kernel) ?_
  refine s_cv (C := RX6) (Tf := TX6) (N := 6) (i := 6) rfl M_Reader_readNumber dX6_readRooms_17 rfl ⟨by decide +kernel, by decide +kernel, by decide +kernel⟩ (by decide) wd_189 wd_190 wd_157 (Or.inl wd_188) ?_
  refine s_pi (C := RX2) (Tf := TX2) (N := 12) (i := 2) (j := 1) rfl (by decide) rfl (Or.inr ⟨⟨_, wd_191⟩, rfl⟩) dX6_readRooms_20 ?_
  exact s_rv (Or.inl rfl) dX6_readRooms_23
def Reader_readRooms (As : List Value) (M : ak_M) : ak_R := match As with
  | [.ref a, .ref x0] => Reader_readRooms_b0 [some (.ref a), some (.ref x0)] [] M
  | _ => none
theorem M_Reader_readRooms : ak_Mt yX6_readRooms cX6_readRooms 2 none 3 64 Reader_readRooms := by
  refine ak_met (rk := 0) wd_192 (by decide +kernel) rfl (Or.inl ⟨Or.inl rfl, rfl⟩) (fun h => absurd h (by decide)) S_Reader_readRooms_b0 (fun As M r h => ?_)
  unfold Reader_readRooms at h
  split at h
  next => exact ⟨Nat.le_of_ble_eq_true rfl, 0, h⟩
  next => cases h
-- GreetedMirrors$Reader.readDoor(LGreetedMirrors$House;)V
def Reader_readDoor_b60 : ak_K := k_rv
theorem S_Reader_readDoor_b60 : ak_S cX6_readDoor RX6 4 0 3 64 (0, fun _ => 0) 60 (Reader_readDoor_b60) := by
  unfold Reader_readDoor_b60
  exact s_rv (Or.inl rfl) dX6_readDoor_60
def Reader_readDoor_b47 : ak_K := (k_al 0 (k_gi 6 4 (k_ifeq (k_al 1 (k_il 2 (k_il 3 (k_cv 2 3 House_addDoor Reader_readDoor_b60)))) Reader_readDoor_b60)))
theorem S_Reader_readDoor_b47 : ak_S cX6_readDoor RX6 4 0 3 64 (0, fun _ => 0) 47 (Reader_readDoor_b47) := by
  unfold Reader_readDoor_b47
  refine s_aload_n dX6_readDoor_47 rfl ?_
  refine s_gi (C := RX6) (Tf := TX6) (N := 6) (i := 6) (j := 4) rfl (by decide) rfl (Or.inl wd_162) dX6_readDoor_48 ?_
  refine s_ifne (tgt := 60) dX6_readDoor_51 (by decide) ?_ ?_
  · refine s_aload_n dX6_readDoor_54 rfl ?_
    refine s_iload_n dX6_readDoor_55 rfl ?_
    refine s_iload_n dX6_readDoor_56 rfl ?_
    refine s_cv (C := RX2) (Tf := TX2) (N := 12) (i := 2) rfl M_House_addDoor dX6_readDoor_57 rfl ⟨by decide +kernel, by decide +kernel, by decide +kernel⟩ (by decide) wd_195 wd_196 wd_194 (Or.inr ⟨_, wd_193⟩) ?_
    exact S_Reader_readDoor_b60
  · exact S_Reader_readDoor_b60
def Reader_readDoor_b38 : ak_K := (k_al 0 (k_ci 4 (k_al 0 (k_gi 6 3 (k_cv 6 3 Reader_mark Reader_readDoor_b47)))))
theorem S_Reader_readDoor_b38 : ak_S cX6_readDoor RX6 4 0 3 64 (0, fun _ => 0) 38 (Reader_readDoor_b38) := by
  unfold Reader_readDoor_b38
  refine s_aload_n dX6_readDoor_38 rfl ?_
  refine s_iconst (x := 4) dX6_readDoor_39 (by decide +kernel) ?_
  refine s_aload_n dX6_readDoor_40 rfl ?_
  refine s_gi (C := RX6) (Tf := TX6) (N := 6) (i := 6) (j := 3) rfl (by decide) rfl (Or.inl wd_180) dX6_readDoor_41 ?_
  refine s_cv (C := RX6) (Tf := TX6) (N := 6) (i := 6) rfl M_Reader_mark dX6_readDoor_44 rfl ⟨by decide +kernel, by decide +kernel, by decide +kernel⟩ (by decide) wd_170 wd_171 wd_157 (Or.inl wd_169) ?_
  exact S_Reader_readDoor_b47
def Reader_readDoor_b0 : ak_K := (k_al 0 (k_ci 0 (k_al 1 (k_gi 2 0 (k_ci 1 (k_b (fun x y => x - y) (k_cv 6 3 Reader_readNumber (k_is 2 (k_al 0 (k_ci 0 (k_al 1 (k_gi 2 0 (k_ci 1 (k_b (fun x y => x - y) (k_cv 6 3 Reader_readNumber (k_is 3 (k_il 2 (k_il 3 (k_cmeq Reader_readDoor_b38 (k_al 1 (k_il 2 (k_il 3 (k_cv 2 3 House_haveDoor (k_ifeq Reader_readDoor_b47 Reader_readDoor_b38))))))))))))))))))))))))
theorem S_Reader_readDoor_b0 : ak_S cX6_readDoor RX6 4 0 3 64 (0, fun _ => 0) 0 (Reader_readDoor_b0) := by
  unfold Reader_readDoor_b0
  refine s_aload_n dX6_readDoor_0 rfl ?_
  refine s_iconst (x := 0) dX6_readDoor_1 (by decide +kernel) ?_
  refine s_aload_n dX6_readDoor_2 rfl ?_
  refine s_gi (C := RX2) (Tf := TX2) (N := 12) (i := 2) (j := 0) rfl (by decide) rfl (Or.inr ⟨_, wd_165⟩) dX6_readDoor_3 ?_
  refine s_iconst (x := 1) dX6_readDoor_6 (by decide +kernel) ?_
  refine s_isub dX6_readDoor_7 ?_
  refine s_cv (C := RX6) (Tf := TX6) (N := 6) (i := 6) rfl M_Reader_readNumber dX6_readDoor_8 rfl ⟨by decide +kernel, by decide +kernel, by decide +kernel⟩ (by decide) wd_189 wd_190 wd_157 (Or.inl wd_188) ?_
  refine s_istore_n dX6_readDoor_11 rfl (by decide) ?_
  refine s_aload_n dX6_readDoor_12 rfl ?_
  refine s_iconst (x := 0) dX6_readDoor_13 (by decide +kernel) ?_
  refine s_aload_n dX6_readDoor_14 rfl ?_
  refine s_gi (C := RX2) (Tf := TX2) (N := 12) (i := 2) (j := 0) rfl (by decide) rfl (Or.inr ⟨_, wd_165⟩) dX6_readDoor_15 ?_
  refine s_iconst (x := 1) dX6_readDoor_18 (by decide +kernel) ?_
  refine s_isub dX6_readDoor_19 ?_
  refine s_cv (C := RX6) (Tf := TX6) (N := 6) (i := 6) rfl M_Reader_readNumber dX6_readDoor_20 rfl ⟨by decide +kernel, by decide +kernel, by decide +kernel⟩ (by decide) wd_189 wd_190 wd_157 (Or.inl wd_188) ?_
  refine s_istore_n dX6_readDoor_23 rfl (by decide) ?_
  refine s_iload_n dX6_readDoor_24 rfl ?_
  refine s_iload_n dX6_readDoor_25 rfl ?_
  refine s_cmeq (tgt := 38) dX6_readDoor_26 (by decide) ?_ ?_
  · exact S_Reader_readDoor_b38
  · refine s_aload_n dX6_readDoor_29 rfl ?_
    refine s_iload_n dX6_readDoor_30 rfl ?_
    refine s_iload_n dX6_readDoor_31 rfl ?_
    refine s_cv (C := RX2) (Tf := TX2) (N := 12) (i := 2) rfl M_House_haveDoor dX6_readDoor_32 rfl ⟨by decide +kernel, by decide +kernel, by decide +kernel⟩ (by decide) wd_198 wd_199 wd_194 (Or.inr ⟨_, wd_197⟩) ?_
    refine s_ifeq (tgt := 47) dX6_readDoor_35 (by decide) ?_ ?_
    · exact S_Reader_readDoor_b47
    · exact S_Reader_readDoor_b38
def Reader_readDoor (As : List Value) (M : ak_M) : ak_R := match As with
  | [.ref a, .ref x0] => Reader_readDoor_b0 [some (.ref a), some (.ref x0), none, none] [] M
  | _ => none
theorem M_Reader_readDoor : ak_Mt yX6_readDoor cX6_readDoor 4 none 3 64 Reader_readDoor := by
  refine ak_met (rk := 0) wd_200 (by decide +kernel) rfl (Or.inl ⟨Or.inl rfl, rfl⟩) (fun h => absurd h (by decide)) S_Reader_readDoor_b0 (fun As M r h => ?_)
  unfold Reader_readDoor at h
  split at h
  next => exact ⟨Nat.le_of_ble_eq_true rfl, 2, h⟩
  next => cases h
-- GreetedMirrors$Reader.readMirror(LGreetedMirrors$House;)V
def Reader_readMirror_b33 : ak_K := k_rv
theorem S_Reader_readMirror_b33 : ak_S cX6_readMirror RX6 4 0 3 64 (0, fun _ => 0) 33 (Reader_readMirror_b33) := by
  unfold Reader_readMirror_b33
  exact s_rv (Or.inl rfl) dX6_readMirror_33
def Reader_readMirror_b0 : ak_K := (k_al 0 (k_ci 0 (k_al 1 (k_gi 2 0 (k_ci 1 (k_b (fun x y => x - y) (k_cv 6 3 Reader_readNumber (k_is 2 (k_al 0 (k_ci 0 (k_ci 9 (k_cv 6 3 Reader_readNumber (k_is 3 (k_al 0 (k_gi 6 4 (k_ifeq (k_al 1 (k_il 2 (k_il 3 (k_cv 2 3 House_addMirror Reader_readMirror_b33)))) Reader_readMirror_b33))))))))))))))))
theorem S_Reader_readMirror_b0 : ak_S cX6_readMirror RX6 4 0 3 64 (0, fun _ => 0) 0 (Reader_readMirror_b0) := by
  unfold Reader_readMirror_b0
  refine s_aload_n dX6_readMirror_0 rfl ?_
  refine s_iconst (x := 0) dX6_readMirror_1 (by decide +kernel) ?_
  refine s_aload_n dX6_readMirror_2 rfl ?_
  refine s_gi (C := RX2) (Tf := TX2) (N := 12) (i := 2) (j := 0) rfl (by decide) rfl (Or.inr ⟨_, wd_165⟩) dX6_readMirror_3 ?_
  refine s_iconst (x := 1) dX6_readMirror_6 (by decide +kernel) ?_
  refine s_isub dX6_readMirror_7 ?_
  refine s_cv (C := RX6) (Tf := TX6) (N := 6) (i := 6) rfl M_Reader_readNumber dX6_readMirror_8 rfl ⟨by decide +kernel, by decide +kernel, by decide +kernel⟩ (by decide) wd_189 wd_190 wd_157 (Or.inl wd_188) ?_
  refine s_istore_n dX6_readMirror_11 rfl (by decide) ?_
  refine s_aload_n dX6_readMirror_12 rfl ?_
  refine s_iconst (x := 0) dX6_readMirror_13 (by decide +kernel) ?_
  refine s_bipush (x := 9) dX6_readMirror_14 (by decide +kernel) ?_
  refine s_cv (C := RX6) (Tf := TX6) (N := 6) (i := 6) rfl M_Reader_readNumber dX6_readMirror_16 rfl ⟨by decide +kernel, by decide +kernel, by decide +kernel⟩ (by decide) wd_189 wd_190 wd_157 (Or.inl wd_188) ?_
  refine s_istore_n dX6_readMirror_19 rfl (by decide) ?_
  refine s_aload_n dX6_readMirror_20 rfl ?_
  refine s_gi (C := RX6) (Tf := TX6) (N := 6) (i := 6) (j := 4) rfl (by decide) rfl (Or.inl wd_162) dX6_readMirror_21 ?_
  refine s_ifne (tgt := 33) dX6_readMirror_24 (by decide) ?_ ?_
  · refine s_aload_n dX6_readMirror_27 rfl ?_
    refine s_iload_n dX6_readMirror_28 rfl ?_
    refine s_iload_n dX6_readMirror_29 rfl ?_
    refine s_cv (C := RX2) (Tf := TX2) (N := 12) (i := 2) rfl M_House_addMirror dX6_readMirror_30 rfl ⟨by decide +kernel, by decide +kernel, by decide +kernel⟩ (by decide) wd_202 wd_203 wd_194 (Or.inr ⟨_, wd_201⟩) ?_
    exact S_Reader_readMirror_b33
  · exact S_Reader_readMirror_b33
def Reader_readMirror (As : List Value) (M : ak_M) : ak_R := match As with
  | [.ref a, .ref x0] => Reader_readMirror_b0 [some (.ref a), some (.ref x0), none, none] [] M
  | _ => none
theorem M_Reader_readMirror : ak_Mt yX6_readMirror cX6_readMirror 4 none 3 64 Reader_readMirror := by
  refine ak_met (rk := 0) wd_204 (by decide +kernel) rfl (Or.inl ⟨Or.inl rfl, rfl⟩) (fun h => absurd h (by decide)) S_Reader_readMirror_b0 (fun As M r h => ?_)
  unfold Reader_readMirror at h
  split at h
  next => exact ⟨Nat.le_of_ble_eq_true rfl, 2, h⟩
  next => cases h
-- GreetedMirrors$Reader.readOpposite(LGreetedMirrors$House;)V
def Reader_readOpposite_b115 : ak_K := k_rv
theorem S_Reader_readOpposite_b115 : ak_S cX6_readOpposite RX6 4 0 3 64 (0, fun _ => 0) 115 (Reader_readOpposite_b115) := by
  unfold Reader_readOpposite_b115
  exact s_rv (Or.inl rfl) dX6_readOpposite_115
def Reader_readOpposite_b90 : ak_K := (k_al 0 (k_gi 6 4 (k_ifeq (k_al 1 (k_gp 2 9 (k_il 2 (k_il 3 (k_cs 3 G_put (k_al 1 (k_gp 2 9 (k_il 3 (k_il 2 (k_cs 3 G_put Reader_readOpposite_b115)))))))))) Reader_readOpposite_b115)))
theorem S_Reader_readOpposite_b90 : ak_S cX6_readOpposite RX6 4 0 3 64 (0, fun _ => 0) 90 (Reader_readOpposite_b90) := by
  unfold Reader_readOpposite_b90
  refine s_aload_n dX6_readOpposite_90 rfl ?_
  refine s_gi (C := RX6) (Tf := TX6) (N := 6) (i := 6) (j := 4) rfl (by decide) rfl (Or.inl wd_162) dX6_readOpposite_91 ?_
  refine s_ifne (tgt := 115) dX6_readOpposite_94 (by decide) ?_ ?_
  · refine s_aload_n dX6_readOpposite_97 rfl ?_
    refine s_gp (C := RX2) (Tf := TX2) (N := 12) (i := 2) (j := 9) rfl (by decide) rfl (Or.inr ⟨_, wd_205⟩) dX6_readOpposite_98 ?_
    refine s_iload_n dX6_readOpposite_101 rfl ?_
    refine s_iload_n dX6_readOpposite_102 rfl ?_
    refine s_cs M_G_put dX6_readOpposite_103 ⟨by decide +kernel, by decide +kernel, by decide +kernel⟩ (by decide) wd_11 wd_10 (Or.inr ⟨_, wd_152⟩) ?_
    refine s_aload_n dX6_readOpposite_106 rfl ?_
    refine s_gp (C := RX2) (Tf := TX2) (N := 12) (i := 2) (j := 9) rfl (by decide) rfl (Or.inr ⟨_, wd_205⟩) dX6_readOpposite_107 ?_
    refine s_iload_n dX6_readOpposite_110 rfl ?_
    refine s_iload_n dX6_readOpposite_111 rfl ?_
    refine s_cs M_G_put dX6_readOpposite_112 ⟨by decide +kernel, by decide +kernel, by decide +kernel⟩ (by decide) wd_11 wd_10 (Or.inr ⟨_, wd_152⟩) ?_
    exact S_Reader_readOpposite_b115
  · exact S_Reader_readOpposite_b115
def Reader_readOpposite_b81 : ak_K := (k_al 0 (k_ci 4 (k_al 0 (k_gi 6 3 (k_cv 6 3 Reader_mark Reader_readOpposite_b90)))))
theorem S_Reader_readOpposite_b81 : ak_S cX6_readOpposite RX6 4 0 3 64 (0, fun _ => 0) 81 (Reader_readOpposite_b81) := by
  unfold Reader_readOpposite_b81
  refine s_aload_n dX6_readOpposite_81 rfl ?_
  refine s_iconst (x := 4) dX6_readOpposite_82 (by decide +kernel) ?_
  refine s_aload_n dX6_readOpposite_83 rfl ?_
  refine s_gi (C := RX6) (Tf := TX6) (N := 6) (i := 6) (j := 3) rfl (by decide) rfl (Or.inl wd_180) dX6_readOpposite_84 ?_
  refine s_cv (C := RX6) (Tf := TX6) (N := 6) (i := 6) rfl M_Reader_mark dX6_readOpposite_87 rfl ⟨by decide +kernel, by decide +kernel, by decide +kernel⟩ (by decide) wd_170 wd_171 wd_157 (Or.inl wd_169) ?_
  exact S_Reader_readOpposite_b90
def Reader_readOpposite_b75 : ak_K := (k_cs 2 G_at (k_cmeq Reader_readOpposite_b90 Reader_readOpposite_b81))
theorem S_Reader_readOpposite_b75 : ak_S cX6_readOpposite RX6 4 0 3 64 (0, fun _ => 0) 75 (Reader_readOpposite_b75) := by
  unfold Reader_readOpposite_b75
  refine s_cs M_G_at dX6_readOpposite_75 ⟨by decide +kernel, by decide +kernel, by decide +kernel⟩ (by decide) wd_16 wd_10 (Or.inr ⟨_, wd_206⟩) ?_
  refine s_cmeq (tgt := 90) dX6_readOpposite_78 (by decide) ?_ ?_
  · exact S_Reader_readOpposite_b90
  · exact S_Reader_readOpposite_b81
def Reader_readOpposite_b33 : ak_K := (k_al 0 (k_ci 0 (k_al 1 (k_gi 2 3 (k_ci 1 (k_b (fun x y => x - y) (k_cv 6 3 Reader_readNumber (k_is 3 (k_al 1 (k_gp 2 9 (k_il 3 (k_cs 2 G_at (k_ci (-1) (k_cmeq (k_il 2 (k_il 3 (k_cmeq Reader_readOpposite_b81 (k_al 1 (k_gp 2 7 (k_il 2 (k_cs 2 G_at (k_al 1 (k_gp 2 7 (k_il 3 Reader_readOpposite_b75)))))))))) Reader_readOpposite_b81))))))))))))))
theorem S_Reader_readOpposite_b33 : ak_S cX6_readOpposite RX6 4 0 3 64 (0, fun _ => 0) 33 (Reader_readOpposite_b33) := by
  unfold Reader_readOpposite_b33
  refine s_aload_n dX6_readOpposite_33 rfl ?_
  refine s_iconst (x := 0) dX6_readOpposite_34 (by decide +kernel) ?_
  refine s_aload_n dX6_readOpposite_35 rfl ?_
  refine s_gi (C := RX2) (Tf := TX2) (N := 12) (i := 2) (j := 3) rfl (by decide) rfl (Or.inr ⟨_, wd_166⟩) dX6_readOpposite_36 ?_
  refine s_iconst (x := 1) dX6_readOpposite_39 (by decide +kernel) ?_
  refine s_isub dX6_readOpposite_40 ?_
  refine s_cv (C := RX6) (Tf := TX6) (N := 6) (i := 6) rfl M_Reader_readNumber dX6_readOpposite_41 rfl ⟨by decide +kernel, by decide +kernel, by decide +kernel⟩ (by decide) wd_189 wd_190 wd_157 (Or.inl wd_188) ?_
  refine s_istore_n dX6_readOpposite_44 rfl (by decide) ?_
  refine s_aload_n dX6_readOpposite_45 rfl ?_
  refine s_gp (C := RX2) (Tf := TX2) (N := 12) (i := 2) (j := 9) rfl (by decide) rfl (Or.inr ⟨_, wd_205⟩) dX6_readOpposite_46 ?_
  refine s_iload_n dX6_readOpposite_49 rfl ?_
  refine s_cs M_G_at dX6_readOpposite_50 ⟨by decide +kernel, by decide +kernel, by decide +kernel⟩ (by decide) wd_16 wd_10 (Or.inr ⟨_, wd_206⟩) ?_
  refine s_iconst (x := (-1)) dX6_readOpposite_53 (by decide +kernel) ?_
  refine s_cmne (tgt := 81) dX6_readOpposite_54 (by decide) ?_ ?_
  · refine s_iload_n dX6_readOpposite_57 rfl ?_
    refine s_iload_n dX6_readOpposite_58 rfl ?_
    refine s_cmeq (tgt := 81) dX6_readOpposite_59 (by decide) ?_ ?_
    · exact S_Reader_readOpposite_b81
    · refine s_aload_n dX6_readOpposite_62 rfl ?_
      refine s_gp (C := RX2) (Tf := TX2) (N := 12) (i := 2) (j := 7) rfl (by decide) rfl (Or.inr ⟨_, wd_207⟩) dX6_readOpposite_63 ?_
      refine s_iload_n dX6_readOpposite_66 rfl ?_
      refine s_cs M_G_at dX6_readOpposite_67 ⟨by decide +kernel, by decide +kernel, by decide +kernel⟩ (by decide) wd_16 wd_10 (Or.inr ⟨_, wd_206⟩) ?_
      refine s_aload_n dX6_readOpposite_70 rfl ?_
      refine s_gp (C := RX2) (Tf := TX2) (N := 12) (i := 2) (j := 7) rfl (by decide) rfl (Or.inr ⟨_, wd_207⟩) dX6_readOpposite_71 ?_
      refine s_iload_n dX6_readOpposite_74 rfl ?_
      exact S_Reader_readOpposite_b75
  · exact S_Reader_readOpposite_b81
def Reader_readOpposite_b0 : ak_K := (k_al 0 (k_ci 0 (k_al 1 (k_gi 2 3 (k_ci 1 (k_b (fun x y => x - y) (k_cv 6 3 Reader_readNumber (k_is 2 (k_al 1 (k_gp 2 9 (k_il 2 (k_cs 2 G_at (k_ci (-1) (k_cmeq Reader_readOpposite_b33 (k_al 0 (k_ci 4 (k_al 0 (k_gi 6 3 (k_cv 6 3 Reader_mark Reader_readOpposite_b33)))))))))))))))))))
theorem S_Reader_readOpposite_b0 : ak_S cX6_readOpposite RX6 4 0 3 64 (0, fun _ => 0) 0 (Reader_readOpposite_b0) := by
  unfold Reader_readOpposite_b0
  refine s_aload_n dX6_readOpposite_0 rfl ?_
  refine s_iconst (x := 0) dX6_readOpposite_1 (by decide +kernel) ?_
  refine s_aload_n dX6_readOpposite_2 rfl ?_
  refine s_gi (C := RX2) (Tf := TX2) (N := 12) (i := 2) (j := 3) rfl (by decide) rfl (Or.inr ⟨_, wd_166⟩) dX6_readOpposite_3 ?_
  refine s_iconst (x := 1) dX6_readOpposite_6 (by decide +kernel) ?_
  refine s_isub dX6_readOpposite_7 ?_
  refine s_cv (C := RX6) (Tf := TX6) (N := 6) (i := 6) rfl M_Reader_readNumber dX6_readOpposite_8 rfl ⟨by decide +kernel, by decide +kernel, by decide +kernel⟩ (by decide) wd_189 wd_190 wd_157 (Or.inl wd_188) ?_
  refine s_istore_n dX6_readOpposite_11 rfl (by decide) ?_
  refine s_aload_n dX6_readOpposite_12 rfl ?_
  refine s_gp (C := RX2) (Tf := TX2) (N := 12) (i := 2) (j := 9) rfl (by decide) rfl (Or.inr ⟨_, wd_205⟩) dX6_readOpposite_13 ?_
  refine s_iload_n dX6_readOpposite_16 rfl ?_
  refine s_cs M_G_at dX6_readOpposite_17 ⟨by decide +kernel, by decide +kernel, by decide +kernel⟩ (by decide) wd_16 wd_10 (Or.inr ⟨_, wd_206⟩) ?_
  refine s_iconst (x := (-1)) dX6_readOpposite_20 (by decide +kernel) ?_
  refine s_cmeq (tgt := 33) dX6_readOpposite_21 (by decide) ?_ ?_
  · exact S_Reader_readOpposite_b33
  · refine s_aload_n dX6_readOpposite_24 rfl ?_
    refine s_iconst (x := 4) dX6_readOpposite_25 (by decide +kernel) ?_
    refine s_aload_n dX6_readOpposite_26 rfl ?_
    refine s_gi (C := RX6) (Tf := TX6) (N := 6) (i := 6) (j := 3) rfl (by decide) rfl (Or.inl wd_180) dX6_readOpposite_27 ?_
    refine s_cv (C := RX6) (Tf := TX6) (N := 6) (i := 6) rfl M_Reader_mark dX6_readOpposite_30 rfl ⟨by decide +kernel, by decide +kernel, by decide +kernel⟩ (by decide) wd_170 wd_171 wd_157 (Or.inl wd_169) ?_
    exact S_Reader_readOpposite_b33
def Reader_readOpposite (As : List Value) (M : ak_M) : ak_R := match As with
  | [.ref a, .ref x0] => Reader_readOpposite_b0 [some (.ref a), some (.ref x0), none, none] [] M
  | _ => none
theorem M_Reader_readOpposite : ak_Mt yX6_readOpposite cX6_readOpposite 4 none 3 64 Reader_readOpposite := by
  refine ak_met (rk := 0) wd_208 (by decide +kernel) rfl (Or.inl ⟨Or.inl rfl, rfl⟩) (fun h => absurd h (by decide)) S_Reader_readOpposite_b0 (fun As M r h => ?_)
  unfold Reader_readOpposite at h
  split at h
  next => exact ⟨Nat.le_of_ble_eq_true rfl, 2, h⟩
  next => cases h
-- GreetedMirrors$Reader.readBreath(LGreetedMirrors$House;)V
def Reader_readBreath_b52 : ak_K := k_rv
theorem S_Reader_readBreath_b52 : ak_S cX6_readBreath RX6 4 0 3 64 (0, fun _ => 0) 52 (Reader_readBreath_b52) := by
  unfold Reader_readBreath_b52
  exact s_rv (Or.inl rfl) dX6_readBreath_52
def Reader_readBreath_b28 : ak_K := (k_al 0 (k_ci 1 (k_ci 9 (k_cv 6 3 Reader_readNumber (k_is 3 (k_al 0 (k_gi 6 4 (k_ifeq (k_al 1 (k_gp 2 10 (k_il 2 (k_il 3 (k_cs 3 G_put Reader_readBreath_b52))))) Reader_readBreath_b52))))))))
theorem S_Reader_readBreath_b28 : ak_S cX6_readBreath RX6 4 0 3 64 (0, fun _ => 0) 28 (Reader_readBreath_b28) := by
  unfold Reader_readBreath_b28
  refine s_aload_n dX6_readBreath_28 rfl ?_
  refine s_iconst (x := 1) dX6_readBreath_29 (by decide +kernel) ?_
  refine s_bipush (x := 9) dX6_readBreath_30 (by decide +kernel) ?_
  refine s_cv (C := RX6) (Tf := TX6) (N := 6) (i := 6) rfl M_Reader_readNumber dX6_readBreath_32 rfl ⟨by decide +kernel, by decide +kernel, by decide +kernel⟩ (by decide) wd_189 wd_190 wd_157 (Or.inl wd_188) ?_
  refine s_istore_n dX6_readBreath_35 rfl (by decide) ?_
  refine s_aload_n dX6_readBreath_36 rfl ?_
  refine s_gi (C := RX6) (Tf := TX6) (N := 6) (i := 6) (j := 4) rfl (by decide) rfl (Or.inl wd_162) dX6_readBreath_37 ?_
  refine s_ifne (tgt := 52) dX6_readBreath_40 (by decide) ?_ ?_
  · refine s_aload_n dX6_readBreath_43 rfl ?_
    refine s_gp (C := RX2) (Tf := TX2) (N := 12) (i := 2) (j := 10) rfl (by decide) rfl (Or.inr ⟨_, wd_209⟩) dX6_readBreath_44 ?_
    refine s_iload_n dX6_readBreath_47 rfl ?_
    refine s_iload_n dX6_readBreath_48 rfl ?_
    refine s_cs M_G_put dX6_readBreath_49 ⟨by decide +kernel, by decide +kernel, by decide +kernel⟩ (by decide) wd_11 wd_10 (Or.inr ⟨_, wd_152⟩) ?_
    exact S_Reader_readBreath_b52
  · exact S_Reader_readBreath_b52
def Reader_readBreath_b0 : ak_K := (k_al 0 (k_ci 0 (k_ci 9 (k_cv 6 3 Reader_readNumber (k_is 2 (k_al 1 (k_gp 2 10 (k_il 2 (k_cs 2 G_at (k_ifeq Reader_readBreath_b28 (k_al 0 (k_ci 4 (k_al 0 (k_gi 6 3 (k_cv 6 3 Reader_mark Reader_readBreath_b28)))))))))))))))
theorem S_Reader_readBreath_b0 : ak_S cX6_readBreath RX6 4 0 3 64 (0, fun _ => 0) 0 (Reader_readBreath_b0) := by
  unfold Reader_readBreath_b0
  refine s_aload_n dX6_readBreath_0 rfl ?_
  refine s_iconst (x := 0) dX6_readBreath_1 (by decide +kernel) ?_
  refine s_bipush (x := 9) dX6_readBreath_2 (by decide +kernel) ?_
  refine s_cv (C := RX6) (Tf := TX6) (N := 6) (i := 6) rfl M_Reader_readNumber dX6_readBreath_4 rfl ⟨by decide +kernel, by decide +kernel, by decide +kernel⟩ (by decide) wd_189 wd_190 wd_157 (Or.inl wd_188) ?_
  refine s_istore_n dX6_readBreath_7 rfl (by decide) ?_
  refine s_aload_n dX6_readBreath_8 rfl ?_
  refine s_gp (C := RX2) (Tf := TX2) (N := 12) (i := 2) (j := 10) rfl (by decide) rfl (Or.inr ⟨_, wd_209⟩) dX6_readBreath_9 ?_
  refine s_iload_n dX6_readBreath_12 rfl ?_
  refine s_cs M_G_at dX6_readBreath_13 ⟨by decide +kernel, by decide +kernel, by decide +kernel⟩ (by decide) wd_16 wd_10 (Or.inr ⟨_, wd_206⟩) ?_
  refine s_ifeq (tgt := 28) dX6_readBreath_16 (by decide) ?_ ?_
  · exact S_Reader_readBreath_b28
  · refine s_aload_n dX6_readBreath_19 rfl ?_
    refine s_iconst (x := 4) dX6_readBreath_20 (by decide +kernel) ?_
    refine s_aload_n dX6_readBreath_21 rfl ?_
    refine s_gi (C := RX6) (Tf := TX6) (N := 6) (i := 6) (j := 3) rfl (by decide) rfl (Or.inl wd_180) dX6_readBreath_22 ?_
    refine s_cv (C := RX6) (Tf := TX6) (N := 6) (i := 6) rfl M_Reader_mark dX6_readBreath_25 rfl ⟨by decide +kernel, by decide +kernel, by decide +kernel⟩ (by decide) wd_170 wd_171 wd_157 (Or.inl wd_169) ?_
    exact S_Reader_readBreath_b28
def Reader_readBreath (As : List Value) (M : ak_M) : ak_R := match As with
  | [.ref a, .ref x0] => Reader_readBreath_b0 [some (.ref a), some (.ref x0), none, none] [] M
  | _ => none
theorem M_Reader_readBreath : ak_Mt yX6_readBreath cX6_readBreath 4 none 3 64 Reader_readBreath := by
  refine ak_met (rk := 0) wd_210 (by decide +kernel) rfl (Or.inl ⟨Or.inl rfl, rfl⟩) (fun h => absurd h (by decide)) S_Reader_readBreath_b0 (fun As M r h => ?_)
  unfold Reader_readBreath at h
  split at h
  next => exact ⟨Nat.le_of_ble_eq_true rfl, 2, h⟩
  next => cases h
-- GreetedMirrors$Reader.readPerson(LGreetedMirrors$House;)V
def Reader_readPerson_b24 : ak_K := k_rv
theorem S_Reader_readPerson_b24 : ak_S cX6_readPerson RX6 3 0 3 64 (0, fun _ => 0) 24 (Reader_readPerson_b24) := by
  unfold Reader_readPerson_b24
  exact s_rv (Or.inl rfl) dX6_readPerson_24
def Reader_readPerson_b0 : ak_K := (k_al 0 (k_ci 0 (k_al 1 (k_gi 2 0 (k_ci 1 (k_b (fun x y => x - y) (k_cv 6 3 Reader_readNumber (k_is 2 (k_al 0 (k_gi 6 4 (k_ifeq (k_al 1 (k_il 2 (k_cv 2 2 House_addPerson Reader_readPerson_b24))) Reader_readPerson_b24)))))))))))
theorem S_Reader_readPerson_b0 : ak_S cX6_readPerson RX6 3 0 3 64 (0, fun _ => 0) 0 (Reader_readPerson_b0) := by
  unfold Reader_readPerson_b0
  refine s_aload_n dX6_readPerson_0 rfl ?_
  refine s_iconst (x := 0) dX6_readPerson_1 (by decide +kernel) ?_
  refine s_aload_n dX6_readPerson_2 rfl ?_
  refine s_gi (C := RX2) (Tf := TX2) (N := 12) (i := 2) (j := 0) rfl (by decide) rfl (Or.inr ⟨_, wd_165⟩) dX6_readPerson_3 ?_
  refine s_iconst (x := 1) dX6_readPerson_6 (by decide +kernel) ?_
  refine s_isub dX6_readPerson_7 ?_
  refine s_cv (C := RX6) (Tf := TX6) (N := 6) (i := 6) rfl M_Reader_readNumber dX6_readPerson_8 rfl ⟨by decide +kernel, by decide +kernel, by decide +kernel⟩ (by decide) wd_189 wd_190 wd_157 (Or.inl wd_188) ?_
  refine s_istore_n dX6_readPerson_11 rfl (by decide) ?_
  refine s_aload_n dX6_readPerson_12 rfl ?_
  refine s_gi (C := RX6) (Tf := TX6) (N := 6) (i := 6) (j := 4) rfl (by decide) rfl (Or.inl wd_162) dX6_readPerson_13 ?_
  refine s_ifne (tgt := 24) dX6_readPerson_16 (by decide) ?_ ?_
  · refine s_aload_n dX6_readPerson_19 rfl ?_
    refine s_iload_n dX6_readPerson_20 rfl ?_
    refine s_cv (C := RX2) (Tf := TX2) (N := 12) (i := 2) rfl M_House_addPerson dX6_readPerson_21 rfl ⟨by decide +kernel, by decide +kernel, by decide +kernel⟩ (by decide) wd_212 wd_213 wd_194 (Or.inr ⟨_, wd_211⟩) ?_
    exact S_Reader_readPerson_b24
  · exact S_Reader_readPerson_b24
def Reader_readPerson (As : List Value) (M : ak_M) : ak_R := match As with
  | [.ref a, .ref x0] => Reader_readPerson_b0 [some (.ref a), some (.ref x0), none] [] M
  | _ => none
theorem M_Reader_readPerson : ak_Mt yX6_readPerson cX6_readPerson 3 none 3 64 Reader_readPerson := by
  refine ak_met (rk := 0) wd_214 (by decide +kernel) rfl (Or.inl ⟨Or.inl rfl, rfl⟩) (fun h => absurd h (by decide)) S_Reader_readPerson_b0 (fun As M r h => ?_)
  unfold Reader_readPerson at h
  split at h
  next => exact ⟨Nat.le_of_ble_eq_true rfl, 1, h⟩
  next => cases h
-- GreetedMirrors$Reader.readNumbers(LGreetedMirrors$House;I)V
def Reader_readNumbers_b124 : ak_K := k_rv
theorem S_Reader_readNumbers_b124 : ak_S cX6_readNumbers RX6 3 0 4 87 (0, fun _ => 0) 124 (Reader_readNumbers_b124) := by
  unfold Reader_readNumbers_b124
  exact s_rv (Or.inl rfl) dX6_readNumbers_124
def Reader_readNumbers_b108 : ak_K := (k_al 0 (k_al 1 (k_cv 6 2 Reader_readBreath Reader_readNumbers_b124)))
theorem S_Reader_readNumbers_b108 : ak_S cX6_readNumbers RX6 3 0 4 87 (0, fun _ => 0) 108 (Reader_readNumbers_b108) := by
  unfold Reader_readNumbers_b108
  refine s_aload_n dX6_readNumbers_108 rfl ?_
  refine s_aload_n dX6_readNumbers_109 rfl ?_
  refine s_cv (C := RX6) (Tf := TX6) (N := 6) (i := 6) rfl M_Reader_readBreath dX6_readNumbers_110 rfl ⟨by decide +kernel, by decide +kernel, by decide +kernel⟩ (by decide) wd_216 wd_217 wd_157 (Or.inl wd_215) ?_
  refine s_goto (tgt := 124) dX6_readNumbers_113 (by decide) ?_
  exact S_Reader_readNumbers_b124
def Reader_readNumbers_b84 : ak_K := (k_al 0 (k_al 1 (k_cv 6 2 Reader_readDoor Reader_readNumbers_b124)))
theorem S_Reader_readNumbers_b84 : ak_S cX6_readNumbers RX6 3 0 4 87 (0, fun _ => 0) 84 (Reader_readNumbers_b84) := by
  unfold Reader_readNumbers_b84
  refine s_aload_n dX6_readNumbers_84 rfl ?_
  refine s_aload_n dX6_readNumbers_85 rfl ?_
  refine s_cv (C := RX6) (Tf := TX6) (N := 6) (i := 6) rfl M_Reader_readDoor dX6_readNumbers_86 rfl ⟨by decide +kernel, by decide +kernel, by decide +kernel⟩ (by decide) wd_219 wd_220 wd_157 (Or.inl wd_218) ?_
  refine s_goto (tgt := 124) dX6_readNumbers_89 (by decide) ?_
  exact S_Reader_readNumbers_b124
def Reader_readNumbers_b76 : ak_K := (k_al 0 (k_al 1 (k_cv 6 2 Reader_readRooms Reader_readNumbers_b124)))
theorem S_Reader_readNumbers_b76 : ak_S cX6_readNumbers RX6 3 0 4 87 (0, fun _ => 0) 76 (Reader_readNumbers_b76) := by
  unfold Reader_readNumbers_b76
  refine s_aload_n dX6_readNumbers_76 rfl ?_
  refine s_aload_n dX6_readNumbers_77 rfl ?_
  refine s_cv (C := RX6) (Tf := TX6) (N := 6) (i := 6) rfl M_Reader_readRooms dX6_readNumbers_78 rfl ⟨by decide +kernel, by decide +kernel, by decide +kernel⟩ (by decide) wd_222 wd_223 wd_157 (Or.inl wd_221) ?_
  refine s_goto (tgt := 124) dX6_readNumbers_81 (by decide) ?_
  exact S_Reader_readNumbers_b124
def Reader_readNumbers_b92 : ak_K := (k_al 0 (k_al 1 (k_cv 6 2 Reader_readMirror Reader_readNumbers_b124)))
theorem S_Reader_readNumbers_b92 : ak_S cX6_readNumbers RX6 3 0 4 87 (0, fun _ => 0) 92 (Reader_readNumbers_b92) := by
  unfold Reader_readNumbers_b92
  refine s_aload_n dX6_readNumbers_92 rfl ?_
  refine s_aload_n dX6_readNumbers_93 rfl ?_
  refine s_cv (C := RX6) (Tf := TX6) (N := 6) (i := 6) rfl M_Reader_readMirror dX6_readNumbers_94 rfl ⟨by decide +kernel, by decide +kernel, by decide +kernel⟩ (by decide) wd_225 wd_226 wd_157 (Or.inl wd_224) ?_
  refine s_goto (tgt := 124) dX6_readNumbers_97 (by decide) ?_
  exact S_Reader_readNumbers_b124
def Reader_readNumbers_b100 : ak_K := (k_al 0 (k_al 1 (k_cv 6 2 Reader_readOpposite Reader_readNumbers_b124)))
theorem S_Reader_readNumbers_b100 : ak_S cX6_readNumbers RX6 3 0 4 87 (0, fun _ => 0) 100 (Reader_readNumbers_b100) := by
  unfold Reader_readNumbers_b100
  refine s_aload_n dX6_readNumbers_100 rfl ?_
  refine s_aload_n dX6_readNumbers_101 rfl ?_
  refine s_cv (C := RX6) (Tf := TX6) (N := 6) (i := 6) rfl M_Reader_readOpposite dX6_readNumbers_102 rfl ⟨by decide +kernel, by decide +kernel, by decide +kernel⟩ (by decide) wd_228 wd_229 wd_157 (Or.inl wd_227) ?_
  refine s_goto (tgt := 124) dX6_readNumbers_105 (by decide) ?_
  exact S_Reader_readNumbers_b124
def Reader_readNumbers_b116 : ak_K := (k_al 0 (k_al 1 (k_cv 6 2 Reader_readPerson Reader_readNumbers_b124)))
theorem S_Reader_readNumbers_b116 : ak_S cX6_readNumbers RX6 3 0 4 87 (0, fun _ => 0) 116 (Reader_readNumbers_b116) := by
  unfold Reader_readNumbers_b116
  refine s_aload_n dX6_readNumbers_116 rfl ?_
  refine s_aload_n dX6_readNumbers_117 rfl ?_
  refine s_cv (C := RX6) (Tf := TX6) (N := 6) (i := 6) rfl M_Reader_readPerson dX6_readNumbers_118 rfl ⟨by decide +kernel, by decide +kernel, by decide +kernel⟩ (by decide) wd_231 wd_232 wd_157 (Or.inl wd_230) ?_
  refine s_goto (tgt := 124) dX6_readNumbers_121 (by decide) ?_
  exact S_Reader_readNumbers_b124
def Reader_readNumbers_b0 : ak_K := (k_il 2 (k_sw [(98, Reader_readNumbers_b108), (100, Reader_readNumbers_b84), (104, Reader_readNumbers_b76), (109, Reader_readNumbers_b92), (111, Reader_readNumbers_b100), (112, Reader_readNumbers_b116)] Reader_readNumbers_b124))
theorem S_Reader_readNumbers_b0 : ak_S cX6_readNumbers RX6 3 0 4 87 (0, fun _ => 0) 0 (Reader_readNumbers_b0) := by
  unfold Reader_readNumbers_b0
  refine s_iload_n dX6_readNumbers_0 rfl ?_
  exact s_table (tgd := 124) [98, 100, 104, 109, 111, 112] rfl dX6_readNumbers_1 (by decide) S_Reader_readNumbers_b124 (List.forall_mem_cons.mpr ⟨⟨108, S_Reader_readNumbers_b108, (by show _ ≤ (98 : Int32).toInt; decide +kernel), (by show (98 : Int32).toInt ≤ _; decide +kernel), 107, (by show _[((98 : Int32).toInt - _).toNat]? = _; decide +kernel), by decide⟩, List.forall_mem_cons.mpr ⟨⟨84, S_Reader_readNumbers_b84, (by show _ ≤ (100 : Int32).toInt; decide +kernel), (by show (100 : Int32).toInt ≤ _; decide +kernel), 83, (by show _[((100 : Int32).toInt - _).toNat]? = _; decide +kernel), by decide⟩, List.forall_mem_cons.mpr ⟨⟨76, S_Reader_readNumbers_b76, (by show _ ≤ (104 : Int32).toInt; decide +kernel), (by show (104 : Int32).toInt ≤ _; decide +kernel), 75, (by show _[((104 : Int32).toInt - _).toNat]? = _; decide +kernel), by decide⟩, List.forall_mem_cons.mpr ⟨⟨92, S_Reader_readNumbers_b92, (by show _ ≤ (109 : Int32).toInt; decide +kernel), (by show (109 : Int32).toInt ≤ _; decide +kernel), 91, (by show _[((109 : Int32).toInt - _).toNat]? = _; decide +kernel), by decide⟩, List.forall_mem_cons.mpr ⟨⟨100, S_Reader_readNumbers_b100, (by show _ ≤ (111 : Int32).toInt; decide +kernel), (by show (111 : Int32).toInt ≤ _; decide +kernel), 99, (by show _[((111 : Int32).toInt - _).toNat]? = _; decide +kernel), by decide⟩, List.forall_mem_cons.mpr ⟨⟨116, S_Reader_readNumbers_b116, (by show _ ≤ (112 : Int32).toInt; decide +kernel), (by show (112 : Int32).toInt ≤ _; decide +kernel), 115, (by show _[((112 : Int32).toInt - _).toNat]? = _; decide +kernel), by decide⟩, fun q h => absurd h List.not_mem_nil⟩⟩⟩⟩⟩⟩) (by decide +kernel)
def Reader_readNumbers (As : List Value) (M : ak_M) : ak_R := match As with
  | [.ref a, .ref x0, .int x1] => Reader_readNumbers_b0 [some (.ref a), some (.ref x0), some (.int x1)] [] M
  | _ => none
theorem M_Reader_readNumbers : ak_Mt yX6_readNumbers cX6_readNumbers 3 none 4 87 Reader_readNumbers := by
  refine ak_met (rk := 0) wd_233 (by decide +kernel) rfl (Or.inl ⟨Or.inl rfl, rfl⟩) (fun h => absurd h (by decide)) S_Reader_readNumbers_b0 (fun As M r h => ?_)
  unfold Reader_readNumbers at h
  split at h
  next => exact ⟨Nat.le_of_ble_eq_true rfl, 0, h⟩
  next => cases h
-- GreetedMirrors$Reader.readEnd()V
def Reader_readEnd_b22 : ak_K := (k_al 0 (k_dup (k_gi 6 2 (k_ci 1 (k_b (fun x y => x + y) (k_pi 6 2 (k_al 0 (k_cv 6 1 Reader_skipBlanks k_rv))))))))
theorem S_Reader_readEnd_b22 : ak_S cX6_readEnd RX6 1 0 2 40 (0, fun _ => 0) 22 (Reader_readEnd_b22) := by
  unfold Reader_readEnd_b22
  refine s_aload_n dX6_readEnd_22 rfl ?_
  refine s_dup dX6_readEnd_23 ?_
  refine s_gi (C := RX6) (Tf := TX6) (N := 6) (i := 6) (j := 2) rfl (by decide) rfl (Or.inl wd_154) dX6_readEnd_24 ?_
  refine s_iconst (x := 1) dX6_readEnd_27 (by decide +kernel) ?_
  refine s_iadd dX6_readEnd_28 ?_
  refine s_pi (C := RX6) (Tf := TX6) (N := 6) (i := 6) (j := 2) rfl (by decide) rfl (Or.inl ⟨wd_154, Or.inl rfl⟩) dX6_readEnd_29 ?_
  refine s_aload_n dX6_readEnd_32 rfl ?_
  refine s_cv (C := RX6) (Tf := TX6) (N := 6) (i := 6) rfl M_Reader_skipBlanks dX6_readEnd_33 rfl ⟨by decide +kernel, by decide +kernel, by decide +kernel⟩ (by decide) wd_185 wd_186 wd_157 (Or.inl wd_184) ?_
  exact s_rv (Or.inl rfl) dX6_readEnd_36
def Reader_readEnd_b0 : ak_K := (k_al 0 (k_cv 6 1 Reader_skipBlanks (k_al 0 (k_cv 6 1 Reader_here (k_ci 59 (k_cmeq Reader_readEnd_b22 (k_al 0 (k_ci 1 (k_al 0 (k_gi 6 2 (k_cv 6 3 Reader_mark Reader_readEnd_b22)))))))))))
theorem S_Reader_readEnd_b0 : ak_S cX6_readEnd RX6 1 0 2 40 (0, fun _ => 0) 0 (Reader_readEnd_b0) := by
  unfold Reader_readEnd_b0
  refine s_aload_n dX6_readEnd_0 rfl ?_
  refine s_cv (C := RX6) (Tf := TX6) (N := 6) (i := 6) rfl M_Reader_skipBlanks dX6_readEnd_1 rfl ⟨by decide +kernel, by decide +kernel, by decide +kernel⟩ (by decide) wd_185 wd_186 wd_157 (Or.inl wd_184) ?_
  refine s_aload_n dX6_readEnd_4 rfl ?_
  refine s_cv (C := RX6) (Tf := TX6) (N := 6) (i := 6) rfl M_Reader_here dX6_readEnd_5 rfl ⟨by decide +kernel, by decide +kernel, by decide +kernel⟩ (by decide) wd_158 wd_159 wd_157 (Or.inl wd_156) ?_
  refine s_bipush (x := 59) dX6_readEnd_8 (by decide +kernel) ?_
  refine s_cmeq (tgt := 22) dX6_readEnd_10 (by decide) ?_ ?_
  · exact S_Reader_readEnd_b22
  · refine s_aload_n dX6_readEnd_13 rfl ?_
    refine s_iconst (x := 1) dX6_readEnd_14 (by decide +kernel) ?_
    refine s_aload_n dX6_readEnd_15 rfl ?_
    refine s_gi (C := RX6) (Tf := TX6) (N := 6) (i := 6) (j := 2) rfl (by decide) rfl (Or.inl wd_154) dX6_readEnd_16 ?_
    refine s_cv (C := RX6) (Tf := TX6) (N := 6) (i := 6) rfl M_Reader_mark dX6_readEnd_19 rfl ⟨by decide +kernel, by decide +kernel, by decide +kernel⟩ (by decide) wd_170 wd_171 wd_157 (Or.inl wd_169) ?_
    exact S_Reader_readEnd_b22
def Reader_readEnd (As : List Value) (M : ak_M) : ak_R := match As with
  | [.ref a] => Reader_readEnd_b0 [some (.ref a)] [] M
  | _ => none
theorem M_Reader_readEnd : ak_Mt yX6_readEnd cX6_readEnd 1 none 2 40 Reader_readEnd := by
  refine ak_met (rk := 0) wd_234 (by decide +kernel) rfl (Or.inl ⟨Or.inl rfl, rfl⟩) (fun h => absurd h (by decide)) S_Reader_readEnd_b0 (fun As M r h => ?_)
  unfold Reader_readEnd at h
  split at h
  next => exact ⟨Nat.le_of_ble_eq_true rfl, 0, h⟩
  next => cases h
-- GreetedMirrors$Reader.readInto(LGreetedMirrors$House;)I
def Reader_readInto_b72 : ak_K := (k_al 0 (k_ci 0 (k_pi 6 1 (k_al 0 (k_gi 6 4 k_ri)))))
theorem S_Reader_readInto_b72 : ak_S cX6_readInto RX6 4 1 5 109 (0, fun _ => 0) 72 (Reader_readInto_b72) := by
  unfold Reader_readInto_b72
  refine s_aload_n dX6_readInto_72 rfl ?_
  refine s_iconst (x := 0) dX6_readInto_73 (by decide +kernel) ?_
  refine s_pi (C := RX6) (Tf := TX6) (N := 6) (i := 6) (j := 1) rfl (by decide) rfl (Or.inl ⟨wd_151, Or.inl rfl⟩) dX6_readInto_74 ?_
  refine s_aload_n dX6_readInto_77 rfl ?_
  refine s_gi (C := RX6) (Tf := TX6) (N := 6) (i := 6) (j := 4) rfl (by decide) rfl (Or.inl wd_162) dX6_readInto_78 ?_
  exact s_ri rfl dX6_readInto_81
def Reader_readInto_b25 (h25 : ak_K) : ak_K := (k_il 2 (k_ci 240 (k_cmge Reader_readInto_b72 (k_al 0 (k_gi 6 2 (k_al 0 (k_gi 6 1 (k_cmge Reader_readInto_b72 (k_al 0 (k_gi 6 4 (k_ifeq (k_al 0 (k_al 1 (k_cv 6 2 Reader_readWord (k_is 3 (k_al 0 (k_al 1 (k_il 3 (k_cv 6 3 Reader_readNumbers (k_al 0 (k_cv 6 1 Reader_readEnd (k_ii 2 1 h25))))))))))) Reader_readInto_b72)))))))))))
theorem S_Reader_readInto_b25 {h25 : ak_K} (H25 : ak_S cX6_readInto RX6 4 1 5 109 (0, fun _ => 0) 25 h25) : ak_S cX6_readInto RX6 4 1 5 109 (0, fun _ => 0) 25 (Reader_readInto_b25 h25) := by
  unfold Reader_readInto_b25
  refine s_iload_n dX6_readInto_25 rfl ?_
  refine s_sipush (x := 240) dX6_readInto_26 (by decide +kernel) ?_
  refine s_cmge (tgt := 72) dX6_readInto_29 (by decide) ?_ ?_
  · exact S_Reader_readInto_b72
  · refine s_aload_n dX6_readInto_32 rfl ?_
    refine s_gi (C := RX6) (Tf := TX6) (N := 6) (i := 6) (j := 2) rfl (by decide) rfl (Or.inl wd_154) dX6_readInto_33 ?_
    refine s_aload_n dX6_readInto_36 rfl ?_
    refine s_gi (C := RX6) (Tf := TX6) (N := 6) (i := 6) (j := 1) rfl (by decide) rfl (Or.inl wd_151) dX6_readInto_37 ?_
    refine s_cmge (tgt := 72) dX6_readInto_40 (by decide) ?_ ?_
    · exact S_Reader_readInto_b72
    · refine s_aload_n dX6_readInto_43 rfl ?_
      refine s_gi (C := RX6) (Tf := TX6) (N := 6) (i := 6) (j := 4) rfl (by decide) rfl (Or.inl wd_162) dX6_readInto_44 ?_
      refine s_ifne (tgt := 72) dX6_readInto_47 (by decide) ?_ ?_
      · refine s_aload_n dX6_readInto_50 rfl ?_
        refine s_aload_n dX6_readInto_51 rfl ?_
        refine s_cv (C := RX6) (Tf := TX6) (N := 6) (i := 6) rfl M_Reader_readWord dX6_readInto_52 rfl ⟨by decide +kernel, by decide +kernel, by decide +kernel⟩ (by decide) wd_236 wd_237 wd_157 (Or.inl wd_235) ?_
        refine s_istore_n dX6_readInto_55 rfl (by decide) ?_
        refine s_aload_n dX6_readInto_56 rfl ?_
        refine s_aload_n dX6_readInto_57 rfl ?_
        refine s_iload_n dX6_readInto_58 rfl ?_
        refine s_cv (C := RX6) (Tf := TX6) (N := 6) (i := 6) rfl M_Reader_readNumbers dX6_readInto_59 rfl ⟨by decide +kernel, by decide +kernel, by decide +kernel⟩ (by decide) wd_239 wd_240 wd_157 (Or.inl wd_238) ?_
        refine s_aload_n dX6_readInto_62 rfl ?_
        refine s_cv (C := RX6) (Tf := TX6) (N := 6) (i := 6) rfl M_Reader_readEnd dX6_readInto_63 rfl ⟨by decide +kernel, by decide +kernel, by decide +kernel⟩ (by decide) wd_242 wd_243 wd_157 (Or.inl wd_241) ?_
        refine s_iinc (y := 1) dX6_readInto_66 (by decide +kernel) (by decide) ?_
        refine s_goto (tgt := 25) dX6_readInto_69 (by decide) ?_
        exact H25
      · exact S_Reader_readInto_b72
def Reader_readInto_l25 : Nat → ak_K
  | 0 => k_no
  | n + 1 => Reader_readInto_b25 (Reader_readInto_l25 n)
theorem S_Reader_readInto_l25 : ∀ n : Nat, ak_S cX6_readInto RX6 4 1 5 109 (0, fun _ => 0) 25 (Reader_readInto_l25 n)
  | 0 => s_no
  | n + 1 => S_Reader_readInto_b25 (S_Reader_readInto_l25 n)
def Reader_readInto_b0 : ak_K := (k_al 1 (k_cv 2 1 House_empty (k_al 0 (k_ci 0 (k_pi 6 2 (k_al 0 (k_ci 0 (k_pi 6 4 (k_al 0 (k_ci (-1) (k_pi 6 5 (k_al 0 (k_cv 6 1 Reader_skipBlanks (k_ci 0 (k_is 2 (Reader_readInto_l25 ak_fuel))))))))))))))))
theorem S_Reader_readInto_b0 : ak_S cX6_readInto RX6 4 1 5 109 (0, fun _ => 0) 0 (Reader_readInto_b0) := by
  unfold Reader_readInto_b0
  refine s_aload_n dX6_readInto_0 rfl ?_
  refine s_cv (C := RX2) (Tf := TX2) (N := 12) (i := 2) rfl M_House_empty dX6_readInto_1 rfl ⟨by decide +kernel, by decide +kernel, by decide +kernel⟩ (by decide) wd_245 wd_246 wd_194 (Or.inr ⟨_, wd_244⟩) ?_
  refine s_aload_n dX6_readInto_4 rfl ?_
  refine s_iconst (x := 0) dX6_readInto_5 (by decide +kernel) ?_
  refine s_pi (C := RX6) (Tf := TX6) (N := 6) (i := 6) (j := 2) rfl (by decide) rfl (Or.inl ⟨wd_154, Or.inl rfl⟩) dX6_readInto_6 ?_
  refine s_aload_n dX6_readInto_9 rfl ?_
  refine s_iconst (x := 0) dX6_readInto_10 (by decide +kernel) ?_
  refine s_pi (C := RX6) (Tf := TX6) (N := 6) (i := 6) (j := 4) rfl (by decide) rfl (Or.inl ⟨wd_162, Or.inl rfl⟩) dX6_readInto_11 ?_
  refine s_aload_n dX6_readInto_14 rfl ?_
  refine s_iconst (x := (-1)) dX6_readInto_15 (by decide +kernel) ?_
  refine s_pi (C := RX6) (Tf := TX6) (N := 6) (i := 6) (j := 5) rfl (by decide) rfl (Or.inl ⟨wd_149, Or.inl rfl⟩) dX6_readInto_16 ?_
  refine s_aload_n dX6_readInto_19 rfl ?_
  refine s_cv (C := RX6) (Tf := TX6) (N := 6) (i := 6) rfl M_Reader_skipBlanks dX6_readInto_20 rfl ⟨by decide +kernel, by decide +kernel, by decide +kernel⟩ (by decide) wd_185 wd_186 wd_157 (Or.inl wd_184) ?_
  refine s_iconst (x := 0) dX6_readInto_23 (by decide +kernel) ?_
  refine s_istore_n dX6_readInto_24 rfl (by decide) ?_
  exact (S_Reader_readInto_l25 ak_fuel)
def Reader_readInto (As : List Value) (M : ak_M) : ak_R := match As with
  | [.ref a, .ref x0] => Reader_readInto_b0 [some (.ref a), some (.ref x0), none, none] [] M
  | _ => none
theorem M_Reader_readInto : ak_Mt yX6_readInto cX6_readInto 4 (some .int) 5 109 Reader_readInto := by
  refine ak_met (rk := 1) wd_247 (by decide +kernel) rfl (Or.inr (Or.inl ⟨rfl, rfl⟩)) (fun h => absurd h (by decide)) S_Reader_readInto_b0 (fun As M r h => ?_)
  unfold Reader_readInto at h
  split at h
  next => exact ⟨Nat.le_of_ble_eq_true rfl, 2, h⟩
  next => cases h
-- GreetedMirrors$Rounds.<init>()V
def Rounds_init_b0 : ak_K := (k_al 0 (k_obj (k_al 0 (k_ci 7 (k_na 1 (k_pp 7 0 (k_al 0 (k_ci 7 (k_na 1 (k_pp 7 1 (k_al 0 (k_ci 64 (k_na 1 (k_pp 7 2 (k_al 0 (k_ci 1024 (k_na 1 (k_pp 7 3 k_rv))))))))))))))))))
theorem S_Rounds_init_b0 : ak_S cX7_init RX7 1 5 1 20 (0, fun _ => 0) 0 (Rounds_init_b0) := by
  unfold Rounds_init_b0
  refine s_aload_n dX7_init_0 rfl ?_
  refine s_obj (by decide) wd_248 wd_1 wd_2 dX7_init_1 ?_
  refine s_aload_n dX7_init_4 rfl ?_
  refine s_bipush (x := 7) dX7_init_5 (by decide +kernel) ?_
  refine s_na (Or.inl ⟨rfl, rfl⟩) wd_3 dX7_init_7 ?_
  refine s_pp (C := RX7) (Tf := TX7) (N := 7) (i := 7) (j := 0) rfl (by decide) rfl (Or.inl ⟨wd_249, Or.inr ⟨rfl, rfl, rfl⟩⟩) dX7_init_9 ?_
  refine s_aload_n dX7_init_12 rfl ?_
  refine s_bipush (x := 7) dX7_init_13 (by decide +kernel) ?_
  refine s_na (Or.inl ⟨rfl, rfl⟩) wd_3 dX7_init_15 ?_
  refine s_pp (C := RX7) (Tf := TX7) (N := 7) (i := 7) (j := 1) rfl (by decide) rfl (Or.inl ⟨wd_250, Or.inr ⟨rfl, rfl, rfl⟩⟩) dX7_init_17 ?_
  refine s_aload_n dX7_init_20 rfl ?_
  refine s_bipush (x := 64) dX7_init_21 (by decide +kernel) ?_
  refine s_na (Or.inl ⟨rfl, rfl⟩) wd_3 dX7_init_23 ?_
  refine s_pp (C := RX7) (Tf := TX7) (N := 7) (i := 7) (j := 2) rfl (by decide) rfl (Or.inl ⟨wd_251, Or.inr ⟨rfl, rfl, rfl⟩⟩) dX7_init_25 ?_
  refine s_aload_n dX7_init_28 rfl ?_
  refine s_sipush (x := 1024) dX7_init_29 (by decide +kernel) ?_
  refine s_na (Or.inl ⟨rfl, rfl⟩) wd_3 dX7_init_32 ?_
  refine s_pp (C := RX7) (Tf := TX7) (N := 7) (i := 7) (j := 3) rfl (by decide) rfl (Or.inl ⟨wd_252, Or.inr ⟨rfl, rfl, rfl⟩⟩) dX7_init_34 ?_
  exact s_rv (Or.inr rfl) dX7_init_37
def Rounds_init (As : List Value) (M : ak_M) : ak_R := match As with
  | [.ref a] => Rounds_init_b0 [some (.ref a)] [] M
  | _ => none
theorem M_Rounds_init : ak_Mt yX7_init cX7_init 1 none 1 20 Rounds_init := by
  refine ak_met (rk := 5) wd_253 (by decide +kernel) rfl (Or.inl ⟨Or.inr rfl, rfl⟩) (fun h => rfl) S_Rounds_init_b0 (fun As M r h => ?_)
  unfold Rounds_init at h
  split at h
  next => exact ⟨Nat.le_of_ble_eq_true rfl, 0, h⟩
  next => cases h
-- GreetedMirrors.has(II)Z
def G_has_b23 : ak_K := k_rz
theorem S_G_has_b23 : ak_S cX9_has RX9 2 2 0 0 (0, fun _ => 0) 23 (G_has_b23) := by
  unfold G_has_b23
  exact s_rz rfl dX9_has_23
def G_has_b22 : ak_K := (k_ci 0 G_has_b23)
theorem S_G_has_b22 : ak_S cX9_has RX9 2 2 0 0 (0, fun _ => 0) 22 (G_has_b22) := by
  unfold G_has_b22
  refine s_iconst (x := 0) dX9_has_22 (by decide +kernel) ?_
  exact S_G_has_b23
def G_has_b0 : ak_K := (k_il 1 (k_iflt G_has_b22 (k_il 1 (k_ci 31 (k_cmge G_has_b22 (k_il 0 (k_il 1 (k_b (fun x y => x >>> (y &&& 31)) (k_ci 1 (k_b (fun x y => x &&& y) (k_ifeq G_has_b22 (k_ci 1 G_has_b23))))))))))))
theorem S_G_has_b0 : ak_S cX9_has RX9 2 2 0 0 (0, fun _ => 0) 0 (G_has_b0) := by
  unfold G_has_b0
  refine s_iload_n dX9_has_0 rfl ?_
  refine s_iflt (tgt := 22) dX9_has_1 (by decide) ?_ ?_
  · exact S_G_has_b22
  · refine s_iload_n dX9_has_4 rfl ?_
    refine s_bipush (x := 31) dX9_has_5 (by decide +kernel) ?_
    refine s_cmge (tgt := 22) dX9_has_7 (by decide) ?_ ?_
    · exact S_G_has_b22
    · refine s_iload_n dX9_has_10 rfl ?_
      refine s_iload_n dX9_has_11 rfl ?_
      refine s_ishr dX9_has_12 ?_
      refine s_iconst (x := 1) dX9_has_13 (by decide +kernel) ?_
      refine s_iand dX9_has_14 ?_
      refine s_ifeq (tgt := 22) dX9_has_15 (by decide) ?_ ?_
      · exact S_G_has_b22
      · refine s_iconst (x := 1) dX9_has_18 (by decide +kernel) ?_
        refine s_goto (tgt := 23) dX9_has_19 (by decide) ?_
        exact S_G_has_b23
def G_has (As : List Value) (M : ak_M) : ak_R := match As with
  | [.int x0, .int x1] => G_has_b0 [some (.int x0), some (.int x1)] [] M
  | _ => none
theorem M_G_has : ak_Mt yX9_has cX9_has 2 (some .boolean) 0 0 G_has := by
  refine ak_met (rk := 2) wd_254 (by decide +kernel) rfl (Or.inr (Or.inr (Or.inl ⟨rfl, rfl⟩))) (fun h => absurd h (by decide)) S_G_has_b0 (fun As M r h => ?_)
  unfold G_has at h
  split at h
  next => exact ⟨Nat.le_of_ble_eq_true rfl, 0, h⟩
  next => cases h
-- GreetedMirrors$State.openBeside(LGreetedMirrors$House;I)I
def State_openBeside_b79 (h5 : ak_K) : ak_K := (k_ii 4 1 h5)
theorem S_State_openBeside_b79 {h5 : ak_K} (H5 : ak_S cX8_openBeside RX8 7 1 1 22 (0, fun _ => 0) 5 h5) : ak_S cX8_openBeside RX8 7 1 1 22 (0, fun _ => 0) 79 (State_openBeside_b79 h5) := by
  unfold State_openBeside_b79
  refine s_iinc (y := 1) dX8_openBeside_79 (by decide +kernel) (by decide) ?_
  refine s_goto (tgt := 5) dX8_openBeside_82 (by decide) ?_
  exact H5
def State_openBeside_b68 (h5 : ak_K) : ak_K := (k_cmeq (k_il 3 (k_il 5 (k_ci 1 (k_cs 3 G_with (k_is 3 (State_openBeside_b79 h5)))))) (State_openBeside_b79 h5))
theorem S_State_openBeside_b68 {h5 : ak_K} (H5 : ak_S cX8_openBeside RX8 7 1 1 22 (0, fun _ => 0) 5 h5) : ak_S cX8_openBeside RX8 7 1 1 22 (0, fun _ => 0) 68 (State_openBeside_b68 h5) := by
  unfold State_openBeside_b68
  refine s_cmne (tgt := 79) dX8_openBeside_68 (by decide) ?_ ?_
  · refine s_iload_n dX8_openBeside_71 rfl ?_
    refine s_iload dX8_openBeside_72 ?_
    refine s_iconst (x := 1) dX8_openBeside_74 (by decide +kernel) ?_
    refine s_cs M_G_with dX8_openBeside_75 ⟨by decide +kernel, by decide +kernel, by decide +kernel⟩ (by decide) wd_52 wd_10 (Or.inr ⟨_, wd_255⟩) ?_
    refine s_istore_n dX8_openBeside_78 rfl (by decide) ?_
    exact (S_State_openBeside_b79 H5)
  · exact (S_State_openBeside_b79 H5)
def State_openBeside_b57 (h5 : ak_K) : ak_K := (k_ci 1 (k_cs 3 G_with (k_is 3 (State_openBeside_b79 h5))))
theorem S_State_openBeside_b57 {h5 : ak_K} (H5 : ak_S cX8_openBeside RX8 7 1 1 22 (0, fun _ => 0) 5 h5) : ak_S cX8_openBeside RX8 7 1 1 22 (0, fun _ => 0) 57 (State_openBeside_b57 h5) := by
  unfold State_openBeside_b57
  refine s_iconst (x := 1) dX8_openBeside_57 (by decide +kernel) ?_
  refine s_cs M_G_with dX8_openBeside_58 ⟨by decide +kernel, by decide +kernel, by decide +kernel⟩ (by decide) wd_52 wd_10 (Or.inr ⟨_, wd_255⟩) ?_
  refine s_istore_n dX8_openBeside_61 rfl (by decide) ?_
  refine s_goto (tgt := 79) dX8_openBeside_62 (by decide) ?_
  exact (S_State_openBeside_b79 H5)
def State_openBeside_b5 (h5 : ak_K) : ak_K := (k_il 4 (k_al 1 (k_gi 2 2 (k_cmge (k_il 3 k_ri) (k_al 0 (k_gi 8 5 (k_il 4 (k_cs 2 G_has (k_ifeq (k_al 1 (k_gp 2 5 (k_il 4 (k_cs 2 G_at (k_is 5 (k_al 1 (k_gp 2 6 (k_il 4 (k_cs 2 G_at (k_is 6 (k_il 5 (k_il 2 (k_cmeq (k_il 3 (k_il 6 (State_openBeside_b57 h5))) (k_il 6 (k_il 2 (State_openBeside_b68 h5)))))))))))))))) (State_openBeside_b79 h5))))))))))
theorem S_State_openBeside_b5 {h5 : ak_K} (H5 : ak_S cX8_openBeside RX8 7 1 1 22 (0, fun _ => 0) 5 h5) : ak_S cX8_openBeside RX8 7 1 1 22 (0, fun _ => 0) 5 (State_openBeside_b5 h5) := by
  unfold State_openBeside_b5
  refine s_iload dX8_openBeside_5 ?_
  refine s_aload_n dX8_openBeside_7 rfl ?_
  refine s_gi (C := RX2) (Tf := TX2) (N := 12) (i := 2) (j := 2) rfl (by decide) rfl (Or.inr ⟨_, wd_256⟩) dX8_openBeside_8 ?_
  refine s_cmge (tgt := 85) dX8_openBeside_11 (by decide) ?_ ?_
  · refine s_iload_n dX8_openBeside_85 rfl ?_
    exact s_ri rfl dX8_openBeside_86
  · refine s_aload_n dX8_openBeside_14 rfl ?_
    refine s_gi (C := RX8) (Tf := TX8) (N := 12) (i := 8) (j := 5) rfl (by decide) rfl (Or.inl wd_129) dX8_openBeside_15 ?_
    refine s_iload dX8_openBeside_18 ?_
    refine s_cs M_G_has dX8_openBeside_20 ⟨by decide +kernel, by decide +kernel, by decide +kernel⟩ (by decide) wd_258 wd_10 (Or.inr ⟨_, wd_257⟩) ?_
    refine s_ifne (tgt := 79) dX8_openBeside_23 (by decide) ?_ ?_
    · refine s_aload_n dX8_openBeside_26 rfl ?_
      refine s_gp (C := RX2) (Tf := TX2) (N := 12) (i := 2) (j := 5) rfl (by decide) rfl (Or.inr ⟨_, wd_259⟩) dX8_openBeside_27 ?_
      refine s_iload dX8_openBeside_30 ?_
      refine s_cs M_G_at dX8_openBeside_32 ⟨by decide +kernel, by decide +kernel, by decide +kernel⟩ (by decide) wd_16 wd_10 (Or.inr ⟨_, wd_260⟩) ?_
      refine s_istore dX8_openBeside_35 (by decide) ?_
      refine s_aload_n dX8_openBeside_37 rfl ?_
      refine s_gp (C := RX2) (Tf := TX2) (N := 12) (i := 2) (j := 6) rfl (by decide) rfl (Or.inr ⟨_, wd_261⟩) dX8_openBeside_38 ?_
      refine s_iload dX8_openBeside_41 ?_
      refine s_cs M_G_at dX8_openBeside_43 ⟨by decide +kernel, by decide +kernel, by decide +kernel⟩ (by decide) wd_16 wd_10 (Or.inr ⟨_, wd_260⟩) ?_
      refine s_istore dX8_openBeside_46 (by decide) ?_
      refine s_iload dX8_openBeside_48 ?_
      refine s_iload_n dX8_openBeside_50 rfl ?_
      refine s_cmne (tgt := 65) dX8_openBeside_51 (by decide) ?_ ?_
      · refine s_iload_n dX8_openBeside_54 rfl ?_
        refine s_iload dX8_openBeside_55 ?_
        exact (S_State_openBeside_b57 H5)
      · refine s_iload dX8_openBeside_65 ?_
        refine s_iload_n dX8_openBeside_67 rfl ?_
        exact (S_State_openBeside_b68 H5)
    · exact (S_State_openBeside_b79 H5)
def State_openBeside_l5 : Nat → ak_K
  | 0 => k_no
  | n + 1 => State_openBeside_b5 (State_openBeside_l5 n)
theorem S_State_openBeside_l5 : ∀ n : Nat, ak_S cX8_openBeside RX8 7 1 1 22 (0, fun _ => 0) 5 (State_openBeside_l5 n)
  | 0 => s_no
  | n + 1 => S_State_openBeside_b5 (S_State_openBeside_l5 n)
def State_openBeside_b0 : ak_K := (k_ci 0 (k_is 3 (k_ci 0 (k_is 4 (State_openBeside_l5 ak_fuel)))))
theorem S_State_openBeside_b0 : ak_S cX8_openBeside RX8 7 1 1 22 (0, fun _ => 0) 0 (State_openBeside_b0) := by
  unfold State_openBeside_b0
  refine s_iconst (x := 0) dX8_openBeside_0 (by decide +kernel) ?_
  refine s_istore_n dX8_openBeside_1 rfl (by decide) ?_
  refine s_iconst (x := 0) dX8_openBeside_2 (by decide +kernel) ?_
  refine s_istore dX8_openBeside_3 (by decide) ?_
  exact (S_State_openBeside_l5 ak_fuel)
def State_openBeside (As : List Value) (M : ak_M) : ak_R := match As with
  | [.ref a, .ref x0, .int x1] => State_openBeside_b0 [some (.ref a), some (.ref x0), some (.int x1), none, none, none, none] [] M
  | _ => none
theorem M_State_openBeside : ak_Mt yX8_openBeside cX8_openBeside 7 (some .int) 1 22 State_openBeside := by
  refine ak_met (rk := 1) wd_262 (by decide +kernel) rfl (Or.inr (Or.inl ⟨rfl, rfl⟩)) (fun h => absurd h (by decide)) S_State_openBeside_b0 (fun As M r h => ?_)
  unfold State_openBeside at h
  split at h
  next => exact ⟨Nat.le_of_ble_eq_true rfl, 4, h⟩
  next => cases h
-- GreetedMirrors$Rounds.measureFrom(LGreetedMirrors$House;LGreetedMirrors$State;I)V
def Rounds_measureFrom_b86 (h22 : ak_K) (h44 : ak_K) : ak_K := (k_ii 8 1 h44)
theorem S_Rounds_measureFrom_b86 {h22 : ak_K} (H22 : ak_S cX7_measureFrom RX7 9 0 2 48 (0, fun _ => 0) 22 h22) {h44 : ak_K} (H44 : ak_S cX7_measureFrom RX7 9 0 2 48 (0, fun _ => 0) 44 h44) : ak_S cX7_measureFrom RX7 9 0 2 48 (0, fun _ => 0) 86 (Rounds_measureFrom_b86 h22 h44) := by
  unfold Rounds_measureFrom_b86
  refine s_iinc (y := 1) dX7_measureFrom_86 (by decide +kernel) (by decide) ?_
  refine s_goto (tgt := 44) dX7_measureFrom_89 (by decide) ?_
  exact H44
def Rounds_measureFrom_b44 (h22 : ak_K) (h44 : ak_K) : ak_K := (k_il 8 (k_al 1 (k_gi 2 0 (k_cmge (k_il 7 (k_il 5 (k_ci (-1) (k_b (fun x y => x ^^^ y) (k_b (fun x y => x &&& y) (k_is 4 (k_ii 6 1 h22))))))) (k_il 4 (k_il 8 (k_cs 2 G_has (k_ifeq (Rounds_measureFrom_b86 h22 h44) (k_al 0 (k_gp 7 0 (k_il 8 (k_il 6 (k_cs 3 G_put (k_il 7 (k_al 2 (k_al 1 (k_il 8 (k_cv 8 3 State_openBeside (k_b (fun x y => x ||| y) (k_is 7 (Rounds_measureFrom_b86 h22 h44)))))))))))))))))))))
theorem S_Rounds_measureFrom_b44 {h22 : ak_K} (H22 : ak_S cX7_measureFrom RX7 9 0 2 48 (0, fun _ => 0) 22 h22) {h44 : ak_K} (H44 : ak_S cX7_measureFrom RX7 9 0 2 48 (0, fun _ => 0) 44 h44) : ak_S cX7_measureFrom RX7 9 0 2 48 (0, fun _ => 0) 44 (Rounds_measureFrom_b44 h22 h44) := by
  unfold Rounds_measureFrom_b44
  refine s_iload dX7_measureFrom_44 ?_
  refine s_aload_n dX7_measureFrom_46 rfl ?_
  refine s_gi (C := RX2) (Tf := TX2) (N := 12) (i := 2) (j := 0) rfl (by decide) rfl (Or.inr ⟨_, wd_263⟩) dX7_measureFrom_47 ?_
  refine s_cmge (tgt := 92) dX7_measureFrom_50 (by decide) ?_ ?_
  · refine s_iload dX7_measureFrom_92 ?_
    refine s_iload dX7_measureFrom_94 ?_
    refine s_iconst (x := (-1)) dX7_measureFrom_96 (by decide +kernel) ?_
    refine s_ixor dX7_measureFrom_97 ?_
    refine s_iand dX7_measureFrom_98 ?_
    refine s_istore dX7_measureFrom_99 (by decide) ?_
    refine s_iinc (y := 1) dX7_measureFrom_101 (by decide +kernel) (by decide) ?_
    refine s_goto (tgt := 22) dX7_measureFrom_104 (by decide) ?_
    exact H22
  · refine s_iload dX7_measureFrom_53 ?_
    refine s_iload dX7_measureFrom_55 ?_
    refine s_cs M_G_has dX7_measureFrom_57 ⟨by decide +kernel, by decide +kernel, by decide +kernel⟩ (by decide) wd_258 wd_10 (Or.inr ⟨_, wd_264⟩) ?_
    refine s_ifeq (tgt := 86) dX7_measureFrom_60 (by decide) ?_ ?_
    · exact (S_Rounds_measureFrom_b86 H22 H44)
    · refine s_aload_n dX7_measureFrom_63 rfl ?_
      refine s_gp (C := RX7) (Tf := TX7) (N := 7) (i := 7) (j := 0) rfl (by decide) rfl (Or.inl wd_249) dX7_measureFrom_64 ?_
      refine s_iload dX7_measureFrom_67 ?_
      refine s_iload dX7_measureFrom_69 ?_
      refine s_cs M_G_put dX7_measureFrom_71 ⟨by decide +kernel, by decide +kernel, by decide +kernel⟩ (by decide) wd_11 wd_10 (Or.inr ⟨_, wd_265⟩) ?_
      refine s_iload dX7_measureFrom_74 ?_
      refine s_aload_n dX7_measureFrom_76 rfl ?_
      refine s_aload_n dX7_measureFrom_77 rfl ?_
      refine s_iload dX7_measureFrom_78 ?_
      refine s_cv (C := RX8) (Tf := TX8) (N := 12) (i := 8) rfl M_State_openBeside dX7_measureFrom_80 rfl ⟨by decide +kernel, by decide +kernel, by decide +kernel⟩ (by decide) wd_267 wd_268 wd_74 (Or.inr ⟨_, wd_266⟩) ?_
      refine s_ior dX7_measureFrom_83 ?_
      refine s_istore dX7_measureFrom_84 (by decide) ?_
      exact (S_Rounds_measureFrom_b86 H22 H44)
def Rounds_measureFrom_l44 (h22 : ak_K) : Nat → ak_K
  | 0 => k_no
  | n + 1 => Rounds_measureFrom_b44 h22 (Rounds_measureFrom_l44 h22 n)
theorem S_Rounds_measureFrom_l44 {h22 : ak_K} (H22 : ak_S cX7_measureFrom RX7 9 0 2 48 (0, fun _ => 0) 22 h22) : ∀ n : Nat, ak_S cX7_measureFrom RX7 9 0 2 48 (0, fun _ => 0) 44 (Rounds_measureFrom_l44 h22 n)
  | 0 => s_no
  | n + 1 => S_Rounds_measureFrom_b44 H22 (S_Rounds_measureFrom_l44 H22 n)
def Rounds_measureFrom_b22 (h22 : ak_K) : ak_K := (k_il 6 (k_al 1 (k_gi 2 0 (k_cmge k_rv (k_il 5 (k_il 4 (k_b (fun x y => x ||| y) (k_is 5 (k_ci 0 (k_is 7 (k_ci 0 (k_is 8 (Rounds_measureFrom_l44 h22 ak_fuel)))))))))))))
theorem S_Rounds_measureFrom_b22 {h22 : ak_K} (H22 : ak_S cX7_measureFrom RX7 9 0 2 48 (0, fun _ => 0) 22 h22) : ak_S cX7_measureFrom RX7 9 0 2 48 (0, fun _ => 0) 22 (Rounds_measureFrom_b22 h22) := by
  unfold Rounds_measureFrom_b22
  refine s_iload dX7_measureFrom_22 ?_
  refine s_aload_n dX7_measureFrom_24 rfl ?_
  refine s_gi (C := RX2) (Tf := TX2) (N := 12) (i := 2) (j := 0) rfl (by decide) rfl (Or.inr ⟨_, wd_263⟩) dX7_measureFrom_25 ?_
  refine s_cmge (tgt := 107) dX7_measureFrom_28 (by decide) ?_ ?_
  · exact s_rv (Or.inl rfl) dX7_measureFrom_107
  · refine s_iload dX7_measureFrom_31 ?_
    refine s_iload dX7_measureFrom_33 ?_
    refine s_ior dX7_measureFrom_35 ?_
    refine s_istore dX7_measureFrom_36 (by decide) ?_
    refine s_iconst (x := 0) dX7_measureFrom_38 (by decide +kernel) ?_
    refine s_istore dX7_measureFrom_39 (by decide) ?_
    refine s_iconst (x := 0) dX7_measureFrom_41 (by decide +kernel) ?_
    refine s_istore dX7_measureFrom_42 (by decide) ?_
    exact (S_Rounds_measureFrom_l44 H22 ak_fuel)
def Rounds_measureFrom_l22 : Nat → ak_K
  | 0 => k_no
  | n + 1 => Rounds_measureFrom_b22 (Rounds_measureFrom_l22 n)
theorem S_Rounds_measureFrom_l22 : ∀ n : Nat, ak_S cX7_measureFrom RX7 9 0 2 48 (0, fun _ => 0) 22 (Rounds_measureFrom_l22 n)
  | 0 => s_no
  | n + 1 => S_Rounds_measureFrom_b22 (S_Rounds_measureFrom_l22 n)
def Rounds_measureFrom_b0 : ak_K := (k_al 0 (k_gp 7 0 (k_ci (-1) (k_cs 2 G_fill (k_ci 0 (k_il 3 (k_ci 1 (k_cs 3 G_with (k_is 4 (k_ci 0 (k_is 5 (k_ci 0 (k_is 6 (Rounds_measureFrom_l22 ak_fuel))))))))))))))
theorem S_Rounds_measureFrom_b0 : ak_S cX7_measureFrom RX7 9 0 2 48 (0, fun _ => 0) 0 (Rounds_measureFrom_b0) := by
  unfold Rounds_measureFrom_b0
  refine s_aload_n dX7_measureFrom_0 rfl ?_
  refine s_gp (C := RX7) (Tf := TX7) (N := 7) (i := 7) (j := 0) rfl (by decide) rfl (Or.inl wd_249) dX7_measureFrom_1 ?_
  refine s_iconst (x := (-1)) dX7_measureFrom_4 (by decide +kernel) ?_
  refine s_cs M_G_fill dX7_measureFrom_5 ⟨by decide +kernel, by decide +kernel, by decide +kernel⟩ (by decide) wd_42 wd_10 (Or.inr ⟨_, wd_269⟩) ?_
  refine s_iconst (x := 0) dX7_measureFrom_8 (by decide +kernel) ?_
  refine s_iload_n dX7_measureFrom_9 rfl ?_
  refine s_iconst (x := 1) dX7_measureFrom_10 (by decide +kernel) ?_
  refine s_cs M_G_with dX7_measureFrom_11 ⟨by decide +kernel, by decide +kernel, by decide +kernel⟩ (by decide) wd_52 wd_10 (Or.inr ⟨_, wd_270⟩) ?_
  refine s_istore dX7_measureFrom_14 (by decide) ?_
  refine s_iconst (x := 0) dX7_measureFrom_16 (by decide +kernel) ?_
  refine s_istore dX7_measureFrom_17 (by decide) ?_
  refine s_iconst (x := 0) dX7_measureFrom_19 (by decide +kernel) ?_
  refine s_istore dX7_measureFrom_20 (by decide) ?_
  exact (S_Rounds_measureFrom_l22 ak_fuel)
def Rounds_measureFrom (As : List Value) (M : ak_M) : ak_R := match As with
  | [.ref a, .ref x0, .ref x1, .int x2] => Rounds_measureFrom_b0 [some (.ref a), some (.ref x0), some (.ref x1), some (.int x2), none, none, none, none, none] [] M
  | _ => none
theorem M_Rounds_measureFrom : ak_Mt yX7_measureFrom cX7_measureFrom 9 none 2 48 Rounds_measureFrom := by
  refine ak_met (rk := 0) wd_271 (by decide +kernel) rfl (Or.inl ⟨Or.inl rfl, rfl⟩) (fun h => absurd h (by decide)) S_Rounds_measureFrom_b0 (fun As M r h => ?_)
  unfold Rounds_measureFrom at h
  split at h
  next => exact ⟨Nat.le_of_ble_eq_true rfl, 5, h⟩
  next => cases h
-- GreetedMirrors$Rounds.fromHere(I)I
def Rounds_fromHere_b0 : ak_K := (k_al 0 (k_gp 7 1 (k_il 1 (k_cs 2 G_at k_ri))))
theorem S_Rounds_fromHere_b0 : ak_S cX7_fromHere RX7 2 1 1 21 (0, fun _ => 0) 0 (Rounds_fromHere_b0) := by
  unfold Rounds_fromHere_b0
  refine s_aload_n dX7_fromHere_0 rfl ?_
  refine s_gp (C := RX7) (Tf := TX7) (N := 7) (i := 7) (j := 1) rfl (by decide) rfl (Or.inl wd_250) dX7_fromHere_1 ?_
  refine s_iload_n dX7_fromHere_4 rfl ?_
  refine s_cs M_G_at dX7_fromHere_5 ⟨by decide +kernel, by decide +kernel, by decide +kernel⟩ (by decide) wd_16 wd_10 (Or.inr ⟨_, wd_272⟩) ?_
  exact s_ri rfl dX7_fromHere_8
def Rounds_fromHere (As : List Value) (M : ak_M) : ak_R := match As with
  | [.ref a, .int x0] => Rounds_fromHere_b0 [some (.ref a), some (.int x0)] [] M
  | _ => none
theorem M_Rounds_fromHere : ak_Mt yX7_fromHere cX7_fromHere 2 (some .int) 1 21 Rounds_fromHere := by
  refine ak_met (rk := 1) wd_273 (by decide +kernel) rfl (Or.inr (Or.inl ⟨rfl, rfl⟩)) (fun h => absurd h (by decide)) S_Rounds_fromHere_b0 (fun As M r h => ?_)
  unfold Rounds_fromHere at h
  split at h
  next => exact ⟨Nat.le_of_ble_eq_true rfl, 0, h⟩
  next => cases h
-- GreetedMirrors$Rounds.measure(LGreetedMirrors$House;LGreetedMirrors$State;)V
def Rounds_measure_b65 (h28 : ak_K) : ak_K := (k_ii 3 1 h28)
theorem S_Rounds_measure_b65 {h28 : ak_K} (H28 : ak_S cX7_measure RX7 4 0 3 76 (0, fun _ => 0) 28 h28) : ak_S cX7_measure RX7 4 0 3 76 (0, fun _ => 0) 65 (Rounds_measure_b65 h28) := by
  unfold Rounds_measure_b65
  refine s_iinc (y := 1) dX7_measure_65 (by decide +kernel) (by decide) ?_
  refine s_goto (tgt := 28) dX7_measure_68 (by decide) ?_
  exact H28
def Rounds_measure_b28 (h28 : ak_K) : ak_K := (k_il 3 (k_al 1 (k_gi 2 3 (k_cmge k_rv (k_al 0 (k_al 1 (k_gp 2 7 (k_il 3 (k_cs 2 G_at (k_cv 7 2 Rounds_fromHere (k_ci (-1) (k_cmeq (Rounds_measure_b65 h28) (k_al 0 (k_al 0 (k_gi 7 4 (k_il 3 (k_ci 1 (k_cs 3 G_with (k_pi 7 4 (Rounds_measure_b65 h28))))))))))))))))))))
theorem S_Rounds_measure_b28 {h28 : ak_K} (H28 : ak_S cX7_measure RX7 4 0 3 76 (0, fun _ => 0) 28 h28) : ak_S cX7_measure RX7 4 0 3 76 (0, fun _ => 0) 28 (Rounds_measure_b28 h28) := by
  unfold Rounds_measure_b28
  refine s_iload_n dX7_measure_28 rfl ?_
  refine s_aload_n dX7_measure_29 rfl ?_
  refine s_gi (C := RX2) (Tf := TX2) (N := 12) (i := 2) (j := 3) rfl (by decide) rfl (Or.inr ⟨_, wd_274⟩) dX7_measure_30 ?_
  refine s_cmge (tgt := 71) dX7_measure_33 (by decide) ?_ ?_
  · exact s_rv (Or.inl rfl) dX7_measure_71
  · refine s_aload_n dX7_measure_36 rfl ?_
    refine s_aload_n dX7_measure_37 rfl ?_
    refine s_gp (C := RX2) (Tf := TX2) (N := 12) (i := 2) (j := 7) rfl (by decide) rfl (Or.inr ⟨_, wd_275⟩) dX7_measure_38 ?_
    refine s_iload_n dX7_measure_41 rfl ?_
    refine s_cs M_G_at dX7_measure_42 ⟨by decide +kernel, by decide +kernel, by decide +kernel⟩ (by decide) wd_16 wd_10 (Or.inr ⟨_, wd_272⟩) ?_
    refine s_cv (C := RX7) (Tf := TX7) (N := 7) (i := 7) rfl M_Rounds_fromHere dX7_measure_45 rfl ⟨by decide +kernel, by decide +kernel, by decide +kernel⟩ (by decide) wd_278 wd_279 wd_277 (Or.inl wd_276) ?_
    refine s_iconst (x := (-1)) dX7_measure_48 (by decide +kernel) ?_
    refine s_cmeq (tgt := 65) dX7_measure_49 (by decide) ?_ ?_
    · exact (S_Rounds_measure_b65 H28)
    · refine s_aload_n dX7_measure_52 rfl ?_
      refine s_aload_n dX7_measure_53 rfl ?_
      refine s_gi (C := RX7) (Tf := TX7) (N := 7) (i := 7) (j := 4) rfl (by decide) rfl (Or.inl wd_280) dX7_measure_54 ?_
      refine s_iload_n dX7_measure_57 rfl ?_
      refine s_iconst (x := 1) dX7_measure_58 (by decide +kernel) ?_
      refine s_cs M_G_with dX7_measure_59 ⟨by decide +kernel, by decide +kernel, by decide +kernel⟩ (by decide) wd_52 wd_10 (Or.inr ⟨_, wd_270⟩) ?_
      refine s_pi (C := RX7) (Tf := TX7) (N := 7) (i := 7) (j := 4) rfl (by decide) rfl (Or.inl ⟨wd_280, Or.inl rfl⟩) dX7_measure_62 ?_
      exact (S_Rounds_measure_b65 H28)
def Rounds_measure_l28 : Nat → ak_K
  | 0 => k_no
  | n + 1 => Rounds_measure_b28 (Rounds_measure_l28 n)
theorem S_Rounds_measure_l28 : ∀ n : Nat, ak_S cX7_measure RX7 4 0 3 76 (0, fun _ => 0) 28 (Rounds_measure_l28 n)
  | 0 => s_no
  | n + 1 => S_Rounds_measure_b28 (S_Rounds_measure_l28 n)
def Rounds_measure_b0 : ak_K := (k_al 0 (k_al 1 (k_al 2 (k_al 2 (k_gi 8 0 (k_cv 7 4 Rounds_measureFrom (k_al 0 (k_gp 7 0 (k_al 0 (k_gp 7 1 (k_cs 2 G_copy (k_al 0 (k_ci 0 (k_pi 7 4 (k_ci 0 (k_is 3 (Rounds_measure_l28 ak_fuel)))))))))))))))))
theorem S_Rounds_measure_b0 : ak_S cX7_measure RX7 4 0 3 76 (0, fun _ => 0) 0 (Rounds_measure_b0) := by
  unfold Rounds_measure_b0
  refine s_aload_n dX7_measure_0 rfl ?_
  refine s_aload_n dX7_measure_1 rfl ?_
  refine s_aload_n dX7_measure_2 rfl ?_
  refine s_aload_n dX7_measure_3 rfl ?_
  refine s_gi (C := RX8) (Tf := TX8) (N := 12) (i := 8) (j := 0) rfl (by decide) rfl (Or.inr ⟨_, wd_281⟩) dX7_measure_4 ?_
  refine s_cv (C := RX7) (Tf := TX7) (N := 7) (i := 7) rfl M_Rounds_measureFrom dX7_measure_7 rfl ⟨by decide +kernel, by decide +kernel, by decide +kernel⟩ (by decide) wd_283 wd_284 wd_277 (Or.inl wd_282) ?_
  refine s_aload_n dX7_measure_10 rfl ?_
  refine s_gp (C := RX7) (Tf := TX7) (N := 7) (i := 7) (j := 0) rfl (by decide) rfl (Or.inl wd_249) dX7_measure_11 ?_
  refine s_aload_n dX7_measure_14 rfl ?_
  refine s_gp (C := RX7) (Tf := TX7) (N := 7) (i := 7) (j := 1) rfl (by decide) rfl (Or.inl wd_250) dX7_measure_15 ?_
  refine s_cs M_G_copy dX7_measure_18 ⟨by decide +kernel, by decide +kernel, by decide +kernel⟩ (by decide) wd_121 wd_10 (Or.inr ⟨_, wd_285⟩) ?_
  refine s_aload_n dX7_measure_21 rfl ?_
  refine s_iconst (x := 0) dX7_measure_22 (by decide +kernel) ?_
  refine s_pi (C := RX7) (Tf := TX7) (N := 7) (i := 7) (j := 4) rfl (by decide) rfl (Or.inl ⟨wd_280, Or.inl rfl⟩) dX7_measure_23 ?_
  refine s_iconst (x := 0) dX7_measure_26 (by decide +kernel) ?_
  refine s_istore_n dX7_measure_27 rfl (by decide) ?_
  exact (S_Rounds_measure_l28 ak_fuel)
def Rounds_measure (As : List Value) (M : ak_M) : ak_R := match As with
  | [.ref a, .ref x0, .ref x1] => Rounds_measure_b0 [some (.ref a), some (.ref x0), some (.ref x1), none] [] M
  | _ => none
theorem M_Rounds_measure : ak_Mt yX7_measure cX7_measure 4 none 3 76 Rounds_measure := by
  refine ak_met (rk := 0) wd_286 (by decide +kernel) rfl (Or.inl ⟨Or.inl rfl, rfl⟩) (fun h => absurd h (by decide)) S_Rounds_measure_b0 (fun As M r h => ?_)
  unfold Rounds_measure at h
  split at h
  next => exact ⟨Nat.le_of_ble_eq_true rfl, 1, h⟩
  next => cases h
-- GreetedMirrors$Rounds.canGreet(LGreetedMirrors$State;I)Z
def Rounds_canGreet_b45 : ak_K := k_rz
theorem S_Rounds_canGreet_b45 : ak_S cX7_canGreet RX7 3 2 1 21 (0, fun _ => 0) 45 (Rounds_canGreet_b45) := by
  unfold Rounds_canGreet_b45
  exact s_rz rfl dX7_canGreet_45
def Rounds_canGreet_b44 : ak_K := (k_ci 0 Rounds_canGreet_b45)
theorem S_Rounds_canGreet_b44 : ak_S cX7_canGreet RX7 3 2 1 21 (0, fun _ => 0) 44 (Rounds_canGreet_b44) := by
  unfold Rounds_canGreet_b44
  refine s_iconst (x := 0) dX7_canGreet_44 (by decide +kernel) ?_
  exact S_Rounds_canGreet_b45
def Rounds_canGreet_b0 : ak_K := (k_al 0 (k_gi 7 4 (k_il 2 (k_cs 2 G_has (k_ifeq Rounds_canGreet_b44 (k_al 1 (k_gi 8 1 (k_al 1 (k_gp 8 8 (k_il 2 (k_cs 2 G_at (k_cs 2 G_has (k_ifeq Rounds_canGreet_b44 (k_al 1 (k_gi 8 3 (k_il 2 (k_cs 2 G_has (k_ifeq (k_ci 1 Rounds_canGreet_b45) Rounds_canGreet_b44))))))))))))))))))
theorem S_Rounds_canGreet_b0 : ak_S cX7_canGreet RX7 3 2 1 21 (0, fun _ => 0) 0 (Rounds_canGreet_b0) := by
  unfold Rounds_canGreet_b0
  refine s_aload_n dX7_canGreet_0 rfl ?_
  refine s_gi (C := RX7) (Tf := TX7) (N := 7) (i := 7) (j := 4) rfl (by decide) rfl (Or.inl wd_280) dX7_canGreet_1 ?_
  refine s_iload_n dX7_canGreet_4 rfl ?_
  refine s_cs M_G_has dX7_canGreet_5 ⟨by decide +kernel, by decide +kernel, by decide +kernel⟩ (by decide) wd_258 wd_10 (Or.inr ⟨_, wd_264⟩) ?_
  refine s_ifeq (tgt := 44) dX7_canGreet_8 (by decide) ?_ ?_
  · exact S_Rounds_canGreet_b44
  · refine s_aload_n dX7_canGreet_11 rfl ?_
    refine s_gi (C := RX8) (Tf := TX8) (N := 12) (i := 8) (j := 1) rfl (by decide) rfl (Or.inr ⟨_, wd_287⟩) dX7_canGreet_12 ?_
    refine s_aload_n dX7_canGreet_15 rfl ?_
    refine s_gp (C := RX8) (Tf := TX8) (N := 12) (i := 8) (j := 8) rfl (by decide) rfl (Or.inr ⟨_, wd_288⟩) dX7_canGreet_16 ?_
    refine s_iload_n dX7_canGreet_19 rfl ?_
    refine s_cs M_G_at dX7_canGreet_20 ⟨by decide +kernel, by decide +kernel, by decide +kernel⟩ (by decide) wd_16 wd_10 (Or.inr ⟨_, wd_272⟩) ?_
    refine s_cs M_G_has dX7_canGreet_23 ⟨by decide +kernel, by decide +kernel, by decide +kernel⟩ (by decide) wd_258 wd_10 (Or.inr ⟨_, wd_264⟩) ?_
    refine s_ifeq (tgt := 44) dX7_canGreet_26 (by decide) ?_ ?_
    · exact S_Rounds_canGreet_b44
    · refine s_aload_n dX7_canGreet_29 rfl ?_
      refine s_gi (C := RX8) (Tf := TX8) (N := 12) (i := 8) (j := 3) rfl (by decide) rfl (Or.inr ⟨_, wd_289⟩) dX7_canGreet_30 ?_
      refine s_iload_n dX7_canGreet_33 rfl ?_
      refine s_cs M_G_has dX7_canGreet_34 ⟨by decide +kernel, by decide +kernel, by decide +kernel⟩ (by decide) wd_258 wd_10 (Or.inr ⟨_, wd_264⟩) ?_
      refine s_ifne (tgt := 44) dX7_canGreet_37 (by decide) ?_ ?_
      · refine s_iconst (x := 1) dX7_canGreet_40 (by decide +kernel) ?_
        refine s_goto (tgt := 45) dX7_canGreet_41 (by decide) ?_
        exact S_Rounds_canGreet_b45
      · exact S_Rounds_canGreet_b44
def Rounds_canGreet (As : List Value) (M : ak_M) : ak_R := match As with
  | [.ref a, .ref x0, .int x1] => Rounds_canGreet_b0 [some (.ref a), some (.ref x0), some (.int x1)] [] M
  | _ => none
theorem M_Rounds_canGreet : ak_Mt yX7_canGreet cX7_canGreet 3 (some .boolean) 1 21 Rounds_canGreet := by
  refine ak_met (rk := 2) wd_290 (by decide +kernel) rfl (Or.inr (Or.inr (Or.inl ⟨rfl, rfl⟩))) (fun h => absurd h (by decide)) S_Rounds_canGreet_b0 (fun As M r h => ?_)
  unfold Rounds_canGreet at h
  split at h
  next => exact ⟨Nat.le_of_ble_eq_true rfl, 0, h⟩
  next => cases h
-- GreetedMirrors$Rounds.measureWays(LGreetedMirrors$House;LGreetedMirrors$State;)V
def Rounds_measureWays_b122 (h41 : ak_K) : ak_K := (k_ii 3 1 h41)
theorem S_Rounds_measureWays_b122 {h41 : ak_K} (H41 : ak_S cX7_measureWays RX7 5 0 3 76 (0, fun _ => 0) 41 h41) : ak_S cX7_measureWays RX7 5 0 3 76 (0, fun _ => 0) 122 (Rounds_measureWays_b122 h41) := by
  unfold Rounds_measureWays_b122
  refine s_iinc (y := 1) dX7_measureWays_122 (by decide +kernel) (by decide) ?_
  refine s_goto (tgt := 41) dX7_measureWays_125 (by decide) ?_
  exact H41
def Rounds_measureWays_b77 (h41 : ak_K) (h77 : ak_K) : ak_K := (k_il 4 (k_al 1 (k_gi 2 3 (k_cmge (Rounds_measureWays_b122 h41) (k_al 0 (k_gp 7 2 (k_il 3 (k_ci 8 (k_b (fun x y => x * y) (k_il 4 (k_b (fun x y => x + y) (k_al 0 (k_gp 7 0 (k_al 1 (k_gp 2 7 (k_il 4 (k_cs 2 G_at (k_cs 2 G_at (k_cs 3 G_put (k_ii 4 1 h77))))))))))))))))))))
theorem S_Rounds_measureWays_b77 {h41 : ak_K} (H41 : ak_S cX7_measureWays RX7 5 0 3 76 (0, fun _ => 0) 41 h41) {h77 : ak_K} (H77 : ak_S cX7_measureWays RX7 5 0 3 76 (0, fun _ => 0) 77 h77) : ak_S cX7_measureWays RX7 5 0 3 76 (0, fun _ => 0) 77 (Rounds_measureWays_b77 h41 h77) := by
  unfold Rounds_measureWays_b77
  refine s_iload dX7_measureWays_77 ?_
  refine s_aload_n dX7_measureWays_79 rfl ?_
  refine s_gi (C := RX2) (Tf := TX2) (N := 12) (i := 2) (j := 3) rfl (by decide) rfl (Or.inr ⟨_, wd_274⟩) dX7_measureWays_80 ?_
  refine s_cmge (tgt := 122) dX7_measureWays_83 (by decide) ?_ ?_
  · exact (S_Rounds_measureWays_b122 H41)
  · refine s_aload_n dX7_measureWays_86 rfl ?_
    refine s_gp (C := RX7) (Tf := TX7) (N := 7) (i := 7) (j := 2) rfl (by decide) rfl (Or.inl wd_251) dX7_measureWays_87 ?_
    refine s_iload_n dX7_measureWays_90 rfl ?_
    refine s_bipush (x := 8) dX7_measureWays_91 (by decide +kernel) ?_
    refine s_imul dX7_measureWays_93 ?_
    refine s_iload dX7_measureWays_94 ?_
    refine s_iadd dX7_measureWays_96 ?_
    refine s_aload_n dX7_measureWays_97 rfl ?_
    refine s_gp (C := RX7) (Tf := TX7) (N := 7) (i := 7) (j := 0) rfl (by decide) rfl (Or.inl wd_249) dX7_measureWays_98 ?_
    refine s_aload_n dX7_measureWays_101 rfl ?_
    refine s_gp (C := RX2) (Tf := TX2) (N := 12) (i := 2) (j := 7) rfl (by decide) rfl (Or.inr ⟨_, wd_275⟩) dX7_measureWays_102 ?_
    refine s_iload dX7_measureWays_105 ?_
    refine s_cs M_G_at dX7_measureWays_107 ⟨by decide +kernel, by decide +kernel, by decide +kernel⟩ (by decide) wd_16 wd_10 (Or.inr ⟨_, wd_272⟩) ?_
    refine s_cs M_G_at dX7_measureWays_110 ⟨by decide +kernel, by decide +kernel, by decide +kernel⟩ (by decide) wd_16 wd_10 (Or.inr ⟨_, wd_272⟩) ?_
    refine s_cs M_G_put dX7_measureWays_113 ⟨by decide +kernel, by decide +kernel, by decide +kernel⟩ (by decide) wd_11 wd_10 (Or.inr ⟨_, wd_265⟩) ?_
    refine s_iinc (y := 1) dX7_measureWays_116 (by decide +kernel) (by decide) ?_
    refine s_goto (tgt := 77) dX7_measureWays_119 (by decide) ?_
    exact H77
def Rounds_measureWays_l77 (h41 : ak_K) : Nat → ak_K
  | 0 => k_no
  | n + 1 => Rounds_measureWays_b77 h41 (Rounds_measureWays_l77 h41 n)
theorem S_Rounds_measureWays_l77 {h41 : ak_K} (H41 : ak_S cX7_measureWays RX7 5 0 3 76 (0, fun _ => 0) 41 h41) : ∀ n : Nat, ak_S cX7_measureWays RX7 5 0 3 76 (0, fun _ => 0) 77 (Rounds_measureWays_l77 h41 n)
  | 0 => s_no
  | n + 1 => S_Rounds_measureWays_b77 H41 (S_Rounds_measureWays_l77 H41 n)
def Rounds_measureWays_b41 (h41 : ak_K) : ak_K := (k_il 3 (k_al 1 (k_gi 2 3 (k_cmge k_rv (k_al 0 (k_gi 7 5 (k_il 3 (k_cs 2 G_has (k_ifeq (Rounds_measureWays_b122 h41) (k_al 0 (k_al 1 (k_al 2 (k_al 1 (k_gp 2 7 (k_il 3 (k_cs 2 G_at (k_cv 7 4 Rounds_measureFrom (k_ci 0 (k_is 4 (Rounds_measureWays_l77 h41 ak_fuel))))))))))))))))))))
theorem S_Rounds_measureWays_b41 {h41 : ak_K} (H41 : ak_S cX7_measureWays RX7 5 0 3 76 (0, fun _ => 0) 41 h41) : ak_S cX7_measureWays RX7 5 0 3 76 (0, fun _ => 0) 41 (Rounds_measureWays_b41 h41) := by
  unfold Rounds_measureWays_b41
  refine s_iload_n dX7_measureWays_41 rfl ?_
  refine s_aload_n dX7_measureWays_42 rfl ?_
  refine s_gi (C := RX2) (Tf := TX2) (N := 12) (i := 2) (j := 3) rfl (by decide) rfl (Or.inr ⟨_, wd_274⟩) dX7_measureWays_43 ?_
  refine s_cmge (tgt := 128) dX7_measureWays_46 (by decide) ?_ ?_
  · exact s_rv (Or.inl rfl) dX7_measureWays_128
  · refine s_aload_n dX7_measureWays_49 rfl ?_
    refine s_gi (C := RX7) (Tf := TX7) (N := 7) (i := 7) (j := 5) rfl (by decide) rfl (Or.inl wd_291) dX7_measureWays_50 ?_
    refine s_iload_n dX7_measureWays_53 rfl ?_
    refine s_cs M_G_has dX7_measureWays_54 ⟨by decide +kernel, by decide +kernel, by decide +kernel⟩ (by decide) wd_258 wd_10 (Or.inr ⟨_, wd_264⟩) ?_
    refine s_ifeq (tgt := 122) dX7_measureWays_57 (by decide) ?_ ?_
    · exact (S_Rounds_measureWays_b122 H41)
    · refine s_aload_n dX7_measureWays_60 rfl ?_
      refine s_aload_n dX7_measureWays_61 rfl ?_
      refine s_aload_n dX7_measureWays_62 rfl ?_
      refine s_aload_n dX7_measureWays_63 rfl ?_
      refine s_gp (C := RX2) (Tf := TX2) (N := 12) (i := 2) (j := 7) rfl (by decide) rfl (Or.inr ⟨_, wd_275⟩) dX7_measureWays_64 ?_
      refine s_iload_n dX7_measureWays_67 rfl ?_
      refine s_cs M_G_at dX7_measureWays_68 ⟨by decide +kernel, by decide +kernel, by decide +kernel⟩ (by decide) wd_16 wd_10 (Or.inr ⟨_, wd_272⟩) ?_
      refine s_cv (C := RX7) (Tf := TX7) (N := 7) (i := 7) rfl M_Rounds_measureFrom dX7_measureWays_71 rfl ⟨by decide +kernel, by decide +kernel, by decide +kernel⟩ (by decide) wd_283 wd_284 wd_277 (Or.inl wd_282) ?_
      refine s_iconst (x := 0) dX7_measureWays_74 (by decide +kernel) ?_
      refine s_istore dX7_measureWays_75 (by decide) ?_
      exact (S_Rounds_measureWays_l77 H41 ak_fuel)
def Rounds_measureWays_l41 : Nat → ak_K
  | 0 => k_no
  | n + 1 => Rounds_measureWays_b41 (Rounds_measureWays_l41 n)
theorem S_Rounds_measureWays_l41 : ∀ n : Nat, ak_S cX7_measureWays RX7 5 0 3 76 (0, fun _ => 0) 41 (Rounds_measureWays_l41 n)
  | 0 => s_no
  | n + 1 => S_Rounds_measureWays_b41 (S_Rounds_measureWays_l41 n)
def Rounds_measureWays_b2 (h2 : ak_K) : ak_K := (k_il 3 (k_al 1 (k_gi 2 3 (k_cmge (k_ci 0 (k_is 3 (Rounds_measureWays_l41 ak_fuel))) (k_al 0 (k_gp 7 2 (k_ci 56 (k_il 3 (k_b (fun x y => x + y) (k_al 0 (k_al 1 (k_gp 2 7 (k_il 3 (k_cs 2 G_at (k_cv 7 2 Rounds_fromHere (k_cs 3 G_put (k_ii 3 1 h2)))))))))))))))))
theorem S_Rounds_measureWays_b2 {h2 : ak_K} (H2 : ak_S cX7_measureWays RX7 5 0 3 76 (0, fun _ => 0) 2 h2) : ak_S cX7_measureWays RX7 5 0 3 76 (0, fun _ => 0) 2 (Rounds_measureWays_b2 h2) := by
  unfold Rounds_measureWays_b2
  refine s_iload_n dX7_measureWays_2 rfl ?_
  refine s_aload_n dX7_measureWays_3 rfl ?_
  refine s_gi (C := RX2) (Tf := TX2) (N := 12) (i := 2) (j := 3) rfl (by decide) rfl (Or.inr ⟨_, wd_274⟩) dX7_measureWays_4 ?_
  refine s_cmge (tgt := 39) dX7_measureWays_7 (by decide) ?_ ?_
  · refine s_iconst (x := 0) dX7_measureWays_39 (by decide +kernel) ?_
    refine s_istore_n dX7_measureWays_40 rfl (by decide) ?_
    exact (S_Rounds_measureWays_l41 ak_fuel)
  · refine s_aload_n dX7_measureWays_10 rfl ?_
    refine s_gp (C := RX7) (Tf := TX7) (N := 7) (i := 7) (j := 2) rfl (by decide) rfl (Or.inl wd_251) dX7_measureWays_11 ?_
    refine s_bipush (x := 56) dX7_measureWays_14 (by decide +kernel) ?_
    refine s_iload_n dX7_measureWays_16 rfl ?_
    refine s_iadd dX7_measureWays_17 ?_
    refine s_aload_n dX7_measureWays_18 rfl ?_
    refine s_aload_n dX7_measureWays_19 rfl ?_
    refine s_gp (C := RX2) (Tf := TX2) (N := 12) (i := 2) (j := 7) rfl (by decide) rfl (Or.inr ⟨_, wd_275⟩) dX7_measureWays_20 ?_
    refine s_iload_n dX7_measureWays_23 rfl ?_
    refine s_cs M_G_at dX7_measureWays_24 ⟨by decide +kernel, by decide +kernel, by decide +kernel⟩ (by decide) wd_16 wd_10 (Or.inr ⟨_, wd_272⟩) ?_
    refine s_cv (C := RX7) (Tf := TX7) (N := 7) (i := 7) rfl M_Rounds_fromHere dX7_measureWays_27 rfl ⟨by decide +kernel, by decide +kernel, by decide +kernel⟩ (by decide) wd_278 wd_279 wd_277 (Or.inl wd_276) ?_
    refine s_cs M_G_put dX7_measureWays_30 ⟨by decide +kernel, by decide +kernel, by decide +kernel⟩ (by decide) wd_11 wd_10 (Or.inr ⟨_, wd_265⟩) ?_
    refine s_iinc (y := 1) dX7_measureWays_33 (by decide +kernel) (by decide) ?_
    refine s_goto (tgt := 2) dX7_measureWays_36 (by decide) ?_
    exact H2
def Rounds_measureWays_l2 : Nat → ak_K
  | 0 => k_no
  | n + 1 => Rounds_measureWays_b2 (Rounds_measureWays_l2 n)
theorem S_Rounds_measureWays_l2 : ∀ n : Nat, ak_S cX7_measureWays RX7 5 0 3 76 (0, fun _ => 0) 2 (Rounds_measureWays_l2 n)
  | 0 => s_no
  | n + 1 => S_Rounds_measureWays_b2 (S_Rounds_measureWays_l2 n)
def Rounds_measureWays_b0 : ak_K := (k_ci 0 (k_is 3 (Rounds_measureWays_l2 ak_fuel)))
theorem S_Rounds_measureWays_b0 : ak_S cX7_measureWays RX7 5 0 3 76 (0, fun _ => 0) 0 (Rounds_measureWays_b0) := by
  unfold Rounds_measureWays_b0
  refine s_iconst (x := 0) dX7_measureWays_0 (by decide +kernel) ?_
  refine s_istore_n dX7_measureWays_1 rfl (by decide) ?_
  exact (S_Rounds_measureWays_l2 ak_fuel)
def Rounds_measureWays (As : List Value) (M : ak_M) : ak_R := match As with
  | [.ref a, .ref x0, .ref x1] => Rounds_measureWays_b0 [some (.ref a), some (.ref x0), some (.ref x1), none, none] [] M
  | _ => none
theorem M_Rounds_measureWays : ak_Mt yX7_measureWays cX7_measureWays 5 none 3 76 Rounds_measureWays := by
  refine ak_met (rk := 0) wd_292 (by decide +kernel) rfl (Or.inl ⟨Or.inl rfl, rfl⟩) (fun h => absurd h (by decide)) S_Rounds_measureWays_b0 (fun As M r h => ?_)
  unfold Rounds_measureWays at h
  split at h
  next => exact ⟨Nat.le_of_ble_eq_true rfl, 2, h⟩
  next => cases h
-- GreetedMirrors$Rounds.leastFrom(II)I
def Rounds_leastFrom_b21 : ak_K := k_ri
theorem S_Rounds_leastFrom_b21 : ak_S cX7_leastFrom RX7 3 1 1 21 (0, fun _ => 0) 21 (Rounds_leastFrom_b21) := by
  unfold Rounds_leastFrom_b21
  exact s_ri rfl dX7_leastFrom_21
def Rounds_leastFrom_b0 : ak_K := (k_il 1 (k_ifeq (k_ci 0 Rounds_leastFrom_b21) (k_al 0 (k_gp 7 3 (k_il 1 (k_ci 8 (k_b (fun x y => x * y) (k_il 2 (k_b (fun x y => x + y) (k_cs 2 G_at Rounds_leastFrom_b21))))))))))
theorem S_Rounds_leastFrom_b0 : ak_S cX7_leastFrom RX7 3 1 1 21 (0, fun _ => 0) 0 (Rounds_leastFrom_b0) := by
  unfold Rounds_leastFrom_b0
  refine s_iload_n dX7_leastFrom_0 rfl ?_
  refine s_ifne (tgt := 8) dX7_leastFrom_1 (by decide) ?_ ?_
  · refine s_iconst (x := 0) dX7_leastFrom_4 (by decide +kernel) ?_
    refine s_goto (tgt := 21) dX7_leastFrom_5 (by decide) ?_
    exact S_Rounds_leastFrom_b21
  · refine s_aload_n dX7_leastFrom_8 rfl ?_
    refine s_gp (C := RX7) (Tf := TX7) (N := 7) (i := 7) (j := 3) rfl (by decide) rfl (Or.inl wd_252) dX7_leastFrom_9 ?_
    refine s_iload_n dX7_leastFrom_12 rfl ?_
    refine s_bipush (x := 8) dX7_leastFrom_13 (by decide +kernel) ?_
    refine s_imul dX7_leastFrom_15 ?_
    refine s_iload_n dX7_leastFrom_16 rfl ?_
    refine s_iadd dX7_leastFrom_17 ?_
    refine s_cs M_G_at dX7_leastFrom_18 ⟨by decide +kernel, by decide +kernel, by decide +kernel⟩ (by decide) wd_16 wd_10 (Or.inr ⟨_, wd_272⟩) ?_
    exact S_Rounds_leastFrom_b21
def Rounds_leastFrom (As : List Value) (M : ak_M) : ak_R := match As with
  | [.ref a, .int x0, .int x1] => Rounds_leastFrom_b0 [some (.ref a), some (.int x0), some (.int x1)] [] M
  | _ => none
theorem M_Rounds_leastFrom : ak_Mt yX7_leastFrom cX7_leastFrom 3 (some .int) 1 21 Rounds_leastFrom := by
  refine ak_met (rk := 1) wd_293 (by decide +kernel) rfl (Or.inr (Or.inl ⟨rfl, rfl⟩)) (fun h => absurd h (by decide)) S_Rounds_leastFrom_b0 (fun As M r h => ?_)
  unfold Rounds_leastFrom at h
  split at h
  next => exact ⟨Nat.le_of_ble_eq_true rfl, 0, h⟩
  next => cases h
-- GreetedMirrors$Rounds.stepsBy(LGreetedMirrors$House;III)I
def Rounds_stepsBy_b54 : ak_K := (k_ci 1000000 (k_al 0 (k_gp 7 2 (k_il 3 (k_ci 8 (k_b (fun x y => x * y) (k_il 4 (k_b (fun x y => x + y) (k_cs 2 G_at (k_al 0 (k_il 2 (k_il 4 (k_ci 0 (k_cs 3 G_with (k_il 4 (k_cv 7 3 Rounds_leastFrom (k_b (fun x y => x + y) (k_min k_ri))))))))))))))))))
theorem S_Rounds_stepsBy_b54 : ak_S cX7_stepsBy RX7 7 1 2 43 (0, fun _ => 0) 54 (Rounds_stepsBy_b54) := by
  unfold Rounds_stepsBy_b54
  refine s_ldc (x := 1000000) dX7_stepsBy_54 wd_294 ?_
  refine s_aload_n dX7_stepsBy_56 rfl ?_
  refine s_gp (C := RX7) (Tf := TX7) (N := 7) (i := 7) (j := 2) rfl (by decide) rfl (Or.inl wd_251) dX7_stepsBy_57 ?_
  refine s_iload_n dX7_stepsBy_60 rfl ?_
  refine s_bipush (x := 8) dX7_stepsBy_61 (by decide +kernel) ?_
  refine s_imul dX7_stepsBy_63 ?_
  refine s_iload dX7_stepsBy_64 ?_
  refine s_iadd dX7_stepsBy_66 ?_
  refine s_cs M_G_at dX7_stepsBy_67 ⟨by decide +kernel, by decide +kernel, by decide +kernel⟩ (by decide) wd_16 wd_10 (Or.inr ⟨_, wd_272⟩) ?_
  refine s_aload_n dX7_stepsBy_70 rfl ?_
  refine s_iload_n dX7_stepsBy_71 rfl ?_
  refine s_iload dX7_stepsBy_72 ?_
  refine s_iconst (x := 0) dX7_stepsBy_74 (by decide +kernel) ?_
  refine s_cs M_G_with dX7_stepsBy_75 ⟨by decide +kernel, by decide +kernel, by decide +kernel⟩ (by decide) wd_52 wd_10 (Or.inr ⟨_, wd_270⟩) ?_
  refine s_iload dX7_stepsBy_78 ?_
  refine s_cv (C := RX7) (Tf := TX7) (N := 7) (i := 7) rfl M_Rounds_leastFrom dX7_stepsBy_80 rfl ⟨by decide +kernel, by decide +kernel, by decide +kernel⟩ (by decide) wd_296 wd_297 wd_277 (Or.inl wd_295) ?_
  refine s_iadd dX7_stepsBy_83 ?_
  refine s_min (by decide) wd_298 wd_134 wd_57 wd_135 dX7_stepsBy_84 ?_
  exact s_ri rfl dX7_stepsBy_87
def Rounds_stepsBy_b48 : ak_K := (k_ifeq (k_ci 1000000 k_ri) Rounds_stepsBy_b54)
theorem S_Rounds_stepsBy_b48 : ak_S cX7_stepsBy RX7 7 1 2 43 (0, fun _ => 0) 48 (Rounds_stepsBy_b48) := by
  unfold Rounds_stepsBy_b48
  refine s_ifne (tgt := 54) dX7_stepsBy_48 (by decide) ?_ ?_
  · refine s_ldc (x := 1000000) dX7_stepsBy_51 wd_294 ?_
    exact s_ri rfl dX7_stepsBy_53
  · exact S_Rounds_stepsBy_b54
def Rounds_stepsBy_b0 : ak_K := (k_il 2 (k_il 4 (k_cs 2 G_has (k_ifeq (k_ci 1000000 k_ri) (k_al 1 (k_il 4 (k_cv 2 2 House_hungAhead (k_is 5 (k_al 0 (k_gi 7 6 (k_al 0 (k_gi 7 5 (k_il 2 (k_ci (-1) (k_b (fun x y => x ^^^ y) (k_b (fun x y => x &&& y) (k_b (fun x y => x ||| y) (k_is 6 (k_il 5 (k_ci (-1) (k_cmeq Rounds_stepsBy_b54 (k_il 6 (k_il 5 (k_cs 2 G_has Rounds_stepsBy_b48))))))))))))))))))))))))
theorem S_Rounds_stepsBy_b0 : ak_S cX7_stepsBy RX7 7 1 2 43 (0, fun _ => 0) 0 (Rounds_stepsBy_b0) := by
  unfold Rounds_stepsBy_b0
  refine s_iload_n dX7_stepsBy_0 rfl ?_
  refine s_iload dX7_stepsBy_1 ?_
  refine s_cs M_G_has dX7_stepsBy_3 ⟨by decide +kernel, by decide +kernel, by decide +kernel⟩ (by decide) wd_258 wd_10 (Or.inr ⟨_, wd_264⟩) ?_
  refine s_ifne (tgt := 12) dX7_stepsBy_6 (by decide) ?_ ?_
  · refine s_ldc (x := 1000000) dX7_stepsBy_9 wd_294 ?_
    exact s_ri rfl dX7_stepsBy_11
  · refine s_aload_n dX7_stepsBy_12 rfl ?_
    refine s_iload dX7_stepsBy_13 ?_
    refine s_cv (C := RX2) (Tf := TX2) (N := 12) (i := 2) rfl M_House_hungAhead dX7_stepsBy_15 rfl ⟨by decide +kernel, by decide +kernel, by decide +kernel⟩ (by decide) wd_300 wd_301 wd_194 (Or.inr ⟨_, wd_299⟩) ?_
    refine s_istore dX7_stepsBy_18 (by decide) ?_
    refine s_aload_n dX7_stepsBy_20 rfl ?_
    refine s_gi (C := RX7) (Tf := TX7) (N := 7) (i := 7) (j := 6) rfl (by decide) rfl (Or.inl wd_302) dX7_stepsBy_21 ?_
    refine s_aload_n dX7_stepsBy_24 rfl ?_
    refine s_gi (C := RX7) (Tf := TX7) (N := 7) (i := 7) (j := 5) rfl (by decide) rfl (Or.inl wd_291) dX7_stepsBy_25 ?_
    refine s_iload_n dX7_stepsBy_28 rfl ?_
    refine s_iconst (x := (-1)) dX7_stepsBy_29 (by decide +kernel) ?_
    refine s_ixor dX7_stepsBy_30 ?_
    refine s_iand dX7_stepsBy_31 ?_
    refine s_ior dX7_stepsBy_32 ?_
    refine s_istore dX7_stepsBy_33 (by decide) ?_
    refine s_iload dX7_stepsBy_35 ?_
    refine s_iconst (x := (-1)) dX7_stepsBy_37 (by decide +kernel) ?_
    refine s_cmeq (tgt := 54) dX7_stepsBy_38 (by decide) ?_ ?_
    · exact S_Rounds_stepsBy_b54
    · refine s_iload dX7_stepsBy_41 ?_
      refine s_iload dX7_stepsBy_43 ?_
      refine s_cs M_G_has dX7_stepsBy_45 ⟨by decide +kernel, by decide +kernel, by decide +kernel⟩ (by decide) wd_258 wd_10 (Or.inr ⟨_, wd_264⟩) ?_
      exact S_Rounds_stepsBy_b48
def Rounds_stepsBy (As : List Value) (M : ak_M) : ak_R := match As with
  | [.ref a, .ref x0, .int x1, .int x2, .int x3] => Rounds_stepsBy_b0 [some (.ref a), some (.ref x0), some (.int x1), some (.int x2), some (.int x3), none, none] [] M
  | _ => none
theorem M_Rounds_stepsBy : ak_Mt yX7_stepsBy cX7_stepsBy 7 (some .int) 2 43 Rounds_stepsBy := by
  refine ak_met (rk := 1) wd_303 (by decide +kernel) rfl (Or.inr (Or.inl ⟨rfl, rfl⟩)) (fun h => absurd h (by decide)) S_Rounds_stepsBy_b0 (fun As M r h => ?_)
  unfold Rounds_stepsBy at h
  split at h
  next => exact ⟨Nat.le_of_ble_eq_true rfl, 2, h⟩
  next => cases h
-- GreetedMirrors$Rounds.weighFrom(LGreetedMirrors$House;II)I
def Rounds_weighFrom_b7 (h7 : ak_K) : ak_K := (k_il 5 (k_al 1 (k_gi 2 3 (k_cmge (k_il 4 k_ri) (k_il 4 (k_al 0 (k_al 1 (k_il 2 (k_il 3 (k_il 5 (k_cv 7 5 Rounds_stepsBy (k_min (k_is 4 (k_ii 5 1 h7))))))))))))))
theorem S_Rounds_weighFrom_b7 {h7 : ak_K} (H7 : ak_S cX7_weighFrom RX7 6 1 3 69 (0, fun _ => 0) 7 h7) : ak_S cX7_weighFrom RX7 6 1 3 69 (0, fun _ => 0) 7 (Rounds_weighFrom_b7 h7) := by
  unfold Rounds_weighFrom_b7
  refine s_iload dX7_weighFrom_7 ?_
  refine s_aload_n dX7_weighFrom_9 rfl ?_
  refine s_gi (C := RX2) (Tf := TX2) (N := 12) (i := 2) (j := 3) rfl (by decide) rfl (Or.inr ⟨_, wd_274⟩) dX7_weighFrom_10 ?_
  refine s_cmge (tgt := 38) dX7_weighFrom_13 (by decide) ?_ ?_
  · refine s_iload dX7_weighFrom_38 ?_
    exact s_ri rfl dX7_weighFrom_40
  · refine s_iload dX7_weighFrom_16 ?_
    refine s_aload_n dX7_weighFrom_18 rfl ?_
    refine s_aload_n dX7_weighFrom_19 rfl ?_
    refine s_iload_n dX7_weighFrom_20 rfl ?_
    refine s_iload_n dX7_weighFrom_21 rfl ?_
    refine s_iload dX7_weighFrom_22 ?_
    refine s_cv (C := RX7) (Tf := TX7) (N := 7) (i := 7) rfl M_Rounds_stepsBy dX7_weighFrom_24 rfl ⟨by decide +kernel, by decide +kernel, by decide +kernel⟩ (by decide) wd_305 wd_306 wd_277 (Or.inl wd_304) ?_
    refine s_min (by decide) wd_298 wd_134 wd_57 wd_135 dX7_weighFrom_27 ?_
    refine s_istore dX7_weighFrom_30 (by decide) ?_
    refine s_iinc (y := 1) dX7_weighFrom_32 (by decide +kernel) (by decide) ?_
    refine s_goto (tgt := 7) dX7_weighFrom_35 (by decide) ?_
    exact H7
def Rounds_weighFrom_l7 : Nat → ak_K
  | 0 => k_no
  | n + 1 => Rounds_weighFrom_b7 (Rounds_weighFrom_l7 n)
theorem S_Rounds_weighFrom_l7 : ∀ n : Nat, ak_S cX7_weighFrom RX7 6 1 3 69 (0, fun _ => 0) 7 (Rounds_weighFrom_l7 n)
  | 0 => s_no
  | n + 1 => S_Rounds_weighFrom_b7 (S_Rounds_weighFrom_l7 n)
def Rounds_weighFrom_b0 : ak_K := (k_ci 1000000 (k_is 4 (k_ci 0 (k_is 5 (Rounds_weighFrom_l7 ak_fuel)))))
theorem S_Rounds_weighFrom_b0 : ak_S cX7_weighFrom RX7 6 1 3 69 (0, fun _ => 0) 0 (Rounds_weighFrom_b0) := by
  unfold Rounds_weighFrom_b0
  refine s_ldc (x := 1000000) dX7_weighFrom_0 wd_294 ?_
  refine s_istore dX7_weighFrom_2 (by decide) ?_
  refine s_iconst (x := 0) dX7_weighFrom_4 (by decide +kernel) ?_
  refine s_istore dX7_weighFrom_5 (by decide) ?_
  exact (S_Rounds_weighFrom_l7 ak_fuel)
def Rounds_weighFrom (As : List Value) (M : ak_M) : ak_R := match As with
  | [.ref a, .ref x0, .int x1, .int x2] => Rounds_weighFrom_b0 [some (.ref a), some (.ref x0), some (.int x1), some (.int x2), none, none] [] M
  | _ => none
theorem M_Rounds_weighFrom : ak_Mt yX7_weighFrom cX7_weighFrom 6 (some .int) 3 69 Rounds_weighFrom := by
  refine ak_met (rk := 1) wd_307 (by decide +kernel) rfl (Or.inr (Or.inl ⟨rfl, rfl⟩)) (fun h => absurd h (by decide)) S_Rounds_weighFrom_b0 (fun As M r h => ?_)
  unfold Rounds_weighFrom at h
  split at h
  next => exact ⟨Nat.le_of_ble_eq_true rfl, 2, h⟩
  next => cases h
-- GreetedMirrors$Rounds.weigh(LGreetedMirrors$House;I)V
def Rounds_weigh_b81 : ak_K := k_rv
theorem S_Rounds_weigh_b81 : ak_S cX7_weigh RX7 4 0 4 94 (0, fun _ => 0) 81 (Rounds_weigh_b81) := by
  unfold Rounds_weigh_b81
  exact s_rv (Or.inl rfl) dX7_weigh_81
def Rounds_weigh_b45 (h2 : ak_K) : ak_K := (k_ii 3 1 h2)
theorem S_Rounds_weigh_b45 {h2 : ak_K} (H2 : ak_S cX7_weigh RX7 4 0 4 94 (0, fun _ => 0) 2 h2) : ak_S cX7_weigh RX7 4 0 4 94 (0, fun _ => 0) 45 (Rounds_weigh_b45 h2) := by
  unfold Rounds_weigh_b45
  refine s_iinc (y := 1) dX7_weigh_45 (by decide +kernel) (by decide) ?_
  refine s_goto (tgt := 2) dX7_weigh_48 (by decide) ?_
  exact H2
def Rounds_weigh_b39 (h2 : ak_K) : ak_K := (k_cv 7 4 Rounds_weighFrom (k_cs 3 G_put (Rounds_weigh_b45 h2)))
theorem S_Rounds_weigh_b39 {h2 : ak_K} (H2 : ak_S cX7_weigh RX7 4 0 4 94 (0, fun _ => 0) 2 h2) : ak_S cX7_weigh RX7 4 0 4 94 (0, fun _ => 0) 39 (Rounds_weigh_b39 h2) := by
  unfold Rounds_weigh_b39
  refine s_cv (C := RX7) (Tf := TX7) (N := 7) (i := 7) rfl M_Rounds_weighFrom dX7_weigh_39 rfl ⟨by decide +kernel, by decide +kernel, by decide +kernel⟩ (by decide) wd_309 wd_310 wd_277 (Or.inl wd_308) ?_
  refine s_cs M_G_put dX7_weigh_42 ⟨by decide +kernel, by decide +kernel, by decide +kernel⟩ (by decide) wd_11 wd_10 (Or.inr ⟨_, wd_265⟩) ?_
  exact (S_Rounds_weigh_b45 H2)
def Rounds_weigh_b2 (h2 : ak_K) : ak_K := (k_il 3 (k_al 1 (k_gi 2 3 (k_cmge (k_il 2 (k_al 0 (k_gi 7 5 (k_cmeq (k_al 0 (k_gp 7 3 (k_il 2 (k_ci 8 (k_b (fun x y => x * y) (k_ci 7 (k_b (fun x y => x + y) (k_al 0 (k_al 1 (k_il 2 (k_ci 7 (k_cv 7 4 Rounds_weighFrom (k_cs 3 G_put Rounds_weigh_b81))))))))))))) Rounds_weigh_b81)))) (k_al 0 (k_gi 7 5 (k_il 2 (k_ci (-1) (k_b (fun x y => x ^^^ y) (k_b (fun x y => x &&& y) (k_il 3 (k_cs 2 G_has (k_ifeq (Rounds_weigh_b45 h2) (k_al 0 (k_gp 7 3 (k_il 2 (k_ci 8 (k_b (fun x y => x * y) (k_il 3 (k_b (fun x y => x + y) (k_al 0 (k_al 1 (k_il 2 (k_il 3 (Rounds_weigh_b39 h2)))))))))))))))))))))))))
theorem S_Rounds_weigh_b2 {h2 : ak_K} (H2 : ak_S cX7_weigh RX7 4 0 4 94 (0, fun _ => 0) 2 h2) : ak_S cX7_weigh RX7 4 0 4 94 (0, fun _ => 0) 2 (Rounds_weigh_b2 h2) := by
  unfold Rounds_weigh_b2
  refine s_iload_n dX7_weigh_2 rfl ?_
  refine s_aload_n dX7_weigh_3 rfl ?_
  refine s_gi (C := RX2) (Tf := TX2) (N := 12) (i := 2) (j := 3) rfl (by decide) rfl (Or.inr ⟨_, wd_274⟩) dX7_weigh_4 ?_
  refine s_cmge (tgt := 51) dX7_weigh_7 (by decide) ?_ ?_
  · refine s_iload_n dX7_weigh_51 rfl ?_
    refine s_aload_n dX7_weigh_52 rfl ?_
    refine s_gi (C := RX7) (Tf := TX7) (N := 7) (i := 7) (j := 5) rfl (by decide) rfl (Or.inl wd_291) dX7_weigh_53 ?_
    refine s_cmne (tgt := 81) dX7_weigh_56 (by decide) ?_ ?_
    · refine s_aload_n dX7_weigh_59 rfl ?_
      refine s_gp (C := RX7) (Tf := TX7) (N := 7) (i := 7) (j := 3) rfl (by decide) rfl (Or.inl wd_252) dX7_weigh_60 ?_
      refine s_iload_n dX7_weigh_63 rfl ?_
      refine s_bipush (x := 8) dX7_weigh_64 (by decide +kernel) ?_
      refine s_imul dX7_weigh_66 ?_
      refine s_bipush (x := 7) dX7_weigh_67 (by decide +kernel) ?_
      refine s_iadd dX7_weigh_69 ?_
      refine s_aload_n dX7_weigh_70 rfl ?_
      refine s_aload_n dX7_weigh_71 rfl ?_
      refine s_iload_n dX7_weigh_72 rfl ?_
      refine s_bipush (x := 7) dX7_weigh_73 (by decide +kernel) ?_
      refine s_cv (C := RX7) (Tf := TX7) (N := 7) (i := 7) rfl M_Rounds_weighFrom dX7_weigh_75 rfl ⟨by decide +kernel, by decide +kernel, by decide +kernel⟩ (by decide) wd_309 wd_310 wd_277 (Or.inl wd_308) ?_
      refine s_cs M_G_put dX7_weigh_78 ⟨by decide +kernel, by decide +kernel, by decide +kernel⟩ (by decide) wd_11 wd_10 (Or.inr ⟨_, wd_265⟩) ?_
      exact S_Rounds_weigh_b81
    · exact S_Rounds_weigh_b81
  · refine s_aload_n dX7_weigh_10 rfl ?_
    refine s_gi (C := RX7) (Tf := TX7) (N := 7) (i := 7) (j := 5) rfl (by decide) rfl (Or.inl wd_291) dX7_weigh_11 ?_
    refine s_iload_n dX7_weigh_14 rfl ?_
    refine s_iconst (x := (-1)) dX7_weigh_15 (by decide +kernel) ?_
    refine s_ixor dX7_weigh_16 ?_
    refine s_iand dX7_weigh_17 ?_
    refine s_iload_n dX7_weigh_18 rfl ?_
    refine s_cs M_G_has dX7_weigh_19 ⟨by decide +kernel, by decide +kernel, by decide +kernel⟩ (by decide) wd_258 wd_10 (Or.inr ⟨_, wd_264⟩) ?_
    refine s_ifeq (tgt := 45) dX7_weigh_22 (by decide) ?_ ?_
    · exact (S_Rounds_weigh_b45 H2)
    · refine s_aload_n dX7_weigh_25 rfl ?_
      refine s_gp (C := RX7) (Tf := TX7) (N := 7) (i := 7) (j := 3) rfl (by decide) rfl (Or.inl wd_252) dX7_weigh_26 ?_
      refine s_iload_n dX7_weigh_29 rfl ?_
      refine s_bipush (x := 8) dX7_weigh_30 (by decide +kernel) ?_
      refine s_imul dX7_weigh_32 ?_
      refine s_iload_n dX7_weigh_33 rfl ?_
      refine s_iadd dX7_weigh_34 ?_
      refine s_aload_n dX7_weigh_35 rfl ?_
      refine s_aload_n dX7_weigh_36 rfl ?_
      refine s_iload_n dX7_weigh_37 rfl ?_
      refine s_iload_n dX7_weigh_38 rfl ?_
      exact (S_Rounds_weigh_b39 H2)
def Rounds_weigh_l2 : Nat → ak_K
  | 0 => k_no
  | n + 1 => Rounds_weigh_b2 (Rounds_weigh_l2 n)
theorem S_Rounds_weigh_l2 : ∀ n : Nat, ak_S cX7_weigh RX7 4 0 4 94 (0, fun _ => 0) 2 (Rounds_weigh_l2 n)
  | 0 => s_no
  | n + 1 => S_Rounds_weigh_b2 (S_Rounds_weigh_l2 n)
def Rounds_weigh_b0 : ak_K := (k_ci 0 (k_is 3 (Rounds_weigh_l2 ak_fuel)))
theorem S_Rounds_weigh_b0 : ak_S cX7_weigh RX7 4 0 4 94 (0, fun _ => 0) 0 (Rounds_weigh_b0) := by
  unfold Rounds_weigh_b0
  refine s_iconst (x := 0) dX7_weigh_0 (by decide +kernel) ?_
  refine s_istore_n dX7_weigh_1 rfl (by decide) ?_
  exact (S_Rounds_weigh_l2 ak_fuel)
def Rounds_weigh (As : List Value) (M : ak_M) : ak_R := match As with
  | [.ref a, .ref x0, .int x1] => Rounds_weigh_b0 [some (.ref a), some (.ref x0), some (.int x1), none] [] M
  | _ => none
theorem M_Rounds_weigh : ak_Mt yX7_weigh cX7_weigh 4 none 4 94 Rounds_weigh := by
  refine ak_met (rk := 0) wd_311 (by decide +kernel) rfl (Or.inl ⟨Or.inl rfl, rfl⟩) (fun h => absurd h (by decide)) S_Rounds_weigh_b0 (fun As M r h => ?_)
  unfold Rounds_weigh at h
  split at h
  next => exact ⟨Nat.le_of_ble_eq_true rfl, 1, h⟩
  next => cases h
-- GreetedMirrors$Rounds.plan(LGreetedMirrors$House;LGreetedMirrors$State;I)Z
def Rounds_plan_b112 : ak_K := k_rz
theorem S_Rounds_plan_b112 : ak_S cX7_plan RX7 5 2 5 117 (0, fun _ => 0) 112 (Rounds_plan_b112) := by
  unfold Rounds_plan_b112
  exact s_rz rfl dX7_plan_112
def Rounds_plan_b89 (h67 : ak_K) : ak_K := (k_ii 4 1 h67)
theorem S_Rounds_plan_b89 {h67 : ak_K} (H67 : ak_S cX7_plan RX7 5 2 5 117 (0, fun _ => 0) 67 h67) : ak_S cX7_plan RX7 5 2 5 117 (0, fun _ => 0) 89 (Rounds_plan_b89 h67) := by
  unfold Rounds_plan_b89
  refine s_iinc (y := 1) dX7_plan_89 (by decide +kernel) (by decide) ?_
  refine s_goto (tgt := 67) dX7_plan_92 (by decide) ?_
  exact H67
def Rounds_plan_b67 (h67 : ak_K) : ak_K := (k_il 4 (k_il 3 (k_cmgt (k_al 0 (k_il 3 (k_ci 7 (k_cv 7 3 Rounds_leastFrom (k_ci 1000000 (k_cmge (k_ci 0 Rounds_plan_b112) (k_ci 1 Rounds_plan_b112))))))) (k_il 4 (k_il 3 (k_ci (-1) (k_b (fun x y => x ^^^ y) (k_b (fun x y => x &&& y) (k_ifeq (k_al 0 (k_al 1 (k_il 4 (k_cv 7 3 Rounds_weigh (Rounds_plan_b89 h67))))) (Rounds_plan_b89 h67))))))))))
theorem S_Rounds_plan_b67 {h67 : ak_K} (H67 : ak_S cX7_plan RX7 5 2 5 117 (0, fun _ => 0) 67 h67) : ak_S cX7_plan RX7 5 2 5 117 (0, fun _ => 0) 67 (Rounds_plan_b67 h67) := by
  unfold Rounds_plan_b67
  refine s_iload dX7_plan_67 ?_
  refine s_iload_n dX7_plan_69 rfl ?_
  refine s_cmgt (tgt := 95) dX7_plan_70 (by decide) ?_ ?_
  · refine s_aload_n dX7_plan_95 rfl ?_
    refine s_iload_n dX7_plan_96 rfl ?_
    refine s_bipush (x := 7) dX7_plan_97 (by decide +kernel) ?_
    refine s_cv (C := RX7) (Tf := TX7) (N := 7) (i := 7) rfl M_Rounds_leastFrom dX7_plan_99 rfl ⟨by decide +kernel, by decide +kernel, by decide +kernel⟩ (by decide) wd_296 wd_297 wd_277 (Or.inl wd_295) ?_
    refine s_ldc (x := 1000000) dX7_plan_102 wd_294 ?_
    refine s_cmge (tgt := 111) dX7_plan_104 (by decide) ?_ ?_
    · refine s_iconst (x := 0) dX7_plan_111 (by decide +kernel) ?_
      exact S_Rounds_plan_b112
    · refine s_iconst (x := 1) dX7_plan_107 (by decide +kernel) ?_
      refine s_goto (tgt := 112) dX7_plan_108 (by decide) ?_
      exact S_Rounds_plan_b112
  · refine s_iload dX7_plan_73 ?_
    refine s_iload_n dX7_plan_75 rfl ?_
    refine s_iconst (x := (-1)) dX7_plan_76 (by decide +kernel) ?_
    refine s_ixor dX7_plan_77 ?_
    refine s_iand dX7_plan_78 ?_
    refine s_ifne (tgt := 89) dX7_plan_79 (by decide) ?_ ?_
    · refine s_aload_n dX7_plan_82 rfl ?_
      refine s_aload_n dX7_plan_83 rfl ?_
      refine s_iload dX7_plan_84 ?_
      refine s_cv (C := RX7) (Tf := TX7) (N := 7) (i := 7) rfl M_Rounds_weigh dX7_plan_86 rfl ⟨by decide +kernel, by decide +kernel, by decide +kernel⟩ (by decide) wd_313 wd_314 wd_277 (Or.inl wd_312) ?_
      exact (S_Rounds_plan_b89 H67)
    · exact (S_Rounds_plan_b89 H67)
def Rounds_plan_l67 : Nat → ak_K
  | 0 => k_no
  | n + 1 => Rounds_plan_b67 (Rounds_plan_l67 n)
theorem S_Rounds_plan_l67 : ∀ n : Nat, ak_S cX7_plan RX7 5 2 5 117 (0, fun _ => 0) 67 (Rounds_plan_l67 n)
  | 0 => s_no
  | n + 1 => S_Rounds_plan_b67 (S_Rounds_plan_l67 n)
def Rounds_plan_b52 (h22 : ak_K) : ak_K := (k_ii 4 1 h22)
theorem S_Rounds_plan_b52 {h22 : ak_K} (H22 : ak_S cX7_plan RX7 5 2 5 117 (0, fun _ => 0) 22 h22) : ak_S cX7_plan RX7 5 2 5 117 (0, fun _ => 0) 52 (Rounds_plan_b52 h22) := by
  unfold Rounds_plan_b52
  refine s_iinc (y := 1) dX7_plan_52 (by decide +kernel) (by decide) ?_
  refine s_goto (tgt := 22) dX7_plan_55 (by decide) ?_
  exact H22
def Rounds_plan_b22 (h22 : ak_K) : ak_K := (k_il 4 (k_al 1 (k_gi 2 3 (k_cmge (k_al 0 (k_al 1 (k_al 2 (k_cv 7 3 Rounds_measureWays (k_ci 1 (k_is 4 (Rounds_plan_l67 ak_fuel))))))) (k_il 3 (k_il 4 (k_cs 2 G_has (k_ifeq (Rounds_plan_b52 h22) (k_al 0 (k_al 2 (k_il 4 (k_cv 7 3 Rounds_canGreet (k_ifeq (k_ci 0 k_rz) (Rounds_plan_b52 h22))))))))))))))
theorem S_Rounds_plan_b22 {h22 : ak_K} (H22 : ak_S cX7_plan RX7 5 2 5 117 (0, fun _ => 0) 22 h22) : ak_S cX7_plan RX7 5 2 5 117 (0, fun _ => 0) 22 (Rounds_plan_b22 h22) := by
  unfold Rounds_plan_b22
  refine s_iload dX7_plan_22 ?_
  refine s_aload_n dX7_plan_24 rfl ?_
  refine s_gi (C := RX2) (Tf := TX2) (N := 12) (i := 2) (j := 3) rfl (by decide) rfl (Or.inr ⟨_, wd_274⟩) dX7_plan_25 ?_
  refine s_cmge (tgt := 58) dX7_plan_28 (by decide) ?_ ?_
  · refine s_aload_n dX7_plan_58 rfl ?_
    refine s_aload_n dX7_plan_59 rfl ?_
    refine s_aload_n dX7_plan_60 rfl ?_
    refine s_cv (C := RX7) (Tf := TX7) (N := 7) (i := 7) rfl M_Rounds_measureWays dX7_plan_61 rfl ⟨by decide +kernel, by decide +kernel, by decide +kernel⟩ (by decide) wd_316 wd_317 wd_277 (Or.inl wd_315) ?_
    refine s_iconst (x := 1) dX7_plan_64 (by decide +kernel) ?_
    refine s_istore dX7_plan_65 (by decide) ?_
    exact (S_Rounds_plan_l67 ak_fuel)
  · refine s_iload_n dX7_plan_31 rfl ?_
    refine s_iload dX7_plan_32 ?_
    refine s_cs M_G_has dX7_plan_34 ⟨by decide +kernel, by decide +kernel, by decide +kernel⟩ (by decide) wd_258 wd_10 (Or.inr ⟨_, wd_264⟩) ?_
    refine s_ifeq (tgt := 52) dX7_plan_37 (by decide) ?_ ?_
    · exact (S_Rounds_plan_b52 H22)
    · refine s_aload_n dX7_plan_40 rfl ?_
      refine s_aload_n dX7_plan_41 rfl ?_
      refine s_iload dX7_plan_42 ?_
      refine s_cv (C := RX7) (Tf := TX7) (N := 7) (i := 7) rfl M_Rounds_canGreet dX7_plan_44 rfl ⟨by decide +kernel, by decide +kernel, by decide +kernel⟩ (by decide) wd_319 wd_320 wd_277 (Or.inl wd_318) ?_
      refine s_ifne (tgt := 52) dX7_plan_47 (by decide) ?_ ?_
      · refine s_iconst (x := 0) dX7_plan_50 (by decide +kernel) ?_
        exact s_rz rfl dX7_plan_51
      · exact (S_Rounds_plan_b52 H22)
def Rounds_plan_l22 : Nat → ak_K
  | 0 => k_no
  | n + 1 => Rounds_plan_b22 (Rounds_plan_l22 n)
theorem S_Rounds_plan_l22 : ∀ n : Nat, ak_S cX7_plan RX7 5 2 5 117 (0, fun _ => 0) 22 (Rounds_plan_l22 n)
  | 0 => s_no
  | n + 1 => S_Rounds_plan_b22 (S_Rounds_plan_l22 n)
def Rounds_plan_b0 : ak_K := (k_al 0 (k_al 1 (k_al 2 (k_cv 7 3 Rounds_measure (k_al 0 (k_il 3 (k_pi 7 5 (k_al 0 (k_al 2 (k_gi 8 2 (k_pi 7 6 (k_ci 0 (k_is 4 (Rounds_plan_l22 ak_fuel))))))))))))))
theorem S_Rounds_plan_b0 : ak_S cX7_plan RX7 5 2 5 117 (0, fun _ => 0) 0 (Rounds_plan_b0) := by
  unfold Rounds_plan_b0
  refine s_aload_n dX7_plan_0 rfl ?_
  refine s_aload_n dX7_plan_1 rfl ?_
  refine s_aload_n dX7_plan_2 rfl ?_
  refine s_cv (C := RX7) (Tf := TX7) (N := 7) (i := 7) rfl M_Rounds_measure dX7_plan_3 rfl ⟨by decide +kernel, by decide +kernel, by decide +kernel⟩ (by decide) wd_322 wd_323 wd_277 (Or.inl wd_321) ?_
  refine s_aload_n dX7_plan_6 rfl ?_
  refine s_iload_n dX7_plan_7 rfl ?_
  refine s_pi (C := RX7) (Tf := TX7) (N := 7) (i := 7) (j := 5) rfl (by decide) rfl (Or.inl ⟨wd_291, Or.inl rfl⟩) dX7_plan_8 ?_
  refine s_aload_n dX7_plan_11 rfl ?_
  refine s_aload_n dX7_plan_12 rfl ?_
  refine s_gi (C := RX8) (Tf := TX8) (N := 12) (i := 8) (j := 2) rfl (by decide) rfl (Or.inr ⟨_, wd_324⟩) dX7_plan_13 ?_
  refine s_pi (C := RX7) (Tf := TX7) (N := 7) (i := 7) (j := 6) rfl (by decide) rfl (Or.inl ⟨wd_302, Or.inl rfl⟩) dX7_plan_16 ?_
  refine s_iconst (x := 0) dX7_plan_19 (by decide +kernel) ?_
  refine s_istore dX7_plan_20 (by decide) ?_
  exact (S_Rounds_plan_l22 ak_fuel)
def Rounds_plan (As : List Value) (M : ak_M) : ak_R := match As with
  | [.ref a, .ref x0, .ref x1, .int x2] => Rounds_plan_b0 [some (.ref a), some (.ref x0), some (.ref x1), some (.int x2), none] [] M
  | _ => none
theorem M_Rounds_plan : ak_Mt yX7_plan cX7_plan 5 (some .boolean) 5 117 Rounds_plan := by
  refine ak_met (rk := 2) wd_325 (by decide +kernel) rfl (Or.inr (Or.inr (Or.inl ⟨rfl, rfl⟩))) (fun h => absurd h (by decide)) S_Rounds_plan_b0 (fun As M r h => ?_)
  unfold Rounds_plan at h
  split at h
  next => exact ⟨Nat.le_of_ble_eq_true rfl, 1, h⟩
  next => cases h
-- GreetedMirrors$Rounds.breath(LGreetedMirrors$House;LGreetedMirrors$State;)I
def Rounds_breath_b51 (h14 : ak_K) : ak_K := (k_ii 4 1 h14)
theorem S_Rounds_breath_b51 {h14 : ak_K} (H14 : ak_S cX7_breath RX7 5 1 2 43 (0, fun _ => 0) 14 h14) : ak_S cX7_breath RX7 5 1 2 43 (0, fun _ => 0) 51 (Rounds_breath_b51 h14) := by
  unfold Rounds_breath_b51
  refine s_iinc (y := 1) dX7_breath_51 (by decide +kernel) (by decide) ?_
  refine s_goto (tgt := 14) dX7_breath_54 (by decide) ?_
  exact H14
def Rounds_breath_b14 (h14 : ak_K) : ak_K := (k_il 4 (k_al 1 (k_gi 2 3 (k_cmge (k_il 3 k_ri) (k_al 0 (k_gi 7 5 (k_il 4 (k_cs 2 G_has (k_ifeq (Rounds_breath_b51 h14) (k_il 3 (k_al 1 (k_al 2 (k_gp 8 8 (k_il 4 (k_cs 2 G_at (k_cv 2 2 House_breathOf (k_b (fun x y => x + y) (k_is 3 (Rounds_breath_b51 h14)))))))))))))))))))
theorem S_Rounds_breath_b14 {h14 : ak_K} (H14 : ak_S cX7_breath RX7 5 1 2 43 (0, fun _ => 0) 14 h14) : ak_S cX7_breath RX7 5 1 2 43 (0, fun _ => 0) 14 (Rounds_breath_b14 h14) := by
  unfold Rounds_breath_b14
  refine s_iload dX7_breath_14 ?_
  refine s_aload_n dX7_breath_16 rfl ?_
  refine s_gi (C := RX2) (Tf := TX2) (N := 12) (i := 2) (j := 3) rfl (by decide) rfl (Or.inr ⟨_, wd_274⟩) dX7_breath_17 ?_
  refine s_cmge (tgt := 57) dX7_breath_20 (by decide) ?_ ?_
  · refine s_iload_n dX7_breath_57 rfl ?_
    exact s_ri rfl dX7_breath_58
  · refine s_aload_n dX7_breath_23 rfl ?_
    refine s_gi (C := RX7) (Tf := TX7) (N := 7) (i := 7) (j := 5) rfl (by decide) rfl (Or.inl wd_291) dX7_breath_24 ?_
    refine s_iload dX7_breath_27 ?_
    refine s_cs M_G_has dX7_breath_29 ⟨by decide +kernel, by decide +kernel, by decide +kernel⟩ (by decide) wd_258 wd_10 (Or.inr ⟨_, wd_264⟩) ?_
    refine s_ifeq (tgt := 51) dX7_breath_32 (by decide) ?_ ?_
    · exact (S_Rounds_breath_b51 H14)
    · refine s_iload_n dX7_breath_35 rfl ?_
      refine s_aload_n dX7_breath_36 rfl ?_
      refine s_aload_n dX7_breath_37 rfl ?_
      refine s_gp (C := RX8) (Tf := TX8) (N := 12) (i := 8) (j := 8) rfl (by decide) rfl (Or.inr ⟨_, wd_288⟩) dX7_breath_38 ?_
      refine s_iload dX7_breath_41 ?_
      refine s_cs M_G_at dX7_breath_43 ⟨by decide +kernel, by decide +kernel, by decide +kernel⟩ (by decide) wd_16 wd_10 (Or.inr ⟨_, wd_272⟩) ?_
      refine s_cv (C := RX2) (Tf := TX2) (N := 12) (i := 2) rfl M_House_breathOf dX7_breath_46 rfl ⟨by decide +kernel, by decide +kernel, by decide +kernel⟩ (by decide) wd_327 wd_328 wd_194 (Or.inr ⟨_, wd_326⟩) ?_
      refine s_iadd dX7_breath_49 ?_
      refine s_istore_n dX7_breath_50 rfl (by decide) ?_
      exact (S_Rounds_breath_b51 H14)
def Rounds_breath_l14 : Nat → ak_K
  | 0 => k_no
  | n + 1 => Rounds_breath_b14 (Rounds_breath_l14 n)
theorem S_Rounds_breath_l14 : ∀ n : Nat, ak_S cX7_breath RX7 5 1 2 43 (0, fun _ => 0) 14 (Rounds_breath_l14 n)
  | 0 => s_no
  | n + 1 => S_Rounds_breath_b14 (S_Rounds_breath_l14 n)
def Rounds_breath_b0 : ak_K := (k_al 0 (k_al 0 (k_gi 7 5 (k_ci 7 (k_cv 7 3 Rounds_leastFrom (k_is 3 (k_ci 0 (k_is 4 (Rounds_breath_l14 ak_fuel)))))))))
theorem S_Rounds_breath_b0 : ak_S cX7_breath RX7 5 1 2 43 (0, fun _ => 0) 0 (Rounds_breath_b0) := by
  unfold Rounds_breath_b0
  refine s_aload_n dX7_breath_0 rfl ?_
  refine s_aload_n dX7_breath_1 rfl ?_
  refine s_gi (C := RX7) (Tf := TX7) (N := 7) (i := 7) (j := 5) rfl (by decide) rfl (Or.inl wd_291) dX7_breath_2 ?_
  refine s_bipush (x := 7) dX7_breath_5 (by decide +kernel) ?_
  refine s_cv (C := RX7) (Tf := TX7) (N := 7) (i := 7) rfl M_Rounds_leastFrom dX7_breath_7 rfl ⟨by decide +kernel, by decide +kernel, by decide +kernel⟩ (by decide) wd_296 wd_297 wd_277 (Or.inl wd_295) ?_
  refine s_istore_n dX7_breath_10 rfl (by decide) ?_
  refine s_iconst (x := 0) dX7_breath_11 (by decide +kernel) ?_
  refine s_istore dX7_breath_12 (by decide) ?_
  exact (S_Rounds_breath_l14 ak_fuel)
def Rounds_breath (As : List Value) (M : ak_M) : ak_R := match As with
  | [.ref a, .ref x0, .ref x1] => Rounds_breath_b0 [some (.ref a), some (.ref x0), some (.ref x1), none, none] [] M
  | _ => none
theorem M_Rounds_breath : ak_Mt yX7_breath cX7_breath 5 (some .int) 2 43 Rounds_breath := by
  refine ak_met (rk := 1) wd_329 (by decide +kernel) rfl (Or.inr (Or.inl ⟨rfl, rfl⟩)) (fun h => absurd h (by decide)) S_Rounds_breath_b0 (fun As M r h => ?_)
  unfold Rounds_breath at h
  split at h
  next => exact ⟨Nat.le_of_ble_eq_true rfl, 2, h⟩
  next => cases h
-- GreetedMirrors$Rounds.nextOf(LGreetedMirrors$House;II)I
def Rounds_nextOf_b46 (h11 : ak_K) : ak_K := (k_ii 5 1 h11)
theorem S_Rounds_nextOf_b46 {h11 : ak_K} (H11 : ak_S cX7_nextOf RX7 6 1 3 69 (0, fun _ => 0) 11 h11) : ak_S cX7_nextOf RX7 6 1 3 69 (0, fun _ => 0) 46 (Rounds_nextOf_b46 h11) := by
  unfold Rounds_nextOf_b46
  refine s_iinc (y := 1) dX7_nextOf_46 (by decide +kernel) (by decide) ?_
  refine s_goto (tgt := 11) dX7_nextOf_49 (by decide) ?_
  exact H11
def Rounds_nextOf_b11 (h11 : ak_K) : ak_K := (k_il 5 (k_al 1 (k_gi 2 3 (k_cmge (k_ci (-1) k_ri) (k_il 2 (k_il 5 (k_cs 2 G_has (k_ifeq (Rounds_nextOf_b46 h11) (k_al 0 (k_al 1 (k_il 2 (k_il 3 (k_il 5 (k_cv 7 5 Rounds_stepsBy (k_il 4 (k_cmeq (k_il 5 k_ri) (Rounds_nextOf_b46 h11)))))))))))))))))
theorem S_Rounds_nextOf_b11 {h11 : ak_K} (H11 : ak_S cX7_nextOf RX7 6 1 3 69 (0, fun _ => 0) 11 h11) : ak_S cX7_nextOf RX7 6 1 3 69 (0, fun _ => 0) 11 (Rounds_nextOf_b11 h11) := by
  unfold Rounds_nextOf_b11
  refine s_iload dX7_nextOf_11 ?_
  refine s_aload_n dX7_nextOf_13 rfl ?_
  refine s_gi (C := RX2) (Tf := TX2) (N := 12) (i := 2) (j := 3) rfl (by decide) rfl (Or.inr ⟨_, wd_274⟩) dX7_nextOf_14 ?_
  refine s_cmge (tgt := 52) dX7_nextOf_17 (by decide) ?_ ?_
  · refine s_iconst (x := (-1)) dX7_nextOf_52 (by decide +kernel) ?_
    exact s_ri rfl dX7_nextOf_53
  · refine s_iload_n dX7_nextOf_20 rfl ?_
    refine s_iload dX7_nextOf_21 ?_
    refine s_cs M_G_has dX7_nextOf_23 ⟨by decide +kernel, by decide +kernel, by decide +kernel⟩ (by decide) wd_258 wd_10 (Or.inr ⟨_, wd_264⟩) ?_
    refine s_ifeq (tgt := 46) dX7_nextOf_26 (by decide) ?_ ?_
    · exact (S_Rounds_nextOf_b46 H11)
    · refine s_aload_n dX7_nextOf_29 rfl ?_
      refine s_aload_n dX7_nextOf_30 rfl ?_
      refine s_iload_n dX7_nextOf_31 rfl ?_
      refine s_iload_n dX7_nextOf_32 rfl ?_
      refine s_iload dX7_nextOf_33 ?_
      refine s_cv (C := RX7) (Tf := TX7) (N := 7) (i := 7) rfl M_Rounds_stepsBy dX7_nextOf_35 rfl ⟨by decide +kernel, by decide +kernel, by decide +kernel⟩ (by decide) wd_305 wd_306 wd_277 (Or.inl wd_304) ?_
      refine s_iload dX7_nextOf_38 ?_
      refine s_cmne (tgt := 46) dX7_nextOf_40 (by decide) ?_ ?_
      · refine s_iload dX7_nextOf_43 ?_
        exact s_ri rfl dX7_nextOf_45
      · exact (S_Rounds_nextOf_b46 H11)
def Rounds_nextOf_l11 : Nat → ak_K
  | 0 => k_no
  | n + 1 => Rounds_nextOf_b11 (Rounds_nextOf_l11 n)
theorem S_Rounds_nextOf_l11 : ∀ n : Nat, ak_S cX7_nextOf RX7 6 1 3 69 (0, fun _ => 0) 11 (Rounds_nextOf_l11 n)
  | 0 => s_no
  | n + 1 => S_Rounds_nextOf_b11 (S_Rounds_nextOf_l11 n)
def Rounds_nextOf_b0 : ak_K := (k_al 0 (k_il 2 (k_il 3 (k_cv 7 3 Rounds_leastFrom (k_is 4 (k_ci 0 (k_is 5 (Rounds_nextOf_l11 ak_fuel))))))))
theorem S_Rounds_nextOf_b0 : ak_S cX7_nextOf RX7 6 1 3 69 (0, fun _ => 0) 0 (Rounds_nextOf_b0) := by
  unfold Rounds_nextOf_b0
  refine s_aload_n dX7_nextOf_0 rfl ?_
  refine s_iload_n dX7_nextOf_1 rfl ?_
  refine s_iload_n dX7_nextOf_2 rfl ?_
  refine s_cv (C := RX7) (Tf := TX7) (N := 7) (i := 7) rfl M_Rounds_leastFrom dX7_nextOf_3 rfl ⟨by decide +kernel, by decide +kernel, by decide +kernel⟩ (by decide) wd_296 wd_297 wd_277 (Or.inl wd_295) ?_
  refine s_istore dX7_nextOf_6 (by decide) ?_
  refine s_iconst (x := 0) dX7_nextOf_8 (by decide +kernel) ?_
  refine s_istore dX7_nextOf_9 (by decide) ?_
  exact (S_Rounds_nextOf_l11 ak_fuel)
def Rounds_nextOf (As : List Value) (M : ak_M) : ak_R := match As with
  | [.ref a, .ref x0, .int x1, .int x2] => Rounds_nextOf_b0 [some (.ref a), some (.ref x0), some (.int x1), some (.int x2), none, none] [] M
  | _ => none
theorem M_Rounds_nextOf : ak_Mt yX7_nextOf cX7_nextOf 6 (some .int) 3 69 Rounds_nextOf := by
  refine ak_met (rk := 1) wd_330 (by decide +kernel) rfl (Or.inr (Or.inl ⟨rfl, rfl⟩)) (fun h => absurd h (by decide)) S_Rounds_nextOf_b0 (fun As M r h => ?_)
  unfold Rounds_nextOf at h
  split at h
  next => exact ⟨Nat.le_of_ble_eq_true rfl, 2, h⟩
  next => cases h
-- GreetedMirrors$Rounds.mirrorAt(LGreetedMirrors$House;I)I
def Rounds_mirrorAt_b68 : ak_K := (k_ci (-1) k_ri)
theorem S_Rounds_mirrorAt_b68 : ak_S cX7_mirrorAt RX7 7 1 4 94 (0, fun _ => 0) 68 (Rounds_mirrorAt_b68) := by
  unfold Rounds_mirrorAt_b68
  refine s_iconst (x := (-1)) dX7_mirrorAt_68 (by decide +kernel) ?_
  exact s_ri rfl dX7_mirrorAt_69
def Rounds_mirrorAt_b47 : ak_K := (k_il 6 k_ri)
theorem S_Rounds_mirrorAt_b47 : ak_S cX7_mirrorAt RX7 7 1 4 94 (0, fun _ => 0) 47 (Rounds_mirrorAt_b47) := by
  unfold Rounds_mirrorAt_b47
  refine s_iload dX7_mirrorAt_47 ?_
  exact s_ri rfl dX7_mirrorAt_49
def Rounds_mirrorAt_b60 (h12 : ak_K) : ak_K := (k_is 4 (k_ii 5 1 h12))
theorem S_Rounds_mirrorAt_b60 {h12 : ak_K} (H12 : ak_S cX7_mirrorAt RX7 7 1 4 94 (0, fun _ => 0) 12 h12) : ak_S cX7_mirrorAt RX7 7 1 4 94 (0, fun _ => 0) 60 (Rounds_mirrorAt_b60 h12) := by
  unfold Rounds_mirrorAt_b60
  refine s_istore dX7_mirrorAt_60 (by decide) ?_
  refine s_iinc (y := 1) dX7_mirrorAt_62 (by decide +kernel) (by decide) ?_
  refine s_goto (tgt := 12) dX7_mirrorAt_65 (by decide) ?_
  exact H12
def Rounds_mirrorAt_b12 (h12 : ak_K) : ak_K := (k_il 5 (k_al 1 (k_gi 2 3 (k_cmge Rounds_mirrorAt_b68 (k_il 3 (k_ifeq Rounds_mirrorAt_b68 (k_al 0 (k_al 1 (k_il 3 (k_il 4 (k_cv 7 4 Rounds_nextOf (k_is 6 (k_il 5 (k_il 2 (k_cmeq Rounds_mirrorAt_b47 (k_il 6 (k_ci (-1) (k_cmeq Rounds_mirrorAt_b47 (k_il 3 (k_il 6 (k_ci 0 (k_cs 3 G_with (k_is 3 (k_il 6 (Rounds_mirrorAt_b60 h12)))))))))))))))))))))))))
theorem S_Rounds_mirrorAt_b12 {h12 : ak_K} (H12 : ak_S cX7_mirrorAt RX7 7 1 4 94 (0, fun _ => 0) 12 h12) : ak_S cX7_mirrorAt RX7 7 1 4 94 (0, fun _ => 0) 12 (Rounds_mirrorAt_b12 h12) := by
  unfold Rounds_mirrorAt_b12
  refine s_iload dX7_mirrorAt_12 ?_
  refine s_aload_n dX7_mirrorAt_14 rfl ?_
  refine s_gi (C := RX2) (Tf := TX2) (N := 12) (i := 2) (j := 3) rfl (by decide) rfl (Or.inr ⟨_, wd_274⟩) dX7_mirrorAt_15 ?_
  refine s_cmge (tgt := 68) dX7_mirrorAt_18 (by decide) ?_ ?_
  · exact S_Rounds_mirrorAt_b68
  · refine s_iload_n dX7_mirrorAt_21 rfl ?_
    refine s_ifeq (tgt := 68) dX7_mirrorAt_22 (by decide) ?_ ?_
    · exact S_Rounds_mirrorAt_b68
    · refine s_aload_n dX7_mirrorAt_25 rfl ?_
      refine s_aload_n dX7_mirrorAt_26 rfl ?_
      refine s_iload_n dX7_mirrorAt_27 rfl ?_
      refine s_iload dX7_mirrorAt_28 ?_
      refine s_cv (C := RX7) (Tf := TX7) (N := 7) (i := 7) rfl M_Rounds_nextOf dX7_mirrorAt_30 rfl ⟨by decide +kernel, by decide +kernel, by decide +kernel⟩ (by decide) wd_332 wd_333 wd_277 (Or.inl wd_331) ?_
      refine s_istore dX7_mirrorAt_33 (by decide) ?_
      refine s_iload dX7_mirrorAt_35 ?_
      refine s_iload_n dX7_mirrorAt_37 rfl ?_
      refine s_cmeq (tgt := 47) dX7_mirrorAt_38 (by decide) ?_ ?_
      · exact S_Rounds_mirrorAt_b47
      · refine s_iload dX7_mirrorAt_41 ?_
        refine s_iconst (x := (-1)) dX7_mirrorAt_43 (by decide +kernel) ?_
        refine s_cmne (tgt := 50) dX7_mirrorAt_44 (by decide) ?_ ?_
        · exact S_Rounds_mirrorAt_b47
        · refine s_iload_n dX7_mirrorAt_50 rfl ?_
          refine s_iload dX7_mirrorAt_51 ?_
          refine s_iconst (x := 0) dX7_mirrorAt_53 (by decide +kernel) ?_
          refine s_cs M_G_with dX7_mirrorAt_54 ⟨by decide +kernel, by decide +kernel, by decide +kernel⟩ (by decide) wd_52 wd_10 (Or.inr ⟨_, wd_270⟩) ?_
          refine s_istore_n dX7_mirrorAt_57 rfl (by decide) ?_
          refine s_iload dX7_mirrorAt_58 ?_
          exact (S_Rounds_mirrorAt_b60 H12)
def Rounds_mirrorAt_l12 : Nat → ak_K
  | 0 => k_no
  | n + 1 => Rounds_mirrorAt_b12 (Rounds_mirrorAt_l12 n)
theorem S_Rounds_mirrorAt_l12 : ∀ n : Nat, ak_S cX7_mirrorAt RX7 7 1 4 94 (0, fun _ => 0) 12 (Rounds_mirrorAt_l12 n)
  | 0 => s_no
  | n + 1 => S_Rounds_mirrorAt_b12 (S_Rounds_mirrorAt_l12 n)
def Rounds_mirrorAt_b0 : ak_K := (k_al 0 (k_gi 7 5 (k_is 3 (k_ci 7 (k_is 4 (k_ci 0 (k_is 5 (Rounds_mirrorAt_l12 ak_fuel))))))))
theorem S_Rounds_mirrorAt_b0 : ak_S cX7_mirrorAt RX7 7 1 4 94 (0, fun _ => 0) 0 (Rounds_mirrorAt_b0) := by
  unfold Rounds_mirrorAt_b0
  refine s_aload_n dX7_mirrorAt_0 rfl ?_
  refine s_gi (C := RX7) (Tf := TX7) (N := 7) (i := 7) (j := 5) rfl (by decide) rfl (Or.inl wd_291) dX7_mirrorAt_1 ?_
  refine s_istore_n dX7_mirrorAt_4 rfl (by decide) ?_
  refine s_bipush (x := 7) dX7_mirrorAt_5 (by decide +kernel) ?_
  refine s_istore dX7_mirrorAt_7 (by decide) ?_
  refine s_iconst (x := 0) dX7_mirrorAt_9 (by decide +kernel) ?_
  refine s_istore dX7_mirrorAt_10 (by decide) ?_
  exact (S_Rounds_mirrorAt_l12 ak_fuel)
def Rounds_mirrorAt (As : List Value) (M : ak_M) : ak_R := match As with
  | [.ref a, .ref x0, .int x1] => Rounds_mirrorAt_b0 [some (.ref a), some (.ref x0), some (.int x1), none, none, none, none] [] M
  | _ => none
theorem M_Rounds_mirrorAt : ak_Mt yX7_mirrorAt cX7_mirrorAt 7 (some .int) 4 94 Rounds_mirrorAt := by
  refine ak_met (rk := 1) wd_334 (by decide +kernel) rfl (Or.inr (Or.inl ⟨rfl, rfl⟩)) (fun h => absurd h (by decide)) S_Rounds_mirrorAt_b0 (fun As M r h => ?_)
  unfold Rounds_mirrorAt at h
  split at h
  next => exact ⟨Nat.le_of_ble_eq_true rfl, 4, h⟩
  next => cases h
-- GreetedMirrors$State.startIn(LGreetedMirrors$House;)V
def State_startIn_b40 : ak_K := (k_pi 8 7 (k_al 1 (k_gp 2 8 (k_al 0 (k_gp 8 8 (k_cs 2 G_copy (k_al 0 (k_gp 8 9 (k_ci (-1) (k_cs 2 G_fill (k_al 0 (k_gp 8 10 (k_ci 0 (k_cs 2 G_fill (k_al 1 (k_gp 2 11 (k_al 0 (k_gp 8 11 (k_cs 2 G_copy k_rv)))))))))))))))))))
theorem S_State_startIn_b40 : ak_S cX8_startIn RX8 2 0 1 22 (0, fun _ => 0) 40 (State_startIn_b40) := by
  unfold State_startIn_b40
  refine s_pi (C := RX8) (Tf := TX8) (N := 12) (i := 8) (j := 7) rfl (by decide) rfl (Or.inl ⟨wd_123, Or.inl rfl⟩) dX8_startIn_40 ?_
  refine s_aload_n dX8_startIn_43 rfl ?_
  refine s_gp (C := RX2) (Tf := TX2) (N := 12) (i := 2) (j := 8) rfl (by decide) rfl (Or.inr ⟨_, wd_335⟩) dX8_startIn_44 ?_
  refine s_aload_n dX8_startIn_47 rfl ?_
  refine s_gp (C := RX8) (Tf := TX8) (N := 12) (i := 8) (j := 8) rfl (by decide) rfl (Or.inl wd_66) dX8_startIn_48 ?_
  refine s_cs M_G_copy dX8_startIn_51 ⟨by decide +kernel, by decide +kernel, by decide +kernel⟩ (by decide) wd_121 wd_10 (Or.inr ⟨_, wd_120⟩) ?_
  refine s_aload_n dX8_startIn_54 rfl ?_
  refine s_gp (C := RX8) (Tf := TX8) (N := 12) (i := 8) (j := 9) rfl (by decide) rfl (Or.inl wd_67) dX8_startIn_55 ?_
  refine s_iconst (x := (-1)) dX8_startIn_58 (by decide +kernel) ?_
  refine s_cs M_G_fill dX8_startIn_59 ⟨by decide +kernel, by decide +kernel, by decide +kernel⟩ (by decide) wd_42 wd_10 (Or.inr ⟨_, wd_336⟩) ?_
  refine s_aload_n dX8_startIn_62 rfl ?_
  refine s_gp (C := RX8) (Tf := TX8) (N := 12) (i := 8) (j := 10) rfl (by decide) rfl (Or.inl wd_68) dX8_startIn_63 ?_
  refine s_iconst (x := 0) dX8_startIn_66 (by decide +kernel) ?_
  refine s_cs M_G_fill dX8_startIn_67 ⟨by decide +kernel, by decide +kernel, by decide +kernel⟩ (by decide) wd_42 wd_10 (Or.inr ⟨_, wd_336⟩) ?_
  refine s_aload_n dX8_startIn_70 rfl ?_
  refine s_gp (C := RX2) (Tf := TX2) (N := 12) (i := 2) (j := 11) rfl (by decide) rfl (Or.inr ⟨_, wd_337⟩) dX8_startIn_71 ?_
  refine s_aload_n dX8_startIn_74 rfl ?_
  refine s_gp (C := RX8) (Tf := TX8) (N := 12) (i := 8) (j := 11) rfl (by decide) rfl (Or.inl wd_69) dX8_startIn_75 ?_
  refine s_cs M_G_copy dX8_startIn_78 ⟨by decide +kernel, by decide +kernel, by decide +kernel⟩ (by decide) wd_121 wd_10 (Or.inr ⟨_, wd_120⟩) ?_
  exact s_rv (Or.inl rfl) dX8_startIn_81
def State_startIn_b0 : ak_K := (k_al 0 (k_ci 0 (k_pi 8 0 (k_al 0 (k_al 1 (k_gi 2 1 (k_pi 8 1 (k_al 0 (k_ci 0 (k_pi 8 2 (k_al 0 (k_ci 0 (k_pi 8 3 (k_al 0 (k_ci 0 (k_pi 8 4 (k_al 0 (k_ci 0 (k_pi 8 5 (k_al 0 (k_ci 0 (k_pi 8 6 (k_al 0 (k_ci 0 State_startIn_b40))))))))))))))))))))))))
theorem S_State_startIn_b0 : ak_S cX8_startIn RX8 2 0 1 22 (0, fun _ => 0) 0 (State_startIn_b0) := by
  unfold State_startIn_b0
  refine s_aload_n dX8_startIn_0 rfl ?_
  refine s_iconst (x := 0) dX8_startIn_1 (by decide +kernel) ?_
  refine s_pi (C := RX8) (Tf := TX8) (N := 12) (i := 8) (j := 0) rfl (by decide) rfl (Or.inl ⟨wd_124, Or.inl rfl⟩) dX8_startIn_2 ?_
  refine s_aload_n dX8_startIn_5 rfl ?_
  refine s_aload_n dX8_startIn_6 rfl ?_
  refine s_gi (C := RX2) (Tf := TX2) (N := 12) (i := 2) (j := 1) rfl (by decide) rfl (Or.inr ⟨_, wd_338⟩) dX8_startIn_7 ?_
  refine s_pi (C := RX8) (Tf := TX8) (N := 12) (i := 8) (j := 1) rfl (by decide) rfl (Or.inl ⟨wd_125, Or.inl rfl⟩) dX8_startIn_10 ?_
  refine s_aload_n dX8_startIn_13 rfl ?_
  refine s_iconst (x := 0) dX8_startIn_14 (by decide +kernel) ?_
  refine s_pi (C := RX8) (Tf := TX8) (N := 12) (i := 8) (j := 2) rfl (by decide) rfl (Or.inl ⟨wd_126, Or.inl rfl⟩) dX8_startIn_15 ?_
  refine s_aload_n dX8_startIn_18 rfl ?_
  refine s_iconst (x := 0) dX8_startIn_19 (by decide +kernel) ?_
  refine s_pi (C := RX8) (Tf := TX8) (N := 12) (i := 8) (j := 3) rfl (by decide) rfl (Or.inl ⟨wd_127, Or.inl rfl⟩) dX8_startIn_20 ?_
  refine s_aload_n dX8_startIn_23 rfl ?_
  refine s_iconst (x := 0) dX8_startIn_24 (by decide +kernel) ?_
  refine s_pi (C := RX8) (Tf := TX8) (N := 12) (i := 8) (j := 4) rfl (by decide) rfl (Or.inl ⟨wd_128, Or.inl rfl⟩) dX8_startIn_25 ?_
  refine s_aload_n dX8_startIn_28 rfl ?_
  refine s_iconst (x := 0) dX8_startIn_29 (by decide +kernel) ?_
  refine s_pi (C := RX8) (Tf := TX8) (N := 12) (i := 8) (j := 5) rfl (by decide) rfl (Or.inl ⟨wd_129, Or.inl rfl⟩) dX8_startIn_30 ?_
  refine s_aload_n dX8_startIn_33 rfl ?_
  refine s_iconst (x := 0) dX8_startIn_34 (by decide +kernel) ?_
  refine s_pi (C := RX8) (Tf := TX8) (N := 12) (i := 8) (j := 6) rfl (by decide) rfl (Or.inl ⟨wd_122, Or.inl rfl⟩) dX8_startIn_35 ?_
  refine s_aload_n dX8_startIn_38 rfl ?_
  refine s_iconst (x := 0) dX8_startIn_39 (by decide +kernel) ?_
  exact S_State_startIn_b40
def State_startIn (As : List Value) (M : ak_M) : ak_R := match As with
  | [.ref a, .ref x0] => State_startIn_b0 [some (.ref a), some (.ref x0)] [] M
  | _ => none
theorem M_State_startIn : ak_Mt yX8_startIn cX8_startIn 2 none 1 22 State_startIn := by
  refine ak_met (rk := 0) wd_339 (by decide +kernel) rfl (Or.inl ⟨Or.inl rfl, rfl⟩) (fun h => absurd h (by decide)) S_State_startIn_b0 (fun As M r h => ?_)
  unfold State_startIn at h
  split at h
  next => exact ⟨Nat.le_of_ble_eq_true rfl, 0, h⟩
  next => cases h
-- GreetedMirrors$State.endCount(I)V
def State_endCount_b0 : ak_K := (k_al 0 (k_gp 8 9 (k_il 1 (k_ci (-1) (k_cs 3 G_put (k_al 0 (k_gp 8 10 (k_il 1 (k_ci 0 (k_cs 3 G_put k_rv))))))))))
theorem S_State_endCount_b0 : ak_S cX8_endCount RX8 2 0 1 22 (0, fun _ => 0) 0 (State_endCount_b0) := by
  unfold State_endCount_b0
  refine s_aload_n dX8_endCount_0 rfl ?_
  refine s_gp (C := RX8) (Tf := TX8) (N := 12) (i := 8) (j := 9) rfl (by decide) rfl (Or.inl wd_67) dX8_endCount_1 ?_
  refine s_iload_n dX8_endCount_4 rfl ?_
  refine s_iconst (x := (-1)) dX8_endCount_5 (by decide +kernel) ?_
  refine s_cs M_G_put dX8_endCount_6 ⟨by decide +kernel, by decide +kernel, by decide +kernel⟩ (by decide) wd_11 wd_10 (Or.inr ⟨_, wd_340⟩) ?_
  refine s_aload_n dX8_endCount_9 rfl ?_
  refine s_gp (C := RX8) (Tf := TX8) (N := 12) (i := 8) (j := 10) rfl (by decide) rfl (Or.inl wd_68) dX8_endCount_10 ?_
  refine s_iload_n dX8_endCount_13 rfl ?_
  refine s_iconst (x := 0) dX8_endCount_14 (by decide +kernel) ?_
  refine s_cs M_G_put dX8_endCount_15 ⟨by decide +kernel, by decide +kernel, by decide +kernel⟩ (by decide) wd_11 wd_10 (Or.inr ⟨_, wd_340⟩) ?_
  exact s_rv (Or.inl rfl) dX8_endCount_18
def State_endCount (As : List Value) (M : ak_M) : ak_R := match As with
  | [.ref a, .int x0] => State_endCount_b0 [some (.ref a), some (.int x0)] [] M
  | _ => none
theorem M_State_endCount : ak_Mt yX8_endCount cX8_endCount 2 none 1 22 State_endCount := by
  refine ak_met (rk := 0) wd_341 (by decide +kernel) rfl (Or.inl ⟨Or.inl rfl, rfl⟩) (fun h => absurd h (by decide)) S_State_endCount_b0 (fun As M r h => ?_)
  unfold State_endCount at h
  split at h
  next => exact ⟨Nat.le_of_ble_eq_true rfl, 0, h⟩
  next => cases h
-- GreetedMirrors$State.countOther(II)V
def State_countOther_b67 : ak_K := k_rv
theorem S_State_countOther_b67 : ak_S cX8_countOther RX8 4 0 2 43 (0, fun _ => 0) 67 (State_countOther_b67) := by
  unfold State_countOther_b67
  exact s_rv (Or.inl rfl) dX8_countOther_67
def State_countOther_b26 : ak_K := (k_is 3 (k_il 3 (k_ci 3 (k_cmeq (k_al 0 (k_gp 8 8 (k_il 1 (k_il 2 (k_cs 3 G_put (k_al 0 (k_il 1 (k_cv 8 2 State_endCount State_countOther_b67)))))))) (k_al 0 (k_gp 8 9 (k_il 1 (k_il 2 (k_cs 3 G_put (k_al 0 (k_gp 8 10 (k_il 1 (k_il 3 (k_cs 3 G_put State_countOther_b67))))))))))))))
theorem S_State_countOther_b26 : ak_S cX8_countOther RX8 4 0 2 43 (0, fun _ => 0) 26 (State_countOther_b26) := by
  unfold State_countOther_b26
  refine s_istore_n dX8_countOther_26 rfl (by decide) ?_
  refine s_iload_n dX8_countOther_27 rfl ?_
  refine s_iconst (x := 3) dX8_countOther_28 (by decide +kernel) ?_
  refine s_cmne (tgt := 49) dX8_countOther_29 (by decide) ?_ ?_
  · refine s_aload_n dX8_countOther_32 rfl ?_
    refine s_gp (C := RX8) (Tf := TX8) (N := 12) (i := 8) (j := 8) rfl (by decide) rfl (Or.inl wd_66) dX8_countOther_33 ?_
    refine s_iload_n dX8_countOther_36 rfl ?_
    refine s_iload_n dX8_countOther_37 rfl ?_
    refine s_cs M_G_put dX8_countOther_38 ⟨by decide +kernel, by decide +kernel, by decide +kernel⟩ (by decide) wd_11 wd_10 (Or.inr ⟨_, wd_340⟩) ?_
    refine s_aload_n dX8_countOther_41 rfl ?_
    refine s_iload_n dX8_countOther_42 rfl ?_
    refine s_cv (C := RX8) (Tf := TX8) (N := 12) (i := 8) rfl M_State_endCount dX8_countOther_43 rfl ⟨by decide +kernel, by decide +kernel, by decide +kernel⟩ (by decide) wd_343 wd_344 wd_74 (Or.inl wd_342) ?_
    refine s_goto (tgt := 67) dX8_countOther_46 (by decide) ?_
    exact S_State_countOther_b67
  · refine s_aload_n dX8_countOther_49 rfl ?_
    refine s_gp (C := RX8) (Tf := TX8) (N := 12) (i := 8) (j := 9) rfl (by decide) rfl (Or.inl wd_67) dX8_countOther_50 ?_
    refine s_iload_n dX8_countOther_53 rfl ?_
    refine s_iload_n dX8_countOther_54 rfl ?_
    refine s_cs M_G_put dX8_countOther_55 ⟨by decide +kernel, by decide +kernel, by decide +kernel⟩ (by decide) wd_11 wd_10 (Or.inr ⟨_, wd_340⟩) ?_
    refine s_aload_n dX8_countOther_58 rfl ?_
    refine s_gp (C := RX8) (Tf := TX8) (N := 12) (i := 8) (j := 10) rfl (by decide) rfl (Or.inl wd_68) dX8_countOther_59 ?_
    refine s_iload_n dX8_countOther_62 rfl ?_
    refine s_iload_n dX8_countOther_63 rfl ?_
    refine s_cs M_G_put dX8_countOther_64 ⟨by decide +kernel, by decide +kernel, by decide +kernel⟩ (by decide) wd_11 wd_10 (Or.inr ⟨_, wd_340⟩) ?_
    exact S_State_countOther_b67
def State_countOther_b0 : ak_K := (k_al 0 (k_gp 8 9 (k_il 1 (k_cs 2 G_at (k_il 2 (k_cmeq (k_al 0 (k_gp 8 10 (k_il 1 (k_cs 2 G_at (k_ci 1 (k_b (fun x y => x + y) State_countOther_b26)))))) (k_ci 1 State_countOther_b26)))))))
theorem S_State_countOther_b0 : ak_S cX8_countOther RX8 4 0 2 43 (0, fun _ => 0) 0 (State_countOther_b0) := by
  unfold State_countOther_b0
  refine s_aload_n dX8_countOther_0 rfl ?_
  refine s_gp (C := RX8) (Tf := TX8) (N := 12) (i := 8) (j := 9) rfl (by decide) rfl (Or.inl wd_67) dX8_countOther_1 ?_
  refine s_iload_n dX8_countOther_4 rfl ?_
  refine s_cs M_G_at dX8_countOther_5 ⟨by decide +kernel, by decide +kernel, by decide +kernel⟩ (by decide) wd_16 wd_10 (Or.inr ⟨_, wd_260⟩) ?_
  refine s_iload_n dX8_countOther_8 rfl ?_
  refine s_cmne (tgt := 25) dX8_countOther_9 (by decide) ?_ ?_
  · refine s_aload_n dX8_countOther_12 rfl ?_
    refine s_gp (C := RX8) (Tf := TX8) (N := 12) (i := 8) (j := 10) rfl (by decide) rfl (Or.inl wd_68) dX8_countOther_13 ?_
    refine s_iload_n dX8_countOther_16 rfl ?_
    refine s_cs M_G_at dX8_countOther_17 ⟨by decide +kernel, by decide +kernel, by decide +kernel⟩ (by decide) wd_16 wd_10 (Or.inr ⟨_, wd_260⟩) ?_
    refine s_iconst (x := 1) dX8_countOther_20 (by decide +kernel) ?_
    refine s_iadd dX8_countOther_21 ?_
    refine s_goto (tgt := 26) dX8_countOther_22 (by decide) ?_
    exact S_State_countOther_b26
  · refine s_iconst (x := 1) dX8_countOther_25 (by decide +kernel) ?_
    exact S_State_countOther_b26
def State_countOther (As : List Value) (M : ak_M) : ak_R := match As with
  | [.ref a, .int x0, .int x1] => State_countOther_b0 [some (.ref a), some (.int x0), some (.int x1), none] [] M
  | _ => none
theorem M_State_countOther : ak_Mt yX8_countOther cX8_countOther 4 none 2 43 State_countOther := by
  refine ak_met (rk := 0) wd_345 (by decide +kernel) rfl (Or.inl ⟨Or.inl rfl, rfl⟩) (fun h => absurd h (by decide)) S_State_countOther_b0 (fun As M r h => ?_)
  unfold State_countOther at h
  split at h
  next => exact ⟨Nat.le_of_ble_eq_true rfl, 1, h⟩
  next => cases h
-- GreetedMirrors$State.hear(LGreetedMirrors$House;II)Z
def State_hear_b47 : ak_K := (k_ci 0 k_rz)
theorem S_State_hear_b47 : ak_S cX8_hear RX8 5 2 3 66 (0, fun _ => 0) 47 (State_hear_b47) := by
  unfold State_hear_b47
  refine s_iconst (x := 0) dX8_hear_47 (by decide +kernel) ?_
  exact s_rz rfl dX8_hear_48
def State_hear_b107 : ak_K := (k_al 0 (k_al 0 (k_gi 8 2 (k_il 2 (k_ci 1 (k_cs 3 G_with (k_pi 8 2 (k_ci 1 k_rz))))))))
theorem S_State_hear_b107 : ak_S cX8_hear RX8 5 2 3 66 (0, fun _ => 0) 107 (State_hear_b107) := by
  unfold State_hear_b107
  refine s_aload_n dX8_hear_107 rfl ?_
  refine s_aload_n dX8_hear_108 rfl ?_
  refine s_gi (C := RX8) (Tf := TX8) (N := 12) (i := 8) (j := 2) rfl (by decide) rfl (Or.inl wd_126) dX8_hear_109 ?_
  refine s_iload_n dX8_hear_112 rfl ?_
  refine s_iconst (x := 1) dX8_hear_113 (by decide +kernel) ?_
  refine s_cs M_G_with dX8_hear_114 ⟨by decide +kernel, by decide +kernel, by decide +kernel⟩ (by decide) wd_52 wd_10 (Or.inr ⟨_, wd_255⟩) ?_
  refine s_pi (C := RX8) (Tf := TX8) (N := 12) (i := 8) (j := 2) rfl (by decide) rfl (Or.inl ⟨wd_126, Or.inl rfl⟩) dX8_hear_117 ?_
  refine s_iconst (x := 1) dX8_hear_120 (by decide +kernel) ?_
  exact s_rz rfl dX8_hear_121
def State_hear_b58 : ak_K := (k_ci (-1) (k_cmeq State_hear_b107 (k_al 0 (k_gi 8 2 (k_il 4 (k_cs 2 G_has (k_ifeq (k_al 0 (k_gi 8 3 (k_il 4 (k_cs 2 G_has (k_ifeq (k_al 0 (k_al 0 (k_gi 8 3 (k_il 2 (k_ci 1 (k_cs 3 G_with (k_il 4 (k_ci 1 (k_cs 3 G_with (k_pi 8 3 (k_ci 0 k_rz))))))))))) State_hear_b107))))) State_hear_b107)))))))
theorem S_State_hear_b58 : ak_S cX8_hear RX8 5 2 3 66 (0, fun _ => 0) 58 (State_hear_b58) := by
  unfold State_hear_b58
  refine s_iconst (x := (-1)) dX8_hear_58 (by decide +kernel) ?_
  refine s_cmeq (tgt := 107) dX8_hear_59 (by decide) ?_ ?_
  · exact S_State_hear_b107
  · refine s_aload_n dX8_hear_62 rfl ?_
    refine s_gi (C := RX8) (Tf := TX8) (N := 12) (i := 8) (j := 2) rfl (by decide) rfl (Or.inl wd_126) dX8_hear_63 ?_
    refine s_iload dX8_hear_66 ?_
    refine s_cs M_G_has dX8_hear_68 ⟨by decide +kernel, by decide +kernel, by decide +kernel⟩ (by decide) wd_258 wd_10 (Or.inr ⟨_, wd_257⟩) ?_
    refine s_ifne (tgt := 107) dX8_hear_71 (by decide) ?_ ?_
    · refine s_aload_n dX8_hear_74 rfl ?_
      refine s_gi (C := RX8) (Tf := TX8) (N := 12) (i := 8) (j := 3) rfl (by decide) rfl (Or.inl wd_127) dX8_hear_75 ?_
      refine s_iload dX8_hear_78 ?_
      refine s_cs M_G_has dX8_hear_80 ⟨by decide +kernel, by decide +kernel, by decide +kernel⟩ (by decide) wd_258 wd_10 (Or.inr ⟨_, wd_257⟩) ?_
      refine s_ifne (tgt := 107) dX8_hear_83 (by decide) ?_ ?_
      · refine s_aload_n dX8_hear_86 rfl ?_
        refine s_aload_n dX8_hear_87 rfl ?_
        refine s_gi (C := RX8) (Tf := TX8) (N := 12) (i := 8) (j := 3) rfl (by decide) rfl (Or.inl wd_127) dX8_hear_88 ?_
        refine s_iload_n dX8_hear_91 rfl ?_
        refine s_iconst (x := 1) dX8_hear_92 (by decide +kernel) ?_
        refine s_cs M_G_with dX8_hear_93 ⟨by decide +kernel, by decide +kernel, by decide +kernel⟩ (by decide) wd_52 wd_10 (Or.inr ⟨_, wd_255⟩) ?_
        refine s_iload dX8_hear_96 ?_
        refine s_iconst (x := 1) dX8_hear_98 (by decide +kernel) ?_
        refine s_cs M_G_with dX8_hear_99 ⟨by decide +kernel, by decide +kernel, by decide +kernel⟩ (by decide) wd_52 wd_10 (Or.inr ⟨_, wd_255⟩) ?_
        refine s_pi (C := RX8) (Tf := TX8) (N := 12) (i := 8) (j := 3) rfl (by decide) rfl (Or.inl ⟨wd_127, Or.inl rfl⟩) dX8_hear_102 ?_
        refine s_iconst (x := 0) dX8_hear_105 (by decide +kernel) ?_
        exact s_rz rfl dX8_hear_106
      · exact S_State_hear_b107
    · exact S_State_hear_b107
def State_hear_b0 : ak_K := (k_il 3 (k_al 0 (k_gp 8 8 (k_il 2 (k_cs 2 G_at (k_cmeq (k_al 0 (k_il 2 (k_cv 8 2 State_endCount (k_al 0 (k_gi 8 2 (k_il 2 (k_cs 2 G_has (k_ifeq (k_al 0 (k_gi 8 3 (k_il 2 (k_cs 2 G_has (k_ifeq (k_al 1 (k_il 2 (k_cv 2 2 House_hungAhead (k_is 4 (k_il 4 State_hear_b58))))) State_hear_b47))))) State_hear_b47)))))))) (k_al 0 (k_il 2 (k_il 3 (k_cv 8 3 State_countOther (k_ci 0 k_rz)))))))))))
theorem S_State_hear_b0 : ak_S cX8_hear RX8 5 2 3 66 (0, fun _ => 0) 0 (State_hear_b0) := by
  unfold State_hear_b0
  refine s_iload_n dX8_hear_0 rfl ?_
  refine s_aload_n dX8_hear_1 rfl ?_
  refine s_gp (C := RX8) (Tf := TX8) (N := 12) (i := 8) (j := 8) rfl (by decide) rfl (Or.inl wd_66) dX8_hear_2 ?_
  refine s_iload_n dX8_hear_5 rfl ?_
  refine s_cs M_G_at dX8_hear_6 ⟨by decide +kernel, by decide +kernel, by decide +kernel⟩ (by decide) wd_16 wd_10 (Or.inr ⟨_, wd_260⟩) ?_
  refine s_cmeq (tgt := 20) dX8_hear_9 (by decide) ?_ ?_
  · refine s_aload_n dX8_hear_20 rfl ?_
    refine s_iload_n dX8_hear_21 rfl ?_
    refine s_cv (C := RX8) (Tf := TX8) (N := 12) (i := 8) rfl M_State_endCount dX8_hear_22 rfl ⟨by decide +kernel, by decide +kernel, by decide +kernel⟩ (by decide) wd_343 wd_344 wd_74 (Or.inl wd_342) ?_
    refine s_aload_n dX8_hear_25 rfl ?_
    refine s_gi (C := RX8) (Tf := TX8) (N := 12) (i := 8) (j := 2) rfl (by decide) rfl (Or.inl wd_126) dX8_hear_26 ?_
    refine s_iload_n dX8_hear_29 rfl ?_
    refine s_cs M_G_has dX8_hear_30 ⟨by decide +kernel, by decide +kernel, by decide +kernel⟩ (by decide) wd_258 wd_10 (Or.inr ⟨_, wd_257⟩) ?_
    refine s_ifne (tgt := 47) dX8_hear_33 (by decide) ?_ ?_
    · refine s_aload_n dX8_hear_36 rfl ?_
      refine s_gi (C := RX8) (Tf := TX8) (N := 12) (i := 8) (j := 3) rfl (by decide) rfl (Or.inl wd_127) dX8_hear_37 ?_
      refine s_iload_n dX8_hear_40 rfl ?_
      refine s_cs M_G_has dX8_hear_41 ⟨by decide +kernel, by decide +kernel, by decide +kernel⟩ (by decide) wd_258 wd_10 (Or.inr ⟨_, wd_257⟩) ?_
      refine s_ifeq (tgt := 49) dX8_hear_44 (by decide) ?_ ?_
      · refine s_aload_n dX8_hear_49 rfl ?_
        refine s_iload_n dX8_hear_50 rfl ?_
        refine s_cv (C := RX2) (Tf := TX2) (N := 12) (i := 2) rfl M_House_hungAhead dX8_hear_51 rfl ⟨by decide +kernel, by decide +kernel, by decide +kernel⟩ (by decide) wd_300 wd_301 wd_194 (Or.inr ⟨_, wd_346⟩) ?_
        refine s_istore dX8_hear_54 (by decide) ?_
        refine s_iload dX8_hear_56 ?_
        exact S_State_hear_b58
      · exact S_State_hear_b47
    · exact S_State_hear_b47
  · refine s_aload_n dX8_hear_12 rfl ?_
    refine s_iload_n dX8_hear_13 rfl ?_
    refine s_iload_n dX8_hear_14 rfl ?_
    refine s_cv (C := RX8) (Tf := TX8) (N := 12) (i := 8) rfl M_State_countOther dX8_hear_15 rfl ⟨by decide +kernel, by decide +kernel, by decide +kernel⟩ (by decide) wd_348 wd_349 wd_74 (Or.inl wd_347) ?_
    refine s_iconst (x := 0) dX8_hear_18 (by decide +kernel) ?_
    exact s_rz rfl dX8_hear_19
def State_hear (As : List Value) (M : ak_M) : ak_R := match As with
  | [.ref a, .ref x0, .int x1, .int x2] => State_hear_b0 [some (.ref a), some (.ref x0), some (.int x1), some (.int x2), none] [] M
  | _ => none
theorem M_State_hear : ak_Mt yX8_hear cX8_hear 5 (some .boolean) 3 66 State_hear := by
  refine ak_met (rk := 2) wd_350 (by decide +kernel) rfl (Or.inr (Or.inr (Or.inl ⟨rfl, rfl⟩))) (fun h => absurd h (by decide)) S_State_hear_b0 (fun As M r h => ?_)
  unfold State_hear at h
  split at h
  next => exact ⟨Nat.le_of_ble_eq_true rfl, 1, h⟩
  next => cases h
-- GreetedMirrors$State.seenFrom(LGreetedMirrors$House;I)I
def State_seenFrom_b0 : ak_K := (k_al 0 (k_al 1 (k_il 2 (k_cv 8 3 State_openBeside (k_il 2 (k_ci 1 (k_cs 3 G_with k_ri)))))))
theorem S_State_seenFrom_b0 : ak_S cX8_seenFrom RX8 3 1 2 48 (0, fun _ => 0) 0 (State_seenFrom_b0) := by
  unfold State_seenFrom_b0
  refine s_aload_n dX8_seenFrom_0 rfl ?_
  refine s_aload_n dX8_seenFrom_1 rfl ?_
  refine s_iload_n dX8_seenFrom_2 rfl ?_
  refine s_cv (C := RX8) (Tf := TX8) (N := 12) (i := 8) rfl M_State_openBeside dX8_seenFrom_3 rfl ⟨by decide +kernel, by decide +kernel, by decide +kernel⟩ (by decide) wd_267 wd_268 wd_74 (Or.inl wd_351) ?_
  refine s_iload_n dX8_seenFrom_6 rfl ?_
  refine s_iconst (x := 1) dX8_seenFrom_7 (by decide +kernel) ?_
  refine s_cs M_G_with dX8_seenFrom_8 ⟨by decide +kernel, by decide +kernel, by decide +kernel⟩ (by decide) wd_52 wd_10 (Or.inr ⟨_, wd_255⟩) ?_
  exact s_ri rfl dX8_seenFrom_11
def State_seenFrom (As : List Value) (M : ak_M) : ak_R := match As with
  | [.ref a, .ref x0, .int x1] => State_seenFrom_b0 [some (.ref a), some (.ref x0), some (.int x1)] [] M
  | _ => none
theorem M_State_seenFrom : ak_Mt yX8_seenFrom cX8_seenFrom 3 (some .int) 2 48 State_seenFrom := by
  refine ak_met (rk := 1) wd_352 (by decide +kernel) rfl (Or.inr (Or.inl ⟨rfl, rfl⟩)) (fun h => absurd h (by decide)) S_State_seenFrom_b0 (fun As M r h => ?_)
  unfold State_seenFrom at h
  split at h
  next => exact ⟨Nat.le_of_ble_eq_true rfl, 0, h⟩
  next => cases h
-- GreetedMirrors$State.personsIn(LGreetedMirrors$House;I)I
def State_personsIn_b33 (h5 : ak_K) : ak_K := (k_ii 4 1 h5)
theorem S_State_personsIn_b33 {h5 : ak_K} (H5 : ak_S cX8_personsIn RX8 5 1 1 21 (0, fun _ => 0) 5 h5) : ak_S cX8_personsIn RX8 5 1 1 21 (0, fun _ => 0) 33 (State_personsIn_b33 h5) := by
  unfold State_personsIn_b33
  refine s_iinc (y := 1) dX8_personsIn_33 (by decide +kernel) (by decide) ?_
  refine s_goto (tgt := 5) dX8_personsIn_36 (by decide) ?_
  exact H5
def State_personsIn_b5 (h5 : ak_K) : ak_K := (k_il 4 (k_al 1 (k_gi 2 4 (k_cmge (k_il 3 k_ri) (k_il 2 (k_al 0 (k_gp 8 11 (k_il 4 (k_cs 2 G_at (k_cs 2 G_has (k_ifeq (State_personsIn_b33 h5) (k_ii 3 1 (State_personsIn_b33 h5)))))))))))))
theorem S_State_personsIn_b5 {h5 : ak_K} (H5 : ak_S cX8_personsIn RX8 5 1 1 21 (0, fun _ => 0) 5 h5) : ak_S cX8_personsIn RX8 5 1 1 21 (0, fun _ => 0) 5 (State_personsIn_b5 h5) := by
  unfold State_personsIn_b5
  refine s_iload dX8_personsIn_5 ?_
  refine s_aload_n dX8_personsIn_7 rfl ?_
  refine s_gi (C := RX2) (Tf := TX2) (N := 12) (i := 2) (j := 4) rfl (by decide) rfl (Or.inr ⟨_, wd_353⟩) dX8_personsIn_8 ?_
  refine s_cmge (tgt := 39) dX8_personsIn_11 (by decide) ?_ ?_
  · refine s_iload_n dX8_personsIn_39 rfl ?_
    exact s_ri rfl dX8_personsIn_40
  · refine s_iload_n dX8_personsIn_14 rfl ?_
    refine s_aload_n dX8_personsIn_15 rfl ?_
    refine s_gp (C := RX8) (Tf := TX8) (N := 12) (i := 8) (j := 11) rfl (by decide) rfl (Or.inl wd_69) dX8_personsIn_16 ?_
    refine s_iload dX8_personsIn_19 ?_
    refine s_cs M_G_at dX8_personsIn_21 ⟨by decide +kernel, by decide +kernel, by decide +kernel⟩ (by decide) wd_16 wd_10 (Or.inr ⟨_, wd_260⟩) ?_
    refine s_cs M_G_has dX8_personsIn_24 ⟨by decide +kernel, by decide +kernel, by decide +kernel⟩ (by decide) wd_258 wd_10 (Or.inr ⟨_, wd_257⟩) ?_
    refine s_ifeq (tgt := 33) dX8_personsIn_27 (by decide) ?_ ?_
    · exact (S_State_personsIn_b33 H5)
    · refine s_iinc (y := 1) dX8_personsIn_30 (by decide +kernel) (by decide) ?_
      exact (S_State_personsIn_b33 H5)
def State_personsIn_l5 : Nat → ak_K
  | 0 => k_no
  | n + 1 => State_personsIn_b5 (State_personsIn_l5 n)
theorem S_State_personsIn_l5 : ∀ n : Nat, ak_S cX8_personsIn RX8 5 1 1 21 (0, fun _ => 0) 5 (State_personsIn_l5 n)
  | 0 => s_no
  | n + 1 => S_State_personsIn_b5 (S_State_personsIn_l5 n)
def State_personsIn_b0 : ak_K := (k_ci 0 (k_is 3 (k_ci 0 (k_is 4 (State_personsIn_l5 ak_fuel)))))
theorem S_State_personsIn_b0 : ak_S cX8_personsIn RX8 5 1 1 21 (0, fun _ => 0) 0 (State_personsIn_b0) := by
  unfold State_personsIn_b0
  refine s_iconst (x := 0) dX8_personsIn_0 (by decide +kernel) ?_
  refine s_istore_n dX8_personsIn_1 rfl (by decide) ?_
  refine s_iconst (x := 0) dX8_personsIn_2 (by decide +kernel) ?_
  refine s_istore dX8_personsIn_3 (by decide) ?_
  exact (S_State_personsIn_l5 ak_fuel)
def State_personsIn (As : List Value) (M : ak_M) : ak_R := match As with
  | [.ref a, .ref x0, .int x1] => State_personsIn_b0 [some (.ref a), some (.ref x0), some (.int x1), none, none] [] M
  | _ => none
theorem M_State_personsIn : ak_Mt yX8_personsIn cX8_personsIn 5 (some .int) 1 21 State_personsIn := by
  refine ak_met (rk := 1) wd_354 (by decide +kernel) rfl (Or.inr (Or.inl ⟨rfl, rfl⟩)) (fun h => absurd h (by decide)) S_State_personsIn_b0 (fun As M r h => ?_)
  unfold State_personsIn at h
  split at h
  next => exact ⟨Nat.le_of_ble_eq_true rfl, 2, h⟩
  next => cases h
-- GreetedMirrors.<init>()V
def G_init_b104 : ak_K := (k_new 0 3 (k_dup (k_cn0 1 Book_init (k_pp 9 9 (k_al 0 (k_new 1 1 (k_dup (k_cn0 1 Draws_init (k_pp 9 10 k_rv)))))))))
theorem S_G_init_b104 : ak_S cX9_init RX9 1 5 3 61 (0, fun _ => 0) 104 (G_init_b104) := by
  unfold G_init_b104
  refine s_new (C := RX0) (Tf := TX0) (N := 3) (i := 0) rfl wd_355 wd_356 wd_357 dX9_init_104 ?_
  refine s_dup dX9_init_107 ?_
  refine s_cn0 M_Book_init dX9_init_108 rfl ⟨by decide +kernel, by decide +kernel, by decide +kernel⟩ (by decide) wd_359 wd_357 (Or.inr ⟨_, wd_358⟩) ?_
  refine s_pp (C := RX9) (Tf := TX9) (N := 11) (i := 9) (j := 9) rfl (by decide) rfl (Or.inl ⟨wd_360, Or.inr ⟨rfl, rfl, rfl⟩⟩) dX9_init_111 ?_
  refine s_aload_n dX9_init_114 rfl ?_
  refine s_new (C := RX1) (Tf := TX1) (N := 1) (i := 1) rfl wd_361 wd_362 wd_363 dX9_init_115 ?_
  refine s_dup dX9_init_118 ?_
  refine s_cn0 M_Draws_init dX9_init_119 rfl ⟨by decide +kernel, by decide +kernel, by decide +kernel⟩ (by decide) wd_365 wd_363 (Or.inr ⟨_, wd_364⟩) ?_
  refine s_pp (C := RX9) (Tf := TX9) (N := 11) (i := 9) (j := 10) rfl (by decide) rfl (Or.inl ⟨wd_366, Or.inr ⟨rfl, rfl, rfl⟩⟩) dX9_init_122 ?_
  exact s_rv (Or.inr rfl) dX9_init_125
def G_init_b52 : ak_K := (k_dup (k_cn0 1 Past_init (k_pp 9 4 (k_al 0 (k_new 3 3 (k_dup (k_cn0 1 Image_init (k_pp 9 5 (k_al 0 (k_new 3 3 (k_dup (k_cn0 1 Image_init (k_pp 9 6 (k_al 0 (k_new 7 7 (k_dup (k_cn0 1 Rounds_init (k_pp 9 7 (k_al 0 (k_new 4 5 (k_dup (k_cn0 1 Inquiry_init (k_pp 9 8 (k_al 0 G_init_b104))))))))))))))))))))))))
theorem S_G_init_b52 : ak_S cX9_init RX9 1 5 3 61 (0, fun _ => 0) 52 (G_init_b52) := by
  unfold G_init_b52
  refine s_dup dX9_init_52 ?_
  refine s_cn0 M_Past_init dX9_init_53 rfl ⟨by decide +kernel, by decide +kernel, by decide +kernel⟩ (by decide) wd_368 wd_137 (Or.inr ⟨_, wd_367⟩) ?_
  refine s_pp (C := RX9) (Tf := TX9) (N := 11) (i := 9) (j := 4) rfl (by decide) rfl (Or.inl ⟨wd_369, Or.inr ⟨rfl, rfl, rfl⟩⟩) dX9_init_56 ?_
  refine s_aload_n dX9_init_59 rfl ?_
  refine s_new (C := RX3) (Tf := TX3) (N := 3) (i := 3) rfl wd_370 wd_371 wd_372 dX9_init_60 ?_
  refine s_dup dX9_init_63 ?_
  refine s_cn0 M_Image_init dX9_init_64 rfl ⟨by decide +kernel, by decide +kernel, by decide +kernel⟩ (by decide) wd_374 wd_372 (Or.inr ⟨_, wd_373⟩) ?_
  refine s_pp (C := RX9) (Tf := TX9) (N := 11) (i := 9) (j := 5) rfl (by decide) rfl (Or.inl ⟨wd_375, Or.inr ⟨rfl, rfl, rfl⟩⟩) dX9_init_67 ?_
  refine s_aload_n dX9_init_70 rfl ?_
  refine s_new (C := RX3) (Tf := TX3) (N := 3) (i := 3) rfl wd_370 wd_371 wd_372 dX9_init_71 ?_
  refine s_dup dX9_init_74 ?_
  refine s_cn0 M_Image_init dX9_init_75 rfl ⟨by decide +kernel, by decide +kernel, by decide +kernel⟩ (by decide) wd_374 wd_372 (Or.inr ⟨_, wd_373⟩) ?_
  refine s_pp (C := RX9) (Tf := TX9) (N := 11) (i := 9) (j := 6) rfl (by decide) rfl (Or.inl ⟨wd_376, Or.inr ⟨rfl, rfl, rfl⟩⟩) dX9_init_78 ?_
  refine s_aload_n dX9_init_81 rfl ?_
  refine s_new (C := RX7) (Tf := TX7) (N := 7) (i := 7) rfl wd_377 wd_378 wd_277 dX9_init_82 ?_
  refine s_dup dX9_init_85 ?_
  refine s_cn0 M_Rounds_init dX9_init_86 rfl ⟨by decide +kernel, by decide +kernel, by decide +kernel⟩ (by decide) wd_380 wd_277 (Or.inr ⟨_, wd_379⟩) ?_
  refine s_pp (C := RX9) (Tf := TX9) (N := 11) (i := 9) (j := 7) rfl (by decide) rfl (Or.inl ⟨wd_381, Or.inr ⟨rfl, rfl, rfl⟩⟩) dX9_init_89 ?_
  refine s_aload_n dX9_init_92 rfl ?_
  refine s_new (C := RX4) (Tf := TX4) (N := 5) (i := 4) rfl wd_382 wd_383 wd_93 dX9_init_93 ?_
  refine s_dup dX9_init_96 ?_
  refine s_cn0 M_Inquiry_init dX9_init_97 rfl ⟨by decide +kernel, by decide +kernel, by decide +kernel⟩ (by decide) wd_385 wd_93 (Or.inr ⟨_, wd_384⟩) ?_
  refine s_pp (C := RX9) (Tf := TX9) (N := 11) (i := 9) (j := 8) rfl (by decide) rfl (Or.inl ⟨wd_386, Or.inr ⟨rfl, rfl, rfl⟩⟩) dX9_init_100 ?_
  refine s_aload_n dX9_init_103 rfl ?_
  exact S_G_init_b104
def G_init_b0 : ak_K := (k_al 0 (k_obj (k_al 0 (k_new 6 6 (k_dup (k_cn0 1 Reader_init (k_pp 9 0 (k_al 0 (k_new 2 12 (k_dup (k_cn0 1 House_init (k_pp 9 1 (k_al 0 (k_new 2 12 (k_dup (k_cn0 1 House_init (k_pp 9 2 (k_al 0 (k_new 8 12 (k_dup (k_cn0 1 State_init (k_pp 9 3 (k_al 0 (k_new 5 3 G_init_b52))))))))))))))))))))))))
theorem S_G_init_b0 : ak_S cX9_init RX9 1 5 3 61 (0, fun _ => 0) 0 (G_init_b0) := by
  unfold G_init_b0
  refine s_aload_n dX9_init_0 rfl ?_
  refine s_obj (by decide) wd_387 wd_1 wd_2 dX9_init_1 ?_
  refine s_aload_n dX9_init_4 rfl ?_
  refine s_new (C := RX6) (Tf := TX6) (N := 6) (i := 6) rfl wd_388 wd_389 wd_157 dX9_init_5 ?_
  refine s_dup dX9_init_8 ?_
  refine s_cn0 M_Reader_init dX9_init_9 rfl ⟨by decide +kernel, by decide +kernel, by decide +kernel⟩ (by decide) wd_391 wd_157 (Or.inr ⟨_, wd_390⟩) ?_
  refine s_pp (C := RX9) (Tf := TX9) (N := 11) (i := 9) (j := 0) rfl (by decide) rfl (Or.inl ⟨wd_392, Or.inr ⟨rfl, rfl, rfl⟩⟩) dX9_init_12 ?_
  refine s_aload_n dX9_init_15 rfl ?_
  refine s_new (C := RX2) (Tf := TX2) (N := 12) (i := 2) rfl wd_393 wd_394 wd_194 dX9_init_16 ?_
  refine s_dup dX9_init_19 ?_
  refine s_cn0 M_House_init dX9_init_20 rfl ⟨by decide +kernel, by decide +kernel, by decide +kernel⟩ (by decide) wd_396 wd_194 (Or.inr ⟨_, wd_395⟩) ?_
  refine s_pp (C := RX9) (Tf := TX9) (N := 11) (i := 9) (j := 1) rfl (by decide) rfl (Or.inl ⟨wd_397, Or.inl rfl⟩) dX9_init_23 ?_
  refine s_aload_n dX9_init_26 rfl ?_
  refine s_new (C := RX2) (Tf := TX2) (N := 12) (i := 2) rfl wd_393 wd_394 wd_194 dX9_init_27 ?_
  refine s_dup dX9_init_30 ?_
  refine s_cn0 M_House_init dX9_init_31 rfl ⟨by decide +kernel, by decide +kernel, by decide +kernel⟩ (by decide) wd_396 wd_194 (Or.inr ⟨_, wd_395⟩) ?_
  refine s_pp (C := RX9) (Tf := TX9) (N := 11) (i := 9) (j := 2) rfl (by decide) rfl (Or.inl ⟨wd_398, Or.inl rfl⟩) dX9_init_34 ?_
  refine s_aload_n dX9_init_37 rfl ?_
  refine s_new (C := RX8) (Tf := TX8) (N := 12) (i := 8) rfl wd_399 wd_73 wd_74 dX9_init_38 ?_
  refine s_dup dX9_init_41 ?_
  refine s_cn0 M_State_init dX9_init_42 rfl ⟨by decide +kernel, by decide +kernel, by decide +kernel⟩ (by decide) wd_76 wd_74 (Or.inr ⟨_, wd_400⟩) ?_
  refine s_pp (C := RX9) (Tf := TX9) (N := 11) (i := 9) (j := 3) rfl (by decide) rfl (Or.inl ⟨wd_401, Or.inr ⟨rfl, rfl, rfl⟩⟩) dX9_init_45 ?_
  refine s_aload_n dX9_init_48 rfl ?_
  refine s_new (C := RX5) (Tf := TX5) (N := 3) (i := 5) rfl wd_402 wd_403 wd_137 dX9_init_49 ?_
  exact S_G_init_b52
def G_init (As : List Value) (M : ak_M) : ak_R := match As with
  | [.ref a] => G_init_b0 [some (.ref a)] [] M
  | _ => none
theorem M_G_init : ak_Mt yX9_init cX9_init 1 none 3 61 G_init := by
  refine ak_met (rk := 5) wd_404 (by decide +kernel) rfl (Or.inl ⟨Or.inr rfl, rfl⟩) (fun h => rfl) S_G_init_b0 (fun As M r h => ?_)
  unfold G_init at h
  split at h
  next => exact ⟨Nat.le_of_ble_eq_true rfl, 0, h⟩
  next => cases h
-- GreetedMirrors.feed(I)I
def G_feed_b11 : ak_K := (k_ci (-1000000002) k_ri)
theorem S_G_feed_b11 : ak_S cX9_feed RX9 2 1 2 43 (0, fun _ => 0) 11 (G_feed_b11) := by
  unfold G_feed_b11
  refine s_ldc (x := (-1000000002)) dX9_feed_11 wd_405 ?_
  exact s_ri rfl dX9_feed_13
def G_feed_b0 : ak_K := (k_il 1 (k_iflt G_feed_b11 (k_il 1 (k_ci 255 (k_cmle (k_al 0 (k_gp 9 0 (k_gi 6 1 (k_ci 240 (k_cmlt (k_al 0 (k_gp 9 0 (k_il 1 (k_cv 6 2 Reader_append k_ri)))) (k_ci (-1000000004) k_ri)))))) G_feed_b11)))))
theorem S_G_feed_b0 : ak_S cX9_feed RX9 2 1 2 43 (0, fun _ => 0) 0 (G_feed_b0) := by
  unfold G_feed_b0
  refine s_iload_n dX9_feed_0 rfl ?_
  refine s_iflt (tgt := 11) dX9_feed_1 (by decide) ?_ ?_
  · exact S_G_feed_b11
  · refine s_iload_n dX9_feed_4 rfl ?_
    refine s_sipush (x := 255) dX9_feed_5 (by decide +kernel) ?_
    refine s_cmle (tgt := 14) dX9_feed_8 (by decide) ?_ ?_
    · refine s_aload_n dX9_feed_14 rfl ?_
      refine s_gp (C := RX9) (Tf := TX9) (N := 11) (i := 9) (j := 0) rfl (by decide) rfl (Or.inl wd_392) dX9_feed_15 ?_
      refine s_gi (C := RX6) (Tf := TX6) (N := 6) (i := 6) (j := 1) rfl (by decide) rfl (Or.inr ⟨_, wd_406⟩) dX9_feed_18 ?_
      refine s_sipush (x := 240) dX9_feed_21 (by decide +kernel) ?_
      refine s_cmlt (tgt := 30) dX9_feed_24 (by decide) ?_ ?_
      · refine s_aload_n dX9_feed_30 rfl ?_
        refine s_gp (C := RX9) (Tf := TX9) (N := 11) (i := 9) (j := 0) rfl (by decide) rfl (Or.inl wd_392) dX9_feed_31 ?_
        refine s_iload_n dX9_feed_34 rfl ?_
        refine s_cv (C := RX6) (Tf := TX6) (N := 6) (i := 6) rfl M_Reader_append dX9_feed_35 rfl ⟨by decide +kernel, by decide +kernel, by decide +kernel⟩ (by decide) wd_408 wd_409 wd_157 (Or.inr ⟨_, wd_407⟩) ?_
        exact s_ri rfl dX9_feed_38
      · refine s_ldc (x := (-1000000004)) dX9_feed_27 wd_410 ?_
        exact s_ri rfl dX9_feed_29
    · exact S_G_feed_b11
def G_feed (As : List Value) (M : ak_M) : ak_R := match As with
  | [.ref a, .int x0] => G_feed_b0 [some (.ref a), some (.int x0)] [] M
  | _ => none
theorem M_G_feed : ak_Mt yX9_feed cX9_feed 2 (some .int) 2 43 G_feed := by
  refine ak_met (rk := 1) wd_411 (by decide +kernel) rfl (Or.inr (Or.inl ⟨rfl, rfl⟩)) (fun h => absurd h (by decide)) S_G_feed_b0 (fun As M r h => ?_)
  unfold G_feed at h
  split at h
  next => exact ⟨Nat.le_of_ble_eq_true rfl, 0, h⟩
  next => cases h
-- GreetedMirrors.house()I
def G_house_b51 : ak_K := (k_gp 9 4 (k_cv 5 1 Past_forget (k_al 0 (k_gp 9 5 (k_ci 0 (k_pz 3 2 (k_al 0 (k_gp 9 6 (k_ci 0 (k_pz 3 2 (k_al 0 (k_gp 9 8 (k_cv 4 1 Inquiry_forget (k_al 0 (k_gp 9 9 (k_ci 0 (k_pi 0 2 (k_al 0 (k_gp 9 1 (k_gi 2 3 k_ri))))))))))))))))))))
theorem S_G_house_b51 : ak_S cX9_house RX9 3 1 6 132 (0, fun _ => 0) 51 (G_house_b51) := by
  unfold G_house_b51
  refine s_gp (C := RX9) (Tf := TX9) (N := 11) (i := 9) (j := 4) rfl (by decide) rfl (Or.inl wd_369) dX9_house_51 ?_
  refine s_cv (C := RX5) (Tf := TX5) (N := 3) (i := 5) rfl M_Past_forget dX9_house_54 rfl ⟨by decide +kernel, by decide +kernel, by decide +kernel⟩ (by decide) wd_413 wd_414 wd_137 (Or.inr ⟨_, wd_412⟩) ?_
  refine s_aload_n dX9_house_57 rfl ?_
  refine s_gp (C := RX9) (Tf := TX9) (N := 11) (i := 9) (j := 5) rfl (by decide) rfl (Or.inl wd_375) dX9_house_58 ?_
  refine s_iconst (x := 0) dX9_house_61 (by decide +kernel) ?_
  refine s_pz (C := RX3) (Tf := TX3) (N := 3) (i := 3) (j := 2) rfl (by decide) rfl (Or.inr ⟨⟨_, wd_415⟩, rfl⟩) dX9_house_62 ?_
  refine s_aload_n dX9_house_65 rfl ?_
  refine s_gp (C := RX9) (Tf := TX9) (N := 11) (i := 9) (j := 6) rfl (by decide) rfl (Or.inl wd_376) dX9_house_66 ?_
  refine s_iconst (x := 0) dX9_house_69 (by decide +kernel) ?_
  refine s_pz (C := RX3) (Tf := TX3) (N := 3) (i := 3) (j := 2) rfl (by decide) rfl (Or.inr ⟨⟨_, wd_415⟩, rfl⟩) dX9_house_70 ?_
  refine s_aload_n dX9_house_73 rfl ?_
  refine s_gp (C := RX9) (Tf := TX9) (N := 11) (i := 9) (j := 8) rfl (by decide) rfl (Or.inl wd_386) dX9_house_74 ?_
  refine s_cv (C := RX4) (Tf := TX4) (N := 5) (i := 4) rfl M_Inquiry_forget dX9_house_77 rfl ⟨by decide +kernel, by decide +kernel, by decide +kernel⟩ (by decide) wd_417 wd_418 wd_93 (Or.inr ⟨_, wd_416⟩) ?_
  refine s_aload_n dX9_house_80 rfl ?_
  refine s_gp (C := RX9) (Tf := TX9) (N := 11) (i := 9) (j := 9) rfl (by decide) rfl (Or.inl wd_360) dX9_house_81 ?_
  refine s_iconst (x := 0) dX9_house_84 (by decide +kernel) ?_
  refine s_pi (C := RX0) (Tf := TX0) (N := 3) (i := 0) (j := 2) rfl (by decide) rfl (Or.inr ⟨⟨_, wd_419⟩, rfl⟩) dX9_house_85 ?_
  refine s_aload_n dX9_house_88 rfl ?_
  refine s_gp (C := RX9) (Tf := TX9) (N := 11) (i := 9) (j := 1) rfl (by decide) rfl (Or.inl wd_397) dX9_house_89 ?_
  refine s_gi (C := RX2) (Tf := TX2) (N := 12) (i := 2) (j := 3) rfl (by decide) rfl (Or.inr ⟨_, wd_420⟩) dX9_house_92 ?_
  exact s_ri rfl dX9_house_95
def G_house_b0 : ak_K := (k_al 0 (k_gp 9 0 (k_al 0 (k_gp 9 2 (k_cv 6 2 Reader_readInto (k_is 1 (k_il 1 (k_ifeq (k_al 0 (k_gp 9 1 (k_as 2 (k_al 0 (k_al 0 (k_gp 9 2 (k_pp 9 1 (k_al 0 (k_al 2 (k_pp 9 2 (k_al 0 (k_gp 9 3 (k_al 0 (k_gp 9 1 (k_cv 8 2 State_startIn (k_al 0 G_house_b51)))))))))))))))) (k_ci (-10) (k_il 1 (k_b (fun x y => x - y) k_ri)))))))))))
theorem S_G_house_b0 : ak_S cX9_house RX9 3 1 6 132 (0, fun _ => 0) 0 (G_house_b0) := by
  unfold G_house_b0
  refine s_aload_n dX9_house_0 rfl ?_
  refine s_gp (C := RX9) (Tf := TX9) (N := 11) (i := 9) (j := 0) rfl (by decide) rfl (Or.inl wd_392) dX9_house_1 ?_
  refine s_aload_n dX9_house_4 rfl ?_
  refine s_gp (C := RX9) (Tf := TX9) (N := 11) (i := 9) (j := 2) rfl (by decide) rfl (Or.inl wd_398) dX9_house_5 ?_
  refine s_cv (C := RX6) (Tf := TX6) (N := 6) (i := 6) rfl M_Reader_readInto dX9_house_8 rfl ⟨by decide +kernel, by decide +kernel, by decide +kernel⟩ (by decide) wd_422 wd_423 wd_157 (Or.inr ⟨_, wd_421⟩) ?_
  refine s_istore_n dX9_house_11 rfl (by decide) ?_
  refine s_iload_n dX9_house_12 rfl ?_
  refine s_ifeq (tgt := 21) dX9_house_13 (by decide) ?_ ?_
  · refine s_aload_n dX9_house_21 rfl ?_
    refine s_gp (C := RX9) (Tf := TX9) (N := 11) (i := 9) (j := 1) rfl (by decide) rfl (Or.inl wd_397) dX9_house_22 ?_
    refine s_astore_n dX9_house_25 rfl (by decide) ?_
    refine s_aload_n dX9_house_26 rfl ?_
    refine s_aload_n dX9_house_27 rfl ?_
    refine s_gp (C := RX9) (Tf := TX9) (N := 11) (i := 9) (j := 2) rfl (by decide) rfl (Or.inl wd_398) dX9_house_28 ?_
    refine s_pp (C := RX9) (Tf := TX9) (N := 11) (i := 9) (j := 1) rfl (by decide) rfl (Or.inl ⟨wd_397, Or.inl rfl⟩) dX9_house_31 ?_
    refine s_aload_n dX9_house_34 rfl ?_
    refine s_aload_n dX9_house_35 rfl ?_
    refine s_pp (C := RX9) (Tf := TX9) (N := 11) (i := 9) (j := 2) rfl (by decide) rfl (Or.inl ⟨wd_398, Or.inl rfl⟩) dX9_house_36 ?_
    refine s_aload_n dX9_house_39 rfl ?_
    refine s_gp (C := RX9) (Tf := TX9) (N := 11) (i := 9) (j := 3) rfl (by decide) rfl (Or.inl wd_401) dX9_house_40 ?_
    refine s_aload_n dX9_house_43 rfl ?_
    refine s_gp (C := RX9) (Tf := TX9) (N := 11) (i := 9) (j := 1) rfl (by decide) rfl (Or.inl wd_397) dX9_house_44 ?_
    refine s_cv (C := RX8) (Tf := TX8) (N := 12) (i := 8) rfl M_State_startIn dX9_house_47 rfl ⟨by decide +kernel, by decide +kernel, by decide +kernel⟩ (by decide) wd_425 wd_426 wd_74 (Or.inr ⟨_, wd_424⟩) ?_
    refine s_aload_n dX9_house_50 rfl ?_
    exact S_G_house_b51
  · refine s_bipush (x := (-10)) dX9_house_16 (by decide +kernel) ?_
    refine s_iload_n dX9_house_18 rfl ?_
    refine s_isub dX9_house_19 ?_
    exact s_ri rfl dX9_house_20
def G_house (As : List Value) (M : ak_M) : ak_R := match As with
  | [.ref a] => G_house_b0 [some (.ref a), none, none] [] M
  | _ => none
theorem M_G_house : ak_Mt yX9_house cX9_house 3 (some .int) 6 132 G_house := by
  refine ak_met (rk := 1) wd_427 (by decide +kernel) rfl (Or.inr (Or.inl ⟨rfl, rfl⟩)) (fun h => absurd h (by decide)) S_G_house_b0 (fun As M r h => ?_)
  unfold G_house at h
  split at h
  next => exact ⟨Nat.le_of_ble_eq_true rfl, 2, h⟩
  next => cases h
-- GreetedMirrors.fault()I
def G_fault_b0 : ak_K := (k_al 0 (k_gp 9 0 (k_gi 6 5 k_ri)))
theorem S_G_fault_b0 : ak_S cX9_fault RX9 1 1 0 0 (0, fun _ => 0) 0 (G_fault_b0) := by
  unfold G_fault_b0
  refine s_aload_n dX9_fault_0 rfl ?_
  refine s_gp (C := RX9) (Tf := TX9) (N := 11) (i := 9) (j := 0) rfl (by decide) rfl (Or.inl wd_392) dX9_fault_1 ?_
  refine s_gi (C := RX6) (Tf := TX6) (N := 6) (i := 6) (j := 5) rfl (by decide) rfl (Or.inr ⟨_, wd_428⟩) dX9_fault_4 ?_
  exact s_ri rfl dX9_fault_7
def G_fault (As : List Value) (M : ak_M) : ak_R := match As with
  | [.ref a] => G_fault_b0 [some (.ref a)] [] M
  | _ => none
theorem M_G_fault : ak_Mt yX9_fault cX9_fault 1 (some .int) 0 0 G_fault := by
  refine ak_met (rk := 1) wd_429 (by decide +kernel) rfl (Or.inr (Or.inl ⟨rfl, rfl⟩)) (fun h => absurd h (by decide)) S_G_fault_b0 (fun As M r h => ?_)
  unfold G_fault at h
  split at h
  next => exact ⟨Nat.le_of_ble_eq_true rfl, 0, h⟩
  next => cases h
-- GreetedMirrors.told(I)I
def G_told_b80 : ak_K := (k_al 0 (k_gp 9 1 (k_gi 2 0 k_ri)))
theorem S_G_told_b80 : ak_S cX9_told RX9 2 1 0 0 (0, fun _ => 0) 80 (G_told_b80) := by
  unfold G_told_b80
  refine s_aload_n dX9_told_80 rfl ?_
  refine s_gp (C := RX9) (Tf := TX9) (N := 11) (i := 9) (j := 1) rfl (by decide) rfl (Or.inl wd_397) dX9_told_81 ?_
  refine s_gi (C := RX2) (Tf := TX2) (N := 12) (i := 2) (j := 0) rfl (by decide) rfl (Or.inr ⟨_, wd_430⟩) dX9_told_84 ?_
  exact s_ri rfl dX9_told_87
def G_told_b88 : ak_K := (k_al 0 (k_gp 9 1 (k_gi 2 2 k_ri)))
theorem S_G_told_b88 : ak_S cX9_told RX9 2 1 0 0 (0, fun _ => 0) 88 (G_told_b88) := by
  unfold G_told_b88
  refine s_aload_n dX9_told_88 rfl ?_
  refine s_gp (C := RX9) (Tf := TX9) (N := 11) (i := 9) (j := 1) rfl (by decide) rfl (Or.inl wd_397) dX9_told_89 ?_
  refine s_gi (C := RX2) (Tf := TX2) (N := 12) (i := 2) (j := 2) rfl (by decide) rfl (Or.inr ⟨_, wd_431⟩) dX9_told_92 ?_
  exact s_ri rfl dX9_told_95
def G_told_b96 : ak_K := (k_al 0 (k_gp 9 1 (k_gi 2 3 k_ri)))
theorem S_G_told_b96 : ak_S cX9_told RX9 2 1 0 0 (0, fun _ => 0) 96 (G_told_b96) := by
  unfold G_told_b96
  refine s_aload_n dX9_told_96 rfl ?_
  refine s_gp (C := RX9) (Tf := TX9) (N := 11) (i := 9) (j := 1) rfl (by decide) rfl (Or.inl wd_397) dX9_told_97 ?_
  refine s_gi (C := RX2) (Tf := TX2) (N := 12) (i := 2) (j := 3) rfl (by decide) rfl (Or.inr ⟨_, wd_420⟩) dX9_told_100 ?_
  exact s_ri rfl dX9_told_103
def G_told_b104 : ak_K := (k_al 0 (k_gp 9 1 (k_gi 2 4 k_ri)))
theorem S_G_told_b104 : ak_S cX9_told RX9 2 1 0 0 (0, fun _ => 0) 104 (G_told_b104) := by
  unfold G_told_b104
  refine s_aload_n dX9_told_104 rfl ?_
  refine s_gp (C := RX9) (Tf := TX9) (N := 11) (i := 9) (j := 1) rfl (by decide) rfl (Or.inl wd_397) dX9_told_105 ?_
  refine s_gi (C := RX2) (Tf := TX2) (N := 12) (i := 2) (j := 4) rfl (by decide) rfl (Or.inr ⟨_, wd_432⟩) dX9_told_108 ?_
  exact s_ri rfl dX9_told_111
def G_told_b112 : ak_K := (k_al 0 (k_gp 9 0 (k_gi 6 1 k_ri)))
theorem S_G_told_b112 : ak_S cX9_told RX9 2 1 0 0 (0, fun _ => 0) 112 (G_told_b112) := by
  unfold G_told_b112
  refine s_aload_n dX9_told_112 rfl ?_
  refine s_gp (C := RX9) (Tf := TX9) (N := 11) (i := 9) (j := 0) rfl (by decide) rfl (Or.inl wd_392) dX9_told_113 ?_
  refine s_gi (C := RX6) (Tf := TX6) (N := 6) (i := 6) (j := 1) rfl (by decide) rfl (Or.inr ⟨_, wd_406⟩) dX9_told_116 ?_
  exact s_ri rfl dX9_told_119
def G_told_b120 : ak_K := (k_al 0 (k_gp 9 3 (k_gi 8 0 k_ri)))
theorem S_G_told_b120 : ak_S cX9_told RX9 2 1 0 0 (0, fun _ => 0) 120 (G_told_b120) := by
  unfold G_told_b120
  refine s_aload_n dX9_told_120 rfl ?_
  refine s_gp (C := RX9) (Tf := TX9) (N := 11) (i := 9) (j := 3) rfl (by decide) rfl (Or.inl wd_401) dX9_told_121 ?_
  refine s_gi (C := RX8) (Tf := TX8) (N := 12) (i := 8) (j := 0) rfl (by decide) rfl (Or.inr ⟨_, wd_433⟩) dX9_told_124 ?_
  exact s_ri rfl dX9_told_127
def G_told_b128 : ak_K := (k_al 0 (k_gp 9 3 (k_gi 8 1 k_ri)))
theorem S_G_told_b128 : ak_S cX9_told RX9 2 1 0 0 (0, fun _ => 0) 128 (G_told_b128) := by
  unfold G_told_b128
  refine s_aload_n dX9_told_128 rfl ?_
  refine s_gp (C := RX9) (Tf := TX9) (N := 11) (i := 9) (j := 3) rfl (by decide) rfl (Or.inl wd_401) dX9_told_129 ?_
  refine s_gi (C := RX8) (Tf := TX8) (N := 12) (i := 8) (j := 1) rfl (by decide) rfl (Or.inr ⟨_, wd_434⟩) dX9_told_132 ?_
  exact s_ri rfl dX9_told_135
def G_told_b136 : ak_K := (k_al 0 (k_gp 9 3 (k_gi 8 2 k_ri)))
theorem S_G_told_b136 : ak_S cX9_told RX9 2 1 0 0 (0, fun _ => 0) 136 (G_told_b136) := by
  unfold G_told_b136
  refine s_aload_n dX9_told_136 rfl ?_
  refine s_gp (C := RX9) (Tf := TX9) (N := 11) (i := 9) (j := 3) rfl (by decide) rfl (Or.inl wd_401) dX9_told_137 ?_
  refine s_gi (C := RX8) (Tf := TX8) (N := 12) (i := 8) (j := 2) rfl (by decide) rfl (Or.inr ⟨_, wd_435⟩) dX9_told_140 ?_
  exact s_ri rfl dX9_told_143
def G_told_b144 : ak_K := (k_al 0 (k_gp 9 3 (k_gi 8 3 k_ri)))
theorem S_G_told_b144 : ak_S cX9_told RX9 2 1 0 0 (0, fun _ => 0) 144 (G_told_b144) := by
  unfold G_told_b144
  refine s_aload_n dX9_told_144 rfl ?_
  refine s_gp (C := RX9) (Tf := TX9) (N := 11) (i := 9) (j := 3) rfl (by decide) rfl (Or.inl wd_401) dX9_told_145 ?_
  refine s_gi (C := RX8) (Tf := TX8) (N := 12) (i := 8) (j := 3) rfl (by decide) rfl (Or.inr ⟨_, wd_436⟩) dX9_told_148 ?_
  exact s_ri rfl dX9_told_151
def G_told_b152 : ak_K := (k_al 0 (k_gp 9 3 (k_gi 8 4 k_ri)))
theorem S_G_told_b152 : ak_S cX9_told RX9 2 1 0 0 (0, fun _ => 0) 152 (G_told_b152) := by
  unfold G_told_b152
  refine s_aload_n dX9_told_152 rfl ?_
  refine s_gp (C := RX9) (Tf := TX9) (N := 11) (i := 9) (j := 3) rfl (by decide) rfl (Or.inl wd_401) dX9_told_153 ?_
  refine s_gi (C := RX8) (Tf := TX8) (N := 12) (i := 8) (j := 4) rfl (by decide) rfl (Or.inr ⟨_, wd_437⟩) dX9_told_156 ?_
  exact s_ri rfl dX9_told_159
def G_told_b160 : ak_K := (k_al 0 (k_gp 9 3 (k_gi 8 5 k_ri)))
theorem S_G_told_b160 : ak_S cX9_told RX9 2 1 0 0 (0, fun _ => 0) 160 (G_told_b160) := by
  unfold G_told_b160
  refine s_aload_n dX9_told_160 rfl ?_
  refine s_gp (C := RX9) (Tf := TX9) (N := 11) (i := 9) (j := 3) rfl (by decide) rfl (Or.inl wd_401) dX9_told_161 ?_
  refine s_gi (C := RX8) (Tf := TX8) (N := 12) (i := 8) (j := 5) rfl (by decide) rfl (Or.inr ⟨_, wd_438⟩) dX9_told_164 ?_
  exact s_ri rfl dX9_told_167
def G_told_b168 : ak_K := (k_al 0 (k_gp 9 3 (k_gi 8 6 k_ri)))
theorem S_G_told_b168 : ak_S cX9_told RX9 2 1 0 0 (0, fun _ => 0) 168 (G_told_b168) := by
  unfold G_told_b168
  refine s_aload_n dX9_told_168 rfl ?_
  refine s_gp (C := RX9) (Tf := TX9) (N := 11) (i := 9) (j := 3) rfl (by decide) rfl (Or.inl wd_401) dX9_told_169 ?_
  refine s_gi (C := RX8) (Tf := TX8) (N := 12) (i := 8) (j := 6) rfl (by decide) rfl (Or.inr ⟨_, wd_439⟩) dX9_told_172 ?_
  exact s_ri rfl dX9_told_175
def G_told_b176 : ak_K := (k_al 0 (k_gp 9 3 (k_gi 8 7 k_ri)))
theorem S_G_told_b176 : ak_S cX9_told RX9 2 1 0 0 (0, fun _ => 0) 176 (G_told_b176) := by
  unfold G_told_b176
  refine s_aload_n dX9_told_176 rfl ?_
  refine s_gp (C := RX9) (Tf := TX9) (N := 11) (i := 9) (j := 3) rfl (by decide) rfl (Or.inl wd_401) dX9_told_177 ?_
  refine s_gi (C := RX8) (Tf := TX8) (N := 12) (i := 8) (j := 7) rfl (by decide) rfl (Or.inr ⟨_, wd_440⟩) dX9_told_180 ?_
  exact s_ri rfl dX9_told_183
def G_told_b184 : ak_K := (k_al 0 (k_gp 9 8 (k_gi 4 4 k_ri)))
theorem S_G_told_b184 : ak_S cX9_told RX9 2 1 0 0 (0, fun _ => 0) 184 (G_told_b184) := by
  unfold G_told_b184
  refine s_aload_n dX9_told_184 rfl ?_
  refine s_gp (C := RX9) (Tf := TX9) (N := 11) (i := 9) (j := 8) rfl (by decide) rfl (Or.inl wd_386) dX9_told_185 ?_
  refine s_gi (C := RX4) (Tf := TX4) (N := 5) (i := 4) (j := 4) rfl (by decide) rfl (Or.inr ⟨_, wd_441⟩) dX9_told_188 ?_
  exact s_ri rfl dX9_told_191
def G_told_b192 : ak_K := (k_al 0 (k_gp 9 9 (k_gi 0 2 k_ri)))
theorem S_G_told_b192 : ak_S cX9_told RX9 2 1 0 0 (0, fun _ => 0) 192 (G_told_b192) := by
  unfold G_told_b192
  refine s_aload_n dX9_told_192 rfl ?_
  refine s_gp (C := RX9) (Tf := TX9) (N := 11) (i := 9) (j := 9) rfl (by decide) rfl (Or.inl wd_360) dX9_told_193 ?_
  refine s_gi (C := RX0) (Tf := TX0) (N := 3) (i := 0) (j := 2) rfl (by decide) rfl (Or.inr ⟨_, wd_419⟩) dX9_told_196 ?_
  exact s_ri rfl dX9_told_199
def G_told_b200 : ak_K := (k_al 0 (k_gp 9 4 (k_gi 5 2 k_ri)))
theorem S_G_told_b200 : ak_S cX9_told RX9 2 1 0 0 (0, fun _ => 0) 200 (G_told_b200) := by
  unfold G_told_b200
  refine s_aload_n dX9_told_200 rfl ?_
  refine s_gp (C := RX9) (Tf := TX9) (N := 11) (i := 9) (j := 4) rfl (by decide) rfl (Or.inl wd_369) dX9_told_201 ?_
  refine s_gi (C := RX5) (Tf := TX5) (N := 3) (i := 5) (j := 2) rfl (by decide) rfl (Or.inr ⟨_, wd_442⟩) dX9_told_204 ?_
  exact s_ri rfl dX9_told_207
def G_told_b208 : ak_K := (k_ci (-1000000002) k_ri)
theorem S_G_told_b208 : ak_S cX9_told RX9 2 1 0 0 (0, fun _ => 0) 208 (G_told_b208) := by
  unfold G_told_b208
  refine s_ldc (x := (-1000000002)) dX9_told_208 wd_405 ?_
  exact s_ri rfl dX9_told_210
def G_told_b0 : ak_K := (k_il 1 (k_sw [(0, G_told_b80), (1, G_told_b88), (2, G_told_b96), (3, G_told_b104), (4, G_told_b112), (5, G_told_b120), (6, G_told_b128), (7, G_told_b136), (8, G_told_b144), (9, G_told_b152), (10, G_told_b160), (11, G_told_b168), (12, G_told_b176), (13, G_told_b184), (14, G_told_b192), (15, G_told_b200)] G_told_b208))
theorem S_G_told_b0 : ak_S cX9_told RX9 2 1 0 0 (0, fun _ => 0) 0 (G_told_b0) := by
  unfold G_told_b0
  refine s_iload_n dX9_told_0 rfl ?_
  exact s_table (tgd := 208) [0, 1, 2, 3, 4, 5, 6, 7, 8, 9, 10, 11, 12, 13, 14, 15] rfl dX9_told_1 (by decide) S_G_told_b208 (List.forall_mem_cons.mpr ⟨⟨80, S_G_told_b80, (by show _ ≤ (0 : Int32).toInt; decide +kernel), (by show (0 : Int32).toInt ≤ _; decide +kernel), 79, (by show _[((0 : Int32).toInt - _).toNat]? = _; decide +kernel), by decide⟩, List.forall_mem_cons.mpr ⟨⟨88, S_G_told_b88, (by show _ ≤ (1 : Int32).toInt; decide +kernel), (by show (1 : Int32).toInt ≤ _; decide +kernel), 87, (by show _[((1 : Int32).toInt - _).toNat]? = _; decide +kernel), by decide⟩, List.forall_mem_cons.mpr ⟨⟨96, S_G_told_b96, (by show _ ≤ (2 : Int32).toInt; decide +kernel), (by show (2 : Int32).toInt ≤ _; decide +kernel), 95, (by show _[((2 : Int32).toInt - _).toNat]? = _; decide +kernel), by decide⟩, List.forall_mem_cons.mpr ⟨⟨104, S_G_told_b104, (by show _ ≤ (3 : Int32).toInt; decide +kernel), (by show (3 : Int32).toInt ≤ _; decide +kernel), 103, (by show _[((3 : Int32).toInt - _).toNat]? = _; decide +kernel), by decide⟩, List.forall_mem_cons.mpr ⟨⟨112, S_G_told_b112, (by show _ ≤ (4 : Int32).toInt; decide +kernel), (by show (4 : Int32).toInt ≤ _; decide +kernel), 111, (by show _[((4 : Int32).toInt - _).toNat]? = _; decide +kernel), by decide⟩, List.forall_mem_cons.mpr ⟨⟨120, S_G_told_b120, (by show _ ≤ (5 : Int32).toInt; decide +kernel), (by show (5 : Int32).toInt ≤ _; decide +kernel), 119, (by show _[((5 : Int32).toInt - _).toNat]? = _; decide +kernel), by decide⟩, List.forall_mem_cons.mpr ⟨⟨128, S_G_told_b128, (by show _ ≤ (6 : Int32).toInt; decide +kernel), (by show (6 : Int32).toInt ≤ _; decide +kernel), 127, (by show _[((6 : Int32).toInt - _).toNat]? = _; decide +kernel), by decide⟩, List.forall_mem_cons.mpr ⟨⟨136, S_G_told_b136, (by show _ ≤ (7 : Int32).toInt; decide +kernel), (by show (7 : Int32).toInt ≤ _; decide +kernel), 135, (by show _[((7 : Int32).toInt - _).toNat]? = _; decide +kernel), by decide⟩, List.forall_mem_cons.mpr ⟨⟨144, S_G_told_b144, (by show _ ≤ (8 : Int32).toInt; decide +kernel), (by show (8 : Int32).toInt ≤ _; decide +kernel), 143, (by show _[((8 : Int32).toInt - _).toNat]? = _; decide +kernel), by decide⟩, List.forall_mem_cons.mpr ⟨⟨152, S_G_told_b152, (by show _ ≤ (9 : Int32).toInt; decide +kernel), (by show (9 : Int32).toInt ≤ _; decide +kernel), 151, (by show _[((9 : Int32).toInt - _).toNat]? = _; decide +kernel), by decide⟩, List.forall_mem_cons.mpr ⟨⟨160, S_G_told_b160, (by show _ ≤ (10 : Int32).toInt; decide +kernel), (by show (10 : Int32).toInt ≤ _; decide +kernel), 159, (by show _[((10 : Int32).toInt - _).toNat]? = _; decide +kernel), by decide⟩, List.forall_mem_cons.mpr ⟨⟨168, S_G_told_b168, (by show _ ≤ (11 : Int32).toInt; decide +kernel), (by show (11 : Int32).toInt ≤ _; decide +kernel), 167, (by show _[((11 : Int32).toInt - _).toNat]? = _; decide +kernel), by decide⟩, List.forall_mem_cons.mpr ⟨⟨176, S_G_told_b176, (by show _ ≤ (12 : Int32).toInt; decide +kernel), (by show (12 : Int32).toInt ≤ _; decide +kernel), 175, (by show _[((12 : Int32).toInt - _).toNat]? = _; decide +kernel), by decide⟩, List.forall_mem_cons.mpr ⟨⟨184, S_G_told_b184, (by show _ ≤ (13 : Int32).toInt; decide +kernel), (by show (13 : Int32).toInt ≤ _; decide +kernel), 183, (by show _[((13 : Int32).toInt - _).toNat]? = _; decide +kernel), by decide⟩, List.forall_mem_cons.mpr ⟨⟨192, S_G_told_b192, (by show _ ≤ (14 : Int32).toInt; decide +kernel), (by show (14 : Int32).toInt ≤ _; decide +kernel), 191, (by show _[((14 : Int32).toInt - _).toNat]? = _; decide +kernel), by decide⟩, List.forall_mem_cons.mpr ⟨⟨200, S_G_told_b200, (by show _ ≤ (15 : Int32).toInt; decide +kernel), (by show (15 : Int32).toInt ≤ _; decide +kernel), 199, (by show _[((15 : Int32).toInt - _).toNat]? = _; decide +kernel), by decide⟩, fun q h => absurd h List.not_mem_nil⟩⟩⟩⟩⟩⟩⟩⟩⟩⟩⟩⟩⟩⟩⟩⟩) (by decide +kernel)
def G_told (As : List Value) (M : ak_M) : ak_R := match As with
  | [.ref a, .int x0] => G_told_b0 [some (.ref a), some (.int x0)] [] M
  | _ => none
theorem M_G_told : ak_Mt yX9_told cX9_told 2 (some .int) 0 0 G_told := by
  refine ak_met (rk := 1) wd_443 (by decide +kernel) rfl (Or.inr (Or.inl ⟨rfl, rfl⟩)) (fun h => absurd h (by decide)) S_G_told_b0 (fun As M r h => ?_)
  unfold G_told at h
  split at h
  next => exact ⟨Nat.le_of_ble_eq_true rfl, 0, h⟩
  next => cases h
-- GreetedMirrors.mirror(II)I
def G_mirror_b48 : ak_K := (k_al 0 (k_gp 9 1 (k_gp 2 7 (k_il 1 (k_cs 2 G_at k_ri)))))
theorem S_G_mirror_b48 : ak_S cX9_mirror RX9 3 1 1 21 (0, fun _ => 0) 48 (G_mirror_b48) := by
  unfold G_mirror_b48
  refine s_aload_n dX9_mirror_48 rfl ?_
  refine s_gp (C := RX9) (Tf := TX9) (N := 11) (i := 9) (j := 1) rfl (by decide) rfl (Or.inl wd_397) dX9_mirror_49 ?_
  refine s_gp (C := RX2) (Tf := TX2) (N := 12) (i := 2) (j := 7) rfl (by decide) rfl (Or.inr ⟨_, wd_444⟩) dX9_mirror_52 ?_
  refine s_iload_n dX9_mirror_55 rfl ?_
  refine s_cs M_G_at dX9_mirror_56 ⟨by decide +kernel, by decide +kernel, by decide +kernel⟩ (by decide) wd_16 wd_10 (Or.inl ⟨wd_445, rfl⟩) ?_
  exact s_ri rfl dX9_mirror_59
def G_mirror_b60 : ak_K := (k_al 0 (k_gp 9 3 (k_gp 8 8 (k_il 1 (k_cs 2 G_at k_ri)))))
theorem S_G_mirror_b60 : ak_S cX9_mirror RX9 3 1 1 21 (0, fun _ => 0) 60 (G_mirror_b60) := by
  unfold G_mirror_b60
  refine s_aload_n dX9_mirror_60 rfl ?_
  refine s_gp (C := RX9) (Tf := TX9) (N := 11) (i := 9) (j := 3) rfl (by decide) rfl (Or.inl wd_401) dX9_mirror_61 ?_
  refine s_gp (C := RX8) (Tf := TX8) (N := 12) (i := 8) (j := 8) rfl (by decide) rfl (Or.inr ⟨_, wd_446⟩) dX9_mirror_64 ?_
  refine s_iload_n dX9_mirror_67 rfl ?_
  refine s_cs M_G_at dX9_mirror_68 ⟨by decide +kernel, by decide +kernel, by decide +kernel⟩ (by decide) wd_16 wd_10 (Or.inl ⟨wd_445, rfl⟩) ?_
  exact s_ri rfl dX9_mirror_71
def G_mirror_b72 : ak_K := (k_al 0 (k_gp 9 1 (k_gp 2 9 (k_il 1 (k_cs 2 G_at k_ri)))))
theorem S_G_mirror_b72 : ak_S cX9_mirror RX9 3 1 1 21 (0, fun _ => 0) 72 (G_mirror_b72) := by
  unfold G_mirror_b72
  refine s_aload_n dX9_mirror_72 rfl ?_
  refine s_gp (C := RX9) (Tf := TX9) (N := 11) (i := 9) (j := 1) rfl (by decide) rfl (Or.inl wd_397) dX9_mirror_73 ?_
  refine s_gp (C := RX2) (Tf := TX2) (N := 12) (i := 2) (j := 9) rfl (by decide) rfl (Or.inr ⟨_, wd_447⟩) dX9_mirror_76 ?_
  refine s_iload_n dX9_mirror_79 rfl ?_
  refine s_cs M_G_at dX9_mirror_80 ⟨by decide +kernel, by decide +kernel, by decide +kernel⟩ (by decide) wd_16 wd_10 (Or.inl ⟨wd_445, rfl⟩) ?_
  exact s_ri rfl dX9_mirror_83
def G_mirror_b84 : ak_K := (k_al 0 (k_gp 9 3 (k_gp 8 9 (k_il 1 (k_cs 2 G_at k_ri)))))
theorem S_G_mirror_b84 : ak_S cX9_mirror RX9 3 1 1 21 (0, fun _ => 0) 84 (G_mirror_b84) := by
  unfold G_mirror_b84
  refine s_aload_n dX9_mirror_84 rfl ?_
  refine s_gp (C := RX9) (Tf := TX9) (N := 11) (i := 9) (j := 3) rfl (by decide) rfl (Or.inl wd_401) dX9_mirror_85 ?_
  refine s_gp (C := RX8) (Tf := TX8) (N := 12) (i := 8) (j := 9) rfl (by decide) rfl (Or.inr ⟨_, wd_448⟩) dX9_mirror_88 ?_
  refine s_iload_n dX9_mirror_91 rfl ?_
  refine s_cs M_G_at dX9_mirror_92 ⟨by decide +kernel, by decide +kernel, by decide +kernel⟩ (by decide) wd_16 wd_10 (Or.inl ⟨wd_445, rfl⟩) ?_
  exact s_ri rfl dX9_mirror_95
def G_mirror_b96 : ak_K := (k_al 0 (k_gp 9 3 (k_gp 8 10 (k_il 1 (k_cs 2 G_at k_ri)))))
theorem S_G_mirror_b96 : ak_S cX9_mirror RX9 3 1 1 21 (0, fun _ => 0) 96 (G_mirror_b96) := by
  unfold G_mirror_b96
  refine s_aload_n dX9_mirror_96 rfl ?_
  refine s_gp (C := RX9) (Tf := TX9) (N := 11) (i := 9) (j := 3) rfl (by decide) rfl (Or.inl wd_401) dX9_mirror_97 ?_
  refine s_gp (C := RX8) (Tf := TX8) (N := 12) (i := 8) (j := 10) rfl (by decide) rfl (Or.inr ⟨_, wd_449⟩) dX9_mirror_100 ?_
  refine s_iload_n dX9_mirror_103 rfl ?_
  refine s_cs M_G_at dX9_mirror_104 ⟨by decide +kernel, by decide +kernel, by decide +kernel⟩ (by decide) wd_16 wd_10 (Or.inl ⟨wd_445, rfl⟩) ?_
  exact s_ri rfl dX9_mirror_107
def G_mirror_b108 : ak_K := (k_ci (-1000000002) k_ri)
theorem S_G_mirror_b108 : ak_S cX9_mirror RX9 3 1 1 21 (0, fun _ => 0) 108 (G_mirror_b108) := by
  unfold G_mirror_b108
  refine s_ldc (x := (-1000000002)) dX9_mirror_108 wd_405 ?_
  exact s_ri rfl dX9_mirror_110
def G_mirror_b0 : ak_K := (k_al 0 (k_gp 9 1 (k_il 1 (k_cv 2 2 House_hasMirror (k_ifeq (k_ci (-1000000001) k_ri) (k_il 2 (k_sw [(0, G_mirror_b48), (1, G_mirror_b60), (2, G_mirror_b72), (3, G_mirror_b84), (4, G_mirror_b96)] G_mirror_b108)))))))
theorem S_G_mirror_b0 : ak_S cX9_mirror RX9 3 1 1 21 (0, fun _ => 0) 0 (G_mirror_b0) := by
  unfold G_mirror_b0
  refine s_aload_n dX9_mirror_0 rfl ?_
  refine s_gp (C := RX9) (Tf := TX9) (N := 11) (i := 9) (j := 1) rfl (by decide) rfl (Or.inl wd_397) dX9_mirror_1 ?_
  refine s_iload_n dX9_mirror_4 rfl ?_
  refine s_cv (C := RX2) (Tf := TX2) (N := 12) (i := 2) rfl M_House_hasMirror dX9_mirror_5 rfl ⟨by decide +kernel, by decide +kernel, by decide +kernel⟩ (by decide) wd_451 wd_452 wd_194 (Or.inr ⟨_, wd_450⟩) ?_
  refine s_ifne (tgt := 14) dX9_mirror_8 (by decide) ?_ ?_
  · refine s_ldc (x := (-1000000001)) dX9_mirror_11 wd_453 ?_
    exact s_ri rfl dX9_mirror_13
  · refine s_iload_n dX9_mirror_14 rfl ?_
    exact s_table (tgd := 108) [0, 1, 2, 3, 4] rfl dX9_mirror_15 (by decide) S_G_mirror_b108 (List.forall_mem_cons.mpr ⟨⟨48, S_G_mirror_b48, (by show _ ≤ (0 : Int32).toInt; decide +kernel), (by show (0 : Int32).toInt ≤ _; decide +kernel), 33, (by show _[((0 : Int32).toInt - _).toNat]? = _; decide +kernel), by decide⟩, List.forall_mem_cons.mpr ⟨⟨60, S_G_mirror_b60, (by show _ ≤ (1 : Int32).toInt; decide +kernel), (by show (1 : Int32).toInt ≤ _; decide +kernel), 45, (by show _[((1 : Int32).toInt - _).toNat]? = _; decide +kernel), by decide⟩, List.forall_mem_cons.mpr ⟨⟨72, S_G_mirror_b72, (by show _ ≤ (2 : Int32).toInt; decide +kernel), (by show (2 : Int32).toInt ≤ _; decide +kernel), 57, (by show _[((2 : Int32).toInt - _).toNat]? = _; decide +kernel), by decide⟩, List.forall_mem_cons.mpr ⟨⟨84, S_G_mirror_b84, (by show _ ≤ (3 : Int32).toInt; decide +kernel), (by show (3 : Int32).toInt ≤ _; decide +kernel), 69, (by show _[((3 : Int32).toInt - _).toNat]? = _; decide +kernel), by decide⟩, List.forall_mem_cons.mpr ⟨⟨96, S_G_mirror_b96, (by show _ ≤ (4 : Int32).toInt; decide +kernel), (by show (4 : Int32).toInt ≤ _; decide +kernel), 81, (by show _[((4 : Int32).toInt - _).toNat]? = _; decide +kernel), by decide⟩, fun q h => absurd h List.not_mem_nil⟩⟩⟩⟩⟩) (by decide +kernel)
def G_mirror (As : List Value) (M : ak_M) : ak_R := match As with
  | [.ref a, .int x0, .int x1] => G_mirror_b0 [some (.ref a), some (.int x0), some (.int x1)] [] M
  | _ => none
theorem M_G_mirror : ak_Mt yX9_mirror cX9_mirror 3 (some .int) 1 21 G_mirror := by
  refine ak_met (rk := 1) wd_454 (by decide +kernel) rfl (Or.inr (Or.inl ⟨rfl, rfl⟩)) (fun h => absurd h (by decide)) S_G_mirror_b0 (fun As M r h => ?_)
  unfold G_mirror at h
  split at h
  next => exact ⟨Nat.le_of_ble_eq_true rfl, 0, h⟩
  next => cases h
-- GreetedMirrors.doorOf(II)I
def G_doorOf_b40 : ak_K := (k_al 0 (k_gp 9 1 (k_gp 2 5 (k_il 1 (k_cs 2 G_at k_ri)))))
theorem S_G_doorOf_b40 : ak_S cX9_doorOf RX9 3 1 1 21 (0, fun _ => 0) 40 (G_doorOf_b40) := by
  unfold G_doorOf_b40
  refine s_aload_n dX9_doorOf_40 rfl ?_
  refine s_gp (C := RX9) (Tf := TX9) (N := 11) (i := 9) (j := 1) rfl (by decide) rfl (Or.inl wd_397) dX9_doorOf_41 ?_
  refine s_gp (C := RX2) (Tf := TX2) (N := 12) (i := 2) (j := 5) rfl (by decide) rfl (Or.inr ⟨_, wd_455⟩) dX9_doorOf_44 ?_
  refine s_iload_n dX9_doorOf_47 rfl ?_
  refine s_cs M_G_at dX9_doorOf_48 ⟨by decide +kernel, by decide +kernel, by decide +kernel⟩ (by decide) wd_16 wd_10 (Or.inl ⟨wd_445, rfl⟩) ?_
  exact s_ri rfl dX9_doorOf_51
def G_doorOf_b52 : ak_K := (k_al 0 (k_gp 9 1 (k_gp 2 6 (k_il 1 (k_cs 2 G_at k_ri)))))
theorem S_G_doorOf_b52 : ak_S cX9_doorOf RX9 3 1 1 21 (0, fun _ => 0) 52 (G_doorOf_b52) := by
  unfold G_doorOf_b52
  refine s_aload_n dX9_doorOf_52 rfl ?_
  refine s_gp (C := RX9) (Tf := TX9) (N := 11) (i := 9) (j := 1) rfl (by decide) rfl (Or.inl wd_397) dX9_doorOf_53 ?_
  refine s_gp (C := RX2) (Tf := TX2) (N := 12) (i := 2) (j := 6) rfl (by decide) rfl (Or.inr ⟨_, wd_456⟩) dX9_doorOf_56 ?_
  refine s_iload_n dX9_doorOf_59 rfl ?_
  refine s_cs M_G_at dX9_doorOf_60 ⟨by decide +kernel, by decide +kernel, by decide +kernel⟩ (by decide) wd_16 wd_10 (Or.inl ⟨wd_445, rfl⟩) ?_
  exact s_ri rfl dX9_doorOf_63
def G_doorOf_b64 : ak_K := (k_ci (-1000000002) k_ri)
theorem S_G_doorOf_b64 : ak_S cX9_doorOf RX9 3 1 1 21 (0, fun _ => 0) 64 (G_doorOf_b64) := by
  unfold G_doorOf_b64
  refine s_ldc (x := (-1000000002)) dX9_doorOf_64 wd_405 ?_
  exact s_ri rfl dX9_doorOf_66
def G_doorOf_b0 : ak_K := (k_al 0 (k_gp 9 1 (k_il 1 (k_cv 2 2 House_hasDoor (k_ifeq (k_ci (-1000000001) k_ri) (k_il 2 (k_sw [(0, G_doorOf_b40), (1, G_doorOf_b52)] G_doorOf_b64)))))))
theorem S_G_doorOf_b0 : ak_S cX9_doorOf RX9 3 1 1 21 (0, fun _ => 0) 0 (G_doorOf_b0) := by
  unfold G_doorOf_b0
  refine s_aload_n dX9_doorOf_0 rfl ?_
  refine s_gp (C := RX9) (Tf := TX9) (N := 11) (i := 9) (j := 1) rfl (by decide) rfl (Or.inl wd_397) dX9_doorOf_1 ?_
  refine s_iload_n dX9_doorOf_4 rfl ?_
  refine s_cv (C := RX2) (Tf := TX2) (N := 12) (i := 2) rfl M_House_hasDoor dX9_doorOf_5 rfl ⟨by decide +kernel, by decide +kernel, by decide +kernel⟩ (by decide) wd_458 wd_459 wd_194 (Or.inr ⟨_, wd_457⟩) ?_
  refine s_ifne (tgt := 14) dX9_doorOf_8 (by decide) ?_ ?_
  · refine s_ldc (x := (-1000000001)) dX9_doorOf_11 wd_453 ?_
    exact s_ri rfl dX9_doorOf_13
  · refine s_iload_n dX9_doorOf_14 rfl ?_
    exact s_lookup (tgd := 64) [0, 1] rfl dX9_doorOf_15 (by decide +kernel) (by decide) S_G_doorOf_b64 (List.forall_mem_cons.mpr ⟨⟨40, S_G_doorOf_b40, 25, by decide +kernel, by decide⟩, List.forall_mem_cons.mpr ⟨⟨52, S_G_doorOf_b52, 37, by decide +kernel, by decide⟩, fun q h => absurd h List.not_mem_nil⟩⟩) (fun x hx => (lv_osw (k := 0) (hx 0 (by decide)) (by decide +kernel)).trans ((lv_osw (k := 1) (hx 1 (by decide)) (by decide +kernel)).trans (rfl)))
def G_doorOf (As : List Value) (M : ak_M) : ak_R := match As with
  | [.ref a, .int x0, .int x1] => G_doorOf_b0 [some (.ref a), some (.int x0), some (.int x1)] [] M
  | _ => none
theorem M_G_doorOf : ak_Mt yX9_doorOf cX9_doorOf 3 (some .int) 1 21 G_doorOf := by
  refine ak_met (rk := 1) wd_460 (by decide +kernel) rfl (Or.inr (Or.inl ⟨rfl, rfl⟩)) (fun h => absurd h (by decide)) S_G_doorOf_b0 (fun As M r h => ?_)
  unfold G_doorOf at h
  split at h
  next => exact ⟨Nat.le_of_ble_eq_true rfl, 0, h⟩
  next => cases h
-- GreetedMirrors.person(I)I
def G_person_b27 : ak_K := k_ri
theorem S_G_person_b27 : ak_S cX9_person RX9 2 1 1 21 (0, fun _ => 0) 27 (G_person_b27) := by
  unfold G_person_b27
  exact s_ri rfl dX9_person_27
def G_person_b0 : ak_K := (k_al 0 (k_gp 9 1 (k_il 1 (k_cv 2 2 House_hasPerson (k_ifeq (k_ci (-1000000001) G_person_b27) (k_al 0 (k_gp 9 3 (k_gp 8 11 (k_il 1 (k_cs 2 G_at G_person_b27))))))))))
theorem S_G_person_b0 : ak_S cX9_person RX9 2 1 1 21 (0, fun _ => 0) 0 (G_person_b0) := by
  unfold G_person_b0
  refine s_aload_n dX9_person_0 rfl ?_
  refine s_gp (C := RX9) (Tf := TX9) (N := 11) (i := 9) (j := 1) rfl (by decide) rfl (Or.inl wd_397) dX9_person_1 ?_
  refine s_iload_n dX9_person_4 rfl ?_
  refine s_cv (C := RX2) (Tf := TX2) (N := 12) (i := 2) rfl M_House_hasPerson dX9_person_5 rfl ⟨by decide +kernel, by decide +kernel, by decide +kernel⟩ (by decide) wd_462 wd_463 wd_194 (Or.inr ⟨_, wd_461⟩) ?_
  refine s_ifeq (tgt := 25) dX9_person_8 (by decide) ?_ ?_
  · refine s_ldc (x := (-1000000001)) dX9_person_25 wd_453 ?_
    exact S_G_person_b27
  · refine s_aload_n dX9_person_11 rfl ?_
    refine s_gp (C := RX9) (Tf := TX9) (N := 11) (i := 9) (j := 3) rfl (by decide) rfl (Or.inl wd_401) dX9_person_12 ?_
    refine s_gp (C := RX8) (Tf := TX8) (N := 12) (i := 8) (j := 11) rfl (by decide) rfl (Or.inr ⟨_, wd_464⟩) dX9_person_15 ?_
    refine s_iload_n dX9_person_18 rfl ?_
    refine s_cs M_G_at dX9_person_19 ⟨by decide +kernel, by decide +kernel, by decide +kernel⟩ (by decide) wd_16 wd_10 (Or.inl ⟨wd_445, rfl⟩) ?_
    refine s_goto (tgt := 27) dX9_person_22 (by decide) ?_
    exact S_G_person_b27
def G_person (As : List Value) (M : ak_M) : ak_R := match As with
  | [.ref a, .int x0] => G_person_b0 [some (.ref a), some (.int x0)] [] M
  | _ => none
theorem M_G_person : ak_Mt yX9_person cX9_person 2 (some .int) 1 21 G_person := by
  refine ak_met (rk := 1) wd_465 (by decide +kernel) rfl (Or.inr (Or.inl ⟨rfl, rfl⟩)) (fun h => absurd h (by decide)) S_G_person_b0 (fun As M r h => ?_)
  unfold G_person at h
  split at h
  next => exact ⟨Nat.le_of_ble_eq_true rfl, 0, h⟩
  next => cases h
-- GreetedMirrors.sees(II)I
def G_sees_b27 : ak_K := (k_ci (-1000000001) k_ri)
theorem S_G_sees_b27 : ak_S cX9_sees RX9 5 1 3 70 (0, fun _ => 0) 27 (G_sees_b27) := by
  unfold G_sees_b27
  refine s_ldc (x := (-1000000001)) dX9_sees_27 wd_453 ?_
  exact s_ri rfl dX9_sees_29
def G_sees_b121 : ak_K := k_ri
theorem S_G_sees_b121 : ak_S cX9_sees RX9 5 1 3 70 (0, fun _ => 0) 121 (G_sees_b121) := by
  unfold G_sees_b121
  exact s_ri rfl dX9_sees_121
def G_sees_b120 : ak_K := (k_ci 0 G_sees_b121)
theorem S_G_sees_b120 : ak_S cX9_sees RX9 5 1 3 70 (0, fun _ => 0) 120 (G_sees_b120) := by
  unfold G_sees_b120
  refine s_iconst (x := 0) dX9_sees_120 (by decide +kernel) ?_
  exact S_G_sees_b121
def G_sees_b80 : ak_K := (k_is 4 (k_il 4 (k_ifeq G_sees_b120 (k_al 0 (k_gp 9 3 (k_al 0 (k_gp 9 1 (k_il 3 (k_cv 8 3 State_seenFrom (k_al 0 (k_gp 9 3 (k_gp 8 11 (k_il 2 (k_cs 2 G_at (k_cs 2 G_has (k_ifeq G_sees_b120 (k_ci 1 G_sees_b121)))))))))))))))))
theorem S_G_sees_b80 : ak_S cX9_sees RX9 5 1 3 70 (0, fun _ => 0) 80 (G_sees_b80) := by
  unfold G_sees_b80
  refine s_istore dX9_sees_80 (by decide) ?_
  refine s_iload dX9_sees_82 ?_
  refine s_ifeq (tgt := 120) dX9_sees_84 (by decide) ?_ ?_
  · exact S_G_sees_b120
  · refine s_aload_n dX9_sees_87 rfl ?_
    refine s_gp (C := RX9) (Tf := TX9) (N := 11) (i := 9) (j := 3) rfl (by decide) rfl (Or.inl wd_401) dX9_sees_88 ?_
    refine s_aload_n dX9_sees_91 rfl ?_
    refine s_gp (C := RX9) (Tf := TX9) (N := 11) (i := 9) (j := 1) rfl (by decide) rfl (Or.inl wd_397) dX9_sees_92 ?_
    refine s_iload_n dX9_sees_95 rfl ?_
    refine s_cv (C := RX8) (Tf := TX8) (N := 12) (i := 8) rfl M_State_seenFrom dX9_sees_96 rfl ⟨by decide +kernel, by decide +kernel, by decide +kernel⟩ (by decide) wd_467 wd_468 wd_74 (Or.inr ⟨_, wd_466⟩) ?_
    refine s_aload_n dX9_sees_99 rfl ?_
    refine s_gp (C := RX9) (Tf := TX9) (N := 11) (i := 9) (j := 3) rfl (by decide) rfl (Or.inl wd_401) dX9_sees_100 ?_
    refine s_gp (C := RX8) (Tf := TX8) (N := 12) (i := 8) (j := 11) rfl (by decide) rfl (Or.inr ⟨_, wd_464⟩) dX9_sees_103 ?_
    refine s_iload_n dX9_sees_106 rfl ?_
    refine s_cs M_G_at dX9_sees_107 ⟨by decide +kernel, by decide +kernel, by decide +kernel⟩ (by decide) wd_16 wd_10 (Or.inl ⟨wd_445, rfl⟩) ?_
    refine s_cs M_G_has dX9_sees_110 ⟨by decide +kernel, by decide +kernel, by decide +kernel⟩ (by decide) wd_258 wd_10 (Or.inl ⟨wd_469, rfl⟩) ?_
    refine s_ifeq (tgt := 120) dX9_sees_113 (by decide) ?_ ?_
    · exact S_G_sees_b120
    · refine s_iconst (x := 1) dX9_sees_116 (by decide +kernel) ?_
      refine s_goto (tgt := 121) dX9_sees_117 (by decide) ?_
      exact S_G_sees_b121
def G_sees_b79 : ak_K := (k_ci 0 G_sees_b80)
theorem S_G_sees_b79 : ak_S cX9_sees RX9 5 1 3 70 (0, fun _ => 0) 79 (G_sees_b79) := by
  unfold G_sees_b79
  refine s_iconst (x := 0) dX9_sees_79 (by decide +kernel) ?_
  exact S_G_sees_b80
def G_sees_b53 : ak_K := (k_il 3 (k_cv 2 2 House_mirrorsIn (k_b (fun x y => x &&& y) (k_ifeq G_sees_b79 (k_al 0 (k_gp 9 3 (k_gi 8 4 (k_il 3 (k_cs 2 G_has (k_ifeq (k_ci 1 G_sees_b80) G_sees_b79))))))))))
theorem S_G_sees_b53 : ak_S cX9_sees RX9 5 1 3 70 (0, fun _ => 0) 53 (G_sees_b53) := by
  unfold G_sees_b53
  refine s_iload_n dX9_sees_53 rfl ?_
  refine s_cv (C := RX2) (Tf := TX2) (N := 12) (i := 2) rfl M_House_mirrorsIn dX9_sees_54 rfl ⟨by decide +kernel, by decide +kernel, by decide +kernel⟩ (by decide) wd_471 wd_472 wd_194 (Or.inr ⟨_, wd_470⟩) ?_
  refine s_iand dX9_sees_57 ?_
  refine s_ifeq (tgt := 79) dX9_sees_58 (by decide) ?_ ?_
  · exact S_G_sees_b79
  · refine s_aload_n dX9_sees_61 rfl ?_
    refine s_gp (C := RX9) (Tf := TX9) (N := 11) (i := 9) (j := 3) rfl (by decide) rfl (Or.inl wd_401) dX9_sees_62 ?_
    refine s_gi (C := RX8) (Tf := TX8) (N := 12) (i := 8) (j := 4) rfl (by decide) rfl (Or.inr ⟨_, wd_437⟩) dX9_sees_65 ?_
    refine s_iload_n dX9_sees_68 rfl ?_
    refine s_cs M_G_has dX9_sees_69 ⟨by decide +kernel, by decide +kernel, by decide +kernel⟩ (by decide) wd_258 wd_10 (Or.inl ⟨wd_469, rfl⟩) ?_
    refine s_ifne (tgt := 79) dX9_sees_72 (by decide) ?_ ?_
    · refine s_iconst (x := 1) dX9_sees_75 (by decide +kernel) ?_
      refine s_goto (tgt := 80) dX9_sees_76 (by decide) ?_
      exact S_G_sees_b80
    · exact S_G_sees_b79
def G_sees_b0 : ak_K := (k_al 0 (k_gp 9 1 (k_il 1 (k_cv 2 2 House_hasPerson (k_ifeq G_sees_b27 (k_al 0 (k_gp 9 1 (k_il 2 (k_cv 2 2 House_hasPerson (k_ifeq G_sees_b27 (k_il 1 (k_il 2 (k_cmeq G_sees_b27 (k_al 0 (k_gp 9 3 (k_gp 8 11 (k_il 1 (k_cs 2 G_at (k_is 3 (k_al 0 (k_gp 9 3 (k_gi 8 2 (k_al 0 (k_gp 9 1 G_sees_b53))))))))))))))))))))))))
theorem S_G_sees_b0 : ak_S cX9_sees RX9 5 1 3 70 (0, fun _ => 0) 0 (G_sees_b0) := by
  unfold G_sees_b0
  refine s_aload_n dX9_sees_0 rfl ?_
  refine s_gp (C := RX9) (Tf := TX9) (N := 11) (i := 9) (j := 1) rfl (by decide) rfl (Or.inl wd_397) dX9_sees_1 ?_
  refine s_iload_n dX9_sees_4 rfl ?_
  refine s_cv (C := RX2) (Tf := TX2) (N := 12) (i := 2) rfl M_House_hasPerson dX9_sees_5 rfl ⟨by decide +kernel, by decide +kernel, by decide +kernel⟩ (by decide) wd_462 wd_463 wd_194 (Or.inr ⟨_, wd_461⟩) ?_
  refine s_ifeq (tgt := 27) dX9_sees_8 (by decide) ?_ ?_
  · exact S_G_sees_b27
  · refine s_aload_n dX9_sees_11 rfl ?_
    refine s_gp (C := RX9) (Tf := TX9) (N := 11) (i := 9) (j := 1) rfl (by decide) rfl (Or.inl wd_397) dX9_sees_12 ?_
    refine s_iload_n dX9_sees_15 rfl ?_
    refine s_cv (C := RX2) (Tf := TX2) (N := 12) (i := 2) rfl M_House_hasPerson dX9_sees_16 rfl ⟨by decide +kernel, by decide +kernel, by decide +kernel⟩ (by decide) wd_462 wd_463 wd_194 (Or.inr ⟨_, wd_461⟩) ?_
    refine s_ifeq (tgt := 27) dX9_sees_19 (by decide) ?_ ?_
    · exact S_G_sees_b27
    · refine s_iload_n dX9_sees_22 rfl ?_
      refine s_iload_n dX9_sees_23 rfl ?_
      refine s_cmne (tgt := 30) dX9_sees_24 (by decide) ?_ ?_
      · exact S_G_sees_b27
      · refine s_aload_n dX9_sees_30 rfl ?_
        refine s_gp (C := RX9) (Tf := TX9) (N := 11) (i := 9) (j := 3) rfl (by decide) rfl (Or.inl wd_401) dX9_sees_31 ?_
        refine s_gp (C := RX8) (Tf := TX8) (N := 12) (i := 8) (j := 11) rfl (by decide) rfl (Or.inr ⟨_, wd_464⟩) dX9_sees_34 ?_
        refine s_iload_n dX9_sees_37 rfl ?_
        refine s_cs M_G_at dX9_sees_38 ⟨by decide +kernel, by decide +kernel, by decide +kernel⟩ (by decide) wd_16 wd_10 (Or.inl ⟨wd_445, rfl⟩) ?_
        refine s_istore_n dX9_sees_41 rfl (by decide) ?_
        refine s_aload_n dX9_sees_42 rfl ?_
        refine s_gp (C := RX9) (Tf := TX9) (N := 11) (i := 9) (j := 3) rfl (by decide) rfl (Or.inl wd_401) dX9_sees_43 ?_
        refine s_gi (C := RX8) (Tf := TX8) (N := 12) (i := 8) (j := 2) rfl (by decide) rfl (Or.inr ⟨_, wd_435⟩) dX9_sees_46 ?_
        refine s_aload_n dX9_sees_49 rfl ?_
        refine s_gp (C := RX9) (Tf := TX9) (N := 11) (i := 9) (j := 1) rfl (by decide) rfl (Or.inl wd_397) dX9_sees_50 ?_
        exact S_G_sees_b53
def G_sees (As : List Value) (M : ak_M) : ak_R := match As with
  | [.ref a, .int x0, .int x1] => G_sees_b0 [some (.ref a), some (.int x0), some (.int x1), none, none] [] M
  | _ => none
theorem M_G_sees : ak_Mt yX9_sees cX9_sees 5 (some .int) 3 70 G_sees := by
  refine ak_met (rk := 1) wd_473 (by decide +kernel) rfl (Or.inr (Or.inl ⟨rfl, rfl⟩)) (fun h => absurd h (by decide)) S_G_sees_b0 (fun As M r h => ?_)
  unfold G_sees at h
  split at h
  next => exact ⟨Nat.le_of_ble_eq_true rfl, 2, h⟩
  next => cases h
-- GreetedMirrors.step(I)I
def G_step_b62 : ak_K := (k_gp 9 3 (k_cv 5 2 Past_push (k_al 0 (k_gp 9 3 (k_il 1 (k_pi 8 0 (k_al 0 (k_gp 9 3 (k_dup (k_gi 8 6 (k_ci 1 (k_b (fun x y => x + y) (k_pi 8 6 (k_al 0 (k_gp 9 3 (k_gi 8 6 k_ri))))))))))))))))
theorem S_G_step_b62 : ak_S cX9_step RX9 2 1 3 65 (0, fun _ => 0) 62 (G_step_b62) := by
  unfold G_step_b62
  refine s_gp (C := RX9) (Tf := TX9) (N := 11) (i := 9) (j := 3) rfl (by decide) rfl (Or.inl wd_401) dX9_step_62 ?_
  refine s_cv (C := RX5) (Tf := TX5) (N := 3) (i := 5) rfl M_Past_push dX9_step_65 rfl ⟨by decide +kernel, by decide +kernel, by decide +kernel⟩ (by decide) wd_475 wd_476 wd_137 (Or.inr ⟨_, wd_474⟩) ?_
  refine s_aload_n dX9_step_68 rfl ?_
  refine s_gp (C := RX9) (Tf := TX9) (N := 11) (i := 9) (j := 3) rfl (by decide) rfl (Or.inl wd_401) dX9_step_69 ?_
  refine s_iload_n dX9_step_72 rfl ?_
  refine s_pi (C := RX8) (Tf := TX8) (N := 12) (i := 8) (j := 0) rfl (by decide) rfl (Or.inr ⟨⟨_, wd_433⟩, rfl⟩) dX9_step_73 ?_
  refine s_aload_n dX9_step_76 rfl ?_
  refine s_gp (C := RX9) (Tf := TX9) (N := 11) (i := 9) (j := 3) rfl (by decide) rfl (Or.inl wd_401) dX9_step_77 ?_
  refine s_dup dX9_step_80 ?_
  refine s_gi (C := RX8) (Tf := TX8) (N := 12) (i := 8) (j := 6) rfl (by decide) rfl (Or.inr ⟨_, wd_439⟩) dX9_step_81 ?_
  refine s_iconst (x := 1) dX9_step_84 (by decide +kernel) ?_
  refine s_iadd dX9_step_85 ?_
  refine s_pi (C := RX8) (Tf := TX8) (N := 12) (i := 8) (j := 6) rfl (by decide) rfl (Or.inr ⟨⟨_, wd_439⟩, rfl⟩) dX9_step_86 ?_
  refine s_aload_n dX9_step_89 rfl ?_
  refine s_gp (C := RX9) (Tf := TX9) (N := 11) (i := 9) (j := 3) rfl (by decide) rfl (Or.inl wd_401) dX9_step_90 ?_
  refine s_gi (C := RX8) (Tf := TX8) (N := 12) (i := 8) (j := 6) rfl (by decide) rfl (Or.inr ⟨_, wd_439⟩) dX9_step_93 ?_
  exact s_ri rfl dX9_step_96
def G_step_b0 : ak_K := (k_al 0 (k_gp 9 1 (k_il 1 (k_cv 2 2 House_hasRoom (k_ifeq (k_ci (-1000000001) k_ri) (k_al 0 (k_gp 9 3 (k_al 0 (k_gp 9 1 (k_al 0 (k_gp 9 3 (k_gi 8 0 (k_cv 8 3 State_openBeside (k_il 1 (k_cs 2 G_has (k_ifeq (k_ci (-1000000003) k_ri) (k_al 0 (k_gp 9 3 (k_gi 8 6 (k_ci 90000 (k_cmle (k_al 0 (k_gp 9 4 (k_al 0 G_step_b62))) (k_ci (-1000000004) k_ri))))))))))))))))))))))
theorem S_G_step_b0 : ak_S cX9_step RX9 2 1 3 65 (0, fun _ => 0) 0 (G_step_b0) := by
  unfold G_step_b0
  refine s_aload_n dX9_step_0 rfl ?_
  refine s_gp (C := RX9) (Tf := TX9) (N := 11) (i := 9) (j := 1) rfl (by decide) rfl (Or.inl wd_397) dX9_step_1 ?_
  refine s_iload_n dX9_step_4 rfl ?_
  refine s_cv (C := RX2) (Tf := TX2) (N := 12) (i := 2) rfl M_House_hasRoom dX9_step_5 rfl ⟨by decide +kernel, by decide +kernel, by decide +kernel⟩ (by decide) wd_478 wd_479 wd_194 (Or.inr ⟨_, wd_477⟩) ?_
  refine s_ifne (tgt := 14) dX9_step_8 (by decide) ?_ ?_
  · refine s_ldc (x := (-1000000001)) dX9_step_11 wd_453 ?_
    exact s_ri rfl dX9_step_13
  · refine s_aload_n dX9_step_14 rfl ?_
    refine s_gp (C := RX9) (Tf := TX9) (N := 11) (i := 9) (j := 3) rfl (by decide) rfl (Or.inl wd_401) dX9_step_15 ?_
    refine s_aload_n dX9_step_18 rfl ?_
    refine s_gp (C := RX9) (Tf := TX9) (N := 11) (i := 9) (j := 1) rfl (by decide) rfl (Or.inl wd_397) dX9_step_19 ?_
    refine s_aload_n dX9_step_22 rfl ?_
    refine s_gp (C := RX9) (Tf := TX9) (N := 11) (i := 9) (j := 3) rfl (by decide) rfl (Or.inl wd_401) dX9_step_23 ?_
    refine s_gi (C := RX8) (Tf := TX8) (N := 12) (i := 8) (j := 0) rfl (by decide) rfl (Or.inr ⟨_, wd_433⟩) dX9_step_26 ?_
    refine s_cv (C := RX8) (Tf := TX8) (N := 12) (i := 8) rfl M_State_openBeside dX9_step_29 rfl ⟨by decide +kernel, by decide +kernel, by decide +kernel⟩ (by decide) wd_267 wd_268 wd_74 (Or.inr ⟨_, wd_480⟩) ?_
    refine s_iload_n dX9_step_32 rfl ?_
    refine s_cs M_G_has dX9_step_33 ⟨by decide +kernel, by decide +kernel, by decide +kernel⟩ (by decide) wd_258 wd_10 (Or.inl ⟨wd_469, rfl⟩) ?_
    refine s_ifne (tgt := 42) dX9_step_36 (by decide) ?_ ?_
    · refine s_ldc (x := (-1000000003)) dX9_step_39 wd_481 ?_
      exact s_ri rfl dX9_step_41
    · refine s_aload_n dX9_step_42 rfl ?_
      refine s_gp (C := RX9) (Tf := TX9) (N := 11) (i := 9) (j := 3) rfl (by decide) rfl (Or.inl wd_401) dX9_step_43 ?_
      refine s_gi (C := RX8) (Tf := TX8) (N := 12) (i := 8) (j := 6) rfl (by decide) rfl (Or.inr ⟨_, wd_439⟩) dX9_step_46 ?_
      refine s_ldc (x := 90000) dX9_step_49 wd_482 ?_
      refine s_cmle (tgt := 57) dX9_step_51 (by decide) ?_ ?_
      · refine s_aload_n dX9_step_57 rfl ?_
        refine s_gp (C := RX9) (Tf := TX9) (N := 11) (i := 9) (j := 4) rfl (by decide) rfl (Or.inl wd_369) dX9_step_58 ?_
        refine s_aload_n dX9_step_61 rfl ?_
        exact S_G_step_b62
      · refine s_ldc (x := (-1000000004)) dX9_step_54 wd_410 ?_
        exact s_ri rfl dX9_step_56
def G_step (As : List Value) (M : ak_M) : ak_R := match As with
  | [.ref a, .int x0] => G_step_b0 [some (.ref a), some (.int x0)] [] M
  | _ => none
theorem M_G_step : ak_Mt yX9_step cX9_step 2 (some .int) 3 65 G_step := by
  refine ak_met (rk := 1) wd_483 (by decide +kernel) rfl (Or.inr (Or.inl ⟨rfl, rfl⟩)) (fun h => absurd h (by decide)) S_G_step_b0 (fun As M r h => ?_)
  unfold G_step at h
  split at h
  next => exact ⟨Nat.le_of_ble_eq_true rfl, 0, h⟩
  next => cases h
-- GreetedMirrors.isName(I)Z
def G_isName_b15 : ak_K := k_rz
theorem S_G_isName_b15 : ak_S cX9_isName RX9 1 2 0 0 (0, fun _ => 0) 15 (G_isName_b15) := by
  unfold G_isName_b15
  exact s_rz rfl dX9_isName_15
def G_isName_b14 : ak_K := (k_ci 0 G_isName_b15)
theorem S_G_isName_b14 : ak_S cX9_isName RX9 1 2 0 0 (0, fun _ => 0) 14 (G_isName_b14) := by
  unfold G_isName_b14
  refine s_iconst (x := 0) dX9_isName_14 (by decide +kernel) ?_
  exact S_G_isName_b15
def G_isName_b0 : ak_K := (k_il 0 (k_iflt G_isName_b14 (k_il 0 (k_ci 10 (k_cmge G_isName_b14 (k_ci 1 G_isName_b15))))))
theorem S_G_isName_b0 : ak_S cX9_isName RX9 1 2 0 0 (0, fun _ => 0) 0 (G_isName_b0) := by
  unfold G_isName_b0
  refine s_iload_n dX9_isName_0 rfl ?_
  refine s_iflt (tgt := 14) dX9_isName_1 (by decide) ?_ ?_
  · exact S_G_isName_b14
  · refine s_iload_n dX9_isName_4 rfl ?_
    refine s_bipush (x := 10) dX9_isName_5 (by decide +kernel) ?_
    refine s_cmge (tgt := 14) dX9_isName_7 (by decide) ?_ ?_
    · exact S_G_isName_b14
    · refine s_iconst (x := 1) dX9_isName_10 (by decide +kernel) ?_
      refine s_goto (tgt := 15) dX9_isName_11 (by decide) ?_
      exact S_G_isName_b15
def G_isName (As : List Value) (M : ak_M) : ak_R := match As with
  | [.int x0] => G_isName_b0 [some (.int x0)] [] M
  | _ => none
theorem M_G_isName : ak_Mt yX9_isName cX9_isName 1 (some .boolean) 0 0 G_isName := by
  refine ak_met (rk := 2) wd_484 (by decide +kernel) rfl (Or.inr (Or.inr (Or.inl ⟨rfl, rfl⟩))) (fun h => absurd h (by decide)) S_G_isName_b0 (fun As M r h => ?_)
  unfold G_isName at h
  split at h
  next => exact ⟨Nat.le_of_ble_eq_true rfl, 0, h⟩
  next => cases h
-- GreetedMirrors.greet(II)I
def G_greet_b18 : ak_K := (k_ci (-1000000001) k_ri)
theorem S_G_greet_b18 : ak_S cX9_greet RX9 3 1 4 90 (0, fun _ => 0) 18 (G_greet_b18) := by
  unfold G_greet_b18
  refine s_ldc (x := (-1000000001)) dX9_greet_18 wd_453 ?_
  exact s_ri rfl dX9_greet_20
def G_greet_b56 : ak_K := (k_ci (-1000000003) k_ri)
theorem S_G_greet_b56 : ak_S cX9_greet RX9 3 1 4 90 (0, fun _ => 0) 56 (G_greet_b56) := by
  unfold G_greet_b56
  refine s_ldc (x := (-1000000003)) dX9_greet_56 wd_481 ?_
  exact s_ri rfl dX9_greet_58
def G_greet_b126 : ak_K := k_ri
theorem S_G_greet_b126 : ak_S cX9_greet RX9 3 1 4 90 (0, fun _ => 0) 126 (G_greet_b126) := by
  unfold G_greet_b126
  exact s_ri rfl dX9_greet_126
def G_greet_b114 : ak_K := (k_il 2 (k_cv 8 4 State_hear (k_ifeq (k_ci 0 G_greet_b126) (k_ci 1 G_greet_b126))))
theorem S_G_greet_b114 : ak_S cX9_greet RX9 3 1 4 90 (0, fun _ => 0) 114 (G_greet_b114) := by
  unfold G_greet_b114
  refine s_iload_n dX9_greet_114 rfl ?_
  refine s_cv (C := RX8) (Tf := TX8) (N := 12) (i := 8) rfl M_State_hear dX9_greet_115 rfl ⟨by decide +kernel, by decide +kernel, by decide +kernel⟩ (by decide) wd_486 wd_487 wd_74 (Or.inr ⟨_, wd_485⟩) ?_
  refine s_ifeq (tgt := 125) dX9_greet_118 (by decide) ?_ ?_
  · refine s_iconst (x := 0) dX9_greet_125 (by decide +kernel) ?_
    exact S_G_greet_b126
  · refine s_iconst (x := 1) dX9_greet_121 (by decide +kernel) ?_
    refine s_goto (tgt := 126) dX9_greet_122 (by decide) ?_
    exact S_G_greet_b126
def G_greet_b60 : ak_K := (k_gp 9 3 (k_gi 8 6 (k_ci 90000 (k_cmle (k_al 0 (k_gp 9 4 (k_al 0 (k_gp 9 3 (k_cv 5 2 Past_push (k_al 0 (k_gp 9 3 (k_dup (k_gi 8 6 (k_al 0 (k_gp 9 1 (k_il 2 (k_cv 2 2 House_breathOf (k_b (fun x y => x + y) (k_pi 8 6 (k_al 0 (k_gp 9 3 (k_al 0 (k_gp 9 1 (k_il 1 G_greet_b114)))))))))))))))))))) (k_ci (-1000000004) k_ri)))))
theorem S_G_greet_b60 : ak_S cX9_greet RX9 3 1 4 90 (0, fun _ => 0) 60 (G_greet_b60) := by
  unfold G_greet_b60
  refine s_gp (C := RX9) (Tf := TX9) (N := 11) (i := 9) (j := 3) rfl (by decide) rfl (Or.inl wd_401) dX9_greet_60 ?_
  refine s_gi (C := RX8) (Tf := TX8) (N := 12) (i := 8) (j := 6) rfl (by decide) rfl (Or.inr ⟨_, wd_439⟩) dX9_greet_63 ?_
  refine s_ldc (x := 90000) dX9_greet_66 wd_482 ?_
  refine s_cmle (tgt := 74) dX9_greet_68 (by decide) ?_ ?_
  · refine s_aload_n dX9_greet_74 rfl ?_
    refine s_gp (C := RX9) (Tf := TX9) (N := 11) (i := 9) (j := 4) rfl (by decide) rfl (Or.inl wd_369) dX9_greet_75 ?_
    refine s_aload_n dX9_greet_78 rfl ?_
    refine s_gp (C := RX9) (Tf := TX9) (N := 11) (i := 9) (j := 3) rfl (by decide) rfl (Or.inl wd_401) dX9_greet_79 ?_
    refine s_cv (C := RX5) (Tf := TX5) (N := 3) (i := 5) rfl M_Past_push dX9_greet_82 rfl ⟨by decide +kernel, by decide +kernel, by decide +kernel⟩ (by decide) wd_475 wd_476 wd_137 (Or.inr ⟨_, wd_474⟩) ?_
    refine s_aload_n dX9_greet_85 rfl ?_
    refine s_gp (C := RX9) (Tf := TX9) (N := 11) (i := 9) (j := 3) rfl (by decide) rfl (Or.inl wd_401) dX9_greet_86 ?_
    refine s_dup dX9_greet_89 ?_
    refine s_gi (C := RX8) (Tf := TX8) (N := 12) (i := 8) (j := 6) rfl (by decide) rfl (Or.inr ⟨_, wd_439⟩) dX9_greet_90 ?_
    refine s_aload_n dX9_greet_93 rfl ?_
    refine s_gp (C := RX9) (Tf := TX9) (N := 11) (i := 9) (j := 1) rfl (by decide) rfl (Or.inl wd_397) dX9_greet_94 ?_
    refine s_iload_n dX9_greet_97 rfl ?_
    refine s_cv (C := RX2) (Tf := TX2) (N := 12) (i := 2) rfl M_House_breathOf dX9_greet_98 rfl ⟨by decide +kernel, by decide +kernel, by decide +kernel⟩ (by decide) wd_327 wd_328 wd_194 (Or.inr ⟨_, wd_488⟩) ?_
    refine s_iadd dX9_greet_101 ?_
    refine s_pi (C := RX8) (Tf := TX8) (N := 12) (i := 8) (j := 6) rfl (by decide) rfl (Or.inr ⟨⟨_, wd_439⟩, rfl⟩) dX9_greet_102 ?_
    refine s_aload_n dX9_greet_105 rfl ?_
    refine s_gp (C := RX9) (Tf := TX9) (N := 11) (i := 9) (j := 3) rfl (by decide) rfl (Or.inl wd_401) dX9_greet_106 ?_
    refine s_aload_n dX9_greet_109 rfl ?_
    refine s_gp (C := RX9) (Tf := TX9) (N := 11) (i := 9) (j := 1) rfl (by decide) rfl (Or.inl wd_397) dX9_greet_110 ?_
    refine s_iload_n dX9_greet_113 rfl ?_
    exact S_G_greet_b114
  · refine s_ldc (x := (-1000000004)) dX9_greet_71 wd_410 ?_
    exact s_ri rfl dX9_greet_73
def G_greet_b0 : ak_K := (k_al 0 (k_gp 9 1 (k_il 1 (k_cv 2 2 House_hasMirror (k_ifeq G_greet_b18 (k_il 2 (k_cs 1 G_isName (k_ifeq G_greet_b18 (k_al 0 (k_gp 9 1 (k_gp 2 7 (k_il 1 (k_cs 2 G_at (k_al 0 (k_gp 9 3 (k_gi 8 0 (k_cmeq (k_al 0 (k_gp 9 3 (k_gi 8 1 (k_il 2 (k_cs 2 G_has (k_ifeq G_greet_b56 (k_al 0 G_greet_b60))))))) G_greet_b56)))))))))))))))))
theorem S_G_greet_b0 : ak_S cX9_greet RX9 3 1 4 90 (0, fun _ => 0) 0 (G_greet_b0) := by
  unfold G_greet_b0
  refine s_aload_n dX9_greet_0 rfl ?_
  refine s_gp (C := RX9) (Tf := TX9) (N := 11) (i := 9) (j := 1) rfl (by decide) rfl (Or.inl wd_397) dX9_greet_1 ?_
  refine s_iload_n dX9_greet_4 rfl ?_
  refine s_cv (C := RX2) (Tf := TX2) (N := 12) (i := 2) rfl M_House_hasMirror dX9_greet_5 rfl ⟨by decide +kernel, by decide +kernel, by decide +kernel⟩ (by decide) wd_451 wd_452 wd_194 (Or.inr ⟨_, wd_450⟩) ?_
  refine s_ifeq (tgt := 18) dX9_greet_8 (by decide) ?_ ?_
  · exact S_G_greet_b18
  · refine s_iload_n dX9_greet_11 rfl ?_
    refine s_cs M_G_isName dX9_greet_12 ⟨by decide +kernel, by decide +kernel, by decide +kernel⟩ (by decide) wd_490 wd_10 (Or.inl ⟨wd_489, rfl⟩) ?_
    refine s_ifne (tgt := 21) dX9_greet_15 (by decide) ?_ ?_
    · exact S_G_greet_b18
    · refine s_aload_n dX9_greet_21 rfl ?_
      refine s_gp (C := RX9) (Tf := TX9) (N := 11) (i := 9) (j := 1) rfl (by decide) rfl (Or.inl wd_397) dX9_greet_22 ?_
      refine s_gp (C := RX2) (Tf := TX2) (N := 12) (i := 2) (j := 7) rfl (by decide) rfl (Or.inr ⟨_, wd_444⟩) dX9_greet_25 ?_
      refine s_iload_n dX9_greet_28 rfl ?_
      refine s_cs M_G_at dX9_greet_29 ⟨by decide +kernel, by decide +kernel, by decide +kernel⟩ (by decide) wd_16 wd_10 (Or.inl ⟨wd_445, rfl⟩) ?_
      refine s_aload_n dX9_greet_32 rfl ?_
      refine s_gp (C := RX9) (Tf := TX9) (N := 11) (i := 9) (j := 3) rfl (by decide) rfl (Or.inl wd_401) dX9_greet_33 ?_
      refine s_gi (C := RX8) (Tf := TX8) (N := 12) (i := 8) (j := 0) rfl (by decide) rfl (Or.inr ⟨_, wd_433⟩) dX9_greet_36 ?_
      refine s_cmne (tgt := 56) dX9_greet_39 (by decide) ?_ ?_
      · refine s_aload_n dX9_greet_42 rfl ?_
        refine s_gp (C := RX9) (Tf := TX9) (N := 11) (i := 9) (j := 3) rfl (by decide) rfl (Or.inl wd_401) dX9_greet_43 ?_
        refine s_gi (C := RX8) (Tf := TX8) (N := 12) (i := 8) (j := 1) rfl (by decide) rfl (Or.inr ⟨_, wd_434⟩) dX9_greet_46 ?_
        refine s_iload_n dX9_greet_49 rfl ?_
        refine s_cs M_G_has dX9_greet_50 ⟨by decide +kernel, by decide +kernel, by decide +kernel⟩ (by decide) wd_258 wd_10 (Or.inl ⟨wd_469, rfl⟩) ?_
        refine s_ifne (tgt := 59) dX9_greet_53 (by decide) ?_ ?_
        · exact S_G_greet_b56
        · refine s_aload_n dX9_greet_59 rfl ?_
          exact S_G_greet_b60
      · exact S_G_greet_b56
def G_greet (As : List Value) (M : ak_M) : ak_R := match As with
  | [.ref a, .int x0, .int x1] => G_greet_b0 [some (.ref a), some (.int x0), some (.int x1)] [] M
  | _ => none
theorem M_G_greet : ak_Mt yX9_greet cX9_greet 3 (some .int) 4 90 G_greet := by
  refine ak_met (rk := 1) wd_491 (by decide +kernel) rfl (Or.inr (Or.inl ⟨rfl, rfl⟩)) (fun h => absurd h (by decide)) S_G_greet_b0 (fun As M r h => ?_)
  unfold G_greet at h
  split at h
  next => exact ⟨Nat.le_of_ble_eq_true rfl, 0, h⟩
  next => cases h
-- GreetedMirrors.steam(IZ)I
def G_steam_b44 : ak_K := (k_is 3 (k_al 0 (k_gp 9 3 (k_al 0 (k_gp 9 3 (k_gi 8 4 (k_il 1 (k_il 2 (k_cs 3 G_with (k_pi 8 4 (k_il 3 k_ri)))))))))))
theorem S_G_steam_b44 : ak_S cX9_steam RX9 4 1 3 65 (0, fun _ => 0) 44 (G_steam_b44) := by
  unfold G_steam_b44
  refine s_istore_n dX9_steam_44 rfl (by decide) ?_
  refine s_aload_n dX9_steam_45 rfl ?_
  refine s_gp (C := RX9) (Tf := TX9) (N := 11) (i := 9) (j := 3) rfl (by decide) rfl (Or.inl wd_401) dX9_steam_46 ?_
  refine s_aload_n dX9_steam_49 rfl ?_
  refine s_gp (C := RX9) (Tf := TX9) (N := 11) (i := 9) (j := 3) rfl (by decide) rfl (Or.inl wd_401) dX9_steam_50 ?_
  refine s_gi (C := RX8) (Tf := TX8) (N := 12) (i := 8) (j := 4) rfl (by decide) rfl (Or.inr ⟨_, wd_437⟩) dX9_steam_53 ?_
  refine s_iload_n dX9_steam_56 rfl ?_
  refine s_iload_n dX9_steam_57 rfl ?_
  refine s_cs M_G_with dX9_steam_58 ⟨by decide +kernel, by decide +kernel, by decide +kernel⟩ (by decide) wd_52 wd_10 (Or.inl ⟨wd_492, rfl⟩) ?_
  refine s_pi (C := RX8) (Tf := TX8) (N := 12) (i := 8) (j := 4) rfl (by decide) rfl (Or.inr ⟨⟨_, wd_437⟩, rfl⟩) dX9_steam_61 ?_
  refine s_iload_n dX9_steam_64 rfl ?_
  exact s_ri rfl dX9_steam_65
def G_steam_b0 : ak_K := (k_al 0 (k_gp 9 1 (k_il 1 (k_cv 2 2 House_hasRoom (k_ifeq (k_ci (-1000000001) k_ri) (k_al 0 (k_gp 9 4 (k_al 0 (k_gp 9 3 (k_cv 5 2 Past_push (k_al 0 (k_gp 9 3 (k_gi 8 4 (k_il 1 (k_cs 2 G_has (k_ifeq (k_ci 0 G_steam_b44) (k_ci 1 G_steam_b44)))))))))))))))))
theorem S_G_steam_b0 : ak_S cX9_steam RX9 4 1 3 65 (0, fun _ => 0) 0 (G_steam_b0) := by
  unfold G_steam_b0
  refine s_aload_n dX9_steam_0 rfl ?_
  refine s_gp (C := RX9) (Tf := TX9) (N := 11) (i := 9) (j := 1) rfl (by decide) rfl (Or.inl wd_397) dX9_steam_1 ?_
  refine s_iload_n dX9_steam_4 rfl ?_
  refine s_cv (C := RX2) (Tf := TX2) (N := 12) (i := 2) rfl M_House_hasRoom dX9_steam_5 rfl ⟨by decide +kernel, by decide +kernel, by decide +kernel⟩ (by decide) wd_478 wd_479 wd_194 (Or.inr ⟨_, wd_477⟩) ?_
  refine s_ifne (tgt := 14) dX9_steam_8 (by decide) ?_ ?_
  · refine s_ldc (x := (-1000000001)) dX9_steam_11 wd_453 ?_
    exact s_ri rfl dX9_steam_13
  · refine s_aload_n dX9_steam_14 rfl ?_
    refine s_gp (C := RX9) (Tf := TX9) (N := 11) (i := 9) (j := 4) rfl (by decide) rfl (Or.inl wd_369) dX9_steam_15 ?_
    refine s_aload_n dX9_steam_18 rfl ?_
    refine s_gp (C := RX9) (Tf := TX9) (N := 11) (i := 9) (j := 3) rfl (by decide) rfl (Or.inl wd_401) dX9_steam_19 ?_
    refine s_cv (C := RX5) (Tf := TX5) (N := 3) (i := 5) rfl M_Past_push dX9_steam_22 rfl ⟨by decide +kernel, by decide +kernel, by decide +kernel⟩ (by decide) wd_475 wd_476 wd_137 (Or.inr ⟨_, wd_474⟩) ?_
    refine s_aload_n dX9_steam_25 rfl ?_
    refine s_gp (C := RX9) (Tf := TX9) (N := 11) (i := 9) (j := 3) rfl (by decide) rfl (Or.inl wd_401) dX9_steam_26 ?_
    refine s_gi (C := RX8) (Tf := TX8) (N := 12) (i := 8) (j := 4) rfl (by decide) rfl (Or.inr ⟨_, wd_437⟩) dX9_steam_29 ?_
    refine s_iload_n dX9_steam_32 rfl ?_
    refine s_cs M_G_has dX9_steam_33 ⟨by decide +kernel, by decide +kernel, by decide +kernel⟩ (by decide) wd_258 wd_10 (Or.inl ⟨wd_469, rfl⟩) ?_
    refine s_ifeq (tgt := 43) dX9_steam_36 (by decide) ?_ ?_
    · refine s_iconst (x := 0) dX9_steam_43 (by decide +kernel) ?_
      exact S_G_steam_b44
    · refine s_iconst (x := 1) dX9_steam_39 (by decide +kernel) ?_
      refine s_goto (tgt := 44) dX9_steam_40 (by decide) ?_
      exact S_G_steam_b44
def G_steam (As : List Value) (M : ak_M) : ak_R := match As with
  | [.ref a, .int x0, .int x1] => G_steam_b0 [some (.ref a), some (.int x0), some (.int x1), none] [] M
  | _ => none
theorem M_G_steam : ak_Mt yX9_steam cX9_steam 4 (some .int) 3 65 G_steam := by
  refine ak_met (rk := 1) wd_493 (by decide +kernel) rfl (Or.inr (Or.inl ⟨rfl, rfl⟩)) (fun h => absurd h (by decide)) S_G_steam_b0 (fun As M r h => ?_)
  unfold G_steam at h
  split at h
  next => exact ⟨Nat.le_of_ble_eq_true rfl, 1, h⟩
  next => cases h
-- GreetedMirrors.door(IZ)I
def G_door_b44 : ak_K := (k_is 3 (k_al 0 (k_gp 9 3 (k_al 0 (k_gp 9 3 (k_gi 8 5 (k_il 1 (k_il 2 (k_cs 3 G_with (k_pi 8 5 (k_il 3 k_ri)))))))))))
theorem S_G_door_b44 : ak_S cX9_door RX9 4 1 3 65 (0, fun _ => 0) 44 (G_door_b44) := by
  unfold G_door_b44
  refine s_istore_n dX9_door_44 rfl (by decide) ?_
  refine s_aload_n dX9_door_45 rfl ?_
  refine s_gp (C := RX9) (Tf := TX9) (N := 11) (i := 9) (j := 3) rfl (by decide) rfl (Or.inl wd_401) dX9_door_46 ?_
  refine s_aload_n dX9_door_49 rfl ?_
  refine s_gp (C := RX9) (Tf := TX9) (N := 11) (i := 9) (j := 3) rfl (by decide) rfl (Or.inl wd_401) dX9_door_50 ?_
  refine s_gi (C := RX8) (Tf := TX8) (N := 12) (i := 8) (j := 5) rfl (by decide) rfl (Or.inr ⟨_, wd_438⟩) dX9_door_53 ?_
  refine s_iload_n dX9_door_56 rfl ?_
  refine s_iload_n dX9_door_57 rfl ?_
  refine s_cs M_G_with dX9_door_58 ⟨by decide +kernel, by decide +kernel, by decide +kernel⟩ (by decide) wd_52 wd_10 (Or.inl ⟨wd_492, rfl⟩) ?_
  refine s_pi (C := RX8) (Tf := TX8) (N := 12) (i := 8) (j := 5) rfl (by decide) rfl (Or.inr ⟨⟨_, wd_438⟩, rfl⟩) dX9_door_61 ?_
  refine s_iload_n dX9_door_64 rfl ?_
  exact s_ri rfl dX9_door_65
def G_door_b0 : ak_K := (k_al 0 (k_gp 9 1 (k_il 1 (k_cv 2 2 House_hasDoor (k_ifeq (k_ci (-1000000001) k_ri) (k_al 0 (k_gp 9 4 (k_al 0 (k_gp 9 3 (k_cv 5 2 Past_push (k_al 0 (k_gp 9 3 (k_gi 8 5 (k_il 1 (k_cs 2 G_has (k_ifeq (k_ci 0 G_door_b44) (k_ci 1 G_door_b44)))))))))))))))))
theorem S_G_door_b0 : ak_S cX9_door RX9 4 1 3 65 (0, fun _ => 0) 0 (G_door_b0) := by
  unfold G_door_b0
  refine s_aload_n dX9_door_0 rfl ?_
  refine s_gp (C := RX9) (Tf := TX9) (N := 11) (i := 9) (j := 1) rfl (by decide) rfl (Or.inl wd_397) dX9_door_1 ?_
  refine s_iload_n dX9_door_4 rfl ?_
  refine s_cv (C := RX2) (Tf := TX2) (N := 12) (i := 2) rfl M_House_hasDoor dX9_door_5 rfl ⟨by decide +kernel, by decide +kernel, by decide +kernel⟩ (by decide) wd_458 wd_459 wd_194 (Or.inr ⟨_, wd_457⟩) ?_
  refine s_ifne (tgt := 14) dX9_door_8 (by decide) ?_ ?_
  · refine s_ldc (x := (-1000000001)) dX9_door_11 wd_453 ?_
    exact s_ri rfl dX9_door_13
  · refine s_aload_n dX9_door_14 rfl ?_
    refine s_gp (C := RX9) (Tf := TX9) (N := 11) (i := 9) (j := 4) rfl (by decide) rfl (Or.inl wd_369) dX9_door_15 ?_
    refine s_aload_n dX9_door_18 rfl ?_
    refine s_gp (C := RX9) (Tf := TX9) (N := 11) (i := 9) (j := 3) rfl (by decide) rfl (Or.inl wd_401) dX9_door_19 ?_
    refine s_cv (C := RX5) (Tf := TX5) (N := 3) (i := 5) rfl M_Past_push dX9_door_22 rfl ⟨by decide +kernel, by decide +kernel, by decide +kernel⟩ (by decide) wd_475 wd_476 wd_137 (Or.inr ⟨_, wd_474⟩) ?_
    refine s_aload_n dX9_door_25 rfl ?_
    refine s_gp (C := RX9) (Tf := TX9) (N := 11) (i := 9) (j := 3) rfl (by decide) rfl (Or.inl wd_401) dX9_door_26 ?_
    refine s_gi (C := RX8) (Tf := TX8) (N := 12) (i := 8) (j := 5) rfl (by decide) rfl (Or.inr ⟨_, wd_438⟩) dX9_door_29 ?_
    refine s_iload_n dX9_door_32 rfl ?_
    refine s_cs M_G_has dX9_door_33 ⟨by decide +kernel, by decide +kernel, by decide +kernel⟩ (by decide) wd_258 wd_10 (Or.inl ⟨wd_469, rfl⟩) ?_
    refine s_ifeq (tgt := 43) dX9_door_36 (by decide) ?_ ?_
    · refine s_iconst (x := 0) dX9_door_43 (by decide +kernel) ?_
      exact S_G_door_b44
    · refine s_iconst (x := 1) dX9_door_39 (by decide +kernel) ?_
      refine s_goto (tgt := 44) dX9_door_40 (by decide) ?_
      exact S_G_door_b44
def G_door (As : List Value) (M : ak_M) : ak_R := match As with
  | [.ref a, .int x0, .int x1] => G_door_b0 [some (.ref a), some (.int x0), some (.int x1), none] [] M
  | _ => none
theorem M_G_door : ak_Mt yX9_door cX9_door 4 (some .int) 3 65 G_door := by
  refine ak_met (rk := 1) wd_494 (by decide +kernel) rfl (Or.inr (Or.inl ⟨rfl, rfl⟩)) (fun h => absurd h (by decide)) S_G_door_b0 (fun As M r h => ?_)
  unfold G_door at h
  split at h
  next => exact ⟨Nat.le_of_ble_eq_true rfl, 1, h⟩
  next => cases h
-- GreetedMirrors.night()I
def G_night_b60 : ak_K := (k_ci 0 (k_pi 8 4 (k_al 0 (k_gp 9 3 (k_dup (k_gi 8 7 (k_ci 1 (k_b (fun x y => x + y) (k_pi 8 7 (k_al 0 (k_gp 9 3 (k_gi 8 7 k_ri))))))))))))
theorem S_G_night_b60 : ak_S cX9_night RX9 1 1 3 65 (0, fun _ => 0) 60 (G_night_b60) := by
  unfold G_night_b60
  refine s_iconst (x := 0) dX9_night_60 (by decide +kernel) ?_
  refine s_pi (C := RX8) (Tf := TX8) (N := 12) (i := 8) (j := 4) rfl (by decide) rfl (Or.inr ⟨⟨_, wd_437⟩, rfl⟩) dX9_night_61 ?_
  refine s_aload_n dX9_night_64 rfl ?_
  refine s_gp (C := RX9) (Tf := TX9) (N := 11) (i := 9) (j := 3) rfl (by decide) rfl (Or.inl wd_401) dX9_night_65 ?_
  refine s_dup dX9_night_68 ?_
  refine s_gi (C := RX8) (Tf := TX8) (N := 12) (i := 8) (j := 7) rfl (by decide) rfl (Or.inr ⟨_, wd_440⟩) dX9_night_69 ?_
  refine s_iconst (x := 1) dX9_night_72 (by decide +kernel) ?_
  refine s_iadd dX9_night_73 ?_
  refine s_pi (C := RX8) (Tf := TX8) (N := 12) (i := 8) (j := 7) rfl (by decide) rfl (Or.inr ⟨⟨_, wd_440⟩, rfl⟩) dX9_night_74 ?_
  refine s_aload_n dX9_night_77 rfl ?_
  refine s_gp (C := RX9) (Tf := TX9) (N := 11) (i := 9) (j := 3) rfl (by decide) rfl (Or.inl wd_401) dX9_night_78 ?_
  refine s_gi (C := RX8) (Tf := TX8) (N := 12) (i := 8) (j := 7) rfl (by decide) rfl (Or.inr ⟨_, wd_440⟩) dX9_night_81 ?_
  exact s_ri rfl dX9_night_84
def G_night_b0 : ak_K := (k_al 0 (k_gp 9 1 (k_gi 2 0 (k_ifeq (k_ci (-1000000003) k_ri) (k_al 0 (k_gp 9 3 (k_gi 8 7 (k_ci 9000 (k_cmle (k_al 0 (k_gp 9 4 (k_al 0 (k_gp 9 3 (k_cv 5 2 Past_push (k_al 0 (k_gp 9 3 (k_ci 0 (k_pi 8 2 (k_al 0 (k_gp 9 3 (k_ci 0 (k_pi 8 3 (k_al 0 (k_gp 9 3 G_night_b60))))))))))))))) (k_ci (-1000000004) k_ri))))))))))
theorem S_G_night_b0 : ak_S cX9_night RX9 1 1 3 65 (0, fun _ => 0) 0 (G_night_b0) := by
  unfold G_night_b0
  refine s_aload_n dX9_night_0 rfl ?_
  refine s_gp (C := RX9) (Tf := TX9) (N := 11) (i := 9) (j := 1) rfl (by decide) rfl (Or.inl wd_397) dX9_night_1 ?_
  refine s_gi (C := RX2) (Tf := TX2) (N := 12) (i := 2) (j := 0) rfl (by decide) rfl (Or.inr ⟨_, wd_430⟩) dX9_night_4 ?_
  refine s_ifne (tgt := 13) dX9_night_7 (by decide) ?_ ?_
  · refine s_ldc (x := (-1000000003)) dX9_night_10 wd_481 ?_
    exact s_ri rfl dX9_night_12
  · refine s_aload_n dX9_night_13 rfl ?_
    refine s_gp (C := RX9) (Tf := TX9) (N := 11) (i := 9) (j := 3) rfl (by decide) rfl (Or.inl wd_401) dX9_night_14 ?_
    refine s_gi (C := RX8) (Tf := TX8) (N := 12) (i := 8) (j := 7) rfl (by decide) rfl (Or.inr ⟨_, wd_440⟩) dX9_night_17 ?_
    refine s_sipush (x := 9000) dX9_night_20 (by decide +kernel) ?_
    refine s_cmle (tgt := 29) dX9_night_23 (by decide) ?_ ?_
    · refine s_aload_n dX9_night_29 rfl ?_
      refine s_gp (C := RX9) (Tf := TX9) (N := 11) (i := 9) (j := 4) rfl (by decide) rfl (Or.inl wd_369) dX9_night_30 ?_
      refine s_aload_n dX9_night_33 rfl ?_
      refine s_gp (C := RX9) (Tf := TX9) (N := 11) (i := 9) (j := 3) rfl (by decide) rfl (Or.inl wd_401) dX9_night_34 ?_
      refine s_cv (C := RX5) (Tf := TX5) (N := 3) (i := 5) rfl M_Past_push dX9_night_37 rfl ⟨by decide +kernel, by decide +kernel, by decide +kernel⟩ (by decide) wd_475 wd_476 wd_137 (Or.inr ⟨_, wd_474⟩) ?_
      refine s_aload_n dX9_night_40 rfl ?_
      refine s_gp (C := RX9) (Tf := TX9) (N := 11) (i := 9) (j := 3) rfl (by decide) rfl (Or.inl wd_401) dX9_night_41 ?_
      refine s_iconst (x := 0) dX9_night_44 (by decide +kernel) ?_
      refine s_pi (C := RX8) (Tf := TX8) (N := 12) (i := 8) (j := 2) rfl (by decide) rfl (Or.inr ⟨⟨_, wd_435⟩, rfl⟩) dX9_night_45 ?_
      refine s_aload_n dX9_night_48 rfl ?_
      refine s_gp (C := RX9) (Tf := TX9) (N := 11) (i := 9) (j := 3) rfl (by decide) rfl (Or.inl wd_401) dX9_night_49 ?_
      refine s_iconst (x := 0) dX9_night_52 (by decide +kernel) ?_
      refine s_pi (C := RX8) (Tf := TX8) (N := 12) (i := 8) (j := 3) rfl (by decide) rfl (Or.inr ⟨⟨_, wd_436⟩, rfl⟩) dX9_night_53 ?_
      refine s_aload_n dX9_night_56 rfl ?_
      refine s_gp (C := RX9) (Tf := TX9) (N := 11) (i := 9) (j := 3) rfl (by decide) rfl (Or.inl wd_401) dX9_night_57 ?_
      exact S_G_night_b60
    · refine s_ldc (x := (-1000000004)) dX9_night_26 wd_410 ?_
      exact s_ri rfl dX9_night_28
def G_night (As : List Value) (M : ak_M) : ak_R := match As with
  | [.ref a] => G_night_b0 [some (.ref a)] [] M
  | _ => none
theorem M_G_night : ak_Mt yX9_night cX9_night 1 (some .int) 3 65 G_night := by
  refine ak_met (rk := 1) wd_495 (by decide +kernel) rfl (Or.inr (Or.inl ⟨rfl, rfl⟩)) (fun h => absurd h (by decide)) S_G_night_b0 (fun As M r h => ?_)
  unfold G_night at h
  split at h
  next => exact ⟨Nat.le_of_ble_eq_true rfl, 0, h⟩
  next => cases h
-- GreetedMirrors.envelope(I)I
def G_envelope_b0 : ak_K := (k_il 1 (k_cs 1 G_isName (k_ifeq (k_ci (-1000000001) k_ri) (k_al 0 (k_gp 9 4 (k_al 0 (k_gp 9 3 (k_cv 5 2 Past_push (k_al 0 (k_gp 9 3 (k_al 0 (k_gp 9 3 (k_gi 8 1 (k_il 1 (k_ci 1 (k_cs 3 G_with (k_pi 8 1 (k_al 0 (k_gp 9 3 (k_gi 8 1 k_ri))))))))))))))))))))
theorem S_G_envelope_b0 : ak_S cX9_envelope RX9 2 1 3 65 (0, fun _ => 0) 0 (G_envelope_b0) := by
  unfold G_envelope_b0
  refine s_iload_n dX9_envelope_0 rfl ?_
  refine s_cs M_G_isName dX9_envelope_1 ⟨by decide +kernel, by decide +kernel, by decide +kernel⟩ (by decide) wd_490 wd_10 (Or.inl ⟨wd_489, rfl⟩) ?_
  refine s_ifne (tgt := 10) dX9_envelope_4 (by decide) ?_ ?_
  · refine s_ldc (x := (-1000000001)) dX9_envelope_7 wd_453 ?_
    exact s_ri rfl dX9_envelope_9
  · refine s_aload_n dX9_envelope_10 rfl ?_
    refine s_gp (C := RX9) (Tf := TX9) (N := 11) (i := 9) (j := 4) rfl (by decide) rfl (Or.inl wd_369) dX9_envelope_11 ?_
    refine s_aload_n dX9_envelope_14 rfl ?_
    refine s_gp (C := RX9) (Tf := TX9) (N := 11) (i := 9) (j := 3) rfl (by decide) rfl (Or.inl wd_401) dX9_envelope_15 ?_
    refine s_cv (C := RX5) (Tf := TX5) (N := 3) (i := 5) rfl M_Past_push dX9_envelope_18 rfl ⟨by decide +kernel, by decide +kernel, by decide +kernel⟩ (by decide) wd_475 wd_476 wd_137 (Or.inr ⟨_, wd_474⟩) ?_
    refine s_aload_n dX9_envelope_21 rfl ?_
    refine s_gp (C := RX9) (Tf := TX9) (N := 11) (i := 9) (j := 3) rfl (by decide) rfl (Or.inl wd_401) dX9_envelope_22 ?_
    refine s_aload_n dX9_envelope_25 rfl ?_
    refine s_gp (C := RX9) (Tf := TX9) (N := 11) (i := 9) (j := 3) rfl (by decide) rfl (Or.inl wd_401) dX9_envelope_26 ?_
    refine s_gi (C := RX8) (Tf := TX8) (N := 12) (i := 8) (j := 1) rfl (by decide) rfl (Or.inr ⟨_, wd_434⟩) dX9_envelope_29 ?_
    refine s_iload_n dX9_envelope_32 rfl ?_
    refine s_iconst (x := 1) dX9_envelope_33 (by decide +kernel) ?_
    refine s_cs M_G_with dX9_envelope_34 ⟨by decide +kernel, by decide +kernel, by decide +kernel⟩ (by decide) wd_52 wd_10 (Or.inl ⟨wd_492, rfl⟩) ?_
    refine s_pi (C := RX8) (Tf := TX8) (N := 12) (i := 8) (j := 1) rfl (by decide) rfl (Or.inr ⟨⟨_, wd_434⟩, rfl⟩) dX9_envelope_37 ?_
    refine s_aload_n dX9_envelope_40 rfl ?_
    refine s_gp (C := RX9) (Tf := TX9) (N := 11) (i := 9) (j := 3) rfl (by decide) rfl (Or.inl wd_401) dX9_envelope_41 ?_
    refine s_gi (C := RX8) (Tf := TX8) (N := 12) (i := 8) (j := 1) rfl (by decide) rfl (Or.inr ⟨_, wd_434⟩) dX9_envelope_44 ?_
    exact s_ri rfl dX9_envelope_47
def G_envelope (As : List Value) (M : ak_M) : ak_R := match As with
  | [.ref a, .int x0] => G_envelope_b0 [some (.ref a), some (.int x0)] [] M
  | _ => none
theorem M_G_envelope : ak_Mt yX9_envelope cX9_envelope 2 (some .int) 3 65 G_envelope := by
  refine ak_met (rk := 1) wd_496 (by decide +kernel) rfl (Or.inr (Or.inl ⟨rfl, rfl⟩)) (fun h => absurd h (by decide)) S_G_envelope_b0 (fun As M r h => ?_)
  unfold G_envelope at h
  split at h
  next => exact ⟨Nat.le_of_ble_eq_true rfl, 0, h⟩
  next => cases h
-- GreetedMirrors.walk(II)I
def G_walk_b22 : ak_K := (k_ci (-1000000001) k_ri)
theorem S_G_walk_b22 : ak_S cX9_walk RX9 4 1 3 65 (0, fun _ => 0) 22 (G_walk_b22) := by
  unfold G_walk_b22
  refine s_ldc (x := (-1000000001)) dX9_walk_22 wd_453 ?_
  exact s_ri rfl dX9_walk_24
def G_walk_b55 : ak_K := (k_il 1 (k_il 2 (k_cs 3 G_put (k_il 3 k_ri))))
theorem S_G_walk_b55 : ak_S cX9_walk RX9 4 1 3 65 (0, fun _ => 0) 55 (G_walk_b55) := by
  unfold G_walk_b55
  refine s_iload_n dX9_walk_55 rfl ?_
  refine s_iload_n dX9_walk_56 rfl ?_
  refine s_cs M_G_put dX9_walk_57 ⟨by decide +kernel, by decide +kernel, by decide +kernel⟩ (by decide) wd_11 wd_10 (Or.inl ⟨wd_497, rfl⟩) ?_
  refine s_iload_n dX9_walk_60 rfl ?_
  exact s_ri rfl dX9_walk_61
def G_walk_b0 : ak_K := (k_al 0 (k_gp 9 1 (k_il 1 (k_cv 2 2 House_hasPerson (k_ifeq G_walk_b22 (k_al 0 (k_gp 9 1 (k_il 2 (k_cv 2 2 House_hasRoom (k_ifeq G_walk_b22 (k_al 0 (k_gp 9 4 (k_al 0 (k_gp 9 3 (k_cv 5 2 Past_push (k_al 0 (k_gp 9 3 (k_gp 8 11 (k_il 1 (k_cs 2 G_at (k_is 3 (k_al 0 (k_gp 9 3 (k_gp 8 11 G_walk_b55))))))))))))))))))))))))
theorem S_G_walk_b0 : ak_S cX9_walk RX9 4 1 3 65 (0, fun _ => 0) 0 (G_walk_b0) := by
  unfold G_walk_b0
  refine s_aload_n dX9_walk_0 rfl ?_
  refine s_gp (C := RX9) (Tf := TX9) (N := 11) (i := 9) (j := 1) rfl (by decide) rfl (Or.inl wd_397) dX9_walk_1 ?_
  refine s_iload_n dX9_walk_4 rfl ?_
  refine s_cv (C := RX2) (Tf := TX2) (N := 12) (i := 2) rfl M_House_hasPerson dX9_walk_5 rfl ⟨by decide +kernel, by decide +kernel, by decide +kernel⟩ (by decide) wd_462 wd_463 wd_194 (Or.inr ⟨_, wd_461⟩) ?_
  refine s_ifeq (tgt := 22) dX9_walk_8 (by decide) ?_ ?_
  · exact S_G_walk_b22
  · refine s_aload_n dX9_walk_11 rfl ?_
    refine s_gp (C := RX9) (Tf := TX9) (N := 11) (i := 9) (j := 1) rfl (by decide) rfl (Or.inl wd_397) dX9_walk_12 ?_
    refine s_iload_n dX9_walk_15 rfl ?_
    refine s_cv (C := RX2) (Tf := TX2) (N := 12) (i := 2) rfl M_House_hasRoom dX9_walk_16 rfl ⟨by decide +kernel, by decide +kernel, by decide +kernel⟩ (by decide) wd_478 wd_479 wd_194 (Or.inr ⟨_, wd_477⟩) ?_
    refine s_ifne (tgt := 25) dX9_walk_19 (by decide) ?_ ?_
    · exact S_G_walk_b22
    · refine s_aload_n dX9_walk_25 rfl ?_
      refine s_gp (C := RX9) (Tf := TX9) (N := 11) (i := 9) (j := 4) rfl (by decide) rfl (Or.inl wd_369) dX9_walk_26 ?_
      refine s_aload_n dX9_walk_29 rfl ?_
      refine s_gp (C := RX9) (Tf := TX9) (N := 11) (i := 9) (j := 3) rfl (by decide) rfl (Or.inl wd_401) dX9_walk_30 ?_
      refine s_cv (C := RX5) (Tf := TX5) (N := 3) (i := 5) rfl M_Past_push dX9_walk_33 rfl ⟨by decide +kernel, by decide +kernel, by decide +kernel⟩ (by decide) wd_475 wd_476 wd_137 (Or.inr ⟨_, wd_474⟩) ?_
      refine s_aload_n dX9_walk_36 rfl ?_
      refine s_gp (C := RX9) (Tf := TX9) (N := 11) (i := 9) (j := 3) rfl (by decide) rfl (Or.inl wd_401) dX9_walk_37 ?_
      refine s_gp (C := RX8) (Tf := TX8) (N := 12) (i := 8) (j := 11) rfl (by decide) rfl (Or.inr ⟨_, wd_464⟩) dX9_walk_40 ?_
      refine s_iload_n dX9_walk_43 rfl ?_
      refine s_cs M_G_at dX9_walk_44 ⟨by decide +kernel, by decide +kernel, by decide +kernel⟩ (by decide) wd_16 wd_10 (Or.inl ⟨wd_445, rfl⟩) ?_
      refine s_istore_n dX9_walk_47 rfl (by decide) ?_
      refine s_aload_n dX9_walk_48 rfl ?_
      refine s_gp (C := RX9) (Tf := TX9) (N := 11) (i := 9) (j := 3) rfl (by decide) rfl (Or.inl wd_401) dX9_walk_49 ?_
      refine s_gp (C := RX8) (Tf := TX8) (N := 12) (i := 8) (j := 11) rfl (by decide) rfl (Or.inr ⟨_, wd_464⟩) dX9_walk_52 ?_
      exact S_G_walk_b55
def G_walk (As : List Value) (M : ak_M) : ak_R := match As with
  | [.ref a, .int x0, .int x1] => G_walk_b0 [some (.ref a), some (.int x0), some (.int x1), none] [] M
  | _ => none
theorem M_G_walk : ak_Mt yX9_walk cX9_walk 4 (some .int) 3 65 G_walk := by
  refine ak_met (rk := 1) wd_498 (by decide +kernel) rfl (Or.inr (Or.inl ⟨rfl, rfl⟩)) (fun h => absurd h (by decide)) S_G_walk_b0 (fun As M r h => ?_)
  unfold G_walk at h
  split at h
  next => exact ⟨Nat.le_of_ble_eq_true rfl, 1, h⟩
  next => cases h
-- GreetedMirrors.passEvening()V
def G_passEvening_b160 : ak_K := k_rv
theorem S_G_passEvening_b160 : ak_S cX9_passEvening RX9 3 0 4 90 (0, fun _ => 0) 160 (G_passEvening_b160) := by
  unfold G_passEvening_b160
  exact s_rv (Or.inl rfl) dX9_passEvening_160
def G_passEvening_b156 : ak_K := (k_cv 8 4 State_hear (k_pop G_passEvening_b160))
theorem S_G_passEvening_b156 : ak_S cX9_passEvening RX9 3 0 4 90 (0, fun _ => 0) 156 (G_passEvening_b156) := by
  unfold G_passEvening_b156
  refine s_cv (C := RX8) (Tf := TX8) (N := 12) (i := 8) rfl M_State_hear dX9_passEvening_156 rfl ⟨by decide +kernel, by decide +kernel, by decide +kernel⟩ (by decide) wd_486 wd_487 wd_74 (Or.inr ⟨_, wd_485⟩) ?_
  refine s_pop dX9_passEvening_159 ?_
  exact S_G_passEvening_b160
def G_passEvening_b106 : ak_K := (k_il 1 (k_ci 2 (k_cmeq (k_al 0 (k_gp 9 1 (k_gi 2 3 (k_ifle G_passEvening_b160 (k_al 0 (k_gp 9 10 (k_al 0 (k_gp 9 1 (k_gi 2 3 (k_cv 1 2 Draws_next (k_is 2 (k_al 0 (k_gp 9 3 (k_al 0 (k_gp 9 1 (k_il 2 (k_al 0 (k_gp 9 3 (k_gp 8 8 (k_il 2 (k_cs 2 G_at G_passEvening_b156))))))))))))))))))))) G_passEvening_b160)))
theorem S_G_passEvening_b106 : ak_S cX9_passEvening RX9 3 0 4 90 (0, fun _ => 0) 106 (G_passEvening_b106) := by
  unfold G_passEvening_b106
  refine s_iload_n dX9_passEvening_106 rfl ?_
  refine s_iconst (x := 2) dX9_passEvening_107 (by decide +kernel) ?_
  refine s_cmne (tgt := 160) dX9_passEvening_108 (by decide) ?_ ?_
  · refine s_aload_n dX9_passEvening_111 rfl ?_
    refine s_gp (C := RX9) (Tf := TX9) (N := 11) (i := 9) (j := 1) rfl (by decide) rfl (Or.inl wd_397) dX9_passEvening_112 ?_
    refine s_gi (C := RX2) (Tf := TX2) (N := 12) (i := 2) (j := 3) rfl (by decide) rfl (Or.inr ⟨_, wd_420⟩) dX9_passEvening_115 ?_
    refine s_ifle (tgt := 160) dX9_passEvening_118 (by decide) ?_ ?_
    · exact S_G_passEvening_b160
    · refine s_aload_n dX9_passEvening_121 rfl ?_
      refine s_gp (C := RX9) (Tf := TX9) (N := 11) (i := 9) (j := 10) rfl (by decide) rfl (Or.inl wd_366) dX9_passEvening_122 ?_
      refine s_aload_n dX9_passEvening_125 rfl ?_
      refine s_gp (C := RX9) (Tf := TX9) (N := 11) (i := 9) (j := 1) rfl (by decide) rfl (Or.inl wd_397) dX9_passEvening_126 ?_
      refine s_gi (C := RX2) (Tf := TX2) (N := 12) (i := 2) (j := 3) rfl (by decide) rfl (Or.inr ⟨_, wd_420⟩) dX9_passEvening_129 ?_
      refine s_cv (C := RX1) (Tf := TX1) (N := 1) (i := 1) rfl M_Draws_next dX9_passEvening_132 rfl ⟨by decide +kernel, by decide +kernel, by decide +kernel⟩ (by decide) wd_500 wd_501 wd_363 (Or.inr ⟨_, wd_499⟩) ?_
      refine s_istore_n dX9_passEvening_135 rfl (by decide) ?_
      refine s_aload_n dX9_passEvening_136 rfl ?_
      refine s_gp (C := RX9) (Tf := TX9) (N := 11) (i := 9) (j := 3) rfl (by decide) rfl (Or.inl wd_401) dX9_passEvening_137 ?_
      refine s_aload_n dX9_passEvening_140 rfl ?_
      refine s_gp (C := RX9) (Tf := TX9) (N := 11) (i := 9) (j := 1) rfl (by decide) rfl (Or.inl wd_397) dX9_passEvening_141 ?_
      refine s_iload_n dX9_passEvening_144 rfl ?_
      refine s_aload_n dX9_passEvening_145 rfl ?_
      refine s_gp (C := RX9) (Tf := TX9) (N := 11) (i := 9) (j := 3) rfl (by decide) rfl (Or.inl wd_401) dX9_passEvening_146 ?_
      refine s_gp (C := RX8) (Tf := TX8) (N := 12) (i := 8) (j := 8) rfl (by decide) rfl (Or.inr ⟨_, wd_446⟩) dX9_passEvening_149 ?_
      refine s_iload_n dX9_passEvening_152 rfl ?_
      refine s_cs M_G_at dX9_passEvening_153 ⟨by decide +kernel, by decide +kernel, by decide +kernel⟩ (by decide) wd_16 wd_10 (Or.inl ⟨wd_445, rfl⟩) ?_
      exact S_G_passEvening_b156
  · exact S_G_passEvening_b160
def G_passEvening_b85 : ak_K := (k_il 2 (k_al 0 (k_gp 9 10 (k_al 0 (k_gp 9 1 (k_gi 2 0 (k_cv 1 2 Draws_next (k_cs 3 G_put G_passEvening_b160))))))))
theorem S_G_passEvening_b85 : ak_S cX9_passEvening RX9 3 0 4 90 (0, fun _ => 0) 85 (G_passEvening_b85) := by
  unfold G_passEvening_b85
  refine s_iload_n dX9_passEvening_85 rfl ?_
  refine s_aload_n dX9_passEvening_86 rfl ?_
  refine s_gp (C := RX9) (Tf := TX9) (N := 11) (i := 9) (j := 10) rfl (by decide) rfl (Or.inl wd_366) dX9_passEvening_87 ?_
  refine s_aload_n dX9_passEvening_90 rfl ?_
  refine s_gp (C := RX9) (Tf := TX9) (N := 11) (i := 9) (j := 1) rfl (by decide) rfl (Or.inl wd_397) dX9_passEvening_91 ?_
  refine s_gi (C := RX2) (Tf := TX2) (N := 12) (i := 2) (j := 0) rfl (by decide) rfl (Or.inr ⟨_, wd_430⟩) dX9_passEvening_94 ?_
  refine s_cv (C := RX1) (Tf := TX1) (N := 1) (i := 1) rfl M_Draws_next dX9_passEvening_97 rfl ⟨by decide +kernel, by decide +kernel, by decide +kernel⟩ (by decide) wd_500 wd_501 wd_363 (Or.inr ⟨_, wd_499⟩) ?_
  refine s_cs M_G_put dX9_passEvening_100 ⟨by decide +kernel, by decide +kernel, by decide +kernel⟩ (by decide) wd_11 wd_10 (Or.inl ⟨wd_497, rfl⟩) ?_
  refine s_goto (tgt := 160) dX9_passEvening_103 (by decide) ?_
  exact S_G_passEvening_b160
def G_passEvening_b0 : ak_K := (k_al 0 (k_gp 9 10 (k_ci 3 (k_cv 1 2 Draws_next (k_is 1 (k_il 1 (k_ifeq (k_al 0 (k_gp 9 3 (k_al 0 (k_gp 9 3 (k_gi 8 4 (k_al 0 (k_gp 9 10 (k_al 0 (k_gp 9 1 (k_gi 2 0 (k_cv 1 2 Draws_next (k_ci 1 (k_cs 3 G_with (k_pi 8 4 G_passEvening_b160)))))))))))))) (k_il 1 (k_ci 1 (k_cmeq (k_al 0 (k_gp 9 1 (k_gi 2 4 (k_ifle G_passEvening_b106 (k_al 0 (k_gp 9 10 (k_al 0 (k_gp 9 1 (k_gi 2 4 (k_cv 1 2 Draws_next (k_is 2 (k_al 0 (k_gp 9 3 (k_gp 8 11 G_passEvening_b85)))))))))))))) G_passEvening_b106))))))))))
theorem S_G_passEvening_b0 : ak_S cX9_passEvening RX9 3 0 4 90 (0, fun _ => 0) 0 (G_passEvening_b0) := by
  unfold G_passEvening_b0
  refine s_aload_n dX9_passEvening_0 rfl ?_
  refine s_gp (C := RX9) (Tf := TX9) (N := 11) (i := 9) (j := 10) rfl (by decide) rfl (Or.inl wd_366) dX9_passEvening_1 ?_
  refine s_iconst (x := 3) dX9_passEvening_4 (by decide +kernel) ?_
  refine s_cv (C := RX1) (Tf := TX1) (N := 1) (i := 1) rfl M_Draws_next dX9_passEvening_5 rfl ⟨by decide +kernel, by decide +kernel, by decide +kernel⟩ (by decide) wd_500 wd_501 wd_363 (Or.inr ⟨_, wd_499⟩) ?_
  refine s_istore_n dX9_passEvening_8 rfl (by decide) ?_
  refine s_iload_n dX9_passEvening_9 rfl ?_
  refine s_ifne (tgt := 48) dX9_passEvening_10 (by decide) ?_ ?_
  · refine s_aload_n dX9_passEvening_13 rfl ?_
    refine s_gp (C := RX9) (Tf := TX9) (N := 11) (i := 9) (j := 3) rfl (by decide) rfl (Or.inl wd_401) dX9_passEvening_14 ?_
    refine s_aload_n dX9_passEvening_17 rfl ?_
    refine s_gp (C := RX9) (Tf := TX9) (N := 11) (i := 9) (j := 3) rfl (by decide) rfl (Or.inl wd_401) dX9_passEvening_18 ?_
    refine s_gi (C := RX8) (Tf := TX8) (N := 12) (i := 8) (j := 4) rfl (by decide) rfl (Or.inr ⟨_, wd_437⟩) dX9_passEvening_21 ?_
    refine s_aload_n dX9_passEvening_24 rfl ?_
    refine s_gp (C := RX9) (Tf := TX9) (N := 11) (i := 9) (j := 10) rfl (by decide) rfl (Or.inl wd_366) dX9_passEvening_25 ?_
    refine s_aload_n dX9_passEvening_28 rfl ?_
    refine s_gp (C := RX9) (Tf := TX9) (N := 11) (i := 9) (j := 1) rfl (by decide) rfl (Or.inl wd_397) dX9_passEvening_29 ?_
    refine s_gi (C := RX2) (Tf := TX2) (N := 12) (i := 2) (j := 0) rfl (by decide) rfl (Or.inr ⟨_, wd_430⟩) dX9_passEvening_32 ?_
    refine s_cv (C := RX1) (Tf := TX1) (N := 1) (i := 1) rfl M_Draws_next dX9_passEvening_35 rfl ⟨by decide +kernel, by decide +kernel, by decide +kernel⟩ (by decide) wd_500 wd_501 wd_363 (Or.inr ⟨_, wd_499⟩) ?_
    refine s_iconst (x := 1) dX9_passEvening_38 (by decide +kernel) ?_
    refine s_cs M_G_with dX9_passEvening_39 ⟨by decide +kernel, by decide +kernel, by decide +kernel⟩ (by decide) wd_52 wd_10 (Or.inl ⟨wd_492, rfl⟩) ?_
    refine s_pi (C := RX8) (Tf := TX8) (N := 12) (i := 8) (j := 4) rfl (by decide) rfl (Or.inr ⟨⟨_, wd_437⟩, rfl⟩) dX9_passEvening_42 ?_
    refine s_goto (tgt := 160) dX9_passEvening_45 (by decide) ?_
    exact S_G_passEvening_b160
  · refine s_iload_n dX9_passEvening_48 rfl ?_
    refine s_iconst (x := 1) dX9_passEvening_49 (by decide +kernel) ?_
    refine s_cmne (tgt := 106) dX9_passEvening_50 (by decide) ?_ ?_
    · refine s_aload_n dX9_passEvening_53 rfl ?_
      refine s_gp (C := RX9) (Tf := TX9) (N := 11) (i := 9) (j := 1) rfl (by decide) rfl (Or.inl wd_397) dX9_passEvening_54 ?_
      refine s_gi (C := RX2) (Tf := TX2) (N := 12) (i := 2) (j := 4) rfl (by decide) rfl (Or.inr ⟨_, wd_432⟩) dX9_passEvening_57 ?_
      refine s_ifle (tgt := 106) dX9_passEvening_60 (by decide) ?_ ?_
      · exact S_G_passEvening_b106
      · refine s_aload_n dX9_passEvening_63 rfl ?_
        refine s_gp (C := RX9) (Tf := TX9) (N := 11) (i := 9) (j := 10) rfl (by decide) rfl (Or.inl wd_366) dX9_passEvening_64 ?_
        refine s_aload_n dX9_passEvening_67 rfl ?_
        refine s_gp (C := RX9) (Tf := TX9) (N := 11) (i := 9) (j := 1) rfl (by decide) rfl (Or.inl wd_397) dX9_passEvening_68 ?_
        refine s_gi (C := RX2) (Tf := TX2) (N := 12) (i := 2) (j := 4) rfl (by decide) rfl (Or.inr ⟨_, wd_432⟩) dX9_passEvening_71 ?_
        refine s_cv (C := RX1) (Tf := TX1) (N := 1) (i := 1) rfl M_Draws_next dX9_passEvening_74 rfl ⟨by decide +kernel, by decide +kernel, by decide +kernel⟩ (by decide) wd_500 wd_501 wd_363 (Or.inr ⟨_, wd_499⟩) ?_
        refine s_istore_n dX9_passEvening_77 rfl (by decide) ?_
        refine s_aload_n dX9_passEvening_78 rfl ?_
        refine s_gp (C := RX9) (Tf := TX9) (N := 11) (i := 9) (j := 3) rfl (by decide) rfl (Or.inl wd_401) dX9_passEvening_79 ?_
        refine s_gp (C := RX8) (Tf := TX8) (N := 12) (i := 8) (j := 11) rfl (by decide) rfl (Or.inr ⟨_, wd_464⟩) dX9_passEvening_82 ?_
        exact S_G_passEvening_b85
    · exact S_G_passEvening_b106
def G_passEvening (As : List Value) (M : ak_M) : ak_R := match As with
  | [.ref a] => G_passEvening_b0 [some (.ref a), none, none] [] M
  | _ => none
theorem M_G_passEvening : ak_Mt yX9_passEvening cX9_passEvening 3 none 4 90 G_passEvening := by
  refine ak_met (rk := 0) wd_502 (by decide +kernel) rfl (Or.inl ⟨Or.inl rfl, rfl⟩) (fun h => absurd h (by decide)) S_G_passEvening_b0 (fun As M r h => ?_)
  unfold G_passEvening at h
  split at h
  next => exact ⟨Nat.le_of_ble_eq_true rfl, 2, h⟩
  next => cases h
-- GreetedMirrors.drift(I)I
def G_drift_b11 : ak_K := (k_ci (-1000000002) k_ri)
theorem S_G_drift_b11 : ak_S cX9_drift RX9 3 1 5 112 (0, fun _ => 0) 11 (G_drift_b11) := by
  unfold G_drift_b11
  refine s_ldc (x := (-1000000002)) dX9_drift_11 wd_405 ?_
  exact s_ri rfl dX9_drift_13
def G_drift_b40 (h40 : ak_K) : ak_K := (k_il 2 (k_il 1 (k_cmge (k_al 0 (k_gp 9 3 (k_gi 8 2 k_ri))) (k_al 0 (k_cv 9 1 G_passEvening (k_ii 2 1 h40))))))
theorem S_G_drift_b40 {h40 : ak_K} (H40 : ak_S cX9_drift RX9 3 1 5 112 (0, fun _ => 0) 40 h40) : ak_S cX9_drift RX9 3 1 5 112 (0, fun _ => 0) 40 (G_drift_b40 h40) := by
  unfold G_drift_b40
  refine s_iload_n dX9_drift_40 rfl ?_
  refine s_iload_n dX9_drift_41 rfl ?_
  refine s_cmge (tgt := 55) dX9_drift_42 (by decide) ?_ ?_
  · refine s_aload_n dX9_drift_55 rfl ?_
    refine s_gp (C := RX9) (Tf := TX9) (N := 11) (i := 9) (j := 3) rfl (by decide) rfl (Or.inl wd_401) dX9_drift_56 ?_
    refine s_gi (C := RX8) (Tf := TX8) (N := 12) (i := 8) (j := 2) rfl (by decide) rfl (Or.inr ⟨_, wd_435⟩) dX9_drift_59 ?_
    exact s_ri rfl dX9_drift_62
  · refine s_aload_n dX9_drift_45 rfl ?_
    refine s_cv (C := RX9) (Tf := TX9) (N := 11) (i := 9) rfl M_G_passEvening dX9_drift_46 rfl ⟨by decide +kernel, by decide +kernel, by decide +kernel⟩ (by decide) wd_504 wd_505 wd_10 (Or.inl wd_503) ?_
    refine s_iinc (y := 1) dX9_drift_49 (by decide +kernel) (by decide) ?_
    refine s_goto (tgt := 40) dX9_drift_52 (by decide) ?_
    exact H40
def G_drift_l40 : Nat → ak_K
  | 0 => k_no
  | n + 1 => G_drift_b40 (G_drift_l40 n)
theorem S_G_drift_l40 : ∀ n : Nat, ak_S cX9_drift RX9 3 1 5 112 (0, fun _ => 0) 40 (G_drift_l40 n)
  | 0 => s_no
  | n + 1 => S_G_drift_b40 (S_G_drift_l40 n)
def G_drift_b0 : ak_K := (k_il 1 (k_ci 1 (k_cmlt G_drift_b11 (k_il 1 (k_ci 40 (k_cmle (k_al 0 (k_gp 9 1 (k_gi 2 0 (k_ifeq (k_ci (-1000000003) k_ri) (k_al 0 (k_gp 9 4 (k_al 0 (k_gp 9 3 (k_cv 5 2 Past_push (k_ci 0 (k_is 2 (G_drift_l40 ak_fuel)))))))))))) G_drift_b11))))))
theorem S_G_drift_b0 : ak_S cX9_drift RX9 3 1 5 112 (0, fun _ => 0) 0 (G_drift_b0) := by
  unfold G_drift_b0
  refine s_iload_n dX9_drift_0 rfl ?_
  refine s_iconst (x := 1) dX9_drift_1 (by decide +kernel) ?_
  refine s_cmlt (tgt := 11) dX9_drift_2 (by decide) ?_ ?_
  · exact S_G_drift_b11
  · refine s_iload_n dX9_drift_5 rfl ?_
    refine s_bipush (x := 40) dX9_drift_6 (by decide +kernel) ?_
    refine s_cmle (tgt := 14) dX9_drift_8 (by decide) ?_ ?_
    · refine s_aload_n dX9_drift_14 rfl ?_
      refine s_gp (C := RX9) (Tf := TX9) (N := 11) (i := 9) (j := 1) rfl (by decide) rfl (Or.inl wd_397) dX9_drift_15 ?_
      refine s_gi (C := RX2) (Tf := TX2) (N := 12) (i := 2) (j := 0) rfl (by decide) rfl (Or.inr ⟨_, wd_430⟩) dX9_drift_18 ?_
      refine s_ifne (tgt := 27) dX9_drift_21 (by decide) ?_ ?_
      · refine s_ldc (x := (-1000000003)) dX9_drift_24 wd_481 ?_
        exact s_ri rfl dX9_drift_26
      · refine s_aload_n dX9_drift_27 rfl ?_
        refine s_gp (C := RX9) (Tf := TX9) (N := 11) (i := 9) (j := 4) rfl (by decide) rfl (Or.inl wd_369) dX9_drift_28 ?_
        refine s_aload_n dX9_drift_31 rfl ?_
        refine s_gp (C := RX9) (Tf := TX9) (N := 11) (i := 9) (j := 3) rfl (by decide) rfl (Or.inl wd_401) dX9_drift_32 ?_
        refine s_cv (C := RX5) (Tf := TX5) (N := 3) (i := 5) rfl M_Past_push dX9_drift_35 rfl ⟨by decide +kernel, by decide +kernel, by decide +kernel⟩ (by decide) wd_475 wd_476 wd_137 (Or.inr ⟨_, wd_474⟩) ?_
        refine s_iconst (x := 0) dX9_drift_38 (by decide +kernel) ?_
        refine s_istore_n dX9_drift_39 rfl (by decide) ?_
        exact (S_G_drift_l40 ak_fuel)
    · exact S_G_drift_b11
def G_drift (As : List Value) (M : ak_M) : ak_R := match As with
  | [.ref a, .int x0] => G_drift_b0 [some (.ref a), some (.int x0), none] [] M
  | _ => none
theorem M_G_drift : ak_Mt yX9_drift cX9_drift 3 (some .int) 5 112 G_drift := by
  refine ak_met (rk := 1) wd_506 (by decide +kernel) rfl (Or.inr (Or.inl ⟨rfl, rfl⟩)) (fun h => absurd h (by decide)) S_G_drift_b0 (fun As M r h => ?_)
  unfold G_drift at h
  split at h
  next => exact ⟨Nat.le_of_ble_eq_true rfl, 1, h⟩
  next => cases h
-- GreetedMirrors.undo()I
def G_undo_b26 : ak_K := k_ri
theorem S_G_undo_b26 : ak_S cX9_undo RX9 1 1 3 66 (0, fun _ => 0) 26 (G_undo_b26) := by
  unfold G_undo_b26
  exact s_ri rfl dX9_undo_26
def G_undo_b0 : ak_K := (k_al 0 (k_gp 9 4 (k_gi 5 2 (k_ifeq (k_ci (-1000000003) G_undo_b26) (k_al 0 (k_gp 9 4 (k_al 0 (k_gp 9 3 (k_cv 5 2 Past_pop G_undo_b26)))))))))
theorem S_G_undo_b0 : ak_S cX9_undo RX9 1 1 3 66 (0, fun _ => 0) 0 (G_undo_b0) := by
  unfold G_undo_b0
  refine s_aload_n dX9_undo_0 rfl ?_
  refine s_gp (C := RX9) (Tf := TX9) (N := 11) (i := 9) (j := 4) rfl (by decide) rfl (Or.inl wd_369) dX9_undo_1 ?_
  refine s_gi (C := RX5) (Tf := TX5) (N := 3) (i := 5) (j := 2) rfl (by decide) rfl (Or.inr ⟨_, wd_442⟩) dX9_undo_4 ?_
  refine s_ifne (tgt := 15) dX9_undo_7 (by decide) ?_ ?_
  · refine s_ldc (x := (-1000000003)) dX9_undo_10 wd_481 ?_
    refine s_goto (tgt := 26) dX9_undo_12 (by decide) ?_
    exact S_G_undo_b26
  · refine s_aload_n dX9_undo_15 rfl ?_
    refine s_gp (C := RX9) (Tf := TX9) (N := 11) (i := 9) (j := 4) rfl (by decide) rfl (Or.inl wd_369) dX9_undo_16 ?_
    refine s_aload_n dX9_undo_19 rfl ?_
    refine s_gp (C := RX9) (Tf := TX9) (N := 11) (i := 9) (j := 3) rfl (by decide) rfl (Or.inl wd_401) dX9_undo_20 ?_
    refine s_cv (C := RX5) (Tf := TX5) (N := 3) (i := 5) rfl M_Past_pop dX9_undo_23 rfl ⟨by decide +kernel, by decide +kernel, by decide +kernel⟩ (by decide) wd_508 wd_509 wd_137 (Or.inr ⟨_, wd_507⟩) ?_
    exact S_G_undo_b26
def G_undo (As : List Value) (M : ak_M) : ak_R := match As with
  | [.ref a] => G_undo_b0 [some (.ref a)] [] M
  | _ => none
theorem M_G_undo : ak_Mt yX9_undo cX9_undo 1 (some .int) 3 66 G_undo := by
  refine ak_met (rk := 1) wd_510 (by decide +kernel) rfl (Or.inr (Or.inl ⟨rfl, rfl⟩)) (fun h => absurd h (by decide)) S_G_undo_b0 (fun As M r h => ?_)
  unfold G_undo at h
  split at h
  next => exact ⟨Nat.le_of_ble_eq_true rfl, 0, h⟩
  next => cases h
-- GreetedMirrors.round(II)I
def G_round_b53 : ak_K := (k_ci (-1) k_ri)
theorem S_G_round_b53 : ak_S cX9_round RX9 4 1 6 141 (0, fun _ => 0) 53 (G_round_b53) := by
  unfold G_round_b53
  refine s_iconst (x := (-1)) dX9_round_53 (by decide +kernel) ?_
  exact s_ri rfl dX9_round_54
def G_round_b90 : ak_K := k_ri
theorem S_G_round_b90 : ak_S cX9_round RX9 4 1 6 141 (0, fun _ => 0) 90 (G_round_b90) := by
  unfold G_round_b90
  exact s_ri rfl dX9_round_90
def G_round_b45 : ak_K := (k_ifeq G_round_b53 (k_il 2 (k_ci (-1) (k_cmge (k_il 2 (k_ci (-1) (k_cmeq (k_al 0 (k_gp 9 7 (k_al 0 (k_gp 9 1 (k_al 0 (k_gp 9 3 (k_cv 7 3 Rounds_breath G_round_b90))))))) (k_al 0 (k_gp 9 7 (k_al 0 (k_gp 9 1 (k_il 2 (k_cv 7 3 Rounds_mirrorAt G_round_b90))))))))) G_round_b53))))
theorem S_G_round_b45 : ak_S cX9_round RX9 4 1 6 141 (0, fun _ => 0) 45 (G_round_b45) := by
  unfold G_round_b45
  refine s_ifeq (tgt := 53) dX9_round_45 (by decide) ?_ ?_
  · exact S_G_round_b53
  · refine s_iload_n dX9_round_48 rfl ?_
    refine s_iconst (x := (-1)) dX9_round_49 (by decide +kernel) ?_
    refine s_cmge (tgt := 55) dX9_round_50 (by decide) ?_ ?_
    · refine s_iload_n dX9_round_55 rfl ?_
      refine s_iconst (x := (-1)) dX9_round_56 (by decide +kernel) ?_
      refine s_cmne (tgt := 78) dX9_round_57 (by decide) ?_ ?_
      · refine s_aload_n dX9_round_60 rfl ?_
        refine s_gp (C := RX9) (Tf := TX9) (N := 11) (i := 9) (j := 7) rfl (by decide) rfl (Or.inl wd_381) dX9_round_61 ?_
        refine s_aload_n dX9_round_64 rfl ?_
        refine s_gp (C := RX9) (Tf := TX9) (N := 11) (i := 9) (j := 1) rfl (by decide) rfl (Or.inl wd_397) dX9_round_65 ?_
        refine s_aload_n dX9_round_68 rfl ?_
        refine s_gp (C := RX9) (Tf := TX9) (N := 11) (i := 9) (j := 3) rfl (by decide) rfl (Or.inl wd_401) dX9_round_69 ?_
        refine s_cv (C := RX7) (Tf := TX7) (N := 7) (i := 7) rfl M_Rounds_breath dX9_round_72 rfl ⟨by decide +kernel, by decide +kernel, by decide +kernel⟩ (by decide) wd_512 wd_513 wd_277 (Or.inr ⟨_, wd_511⟩) ?_
        refine s_goto (tgt := 90) dX9_round_75 (by decide) ?_
        exact S_G_round_b90
      · refine s_aload_n dX9_round_78 rfl ?_
        refine s_gp (C := RX9) (Tf := TX9) (N := 11) (i := 9) (j := 7) rfl (by decide) rfl (Or.inl wd_381) dX9_round_79 ?_
        refine s_aload_n dX9_round_82 rfl ?_
        refine s_gp (C := RX9) (Tf := TX9) (N := 11) (i := 9) (j := 1) rfl (by decide) rfl (Or.inl wd_397) dX9_round_83 ?_
        refine s_iload_n dX9_round_86 rfl ?_
        refine s_cv (C := RX7) (Tf := TX7) (N := 7) (i := 7) rfl M_Rounds_mirrorAt dX9_round_87 rfl ⟨by decide +kernel, by decide +kernel, by decide +kernel⟩ (by decide) wd_515 wd_516 wd_277 (Or.inr ⟨_, wd_514⟩) ?_
        exact S_G_round_b90
    · exact S_G_round_b53
def G_round_b0 : ak_K := (k_il 1 (k_al 0 (k_gp 9 1 (k_cv 2 1 House_allMirrors (k_ci (-1) (k_b (fun x y => x ^^^ y) (k_b (fun x y => x &&& y) (k_ifeq (k_al 0 (k_gp 9 7 (k_al 0 (k_gp 9 1 (k_al 0 (k_gp 9 3 (k_il 1 (k_al 0 (k_gp 9 3 (k_gi 8 2 (k_ci (-1) (k_b (fun x y => x ^^^ y) (k_b (fun x y => x &&& y) (k_cv 7 4 Rounds_plan (k_is 3 (k_il 3 G_round_b45)))))))))))))))) (k_ci (-1000000001) k_ri)))))))))
theorem S_G_round_b0 : ak_S cX9_round RX9 4 1 6 141 (0, fun _ => 0) 0 (G_round_b0) := by
  unfold G_round_b0
  refine s_iload_n dX9_round_0 rfl ?_
  refine s_aload_n dX9_round_1 rfl ?_
  refine s_gp (C := RX9) (Tf := TX9) (N := 11) (i := 9) (j := 1) rfl (by decide) rfl (Or.inl wd_397) dX9_round_2 ?_
  refine s_cv (C := RX2) (Tf := TX2) (N := 12) (i := 2) rfl M_House_allMirrors dX9_round_5 rfl ⟨by decide +kernel, by decide +kernel, by decide +kernel⟩ (by decide) wd_518 wd_519 wd_194 (Or.inr ⟨_, wd_517⟩) ?_
  refine s_iconst (x := (-1)) dX9_round_8 (by decide +kernel) ?_
  refine s_ixor dX9_round_9 ?_
  refine s_iand dX9_round_10 ?_
  refine s_ifeq (tgt := 17) dX9_round_11 (by decide) ?_ ?_
  · refine s_aload_n dX9_round_17 rfl ?_
    refine s_gp (C := RX9) (Tf := TX9) (N := 11) (i := 9) (j := 7) rfl (by decide) rfl (Or.inl wd_381) dX9_round_18 ?_
    refine s_aload_n dX9_round_21 rfl ?_
    refine s_gp (C := RX9) (Tf := TX9) (N := 11) (i := 9) (j := 1) rfl (by decide) rfl (Or.inl wd_397) dX9_round_22 ?_
    refine s_aload_n dX9_round_25 rfl ?_
    refine s_gp (C := RX9) (Tf := TX9) (N := 11) (i := 9) (j := 3) rfl (by decide) rfl (Or.inl wd_401) dX9_round_26 ?_
    refine s_iload_n dX9_round_29 rfl ?_
    refine s_aload_n dX9_round_30 rfl ?_
    refine s_gp (C := RX9) (Tf := TX9) (N := 11) (i := 9) (j := 3) rfl (by decide) rfl (Or.inl wd_401) dX9_round_31 ?_
    refine s_gi (C := RX8) (Tf := TX8) (N := 12) (i := 8) (j := 2) rfl (by decide) rfl (Or.inr ⟨_, wd_435⟩) dX9_round_34 ?_
    refine s_iconst (x := (-1)) dX9_round_37 (by decide +kernel) ?_
    refine s_ixor dX9_round_38 ?_
    refine s_iand dX9_round_39 ?_
    refine s_cv (C := RX7) (Tf := TX7) (N := 7) (i := 7) rfl M_Rounds_plan dX9_round_40 rfl ⟨by decide +kernel, by decide +kernel, by decide +kernel⟩ (by decide) wd_521 wd_522 wd_277 (Or.inr ⟨_, wd_520⟩) ?_
    refine s_istore_n dX9_round_43 rfl (by decide) ?_
    refine s_iload_n dX9_round_44 rfl ?_
    exact S_G_round_b45
  · refine s_ldc (x := (-1000000001)) dX9_round_14 wd_453 ?_
    exact s_ri rfl dX9_round_16
def G_round (As : List Value) (M : ak_M) : ak_R := match As with
  | [.ref a, .int x0, .int x1] => G_round_b0 [some (.ref a), some (.int x0), some (.int x1), none] [] M
  | _ => none
theorem M_G_round : ak_Mt yX9_round cX9_round 4 (some .int) 6 141 G_round := by
  refine ak_met (rk := 1) wd_523 (by decide +kernel) rfl (Or.inr (Or.inl ⟨rfl, rfl⟩)) (fun h => absurd h (by decide)) S_G_round_b0 (fun As M r h => ?_)
  unfold G_round at h
  split at h
  next => exact ⟨Nat.le_of_ble_eq_true rfl, 1, h⟩
  next => cases h
-- GreetedMirrors.canLightAlone(I)Z
def G_canLightAlone_b48 : ak_K := k_rz
theorem S_G_canLightAlone_b48 : ak_S cX9_canLightAlone RX9 3 2 2 43 (0, fun _ => 0) 48 (G_canLightAlone_b48) := by
  unfold G_canLightAlone_b48
  exact s_rz rfl dX9_canLightAlone_48
def G_canLightAlone_b47 : ak_K := (k_ci 0 G_canLightAlone_b48)
theorem S_G_canLightAlone_b47 : ak_S cX9_canLightAlone RX9 3 2 2 43 (0, fun _ => 0) 47 (G_canLightAlone_b47) := by
  unfold G_canLightAlone_b47
  refine s_iconst (x := 0) dX9_canLightAlone_47 (by decide +kernel) ?_
  exact S_G_canLightAlone_b48
def G_canLightAlone_b43 : ak_K := (k_ci 1 G_canLightAlone_b48)
theorem S_G_canLightAlone_b43 : ak_S cX9_canLightAlone RX9 3 2 2 43 (0, fun _ => 0) 43 (G_canLightAlone_b43) := by
  unfold G_canLightAlone_b43
  refine s_iconst (x := 1) dX9_canLightAlone_43 (by decide +kernel) ?_
  refine s_goto (tgt := 48) dX9_canLightAlone_44 (by decide) ?_
  exact S_G_canLightAlone_b48
def G_canLightAlone_b0 : ak_K := (k_al 0 (k_gp 9 1 (k_il 1 (k_cv 2 2 House_hungAhead (k_is 2 (k_al 0 (k_gp 9 7 (k_al 0 (k_gp 9 3 (k_il 1 (k_cv 7 3 Rounds_canGreet (k_ifeq G_canLightAlone_b47 (k_il 2 (k_ci (-1) (k_cmeq G_canLightAlone_b43 (k_al 0 (k_gp 9 3 (k_gi 8 2 (k_il 2 (k_cs 2 G_has (k_ifeq G_canLightAlone_b47 G_canLightAlone_b43)))))))))))))))))))))
theorem S_G_canLightAlone_b0 : ak_S cX9_canLightAlone RX9 3 2 2 43 (0, fun _ => 0) 0 (G_canLightAlone_b0) := by
  unfold G_canLightAlone_b0
  refine s_aload_n dX9_canLightAlone_0 rfl ?_
  refine s_gp (C := RX9) (Tf := TX9) (N := 11) (i := 9) (j := 1) rfl (by decide) rfl (Or.inl wd_397) dX9_canLightAlone_1 ?_
  refine s_iload_n dX9_canLightAlone_4 rfl ?_
  refine s_cv (C := RX2) (Tf := TX2) (N := 12) (i := 2) rfl M_House_hungAhead dX9_canLightAlone_5 rfl ⟨by decide +kernel, by decide +kernel, by decide +kernel⟩ (by decide) wd_300 wd_301 wd_194 (Or.inr ⟨_, wd_524⟩) ?_
  refine s_istore_n dX9_canLightAlone_8 rfl (by decide) ?_
  refine s_aload_n dX9_canLightAlone_9 rfl ?_
  refine s_gp (C := RX9) (Tf := TX9) (N := 11) (i := 9) (j := 7) rfl (by decide) rfl (Or.inl wd_381) dX9_canLightAlone_10 ?_
  refine s_aload_n dX9_canLightAlone_13 rfl ?_
  refine s_gp (C := RX9) (Tf := TX9) (N := 11) (i := 9) (j := 3) rfl (by decide) rfl (Or.inl wd_401) dX9_canLightAlone_14 ?_
  refine s_iload_n dX9_canLightAlone_17 rfl ?_
  refine s_cv (C := RX7) (Tf := TX7) (N := 7) (i := 7) rfl M_Rounds_canGreet dX9_canLightAlone_18 rfl ⟨by decide +kernel, by decide +kernel, by decide +kernel⟩ (by decide) wd_319 wd_320 wd_277 (Or.inr ⟨_, wd_525⟩) ?_
  refine s_ifeq (tgt := 47) dX9_canLightAlone_21 (by decide) ?_ ?_
  · exact S_G_canLightAlone_b47
  · refine s_iload_n dX9_canLightAlone_24 rfl ?_
    refine s_iconst (x := (-1)) dX9_canLightAlone_25 (by decide +kernel) ?_
    refine s_cmeq (tgt := 43) dX9_canLightAlone_26 (by decide) ?_ ?_
    · exact S_G_canLightAlone_b43
    · refine s_aload_n dX9_canLightAlone_29 rfl ?_
      refine s_gp (C := RX9) (Tf := TX9) (N := 11) (i := 9) (j := 3) rfl (by decide) rfl (Or.inl wd_401) dX9_canLightAlone_30 ?_
      refine s_gi (C := RX8) (Tf := TX8) (N := 12) (i := 8) (j := 2) rfl (by decide) rfl (Or.inr ⟨_, wd_435⟩) dX9_canLightAlone_33 ?_
      refine s_iload_n dX9_canLightAlone_36 rfl ?_
      refine s_cs M_G_has dX9_canLightAlone_37 ⟨by decide +kernel, by decide +kernel, by decide +kernel⟩ (by decide) wd_258 wd_10 (Or.inl ⟨wd_469, rfl⟩) ?_
      refine s_ifeq (tgt := 47) dX9_canLightAlone_40 (by decide) ?_ ?_
      · exact S_G_canLightAlone_b47
      · exact S_G_canLightAlone_b43
def G_canLightAlone (As : List Value) (M : ak_M) : ak_R := match As with
  | [.ref a, .int x0] => G_canLightAlone_b0 [some (.ref a), some (.int x0), none] [] M
  | _ => none
theorem M_G_canLightAlone : ak_Mt yX9_canLightAlone cX9_canLightAlone 3 (some .boolean) 2 43 G_canLightAlone := by
  refine ak_met (rk := 2) wd_526 (by decide +kernel) rfl (Or.inr (Or.inr (Or.inl ⟨rfl, rfl⟩))) (fun h => absurd h (by decide)) S_G_canLightAlone_b0 (fun As M r h => ?_)
  unfold G_canLightAlone at h
  split at h
  next => exact ⟨Nat.le_of_ble_eq_true rfl, 1, h⟩
  next => cases h
-- GreetedMirrors.cannot()I
def G_cannot_b59 (h19 : ak_K) : ak_K := (k_ii 2 1 h19)
theorem S_G_cannot_b59 {h19 : ak_K} (H19 : ak_S cX9_cannot RX9 3 1 4 99 (0, fun _ => 0) 19 h19) : ak_S cX9_cannot RX9 3 1 4 99 (0, fun _ => 0) 59 (G_cannot_b59 h19) := by
  unfold G_cannot_b59
  refine s_iinc (y := 1) dX9_cannot_59 (by decide +kernel) (by decide) ?_
  refine s_goto (tgt := 19) dX9_cannot_62 (by decide) ?_
  exact H19
def G_cannot_b19 (h19 : ak_K) : ak_K := (k_il 2 (k_al 0 (k_gp 9 1 (k_gi 2 3 (k_cmge (k_il 1 k_ri) (k_al 0 (k_gp 9 3 (k_gi 8 2 (k_il 2 (k_cs 2 G_has (k_ifeq (k_al 0 (k_il 2 (k_cv 9 2 G_canLightAlone (k_ifeq (k_il 1 (k_il 2 (k_ci 1 (k_cs 3 G_with (k_is 1 (G_cannot_b59 h19)))))) (G_cannot_b59 h19))))) (G_cannot_b59 h19))))))))))))
theorem S_G_cannot_b19 {h19 : ak_K} (H19 : ak_S cX9_cannot RX9 3 1 4 99 (0, fun _ => 0) 19 h19) : ak_S cX9_cannot RX9 3 1 4 99 (0, fun _ => 0) 19 (G_cannot_b19 h19) := by
  unfold G_cannot_b19
  refine s_iload_n dX9_cannot_19 rfl ?_
  refine s_aload_n dX9_cannot_20 rfl ?_
  refine s_gp (C := RX9) (Tf := TX9) (N := 11) (i := 9) (j := 1) rfl (by decide) rfl (Or.inl wd_397) dX9_cannot_21 ?_
  refine s_gi (C := RX2) (Tf := TX2) (N := 12) (i := 2) (j := 3) rfl (by decide) rfl (Or.inr ⟨_, wd_420⟩) dX9_cannot_24 ?_
  refine s_cmge (tgt := 65) dX9_cannot_27 (by decide) ?_ ?_
  · refine s_iload_n dX9_cannot_65 rfl ?_
    exact s_ri rfl dX9_cannot_66
  · refine s_aload_n dX9_cannot_30 rfl ?_
    refine s_gp (C := RX9) (Tf := TX9) (N := 11) (i := 9) (j := 3) rfl (by decide) rfl (Or.inl wd_401) dX9_cannot_31 ?_
    refine s_gi (C := RX8) (Tf := TX8) (N := 12) (i := 8) (j := 2) rfl (by decide) rfl (Or.inr ⟨_, wd_435⟩) dX9_cannot_34 ?_
    refine s_iload_n dX9_cannot_37 rfl ?_
    refine s_cs M_G_has dX9_cannot_38 ⟨by decide +kernel, by decide +kernel, by decide +kernel⟩ (by decide) wd_258 wd_10 (Or.inl ⟨wd_469, rfl⟩) ?_
    refine s_ifne (tgt := 59) dX9_cannot_41 (by decide) ?_ ?_
    · refine s_aload_n dX9_cannot_44 rfl ?_
      refine s_iload_n dX9_cannot_45 rfl ?_
      refine s_cv (C := RX9) (Tf := TX9) (N := 11) (i := 9) rfl M_G_canLightAlone dX9_cannot_46 rfl ⟨by decide +kernel, by decide +kernel, by decide +kernel⟩ (by decide) wd_528 wd_529 wd_10 (Or.inl wd_527) ?_
      refine s_ifne (tgt := 59) dX9_cannot_49 (by decide) ?_ ?_
      · refine s_iload_n dX9_cannot_52 rfl ?_
        refine s_iload_n dX9_cannot_53 rfl ?_
        refine s_iconst (x := 1) dX9_cannot_54 (by decide +kernel) ?_
        refine s_cs M_G_with dX9_cannot_55 ⟨by decide +kernel, by decide +kernel, by decide +kernel⟩ (by decide) wd_52 wd_10 (Or.inl ⟨wd_492, rfl⟩) ?_
        refine s_istore_n dX9_cannot_58 rfl (by decide) ?_
        exact (S_G_cannot_b59 H19)
      · exact (S_G_cannot_b59 H19)
    · exact (S_G_cannot_b59 H19)
def G_cannot_l19 : Nat → ak_K
  | 0 => k_no
  | n + 1 => G_cannot_b19 (G_cannot_l19 n)
theorem S_G_cannot_l19 : ∀ n : Nat, ak_S cX9_cannot RX9 3 1 4 99 (0, fun _ => 0) 19 (G_cannot_l19 n)
  | 0 => s_no
  | n + 1 => S_G_cannot_b19 (S_G_cannot_l19 n)
def G_cannot_b0 : ak_K := (k_al 0 (k_gp 9 7 (k_al 0 (k_gp 9 1 (k_al 0 (k_gp 9 3 (k_cv 7 3 Rounds_measure (k_ci 0 (k_is 1 (k_ci 0 (k_is 2 (G_cannot_l19 ak_fuel))))))))))))
theorem S_G_cannot_b0 : ak_S cX9_cannot RX9 3 1 4 99 (0, fun _ => 0) 0 (G_cannot_b0) := by
  unfold G_cannot_b0
  refine s_aload_n dX9_cannot_0 rfl ?_
  refine s_gp (C := RX9) (Tf := TX9) (N := 11) (i := 9) (j := 7) rfl (by decide) rfl (Or.inl wd_381) dX9_cannot_1 ?_
  refine s_aload_n dX9_cannot_4 rfl ?_
  refine s_gp (C := RX9) (Tf := TX9) (N := 11) (i := 9) (j := 1) rfl (by decide) rfl (Or.inl wd_397) dX9_cannot_5 ?_
  refine s_aload_n dX9_cannot_8 rfl ?_
  refine s_gp (C := RX9) (Tf := TX9) (N := 11) (i := 9) (j := 3) rfl (by decide) rfl (Or.inl wd_401) dX9_cannot_9 ?_
  refine s_cv (C := RX7) (Tf := TX7) (N := 7) (i := 7) rfl M_Rounds_measure dX9_cannot_12 rfl ⟨by decide +kernel, by decide +kernel, by decide +kernel⟩ (by decide) wd_322 wd_323 wd_277 (Or.inr ⟨_, wd_530⟩) ?_
  refine s_iconst (x := 0) dX9_cannot_15 (by decide +kernel) ?_
  refine s_istore_n dX9_cannot_16 rfl (by decide) ?_
  refine s_iconst (x := 0) dX9_cannot_17 (by decide +kernel) ?_
  refine s_istore_n dX9_cannot_18 rfl (by decide) ?_
  exact (S_G_cannot_l19 ak_fuel)
def G_cannot (As : List Value) (M : ak_M) : ak_R := match As with
  | [.ref a] => G_cannot_b0 [some (.ref a), none, none] [] M
  | _ => none
theorem M_G_cannot : ak_Mt yX9_cannot cX9_cannot 3 (some .int) 4 99 G_cannot := by
  refine ak_met (rk := 1) wd_531 (by decide +kernel) rfl (Or.inr (Or.inl ⟨rfl, rfl⟩)) (fun h => absurd h (by decide)) S_G_cannot_b0 (fun As M r h => ?_)
  unfold G_cannot at h
  split at h
  next => exact ⟨Nat.le_of_ble_eq_true rfl, 2, h⟩
  next => cases h
-- GreetedMirrors.steps(I)I
def G_steps_b0 : ak_K := (k_al 0 (k_gp 9 1 (k_il 1 (k_cv 2 2 House_hasRoom (k_ifeq (k_ci (-1000000001) k_ri) (k_al 0 (k_gp 9 7 (k_al 0 (k_gp 9 1 (k_al 0 (k_gp 9 3 (k_cv 7 3 Rounds_measure (k_al 0 (k_gp 9 7 (k_il 1 (k_cv 7 2 Rounds_fromHere k_ri))))))))))))))))
theorem S_G_steps_b0 : ak_S cX9_steps RX9 2 1 4 99 (0, fun _ => 0) 0 (G_steps_b0) := by
  unfold G_steps_b0
  refine s_aload_n dX9_steps_0 rfl ?_
  refine s_gp (C := RX9) (Tf := TX9) (N := 11) (i := 9) (j := 1) rfl (by decide) rfl (Or.inl wd_397) dX9_steps_1 ?_
  refine s_iload_n dX9_steps_4 rfl ?_
  refine s_cv (C := RX2) (Tf := TX2) (N := 12) (i := 2) rfl M_House_hasRoom dX9_steps_5 rfl ⟨by decide +kernel, by decide +kernel, by decide +kernel⟩ (by decide) wd_478 wd_479 wd_194 (Or.inr ⟨_, wd_477⟩) ?_
  refine s_ifne (tgt := 14) dX9_steps_8 (by decide) ?_ ?_
  · refine s_ldc (x := (-1000000001)) dX9_steps_11 wd_453 ?_
    exact s_ri rfl dX9_steps_13
  · refine s_aload_n dX9_steps_14 rfl ?_
    refine s_gp (C := RX9) (Tf := TX9) (N := 11) (i := 9) (j := 7) rfl (by decide) rfl (Or.inl wd_381) dX9_steps_15 ?_
    refine s_aload_n dX9_steps_18 rfl ?_
    refine s_gp (C := RX9) (Tf := TX9) (N := 11) (i := 9) (j := 1) rfl (by decide) rfl (Or.inl wd_397) dX9_steps_19 ?_
    refine s_aload_n dX9_steps_22 rfl ?_
    refine s_gp (C := RX9) (Tf := TX9) (N := 11) (i := 9) (j := 3) rfl (by decide) rfl (Or.inl wd_401) dX9_steps_23 ?_
    refine s_cv (C := RX7) (Tf := TX7) (N := 7) (i := 7) rfl M_Rounds_measure dX9_steps_26 rfl ⟨by decide +kernel, by decide +kernel, by decide +kernel⟩ (by decide) wd_322 wd_323 wd_277 (Or.inr ⟨_, wd_530⟩) ?_
    refine s_aload_n dX9_steps_29 rfl ?_
    refine s_gp (C := RX9) (Tf := TX9) (N := 11) (i := 9) (j := 7) rfl (by decide) rfl (Or.inl wd_381) dX9_steps_30 ?_
    refine s_iload_n dX9_steps_33 rfl ?_
    refine s_cv (C := RX7) (Tf := TX7) (N := 7) (i := 7) rfl M_Rounds_fromHere dX9_steps_34 rfl ⟨by decide +kernel, by decide +kernel, by decide +kernel⟩ (by decide) wd_278 wd_279 wd_277 (Or.inr ⟨_, wd_532⟩) ?_
    exact s_ri rfl dX9_steps_37
def G_steps (As : List Value) (M : ak_M) : ak_R := match As with
  | [.ref a, .int x0] => G_steps_b0 [some (.ref a), some (.int x0)] [] M
  | _ => none
theorem M_G_steps : ak_Mt yX9_steps cX9_steps 2 (some .int) 4 99 G_steps := by
  refine ak_met (rk := 1) wd_533 (by decide +kernel) rfl (Or.inr (Or.inl ⟨rfl, rfl⟩)) (fun h => absurd h (by decide)) S_G_steps_b0 (fun As M r h => ?_)
  unfold G_steps at h
  split at h
  next => exact ⟨Nat.le_of_ble_eq_true rfl, 0, h⟩
  next => cases h
-- GreetedMirrors.mostSeen(I)I
def G_mostSeen_b111 : ak_K := k_ri
theorem S_G_mostSeen_b111 : ak_S cX9_mostSeen RX9 6 1 3 70 (0, fun _ => 0) 111 (G_mostSeen_b111) := by
  unfold G_mostSeen_b111
  exact s_ri rfl dX9_mostSeen_111
def G_mostSeen_b96 (h19 : ak_K) : ak_K := (k_ii 4 1 h19)
theorem S_G_mostSeen_b96 {h19 : ak_K} (H19 : ak_S cX9_mostSeen RX9 6 1 3 70 (0, fun _ => 0) 19 h19) : ak_S cX9_mostSeen RX9 6 1 3 70 (0, fun _ => 0) 96 (G_mostSeen_b96 h19) := by
  unfold G_mostSeen_b96
  refine s_iinc (y := 1) dX9_mostSeen_96 (by decide +kernel) (by decide) ?_
  refine s_goto (tgt := 19) dX9_mostSeen_99 (by decide) ?_
  exact H19
def G_mostSeen_b74 (h19 : ak_K) : ak_K := (k_il 4 (k_cv 8 3 State_seenFrom (k_cv 8 3 State_personsIn (k_is 5 (k_il 5 (k_il 3 (k_cmle (G_mostSeen_b96 h19) (k_il 5 (k_is 3 (k_il 4 (k_is 2 (G_mostSeen_b96 h19))))))))))))
theorem S_G_mostSeen_b74 {h19 : ak_K} (H19 : ak_S cX9_mostSeen RX9 6 1 3 70 (0, fun _ => 0) 19 h19) : ak_S cX9_mostSeen RX9 6 1 3 70 (0, fun _ => 0) 74 (G_mostSeen_b74 h19) := by
  unfold G_mostSeen_b74
  refine s_iload dX9_mostSeen_74 ?_
  refine s_cv (C := RX8) (Tf := TX8) (N := 12) (i := 8) rfl M_State_seenFrom dX9_mostSeen_76 rfl ⟨by decide +kernel, by decide +kernel, by decide +kernel⟩ (by decide) wd_467 wd_468 wd_74 (Or.inr ⟨_, wd_466⟩) ?_
  refine s_cv (C := RX8) (Tf := TX8) (N := 12) (i := 8) rfl M_State_personsIn dX9_mostSeen_79 rfl ⟨by decide +kernel, by decide +kernel, by decide +kernel⟩ (by decide) wd_535 wd_536 wd_74 (Or.inr ⟨_, wd_534⟩) ?_
  refine s_istore dX9_mostSeen_82 (by decide) ?_
  refine s_iload dX9_mostSeen_84 ?_
  refine s_iload_n dX9_mostSeen_86 rfl ?_
  refine s_cmle (tgt := 96) dX9_mostSeen_87 (by decide) ?_ ?_
  · exact (S_G_mostSeen_b96 H19)
  · refine s_iload dX9_mostSeen_90 ?_
    refine s_istore_n dX9_mostSeen_92 rfl (by decide) ?_
    refine s_iload dX9_mostSeen_93 ?_
    refine s_istore_n dX9_mostSeen_95 rfl (by decide) ?_
    exact (S_G_mostSeen_b96 H19)
def G_mostSeen_b19 (h19 : ak_K) : ak_K := (k_il 4 (k_al 0 (k_gp 9 1 (k_gi 2 0 (k_cmge (k_il 1 (k_ifeq (k_il 2 G_mostSeen_b111) (k_il 3 G_mostSeen_b111))) (k_al 0 (k_gp 9 1 (k_il 4 (k_cv 2 2 House_mirrorsIn (k_ifeq (G_mostSeen_b96 h19) (k_al 0 (k_gp 9 3 (k_gi 8 4 (k_il 4 (k_cs 2 G_has (k_ifeq (k_al 0 (k_gp 9 3 (k_al 0 (k_gp 9 1 (k_al 0 (k_gp 9 3 (k_al 0 (k_gp 9 1 (G_mostSeen_b74 h19))))))))) (G_mostSeen_b96 h19)))))))))))))))))
theorem S_G_mostSeen_b19 {h19 : ak_K} (H19 : ak_S cX9_mostSeen RX9 6 1 3 70 (0, fun _ => 0) 19 h19) : ak_S cX9_mostSeen RX9 6 1 3 70 (0, fun _ => 0) 19 (G_mostSeen_b19 h19) := by
  unfold G_mostSeen_b19
  refine s_iload dX9_mostSeen_19 ?_
  refine s_aload_n dX9_mostSeen_21 rfl ?_
  refine s_gp (C := RX9) (Tf := TX9) (N := 11) (i := 9) (j := 1) rfl (by decide) rfl (Or.inl wd_397) dX9_mostSeen_22 ?_
  refine s_gi (C := RX2) (Tf := TX2) (N := 12) (i := 2) (j := 0) rfl (by decide) rfl (Or.inr ⟨_, wd_430⟩) dX9_mostSeen_25 ?_
  refine s_cmge (tgt := 102) dX9_mostSeen_28 (by decide) ?_ ?_
  · refine s_iload_n dX9_mostSeen_102 rfl ?_
    refine s_ifne (tgt := 110) dX9_mostSeen_103 (by decide) ?_ ?_
    · refine s_iload_n dX9_mostSeen_106 rfl ?_
      refine s_goto (tgt := 111) dX9_mostSeen_107 (by decide) ?_
      exact S_G_mostSeen_b111
    · refine s_iload_n dX9_mostSeen_110 rfl ?_
      exact S_G_mostSeen_b111
  · refine s_aload_n dX9_mostSeen_31 rfl ?_
    refine s_gp (C := RX9) (Tf := TX9) (N := 11) (i := 9) (j := 1) rfl (by decide) rfl (Or.inl wd_397) dX9_mostSeen_32 ?_
    refine s_iload dX9_mostSeen_35 ?_
    refine s_cv (C := RX2) (Tf := TX2) (N := 12) (i := 2) rfl M_House_mirrorsIn dX9_mostSeen_37 rfl ⟨by decide +kernel, by decide +kernel, by decide +kernel⟩ (by decide) wd_471 wd_472 wd_194 (Or.inr ⟨_, wd_470⟩) ?_
    refine s_ifeq (tgt := 96) dX9_mostSeen_40 (by decide) ?_ ?_
    · exact (S_G_mostSeen_b96 H19)
    · refine s_aload_n dX9_mostSeen_43 rfl ?_
      refine s_gp (C := RX9) (Tf := TX9) (N := 11) (i := 9) (j := 3) rfl (by decide) rfl (Or.inl wd_401) dX9_mostSeen_44 ?_
      refine s_gi (C := RX8) (Tf := TX8) (N := 12) (i := 8) (j := 4) rfl (by decide) rfl (Or.inr ⟨_, wd_437⟩) dX9_mostSeen_47 ?_
      refine s_iload dX9_mostSeen_50 ?_
      refine s_cs M_G_has dX9_mostSeen_52 ⟨by decide +kernel, by decide +kernel, by decide +kernel⟩ (by decide) wd_258 wd_10 (Or.inl ⟨wd_469, rfl⟩) ?_
      refine s_ifne (tgt := 96) dX9_mostSeen_55 (by decide) ?_ ?_
      · refine s_aload_n dX9_mostSeen_58 rfl ?_
        refine s_gp (C := RX9) (Tf := TX9) (N := 11) (i := 9) (j := 3) rfl (by decide) rfl (Or.inl wd_401) dX9_mostSeen_59 ?_
        refine s_aload_n dX9_mostSeen_62 rfl ?_
        refine s_gp (C := RX9) (Tf := TX9) (N := 11) (i := 9) (j := 1) rfl (by decide) rfl (Or.inl wd_397) dX9_mostSeen_63 ?_
        refine s_aload_n dX9_mostSeen_66 rfl ?_
        refine s_gp (C := RX9) (Tf := TX9) (N := 11) (i := 9) (j := 3) rfl (by decide) rfl (Or.inl wd_401) dX9_mostSeen_67 ?_
        refine s_aload_n dX9_mostSeen_70 rfl ?_
        refine s_gp (C := RX9) (Tf := TX9) (N := 11) (i := 9) (j := 1) rfl (by decide) rfl (Or.inl wd_397) dX9_mostSeen_71 ?_
        exact (S_G_mostSeen_b74 H19)
      · exact (S_G_mostSeen_b96 H19)
def G_mostSeen_l19 : Nat → ak_K
  | 0 => k_no
  | n + 1 => G_mostSeen_b19 (G_mostSeen_l19 n)
theorem S_G_mostSeen_l19 : ∀ n : Nat, ak_S cX9_mostSeen RX9 6 1 3 70 (0, fun _ => 0) 19 (G_mostSeen_l19 n)
  | 0 => s_no
  | n + 1 => S_G_mostSeen_b19 (S_G_mostSeen_l19 n)
def G_mostSeen_b12 : ak_K := (k_ci (-1) (k_is 2 (k_ci (-1) (k_is 3 (k_ci 0 (k_is 4 (G_mostSeen_l19 ak_fuel)))))))
theorem S_G_mostSeen_b12 : ak_S cX9_mostSeen RX9 6 1 3 70 (0, fun _ => 0) 12 (G_mostSeen_b12) := by
  unfold G_mostSeen_b12
  refine s_iconst (x := (-1)) dX9_mostSeen_12 (by decide +kernel) ?_
  refine s_istore_n dX9_mostSeen_13 rfl (by decide) ?_
  refine s_iconst (x := (-1)) dX9_mostSeen_14 (by decide +kernel) ?_
  refine s_istore_n dX9_mostSeen_15 rfl (by decide) ?_
  refine s_iconst (x := 0) dX9_mostSeen_16 (by decide +kernel) ?_
  refine s_istore dX9_mostSeen_17 (by decide) ?_
  exact (S_G_mostSeen_l19 ak_fuel)
def G_mostSeen_b0 : ak_K := (k_il 1 (k_ifeq G_mostSeen_b12 (k_il 1 (k_ci 1 (k_cmeq G_mostSeen_b12 (k_ci (-1000000002) k_ri))))))
theorem S_G_mostSeen_b0 : ak_S cX9_mostSeen RX9 6 1 3 70 (0, fun _ => 0) 0 (G_mostSeen_b0) := by
  unfold G_mostSeen_b0
  refine s_iload_n dX9_mostSeen_0 rfl ?_
  refine s_ifeq (tgt := 12) dX9_mostSeen_1 (by decide) ?_ ?_
  · exact S_G_mostSeen_b12
  · refine s_iload_n dX9_mostSeen_4 rfl ?_
    refine s_iconst (x := 1) dX9_mostSeen_5 (by decide +kernel) ?_
    refine s_cmeq (tgt := 12) dX9_mostSeen_6 (by decide) ?_ ?_
    · exact S_G_mostSeen_b12
    · refine s_ldc (x := (-1000000002)) dX9_mostSeen_9 wd_405 ?_
      exact s_ri rfl dX9_mostSeen_11
def G_mostSeen (As : List Value) (M : ak_M) : ak_R := match As with
  | [.ref a, .int x0] => G_mostSeen_b0 [some (.ref a), some (.int x0), none, none, none, none] [] M
  | _ => none
theorem M_G_mostSeen : ak_Mt yX9_mostSeen cX9_mostSeen 6 (some .int) 3 70 G_mostSeen := by
  refine ak_met (rk := 1) wd_537 (by decide +kernel) rfl (Or.inr (Or.inl ⟨rfl, rfl⟩)) (fun h => absurd h (by decide)) S_G_mostSeen_b0 (fun As M r h => ?_)
  unfold G_mostSeen at h
  split at h
  next => exact ⟨Nat.le_of_ble_eq_true rfl, 4, h⟩
  next => cases h
-- GreetedMirrors.learn()I
def G_learn_b46 (h4 : ak_K) : ak_K := (k_ii 2 1 h4)
theorem S_G_learn_b46 {h4 : ak_K} (H4 : ak_S cX9_learn RX9 3 1 1 22 (0, fun _ => 0) 4 h4) : ak_S cX9_learn RX9 3 1 1 22 (0, fun _ => 0) 46 (G_learn_b46 h4) := by
  unfold G_learn_b46
  refine s_iinc (y := 1) dX9_learn_46 (by decide +kernel) (by decide) ?_
  refine s_goto (tgt := 4) dX9_learn_49 (by decide) ?_
  exact H4
def G_learn_b4 (h4 : ak_K) : ak_K := (k_il 2 (k_al 0 (k_gp 9 1 (k_gi 2 3 (k_cmge (k_il 1 (k_al 0 (k_gp 9 3 (k_gi 8 1 (k_ci (-1) (k_b (fun x y => x ^^^ y) (k_b (fun x y => x &&& y) k_ri))))))) (k_al 0 (k_gp 9 3 (k_gi 8 2 (k_il 2 (k_cs 2 G_has (k_ifeq (k_il 1 (k_al 0 (k_gp 9 3 (k_gp 8 8 (k_il 2 (k_cs 2 G_at (k_ci 1 (k_cs 3 G_with (k_is 1 (G_learn_b46 h4)))))))))) (G_learn_b46 h4))))))))))))
theorem S_G_learn_b4 {h4 : ak_K} (H4 : ak_S cX9_learn RX9 3 1 1 22 (0, fun _ => 0) 4 h4) : ak_S cX9_learn RX9 3 1 1 22 (0, fun _ => 0) 4 (G_learn_b4 h4) := by
  unfold G_learn_b4
  refine s_iload_n dX9_learn_4 rfl ?_
  refine s_aload_n dX9_learn_5 rfl ?_
  refine s_gp (C := RX9) (Tf := TX9) (N := 11) (i := 9) (j := 1) rfl (by decide) rfl (Or.inl wd_397) dX9_learn_6 ?_
  refine s_gi (C := RX2) (Tf := TX2) (N := 12) (i := 2) (j := 3) rfl (by decide) rfl (Or.inr ⟨_, wd_420⟩) dX9_learn_9 ?_
  refine s_cmge (tgt := 52) dX9_learn_12 (by decide) ?_ ?_
  · refine s_iload_n dX9_learn_52 rfl ?_
    refine s_aload_n dX9_learn_53 rfl ?_
    refine s_gp (C := RX9) (Tf := TX9) (N := 11) (i := 9) (j := 3) rfl (by decide) rfl (Or.inl wd_401) dX9_learn_54 ?_
    refine s_gi (C := RX8) (Tf := TX8) (N := 12) (i := 8) (j := 1) rfl (by decide) rfl (Or.inr ⟨_, wd_434⟩) dX9_learn_57 ?_
    refine s_iconst (x := (-1)) dX9_learn_60 (by decide +kernel) ?_
    refine s_ixor dX9_learn_61 ?_
    refine s_iand dX9_learn_62 ?_
    exact s_ri rfl dX9_learn_63
  · refine s_aload_n dX9_learn_15 rfl ?_
    refine s_gp (C := RX9) (Tf := TX9) (N := 11) (i := 9) (j := 3) rfl (by decide) rfl (Or.inl wd_401) dX9_learn_16 ?_
    refine s_gi (C := RX8) (Tf := TX8) (N := 12) (i := 8) (j := 2) rfl (by decide) rfl (Or.inr ⟨_, wd_435⟩) dX9_learn_19 ?_
    refine s_iload_n dX9_learn_22 rfl ?_
    refine s_cs M_G_has dX9_learn_23 ⟨by decide +kernel, by decide +kernel, by decide +kernel⟩ (by decide) wd_258 wd_10 (Or.inl ⟨wd_469, rfl⟩) ?_
    refine s_ifne (tgt := 46) dX9_learn_26 (by decide) ?_ ?_
    · refine s_iload_n dX9_learn_29 rfl ?_
      refine s_aload_n dX9_learn_30 rfl ?_
      refine s_gp (C := RX9) (Tf := TX9) (N := 11) (i := 9) (j := 3) rfl (by decide) rfl (Or.inl wd_401) dX9_learn_31 ?_
      refine s_gp (C := RX8) (Tf := TX8) (N := 12) (i := 8) (j := 8) rfl (by decide) rfl (Or.inr ⟨_, wd_446⟩) dX9_learn_34 ?_
      refine s_iload_n dX9_learn_37 rfl ?_
      refine s_cs M_G_at dX9_learn_38 ⟨by decide +kernel, by decide +kernel, by decide +kernel⟩ (by decide) wd_16 wd_10 (Or.inl ⟨wd_445, rfl⟩) ?_
      refine s_iconst (x := 1) dX9_learn_41 (by decide +kernel) ?_
      refine s_cs M_G_with dX9_learn_42 ⟨by decide +kernel, by decide +kernel, by decide +kernel⟩ (by decide) wd_52 wd_10 (Or.inl ⟨wd_492, rfl⟩) ?_
      refine s_istore_n dX9_learn_45 rfl (by decide) ?_
      exact (S_G_learn_b46 H4)
    · exact (S_G_learn_b46 H4)
def G_learn_l4 : Nat → ak_K
  | 0 => k_no
  | n + 1 => G_learn_b4 (G_learn_l4 n)
theorem S_G_learn_l4 : ∀ n : Nat, ak_S cX9_learn RX9 3 1 1 22 (0, fun _ => 0) 4 (G_learn_l4 n)
  | 0 => s_no
  | n + 1 => S_G_learn_b4 (S_G_learn_l4 n)
def G_learn_b0 : ak_K := (k_ci 0 (k_is 1 (k_ci 0 (k_is 2 (G_learn_l4 ak_fuel)))))
theorem S_G_learn_b0 : ak_S cX9_learn RX9 3 1 1 22 (0, fun _ => 0) 0 (G_learn_b0) := by
  unfold G_learn_b0
  refine s_iconst (x := 0) dX9_learn_0 (by decide +kernel) ?_
  refine s_istore_n dX9_learn_1 rfl (by decide) ?_
  refine s_iconst (x := 0) dX9_learn_2 (by decide +kernel) ?_
  refine s_istore_n dX9_learn_3 rfl (by decide) ?_
  exact (S_G_learn_l4 ak_fuel)
def G_learn (As : List Value) (M : ak_M) : ak_R := match As with
  | [.ref a] => G_learn_b0 [some (.ref a), none, none] [] M
  | _ => none
theorem M_G_learn : ak_Mt yX9_learn cX9_learn 3 (some .int) 1 22 G_learn := by
  refine ak_met (rk := 1) wd_538 (by decide +kernel) rfl (Or.inr (Or.inl ⟨rfl, rfl⟩)) (fun h => absurd h (by decide)) S_G_learn_b0 (fun As M r h => ?_)
  unfold G_learn at h
  split at h
  next => exact ⟨Nat.le_of_ble_eq_true rfl, 2, h⟩
  next => cases h
-- GreetedMirrors.steamed(II)I
def G_steamed_b20 : ak_K := (k_ci (-1000000002) k_ri)
theorem S_G_steamed_b20 : ak_S cX9_steamed RX9 6 1 0 0 (0, fun _ => 0) 20 (G_steamed_b20) := by
  unfold G_steamed_b20
  refine s_ldc (x := (-1000000002)) dX9_steamed_20 wd_405 ?_
  exact s_ri rfl dX9_steamed_22
def G_steamed_b30 (h30 : ak_K) : ak_K := (k_il 5 (k_il 1 (k_cmge (k_ll 3 (k_l2i k_ri)) (k_ll 3 (k_ci 100 (k_il 2 (k_b (fun x y => x - y) (k_i2l (k_lb (fun x y => x * y) (k_cl 100 (k_lbd (fun x y => x / y) (k_ls 3 (k_ii 5 1 h30)))))))))))))
theorem S_G_steamed_b30 {h30 : ak_K} (H30 : ak_S cX9_steamed RX9 6 1 0 0 (0, fun _ => 0) 30 h30) : ak_S cX9_steamed RX9 6 1 0 0 (0, fun _ => 0) 30 (G_steamed_b30 h30) := by
  unfold G_steamed_b30
  refine s_iload dX9_steamed_30 ?_
  refine s_iload_n dX9_steamed_32 rfl ?_
  refine s_cmge (tgt := 54) dX9_steamed_33 (by decide) ?_ ?_
  · refine s_lload_n dX9_steamed_54 rfl ?_
    refine s_l2i dX9_steamed_55 ?_
    exact s_ri rfl dX9_steamed_56
  · refine s_lload_n dX9_steamed_36 rfl ?_
    refine s_bipush (x := 100) dX9_steamed_37 (by decide +kernel) ?_
    refine s_iload_n dX9_steamed_39 rfl ?_
    refine s_isub dX9_steamed_40 ?_
    refine s_i2l dX9_steamed_41 ?_
    refine s_lmul dX9_steamed_42 ?_
    refine s_ldc2 (x := 100) dX9_steamed_43 wd_539 ?_
    refine s_ldiv dX9_steamed_46 ?_
    refine s_lstore_n dX9_steamed_47 rfl (by decide) ?_
    refine s_iinc (y := 1) dX9_steamed_48 (by decide +kernel) (by decide) ?_
    refine s_goto (tgt := 30) dX9_steamed_51 (by decide) ?_
    exact H30
def G_steamed_l30 : Nat → ak_K
  | 0 => k_no
  | n + 1 => G_steamed_b30 (G_steamed_l30 n)
theorem S_G_steamed_l30 : ∀ n : Nat, ak_S cX9_steamed RX9 6 1 0 0 (0, fun _ => 0) 30 (G_steamed_l30 n)
  | 0 => s_no
  | n + 1 => S_G_steamed_b30 (S_G_steamed_l30 n)
def G_steamed_b0 : ak_K := (k_il 1 (k_iflt G_steamed_b20 (k_il 1 (k_ci 60 (k_cmgt G_steamed_b20 (k_il 2 (k_iflt G_steamed_b20 (k_il 2 (k_ci 100 (k_cmle (k_cl 1000000000 (k_ls 3 (k_ci 0 (k_is 5 (G_steamed_l30 ak_fuel))))) G_steamed_b20))))))))))
theorem S_G_steamed_b0 : ak_S cX9_steamed RX9 6 1 0 0 (0, fun _ => 0) 0 (G_steamed_b0) := by
  unfold G_steamed_b0
  refine s_iload_n dX9_steamed_0 rfl ?_
  refine s_iflt (tgt := 20) dX9_steamed_1 (by decide) ?_ ?_
  · exact S_G_steamed_b20
  · refine s_iload_n dX9_steamed_4 rfl ?_
    refine s_bipush (x := 60) dX9_steamed_5 (by decide +kernel) ?_
    refine s_cmgt (tgt := 20) dX9_steamed_7 (by decide) ?_ ?_
    · exact S_G_steamed_b20
    · refine s_iload_n dX9_steamed_10 rfl ?_
      refine s_iflt (tgt := 20) dX9_steamed_11 (by decide) ?_ ?_
      · exact S_G_steamed_b20
      · refine s_iload_n dX9_steamed_14 rfl ?_
        refine s_bipush (x := 100) dX9_steamed_15 (by decide +kernel) ?_
        refine s_cmle (tgt := 23) dX9_steamed_17 (by decide) ?_ ?_
        · refine s_ldc2 (x := 1000000000) dX9_steamed_23 wd_540 ?_
          refine s_lstore_n dX9_steamed_26 rfl (by decide) ?_
          refine s_iconst (x := 0) dX9_steamed_27 (by decide +kernel) ?_
          refine s_istore dX9_steamed_28 (by decide) ?_
          exact (S_G_steamed_l30 ak_fuel)
        · exact S_G_steamed_b20
def G_steamed (As : List Value) (M : ak_M) : ak_R := match As with
  | [.ref a, .int x0, .int x1] => G_steamed_b0 [some (.ref a), some (.int x0), some (.int x1), none, none, none] [] M
  | _ => none
theorem M_G_steamed : ak_Mt yX9_steamed cX9_steamed 6 (some .int) 0 0 G_steamed := by
  refine ak_met (rk := 1) wd_541 (by decide +kernel) rfl (Or.inr (Or.inl ⟨rfl, rfl⟩)) (fun h => absurd h (by decide)) S_G_steamed_b0 (fun As M r h => ?_)
  unfold G_steamed at h
  split at h
  next => exact ⟨Nat.le_of_ble_eq_true rfl, 3, h⟩
  next => cases h
-- GreetedMirrors.ask(IIZ)I
def G_ask_b18 : ak_K := (k_ci (-1000000001) k_ri)
theorem S_G_ask_b18 : ak_S cX9_ask RX9 4 1 2 45 (0, fun _ => 0) 18 (G_ask_b18) := by
  unfold G_ask_b18
  refine s_ldc (x := (-1000000001)) dX9_ask_18 wd_453 ?_
  exact s_ri rfl dX9_ask_20
def G_ask_b48 : ak_K := k_ri
theorem S_G_ask_b48 : ak_S cX9_ask RX9 4 1 2 45 (0, fun _ => 0) 48 (G_ask_b48) := by
  unfold G_ask_b48
  exact s_ri rfl dX9_ask_48
def G_ask_b0 : ak_K := (k_al 0 (k_gp 9 1 (k_il 1 (k_cv 2 2 House_hasMirror (k_ifeq G_ask_b18 (k_il 2 (k_cs 1 G_isName (k_ifeq G_ask_b18 (k_al 0 (k_gp 9 8 (k_gi 4 4 (k_ci 8 (k_cmlt (k_al 0 (k_gp 9 8 (k_il 1 (k_il 2 (k_il 3 (k_cv 4 4 Inquiry_note G_ask_b48)))))) (k_ci (-1000000004) G_ask_b48))))))))))))))
theorem S_G_ask_b0 : ak_S cX9_ask RX9 4 1 2 45 (0, fun _ => 0) 0 (G_ask_b0) := by
  unfold G_ask_b0
  refine s_aload_n dX9_ask_0 rfl ?_
  refine s_gp (C := RX9) (Tf := TX9) (N := 11) (i := 9) (j := 1) rfl (by decide) rfl (Or.inl wd_397) dX9_ask_1 ?_
  refine s_iload_n dX9_ask_4 rfl ?_
  refine s_cv (C := RX2) (Tf := TX2) (N := 12) (i := 2) rfl M_House_hasMirror dX9_ask_5 rfl ⟨by decide +kernel, by decide +kernel, by decide +kernel⟩ (by decide) wd_451 wd_452 wd_194 (Or.inr ⟨_, wd_450⟩) ?_
  refine s_ifeq (tgt := 18) dX9_ask_8 (by decide) ?_ ?_
  · exact S_G_ask_b18
  · refine s_iload_n dX9_ask_11 rfl ?_
    refine s_cs M_G_isName dX9_ask_12 ⟨by decide +kernel, by decide +kernel, by decide +kernel⟩ (by decide) wd_490 wd_10 (Or.inl ⟨wd_489, rfl⟩) ?_
    refine s_ifne (tgt := 21) dX9_ask_15 (by decide) ?_ ?_
    · exact S_G_ask_b18
    · refine s_aload_n dX9_ask_21 rfl ?_
      refine s_gp (C := RX9) (Tf := TX9) (N := 11) (i := 9) (j := 8) rfl (by decide) rfl (Or.inl wd_386) dX9_ask_22 ?_
      refine s_gi (C := RX4) (Tf := TX4) (N := 5) (i := 4) (j := 4) rfl (by decide) rfl (Or.inr ⟨_, wd_441⟩) dX9_ask_25 ?_
      refine s_bipush (x := 8) dX9_ask_28 (by decide +kernel) ?_
      refine s_cmlt (tgt := 38) dX9_ask_30 (by decide) ?_ ?_
      · refine s_aload_n dX9_ask_38 rfl ?_
        refine s_gp (C := RX9) (Tf := TX9) (N := 11) (i := 9) (j := 8) rfl (by decide) rfl (Or.inl wd_386) dX9_ask_39 ?_
        refine s_iload_n dX9_ask_42 rfl ?_
        refine s_iload_n dX9_ask_43 rfl ?_
        refine s_iload_n dX9_ask_44 rfl ?_
        refine s_cv (C := RX4) (Tf := TX4) (N := 5) (i := 4) rfl M_Inquiry_note dX9_ask_45 rfl ⟨by decide +kernel, by decide +kernel, by decide +kernel⟩ (by decide) wd_543 wd_544 wd_93 (Or.inr ⟨_, wd_542⟩) ?_
        exact S_G_ask_b48
      · refine s_ldc (x := (-1000000004)) dX9_ask_33 wd_410 ?_
        refine s_goto (tgt := 48) dX9_ask_35 (by decide) ?_
        exact S_G_ask_b48
def G_ask (As : List Value) (M : ak_M) : ak_R := match As with
  | [.ref a, .int x0, .int x1, .int x2] => G_ask_b0 [some (.ref a), some (.int x0), some (.int x1), some (.int x2)] [] M
  | _ => none
theorem M_G_ask : ak_Mt yX9_ask cX9_ask 4 (some .int) 2 45 G_ask := by
  refine ak_met (rk := 1) wd_545 (by decide +kernel) rfl (Or.inr (Or.inl ⟨rfl, rfl⟩)) (fun h => absurd h (by decide)) S_G_ask_b0 (fun As M r h => ?_)
  unfold G_ask at h
  split at h
  next => exact ⟨Nat.le_of_ble_eq_true rfl, 0, h⟩
  next => cases h
-- GreetedMirrors.changed(I)I
def G_changed_b70 : ak_K := k_ri
theorem S_G_changed_b70 : ak_S cX9_changed RX9 3 1 4 95 (0, fun _ => 0) 70 (G_changed_b70) := by
  unfold G_changed_b70
  exact s_ri rfl dX9_changed_70
def G_changed_b69 : ak_K := (k_ci (-1) G_changed_b70)
theorem S_G_changed_b69 : ak_S cX9_changed RX9 3 1 4 95 (0, fun _ => 0) 69 (G_changed_b69) := by
  unfold G_changed_b69
  refine s_iconst (x := (-1)) dX9_changed_69 (by decide +kernel) ?_
  exact S_G_changed_b70
def G_changed_b26 : ak_K := k_ri
theorem S_G_changed_b26 : ak_S cX9_changed RX9 3 1 4 95 (0, fun _ => 0) 26 (G_changed_b26) := by
  unfold G_changed_b26
  exact s_ri rfl dX9_changed_26
def G_changed_b0 : ak_K := (k_il 1 (k_ci (-2) (k_cmeq (k_al 0 (k_gp 9 8 (k_al 0 (k_gp 9 1 (k_ci 0 (k_cv 4 3 Inquiry_fits (k_ifeq (k_ci 0 G_changed_b26) (k_ci 1 G_changed_b26)))))))) (k_al 0 (k_gp 9 8 (k_al 0 (k_gp 9 1 (k_cv 4 2 Inquiry_findPairs (k_is 2 (k_il 1 (k_ci (-1) (k_cmeq (k_il 2 k_ri) (k_il 1 (k_iflt G_changed_b69 (k_il 1 (k_il 2 (k_cmge G_changed_b69 (k_al 0 (k_gp 9 8 (k_gp 4 3 (k_il 1 (k_cs 2 G_at G_changed_b70))))))))))))))))))))))
theorem S_G_changed_b0 : ak_S cX9_changed RX9 3 1 4 95 (0, fun _ => 0) 0 (G_changed_b0) := by
  unfold G_changed_b0
  refine s_iload_n dX9_changed_0 rfl ?_
  refine s_bipush (x := (-2)) dX9_changed_1 (by decide +kernel) ?_
  refine s_cmne (tgt := 27) dX9_changed_3 (by decide) ?_ ?_
  · refine s_aload_n dX9_changed_6 rfl ?_
    refine s_gp (C := RX9) (Tf := TX9) (N := 11) (i := 9) (j := 8) rfl (by decide) rfl (Or.inl wd_386) dX9_changed_7 ?_
    refine s_aload_n dX9_changed_10 rfl ?_
    refine s_gp (C := RX9) (Tf := TX9) (N := 11) (i := 9) (j := 1) rfl (by decide) rfl (Or.inl wd_397) dX9_changed_11 ?_
    refine s_iconst (x := 0) dX9_changed_14 (by decide +kernel) ?_
    refine s_cv (C := RX4) (Tf := TX4) (N := 5) (i := 4) rfl M_Inquiry_fits dX9_changed_15 rfl ⟨by decide +kernel, by decide +kernel, by decide +kernel⟩ (by decide) wd_99 wd_100 wd_93 (Or.inr ⟨_, wd_546⟩) ?_
    refine s_ifeq (tgt := 25) dX9_changed_18 (by decide) ?_ ?_
    · refine s_iconst (x := 0) dX9_changed_25 (by decide +kernel) ?_
      exact S_G_changed_b26
    · refine s_iconst (x := 1) dX9_changed_21 (by decide +kernel) ?_
      refine s_goto (tgt := 26) dX9_changed_22 (by decide) ?_
      exact S_G_changed_b26
  · refine s_aload_n dX9_changed_27 rfl ?_
    refine s_gp (C := RX9) (Tf := TX9) (N := 11) (i := 9) (j := 8) rfl (by decide) rfl (Or.inl wd_386) dX9_changed_28 ?_
    refine s_aload_n dX9_changed_31 rfl ?_
    refine s_gp (C := RX9) (Tf := TX9) (N := 11) (i := 9) (j := 1) rfl (by decide) rfl (Or.inl wd_397) dX9_changed_32 ?_
    refine s_cv (C := RX4) (Tf := TX4) (N := 5) (i := 4) rfl M_Inquiry_findPairs dX9_changed_35 rfl ⟨by decide +kernel, by decide +kernel, by decide +kernel⟩ (by decide) wd_108 wd_109 wd_93 (Or.inr ⟨_, wd_547⟩) ?_
    refine s_istore_n dX9_changed_38 rfl (by decide) ?_
    refine s_iload_n dX9_changed_39 rfl ?_
    refine s_iconst (x := (-1)) dX9_changed_40 (by decide +kernel) ?_
    refine s_cmne (tgt := 46) dX9_changed_41 (by decide) ?_ ?_
    · refine s_iload_n dX9_changed_44 rfl ?_
      exact s_ri rfl dX9_changed_45
    · refine s_iload_n dX9_changed_46 rfl ?_
      refine s_iflt (tgt := 69) dX9_changed_47 (by decide) ?_ ?_
      · exact S_G_changed_b69
      · refine s_iload_n dX9_changed_50 rfl ?_
        refine s_iload_n dX9_changed_51 rfl ?_
        refine s_cmge (tgt := 69) dX9_changed_52 (by decide) ?_ ?_
        · exact S_G_changed_b69
        · refine s_aload_n dX9_changed_55 rfl ?_
          refine s_gp (C := RX9) (Tf := TX9) (N := 11) (i := 9) (j := 8) rfl (by decide) rfl (Or.inl wd_386) dX9_changed_56 ?_
          refine s_gp (C := RX4) (Tf := TX4) (N := 5) (i := 4) (j := 3) rfl (by decide) rfl (Or.inr ⟨_, wd_548⟩) dX9_changed_59 ?_
          refine s_iload_n dX9_changed_62 rfl ?_
          refine s_cs M_G_at dX9_changed_63 ⟨by decide +kernel, by decide +kernel, by decide +kernel⟩ (by decide) wd_16 wd_10 (Or.inl ⟨wd_445, rfl⟩) ?_
          refine s_goto (tgt := 70) dX9_changed_66 (by decide) ?_
          exact S_G_changed_b70
def G_changed (As : List Value) (M : ak_M) : ak_R := match As with
  | [.ref a, .int x0] => G_changed_b0 [some (.ref a), some (.int x0), none] [] M
  | _ => none
theorem M_G_changed : ak_Mt yX9_changed cX9_changed 3 (some .int) 4 95 G_changed := by
  refine ak_met (rk := 1) wd_549 (by decide +kernel) rfl (Or.inr (Or.inl ⟨rfl, rfl⟩)) (fun h => absurd h (by decide)) S_G_changed_b0 (fun As M r h => ?_)
  unfold G_changed at h
  split at h
  next => exact ⟨Nat.le_of_ble_eq_true rfl, 1, h⟩
  next => cases h
-- GreetedMirrors.askNext()I
def G_askNext_b0 : ak_K := (k_al 0 (k_gp 9 8 (k_al 0 (k_gp 9 1 (k_cv 4 2 Inquiry_bestQuestion k_ri)))))
theorem S_G_askNext_b0 : ak_S cX9_askNext RX9 1 1 5 122 (0, fun _ => 0) 0 (G_askNext_b0) := by
  unfold G_askNext_b0
  refine s_aload_n dX9_askNext_0 rfl ?_
  refine s_gp (C := RX9) (Tf := TX9) (N := 11) (i := 9) (j := 8) rfl (by decide) rfl (Or.inl wd_386) dX9_askNext_1 ?_
  refine s_aload_n dX9_askNext_4 rfl ?_
  refine s_gp (C := RX9) (Tf := TX9) (N := 11) (i := 9) (j := 1) rfl (by decide) rfl (Or.inl wd_397) dX9_askNext_5 ?_
  refine s_cv (C := RX4) (Tf := TX4) (N := 5) (i := 4) rfl M_Inquiry_bestQuestion dX9_askNext_8 rfl ⟨by decide +kernel, by decide +kernel, by decide +kernel⟩ (by decide) wd_551 wd_552 wd_93 (Or.inr ⟨_, wd_550⟩) ?_
  exact s_ri rfl dX9_askNext_11
def G_askNext (As : List Value) (M : ak_M) : ak_R := match As with
  | [.ref a] => G_askNext_b0 [some (.ref a)] [] M
  | _ => none
theorem M_G_askNext : ak_Mt yX9_askNext cX9_askNext 1 (some .int) 5 122 G_askNext := by
  refine ak_met (rk := 1) wd_553 (by decide +kernel) rfl (Or.inr (Or.inl ⟨rfl, rfl⟩)) (fun h => absurd h (by decide)) S_G_askNext_b0 (fun As M r h => ?_)
  unfold G_askNext at h
  split at h
  next => exact ⟨Nat.le_of_ble_eq_true rfl, 0, h⟩
  next => cases h
-- GreetedMirrors.called(I)I
def G_called_b24 : ak_K := k_ri
theorem S_G_called_b24 : ak_S cX9_called RX9 2 1 2 46 (0, fun _ => 0) 24 (G_called_b24) := by
  unfold G_called_b24
  exact s_ri rfl dX9_called_24
def G_called_b0 : ak_K := (k_al 0 (k_gp 9 1 (k_il 1 (k_cv 2 2 House_hasMirror (k_ifeq (k_ci (-1000000001) G_called_b24) (k_al 0 (k_gp 9 8 (k_il 1 (k_cv 4 2 Inquiry_namesThatFit G_called_b24)))))))))
theorem S_G_called_b0 : ak_S cX9_called RX9 2 1 2 46 (0, fun _ => 0) 0 (G_called_b0) := by
  unfold G_called_b0
  refine s_aload_n dX9_called_0 rfl ?_
  refine s_gp (C := RX9) (Tf := TX9) (N := 11) (i := 9) (j := 1) rfl (by decide) rfl (Or.inl wd_397) dX9_called_1 ?_
  refine s_iload_n dX9_called_4 rfl ?_
  refine s_cv (C := RX2) (Tf := TX2) (N := 12) (i := 2) rfl M_House_hasMirror dX9_called_5 rfl ⟨by decide +kernel, by decide +kernel, by decide +kernel⟩ (by decide) wd_451 wd_452 wd_194 (Or.inr ⟨_, wd_450⟩) ?_
  refine s_ifeq (tgt := 22) dX9_called_8 (by decide) ?_ ?_
  · refine s_ldc (x := (-1000000001)) dX9_called_22 wd_453 ?_
    exact S_G_called_b24
  · refine s_aload_n dX9_called_11 rfl ?_
    refine s_gp (C := RX9) (Tf := TX9) (N := 11) (i := 9) (j := 8) rfl (by decide) rfl (Or.inl wd_386) dX9_called_12 ?_
    refine s_iload_n dX9_called_15 rfl ?_
    refine s_cv (C := RX4) (Tf := TX4) (N := 5) (i := 4) rfl M_Inquiry_namesThatFit dX9_called_16 rfl ⟨by decide +kernel, by decide +kernel, by decide +kernel⟩ (by decide) wd_555 wd_556 wd_93 (Or.inr ⟨_, wd_554⟩) ?_
    refine s_goto (tgt := 24) dX9_called_19 (by decide) ?_
    exact S_G_called_b24
def G_called (As : List Value) (M : ak_M) : ak_R := match As with
  | [.ref a, .int x0] => G_called_b0 [some (.ref a), some (.int x0)] [] M
  | _ => none
theorem M_G_called : ak_Mt yX9_called cX9_called 2 (some .int) 2 46 G_called := by
  refine ak_met (rk := 1) wd_557 (by decide +kernel) rfl (Or.inr (Or.inl ⟨rfl, rfl⟩)) (fun h => absurd h (by decide)) S_G_called_b0 (fun As M r h => ?_)
  unfold G_called at h
  split at h
  next => exact ⟨Nat.le_of_ble_eq_true rfl, 0, h⟩
  next => cases h
-- GreetedMirrors.write(II)I
def G_write_b18 : ak_K := (k_ci (-1000000001) k_ri)
theorem S_G_write_b18 : ak_S cX9_write RX9 3 1 2 44 (0, fun _ => 0) 18 (G_write_b18) := by
  unfold G_write_b18
  refine s_ldc (x := (-1000000001)) dX9_write_18 wd_453 ?_
  exact s_ri rfl dX9_write_20
def G_write_b47 : ak_K := k_ri
theorem S_G_write_b47 : ak_S cX9_write RX9 3 1 2 44 (0, fun _ => 0) 47 (G_write_b47) := by
  unfold G_write_b47
  exact s_ri rfl dX9_write_47
def G_write_b0 : ak_K := (k_al 0 (k_gp 9 1 (k_il 1 (k_cv 2 2 House_hasMirror (k_ifeq G_write_b18 (k_il 2 (k_cs 1 G_isName (k_ifeq G_write_b18 (k_al 0 (k_gp 9 9 (k_gi 0 2 (k_ci 15 (k_cmlt (k_al 0 (k_gp 9 9 (k_il 1 (k_il 2 (k_cv 0 3 Book_enter G_write_b47))))) (k_ci (-1000000004) G_write_b47))))))))))))))
theorem S_G_write_b0 : ak_S cX9_write RX9 3 1 2 44 (0, fun _ => 0) 0 (G_write_b0) := by
  unfold G_write_b0
  refine s_aload_n dX9_write_0 rfl ?_
  refine s_gp (C := RX9) (Tf := TX9) (N := 11) (i := 9) (j := 1) rfl (by decide) rfl (Or.inl wd_397) dX9_write_1 ?_
  refine s_iload_n dX9_write_4 rfl ?_
  refine s_cv (C := RX2) (Tf := TX2) (N := 12) (i := 2) rfl M_House_hasMirror dX9_write_5 rfl ⟨by decide +kernel, by decide +kernel, by decide +kernel⟩ (by decide) wd_451 wd_452 wd_194 (Or.inr ⟨_, wd_450⟩) ?_
  refine s_ifeq (tgt := 18) dX9_write_8 (by decide) ?_ ?_
  · exact S_G_write_b18
  · refine s_iload_n dX9_write_11 rfl ?_
    refine s_cs M_G_isName dX9_write_12 ⟨by decide +kernel, by decide +kernel, by decide +kernel⟩ (by decide) wd_490 wd_10 (Or.inl ⟨wd_489, rfl⟩) ?_
    refine s_ifne (tgt := 21) dX9_write_15 (by decide) ?_ ?_
    · exact S_G_write_b18
    · refine s_aload_n dX9_write_21 rfl ?_
      refine s_gp (C := RX9) (Tf := TX9) (N := 11) (i := 9) (j := 9) rfl (by decide) rfl (Or.inl wd_360) dX9_write_22 ?_
      refine s_gi (C := RX0) (Tf := TX0) (N := 3) (i := 0) (j := 2) rfl (by decide) rfl (Or.inr ⟨_, wd_419⟩) dX9_write_25 ?_
      refine s_bipush (x := 15) dX9_write_28 (by decide +kernel) ?_
      refine s_cmlt (tgt := 38) dX9_write_30 (by decide) ?_ ?_
      · refine s_aload_n dX9_write_38 rfl ?_
        refine s_gp (C := RX9) (Tf := TX9) (N := 11) (i := 9) (j := 9) rfl (by decide) rfl (Or.inl wd_360) dX9_write_39 ?_
        refine s_iload_n dX9_write_42 rfl ?_
        refine s_iload_n dX9_write_43 rfl ?_
        refine s_cv (C := RX0) (Tf := TX0) (N := 3) (i := 0) rfl M_Book_enter dX9_write_44 rfl ⟨by decide +kernel, by decide +kernel, by decide +kernel⟩ (by decide) wd_559 wd_560 wd_357 (Or.inr ⟨_, wd_558⟩) ?_
        exact S_G_write_b47
      · refine s_ldc (x := (-1000000004)) dX9_write_33 wd_410 ?_
        refine s_goto (tgt := 47) dX9_write_35 (by decide) ?_
        exact S_G_write_b47
def G_write (As : List Value) (M : ak_M) : ak_R := match As with
  | [.ref a, .int x0, .int x1] => G_write_b0 [some (.ref a), some (.int x0), some (.int x1)] [] M
  | _ => none
theorem M_G_write : ak_Mt yX9_write cX9_write 3 (some .int) 2 44 G_write := by
  refine ak_met (rk := 1) wd_561 (by decide +kernel) rfl (Or.inr (Or.inl ⟨rfl, rfl⟩)) (fun h => absurd h (by decide)) S_G_write_b0 (fun As M r h => ?_)
  unfold G_write at h
  split at h
  next => exact ⟨Nat.le_of_ble_eq_true rfl, 0, h⟩
  next => cases h
-- GreetedMirrors.tear()I
def G_tear_b0 : ak_K := (k_al 0 (k_gp 9 8 (k_gi 4 4 (k_al 0 (k_gp 9 9 (k_gi 0 2 (k_b (fun x y => x + y) (k_is 1 (k_al 0 (k_gp 9 8 (k_cv 4 1 Inquiry_forget (k_al 0 (k_gp 9 9 (k_ci 0 (k_pi 0 2 (k_il 1 k_ri))))))))))))))))
theorem S_G_tear_b0 : ak_S cX9_tear RX9 2 1 1 20 (0, fun _ => 0) 0 (G_tear_b0) := by
  unfold G_tear_b0
  refine s_aload_n dX9_tear_0 rfl ?_
  refine s_gp (C := RX9) (Tf := TX9) (N := 11) (i := 9) (j := 8) rfl (by decide) rfl (Or.inl wd_386) dX9_tear_1 ?_
  refine s_gi (C := RX4) (Tf := TX4) (N := 5) (i := 4) (j := 4) rfl (by decide) rfl (Or.inr ⟨_, wd_441⟩) dX9_tear_4 ?_
  refine s_aload_n dX9_tear_7 rfl ?_
  refine s_gp (C := RX9) (Tf := TX9) (N := 11) (i := 9) (j := 9) rfl (by decide) rfl (Or.inl wd_360) dX9_tear_8 ?_
  refine s_gi (C := RX0) (Tf := TX0) (N := 3) (i := 0) (j := 2) rfl (by decide) rfl (Or.inr ⟨_, wd_419⟩) dX9_tear_11 ?_
  refine s_iadd dX9_tear_14 ?_
  refine s_istore_n dX9_tear_15 rfl (by decide) ?_
  refine s_aload_n dX9_tear_16 rfl ?_
  refine s_gp (C := RX9) (Tf := TX9) (N := 11) (i := 9) (j := 8) rfl (by decide) rfl (Or.inl wd_386) dX9_tear_17 ?_
  refine s_cv (C := RX4) (Tf := TX4) (N := 5) (i := 4) rfl M_Inquiry_forget dX9_tear_20 rfl ⟨by decide +kernel, by decide +kernel, by decide +kernel⟩ (by decide) wd_417 wd_418 wd_93 (Or.inr ⟨_, wd_416⟩) ?_
  refine s_aload_n dX9_tear_23 rfl ?_
  refine s_gp (C := RX9) (Tf := TX9) (N := 11) (i := 9) (j := 9) rfl (by decide) rfl (Or.inl wd_360) dX9_tear_24 ?_
  refine s_iconst (x := 0) dX9_tear_27 (by decide +kernel) ?_
  refine s_pi (C := RX0) (Tf := TX0) (N := 3) (i := 0) (j := 2) rfl (by decide) rfl (Or.inr ⟨⟨_, wd_419⟩, rfl⟩) dX9_tear_28 ?_
  refine s_iload_n dX9_tear_31 rfl ?_
  exact s_ri rfl dX9_tear_32
def G_tear (As : List Value) (M : ak_M) : ak_R := match As with
  | [.ref a] => G_tear_b0 [some (.ref a), none] [] M
  | _ => none
theorem M_G_tear : ak_Mt yX9_tear cX9_tear 2 (some .int) 1 20 G_tear := by
  refine ak_met (rk := 1) wd_562 (by decide +kernel) rfl (Or.inr (Or.inl ⟨rfl, rfl⟩)) (fun h => absurd h (by decide)) S_G_tear_b0 (fun As M r h => ?_)
  unfold G_tear at h
  split at h
  next => exact ⟨Nat.le_of_ble_eq_true rfl, 1, h⟩
  next => cases h
-- GreetedMirrors.judge()I
def G_judge_b0 : ak_K := (k_al 0 (k_gp 9 9 (k_al 0 (k_gp 9 3 (k_cv 0 2 Book_firstWrong k_ri)))))
theorem S_G_judge_b0 : ak_S cX9_judge RX9 1 1 2 43 (0, fun _ => 0) 0 (G_judge_b0) := by
  unfold G_judge_b0
  refine s_aload_n dX9_judge_0 rfl ?_
  refine s_gp (C := RX9) (Tf := TX9) (N := 11) (i := 9) (j := 9) rfl (by decide) rfl (Or.inl wd_360) dX9_judge_1 ?_
  refine s_aload_n dX9_judge_4 rfl ?_
  refine s_gp (C := RX9) (Tf := TX9) (N := 11) (i := 9) (j := 3) rfl (by decide) rfl (Or.inl wd_401) dX9_judge_5 ?_
  refine s_cv (C := RX0) (Tf := TX0) (N := 3) (i := 0) rfl M_Book_firstWrong dX9_judge_8 rfl ⟨by decide +kernel, by decide +kernel, by decide +kernel⟩ (by decide) wd_564 wd_565 wd_357 (Or.inr ⟨_, wd_563⟩) ?_
  exact s_ri rfl dX9_judge_11
def G_judge (As : List Value) (M : ak_M) : ak_R := match As with
  | [.ref a] => G_judge_b0 [some (.ref a)] [] M
  | _ => none
theorem M_G_judge : ak_Mt yX9_judge cX9_judge 1 (some .int) 2 43 G_judge := by
  refine ak_met (rk := 1) wd_566 (by decide +kernel) rfl (Or.inr (Or.inl ⟨rfl, rfl⟩)) (fun h => absurd h (by decide)) S_G_judge_b0 (fun As M r h => ?_)
  unfold G_judge at h
  split at h
  next => exact ⟨Nat.le_of_ble_eq_true rfl, 0, h⟩
  next => cases h
-- GreetedMirrors.seed(I)I
def G_seed_b0 : ak_K := (k_il 1 (k_ifge (k_al 0 (k_gp 9 10 (k_gl 1 0 (k_l2i (k_is 2 (k_al 0 (k_gp 9 10 (k_il 1 (k_i2l (k_pl 1 0 (k_il 2 k_ri))))))))))) (k_ci (-1000000002) k_ri)))
theorem S_G_seed_b0 : ak_S cX9_seed RX9 3 1 0 0 (0, fun _ => 0) 0 (G_seed_b0) := by
  unfold G_seed_b0
  refine s_iload_n dX9_seed_0 rfl ?_
  refine s_ifge (tgt := 7) dX9_seed_1 (by decide) ?_ ?_
  · refine s_aload_n dX9_seed_7 rfl ?_
    refine s_gp (C := RX9) (Tf := TX9) (N := 11) (i := 9) (j := 10) rfl (by decide) rfl (Or.inl wd_366) dX9_seed_8 ?_
    refine s_gl (C := RX1) (Tf := TX1) (N := 1) (i := 1) (j := 0) rfl (by decide) rfl (Or.inr ⟨_, wd_567⟩) dX9_seed_11 ?_
    refine s_l2i dX9_seed_14 ?_
    refine s_istore_n dX9_seed_15 rfl (by decide) ?_
    refine s_aload_n dX9_seed_16 rfl ?_
    refine s_gp (C := RX9) (Tf := TX9) (N := 11) (i := 9) (j := 10) rfl (by decide) rfl (Or.inl wd_366) dX9_seed_17 ?_
    refine s_iload_n dX9_seed_20 rfl ?_
    refine s_i2l dX9_seed_21 ?_
    refine s_pl (C := RX1) (Tf := TX1) (N := 1) (i := 1) (j := 0) rfl (by decide) rfl (Or.inr ⟨⟨_, wd_567⟩, rfl⟩) dX9_seed_22 ?_
    refine s_iload_n dX9_seed_25 rfl ?_
    exact s_ri rfl dX9_seed_26
  · refine s_ldc (x := (-1000000002)) dX9_seed_4 wd_405 ?_
    exact s_ri rfl dX9_seed_6
def G_seed (As : List Value) (M : ak_M) : ak_R := match As with
  | [.ref a, .int x0] => G_seed_b0 [some (.ref a), some (.int x0), none] [] M
  | _ => none
theorem M_G_seed : ak_Mt yX9_seed cX9_seed 3 (some .int) 0 0 G_seed := by
  refine ak_met (rk := 1) wd_568 (by decide +kernel) rfl (Or.inr (Or.inl ⟨rfl, rfl⟩)) (fun h => absurd h (by decide)) S_G_seed_b0 (fun As M r h => ?_)
  unfold G_seed at h
  split at h
  next => exact ⟨Nat.le_of_ble_eq_true rfl, 1, h⟩
  next => cases h
-- GreetedMirrors.imageOf(I)LGreetedMirrors$Image;
def G_imageOf_b22 : ak_K := k_rq
theorem S_G_imageOf_b22 : ak_S cX9_imageOf RX9 2 3 0 0 (0, fun _ => 0) 22 (G_imageOf_b22) := by
  unfold G_imageOf_b22
  exact s_rq rfl dX9_imageOf_22
def G_imageOf_b0 : ak_K := (k_il 1 (k_ifeq (k_al 0 (k_gp 9 5 k_rq)) (k_il 1 (k_ci 1 (k_cmeq (k_al 0 (k_gp 9 6 G_imageOf_b22)) (k_cn G_imageOf_b22))))))
theorem S_G_imageOf_b0 : ak_S cX9_imageOf RX9 2 3 0 0 (0, fun _ => 0) 0 (G_imageOf_b0) := by
  unfold G_imageOf_b0
  refine s_iload_n dX9_imageOf_0 rfl ?_
  refine s_ifne (tgt := 9) dX9_imageOf_1 (by decide) ?_ ?_
  · refine s_aload_n dX9_imageOf_4 rfl ?_
    refine s_gp (C := RX9) (Tf := TX9) (N := 11) (i := 9) (j := 5) rfl (by decide) rfl (Or.inl wd_375) dX9_imageOf_5 ?_
    exact s_rq rfl dX9_imageOf_8
  · refine s_iload_n dX9_imageOf_9 rfl ?_
    refine s_iconst (x := 1) dX9_imageOf_10 (by decide +kernel) ?_
    refine s_cmne (tgt := 21) dX9_imageOf_11 (by decide) ?_ ?_
    · refine s_aload_n dX9_imageOf_14 rfl ?_
      refine s_gp (C := RX9) (Tf := TX9) (N := 11) (i := 9) (j := 6) rfl (by decide) rfl (Or.inl wd_376) dX9_imageOf_15 ?_
      refine s_goto (tgt := 22) dX9_imageOf_18 (by decide) ?_
      exact S_G_imageOf_b22
    · refine s_null dX9_imageOf_21 ?_
      exact S_G_imageOf_b22
def G_imageOf (As : List Value) (M : ak_M) : ak_R := match As with
  | [.ref a, .int x0] => G_imageOf_b0 [some (.ref a), some (.int x0)] [] M
  | _ => none
theorem M_G_imageOf : ak_Mt yX9_imageOf cX9_imageOf 2 (some (.object "GreetedMirrors$Image")) 0 0 G_imageOf := by
  refine ak_met (rk := 3) wd_569 (by decide +kernel) rfl (Or.inr (Or.inr (Or.inr ⟨rfl, _, rfl⟩))) (fun h => absurd h (by decide)) S_G_imageOf_b0 (fun As M r h => ?_)
  unfold G_imageOf at h
  split at h
  next => exact ⟨Nat.le_of_ble_eq_true rfl, 0, h⟩
  next => cases h
-- GreetedMirrors.keep(I)I
def G_keep_b0 : ak_K := (k_al 0 (k_il 1 (k_cv 9 2 G_imageOf (k_as 2 (k_al 2 (k_ifnull (k_ci (-1000000001) k_ri) (k_al 2 (k_gp 3 0 (k_al 0 (k_gp 9 3 (k_cv 8 2 State_become (k_al 2 (k_al 0 (k_gp 9 10 (k_gl 1 0 (k_pl 3 1 (k_al 2 (k_ci 1 (k_pz 3 2 (k_al 0 (k_gp 9 4 (k_cv 5 1 Past_forget (k_ci 1 k_ri)))))))))))))))))))))))
theorem S_G_keep_b0 : ak_S cX9_keep RX9 3 1 2 43 (0, fun _ => 0) 0 (G_keep_b0) := by
  unfold G_keep_b0
  refine s_aload_n dX9_keep_0 rfl ?_
  refine s_iload_n dX9_keep_1 rfl ?_
  refine s_cv (C := RX9) (Tf := TX9) (N := 11) (i := 9) rfl M_G_imageOf dX9_keep_2 rfl ⟨by decide +kernel, by decide +kernel, by decide +kernel⟩ (by decide) wd_571 wd_572 wd_10 (Or.inl wd_570) ?_
  refine s_astore_n dX9_keep_5 rfl (by decide) ?_
  refine s_aload_n dX9_keep_6 rfl ?_
  refine s_ifnonnull (tgt := 13) dX9_keep_7 (by decide) ?_ ?_
  · refine s_ldc (x := (-1000000001)) dX9_keep_10 wd_453 ?_
    exact s_ri rfl dX9_keep_12
  · refine s_aload_n dX9_keep_13 rfl ?_
    refine s_gp (C := RX3) (Tf := TX3) (N := 3) (i := 3) (j := 0) rfl (by decide) rfl (Or.inr ⟨_, wd_573⟩) dX9_keep_14 ?_
    refine s_aload_n dX9_keep_17 rfl ?_
    refine s_gp (C := RX9) (Tf := TX9) (N := 11) (i := 9) (j := 3) rfl (by decide) rfl (Or.inl wd_401) dX9_keep_18 ?_
    refine s_cv (C := RX8) (Tf := TX8) (N := 12) (i := 8) rfl M_State_become dX9_keep_21 rfl ⟨by decide +kernel, by decide +kernel, by decide +kernel⟩ (by decide) wd_141 wd_142 wd_74 (Or.inr ⟨_, wd_574⟩) ?_
    refine s_aload_n dX9_keep_24 rfl ?_
    refine s_aload_n dX9_keep_25 rfl ?_
    refine s_gp (C := RX9) (Tf := TX9) (N := 11) (i := 9) (j := 10) rfl (by decide) rfl (Or.inl wd_366) dX9_keep_26 ?_
    refine s_gl (C := RX1) (Tf := TX1) (N := 1) (i := 1) (j := 0) rfl (by decide) rfl (Or.inr ⟨_, wd_567⟩) dX9_keep_29 ?_
    refine s_pl (C := RX3) (Tf := TX3) (N := 3) (i := 3) (j := 1) rfl (by decide) rfl (Or.inr ⟨⟨_, wd_575⟩, rfl⟩) dX9_keep_32 ?_
    refine s_aload_n dX9_keep_35 rfl ?_
    refine s_iconst (x := 1) dX9_keep_36 (by decide +kernel) ?_
    refine s_pz (C := RX3) (Tf := TX3) (N := 3) (i := 3) (j := 2) rfl (by decide) rfl (Or.inr ⟨⟨_, wd_415⟩, rfl⟩) dX9_keep_37 ?_
    refine s_aload_n dX9_keep_40 rfl ?_
    refine s_gp (C := RX9) (Tf := TX9) (N := 11) (i := 9) (j := 4) rfl (by decide) rfl (Or.inl wd_369) dX9_keep_41 ?_
    refine s_cv (C := RX5) (Tf := TX5) (N := 3) (i := 5) rfl M_Past_forget dX9_keep_44 rfl ⟨by decide +kernel, by decide +kernel, by decide +kernel⟩ (by decide) wd_413 wd_414 wd_137 (Or.inr ⟨_, wd_412⟩) ?_
    refine s_iconst (x := 1) dX9_keep_47 (by decide +kernel) ?_
    exact s_ri rfl dX9_keep_48
def G_keep (As : List Value) (M : ak_M) : ak_R := match As with
  | [.ref a, .int x0] => G_keep_b0 [some (.ref a), some (.int x0), none] [] M
  | _ => none
theorem M_G_keep : ak_Mt yX9_keep cX9_keep 3 (some .int) 2 43 G_keep := by
  refine ak_met (rk := 1) wd_576 (by decide +kernel) rfl (Or.inr (Or.inl ⟨rfl, rfl⟩)) (fun h => absurd h (by decide)) S_G_keep_b0 (fun As M r h => ?_)
  unfold G_keep at h
  split at h
  next => exact ⟨Nat.le_of_ble_eq_true rfl, 1, h⟩
  next => cases h
-- GreetedMirrors.goBack(I)I
def G_goBack_b0 : ak_K := (k_al 0 (k_il 1 (k_cv 9 2 G_imageOf (k_as 2 (k_al 2 (k_ifnull (k_ci (-1000000001) k_ri) (k_al 2 (k_gi 3 2 (k_ifeq (k_ci (-1000000003) k_ri) (k_al 0 (k_gp 9 3 (k_al 2 (k_gp 3 0 (k_cv 8 2 State_become (k_al 0 (k_gp 9 10 (k_al 2 (k_gl 3 1 (k_pl 1 0 (k_al 0 (k_gp 9 4 (k_cv 5 1 Past_forget (k_ci 1 k_ri)))))))))))))))))))))))
theorem S_G_goBack_b0 : ak_S cX9_goBack RX9 3 1 2 43 (0, fun _ => 0) 0 (G_goBack_b0) := by
  unfold G_goBack_b0
  refine s_aload_n dX9_goBack_0 rfl ?_
  refine s_iload_n dX9_goBack_1 rfl ?_
  refine s_cv (C := RX9) (Tf := TX9) (N := 11) (i := 9) rfl M_G_imageOf dX9_goBack_2 rfl ⟨by decide +kernel, by decide +kernel, by decide +kernel⟩ (by decide) wd_571 wd_572 wd_10 (Or.inl wd_570) ?_
  refine s_astore_n dX9_goBack_5 rfl (by decide) ?_
  refine s_aload_n dX9_goBack_6 rfl ?_
  refine s_ifnonnull (tgt := 13) dX9_goBack_7 (by decide) ?_ ?_
  · refine s_ldc (x := (-1000000001)) dX9_goBack_10 wd_453 ?_
    exact s_ri rfl dX9_goBack_12
  · refine s_aload_n dX9_goBack_13 rfl ?_
    refine s_gi (C := RX3) (Tf := TX3) (N := 3) (i := 3) (j := 2) rfl (by decide) rfl (Or.inr ⟨_, wd_415⟩) dX9_goBack_14 ?_
    refine s_ifne (tgt := 23) dX9_goBack_17 (by decide) ?_ ?_
    · refine s_ldc (x := (-1000000003)) dX9_goBack_20 wd_481 ?_
      exact s_ri rfl dX9_goBack_22
    · refine s_aload_n dX9_goBack_23 rfl ?_
      refine s_gp (C := RX9) (Tf := TX9) (N := 11) (i := 9) (j := 3) rfl (by decide) rfl (Or.inl wd_401) dX9_goBack_24 ?_
      refine s_aload_n dX9_goBack_27 rfl ?_
      refine s_gp (C := RX3) (Tf := TX3) (N := 3) (i := 3) (j := 0) rfl (by decide) rfl (Or.inr ⟨_, wd_573⟩) dX9_goBack_28 ?_
      refine s_cv (C := RX8) (Tf := TX8) (N := 12) (i := 8) rfl M_State_become dX9_goBack_31 rfl ⟨by decide +kernel, by decide +kernel, by decide +kernel⟩ (by decide) wd_141 wd_142 wd_74 (Or.inr ⟨_, wd_574⟩) ?_
      refine s_aload_n dX9_goBack_34 rfl ?_
      refine s_gp (C := RX9) (Tf := TX9) (N := 11) (i := 9) (j := 10) rfl (by decide) rfl (Or.inl wd_366) dX9_goBack_35 ?_
      refine s_aload_n dX9_goBack_38 rfl ?_
      refine s_gl (C := RX3) (Tf := TX3) (N := 3) (i := 3) (j := 1) rfl (by decide) rfl (Or.inr ⟨_, wd_575⟩) dX9_goBack_39 ?_
      refine s_pl (C := RX1) (Tf := TX1) (N := 1) (i := 1) (j := 0) rfl (by decide) rfl (Or.inr ⟨⟨_, wd_567⟩, rfl⟩) dX9_goBack_42 ?_
      refine s_aload_n dX9_goBack_45 rfl ?_
      refine s_gp (C := RX9) (Tf := TX9) (N := 11) (i := 9) (j := 4) rfl (by decide) rfl (Or.inl wd_369) dX9_goBack_46 ?_
      refine s_cv (C := RX5) (Tf := TX5) (N := 3) (i := 5) rfl M_Past_forget dX9_goBack_49 rfl ⟨by decide +kernel, by decide +kernel, by decide +kernel⟩ (by decide) wd_413 wd_414 wd_137 (Or.inr ⟨_, wd_412⟩) ?_
      refine s_iconst (x := 1) dX9_goBack_52 (by decide +kernel) ?_
      exact s_ri rfl dX9_goBack_53
def G_goBack (As : List Value) (M : ak_M) : ak_R := match As with
  | [.ref a, .int x0] => G_goBack_b0 [some (.ref a), some (.int x0), none] [] M
  | _ => none
theorem M_G_goBack : ak_Mt yX9_goBack cX9_goBack 3 (some .int) 2 43 G_goBack := by
  refine ak_met (rk := 1) wd_577 (by decide +kernel) rfl (Or.inr (Or.inl ⟨rfl, rfl⟩)) (fun h => absurd h (by decide)) S_G_goBack_b0 (fun As M r h => ?_)
  unfold G_goBack at h
  split at h
  next => exact ⟨Nat.le_of_ble_eq_true rfl, 1, h⟩
  next => cases h
end
