/-! ===== the calls, one by one: the class and the reference side by side ===== -/
def InvE (C R : Nat → Nat → Int32) (L : Nat → Nat → Int64) (hb : Nat) : Prop := ∃ nr nd nm np nt na nb nu nx, Inv C R L hb nr nd nm np nt na nb nu nx
def Op (g r : List Value → ak_M → ak_R) (As : List Value) (C R : Nat → Nat → Int32) (L : Nat → Nat → Int64) (hb : Nat) : Prop :=
  ∃ (v : Int32) (C' R' : Nat → Nat → Int32) (L' : Nat → Nat → Int64) (hb' : Nat), g (.ref 1 :: As) (mk C R L hb) = some (some (.int v), mk C' R L' hb') ∧ r (.ref 153 :: As) (mk C' R L' hb') = some (some (.int v), mk C' R' L' hb') ∧ InvE C' R' L' hb'
theorem in_n255 {x : Int32} : ((0 : Int64) ≤ x.toInt64 ∧ x.toInt64 ≤ (255 : Int64)) ↔ inN x 256 := in_n (n := 256) (by omega)
theorem e_sv {x v : Int32} {K kd : ak_K} {cs : List (Int32 × ak_K)} {lo : List (Option Value)} {st : List Value} {M : ak_M} : k_swf ((v, K) :: cs) kd x lo st M = if x = v then K lo st M else k_swf cs kd x lo st M := by
  show (if x = v then K else k_swf cs kd x) lo st M = _
  split <;> rfl
theorem in_ne {x : Int32} {n : Nat} (hn : n < 1000) (h : ¬ inN x n) (k : Nat) (hk : k < n) : (x = nI k) = False := eq_false (fun e => h (by rw [e]; exact (inN_nI (by omega) (by omega)).mpr hk))
theorem in_512 {x : Int32} (h : ¬ inN x 16) : ((5 : Int64) ≤ x.toInt64 ∧ x.toInt64 ≤ (12 : Int64)) = False := by
  refine eq_false (fun e => h ?_)
  rw [show (5 : Int64) = (5 : Int32).toInt64 from rfl, show (12 : Int64) = (12 : Int32).toInt64 from rfl, l_le, l_le] at e
  unfold inN
  rw [Int32.le_iff_toInt_le, Int32.lt_iff_toInt_lt, nI_toInt (by omega), Int32.toInt_zero]
  rw [Int32.le_iff_toInt_le, Int32.le_iff_toInt_le, show (5 : Int32) = nI 5 from rfl, show (12 : Int32) = nI 12 from rfl, nI_toInt (by omega), nI_toInt (by omega)] at e
  omega
theorem q_0_0 : (nI 0 = 0) = True := eq_true (by decide +kernel)
theorem q_0_1 : (nI 0 = 1) = False := eq_false (by decide +kernel)
theorem q_0_2 : (nI 0 = 2) = False := eq_false (by decide +kernel)
theorem q_0_3 : (nI 0 = 3) = False := eq_false (by decide +kernel)
theorem q_0_4 : (nI 0 = 4) = False := eq_false (by decide +kernel)
theorem q_0_5 : (nI 0 = 5) = False := eq_false (by decide +kernel)
theorem q_0_6 : (nI 0 = 6) = False := eq_false (by decide +kernel)
theorem q_0_7 : (nI 0 = 7) = False := eq_false (by decide +kernel)
theorem q_0_8 : (nI 0 = 8) = False := eq_false (by decide +kernel)
theorem q_0_9 : (nI 0 = 9) = False := eq_false (by decide +kernel)
theorem q_0_10 : (nI 0 = 10) = False := eq_false (by decide +kernel)
theorem q_0_11 : (nI 0 = 11) = False := eq_false (by decide +kernel)
theorem q_0_12 : (nI 0 = 12) = False := eq_false (by decide +kernel)
theorem q_0_13 : (nI 0 = 13) = False := eq_false (by decide +kernel)
theorem q_0_14 : (nI 0 = 14) = False := eq_false (by decide +kernel)
theorem q_0_15 : (nI 0 = 15) = False := eq_false (by decide +kernel)
theorem q_1_0 : (nI 1 = 0) = False := eq_false (by decide +kernel)
theorem q_1_1 : (nI 1 = 1) = True := eq_true (by decide +kernel)
theorem q_1_2 : (nI 1 = 2) = False := eq_false (by decide +kernel)
theorem q_1_3 : (nI 1 = 3) = False := eq_false (by decide +kernel)
theorem q_1_4 : (nI 1 = 4) = False := eq_false (by decide +kernel)
theorem q_1_5 : (nI 1 = 5) = False := eq_false (by decide +kernel)
theorem q_1_6 : (nI 1 = 6) = False := eq_false (by decide +kernel)
theorem q_1_7 : (nI 1 = 7) = False := eq_false (by decide +kernel)
theorem q_1_8 : (nI 1 = 8) = False := eq_false (by decide +kernel)
theorem q_1_9 : (nI 1 = 9) = False := eq_false (by decide +kernel)
theorem q_1_10 : (nI 1 = 10) = False := eq_false (by decide +kernel)
theorem q_1_11 : (nI 1 = 11) = False := eq_false (by decide +kernel)
theorem q_1_12 : (nI 1 = 12) = False := eq_false (by decide +kernel)
theorem q_1_13 : (nI 1 = 13) = False := eq_false (by decide +kernel)
theorem q_1_14 : (nI 1 = 14) = False := eq_false (by decide +kernel)
theorem q_1_15 : (nI 1 = 15) = False := eq_false (by decide +kernel)
theorem q_2_0 : (nI 2 = 0) = False := eq_false (by decide +kernel)
theorem q_2_1 : (nI 2 = 1) = False := eq_false (by decide +kernel)
theorem q_2_2 : (nI 2 = 2) = True := eq_true (by decide +kernel)
theorem q_2_3 : (nI 2 = 3) = False := eq_false (by decide +kernel)
theorem q_2_4 : (nI 2 = 4) = False := eq_false (by decide +kernel)
theorem q_2_5 : (nI 2 = 5) = False := eq_false (by decide +kernel)
theorem q_2_6 : (nI 2 = 6) = False := eq_false (by decide +kernel)
theorem q_2_7 : (nI 2 = 7) = False := eq_false (by decide +kernel)
theorem q_2_8 : (nI 2 = 8) = False := eq_false (by decide +kernel)
theorem q_2_9 : (nI 2 = 9) = False := eq_false (by decide +kernel)
theorem q_2_10 : (nI 2 = 10) = False := eq_false (by decide +kernel)
theorem q_2_11 : (nI 2 = 11) = False := eq_false (by decide +kernel)
theorem q_2_12 : (nI 2 = 12) = False := eq_false (by decide +kernel)
theorem q_2_13 : (nI 2 = 13) = False := eq_false (by decide +kernel)
theorem q_2_14 : (nI 2 = 14) = False := eq_false (by decide +kernel)
theorem q_2_15 : (nI 2 = 15) = False := eq_false (by decide +kernel)
theorem q_3_0 : (nI 3 = 0) = False := eq_false (by decide +kernel)
theorem q_3_1 : (nI 3 = 1) = False := eq_false (by decide +kernel)
theorem q_3_2 : (nI 3 = 2) = False := eq_false (by decide +kernel)
theorem q_3_3 : (nI 3 = 3) = True := eq_true (by decide +kernel)
theorem q_3_4 : (nI 3 = 4) = False := eq_false (by decide +kernel)
theorem q_3_5 : (nI 3 = 5) = False := eq_false (by decide +kernel)
theorem q_3_6 : (nI 3 = 6) = False := eq_false (by decide +kernel)
theorem q_3_7 : (nI 3 = 7) = False := eq_false (by decide +kernel)
theorem q_3_8 : (nI 3 = 8) = False := eq_false (by decide +kernel)
theorem q_3_9 : (nI 3 = 9) = False := eq_false (by decide +kernel)
theorem q_3_10 : (nI 3 = 10) = False := eq_false (by decide +kernel)
theorem q_3_11 : (nI 3 = 11) = False := eq_false (by decide +kernel)
theorem q_3_12 : (nI 3 = 12) = False := eq_false (by decide +kernel)
theorem q_3_13 : (nI 3 = 13) = False := eq_false (by decide +kernel)
theorem q_3_14 : (nI 3 = 14) = False := eq_false (by decide +kernel)
theorem q_3_15 : (nI 3 = 15) = False := eq_false (by decide +kernel)
theorem q_4_0 : (nI 4 = 0) = False := eq_false (by decide +kernel)
theorem q_4_1 : (nI 4 = 1) = False := eq_false (by decide +kernel)
theorem q_4_2 : (nI 4 = 2) = False := eq_false (by decide +kernel)
theorem q_4_3 : (nI 4 = 3) = False := eq_false (by decide +kernel)
theorem q_4_4 : (nI 4 = 4) = True := eq_true (by decide +kernel)
theorem q_4_5 : (nI 4 = 5) = False := eq_false (by decide +kernel)
theorem q_4_6 : (nI 4 = 6) = False := eq_false (by decide +kernel)
theorem q_4_7 : (nI 4 = 7) = False := eq_false (by decide +kernel)
theorem q_4_8 : (nI 4 = 8) = False := eq_false (by decide +kernel)
theorem q_4_9 : (nI 4 = 9) = False := eq_false (by decide +kernel)
theorem q_4_10 : (nI 4 = 10) = False := eq_false (by decide +kernel)
theorem q_4_11 : (nI 4 = 11) = False := eq_false (by decide +kernel)
theorem q_4_12 : (nI 4 = 12) = False := eq_false (by decide +kernel)
theorem q_4_13 : (nI 4 = 13) = False := eq_false (by decide +kernel)
theorem q_4_14 : (nI 4 = 14) = False := eq_false (by decide +kernel)
theorem q_4_15 : (nI 4 = 15) = False := eq_false (by decide +kernel)
theorem q_5_0 : (nI 5 = 0) = False := eq_false (by decide +kernel)
theorem q_5_1 : (nI 5 = 1) = False := eq_false (by decide +kernel)
theorem q_5_2 : (nI 5 = 2) = False := eq_false (by decide +kernel)
theorem q_5_3 : (nI 5 = 3) = False := eq_false (by decide +kernel)
theorem q_5_4 : (nI 5 = 4) = False := eq_false (by decide +kernel)
theorem q_5_5 : (nI 5 = 5) = True := eq_true (by decide +kernel)
theorem q_5_6 : (nI 5 = 6) = False := eq_false (by decide +kernel)
theorem q_5_7 : (nI 5 = 7) = False := eq_false (by decide +kernel)
theorem q_5_8 : (nI 5 = 8) = False := eq_false (by decide +kernel)
theorem q_5_9 : (nI 5 = 9) = False := eq_false (by decide +kernel)
theorem q_5_10 : (nI 5 = 10) = False := eq_false (by decide +kernel)
theorem q_5_11 : (nI 5 = 11) = False := eq_false (by decide +kernel)
theorem q_5_12 : (nI 5 = 12) = False := eq_false (by decide +kernel)
theorem q_5_13 : (nI 5 = 13) = False := eq_false (by decide +kernel)
theorem q_5_14 : (nI 5 = 14) = False := eq_false (by decide +kernel)
theorem q_5_15 : (nI 5 = 15) = False := eq_false (by decide +kernel)
theorem q_6_0 : (nI 6 = 0) = False := eq_false (by decide +kernel)
theorem q_6_1 : (nI 6 = 1) = False := eq_false (by decide +kernel)
theorem q_6_2 : (nI 6 = 2) = False := eq_false (by decide +kernel)
theorem q_6_3 : (nI 6 = 3) = False := eq_false (by decide +kernel)
theorem q_6_4 : (nI 6 = 4) = False := eq_false (by decide +kernel)
theorem q_6_5 : (nI 6 = 5) = False := eq_false (by decide +kernel)
theorem q_6_6 : (nI 6 = 6) = True := eq_true (by decide +kernel)
theorem q_6_7 : (nI 6 = 7) = False := eq_false (by decide +kernel)
theorem q_6_8 : (nI 6 = 8) = False := eq_false (by decide +kernel)
theorem q_6_9 : (nI 6 = 9) = False := eq_false (by decide +kernel)
theorem q_6_10 : (nI 6 = 10) = False := eq_false (by decide +kernel)
theorem q_6_11 : (nI 6 = 11) = False := eq_false (by decide +kernel)
theorem q_6_12 : (nI 6 = 12) = False := eq_false (by decide +kernel)
theorem q_6_13 : (nI 6 = 13) = False := eq_false (by decide +kernel)
theorem q_6_14 : (nI 6 = 14) = False := eq_false (by decide +kernel)
theorem q_6_15 : (nI 6 = 15) = False := eq_false (by decide +kernel)
theorem q_7_0 : (nI 7 = 0) = False := eq_false (by decide +kernel)
theorem q_7_1 : (nI 7 = 1) = False := eq_false (by decide +kernel)
theorem q_7_2 : (nI 7 = 2) = False := eq_false (by decide +kernel)
theorem q_7_3 : (nI 7 = 3) = False := eq_false (by decide +kernel)
theorem q_7_4 : (nI 7 = 4) = False := eq_false (by decide +kernel)
theorem q_7_5 : (nI 7 = 5) = False := eq_false (by decide +kernel)
theorem q_7_6 : (nI 7 = 6) = False := eq_false (by decide +kernel)
theorem q_7_7 : (nI 7 = 7) = True := eq_true (by decide +kernel)
theorem q_7_8 : (nI 7 = 8) = False := eq_false (by decide +kernel)
theorem q_7_9 : (nI 7 = 9) = False := eq_false (by decide +kernel)
theorem q_7_10 : (nI 7 = 10) = False := eq_false (by decide +kernel)
theorem q_7_11 : (nI 7 = 11) = False := eq_false (by decide +kernel)
theorem q_7_12 : (nI 7 = 12) = False := eq_false (by decide +kernel)
theorem q_7_13 : (nI 7 = 13) = False := eq_false (by decide +kernel)
theorem q_7_14 : (nI 7 = 14) = False := eq_false (by decide +kernel)
theorem q_7_15 : (nI 7 = 15) = False := eq_false (by decide +kernel)
theorem q_8_0 : (nI 8 = 0) = False := eq_false (by decide +kernel)
theorem q_8_1 : (nI 8 = 1) = False := eq_false (by decide +kernel)
theorem q_8_2 : (nI 8 = 2) = False := eq_false (by decide +kernel)
theorem q_8_3 : (nI 8 = 3) = False := eq_false (by decide +kernel)
theorem q_8_4 : (nI 8 = 4) = False := eq_false (by decide +kernel)
theorem q_8_5 : (nI 8 = 5) = False := eq_false (by decide +kernel)
theorem q_8_6 : (nI 8 = 6) = False := eq_false (by decide +kernel)
theorem q_8_7 : (nI 8 = 7) = False := eq_false (by decide +kernel)
theorem q_8_8 : (nI 8 = 8) = True := eq_true (by decide +kernel)
theorem q_8_9 : (nI 8 = 9) = False := eq_false (by decide +kernel)
theorem q_8_10 : (nI 8 = 10) = False := eq_false (by decide +kernel)
theorem q_8_11 : (nI 8 = 11) = False := eq_false (by decide +kernel)
theorem q_8_12 : (nI 8 = 12) = False := eq_false (by decide +kernel)
theorem q_8_13 : (nI 8 = 13) = False := eq_false (by decide +kernel)
theorem q_8_14 : (nI 8 = 14) = False := eq_false (by decide +kernel)
theorem q_8_15 : (nI 8 = 15) = False := eq_false (by decide +kernel)
theorem q_9_0 : (nI 9 = 0) = False := eq_false (by decide +kernel)
theorem q_9_1 : (nI 9 = 1) = False := eq_false (by decide +kernel)
theorem q_9_2 : (nI 9 = 2) = False := eq_false (by decide +kernel)
theorem q_9_3 : (nI 9 = 3) = False := eq_false (by decide +kernel)
theorem q_9_4 : (nI 9 = 4) = False := eq_false (by decide +kernel)
theorem q_9_5 : (nI 9 = 5) = False := eq_false (by decide +kernel)
theorem q_9_6 : (nI 9 = 6) = False := eq_false (by decide +kernel)
theorem q_9_7 : (nI 9 = 7) = False := eq_false (by decide +kernel)
theorem q_9_8 : (nI 9 = 8) = False := eq_false (by decide +kernel)
theorem q_9_9 : (nI 9 = 9) = True := eq_true (by decide +kernel)
theorem q_9_10 : (nI 9 = 10) = False := eq_false (by decide +kernel)
theorem q_9_11 : (nI 9 = 11) = False := eq_false (by decide +kernel)
theorem q_9_12 : (nI 9 = 12) = False := eq_false (by decide +kernel)
theorem q_9_13 : (nI 9 = 13) = False := eq_false (by decide +kernel)
theorem q_9_14 : (nI 9 = 14) = False := eq_false (by decide +kernel)
theorem q_9_15 : (nI 9 = 15) = False := eq_false (by decide +kernel)
theorem q_10_0 : (nI 10 = 0) = False := eq_false (by decide +kernel)
theorem q_10_1 : (nI 10 = 1) = False := eq_false (by decide +kernel)
theorem q_10_2 : (nI 10 = 2) = False := eq_false (by decide +kernel)
theorem q_10_3 : (nI 10 = 3) = False := eq_false (by decide +kernel)
theorem q_10_4 : (nI 10 = 4) = False := eq_false (by decide +kernel)
theorem q_10_5 : (nI 10 = 5) = False := eq_false (by decide +kernel)
theorem q_10_6 : (nI 10 = 6) = False := eq_false (by decide +kernel)
theorem q_10_7 : (nI 10 = 7) = False := eq_false (by decide +kernel)
theorem q_10_8 : (nI 10 = 8) = False := eq_false (by decide +kernel)
theorem q_10_9 : (nI 10 = 9) = False := eq_false (by decide +kernel)
theorem q_10_10 : (nI 10 = 10) = True := eq_true (by decide +kernel)
theorem q_10_11 : (nI 10 = 11) = False := eq_false (by decide +kernel)
theorem q_10_12 : (nI 10 = 12) = False := eq_false (by decide +kernel)
theorem q_10_13 : (nI 10 = 13) = False := eq_false (by decide +kernel)
theorem q_10_14 : (nI 10 = 14) = False := eq_false (by decide +kernel)
theorem q_10_15 : (nI 10 = 15) = False := eq_false (by decide +kernel)
theorem q_11_0 : (nI 11 = 0) = False := eq_false (by decide +kernel)
theorem q_11_1 : (nI 11 = 1) = False := eq_false (by decide +kernel)
theorem q_11_2 : (nI 11 = 2) = False := eq_false (by decide +kernel)
theorem q_11_3 : (nI 11 = 3) = False := eq_false (by decide +kernel)
theorem q_11_4 : (nI 11 = 4) = False := eq_false (by decide +kernel)
theorem q_11_5 : (nI 11 = 5) = False := eq_false (by decide +kernel)
theorem q_11_6 : (nI 11 = 6) = False := eq_false (by decide +kernel)
theorem q_11_7 : (nI 11 = 7) = False := eq_false (by decide +kernel)
theorem q_11_8 : (nI 11 = 8) = False := eq_false (by decide +kernel)
theorem q_11_9 : (nI 11 = 9) = False := eq_false (by decide +kernel)
theorem q_11_10 : (nI 11 = 10) = False := eq_false (by decide +kernel)
theorem q_11_11 : (nI 11 = 11) = True := eq_true (by decide +kernel)
theorem q_11_12 : (nI 11 = 12) = False := eq_false (by decide +kernel)
theorem q_11_13 : (nI 11 = 13) = False := eq_false (by decide +kernel)
theorem q_11_14 : (nI 11 = 14) = False := eq_false (by decide +kernel)
theorem q_11_15 : (nI 11 = 15) = False := eq_false (by decide +kernel)
theorem q_12_0 : (nI 12 = 0) = False := eq_false (by decide +kernel)
theorem q_12_1 : (nI 12 = 1) = False := eq_false (by decide +kernel)
theorem q_12_2 : (nI 12 = 2) = False := eq_false (by decide +kernel)
theorem q_12_3 : (nI 12 = 3) = False := eq_false (by decide +kernel)
theorem q_12_4 : (nI 12 = 4) = False := eq_false (by decide +kernel)
theorem q_12_5 : (nI 12 = 5) = False := eq_false (by decide +kernel)
theorem q_12_6 : (nI 12 = 6) = False := eq_false (by decide +kernel)
theorem q_12_7 : (nI 12 = 7) = False := eq_false (by decide +kernel)
theorem q_12_8 : (nI 12 = 8) = False := eq_false (by decide +kernel)
theorem q_12_9 : (nI 12 = 9) = False := eq_false (by decide +kernel)
theorem q_12_10 : (nI 12 = 10) = False := eq_false (by decide +kernel)
theorem q_12_11 : (nI 12 = 11) = False := eq_false (by decide +kernel)
theorem q_12_12 : (nI 12 = 12) = True := eq_true (by decide +kernel)
theorem q_12_13 : (nI 12 = 13) = False := eq_false (by decide +kernel)
theorem q_12_14 : (nI 12 = 14) = False := eq_false (by decide +kernel)
theorem q_12_15 : (nI 12 = 15) = False := eq_false (by decide +kernel)
theorem q_13_0 : (nI 13 = 0) = False := eq_false (by decide +kernel)
theorem q_13_1 : (nI 13 = 1) = False := eq_false (by decide +kernel)
theorem q_13_2 : (nI 13 = 2) = False := eq_false (by decide +kernel)
theorem q_13_3 : (nI 13 = 3) = False := eq_false (by decide +kernel)
theorem q_13_4 : (nI 13 = 4) = False := eq_false (by decide +kernel)
theorem q_13_5 : (nI 13 = 5) = False := eq_false (by decide +kernel)
theorem q_13_6 : (nI 13 = 6) = False := eq_false (by decide +kernel)
theorem q_13_7 : (nI 13 = 7) = False := eq_false (by decide +kernel)
theorem q_13_8 : (nI 13 = 8) = False := eq_false (by decide +kernel)
theorem q_13_9 : (nI 13 = 9) = False := eq_false (by decide +kernel)
theorem q_13_10 : (nI 13 = 10) = False := eq_false (by decide +kernel)
theorem q_13_11 : (nI 13 = 11) = False := eq_false (by decide +kernel)
theorem q_13_12 : (nI 13 = 12) = False := eq_false (by decide +kernel)
theorem q_13_13 : (nI 13 = 13) = True := eq_true (by decide +kernel)
theorem q_13_14 : (nI 13 = 14) = False := eq_false (by decide +kernel)
theorem q_13_15 : (nI 13 = 15) = False := eq_false (by decide +kernel)
theorem q_14_0 : (nI 14 = 0) = False := eq_false (by decide +kernel)
theorem q_14_1 : (nI 14 = 1) = False := eq_false (by decide +kernel)
theorem q_14_2 : (nI 14 = 2) = False := eq_false (by decide +kernel)
theorem q_14_3 : (nI 14 = 3) = False := eq_false (by decide +kernel)
theorem q_14_4 : (nI 14 = 4) = False := eq_false (by decide +kernel)
theorem q_14_5 : (nI 14 = 5) = False := eq_false (by decide +kernel)
theorem q_14_6 : (nI 14 = 6) = False := eq_false (by decide +kernel)
theorem q_14_7 : (nI 14 = 7) = False := eq_false (by decide +kernel)
theorem q_14_8 : (nI 14 = 8) = False := eq_false (by decide +kernel)
theorem q_14_9 : (nI 14 = 9) = False := eq_false (by decide +kernel)
theorem q_14_10 : (nI 14 = 10) = False := eq_false (by decide +kernel)
theorem q_14_11 : (nI 14 = 11) = False := eq_false (by decide +kernel)
theorem q_14_12 : (nI 14 = 12) = False := eq_false (by decide +kernel)
theorem q_14_13 : (nI 14 = 13) = False := eq_false (by decide +kernel)
theorem q_14_14 : (nI 14 = 14) = True := eq_true (by decide +kernel)
theorem q_14_15 : (nI 14 = 15) = False := eq_false (by decide +kernel)
theorem q_15_0 : (nI 15 = 0) = False := eq_false (by decide +kernel)
theorem q_15_1 : (nI 15 = 1) = False := eq_false (by decide +kernel)
theorem q_15_2 : (nI 15 = 2) = False := eq_false (by decide +kernel)
theorem q_15_3 : (nI 15 = 3) = False := eq_false (by decide +kernel)
theorem q_15_4 : (nI 15 = 4) = False := eq_false (by decide +kernel)
theorem q_15_5 : (nI 15 = 5) = False := eq_false (by decide +kernel)
theorem q_15_6 : (nI 15 = 6) = False := eq_false (by decide +kernel)
theorem q_15_7 : (nI 15 = 7) = False := eq_false (by decide +kernel)
theorem q_15_8 : (nI 15 = 8) = False := eq_false (by decide +kernel)
theorem q_15_9 : (nI 15 = 9) = False := eq_false (by decide +kernel)
theorem q_15_10 : (nI 15 = 10) = False := eq_false (by decide +kernel)
theorem q_15_11 : (nI 15 = 11) = False := eq_false (by decide +kernel)
theorem q_15_12 : (nI 15 = 12) = False := eq_false (by decide +kernel)
theorem q_15_13 : (nI 15 = 13) = False := eq_false (by decide +kernel)
theorem q_15_14 : (nI 15 = 14) = False := eq_false (by decide +kernel)
theorem q_15_15 : (nI 15 = 15) = True := eq_true (by decide +kernel)
theorem q5_5 : nI 5 - 5 = nI 0 := by decide +kernel
theorem q6_5 : ((5 : Int64) ≤ (nI 5).toInt64 ∧ (nI 5).toInt64 ≤ (12 : Int64)) = True := eq_true (by decide +kernel)
theorem q7_0 : (nI 0).toNatClampNeg = 0 := by decide +kernel
theorem q8_0 : (0 ≤ nI 0) = True := eq_true (by decide +kernel)
theorem q5_6 : nI 6 - 5 = nI 1 := by decide +kernel
theorem q6_6 : ((5 : Int64) ≤ (nI 6).toInt64 ∧ (nI 6).toInt64 ≤ (12 : Int64)) = True := eq_true (by decide +kernel)
theorem q7_1 : (nI 1).toNatClampNeg = 1 := by decide +kernel
theorem q8_1 : (0 ≤ nI 1) = True := eq_true (by decide +kernel)
theorem q5_7 : nI 7 - 5 = nI 2 := by decide +kernel
theorem q6_7 : ((5 : Int64) ≤ (nI 7).toInt64 ∧ (nI 7).toInt64 ≤ (12 : Int64)) = True := eq_true (by decide +kernel)
theorem q7_2 : (nI 2).toNatClampNeg = 2 := by decide +kernel
theorem q8_2 : (0 ≤ nI 2) = True := eq_true (by decide +kernel)
theorem q5_8 : nI 8 - 5 = nI 3 := by decide +kernel
theorem q6_8 : ((5 : Int64) ≤ (nI 8).toInt64 ∧ (nI 8).toInt64 ≤ (12 : Int64)) = True := eq_true (by decide +kernel)
theorem q7_3 : (nI 3).toNatClampNeg = 3 := by decide +kernel
theorem q8_3 : (0 ≤ nI 3) = True := eq_true (by decide +kernel)
theorem q5_9 : nI 9 - 5 = nI 4 := by decide +kernel
theorem q6_9 : ((5 : Int64) ≤ (nI 9).toInt64 ∧ (nI 9).toInt64 ≤ (12 : Int64)) = True := eq_true (by decide +kernel)
theorem q7_4 : (nI 4).toNatClampNeg = 4 := by decide +kernel
theorem q8_4 : (0 ≤ nI 4) = True := eq_true (by decide +kernel)
theorem q5_10 : nI 10 - 5 = nI 5 := by decide +kernel
theorem q6_10 : ((5 : Int64) ≤ (nI 10).toInt64 ∧ (nI 10).toInt64 ≤ (12 : Int64)) = True := eq_true (by decide +kernel)
theorem q7_5 : (nI 5).toNatClampNeg = 5 := by decide +kernel
theorem q8_5 : (0 ≤ nI 5) = True := eq_true (by decide +kernel)
theorem q5_11 : nI 11 - 5 = nI 6 := by decide +kernel
theorem q6_11 : ((5 : Int64) ≤ (nI 11).toInt64 ∧ (nI 11).toInt64 ≤ (12 : Int64)) = True := eq_true (by decide +kernel)
theorem q7_6 : (nI 6).toNatClampNeg = 6 := by decide +kernel
theorem q8_6 : (0 ≤ nI 6) = True := eq_true (by decide +kernel)
theorem q5_12 : nI 12 - 5 = nI 7 := by decide +kernel
theorem q6_12 : ((5 : Int64) ≤ (nI 12).toInt64 ∧ (nI 12).toInt64 ≤ (12 : Int64)) = True := eq_true (by decide +kernel)
theorem q7_7 : (nI 7).toNatClampNeg = 7 := by decide +kernel
theorem q8_7 : (0 ≤ nI 7) = True := eq_true (by decide +kernel)
theorem up_ne {C : Nat → Nat → Int32} {a j b k : Nat} {x : Int32} (h : b ≠ a ∨ k ≠ j) : up C a j x b k = C b k := by rw [up_at, if_neg (by omega)]
section P25
variable {C R : Nat → Nat → Int32} {L : Nat → Nat → Int64} {hb : Nat}
/-- an answer that changes nothing -/
theorem Op.same {g r : List Value → ak_M → ak_R} {As : List Value} (h : InvE C R L hb) (v : Int32) (h1 : g (.ref 1 :: As) (mk C R L hb) = some (some (.int v), mk C R L hb)) (h2 : r (.ref 153 :: As) (mk C R L hb) = some (some (.int v), mk C R L hb)) : Op g r As C R L hb :=
  ⟨v, C, R, L, hb, h1, h2, h⟩
theorem Inv.e {nr nd nm np nt na nb nu nx : Nat} (h : Inv C R L hb nr nd nm np nt na nb nu nx) : InvE C R L hb := ⟨nr, nd, nm, np, nt, na, nb, nu, nx, h⟩
theorem Inv.feed {nr nd nm np nt na nb nu nx : Nat} (h : Inv C R L hb nr nd nm np nt na nb nu nx) {x : Int32} (hx : inN x 256) (ht : nt < 240) : Inv (up (up C 3 nt x) 2 1 (nI (nt + 1))) (up (up R 162 nt x) 153 14 (nI (nt + 1))) L hb nr nd nm np (nt + 1) na nb nu nx := by
  obtain ⟨⟨b1, b2, b3, b4, b5, b6, b7, b8, b9, b10, b11⟩, h2, ⟨t1, t2, t3, t4⟩, h4, h5, h6, h7, h8, h9⟩ := h
  have hC : ∀ q j, 3 < q → (up (up C 3 nt x) 2 1 (nI (nt + 1))) q j = C q j := fun q j hq => by rw [up_at, if_neg (by omega), up_at, if_neg (by omega)]
  have hR : ∀ q j, q ≠ 162 → (q = 153 → j ≠ 14) → (up (up R 162 nt x) 153 14 (nI (nt + 1))) q j = R q j := fun q j hq h' => by rw [up_at, if_neg (by omega), up_at, if_neg (by omega)]
  have hb' : 4 ≤ hb := by omega
  refine ⟨⟨b1, b2, b3, b4, b5, by omega, b7, b8, b9, b10, b11⟩, h2.cg (fun q j _ _ => hC q j (by omega)) (fun q j _ _ => hR q j (by omega) (by omega)) (fun j _ _ => hR _ _ (by omega) (by omega)), ⟨?_, ?_, fun i hi => ?_, ?_⟩,
    h4.cg b4 b5 (fun q j _ _ => hC q j (by omega)) (fun j _ _ => hR _ _ (by omega) (by omega)), h5.cg rfl (hR _ _ (by omega) (by omega)),
    h6.cg b4 b5 (fun q j _ _ => hC q j (by omega)) (fun q j _ _ => rfl) (fun j _ _ => hR _ _ (by omega) (by omega)) (fun j => hR _ _ (by omega) (by omega)), h7.cg b4 b5 b9 (fun q j _ _ => hC q j (by omega)) (fun j _ _ => hR _ _ (by omega) (by omega)) (hR _ _ (by omega) (by omega)),
    h8.cg (fun q j _ _ _ => hC q j (by omega)) (fun q j _ _ => hR q j (by omega) (by omega)) (hR _ _ (by omega) (by omega)), h9.cg (fun q j _ _ => hC q j (by omega)) (fun q j _ _ => hR q j (by omega) (by omega)) (hR _ _ (by omega) (by omega))⟩
  · rw [up_at, if_pos ⟨rfl, rfl⟩]
  · rw [up_at, if_pos ⟨rfl, rfl⟩]
  · rw [up_ne (a := 2) (by omega), up_ne (a := 153) (by omega)]
    by_cases q : i = nt
    · rw [q, up_self, up_self]; exact ⟨rfl, hx⟩
    · rw [up_ne (by omega), up_ne (by omega)]; exact t3 i (by omega)
  · rw [up_at, if_neg (by omega), up_at, if_neg (by omega), up_at, if_neg (by omega), up_at, if_neg (by omega)]; exact t4
theorem op_feed (h : InvE C R L hb) (x : Int32) : Op G_feed R_feed [.int x] C R L hb := by
  obtain ⟨nr, nd, nm, np, nt, na, nb, nu, nx, h⟩ := id h
  obtain ⟨hB, hH, ⟨t1, t2, t3, t4⟩, hS, hD, hI, hU, hA, hK⟩ := id h
  obtain ⟨b1, b2, b3, b4, b5, b6, b7, b8, b9, b10, b11⟩ := id hB
  by_cases hx : inN x 256
  · have h1 : ¬ x < 0 := not_lt0.mpr hx.1
    have h2 : x ≤ 255 := by
      obtain ⟨k, hk, rfl⟩ := inN_of (by omega) hx
      exact nI_le (b := 255) (by omega) (by omega)
    by_cases ht : nt = 240
    · have h3 : (nI nt < 240) = False := eq_false (by rw [ht]; decide +kernel)
      have h4 : nI nt = 240 := by rw [ht]; rfl
      refine Op.same h.e (-1000000004) ?_ ?_
      · simp only [x_G_feed, G_feed_b11, G_feed_b0, e_ci, e_cl, e_cn, e_il, e_ll, e_al, e_is, e_as, e_asn, e_ls, e_ii, e_pop, e_dupi, e_dupr, e_dup2r, e_dup2i, e_b, e_bd, e_lb, e_lbd, e_i2l, e_l2i, e_lcmp, e_ifeq, e_iflt, e_ifge, e_ifgt, e_ifle, e_cmeq, e_cmlt, e_cmge, e_cmgt, e_cmle, e_nulln, e_nullr, e_sw, e_swn, e_swc, e_gi, e_gl, e_gp, e_pi, e_pz, e_pl, e_pp, e_ald, e_zld, e_qld, e_ast, e_zst, e_qst, e_len, e_cs, e_cv, e_cn0, e_obj, e_max, e_min, e_ri, e_rz, e_rq, e_rqn, e_rv, e_rfs, e_rfn, e_mS_uI, e_mZ_uI, e_mT_uI, e_mI_uI, e_mL_uI, e_mP_uI, e_mS_uL, e_mZ_uL, e_mT_uL, e_mI_uL, e_mL_uL, e_mP_uL, e_mS_uP, e_mZ_uP, e_mT_uP, e_mI_uP, e_mL_uP, e_mP_uP, lg, lset, ak_ok1, ak_pop, ak_s4, Option.toList_some, Option.toList_none, List.cons_append, List.nil_append, if_true, ite_true, ite_false, ↓reduceIte, Nat.reduceAdd, Nat.reduceEqDiff, and_true, true_and, and_self, i_00, i_11, i_01, i_10, or_true, true_or, false_or, or_false, mS_mk, mL_mk, mI_mk, mP_11, mP_12, uI_mk, uL_mk, mP_mk, ptr_1_0, shp_1, shp_2, h1, h2, t1, h3, Nat.reduceLT, and_false, false_and]
      · simp only [x_R_feed, R_feed_b52, R_feed_b0, e_ci, e_cl, e_cn, e_il, e_ll, e_al, e_is, e_as, e_asn, e_ls, e_ii, e_pop, e_dupi, e_dupr, e_dup2r, e_dup2i, e_b, e_bd, e_lb, e_lbd, e_i2l, e_l2i, e_lcmp, e_ifeq, e_iflt, e_ifge, e_ifgt, e_ifle, e_cmeq, e_cmlt, e_cmge, e_cmgt, e_cmle, e_nulln, e_nullr, e_sw, e_swn, e_swc, e_gi, e_gl, e_gp, e_pi, e_pz, e_pl, e_pp, e_ald, e_zld, e_qld, e_ast, e_zst, e_qst, e_len, e_cs, e_cv, e_cn0, e_obj, e_max, e_min, e_ri, e_rz, e_rq, e_rqn, e_rv, e_rfs, e_rfn, e_mS_uI, e_mZ_uI, e_mT_uI, e_mI_uI, e_mL_uI, e_mP_uI, e_mS_uL, e_mZ_uL, e_mT_uL, e_mI_uL, e_mL_uL, e_mP_uL, e_mS_uP, e_mZ_uP, e_mT_uP, e_mI_uP, e_mL_uP, e_mP_uP, lg, lset, ak_ok1, ak_pop, ak_s4, Option.toList_some, Option.toList_none, List.cons_append, List.nil_append, if_true, ite_true, ite_false, ↓reduceIte, Nat.reduceAdd, Nat.reduceEqDiff, and_true, true_and, and_self, i_00, i_11, i_01, i_10, or_true, true_or, false_or, or_false, mS_mk, mL_mk, mI_mk, mP_11, mP_12, uI_mk, uL_mk, shp_153, R_in_eq, in_n255, hx, t2, h4, Nat.reduceLT]
    · have h3 : (nI nt < 240) = True := eq_true (nI_lt (b := 240) (by omega) (by omega))
      have h4 : (nI nt = 240) = False := eq_false (fun e => ht ((nI_eq (b := 240) (by omega) (by omega)).mp e))
      have e3 : 0 ≤ nI nt := nI_pos' (by omega)
      have e4 : (nI nt).toNatClampNeg = nt := nI_clamp (by omega)
      have e5 : nt < 240 := by omega
      refine ⟨nI (nt + 1), _, _, _, _, ?_, ?_, (h.feed hx e5).e⟩
      · simp only [x_G_feed, G_feed_b11, G_feed_b0, x_Reader_append, Reader_append_b0, e_ci, e_cl, e_cn, e_il, e_ll, e_al, e_is, e_as, e_asn, e_ls, e_ii, e_pop, e_dupi, e_dupr, e_dup2r, e_dup2i, e_b, e_bd, e_lb, e_lbd, e_i2l, e_l2i, e_lcmp, e_ifeq, e_iflt, e_ifge, e_ifgt, e_ifle, e_cmeq, e_cmlt, e_cmge, e_cmgt, e_cmle, e_nulln, e_nullr, e_sw, e_swn, e_swc, e_gi, e_gl, e_gp, e_pi, e_pz, e_pl, e_pp, e_ald, e_zld, e_qld, e_ast, e_zst, e_qst, e_len, e_cs, e_cv, e_cn0, e_obj, e_max, e_min, e_ri, e_rz, e_rq, e_rqn, e_rv, e_rfs, e_rfn, e_mS_uI, e_mZ_uI, e_mT_uI, e_mI_uI, e_mL_uI, e_mP_uI, e_mS_uL, e_mZ_uL, e_mT_uL, e_mI_uL, e_mL_uL, e_mP_uL, e_mS_uP, e_mZ_uP, e_mT_uP, e_mI_uP, e_mL_uP, e_mP_uP, lg, lset, ak_ok1, ak_pop, ak_s4, Option.toList_some, Option.toList_none, List.cons_append, List.nil_append, if_true, ite_true, ite_false, ↓reduceIte, Nat.reduceAdd, Nat.reduceEqDiff, and_true, true_and, and_self, i_00, i_11, i_01, i_10, or_true, true_or, false_or, or_false, mS_mk, mL_mk, mI_mk, mP_11, mP_12, uI_mk, uL_mk, mP_mk, ptr_1_0, ptr_2_0, shp_1, shp_2, shp_3, h1, h2, t1, h3, Nat.reduceLT, and_false, false_and, G_put_in (M := mk C R L hb) (a := 3) (n := 240) rfl e5 (by omega), up_at, nI_1]
      · simp only [x_R_feed, R_feed_b52, R_feed_b0, e_ci, e_cl, e_cn, e_il, e_ll, e_al, e_is, e_as, e_asn, e_ls, e_ii, e_pop, e_dupi, e_dupr, e_dup2r, e_dup2i, e_b, e_bd, e_lb, e_lbd, e_i2l, e_l2i, e_lcmp, e_ifeq, e_iflt, e_ifge, e_ifgt, e_ifle, e_cmeq, e_cmlt, e_cmge, e_cmgt, e_cmle, e_nulln, e_nullr, e_sw, e_swn, e_swc, e_gi, e_gl, e_gp, e_pi, e_pz, e_pl, e_pp, e_ald, e_zld, e_qld, e_ast, e_zst, e_qst, e_len, e_cs, e_cv, e_cn0, e_obj, e_max, e_min, e_ri, e_rz, e_rq, e_rqn, e_rv, e_rfs, e_rfn, e_mS_uI, e_mZ_uI, e_mT_uI, e_mI_uI, e_mL_uI, e_mP_uI, e_mS_uL, e_mZ_uL, e_mT_uL, e_mI_uL, e_mL_uL, e_mP_uL, e_mS_uP, e_mZ_uP, e_mT_uP, e_mI_uP, e_mL_uP, e_mP_uP, lg, lset, ak_ok1, ak_pop, ak_s4, Option.toList_some, Option.toList_none, List.cons_append, List.nil_append, if_true, ite_true, ite_false, ↓reduceIte, Nat.reduceAdd, Nat.reduceEqDiff, and_true, true_and, and_self, i_00, i_11, i_01, i_10, or_true, true_or, false_or, or_false, mS_mk, mL_mk, mI_mk, mP_11, mP_12, uI_mk, uL_mk, mP_mk, ptr_153_13, shp_153, shp_162, R_in_eq, in_n255, hx, t2, h4, e3, e4, e5, Nat.reduceLT, and_false, false_and, up_at, nI_1]
  · refine Op.same h.e (-1000000002) ?_ ?_
    · rcases inN_0 hx with h1 | h1
      · simp only [x_G_feed, G_feed_b11, G_feed_b0, e_ci, e_cl, e_cn, e_il, e_ll, e_al, e_is, e_as, e_asn, e_ls, e_ii, e_pop, e_dupi, e_dupr, e_dup2r, e_dup2i, e_b, e_bd, e_lb, e_lbd, e_i2l, e_l2i, e_lcmp, e_ifeq, e_iflt, e_ifge, e_ifgt, e_ifle, e_cmeq, e_cmlt, e_cmge, e_cmgt, e_cmle, e_nulln, e_nullr, e_sw, e_swn, e_swc, e_gi, e_gl, e_gp, e_pi, e_pz, e_pl, e_pp, e_ald, e_zld, e_qld, e_ast, e_zst, e_qst, e_len, e_cs, e_cv, e_cn0, e_obj, e_max, e_min, e_ri, e_rz, e_rq, e_rqn, e_rv, e_rfs, e_rfn, e_mS_uI, e_mZ_uI, e_mT_uI, e_mI_uI, e_mL_uI, e_mP_uI, e_mS_uL, e_mZ_uL, e_mT_uL, e_mI_uL, e_mL_uL, e_mP_uL, e_mS_uP, e_mZ_uP, e_mT_uP, e_mI_uP, e_mL_uP, e_mP_uP, lg, lset, ak_ok1, ak_pop, ak_s4, Option.toList_some, Option.toList_none, List.cons_append, List.nil_append, if_true, ite_true, ite_false, ↓reduceIte, Nat.reduceAdd, Nat.reduceEqDiff, and_true, true_and, and_self, i_00, i_11, i_01, i_10, or_true, true_or, false_or, or_false, mS_mk, mL_mk, mI_mk, mP_11, mP_12, uI_mk, uL_mk, h1]
      · have h2 : ¬ x ≤ 255 := by
          rw [Int32.le_iff_toInt_le, show (255 : Int32) = nI 255 from rfl, nI_toInt (by omega)]
          rw [Int32.le_iff_toInt_le, nI_toInt (by omega)] at h1
          omega
        simp only [x_G_feed, G_feed_b11, G_feed_b0, e_ci, e_cl, e_cn, e_il, e_ll, e_al, e_is, e_as, e_asn, e_ls, e_ii, e_pop, e_dupi, e_dupr, e_dup2r, e_dup2i, e_b, e_bd, e_lb, e_lbd, e_i2l, e_l2i, e_lcmp, e_ifeq, e_iflt, e_ifge, e_ifgt, e_ifle, e_cmeq, e_cmlt, e_cmge, e_cmgt, e_cmle, e_nulln, e_nullr, e_sw, e_swn, e_swc, e_gi, e_gl, e_gp, e_pi, e_pz, e_pl, e_pp, e_ald, e_zld, e_qld, e_ast, e_zst, e_qst, e_len, e_cs, e_cv, e_cn0, e_obj, e_max, e_min, e_ri, e_rz, e_rq, e_rqn, e_rv, e_rfs, e_rfn, e_mS_uI, e_mZ_uI, e_mT_uI, e_mI_uI, e_mL_uI, e_mP_uI, e_mS_uL, e_mZ_uL, e_mT_uL, e_mI_uL, e_mL_uL, e_mP_uL, e_mS_uP, e_mZ_uP, e_mT_uP, e_mI_uP, e_mL_uP, e_mP_uP, lg, lset, ak_ok1, ak_pop, ak_s4, Option.toList_some, Option.toList_none, List.cons_append, List.nil_append, if_true, ite_true, ite_false, ↓reduceIte, Nat.reduceAdd, Nat.reduceEqDiff, and_true, true_and, and_self, i_00, i_11, i_01, i_10, or_true, true_or, false_or, or_false, mS_mk, mL_mk, mI_mk, mP_11, mP_12, uI_mk, uL_mk, h2]
        split <;> rfl
    · simp only [x_R_feed, R_feed_b52, R_feed_b0, e_ci, e_cl, e_cn, e_il, e_ll, e_al, e_is, e_as, e_asn, e_ls, e_ii, e_pop, e_dupi, e_dupr, e_dup2r, e_dup2i, e_b, e_bd, e_lb, e_lbd, e_i2l, e_l2i, e_lcmp, e_ifeq, e_iflt, e_ifge, e_ifgt, e_ifle, e_cmeq, e_cmlt, e_cmge, e_cmgt, e_cmle, e_nulln, e_nullr, e_sw, e_swn, e_swc, e_gi, e_gl, e_gp, e_pi, e_pz, e_pl, e_pp, e_ald, e_zld, e_qld, e_ast, e_zst, e_qst, e_len, e_cs, e_cv, e_cn0, e_obj, e_max, e_min, e_ri, e_rz, e_rq, e_rqn, e_rv, e_rfs, e_rfn, e_mS_uI, e_mZ_uI, e_mT_uI, e_mI_uI, e_mL_uI, e_mP_uI, e_mS_uL, e_mZ_uL, e_mT_uL, e_mI_uL, e_mL_uL, e_mP_uL, e_mS_uP, e_mZ_uP, e_mT_uP, e_mI_uP, e_mL_uP, e_mP_uP, lg, lset, ak_ok1, ak_pop, ak_s4, Option.toList_some, Option.toList_none, List.cons_append, List.nil_append, if_true, ite_true, ite_false, ↓reduceIte, Nat.reduceAdd, Nat.reduceEqDiff, and_true, true_and, and_self, i_00, i_11, i_01, i_10, or_true, true_or, false_or, or_false, mS_mk, mL_mk, mI_mk, mP_11, mP_12, uI_mk, uL_mk, shp_153, R_in_eq, in_n255, hx, Nat.reduceLT]
theorem op_fault (h : InvE C R L hb) : Op G_fault R_fault [] C R L hb := by
  obtain ⟨nr, nd, nm, np, nt, na, nb, nu, nx, h⟩ := id h
  obtain ⟨hB, hH, ⟨t1, t2, t3, t4⟩, hS, hD, hI, hU, hA, hK⟩ := id h
  refine Op.same h.e (R 153 19) ?_ ?_
  · simp only [x_G_fault, G_fault_b0, e_ci, e_cl, e_cn, e_il, e_ll, e_al, e_is, e_as, e_asn, e_ls, e_ii, e_pop, e_dupi, e_dupr, e_dup2r, e_dup2i, e_b, e_bd, e_lb, e_lbd, e_i2l, e_l2i, e_lcmp, e_ifeq, e_iflt, e_ifge, e_ifgt, e_ifle, e_cmeq, e_cmlt, e_cmge, e_cmgt, e_cmle, e_nulln, e_nullr, e_sw, e_swn, e_swc, e_gi, e_gl, e_gp, e_pi, e_pz, e_pl, e_pp, e_ald, e_zld, e_qld, e_ast, e_zst, e_qst, e_len, e_cs, e_cv, e_cn0, e_obj, e_max, e_min, e_ri, e_rz, e_rq, e_rqn, e_rv, e_rfs, e_rfn, e_mS_uI, e_mZ_uI, e_mT_uI, e_mI_uI, e_mL_uI, e_mP_uI, e_mS_uL, e_mZ_uL, e_mT_uL, e_mI_uL, e_mL_uL, e_mP_uL, e_mS_uP, e_mZ_uP, e_mT_uP, e_mI_uP, e_mL_uP, e_mP_uP, lg, lset, ak_ok1, ak_pop, ak_s4, Option.toList_some, Option.toList_none, List.cons_append, List.nil_append, if_true, ite_true, ite_false, ↓reduceIte, Nat.reduceAdd, Nat.reduceEqDiff, and_true, true_and, and_self, i_00, i_11, i_01, i_10, or_true, true_or, false_or, or_false, mS_mk, mL_mk, mI_mk, mP_11, mP_12, uI_mk, uL_mk, mP_mk, ptr_1_0, shp_1, shp_2, t4, Nat.reduceLT, and_false, false_and]
  · simp only [x_R_fault, R_fault_b0, e_ci, e_cl, e_cn, e_il, e_ll, e_al, e_is, e_as, e_asn, e_ls, e_ii, e_pop, e_dupi, e_dupr, e_dup2r, e_dup2i, e_b, e_bd, e_lb, e_lbd, e_i2l, e_l2i, e_lcmp, e_ifeq, e_iflt, e_ifge, e_ifgt, e_ifle, e_cmeq, e_cmlt, e_cmge, e_cmgt, e_cmle, e_nulln, e_nullr, e_sw, e_swn, e_swc, e_gi, e_gl, e_gp, e_pi, e_pz, e_pl, e_pp, e_ald, e_zld, e_qld, e_ast, e_zst, e_qst, e_len, e_cs, e_cv, e_cn0, e_obj, e_max, e_min, e_ri, e_rz, e_rq, e_rqn, e_rv, e_rfs, e_rfn, e_mS_uI, e_mZ_uI, e_mT_uI, e_mI_uI, e_mL_uI, e_mP_uI, e_mS_uL, e_mZ_uL, e_mT_uL, e_mI_uL, e_mL_uL, e_mP_uL, e_mS_uP, e_mZ_uP, e_mT_uP, e_mI_uP, e_mL_uP, e_mP_uP, lg, lset, ak_ok1, ak_pop, ak_s4, Option.toList_some, Option.toList_none, List.cons_append, List.nil_append, if_true, ite_true, ite_false, ↓reduceIte, Nat.reduceAdd, Nat.reduceEqDiff, and_true, true_and, and_self, i_00, i_11, i_01, i_10, or_true, true_or, false_or, or_false, mS_mk, mL_mk, mI_mk, mP_11, mP_12, uI_mk, uL_mk, shp_153, Nat.reduceLT]
theorem op_told (h : InvE C R L hb) (x : Int32) : Op G_told R_told [.int x] C R L hb := by
  obtain ⟨nr, nd, nm, np, nt, na, nb, nu, nx, h⟩ := id h
  obtain ⟨hB, ⟨⟨c1, c2, c3, c4⟩, ⟨r1, r2, r3, r4⟩, -⟩, ⟨t1, t2, t3, t4⟩, ⟨s1, -⟩, hD, hI, ⟨u1, u2, u3, -⟩, ⟨a1, a2, -⟩, ⟨k1, k2, -⟩⟩ := id h
  have hh : isHo hb := hB.1
  have hE : InvE C R L hb := h.e
  by_cases hx : inN x 16
  · obtain ⟨k, hk, rfl⟩ := inN_of (by omega) hx
    have s2 : ∀ k, k < 8 → C 20 k = R 154 k := fun k hk => by rw [s1 k hk, Nat.zero_add]
    rcases (by omega : k = 0 ∨ k = 1 ∨ k = 2 ∨ k = 3 ∨ k = 4 ∨ k = 5 ∨ k = 6 ∨ k = 7 ∨ k = 8 ∨ k = 9 ∨ k = 10 ∨ k = 11 ∨ k = 12 ∨ k = 13 ∨ k = 14 ∨ k = 15) with rfl | rfl | rfl | rfl | rfl | rfl | rfl | rfl | rfl | rfl | rfl | rfl | rfl | rfl | rfl | rfl
    · refine Op.same hE (nI nr) ?_ ?_
      · simp only [x_G_told, G_told_b80, G_told_b88, G_told_b96, G_told_b104, G_told_b112, G_told_b120, G_told_b128, G_told_b136, G_told_b144, G_told_b152, G_told_b160, G_told_b168, G_told_b176, G_told_b184, G_told_b192, G_told_b200, G_told_b208, G_told_b0, e_ci, e_cl, e_cn, e_il, e_ll, e_al, e_is, e_as, e_asn, e_ls, e_ii, e_pop, e_dupi, e_dupr, e_dup2r, e_dup2i, e_b, e_bd, e_lb, e_lbd, e_i2l, e_l2i, e_lcmp, e_ifeq, e_iflt, e_ifge, e_ifgt, e_ifle, e_cmeq, e_cmlt, e_cmge, e_cmgt, e_cmle, e_nulln, e_nullr, e_sw, e_swn, e_swc, e_gi, e_gl, e_gp, e_pi, e_pz, e_pl, e_pp, e_ald, e_zld, e_qld, e_ast, e_zst, e_qst, e_len, e_cs, e_cv, e_cn0, e_obj, e_max, e_min, e_ri, e_rz, e_rq, e_rqn, e_rv, e_rfs, e_rfn, e_mS_uI, e_mZ_uI, e_mT_uI, e_mI_uI, e_mL_uI, e_mP_uI, e_mS_uL, e_mZ_uL, e_mT_uL, e_mI_uL, e_mL_uL, e_mP_uL, e_mS_uP, e_mZ_uP, e_mT_uP, e_mI_uP, e_mL_uP, e_mP_uP, lg, lset, ak_ok1, ak_pop, ak_s4, Option.toList_some, Option.toList_none, List.cons_append, List.nil_append, if_true, ite_true, ite_false, ↓reduceIte, Nat.reduceAdd, Nat.reduceEqDiff, and_true, true_and, and_self, i_00, i_11, i_01, i_10, or_true, true_or, false_or, or_false, mS_mk, mL_mk, mI_mk, mP_11, mP_12, uI_mk, uL_mk, e_sv, shp_1, (ho_facts hh).1, c1, (ho_lt hh).1, q_0_0, q_0_1, q_0_2, q_0_3, q_0_4, q_0_5, q_0_6, q_0_7, q_0_8, q_0_9, q_0_10, q_0_11, q_0_12, q_0_13, q_0_14, q_0_15, Nat.reduceLT, and_false, false_and]
      · simp only [x_R_told, R_told_b80, R_told_b85, R_told_b90, R_told_b95, R_told_b100, R_told_b147, R_told_b120, R_told_b105, R_told_b110, R_told_b115, R_told_b0, e_ci, e_cl, e_cn, e_il, e_ll, e_al, e_is, e_as, e_asn, e_ls, e_ii, e_pop, e_dupi, e_dupr, e_dup2r, e_dup2i, e_b, e_bd, e_lb, e_lbd, e_i2l, e_l2i, e_lcmp, e_ifeq, e_iflt, e_ifge, e_ifgt, e_ifle, e_cmeq, e_cmlt, e_cmge, e_cmgt, e_cmle, e_nulln, e_nullr, e_sw, e_swn, e_swc, e_gi, e_gl, e_gp, e_pi, e_pz, e_pl, e_pp, e_ald, e_zld, e_qld, e_ast, e_zst, e_qst, e_len, e_cs, e_cv, e_cn0, e_obj, e_max, e_min, e_ri, e_rz, e_rq, e_rqn, e_rv, e_rfs, e_rfn, e_mS_uI, e_mZ_uI, e_mT_uI, e_mI_uI, e_mL_uI, e_mP_uI, e_mS_uL, e_mZ_uL, e_mT_uL, e_mI_uL, e_mL_uL, e_mP_uL, e_mS_uP, e_mZ_uP, e_mT_uP, e_mI_uP, e_mL_uP, e_mP_uP, lg, lset, ak_ok1, ak_pop, ak_s4, Option.toList_some, Option.toList_none, List.cons_append, List.nil_append, if_true, ite_true, ite_false, ↓reduceIte, Nat.reduceAdd, Nat.reduceEqDiff, and_true, true_and, and_self, i_00, i_11, i_01, i_10, or_true, true_or, false_or, or_false, mS_mk, mL_mk, mI_mk, mP_11, mP_12, uI_mk, uL_mk, e_sv, shp_153, r1, q_0_0, q_0_1, q_0_2, q_0_3, q_0_4, q_0_5, q_0_6, q_0_7, q_0_8, q_0_9, q_0_10, q_0_11, q_0_12, q_0_13, q_0_14, q_0_15, Nat.reduceLT, and_false, false_and]
    · refine Op.same hE (nI nd) ?_ ?_
      · simp only [x_G_told, G_told_b80, G_told_b88, G_told_b96, G_told_b104, G_told_b112, G_told_b120, G_told_b128, G_told_b136, G_told_b144, G_told_b152, G_told_b160, G_told_b168, G_told_b176, G_told_b184, G_told_b192, G_told_b200, G_told_b208, G_told_b0, e_ci, e_cl, e_cn, e_il, e_ll, e_al, e_is, e_as, e_asn, e_ls, e_ii, e_pop, e_dupi, e_dupr, e_dup2r, e_dup2i, e_b, e_bd, e_lb, e_lbd, e_i2l, e_l2i, e_lcmp, e_ifeq, e_iflt, e_ifge, e_ifgt, e_ifle, e_cmeq, e_cmlt, e_cmge, e_cmgt, e_cmle, e_nulln, e_nullr, e_sw, e_swn, e_swc, e_gi, e_gl, e_gp, e_pi, e_pz, e_pl, e_pp, e_ald, e_zld, e_qld, e_ast, e_zst, e_qst, e_len, e_cs, e_cv, e_cn0, e_obj, e_max, e_min, e_ri, e_rz, e_rq, e_rqn, e_rv, e_rfs, e_rfn, e_mS_uI, e_mZ_uI, e_mT_uI, e_mI_uI, e_mL_uI, e_mP_uI, e_mS_uL, e_mZ_uL, e_mT_uL, e_mI_uL, e_mL_uL, e_mP_uL, e_mS_uP, e_mZ_uP, e_mT_uP, e_mI_uP, e_mL_uP, e_mP_uP, lg, lset, ak_ok1, ak_pop, ak_s4, Option.toList_some, Option.toList_none, List.cons_append, List.nil_append, if_true, ite_true, ite_false, ↓reduceIte, Nat.reduceAdd, Nat.reduceEqDiff, and_true, true_and, and_self, i_00, i_11, i_01, i_10, or_true, true_or, false_or, or_false, mS_mk, mL_mk, mI_mk, mP_11, mP_12, uI_mk, uL_mk, e_sv, shp_1, (ho_facts hh).1, c2, (ho_lt hh).1, q_1_0, q_1_1, q_1_2, q_1_3, q_1_4, q_1_5, q_1_6, q_1_7, q_1_8, q_1_9, q_1_10, q_1_11, q_1_12, q_1_13, q_1_14, q_1_15, Nat.reduceLT, and_false, false_and]
      · simp only [x_R_told, R_told_b80, R_told_b85, R_told_b90, R_told_b95, R_told_b100, R_told_b147, R_told_b120, R_told_b105, R_told_b110, R_told_b115, R_told_b0, e_ci, e_cl, e_cn, e_il, e_ll, e_al, e_is, e_as, e_asn, e_ls, e_ii, e_pop, e_dupi, e_dupr, e_dup2r, e_dup2i, e_b, e_bd, e_lb, e_lbd, e_i2l, e_l2i, e_lcmp, e_ifeq, e_iflt, e_ifge, e_ifgt, e_ifle, e_cmeq, e_cmlt, e_cmge, e_cmgt, e_cmle, e_nulln, e_nullr, e_sw, e_swn, e_swc, e_gi, e_gl, e_gp, e_pi, e_pz, e_pl, e_pp, e_ald, e_zld, e_qld, e_ast, e_zst, e_qst, e_len, e_cs, e_cv, e_cn0, e_obj, e_max, e_min, e_ri, e_rz, e_rq, e_rqn, e_rv, e_rfs, e_rfn, e_mS_uI, e_mZ_uI, e_mT_uI, e_mI_uI, e_mL_uI, e_mP_uI, e_mS_uL, e_mZ_uL, e_mT_uL, e_mI_uL, e_mL_uL, e_mP_uL, e_mS_uP, e_mZ_uP, e_mT_uP, e_mI_uP, e_mL_uP, e_mP_uP, lg, lset, ak_ok1, ak_pop, ak_s4, Option.toList_some, Option.toList_none, List.cons_append, List.nil_append, if_true, ite_true, ite_false, ↓reduceIte, Nat.reduceAdd, Nat.reduceEqDiff, and_true, true_and, and_self, i_00, i_11, i_01, i_10, or_true, true_or, false_or, or_false, mS_mk, mL_mk, mI_mk, mP_11, mP_12, uI_mk, uL_mk, e_sv, shp_153, r2, q_1_0, q_1_1, q_1_2, q_1_3, q_1_4, q_1_5, q_1_6, q_1_7, q_1_8, q_1_9, q_1_10, q_1_11, q_1_12, q_1_13, q_1_14, q_1_15, Nat.reduceLT, and_false, false_and]
    · refine Op.same hE (nI nm) ?_ ?_
      · simp only [x_G_told, G_told_b80, G_told_b88, G_told_b96, G_told_b104, G_told_b112, G_told_b120, G_told_b128, G_told_b136, G_told_b144, G_told_b152, G_told_b160, G_told_b168, G_told_b176, G_told_b184, G_told_b192, G_told_b200, G_told_b208, G_told_b0, e_ci, e_cl, e_cn, e_il, e_ll, e_al, e_is, e_as, e_asn, e_ls, e_ii, e_pop, e_dupi, e_dupr, e_dup2r, e_dup2i, e_b, e_bd, e_lb, e_lbd, e_i2l, e_l2i, e_lcmp, e_ifeq, e_iflt, e_ifge, e_ifgt, e_ifle, e_cmeq, e_cmlt, e_cmge, e_cmgt, e_cmle, e_nulln, e_nullr, e_sw, e_swn, e_swc, e_gi, e_gl, e_gp, e_pi, e_pz, e_pl, e_pp, e_ald, e_zld, e_qld, e_ast, e_zst, e_qst, e_len, e_cs, e_cv, e_cn0, e_obj, e_max, e_min, e_ri, e_rz, e_rq, e_rqn, e_rv, e_rfs, e_rfn, e_mS_uI, e_mZ_uI, e_mT_uI, e_mI_uI, e_mL_uI, e_mP_uI, e_mS_uL, e_mZ_uL, e_mT_uL, e_mI_uL, e_mL_uL, e_mP_uL, e_mS_uP, e_mZ_uP, e_mT_uP, e_mI_uP, e_mL_uP, e_mP_uP, lg, lset, ak_ok1, ak_pop, ak_s4, Option.toList_some, Option.toList_none, List.cons_append, List.nil_append, if_true, ite_true, ite_false, ↓reduceIte, Nat.reduceAdd, Nat.reduceEqDiff, and_true, true_and, and_self, i_00, i_11, i_01, i_10, or_true, true_or, false_or, or_false, mS_mk, mL_mk, mI_mk, mP_11, mP_12, uI_mk, uL_mk, e_sv, shp_1, (ho_facts hh).1, c3, (ho_lt hh).1, q_2_0, q_2_1, q_2_2, q_2_3, q_2_4, q_2_5, q_2_6, q_2_7, q_2_8, q_2_9, q_2_10, q_2_11, q_2_12, q_2_13, q_2_14, q_2_15, Nat.reduceLT, and_false, false_and]
      · simp only [x_R_told, R_told_b80, R_told_b85, R_told_b90, R_told_b95, R_told_b100, R_told_b147, R_told_b120, R_told_b105, R_told_b110, R_told_b115, R_told_b0, e_ci, e_cl, e_cn, e_il, e_ll, e_al, e_is, e_as, e_asn, e_ls, e_ii, e_pop, e_dupi, e_dupr, e_dup2r, e_dup2i, e_b, e_bd, e_lb, e_lbd, e_i2l, e_l2i, e_lcmp, e_ifeq, e_iflt, e_ifge, e_ifgt, e_ifle, e_cmeq, e_cmlt, e_cmge, e_cmgt, e_cmle, e_nulln, e_nullr, e_sw, e_swn, e_swc, e_gi, e_gl, e_gp, e_pi, e_pz, e_pl, e_pp, e_ald, e_zld, e_qld, e_ast, e_zst, e_qst, e_len, e_cs, e_cv, e_cn0, e_obj, e_max, e_min, e_ri, e_rz, e_rq, e_rqn, e_rv, e_rfs, e_rfn, e_mS_uI, e_mZ_uI, e_mT_uI, e_mI_uI, e_mL_uI, e_mP_uI, e_mS_uL, e_mZ_uL, e_mT_uL, e_mI_uL, e_mL_uL, e_mP_uL, e_mS_uP, e_mZ_uP, e_mT_uP, e_mI_uP, e_mL_uP, e_mP_uP, lg, lset, ak_ok1, ak_pop, ak_s4, Option.toList_some, Option.toList_none, List.cons_append, List.nil_append, if_true, ite_true, ite_false, ↓reduceIte, Nat.reduceAdd, Nat.reduceEqDiff, and_true, true_and, and_self, i_00, i_11, i_01, i_10, or_true, true_or, false_or, or_false, mS_mk, mL_mk, mI_mk, mP_11, mP_12, uI_mk, uL_mk, e_sv, shp_153, r3, q_2_0, q_2_1, q_2_2, q_2_3, q_2_4, q_2_5, q_2_6, q_2_7, q_2_8, q_2_9, q_2_10, q_2_11, q_2_12, q_2_13, q_2_14, q_2_15, Nat.reduceLT, and_false, false_and]
    · refine Op.same hE (nI np) ?_ ?_
      · simp only [x_G_told, G_told_b80, G_told_b88, G_told_b96, G_told_b104, G_told_b112, G_told_b120, G_told_b128, G_told_b136, G_told_b144, G_told_b152, G_told_b160, G_told_b168, G_told_b176, G_told_b184, G_told_b192, G_told_b200, G_told_b208, G_told_b0, e_ci, e_cl, e_cn, e_il, e_ll, e_al, e_is, e_as, e_asn, e_ls, e_ii, e_pop, e_dupi, e_dupr, e_dup2r, e_dup2i, e_b, e_bd, e_lb, e_lbd, e_i2l, e_l2i, e_lcmp, e_ifeq, e_iflt, e_ifge, e_ifgt, e_ifle, e_cmeq, e_cmlt, e_cmge, e_cmgt, e_cmle, e_nulln, e_nullr, e_sw, e_swn, e_swc, e_gi, e_gl, e_gp, e_pi, e_pz, e_pl, e_pp, e_ald, e_zld, e_qld, e_ast, e_zst, e_qst, e_len, e_cs, e_cv, e_cn0, e_obj, e_max, e_min, e_ri, e_rz, e_rq, e_rqn, e_rv, e_rfs, e_rfn, e_mS_uI, e_mZ_uI, e_mT_uI, e_mI_uI, e_mL_uI, e_mP_uI, e_mS_uL, e_mZ_uL, e_mT_uL, e_mI_uL, e_mL_uL, e_mP_uL, e_mS_uP, e_mZ_uP, e_mT_uP, e_mI_uP, e_mL_uP, e_mP_uP, lg, lset, ak_ok1, ak_pop, ak_s4, Option.toList_some, Option.toList_none, List.cons_append, List.nil_append, if_true, ite_true, ite_false, ↓reduceIte, Nat.reduceAdd, Nat.reduceEqDiff, and_true, true_and, and_self, i_00, i_11, i_01, i_10, or_true, true_or, false_or, or_false, mS_mk, mL_mk, mI_mk, mP_11, mP_12, uI_mk, uL_mk, e_sv, shp_1, (ho_facts hh).1, c4, (ho_lt hh).1, q_3_0, q_3_1, q_3_2, q_3_3, q_3_4, q_3_5, q_3_6, q_3_7, q_3_8, q_3_9, q_3_10, q_3_11, q_3_12, q_3_13, q_3_14, q_3_15, Nat.reduceLT, and_false, false_and]
      · simp only [x_R_told, R_told_b80, R_told_b85, R_told_b90, R_told_b95, R_told_b100, R_told_b147, R_told_b120, R_told_b105, R_told_b110, R_told_b115, R_told_b0, e_ci, e_cl, e_cn, e_il, e_ll, e_al, e_is, e_as, e_asn, e_ls, e_ii, e_pop, e_dupi, e_dupr, e_dup2r, e_dup2i, e_b, e_bd, e_lb, e_lbd, e_i2l, e_l2i, e_lcmp, e_ifeq, e_iflt, e_ifge, e_ifgt, e_ifle, e_cmeq, e_cmlt, e_cmge, e_cmgt, e_cmle, e_nulln, e_nullr, e_sw, e_swn, e_swc, e_gi, e_gl, e_gp, e_pi, e_pz, e_pl, e_pp, e_ald, e_zld, e_qld, e_ast, e_zst, e_qst, e_len, e_cs, e_cv, e_cn0, e_obj, e_max, e_min, e_ri, e_rz, e_rq, e_rqn, e_rv, e_rfs, e_rfn, e_mS_uI, e_mZ_uI, e_mT_uI, e_mI_uI, e_mL_uI, e_mP_uI, e_mS_uL, e_mZ_uL, e_mT_uL, e_mI_uL, e_mL_uL, e_mP_uL, e_mS_uP, e_mZ_uP, e_mT_uP, e_mI_uP, e_mL_uP, e_mP_uP, lg, lset, ak_ok1, ak_pop, ak_s4, Option.toList_some, Option.toList_none, List.cons_append, List.nil_append, if_true, ite_true, ite_false, ↓reduceIte, Nat.reduceAdd, Nat.reduceEqDiff, and_true, true_and, and_self, i_00, i_11, i_01, i_10, or_true, true_or, false_or, or_false, mS_mk, mL_mk, mI_mk, mP_11, mP_12, uI_mk, uL_mk, e_sv, shp_153, r4, q_3_0, q_3_1, q_3_2, q_3_3, q_3_4, q_3_5, q_3_6, q_3_7, q_3_8, q_3_9, q_3_10, q_3_11, q_3_12, q_3_13, q_3_14, q_3_15, Nat.reduceLT, and_false, false_and]
    · refine Op.same hE (nI nt) ?_ ?_
      · simp only [x_G_told, G_told_b80, G_told_b88, G_told_b96, G_told_b104, G_told_b112, G_told_b120, G_told_b128, G_told_b136, G_told_b144, G_told_b152, G_told_b160, G_told_b168, G_told_b176, G_told_b184, G_told_b192, G_told_b200, G_told_b208, G_told_b0, e_ci, e_cl, e_cn, e_il, e_ll, e_al, e_is, e_as, e_asn, e_ls, e_ii, e_pop, e_dupi, e_dupr, e_dup2r, e_dup2i, e_b, e_bd, e_lb, e_lbd, e_i2l, e_l2i, e_lcmp, e_ifeq, e_iflt, e_ifge, e_ifgt, e_ifle, e_cmeq, e_cmlt, e_cmge, e_cmgt, e_cmle, e_nulln, e_nullr, e_sw, e_swn, e_swc, e_gi, e_gl, e_gp, e_pi, e_pz, e_pl, e_pp, e_ald, e_zld, e_qld, e_ast, e_zst, e_qst, e_len, e_cs, e_cv, e_cn0, e_obj, e_max, e_min, e_ri, e_rz, e_rq, e_rqn, e_rv, e_rfs, e_rfn, e_mS_uI, e_mZ_uI, e_mT_uI, e_mI_uI, e_mL_uI, e_mP_uI, e_mS_uL, e_mZ_uL, e_mT_uL, e_mI_uL, e_mL_uL, e_mP_uL, e_mS_uP, e_mZ_uP, e_mT_uP, e_mI_uP, e_mL_uP, e_mP_uP, lg, lset, ak_ok1, ak_pop, ak_s4, Option.toList_some, Option.toList_none, List.cons_append, List.nil_append, if_true, ite_true, ite_false, ↓reduceIte, Nat.reduceAdd, Nat.reduceEqDiff, and_true, true_and, and_self, i_00, i_11, i_01, i_10, or_true, true_or, false_or, or_false, mS_mk, mL_mk, mI_mk, mP_11, mP_12, uI_mk, uL_mk, e_sv, shp_1, mP_mk, ptr_1_0, shp_2, t1, q_4_0, q_4_1, q_4_2, q_4_3, q_4_4, q_4_5, q_4_6, q_4_7, q_4_8, q_4_9, q_4_10, q_4_11, q_4_12, q_4_13, q_4_14, q_4_15, Nat.reduceLT, and_false, false_and]
      · simp only [x_R_told, R_told_b80, R_told_b85, R_told_b90, R_told_b95, R_told_b100, R_told_b147, R_told_b120, R_told_b105, R_told_b110, R_told_b115, R_told_b0, e_ci, e_cl, e_cn, e_il, e_ll, e_al, e_is, e_as, e_asn, e_ls, e_ii, e_pop, e_dupi, e_dupr, e_dup2r, e_dup2i, e_b, e_bd, e_lb, e_lbd, e_i2l, e_l2i, e_lcmp, e_ifeq, e_iflt, e_ifge, e_ifgt, e_ifle, e_cmeq, e_cmlt, e_cmge, e_cmgt, e_cmle, e_nulln, e_nullr, e_sw, e_swn, e_swc, e_gi, e_gl, e_gp, e_pi, e_pz, e_pl, e_pp, e_ald, e_zld, e_qld, e_ast, e_zst, e_qst, e_len, e_cs, e_cv, e_cn0, e_obj, e_max, e_min, e_ri, e_rz, e_rq, e_rqn, e_rv, e_rfs, e_rfn, e_mS_uI, e_mZ_uI, e_mT_uI, e_mI_uI, e_mL_uI, e_mP_uI, e_mS_uL, e_mZ_uL, e_mT_uL, e_mI_uL, e_mL_uL, e_mP_uL, e_mS_uP, e_mZ_uP, e_mT_uP, e_mI_uP, e_mL_uP, e_mP_uP, lg, lset, ak_ok1, ak_pop, ak_s4, Option.toList_some, Option.toList_none, List.cons_append, List.nil_append, if_true, ite_true, ite_false, ↓reduceIte, Nat.reduceAdd, Nat.reduceEqDiff, and_true, true_and, and_self, i_00, i_11, i_01, i_10, or_true, true_or, false_or, or_false, mS_mk, mL_mk, mI_mk, mP_11, mP_12, uI_mk, uL_mk, e_sv, shp_153, t2, q_4_0, q_4_1, q_4_2, q_4_3, q_4_4, q_4_5, q_4_6, q_4_7, q_4_8, q_4_9, q_4_10, q_4_11, q_4_12, q_4_13, q_4_14, q_4_15, Nat.reduceLT, and_false, false_and]
    · refine Op.same hE (R 154 0) ?_ ?_
      · simp only [x_G_told, G_told_b80, G_told_b88, G_told_b96, G_told_b104, G_told_b112, G_told_b120, G_told_b128, G_told_b136, G_told_b144, G_told_b152, G_told_b160, G_told_b168, G_told_b176, G_told_b184, G_told_b192, G_told_b200, G_told_b208, G_told_b0, e_ci, e_cl, e_cn, e_il, e_ll, e_al, e_is, e_as, e_asn, e_ls, e_ii, e_pop, e_dupi, e_dupr, e_dup2r, e_dup2i, e_b, e_bd, e_lb, e_lbd, e_i2l, e_l2i, e_lcmp, e_ifeq, e_iflt, e_ifge, e_ifgt, e_ifle, e_cmeq, e_cmlt, e_cmge, e_cmgt, e_cmle, e_nulln, e_nullr, e_sw, e_swn, e_swc, e_gi, e_gl, e_gp, e_pi, e_pz, e_pl, e_pp, e_ald, e_zld, e_qld, e_ast, e_zst, e_qst, e_len, e_cs, e_cv, e_cn0, e_obj, e_max, e_min, e_ri, e_rz, e_rq, e_rqn, e_rv, e_rfs, e_rfn, e_mS_uI, e_mZ_uI, e_mT_uI, e_mI_uI, e_mL_uI, e_mP_uI, e_mS_uL, e_mZ_uL, e_mT_uL, e_mI_uL, e_mL_uL, e_mP_uL, e_mS_uP, e_mZ_uP, e_mT_uP, e_mI_uP, e_mL_uP, e_mP_uP, lg, lset, ak_ok1, ak_pop, ak_s4, Option.toList_some, Option.toList_none, List.cons_append, List.nil_append, if_true, ite_true, ite_false, ↓reduceIte, Nat.reduceAdd, Nat.reduceEqDiff, and_true, true_and, and_self, i_00, i_11, i_01, i_10, or_true, true_or, false_or, or_false, mS_mk, mL_mk, mI_mk, mP_11, mP_12, uI_mk, uL_mk, e_sv, shp_1, mP_mk, ptr_1_3, shp_20, s2 0 (by omega), q_5_0, q_5_1, q_5_2, q_5_3, q_5_4, q_5_5, q_5_6, q_5_7, q_5_8, q_5_9, q_5_10, q_5_11, q_5_12, q_5_13, q_5_14, q_5_15, Nat.reduceLT, and_false, false_and]
      · simp only [x_R_told, R_told_b80, R_told_b85, R_told_b90, R_told_b95, R_told_b100, R_told_b147, R_told_b120, R_told_b105, R_told_b110, R_told_b115, R_told_b0, e_ci, e_cl, e_cn, e_il, e_ll, e_al, e_is, e_as, e_asn, e_ls, e_ii, e_pop, e_dupi, e_dupr, e_dup2r, e_dup2i, e_b, e_bd, e_lb, e_lbd, e_i2l, e_l2i, e_lcmp, e_ifeq, e_iflt, e_ifge, e_ifgt, e_ifle, e_cmeq, e_cmlt, e_cmge, e_cmgt, e_cmle, e_nulln, e_nullr, e_sw, e_swn, e_swc, e_gi, e_gl, e_gp, e_pi, e_pz, e_pl, e_pp, e_ald, e_zld, e_qld, e_ast, e_zst, e_qst, e_len, e_cs, e_cv, e_cn0, e_obj, e_max, e_min, e_ri, e_rz, e_rq, e_rqn, e_rv, e_rfs, e_rfn, e_mS_uI, e_mZ_uI, e_mT_uI, e_mI_uI, e_mL_uI, e_mP_uI, e_mS_uL, e_mZ_uL, e_mT_uL, e_mI_uL, e_mL_uL, e_mP_uL, e_mS_uP, e_mZ_uP, e_mT_uP, e_mI_uP, e_mL_uP, e_mP_uP, lg, lset, ak_ok1, ak_pop, ak_s4, Option.toList_some, Option.toList_none, List.cons_append, List.nil_append, if_true, ite_true, ite_false, ↓reduceIte, Nat.reduceAdd, Nat.reduceEqDiff, and_true, true_and, and_self, i_00, i_11, i_01, i_10, or_true, true_or, false_or, or_false, mS_mk, mL_mk, mI_mk, mP_11, mP_12, uI_mk, uL_mk, e_sv, mP_mk, ptr_153_0, shp_153, shp_154, R_in_eq, q6_5, q5_5, q7_0, q8_0, q_5_0, q_5_1, q_5_2, q_5_3, q_5_4, q_5_5, q_5_6, q_5_7, q_5_8, q_5_9, q_5_10, q_5_11, q_5_12, q_5_13, q_5_14, q_5_15, Nat.reduceLT, and_false, false_and]
    · refine Op.same hE (R 154 1) ?_ ?_
      · simp only [x_G_told, G_told_b80, G_told_b88, G_told_b96, G_told_b104, G_told_b112, G_told_b120, G_told_b128, G_told_b136, G_told_b144, G_told_b152, G_told_b160, G_told_b168, G_told_b176, G_told_b184, G_told_b192, G_told_b200, G_told_b208, G_told_b0, e_ci, e_cl, e_cn, e_il, e_ll, e_al, e_is, e_as, e_asn, e_ls, e_ii, e_pop, e_dupi, e_dupr, e_dup2r, e_dup2i, e_b, e_bd, e_lb, e_lbd, e_i2l, e_l2i, e_lcmp, e_ifeq, e_iflt, e_ifge, e_ifgt, e_ifle, e_cmeq, e_cmlt, e_cmge, e_cmgt, e_cmle, e_nulln, e_nullr, e_sw, e_swn, e_swc, e_gi, e_gl, e_gp, e_pi, e_pz, e_pl, e_pp, e_ald, e_zld, e_qld, e_ast, e_zst, e_qst, e_len, e_cs, e_cv, e_cn0, e_obj, e_max, e_min, e_ri, e_rz, e_rq, e_rqn, e_rv, e_rfs, e_rfn, e_mS_uI, e_mZ_uI, e_mT_uI, e_mI_uI, e_mL_uI, e_mP_uI, e_mS_uL, e_mZ_uL, e_mT_uL, e_mI_uL, e_mL_uL, e_mP_uL, e_mS_uP, e_mZ_uP, e_mT_uP, e_mI_uP, e_mL_uP, e_mP_uP, lg, lset, ak_ok1, ak_pop, ak_s4, Option.toList_some, Option.toList_none, List.cons_append, List.nil_append, if_true, ite_true, ite_false, ↓reduceIte, Nat.reduceAdd, Nat.reduceEqDiff, and_true, true_and, and_self, i_00, i_11, i_01, i_10, or_true, true_or, false_or, or_false, mS_mk, mL_mk, mI_mk, mP_11, mP_12, uI_mk, uL_mk, e_sv, shp_1, mP_mk, ptr_1_3, shp_20, s2 1 (by omega), q_6_0, q_6_1, q_6_2, q_6_3, q_6_4, q_6_5, q_6_6, q_6_7, q_6_8, q_6_9, q_6_10, q_6_11, q_6_12, q_6_13, q_6_14, q_6_15, Nat.reduceLT, and_false, false_and]
      · simp only [x_R_told, R_told_b80, R_told_b85, R_told_b90, R_told_b95, R_told_b100, R_told_b147, R_told_b120, R_told_b105, R_told_b110, R_told_b115, R_told_b0, e_ci, e_cl, e_cn, e_il, e_ll, e_al, e_is, e_as, e_asn, e_ls, e_ii, e_pop, e_dupi, e_dupr, e_dup2r, e_dup2i, e_b, e_bd, e_lb, e_lbd, e_i2l, e_l2i, e_lcmp, e_ifeq, e_iflt, e_ifge, e_ifgt, e_ifle, e_cmeq, e_cmlt, e_cmge, e_cmgt, e_cmle, e_nulln, e_nullr, e_sw, e_swn, e_swc, e_gi, e_gl, e_gp, e_pi, e_pz, e_pl, e_pp, e_ald, e_zld, e_qld, e_ast, e_zst, e_qst, e_len, e_cs, e_cv, e_cn0, e_obj, e_max, e_min, e_ri, e_rz, e_rq, e_rqn, e_rv, e_rfs, e_rfn, e_mS_uI, e_mZ_uI, e_mT_uI, e_mI_uI, e_mL_uI, e_mP_uI, e_mS_uL, e_mZ_uL, e_mT_uL, e_mI_uL, e_mL_uL, e_mP_uL, e_mS_uP, e_mZ_uP, e_mT_uP, e_mI_uP, e_mL_uP, e_mP_uP, lg, lset, ak_ok1, ak_pop, ak_s4, Option.toList_some, Option.toList_none, List.cons_append, List.nil_append, if_true, ite_true, ite_false, ↓reduceIte, Nat.reduceAdd, Nat.reduceEqDiff, and_true, true_and, and_self, i_00, i_11, i_01, i_10, or_true, true_or, false_or, or_false, mS_mk, mL_mk, mI_mk, mP_11, mP_12, uI_mk, uL_mk, e_sv, mP_mk, ptr_153_0, shp_153, shp_154, R_in_eq, q6_6, q5_6, q7_1, q8_1, q_6_0, q_6_1, q_6_2, q_6_3, q_6_4, q_6_5, q_6_6, q_6_7, q_6_8, q_6_9, q_6_10, q_6_11, q_6_12, q_6_13, q_6_14, q_6_15, Nat.reduceLT, and_false, false_and]
    · refine Op.same hE (R 154 2) ?_ ?_
      · simp only [x_G_told, G_told_b80, G_told_b88, G_told_b96, G_told_b104, G_told_b112, G_told_b120, G_told_b128, G_told_b136, G_told_b144, G_told_b152, G_told_b160, G_told_b168, G_told_b176, G_told_b184, G_told_b192, G_told_b200, G_told_b208, G_told_b0, e_ci, e_cl, e_cn, e_il, e_ll, e_al, e_is, e_as, e_asn, e_ls, e_ii, e_pop, e_dupi, e_dupr, e_dup2r, e_dup2i, e_b, e_bd, e_lb, e_lbd, e_i2l, e_l2i, e_lcmp, e_ifeq, e_iflt, e_ifge, e_ifgt, e_ifle, e_cmeq, e_cmlt, e_cmge, e_cmgt, e_cmle, e_nulln, e_nullr, e_sw, e_swn, e_swc, e_gi, e_gl, e_gp, e_pi, e_pz, e_pl, e_pp, e_ald, e_zld, e_qld, e_ast, e_zst, e_qst, e_len, e_cs, e_cv, e_cn0, e_obj, e_max, e_min, e_ri, e_rz, e_rq, e_rqn, e_rv, e_rfs, e_rfn, e_mS_uI, e_mZ_uI, e_mT_uI, e_mI_uI, e_mL_uI, e_mP_uI, e_mS_uL, e_mZ_uL, e_mT_uL, e_mI_uL, e_mL_uL, e_mP_uL, e_mS_uP, e_mZ_uP, e_mT_uP, e_mI_uP, e_mL_uP, e_mP_uP, lg, lset, ak_ok1, ak_pop, ak_s4, Option.toList_some, Option.toList_none, List.cons_append, List.nil_append, if_true, ite_true, ite_false, ↓reduceIte, Nat.reduceAdd, Nat.reduceEqDiff, and_true, true_and, and_self, i_00, i_11, i_01, i_10, or_true, true_or, false_or, or_false, mS_mk, mL_mk, mI_mk, mP_11, mP_12, uI_mk, uL_mk, e_sv, shp_1, mP_mk, ptr_1_3, shp_20, s2 2 (by omega), q_7_0, q_7_1, q_7_2, q_7_3, q_7_4, q_7_5, q_7_6, q_7_7, q_7_8, q_7_9, q_7_10, q_7_11, q_7_12, q_7_13, q_7_14, q_7_15, Nat.reduceLT, and_false, false_and]
      · simp only [x_R_told, R_told_b80, R_told_b85, R_told_b90, R_told_b95, R_told_b100, R_told_b147, R_told_b120, R_told_b105, R_told_b110, R_told_b115, R_told_b0, e_ci, e_cl, e_cn, e_il, e_ll, e_al, e_is, e_as, e_asn, e_ls, e_ii, e_pop, e_dupi, e_dupr, e_dup2r, e_dup2i, e_b, e_bd, e_lb, e_lbd, e_i2l, e_l2i, e_lcmp, e_ifeq, e_iflt, e_ifge, e_ifgt, e_ifle, e_cmeq, e_cmlt, e_cmge, e_cmgt, e_cmle, e_nulln, e_nullr, e_sw, e_swn, e_swc, e_gi, e_gl, e_gp, e_pi, e_pz, e_pl, e_pp, e_ald, e_zld, e_qld, e_ast, e_zst, e_qst, e_len, e_cs, e_cv, e_cn0, e_obj, e_max, e_min, e_ri, e_rz, e_rq, e_rqn, e_rv, e_rfs, e_rfn, e_mS_uI, e_mZ_uI, e_mT_uI, e_mI_uI, e_mL_uI, e_mP_uI, e_mS_uL, e_mZ_uL, e_mT_uL, e_mI_uL, e_mL_uL, e_mP_uL, e_mS_uP, e_mZ_uP, e_mT_uP, e_mI_uP, e_mL_uP, e_mP_uP, lg, lset, ak_ok1, ak_pop, ak_s4, Option.toList_some, Option.toList_none, List.cons_append, List.nil_append, if_true, ite_true, ite_false, ↓reduceIte, Nat.reduceAdd, Nat.reduceEqDiff, and_true, true_and, and_self, i_00, i_11, i_01, i_10, or_true, true_or, false_or, or_false, mS_mk, mL_mk, mI_mk, mP_11, mP_12, uI_mk, uL_mk, e_sv, mP_mk, ptr_153_0, shp_153, shp_154, R_in_eq, q6_7, q5_7, q7_2, q8_2, q_7_0, q_7_1, q_7_2, q_7_3, q_7_4, q_7_5, q_7_6, q_7_7, q_7_8, q_7_9, q_7_10, q_7_11, q_7_12, q_7_13, q_7_14, q_7_15, Nat.reduceLT, and_false, false_and]
    · refine Op.same hE (R 154 3) ?_ ?_
      · simp only [x_G_told, G_told_b80, G_told_b88, G_told_b96, G_told_b104, G_told_b112, G_told_b120, G_told_b128, G_told_b136, G_told_b144, G_told_b152, G_told_b160, G_told_b168, G_told_b176, G_told_b184, G_told_b192, G_told_b200, G_told_b208, G_told_b0, e_ci, e_cl, e_cn, e_il, e_ll, e_al, e_is, e_as, e_asn, e_ls, e_ii, e_pop, e_dupi, e_dupr, e_dup2r, e_dup2i, e_b, e_bd, e_lb, e_lbd, e_i2l, e_l2i, e_lcmp, e_ifeq, e_iflt, e_ifge, e_ifgt, e_ifle, e_cmeq, e_cmlt, e_cmge, e_cmgt, e_cmle, e_nulln, e_nullr, e_sw, e_swn, e_swc, e_gi, e_gl, e_gp, e_pi, e_pz, e_pl, e_pp, e_ald, e_zld, e_qld, e_ast, e_zst, e_qst, e_len, e_cs, e_cv, e_cn0, e_obj, e_max, e_min, e_ri, e_rz, e_rq, e_rqn, e_rv, e_rfs, e_rfn, e_mS_uI, e_mZ_uI, e_mT_uI, e_mI_uI, e_mL_uI, e_mP_uI, e_mS_uL, e_mZ_uL, e_mT_uL, e_mI_uL, e_mL_uL, e_mP_uL, e_mS_uP, e_mZ_uP, e_mT_uP, e_mI_uP, e_mL_uP, e_mP_uP, lg, lset, ak_ok1, ak_pop, ak_s4, Option.toList_some, Option.toList_none, List.cons_append, List.nil_append, if_true, ite_true, ite_false, ↓reduceIte, Nat.reduceAdd, Nat.reduceEqDiff, and_true, true_and, and_self, i_00, i_11, i_01, i_10, or_true, true_or, false_or, or_false, mS_mk, mL_mk, mI_mk, mP_11, mP_12, uI_mk, uL_mk, e_sv, shp_1, mP_mk, ptr_1_3, shp_20, s2 3 (by omega), q_8_0, q_8_1, q_8_2, q_8_3, q_8_4, q_8_5, q_8_6, q_8_7, q_8_8, q_8_9, q_8_10, q_8_11, q_8_12, q_8_13, q_8_14, q_8_15, Nat.reduceLT, and_false, false_and]
      · simp only [x_R_told, R_told_b80, R_told_b85, R_told_b90, R_told_b95, R_told_b100, R_told_b147, R_told_b120, R_told_b105, R_told_b110, R_told_b115, R_told_b0, e_ci, e_cl, e_cn, e_il, e_ll, e_al, e_is, e_as, e_asn, e_ls, e_ii, e_pop, e_dupi, e_dupr, e_dup2r, e_dup2i, e_b, e_bd, e_lb, e_lbd, e_i2l, e_l2i, e_lcmp, e_ifeq, e_iflt, e_ifge, e_ifgt, e_ifle, e_cmeq, e_cmlt, e_cmge, e_cmgt, e_cmle, e_nulln, e_nullr, e_sw, e_swn, e_swc, e_gi, e_gl, e_gp, e_pi, e_pz, e_pl, e_pp, e_ald, e_zld, e_qld, e_ast, e_zst, e_qst, e_len, e_cs, e_cv, e_cn0, e_obj, e_max, e_min, e_ri, e_rz, e_rq, e_rqn, e_rv, e_rfs, e_rfn, e_mS_uI, e_mZ_uI, e_mT_uI, e_mI_uI, e_mL_uI, e_mP_uI, e_mS_uL, e_mZ_uL, e_mT_uL, e_mI_uL, e_mL_uL, e_mP_uL, e_mS_uP, e_mZ_uP, e_mT_uP, e_mI_uP, e_mL_uP, e_mP_uP, lg, lset, ak_ok1, ak_pop, ak_s4, Option.toList_some, Option.toList_none, List.cons_append, List.nil_append, if_true, ite_true, ite_false, ↓reduceIte, Nat.reduceAdd, Nat.reduceEqDiff, and_true, true_and, and_self, i_00, i_11, i_01, i_10, or_true, true_or, false_or, or_false, mS_mk, mL_mk, mI_mk, mP_11, mP_12, uI_mk, uL_mk, e_sv, mP_mk, ptr_153_0, shp_153, shp_154, R_in_eq, q6_8, q5_8, q7_3, q8_3, q_8_0, q_8_1, q_8_2, q_8_3, q_8_4, q_8_5, q_8_6, q_8_7, q_8_8, q_8_9, q_8_10, q_8_11, q_8_12, q_8_13, q_8_14, q_8_15, Nat.reduceLT, and_false, false_and]
    · refine Op.same hE (R 154 4) ?_ ?_
      · simp only [x_G_told, G_told_b80, G_told_b88, G_told_b96, G_told_b104, G_told_b112, G_told_b120, G_told_b128, G_told_b136, G_told_b144, G_told_b152, G_told_b160, G_told_b168, G_told_b176, G_told_b184, G_told_b192, G_told_b200, G_told_b208, G_told_b0, e_ci, e_cl, e_cn, e_il, e_ll, e_al, e_is, e_as, e_asn, e_ls, e_ii, e_pop, e_dupi, e_dupr, e_dup2r, e_dup2i, e_b, e_bd, e_lb, e_lbd, e_i2l, e_l2i, e_lcmp, e_ifeq, e_iflt, e_ifge, e_ifgt, e_ifle, e_cmeq, e_cmlt, e_cmge, e_cmgt, e_cmle, e_nulln, e_nullr, e_sw, e_swn, e_swc, e_gi, e_gl, e_gp, e_pi, e_pz, e_pl, e_pp, e_ald, e_zld, e_qld, e_ast, e_zst, e_qst, e_len, e_cs, e_cv, e_cn0, e_obj, e_max, e_min, e_ri, e_rz, e_rq, e_rqn, e_rv, e_rfs, e_rfn, e_mS_uI, e_mZ_uI, e_mT_uI, e_mI_uI, e_mL_uI, e_mP_uI, e_mS_uL, e_mZ_uL, e_mT_uL, e_mI_uL, e_mL_uL, e_mP_uL, e_mS_uP, e_mZ_uP, e_mT_uP, e_mI_uP, e_mL_uP, e_mP_uP, lg, lset, ak_ok1, ak_pop, ak_s4, Option.toList_some, Option.toList_none, List.cons_append, List.nil_append, if_true, ite_true, ite_false, ↓reduceIte, Nat.reduceAdd, Nat.reduceEqDiff, and_true, true_and, and_self, i_00, i_11, i_01, i_10, or_true, true_or, false_or, or_false, mS_mk, mL_mk, mI_mk, mP_11, mP_12, uI_mk, uL_mk, e_sv, shp_1, mP_mk, ptr_1_3, shp_20, s2 4 (by omega), q_9_0, q_9_1, q_9_2, q_9_3, q_9_4, q_9_5, q_9_6, q_9_7, q_9_8, q_9_9, q_9_10, q_9_11, q_9_12, q_9_13, q_9_14, q_9_15, Nat.reduceLT, and_false, false_and]
      · simp only [x_R_told, R_told_b80, R_told_b85, R_told_b90, R_told_b95, R_told_b100, R_told_b147, R_told_b120, R_told_b105, R_told_b110, R_told_b115, R_told_b0, e_ci, e_cl, e_cn, e_il, e_ll, e_al, e_is, e_as, e_asn, e_ls, e_ii, e_pop, e_dupi, e_dupr, e_dup2r, e_dup2i, e_b, e_bd, e_lb, e_lbd, e_i2l, e_l2i, e_lcmp, e_ifeq, e_iflt, e_ifge, e_ifgt, e_ifle, e_cmeq, e_cmlt, e_cmge, e_cmgt, e_cmle, e_nulln, e_nullr, e_sw, e_swn, e_swc, e_gi, e_gl, e_gp, e_pi, e_pz, e_pl, e_pp, e_ald, e_zld, e_qld, e_ast, e_zst, e_qst, e_len, e_cs, e_cv, e_cn0, e_obj, e_max, e_min, e_ri, e_rz, e_rq, e_rqn, e_rv, e_rfs, e_rfn, e_mS_uI, e_mZ_uI, e_mT_uI, e_mI_uI, e_mL_uI, e_mP_uI, e_mS_uL, e_mZ_uL, e_mT_uL, e_mI_uL, e_mL_uL, e_mP_uL, e_mS_uP, e_mZ_uP, e_mT_uP, e_mI_uP, e_mL_uP, e_mP_uP, lg, lset, ak_ok1, ak_pop, ak_s4, Option.toList_some, Option.toList_none, List.cons_append, List.nil_append, if_true, ite_true, ite_false, ↓reduceIte, Nat.reduceAdd, Nat.reduceEqDiff, and_true, true_and, and_self, i_00, i_11, i_01, i_10, or_true, true_or, false_or, or_false, mS_mk, mL_mk, mI_mk, mP_11, mP_12, uI_mk, uL_mk, e_sv, mP_mk, ptr_153_0, shp_153, shp_154, R_in_eq, q6_9, q5_9, q7_4, q8_4, q_9_0, q_9_1, q_9_2, q_9_3, q_9_4, q_9_5, q_9_6, q_9_7, q_9_8, q_9_9, q_9_10, q_9_11, q_9_12, q_9_13, q_9_14, q_9_15, Nat.reduceLT, and_false, false_and]
    · refine Op.same hE (R 154 5) ?_ ?_
      · simp only [x_G_told, G_told_b80, G_told_b88, G_told_b96, G_told_b104, G_told_b112, G_told_b120, G_told_b128, G_told_b136, G_told_b144, G_told_b152, G_told_b160, G_told_b168, G_told_b176, G_told_b184, G_told_b192, G_told_b200, G_told_b208, G_told_b0, e_ci, e_cl, e_cn, e_il, e_ll, e_al, e_is, e_as, e_asn, e_ls, e_ii, e_pop, e_dupi, e_dupr, e_dup2r, e_dup2i, e_b, e_bd, e_lb, e_lbd, e_i2l, e_l2i, e_lcmp, e_ifeq, e_iflt, e_ifge, e_ifgt, e_ifle, e_cmeq, e_cmlt, e_cmge, e_cmgt, e_cmle, e_nulln, e_nullr, e_sw, e_swn, e_swc, e_gi, e_gl, e_gp, e_pi, e_pz, e_pl, e_pp, e_ald, e_zld, e_qld, e_ast, e_zst, e_qst, e_len, e_cs, e_cv, e_cn0, e_obj, e_max, e_min, e_ri, e_rz, e_rq, e_rqn, e_rv, e_rfs, e_rfn, e_mS_uI, e_mZ_uI, e_mT_uI, e_mI_uI, e_mL_uI, e_mP_uI, e_mS_uL, e_mZ_uL, e_mT_uL, e_mI_uL, e_mL_uL, e_mP_uL, e_mS_uP, e_mZ_uP, e_mT_uP, e_mI_uP, e_mL_uP, e_mP_uP, lg, lset, ak_ok1, ak_pop, ak_s4, Option.toList_some, Option.toList_none, List.cons_append, List.nil_append, if_true, ite_true, ite_false, ↓reduceIte, Nat.reduceAdd, Nat.reduceEqDiff, and_true, true_and, and_self, i_00, i_11, i_01, i_10, or_true, true_or, false_or, or_false, mS_mk, mL_mk, mI_mk, mP_11, mP_12, uI_mk, uL_mk, e_sv, shp_1, mP_mk, ptr_1_3, shp_20, s2 5 (by omega), q_10_0, q_10_1, q_10_2, q_10_3, q_10_4, q_10_5, q_10_6, q_10_7, q_10_8, q_10_9, q_10_10, q_10_11, q_10_12, q_10_13, q_10_14, q_10_15, Nat.reduceLT, and_false, false_and]
      · simp only [x_R_told, R_told_b80, R_told_b85, R_told_b90, R_told_b95, R_told_b100, R_told_b147, R_told_b120, R_told_b105, R_told_b110, R_told_b115, R_told_b0, e_ci, e_cl, e_cn, e_il, e_ll, e_al, e_is, e_as, e_asn, e_ls, e_ii, e_pop, e_dupi, e_dupr, e_dup2r, e_dup2i, e_b, e_bd, e_lb, e_lbd, e_i2l, e_l2i, e_lcmp, e_ifeq, e_iflt, e_ifge, e_ifgt, e_ifle, e_cmeq, e_cmlt, e_cmge, e_cmgt, e_cmle, e_nulln, e_nullr, e_sw, e_swn, e_swc, e_gi, e_gl, e_gp, e_pi, e_pz, e_pl, e_pp, e_ald, e_zld, e_qld, e_ast, e_zst, e_qst, e_len, e_cs, e_cv, e_cn0, e_obj, e_max, e_min, e_ri, e_rz, e_rq, e_rqn, e_rv, e_rfs, e_rfn, e_mS_uI, e_mZ_uI, e_mT_uI, e_mI_uI, e_mL_uI, e_mP_uI, e_mS_uL, e_mZ_uL, e_mT_uL, e_mI_uL, e_mL_uL, e_mP_uL, e_mS_uP, e_mZ_uP, e_mT_uP, e_mI_uP, e_mL_uP, e_mP_uP, lg, lset, ak_ok1, ak_pop, ak_s4, Option.toList_some, Option.toList_none, List.cons_append, List.nil_append, if_true, ite_true, ite_false, ↓reduceIte, Nat.reduceAdd, Nat.reduceEqDiff, and_true, true_and, and_self, i_00, i_11, i_01, i_10, or_true, true_or, false_or, or_false, mS_mk, mL_mk, mI_mk, mP_11, mP_12, uI_mk, uL_mk, e_sv, mP_mk, ptr_153_0, shp_153, shp_154, R_in_eq, q6_10, q5_10, q7_5, q8_5, q_10_0, q_10_1, q_10_2, q_10_3, q_10_4, q_10_5, q_10_6, q_10_7, q_10_8, q_10_9, q_10_10, q_10_11, q_10_12, q_10_13, q_10_14, q_10_15, Nat.reduceLT, and_false, false_and]
    · refine Op.same hE (R 154 6) ?_ ?_
      · simp only [x_G_told, G_told_b80, G_told_b88, G_told_b96, G_told_b104, G_told_b112, G_told_b120, G_told_b128, G_told_b136, G_told_b144, G_told_b152, G_told_b160, G_told_b168, G_told_b176, G_told_b184, G_told_b192, G_told_b200, G_told_b208, G_told_b0, e_ci, e_cl, e_cn, e_il, e_ll, e_al, e_is, e_as, e_asn, e_ls, e_ii, e_pop, e_dupi, e_dupr, e_dup2r, e_dup2i, e_b, e_bd, e_lb, e_lbd, e_i2l, e_l2i, e_lcmp, e_ifeq, e_iflt, e_ifge, e_ifgt, e_ifle, e_cmeq, e_cmlt, e_cmge, e_cmgt, e_cmle, e_nulln, e_nullr, e_sw, e_swn, e_swc, e_gi, e_gl, e_gp, e_pi, e_pz, e_pl, e_pp, e_ald, e_zld, e_qld, e_ast, e_zst, e_qst, e_len, e_cs, e_cv, e_cn0, e_obj, e_max, e_min, e_ri, e_rz, e_rq, e_rqn, e_rv, e_rfs, e_rfn, e_mS_uI, e_mZ_uI, e_mT_uI, e_mI_uI, e_mL_uI, e_mP_uI, e_mS_uL, e_mZ_uL, e_mT_uL, e_mI_uL, e_mL_uL, e_mP_uL, e_mS_uP, e_mZ_uP, e_mT_uP, e_mI_uP, e_mL_uP, e_mP_uP, lg, lset, ak_ok1, ak_pop, ak_s4, Option.toList_some, Option.toList_none, List.cons_append, List.nil_append, if_true, ite_true, ite_false, ↓reduceIte, Nat.reduceAdd, Nat.reduceEqDiff, and_true, true_and, and_self, i_00, i_11, i_01, i_10, or_true, true_or, false_or, or_false, mS_mk, mL_mk, mI_mk, mP_11, mP_12, uI_mk, uL_mk, e_sv, shp_1, mP_mk, ptr_1_3, shp_20, s2 6 (by omega), q_11_0, q_11_1, q_11_2, q_11_3, q_11_4, q_11_5, q_11_6, q_11_7, q_11_8, q_11_9, q_11_10, q_11_11, q_11_12, q_11_13, q_11_14, q_11_15, Nat.reduceLT, and_false, false_and]
      · simp only [x_R_told, R_told_b80, R_told_b85, R_told_b90, R_told_b95, R_told_b100, R_told_b147, R_told_b120, R_told_b105, R_told_b110, R_told_b115, R_told_b0, e_ci, e_cl, e_cn, e_il, e_ll, e_al, e_is, e_as, e_asn, e_ls, e_ii, e_pop, e_dupi, e_dupr, e_dup2r, e_dup2i, e_b, e_bd, e_lb, e_lbd, e_i2l, e_l2i, e_lcmp, e_ifeq, e_iflt, e_ifge, e_ifgt, e_ifle, e_cmeq, e_cmlt, e_cmge, e_cmgt, e_cmle, e_nulln, e_nullr, e_sw, e_swn, e_swc, e_gi, e_gl, e_gp, e_pi, e_pz, e_pl, e_pp, e_ald, e_zld, e_qld, e_ast, e_zst, e_qst, e_len, e_cs, e_cv, e_cn0, e_obj, e_max, e_min, e_ri, e_rz, e_rq, e_rqn, e_rv, e_rfs, e_rfn, e_mS_uI, e_mZ_uI, e_mT_uI, e_mI_uI, e_mL_uI, e_mP_uI, e_mS_uL, e_mZ_uL, e_mT_uL, e_mI_uL, e_mL_uL, e_mP_uL, e_mS_uP, e_mZ_uP, e_mT_uP, e_mI_uP, e_mL_uP, e_mP_uP, lg, lset, ak_ok1, ak_pop, ak_s4, Option.toList_some, Option.toList_none, List.cons_append, List.nil_append, if_true, ite_true, ite_false, ↓reduceIte, Nat.reduceAdd, Nat.reduceEqDiff, and_true, true_and, and_self, i_00, i_11, i_01, i_10, or_true, true_or, false_or, or_false, mS_mk, mL_mk, mI_mk, mP_11, mP_12, uI_mk, uL_mk, e_sv, mP_mk, ptr_153_0, shp_153, shp_154, R_in_eq, q6_11, q5_11, q7_6, q8_6, q_11_0, q_11_1, q_11_2, q_11_3, q_11_4, q_11_5, q_11_6, q_11_7, q_11_8, q_11_9, q_11_10, q_11_11, q_11_12, q_11_13, q_11_14, q_11_15, Nat.reduceLT, and_false, false_and]
    · refine Op.same hE (R 154 7) ?_ ?_
      · simp only [x_G_told, G_told_b80, G_told_b88, G_told_b96, G_told_b104, G_told_b112, G_told_b120, G_told_b128, G_told_b136, G_told_b144, G_told_b152, G_told_b160, G_told_b168, G_told_b176, G_told_b184, G_told_b192, G_told_b200, G_told_b208, G_told_b0, e_ci, e_cl, e_cn, e_il, e_ll, e_al, e_is, e_as, e_asn, e_ls, e_ii, e_pop, e_dupi, e_dupr, e_dup2r, e_dup2i, e_b, e_bd, e_lb, e_lbd, e_i2l, e_l2i, e_lcmp, e_ifeq, e_iflt, e_ifge, e_ifgt, e_ifle, e_cmeq, e_cmlt, e_cmge, e_cmgt, e_cmle, e_nulln, e_nullr, e_sw, e_swn, e_swc, e_gi, e_gl, e_gp, e_pi, e_pz, e_pl, e_pp, e_ald, e_zld, e_qld, e_ast, e_zst, e_qst, e_len, e_cs, e_cv, e_cn0, e_obj, e_max, e_min, e_ri, e_rz, e_rq, e_rqn, e_rv, e_rfs, e_rfn, e_mS_uI, e_mZ_uI, e_mT_uI, e_mI_uI, e_mL_uI, e_mP_uI, e_mS_uL, e_mZ_uL, e_mT_uL, e_mI_uL, e_mL_uL, e_mP_uL, e_mS_uP, e_mZ_uP, e_mT_uP, e_mI_uP, e_mL_uP, e_mP_uP, lg, lset, ak_ok1, ak_pop, ak_s4, Option.toList_some, Option.toList_none, List.cons_append, List.nil_append, if_true, ite_true, ite_false, ↓reduceIte, Nat.reduceAdd, Nat.reduceEqDiff, and_true, true_and, and_self, i_00, i_11, i_01, i_10, or_true, true_or, false_or, or_false, mS_mk, mL_mk, mI_mk, mP_11, mP_12, uI_mk, uL_mk, e_sv, shp_1, mP_mk, ptr_1_3, shp_20, s2 7 (by omega), q_12_0, q_12_1, q_12_2, q_12_3, q_12_4, q_12_5, q_12_6, q_12_7, q_12_8, q_12_9, q_12_10, q_12_11, q_12_12, q_12_13, q_12_14, q_12_15, Nat.reduceLT, and_false, false_and]
      · simp only [x_R_told, R_told_b80, R_told_b85, R_told_b90, R_told_b95, R_told_b100, R_told_b147, R_told_b120, R_told_b105, R_told_b110, R_told_b115, R_told_b0, e_ci, e_cl, e_cn, e_il, e_ll, e_al, e_is, e_as, e_asn, e_ls, e_ii, e_pop, e_dupi, e_dupr, e_dup2r, e_dup2i, e_b, e_bd, e_lb, e_lbd, e_i2l, e_l2i, e_lcmp, e_ifeq, e_iflt, e_ifge, e_ifgt, e_ifle, e_cmeq, e_cmlt, e_cmge, e_cmgt, e_cmle, e_nulln, e_nullr, e_sw, e_swn, e_swc, e_gi, e_gl, e_gp, e_pi, e_pz, e_pl, e_pp, e_ald, e_zld, e_qld, e_ast, e_zst, e_qst, e_len, e_cs, e_cv, e_cn0, e_obj, e_max, e_min, e_ri, e_rz, e_rq, e_rqn, e_rv, e_rfs, e_rfn, e_mS_uI, e_mZ_uI, e_mT_uI, e_mI_uI, e_mL_uI, e_mP_uI, e_mS_uL, e_mZ_uL, e_mT_uL, e_mI_uL, e_mL_uL, e_mP_uL, e_mS_uP, e_mZ_uP, e_mT_uP, e_mI_uP, e_mL_uP, e_mP_uP, lg, lset, ak_ok1, ak_pop, ak_s4, Option.toList_some, Option.toList_none, List.cons_append, List.nil_append, if_true, ite_true, ite_false, ↓reduceIte, Nat.reduceAdd, Nat.reduceEqDiff, and_true, true_and, and_self, i_00, i_11, i_01, i_10, or_true, true_or, false_or, or_false, mS_mk, mL_mk, mI_mk, mP_11, mP_12, uI_mk, uL_mk, e_sv, mP_mk, ptr_153_0, shp_153, shp_154, R_in_eq, q6_12, q5_12, q7_7, q8_7, q_12_0, q_12_1, q_12_2, q_12_3, q_12_4, q_12_5, q_12_6, q_12_7, q_12_8, q_12_9, q_12_10, q_12_11, q_12_12, q_12_13, q_12_14, q_12_15, Nat.reduceLT, and_false, false_and]
    · refine Op.same hE (nI na) ?_ ?_
      · simp only [x_G_told, G_told_b80, G_told_b88, G_told_b96, G_told_b104, G_told_b112, G_told_b120, G_told_b128, G_told_b136, G_told_b144, G_told_b152, G_told_b160, G_told_b168, G_told_b176, G_told_b184, G_told_b192, G_told_b200, G_told_b208, G_told_b0, e_ci, e_cl, e_cn, e_il, e_ll, e_al, e_is, e_as, e_asn, e_ls, e_ii, e_pop, e_dupi, e_dupr, e_dup2r, e_dup2i, e_b, e_bd, e_lb, e_lbd, e_i2l, e_l2i, e_lcmp, e_ifeq, e_iflt, e_ifge, e_ifgt, e_ifle, e_cmeq, e_cmlt, e_cmge, e_cmgt, e_cmle, e_nulln, e_nullr, e_sw, e_swn, e_swc, e_gi, e_gl, e_gp, e_pi, e_pz, e_pl, e_pp, e_ald, e_zld, e_qld, e_ast, e_zst, e_qst, e_len, e_cs, e_cv, e_cn0, e_obj, e_max, e_min, e_ri, e_rz, e_rq, e_rqn, e_rv, e_rfs, e_rfn, e_mS_uI, e_mZ_uI, e_mT_uI, e_mI_uI, e_mL_uI, e_mP_uI, e_mS_uL, e_mZ_uL, e_mT_uL, e_mI_uL, e_mL_uL, e_mP_uL, e_mS_uP, e_mZ_uP, e_mT_uP, e_mI_uP, e_mL_uP, e_mP_uP, lg, lset, ak_ok1, ak_pop, ak_s4, Option.toList_some, Option.toList_none, List.cons_append, List.nil_append, if_true, ite_true, ite_false, ↓reduceIte, Nat.reduceAdd, Nat.reduceEqDiff, and_true, true_and, and_self, i_00, i_11, i_01, i_10, or_true, true_or, false_or, or_false, mS_mk, mL_mk, mI_mk, mP_11, mP_12, uI_mk, uL_mk, e_sv, shp_1, mP_mk, ptr_1_8, shp_144, a1, q_13_0, q_13_1, q_13_2, q_13_3, q_13_4, q_13_5, q_13_6, q_13_7, q_13_8, q_13_9, q_13_10, q_13_11, q_13_12, q_13_13, q_13_14, q_13_15, Nat.reduceLT, and_false, false_and]
      · simp only [x_R_told, R_told_b80, R_told_b85, R_told_b90, R_told_b95, R_told_b100, R_told_b147, R_told_b120, R_told_b105, R_told_b110, R_told_b115, R_told_b0, e_ci, e_cl, e_cn, e_il, e_ll, e_al, e_is, e_as, e_asn, e_ls, e_ii, e_pop, e_dupi, e_dupr, e_dup2r, e_dup2i, e_b, e_bd, e_lb, e_lbd, e_i2l, e_l2i, e_lcmp, e_ifeq, e_iflt, e_ifge, e_ifgt, e_ifle, e_cmeq, e_cmlt, e_cmge, e_cmgt, e_cmle, e_nulln, e_nullr, e_sw, e_swn, e_swc, e_gi, e_gl, e_gp, e_pi, e_pz, e_pl, e_pp, e_ald, e_zld, e_qld, e_ast, e_zst, e_qst, e_len, e_cs, e_cv, e_cn0, e_obj, e_max, e_min, e_ri, e_rz, e_rq, e_rqn, e_rv, e_rfs, e_rfn, e_mS_uI, e_mZ_uI, e_mT_uI, e_mI_uI, e_mL_uI, e_mP_uI, e_mS_uL, e_mZ_uL, e_mT_uL, e_mI_uL, e_mL_uL, e_mP_uL, e_mS_uP, e_mZ_uP, e_mT_uP, e_mI_uP, e_mL_uP, e_mP_uP, lg, lset, ak_ok1, ak_pop, ak_s4, Option.toList_some, Option.toList_none, List.cons_append, List.nil_append, if_true, ite_true, ite_false, ↓reduceIte, Nat.reduceAdd, Nat.reduceEqDiff, and_true, true_and, and_self, i_00, i_11, i_01, i_10, or_true, true_or, false_or, or_false, mS_mk, mL_mk, mI_mk, mP_11, mP_12, uI_mk, uL_mk, e_sv, shp_153, a2, q_13_0, q_13_1, q_13_2, q_13_3, q_13_4, q_13_5, q_13_6, q_13_7, q_13_8, q_13_9, q_13_10, q_13_11, q_13_12, q_13_13, q_13_14, q_13_15, Nat.reduceLT, and_false, false_and]
    · refine Op.same hE (nI nb) ?_ ?_
      · simp only [x_G_told, G_told_b80, G_told_b88, G_told_b96, G_told_b104, G_told_b112, G_told_b120, G_told_b128, G_told_b136, G_told_b144, G_told_b152, G_told_b160, G_told_b168, G_told_b176, G_told_b184, G_told_b192, G_told_b200, G_told_b208, G_told_b0, e_ci, e_cl, e_cn, e_il, e_ll, e_al, e_is, e_as, e_asn, e_ls, e_ii, e_pop, e_dupi, e_dupr, e_dup2r, e_dup2i, e_b, e_bd, e_lb, e_lbd, e_i2l, e_l2i, e_lcmp, e_ifeq, e_iflt, e_ifge, e_ifgt, e_ifle, e_cmeq, e_cmlt, e_cmge, e_cmgt, e_cmle, e_nulln, e_nullr, e_sw, e_swn, e_swc, e_gi, e_gl, e_gp, e_pi, e_pz, e_pl, e_pp, e_ald, e_zld, e_qld, e_ast, e_zst, e_qst, e_len, e_cs, e_cv, e_cn0, e_obj, e_max, e_min, e_ri, e_rz, e_rq, e_rqn, e_rv, e_rfs, e_rfn, e_mS_uI, e_mZ_uI, e_mT_uI, e_mI_uI, e_mL_uI, e_mP_uI, e_mS_uL, e_mZ_uL, e_mT_uL, e_mI_uL, e_mL_uL, e_mP_uL, e_mS_uP, e_mZ_uP, e_mT_uP, e_mI_uP, e_mL_uP, e_mP_uP, lg, lset, ak_ok1, ak_pop, ak_s4, Option.toList_some, Option.toList_none, List.cons_append, List.nil_append, if_true, ite_true, ite_false, ↓reduceIte, Nat.reduceAdd, Nat.reduceEqDiff, and_true, true_and, and_self, i_00, i_11, i_01, i_10, or_true, true_or, false_or, or_false, mS_mk, mL_mk, mI_mk, mP_11, mP_12, uI_mk, uL_mk, e_sv, shp_1, mP_mk, ptr_1_9, shp_149, k1, q_14_0, q_14_1, q_14_2, q_14_3, q_14_4, q_14_5, q_14_6, q_14_7, q_14_8, q_14_9, q_14_10, q_14_11, q_14_12, q_14_13, q_14_14, q_14_15, Nat.reduceLT, and_false, false_and]
      · simp only [x_R_told, R_told_b80, R_told_b85, R_told_b90, R_told_b95, R_told_b100, R_told_b147, R_told_b120, R_told_b105, R_told_b110, R_told_b115, R_told_b0, e_ci, e_cl, e_cn, e_il, e_ll, e_al, e_is, e_as, e_asn, e_ls, e_ii, e_pop, e_dupi, e_dupr, e_dup2r, e_dup2i, e_b, e_bd, e_lb, e_lbd, e_i2l, e_l2i, e_lcmp, e_ifeq, e_iflt, e_ifge, e_ifgt, e_ifle, e_cmeq, e_cmlt, e_cmge, e_cmgt, e_cmle, e_nulln, e_nullr, e_sw, e_swn, e_swc, e_gi, e_gl, e_gp, e_pi, e_pz, e_pl, e_pp, e_ald, e_zld, e_qld, e_ast, e_zst, e_qst, e_len, e_cs, e_cv, e_cn0, e_obj, e_max, e_min, e_ri, e_rz, e_rq, e_rqn, e_rv, e_rfs, e_rfn, e_mS_uI, e_mZ_uI, e_mT_uI, e_mI_uI, e_mL_uI, e_mP_uI, e_mS_uL, e_mZ_uL, e_mT_uL, e_mI_uL, e_mL_uL, e_mP_uL, e_mS_uP, e_mZ_uP, e_mT_uP, e_mI_uP, e_mL_uP, e_mP_uP, lg, lset, ak_ok1, ak_pop, ak_s4, Option.toList_some, Option.toList_none, List.cons_append, List.nil_append, if_true, ite_true, ite_false, ↓reduceIte, Nat.reduceAdd, Nat.reduceEqDiff, and_true, true_and, and_self, i_00, i_11, i_01, i_10, or_true, true_or, false_or, or_false, mS_mk, mL_mk, mI_mk, mP_11, mP_12, uI_mk, uL_mk, e_sv, shp_153, k2, q_14_0, q_14_1, q_14_2, q_14_3, q_14_4, q_14_5, q_14_6, q_14_7, q_14_8, q_14_9, q_14_10, q_14_11, q_14_12, q_14_13, q_14_14, q_14_15, Nat.reduceLT, and_false, false_and]
    · refine Op.same hE (nI nu) ?_ ?_
      · simp only [x_G_told, G_told_b80, G_told_b88, G_told_b96, G_told_b104, G_told_b112, G_told_b120, G_told_b128, G_told_b136, G_told_b144, G_told_b152, G_told_b160, G_told_b168, G_told_b176, G_told_b184, G_told_b192, G_told_b200, G_told_b208, G_told_b0, e_ci, e_cl, e_cn, e_il, e_ll, e_al, e_is, e_as, e_asn, e_ls, e_ii, e_pop, e_dupi, e_dupr, e_dup2r, e_dup2i, e_b, e_bd, e_lb, e_lbd, e_i2l, e_l2i, e_lcmp, e_ifeq, e_iflt, e_ifge, e_ifgt, e_ifle, e_cmeq, e_cmlt, e_cmge, e_cmgt, e_cmle, e_nulln, e_nullr, e_sw, e_swn, e_swc, e_gi, e_gl, e_gp, e_pi, e_pz, e_pl, e_pp, e_ald, e_zld, e_qld, e_ast, e_zst, e_qst, e_len, e_cs, e_cv, e_cn0, e_obj, e_max, e_min, e_ri, e_rz, e_rq, e_rqn, e_rv, e_rfs, e_rfn, e_mS_uI, e_mZ_uI, e_mT_uI, e_mI_uI, e_mL_uI, e_mP_uI, e_mS_uL, e_mZ_uL, e_mT_uL, e_mI_uL, e_mL_uL, e_mP_uL, e_mS_uP, e_mZ_uP, e_mT_uP, e_mI_uP, e_mL_uP, e_mP_uP, lg, lset, ak_ok1, ak_pop, ak_s4, Option.toList_some, Option.toList_none, List.cons_append, List.nil_append, if_true, ite_true, ite_false, ↓reduceIte, Nat.reduceAdd, Nat.reduceEqDiff, and_true, true_and, and_self, i_00, i_11, i_01, i_10, or_true, true_or, false_or, or_false, mS_mk, mL_mk, mI_mk, mP_11, mP_12, uI_mk, uL_mk, e_sv, shp_1, mP_mk, ptr_1_4, shp_25, u2, q_15_0, q_15_1, q_15_2, q_15_3, q_15_4, q_15_5, q_15_6, q_15_7, q_15_8, q_15_9, q_15_10, q_15_11, q_15_12, q_15_13, q_15_14, q_15_15, Nat.reduceLT, and_false, false_and]
      · simp only [x_R_told, R_told_b80, R_told_b85, R_told_b90, R_told_b95, R_told_b100, R_told_b147, R_told_b120, R_told_b105, R_told_b110, R_told_b115, R_told_b0, e_ci, e_cl, e_cn, e_il, e_ll, e_al, e_is, e_as, e_asn, e_ls, e_ii, e_pop, e_dupi, e_dupr, e_dup2r, e_dup2i, e_b, e_bd, e_lb, e_lbd, e_i2l, e_l2i, e_lcmp, e_ifeq, e_iflt, e_ifge, e_ifgt, e_ifle, e_cmeq, e_cmlt, e_cmge, e_cmgt, e_cmle, e_nulln, e_nullr, e_sw, e_swn, e_swc, e_gi, e_gl, e_gp, e_pi, e_pz, e_pl, e_pp, e_ald, e_zld, e_qld, e_ast, e_zst, e_qst, e_len, e_cs, e_cv, e_cn0, e_obj, e_max, e_min, e_ri, e_rz, e_rq, e_rqn, e_rv, e_rfs, e_rfn, e_mS_uI, e_mZ_uI, e_mT_uI, e_mI_uI, e_mL_uI, e_mP_uI, e_mS_uL, e_mZ_uL, e_mT_uL, e_mI_uL, e_mL_uL, e_mP_uL, e_mS_uP, e_mZ_uP, e_mT_uP, e_mI_uP, e_mL_uP, e_mP_uP, lg, lset, ak_ok1, ak_pop, ak_s4, Option.toList_some, Option.toList_none, List.cons_append, List.nil_append, if_true, ite_true, ite_false, ↓reduceIte, Nat.reduceAdd, Nat.reduceEqDiff, and_true, true_and, and_self, i_00, i_11, i_01, i_10, or_true, true_or, false_or, or_false, mS_mk, mL_mk, mI_mk, mP_11, mP_12, uI_mk, uL_mk, e_sv, shp_153, u3, q_15_0, q_15_1, q_15_2, q_15_3, q_15_4, q_15_5, q_15_6, q_15_7, q_15_8, q_15_9, q_15_10, q_15_11, q_15_12, q_15_13, q_15_14, q_15_15, Nat.reduceLT, and_false, false_and]
  · have q := fun k hk => in_ne (n := 16) (by omega) hx k hk
    have q0 : (x = 0) = False := q 0 (by omega)
    have q1 : (x = 1) = False := q 1 (by omega)
    have q2 : (x = 2) = False := q 2 (by omega)
    have q3 : (x = 3) = False := q 3 (by omega)
    have q4 : (x = 4) = False := q 4 (by omega)
    have q5 : (x = 5) = False := q 5 (by omega)
    have q6 : (x = 6) = False := q 6 (by omega)
    have q7 : (x = 7) = False := q 7 (by omega)
    have q8 : (x = 8) = False := q 8 (by omega)
    have q9 : (x = 9) = False := q 9 (by omega)
    have q10 : (x = 10) = False := q 10 (by omega)
    have q11 : (x = 11) = False := q 11 (by omega)
    have q12 : (x = 12) = False := q 12 (by omega)
    have q13 : (x = 13) = False := q 13 (by omega)
    have q14 : (x = 14) = False := q 14 (by omega)
    have q15 : (x = 15) = False := q 15 (by omega)
    refine Op.same hE (-1000000002) ?_ ?_
    · simp only [x_G_told, G_told_b80, G_told_b88, G_told_b96, G_told_b104, G_told_b112, G_told_b120, G_told_b128, G_told_b136, G_told_b144, G_told_b152, G_told_b160, G_told_b168, G_told_b176, G_told_b184, G_told_b192, G_told_b200, G_told_b208, G_told_b0, e_ci, e_cl, e_cn, e_il, e_ll, e_al, e_is, e_as, e_asn, e_ls, e_ii, e_pop, e_dupi, e_dupr, e_dup2r, e_dup2i, e_b, e_bd, e_lb, e_lbd, e_i2l, e_l2i, e_lcmp, e_ifeq, e_iflt, e_ifge, e_ifgt, e_ifle, e_cmeq, e_cmlt, e_cmge, e_cmgt, e_cmle, e_nulln, e_nullr, e_sw, e_swn, e_swc, e_gi, e_gl, e_gp, e_pi, e_pz, e_pl, e_pp, e_ald, e_zld, e_qld, e_ast, e_zst, e_qst, e_len, e_cs, e_cv, e_cn0, e_obj, e_max, e_min, e_ri, e_rz, e_rq, e_rqn, e_rv, e_rfs, e_rfn, e_mS_uI, e_mZ_uI, e_mT_uI, e_mI_uI, e_mL_uI, e_mP_uI, e_mS_uL, e_mZ_uL, e_mT_uL, e_mI_uL, e_mL_uL, e_mP_uL, e_mS_uP, e_mZ_uP, e_mT_uP, e_mI_uP, e_mL_uP, e_mP_uP, lg, lset, ak_ok1, ak_pop, ak_s4, Option.toList_some, Option.toList_none, List.cons_append, List.nil_append, if_true, ite_true, ite_false, ↓reduceIte, Nat.reduceAdd, Nat.reduceEqDiff, and_true, true_and, and_self, i_00, i_11, i_01, i_10, or_true, true_or, false_or, or_false, mS_mk, mL_mk, mI_mk, mP_11, mP_12, uI_mk, uL_mk, e_sv, q0, q1, q2, q3, q4, q5, q6, q7, q8, q9, q10, q11, q12, q13, q14, q15]
    · simp only [x_R_told, R_told_b80, R_told_b85, R_told_b90, R_told_b95, R_told_b100, R_told_b147, R_told_b120, R_told_b105, R_told_b110, R_told_b115, R_told_b0, e_ci, e_cl, e_cn, e_il, e_ll, e_al, e_is, e_as, e_asn, e_ls, e_ii, e_pop, e_dupi, e_dupr, e_dup2r, e_dup2i, e_b, e_bd, e_lb, e_lbd, e_i2l, e_l2i, e_lcmp, e_ifeq, e_iflt, e_ifge, e_ifgt, e_ifle, e_cmeq, e_cmlt, e_cmge, e_cmgt, e_cmle, e_nulln, e_nullr, e_sw, e_swn, e_swc, e_gi, e_gl, e_gp, e_pi, e_pz, e_pl, e_pp, e_ald, e_zld, e_qld, e_ast, e_zst, e_qst, e_len, e_cs, e_cv, e_cn0, e_obj, e_max, e_min, e_ri, e_rz, e_rq, e_rqn, e_rv, e_rfs, e_rfn, e_mS_uI, e_mZ_uI, e_mT_uI, e_mI_uI, e_mL_uI, e_mP_uI, e_mS_uL, e_mZ_uL, e_mT_uL, e_mI_uL, e_mL_uL, e_mP_uL, e_mS_uP, e_mZ_uP, e_mT_uP, e_mI_uP, e_mL_uP, e_mP_uP, lg, lset, ak_ok1, ak_pop, ak_s4, Option.toList_some, Option.toList_none, List.cons_append, List.nil_append, if_true, ite_true, ite_false, ↓reduceIte, Nat.reduceAdd, Nat.reduceEqDiff, and_true, true_and, and_self, i_00, i_11, i_01, i_10, or_true, true_or, false_or, or_false, mS_mk, mL_mk, mI_mk, mP_11, mP_12, uI_mk, uL_mk, e_sv, R_in_eq, in_512 hx, q0, q1, q2, q3, q4, q5, q6, q7, q8, q9, q10, q11, q12, q13, q14, q15]
end P25
