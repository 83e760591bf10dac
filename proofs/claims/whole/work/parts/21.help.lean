/-! ===== numbers and bits, the small helpers of both classes ===== -/
/-! ===== Int32 by its bits: bt x i ===== -/
def bt (x : Int32) (i : Nat) : Bool := x.toBitVec.getLsbD i
theorem b_ext {x y : Int32} (h : ∀ i, i < 32 → bt x i = bt y i) : x = y := Int32.toBitVec_inj.mp (BitVec.eq_of_getLsbD_eq (fun i hi => h i hi))
theorem b_or (x y : Int32) (i : Nat) : bt (x ||| y) i = (bt x i || bt y i) := by unfold bt; rw [Int32.toBitVec_or, BitVec.getLsbD_or]
theorem b_and (x y : Int32) (i : Nat) : bt (x &&& y) i = (bt x i && bt y i) := by unfold bt; rw [Int32.toBitVec_and, BitVec.getLsbD_and]
theorem b_xor (x y : Int32) (i : Nat) : bt (x ^^^ y) i = (bt x i ^^ bt y i) := by unfold bt; rw [Int32.toBitVec_xor, BitVec.getLsbD_xor]
theorem b_big {x : Int32} {i : Nat} (h : 32 ≤ i) : bt x i = false := BitVec.getLsbD_of_ge _ _ h
theorem b_255 (i : Nat) : bt 255 i = decide (i < 8) := by
  rcases Nat.lt_or_ge i 32 with h | h
  · exact (by decide +kernel : ∀ i, i < 32 → bt 255 i = decide (i < 8)) i h
  · rw [b_big h, decide_eq_false (by omega)]
theorem b_65535 (i : Nat) : bt 65535 i = decide (i < 16) := by
  rcases Nat.lt_or_ge i 32 with h | h
  · exact (by decide +kernel : ∀ i, i < 32 → bt 65535 i = decide (i < 16)) i h
  · rw [b_big h, decide_eq_false (by omega)]
theorem b_m1 : ∀ i, i < 32 → bt (-1) i = true := by decide +kernel
theorem b_0 (i : Nat) : bt 0 i = false := BitVec.getLsbD_zero
theorem s_l : ∀ n, n < 32 → ((nI n &&& 31).toBitVec.smod 32).toNat = n := by decide +kernel
theorem s_u : ∀ n, n < 32 → (((nI n).toUInt32 &&& Int32.toUInt32 31).toBitVec % 32).toNat = n := by decide +kernel
theorem b_shl (n : Nat) (hn : n < 32) (x : Int32) {i : Nat} (hi : i < 32) : bt (x <<< (nI n &&& 31)) i = (decide (n ≤ i) && bt x (i - n)) := by
  unfold bt
  rw [Int32.toBitVec_shiftLeft]
  show (x.toBitVec <<< ((nI n &&& 31).toBitVec.smod 32).toNat).getLsbD i = _
  rw [s_l n hn, BitVec.getLsbD_shiftLeft]
  rcases Nat.lt_or_ge i n with h | h
  · simp [h, Nat.not_le.mpr h]
  · simp [hi, h, Nat.not_lt.mpr h]
theorem b_ushr (n : Nat) (hn : n < 32) (x : Int32) (i : Nat) : bt ((x.toUInt32 >>> ((nI n).toUInt32 &&& Int32.toUInt32 31)).toInt32) i = bt x (n + i) := by
  show (x.toUInt32 >>> ((nI n).toUInt32 &&& Int32.toUInt32 31)).toBitVec.getLsbD i = x.toUInt32.toBitVec.getLsbD (n + i)
  rw [UInt32.toBitVec_shiftRight]
  show (x.toUInt32.toBitVec >>> (((nI n).toUInt32 &&& Int32.toUInt32 31).toBitVec % 32).toNat).getLsbD i = _
  rw [s_u n hn, BitVec.getLsbD_ushiftRight]
theorem b_sshr (n : Nat) (hn : n < 32) (x : Int32) {i : Nat} (hi : i < 32) : bt (x >>> (nI n &&& 31)) i = if n + i < 32 then bt x (n + i) else bt x 31 := by
  unfold bt
  rw [Int32.toBitVec_shiftRight]
  show (x.toBitVec.sshiftRight ((nI n &&& 31).toBitVec.smod 32).toNat).getLsbD i = _
  rw [s_l n hn, BitVec.getLsbD_sshiftRight, BitVec.msb_eq_getLsbD_last]
  simp [hi]
theorem b_shl8 (x : Int32) {i : Nat} (hi : i < 32) : bt (x <<< ((8 : Int32) &&& 31)) i = (decide (8 ≤ i) && bt x (i - 8)) := b_shl 8 (by omega) x hi
theorem b_shl16 (x : Int32) {i : Nat} (hi : i < 32) : bt (x <<< ((16 : Int32) &&& 31)) i = (decide (16 ≤ i) && bt x (i - 16)) := b_shl 16 (by omega) x hi
theorem b_shl24 (x : Int32) {i : Nat} (hi : i < 32) : bt (x <<< ((24 : Int32) &&& 31)) i = (decide (24 ≤ i) && bt x (i - 24)) := b_shl 24 (by omega) x hi
theorem b_sshr8 (x : Int32) {i : Nat} (hi : i < 32) : bt (x >>> ((8 : Int32) &&& 31)) i = if 8 + i < 32 then bt x (8 + i) else bt x 31 := b_sshr 8 (by omega) x hi
/-! sets -/
def sb (s : Int32) (k : Nat) : Int32 := s ||| ((1 : Int32) <<< (nI k &&& 31))
def cb (s : Int32) (k : Nat) : Int32 := s &&& (((1 : Int32) <<< (nI k &&& 31)) ^^^ (-1))
def bI (b : Bool) : Int32 := if b = true then 1 else 0
theorem b_1 : ∀ i, i < 32 → bt 1 i = decide (i = 0) := by decide +kernel
theorem bt_one (k : Nat) (hk : k < 32) {j : Nat} (hj : j < 32) : bt ((1 : Int32) <<< (nI k &&& 31)) j = decide (j = k) := by
  rw [b_shl k hk 1 hj]
  by_cases h : k ≤ j
  · rw [decide_eq_true h, Bool.true_and, b_1 _ (by omega)]
    by_cases h2 : j = k
    · rw [decide_eq_true (by omega), decide_eq_true h2]
    · rw [decide_eq_false (by omega), decide_eq_false h2]
  · rw [decide_eq_false h, Bool.false_and, decide_eq_false (by omega)]
theorem bt_sb (s : Int32) (k : Nat) (hk : k < 32) {j : Nat} (hj : j < 32) : bt (sb s k) j = (bt s j || decide (j = k)) := by
  unfold sb
  rw [b_or, bt_one k hk hj]
theorem bt_cb (s : Int32) (k : Nat) (hk : k < 32) {j : Nat} (hj : j < 32) : bt (cb s k) j = (bt s j && !decide (j = k)) := by
  unfold cb
  rw [b_and, b_xor, bt_one k hk hj, b_m1 j hj, Bool.xor_true]
theorem bt_shr (s : Int32) (k : Nat) (hk : k < 32) : (s >>> (nI k &&& 31)) &&& 1 = bI (bt s k) := by
  apply b_ext
  intro i hi
  rw [b_and, b_sshr k hk s hi, b_1 i hi]
  unfold bI
  by_cases h0 : i = 0
  · subst h0
    rw [Nat.add_zero, if_pos hk]
    cases bt s k <;> rfl
  · rw [decide_eq_false h0, Bool.and_false]
    cases bt s k
    · rw [if_neg (by decide), b_0]
    · rw [if_pos rfl, b_1 i hi, decide_eq_false h0]
theorem bI_01 (b : Bool) : bI b = 0 ∨ bI b = 1 := by cases b <;> decide
theorem bI_eq0 (b : Bool) : bI b = 0 ↔ b = false := by cases b <;> decide
theorem bI_ne0 (b : Bool) : ¬ bI b = 0 ↔ b = true := by cases b <;> decide
theorem bI_eq1 (b : Bool) : bI b = 1 ↔ b = true := by cases b <;> decide
theorem ne0_bt {x : Int32} : x ≠ 0 ↔ ∃ i, i < 32 ∧ bt x i = true := by
  constructor
  · intro h
    rcases Classical.em (∃ i, i < 32 ∧ bt x i = true) with h2 | h2
    · exact h2
    · exfalso
      apply h
      apply b_ext
      intro i hi
      rw [b_0]
      cases hb : bt x i with
      | false => rfl
      | true => exact absurd ⟨i, hi, hb⟩ h2
  · rintro ⟨i, hi, hb⟩ h
    rw [h, b_0] at hb
    cases hb
/-- x is one of 0 .. n less 1 -/
def inN (x : Int32) (n : Nat) : Prop := 0 ≤ x ∧ x < nI n
theorem inN_of {x : Int32} {n : Nat} (hn : n < 2 ^ 31) (h : inN x n) : ∃ k, k < n ∧ x = nI k := by
  obtain ⟨h1, h2⟩ := h
  obtain ⟨j, hj, rfl⟩ := nI_of (x := x) (fun q => by rw [Int32.lt_iff_toInt_lt, Int32.toInt_zero] at q; rw [Int32.le_iff_toInt_le, Int32.toInt_zero] at h1; omega)
  exact ⟨j, (nI_ltI hj hn).mp h2, rfl⟩
theorem inN_nI {k n : Nat} (hk : k < 2 ^ 31) (hn : n < 2 ^ 31) : inN (nI k) n ↔ k < n :=
  ⟨fun h => (nI_ltI hk hn).mp h.2, fun h => ⟨nI_pos' hk, nI_lt h hn⟩⟩
theorem not_lt0 {x : Int32} : ¬ x < 0 ↔ 0 ≤ x := by
  rw [Int32.lt_iff_toInt_lt, Int32.le_iff_toInt_le, Int32.toInt_zero]; omega
theorem not_le' {x y : Int32} : ¬ y ≤ x ↔ x < y := by
  rw [Int32.lt_iff_toInt_lt, Int32.le_iff_toInt_le]; omega
theorem not_lt' {x y : Int32} : ¬ x < y ↔ y ≤ x := by
  rw [Int32.lt_iff_toInt_lt, Int32.le_iff_toInt_le]; omega
/-! ===== the class's helpers ===== -/
section HP
variable {M : ak_M}
theorem G_at_in {a n k : Nat} (h : mS M a = (1, n)) (hk : k < n) (hn : n < 2 ^ 31) : G_at [.ref a, .int (nI k)] M = some (some (.int (mI M a k)), M) := by
  have h1 : ¬ nI k < 0 := nI_pos (by omega)
  have h2 : ¬ Int32.ofNat n ≤ nI k := nI_ge hk hn
  have h3 : 0 ≤ nI k := nI_pos' (by omega)
  have h4 : (nI k).toNatClampNeg = k := nI_clamp (by omega)
  simp only [x_G_at, G_at_b17, G_at_b16, G_at_b0, e_ci, e_cl, e_cn, e_il, e_ll, e_al, e_is, e_as, e_asn, e_ls, e_ii, e_pop, e_dupi, e_dupr, e_dup2r, e_dup2i, e_b, e_bd, e_lb, e_lbd, e_i2l, e_l2i, e_lcmp, e_ifeq, e_iflt, e_ifge, e_ifgt, e_ifle, e_cmeq, e_cmlt, e_cmge, e_cmgt, e_cmle, e_nulln, e_nullr, e_sw, e_swn, e_swc, e_gi, e_gl, e_gp, e_pi, e_pz, e_pl, e_pp, e_ald, e_zld, e_qld, e_ast, e_zst, e_qst, e_len, e_cs, e_cv, e_cn0, e_obj, e_max, e_min, e_ri, e_rz, e_rq, e_rqn, e_rv, e_rfs, e_rfn, e_mS_uI, e_mZ_uI, e_mT_uI, e_mI_uI, e_mL_uI, e_mP_uI, e_mS_uL, e_mZ_uL, e_mT_uL, e_mI_uL, e_mL_uL, e_mP_uL, e_mS_uP, e_mZ_uP, e_mT_uP, e_mI_uP, e_mL_uP, e_mP_uP, lg, lset, ak_ok1, ak_pop, ak_s4, Option.toList_some, Option.toList_none, List.cons_append, List.nil_append, if_true, ite_true, ite_false, ↓reduceIte, Nat.reduceAdd, Nat.reduceEqDiff, and_true, true_and, and_self, i_00, i_11, i_01, i_10, or_true, true_or, false_or, or_false, mS_mk, mL_mk, mI_mk, mP_11, mP_12, uI_mk, uL_mk, h, h1, h2, h3, h4, hk]
theorem G_put_in {a n k : Nat} {x : Int32} (h : mS M a = (1, n)) (hk : k < n) (hn : n < 2 ^ 31) : G_put [.ref a, .int (nI k), .int x] M = some (none, uI M a k x) := by
  have h1 : ¬ nI k < 0 := nI_pos (by omega)
  have h2 : ¬ Int32.ofNat n ≤ nI k := nI_ge hk hn
  have h3 : 0 ≤ nI k := nI_pos' (by omega)
  have h4 : (nI k).toNatClampNeg = k := nI_clamp (by omega)
  simp only [x_G_put, G_put_b14, G_put_b0, e_ci, e_cl, e_cn, e_il, e_ll, e_al, e_is, e_as, e_asn, e_ls, e_ii, e_pop, e_dupi, e_dupr, e_dup2r, e_dup2i, e_b, e_bd, e_lb, e_lbd, e_i2l, e_l2i, e_lcmp, e_ifeq, e_iflt, e_ifge, e_ifgt, e_ifle, e_cmeq, e_cmlt, e_cmge, e_cmgt, e_cmle, e_nulln, e_nullr, e_sw, e_swn, e_swc, e_gi, e_gl, e_gp, e_pi, e_pz, e_pl, e_pp, e_ald, e_zld, e_qld, e_ast, e_zst, e_qst, e_len, e_cs, e_cv, e_cn0, e_obj, e_max, e_min, e_ri, e_rz, e_rq, e_rqn, e_rv, e_rfs, e_rfn, e_mS_uI, e_mZ_uI, e_mT_uI, e_mI_uI, e_mL_uI, e_mP_uI, e_mS_uL, e_mZ_uL, e_mT_uL, e_mI_uL, e_mL_uL, e_mP_uL, e_mS_uP, e_mZ_uP, e_mT_uP, e_mI_uP, e_mL_uP, e_mP_uP, lg, lset, ak_ok1, ak_pop, ak_s4, Option.toList_some, Option.toList_none, List.cons_append, List.nil_append, if_true, ite_true, ite_false, ↓reduceIte, Nat.reduceAdd, Nat.reduceEqDiff, and_true, true_and, and_self, i_00, i_11, i_01, i_10, or_true, true_or, false_or, or_false, mS_mk, mL_mk, mI_mk, mP_11, mP_12, uI_mk, uL_mk, h, h1, h2, h3, h4, hk]
theorem G_has_in {s : Int32} {k : Nat} (hk : k < 31) : G_has [.int s, .int (nI k)] M = some (some (.int (bI (bt s k))), M) := by
  have h1 : ¬ nI k < 0 := nI_pos (by omega)
  have h2 : ¬ 31 ≤ nI k := nI_ge (b := 31) hk (by omega)
  simp only [x_G_has, G_has_b23, G_has_b22, G_has_b0, e_ci, e_cl, e_cn, e_il, e_ll, e_al, e_is, e_as, e_asn, e_ls, e_ii, e_pop, e_dupi, e_dupr, e_dup2r, e_dup2i, e_b, e_bd, e_lb, e_lbd, e_i2l, e_l2i, e_lcmp, e_ifeq, e_iflt, e_ifge, e_ifgt, e_ifle, e_cmeq, e_cmlt, e_cmge, e_cmgt, e_cmle, e_nulln, e_nullr, e_sw, e_swn, e_swc, e_gi, e_gl, e_gp, e_pi, e_pz, e_pl, e_pp, e_ald, e_zld, e_qld, e_ast, e_zst, e_qst, e_len, e_cs, e_cv, e_cn0, e_obj, e_max, e_min, e_ri, e_rz, e_rq, e_rqn, e_rv, e_rfs, e_rfn, e_mS_uI, e_mZ_uI, e_mT_uI, e_mI_uI, e_mL_uI, e_mP_uI, e_mS_uL, e_mZ_uL, e_mT_uL, e_mI_uL, e_mL_uL, e_mP_uL, e_mS_uP, e_mZ_uP, e_mT_uP, e_mI_uP, e_mL_uP, e_mP_uP, lg, lset, ak_ok1, ak_pop, ak_s4, Option.toList_some, Option.toList_none, List.cons_append, List.nil_append, if_true, ite_true, ite_false, ↓reduceIte, Nat.reduceAdd, Nat.reduceEqDiff, and_true, true_and, and_self, i_00, i_11, i_01, i_10, or_true, true_or, false_or, or_false, mS_mk, mL_mk, mI_mk, mP_11, mP_12, uI_mk, uL_mk, h1, h2, bt_shr s k (by omega)]
  cases bt s k <;> rfl
theorem G_with_t {s : Int32} {k : Nat} (hk : k < 31) : G_with [.int s, .int (nI k), .int 1] M = some (some (.int (sb s k)), M) := by
  have h1 : ¬ nI k < 0 := nI_pos (by omega)
  have h2 : nI k < 31 := nI_lt (b := 31) hk (by omega)
  simp only [x_G_with, G_with_b10, G_with_b31, G_with_b0, e_ci, e_cl, e_cn, e_il, e_ll, e_al, e_is, e_as, e_asn, e_ls, e_ii, e_pop, e_dupi, e_dupr, e_dup2r, e_dup2i, e_b, e_bd, e_lb, e_lbd, e_i2l, e_l2i, e_lcmp, e_ifeq, e_iflt, e_ifge, e_ifgt, e_ifle, e_cmeq, e_cmlt, e_cmge, e_cmgt, e_cmle, e_nulln, e_nullr, e_sw, e_swn, e_swc, e_gi, e_gl, e_gp, e_pi, e_pz, e_pl, e_pp, e_ald, e_zld, e_qld, e_ast, e_zst, e_qst, e_len, e_cs, e_cv, e_cn0, e_obj, e_max, e_min, e_ri, e_rz, e_rq, e_rqn, e_rv, e_rfs, e_rfn, e_mS_uI, e_mZ_uI, e_mT_uI, e_mI_uI, e_mL_uI, e_mP_uI, e_mS_uL, e_mZ_uL, e_mT_uL, e_mI_uL, e_mL_uL, e_mP_uL, e_mS_uP, e_mZ_uP, e_mT_uP, e_mI_uP, e_mL_uP, e_mP_uP, lg, lset, ak_ok1, ak_pop, ak_s4, Option.toList_some, Option.toList_none, List.cons_append, List.nil_append, if_true, ite_true, ite_false, ↓reduceIte, Nat.reduceAdd, Nat.reduceEqDiff, and_true, true_and, and_self, i_00, i_11, i_01, i_10, or_true, true_or, false_or, or_false, mS_mk, mL_mk, mI_mk, mP_11, mP_12, uI_mk, uL_mk, h1, h2]
  rfl
theorem G_with_x {s b : Int32} {k : Nat} (hk : k < 31) : G_with [.int s, .int (nI k), .int b] M = some (some (.int (if b = 0 then cb s k else sb s k)), M) := by
  have h1 : ¬ nI k < 0 := nI_pos (by omega)
  have h2 : nI k < 31 := nI_lt (b := 31) hk (by omega)
  simp only [x_G_with, G_with_b10, G_with_b31, G_with_b0, e_ci, e_cl, e_cn, e_il, e_ll, e_al, e_is, e_as, e_asn, e_ls, e_ii, e_pop, e_dupi, e_dupr, e_dup2r, e_dup2i, e_b, e_bd, e_lb, e_lbd, e_i2l, e_l2i, e_lcmp, e_ifeq, e_iflt, e_ifge, e_ifgt, e_ifle, e_cmeq, e_cmlt, e_cmge, e_cmgt, e_cmle, e_nulln, e_nullr, e_sw, e_swn, e_swc, e_gi, e_gl, e_gp, e_pi, e_pz, e_pl, e_pp, e_ald, e_zld, e_qld, e_ast, e_zst, e_qst, e_len, e_cs, e_cv, e_cn0, e_obj, e_max, e_min, e_ri, e_rz, e_rq, e_rqn, e_rv, e_rfs, e_rfn, e_mS_uI, e_mZ_uI, e_mT_uI, e_mI_uI, e_mL_uI, e_mP_uI, e_mS_uL, e_mZ_uL, e_mT_uL, e_mI_uL, e_mL_uL, e_mP_uL, e_mS_uP, e_mZ_uP, e_mT_uP, e_mI_uP, e_mL_uP, e_mP_uP, lg, lset, ak_ok1, ak_pop, ak_s4, Option.toList_some, Option.toList_none, List.cons_append, List.nil_append, if_true, ite_true, ite_false, ↓reduceIte, Nat.reduceAdd, Nat.reduceEqDiff, and_true, true_and, and_self, i_00, i_11, i_01, i_10, or_true, true_or, false_or, or_false, mS_mk, mL_mk, mI_mk, mP_11, mP_12, uI_mk, uL_mk, h1, h2]
  by_cases hb : b = 0
  · rw [if_pos hb, if_pos hb]; rfl
  · rw [if_neg hb, if_neg hb]; rfl
theorem G_isName_eq {x : Int32} : G_isName [.int x] M = some (some (.int (if 0 ≤ x ∧ x < 10 then 1 else 0)), M) := by
  simp only [x_G_isName, G_isName_b15, G_isName_b14, G_isName_b0, e_ci, e_cl, e_cn, e_il, e_ll, e_al, e_is, e_as, e_asn, e_ls, e_ii, e_pop, e_dupi, e_dupr, e_dup2r, e_dup2i, e_b, e_bd, e_lb, e_lbd, e_i2l, e_l2i, e_lcmp, e_ifeq, e_iflt, e_ifge, e_ifgt, e_ifle, e_cmeq, e_cmlt, e_cmge, e_cmgt, e_cmle, e_nulln, e_nullr, e_sw, e_swn, e_swc, e_gi, e_gl, e_gp, e_pi, e_pz, e_pl, e_pp, e_ald, e_zld, e_qld, e_ast, e_zst, e_qst, e_len, e_cs, e_cv, e_cn0, e_obj, e_max, e_min, e_ri, e_rz, e_rq, e_rqn, e_rv, e_rfs, e_rfn, e_mS_uI, e_mZ_uI, e_mT_uI, e_mI_uI, e_mL_uI, e_mP_uI, e_mS_uL, e_mZ_uL, e_mT_uL, e_mI_uL, e_mL_uL, e_mP_uL, e_mS_uP, e_mZ_uP, e_mT_uP, e_mI_uP, e_mL_uP, e_mP_uP, lg, lset, ak_ok1, ak_pop, ak_s4, Option.toList_some, Option.toList_none, List.cons_append, List.nil_append, if_true, ite_true, ite_false, ↓reduceIte, Nat.reduceAdd, Nat.reduceEqDiff, and_true, true_and, and_self, i_00, i_11, i_01, i_10, or_true, true_or, false_or, or_false, mS_mk, mL_mk, mI_mk, mP_11, mP_12, uI_mk, uL_mk]
  by_cases h1 : x < 0
  · rw [if_pos h1, if_neg (fun h => not_lt0.mpr h.1 h1)]
  · rw [if_neg h1]
    by_cases h2 : 10 ≤ x
    · rw [if_pos h2, if_neg (fun h => not_lt'.mpr h2 h.2)]
    · rw [if_neg h2, if_pos ⟨not_lt0.mp h1, not_le'.mp h2⟩]
theorem R_has_in {s : Int32} {k : Nat} (hk : k < 32) : R_has [.int s, .int (nI k)] M = some (some (.int (bI (bt s k))), M) := by
  simp only [x_R_has, R_has_b14, R_has_b0, e_ci, e_cl, e_cn, e_il, e_ll, e_al, e_is, e_as, e_asn, e_ls, e_ii, e_pop, e_dupi, e_dupr, e_dup2r, e_dup2i, e_b, e_bd, e_lb, e_lbd, e_i2l, e_l2i, e_lcmp, e_ifeq, e_iflt, e_ifge, e_ifgt, e_ifle, e_cmeq, e_cmlt, e_cmge, e_cmgt, e_cmle, e_nulln, e_nullr, e_sw, e_swn, e_swc, e_gi, e_gl, e_gp, e_pi, e_pz, e_pl, e_pp, e_ald, e_zld, e_qld, e_ast, e_zst, e_qst, e_len, e_cs, e_cv, e_cn0, e_obj, e_max, e_min, e_ri, e_rz, e_rq, e_rqn, e_rv, e_rfs, e_rfn, e_mS_uI, e_mZ_uI, e_mT_uI, e_mI_uI, e_mL_uI, e_mP_uI, e_mS_uL, e_mZ_uL, e_mT_uL, e_mI_uL, e_mL_uL, e_mP_uL, e_mS_uP, e_mZ_uP, e_mT_uP, e_mI_uP, e_mL_uP, e_mP_uP, lg, lset, ak_ok1, ak_pop, ak_s4, Option.toList_some, Option.toList_none, List.cons_append, List.nil_append, if_true, ite_true, ite_false, ↓reduceIte, Nat.reduceAdd, Nat.reduceEqDiff, and_true, true_and, and_self, i_00, i_11, i_01, i_10, or_true, true_or, false_or, or_false, mS_mk, mL_mk, mI_mk, mP_11, mP_12, uI_mk, uL_mk, bt_shr s k (by omega)]
  cases bt s k <;> rfl
theorem R_in_eq {a b c : Int64} : R_in [.long a, .long b, .long c] M = some (some (.int (if b ≤ a ∧ a ≤ c then 1 else 0)), M) := by
  simp only [x_R_in, R_in_b18, R_in_b17, R_in_b0, e_ci, e_cl, e_cn, e_il, e_ll, e_al, e_is, e_as, e_asn, e_ls, e_ii, e_pop, e_dupi, e_dupr, e_dup2r, e_dup2i, e_b, e_bd, e_lb, e_lbd, e_i2l, e_l2i, e_lcmp, e_ifeq, e_iflt, e_ifge, e_ifgt, e_ifle, e_cmeq, e_cmlt, e_cmge, e_cmgt, e_cmle, e_nulln, e_nullr, e_sw, e_swn, e_swc, e_gi, e_gl, e_gp, e_pi, e_pz, e_pl, e_pp, e_ald, e_zld, e_qld, e_ast, e_zst, e_qst, e_len, e_cs, e_cv, e_cn0, e_obj, e_max, e_min, e_ri, e_rz, e_rq, e_rqn, e_rv, e_rfs, e_rfn, e_mS_uI, e_mZ_uI, e_mT_uI, e_mI_uI, e_mL_uI, e_mP_uI, e_mS_uL, e_mZ_uL, e_mT_uL, e_mI_uL, e_mL_uL, e_mP_uL, e_mS_uP, e_mZ_uP, e_mT_uP, e_mI_uP, e_mL_uP, e_mP_uP, lg, lset, ak_ok1, ak_pop, ak_s4, Option.toList_some, Option.toList_none, List.cons_append, List.nil_append, if_true, ite_true, ite_false, ↓reduceIte, Nat.reduceAdd, Nat.reduceEqDiff, and_true, true_and, and_self, i_00, i_11, i_01, i_10, or_true, true_or, false_or, or_false, mS_mk, mL_mk, mI_mk, mP_11, mP_12, uI_mk, uL_mk]
  have h1 : lg_cmp a b < 0 ↔ ¬ b ≤ a := by rw [← lg_cmp_ge, not_le']
  have h2 : 0 < lg_cmp a c ↔ ¬ a ≤ c := by rw [← lg_cmp_le, not_le']
  by_cases q1 : b ≤ a
  · rw [if_neg (fun h => h1.mp h q1)]
    by_cases q2 : a ≤ c
    · rw [if_neg (fun h => h2.mp h q2), if_pos ⟨q1, q2⟩]
    · rw [if_pos (h2.mpr q2), if_neg (fun h => q2 h.2)]
  · rw [if_pos (h1.mpr q1), if_neg (fun h => q1 h.1)]
theorem l_le {x y : Int32} : x.toInt64 ≤ y.toInt64 ↔ x ≤ y := by
  rw [Int64.le_iff_toInt_le, Int32.le_iff_toInt_le, Int32.toInt_toInt64, Int32.toInt_toInt64]
/-- 'in(x, 0, n less 1)' -/
theorem in_n {x : Int32} {n : Nat} (hn : n < 2 ^ 30) : ((0 : Int64) ≤ x.toInt64 ∧ x.toInt64 ≤ (nI n - 1).toInt64) ↔ inN x n := by
  rw [show (0 : Int64) = (0 : Int32).toInt64 from rfl, l_le, l_le]
  unfold inN
  have h1 : (nI n - 1).toInt = (n : Int) - 1 := pk_sub_toInt (a := n) (b := 1) hn (by omega)
  rw [Int32.le_iff_toInt_le, Int32.le_iff_toInt_le, Int32.lt_iff_toInt_lt, h1, nI_toInt (by omega), Int32.toInt_zero]
  omega
theorem in_n9 {x : Int32} : ((0 : Int64) ≤ x.toInt64 ∧ x.toInt64 ≤ (9 : Int64)) ↔ inN x 10 := in_n (n := 10) (by omega)
/-! rows filled and copied -/
def cpI (M : ak_M) (a b n : Nat) : ak_M := (fun q k => if q = b ∧ k < n then mI M a k else mI M q k, M.2)
def flI (M : ak_M) (a n : Nat) (x : Int32) : ak_M := (fun q k => if q = a ∧ k < n then x else mI M q k, M.2)
theorem cpI_0 {a b : Nat} : cpI M a b 0 = M := by
  refine Prod.ext ?_ rfl
  funext q k
  show (if q = b ∧ k < 0 then _ else _) = _
  rw [if_neg (by omega)]
  rfl
theorem flI_0 {a : Nat} {x : Int32} : flI M a 0 x = M := by
  refine Prod.ext ?_ rfl
  funext q k
  show (if q = a ∧ k < 0 then _ else _) = _
  rw [if_neg (by omega)]
  rfl
theorem cpI_s {a b n : Nat} (h : a ≠ b) : uI (cpI M a b n) b n (mI (cpI M a b n) a n) = cpI M a b (n + 1) := by
  refine Prod.ext ?_ rfl
  funext q k
  show (if q = b ∧ k = n then (if a = b ∧ n < n then mI M a n else mI M a n) else if q = b ∧ k < n then mI M a k else mI M q k) = if q = b ∧ k < n + 1 then mI M a k else mI M q k
  by_cases hq : q = b
  · by_cases hk : k = n
    · rw [if_pos ⟨hq, hk⟩, if_neg (fun h2 => h h2.1), if_pos ⟨hq, by omega⟩, hk]
    · rw [if_neg (fun h => hk h.2)]
      by_cases hk2 : k < n
      · rw [if_pos ⟨hq, hk2⟩, if_pos ⟨hq, by omega⟩]
      · rw [if_neg (fun h => hk2 h.2), if_neg (fun h => by omega)]
  · rw [if_neg (fun h => hq h.1), if_neg (fun h => hq h.1), if_neg (fun h => hq h.1)]
theorem flI_s {a n : Nat} {x : Int32} : uI (flI M a n x) a n x = flI M a (n + 1) x := by
  refine Prod.ext ?_ rfl
  funext q k
  show (if q = a ∧ k = n then x else if q = a ∧ k < n then x else mI M q k) = if q = a ∧ k < n + 1 then x else mI M q k
  by_cases hq : q = a
  · by_cases hk : k = n
    · rw [if_pos ⟨hq, hk⟩, if_pos ⟨hq, by omega⟩]
    · rw [if_neg (fun h => hk h.2)]
      by_cases hk2 : k < n
      · rw [if_pos ⟨hq, hk2⟩, if_pos ⟨hq, by omega⟩]
      · rw [if_neg (fun h => hk2 h.2), if_neg (fun h => by omega)]
  · rw [if_neg (fun h => hq h.1), if_neg (fun h => hq h.1), if_neg (fun h => hq h.1)]
theorem mS_cpI {a b n : Nat} : mS (cpI M a b n) = mS M := rfl
theorem mS_flI {a n : Nat} {x : Int32} : mS (flI M a n x) = mS M := rfl
theorem G_fill_loop {a n : Nat} {x : Int32} (h : mS M a = (1, n)) (hn : n < 900) : ∀ (d i f : Nat), i + d = n → d < f →
    G_fill_l2 f [some (.ref a), some (.int x), some (.int (nI i))] [] (flI M a i x) = some (none, flI M a n x)
  | d, i, 0, h1, h2 => absurd h2 (by omega)
  | d, i, f + 1, h1, h2 => by
    show G_fill_b2 (G_fill_l2 f) _ _ _ = _
    have h3 : 0 ≤ nI i := nI_pos' (by omega)
    have h4 : (nI i).toNatClampNeg = i := nI_clamp (by omega)
    simp only [G_fill_b2, e_ci, e_cl, e_cn, e_il, e_ll, e_al, e_is, e_as, e_asn, e_ls, e_ii, e_pop, e_dupi, e_dupr, e_dup2r, e_dup2i, e_b, e_bd, e_lb, e_lbd, e_i2l, e_l2i, e_lcmp, e_ifeq, e_iflt, e_ifge, e_ifgt, e_ifle, e_cmeq, e_cmlt, e_cmge, e_cmgt, e_cmle, e_nulln, e_nullr, e_sw, e_swn, e_swc, e_gi, e_gl, e_gp, e_pi, e_pz, e_pl, e_pp, e_ald, e_zld, e_qld, e_ast, e_zst, e_qst, e_len, e_cs, e_cv, e_cn0, e_obj, e_max, e_min, e_ri, e_rz, e_rq, e_rqn, e_rv, e_rfs, e_rfn, e_mS_uI, e_mZ_uI, e_mT_uI, e_mI_uI, e_mL_uI, e_mP_uI, e_mS_uL, e_mZ_uL, e_mT_uL, e_mI_uL, e_mL_uL, e_mP_uL, e_mS_uP, e_mZ_uP, e_mT_uP, e_mI_uP, e_mL_uP, e_mP_uP, lg, lset, ak_ok1, ak_pop, ak_s4, Option.toList_some, Option.toList_none, List.cons_append, List.nil_append, if_true, ite_true, ite_false, ↓reduceIte, Nat.reduceAdd, Nat.reduceEqDiff, and_true, true_and, and_self, i_00, i_11, i_01, i_10, or_true, true_or, false_or, or_false, mS_mk, mL_mk, mI_mk, mP_11, mP_12, uI_mk, uL_mk, mS_flI, h]
    by_cases hi : i < n
    · rw [if_neg (show ¬ Int32.ofNat n ≤ nI i from nI_ge hi (by omega))]
      rw [if_pos ⟨h3, by rw [h4]; exact hi⟩, h4, flI_s, nI_1]
      exact G_fill_loop h hn (d - 1) (i + 1) f (by omega) (by omega)
    · rw [if_pos (show Int32.ofNat n ≤ nI i from nI_le (by omega) (by omega))]
      rw [show i = n by omega]
theorem G_fill_eq {a n : Nat} {x : Int32} (h : mS M a = (1, n)) (hn : n < 900) : G_fill [.ref a, .int x] M = some (none, flI M a n x) := by
  have := G_fill_loop (x := x) h hn n 0 ak_fuel (by omega) (by rw [ak_fuel_eq]; omega)
  rw [flI_0] at this
  simp only [x_G_fill, G_fill_b2, G_fill_b0, e_ci, e_cl, e_cn, e_il, e_ll, e_al, e_is, e_as, e_asn, e_ls, e_ii, e_pop, e_dupi, e_dupr, e_dup2r, e_dup2i, e_b, e_bd, e_lb, e_lbd, e_i2l, e_l2i, e_lcmp, e_ifeq, e_iflt, e_ifge, e_ifgt, e_ifle, e_cmeq, e_cmlt, e_cmge, e_cmgt, e_cmle, e_nulln, e_nullr, e_sw, e_swn, e_swc, e_gi, e_gl, e_gp, e_pi, e_pz, e_pl, e_pp, e_ald, e_zld, e_qld, e_ast, e_zst, e_qst, e_len, e_cs, e_cv, e_cn0, e_obj, e_max, e_min, e_ri, e_rz, e_rq, e_rqn, e_rv, e_rfs, e_rfn, e_mS_uI, e_mZ_uI, e_mT_uI, e_mI_uI, e_mL_uI, e_mP_uI, e_mS_uL, e_mZ_uL, e_mT_uL, e_mI_uL, e_mL_uL, e_mP_uL, e_mS_uP, e_mZ_uP, e_mT_uP, e_mI_uP, e_mL_uP, e_mP_uP, lg, lset, ak_ok1, ak_pop, ak_s4, Option.toList_some, Option.toList_none, List.cons_append, List.nil_append, if_true, ite_true, ite_false, ↓reduceIte, Nat.reduceAdd, Nat.reduceEqDiff, and_true, true_and, and_self, i_00, i_11, i_01, i_10, or_true, true_or, false_or, or_false, mS_mk, mL_mk, mI_mk, mP_11, mP_12, uI_mk, uL_mk]
  exact this
theorem G_copy_loop {a b n1 n2 n : Nat} (ha : mS M a = (1, n1)) (hb : mS M b = (1, n2)) (hab : a ≠ b) (hn : n = min n1 n2) (hn1 : n1 < 900) (hn2 : n2 < 900) : ∀ (d i f : Nat), i + d = n → d < f →
    G_copy_l2 f [some (.ref a), some (.ref b), some (.int (nI i))] [] (cpI M a b i) = some (none, cpI M a b n)
  | d, i, 0, h1, h2 => absurd h2 (by omega)
  | d, i, f + 1, h1, h2 => by
    show G_copy_b2 (G_copy_l2 f) _ _ _ = _
    have h3 : 0 ≤ nI i := nI_pos' (by omega)
    have h4 : (nI i).toNatClampNeg = i := nI_clamp (by omega)
    simp only [x_G_copy, G_copy_b26, G_copy_b2, G_copy_b0, e_ci, e_cl, e_cn, e_il, e_ll, e_al, e_is, e_as, e_asn, e_ls, e_ii, e_pop, e_dupi, e_dupr, e_dup2r, e_dup2i, e_b, e_bd, e_lb, e_lbd, e_i2l, e_l2i, e_lcmp, e_ifeq, e_iflt, e_ifge, e_ifgt, e_ifle, e_cmeq, e_cmlt, e_cmge, e_cmgt, e_cmle, e_nulln, e_nullr, e_sw, e_swn, e_swc, e_gi, e_gl, e_gp, e_pi, e_pz, e_pl, e_pp, e_ald, e_zld, e_qld, e_ast, e_zst, e_qst, e_len, e_cs, e_cv, e_cn0, e_obj, e_max, e_min, e_ri, e_rz, e_rq, e_rqn, e_rv, e_rfs, e_rfn, e_mS_uI, e_mZ_uI, e_mT_uI, e_mI_uI, e_mL_uI, e_mP_uI, e_mS_uL, e_mZ_uL, e_mT_uL, e_mI_uL, e_mL_uL, e_mP_uL, e_mS_uP, e_mZ_uP, e_mT_uP, e_mI_uP, e_mL_uP, e_mP_uP, lg, lset, ak_ok1, ak_pop, ak_s4, Option.toList_some, Option.toList_none, List.cons_append, List.nil_append, if_true, ite_true, ite_false, ↓reduceIte, Nat.reduceAdd, Nat.reduceEqDiff, and_true, true_and, and_self, i_00, i_11, i_01, i_10, or_true, true_or, false_or, or_false, mS_mk, mL_mk, mI_mk, mP_11, mP_12, uI_mk, uL_mk, mS_cpI, ha, hb]
    by_cases hi : i < n
    · rw [if_neg (show ¬ Int32.ofNat n1 ≤ nI i from nI_ge (by omega) (by omega)), if_neg (show ¬ Int32.ofNat n2 ≤ nI i from nI_ge (by omega) (by omega))]
      rw [if_pos ⟨h3, by rw [h4]; omega⟩, h4, if_pos ⟨h3, by omega⟩, cpI_s hab, nI_1]
      exact G_copy_loop ha hb hab hn hn1 hn2 (d - 1) (i + 1) f (by omega) (by omega)
    · have hi2 : i = n := by omega
      by_cases hc : n1 ≤ i
      · rw [if_pos (show Int32.ofNat n1 ≤ nI i from nI_le hc (by omega)), hi2]
      · rw [if_neg (show ¬ Int32.ofNat n1 ≤ nI i from nI_ge (by omega) (by omega)), if_pos (show Int32.ofNat n2 ≤ nI i from nI_le (by omega) (by omega)), hi2]
theorem G_copy_eq {a b n1 n2 n : Nat} (ha : mS M a = (1, n1)) (hb : mS M b = (1, n2)) (hab : a ≠ b) (hn : n = min n1 n2) (hn1 : n1 < 900) (hn2 : n2 < 900) : G_copy [.ref a, .ref b] M = some (none, cpI M a b n) := by
  have := G_copy_loop ha hb hab hn hn1 hn2 n 0 ak_fuel (by omega) (by rw [ak_fuel_eq]; omega)
  rw [cpI_0] at this
  simp only [x_G_copy, G_copy_b26, G_copy_b2, G_copy_b0, e_ci, e_cl, e_cn, e_il, e_ll, e_al, e_is, e_as, e_asn, e_ls, e_ii, e_pop, e_dupi, e_dupr, e_dup2r, e_dup2i, e_b, e_bd, e_lb, e_lbd, e_i2l, e_l2i, e_lcmp, e_ifeq, e_iflt, e_ifge, e_ifgt, e_ifle, e_cmeq, e_cmlt, e_cmge, e_cmgt, e_cmle, e_nulln, e_nullr, e_sw, e_swn, e_swc, e_gi, e_gl, e_gp, e_pi, e_pz, e_pl, e_pp, e_ald, e_zld, e_qld, e_ast, e_zst, e_qst, e_len, e_cs, e_cv, e_cn0, e_obj, e_max, e_min, e_ri, e_rz, e_rq, e_rqn, e_rv, e_rfs, e_rfn, e_mS_uI, e_mZ_uI, e_mT_uI, e_mI_uI, e_mL_uI, e_mP_uI, e_mS_uL, e_mZ_uL, e_mT_uL, e_mI_uL, e_mL_uL, e_mP_uL, e_mS_uP, e_mZ_uP, e_mT_uP, e_mI_uP, e_mL_uP, e_mP_uP, lg, lset, ak_ok1, ak_pop, ak_s4, Option.toList_some, Option.toList_none, List.cons_append, List.nil_append, if_true, ite_true, ite_false, ↓reduceIte, Nat.reduceAdd, Nat.reduceEqDiff, and_true, true_and, and_self, i_00, i_11, i_01, i_10, or_true, true_or, false_or, or_false, mS_mk, mL_mk, mI_mk, mP_11, mP_12, uI_mk, uL_mk]
  exact this
end HP
