/-! ===== states kept: become, push, pop; the reference's copy, minds ===== -/
def isSt (a : Nat) : Prop := a = 20 ∨ (∃ i, i < 20 ∧ a = 27 + 5 * i) ∨ a = 128 ∨ a = 134
theorem st_ring : ∀ i, i < 20 → shp (27 + 5 * i) = (18, 12) ∧ ptr0 (27 + 5 * i) 8 = some (27 + 5 * i + 1) ∧ ptr0 (27 + 5 * i) 9 = some (27 + 5 * i + 2) ∧ ptr0 (27 + 5 * i) 10 = some (27 + 5 * i + 3) ∧ ptr0 (27 + 5 * i) 11 = some (27 + 5 * i + 4) ∧ shp (27 + 5 * i + 1) = (1, 7) ∧ shp (27 + 5 * i + 2) = (1, 7) ∧ shp (27 + 5 * i + 3) = (1, 7) ∧ shp (27 + 5 * i + 4) = (1, 5) := by decide +kernel
theorem st_facts {a : Nat} (h : isSt a) : shp a = (18, 12) ∧ ptr0 a 8 = some (a + 1) ∧ ptr0 a 9 = some (a + 2) ∧ ptr0 a 10 = some (a + 3) ∧ ptr0 a 11 = some (a + 4) ∧ shp (a + 1) = (1, 7) ∧ shp (a + 2) = (1, 7) ∧ shp (a + 3) = (1, 7) ∧ shp (a + 4) = (1, 5) := by
  rcases h with rfl | ⟨i, hi, rfl⟩ | rfl | rfl
  · decide +kernel
  · exact st_ring i hi
  · decide +kernel
  · decide +kernel
theorem st_lt {a : Nat} (h : isSt a) : 20 ≤ a ∧ a < 135 := by
  rcases h with rfl | ⟨i, hi, rfl⟩ | rfl | rfl <;> omega
/-- two of them are one, or apart -/
theorem st_far {a o : Nat} (ha : isSt a) (ho : isSt o) (h : a ≠ o) : a + 4 < o ∨ o + 4 < a := by
  rcases ha with rfl | ⟨i, hi, rfl⟩ | rfl | rfl <;> rcases ho with rfl | ⟨j, hj, rfl⟩ | rfl | rfl <;> omega
def cpC (C : Nat → Nat → Int32) (a b n : Nat) : Nat → Nat → Int32 := fun q k => if q = b ∧ k < n then C a k else C q k
theorem cpI_mk {C R : Nat → Nat → Int32} {L : Nat → Nat → Int64} {hb a b n : Nat} (ha : a < 153) (hb' : b < 153) : cpI (mk C R L hb) a b n = mk (cpC C a b n) R L hb := by
  refine Prod.ext ?_ rfl
  funext q k
  show (if q = b ∧ k < n then (if a < 153 then C a k else R a k) else (if q < 153 then C q k else R q k)) = (if q < 153 then (if q = b ∧ k < n then C a k else C q k) else R q k)
  rw [if_pos ha]
  by_cases h : q = b ∧ k < n
  · rw [if_pos h, if_pos (by omega), if_pos h]
  · rw [if_neg h, if_neg h]
section P22
variable {C R : Nat → Nat → Int32} {L : Nat → Nat → Int64} {hb : Nat}
theorem copy_mk {a b n1 n2 : Nat} (ha : shp a = (1, n1)) (hb' : shp b = (1, n2)) (h1 : a < 153) (h2 : b < 153) (hab : a ≠ b) (hn1 : n1 < 900) (hn2 : n2 < 900) : G_copy [.ref a, .ref b] (mk C R L hb) = some (none, mk (cpC C a b (min n1 n2)) R L hb) := by
  rw [G_copy_eq (M := mk C R L hb) ha hb' hab rfl hn1 hn2, cpI_mk h1 h2]
theorem fill_mk {a n : Nat} {x : Int32} (ha : shp a = (1, n)) (h1 : a < 153) (hn : n < 900) : G_fill [.ref a, .int x] (mk C R L hb) = some (none, mk (fun q k => if q = a ∧ k < n then x else C q k) R L hb) := by
  rw [G_fill_eq (M := mk C R L hb) ha hn]
  congr 2
  refine Prod.ext ?_ rfl
  funext q k
  show (if q = a ∧ k < n then x else (if q < 153 then C q k else R q k)) = (if q < 153 then (if q = a ∧ k < n then x else C q k) else R q k)
  by_cases h : q = a ∧ k < n
  · rw [if_pos h, if_pos (by omega), if_pos h]
  · rw [if_neg h, if_neg h]
/-- state a becomes state o -/
def becC (C : Nat → Nat → Int32) (a o : Nat) : Nat → Nat → Int32 := fun q k =>
  if q = a ∧ k < 8 then C o k else if q = a + 1 ∧ k < 7 then C (o + 1) k else if q = a + 2 ∧ k < 7 then C (o + 2) k else if q = a + 3 ∧ k < 7 then C (o + 3) k else if q = a + 4 ∧ k < 5 then C (o + 4) k else C q k
theorem State_become_eq {a o : Nat} (ha : isSt a) (ho : isSt o) (h : a ≠ o) : State_become [.ref a, .ref o] (mk C R L hb) = some (none, mk (becC C a o) R L hb) := by
  obtain ⟨a1, a2, a3, a4, a5, a6, a7, a8, a9⟩ := st_facts ha
  obtain ⟨o1, o2, o3, o4, o5, o6, o7, o8, o9⟩ := st_facts ho
  have la := st_lt ha
  have lo := st_lt ho
  have hf := st_far ha ho h
  have ha1 : a < 153 := by omega
  have ho1 : o < 153 := by omega
  have hoa : (o = a) = False := eq_false (Ne.symm h)
  simp only [x_State_become, State_become_b98, State_become_b48, State_become_b0, e_ci, e_cl, e_cn, e_il, e_ll, e_al, e_is, e_as, e_asn, e_ls, e_ii, e_pop, e_dupi, e_dupr, e_dup2r, e_dup2i, e_b, e_bd, e_lb, e_lbd, e_i2l, e_l2i, e_lcmp, e_ifeq, e_iflt, e_ifge, e_ifgt, e_ifle, e_cmeq, e_cmlt, e_cmge, e_cmgt, e_cmle, e_nulln, e_nullr, e_sw, e_swn, e_swc, e_gi, e_gl, e_gp, e_pi, e_pz, e_pl, e_pp, e_ald, e_zld, e_qld, e_ast, e_zst, e_qst, e_len, e_cs, e_cv, e_cn0, e_obj, e_max, e_min, e_ri, e_rz, e_rq, e_rqn, e_rv, e_rfs, e_rfn, e_mS_uI, e_mZ_uI, e_mT_uI, e_mI_uI, e_mL_uI, e_mP_uI, e_mS_uL, e_mZ_uL, e_mT_uL, e_mI_uL, e_mL_uL, e_mP_uL, e_mS_uP, e_mZ_uP, e_mT_uP, e_mI_uP, e_mL_uP, e_mP_uP, lg, lset, ak_ok1, ak_pop, ak_s4, Option.toList_some, Option.toList_none, List.cons_append, List.nil_append, if_true, ite_true, ite_false, ↓reduceIte, Nat.reduceAdd, Nat.reduceEqDiff, and_true, true_and, and_self, i_00, i_11, i_01, i_10, or_true, true_or, false_or, or_false, mS_mk, mL_mk, mI_mk, mP_11, mP_12, uI_mk, uL_mk, mP_mk, a1, a2, a3, a4, a5, o1, o2, o3, o4, o5, ha1, ho1, and_false, false_and, up_at, hoa]
  rw [copy_mk o6 a6 (by omega) (by omega) (by omega) (by omega) (by omega)]
  simp only [e_ci, e_cl, e_cn, e_il, e_ll, e_al, e_is, e_as, e_asn, e_ls, e_ii, e_pop, e_dupi, e_dupr, e_dup2r, e_dup2i, e_b, e_bd, e_lb, e_lbd, e_i2l, e_l2i, e_lcmp, e_ifeq, e_iflt, e_ifge, e_ifgt, e_ifle, e_cmeq, e_cmlt, e_cmge, e_cmgt, e_cmle, e_nulln, e_nullr, e_sw, e_swn, e_swc, e_gi, e_gl, e_gp, e_pi, e_pz, e_pl, e_pp, e_ald, e_zld, e_qld, e_ast, e_zst, e_qst, e_len, e_cs, e_cv, e_cn0, e_obj, e_max, e_min, e_ri, e_rz, e_rq, e_rqn, e_rv, e_rfs, e_rfn, e_mS_uI, e_mZ_uI, e_mT_uI, e_mI_uI, e_mL_uI, e_mP_uI, e_mS_uL, e_mZ_uL, e_mT_uL, e_mI_uL, e_mL_uL, e_mP_uL, e_mS_uP, e_mZ_uP, e_mT_uP, e_mI_uP, e_mL_uP, e_mP_uP, lg, lset, ak_ok1, ak_pop, ak_s4, Option.toList_some, Option.toList_none, List.cons_append, List.nil_append, if_true, ite_true, ite_false, ↓reduceIte, Nat.reduceAdd, Nat.reduceEqDiff, and_true, true_and, and_self, i_00, i_11, i_01, i_10, or_true, true_or, false_or, or_false, mS_mk, mL_mk, mI_mk, mP_11, mP_12, uI_mk, uL_mk, mP_mk, a1, a2, a3, a4, a5, o1, o2, o3, o4, o5, ha1, ho1, and_false, false_and]
  rw [copy_mk o7 a7 (by omega) (by omega) (by omega) (by omega) (by omega)]
  simp only [e_ci, e_cl, e_cn, e_il, e_ll, e_al, e_is, e_as, e_asn, e_ls, e_ii, e_pop, e_dupi, e_dupr, e_dup2r, e_dup2i, e_b, e_bd, e_lb, e_lbd, e_i2l, e_l2i, e_lcmp, e_ifeq, e_iflt, e_ifge, e_ifgt, e_ifle, e_cmeq, e_cmlt, e_cmge, e_cmgt, e_cmle, e_nulln, e_nullr, e_sw, e_swn, e_swc, e_gi, e_gl, e_gp, e_pi, e_pz, e_pl, e_pp, e_ald, e_zld, e_qld, e_ast, e_zst, e_qst, e_len, e_cs, e_cv, e_cn0, e_obj, e_max, e_min, e_ri, e_rz, e_rq, e_rqn, e_rv, e_rfs, e_rfn, e_mS_uI, e_mZ_uI, e_mT_uI, e_mI_uI, e_mL_uI, e_mP_uI, e_mS_uL, e_mZ_uL, e_mT_uL, e_mI_uL, e_mL_uL, e_mP_uL, e_mS_uP, e_mZ_uP, e_mT_uP, e_mI_uP, e_mL_uP, e_mP_uP, lg, lset, ak_ok1, ak_pop, ak_s4, Option.toList_some, Option.toList_none, List.cons_append, List.nil_append, if_true, ite_true, ite_false, ↓reduceIte, Nat.reduceAdd, Nat.reduceEqDiff, and_true, true_and, and_self, i_00, i_11, i_01, i_10, or_true, true_or, false_or, or_false, mS_mk, mL_mk, mI_mk, mP_11, mP_12, uI_mk, uL_mk, mP_mk, a1, a2, a3, a4, a5, o1, o2, o3, o4, o5, ha1, ho1, and_false, false_and]
  rw [copy_mk o8 a8 (by omega) (by omega) (by omega) (by omega) (by omega)]
  simp only [e_ci, e_cl, e_cn, e_il, e_ll, e_al, e_is, e_as, e_asn, e_ls, e_ii, e_pop, e_dupi, e_dupr, e_dup2r, e_dup2i, e_b, e_bd, e_lb, e_lbd, e_i2l, e_l2i, e_lcmp, e_ifeq, e_iflt, e_ifge, e_ifgt, e_ifle, e_cmeq, e_cmlt, e_cmge, e_cmgt, e_cmle, e_nulln, e_nullr, e_sw, e_swn, e_swc, e_gi, e_gl, e_gp, e_pi, e_pz, e_pl, e_pp, e_ald, e_zld, e_qld, e_ast, e_zst, e_qst, e_len, e_cs, e_cv, e_cn0, e_obj, e_max, e_min, e_ri, e_rz, e_rq, e_rqn, e_rv, e_rfs, e_rfn, e_mS_uI, e_mZ_uI, e_mT_uI, e_mI_uI, e_mL_uI, e_mP_uI, e_mS_uL, e_mZ_uL, e_mT_uL, e_mI_uL, e_mL_uL, e_mP_uL, e_mS_uP, e_mZ_uP, e_mT_uP, e_mI_uP, e_mL_uP, e_mP_uP, lg, lset, ak_ok1, ak_pop, ak_s4, Option.toList_some, Option.toList_none, List.cons_append, List.nil_append, if_true, ite_true, ite_false, ↓reduceIte, Nat.reduceAdd, Nat.reduceEqDiff, and_true, true_and, and_self, i_00, i_11, i_01, i_10, or_true, true_or, false_or, or_false, mS_mk, mL_mk, mI_mk, mP_11, mP_12, uI_mk, uL_mk, mP_mk, a1, a2, a3, a4, a5, o1, o2, o3, o4, o5, ha1, ho1, and_false, false_and]
  rw [copy_mk o9 a9 (by omega) (by omega) (by omega) (by omega) (by omega)]
  simp only [e_ci, e_cl, e_cn, e_il, e_ll, e_al, e_is, e_as, e_asn, e_ls, e_ii, e_pop, e_dupi, e_dupr, e_dup2r, e_dup2i, e_b, e_bd, e_lb, e_lbd, e_i2l, e_l2i, e_lcmp, e_ifeq, e_iflt, e_ifge, e_ifgt, e_ifle, e_cmeq, e_cmlt, e_cmge, e_cmgt, e_cmle, e_nulln, e_nullr, e_sw, e_swn, e_swc, e_gi, e_gl, e_gp, e_pi, e_pz, e_pl, e_pp, e_ald, e_zld, e_qld, e_ast, e_zst, e_qst, e_len, e_cs, e_cv, e_cn0, e_obj, e_max, e_min, e_ri, e_rz, e_rq, e_rqn, e_rv, e_rfs, e_rfn, e_mS_uI, e_mZ_uI, e_mT_uI, e_mI_uI, e_mL_uI, e_mP_uI, e_mS_uL, e_mZ_uL, e_mT_uL, e_mI_uL, e_mL_uL, e_mP_uL, e_mS_uP, e_mZ_uP, e_mT_uP, e_mI_uP, e_mL_uP, e_mP_uP, lg, lset, ak_ok1, ak_pop, ak_s4, Option.toList_some, Option.toList_none, List.cons_append, List.nil_append, if_true, ite_true, ite_false, ↓reduceIte, Nat.reduceAdd, Nat.reduceEqDiff, and_true, true_and, and_self, i_00, i_11, i_01, i_10, or_true, true_or, false_or, or_false, mS_mk, mL_mk, mI_mk, mP_11, mP_12, uI_mk, uL_mk]
  congr 2
  have e : ∀ (D : Nat → Nat → Int32), D = becC C a o → mk D R L hb = mk (becC C a o) R L hb := fun D q => by rw [q]
  apply e
  funext q k
  unfold cpC becC
  simp only [up_at]
  have n1 : ∀ j : Nat, j < 5 → (o + j = a) = False := fun j hj => eq_false (by omega)
  have n1' := n1 0 (by omega)
  have n2 := n1 1 (by omega)
  have n3 := n1 2 (by omega)
  have n4 := n1 3 (by omega)
  have n5 := n1 4 (by omega)
  have m2 : ∀ i j : Nat, i < 5 → j < 5 → (o + i = a + j) = False := fun i j hi hj => eq_false (by omega)
  by_cases hq : q = a
  · subst hq
    rcases (by omega : k = 0 ∨ k = 1 ∨ k = 2 ∨ k = 3 ∨ k = 4 ∨ k = 5 ∨ k = 6 ∨ k = 7 ∨ 8 ≤ k) with rfl | rfl | rfl | rfl | rfl | rfl | rfl | rfl | hk
    any_goals simp [hoa]
    have c1 : ∀ j, j < 8 → ¬ k = j := fun j hj => by omega
    simp [c1 0, c1 1, c1 2, c1 3, c1 4, c1 5, c1 6, c1 7, Nat.not_lt.mpr hk]
  · have c0 : (q = a) = False := eq_false hq
    simp only [c0, false_and, if_false, n2, n3, n4, n5, m2 1 1 (by omega) (by omega), m2 2 1 (by omega) (by omega), m2 3 1 (by omega) (by omega), m2 4 1 (by omega) (by omega), m2 2 2 (by omega) (by omega), m2 3 2 (by omega) (by omega), m2 4 2 (by omega) (by omega), m2 3 3 (by omega) (by omega), m2 4 3 (by omega) (by omega)]
    by_cases g1 : q = a + 1
    · subst g1; simp
    · by_cases g2 : q = a + 2
      · subst g2; simp
      · by_cases g3 : q = a + 3
        · subst g3; simp
        · simp only [g1, g2, g3, false_and, if_false]; rfl
theorem ptr_ring : ∀ i, i < 20 → ptr0 26 i = some (27 + 5 * i) := by decide +kernel
theorem Past_stateAt_eq {i : Nat} (hi : i < 20) : Past_stateAt [.ref 25, .int (nI i)] (mk C R L hb) = some (some (.ref (27 + 5 * i)), mk C R L hb) := by
  have h1 : ¬ nI i < 0 := nI_pos (by omega)
  have h2 : ¬ 20 ≤ nI i := nI_ge (b := 20) hi (by omega)
  have h3 : 0 ≤ nI i := nI_pos' (by omega)
  have h4 : (nI i).toNatClampNeg = i := nI_clamp (by omega)
  simp only [x_Past_stateAt, Past_stateAt_b23, Past_stateAt_b22, Past_stateAt_b0, e_ci, e_cl, e_cn, e_il, e_ll, e_al, e_is, e_as, e_asn, e_ls, e_ii, e_pop, e_dupi, e_dupr, e_dup2r, e_dup2i, e_b, e_bd, e_lb, e_lbd, e_i2l, e_l2i, e_lcmp, e_ifeq, e_iflt, e_ifge, e_ifgt, e_ifle, e_cmeq, e_cmlt, e_cmge, e_cmgt, e_cmle, e_nulln, e_nullr, e_sw, e_swn, e_swc, e_gi, e_gl, e_gp, e_pi, e_pz, e_pl, e_pp, e_ald, e_zld, e_qld, e_ast, e_zst, e_qst, e_len, e_cs, e_cv, e_cn0, e_obj, e_max, e_min, e_ri, e_rz, e_rq, e_rqn, e_rv, e_rfs, e_rfn, e_mS_uI, e_mZ_uI, e_mT_uI, e_mI_uI, e_mL_uI, e_mP_uI, e_mS_uL, e_mZ_uL, e_mT_uL, e_mI_uL, e_mL_uL, e_mP_uL, e_mS_uP, e_mZ_uP, e_mT_uP, e_mI_uP, e_mL_uP, e_mP_uP, lg, lset, ak_ok1, ak_pop, ak_s4, Option.toList_some, Option.toList_none, List.cons_append, List.nil_append, if_true, ite_true, ite_false, ↓reduceIte, Nat.reduceAdd, Nat.reduceEqDiff, and_true, true_and, and_self, i_00, i_11, i_01, i_10, or_true, true_or, false_or, or_false, mS_mk, mL_mk, mI_mk, mP_11, mP_12, uI_mk, uL_mk, mP_mk, ptr_25_0, shp_25, shp_26, h1, h3, h4, hi, ptr_ring i hi, and_false, false_and, show (Int32.ofNat 20 ≤ nI i) = False from eq_false h2]
theorem Past_push_eq {nx nu : Nat} (h1 : C 25 1 = nI nx) (hx : nx < 20) (h2 : C 25 2 = nI nu) (hu : nu ≤ 20) : Past_push [.ref 25, .ref 20] (mk C R L hb) =
    some (none, mk (up (up (becC C (27 + 5 * nx) 20) 25 1 (nI ((nx + 1) % 20))) 25 2 (nI (min (nu + 1) 20))) R L hb) := by
  have hs : isSt (27 + 5 * nx) := Or.inr (Or.inl ⟨nx, hx, rfl⟩)
  have b1 : becC C (27 + 5 * nx) 20 25 1 = nI nx := by
    unfold becC
    rw [if_neg (by omega), if_neg (by omega), if_neg (by omega), if_neg (by omega), if_neg (by omega), h1]
  have b2 : becC C (27 + 5 * nx) 20 25 2 = nI nu := by
    unfold becC
    rw [if_neg (by omega), if_neg (by omega), if_neg (by omega), if_neg (by omega), if_neg (by omega), h2]
  have h3 : nI nx + 1 = nI (nx + 1) := nI_1 nx
  have h4 : nI nu + 1 = nI (nu + 1) := nI_1 nu
  simp only [x_Past_push, Past_push_b44, Past_push_b0, e_ci, e_cl, e_cn, e_il, e_ll, e_al, e_is, e_as, e_asn, e_ls, e_ii, e_pop, e_dupi, e_dupr, e_dup2r, e_dup2i, e_b, e_bd, e_lb, e_lbd, e_i2l, e_l2i, e_lcmp, e_ifeq, e_iflt, e_ifge, e_ifgt, e_ifle, e_cmeq, e_cmlt, e_cmge, e_cmgt, e_cmle, e_nulln, e_nullr, e_sw, e_swn, e_swc, e_gi, e_gl, e_gp, e_pi, e_pz, e_pl, e_pp, e_ald, e_zld, e_qld, e_ast, e_zst, e_qst, e_len, e_cs, e_cv, e_cn0, e_obj, e_max, e_min, e_ri, e_rz, e_rq, e_rqn, e_rv, e_rfs, e_rfn, e_mS_uI, e_mZ_uI, e_mT_uI, e_mI_uI, e_mL_uI, e_mP_uI, e_mS_uL, e_mZ_uL, e_mT_uL, e_mI_uL, e_mL_uL, e_mP_uL, e_mS_uP, e_mZ_uP, e_mT_uP, e_mI_uP, e_mL_uP, e_mP_uP, lg, lset, ak_ok1, ak_pop, ak_s4, Option.toList_some, Option.toList_none, List.cons_append, List.nil_append, if_true, ite_true, ite_false, ↓reduceIte, Nat.reduceAdd, Nat.reduceEqDiff, and_true, true_and, and_self, i_00, i_11, i_01, i_10, or_true, true_or, false_or, or_false, mS_mk, mL_mk, mI_mk, mP_11, mP_12, uI_mk, uL_mk, mP_mk, ptr_25_0, shp_25, shp_26, shp_20, h1, Past_stateAt_eq hx, (st_facts hs).1, State_become_eq hs (Or.inl rfl) (show 27 + 5 * nx ≠ 20 by omega), b1, b2, h3, h4, and_false, false_and, Nat.reduceLT]
  have e2 : (if Int32.ofNat 20 < nI (nu + 1) then Int32.ofNat 20 else nI (nu + 1)) = nI (min (nu + 1) 20) := by
    by_cases q : nu + 1 ≤ 20
    · rw [if_neg (show ¬ Int32.ofNat 20 < nI (nu + 1) from nI_nlt q (by omega)), Nat.min_eq_left q]
    · rw [if_pos (show Int32.ofNat 20 < nI (nu + 1) from nI_lt (by omega) (by omega)), Nat.min_eq_right (by omega)]; rfl
  by_cases q : nx + 1 < 20
  · rw [if_neg (show ¬ Int32.ofNat 20 ≤ nI (nx + 1) from nI_ge q (by omega))]
    simp only [up_at, b2, h4, e2, Nat.mod_eq_of_lt q, Nat.reduceEqDiff, and_false, if_false]
  · rw [if_pos (show Int32.ofNat 20 ≤ nI (nx + 1) from nI_le (by omega) (by omega))]
    have e3 : (nx + 1) % 20 = 0 := by omega
    simp only [up_at, b2, h4, e2, e3, Nat.reduceEqDiff, and_false, if_false]
    rfl
/-- where the latest lies -/
def rgP (nx : Nat) : Nat := (nx + 19) % 20
theorem Past_pop_eq {nx nu : Nat} (h1 : C 25 1 = nI nx) (hx : nx < 20) (h2 : C 25 2 = nI (nu + 1)) (hu : nu < 20) : Past_pop [.ref 25, .ref 20] (mk C R L hb) =
    some (some (.int (nI nu)), mk (up (up (becC C 20 (27 + 5 * rgP nx)) 25 1 (nI (rgP nx))) 25 2 (nI nu)) R L hb) := by
  have hr : rgP nx < 20 := Nat.mod_lt _ (by omega)
  have hs : isSt (27 + 5 * rgP nx) := Or.inr (Or.inl ⟨rgP nx, hr, rfl⟩)
  have b2 : becC C 20 (27 + 5 * rgP nx) 25 2 = nI (nu + 1) := by
    unfold becC
    rw [if_neg (by omega), if_neg (by omega), if_neg (by omega), if_neg (by omega), if_neg (by omega), h2]
  have e0 : (nI (nu + 1) = 0) = False := eq_false (nI_ne0 (by omega) (by omega))
  have h4 : nI (nu + 1) - 1 = nI nu := nI_pred nu
  have key : Past_pop_b23 [some (.ref 25), some (.ref 20), none, none] [.int (nI (rgP nx))] (mk C R L hb) = some (some (.int (nI nu)), mk (up (up (becC C 20 (27 + 5 * rgP nx)) 25 1 (nI (rgP nx))) 25 2 (nI nu)) R L hb) := by
    simp only [x_Past_pop, Past_pop_b41, Past_pop_b68, Past_pop_b23, Past_pop_b0, e_ci, e_cl, e_cn, e_il, e_ll, e_al, e_is, e_as, e_asn, e_ls, e_ii, e_pop, e_dupi, e_dupr, e_dup2r, e_dup2i, e_b, e_bd, e_lb, e_lbd, e_i2l, e_l2i, e_lcmp, e_ifeq, e_iflt, e_ifge, e_ifgt, e_ifle, e_cmeq, e_cmlt, e_cmge, e_cmgt, e_cmle, e_nulln, e_nullr, e_sw, e_swn, e_swc, e_gi, e_gl, e_gp, e_pi, e_pz, e_pl, e_pp, e_ald, e_zld, e_qld, e_ast, e_zst, e_qst, e_len, e_cs, e_cv, e_cn0, e_obj, e_max, e_min, e_ri, e_rz, e_rq, e_rqn, e_rv, e_rfs, e_rfn, e_mS_uI, e_mZ_uI, e_mT_uI, e_mI_uI, e_mL_uI, e_mP_uI, e_mS_uL, e_mZ_uL, e_mT_uL, e_mI_uL, e_mL_uL, e_mP_uL, e_mS_uP, e_mZ_uP, e_mT_uP, e_mI_uP, e_mL_uP, e_mP_uP, lg, lset, ak_ok1, ak_pop, ak_s4, Option.toList_some, Option.toList_none, List.cons_append, List.nil_append, if_true, ite_true, ite_false, ↓reduceIte, Nat.reduceAdd, Nat.reduceEqDiff, and_true, true_and, and_self, i_00, i_11, i_01, i_10, or_true, true_or, false_or, or_false, mS_mk, mL_mk, mI_mk, mP_11, mP_12, uI_mk, uL_mk, mP_mk, ptr_25_0, shp_25, shp_26, shp_20, h2, Past_stateAt_eq hr, (st_facts hs).1, State_become_eq (Or.inl rfl) hs (show 20 ≠ 27 + 5 * rgP nx by omega), up_at, b2, e0, h4, and_false, false_and, Nat.reduceLT]
  simp only [x_Past_pop, Past_pop_b0, e_ci, e_cl, e_cn, e_il, e_ll, e_al, e_is, e_as, e_asn, e_ls, e_ii, e_pop, e_dupi, e_dupr, e_dup2r, e_dup2i, e_b, e_bd, e_lb, e_lbd, e_i2l, e_l2i, e_lcmp, e_ifeq, e_iflt, e_ifge, e_ifgt, e_ifle, e_cmeq, e_cmlt, e_cmge, e_cmgt, e_cmle, e_nulln, e_nullr, e_sw, e_swn, e_swc, e_gi, e_gl, e_gp, e_pi, e_pz, e_pl, e_pp, e_ald, e_zld, e_qld, e_ast, e_zst, e_qst, e_len, e_cs, e_cv, e_cn0, e_obj, e_max, e_min, e_ri, e_rz, e_rq, e_rqn, e_rv, e_rfs, e_rfn, e_mS_uI, e_mZ_uI, e_mT_uI, e_mI_uI, e_mL_uI, e_mP_uI, e_mS_uL, e_mZ_uL, e_mT_uL, e_mI_uL, e_mL_uL, e_mP_uL, e_mS_uP, e_mZ_uP, e_mT_uP, e_mI_uP, e_mL_uP, e_mP_uP, lg, lset, ak_ok1, ak_pop, ak_s4, Option.toList_some, Option.toList_none, List.cons_append, List.nil_append, if_true, ite_true, ite_false, ↓reduceIte, Nat.reduceAdd, Nat.reduceEqDiff, and_true, true_and, and_self, i_00, i_11, i_01, i_10, or_true, true_or, false_or, or_false, mS_mk, mL_mk, mI_mk, mP_11, mP_12, uI_mk, uL_mk, mP_mk, ptr_25_0, shp_25, shp_26, shp_20, h1, and_false, false_and, Nat.reduceLT]
  by_cases q : nx = 0
  · subst q
    rw [if_pos (show nI 0 ≤ 0 by decide +kernel)]
    exact key
  · rw [if_neg (show ¬ nI nx ≤ 0 from nI_nle (by omega) (by omega))]
    have e5 : nI nx - 1 = nI (rgP nx) := by
      have : nx = rgP nx + 1 := by unfold rgP; omega
      rw [this, nI_pred]
      unfold rgP
      congr 1
      omega
    rw [e5]
    exact key
/-! the reference's w -/
def cpR (R : Nat → Nat → Int32) (fr t n : Nat) : Nat → Nat → Int32 := fun q k => if q = 154 ∧ t ≤ k ∧ k < t + n then R 154 (fr + (k - t)) else R q k
theorem cpR_s {R : Nat → Nat → Int32} {fr t n N : Nat} (hd : fr + N ≤ t ∨ t + N ≤ fr) (hn : n < N) : up (cpR R fr t n) 154 (t + n) (cpR R fr t n 154 (fr + n)) = cpR R fr t (n + 1) := by
  funext q k
  unfold up cpR
  by_cases hq : q = 154
  · by_cases hk : k = t + n
    · rw [if_pos ⟨hq, hk⟩, if_neg (by omega), if_pos (by omega), show fr + (k - t) = fr + n by omega]
    · rw [if_neg (fun h => hk h.2)]
      by_cases h2 : t ≤ k ∧ k < t + n
      · rw [if_pos ⟨hq, h2⟩, if_pos ⟨hq, by omega⟩]
      · rw [if_neg (fun h => h2 h.2), if_neg (fun h => by omega)]
  · rw [if_neg (fun h => hq h.1), if_neg (fun h => hq h.1), if_neg (fun h => hq h.1)]
theorem R_copy_loop {fr t : Nat} (hd : fr + 35 ≤ t ∨ t + 35 ≤ fr) (h1 : fr + 35 ≤ 805) (h2 : t + 35 ≤ 805) : ∀ (d i f : Nat), i + d = 35 → d < f →
    R_copy_l2 f [some (.ref 153), some (.int (nI fr)), some (.int (nI t)), some (.int (nI i))] [] (mk C (cpR R fr t i) L hb) = some (none, mk C (cpR R fr t 35) L hb)
  | d, i, 0, h3, h4 => absurd h4 (by omega)
  | d, i, f + 1, h3, h4 => by
    show R_copy_b2 (R_copy_l2 f) _ _ _ = _
    have e1 : (nI (t + i)).toNatClampNeg = t + i := nI_clamp (by omega)
    have e2 : (nI (fr + i)).toNatClampNeg = fr + i := nI_clamp (by omega)
    have e3 : 0 ≤ nI (t + i) := nI_pos' (by omega)
    have e4 : 0 ≤ nI (fr + i) := nI_pos' (by omega)
    simp only [R_copy_b2, e_ci, e_cl, e_cn, e_il, e_ll, e_al, e_is, e_as, e_asn, e_ls, e_ii, e_pop, e_dupi, e_dupr, e_dup2r, e_dup2i, e_b, e_bd, e_lb, e_lbd, e_i2l, e_l2i, e_lcmp, e_ifeq, e_iflt, e_ifge, e_ifgt, e_ifle, e_cmeq, e_cmlt, e_cmge, e_cmgt, e_cmle, e_nulln, e_nullr, e_sw, e_swn, e_swc, e_gi, e_gl, e_gp, e_pi, e_pz, e_pl, e_pp, e_ald, e_zld, e_qld, e_ast, e_zst, e_qst, e_len, e_cs, e_cv, e_cn0, e_obj, e_max, e_min, e_ri, e_rz, e_rq, e_rqn, e_rv, e_rfs, e_rfn, e_mS_uI, e_mZ_uI, e_mT_uI, e_mI_uI, e_mL_uI, e_mP_uI, e_mS_uL, e_mZ_uL, e_mT_uL, e_mI_uL, e_mL_uL, e_mP_uL, e_mS_uP, e_mZ_uP, e_mT_uP, e_mI_uP, e_mL_uP, e_mP_uP, lg, lset, ak_ok1, ak_pop, ak_s4, Option.toList_some, Option.toList_none, List.cons_append, List.nil_append, if_true, ite_true, ite_false, ↓reduceIte, Nat.reduceAdd, Nat.reduceEqDiff, and_true, true_and, and_self, i_00, i_11, i_01, i_10, or_true, true_or, false_or, or_false, mS_mk, mL_mk, mI_mk, mP_11, mP_12, uI_mk, uL_mk, mP_mk, ptr_153_0, shp_153, shp_154, nI_add, e1, e2, e3, e4, and_false, false_and, Nat.reduceLT]
    by_cases hi : i < 35
    · rw [if_neg (show ¬ 35 ≤ nI i from nI_ge (b := 35) hi (by omega)), if_pos (show fr + i < 805 by omega), if_pos (show t + i < 805 by omega), cpR_s hd hi, nI_1]
      exact R_copy_loop hd h1 h2 (d - 1) (i + 1) f (by omega) (by omega)
    · rw [if_pos (show 35 ≤ nI i from nI_le (a := 35) (by omega) (by omega)), show i = 35 by omega]
theorem R_copy_eq {fr t : Nat} (hd : fr + 35 ≤ t ∨ t + 35 ≤ fr) (h1 : fr + 35 ≤ 805) (h2 : t + 35 ≤ 805) : R_copy [.ref 153, .int (nI fr), .int (nI t)] (mk C R L hb) = some (none, mk C (cpR R fr t 35) L hb) := by
  have h := R_copy_loop (C := C) (R := R) (L := L) (hb := hb) hd h1 h2 35 0 ak_fuel (by omega) (by rw [ak_fuel_eq]; omega)
  have e0 : cpR R fr t 0 = R := by
    funext q k
    unfold cpR
    rw [if_neg (by omega)]
  rw [e0] at h
  simp only [x_R_copy, R_copy_b2, R_copy_b0, e_ci, e_cl, e_cn, e_il, e_ll, e_al, e_is, e_as, e_asn, e_ls, e_ii, e_pop, e_dupi, e_dupr, e_dup2r, e_dup2i, e_b, e_bd, e_lb, e_lbd, e_i2l, e_l2i, e_lcmp, e_ifeq, e_iflt, e_ifge, e_ifgt, e_ifle, e_cmeq, e_cmlt, e_cmge, e_cmgt, e_cmle, e_nulln, e_nullr, e_sw, e_swn, e_swc, e_gi, e_gl, e_gp, e_pi, e_pz, e_pl, e_pp, e_ald, e_zld, e_qld, e_ast, e_zst, e_qst, e_len, e_cs, e_cv, e_cn0, e_obj, e_max, e_min, e_ri, e_rz, e_rq, e_rqn, e_rv, e_rfs, e_rfn, e_mS_uI, e_mZ_uI, e_mT_uI, e_mI_uI, e_mL_uI, e_mP_uI, e_mS_uL, e_mZ_uL, e_mT_uL, e_mI_uL, e_mL_uL, e_mP_uL, e_mS_uP, e_mZ_uP, e_mT_uP, e_mI_uP, e_mL_uP, e_mP_uP, lg, lset, ak_ok1, ak_pop, ak_s4, Option.toList_some, Option.toList_none, List.cons_append, List.nil_append, if_true, ite_true, ite_false, ↓reduceIte, Nat.reduceAdd, Nat.reduceEqDiff, and_true, true_and, and_self, i_00, i_11, i_01, i_10, or_true, true_or, false_or, or_false, mS_mk, mL_mk, mI_mk, mP_11, mP_12, uI_mk, uL_mk]
  exact h
/-- the oldest is lost -/
def shR (R : Nat → Nat → Int32) (n : Nat) : Nat → Nat → Int32 := fun q k => if q = 154 ∧ 105 ≤ k ∧ k < 105 + n then R 154 (k + 35) else R q k
theorem shR_s {R : Nat → Nat → Int32} {n : Nat} : up (shR R n) 154 (105 + n) (shR R n 154 (105 + n + 35)) = shR R (n + 1) := by
  funext q k
  unfold up shR
  by_cases hq : q = 154
  · by_cases hk : k = 105 + n
    · rw [if_pos ⟨hq, hk⟩, if_neg (by omega), if_pos (by omega), hk]
    · rw [if_neg (fun h => hk h.2)]
      by_cases h2 : 105 ≤ k ∧ k < 105 + n
      · rw [if_pos ⟨hq, h2⟩, if_pos ⟨hq, by omega⟩]
      · rw [if_neg (fun h => h2 h.2), if_neg (fun h => by omega)]
  · rw [if_neg (fun h => hq h.1), if_neg (fun h => hq h.1), if_neg (fun h => hq h.1)]
/-- the reference remembers: what its rows are then -/
def mdR (R : Nat → Nat → Int32) (nu : Nat) : Nat → Nat → Int32 := if nu = 20 then up (cpR (up (shR R 665) 153 2 (nI 19)) 0 770 35) 153 2 (nI 20) else up (cpR R 0 (105 + 35 * nu) 35) 153 2 (nI (nu + 1))
theorem R_minds_b55_eq {nu : Nat} {x : Option Value} (h : R 153 2 = nI nu) (hu : nu < 20) : R_minds_b55 [some (.ref 153), x] [] (mk C R L hb) = some (none, mk C (up (cpR R 0 (105 + 35 * nu) 35) 153 2 (nI (nu + 1))) L hb) := by
  have e1 : (35 : Int32) * nI nu = nI (35 * nu) := pk_mul 35 nu
  have e2 : (105 : Int32) + nI (35 * nu) = nI (105 + 35 * nu) := nI_add 105 (35 * nu)
  have e3 := R_copy_eq (C := C) (R := R) (L := L) (hb := hb) (fr := 0) (t := 105 + 35 * nu) (by omega) (by omega) (by omega)
  rw [nI_0] at e3
  have e4 : cpR R 0 (105 + 35 * nu) 35 153 2 = nI nu := by
    unfold cpR
    rw [if_neg (by omega), h]
  simp only [R_minds_b55, e_ci, e_cl, e_cn, e_il, e_ll, e_al, e_is, e_as, e_asn, e_ls, e_ii, e_pop, e_dupi, e_dupr, e_dup2r, e_dup2i, e_b, e_bd, e_lb, e_lbd, e_i2l, e_l2i, e_lcmp, e_ifeq, e_iflt, e_ifge, e_ifgt, e_ifle, e_cmeq, e_cmlt, e_cmge, e_cmgt, e_cmle, e_nulln, e_nullr, e_sw, e_swn, e_swc, e_gi, e_gl, e_gp, e_pi, e_pz, e_pl, e_pp, e_ald, e_zld, e_qld, e_ast, e_zst, e_qst, e_len, e_cs, e_cv, e_cn0, e_obj, e_max, e_min, e_ri, e_rz, e_rq, e_rqn, e_rv, e_rfs, e_rfn, e_mS_uI, e_mZ_uI, e_mT_uI, e_mI_uI, e_mL_uI, e_mP_uI, e_mS_uL, e_mZ_uL, e_mT_uL, e_mI_uL, e_mL_uL, e_mP_uL, e_mS_uP, e_mZ_uP, e_mT_uP, e_mI_uP, e_mL_uP, e_mP_uP, lg, lset, ak_ok1, ak_pop, ak_s4, Option.toList_some, Option.toList_none, List.cons_append, List.nil_append, if_true, ite_true, ite_false, ↓reduceIte, Nat.reduceAdd, Nat.reduceEqDiff, and_true, true_and, and_self, i_00, i_11, i_01, i_10, or_true, true_or, false_or, or_false, mS_mk, mL_mk, mI_mk, mP_11, mP_12, uI_mk, uL_mk, shp_153, h, e1, e2, e3, e4, nI_1, Nat.reduceLT]
theorem R_minds_loop : ∀ (d i f : Nat), i + d = 665 → d < f → ∀ (h : R 153 2 = nI 20),
    R_minds_l11 f [some (.ref 153), some (.int (nI i))] [] (mk C (shR R i) L hb) = R_minds_b55 [some (.ref 153), some (.int (nI 665))] [] (mk C (up (shR R 665) 153 2 (nI 19)) L hb)
  | d, i, 0, h3, h4, h => absurd h4 (by omega)
  | d, i, f + 1, h3, h4, h => by
    show R_minds_b11 (R_minds_l11 f) _ _ _ = _
    have a1 : (105 : Int32) + nI i = nI (105 + i) := nI_add 105 i
    have a2 : nI (105 + i) + 35 = nI (105 + i + 35) := nI_add (105 + i) 35
    have e1 : (nI (105 + i)).toNatClampNeg = 105 + i := nI_clamp (by omega)
    have e2 : (nI (105 + i + 35)).toNatClampNeg = 105 + i + 35 := nI_clamp (by omega)
    have e3 : 0 ≤ nI (105 + i) := nI_pos' (by omega)
    have e4 : 0 ≤ nI (105 + i + 35) := nI_pos' (by omega)
    have e5 : shR R i 153 2 = nI 20 := by
      unfold shR
      rw [if_neg (by omega), h]
    have e6 : nI 20 - 1 = nI 19 := nI_pred 19
    simp only [R_minds_b11, e_ci, e_cl, e_cn, e_il, e_ll, e_al, e_is, e_as, e_asn, e_ls, e_ii, e_pop, e_dupi, e_dupr, e_dup2r, e_dup2i, e_b, e_bd, e_lb, e_lbd, e_i2l, e_l2i, e_lcmp, e_ifeq, e_iflt, e_ifge, e_ifgt, e_ifle, e_cmeq, e_cmlt, e_cmge, e_cmgt, e_cmle, e_nulln, e_nullr, e_sw, e_swn, e_swc, e_gi, e_gl, e_gp, e_pi, e_pz, e_pl, e_pp, e_ald, e_zld, e_qld, e_ast, e_zst, e_qst, e_len, e_cs, e_cv, e_cn0, e_obj, e_max, e_min, e_ri, e_rz, e_rq, e_rqn, e_rv, e_rfs, e_rfn, e_mS_uI, e_mZ_uI, e_mT_uI, e_mI_uI, e_mL_uI, e_mP_uI, e_mS_uL, e_mZ_uL, e_mT_uL, e_mI_uL, e_mL_uL, e_mP_uL, e_mS_uP, e_mZ_uP, e_mT_uP, e_mI_uP, e_mL_uP, e_mP_uP, lg, lset, ak_ok1, ak_pop, ak_s4, Option.toList_some, Option.toList_none, List.cons_append, List.nil_append, if_true, ite_true, ite_false, ↓reduceIte, Nat.reduceAdd, Nat.reduceEqDiff, and_true, true_and, and_self, i_00, i_11, i_01, i_10, or_true, true_or, false_or, or_false, mS_mk, mL_mk, mI_mk, mP_11, mP_12, uI_mk, uL_mk, mP_mk, ptr_153_0, shp_153, shp_154, a1, a2, e1, e2, e3, e4, e5, e6, and_false, false_and, Nat.reduceLT]
    by_cases hi : i < 665
    · rw [if_neg (show ¬ 665 ≤ nI i from nI_ge (b := 665) hi (by omega)), if_pos (show 105 + i + 35 < 805 by omega), if_pos (show 105 + i < 805 by omega), shR_s, nI_1]
      exact R_minds_loop (d - 1) (i + 1) f (by omega) (by omega) h
    · rw [if_pos (show 665 ≤ nI i from nI_le (a := 665) (by omega) (by omega)), show i = 665 by omega]
theorem R_minds_eq {nu : Nat} (h : R 153 2 = nI nu) (hu : nu ≤ 20) : R_minds [.ref 153] (mk C R L hb) = some (none, mk C (mdR R nu) L hb) := by
  simp only [x_R_minds, R_minds_b0, e_ci, e_cl, e_cn, e_il, e_ll, e_al, e_is, e_as, e_asn, e_ls, e_ii, e_pop, e_dupi, e_dupr, e_dup2r, e_dup2i, e_b, e_bd, e_lb, e_lbd, e_i2l, e_l2i, e_lcmp, e_ifeq, e_iflt, e_ifge, e_ifgt, e_ifle, e_cmeq, e_cmlt, e_cmge, e_cmgt, e_cmle, e_nulln, e_nullr, e_sw, e_swn, e_swc, e_gi, e_gl, e_gp, e_pi, e_pz, e_pl, e_pp, e_ald, e_zld, e_qld, e_ast, e_zst, e_qst, e_len, e_cs, e_cv, e_cn0, e_obj, e_max, e_min, e_ri, e_rz, e_rq, e_rqn, e_rv, e_rfs, e_rfn, e_mS_uI, e_mZ_uI, e_mT_uI, e_mI_uI, e_mL_uI, e_mP_uI, e_mS_uL, e_mZ_uL, e_mT_uL, e_mI_uL, e_mL_uL, e_mP_uL, e_mS_uP, e_mZ_uP, e_mT_uP, e_mI_uP, e_mL_uP, e_mP_uP, lg, lset, ak_ok1, ak_pop, ak_s4, Option.toList_some, Option.toList_none, List.cons_append, List.nil_append, if_true, ite_true, ite_false, ↓reduceIte, Nat.reduceAdd, Nat.reduceEqDiff, and_true, true_and, and_self, i_00, i_11, i_01, i_10, or_true, true_or, false_or, or_false, mS_mk, mL_mk, mI_mk, mP_11, mP_12, uI_mk, uL_mk, shp_153, h, Nat.reduceLT]
  by_cases q : nu = 20
  · rw [if_pos (by rw [q]; rfl)]
    have hl := R_minds_loop (C := C) (R := R) (L := L) (hb := hb) 665 0 ak_fuel (by omega) (by rw [ak_fuel_eq]; omega) (by rw [h, q])
    have e0 : shR R 0 = R := by
      funext q k
      unfold shR
      rw [if_neg (by omega)]
    rw [e0, nI_0] at hl
    rw [hl, R_minds_b55_eq (nu := 19) (by unfold up; rw [if_pos ⟨rfl, rfl⟩]) (by omega)]
    unfold mdR
    rw [if_pos q]
  · rw [if_neg (show ¬ nI nu = 20 from fun e => q ((nI_eq (b := 20) (by omega) (by omega)).mp e)), R_minds_b55_eq h (by omega)]
    unfold mdR
    rw [if_neg q]
end P22
