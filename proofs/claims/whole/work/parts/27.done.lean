/-! ===== what is done: the state on both sides ===== -/
section P27
variable {C R : Nat → Nat → Int32} {L : Nat → Nat → Int64} {hb nr nd nm np nt na nb nu nx : Nat}
theorem Inv.set (h : Inv C R L hb nr nd nm np nt na nb nu nx) {k : Nat} {x : Int32} (hk : k < 8) (h0 : k = 0 → inN x nr ∨ nr = 0 ∧ x = 0) : Inv (up C 20 k x) (up R 154 k x) L hb nr nd nm np nt na nb nu nx := by
  obtain ⟨hB, -, -, ⟨s1, s2, s3, s4⟩, ⟨d1, d2⟩, -⟩ := id h
  obtain ⟨b1, b2, b3, b4, b5, b6, b7, b8, b9, b10, b11⟩ := id hB
  have gC : ∀ q j, q ≠ 20 → up C 20 k x q j = C q j := fun q j hq => up_ne (by omega)
  have gR : ∀ j, j ≠ k → up R 154 k x 154 j = R 154 j := fun j hj => up_ne (by omega)
  refine h.now (fun q j hq => up_ne (by omega)) (fun q j hq => up_ne (by omega)) (fun _ _ _ => rfl) ⟨fun k' hk' => ?_, fun m hm => ?_, fun p hp => ?_, ?_⟩ ⟨?_, ?_⟩
  · rw [Nat.zero_add]
    by_cases e : k' = k
    · rw [e, up_self, up_self]
    · rw [gR k' e, up_ne (by omega), s1 k' hk', Nat.zero_add]
  · rw [gC (20 + 1) m (by omega), gC (20 + 2) m (by omega), gC (20 + 3) m (by omega), gR (0 + 8 + m) (by omega), gR (0 + 15 + m) (by omega), gR (0 + 22 + m) (by omega)]
    exact s2 m hm
  · rw [gC (20 + 4) p (by omega), gR (0 + 29 + p) (by omega)]
    exact s3 p hp
  · by_cases e : k = 0
    · rw [e, up_self]; exact h0 e
    · rw [gR 0 (by omega)]; exact s4
  · rw [gR (0 + 34) (by omega)]; exact d1
  · rw [gR (0 + 34) (by omega)]; exact d2
theorem Inv.nam (h : Inv C R L hb nr nd nm np nt na nb nu nx) {m : Nat} {x : Int32} (hm : m < nm) (hx : inN x 10) : Inv (up C 21 m x) (up R 154 (8 + m) x) L hb nr nd nm np nt na nb nu nx := by
  obtain ⟨hB, -, -, ⟨s1, s2, s3, s4⟩, ⟨d1, d2⟩, -⟩ := id h
  obtain ⟨b1, b2, b3, b4, b5, b6, b7, b8, b9, b10, b11⟩ := id hB
  have gC : ∀ q j, q ≠ 21 → up C 21 m x q j = C q j := fun q j hq => up_ne (by omega)
  have gR : ∀ j, j ≠ 8 + m → up R 154 (8 + m) x 154 j = R 154 j := fun j hj => up_ne (by omega)
  refine h.now (fun q j hq => up_ne (by omega)) (fun q j hq => up_ne (by omega)) (fun _ _ _ => rfl) ⟨fun k' hk' => ?_, fun m' hm' => ?_, fun p hp => ?_, ?_⟩ ⟨?_, ?_⟩
  · rw [gC 20 k' (by omega), gR (0 + k') (by omega)]; exact s1 k' hk'
  · obtain ⟨v1, v2, v3, v4⟩ := s2 m' hm'
    have w1 : up C 21 m x (20 + 1) m' = up R 154 (8 + m) x 154 (0 + 8 + m') := by
      by_cases e : m' = m
      · rw [e, show (0 + 8 + m) = 8 + m by omega, up_self, show 20 + 1 = 21 from rfl, up_self]
      · rw [gR (0 + 8 + m') (by omega), up_ne (by omega)]; exact v1
    have w2 : up C 21 m x (20 + 2) m' = up R 154 (8 + m) x 154 (0 + 15 + m') := by rw [gC (20 + 2) m' (by omega), gR (0 + 15 + m') (by omega)]; exact v2
    have w3 : up C 21 m x (20 + 3) m' = up R 154 (8 + m) x 154 (0 + 22 + m') := by rw [gC (20 + 3) m' (by omega), gR (0 + 22 + m') (by omega)]; exact v3
    have w4 : inN (up R 154 (8 + m) x 154 (0 + 8 + m')) 10 := by
      by_cases e : m' = m
      · rw [e, show (0 + 8 + m) = 8 + m by omega, up_self]; exact hx
      · rw [gR (0 + 8 + m') (by omega)]; exact v4
    exact ⟨w1, w2, w3, w4⟩
  · rw [gC (20 + 4) p (by omega), gR (0 + 29 + p) (by omega)]; exact s3 p hp
  · rw [gR 0 (by omega)]; exact s4
  · rw [gR (0 + 34) (by omega)]; exact d1
  · rw [gR (0 + 34) (by omega)]; exact d2
theorem Inv.lst (h : Inv C R L hb nr nd nm np nt na nb nu nx) {m : Nat} {x : Int32} (hm : m < nm) : Inv (up C 22 m x) (up R 154 (15 + m) x) L hb nr nd nm np nt na nb nu nx := by
  obtain ⟨hB, -, -, ⟨s1, s2, s3, s4⟩, ⟨d1, d2⟩, -⟩ := id h
  obtain ⟨b1, b2, b3, b4, b5, b6, b7, b8, b9, b10, b11⟩ := id hB
  have gC : ∀ q j, q ≠ 22 → up C 22 m x q j = C q j := fun q j hq => up_ne (by omega)
  have gR : ∀ j, j ≠ 15 + m → up R 154 (15 + m) x 154 j = R 154 j := fun j hj => up_ne (by omega)
  refine h.now (fun q j hq => up_ne (by omega)) (fun q j hq => up_ne (by omega)) (fun _ _ _ => rfl) ⟨fun k' hk' => ?_, fun m' hm' => ?_, fun p hp => ?_, ?_⟩ ⟨?_, ?_⟩
  · rw [gC 20 k' (by omega), gR (0 + k') (by omega)]; exact s1 k' hk'
  · obtain ⟨v1, v2, v3, v4⟩ := s2 m' hm'
    have w1 : up C 22 m x (20 + 1) m' = up R 154 (15 + m) x 154 (0 + 8 + m') := by rw [gC (20 + 1) m' (by omega), gR (0 + 8 + m') (by omega)]; exact v1
    have w2 : up C 22 m x (20 + 2) m' = up R 154 (15 + m) x 154 (0 + 15 + m') := by
      by_cases e : m' = m
      · rw [e, show (0 + 15 + m) = 15 + m by omega, up_self, show 20 + 2 = 22 from rfl, up_self]
      · rw [gR (0 + 15 + m') (by omega), up_ne (by omega)]; exact v2
    have w3 : up C 22 m x (20 + 3) m' = up R 154 (15 + m) x 154 (0 + 22 + m') := by rw [gC (20 + 3) m' (by omega), gR (0 + 22 + m') (by omega)]; exact v3
    have w4 : inN (up R 154 (15 + m) x 154 (0 + 8 + m')) 10 := by rw [gR (0 + 8 + m') (by omega)]; exact v4
    exact ⟨w1, w2, w3, w4⟩
  · rw [gC (20 + 4) p (by omega), gR (0 + 29 + p) (by omega)]; exact s3 p hp
  · rw [gR 0 (by omega)]; exact s4
  · rw [gR (0 + 34) (by omega)]; exact d1
  · rw [gR (0 + 34) (by omega)]; exact d2
theorem Inv.cnt (h : Inv C R L hb nr nd nm np nt na nb nu nx) {m : Nat} {x : Int32} (hm : m < nm) : Inv (up C 23 m x) (up R 154 (22 + m) x) L hb nr nd nm np nt na nb nu nx := by
  obtain ⟨hB, -, -, ⟨s1, s2, s3, s4⟩, ⟨d1, d2⟩, -⟩ := id h
  obtain ⟨b1, b2, b3, b4, b5, b6, b7, b8, b9, b10, b11⟩ := id hB
  have gC : ∀ q j, q ≠ 23 → up C 23 m x q j = C q j := fun q j hq => up_ne (by omega)
  have gR : ∀ j, j ≠ 22 + m → up R 154 (22 + m) x 154 j = R 154 j := fun j hj => up_ne (by omega)
  refine h.now (fun q j hq => up_ne (by omega)) (fun q j hq => up_ne (by omega)) (fun _ _ _ => rfl) ⟨fun k' hk' => ?_, fun m' hm' => ?_, fun p hp => ?_, ?_⟩ ⟨?_, ?_⟩
  · rw [gC 20 k' (by omega), gR (0 + k') (by omega)]; exact s1 k' hk'
  · obtain ⟨v1, v2, v3, v4⟩ := s2 m' hm'
    have w1 : up C 23 m x (20 + 1) m' = up R 154 (22 + m) x 154 (0 + 8 + m') := by rw [gC (20 + 1) m' (by omega), gR (0 + 8 + m') (by omega)]; exact v1
    have w2 : up C 23 m x (20 + 2) m' = up R 154 (22 + m) x 154 (0 + 15 + m') := by rw [gC (20 + 2) m' (by omega), gR (0 + 15 + m') (by omega)]; exact v2
    have w3 : up C 23 m x (20 + 3) m' = up R 154 (22 + m) x 154 (0 + 22 + m') := by
      by_cases e : m' = m
      · rw [e, show (0 + 22 + m) = 22 + m by omega, up_self, show 20 + 3 = 23 from rfl, up_self]
      · rw [gR (0 + 22 + m') (by omega), up_ne (by omega)]; exact v3
    have w4 : inN (up R 154 (22 + m) x 154 (0 + 8 + m')) 10 := by rw [gR (0 + 8 + m') (by omega)]; exact v4
    exact ⟨w1, w2, w3, w4⟩
  · rw [gC (20 + 4) p (by omega), gR (0 + 29 + p) (by omega)]; exact s3 p hp
  · rw [gR 0 (by omega)]; exact s4
  · rw [gR (0 + 34) (by omega)]; exact d1
  · rw [gR (0 + 34) (by omega)]; exact d2
theorem Inv.psn (h : Inv C R L hb nr nd nm np nt na nb nu nx) {p : Nat} {x : Int32} (hp : p < np) (hx : inN x nr) : Inv (up C 24 p x) (up R 154 (29 + p) x) L hb nr nd nm np nt na nb nu nx := by
  obtain ⟨hB, -, -, ⟨s1, s2, s3, s4⟩, ⟨d1, d2⟩, -⟩ := id h
  obtain ⟨b1, b2, b3, b4, b5, b6, b7, b8, b9, b10, b11⟩ := id hB
  have gC : ∀ q j, q ≠ 24 → up C 24 p x q j = C q j := fun q j hq => up_ne (by omega)
  have gR : ∀ j, j ≠ 29 + p → up R 154 (29 + p) x 154 j = R 154 j := fun j hj => up_ne (by omega)
  refine h.now (fun q j hq => up_ne (by omega)) (fun q j hq => up_ne (by omega)) (fun _ _ _ => rfl) ⟨fun k' hk' => ?_, fun m hm => ?_, fun p' hp' => ?_, ?_⟩ ⟨?_, ?_⟩
  · rw [gC 20 k' (by omega), gR (0 + k') (by omega)]; exact s1 k' hk'
  · rw [gC (20 + 1) m (by omega), gC (20 + 2) m (by omega), gC (20 + 3) m (by omega), gR (0 + 8 + m) (by omega), gR (0 + 15 + m) (by omega), gR (0 + 22 + m) (by omega)]
    exact s2 m hm
  · by_cases e : p' = p
    · rw [e, show 0 + 29 + p = 29 + p by omega, up_self, show 20 + 4 = 24 from rfl, up_self]; exact ⟨rfl, hx⟩
    · rw [gR (0 + 29 + p') (by omega), up_ne (by omega)]; exact s3 p' hp'
  · rw [gR 0 (by omega)]; exact s4
  · rw [gR (0 + 34) (by omega)]; exact d1
  · rw [gR (0 + 34) (by omega)]; exact d2
theorem push_mk (h : Inv C R L hb nr nd nm np nt na nb nu nx) : Past_push [.ref 25, .ref 20] (mk C R L hb) = some (none, mk (puC C nu nx) R L hb) := by
  obtain ⟨hB, -, -, -, -, -, ⟨u1, u2, u3, u4⟩, -⟩ := id h
  obtain ⟨b1, b2, b3, b4, b5, b6, b7, b8, b9, b10, b11⟩ := id hB
  exact Past_push_eq u1 b10 u2 b9
theorem minds_mk {C' : Nat → Nat → Int32} (h : Inv C R L hb nr nd nm np nt na nb nu nx) : R_minds [.ref 153] (mk C' R L hb) = some (none, mk C' (mdR R nu) L hb) := by
  obtain ⟨hB, -, -, -, -, -, ⟨u1, u2, u3, u4⟩, -⟩ := id h
  exact R_minds_eq u3 hB.2.2.2.2.2.2.2.2.1
theorem c0_0 : ((0 : Int32) ≤ 0) = True := eq_true (by decide +kernel)
theorem c1_0 : (0 : Int32).toNatClampNeg = 0 := by decide +kernel
theorem c0_1 : ((0 : Int32) ≤ 1) = True := eq_true (by decide +kernel)
theorem c1_1 : (1 : Int32).toNatClampNeg = 1 := by decide +kernel
theorem c0_2 : ((0 : Int32) ≤ 2) = True := eq_true (by decide +kernel)
theorem c1_2 : (2 : Int32).toNatClampNeg = 2 := by decide +kernel
theorem c0_3 : ((0 : Int32) ≤ 3) = True := eq_true (by decide +kernel)
theorem c1_3 : (3 : Int32).toNatClampNeg = 3 := by decide +kernel
theorem c0_4 : ((0 : Int32) ≤ 4) = True := eq_true (by decide +kernel)
theorem c1_4 : (4 : Int32).toNatClampNeg = 4 := by decide +kernel
theorem c0_5 : ((0 : Int32) ≤ 5) = True := eq_true (by decide +kernel)
theorem c1_5 : (5 : Int32).toNatClampNeg = 5 := by decide +kernel
theorem c0_6 : ((0 : Int32) ≤ 6) = True := eq_true (by decide +kernel)
theorem c1_6 : (6 : Int32).toNatClampNeg = 6 := by decide +kernel
theorem c0_7 : ((0 : Int32) ≤ 7) = True := eq_true (by decide +kernel)
theorem c1_7 : (7 : Int32).toNatClampNeg = 7 := by decide +kernel
theorem c0_8 : ((0 : Int32) ≤ 8) = True := eq_true (by decide +kernel)
theorem c1_8 : (8 : Int32).toNatClampNeg = 8 := by decide +kernel
theorem c0_9 : ((0 : Int32) ≤ 9) = True := eq_true (by decide +kernel)
theorem c1_9 : (9 : Int32).toNatClampNeg = 9 := by decide +kernel
theorem c0_10 : ((0 : Int32) ≤ 10) = True := eq_true (by decide +kernel)
theorem c1_10 : (10 : Int32).toNatClampNeg = 10 := by decide +kernel
theorem c0_11 : ((0 : Int32) ≤ 11) = True := eq_true (by decide +kernel)
theorem c1_11 : (11 : Int32).toNatClampNeg = 11 := by decide +kernel
theorem c0_12 : ((0 : Int32) ≤ 12) = True := eq_true (by decide +kernel)
theorem c1_12 : (12 : Int32).toNatClampNeg = 12 := by decide +kernel
theorem c0_13 : ((0 : Int32) ≤ 13) = True := eq_true (by decide +kernel)
theorem c1_13 : (13 : Int32).toNatClampNeg = 13 := by decide +kernel
theorem c0_14 : ((0 : Int32) ≤ 14) = True := eq_true (by decide +kernel)
theorem c1_14 : (14 : Int32).toNatClampNeg = 14 := by decide +kernel
theorem c0_15 : ((0 : Int32) ≤ 15) = True := eq_true (by decide +kernel)
theorem c1_15 : (15 : Int32).toNatClampNeg = 15 := by decide +kernel
theorem c0_16 : ((0 : Int32) ≤ 16) = True := eq_true (by decide +kernel)
theorem c1_16 : (16 : Int32).toNatClampNeg = 16 := by decide +kernel
theorem c0_17 : ((0 : Int32) ≤ 17) = True := eq_true (by decide +kernel)
theorem c1_17 : (17 : Int32).toNatClampNeg = 17 := by decide +kernel
theorem c0_18 : ((0 : Int32) ≤ 18) = True := eq_true (by decide +kernel)
theorem c1_18 : (18 : Int32).toNatClampNeg = 18 := by decide +kernel
theorem c0_19 : ((0 : Int32) ≤ 19) = True := eq_true (by decide +kernel)
theorem c1_19 : (19 : Int32).toNatClampNeg = 19 := by decide +kernel
theorem c0_20 : ((0 : Int32) ≤ 20) = True := eq_true (by decide +kernel)
theorem c1_20 : (20 : Int32).toNatClampNeg = 20 := by decide +kernel
theorem c0_21 : ((0 : Int32) ≤ 21) = True := eq_true (by decide +kernel)
theorem c1_21 : (21 : Int32).toNatClampNeg = 21 := by decide +kernel
theorem c0_22 : ((0 : Int32) ≤ 22) = True := eq_true (by decide +kernel)
theorem c1_22 : (22 : Int32).toNatClampNeg = 22 := by decide +kernel
theorem c0_23 : ((0 : Int32) ≤ 23) = True := eq_true (by decide +kernel)
theorem c1_23 : (23 : Int32).toNatClampNeg = 23 := by decide +kernel
theorem c0_24 : ((0 : Int32) ≤ 24) = True := eq_true (by decide +kernel)
theorem c1_24 : (24 : Int32).toNatClampNeg = 24 := by decide +kernel
theorem c0_25 : ((0 : Int32) ≤ 25) = True := eq_true (by decide +kernel)
theorem c1_25 : (25 : Int32).toNatClampNeg = 25 := by decide +kernel
theorem c0_26 : ((0 : Int32) ≤ 26) = True := eq_true (by decide +kernel)
theorem c1_26 : (26 : Int32).toNatClampNeg = 26 := by decide +kernel
theorem c0_27 : ((0 : Int32) ≤ 27) = True := eq_true (by decide +kernel)
theorem c1_27 : (27 : Int32).toNatClampNeg = 27 := by decide +kernel
theorem c0_28 : ((0 : Int32) ≤ 28) = True := eq_true (by decide +kernel)
theorem c1_28 : (28 : Int32).toNatClampNeg = 28 := by decide +kernel
theorem c0_29 : ((0 : Int32) ≤ 29) = True := eq_true (by decide +kernel)
theorem c1_29 : (29 : Int32).toNatClampNeg = 29 := by decide +kernel
theorem c0_30 : ((0 : Int32) ≤ 30) = True := eq_true (by decide +kernel)
theorem c1_30 : (30 : Int32).toNatClampNeg = 30 := by decide +kernel
theorem c0_31 : ((0 : Int32) ≤ 31) = True := eq_true (by decide +kernel)
theorem c1_31 : (31 : Int32).toNatClampNeg = 31 := by decide +kernel
theorem c0_32 : ((0 : Int32) ≤ 32) = True := eq_true (by decide +kernel)
theorem c1_32 : (32 : Int32).toNatClampNeg = 32 := by decide +kernel
theorem c0_33 : ((0 : Int32) ≤ 33) = True := eq_true (by decide +kernel)
theorem c1_33 : (33 : Int32).toNatClampNeg = 33 := by decide +kernel
theorem c0_34 : ((0 : Int32) ≤ 34) = True := eq_true (by decide +kernel)
theorem c1_34 : (34 : Int32).toNatClampNeg = 34 := by decide +kernel
theorem op_envelope (h : InvE C R L hb) (x : Int32) : Op G_envelope R_envelope [.int x] C R L hb := by
  obtain ⟨nr, nd, nm, np, nt, na, nb, nu, nx, h⟩ := id h
  obtain ⟨hB, ⟨⟨c1, c2, c3, c4⟩, ⟨r1, r2, r3, r4⟩, hdo, hmi, hbr⟩, ⟨t1, t2, t3, t4⟩, ⟨s1, s2, s3, s4⟩, hD, hI, ⟨u1, u2, u3, u4⟩, ⟨a1, a2, a3⟩, ⟨k1, k2, k3⟩⟩ := id h
  obtain ⟨b1, b2, b3, b4, b5, b6, b7, b8, b9, b10, b11⟩ := id hB
  have hh : isHo hb := b1
  obtain ⟨o0, p1, p2, p3, p4, p5, p6, p7, o1, o2, o3, o4, o5, o6, o7⟩ := ho_facts hh
  obtain ⟨l0, l1, l2, l3, l4, l5, l6, l7⟩ := ho_lt hh
  by_cases hx : inN x 10
  · obtain ⟨k, hk, rfl⟩ := inN_of (by omega) hx
    have hp := h.push
    have g3 := (hp.2.2.2.1).1 1 (by omega)
    refine ⟨sb (mdR R nu 154 1) k, _, _, _, _, ?_, ?_, (hp.set (k := 1) (x := sb (mdR R nu 154 1) k) (by omega) (fun e => absurd e (by omega))).e⟩
    · simp only [x_G_envelope, G_envelope_b0, e_ci, e_cl, e_cn, e_il, e_ll, e_al, e_is, e_as, e_asn, e_ls, e_ii, e_pop, e_dupi, e_dupr, e_dup2r, e_dup2i, e_b, e_bd, e_lb, e_lbd, e_i2l, e_l2i, e_lcmp, e_ifeq, e_iflt, e_ifge, e_ifgt, e_ifle, e_cmeq, e_cmlt, e_cmge, e_cmgt, e_cmle, e_nulln, e_nullr, e_sw, e_swn, e_swc, e_gi, e_gl, e_gp, e_pi, e_pz, e_pl, e_pp, e_ald, e_zld, e_qld, e_ast, e_zst, e_qst, e_len, e_cs, e_cv, e_cn0, e_obj, e_max, e_min, e_ri, e_rz, e_rq, e_rqn, e_rv, e_rfs, e_rfn, e_mS_uI, e_mZ_uI, e_mT_uI, e_mI_uI, e_mL_uI, e_mP_uI, e_mS_uL, e_mZ_uL, e_mT_uL, e_mI_uL, e_mL_uL, e_mP_uL, e_mS_uP, e_mZ_uP, e_mT_uP, e_mI_uP, e_mL_uP, e_mP_uP, lg, lset, ak_ok1, ak_pop, ak_s4, Option.toList_some, Option.toList_none, List.cons_append, List.nil_append, if_true, ite_true, ite_false, ↓reduceIte, Nat.reduceAdd, Nat.reduceEqDiff, and_true, true_and, and_self, i_00, i_11, i_01, i_10, or_true, true_or, false_or, or_false, mS_mk, mL_mk, mI_mk, mP_11, mP_12, uI_mk, uL_mk, shp_1, shp_2, shp_3, shp_4, shp_5, shp_6, shp_7, shp_8, shp_9, shp_10, shp_11, shp_12, shp_13, shp_14, shp_15, shp_16, shp_17, shp_18, shp_19, shp_20, shp_21, shp_22, shp_23, shp_24, shp_25, shp_26, shp_27, shp_28, shp_29, shp_30, shp_31, shp_32, shp_33, shp_34, shp_35, shp_36, shp_37, shp_38, shp_39, shp_40, shp_41, shp_42, shp_43, shp_44, shp_45, shp_46, shp_47, shp_48, shp_49, shp_50, shp_51, shp_52, shp_53, shp_54, shp_55, shp_56, shp_57, shp_58, shp_59, shp_60, shp_61, shp_62, shp_63, shp_64, shp_65, shp_66, shp_67, shp_68, shp_69, shp_70, shp_71, shp_72, shp_73, shp_74, shp_75, shp_76, shp_77, shp_78, shp_79, shp_80, shp_81, shp_82, shp_83, shp_84, shp_85, shp_86, shp_87, shp_88, shp_89, shp_90, shp_91, shp_92, shp_93, shp_94, shp_95, shp_96, shp_97, shp_98, shp_99, shp_100, shp_101, shp_102, shp_103, shp_104, shp_105, shp_106, shp_107, shp_108, shp_109, shp_110, shp_111, shp_112, shp_113, shp_114, shp_115, shp_116, shp_117, shp_118, shp_119, shp_120, shp_121, shp_122, shp_123, shp_124, shp_125, shp_126, shp_127, shp_128, shp_129, shp_130, shp_131, shp_132, shp_133, shp_134, shp_135, shp_136, shp_137, shp_138, shp_139, shp_140, shp_141, shp_142, shp_143, shp_144, shp_145, shp_146, shp_147, shp_148, shp_149, shp_150, shp_151, shp_152, shp_153, shp_154, shp_155, shp_156, shp_157, shp_158, shp_159, shp_160, shp_161, shp_162, shp_163, shp_164, shp_165, shp_166, shp_167, shp_168, shp_169, shp_170, shp_171, shp_172, shp_173, shp_174, shp_175, shp_176, ptr_1_0, ptr_1_3, ptr_1_4, ptr_1_5, ptr_1_6, ptr_1_7, ptr_1_8, ptr_1_9, ptr_1_10, ptr_2_0, ptr_4_5, ptr_4_6, ptr_4_7, ptr_4_8, ptr_4_9, ptr_4_10, ptr_4_11, ptr_12_5, ptr_12_6, ptr_12_7, ptr_12_8, ptr_12_9, ptr_12_10, ptr_12_11, ptr_20_8, ptr_20_9, ptr_20_10, ptr_20_11, ptr_25_0, ptr_26_0, ptr_26_1, ptr_26_2, ptr_26_3, ptr_26_4, ptr_26_5, ptr_26_6, ptr_26_7, ptr_26_8, ptr_26_9, ptr_26_10, ptr_26_11, ptr_26_12, ptr_26_13, ptr_26_14, ptr_26_15, ptr_26_16, ptr_26_17, ptr_26_18, ptr_26_19, ptr_27_8, ptr_27_9, ptr_27_10, ptr_27_11, ptr_32_8, ptr_32_9, ptr_32_10, ptr_32_11, ptr_37_8, ptr_37_9, ptr_37_10, ptr_37_11, ptr_42_8, ptr_42_9, ptr_42_10, ptr_42_11, ptr_47_8, ptr_47_9, ptr_47_10, ptr_47_11, ptr_52_8, ptr_52_9, ptr_52_10, ptr_52_11, ptr_57_8, ptr_57_9, ptr_57_10, ptr_57_11, ptr_62_8, ptr_62_9, ptr_62_10, ptr_62_11, ptr_67_8, ptr_67_9, ptr_67_10, ptr_67_11, ptr_72_8, ptr_72_9, ptr_72_10, ptr_72_11, ptr_77_8, ptr_77_9, ptr_77_10, ptr_77_11, ptr_82_8, ptr_82_9, ptr_82_10, ptr_82_11, ptr_87_8, ptr_87_9, ptr_87_10, ptr_87_11, ptr_92_8, ptr_92_9, ptr_92_10, ptr_92_11, ptr_97_8, ptr_97_9, ptr_97_10, ptr_97_11, ptr_102_8, ptr_102_9, ptr_102_10, ptr_102_11, ptr_107_8, ptr_107_9, ptr_107_10, ptr_107_11, ptr_112_8, ptr_112_9, ptr_112_10, ptr_112_11, ptr_117_8, ptr_117_9, ptr_117_10, ptr_117_11, ptr_122_8, ptr_122_9, ptr_122_10, ptr_122_11, ptr_127_0, ptr_128_8, ptr_128_9, ptr_128_10, ptr_128_11, ptr_133_0, ptr_134_8, ptr_134_9, ptr_134_10, ptr_134_11, ptr_139_0, ptr_139_1, ptr_139_2, ptr_139_3, ptr_144_0, ptr_144_1, ptr_144_2, ptr_144_3, ptr_149_0, ptr_149_1, ptr_153_0, ptr_153_1, ptr_153_7, ptr_153_8, ptr_153_9, ptr_153_10, ptr_153_11, ptr_153_12, ptr_153_13, ptr_153_25, ptr_153_26, ptr_153_27, ptr_153_28, ptr_153_29, ptr_153_30, ptr_153_31, ptr_153_32, ptr_153_33, ptr_153_35, ptr_153_36, ptr_153_37, ptr_153_39, ptr_153_40, mP_mk, Nat.reduceLT, and_false, false_and, o0, p1, p2, p3, p4, p5, p6, p7, l0, l1, l2, l3, l4, l5, l6, l7, G_isName_y hx, push_mk h, g3, G_with_t (M := mk (puC C nu nx) R L hb) (s := mdR R nu 154 (0 + 1)) (k := k) (by omega), up_self]
    · simp only [x_R_envelope, R_envelope_b0, e_ci, e_cl, e_cn, e_il, e_ll, e_al, e_is, e_as, e_asn, e_ls, e_ii, e_pop, e_dupi, e_dupr, e_dup2r, e_dup2i, e_b, e_bd, e_lb, e_lbd, e_i2l, e_l2i, e_lcmp, e_ifeq, e_iflt, e_ifge, e_ifgt, e_ifle, e_cmeq, e_cmlt, e_cmge, e_cmgt, e_cmle, e_nulln, e_nullr, e_sw, e_swn, e_swc, e_gi, e_gl, e_gp, e_pi, e_pz, e_pl, e_pp, e_ald, e_zld, e_qld, e_ast, e_zst, e_qst, e_len, e_cs, e_cv, e_cn0, e_obj, e_max, e_min, e_ri, e_rz, e_rq, e_rqn, e_rv, e_rfs, e_rfn, e_mS_uI, e_mZ_uI, e_mT_uI, e_mI_uI, e_mL_uI, e_mP_uI, e_mS_uL, e_mZ_uL, e_mT_uL, e_mI_uL, e_mL_uL, e_mP_uL, e_mS_uP, e_mZ_uP, e_mT_uP, e_mI_uP, e_mL_uP, e_mP_uP, lg, lset, ak_ok1, ak_pop, ak_s4, Option.toList_some, Option.toList_none, List.cons_append, List.nil_append, if_true, ite_true, ite_false, ↓reduceIte, Nat.reduceAdd, Nat.reduceEqDiff, and_true, true_and, and_self, i_00, i_11, i_01, i_10, or_true, true_or, false_or, or_false, mS_mk, mL_mk, mI_mk, mP_11, mP_12, uI_mk, uL_mk, shp_1, shp_2, shp_3, shp_4, shp_5, shp_6, shp_7, shp_8, shp_9, shp_10, shp_11, shp_12, shp_13, shp_14, shp_15, shp_16, shp_17, shp_18, shp_19, shp_20, shp_21, shp_22, shp_23, shp_24, shp_25, shp_26, shp_27, shp_28, shp_29, shp_30, shp_31, shp_32, shp_33, shp_34, shp_35, shp_36, shp_37, shp_38, shp_39, shp_40, shp_41, shp_42, shp_43, shp_44, shp_45, shp_46, shp_47, shp_48, shp_49, shp_50, shp_51, shp_52, shp_53, shp_54, shp_55, shp_56, shp_57, shp_58, shp_59, shp_60, shp_61, shp_62, shp_63, shp_64, shp_65, shp_66, shp_67, shp_68, shp_69, shp_70, shp_71, shp_72, shp_73, shp_74, shp_75, shp_76, shp_77, shp_78, shp_79, shp_80, shp_81, shp_82, shp_83, shp_84, shp_85, shp_86, shp_87, shp_88, shp_89, shp_90, shp_91, shp_92, shp_93, shp_94, shp_95, shp_96, shp_97, shp_98, shp_99, shp_100, shp_101, shp_102, shp_103, shp_104, shp_105, shp_106, shp_107, shp_108, shp_109, shp_110, shp_111, shp_112, shp_113, shp_114, shp_115, shp_116, shp_117, shp_118, shp_119, shp_120, shp_121, shp_122, shp_123, shp_124, shp_125, shp_126, shp_127, shp_128, shp_129, shp_130, shp_131, shp_132, shp_133, shp_134, shp_135, shp_136, shp_137, shp_138, shp_139, shp_140, shp_141, shp_142, shp_143, shp_144, shp_145, shp_146, shp_147, shp_148, shp_149, shp_150, shp_151, shp_152, shp_153, shp_154, shp_155, shp_156, shp_157, shp_158, shp_159, shp_160, shp_161, shp_162, shp_163, shp_164, shp_165, shp_166, shp_167, shp_168, shp_169, shp_170, shp_171, shp_172, shp_173, shp_174, shp_175, shp_176, ptr_1_0, ptr_1_3, ptr_1_4, ptr_1_5, ptr_1_6, ptr_1_7, ptr_1_8, ptr_1_9, ptr_1_10, ptr_2_0, ptr_4_5, ptr_4_6, ptr_4_7, ptr_4_8, ptr_4_9, ptr_4_10, ptr_4_11, ptr_12_5, ptr_12_6, ptr_12_7, ptr_12_8, ptr_12_9, ptr_12_10, ptr_12_11, ptr_20_8, ptr_20_9, ptr_20_10, ptr_20_11, ptr_25_0, ptr_26_0, ptr_26_1, ptr_26_2, ptr_26_3, ptr_26_4, ptr_26_5, ptr_26_6, ptr_26_7, ptr_26_8, ptr_26_9, ptr_26_10, ptr_26_11, ptr_26_12, ptr_26_13, ptr_26_14, ptr_26_15, ptr_26_16, ptr_26_17, ptr_26_18, ptr_26_19, ptr_27_8, ptr_27_9, ptr_27_10, ptr_27_11, ptr_32_8, ptr_32_9, ptr_32_10, ptr_32_11, ptr_37_8, ptr_37_9, ptr_37_10, ptr_37_11, ptr_42_8, ptr_42_9, ptr_42_10, ptr_42_11, ptr_47_8, ptr_47_9, ptr_47_10, ptr_47_11, ptr_52_8, ptr_52_9, ptr_52_10, ptr_52_11, ptr_57_8, ptr_57_9, ptr_57_10, ptr_57_11, ptr_62_8, ptr_62_9, ptr_62_10, ptr_62_11, ptr_67_8, ptr_67_9, ptr_67_10, ptr_67_11, ptr_72_8, ptr_72_9, ptr_72_10, ptr_72_11, ptr_77_8, ptr_77_9, ptr_77_10, ptr_77_11, ptr_82_8, ptr_82_9, ptr_82_10, ptr_82_11, ptr_87_8, ptr_87_9, ptr_87_10, ptr_87_11, ptr_92_8, ptr_92_9, ptr_92_10, ptr_92_11, ptr_97_8, ptr_97_9, ptr_97_10, ptr_97_11, ptr_102_8, ptr_102_9, ptr_102_10, ptr_102_11, ptr_107_8, ptr_107_9, ptr_107_10, ptr_107_11, ptr_112_8, ptr_112_9, ptr_112_10, ptr_112_11, ptr_117_8, ptr_117_9, ptr_117_10, ptr_117_11, ptr_122_8, ptr_122_9, ptr_122_10, ptr_122_11, ptr_127_0, ptr_128_8, ptr_128_9, ptr_128_10, ptr_128_11, ptr_133_0, ptr_134_8, ptr_134_9, ptr_134_10, ptr_134_11, ptr_139_0, ptr_139_1, ptr_139_2, ptr_139_3, ptr_144_0, ptr_144_1, ptr_144_2, ptr_144_3, ptr_149_0, ptr_149_1, ptr_153_0, ptr_153_1, ptr_153_7, ptr_153_8, ptr_153_9, ptr_153_10, ptr_153_11, ptr_153_12, ptr_153_13, ptr_153_25, ptr_153_26, ptr_153_27, ptr_153_28, ptr_153_29, ptr_153_30, ptr_153_31, ptr_153_32, ptr_153_33, ptr_153_35, ptr_153_36, ptr_153_37, ptr_153_39, ptr_153_40, mP_mk, Nat.reduceLT, and_false, false_and, c0_0, c1_0, c0_1, c1_1, c0_2, c1_2, c0_3, c1_3, c0_4, c1_4, c0_5, c1_5, c0_6, c1_6, c0_7, c1_7, c0_8, c1_8, c0_9, c1_9, c0_10, c1_10, c0_11, c1_11, c0_12, c1_12, c0_13, c1_13, c0_14, c1_14, c0_15, c1_15, c0_16, c1_16, c0_17, c1_17, c0_18, c1_18, c0_19, c1_19, c0_20, c1_20, c0_21, c1_21, c0_22, c1_22, c0_23, c1_23, c0_24, c1_24, c0_25, c1_25, c0_26, c1_26, c0_27, c1_27, c0_28, c1_28, c0_29, c1_29, c0_30, c1_30, c0_31, c1_31, c0_32, c1_32, c0_33, c1_33, c0_34, c1_34, R_isName_y hx, minds_mk h, up_self]
      rfl
  · refine Op.same h.e (-1000000001) ?_ ?_
    · simp only [x_G_envelope, G_envelope_b0, e_ci, e_cl, e_cn, e_il, e_ll, e_al, e_is, e_as, e_asn, e_ls, e_ii, e_pop, e_dupi, e_dupr, e_dup2r, e_dup2i, e_b, e_bd, e_lb, e_lbd, e_i2l, e_l2i, e_lcmp, e_ifeq, e_iflt, e_ifge, e_ifgt, e_ifle, e_cmeq, e_cmlt, e_cmge, e_cmgt, e_cmle, e_nulln, e_nullr, e_sw, e_swn, e_swc, e_gi, e_gl, e_gp, e_pi, e_pz, e_pl, e_pp, e_ald, e_zld, e_qld, e_ast, e_zst, e_qst, e_len, e_cs, e_cv, e_cn0, e_obj, e_max, e_min, e_ri, e_rz, e_rq, e_rqn, e_rv, e_rfs, e_rfn, e_mS_uI, e_mZ_uI, e_mT_uI, e_mI_uI, e_mL_uI, e_mP_uI, e_mS_uL, e_mZ_uL, e_mT_uL, e_mI_uL, e_mL_uL, e_mP_uL, e_mS_uP, e_mZ_uP, e_mT_uP, e_mI_uP, e_mL_uP, e_mP_uP, lg, lset, ak_ok1, ak_pop, ak_s4, Option.toList_some, Option.toList_none, List.cons_append, List.nil_append, if_true, ite_true, ite_false, ↓reduceIte, Nat.reduceAdd, Nat.reduceEqDiff, and_true, true_and, and_self, i_00, i_11, i_01, i_10, or_true, true_or, false_or, or_false, mS_mk, mL_mk, mI_mk, mP_11, mP_12, uI_mk, uL_mk, shp_1, shp_2, shp_3, shp_4, shp_5, shp_6, shp_7, shp_8, shp_9, shp_10, shp_11, shp_12, shp_13, shp_14, shp_15, shp_16, shp_17, shp_18, shp_19, shp_20, shp_21, shp_22, shp_23, shp_24, shp_25, shp_26, shp_27, shp_28, shp_29, shp_30, shp_31, shp_32, shp_33, shp_34, shp_35, shp_36, shp_37, shp_38, shp_39, shp_40, shp_41, shp_42, shp_43, shp_44, shp_45, shp_46, shp_47, shp_48, shp_49, shp_50, shp_51, shp_52, shp_53, shp_54, shp_55, shp_56, shp_57, shp_58, shp_59, shp_60, shp_61, shp_62, shp_63, shp_64, shp_65, shp_66, shp_67, shp_68, shp_69, shp_70, shp_71, shp_72, shp_73, shp_74, shp_75, shp_76, shp_77, shp_78, shp_79, shp_80, shp_81, shp_82, shp_83, shp_84, shp_85, shp_86, shp_87, shp_88, shp_89, shp_90, shp_91, shp_92, shp_93, shp_94, shp_95, shp_96, shp_97, shp_98, shp_99, shp_100, shp_101, shp_102, shp_103, shp_104, shp_105, shp_106, shp_107, shp_108, shp_109, shp_110, shp_111, shp_112, shp_113, shp_114, shp_115, shp_116, shp_117, shp_118, shp_119, shp_120, shp_121, shp_122, shp_123, shp_124, shp_125, shp_126, shp_127, shp_128, shp_129, shp_130, shp_131, shp_132, shp_133, shp_134, shp_135, shp_136, shp_137, shp_138, shp_139, shp_140, shp_141, shp_142, shp_143, shp_144, shp_145, shp_146, shp_147, shp_148, shp_149, shp_150, shp_151, shp_152, shp_153, shp_154, shp_155, shp_156, shp_157, shp_158, shp_159, shp_160, shp_161, shp_162, shp_163, shp_164, shp_165, shp_166, shp_167, shp_168, shp_169, shp_170, shp_171, shp_172, shp_173, shp_174, shp_175, shp_176, ptr_1_0, ptr_1_3, ptr_1_4, ptr_1_5, ptr_1_6, ptr_1_7, ptr_1_8, ptr_1_9, ptr_1_10, ptr_2_0, ptr_4_5, ptr_4_6, ptr_4_7, ptr_4_8, ptr_4_9, ptr_4_10, ptr_4_11, ptr_12_5, ptr_12_6, ptr_12_7, ptr_12_8, ptr_12_9, ptr_12_10, ptr_12_11, ptr_20_8, ptr_20_9, ptr_20_10, ptr_20_11, ptr_25_0, ptr_26_0, ptr_26_1, ptr_26_2, ptr_26_3, ptr_26_4, ptr_26_5, ptr_26_6, ptr_26_7, ptr_26_8, ptr_26_9, ptr_26_10, ptr_26_11, ptr_26_12, ptr_26_13, ptr_26_14, ptr_26_15, ptr_26_16, ptr_26_17, ptr_26_18, ptr_26_19, ptr_27_8, ptr_27_9, ptr_27_10, ptr_27_11, ptr_32_8, ptr_32_9, ptr_32_10, ptr_32_11, ptr_37_8, ptr_37_9, ptr_37_10, ptr_37_11, ptr_42_8, ptr_42_9, ptr_42_10, ptr_42_11, ptr_47_8, ptr_47_9, ptr_47_10, ptr_47_11, ptr_52_8, ptr_52_9, ptr_52_10, ptr_52_11, ptr_57_8, ptr_57_9, ptr_57_10, ptr_57_11, ptr_62_8, ptr_62_9, ptr_62_10, ptr_62_11, ptr_67_8, ptr_67_9, ptr_67_10, ptr_67_11, ptr_72_8, ptr_72_9, ptr_72_10, ptr_72_11, ptr_77_8, ptr_77_9, ptr_77_10, ptr_77_11, ptr_82_8, ptr_82_9, ptr_82_10, ptr_82_11, ptr_87_8, ptr_87_9, ptr_87_10, ptr_87_11, ptr_92_8, ptr_92_9, ptr_92_10, ptr_92_11, ptr_97_8, ptr_97_9, ptr_97_10, ptr_97_11, ptr_102_8, ptr_102_9, ptr_102_10, ptr_102_11, ptr_107_8, ptr_107_9, ptr_107_10, ptr_107_11, ptr_112_8, ptr_112_9, ptr_112_10, ptr_112_11, ptr_117_8, ptr_117_9, ptr_117_10, ptr_117_11, ptr_122_8, ptr_122_9, ptr_122_10, ptr_122_11, ptr_127_0, ptr_128_8, ptr_128_9, ptr_128_10, ptr_128_11, ptr_133_0, ptr_134_8, ptr_134_9, ptr_134_10, ptr_134_11, ptr_139_0, ptr_139_1, ptr_139_2, ptr_139_3, ptr_144_0, ptr_144_1, ptr_144_2, ptr_144_3, ptr_149_0, ptr_149_1, ptr_153_0, ptr_153_1, ptr_153_7, ptr_153_8, ptr_153_9, ptr_153_10, ptr_153_11, ptr_153_12, ptr_153_13, ptr_153_25, ptr_153_26, ptr_153_27, ptr_153_28, ptr_153_29, ptr_153_30, ptr_153_31, ptr_153_32, ptr_153_33, ptr_153_35, ptr_153_36, ptr_153_37, ptr_153_39, ptr_153_40, mP_mk, Nat.reduceLT, and_false, false_and, o0, p1, p2, p3, p4, p5, p6, p7, l0, l1, l2, l3, l4, l5, l6, l7, G_isName_n hx]
    · simp only [x_R_envelope, R_envelope_b0, e_ci, e_cl, e_cn, e_il, e_ll, e_al, e_is, e_as, e_asn, e_ls, e_ii, e_pop, e_dupi, e_dupr, e_dup2r, e_dup2i, e_b, e_bd, e_lb, e_lbd, e_i2l, e_l2i, e_lcmp, e_ifeq, e_iflt, e_ifge, e_ifgt, e_ifle, e_cmeq, e_cmlt, e_cmge, e_cmgt, e_cmle, e_nulln, e_nullr, e_sw, e_swn, e_swc, e_gi, e_gl, e_gp, e_pi, e_pz, e_pl, e_pp, e_ald, e_zld, e_qld, e_ast, e_zst, e_qst, e_len, e_cs, e_cv, e_cn0, e_obj, e_max, e_min, e_ri, e_rz, e_rq, e_rqn, e_rv, e_rfs, e_rfn, e_mS_uI, e_mZ_uI, e_mT_uI, e_mI_uI, e_mL_uI, e_mP_uI, e_mS_uL, e_mZ_uL, e_mT_uL, e_mI_uL, e_mL_uL, e_mP_uL, e_mS_uP, e_mZ_uP, e_mT_uP, e_mI_uP, e_mL_uP, e_mP_uP, lg, lset, ak_ok1, ak_pop, ak_s4, Option.toList_some, Option.toList_none, List.cons_append, List.nil_append, if_true, ite_true, ite_false, ↓reduceIte, Nat.reduceAdd, Nat.reduceEqDiff, and_true, true_and, and_self, i_00, i_11, i_01, i_10, or_true, true_or, false_or, or_false, mS_mk, mL_mk, mI_mk, mP_11, mP_12, uI_mk, uL_mk, shp_1, shp_2, shp_3, shp_4, shp_5, shp_6, shp_7, shp_8, shp_9, shp_10, shp_11, shp_12, shp_13, shp_14, shp_15, shp_16, shp_17, shp_18, shp_19, shp_20, shp_21, shp_22, shp_23, shp_24, shp_25, shp_26, shp_27, shp_28, shp_29, shp_30, shp_31, shp_32, shp_33, shp_34, shp_35, shp_36, shp_37, shp_38, shp_39, shp_40, shp_41, shp_42, shp_43, shp_44, shp_45, shp_46, shp_47, shp_48, shp_49, shp_50, shp_51, shp_52, shp_53, shp_54, shp_55, shp_56, shp_57, shp_58, shp_59, shp_60, shp_61, shp_62, shp_63, shp_64, shp_65, shp_66, shp_67, shp_68, shp_69, shp_70, shp_71, shp_72, shp_73, shp_74, shp_75, shp_76, shp_77, shp_78, shp_79, shp_80, shp_81, shp_82, shp_83, shp_84, shp_85, shp_86, shp_87, shp_88, shp_89, shp_90, shp_91, shp_92, shp_93, shp_94, shp_95, shp_96, shp_97, shp_98, shp_99, shp_100, shp_101, shp_102, shp_103, shp_104, shp_105, shp_106, shp_107, shp_108, shp_109, shp_110, shp_111, shp_112, shp_113, shp_114, shp_115, shp_116, shp_117, shp_118, shp_119, shp_120, shp_121, shp_122, shp_123, shp_124, shp_125, shp_126, shp_127, shp_128, shp_129, shp_130, shp_131, shp_132, shp_133, shp_134, shp_135, shp_136, shp_137, shp_138, shp_139, shp_140, shp_141, shp_142, shp_143, shp_144, shp_145, shp_146, shp_147, shp_148, shp_149, shp_150, shp_151, shp_152, shp_153, shp_154, shp_155, shp_156, shp_157, shp_158, shp_159, shp_160, shp_161, shp_162, shp_163, shp_164, shp_165, shp_166, shp_167, shp_168, shp_169, shp_170, shp_171, shp_172, shp_173, shp_174, shp_175, shp_176, ptr_1_0, ptr_1_3, ptr_1_4, ptr_1_5, ptr_1_6, ptr_1_7, ptr_1_8, ptr_1_9, ptr_1_10, ptr_2_0, ptr_4_5, ptr_4_6, ptr_4_7, ptr_4_8, ptr_4_9, ptr_4_10, ptr_4_11, ptr_12_5, ptr_12_6, ptr_12_7, ptr_12_8, ptr_12_9, ptr_12_10, ptr_12_11, ptr_20_8, ptr_20_9, ptr_20_10, ptr_20_11, ptr_25_0, ptr_26_0, ptr_26_1, ptr_26_2, ptr_26_3, ptr_26_4, ptr_26_5, ptr_26_6, ptr_26_7, ptr_26_8, ptr_26_9, ptr_26_10, ptr_26_11, ptr_26_12, ptr_26_13, ptr_26_14, ptr_26_15, ptr_26_16, ptr_26_17, ptr_26_18, ptr_26_19, ptr_27_8, ptr_27_9, ptr_27_10, ptr_27_11, ptr_32_8, ptr_32_9, ptr_32_10, ptr_32_11, ptr_37_8, ptr_37_9, ptr_37_10, ptr_37_11, ptr_42_8, ptr_42_9, ptr_42_10, ptr_42_11, ptr_47_8, ptr_47_9, ptr_47_10, ptr_47_11, ptr_52_8, ptr_52_9, ptr_52_10, ptr_52_11, ptr_57_8, ptr_57_9, ptr_57_10, ptr_57_11, ptr_62_8, ptr_62_9, ptr_62_10, ptr_62_11, ptr_67_8, ptr_67_9, ptr_67_10, ptr_67_11, ptr_72_8, ptr_72_9, ptr_72_10, ptr_72_11, ptr_77_8, ptr_77_9, ptr_77_10, ptr_77_11, ptr_82_8, ptr_82_9, ptr_82_10, ptr_82_11, ptr_87_8, ptr_87_9, ptr_87_10, ptr_87_11, ptr_92_8, ptr_92_9, ptr_92_10, ptr_92_11, ptr_97_8, ptr_97_9, ptr_97_10, ptr_97_11, ptr_102_8, ptr_102_9, ptr_102_10, ptr_102_11, ptr_107_8, ptr_107_9, ptr_107_10, ptr_107_11, ptr_112_8, ptr_112_9, ptr_112_10, ptr_112_11, ptr_117_8, ptr_117_9, ptr_117_10, ptr_117_11, ptr_122_8, ptr_122_9, ptr_122_10, ptr_122_11, ptr_127_0, ptr_128_8, ptr_128_9, ptr_128_10, ptr_128_11, ptr_133_0, ptr_134_8, ptr_134_9, ptr_134_10, ptr_134_11, ptr_139_0, ptr_139_1, ptr_139_2, ptr_139_3, ptr_144_0, ptr_144_1, ptr_144_2, ptr_144_3, ptr_149_0, ptr_149_1, ptr_153_0, ptr_153_1, ptr_153_7, ptr_153_8, ptr_153_9, ptr_153_10, ptr_153_11, ptr_153_12, ptr_153_13, ptr_153_25, ptr_153_26, ptr_153_27, ptr_153_28, ptr_153_29, ptr_153_30, ptr_153_31, ptr_153_32, ptr_153_33, ptr_153_35, ptr_153_36, ptr_153_37, ptr_153_39, ptr_153_40, mP_mk, Nat.reduceLT, and_false, false_and, R_isName_n hx]
end P27
