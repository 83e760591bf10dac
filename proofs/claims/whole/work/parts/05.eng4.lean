/-! ===== THE ABSTRACT MACHINE, 4: arrays, new cells ===== -/
section EK6
variable {D : va_G} {cA : Nat → ClassId} {b B0 : Nat} {M M' : ak_M} {H H' : Heap} {a n : Nat}
theorem ak_cell.a1 (ha : mS M a = (1, n)) (h : H[B0 + a]? = some (arrV (cA 1) n (fun j => .int (mI M a j)))) : ak_cell D cA b B0 M H a := by
  refine ⟨fun e => (by rw [ha]; exact h), fun e => (by rw [ha] at e; cases e), fun e => (by rw [ha] at e; cases e), fun i r e hr => (by rw [ha] at e; exact absurd e (by show ¬ 1 = 10 + i; omega))⟩
theorem ak_cell.a2 (ha : mS M a = (2, n)) (h : H[B0 + a]? = some (arrV (cA 2) n (fun j => .int (mI M a j)))) : ak_cell D cA b B0 M H a := by
  refine ⟨fun e => (by rw [ha] at e; cases e), fun e => (by rw [ha]; exact h), fun e => (by rw [ha] at e; cases e), fun i r e hr => (by rw [ha] at e; exact absurd e (by show ¬ 2 = 10 + i; omega))⟩
theorem ak_cell.a3 (ha : mS M a = (3, n)) (h : H[B0 + a]? = some (arrV (cA 3) n (fun j => va_rf ((mP M a j).map (ak_ad b B0))))) : ak_cell D cA b B0 M H a := by
  refine ⟨fun e => (by rw [ha] at e; cases e), fun e => (by rw [ha] at e; cases e), fun e => (by rw [ha]; exact h), fun i r e hr => (by rw [ha] at e; exact absurd e (by show ¬ 3 = 10 + i; omega))⟩
end EK6
def ak_ix (i : Int32) (n : Nat) : Prop := ¬ (i < 0 ∨ n ≤ i.toNatClampNeg)
def k_ald (k : ak_K) : ak_K := fun lo st M => match st with
  | .int i :: .ref a :: st' => if (mS M a).1 = 1 ∧ 0 ≤ i ∧ i.toNatClampNeg < (mS M a).2 then k lo (.int (mI M a i.toNatClampNeg) :: st') M else none
  | _ => none
def k_zld (k : ak_K) : ak_K := fun lo st M => match st with
  | .int i :: .ref a :: st' => if (mS M a).1 = 2 ∧ 0 ≤ i ∧ i.toNatClampNeg < (mS M a).2 then k lo (.int (mI M a i.toNatClampNeg) :: st') M else none
  | _ => none
def k_qld (k : ak_K) : ak_K := fun lo st M => match st with
  | .int i :: .ref a :: st' => if (mS M a).1 = 3 ∧ 0 ≤ i ∧ i.toNatClampNeg < (mS M a).2 then k lo (va_rf (mP M a i.toNatClampNeg) :: st') M else none
  | _ => none
def k_ast (k : ak_K) : ak_K := fun lo st M => match st with
  | .int x :: .int i :: .ref a :: st' => if (mS M a).1 = 1 ∧ 0 ≤ i ∧ i.toNatClampNeg < (mS M a).2 then k lo st' (uI M a i.toNatClampNeg x) else none
  | _ => none
def k_zst (k : ak_K) : ak_K := fun lo st M => match st with
  | .int x :: .int i :: .ref a :: st' => if ((mS M a).1 = 2 ∧ 0 ≤ i ∧ i.toNatClampNeg < (mS M a).2) ∧ (x = 0 ∨ x = 1) then k lo st' (uI M a i.toNatClampNeg x) else none
  | _ => none
def k_qst (k : ak_K) : ak_K := fun lo st M => match st with
  | .ref x :: .int i :: .ref a :: st' => if ((mS M a).1 = 3 ∧ 0 ≤ i ∧ i.toNatClampNeg < (mS M a).2) ∧ (mS M x).1 = 18 then k lo st' (uP M a i.toNatClampNeg (some x)) else none
  | _ => none
def k_len (k : ak_K) : ak_K := fun lo st M => match st with
  | .ref a :: st' => if (mS M a).1 = 1 ∨ (mS M a).1 = 3 then k lo (.int (Int32.ofNat (mS M a).2) :: st') M else none
  | _ => none
/-- the law's own script: the cell 0 -/
def k_sld (sc : Nat × (Nat → Int32)) (k : ak_K) : ak_K := fun lo st M => match st with
  | .int i :: .ref 0 :: st' => if 0 ≤ i ∧ i.toNatClampNeg < sc.1 then k lo (.int (sc.2 i.toNatClampNeg) :: st') M else none
  | _ => none
def k_slen (sc : Nat × (Nat → Int32)) (k : ak_K) : ak_K := fun lo st M => match st with
  | .ref 0 :: st' => k lo (.int (Int32.ofNat sc.1) :: st') M
  | _ => none
def k_new (i N : Nat) (k : ak_K) : ak_K := fun lo st M => k lo (.ref (mZ M) :: st) (uN M (10 + i) N N)
def k_na (kd : Nat) (k : ak_K) : ak_K := fun lo st M => match st with
  | .int n :: st' => if 0 ≤ n ∧ n.toNatClampNeg ≤ 2000 then k lo (.ref (mZ M) :: st') (uN M kd n.toNatClampNeg n.toNatClampNeg) else none
  | _ => none
theorem ak_vin {i : Int32} {n : Nat} (h1 : 0 ≤ i) (h2 : i.toNatClampNeg < n) : ¬ (i < 0 ∨ n ≤ i.toNatClampNeg) := by
  rintro (h | h)
  · rw [Int32.lt_iff_toInt_lt] at h
    rw [Int32.le_iff_toInt_le] at h1
    omega
  · omega
section EK7
variable {cc : ByteArray} {own : String} {nL rk F L : Nat} {sc : Nat × (Nat → Int32)} {pc : Nat} {k : ak_K}
theorem s_ald (hd : decode cc pc = .ok (.iaload, 1)) (hk : ak_S cc own nL rk F L sc (pc + 1) k) : ak_S cc own nL rk F L sc pc (k_ald k) := by
  refine ak_stay fun lo st M res h => ?_
  unfold k_ald at h
  split at h
  next i a st' =>
    split at h
    next ha =>
      obtain ⟨ha, hi1, hi2⟩ := ha
      refine ⟨_, _, lo, .int (mI M a i.toNatClampNeg) :: st', hk, h, fun {p l e R s m args below meth c D cA b B0 H0 z0 t0 Q} X H locs cells slots ls hR hF hl hc' hs kk => ?_⟩
      show W _ _ _ _ _ _ _ _ _ _ _ _ _ _ _ (F0 _ _ _ (.int i :: .ref (ak_ad b B0 a) :: st'.map (ak_rl b B0)))
      rw [hR.pos (by omega)]
      obtain ⟨hx, hb, hml, hown, hts, hKK, -⟩ := X
      exact W.iald (v := .int (mI M a i.toNatClampNeg)) hx hb ((hR.2.2.2 a).1 ha) ((hKK.1.2 0 _ rfl).1 _ _) (fun q => by cases q) (by rw [arrV_size]; exact ak_vin hi1 hi2) (by rw [arrV_read _ _ hi2]) rfl rfl hd (kk ls hl)
    next => cases h
  next => cases h
theorem s_zld (hd : decode cc pc = .ok (.baload, 1)) (hk : ak_S cc own nL rk F L sc (pc + 1) k) : ak_S cc own nL rk F L sc pc (k_zld k) := by
  refine ak_stay fun lo st M res h => ?_
  unfold k_zld at h
  split at h
  next i a st' =>
    split at h
    next ha =>
      obtain ⟨ha, hi1, hi2⟩ := ha
      refine ⟨_, _, lo, .int (mI M a i.toNatClampNeg) :: st', hk, h, fun {p l e R s m args below meth c D cA b B0 H0 z0 t0 Q} X H locs cells slots ls hR hF hl hc' hs kk => ?_⟩
      show W _ _ _ _ _ _ _ _ _ _ _ _ _ _ _ (F0 _ _ _ (.int i :: .ref (ak_ad b B0 a) :: st'.map (ak_rl b B0)))
      rw [hR.pos (by omega)]
      obtain ⟨hx, hb, hml, hown, hts, hKK, -⟩ := X
      exact W.zald (v := .int (mI M a i.toNatClampNeg)) hx hb ((hR.2.2.2 a).2.1 ha) ((hKK.1.2 1 _ rfl).1 _ _) (fun q => by cases q) (by rw [arrV_size]; exact ak_vin hi1 hi2) (by rw [arrV_read _ _ hi2]) rfl rfl hd (kk ls hl)
    next => cases h
  next => cases h
theorem s_qld (hd : decode cc pc = .ok (.aaload, 1)) (hk : ak_S cc own nL rk F L sc (pc + 1) k) : ak_S cc own nL rk F L sc pc (k_qld k) := by
  refine ak_stay fun lo st M res h => ?_
  unfold k_qld at h
  split at h
  next i a st' =>
    split at h
    next ha =>
      obtain ⟨ha, hi1, hi2⟩ := ha
      refine ⟨_, _, lo, va_rf (mP M a i.toNatClampNeg) :: st', hk, h, fun {p l e R s m args below meth c D cA b B0 H0 z0 t0 Q} X H locs cells slots ls hR hF hl hc' hs kk => ?_⟩
      show W _ _ _ _ _ _ _ _ _ _ _ _ _ _ _ (F0 _ _ _ (.int i :: .ref (ak_ad b B0 a) :: st'.map (ak_rl b B0)))
      rw [hR.pos (by omega)]
      obtain ⟨hx, hb, hml, hown, hts, hKK, -⟩ := X
      have kk' := kk ls hl
      rw [List.map_cons, ak_rl_rf] at kk'
      exact W.aald (v := va_rf ((mP M a i.toNatClampNeg).map (ak_ad b B0))) (ty := .object RX8) hx hb ((hR.2.2.2 a).2.2.1 ha) ((hKK.1.2 2 _ rfl).1 _ _) rfl (fun q => by cases q) (by rw [arrV_size]; exact ak_vin hi1 hi2) (by rw [arrV_read _ _ hi2]) rfl rfl hd kk'
    next => cases h
  next => cases h
theorem s_len (hd : decode cc pc = .ok (.arraylength, 1)) (hk : ak_S cc own nL rk F L sc (pc + 1) k) : ak_S cc own nL rk F L sc pc (k_len k) := by
  refine ak_stay fun lo st M res h => ?_
  unfold k_len at h
  split at h
  next a st' =>
    split at h
    next ha =>
      refine ⟨_, _, lo, .int (Int32.ofNat (mS M a).2) :: st', hk, h, fun {p l e R s m args below meth c D cA b B0 H0 z0 t0 Q} X H locs cells slots ls hR hF hl hc' hs kk => ?_⟩
      show W _ _ _ _ _ _ _ _ _ _ _ _ _ _ _ (F0 _ _ _ (.ref (ak_ad b B0 a) :: st'.map (ak_rl b B0)))
      rw [hR.pos (by omega)]
      obtain ⟨hx, hb, hml, hown, hts, hKK, -⟩ := X
      rcases ha with ha | ha
      · exact W.alen (n := Int32.ofNat (mS M a).2) hx hb ((hR.2.2.2 a).1 ha) ((hKK.1.2 0 _ rfl).1 _ _) (by rw [arrV_size] <;> rfl) rfl rfl hd (kk ls hl)
      · exact W.alen (n := Int32.ofNat (mS M a).2) hx hb ((hR.2.2.2 a).2.2.1 ha) ((hKK.1.2 2 _ rfl).1 _ _) (by rw [arrV_size] <;> rfl) rfl rfl hd (kk ls hl)
    next => cases h
  next => cases h
theorem s_sld (hrk : rk = 4) (hd : decode cc pc = .ok (.iaload, 1)) (hk : ak_S cc own nL rk F L sc (pc + 1) k) : ak_S cc own nL rk F L sc pc (k_sld sc k) := by
  refine ak_stay fun lo st M res h => ?_
  unfold k_sld at h
  split at h
  next i st' =>
    split at h
    next ha =>
      obtain ⟨hi1, hi2⟩ := ha
      refine ⟨_, _, lo, .int (sc.2 i.toNatClampNeg) :: st', hk, h, fun {p l e R s m args below meth c D cA b B0 H0 z0 t0 Q} X H locs cells slots ls hR hF hl hc' hs kk => ?_⟩
      obtain ⟨hx, hb, -, -, -, -, -, -, -, -, -, hX, -⟩ := X
      obtain ⟨hbB, scr, q1, q2, q3, q4, q5⟩ := hX hrk
      exact W.iald (v := .int (sc.2 i.toNatClampNeg)) hx hb (a := b) (by rw [hF.1 b hbB]; exact q1) q2 q3 (by rw [q4]; exact ak_vin hi1 hi2) (q5 _ hi2) rfl rfl hd (kk ls hl)
    next => cases h
  next => cases h
theorem s_slen (hrk : rk = 4) (hd : decode cc pc = .ok (.arraylength, 1)) (hk : ak_S cc own nL rk F L sc (pc + 1) k) : ak_S cc own nL rk F L sc pc (k_slen sc k) := by
  refine ak_stay fun lo st M res h => ?_
  unfold k_slen at h
  split at h
  next st' =>
      refine ⟨_, _, lo, .int (Int32.ofNat sc.1) :: st', hk, h, fun {p l e R s m args below meth c D cA b B0 H0 z0 t0 Q} X H locs cells slots ls hR hF hl hc' hs kk => ?_⟩
      obtain ⟨hx, hb, -, -, -, -, -, -, -, -, -, hX, -⟩ := X
      obtain ⟨hbB, scr, q1, q2, q3, q4, q5⟩ := hX hrk
      exact W.alen (n := Int32.ofNat sc.1) hx hb (a := b) (by rw [hF.1 b hbB]; exact q1) q2 (by rw [q4] <;> rfl) rfl rfl hd (kk ls hl)
  next => cases h
theorem ak_updI {M : ak_M} {a q : Nat} {x : Int32} : updV (fun j => .int (mI M a j)) q (.int x) = fun j => .int (mI (uI M a q x) a j) := by
  funext j
  unfold updV
  show _ = Value.int (if a = a ∧ j = q then x else mI M a j)
  by_cases hj : j = q
  · rw [if_pos hj, if_pos ⟨rfl, hj⟩]
  · rw [if_neg hj, if_neg (fun h => hj h.2)]
theorem s_ast (hd : decode cc pc = .ok (.iastore, 1)) (hk : ak_S cc own nL rk F L sc (pc + 1) k) : ak_S cc own nL rk F L sc pc (k_ast k) := by
  refine ak_step fun lo st M res h => ?_
  unfold k_ast at h
  split at h
  next x i a st' =>
    split at h
    next ha =>
      obtain ⟨ha, hi1, hi2⟩ := ha
      refine ⟨_, _, lo, st', _, hk, h, ⟨Nat.le_refl _, Nat.le_refl _⟩, fun {p l e R s m args below meth c D cA b B0 H0 z0 t0 Q} X H locs ls hR hF hl hz ht0 hm kk => ?_⟩
      show W _ _ _ _ _ _ _ _ _ _ _ _ _ _ _ (F0 _ _ _ (.int x :: .int i :: .ref (ak_ad b B0 a) :: st'.map (ak_rl b B0)))
      rw [hR.pos (by omega)]
      obtain ⟨hx, hb, hml, hown, hts, hKK, -⟩ := X
      have hpa := (hR.2.2.1 a (by omega)).1
      refine W.iast hx hb ((hR.2.2.2 a).1 ha) ((hKK.1.2 0 _ rfl).1 _ _) (fun q => by cases q) (by rw [arrV_size]; exact ak_vin hi1 hi2) rfl rfl hd fun H' e1 e2 e3 => ?_
      refine kk H' _ ls (hR.set (a := a) rfl rfl ak_uI_o e2 e3 (ak_cell.a1 (n := (mS M a).2) (Prod.ext ha rfl) ?_)) (hF.put hpa e3) hl
      rw [e1, arrV_store, ak_updI]
    next => cases h
  next => cases h
theorem s_zst (hd : decode cc pc = .ok (.bastore, 1)) (hk : ak_S cc own nL rk F L sc (pc + 1) k) : ak_S cc own nL rk F L sc pc (k_zst k) := by
  refine ak_step fun lo st M res h => ?_
  unfold k_zst at h
  split at h
  next x i a st' =>
    split at h
    next ha =>
      obtain ⟨⟨ha, hi1, hi2⟩, hb01⟩ := ha
      refine ⟨_, _, lo, st', _, hk, h, ⟨Nat.le_refl _, Nat.le_refl _⟩, fun {p l e R s m args below meth c D cA b B0 H0 z0 t0 Q} X H locs ls hR hF hl hz ht0 hm kk => ?_⟩
      show W _ _ _ _ _ _ _ _ _ _ _ _ _ _ _ (F0 _ _ _ (.int x :: .int i :: .ref (ak_ad b B0 a) :: st'.map (ak_rl b B0)))
      rw [hR.pos (by omega)]
      obtain ⟨hx, hb, hml, hown, hts, hKK, -⟩ := X
      have hpa := (hR.2.2.1 a (by omega)).1
      refine W.zast hx hb ((hR.2.2.2 a).2.1 ha) ((hKK.1.2 1 _ rfl).1 _ _) (fun q => by cases q) (by rw [arrV_size]; exact ak_vin hi1 hi2) rfl rfl hd fun H' e1 e2 e3 => ?_
      refine kk H' _ ls (hR.set (a := a) rfl rfl ak_uI_o e2 e3 (ak_cell.a2 (n := (mS M a).2) (Prod.ext ha rfl) ?_)) (hF.put hpa e3) hl
      rw [e1, (ak_fit0 (ty := .boolean) (x := x) (Or.inr ⟨rfl, hb01⟩)).1, arrV_store, ak_updI]
    next => cases h
  next => cases h
theorem s_qst (hd : decode cc pc = .ok (.aastore, 1)) (hk : ak_S cc own nL rk F L sc (pc + 1) k) : ak_S cc own nL rk F L sc pc (k_qst k) := by
  refine ak_step fun lo st M res h => ?_
  unfold k_qst at h
  split at h
  next x i a st' =>
    split at h
    next ha =>
      obtain ⟨⟨ha, hi1, hi2⟩, hxs⟩ := ha
      refine ⟨_, _, lo, st', _, hk, h, ⟨Nat.le_refl _, Nat.le_refl _⟩, fun {p l e R s m args below meth c D cA b B0 H0 z0 t0 Q} X H locs ls hR hF hl hz ht0 hm kk => ?_⟩
      show W _ _ _ _ _ _ _ _ _ _ _ _ _ _ _ (F0 _ _ _ (.ref (ak_ad b B0 x) :: .int i :: .ref (ak_ad b B0 a) :: st'.map (ak_rl b B0)))
      rw [hR.pos (a := a) (by omega)]
      have hpx := hR.pos (a := x) (by omega)
      obtain ⟨hx, hb, hml, hown, hts, hKK, -⟩ := X
      have hpa := (hR.2.2.1 a (by omega)).1
      obtain ⟨cellV, g1, g2, g3, -⟩ := (hR.2.2.2 x).2.2.2 8 (RX8, TX8, 12) hxs rfl
      have hcls := (hKK.1.1 8 _ rfl).2
      obtain ⟨kA, comp, k1, k2, k3, -⟩ := (hKK.1.2 2 _ rfl).2
      have hcomp : comp = D.1 8 := Option.some.inj (k3.symm.trans hcls.1)
      subst hcomp
      obtain ⟨kC, hkC, -⟩ := hcls.2
      refine W.aast hx hb ((hR.2.2.2 a).2.2.1 ha) (fun q h => by cases h) (fun h => by cases h) k1 k2 rfl hkC ⟨fun q => ak_vin hi1 hi2 (Or.inl q), by rw [arrV_size]; exact hi2⟩ (by rw [hpx]; exact g1) (fun q h => by rw [g3] at h; cases h) (by rw [g2]; exact hkC) (by rw [g2]; exact va_assign hcls) rfl rfl hd fun H' e1 e2 e3 => ?_
      refine kk H' _ ls (hR.set (a := a) rfl rfl ak_uP_o e2 e3 (ak_cell.a3 (n := (mS M a).2) (Prod.ext ha rfl) ?_)) (hF.put hpa e3) hl
      rw [e1, arrV_store]
      congr 2
      funext j
      unfold updV
      show _ = va_rf ((if a = a ∧ j = i.toNatClampNeg then some x else mP M a j).map (ak_ad b B0))
      by_cases hj : j = i.toNatClampNeg
      · rw [if_pos hj, if_pos ⟨rfl, hj⟩]; rfl
      · rw [if_neg hj, if_neg (fun h => hj h.2)]
    next => cases h
  next => cases h
theorem s_new {i idx : Nat} {C : String} {Tf : u_T} {N : Nat} (hc : vwCl[i]? = some (C, Tf, N)) (h1 : Cond.classLink own idx C ∈ ak_Ws) (h2 : Cond.instantiable C N ∈ ak_Ws) (h3 : Cond.initialized C ∈ ak_Ws) (hd : decode cc pc = .ok (.new idx, 3)) (hk : ak_S cc own nL rk F L sc (pc + 3) k) : ak_S cc own nL rk F L sc pc (k_new i N k) := by
  refine ak_step fun lo st M res h => ?_
  unfold k_new at h
  refine ⟨_, _, lo, _, _, hk, h, ⟨Nat.le_succ _, Nat.le_add_right _ _⟩, fun {p l e R s m args below meth c D cA b B0 H0 z0 t0 Q} X H locs ls hR hF hl hz ht0 hm kk => ?_⟩
  have hm1 : mZ M + 1 ≤ mZ res.2 := hm.1
  have hm2 : mT M + N ≤ mT res.2 := hm.2
  obtain ⟨hx, hb, hml, hown, hts, hKK, -, -, g1, g2, -⟩ := X
  have hKn := hKK.1.1 i _ hc
  have hB : B0 + mZ M = H.size := hR.1.symm
  have hp1 := hR.2.1
  refine W.newcK hx hb hown (hts _ h1) (hts _ h2) (hts _ h3) rfl hd (by omega) (by omega) hKn.2.1 hB.symm fun H' kC hkC e1 z1 o1 => ?_
  have hR' : ak_Rep D cA b B0 (uN M (10 + i) N N) H' := by
    refine hR.new (by rw [z1, hB]) (fun q hq => o1 q (by omega)) (ak_cell.obj (i := i) (r := (C, Tf, N)) ?_ hc ?_)
    · show (if mZ M = mZ M then (10 + i, N) else mS M (mZ M)).1 = _
      rw [if_pos rfl]
    · refine (u_born (ak_ty i) hts (ak_in hc) hKn hkC e1 (ak_tyok hc)).to fun j hj => ?_
      have oI : mI (uN M (10 + i) N N) (mZ M) j = 0 := by show (if mZ M = mZ M then 0 else _) = _; rw [if_pos rfl]
      have oL : mL (uN M (10 + i) N N) (mZ M) j = 0 := by show (if mZ M = mZ M then 0 else _) = _; rw [if_pos rfl]
      have oP : mP (uN M (10 + i) N N) (mZ M) j = none := by show (if mZ M = mZ M then none else _) = _; rw [if_pos rfl]
      unfold ak_fv
      rw [oI, oL, oP]
      have hty : ∀ j, j < N → ak_ty i j = .int ∨ ak_ty i j = .boolean ∨ ak_ty i j = .long ∨ ak_kd (ak_ty i j) = 2 := by
        have hi := ak_lt11 hc
        match i, hi, hc with
        | 0, _, hc => cases hc; decide +kernel
        | 1, _, hc => cases hc; decide +kernel
        | 2, _, hc => cases hc; decide +kernel
        | 3, _, hc => cases hc; decide +kernel
        | 4, _, hc => cases hc; decide +kernel
        | 5, _, hc => cases hc; decide +kernel
        | 6, _, hc => cases hc; decide +kernel
        | 7, _, hc => cases hc; decide +kernel
        | 8, _, hc => cases hc; decide +kernel
        | 9, _, hc => cases hc; decide +kernel
        | 10, _, hc => cases hc; decide +kernel
        | n + 11, hi, _ => exact absurd hi (by omega)
      rcases hty j hj with e | e | e | e
      · rw [e]; rfl
      · rw [e]; rfl
      · rw [e]; rfl
      · revert e
        cases ak_ty i j <;> intro e <;> first | rfl | cases e
  have hF' : ak_Fr B0 H0 H' locs := hF.grow (by omega) (fun q hq => o1 q (by omega))
  have hw := kk H' locs ls hR' hF' hl
  have e1' : mZ (uN M (10 + i) N N) - z0 = mZ M - z0 + 1 := by show mZ M + 1 - z0 = _; omega
  have e2' : mT (uN M (10 + i) N N) - t0 = mT M - t0 + N := by show mT M + N - t0 = _; omega
  rw [e1', e2', List.map_cons] at hw
  have e3' : ak_rl b B0 (.ref (mZ M)) = .ref (B0 + mZ M) := by show Value.ref (ak_ad b B0 (mZ M)) = _; unfold ak_ad; rw [if_neg (by omega)]
  rw [e3'] at hw
  exact hw
/-- a new row of numbers -/
theorem s_na {kd : Nat} {atype : ArrayType} (hkd : (kd = 1 ∧ atype = .int) ∨ (kd = 2 ∧ atype = .boolean)) (h1 : Cond.arrayClass (newarray.typeOf atype) ∈ ak_Ws) (hd : decode cc pc = .ok (.newarray atype, 2)) (hk : ak_S cc own nL rk F L sc (pc + 2) k) : ak_S cc own nL rk F L sc pc (k_na kd k) := by
  refine ak_step fun lo st M res h => ?_
  unfold k_na at h
  split at h
  next n st' =>
    split at h
    next hn =>
      obtain ⟨hn1, hn2⟩ := hn
      generalize hNe : n.toNatClampNeg = N at h hn2
      refine ⟨_, _, lo, _, _, hk, h, ⟨Nat.le_succ _, Nat.le_add_right _ _⟩, fun {p l e R s m args below meth c D cA b B0 H0 z0 t0 Q} X H locs ls hR hF hl hz ht0 hm kk => ?_⟩
      have hm1 : mZ M + 1 ≤ mZ res.2 := hm.1
      have hm2 : mT M + N ≤ mT res.2 := hm.2
      obtain ⟨hx, hb, hml, hown, hts, hKK, -, -, g1, g2, -⟩ := X
      have hB : B0 + mZ M = H.size := hR.1.symm
      have hp1 := hR.2.1
      have hnn : ¬ n < 0 := fun q => by rw [Int32.lt_iff_toInt_lt] at q; rw [Int32.le_iff_toInt_le] at hn1; omega
      have hby : N * componentBytes (newarray.typeOf atype) ≤ 536870912 := by
        rcases hkd with ⟨-, rfl⟩ | ⟨-, rfl⟩
        · show N * 4 ≤ _; omega
        · show N * 1 ≤ _; omega
      refine va_newaK hx hb (hts _ h1) rfl hd rfl hnn hNe hby (by omega) (by omega) hB.symm fun H' cA' e1 z1 o1 hAr hNm => ?_
      have hSn : mS (uN M kd N N) (mZ M) = (kd, N) := by show (if mZ M = mZ M then (kd, N) else mS M (mZ M)) = _; rw [if_pos rfl]
      have oI : ∀ j, mI (uN M kd N N) (mZ M) j = 0 := fun j => by show (if mZ M = mZ M then 0 else _) = _; rw [if_pos rfl]
      have hR' : ak_Rep D cA b B0 (uN M kd N N) H' := by
        refine hR.new (by rw [z1, hB]) (fun q hq => o1 q (by omega)) ?_
        rcases hkd with ⟨rfl, rfl⟩ | ⟨rfl, rfl⟩
        · have ec : cA' = cA 1 := Option.some.inj (hNm.symm.trans (hKK.1.2 0 _ rfl).2)
          refine ak_cell.a1 hSn ?_
          rw [e1, ec]
          simp only [oI]
          rfl
        · have ec : cA' = cA 2 := Option.some.inj (hNm.symm.trans (hKK.1.2 1 _ rfl).2)
          refine ak_cell.a2 hSn ?_
          rw [e1, ec]
          simp only [oI]
          rfl
      have hF' : ak_Fr B0 H0 H' locs := hF.grow (by omega) (fun q hq => o1 q (by omega))
      have hw := kk H' locs ls hR' hF' hl
      have e1' : mZ (uN M kd N N) - z0 = mZ M - z0 + 1 := by show mZ M + 1 - z0 = _; omega
      have e2' : mT (uN M kd N N) - t0 = mT M - t0 + N := by show mT M + N - t0 = _; omega
      rw [e1', e2', List.map_cons] at hw
      have e3' : ak_rl b B0 (.ref (mZ M)) = .ref (B0 + mZ M) := by show Value.ref (ak_ad b B0 (mZ M)) = _; unfold ak_ad; rw [if_neg (by omega)]
      rw [e3'] at hw
      exact hw
    next => cases h
  next => cases h
theorem s_nq {idx : Nat} (h1 : Cond.classLink own idx RX8 ∈ ak_Ws) (hd : decode cc pc = .ok (.anewarray idx, 3)) (hk : ak_S cc own nL rk F L sc (pc + 3) k) : ak_S cc own nL rk F L sc pc (k_na 3 k) := by
  refine ak_step fun lo st M res h => ?_
  unfold k_na at h
  split at h
  next n st' =>
    split at h
    next hn =>
      obtain ⟨hn1, hn2⟩ := hn
      refine ⟨_, _, lo, _, _, hk, h, ⟨Nat.le_succ _, Nat.le_add_right _ _⟩, fun {p l e R s m args below meth c D cA b B0 H0 z0 t0 Q} X H locs ls hR hF hl hz ht0 hm kk => ?_⟩
      have hm1 : mZ M + 1 ≤ mZ res.2 := hm.1
      have hm2 : mT M + n.toNatClampNeg ≤ mT res.2 := hm.2
      obtain ⟨hx, hb, hml, hown, hts, hKK, -, -, g1, g2, -⟩ := X
      have hB : B0 + mZ M = H.size := hR.1.symm
      have hp1 := hR.2.1
      have hnn : ¬ n < 0 := fun q => by rw [Int32.lt_iff_toInt_lt] at q; rw [Int32.le_iff_toInt_le] at hn1; omega
      refine W.anew hx hb hown (hts _ h1) (va_AO.use hKK.2.2) rfl hd rfl hnn (by omega) (by omega) (by omega) fun cA' kA comp f1 f2 f3 f4 => ?_
      generalize hH1 : H.push ({ cls := cA', slots := Array.replicate n.toNatClampNeg .null, vm := .none } : Cell) = H'
      have z1 : H'.size = H.size + 1 := by rw [← hH1, Array.size_push]
      have e1 : H'[H.size]? = some (arrV cA' n.toNatClampNeg (fun _ => .null)) := by rw [← hH1, Array.getElem?_push_size, ← arrV_new]
      have o1 : ∀ q : Nat, q < H.size → H'[q]? = H[q]? := fun q hq => by rw [← hH1, Array.getElem?_push, if_neg (Nat.ne_of_lt hq)]
      obtain ⟨kA', comp', k1, k2, k3, k4⟩ := (hKK.1.2 2 _ rfl).2
      have ec : cA' = cA 3 := Option.some.inj (f1.symm.trans k4)
      have hSn : mS (uN M 3 n.toNatClampNeg n.toNatClampNeg) (mZ M) = (3, n.toNatClampNeg) := by show (if mZ M = mZ M then (3, n.toNatClampNeg) else mS M (mZ M)) = _; rw [if_pos rfl]
      have oP : ∀ j, mP (uN M 3 n.toNatClampNeg n.toNatClampNeg) (mZ M) j = none := fun j => by show (if mZ M = mZ M then none else _) = _; rw [if_pos rfl]
      have hR' : ak_Rep D cA b B0 (uN M 3 n.toNatClampNeg n.toNatClampNeg) H' := by
        refine hR.new z1 o1 (ak_cell.a3 hSn ?_)
        rw [hB, e1, ec]
        simp only [oP]
        rfl
      have hF' : ak_Fr B0 H0 H' locs := hF.grow (by omega) o1
      have hw := kk H' locs ls hR' hF' hl
      have e1' : mZ (uN M 3 n.toNatClampNeg n.toNatClampNeg) - z0 = mZ M - z0 + 1 := by show mZ M + 1 - z0 = _; omega
      have e2' : mT (uN M 3 n.toNatClampNeg n.toNatClampNeg) - t0 = mT M - t0 + n.toNatClampNeg := by show mT M + n.toNatClampNeg - t0 = _; omega
      rw [e1', e2', List.map_cons] at hw
      have e3' : ak_rl b B0 (.ref (mZ M)) = .ref H.size := by show Value.ref (ak_ad b B0 (mZ M)) = _; unfold ak_ad; rw [if_neg (by omega), hB]
      rw [e3'] at hw
      exact hw
    next => cases h
  next => cases h
end EK7
