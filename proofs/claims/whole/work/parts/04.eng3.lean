/-! ===== THE ABSTRACT MACHINE, 3: fields, arrays ===== -/
theorem ak_inw : ∀ i : Nat, i < 11 → ∀ r : vw_C, vwCl[i]? = some r → ∀ w ∈ u_ws r.1 r.2.1 r.2.2, w ∈ ak_Ws := by
  intro i hi r hr
  have key : (u_ws r.1 r.2.1 r.2.2).all (fun w => decide (w ∈ lw_tbl) && goodWord w) = true → ∀ w ∈ u_ws r.1 r.2.1 r.2.2, w ∈ ak_Ws := by
    intro h w hw
    have h1 := List.all_eq_true.mp h w hw
    simp only [Bool.and_eq_true, decide_eq_true_eq] at h1
    exact List.mem_filter.mpr h1
  match i, hi, hr with
  | 0, _, hr => cases hr; exact key (by decide +kernel)
  | 1, _, hr => cases hr; exact key (by decide +kernel)
  | 2, _, hr => cases hr; exact key (by decide +kernel)
  | 3, _, hr => cases hr; exact key (by decide +kernel)
  | 4, _, hr => cases hr; exact key (by decide +kernel)
  | 5, _, hr => cases hr; exact key (by decide +kernel)
  | 6, _, hr => cases hr; exact key (by decide +kernel)
  | 7, _, hr => cases hr; exact key (by decide +kernel)
  | 8, _, hr => cases hr; exact key (by decide +kernel)
  | 9, _, hr => cases hr; exact key (by decide +kernel)
  | 10, _, hr => cases hr; exact key (by decide +kernel)
  | n + 11, hi, _ => exact absurd hi (by omega)
theorem ak_lt11 {i : Nat} {r : vw_C} (h : vwCl[i]? = some r) : i < 11 := (List.getElem?_eq_some_iff.mp h).1
theorem ak_in {i : Nat} {r : vw_C} (h : vwCl[i]? = some r) : ∀ w ∈ u_ws r.1 r.2.1 r.2.2, w ∈ ak_Ws := ak_inw i (ak_lt11 h) r h
theorem ak_nm {i : Nat} {r : vw_C} (hr : vwCl[i]? = some r) : ∀ a, a < r.2.2 → ∀ b, b < r.2.2 → a ≠ b → (r.2.1 a).2.1 ≠ (r.2.1 b).2.1 := by
  have hi := ak_lt11 hr
  match i, hi, hr with
  | 0, _, hr => cases hr; exact nmX0
  | 1, _, hr => cases hr; exact nmX1
  | 2, _, hr => cases hr; exact nmX2
  | 3, _, hr => cases hr; exact nmX3
  | 4, _, hr => cases hr; exact nmX4
  | 5, _, hr => cases hr; exact nmX5
  | 6, _, hr => cases hr; exact nmX6
  | 7, _, hr => cases hr; exact nmX7
  | 8, _, hr => cases hr; exact nmX8
  | 9, _, hr => cases hr; exact nmX9
  | 10, _, hr => cases hr; exact nmX10
  | n + 11, hi, _ => exact absurd hi (by omega)
theorem ak_tyok {i : Nat} {r : vw_C} (hr : vwCl[i]? = some r) : ∀ k, k < r.2.2 → parseFieldDescriptor (r.2.1 k).2.2.1 = some (ak_ty i k) := by
  have hi := ak_lt11 hr
  match i, hi, hr with
  | 0, _, hr => cases hr; exact tyX0_ok
  | 1, _, hr => cases hr; exact tyX1_ok
  | 2, _, hr => cases hr; exact tyX2_ok
  | 3, _, hr => cases hr; exact tyX3_ok
  | 4, _, hr => cases hr; exact tyX4_ok
  | 5, _, hr => cases hr; exact tyX5_ok
  | 6, _, hr => cases hr; exact tyX6_ok
  | 7, _, hr => cases hr; exact tyX7_ok
  | 8, _, hr => cases hr; exact tyX8_ok
  | 9, _, hr => cases hr; exact tyX9_ok
  | 10, _, hr => cases hr; exact tyX10_ok
  | n + 11, hi, _ => exact absurd hi (by omega)
section EK3
variable {D : va_G} {cA : Nat → ClassId} {b B0 : Nat} {M M' : ak_M} {H H' : Heap} {a i : Nat} {r : vw_C}
theorem ak_Rep.pos (h : ak_Rep D cA b B0 M H) (ha : (mS M a).1 ≠ 0) : ak_ad b B0 a = B0 + a := by
  have := (h.2.2.1 a ha).1
  unfold ak_ad
  rw [if_neg (by omega)]
theorem ak_Rep.one (h : ak_Rep D cA b B0 M H) (ha : (mS M a).1 = 10 + i) (hr : vwCl[i]? = some r) : va_P D vwCl [(B0 + a, .inr (i, (List.range r.2.2).map (ak_fv b B0 M i a)))] H := by
  intro k q hq
  have hk : k < 1 := (List.getElem?_eq_some_iff.mp hq).1
  obtain rfl : k = 0 := by omega
  cases hq
  refine ⟨r, hr, ((h.2.2.2 a).2.2.2 i r ha hr).to fun k hk => ?_⟩
  simp [vp_V, List.getD, hk]
theorem ak_fs {V : Nat → Value} {N j : Nat} (hj : j < N) : ((List.range N).map V)[j]? = some (V j) := by simp [hj]
/-- one cell written: the others stay -/
theorem ak_Rep.set (h : ak_Rep D cA b B0 M H) (hS : mS M' = mS M) (hZ : mZ M' = mZ M) (ho : ∀ k, k ≠ a → mI M' k = mI M k ∧ mL M' k = mL M k ∧ mP M' k = mP M k) (hz : H'.size = H.size) (hq : ∀ q, q ≠ B0 + a → H'[q]? = H[q]?) (hc : ak_cell D cA b B0 M' H' a) : ak_Rep D cA b B0 M' H' := by
  refine ⟨by rw [hz, hZ]; exact h.1, by rw [hZ]; exact h.2.1, fun k hk => by rw [hZ]; rw [hS] at hk; exact h.2.2.1 k hk, fun k => ?_⟩
  by_cases hka : k = a
  · subst hka; exact hc
  · obtain ⟨o1, o2, o3⟩ := ho k hka
    have hk : H'[B0 + k]? = H[B0 + k]? := hq _ (by omega)
    obtain ⟨c1, c2, c3, c4⟩ := h.2.2.2 k
    refine ⟨fun e => ?_, fun e => ?_, fun e => ?_, fun i r e hr => ?_⟩
    · rw [hk, hS, o1]; rw [hS] at e; exact c1 e
    · rw [hk, hS, o1]; rw [hS] at e; exact c2 e
    · rw [hk, hS, o3]; rw [hS] at e; exact c3 e
    · rw [hS] at e
      refine ((c4 i r e hr).kept hk).to fun j hj => ?_
      unfold ak_fv
      rw [o1, o2, o3]
theorem ak_cell.obj (ha : (mS M a).1 = 10 + i) (hr : vwCl[i]? = some r) (h : t_OB (B0 + a) (D.1 i) r.2.2 (D.2 i) H (ak_fv b B0 M i a)) : ak_cell D cA b B0 M H a := by
  refine ⟨fun e => by omega, fun e => by omega, fun e => by omega, fun i' r' e hr' => ?_⟩
  obtain rfl : i' = i := by omega
  cases hr.symm.trans hr'
  exact h
/-- a new cell -/
theorem ak_Rep.new (h : ak_Rep D cA b B0 M H) {kd n w : Nat} (hz : H'.size = H.size + 1) (hq : ∀ q, q < H.size → H'[q]? = H[q]?) (hc : ak_cell D cA b B0 (uN M kd n w) H' (mZ M)) : ak_Rep D cA b B0 (uN M kd n w) H' := by
  have hS : ∀ k, mS (uN M kd n w) k = if k = mZ M then (kd, n) else mS M k := fun k => rfl
  have hZ : mZ (uN M kd n w) = mZ M + 1 := rfl
  refine ⟨by rw [hz, hZ, h.1]; omega, by rw [hZ]; omega, fun k hk => ?_, fun k => ?_⟩
  · by_cases hka : k = mZ M
    · have := h.2.1
      rw [hZ]; omega
    · rw [hS, if_neg hka] at hk
      have := h.2.2.1 k hk
      rw [hZ]; omega
  · by_cases hka : k = mZ M
    · rw [hka]; exact hc
    · by_cases h0 : (mS M k).1 = 0
      · have e0 : (mS (uN M kd n w) k).1 = 0 := by rw [hS, if_neg hka]; exact h0
        refine ⟨fun e => by omega, fun e => by omega, fun e => by omega, fun i r e hr => by omega⟩
      · have hlt := (h.2.2.1 k h0).2
        have hk : H'[B0 + k]? = H[B0 + k]? := hq _ (by have := h.1; omega)
        have o1 : mI (uN M kd n w) k = mI M k := by funext j; show (if k = mZ M then 0 else mI M k j) = _; rw [if_neg hka]
        have o2 : mL (uN M kd n w) k = mL M k := by funext j; show (if k = mZ M then 0 else mL M k j) = _; rw [if_neg hka]
        have o3 : mP (uN M kd n w) k = mP M k := by funext j; show (if k = mZ M then none else mP M k j) = _; rw [if_neg hka]
        have oS : mS (uN M kd n w) k = mS M k := by rw [hS, if_neg hka]
        obtain ⟨c1, c2, c3, c4⟩ := h.2.2.2 k
        refine ⟨fun e => ?_, fun e => ?_, fun e => ?_, fun i r e hr => ?_⟩
        · rw [hk, oS, o1]; rw [oS] at e; exact c1 e
        · rw [hk, oS, o1]; rw [oS] at e; exact c2 e
        · rw [hk, oS, o3]; rw [oS] at e; exact c3 e
        · rw [oS] at e
          refine ((c4 i r e hr).kept hk).to fun j hj => ?_
          unfold ak_fv
          rw [o1, o2, o3]
end EK3
theorem ak_Fr.put {B0 : Nat} {H0 H H' : Heap} {locs : List Loc} {a j : Nat} (h : ak_Fr B0 H0 H locs) (ha : 1 ≤ a) (hq : ∀ q, q ≠ B0 + a → H'[q]? = H[q]?) : ak_Fr B0 H0 H' (locs ++ [⟨B0 + a, j⟩]) := by
  refine ⟨fun q hql => by rw [hq q (by omega)]; exact h.1 q hql, fun q hm => ?_⟩
  rcases List.mem_append.mp hm with h1 | h1
  · exact h.2 q h1
  · rw [List.mem_singleton.mp h1]
    show B0 < B0 + a
    omega
theorem ak_Fr.grow {B0 : Nat} {H0 H H' : Heap} {locs : List Loc} (h : ak_Fr B0 H0 H locs) (hz : B0 < H.size) (hq : ∀ q, q < H.size → H'[q]? = H[q]?) : ak_Fr B0 H0 H' locs :=
  ⟨fun q hql => by rw [hq q (by omega)]; exact h.1 q hql, h.2⟩
/-! ===== fields ===== -/
def k_gi (i j : Nat) (k : ak_K) : ak_K := fun lo st M => match st with
  | .ref a :: st' => if (mS M a).1 = 10 + i then k lo (.int (mI M a j) :: st') M else none
  | _ => none
def k_gl (i j : Nat) (k : ak_K) : ak_K := fun lo st M => match st with
  | .ref a :: st' => if (mS M a).1 = 10 + i then k lo (.long (mL M a j) :: st') M else none
  | _ => none
def k_gp (i j : Nat) (k : ak_K) : ak_K := fun lo st M => match st with
  | .ref a :: st' => if (mS M a).1 = 10 + i then k lo (va_rf (mP M a j) :: st') M else none
  | _ => none
def k_pi (i j : Nat) (k : ak_K) : ak_K := fun lo st M => match st with
  | .int x :: .ref a :: st' => if (mS M a).1 = 10 + i then k lo st' (uI M a j x) else none
  | _ => none
def k_pz (i j : Nat) (k : ak_K) : ak_K := fun lo st M => match st with
  | .int x :: .ref a :: st' => if (mS M a).1 = 10 + i ∧ (x = 0 ∨ x = 1) then k lo st' (uI M a j x) else none
  | _ => none
def k_pl (i j : Nat) (k : ak_K) : ak_K := fun lo st M => match st with
  | .long x :: .ref a :: st' => if (mS M a).1 = 10 + i then k lo st' (uL M a j x) else none
  | _ => none
def k_pp (i j : Nat) (k : ak_K) : ak_K := fun lo st M => match st with
  | .ref x :: .ref a :: st' => if (mS M a).1 = 10 + i then k lo st' (uP M a j (some x)) else none
  | _ => none
section EK4
variable {p : Program} {l : Launch} {e : Env} {R : Room} {s : State} {m : MethodId} {args : Array Value} {below : List Frame} {meth : Method} {c : Code} {D : va_G} {cA : Nat → ClassId} {b B0 : Nat} {H0 : Heap} {z0 t0 : Nat} {Q : State → Prop} {res : Option Value × ak_M} {cc : ByteArray} {own : String} {nL rk F L : Nat} {sc : Nat × (Nat → Int32)}
variable {H : Heap} {locs : List Loc} {cells slots pc : Nat} {ls : Array Slot} {M M' : ak_M} {a i j idx : Nat} {C T host : String} {Tf : u_T} {N : Nat} {v : Value} {rest : List Value}
theorem ak_get (X : ak_Cx p l e R s m args below meth c D cA b B0 H0 z0 t0 Q res cc own nL rk F L sc) (hR : ak_Rep D cA b B0 M H) (hc : vwCl[i]? = some (C, Tf, N)) (hj : j < N) (hw : Cond.fieldLink own idx (Tf j).1 (Tf j).2.1 (Tf j).2.2.1 ∈ ak_Ws) (hd : decode cc pc = .ok (.getfield idx, 3)) (ha : (mS M a).1 = 10 + i)
    (kk : W p l e R s m args below meth c H locs cells slots Q (F0 m (pc + 3) ls (ak_fv b B0 M i a j :: rest))) : W p l e R s m args below meth c H locs cells slots Q (F0 m pc ls (.ref (B0 + a) :: rest)) := by
  obtain ⟨hx, hb, hml, hown, hts, hKK, -⟩ := X
  exact va_get hx hb hts (ak_in hc) hown hKK.1 (hR.one ha hc) 0 rfl hc j hj (hts _ hw) (fun _ h => h) (ak_fs hj) hd kk
theorem ak_getN (X : ak_Cx p l e R s m args below meth c D cA b B0 H0 z0 t0 Q res cc own nL rk F L sc) (hR : ak_Rep D cA b B0 M H) (hc : vwCl[i]? = some (C, Tf, N)) (hj : j < N) (hw : Cond.fieldLinkNest own idx (Tf j).1 (Tf j).2.1 (Tf j).2.2.1 host ∈ lw_tbl) (hd : decode cc pc = .ok (.getfield idx, 3)) (ha : (mS M a).1 = 10 + i)
    (kk : W p l e R s m args below meth c H locs cells slots Q (F0 m (pc + 3) ls (ak_fv b B0 M i a j :: rest))) : W p l e R s m args below meth c H locs cells slots Q (F0 m pc ls (.ref (B0 + a) :: rest)) := by
  obtain ⟨hx, hb, hml, hown, hts, hKK, -⟩ := X
  exact va_getN hx hb hts (ak_in hc) hown hKK.1 (hR.one ha hc) 0 rfl hc j hj (va_Nw.use rfl (ak_nest hKK.2.1 hw rfl)) (fun _ h => h) (ak_fs hj) hd kk
/-- what a store of v in field j asks and gives -/
theorem ak_put (X : ak_Cx p l e R s m args below meth c D cA b B0 H0 z0 t0 Q res cc own nL rk F L sc) (hR : ak_Rep D cA b B0 M H) (hF : ak_Fr B0 H0 H locs) (hc : vwCl[i]? = some (C, Tf, N)) (hj : j < N) (ha : (mS M a).1 = 10 + i)
    (hw : (Cond.fieldLink own idx (Tf j).1 (Tf j).2.1 (Tf j).2.2.1 ∈ ak_Ws ∧ ((Tf j).2.2.2 = false ∨ ((Tf j).2.2.2 = true ∧ rk = 5 ∧ (Tf j).1 = own))) ∨ (∃ host, Cond.fieldLinkNest own idx (Tf j).1 (Tf j).2.1 (Tf j).2.2.1 host ∈ lw_tbl) ∧ (Tf j).2.2.2 = false)
    (hn : narrow (ak_ty i j) v = v) (hfit : fits (ak_ty i j) v = true) (hd : decode cc pc = .ok (.putfield idx, 3))
    (hS : mS M' = mS M) (hZ : mZ M' = mZ M) (ho : ∀ k, k ≠ a → mI M' k = mI M k ∧ mL M' k = mL M k ∧ mP M' k = mP M k) (hv : ∀ q, q < N → updV (ak_fv b B0 M i a) j v q = ak_fv b B0 M' i a q)
    (kk : ∀ (H' : Heap) (locs' : List Loc), ak_Rep D cA b B0 M' H' → ak_Fr B0 H0 H' locs' → W p l e R s m args below meth c H' locs' cells slots Q (F0 m (pc + 3) ls rest)) : W p l e R s m args below meth c H locs cells slots Q (F0 m pc ls (v :: .ref (B0 + a) :: rest)) := by
  obtain ⟨hx, hb, hml, hown, hts, hKK, -, -, -, -, hct, -⟩ := X
  have hin := ak_in hc
  have hap := va_apart (own := own) hts hin (ak_ty i) (ak_tyok hc) (ak_nm hc) hKK.1 hc
  have hpa := (hR.2.2.1 a (by omega)).1
  obtain ⟨cell, q1, q2, q3, q4⟩ := (hR.2.2.2 a).2.2.2 i _ ha hc
  obtain ⟨hSl, hfc, kC, hkC, hkind⟩ := hKK.1.1 i _ hc
  obtain ⟨cf, kf, fi, f, hi, hsl⟩ := hSl j hj
  have hst := (u_facts hfc hkC (u_lays hts hin hj) hi).1
  have fin : ∀ H' : Heap, H'[B0 + a]? = some (cell.setSlot f.slot v) → H'.size = H.size → (∀ q, q ≠ B0 + a → H'[q]? = H[q]?) → W p l e R s m args below meth c H' (locs ++ [⟨B0 + a, f.slot⟩]) cells slots Q (F0 m (pc + 3) ls rest) := by
    intro H' e1 e2 e3
    rw [hsl] at e1
    refine kk H' _ (hR.set (a := a) hS hZ ho e2 e3 (ak_cell.obj (by rw [hS]; exact ha) hc ?_)) (hF.put hpa e3)
    exact (t_OB.to (V := updV (ak_fv b B0 M i a) j v) ⟨_, e1, q2, q3, t_set q4 hap hj v⟩ hv)
  have hlay := hts _ (hin _ (u_in_lay hj))
  unfold u_lay at hlay
  rcases hw with ⟨hw, hfin | ⟨hfin, hrk, hdecl⟩⟩ | ⟨⟨host, hw⟩, hfin⟩
  · rw [if_neg (by show ¬ (Tf j).2.2.2 = true; rw [hfin]; decide)] at hlay
    have h6 := u_store hfc hkC hkind hlay hi (ak_tyok hc j hj) hn hfit
    exact W.putK hx hb (f := f) ⟨hown, hts _ hw, ⟨_, _, _, hi⟩, hst⟩ (by rw [q2]; exact h6) q1 q3 (by rw [hsl]; exact k2_hasslot (q4 j hj)) rfl rfl hd fin
  · rw [if_pos hfin] at hlay
    have hcf : m.cls = cf := by
      obtain ⟨_, _, c', _, _, _, -, -, hf', -, -, -, hown2, -⟩ := Cond.laysFinal_spec hlay
      have e1 : c' = cf := by have := hi.symm.trans hf'; simp at this; exact this.1.symm
      have hdecl' : ((C, Tf, N).2.1 j).1 = own := hdecl
      rw [hdecl'] at hown2
      rw [← e1]; exact Option.some.inj (hown.symm.trans hown2)
    have h6 := u_fits hfc hkC hkind (Or.inr hlay) hi (ak_tyok hc j hj) hn hfit
    exact W.putFinK hx hb hown (hts _ hw) hi hst hcf (hct hrk) (by rw [q2]; exact h6) q1 q3 (by rw [hsl]; exact k2_hasslot (q4 j hj)) rfl rfl hd fin
  · rw [if_neg (by show ¬ (Tf j).2.2.2 = true; rw [hfin]; decide)] at hlay
    have h6 := u_store hfc hkC hkind hlay hi (ak_tyok hc j hj) hn hfit
    exact va_WputK hx hb (f := f) hown (va_Nw.use rfl (ak_nest hKK.2.1 hw rfl)) hi hst (by rw [q2]; exact h6) q1 q3 (by rw [hsl]; exact k2_hasslot (q4 j hj)) rfl rfl hd fin
end EK4
section EK5
variable {cc : ByteArray} {own : String} {nL rk F L : Nat} {sc : Nat × (Nat → Int32)} {pc : Nat} {k : ak_K} {i j idx : Nat} {C host : String} {Tf : u_T} {N : Nat}
theorem s_gi (hc : vwCl[i]? = some (C, Tf, N)) (hj : j < N) (ht : ak_kd (ak_ty i j) = 0) (hw : Cond.fieldLink own idx (Tf j).1 (Tf j).2.1 (Tf j).2.2.1 ∈ ak_Ws ∨ ∃ host, Cond.fieldLinkNest own idx (Tf j).1 (Tf j).2.1 (Tf j).2.2.1 host ∈ lw_tbl) (hd : decode cc pc = .ok (.getfield idx, 3)) (hk : ak_S cc own nL rk F L sc (pc + 3) k) : ak_S cc own nL rk F L sc pc (k_gi i j k) := by
  refine ak_stay fun lo st M res h => ?_
  unfold k_gi at h
  split at h
  next a st' =>
    split at h
    next ha =>
      refine ⟨_, _, lo, .int (mI M a j) :: st', hk, h, fun {p l e R s m args below meth c D cA b B0 H0 z0 t0 Q} X H locs cells slots ls hR hF hl hc' hs kk => ?_⟩
      show W _ _ _ _ _ _ _ _ _ _ _ _ _ _ _ (F0 _ _ _ (.ref (ak_ad b B0 a) :: st'.map (ak_rl b B0)))
      rw [hR.pos (by omega)]
      have hv : ak_fv b B0 M i a j = .int (mI M a j) := by unfold ak_fv; rw [ht]; rfl
      have kk' := kk ls hl
      rcases hw with hw | ⟨host, hw⟩
      · exact ak_get X hR hc hj hw hd ha (by rw [hv]; exact kk')
      · exact ak_getN X hR hc hj hw hd ha (by rw [hv]; exact kk')
    next => cases h
  next => cases h
theorem s_gl (hc : vwCl[i]? = some (C, Tf, N)) (hj : j < N) (ht : ak_kd (ak_ty i j) = 1) (hw : Cond.fieldLink own idx (Tf j).1 (Tf j).2.1 (Tf j).2.2.1 ∈ ak_Ws ∨ ∃ host, Cond.fieldLinkNest own idx (Tf j).1 (Tf j).2.1 (Tf j).2.2.1 host ∈ lw_tbl) (hd : decode cc pc = .ok (.getfield idx, 3)) (hk : ak_S cc own nL rk F L sc (pc + 3) k) : ak_S cc own nL rk F L sc pc (k_gl i j k) := by
  refine ak_stay fun lo st M res h => ?_
  unfold k_gl at h
  split at h
  next a st' =>
    split at h
    next ha =>
      refine ⟨_, _, lo, .long (mL M a j) :: st', hk, h, fun {p l e R s m args below meth c D cA b B0 H0 z0 t0 Q} X H locs cells slots ls hR hF hl hc' hs kk => ?_⟩
      show W _ _ _ _ _ _ _ _ _ _ _ _ _ _ _ (F0 _ _ _ (.ref (ak_ad b B0 a) :: st'.map (ak_rl b B0)))
      rw [hR.pos (by omega)]
      have hv : ak_fv b B0 M i a j = .long (mL M a j) := by unfold ak_fv; rw [ht]; rfl
      have kk' := kk ls hl
      rcases hw with hw | ⟨host, hw⟩
      · exact ak_get X hR hc hj hw hd ha (by rw [hv]; exact kk')
      · exact ak_getN X hR hc hj hw hd ha (by rw [hv]; exact kk')
    next => cases h
  next => cases h
theorem s_gp (hc : vwCl[i]? = some (C, Tf, N)) (hj : j < N) (ht : ak_kd (ak_ty i j) = 2) (hw : Cond.fieldLink own idx (Tf j).1 (Tf j).2.1 (Tf j).2.2.1 ∈ ak_Ws ∨ ∃ host, Cond.fieldLinkNest own idx (Tf j).1 (Tf j).2.1 (Tf j).2.2.1 host ∈ lw_tbl) (hd : decode cc pc = .ok (.getfield idx, 3)) (hk : ak_S cc own nL rk F L sc (pc + 3) k) : ak_S cc own nL rk F L sc pc (k_gp i j k) := by
  refine ak_stay fun lo st M res h => ?_
  unfold k_gp at h
  split at h
  next a st' =>
    split at h
    next ha =>
      refine ⟨_, _, lo, va_rf (mP M a j) :: st', hk, h, fun {p l e R s m args below meth c D cA b B0 H0 z0 t0 Q} X H locs cells slots ls hR hF hl hc' hs kk => ?_⟩
      show W _ _ _ _ _ _ _ _ _ _ _ _ _ _ _ (F0 _ _ _ (.ref (ak_ad b B0 a) :: st'.map (ak_rl b B0)))
      rw [hR.pos (by omega)]
      have hv : ak_fv b B0 M i a j = ak_rl b B0 (va_rf (mP M a j)) := by unfold ak_fv; rw [ht, ak_rl_rf]; rfl
      have kk' := kk ls hl
      rw [List.map_cons] at kk'
      rcases hw with hw | ⟨host, hw⟩
      · exact ak_get X hR hc hj hw hd ha (by rw [hv]; exact kk')
      · exact ak_getN X hR hc hj hw hd ha (by rw [hv]; exact kk')
    next => cases h
  next => cases h
theorem ak_uI_o {M : ak_M} {a j : Nat} {x : Int32} : ∀ k, k ≠ a → mI (uI M a j x) k = mI M k ∧ mL (uI M a j x) k = mL M k ∧ mP (uI M a j x) k = mP M k :=
  fun k hk => ⟨by funext q; show (if k = a ∧ q = j then x else mI M k q) = _; rw [if_neg (fun h => hk h.1)], rfl, rfl⟩
theorem ak_uL_o {M : ak_M} {a j : Nat} {x : Int64} : ∀ k, k ≠ a → mI (uL M a j x) k = mI M k ∧ mL (uL M a j x) k = mL M k ∧ mP (uL M a j x) k = mP M k :=
  fun k hk => ⟨rfl, by funext q; show (if k = a ∧ q = j then x else mL M k q) = _; rw [if_neg (fun h => hk h.1)], rfl⟩
theorem ak_uP_o {M : ak_M} {a j : Nat} {x : Option Nat} : ∀ k, k ≠ a → mI (uP M a j x) k = mI M k ∧ mL (uP M a j x) k = mL M k ∧ mP (uP M a j x) k = mP M k :=
  fun k hk => ⟨rfl, rfl, by funext q; show (if k = a ∧ q = j then x else mP M k q) = _; rw [if_neg (fun h => hk h.1)]⟩
theorem ak_uI_v {M : ak_M} {b B0 i a j : Nat} {x : Int32} (ht : ak_kd (ak_ty i j) = 0) : ∀ q, updV (ak_fv b B0 M i a) j (.int x) q = ak_fv b B0 (uI M a j x) i a q := by
  intro q
  unfold updV
  by_cases hq : q = j
  · subst hq
    rw [if_pos rfl]
    unfold ak_fv
    rw [ht]
    show _ = Value.int (if a = a ∧ q = q then x else _)
    rw [if_pos ⟨rfl, rfl⟩]
  · rw [if_neg hq]
    unfold ak_fv
    have : mI (uI M a j x) a q = mI M a q := by show (if a = a ∧ q = j then x else mI M a q) = _; rw [if_neg (fun h => hq h.2)]
    rw [this]
    rfl
theorem ak_uL_v {M : ak_M} {b B0 i a j : Nat} {x : Int64} (ht : ak_kd (ak_ty i j) = 1) : ∀ q, updV (ak_fv b B0 M i a) j (.long x) q = ak_fv b B0 (uL M a j x) i a q := by
  intro q
  unfold updV
  by_cases hq : q = j
  · subst hq
    rw [if_pos rfl]
    unfold ak_fv
    rw [ht]
    show _ = Value.long (if a = a ∧ q = q then x else _)
    rw [if_pos ⟨rfl, rfl⟩]
  · rw [if_neg hq]
    unfold ak_fv
    have : mL (uL M a j x) a q = mL M a q := by show (if a = a ∧ q = j then x else mL M a q) = _; rw [if_neg (fun h => hq h.2)]
    rw [this]
    rfl
theorem ak_uP_v {M : ak_M} {b B0 i a j : Nat} {x : Option Nat} (ht : ak_kd (ak_ty i j) = 2) : ∀ q, updV (ak_fv b B0 M i a) j (va_rf (x.map (ak_ad b B0))) q = ak_fv b B0 (uP M a j x) i a q := by
  intro q
  unfold updV
  by_cases hq : q = j
  · subst hq
    rw [if_pos rfl]
    unfold ak_fv
    rw [ht]
    show _ = va_rf ((if a = a ∧ q = q then x else _).map (ak_ad b B0))
    rw [if_pos ⟨rfl, rfl⟩]
  · rw [if_neg hq]
    unfold ak_fv
    have : mP (uP M a j x) a q = mP M a q := by show (if a = a ∧ q = j then x else mP M a q) = _; rw [if_neg (fun h => hq h.2)]
    rw [this]
    rfl
theorem ak_fit0 {ty : FieldType} {x : Int32} (h : ty = .int ∨ (ty = .boolean ∧ (x = 0 ∨ x = 1))) : narrow ty (.int x) = .int x ∧ fits ty (.int x) = true := by
  rcases h with rfl | ⟨rfl, rfl | rfl⟩
  · exact ⟨rfl, rfl⟩
  · exact ⟨rfl, by decide +kernel⟩
  · exact ⟨by decide +kernel, by decide +kernel⟩
theorem s_pi (hc : vwCl[i]? = some (C, Tf, N)) (hj : j < N) (ht : ak_ty i j = .int)
    (hw : (Cond.fieldLink own idx (Tf j).1 (Tf j).2.1 (Tf j).2.2.1 ∈ ak_Ws ∧ ((Tf j).2.2.2 = false ∨ ((Tf j).2.2.2 = true ∧ rk = 5 ∧ (Tf j).1 = own))) ∨ (∃ host, Cond.fieldLinkNest own idx (Tf j).1 (Tf j).2.1 (Tf j).2.2.1 host ∈ lw_tbl) ∧ (Tf j).2.2.2 = false)
    (hd : decode cc pc = .ok (.putfield idx, 3)) (hk : ak_S cc own nL rk F L sc (pc + 3) k) : ak_S cc own nL rk F L sc pc (k_pi i j k) := by
  refine ak_step fun lo st M res h => ?_
  unfold k_pi at h
  split at h
  next x a st' =>
    split at h
    next ha =>
      refine ⟨_, _, lo, st', _, hk, h, ⟨Nat.le_refl _, Nat.le_refl _⟩, fun {p l e R s m args below meth c D cA b B0 H0 z0 t0 Q} X H locs ls hR hF hl hz ht0 hm kk => ?_⟩
      show W _ _ _ _ _ _ _ _ _ _ _ _ _ _ _ (F0 _ _ _ (.int x :: .ref (ak_ad b B0 a) :: st'.map (ak_rl b B0)))
      rw [hR.pos (by omega)]
      have h0 := ak_fit0 (ty := ak_ty i j) (x := x) (Or.inl ht)
      exact ak_put (M' := uI M a j x) X hR hF hc hj ha hw h0.1 h0.2 hd rfl rfl ak_uI_o (fun q _ => ak_uI_v (by rw [ht]; rfl) q) (fun H' locs' h1 h2 => kk H' locs' ls h1 h2 hl)
    next => cases h
  next => cases h
theorem s_pz (hc : vwCl[i]? = some (C, Tf, N)) (hj : j < N) (ht : ak_ty i j = .boolean)
    (hw : (Cond.fieldLink own idx (Tf j).1 (Tf j).2.1 (Tf j).2.2.1 ∈ ak_Ws ∧ ((Tf j).2.2.2 = false ∨ ((Tf j).2.2.2 = true ∧ rk = 5 ∧ (Tf j).1 = own))) ∨ (∃ host, Cond.fieldLinkNest own idx (Tf j).1 (Tf j).2.1 (Tf j).2.2.1 host ∈ lw_tbl) ∧ (Tf j).2.2.2 = false)
    (hd : decode cc pc = .ok (.putfield idx, 3)) (hk : ak_S cc own nL rk F L sc (pc + 3) k) : ak_S cc own nL rk F L sc pc (k_pz i j k) := by
  refine ak_step fun lo st M res h => ?_
  unfold k_pz at h
  split at h
  next x a st' =>
    split at h
    next ha =>
      obtain ⟨ha, hb01⟩ := ha
      refine ⟨_, _, lo, st', _, hk, h, ⟨Nat.le_refl _, Nat.le_refl _⟩, fun {p l e R s m args below meth c D cA b B0 H0 z0 t0 Q} X H locs ls hR hF hl hz ht0 hm kk => ?_⟩
      show W _ _ _ _ _ _ _ _ _ _ _ _ _ _ _ (F0 _ _ _ (.int x :: .ref (ak_ad b B0 a) :: st'.map (ak_rl b B0)))
      rw [hR.pos (by omega)]
      have h0 := ak_fit0 (ty := ak_ty i j) (x := x) (Or.inr ⟨ht, hb01⟩)
      exact ak_put (M' := uI M a j x) X hR hF hc hj ha hw h0.1 h0.2 hd rfl rfl ak_uI_o (fun q _ => ak_uI_v (by rw [ht]; rfl) q) (fun H' locs' h1 h2 => kk H' locs' ls h1 h2 hl)
    next => cases h
  next => cases h
theorem s_pl (hc : vwCl[i]? = some (C, Tf, N)) (hj : j < N) (ht : ak_ty i j = .long)
    (hw : (Cond.fieldLink own idx (Tf j).1 (Tf j).2.1 (Tf j).2.2.1 ∈ ak_Ws ∧ ((Tf j).2.2.2 = false ∨ ((Tf j).2.2.2 = true ∧ rk = 5 ∧ (Tf j).1 = own))) ∨ (∃ host, Cond.fieldLinkNest own idx (Tf j).1 (Tf j).2.1 (Tf j).2.2.1 host ∈ lw_tbl) ∧ (Tf j).2.2.2 = false)
    (hd : decode cc pc = .ok (.putfield idx, 3)) (hk : ak_S cc own nL rk F L sc (pc + 3) k) : ak_S cc own nL rk F L sc pc (k_pl i j k) := by
  refine ak_step fun lo st M res h => ?_
  unfold k_pl at h
  split at h
  next x a st' =>
    split at h
    next ha =>
      refine ⟨_, _, lo, st', _, hk, h, ⟨Nat.le_refl _, Nat.le_refl _⟩, fun {p l e R s m args below meth c D cA b B0 H0 z0 t0 Q} X H locs ls hR hF hl hz ht0 hm kk => ?_⟩
      show W _ _ _ _ _ _ _ _ _ _ _ _ _ _ _ (F0 _ _ _ (.long x :: .ref (ak_ad b B0 a) :: st'.map (ak_rl b B0)))
      rw [hR.pos (by omega)]
      exact ak_put (M' := uL M a j x) X hR hF hc hj ha hw (by rw [ht]; rfl) (by rw [ht]; rfl) hd rfl rfl ak_uL_o (fun q _ => ak_uL_v (by rw [ht]; rfl) q) (fun H' locs' h1 h2 => kk H' locs' ls h1 h2 hl)
    next => cases h
  next => cases h
theorem ak_fitp {ty : FieldType} {x : Addr} (h : ak_kd ty = 2) : narrow ty (.ref x) = .ref x ∧ fits ty (.ref x) = true := by
  cases ty <;> first | exact ⟨rfl, rfl⟩ | cases h
theorem s_pp (hc : vwCl[i]? = some (C, Tf, N)) (hj : j < N) (ht : ak_kd (ak_ty i j) = 2)
    (hw : (Cond.fieldLink own idx (Tf j).1 (Tf j).2.1 (Tf j).2.2.1 ∈ ak_Ws ∧ ((Tf j).2.2.2 = false ∨ ((Tf j).2.2.2 = true ∧ rk = 5 ∧ (Tf j).1 = own))) ∨ (∃ host, Cond.fieldLinkNest own idx (Tf j).1 (Tf j).2.1 (Tf j).2.2.1 host ∈ lw_tbl) ∧ (Tf j).2.2.2 = false)
    (hd : decode cc pc = .ok (.putfield idx, 3)) (hk : ak_S cc own nL rk F L sc (pc + 3) k) : ak_S cc own nL rk F L sc pc (k_pp i j k) := by
  refine ak_step fun lo st M res h => ?_
  unfold k_pp at h
  split at h
  next x a st' =>
    split at h
    next ha =>
      refine ⟨_, _, lo, st', _, hk, h, ⟨Nat.le_refl _, Nat.le_refl _⟩, fun {p l e R s m args below meth c D cA b B0 H0 z0 t0 Q} X H locs ls hR hF hl hz ht0 hm kk => ?_⟩
      show W _ _ _ _ _ _ _ _ _ _ _ _ _ _ _ (F0 _ _ _ (.ref (ak_ad b B0 x) :: .ref (ak_ad b B0 a) :: st'.map (ak_rl b B0)))
      rw [hR.pos (a := a) (by omega)]
      have h0 := ak_fitp (x := ak_ad b B0 x) ht
      exact ak_put (M' := uP M a j (some x)) X hR hF hc hj ha hw h0.1 h0.2 hd rfl rfl ak_uP_o (fun q _ => ak_uP_v (x := some x) ht q) (fun H' locs' h1 h2 => kk H' locs' ls h1 h2 hl)
    next => cases h
  next => cases h
end EK5
