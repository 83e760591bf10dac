/-! ===== THE ABSTRACT MACHINE: memory, locals, continuations; a code text simulates the machine ===== -/
/-- memory: ints, longs, references by cell and place; each cell's kind (0 none, 1 ints, 2 booleans, 3 States, 10 + number of its row in vwCl) and length; how many cells, how many slots -/
abbrev ak_M : Type := (Nat → Nat → Int32) × (Nat → Nat → Int64) × (Nat → Nat → Option Nat) × (Nat → Nat × Nat) × Nat × Nat
def mI (M : ak_M) : Nat → Nat → Int32 := M.1
def mL (M : ak_M) : Nat → Nat → Int64 := M.2.1
def mP (M : ak_M) : Nat → Nat → Option Nat := M.2.2.1
def mS (M : ak_M) : Nat → Nat × Nat := M.2.2.2.1
def mZ (M : ak_M) : Nat := M.2.2.2.2.1
def mT (M : ak_M) : Nat := M.2.2.2.2.2
def uI (M : ak_M) (a j : Nat) (x : Int32) : ak_M := (fun b k => if b = a ∧ k = j then x else M.1 b k, M.2)
def uL (M : ak_M) (a j : Nat) (x : Int64) : ak_M := (M.1, fun b k => if b = a ∧ k = j then x else M.2.1 b k, M.2.2)
def uP (M : ak_M) (a j : Nat) (x : Option Nat) : ak_M := (M.1, M.2.1, fun b k => if b = a ∧ k = j then x else M.2.2.1 b k, M.2.2.2)
/-- a new cell, all zeros -/
def uN (M : ak_M) (kd n w : Nat) : ak_M := (fun b k => if b = mZ M then 0 else mI M b k, fun b k => if b = mZ M then 0 else mL M b k, fun b k => if b = mZ M then none else mP M b k, fun b => if b = mZ M then (kd, n) else mS M b, mZ M + 1, mT M + w)
abbrev ak_R : Type := Option (Option Value × ak_M)
abbrev ak_K : Type := List (Option Value) → List Value → ak_M → ak_R
def lg : List (Option Value) → Nat → Option Value
  | [], _ => none
  | a :: _, 0 => a
  | _ :: t, n + 1 => lg t n
def lset : List (Option Value) → Nat → Option Value → List (Option Value)
  | [], _, _ => []
  | _ :: t, 0, x => x :: t
  | a :: t, n + 1, x => a :: lset t n x
theorem lg_lset : ∀ (l : List (Option Value)) (i : Nat) (x : Option Value) (j : Nat) (v : Value), lg (lset l i x) j = some v → (j = i ∧ x = some v) ∨ (j ≠ i ∧ lg l j = some v)
  | [], i, x, j, v, h => by simp [lset, lg] at h
  | a :: t, 0, x, 0, v, h => Or.inl ⟨rfl, h⟩
  | a :: t, 0, x, j + 1, v, h => Or.inr ⟨Nat.succ_ne_zero _, h⟩
  | a :: t, i + 1, x, 0, v, h => Or.inr ⟨(Nat.succ_ne_zero _).symm, h⟩
  | a :: t, i + 1, x, j + 1, v, h => by
    rcases lg_lset t i x j v h with ⟨h1, h2⟩ | ⟨h1, h2⟩
    · exact Or.inl ⟨by omega, h2⟩
    · exact Or.inr ⟨by omega, h2⟩
/-- the place ahead holds no long -/
def ak_ok1 (l : List (Option Value)) (i : Nat) : Bool := match i with
  | 0 => true
  | n + 1 => match lg l n with
    | some (.long _) => false
    | some (.double _) => false
    | _ => true
def ak_ad (b B0 k : Nat) : Nat := if k = 0 then b else B0 + k
def ak_rl (b B0 : Nat) : Value → Value
  | .ref k => .ref (ak_ad b B0 k)
  | v => v
theorem ak_rl_cat (b B0 : Nat) (v : Value) : (ak_rl b B0 v).category = v.category := by cases v <;> rfl
theorem ak_rl_rf (b B0 : Nat) (r : Option Nat) : ak_rl b B0 (va_rf r) = va_rf (r.map (ak_ad b B0)) := by cases r <;> rfl
/-! the classes' fields: what each holds -/
def ak_ty (i : Nat) : Nat → FieldType := match i with
  | 0 => tyX0
  | 1 => tyX1
  | 2 => tyX2
  | 3 => tyX3
  | 4 => tyX4
  | 5 => tyX5
  | 6 => tyX6
  | 7 => tyX7
  | 8 => tyX8
  | 9 => tyX9
  | _ => tyX10
def ak_kd : FieldType → Nat
  | .long => 1
  | .object _ => 2
  | .array _ => 2
  | _ => 0
def ak_fv (b B0 : Nat) (M : ak_M) (i k j : Nat) : Value := match ak_kd (ak_ty i j) with
  | 0 => .int (mI M k j)
  | 1 => .long (mL M k j)
  | _ => va_rf ((mP M k j).map (ak_ad b B0))
def ak_cell (D : va_G) (cA : Nat → ClassId) (b B0 : Nat) (M : ak_M) (H : Heap) (k : Nat) : Prop :=
  ((mS M k).1 = 1 → H[B0 + k]? = some (arrV (cA 1) (mS M k).2 (fun j => .int (mI M k j)))) ∧
  ((mS M k).1 = 2 → H[B0 + k]? = some (arrV (cA 2) (mS M k).2 (fun j => .int (mI M k j)))) ∧
  ((mS M k).1 = 3 → H[B0 + k]? = some (arrV (cA 3) (mS M k).2 (fun j => va_rf ((mP M k j).map (ak_ad b B0))))) ∧
  (∀ i r, (mS M k).1 = 10 + i → vwCl[i]? = some r → t_OB (B0 + k) (D.1 i) r.2.2 (D.2 i) H (ak_fv b B0 M i k))
def ak_Rep (D : va_G) (cA : Nat → ClassId) (b B0 : Nat) (M : ak_M) (H : Heap) : Prop :=
  H.size = B0 + mZ M ∧ 1 ≤ mZ M ∧ (∀ k, (mS M k).1 ≠ 0 → 1 ≤ k ∧ k < mZ M) ∧ ∀ k, ak_cell D cA b B0 M H k
def ak_Fr (B0 : Nat) (H0 H : Heap) (locs : List Loc) : Prop := (∀ q : Nat, q ≤ B0 → H[q]? = H0[q]?) ∧ ∀ q ∈ locs, B0 < q.base
def ak_LH (b B0 : Nat) (ls : Array Slot) (nL : Nat) (lo : List (Option Value)) : Prop := ls.size = nL ∧ lv_wf ls ∧ ∀ j v, lg lo j = some v → ls[j]? = some (.val (ak_rl b B0 v))
/-! the tables' words that keep, the nest mates' words -/
def ak_Ws : List Cond := lw_tbl.filter goodWord
theorem ak_ws {w : Cond} (i : Nat) (h : lw_tbl[i]? = some w) (hg : goodWord w = true) : w ∈ ak_Ws := List.mem_filter.mpr ⟨List.mem_of_getElem? h, hg⟩
theorem ak_good : ∀ w ∈ ak_Ws, (w.onTables && w.keeps) = true ∨ ∃ ty, w = .arrayClass ty := fun w h => good_of_word (List.mem_filter.mp h).2
def ak_nw : Cond → Bool
  | .methodLinkNest _ _ _ _ => true
  | .fieldLinkNest _ _ _ _ _ _ => true
  | _ => false
def ak_Nest (U : State) : Prop := ∀ w ∈ lw_tbl, ak_nw w = true → va_Nw w U
theorem ak_Nest.same {u U : State} (h : u.vm = U.vm) (hN : ak_Nest u) : ak_Nest U := by
  intro w hw hn
  have h1 := hN w hw hn
  cases w <;> first | exact va_Nw.same rfl h h1 | cases hn
theorem ak_Nest.warm {s U : State} (hW : s.WarmedH U.vm) (hN : ak_Nest s) : ak_Nest U := by
  intro w hw hn
  have h1 := hN w hw hn
  cases w <;> first | exact va_Nw.warmF hW h1 | exact va_Nw.warmM hW h1 | cases hn
theorem ak_nest {w : Cond} {U : State} (hN : ak_Nest U) (h : w ∈ lw_tbl) (hn : ak_nw w = true) : va_Nw w U := hN w h hn
def ak_KK (D : va_G) (cA : Nat → ClassId) (U : State) : Prop := va_K D vwCl [(cA 1, .int), (cA 2, .boolean), (cA 3, .object RX8)] U ∧ ak_Nest U ∧ va_AO RX8 U
theorem ak_KK.warm {D : va_G} {cA : Nat → ClassId} {s U : State} (hW : s.WarmedH U.vm) (h : ak_KK D cA s) : ak_KK D cA U := ⟨va_K.moved hW.alike h.1, h.2.1.warm hW, va_AO.moved hW.alike h.2.2⟩
theorem ak_KK.call {D : va_G} {cA : Nat → ClassId} {U : State} (g : JFrame) (mk : MethodId) (a : Array Value) (h : ak_KK D cA U) : ak_KK D cA (U.calling g mk a) :=
  ⟨va_K.moved (u := U) (U := U.calling g mk a) (Vm.Alike.refl U.vm) h.1, ak_Nest.same (u := U) (U := U.calling g mk a) rfl h.2.1, va_AO.moved (u := U) (U := U.calling g mk a) (Vm.Alike.refl U.vm) h.2.2⟩
/-! what a method's end wants -/
def ak_rdec (cc : ByteArray) (pc rk : Nat) : Prop := (rk = 0 ∨ rk = 5) ∧ decode cc pc = .ok (.return_, 1) ∨ rk = 3 ∧ decode cc pc = .ok (.areturn, 1) ∨ (rk = 1 ∨ rk = 2 ∨ rk = 4) ∧ decode cc pc = .ok (.ireturn, 1)
def ak_rok (rk : Nat) (v : Option Value) : Prop := (rk = 0 ∨ rk = 5) ∧ v = none ∨ rk = 1 ∧ (∃ x, v = some (.int x)) ∨ rk = 2 ∧ (v = some (.int 0) ∨ v = some (.int 1)) ∨ rk = 3 ∧ (v = some .null ∨ ∃ a, v = some (.ref a)) ∨ rk = 4 ∧ v = some (.int 1)
def ak_Cx (p : Program) (l : Launch) (e : Env) (R : Room) (s : State) (m : MethodId) (args : Array Value) (below : List Frame) (meth : Method) (c : Code) (D : va_G) (cA : Nat → ClassId) (b B0 : Nat) (H0 : Heap) (z0 t0 : Nat) (Q : State → Prop) (res : Option Value × ak_M) (cc : ByteArray) (own : String) (nL rk F L : Nat) (sc : Nat × (Nat → Int32)) : Prop :=
  p.tables.exec = Jvm.exec ∧ c.code = cc ∧ c.maxLocals = nL ∧ s.vm.findClass own = some m.cls ∧ (∀ w ∈ ak_Ws, w.before args s = true) ∧ ak_KK D cA s ∧ F ≤ R.frames ∧ L ≤ R.locals ∧ mZ res.2 - z0 ≤ R.cells ∧ mT res.2 - t0 ≤ R.slots ∧ (rk = 5 → meth.name = "<init>") ∧
  (rk = 4 → b ≤ B0 ∧ va_X b sc.1 sc.2 s H0) ∧
  ∀ (pc : Nat) (H : Heap) (locs : List Loc) (ls : Array Slot), ak_rdec cc pc rk → ak_rok rk res.1 → ak_Rep D cA b B0 res.2 H → ak_Fr B0 H0 H locs → W p l e R s m args below meth c H locs (mZ res.2 - z0) (mT res.2 - t0) Q (F0 m pc ls (res.1.toList.map (ak_rl b B0)))
/-- the machine at pc does what k says -/
def ak_S (cc : ByteArray) (own : String) (nL rk F L : Nat) (sc : Nat × (Nat → Int32)) (pc : Nat) (k : ak_K) : Prop :=
  (∀ lo st M res, k lo st M = some res → mZ M ≤ mZ res.2 ∧ mT M ≤ mT res.2) ∧
  ∀ {p : Program} {l : Launch} {e : Env} {R : Room} {s : State} {m : MethodId} {args : Array Value} {below : List Frame} {meth : Method} {c : Code} {D : va_G} {cA : Nat → ClassId} {b B0 : Nat} {H0 : Heap} {z0 t0 : Nat} {Q : State → Prop} {res : Option Value × ak_M}, ak_Cx p l e R s m args below meth c D cA b B0 H0 z0 t0 Q res cc own nL rk F L sc →
    ∀ (lo : List (Option Value)) (st : List Value) (M : ak_M), k lo st M = some res → ∀ (H : Heap) (locs : List Loc) (ls : Array Slot), ak_Rep D cA b B0 M H → ak_Fr B0 H0 H locs → ak_LH b B0 ls nL lo → z0 ≤ mZ M → t0 ≤ mT M → W p l e R s m args below meth c H locs (mZ M - z0) (mT M - t0) Q (F0 m pc ls (st.map (ak_rl b B0)))
section EK
variable {cc : ByteArray} {own : String} {nL rk F L : Nat} {sc : Nat × (Nat → Int32)} {pc : Nat} {k : ak_K}
/-- one step, any: where it goes on -/
theorem ak_step (h : ∀ lo st M res, k lo st M = some res → ∃ pc' k' lo' st' M', ak_S cc own nL rk F L sc pc' k' ∧ k' lo' st' M' = some res ∧ (mZ M ≤ mZ M' ∧ mT M ≤ mT M') ∧
    ∀ {p : Program} {l : Launch} {e : Env} {R : Room} {s : State} {m : MethodId} {args : Array Value} {below : List Frame} {meth : Method} {c : Code} {D : va_G} {cA : Nat → ClassId} {b B0 : Nat} {H0 : Heap} {z0 t0 : Nat} {Q : State → Prop}, ak_Cx p l e R s m args below meth c D cA b B0 H0 z0 t0 Q res cc own nL rk F L sc →
      ∀ (H : Heap) (locs : List Loc) (ls : Array Slot), ak_Rep D cA b B0 M H → ak_Fr B0 H0 H locs → ak_LH b B0 ls nL lo → z0 ≤ mZ M → t0 ≤ mT M → (mZ M' ≤ mZ res.2 ∧ mT M' ≤ mT res.2) →
        (∀ (H' : Heap) (locs' : List Loc) (ls' : Array Slot), ak_Rep D cA b B0 M' H' → ak_Fr B0 H0 H' locs' → ak_LH b B0 ls' nL lo' → W p l e R s m args below meth c H' locs' (mZ M' - z0) (mT M' - t0) Q (F0 m pc' ls' (st'.map (ak_rl b B0)))) →
        W p l e R s m args below meth c H locs (mZ M - z0) (mT M - t0) Q (F0 m pc ls (st.map (ak_rl b B0)))) : ak_S cc own nL rk F L sc pc k := by
  refine ⟨fun lo st M res hk => ?_, ?_⟩
  · obtain ⟨pc', k', lo', st', M', hS, hk', ⟨h1, h2⟩, -⟩ := h lo st M res hk
    obtain ⟨h3, h4⟩ := hS.1 lo' st' M' res hk'
    exact ⟨Nat.le_trans h1 h3, Nat.le_trans h2 h4⟩
  · intro p l e R s m args below meth c D cA b B0 H0 z0 t0 Q res C lo st M hk H locs ls hR hF hl hz ht
    obtain ⟨pc', k', lo', st', M', hS, hk', ⟨h1, h2⟩, hw⟩ := h lo st M res hk
    exact hw C H locs ls hR hF hl hz ht (hS.1 lo' st' M' res hk') (fun H' locs' ls' a1 a2 a3 => hS.2 C lo' st' M' hk' H' locs' ls' a1 a2 a3 (Nat.le_trans hz h1) (Nat.le_trans ht h2))
/-- a step that leaves the memory -/
theorem ak_stay (h : ∀ lo st M res, k lo st M = some res → ∃ pc' k' lo' st', ak_S cc own nL rk F L sc pc' k' ∧ k' lo' st' M = some res ∧
    ∀ {p : Program} {l : Launch} {e : Env} {R : Room} {s : State} {m : MethodId} {args : Array Value} {below : List Frame} {meth : Method} {c : Code} {D : va_G} {cA : Nat → ClassId} {b B0 : Nat} {H0 : Heap} {z0 t0 : Nat} {Q : State → Prop}, ak_Cx p l e R s m args below meth c D cA b B0 H0 z0 t0 Q res cc own nL rk F L sc →
      ∀ (H : Heap) (locs : List Loc) (cells slots : Nat) (ls : Array Slot), ak_Rep D cA b B0 M H → ak_Fr B0 H0 H locs → ak_LH b B0 ls nL lo → cells ≤ R.cells → slots ≤ R.slots →
        (∀ (ls' : Array Slot), ak_LH b B0 ls' nL lo' → W p l e R s m args below meth c H locs cells slots Q (F0 m pc' ls' (st'.map (ak_rl b B0)))) →
        W p l e R s m args below meth c H locs cells slots Q (F0 m pc ls (st.map (ak_rl b B0)))) : ak_S cc own nL rk F L sc pc k := by
  refine ak_step fun lo st M res hk => ?_
  obtain ⟨pc', k', lo', st', hS, hk', hw⟩ := h lo st M res hk
  refine ⟨pc', k', lo', st', M, hS, hk', ⟨Nat.le_refl _, Nat.le_refl _⟩, ?_⟩
  intro p l e R s m args below meth c D cA b B0 H0 z0 t0 Q C H locs ls hR hF hl hz ht hm kk
  have hC := C
  obtain ⟨-, -, -, -, -, -, -, -, g1, g2, -⟩ := hC
  exact hw C H locs _ _ ls hR hF hl (by omega) (by omega) (fun ls' hl' => kk H locs ls' hR hF hl')
/-! locals -/
def ak_la (b B0 : Nat) (lo : List (Option Value)) (n : Nat) : List (Nat × Value) := (List.range n).filterMap (fun j => (lg lo j).map (fun v => (j, ak_rl b B0 v)))
theorem ak_la_mem {b B0 : Nat} {lo : List (Option Value)} {n j : Nat} {v : Value} (hj : j < n) (h : lg lo j = some v) : (j, ak_rl b B0 v) ∈ ak_la b B0 lo n :=
  List.mem_filterMap.mpr ⟨j, List.mem_range.mpr hj, by rw [h]; rfl⟩
theorem ak_la_has {b B0 : Nat} {ls : Array Slot} {n : Nat} {lo : List (Option Value)} (h : ak_LH b B0 ls n lo) : lv_has ls n (ak_la b B0 lo n) := by
  refine ⟨h.1, h.2.1, fun q hq => ?_⟩
  obtain ⟨j, -, hj⟩ := List.mem_filterMap.mp hq
  cases hv : lg lo j with
  | none => rw [hv] at hj; cases hj
  | some v =>
    rw [hv] at hj
    cases hj
    exact h.2.2 j v hv
theorem ak_LH.lt {b B0 : Nat} {ls : Array Slot} {n : Nat} {lo : List (Option Value)} (h : ak_LH b B0 ls n lo) {j : Nat} {v : Value} (hj : lg lo j = some v) : j < n := by
  have := h.2.2 j v hj
  rw [← h.1]
  exact lv_lt this
theorem ak_LH.st1 {b B0 : Nat} {ls ls' : Array Slot} {n i : Nat} {lo : List (Option Value)} {x : Value} (h : ak_LH b B0 ls n lo) (hok : ak_ok1 lo i = true)
    (h' : lv_has ls' n ((i, ak_rl b B0 x) :: (ak_la b B0 lo n).filter (fun q => !(q.1 == i) && !(q.1 + 1 == i && q.2.category == 2)))) : ak_LH b B0 ls' n (lset lo i (some x)) := by
  refine ⟨h'.1, h'.2.1, fun j v hj => ?_⟩
  rcases lg_lset lo i (some x) j v hj with ⟨rfl, e⟩ | ⟨hne, e⟩
  · cases e
    exact h'.2.2 _ List.mem_cons_self
  · refine h'.2.2 (j, ak_rl b B0 v) (List.mem_cons_of_mem _ (List.mem_filter.mpr ⟨ak_la_mem (h.lt e) e, ?_⟩))
    have hcat : ¬ (j + 1 = i ∧ (ak_rl b B0 v).category = 2) := by
      rintro ⟨rfl, hc⟩
      simp only [ak_ok1, e] at hok
      rw [ak_rl_cat] at hc
      cases v <;> simp [Value.category] at hc hok
    simp only [Bool.and_eq_true, Bool.not_eq_true', beq_eq_false_iff_ne, ne_eq]
    refine ⟨hne, ?_⟩
    cases hx : (j + 1 == i && (ak_rl b B0 v).category == 2) with
    | false => rfl
    | true =>
      simp only [Bool.and_eq_true, beq_iff_eq] at hx
      exact absurd hx hcat
theorem ak_LH.st2 {b B0 : Nat} {ls ls' : Array Slot} {n i : Nat} {lo : List (Option Value)} {x : Value} (h : ak_LH b B0 ls n lo) (hok : ak_ok1 lo i = true)
    (h' : lv_has ls' n ((i, ak_rl b B0 x) :: (ak_la b B0 lo n).filter (fun q => !(q.1 == i) && (!(q.1 == i + 1) && !(q.1 + 1 == i && q.2.category == 2))))) : ak_LH b B0 ls' n (lset (lset lo (i + 1) none) i (some x)) := by
  refine ⟨h'.1, h'.2.1, fun j v hj => ?_⟩
  rcases lg_lset _ i (some x) j v hj with ⟨rfl, e⟩ | ⟨hne, e⟩
  · cases e
    exact h'.2.2 _ List.mem_cons_self
  · rcases lg_lset lo (i + 1) none j v e with ⟨-, e2⟩ | ⟨hne2, e2⟩
    · cases e2
    · refine h'.2.2 (j, ak_rl b B0 v) (List.mem_cons_of_mem _ (List.mem_filter.mpr ⟨ak_la_mem (h.lt e2) e2, ?_⟩))
      have hcat : ¬ (j + 1 = i ∧ (ak_rl b B0 v).category = 2) := by
        rintro ⟨rfl, hc⟩
        simp only [ak_ok1, e2] at hok
        rw [ak_rl_cat] at hc
        cases v <;> simp [Value.category] at hc hok
      simp only [Bool.and_eq_true, Bool.not_eq_true', beq_eq_false_iff_ne, ne_eq]
      refine ⟨hne, hne2, ?_⟩
      cases hx : (j + 1 == i && (ak_rl b B0 v).category == 2) with
      | false => rfl
      | true =>
        simp only [Bool.and_eq_true, beq_iff_eq] at hx
        exact absurd hx hcat
/-! ===== constants, loads, stores ===== -/
def k_ci (x : Int32) (k : ak_K) : ak_K := fun lo st M => k lo (.int x :: st) M
def k_cl (x : Int64) (k : ak_K) : ak_K := fun lo st M => k lo (.long x :: st) M
def k_cn (k : ak_K) : ak_K := fun lo st M => k lo (.null :: st) M
theorem s_iconst {n : Int} {x : Int32} (hd : decode cc pc = .ok (.iconst n, 1)) (hv : Int32.ofInt n = x) (hk : ak_S cc own nL rk F L sc (pc + 1) k) : ak_S cc own nL rk F L sc pc (k_ci x k) :=
  ak_stay fun lo st M res h => ⟨_, _, lo, .int x :: st, hk, h, fun C H locs cells slots ls hR hF hl hc hs kk => lv_iconst C.1 C.2.1 hd hv (kk ls hl)⟩
theorem s_bipush {n : Int} {x : Int32} (hd : decode cc pc = .ok (.bipush n, 2)) (hv : (Int8.ofInt n).toInt32 = x) (hk : ak_S cc own nL rk F L sc (pc + 2) k) : ak_S cc own nL rk F L sc pc (k_ci x k) :=
  ak_stay fun lo st M res h => ⟨_, _, lo, .int x :: st, hk, h, fun C H locs cells slots ls hR hF hl hc hs kk => lv_bipush C.1 C.2.1 hd hv (kk ls hl)⟩
theorem s_sipush {n : Int} {x : Int32} (hd : decode cc pc = .ok (.sipush n, 3)) (hv : (Int16.ofInt n).toInt32 = x) (hk : ak_S cc own nL rk F L sc (pc + 3) k) : ak_S cc own nL rk F L sc pc (k_ci x k) :=
  ak_stay fun lo st M res h => ⟨_, _, lo, .int x :: st, hk, h, fun C H locs cells slots ls hR hF hl hc hs kk => lv_sipush C.1 C.2.1 hd hv (kk ls hl)⟩
theorem s_ldc {i : Nat} {x : Int32} (hd : decode cc pc = .ok (.ldc i, 2)) (hw : Cond.constant own i x ∈ ak_Ws) (hk : ak_S cc own nL rk F L sc (pc + 2) k) : ak_S cc own nL rk F L sc pc (k_ci x k) :=
  ak_stay fun lo st M res h => ⟨_, _, lo, .int x :: st, hk, h, fun C H locs cells slots ls hR hF hl hc hs kk => lv_ldc C.1 C.2.1 C.2.2.2.1 (C.2.2.2.2.1 _ hw) hd (kk ls hl)⟩
theorem s_lconst {n : Fin 2} {x : Int64} (hd : decode cc pc = .ok (.lconst n, 1)) (hv : Int64.ofNat (n : Nat) = x) (hk : ak_S cc own nL rk F L sc (pc + 1) k) : ak_S cc own nL rk F L sc pc (k_cl x k) :=
  ak_stay fun lo st M res h => ⟨_, _, lo, .long x :: st, hk, h, fun C H locs cells slots ls hR hF hl hc hs kk => lv_lconst C.1 C.2.1 hd hv (kk ls hl)⟩
theorem s_ldc2 {i : Nat} {x : Int64} (hd : decode cc pc = .ok (.ldc2_w i, 3)) (hw : Cond.constantLong own i x ∈ ak_Ws) (hk : ak_S cc own nL rk F L sc (pc + 3) k) : ak_S cc own nL rk F L sc pc (k_cl x k) :=
  ak_stay fun lo st M res h => ⟨_, _, lo, .long x :: st, hk, h, fun C H locs cells slots ls hR hF hl hc hs kk => lv_ldc2 C.1 C.2.1 C.2.2.2.1 (C.2.2.2.2.1 _ hw) hd (kk ls hl)⟩
theorem s_null (hd : decode cc pc = .ok (.aconst_null, 1)) (hk : ak_S cc own nL rk F L sc (pc + 1) k) : ak_S cc own nL rk F L sc pc (k_cn k) :=
  ak_stay fun lo st M res h => ⟨_, _, lo, .null :: st, hk, h, fun C H locs cells slots ls hR hF hl hc hs kk => lv_null C.1 C.2.1 hd (kk ls hl)⟩
def k_il (i : Nat) (k : ak_K) : ak_K := fun lo st M => match lg lo i with
  | some (.int x) => k lo (.int x :: st) M
  | _ => none
def k_ll (i : Nat) (k : ak_K) : ak_K := fun lo st M => match lg lo i with
  | some (.long x) => k lo (.long x :: st) M
  | _ => none
def k_al (i : Nat) (k : ak_K) : ak_K := fun lo st M => match lg lo i with
  | some (.ref x) => k lo (.ref x :: st) M
  | some .null => k lo (.null :: st) M
  | _ => none
theorem s_iload {i : Nat} (hd : decode cc pc = .ok (.iload i, 2)) (hk : ak_S cc own nL rk F L sc (pc + 2) k) : ak_S cc own nL rk F L sc pc (k_il i k) := by
  refine ak_stay fun lo st M res h => ?_
  unfold k_il at h
  split at h
  next x hx => exact ⟨_, _, lo, .int x :: st, hk, h, fun C H locs cells slots ls hR hF hl hc hs kk => lv_iload C.1 C.2.1 hd (hl.2.2 _ _ hx) (kk ls hl)⟩
  next => cases h
theorem s_iload_n {q : Fin 4} {i : Nat} (hd : decode cc pc = .ok (.iload_n q, 1)) (hq : (q : Nat) = i) (hk : ak_S cc own nL rk F L sc (pc + 1) k) : ak_S cc own nL rk F L sc pc (k_il i k) := by
  refine ak_stay fun lo st M res h => ?_
  unfold k_il at h
  split at h
  next x hx => exact ⟨_, _, lo, .int x :: st, hk, h, fun C H locs cells slots ls hR hF hl hc hs kk => lv_iload_n C.1 C.2.1 hd hq (hl.2.2 _ _ hx) (kk ls hl)⟩
  next => cases h
theorem s_lload {i : Nat} (hd : decode cc pc = .ok (.lload i, 2)) (hk : ak_S cc own nL rk F L sc (pc + 2) k) : ak_S cc own nL rk F L sc pc (k_ll i k) := by
  refine ak_stay fun lo st M res h => ?_
  unfold k_ll at h
  split at h
  next x hx => exact ⟨_, _, lo, .long x :: st, hk, h, fun C H locs cells slots ls hR hF hl hc hs kk => lv_lload C.1 C.2.1 hd (hl.2.2 _ _ hx) (kk ls hl)⟩
  next => cases h
theorem s_lload_n {q : Fin 4} {i : Nat} (hd : decode cc pc = .ok (.lload_n q, 1)) (hq : (q : Nat) = i) (hk : ak_S cc own nL rk F L sc (pc + 1) k) : ak_S cc own nL rk F L sc pc (k_ll i k) := by
  refine ak_stay fun lo st M res h => ?_
  unfold k_ll at h
  split at h
  next x hx => exact ⟨_, _, lo, .long x :: st, hk, h, fun C H locs cells slots ls hR hF hl hc hs kk => lv_lload_n C.1 C.2.1 hd hq (hl.2.2 _ _ hx) (kk ls hl)⟩
  next => cases h
theorem s_aload_n {q : Fin 4} {i : Nat} (hd : decode cc pc = .ok (.aload_n q, 1)) (hq : (q : Nat) = i) (hk : ak_S cc own nL rk F L sc (pc + 1) k) : ak_S cc own nL rk F L sc pc (k_al i k) := by
  refine ak_stay fun lo st M res h => ?_
  unfold k_al at h
  split at h
  next x hx => exact ⟨_, _, lo, .ref x :: st, hk, h, fun C H locs cells slots ls hR hF hl hc hs kk => lv_aload_n C.1 C.2.1 hd hq (hl.2.2 _ _ hx) (kk ls hl)⟩
  next hx => exact ⟨_, _, lo, .null :: st, hk, h, fun C H locs cells slots ls hR hF hl hc hs kk => lv_aload_nN C.1 C.2.1 hd hq (hl.2.2 _ _ hx) (kk ls hl)⟩
  next => cases h
def k_is (i : Nat) (k : ak_K) : ak_K := fun lo st M => match st with
  | .int x :: st' => if ak_ok1 lo i = true then k (lset lo i (some (.int x))) st' M else none
  | _ => none
def k_as (i : Nat) (k : ak_K) : ak_K := fun lo st M => match st with
  | .ref x :: st' => if ak_ok1 lo i = true then k (lset lo i (some (.ref x))) st' M else none
  | .null :: st' => if ak_ok1 lo i = true then k (lset lo i (some .null)) st' M else none
  | _ => none
def k_ls (i : Nat) (k : ak_K) : ak_K := fun lo st M => match st with
  | .long x :: st' => if ak_ok1 lo i = true then k (lset (lset lo (i + 1) none) i (some (.long x))) st' M else none
  | _ => none
def k_ii (i : Nat) (y : Int32) (k : ak_K) : ak_K := fun lo st M => match lg lo i with
  | some (.int x) => if ak_ok1 lo i = true then k (lset lo i (some (.int (x + y)))) st M else none
  | _ => none
theorem s_istore {i : Nat} (hd : decode cc pc = .ok (.istore i, 2)) (hi : i < nL) (hk : ak_S cc own nL rk F L sc (pc + 2) k) : ak_S cc own nL rk F L sc pc (k_is i k) := by
  refine ak_stay fun lo st M res h => ?_
  unfold k_is at h
  split at h
  next x st' =>
    split at h
    next hok => exact ⟨_, _, _, st', hk, h, fun C H locs cells slots ls hR hF hl hc hs kk => lv_istore C.1 C.2.1 hd (ak_la_has hl) hi rfl (fun ls' h' => kk ls' (hl.st1 (x := .int x) hok h'))⟩
    next => cases h
  next => cases h
theorem s_istore_n {q : Fin 4} {i : Nat} (hd : decode cc pc = .ok (.istore_n q, 1)) (hq : (q : Nat) = i) (hi : i < nL) (hk : ak_S cc own nL rk F L sc (pc + 1) k) : ak_S cc own nL rk F L sc pc (k_is i k) := by
  refine ak_stay fun lo st M res h => ?_
  unfold k_is at h
  split at h
  next x st' =>
    split at h
    next hok => exact ⟨_, _, _, st', hk, h, fun C H locs cells slots ls hR hF hl hc hs kk => lv_istore_n C.1 C.2.1 hd hq (ak_la_has hl) hi rfl (fun ls' h' => kk ls' (hl.st1 (x := .int x) hok h'))⟩
    next => cases h
  next => cases h
theorem s_astore_n {q : Fin 4} {i : Nat} (hd : decode cc pc = .ok (.astore_n q, 1)) (hq : (q : Nat) = i) (hi : i < nL) (hk : ak_S cc own nL rk F L sc (pc + 1) k) : ak_S cc own nL rk F L sc pc (k_as i k) := by
  refine ak_stay fun lo st M res h => ?_
  unfold k_as at h
  split at h
  next x st' =>
    split at h
    next hok => exact ⟨_, _, _, st', hk, h, fun C H locs cells slots ls hR hF hl hc hs kk => lv_astore_n C.1 C.2.1 hd hq (ak_la_has hl) hi rfl (fun ls' h' => kk ls' (hl.st1 (x := .ref x) hok h'))⟩
    next => cases h
  next st' =>
    split at h
    next hok => exact ⟨_, _, _, st', hk, h, fun C H locs cells slots ls hR hF hl hc hs kk => lv_astore_nN C.1 C.2.1 hd hq (ak_la_has hl) hi rfl (fun ls' h' => kk ls' (hl.st1 (x := .null) hok h'))⟩
    next => cases h
  next => cases h
theorem s_lstore_n {q : Fin 4} {i : Nat} (hd : decode cc pc = .ok (.lstore_n q, 1)) (hq : (q : Nat) = i) (hi : i + 1 < nL) (hk : ak_S cc own nL rk F L sc (pc + 1) k) : ak_S cc own nL rk F L sc pc (k_ls i k) := by
  refine ak_stay fun lo st M res h => ?_
  unfold k_ls at h
  split at h
  next x st' =>
    split at h
    next hok => exact ⟨_, _, _, st', hk, h, fun C H locs cells slots ls hR hF hl hc hs kk => lv_lstore_n C.1 C.2.1 hd hq (ak_la_has hl) hi rfl (fun ls' h' => kk ls' (hl.st2 (x := .long x) hok h'))⟩
    next => cases h
  next => cases h
theorem s_iinc {i : Nat} {n : Int} {y : Int32} (hd : decode cc pc = .ok (.iinc i n, 3)) (hy : Int32.ofInt n = y) (hi : i < nL) (hk : ak_S cc own nL rk F L sc (pc + 3) k) : ak_S cc own nL rk F L sc pc (k_ii i y k) := by
  refine ak_stay fun lo st M res h => ?_
  unfold k_ii at h
  split at h
  next x hx =>
    split at h
    next hok =>
      refine ⟨_, _, _, st, hk, h, fun C H locs cells slots ls hR hF hl hc hs kk => ?_⟩
      obtain ⟨j, hj⟩ := List.getElem?_of_mem (ak_la_mem (hl.lt hx) hx)
      exact lv_iinc C.1 C.2.1 hd (ak_la_has hl) hj (by rw [hy]) hi rfl (fun ls' h' => kk ls' (hl.st1 (x := .int (x + y)) hok h'))
    next => cases h
  next => cases h
end EK
