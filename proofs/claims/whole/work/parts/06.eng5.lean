/-! ===== THE ABSTRACT MACHINE, 5: calls, ends, contracts ===== -/
def ak_pop : Nat → List Value → List Value → Option (List Value × List Value)
  | 0, st, acc => some (acc, st)
  | n + 1, v :: st, acc => ak_pop n st (v :: acc)
  | _ + 1, [], _ => none
theorem ak_pop_eq : ∀ (n : Nat) (st acc : List Value) (q : List Value × List Value), ak_pop n st acc = some q → ∃ Bs : List Value, Bs.length = n ∧ q.1 = Bs.reverse ++ acc ∧ st = Bs ++ q.2
  | 0, st, acc, q, h => by cases h; exact ⟨[], rfl, rfl, rfl⟩
  | n + 1, [], acc, q, h => by cases h
  | n + 1, v :: st, acc, q, h => by
    obtain ⟨Bs, h1, h2, h3⟩ := ak_pop_eq n st (v :: acc) q h
    exact ⟨v :: Bs, by simp [h1], by rw [h2]; simp, by rw [h3]; rfl⟩
theorem ak_pop0 {n : Nat} {st : List Value} {q : List Value × List Value} (h : ak_pop n st [] = some q) : q.1.length = n ∧ st = q.1.reverse ++ q.2 := by
  obtain ⟨Bs, h1, h2, h3⟩ := ak_pop_eq n st [] q h
  rw [List.append_nil] at h2
  rw [h2, List.length_reverse, List.reverse_reverse]
  exact ⟨h1, h3⟩
/-- at most four below -/
def ak_s4 : List Value → Bool
  | [] => true
  | [_] => true
  | [_, _] => true
  | [_, _, _] => true
  | [_, _, _, _] => true
  | _ => false
theorem ak_c2 (v : Value) : v.category ≤ 2 := by cases v <;> simp [Value.category]
theorem ak_s4_sum {b B0 : Nat} : ∀ {st : List Value}, ak_s4 st = true → ((st.map (ak_rl b B0)).map fun v => v.category).sum ≤ 8
  | [], _ => by simp
  | [v], _ => by have := ak_c2 (ak_rl b B0 v); simp; omega
  | [v, w], _ => by have := ak_c2 (ak_rl b B0 v); have := ak_c2 (ak_rl b B0 w); simp; omega
  | [v, w, x], _ => by have := ak_c2 (ak_rl b B0 v); have := ak_c2 (ak_rl b B0 w); have := ak_c2 (ak_rl b B0 x); simp; omega
  | [v, w, x, y], _ => by have := ak_c2 (ak_rl b B0 v); have := ak_c2 (ak_rl b B0 w); have := ak_c2 (ak_rl b B0 x); have := ak_c2 (ak_rl b B0 y); simp; omega
  | _ :: _ :: _ :: _ :: _ :: _, h => by cases h
def ak_Pc (D : va_G) (cA : Nat → ClassId) (b B0 : Nat) (As : List Value) (M : ak_M) : Array Value → State → Prop := fun v U => v = (As.map (ak_rl b B0)).toArray ∧ ak_Rep D cA b B0 M U.heap ∧ ak_KK D cA U
def ak_Qc (D : va_G) (cA : Nat → ClassId) (b B0 : Nat) (r : Option Value × ak_M) : Array Value → State → Outcome → State → Prop := fun _ st o t => o = .returned (r.1.map (ak_rl b B0)) ∧ ak_Rep D cA b B0 r.2 t.heap ∧ ∀ q : Nat, q ≤ B0 → t.heap[q]? = st.heap[q]?
def ak_rm (F L mc ms : Nat) : Room := { frames := F, cells := mc, slots := ms, locals := L }
/-- a method's contract: what f says of its arguments and the memory, the machine does -/
def ak_Mt (y : MethodName) (cc : ByteArray) (maxL : Nat) (ret : Option FieldType) (F L : Nat) (f : List Value → ak_M → ak_R) : Prop :=
  Cond.code y cc maxL ret ∈ ak_Ws ∧ (∀ As M r, f As M = some r → mZ M ≤ mZ r.2 ∧ mT M ≤ mT r.2) ∧
  ∀ (l : Launch) (D : va_G) (cA : Nat → ClassId) (b B0 : Nat) (As : List Value) (M : ak_M) (r : Option Value × ak_M), f As M = some r →
    Met l y (Cond.code y cc maxL ret :: ak_Ws) (ak_rm F L (mZ r.2 - mZ M) (mT r.2 - mT M)) (ak_Pc D cA b B0 As M) (ak_Qc D cA b B0 r) (mZ r.2 - mZ M) (mT r.2 - mT M) (fun q => B0 < q)
theorem ak_GI {ws : List Cond} (h : ∀ w ∈ ws, w ∈ ak_Ws) : GoodIn ak_Ws ws := fun w hw => ⟨h w hw, ak_good w (h w hw)⟩
theorem ak_blind {D : va_G} {cA : Nat → ClassId} {b B0 : Nat} {As : List Value} {M : ak_M} : FrameBlind (ak_Pc D cA b B0 As M) :=
  fun a U g mk h => ⟨h.1, h.2.1, h.2.2.call g mk a⟩
section EK8
variable {p : Program} {l : Launch} {e : Env} {R : Room} {s : State} {m : MethodId} {args : Array Value} {below : List Frame} {meth : Method} {c : Code} {D : va_G} {cA : Nat → ClassId} {b B0 : Nat} {H0 : Heap} {Q : State → Prop}
variable {H : Heap} {locs : List Loc} {cells slots pc mc ms : Nat} {ls : Array Slot} {M : ak_M} {st0 rest : List Value} {r : Option Value × ak_M} {X0 : Array Value}
theorem ak_preS {As : List Value} (hR : ak_Rep D cA b B0 M H) (hKK : ak_KK D cA s) : PreS s H (ak_Pc D cA b B0 As M) (As.map (ak_rl b B0)) :=
  ⟨ak_blind, fun U hU hW => ⟨rfl, by rw [hU]; exact hR, hKK.warm hW⟩⟩
theorem ak_after (hrun : va_Run p l e R s m args below meth c H locs cells slots mc ms (F0 m pc ls st0) rest (ak_Qc D cA b B0 r X0) (fun q => B0 < q)) (hF : ak_Fr B0 H0 H locs)
    (kk : ∀ (H' : Heap) (locs' : List Loc), ak_Rep D cA b B0 r.2 H' → ak_Fr B0 H0 H' locs' → W p l e R s m args below meth c H' locs' (cells + mc) (slots + ms) Q (F0 m (pc + 3) ls ((r.1.map (ak_rl b B0)).toList ++ rest))) :
    W p l e R s m args below meth c H locs cells slots Q (F0 m pc ls st0) := by
  intro T hT X
  obtain ⟨v, st₀, t, T', L, h0, X', hL, e1, e2, ⟨hv, hRep, hfr⟩, st⟩ := hrun T hT X
  cases hv
  obtain ⟨t2, a1, b1⟩ := kk T'.heap (locs ++ L) (by rw [e1]; exact hRep) ⟨fun q hq => by rw [e1, hfr q hq, h0]; exact hF.1 q hq, fun q hq => by
    rcases List.mem_append.mp hq with h | h
    · exact hF.2 q h
    · exact hL q h⟩ T' rfl X'
  exact ⟨t2, st t2 a1, b1⟩
end EK8
theorem ak_tl {b B0 : Nat} (v : Option Value) (rest : List Value) : (v.map (ak_rl b B0)).toList ++ rest.map (ak_rl b B0) = (v.toList ++ rest).map (ak_rl b B0) := by cases v <;> rfl
def k_cs (n : Nat) (f : List Value → ak_M → ak_R) (k : ak_K) : ak_K := fun lo st M => match ak_pop n st [] with
  | some q => if ak_s4 q.2 = true then (match f q.1 M with
    | some r => k lo (r.1.toList ++ q.2) r.2
    | none => none) else none
  | none => none
def k_cv (i n : Nat) (f : List Value → ak_M → ak_R) (k : ak_K) : ak_K := fun lo st M => match ak_pop n st [] with
  | some (.ref a :: As, rest) => if ak_s4 rest = true ∧ (mS M a).1 = 10 + i then (match f (.ref a :: As) M with
    | some r => k lo (r.1.toList ++ rest) r.2
    | none => none) else none
  | _ => none
def k_cn0 (n : Nat) (f : List Value → ak_M → ak_R) (k : ak_K) : ak_K := fun lo st M => match ak_pop n st [] with
  | some (.ref a :: As, rest) => if ak_s4 rest = true ∧ a ≠ 0 then (match f (.ref a :: As) M with
    | some r => k lo (r.1.toList ++ rest) r.2
    | none => none) else none
  | _ => none
def k_obj (k : ak_K) : ak_K := fun lo st M => match st with
  | .ref _ :: st' => if ak_s4 st' = true then k lo st' M else none
  | _ => none
def k_max (k : ak_K) : ak_K := fun lo st M => match st with
  | .int y :: .int x :: st' => if ak_s4 st' = true then k lo (.int (if x < y then y else x) :: st') M else none
  | _ => none
def k_min (k : ak_K) : ak_K := fun lo st M => match st with
  | .int y :: .int x :: st' => if ak_s4 st' = true then k lo (.int (if y < x then y else x) :: st') M else none
  | _ => none
def k_ri : ak_K := fun _ st M => match st with
  | [.int x] => some (some (.int x), M)
  | _ => none
def k_rz : ak_K := fun _ st M => match st with
  | [.int x] => if x = 0 ∨ x = 1 then some (some (.int x), M) else none
  | _ => none
def k_rq : ak_K := fun _ st M => match st with
  | [.ref x] => some (some (.ref x), M)
  | [.null] => some (some .null, M)
  | _ => none
def k_rv : ak_K := fun _ st M => match st with
  | [] => some (none, M)
  | _ => none
def k_rl : ak_K := fun _ st M => match st with
  | [.int x] => if x = 1 then some (some (.int 1), M) else none
  | _ => none
def k_no : ak_K := fun _ _ _ => none
section EK9
variable {cc : ByteArray} {own : String} {nL rk F L : Nat} {sc : Nat × (Nat → Int32)} {pc : Nat} {k : ak_K}
variable {y : MethodName} {bytes : ByteArray} {maxL : Nat} {ret : Option FieldType} {F' L' : Nat} {f : List Value → ak_M → ak_R} {n idx i : Nat}
theorem s_cs (hM : ak_Mt y bytes maxL ret F' L' f) (hd : decode cc pc = .ok (.invokestatic idx, 3)) (hdesc : y.cls ≠ "java/lang/invoke/MethodHandle" ∧ y.cls ≠ "java/lang/invoke/VarHandle" ∧ (parseMethodDescriptor y.desc).map (fun d => d.parameters.length) = some n)
    (hFL : F' + 1 ≤ F ∧ 8 + (maxL + 11) + L' ≤ L) (hst : Cond.static y ∈ ak_Ws) (hini : Cond.initialized y.cls ∈ ak_Ws)
    (hw : (Cond.methodLink own idx y ∈ ak_Ws ∧ y.cls = own) ∨ ∃ host, Cond.methodLinkNest own idx y host ∈ lw_tbl)
    (hk : ak_S cc own nL rk F L sc (pc + 3) k) : ak_S cc own nL rk F L sc pc (k_cs n f k) := by
  refine ak_step fun lo st M res h => ?_
  unfold k_cs at h
  split at h
  next q hq =>
    split at h
    next h4 =>
      split at h
      next r hr =>
        obtain ⟨hcode, hmono, hmet⟩ := hM
        obtain ⟨m1, m2⟩ := hmono _ _ _ hr
        obtain ⟨p1, p2⟩ := ak_pop0 hq
        refine ⟨_, _, lo, _, _, hk, h, ⟨m1, m2⟩, fun {p l e R s m args below meth c D cA b B0 H0 z0 t0 Q} X H locs ls hR hF hl hz ht0 hm kk => ?_⟩
        obtain ⟨hx, hb, hml, hown, hts, hKK, g3, g4, g1, g2, -⟩ := X
        have hcw : ∀ w ∈ (Cond.code y bytes maxL ret :: ak_Ws), w ∈ ak_Ws := fun w hw => by
          rcases List.mem_cons.mp hw with rfl | h
          · exact hcode
          · exact h
        have hroom : (ak_rm F' L' (mZ r.2 - mZ M) (mT r.2 - mT M)).frames + 1 ≤ R.frames ∧ 8 + (maxL + 11) + (ak_rm F' L' (mZ r.2 - mZ M) (mT r.2 - mT M)).locals ≤ R.locals := by
          show F' + 1 ≤ R.frames ∧ 8 + (maxL + 11) + L' ≤ R.locals
          omega
        have hstk : (F0 m pc ls (st.map (ak_rl b B0))).stack = (q.1.map (ak_rl b B0)).reverse ++ q.2.map (ak_rl b B0) := by
          show st.map (ak_rl b B0) = _
          rw [p2, List.map_append, List.map_reverse]
        have hf2 : mZ M - z0 + (mZ r.2 - mZ M) ≤ R.cells ∧ mT M - t0 + (mT r.2 - mT M) ≤ R.slots := by omega
        have fin := fun (H' : Heap) (locs' : List Loc) (a1 : ak_Rep D cA b B0 r.2 H') (a2 : ak_Fr B0 H0 H' locs') => kk H' locs' ls a1 a2 hl
        rw [← ak_tl] at fin
        rw [show mZ r.2 - z0 = mZ M - z0 + (mZ r.2 - mZ M) by omega, show mT r.2 - t0 = mT M - t0 + (mT r.2 - mT M) by omega] at fin
        rcases hw with ⟨hlk, hcls⟩ | ⟨host, hlk⟩
        · refine ak_after (r := r) (va_runS (As := q.1.map (ak_rl b B0)) (rest := q.2.map (ak_rl b B0)) ⟨hx, hb, hml, hown, hts⟩ (hmet l D cA b B0 q.1 M r hr) (cwS (ws := Cond.code y bytes maxL ret :: ak_Ws) n hts (ak_GI fun w hw => ?_) rfl rfl rfl ⟨hcls, hdesc⟩ hroom) (ak_preS hR hKK) rfl (by rw [List.length_map]; exact p1) hl.1 hstk (lv_room (ak_s4_sum h4)) hd hf2) hF fin
          rcases List.mem_append.mp hw with h | h
          · simp only [List.mem_cons, List.not_mem_nil, or_false] at h
            rcases h with rfl | rfl | rfl
            · exact hlk
            · exact hst
            · rw [← hcls]; exact hini
          · exact hcw w h
        · exact ak_after (r := r) (va_runSN (As := q.1.map (ak_rl b B0)) (rest := q.2.map (ak_rl b B0)) ⟨hx, hb, hml, hown, hts⟩ (hmet l D cA b B0 q.1 M r hr) ⟨va_cnB n hts (ak_GI hcw) rfl rfl rfl (ak_nest hKK.2.1 hlk rfl) (hts _ hini) hdesc hroom, hts _ hst, trivial⟩ (ak_preS hR hKK) rfl (by rw [List.length_map]; exact p1) hl.1 hstk (lv_room (ak_s4_sum h4)) hd hf2) hF fin
      next => cases h
    next => cases h
  next => cases h
theorem s_cv {C : String} {Tf : u_T} {N : Nat} (hc : vwCl[i]? = some (C, Tf, N)) (hM : ak_Mt y bytes maxL ret F' L' f) (hd : decode cc pc = .ok (.invokevirtual idx, 3)) (hcls : y.cls = C) (hdesc : y.cls ≠ "java/lang/invoke/MethodHandle" ∧ y.cls ≠ "java/lang/invoke/VarHandle" ∧ (parseMethodDescriptor y.desc).map (fun d => d.parameters.length) = some n)
    (hFL : F' + 1 ≤ F ∧ 8 + (maxL + 11) + L' ≤ L) (hin : Cond.instanceMethod y ∈ ak_Ws) (hse : Cond.selects C y y ∈ ak_Ws) (hini : Cond.initialized C ∈ ak_Ws)
    (hw : Cond.methodLink own idx y ∈ ak_Ws ∨ ∃ host, Cond.methodLinkNest own idx y host ∈ lw_tbl)
    (hk : ak_S cc own nL rk F L sc (pc + 3) k) : ak_S cc own nL rk F L sc pc (k_cv i (n + 1) f k) := by
  refine ak_step fun lo st M res h => ?_
  unfold k_cv at h
  split at h
  next a As rest hq =>
    split at h
    next h4 =>
      obtain ⟨h4, hai⟩ := h4
      split at h
      next r hr =>
        obtain ⟨hcode, hmono, hmet⟩ := hM
        obtain ⟨m1, m2⟩ := hmono _ _ _ hr
        obtain ⟨p1, p2⟩ := ak_pop0 hq
        have p1' : As.length = n := by have : As.length + 1 = n + 1 := p1; omega
        refine ⟨_, _, lo, _, _, hk, h, ⟨m1, m2⟩, fun {p l e R s m args below meth c D cA b B0 H0 z0 t0 Q} X H locs ls hR hF hl hz ht0 hm kk => ?_⟩
        obtain ⟨hx, hb, hml, hown, hts, hKK, g3, g4, g1, g2, -⟩ := X
        have hpa := hR.pos (a := a) (by omega)
        have hcw : ∀ w ∈ (Cond.code y bytes maxL ret :: ak_Ws), w ∈ ak_Ws := fun w hw => by
          rcases List.mem_cons.mp hw with rfl | h
          · exact hcode
          · exact h
        have hroom : (ak_rm F' L' (mZ r.2 - mZ M) (mT r.2 - mT M)).frames + 1 ≤ R.frames ∧ 8 + (maxL + 11) + (ak_rm F' L' (mZ r.2 - mZ M) (mT r.2 - mT M)).locals ≤ R.locals := by
          show F' + 1 ≤ R.frames ∧ 8 + (maxL + 11) + L' ≤ R.locals
          omega
        have hstk : (F0 m pc ls (st.map (ak_rl b B0))).stack = (As.map (ak_rl b B0)).reverse ++ .ref (B0 + a) :: rest.map (ak_rl b B0) := by
          show st.map (ak_rl b B0) = _
          rw [p2, List.reverse_cons, List.append_assoc, List.map_append, List.map_reverse]
          show _ ++ Value.ref (ak_ad b B0 a) :: _ = _
          rw [hpa]
          rfl
        have hf2 : mZ M - z0 + (mZ r.2 - mZ M) ≤ R.cells ∧ mT M - t0 + (mT r.2 - mT M) ≤ R.slots := by omega
        have fin := fun (H' : Heap) (locs' : List Loc) (a1 : ak_Rep D cA b B0 r.2 H') (a2 : ak_Fr B0 H0 H' locs') => kk H' locs' ls a1 a2 hl
        rw [← ak_tl] at fin
        rw [show mZ r.2 - z0 = mZ M - z0 + (mZ r.2 - mZ M) by omega, show mT r.2 - t0 = mT M - t0 + (mT r.2 - mT M) by omega] at fin
        have hpre : PreV s H C (B0 + a) (ak_Pc D cA b B0 (.ref a :: As) M) (As.map (ak_rl b B0)) := by
          obtain ⟨q1, q2⟩ := ak_preS (As := .ref a :: As) hR hKK
          refine ⟨q1, va_recv (q0 := 0) hKK.1 (hR.one hai hc) hc rfl, fun U hU hW => ?_⟩
          have h9 := q2 U hU hW
          rw [List.map_cons] at h9
          have e9 : ak_rl b B0 (.ref a) = .ref (B0 + a) := by show Value.ref (ak_ad b B0 a) = _; rw [hpa]
          rw [e9] at h9
          exact h9
        rcases hw with hlk | ⟨host, hlk⟩
        · refine ak_after (r := r) (va_runV (As := As.map (ak_rl b B0)) (rest := rest.map (ak_rl b B0)) ⟨hx, hb, hml, hown, hts⟩ (hmet l D cA b B0 (.ref a :: As) M r hr) (cwV (ws := Cond.code y bytes maxL ret :: ak_Ws) n hts (ak_GI fun w hw => ?_) rfl rfl rfl ⟨hcls, hdesc⟩ hroom) hpre rfl (by rw [List.length_map]; exact p1') hl.1 hstk (lv_room (ak_s4_sum h4)) hd hf2) hF fin
          rcases List.mem_append.mp hw with h | h
          · simp only [List.mem_cons, List.not_mem_nil, or_false] at h
            rcases h with rfl | rfl | rfl | rfl
            · exact hlk
            · exact hin
            · exact hse
            · exact hini
          · exact hcw w h
        · exact ak_after (r := r) (va_runVN (As := As.map (ak_rl b B0)) (rest := rest.map (ak_rl b B0)) ⟨hx, hb, hml, hown, hts⟩ (hmet l D cA b B0 (.ref a :: As) M r hr) ⟨va_cnB n hts (ak_GI hcw) rfl rfl rfl (ak_nest hKK.2.1 hlk rfl) (hts _ (by rw [hcls]; exact hini)) hdesc hroom, hts _ hin, hts _ hse⟩ hpre rfl (by rw [List.length_map]; exact p1') hl.1 hstk (lv_room (ak_s4_sum h4)) hd hf2) hF fin
      next => cases h
    next => cases h
  next => cases h
theorem s_cn0 (hM : ak_Mt y bytes maxL none F' L' f) (hd : decode cc pc = .ok (.invokespecial idx, 3)) (hnm : y.name = "<init>") (hdesc : y.cls ≠ "java/lang/invoke/MethodHandle" ∧ y.cls ≠ "java/lang/invoke/VarHandle" ∧ (parseMethodDescriptor y.desc).map (fun d => d.parameters.length) = some n)
    (hFL : F' + 1 ≤ F ∧ 8 + (maxL + 11) + L' ≤ L) (hin : Cond.instanceMethod y ∈ ak_Ws) (hini : Cond.initialized y.cls ∈ ak_Ws)
    (hw : Cond.methodLink own idx y ∈ ak_Ws ∨ ∃ host, Cond.methodLinkNest own idx y host ∈ lw_tbl)
    (hk : ak_S cc own nL rk F L sc (pc + 3) k) : ak_S cc own nL rk F L sc pc (k_cn0 (n + 1) f k) := by
  refine ak_step fun lo st M res h => ?_
  unfold k_cn0 at h
  split at h
  next a As rest hq =>
    split at h
    next h4 =>
      obtain ⟨h4, hai⟩ := h4
      split at h
      next r hr =>
        obtain ⟨hcode, hmono, hmet⟩ := hM
        obtain ⟨m1, m2⟩ := hmono _ _ _ hr
        obtain ⟨p1, p2⟩ := ak_pop0 hq
        have p1' : As.length = n := by have : As.length + 1 = n + 1 := p1; omega
        refine ⟨_, _, lo, _, _, hk, h, ⟨m1, m2⟩, fun {p l e R s m args below meth c D cA b B0 H0 z0 t0 Q} X H locs ls hR hF hl hz ht0 hm kk => ?_⟩
        obtain ⟨hx, hb, hml, hown, hts, hKK, g3, g4, g1, g2, -⟩ := X
        have hpa : ak_ad b B0 a = B0 + a := by unfold ak_ad; rw [if_neg hai]
        have hcw : ∀ w ∈ (Cond.code y bytes maxL none :: ak_Ws), w ∈ ak_Ws := fun w hw => by
          rcases List.mem_cons.mp hw with rfl | h
          · exact hcode
          · exact h
        have hroom : (ak_rm F' L' (mZ r.2 - mZ M) (mT r.2 - mT M)).frames + 1 ≤ R.frames ∧ 8 + (maxL + 11) + (ak_rm F' L' (mZ r.2 - mZ M) (mT r.2 - mT M)).locals ≤ R.locals := by
          show F' + 1 ≤ R.frames ∧ 8 + (maxL + 11) + L' ≤ R.locals
          omega
        have hstk : (F0 m pc ls (st.map (ak_rl b B0))).stack = (As.map (ak_rl b B0)).reverse ++ .ref (B0 + a) :: rest.map (ak_rl b B0) := by
          show st.map (ak_rl b B0) = _
          rw [p2, List.reverse_cons, List.append_assoc, List.map_append, List.map_reverse]
          show _ ++ Value.ref (ak_ad b B0 a) :: _ = _
          rw [hpa]
          rfl
        have hf2 : mZ M - z0 + (mZ r.2 - mZ M) ≤ R.cells ∧ mT M - t0 + (mT r.2 - mT M) ≤ R.slots := by omega
        have fin := fun (H' : Heap) (locs' : List Loc) (a1 : ak_Rep D cA b B0 r.2 H') (a2 : ak_Fr B0 H0 H' locs') => kk H' locs' ls a1 a2 hl
        rw [← ak_tl] at fin
        rw [show mZ r.2 - z0 = mZ M - z0 + (mZ r.2 - mZ M) by omega, show mT r.2 - t0 = mT M - t0 + (mT r.2 - mT M) by omega] at fin
        have hpre : PreS s H (ak_Pc D cA b B0 (.ref a :: As) M) (.ref (B0 + a) :: As.map (ak_rl b B0)) := by
          have h9 := ak_preS (As := .ref a :: As) hR hKK
          rw [List.map_cons] at h9
          have e9 : ak_rl b B0 (.ref a) = .ref (B0 + a) := by show Value.ref (ak_ad b B0 a) = _; rw [hpa]
          rw [e9] at h9
          exact h9
        rcases hw with hlk | ⟨host, hlk⟩
        · exact ak_after (r := r) (va_runI (As := As.map (ak_rl b B0)) (rest := rest.map (ak_rl b B0)) ⟨hx, hb, hml, hown, hts⟩ (hmet l D cA b B0 (.ref a :: As) M r hr) (cwI (ws := Cond.code y bytes maxL none :: ak_Ws) n hts (ak_GI hcw) rfl rfl rfl (hts _ hini) (hts _ hlk) (hts _ hin) hnm hdesc hroom) hpre rfl (by rw [List.length_map]; exact p1') hl.1 hstk (lv_room (ak_s4_sum h4)) hd hf2) hF fin
        · exact ak_after (r := r) (va_runIN (As := As.map (ak_rl b B0)) (rest := rest.map (ak_rl b B0)) ⟨hx, hb, hml, hown, hts⟩ (hmet l D cA b B0 (.ref a :: As) M r hr) ⟨va_cnB n hts (ak_GI hcw) rfl rfl rfl (ak_nest hKK.2.1 hlk rfl) (hts _ hini) hdesc hroom, hnm, hts _ hin⟩ hpre rfl (by rw [List.length_map]; exact p1') hl.1 hstk (lv_room (ak_s4_sum h4)) hd hf2) hF fin
      next => cases h
    next => cases h
  next => cases h
theorem s_obj (hF1 : 1 ≤ F ∧ 20 ≤ L) (h1 : Cond.methodLink own idx Lib.objectInit ∈ ak_Ws) (h2 : Cond.instanceMethod Lib.objectInit ∈ ak_Ws) (h3 : Cond.code Lib.objectInit ⟨#[0xb1]⟩ 1 none ∈ ak_Ws) (hd : decode cc pc = .ok (.invokespecial idx, 3)) (hk : ak_S cc own nL rk F L sc (pc + 3) k) : ak_S cc own nL rk F L sc pc (k_obj k) := by
  refine ak_stay fun lo st M res h => ?_
  unfold k_obj at h
  split at h
  next a st' =>
    split at h
    next h4 =>
      refine ⟨_, _, lo, st', hk, h, fun {p l e R s m args below meth c D cA b B0 H0 z0 t0 Q} X H locs cells slots ls hR hF hl hc' hs kk => ?_⟩
      obtain ⟨hx, hb, hml, hown, hts, hKK, g3, g4, g1, g2, -⟩ := X
      have h8 := ak_s4_sum (b := b) (B0 := B0) h4
      refine W.objInit hx hb hown (hts _ h1) (hts _ h2) (hts _ h3) (a := ak_ad b B0 a) (rest := st'.map (ak_rl b B0)) rfl (by rw [hml]; exact hl.1) rfl hd (by omega) (by show 2 * 0 + _ + 12 ≤ _; omega) ?_
      exact kk ls hl
    next => cases h
  next => cases h
theorem s_max (hF1 : 1 ≤ F ∧ 21 ≤ L) (h1 : Cond.methodLink own idx Lib.Math.max.name ∈ ak_Ws) (h2 : Cond.static Lib.Math.max.name ∈ ak_Ws) (h3 : Cond.initialized "java/lang/Math" ∈ ak_Ws) (h4' : Cond.code Lib.Math.max.name Lib.Math.max.code 2 (some .int) ∈ ak_Ws) (hd : decode cc pc = .ok (.invokestatic idx, 3)) (hk : ak_S cc own nL rk F L sc (pc + 3) k) : ak_S cc own nL rk F L sc pc (k_max k) := by
  refine ak_stay fun lo st M res h => ?_
  unfold k_max at h
  split at h
  next y x st' =>
    split at h
    next h4 =>
      refine ⟨_, _, lo, .int (if x < y then y else x) :: st', hk, h, fun {p l e R s m args below meth c D cA b B0 H0 z0 t0 Q} X H locs cells slots ls hR hF hl hc' hs kk => ?_⟩
      obtain ⟨hx, hb, hml, hown, hts, hKK, g3, g4, g1, g2, -⟩ := X
      have h8 := ak_s4_sum (b := b) (B0 := B0) h4
      exact va_mmax hx hb (by rw [hml]; exact hl.1.symm) hown (hts _ h1) (hts _ h2) (hts _ h3) (hts _ h4') (by omega) (by omega) hc' hs hd (kk ls hl)
    next => cases h
  next => cases h
theorem s_min (hF1 : 1 ≤ F ∧ 21 ≤ L) (h1 : Cond.methodLink own idx Lib.Math.min.name ∈ ak_Ws) (h2 : Cond.static Lib.Math.min.name ∈ ak_Ws) (h3 : Cond.initialized "java/lang/Math" ∈ ak_Ws) (h4' : Cond.code Lib.Math.min.name Lib.Math.min.code 2 (some .int) ∈ ak_Ws) (hd : decode cc pc = .ok (.invokestatic idx, 3)) (hk : ak_S cc own nL rk F L sc (pc + 3) k) : ak_S cc own nL rk F L sc pc (k_min k) := by
  refine ak_stay fun lo st M res h => ?_
  unfold k_min at h
  split at h
  next y x st' =>
    split at h
    next h4 =>
      refine ⟨_, _, lo, .int (if y < x then y else x) :: st', hk, h, fun {p l e R s m args below meth c D cA b B0 H0 z0 t0 Q} X H locs cells slots ls hR hF hl hc' hs kk => ?_⟩
      obtain ⟨hx, hb, hml, hown, hts, hKK, g3, g4, g1, g2, -⟩ := X
      have h8 := ak_s4_sum (b := b) (B0 := B0) h4
      exact va_mmin hx hb (by rw [hml]; exact hl.1.symm) hown (hts _ h1) (hts _ h2) (hts _ h3) (hts _ h4') (by omega) (by omega) hc' hs hd (kk ls hl)
    next => cases h
  next => cases h
theorem ak_endS (hdec : ak_rdec cc pc rk) (h : ∀ lo st M res, k lo st M = some res → res.2 = M ∧ ak_rok rk res.1 ∧ res.1.toList = st) : ak_S cc own nL rk F L sc pc k := by
  refine ⟨fun lo st M res hk => ?_, ?_⟩
  · rw [(h lo st M res hk).1]; exact ⟨Nat.le_refl _, Nat.le_refl _⟩
  · intro p l e R s m args below meth c D cA b B0 H0 z0 t0 Q res C lo st M hk H locs ls hR hF hl hz ht
    obtain ⟨h1, h2, h3⟩ := h lo st M res hk
    obtain ⟨-, -, -, -, -, -, -, -, -, -, -, -, hret⟩ := C
    rw [← h1] at hR
    have hw := hret pc H locs ls hdec h2 hR hF
    rw [h1, h3] at hw
    exact hw
theorem s_ri (hrk : rk = 1) (hd : decode cc pc = .ok (.ireturn, 1)) : ak_S cc own nL rk F L sc pc k_ri := by
  refine ak_endS (Or.inr (Or.inr ⟨Or.inl hrk, hd⟩)) fun lo st M res h => ?_
  unfold k_ri at h
  split at h
  next x => cases h; exact ⟨rfl, Or.inr (Or.inl ⟨hrk, _, rfl⟩), rfl⟩
  next => cases h
theorem s_rz (hrk : rk = 2) (hd : decode cc pc = .ok (.ireturn, 1)) : ak_S cc own nL rk F L sc pc k_rz := by
  refine ak_endS (Or.inr (Or.inr ⟨Or.inr (Or.inl hrk), hd⟩)) fun lo st M res h => ?_
  unfold k_rz at h
  split at h
  next x =>
    split at h
    next hx => cases h; exact ⟨rfl, Or.inr (Or.inr (Or.inl ⟨hrk, hx.imp (fun e => by rw [e]) (fun e => by rw [e])⟩)), rfl⟩
    next => cases h
  next => cases h
theorem s_rl (hrk : rk = 4) (hd : decode cc pc = .ok (.ireturn, 1)) : ak_S cc own nL rk F L sc pc k_rl := by
  refine ak_endS (Or.inr (Or.inr ⟨Or.inr (Or.inr hrk), hd⟩)) fun lo st M res h => ?_
  unfold k_rl at h
  split at h
  next x =>
    split at h
    next hx => cases h; exact ⟨rfl, Or.inr (Or.inr (Or.inr (Or.inr ⟨hrk, rfl⟩))), by rw [hx]; rfl⟩
    next => cases h
  next => cases h
theorem s_rq (hrk : rk = 3) (hd : decode cc pc = .ok (.areturn, 1)) : ak_S cc own nL rk F L sc pc k_rq := by
  refine ak_endS (Or.inr (Or.inl ⟨hrk, hd⟩)) fun lo st M res h => ?_
  unfold k_rq at h
  split at h
  next x => cases h; exact ⟨rfl, Or.inr (Or.inr (Or.inr (Or.inl ⟨hrk, Or.inr ⟨_, rfl⟩⟩))), rfl⟩
  next => cases h; exact ⟨rfl, Or.inr (Or.inr (Or.inr (Or.inl ⟨hrk, Or.inl rfl⟩))), rfl⟩
  next => cases h
theorem s_rv (hrk : rk = 0 ∨ rk = 5) (hd : decode cc pc = .ok (.return_, 1)) : ak_S cc own nL rk F L sc pc k_rv := by
  refine ak_endS (Or.inl ⟨hrk, hd⟩) fun lo st M res h => ?_
  unfold k_rv at h
  split at h
  next => cases h; exact ⟨rfl, Or.inl ⟨hrk, rfl⟩, rfl⟩
  next => cases h
theorem s_no : ak_S cc own nL rk F L sc pc k_no :=
  ⟨fun lo st M res h => (by cases h), fun {p l e R s m args below meth c D cA b B0 H0 z0 t0 Q res} C lo st M h => (by cases h)⟩
end EK9
/-! a method's entry -/
def ak_ea : List Value → List (Option Value)
  | [] => []
  | v :: t => if v.category = 2 then some v :: none :: ak_ea t else some v :: ak_ea t
theorem ak_lg_rep : ∀ (n j : Nat), lg (List.replicate n none) j = none
  | 0, j => by cases j <;> rfl
  | n + 1, 0 => rfl
  | n + 1, j + 1 => ak_lg_rep n j
theorem ak_ea_mem {b B0 n : Nat} : ∀ (As : List Value) (o j : Nat) (v : Value), lg (ak_ea As ++ List.replicate n none) j = some v → (o + j, ak_rl b B0 v) ∈ lv_args o (As.map (ak_rl b B0))
  | [], o, j, v, h => by
    rw [show ak_ea [] ++ List.replicate n none = List.replicate n none from rfl, ak_lg_rep] at h
    cases h
  | a :: t, o, j, v, h => by
    rw [List.map_cons]
    unfold lv_args
    rw [ak_rl_cat]
    unfold ak_ea at h
    by_cases hc : a.category = 2
    · rw [if_pos hc] at h ⊢
      match j, h with
      | 0, h => cases h; exact List.mem_cons_self
      | 1, h => cases h
      | j + 2, h =>
        have h2 := ak_ea_mem (b := b) (B0 := B0) t (o + 2) j v h
        rw [show o + (j + 2) = o + 2 + j by omega]
        exact List.mem_cons_of_mem _ h2
    · rw [if_neg hc] at h ⊢
      match j, h with
      | 0, h => cases h; exact List.mem_cons_self
      | j + 1, h =>
        have h2 := ak_ea_mem (b := b) (B0 := B0) t (o + 1) j v h
        rw [show o + (j + 1) = o + 1 + j by omega]
        exact List.mem_cons_of_mem _ h2
theorem ak_ea_len {b B0 : Nat} : ∀ (As : List Value), (lg_sl (As.map (ak_rl b B0))).length = (ak_ea As).length
  | [] => rfl
  | a :: t => by
    have ih := ak_ea_len (b := b) (B0 := B0) t
    unfold lg_sl at ih ⊢
    rw [List.map_cons, List.flatMap_cons, List.length_append, ih, ak_rl_cat]
    rw [show ak_ea (a :: t) = if a.category = 2 then some a :: none :: ak_ea t else some a :: ak_ea t from rfl]
    by_cases hc : a.category = 2
    · rw [if_pos hc, if_pos hc]
      simp only [List.length_cons, List.length_nil]
      omega
    · rw [if_neg hc, if_neg hc]
      simp only [List.length_cons, List.length_nil]
      omega
theorem ak_rkret (rk : Nat) (ret : Option FieldType) (h : (rk = 0 ∨ rk = 5) ∧ ret = none ∨ rk = 1 ∧ ret = some .int ∨ rk = 2 ∧ ret = some .boolean ∨ rk = 3 ∧ ∃ n, ret = some (.object n)) : True := trivial
theorem ak_met {y : MethodName} {cc : ByteArray} {maxL rk F L : Nat} {own : String} {ret : Option FieldType} {f : List Value → ak_M → ak_R} {k : ak_K} (hcode : Cond.code y cc maxL ret ∈ ak_Ws) (hy : plainName y.cls = true) (hcls : y.cls = own)
    (hrk : (rk = 0 ∨ rk = 5) ∧ ret = none ∨ rk = 1 ∧ ret = some .int ∨ rk = 2 ∧ ret = some .boolean ∨ rk = 3 ∧ ∃ n, ret = some (.object n)) (hini : rk = 5 → y.name = "<init>")
    (hS : ak_S cc own maxL rk F L (0, fun _ => 0) 0 k) (hf : ∀ As M r, f As M = some r → (ak_ea As).length ≤ maxL ∧ ∃ pad, k (ak_ea As ++ List.replicate pad none) [] M = some r) : ak_Mt y cc maxL ret F L f := by
  refine ⟨hcode, fun As M r h => ?_, fun l D cA b B0 As M r h => ?_⟩
  · obtain ⟨-, pad, hk⟩ := hf As M r h
    exact hS.1 _ _ _ _ hk
  · obtain ⟨hlen, pad, hk⟩ := hf As M r h
    refine Met.ofW (cc := cc) (maxL := maxL) (ret := ret) hy rfl ?_
    intro p e s m args below meth c s₁ B hml hv
    obtain ⟨rfl, hR, hKK⟩ := hv
    have hx := B.exec
    have hb := B.bytes
    have hr := B.returns
    have hlocks := B.notSynchronized
    have hts := atoms_spec (ws := Cond.code y cc maxL ret :: ak_Ws) B.pre
    have hts' : ∀ w ∈ ak_Ws, w.before (As.map (ak_rl b B0)).toArray s = true := fun w hw => hts w (List.mem_cons_of_mem _ hw)
    have hown : s.vm.findClass own = some m.cls := by rw [← hcls]; exact findClass_of_methodNamed B.named
    have hinm : meth.name = y.name := (name_of_methodNamed B.named B.method).1
    have hLH : ak_LH b B0 ((lg_sl (As.map (ak_rl b B0)) ++ List.replicate (maxL - (lg_sl (As.map (ak_rl b B0))).length) Slot.unset).toArray) maxL (ak_ea As ++ List.replicate pad none) := by
      have h0 := lv_entry (As.map (ak_rl b B0)) (n := maxL) (by rw [ak_ea_len]; exact hlen)
      refine ⟨h0.1, h0.2.1, fun j v hj => ?_⟩
      have h1 := ak_ea_mem (b := b) (B0 := B0) As 0 j v hj
      rw [Nat.zero_add] at h1
      exact h0.2.2 _ h1
    rw [lg_entry_eq]
    have hC : ak_Cx p l e (headSpec (Cond.code y cc maxL ret :: ak_Ws) (ak_rm F L (mZ r.2 - mZ M) (mT r.2 - mT M))).room s m (As.map (ak_rl b B0)).toArray below meth c D cA b B0 s.heap (mZ M) (mT M) (MQ below (ak_Qc D cA b B0 r) (As.map (ak_rl b B0)).toArray s (mZ r.2 - mZ M) (mT r.2 - mT M) (fun q => B0 < q)) r cc own maxL rk F L (0, fun _ => 0) := by
      refine ⟨hx, hb, hml, hown, hts', hKK, Nat.le_refl _, Nat.le_refl _, Nat.le_refl _, Nat.le_refl _, fun h5 => by rw [hinm]; exact hini h5, fun h4 => ?_, ?_⟩
      · exfalso
        rcases hrk with ⟨h | h, -⟩ | ⟨h, -⟩ | ⟨h, -⟩ | ⟨h, -⟩ <;> omega
      · intro pc H locs ls hdec hok hR' hF'
        have hq : ∀ t : State, t.heap = H → s.WarmedH t.vm → ak_Qc D cA b B0 r (As.map (ak_rl b B0)).toArray s (.returned (r.1.map (ak_rl b B0))) t := fun t ht hW => ⟨rfl, by rw [ht]; exact hR', fun q hq => by rw [ht]; exact hF'.1 q hq⟩
        obtain ⟨v, M'⟩ := r
        rcases hdec with ⟨h0, hd⟩ | ⟨h0, hd⟩ | ⟨h0, hd⟩
        · rcases hok with ⟨-, rfl⟩ | ⟨h, -⟩ | ⟨h, -⟩ | ⟨h, -⟩ | ⟨h, -⟩
          · have hret : ret = none := by rcases hrk with ⟨-, h⟩ | ⟨h, -⟩ | ⟨h, -⟩ | ⟨h, -⟩ <;> first | exact h | omega
            exact W.vret hx hb (by rw [hr, hret]) hq hF'.2 hd
          all_goals omega
        · rcases hok with ⟨h, -⟩ | ⟨h, -⟩ | ⟨h, -⟩ | ⟨-, hv⟩ | ⟨h, -⟩
          · omega
          · omega
          · omega
          · obtain ⟨n, hret⟩ : ∃ n, ret = some (.object n) := by rcases hrk with ⟨h, -⟩ | ⟨h, -⟩ | ⟨h, -⟩ | ⟨-, h⟩ <;> first | exact h | omega
            rcases hv with rfl | ⟨a, rfl⟩
            · exact W.aret hx hb (by rw [hr, hret]) (Or.inl ⟨n, rfl⟩) (Or.inl rfl) hq hF'.2 hd
            · exact W.aret hx hb (by rw [hr, hret]) (Or.inl ⟨n, rfl⟩) (Or.inr ⟨_, rfl⟩) hq hF'.2 hd
          · omega
        · rcases hok with ⟨h, -⟩ | ⟨h, x, rfl⟩ | ⟨h, hv⟩ | ⟨h, -⟩ | ⟨h, -⟩
          · omega
          · have hret : ret = some .int := by rcases hrk with ⟨h, -⟩ | ⟨-, h⟩ | ⟨h, -⟩ | ⟨h, -⟩ <;> first | exact h | omega
            exact W.iret hx hb (by rw [hr, hret]) hq hF'.2 hd
          · have hret : ret = some .boolean := by rcases hrk with ⟨h, -⟩ | ⟨h, -⟩ | ⟨-, h⟩ | ⟨h, -⟩ <;> first | exact h | omega
            rcases hv with rfl | rfl
            · exact W.zret (ty := .boolean) hx hb (by rw [hr, hret]) (by decide +kernel) hq hF'.2 hd
            · exact W.zret (ty := .boolean) hx hb (by rw [hr, hret]) (by decide +kernel) hq hF'.2 hd
          · omega
          · exfalso
            rcases hrk with ⟨h | h, -⟩ | ⟨h, -⟩ | ⟨h, -⟩ | ⟨h, -⟩ <;> omega
    have hw := hS.2 hC _ _ _ hk s.heap [] _ hR ⟨fun _ _ => rfl, fun q hq => by cases hq⟩ hLH (Nat.le_refl _) (Nat.le_refl _)
    rw [Nat.sub_self, Nat.sub_self] at hw
    exact hw
