/-! ===== the invariant between calls: the class's cells C (and longs L) beside the reference's R ===== -/
def IBd (hb nr nd nm np nt na nb nu nx : Nat) : Prop := (hb = 4 ∨ hb = 12) ∧ nr ≤ 7 ∧ nd ≤ 8 ∧ nm ≤ 7 ∧ np ≤ 5 ∧ nt ≤ 240 ∧ na ≤ 8 ∧ nb ≤ 15 ∧ nu ≤ 20 ∧ nx < 20 ∧ (nr = 0 → nd = 0 ∧ nm = 0 ∧ np = 0)
def IHs (C R : Nat → Nat → Int32) (hb nr nd nm np : Nat) : Prop :=
  (C hb 0 = nI nr ∧ C hb 2 = nI nd ∧ C hb 3 = nI nm ∧ C hb 4 = nI np) ∧ (R 153 3 = nI nr ∧ R 153 4 = nI nd ∧ R 153 5 = nI nm ∧ R 153 6 = nI np) ∧
  (∀ d, d < nd → C (hb + 1) d = R 156 d ∧ C (hb + 2) d = R 157 d ∧ inN (R 156 d) nr ∧ inN (R 157 d) nr ∧ R 156 d ≠ R 157 d) ∧
  (∀ m, m < nm → C (hb + 3) m = R 158 m ∧ C (hb + 4) m = R 159 m ∧ C (hb + 5) m = R 160 m ∧ inN (R 158 m) nr ∧ inN (R 159 m) 10 ∧ (R 160 m = -1 ∨ ∃ o, o < nm ∧ R 160 m = nI o)) ∧
  (∀ n, n < 10 → 0 < nm → inN (R 161 n) 10 ∧ R 161 n = if 1 < C (hb + 6) n then C (hb + 6) n else 1)
def ITx (C R : Nat → Nat → Int32) (nt : Nat) : Prop := C 2 1 = nI nt ∧ R 153 14 = nI nt ∧ (∀ i, i < nt → C 3 i = R 162 i ∧ inN (R 162 i) 256) ∧ C 2 5 = R 153 19
def ISt (C R : Nat → Nat → Int32) (nr nm np a off : Nat) : Prop :=
  (∀ k, k < 8 → C a k = R 154 (off + k)) ∧ (∀ m, m < nm → C (a + 1) m = R 154 (off + 8 + m) ∧ C (a + 2) m = R 154 (off + 15 + m) ∧ C (a + 3) m = R 154 (off + 22 + m) ∧ inN (R 154 (off + 8 + m)) 10) ∧
  (∀ p, p < np → C (a + 4) p = R 154 (off + 29 + p) ∧ inN (R 154 (off + 29 + p)) nr) ∧ (inN (R 154 off) nr ∨ nr = 0 ∧ R 154 off = 0)
def ISd (L : Nat → Nat → Int64) (R : Nat → Nat → Int32) (q j off : Nat) : Prop := L q j = (R 154 (off + 34)).toInt64 ∧ 0 ≤ R 154 (off + 34)
def IIm (C R : Nat → Nat → Int32) (L : Nat → Nat → Int64) (nr nm np : Nat) : Prop := ∀ i, i < 2 → C (127 + 6 * i) 2 = R 155 i ∧ (R 155 i = 0 ∨ R 155 i = 1) ∧ (R 155 i = 1 → ISt C R nr nm np (128 + 6 * i) (35 + 35 * i) ∧ ISd L R (127 + 6 * i) 1 (35 + 35 * i))
def IUn (C R : Nat → Nat → Int32) (nr nm np nu nx : Nat) : Prop := C 25 1 = nI nx ∧ C 25 2 = nI nu ∧ R 153 2 = nI nu ∧ ∀ i, i < nu → ISt C R nr nm np (27 + 5 * ((nx + 20 - nu + i) % 20)) (105 + 35 * i)
def IAs (C R : Nat → Nat → Int32) (nm na : Nat) : Prop := C 144 4 = nI na ∧ R 153 34 = nI na ∧ ∀ k, k < na → C 145 k = R 172 k ∧ C 146 k = R 173 k ∧ C 147 k = R 174 k ∧ inN (R 172 k) nm ∧ inN (R 173 k) 10 ∧ (R 174 k = 0 ∨ R 174 k = 1)
def IBk (C R : Nat → Nat → Int32) (nm nb : Nat) : Prop := C 149 2 = nI nb ∧ R 153 38 = nI nb ∧ ∀ k, k < nb → C 150 k = R 175 k ∧ C 151 k = R 176 k ∧ inN (R 175 k) nm ∧ inN (R 176 k) 10
def Inv (C R : Nat → Nat → Int32) (L : Nat → Nat → Int64) (hb nr nd nm np nt na nb nu nx : Nat) : Prop :=
  IBd hb nr nd nm np nt na nb nu nx ∧ IHs C R hb nr nd nm np ∧ ITx C R nt ∧ ISt C R nr nm np 20 0 ∧ ISd L R 152 0 0 ∧ IIm C R L nr nm np ∧ IUn C R nr nm np nu nx ∧ IAs C R nm na ∧ IBk C R nm nb
section P23
variable {C R C' R' : Nat → Nat → Int32} {L L' : Nat → Nat → Int64} {hb nr nd nm np nt na nb nu nx : Nat}
theorem IHs.cg (h : IHs C R hb nr nd nm np) (hC : ∀ q j, hb ≤ q → q ≤ hb + 6 → C' q j = C q j) (hR : ∀ q j, 156 ≤ q → q ≤ 161 → R' q j = R q j) (hR2 : ∀ j, 3 ≤ j → j ≤ 6 → R' 153 j = R 153 j) : IHs C' R' hb nr nd nm np := by
  obtain ⟨⟨a1, a2, a3, a4⟩, ⟨b1, b2, b3, b4⟩, c, d, e⟩ := h
  refine ⟨⟨?_, ?_, ?_, ?_⟩, ⟨?_, ?_, ?_, ?_⟩, fun k hk => ?_, fun k hk => ?_, fun k hk => ?_⟩
  · rw [hC _ _ (by omega) (by omega)]; exact a1
  · rw [hC _ _ (by omega) (by omega)]; exact a2
  · rw [hC _ _ (by omega) (by omega)]; exact a3
  · rw [hC _ _ (by omega) (by omega)]; exact a4
  · rw [hR2 _ (by omega) (by omega)]; exact b1
  · rw [hR2 _ (by omega) (by omega)]; exact b2
  · rw [hR2 _ (by omega) (by omega)]; exact b3
  · rw [hR2 _ (by omega) (by omega)]; exact b4
  · rw [hC (hb + 1) _ (by omega) (by omega), hC (hb + 2) _ (by omega) (by omega), hR 156 _ (by omega) (by omega), hR 157 _ (by omega) (by omega)]; exact c k hk
  · rw [hC (hb + 3) _ (by omega) (by omega), hC (hb + 4) _ (by omega) (by omega), hC (hb + 5) _ (by omega) (by omega), hR 158 _ (by omega) (by omega), hR 159 _ (by omega) (by omega), hR 160 _ (by omega) (by omega)]; exact d k hk
  · rw [hC (hb + 6) _ (by omega) (by omega), hR 161 _ (by omega) (by omega)]; exact e k hk
theorem ITx.cg (h : ITx C R nt) (hC : ∀ q j, 2 ≤ q → q ≤ 3 → C' q j = C q j) (hR : ∀ j, R' 162 j = R 162 j) (h1 : R' 153 14 = R 153 14) (h2 : R' 153 19 = R 153 19) : ITx C' R' nt := by
  obtain ⟨a, b, c, d⟩ := h
  refine ⟨?_, ?_, fun k hk => ?_, ?_⟩
  · rw [hC _ _ (by omega) (by omega)]; exact a
  · rw [h1]; exact b
  · rw [hC 3 _ (by omega) (by omega), hR]; exact c k hk
  · rw [hC _ _ (by omega) (by omega), h2]; exact d
theorem ISt.mv {a a' off off' : Nat} (h : ISt C R nr nm np a off) (hm : nm ≤ 7) (hp : np ≤ 5) (h0 : ∀ k, k < 8 → C' a' k = C a k) (h1 : ∀ k, k < 7 → C' (a' + 1) k = C (a + 1) k) (h2 : ∀ k, k < 7 → C' (a' + 2) k = C (a + 2) k) (h3 : ∀ k, k < 7 → C' (a' + 3) k = C (a + 3) k) (h4 : ∀ k, k < 5 → C' (a' + 4) k = C (a + 4) k)
    (hR : ∀ j, j < 34 → R' 154 (off' + j) = R 154 (off + j)) : ISt C' R' nr nm np a' off' := by
  obtain ⟨p1, p2, p3, p4⟩ := h
  refine ⟨fun k hk => ?_, fun m hm' => ?_, fun p hp' => ?_, ?_⟩
  · rw [h0 k hk, hR k (by omega)]; exact p1 k hk
  · have e1 := hR (8 + m) (by omega)
    have e2 := hR (15 + m) (by omega)
    have e3 := hR (22 + m) (by omega)
    rw [← Nat.add_assoc, ← Nat.add_assoc] at e1 e2 e3
    rw [h1 m (by omega), h2 m (by omega), h3 m (by omega), e1, e2, e3]
    exact p2 m hm'
  · have e1 := hR (29 + p) (by omega)
    rw [← Nat.add_assoc, ← Nat.add_assoc] at e1
    rw [h4 p (by omega), e1]
    exact p3 p hp'
  · have e1 := hR 0 (by omega)
    rw [Nat.add_zero, Nat.add_zero] at e1
    rw [e1]; exact p4
theorem ISt.cg {a off : Nat} (h : ISt C R nr nm np a off) (hm : nm ≤ 7) (hp : np ≤ 5) (hC : ∀ q j, a ≤ q → q ≤ a + 4 → C' q j = C q j) (hR : ∀ j, off ≤ j → j < off + 34 → R' 154 j = R 154 j) : ISt C' R' nr nm np a off :=
  h.mv hm hp (fun k _ => hC _ _ (by omega) (by omega)) (fun k _ => hC _ _ (by omega) (by omega)) (fun k _ => hC _ _ (by omega) (by omega)) (fun k _ => hC _ _ (by omega) (by omega)) (fun k _ => hC _ _ (by omega) (by omega)) (fun j hj => hR _ (by omega) (by omega))
theorem IIm.cg (h : IIm C R L nr nm np) (hm : nm ≤ 7) (hp : np ≤ 5) (hC : ∀ q j, 127 ≤ q → q ≤ 138 → C' q j = C q j) (hL : ∀ q j, 127 ≤ q → q ≤ 138 → L' q j = L q j) (hR : ∀ j, 35 ≤ j → j < 105 → R' 154 j = R 154 j) (hR2 : ∀ j, R' 155 j = R 155 j) : IIm C' R' L' nr nm np := by
  intro i hi
  obtain ⟨a, b, c⟩ := h i hi
  refine ⟨?_, ?_, fun hk => ?_⟩
  · rw [hC _ _ (by omega) (by omega), hR2]; exact a
  · rw [hR2]; exact b
  · rw [hR2] at hk
    obtain ⟨c1, c2, c3⟩ := c hk
    refine ⟨c1.cg hm hp (fun q j h1 h2 => hC q j (by omega) (by omega)) (fun j h1 h2 => hR j (by omega) (by omega)), ?_, ?_⟩
    · rw [hL _ _ (by omega) (by omega), hR _ (by omega) (by omega)]; exact c2
    · rw [hR _ (by omega) (by omega)]; exact c3
theorem IUn.cg (h : IUn C R nr nm np nu nx) (hm : nm ≤ 7) (hp : np ≤ 5) (hu : nu ≤ 20) (hC : ∀ q j, 25 ≤ q → q ≤ 126 → C' q j = C q j) (hR : ∀ j, 105 ≤ j → j < 805 → R' 154 j = R 154 j) (hR2 : R' 153 2 = R 153 2) : IUn C' R' nr nm np nu nx := by
  obtain ⟨a, b, c, d⟩ := h
  refine ⟨?_, ?_, ?_, fun i hi => (d i hi).cg hm hp (fun q j h1 h2 => hC q j (by omega) ?_) (fun j h1 h2 => hR j (by omega) (by omega))⟩
  · rw [hC _ _ (by omega) (by omega)]; exact a
  · rw [hC _ _ (by omega) (by omega)]; exact b
  · rw [hR2]; exact c
  · have : (nx + 20 - nu + i) % 20 < 20 := Nat.mod_lt _ (by omega)
    omega
theorem IAs.cg (h : IAs C R nm na) (hC : ∀ q j, 144 ≤ q → q ≤ 147 → (q = 144 → j = 4) → C' q j = C q j) (hR : ∀ q j, 172 ≤ q → q ≤ 174 → R' q j = R q j) (hR2 : R' 153 34 = R 153 34) : IAs C' R' nm na := by
  obtain ⟨a, b, c⟩ := h
  refine ⟨?_, ?_, fun k hk => ?_⟩
  · rw [hC _ _ (by omega) (by omega) (by omega)]; exact a
  · rw [hR2]; exact b
  · rw [hC 145 _ (by omega) (by omega) (by omega), hC 146 _ (by omega) (by omega) (by omega), hC 147 _ (by omega) (by omega) (by omega), hR 172 _ (by omega) (by omega), hR 173 _ (by omega) (by omega), hR 174 _ (by omega) (by omega)]; exact c k hk
theorem IBk.cg (h : IBk C R nm nb) (hC : ∀ q j, 149 ≤ q → q ≤ 151 → C' q j = C q j) (hR : ∀ q j, 175 ≤ q → q ≤ 176 → R' q j = R q j) (hR2 : R' 153 38 = R 153 38) : IBk C' R' nm nb := by
  obtain ⟨a, b, c⟩ := h
  refine ⟨?_, ?_, fun k hk => ?_⟩
  · rw [hC _ _ (by omega) (by omega)]; exact a
  · rw [hR2]; exact b
  · rw [hC 150 _ (by omega) (by omega), hC 151 _ (by omega) (by omega), hR 175 _ (by omega) (by omega), hR 176 _ (by omega) (by omega)]; exact c k hk
theorem ISd.cg {q j off : Nat} (h : ISd L R q j off) (h1 : L' q j = L q j) (h2 : R' 154 (off + 34) = R 154 (off + 34)) : ISd L' R' q j off := by
  unfold ISd
  rw [h1, h2]
  exact h
/-- what is now changes alone: all else of the invariant stays -/
theorem Inv.now (h : Inv C R L hb nr nd nm np nt na nb nu nx) (hC : ∀ q j, (q < 20 ∨ 24 < q) → C' q j = C q j) (hR : ∀ q j, (q ≠ 154 ∨ 34 < j) → R' q j = R q j) (hL : ∀ q j, q ≠ 152 → L' q j = L q j)
    (hS : ISt C' R' nr nm np 20 0) (hD : ISd L' R' 152 0 0) : Inv C' R' L' hb nr nd nm np nt na nb nu nx := by
  obtain ⟨h1, h2, h3, h4, h5, h6, h7, h8, h9⟩ := h
  obtain ⟨b1, b2, b3, b4, b5, b6, b7, b8, b9, b10, b11⟩ := id h1
  refine ⟨h1, h2.cg (fun q j _ _ => hC q j (by omega)) (fun q j _ _ => hR q j (by omega)) (fun j _ _ => hR _ _ (by omega)), h3.cg (fun q j _ _ => hC q j (by omega)) (fun j => hR _ _ (by omega)) (hR _ _ (by omega)) (hR _ _ (by omega)), hS, hD,
    h6.cg b4 b5 (fun q j _ _ => hC q j (by omega)) (fun q j _ _ => hL q j (by omega)) (fun j _ _ => hR _ _ (by omega)) (fun j => hR _ _ (by omega)), h7.cg b4 b5 b9 (fun q j _ _ => hC q j (by omega)) (fun j _ _ => hR _ _ (by omega)) (hR _ _ (by omega)),
    h8.cg (fun q j _ _ _ => hC q j (by omega)) (fun q j _ _ => hR q j (by omega)) (hR _ _ (by omega)), h9.cg (fun q j _ _ => hC q j (by omega)) (fun q j _ _ => hR q j (by omega)) (hR _ _ (by omega))⟩
/-- scratch cells change alone -/
theorem Inv.scr (h : Inv C R L hb nr nd nm np nt na nb nu nx) (hC : ∀ q j, ¬ (139 ≤ q ∧ q ≤ 143) → q ≠ 148 → C' q j = C q j) (hR : ∀ q j, ¬ (q = 170 ∨ q = 171) → R' q j = R q j) : Inv C' R' L hb nr nd nm np nt na nb nu nx := by
  obtain ⟨h1, h2, h3, h4, h5, h6, h7, h8, h9⟩ := h
  obtain ⟨b1, b2, b3, b4, b5, b6, b7, b8, b9, b10, b11⟩ := id h1
  refine ⟨h1, h2.cg (fun q j _ _ => hC q j (by omega) (by omega)) (fun q j _ _ => hR q j (by omega)) (fun j _ _ => hR _ _ (by omega)), h3.cg (fun q j _ _ => hC q j (by omega) (by omega)) (fun j => hR _ _ (by omega)) (hR _ _ (by omega)) (hR _ _ (by omega)),
    h4.cg b4 b5 (fun q j _ _ => hC q j (by omega) (by omega)) (fun j _ _ => hR _ _ (by omega)), h5.cg rfl (hR _ _ (by omega)),
    h6.cg b4 b5 (fun q j _ _ => hC q j (by omega) (by omega)) (fun q j _ _ => rfl) (fun j _ _ => hR _ _ (by omega)) (fun j => hR _ _ (by omega)), h7.cg b4 b5 b9 (fun q j _ _ => hC q j (by omega) (by omega)) (fun j _ _ => hR _ _ (by omega)) (hR _ _ (by omega)),
    h8.cg (fun q j _ _ _ => hC q j (by omega) (by omega)) (fun q j _ _ => hR q j (by omega)) (hR _ _ (by omega)), h9.cg (fun q j _ _ => hC q j (by omega) (by omega)) (fun q j _ _ => hR q j (by omega)) (hR _ _ (by omega))⟩
/-- what Past.push leaves -/
def puC (C : Nat → Nat → Int32) (nu nx : Nat) : Nat → Nat → Int32 := up (up (becC C (27 + 5 * nx) 20) 25 1 (nI ((nx + 1) % 20))) 25 2 (nI (min (nu + 1) 20))
theorem becC_out {a o q j : Nat} (h : q < a ∨ a + 4 < q) : becC C a o q j = C q j := by
  unfold becC
  rw [if_neg (by omega), if_neg (by omega), if_neg (by omega), if_neg (by omega), if_neg (by omega)]
theorem becC_0 {a o k : Nat} (hk : k < 8) : becC C a o a k = C o k := by unfold becC; rw [if_pos ⟨rfl, hk⟩]
theorem becC_1 {a o k : Nat} (hk : k < 7) : becC C a o (a + 1) k = C (o + 1) k := by unfold becC; rw [if_neg (by omega), if_pos ⟨rfl, hk⟩]
theorem becC_2 {a o k : Nat} (hk : k < 7) : becC C a o (a + 2) k = C (o + 2) k := by unfold becC; rw [if_neg (by omega), if_neg (by omega), if_pos ⟨rfl, hk⟩]
theorem becC_3 {a o k : Nat} (hk : k < 7) : becC C a o (a + 3) k = C (o + 3) k := by unfold becC; rw [if_neg (by omega), if_neg (by omega), if_neg (by omega), if_pos ⟨rfl, hk⟩]
theorem becC_4 {a o k : Nat} (hk : k < 5) : becC C a o (a + 4) k = C (o + 4) k := by unfold becC; rw [if_neg (by omega), if_neg (by omega), if_neg (by omega), if_neg (by omega), if_pos ⟨rfl, hk⟩]
theorem puC_out {q j : Nat} (h1 : q < 27 + 5 * nx ∨ 27 + 5 * nx + 4 < q) (h2 : q ≠ 25 ∨ (j ≠ 1 ∧ j ≠ 2)) : puC C nu nx q j = C q j := by
  unfold puC
  rw [up_at, if_neg (by omega), up_at, if_neg (by omega), becC_out h1]
theorem puC_in {q j : Nat} (h : 27 ≤ q) : puC C nu nx q j = becC C (27 + 5 * nx) 20 q j := by
  unfold puC
  rw [up_at, if_neg (by omega), up_at, if_neg (by omega)]
theorem mdR_out {q j : Nat} (h : ¬ (q = 154 ∧ 105 ≤ j ∧ j < 805)) (h2 : q ≠ 153 ∨ j ≠ 2) (hu : nu ≤ 20) : mdR R nu q j = R q j := by
  unfold mdR
  split
  · rw [up_at, if_neg (by omega)]
    unfold cpR
    rw [if_neg (by omega), up_at, if_neg (by omega)]
    unfold shR
    rw [if_neg (by omega)]
  · rw [up_at, if_neg (by omega)]
    unfold cpR
    rw [if_neg (by omega)]
theorem mdR_n {j : Nat} (hu : nu ≤ 20) : mdR R nu 153 2 = nI (min (nu + 1) 20) := by
  unfold mdR
  split
  next h => rw [up_at, if_pos ⟨rfl, rfl⟩, h]; rfl
  next h => rw [up_at, if_pos ⟨rfl, rfl⟩, Nat.min_eq_left (by omega)]
theorem Inv.push (h : Inv C R L hb nr nd nm np nt na nb nu nx) : Inv (puC C nu nx) (mdR R nu) L hb nr nd nm np nt na nb (min (nu + 1) 20) ((nx + 1) % 20) := by
  obtain ⟨h1, h2, h3, h4, h5, h6, ⟨u1, u2, u3, u4⟩, h8, h9⟩ := h
  obtain ⟨b1, b2, b3, b4, b5, b6, b7, b8, b9, b10, b11⟩ := id h1
  have hR : ∀ q j, ¬ (q = 154 ∧ 105 ≤ j ∧ j < 805) → (q ≠ 153 ∨ j ≠ 2) → mdR R nu q j = R q j := fun q j x y => mdR_out x y b9
  refine ⟨⟨b1, b2, b3, b4, b5, b6, b7, b8, by omega, Nat.mod_lt _ (by omega), b11⟩, h2.cg (fun q j _ _ => puC_out (by omega) (by omega)) (fun q j _ _ => hR q j (by omega) (by omega)) (fun j _ _ => hR _ _ (by omega) (by omega)),
    h3.cg (fun q j _ _ => puC_out (by omega) (by omega)) (fun j => hR _ _ (by omega) (by omega)) (hR _ _ (by omega) (by omega)) (hR _ _ (by omega) (by omega)),
    h4.cg b4 b5 (fun q j _ _ => puC_out (by omega) (by omega)) (fun j _ _ => hR _ _ (by omega) (by omega)), h5.cg rfl (hR _ _ (by omega) (by omega)),
    h6.cg b4 b5 (fun q j _ _ => puC_out (by omega) (by omega)) (fun q j _ _ => rfl) (fun j _ _ => hR _ _ (by omega) (by omega)) (fun j => hR _ _ (by omega) (by omega)), ⟨?_, ?_, mdR_n (j := 0) b9, fun i hi => ?_⟩,
    h8.cg (fun q j _ _ _ => puC_out (by omega) (by omega)) (fun q j _ _ => hR q j (by omega) (by omega)) (hR _ _ (by omega) (by omega)), h9.cg (fun q j _ _ => puC_out (by omega) (by omega)) (fun q j _ _ => hR q j (by omega) (by omega)) (hR _ _ (by omega) (by omega))⟩
  · unfold puC
    rw [up_at, if_neg (by omega), up_at, if_pos ⟨rfl, rfl⟩]
  · unfold puC
    rw [up_at, if_pos ⟨rfl, rfl⟩]
  · by_cases hn : nu = 20
    · subst hn
      have hi' : i < 20 := by omega
      have hmd : ∀ j, mdR R 20 154 j = if 770 ≤ j ∧ j < 805 then R 154 (j - 770) else if 105 ≤ j ∧ j < 770 then R 154 (j + 35) else R 154 j := by
        intro j
        unfold mdR
        rw [if_pos rfl, up_at, if_neg (by omega)]
        unfold cpR
        by_cases q1 : 770 ≤ j ∧ j < 805
        · rw [if_pos ⟨rfl, by omega⟩, if_pos q1, up_at, if_neg (by omega)]
          unfold shR
          rw [if_neg (by omega), show 0 + (j - 770) = j - 770 by omega]
        · rw [if_neg (by omega), if_neg q1, up_at, if_neg (by omega)]
          unfold shR
          by_cases q2 : 105 ≤ j ∧ j < 770
          · rw [if_pos ⟨rfl, by omega⟩, if_pos q2]
          · rw [if_neg (by omega), if_neg q2]
      by_cases hl : i = 19
      · subst hl
        have e : ((nx + 1) % 20 + 20 - min (20 + 1) 20 + 19) % 20 = nx := by omega
        rw [e]
        refine h4.mv b4 b5 (fun k hk => ?_) (fun k hk => ?_) (fun k hk => ?_) (fun k hk => ?_) (fun k hk => ?_) (fun j hj => ?_)
        · rw [puC_in (by omega), becC_0 hk]
        · rw [puC_in (by omega), becC_1 hk]
        · rw [puC_in (by omega), becC_2 hk]
        · rw [puC_in (by omega), becC_3 hk]
        · rw [puC_in (by omega), becC_4 hk]
        · rw [hmd, if_pos (by omega), show 105 + 35 * 19 + j - 770 = 0 + j by omega]
      · have e : ((nx + 1) % 20 + 20 - min (20 + 1) 20 + i) % 20 = (nx + 20 - 20 + (i + 1)) % 20 := by omega
        rw [e]
        have hne : (nx + 20 - 20 + (i + 1)) % 20 ≠ nx := by omega
        have hlt : (nx + 20 - 20 + (i + 1)) % 20 < 20 := Nat.mod_lt _ (by omega)
        refine (u4 (i + 1) (by omega)).mv b4 b5 (fun k hk => ?_) (fun k hk => ?_) (fun k hk => ?_) (fun k hk => ?_) (fun k hk => ?_) (fun j hj => ?_)
        · exact puC_out (by omega) (by omega)
        · exact puC_out (by omega) (by omega)
        · exact puC_out (by omega) (by omega)
        · exact puC_out (by omega) (by omega)
        · exact puC_out (by omega) (by omega)
        · rw [hmd, if_neg (by omega), if_pos (by omega), show 105 + 35 * i + j + 35 = 105 + 35 * (i + 1) + j by omega]
    · have hm : min (nu + 1) 20 = nu + 1 := by omega
      rw [hm] at hi ⊢
      have hmd : ∀ j, mdR R nu 154 j = if 105 + 35 * nu ≤ j ∧ j < 105 + 35 * nu + 35 then R 154 (j - (105 + 35 * nu)) else R 154 j := by
        intro j
        unfold mdR
        rw [if_neg hn, up_at, if_neg (by omega)]
        unfold cpR
        by_cases q1 : 105 + 35 * nu ≤ j ∧ j < 105 + 35 * nu + 35
        · rw [if_pos ⟨rfl, by omega⟩, if_pos q1, Nat.zero_add]
        · rw [if_neg (by omega), if_neg q1]
      by_cases hl : i = nu
      · subst hl
        have e : ((nx + 1) % 20 + 20 - (i + 1) + i) % 20 = nx := by omega
        rw [e]
        refine h4.mv b4 b5 (fun k hk => ?_) (fun k hk => ?_) (fun k hk => ?_) (fun k hk => ?_) (fun k hk => ?_) (fun j hj => ?_)
        · rw [puC_in (by omega), becC_0 hk]
        · rw [puC_in (by omega), becC_1 hk]
        · rw [puC_in (by omega), becC_2 hk]
        · rw [puC_in (by omega), becC_3 hk]
        · rw [puC_in (by omega), becC_4 hk]
        · rw [hmd, if_pos (by omega), show 105 + 35 * i + j - (105 + 35 * i) = 0 + j by omega]
      · have e : ((nx + 1) % 20 + 20 - (nu + 1) + i) % 20 = (nx + 20 - nu + i) % 20 := by omega
        rw [e]
        have hne : (nx + 20 - nu + i) % 20 ≠ nx := by omega
        have hlt : (nx + 20 - nu + i) % 20 < 20 := Nat.mod_lt _ (by omega)
        refine (u4 i (by omega)).mv b4 b5 (fun k hk => ?_) (fun k hk => ?_) (fun k hk => ?_) (fun k hk => ?_) (fun k hk => ?_) (fun j hj => ?_)
        · exact puC_out (by omega) (by omega)
        · exact puC_out (by omega) (by omega)
        · exact puC_out (by omega) (by omega)
        · exact puC_out (by omega) (by omega)
        · exact puC_out (by omega) (by omega)
        · rw [hmd, if_neg (by omega)]
end P23
