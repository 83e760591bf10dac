/-! ===== the distances: pure ===== -/
def adj (R : Nat → Nat → Int32) (nd a b : Nat) : Prop := gob (R 154 5) (dA R) (dB R) a b nd = true
def dEx (R : Nat → Nat → Int32) (nr nd a b : Nat) : Prop := ∃ n, gD nr (adj R nd) n a b
theorem dN_ex (R : Nat → Nat → Int32) (nr nd : Nat) : ∃ f : Nat → Nat → Nat, ∀ a b, (dEx R nr nd a b → gD nr (adj R nd) (f a b) a b) ∧ (¬ dEx R nr nd a b → f a b = 1000000) := by
  have h : ∀ a : Nat, ∃ g : Nat → Nat, ∀ b, (dEx R nr nd a b → gD nr (adj R nd) (g b) a b) ∧ (¬ dEx R nr nd a b → g b = 1000000) := by
    intro a
    have h1 : ∀ b : Nat, ∃ n : Nat, (dEx R nr nd a b → gD nr (adj R nd) n a b) ∧ (¬ dEx R nr nd a b → n = 1000000) := by
      intro b
      rcases Classical.em (dEx R nr nd a b) with h | h
      · obtain ⟨n, hn⟩ := h
        exact ⟨n, fun _ => hn, fun q => absurd ⟨n, hn⟩ q⟩
      · exact ⟨1000000, fun q => absurd q h, fun _ => rfl⟩
    exact Classical.axiomOfChoice h1
  exact Classical.axiomOfChoice h
/-- the least number of steps from a to b; a million: none -/
noncomputable def dN (R : Nat → Nat → Int32) (nr nd : Nat) : Nat → Nat → Nat := Classical.choose (dN_ex R nr nd)
section P3B
variable {R : Nat → Nat → Int32} {nr nd a b n : Nat}
theorem dN_sp (a b : Nat) : (dEx R nr nd a b → gD nr (adj R nd) (dN R nr nd a b) a b) ∧ (¬ dEx R nr nd a b → dN R nr nd a b = 1000000) := Classical.choose_spec (dN_ex R nr nd) a b
theorem dN_of (h : gD nr (adj R nd) n a b) : dN R nr nd a b = n := gD_uniq ((dN_sp a b).1 ⟨n, h⟩) h
theorem dN_cases (hn : nr ≤ 7) (hb : b < nr) : (dEx R nr nd a b ∧ dN R nr nd a b < nr) ∨ (¬ dEx R nr nd a b ∧ dN R nr nd a b = 1000000) := by
  rcases Classical.em (dEx R nr nd a b) with h | h
  · exact Or.inl ⟨h, gD_lt hb ((dN_sp a b).1 h)⟩
  · exact Or.inr ⟨h, (dN_sp a b).2 h⟩
theorem dN_lt (hn : nr ≤ 7) (hb : b < nr) (h : dN R nr nd a b < 1000000) : gD nr (adj R nd) (dN R nr nd a b) a b ∧ dN R nr nd a b < nr := by
  rcases dN_cases (R := R) (nd := nd) (a := a) hn hb with ⟨h1, h2⟩ | ⟨h1, h2⟩
  · exact ⟨(dN_sp a b).1 h1, h2⟩
  · omega
theorem adj_sym (h : adj R nd a b) : adj R nd b a := by
  unfold adj at *
  rw [gob_sym]
  exact h
theorem gD_sym (ha : a < nr) (hb : b < nr) (h : gD nr (adj R nd) n a b) : gD nr (adj R nd) n b a :=
  ⟨grc_sym (fun i j => adj_sym) hb h.1, fun n' hn q => h.2 n' hn (grc_sym (fun i j => adj_sym) ha q)⟩
theorem dN_symm (ha : a < nr) (hb : b < nr) : dN R nr nd a b = dN R nr nd b a := by
  rcases Classical.em (dEx R nr nd a b) with h | h
  · exact (dN_of (gD_sym ha hb ((dN_sp a b).1 h))).symm
  · rw [(dN_sp a b).2 h, (dN_sp b a).2 (fun ⟨n, q⟩ => h ⟨n, gD_sym hb ha q⟩)]
/-- three rooms: what can be come to from each other -/
theorem dN_tri (hn : nr ≤ 7) {c : Nat} (ha : a < nr) (hb : b < nr) (hc : c < nr) (h1 : dN R nr nd a b < 1000000) (h2 : dN R nr nd a c < 1000000) : dN R nr nd b c < 1000000 := by
  obtain ⟨g1, _⟩ := dN_lt hn hb h1
  obtain ⟨g2, _⟩ := dN_lt hn hc h2
  have g3 := grc_trans (gD_sym ha hb g1).1 g2.1
  obtain ⟨m, hm, g4⟩ := grc_bound hc g3
  rw [dN_of g4]
  omega
theorem gD_prevA {n a b : Nat} {adj : Nat → Nat → Prop} (h : gD nr adj (n + 1) a b) : ∃ k, k < nr ∧ gD nr adj n a k ∧ adj k b := by
  rcases h.1 with h1 | ⟨k, hk, h3, h4⟩
  · exact absurd h1 (h.2 n (by omega))
  · exact ⟨k, hk, ⟨h3, fun n' hn h5 => h.2 (n' + 1) (by omega) (Or.inr ⟨k, hk, h5, h4⟩)⟩, h4⟩
/-- the next ring of rooms -/
theorem dN_ring (hn : nr ≤ 7) (hl : ∀ k v, adj R nd k v → v < nr) {s v : Nat} (hs : s < nr) : ((∃ k, k < nr ∧ dN R nr nd a k = s ∧ adj R nd k v) ∧ ¬ (v < nr ∧ dN R nr nd a v ≤ s)) ↔ v < nr ∧ dN R nr nd a v = s + 1 := by
  constructor
  · rintro ⟨⟨k, hk, h1, h2⟩, h3⟩
    have hv := hl k v h2
    obtain ⟨g1, _⟩ := dN_lt hn hk (show dN R nr nd a k < 1000000 by omega)
    rw [h1] at g1
    have g2 : grc nr (adj R nd) (s + 1) a v := Or.inr ⟨k, hk, g1.1, h2⟩
    obtain ⟨m, hm, g3⟩ := gD_ex g2
    have := dN_of g3
    have h4 : ¬ dN R nr nd a v ≤ s := fun q => h3 ⟨hv, q⟩
    exact ⟨hv, by omega⟩
  · rintro ⟨hv, h1⟩
    obtain ⟨g1, _⟩ := dN_lt hn hv (show dN R nr nd a v < 1000000 by omega)
    rw [h1] at g1
    obtain ⟨k, hk, g2, g3⟩ := gD_prevA g1
    exact ⟨⟨k, hk, dN_of g2, g3⟩, by omega⟩
theorem dN_self (ha : a < nr) : dN R nr nd a a = 0 := dN_of ⟨rfl, fun n' hn => absurd hn (by omega)⟩
/-! Floyd and Warshall -/
def Sd (R : Nat → Nat → Int32) (nr nd : Nat) (W : Nat → Nat → Nat) : Prop := ∀ x y, x < nr → y < nr → W x y ≤ 1000000 ∧ (W x y < 1000000 → grc nr (adj R nd) (W x y) x y)
def Cm (R : Nat → Nat → Int32) (nr nd c : Nat) (W : Nat → Nat → Nat) : Prop := ∀ x y, x < nr → y < nr → (x = y → W x y = 0) ∧ ∀ n, n < 1000000 → gpw (adj R nd) c n x y → W x y ≤ n
theorem Sd_up {W : Nat → Nat → Nat} {c : Nat} (h : Sd R nr nd W) (hc : c < nr) (ha : a < nr) (hb : b < nr) : Sd R nr nd (fun x y => if x = a ∧ y = b then (if W a c + W c b < W a b then W a c + W c b else W a b) else W x y) := by
  intro x y hx hy
  show (if x = a ∧ y = b then _ else _) ≤ 1000000 ∧ ((if x = a ∧ y = b then _ else _) < 1000000 → grc nr (adj R nd) (if x = a ∧ y = b then _ else _) x y)
  by_cases e : x = a ∧ y = b
  · obtain ⟨rfl, rfl⟩ := e
    rw [if_pos ⟨rfl, rfl⟩]
    obtain ⟨p1, p2⟩ := h x y hx hy
    obtain ⟨p3, p4⟩ := h x c hx hc
    obtain ⟨p5, p6⟩ := h c y hc hy
    by_cases q : W x c + W c y < W x y
    · rw [if_pos q]
      exact ⟨by omega, fun _ => grc_trans (p4 (by omega)) (p6 (by omega))⟩
    · rw [if_neg q]
      exact ⟨p1, p2⟩
  · rw [if_neg e]
    exact h x y hx hy
theorem Cm_step {W W0 : Nat → Nat → Nat} {c : Nat} (hc : c < nr) (h0 : Cm R nr nd c W0) (hle : ∀ x y, x < nr → y < nr → W x y ≤ W0 x y) (hp : ∀ x y, x < nr → y < nr → W x y ≤ W0 x c + W0 c y) : Cm R nr nd (c + 1) W := by
  intro x y hx hy
  refine ⟨fun e => ?_, fun n hn hg => ?_⟩
  · have := hle x y hx hy
    have := (h0 x y hx hy).1 e
    omega
  · rcases gpw_split n hg with ⟨n', h1, h2⟩ | ⟨n1, n2, h1, h2, h3⟩
    · have := hle x y hx hy
      have := (h0 x y hx hy).2 n' (by omega) h2
      omega
    · have := hp x y hx hy
      have := (h0 x c hx hc).2 n1 (by omega) h2
      have := (h0 c y hc hy).2 n2 (by omega) h3
      omega
theorem FW_end {W : Nat → Nat → Nat} (hn : nr ≤ 7) (hs : Sd R nr nd W) (hc : Cm R nr nd nr W) (ha : a < nr) (hb : b < nr) : W a b = dN R nr nd a b := by
  obtain ⟨p1, p2⟩ := hs a b ha hb
  obtain ⟨p3, p4⟩ := hc a b ha hb
  rcases dN_cases (R := R) (nd := nd) (a := a) hn hb with ⟨h1, h2⟩ | ⟨h1, h2⟩
  · have g := (dN_sp a b).1 h1
    have hle : W a b ≤ dN R nr nd a b := by
      rcases grc_gpw hb g.1 with e | ⟨n', h3, h4⟩
      · rw [p3 e]
        omega
      · have := p4 n' (by omega) h4
        omega
    rcases Nat.lt_or_ge (W a b) (dN R nr nd a b) with h3 | h3
    · exact absurd (p2 (by omega)) (g.2 _ h3)
    · omega
  · rw [h2]
    rcases Nat.lt_or_ge (W a b) 1000000 with h3 | h3
    · obtain ⟨m, _, g⟩ := gD_ex (p2 h3)
      exact absurd ⟨m, g⟩ h1
    · omega
theorem Cm_0 {W : Nat → Nat → Nat} (h : ∀ x y, x < nr → y < nr → (x = y → W x y = 0) ∧ (x ≠ y → adj R nd x y → W x y ≤ 1)) : Cm R nr nd 0 W := by
  intro x y hx hy
  obtain ⟨h1, h2⟩ := h x y hx hy
  refine ⟨h1, fun n hn hg => ?_⟩
  match n, hg with
  | 1, hg =>
    by_cases e : x = y
    · rw [h1 e]; omega
    · exact h2 e hg
  | n + 2, hg =>
    obtain ⟨c, hc, _⟩ := hg
    exact absurd hc (by omega)
theorem Sd_0 {W : Nat → Nat → Nat} (h : ∀ x y, x < nr → y < nr → (x = y → W x y = 0) ∧ (x ≠ y → adj R nd x y → W x y = 1) ∧ (x ≠ y → ¬ adj R nd x y → W x y = 1000000)) : Sd R nr nd W := by
  intro x y hx hy
  obtain ⟨h1, h2, h3⟩ := h x y hx hy
  by_cases e : x = y
  · rw [h1 e]
    exact ⟨by omega, fun _ => e⟩
  · rcases Classical.em (adj R nd x y) with q | q
    · rw [h2 e q]
      exact ⟨by omega, fun _ => grc_1 hx q⟩
    · rw [h3 e q]
      exact ⟨by omega, fun q => absurd q (by omega)⟩
end P3B
