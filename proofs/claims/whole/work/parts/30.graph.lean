/-! ===== walks, least steps: no machine here ===== -/
section P30
variable {r : Nat} {adj : Nat → Nat → Prop}
/-- b can be come to from a in n steps or fewer -/
def grc (r : Nat) (adj : Nat → Nat → Prop) : Nat → Nat → Nat → Prop
  | 0, a, b => a = b
  | n + 1, a, b => grc r adj n a b ∨ ∃ k, k < r ∧ grc r adj n a k ∧ adj k b
/-- a walk of just n steps, n at least 1, all rooms on the way below k -/
def gpw (adj : Nat → Nat → Prop) (k : Nat) : Nat → Nat → Nat → Prop
  | 0, _, _ => False
  | 1, a, b => adj a b
  | n + 2, a, b => ∃ c, c < k ∧ gpw adj k (n + 1) a c ∧ adj c b
theorem grc_mono {n m a b : Nat} (h : grc r adj n a b) (hm : n ≤ m) : grc r adj m a b := by
  induction hm with
  | refl => exact h
  | step _ ih => exact Or.inl ih
theorem grc_trans {n a c : Nat} (h : grc r adj n a c) : ∀ {m b : Nat}, grc r adj m c b → grc r adj (n + m) a b
  | 0, b, h2 => by
    have e : c = b := h2
    subst e
    exact h
  | m + 1, b, h2 => by
    rcases h2 with h2 | ⟨k, hk, h3, h4⟩
    · exact Or.inl (grc_trans h h2)
    · exact Or.inr ⟨k, hk, grc_trans h h3, h4⟩
theorem grc_1 {a b : Nat} (ha : a < r) (h : adj a b) : grc r adj 1 a b := Or.inr ⟨a, ha, rfl, h⟩
theorem grc_sym (hs : ∀ i j, adj i j → adj j i) : ∀ {n a b : Nat}, b < r → grc r adj n a b → grc r adj n b a
  | 0, a, b, _, h => Eq.symm (show a = b from h)
  | n + 1, a, b, hb, h => by
    rcases h with h | ⟨k, hk, h3, h4⟩
    · exact Or.inl (grc_sym hs hb h)
    · have h5 := grc_trans (grc_1 hb (hs _ _ h4)) (grc_sym hs hk h3)
      rw [Nat.add_comm 1 n] at h5
      exact h5
theorem gpw_split {k : Nat} : ∀ (n : Nat) {a b : Nat}, gpw adj (k + 1) n a b → (∃ n', n' ≤ n ∧ gpw adj k n' a b) ∨ (∃ n1 n2, n1 + n2 ≤ n ∧ gpw adj k n1 a k ∧ gpw adj k n2 k b)
  | 0, a, b, h => False.elim h
  | 1, a, b, h => Or.inl ⟨1, Nat.le_refl _, h⟩
  | n + 2, a, b, h => by
    obtain ⟨c, hc, h1, h2⟩ := h
    have ext : ∀ {m x : Nat}, c < k → gpw adj k m x c → gpw adj k (m + 1) x b := by
      intro m x hk hm
      match m, hm with
      | m + 1, hm => exact ⟨c, hk, hm, h2⟩
    rcases Nat.lt_or_ge c k with hk | hk
    · rcases gpw_split (n + 1) h1 with ⟨n', hn, h3⟩ | ⟨n1, n2, hn, h3, h4⟩
      · exact Or.inl ⟨n' + 1, by omega, ext hk h3⟩
      · exact Or.inr ⟨n1, n2 + 1, by omega, h3, ext hk h4⟩
    · obtain rfl : c = k := by omega
      have pos : ∀ {m x y : Nat}, gpw adj c m x y → 1 ≤ m := by
        intro m x y hm
        match m, hm with
        | m + 1, _ => omega
      rcases gpw_split (n + 1) h1 with ⟨n', hn, h3⟩ | ⟨n1, n2, hn, h3, h4⟩
      · exact Or.inr ⟨n', 1, by omega, h3, h2⟩
      · have := pos h4
        exact Or.inr ⟨n1, 1, by omega, h3, h2⟩
theorem grc_gpw : ∀ {n a b : Nat}, b < r → grc r adj n a b → a = b ∨ ∃ n', n' ≤ n ∧ gpw adj r n' a b
  | 0, a, b, _, h => Or.inl h
  | n + 1, a, b, hb, h => by
    rcases h with h | ⟨k, hk, h3, h4⟩
    · rcases grc_gpw hb h with h | ⟨n', hn, h⟩
      · exact Or.inl h
      · exact Or.inr ⟨n', by omega, h⟩
    · rcases grc_gpw hk h3 with h | ⟨n', hn, h⟩
      · subst h
        exact Or.inr ⟨1, by omega, h4⟩
      · match n', hn, h with
        | n' + 1, hn, h => exact Or.inr ⟨n' + 2, by omega, k, hk, h, h4⟩
/-- n is the least -/
def gD (r : Nat) (adj : Nat → Nat → Prop) (n a b : Nat) : Prop := grc r adj n a b ∧ ∀ n', n' < n → ¬ grc r adj n' a b
theorem gD_uniq {n m a b : Nat} (h1 : gD r adj n a b) (h2 : gD r adj m a b) : n = m := by
  rcases Nat.lt_trichotomy n m with h | h | h
  · exact absurd h1.1 (h2.2 n h)
  · exact h
  · exact absurd h2.1 (h1.2 m h)
theorem gD_ex : ∀ {n a b : Nat}, grc r adj n a b → ∃ m, m ≤ n ∧ gD r adj m a b
  | 0, a, b, h => ⟨0, Nat.le_refl _, h, fun n' hn => absurd hn (by omega)⟩
  | n + 1, a, b, h => by
    rcases Classical.em (grc r adj n a b) with h2 | h2
    · obtain ⟨m, hm, h3⟩ := gD_ex h2
      exact ⟨m, by omega, h3⟩
    · exact ⟨n + 1, Nat.le_refl _, h, fun n' hn h3 => h2 (grc_mono h3 (by omega))⟩
theorem gD_prev {n a b : Nat} (h : gD r adj (n + 1) a b) : ∃ k, k < r ∧ gD r adj n a k := by
  rcases h.1 with h1 | ⟨k, hk, h3, h4⟩
  · exact absurd h1 (h.2 n (by omega))
  · refine ⟨k, hk, h3, fun n' hn h5 => h.2 (n' + 1) (by omega) (Or.inr ⟨k, hk, h5, h4⟩)⟩
theorem gD_all {n a b : Nat} (hb : b < r) (h : gD r adj n a b) : ∀ d, d ≤ n → ∃ v, v < r ∧ gD r adj (n - d) a v
  | 0, _ => ⟨b, hb, h⟩
  | d + 1, hd => by
    obtain ⟨v, hv, h1⟩ := gD_all hb h d (by omega)
    have e : n - d = (n - (d + 1)) + 1 := by omega
    rw [e] at h1
    exact gD_prev h1
theorem gr_pigeon : ∀ (r n : Nat) (f : Nat → Nat), (∀ i, i < n → f i < r) → (∀ i j, i < n → j < n → f i = f j → i = j) → n ≤ r
  | 0, n, f, h1, h2 => by
    rcases Nat.eq_zero_or_pos n with h | h
    · omega
    · exact absurd (h1 0 h) (by omega)
  | r + 1, n, f, h1, h2 => by
    rcases Classical.em (∃ i, i < n ∧ f i = r) with ⟨i, hi, he⟩ | hno
    · have := gr_pigeon r (n - 1) (fun j => f (if j < i then j else j + 1)) (fun j hj => by
        have h3 : (if j < i then j else j + 1) < n := by split <;> omega
        have h4 : f (if j < i then j else j + 1) ≠ r := fun h => by
          have := h2 _ _ h3 hi (h.trans he.symm)
          split at this <;> omega
        have := h1 _ h3
        show f (if j < i then j else j + 1) < r
        omega) (fun j k hj hk h => by
        have := h2 (if j < i then j else j + 1) (if k < i then k else k + 1) (by split <;> omega) (by split <;> omega) h
        split at this <;> split at this <;> omega)
      omega
    · have := gr_pigeon r n f (fun i hi => by
        have := h1 i hi
        have : f i ≠ r := fun h => hno ⟨i, hi, h⟩
        omega) h2
      omega
theorem gD_lt {n a b : Nat} (hb : b < r) (h : gD r adj n a b) : n < r := by
  have h1 : ∀ m, ∃ v, m < n + 1 → v < r ∧ gD r adj m a v := by
    intro m
    rcases Nat.lt_or_ge m (n + 1) with h2 | h2
    · obtain ⟨v, hv, h3⟩ := gD_all hb h (n - m) (by omega)
      rw [show n - (n - m) = m by omega] at h3
      exact ⟨v, fun _ => ⟨hv, h3⟩⟩
    · exact ⟨0, fun h4 => absurd h4 (by omega)⟩
  have h2 := Classical.axiomOfChoice h1
  obtain ⟨f, hf⟩ := h2
  have := gr_pigeon r (n + 1) f (fun i hi => (hf i hi).1) (fun i j hi hj e => by
    have a1 := (hf i hi).2
    have a2 := (hf j hj).2
    rw [e] at a1
    exact gD_uniq a1 a2)
  omega
theorem grc_bound {n a b : Nat} (hb : b < r) (h : grc r adj n a b) : ∃ m, m < r ∧ gD r adj m a b := by
  obtain ⟨m, _, h1⟩ := gD_ex h
  exact ⟨m, gD_lt hb h1, h1⟩
end P30
