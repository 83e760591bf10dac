/-! ===== rounds: pure ===== -/
def mnF (f : Nat → Nat) : Nat → Nat
  | 0 => 1000000
  | m + 1 => min (mnF f m) (f m)
theorem mnF_le {f : Nat → Nat} : ∀ n, mnF f n ≤ 1000000
  | 0 => Nat.le_refl _
  | n + 1 => Nat.le_trans (Nat.min_le_left _ _) (mnF_le n)
theorem mnF_cg {f g : Nat → Nat} : ∀ n, (∀ m, m < n → f m = g m) → mnF f n = mnF g n
  | 0, _ => rfl
  | n + 1, h => by
    show min (mnF f n) (f n) = min (mnF g n) (g n)
    rw [mnF_cg n (fun m hm => h m (by omega)), h n (by omega)]
theorem mnF_far {f : Nat → Nat} : ∀ n, (∀ m, m < n → f m = 1000000) → mnF f n = 1000000
  | 0, _ => rfl
  | n + 1, h => by
    show min (mnF f n) (f n) = 1000000
    rw [mnF_far n (fun m hm => h m (by omega)), h n (by omega)]
    rfl
theorem mnF_bd {f : Nat → Nat} {b : Nat} : ∀ n, (∀ m, m < n → f m < 1000000 → f m ≤ b) → mnF f n < 1000000 → mnF f n ≤ b
  | 0, _, h2 => absurd h2 (by show ¬ 1000000 < 1000000; omega)
  | n + 1, h, h2 => by
    have h3 : min (mnF f n) (f n) < 1000000 := h2
    show min (mnF f n) (f n) ≤ b
    by_cases c : mnF f n < 1000000
    · have := mnF_bd n (fun m hm => h m (by omega)) c
      omega
    · have := h n (by omega) (by omega)
      omega
theorem mnF_map {f g : Nat → Nat} {c : Nat} : ∀ n, (∀ m, m < n → f m ≤ 1000000 ∧ (f m < 1000000 → f m + c < 1000000) ∧ g m = if f m < 1000000 then f m + c else 1000000) → mnF g n = if mnF f n < 1000000 then mnF f n + c else 1000000
  | 0, _ => rfl
  | n + 1, h => by
    have ih := mnF_map n (fun m hm => h m (by omega))
    obtain ⟨h1, h2, h3⟩ := h n (by omega)
    have h4 := mnF_le (f := f) n
    have h5 := mnF_le (f := g) n
    show min (mnF g n) (g n) = if min (mnF f n) (f n) < 1000000 then min (mnF f n) (f n) + c else 1000000
    rw [ih, h3]
    by_cases c1 : mnF f n < 1000000
    · rw [if_pos c1] at ih ⊢
      by_cases c2 : f n < 1000000
      · rw [if_pos c2, if_pos (by omega)]
        omega
      · rw [if_neg c2, if_pos (by omega)]
        omega
    · rw [if_neg c1]
      by_cases c2 : f n < 1000000
      · have := h2 c2
        rw [if_pos c2, if_pos (by omega)]
        omega
      · rw [if_neg c2, if_neg (by omega)]
        rfl
theorem mnF_hit {f : Nat → Nat} : ∀ n, mnF f n < 1000000 → ∃ m, m < n ∧ f m = mnF f n
  | 0, h => absurd h (by show ¬ 1000000 < 1000000; omega)
  | n + 1, h => by
    show ∃ m, m < n + 1 ∧ f m = min (mnF f n) (f n)
    have h3 : min (mnF f n) (f n) < 1000000 := h
    by_cases c : f n ≤ mnF f n
    · exact ⟨n, by omega, by omega⟩
    · obtain ⟨m, hm, e⟩ := mnF_hit (f := f) n (by omega)
      exact ⟨m, by omega, by omega⟩
/-! sets as numbers below 128 -/
theorem tb_lt : ∀ n, n < 128 → ∀ m, m < 7 → n.testBit m = true → n ^^^ 2 ^ m < n := by decide +kernel
theorem tb_2 : ∀ m, m < 7 → 2 ^ m < 128 := by decide +kernel
theorem tb_x (n m j : Nat) : (n ^^^ 2 ^ m).testBit j = (n.testBit j ^^ decide (m = j)) := by rw [Nat.testBit_xor, Nat.testBit_two_pow]
theorem tb_x128 {a b : Nat} (ha : a < 128) (hb : b < 128) : a ^^^ b < 128 := Nat.xor_lt_two_pow (n := 7) ha hb
/-- the recursion of both sides: what is left, where one stands -/
def Xf (F : Nat → Nat → Nat → Nat → Nat) (hg : Nat → Nat) (nm : Nat) : Nat → Nat → Nat → Nat
  | 0, left, _ => if left = 0 then 0 else 1000000
  | k + 1, left, room => if left = 0 then 0 else mnF (fun m => if left.testBit m = true then F left room m (Xf F hg nm k (left ^^^ 2 ^ m) (hg m)) else 1000000) nm
def Xv (F : Nat → Nat → Nat → Nat → Nat) (hg : Nat → Nat) (nm left room : Nat) : Nat := Xf F hg nm left left room
def stp (F : Nat → Nat → Nat → Nat → Nat) (hg : Nat → Nat) (nm left room m : Nat) : Nat := if left.testBit m = true then F left room m (Xv F hg nm (left ^^^ 2 ^ m) (hg m)) else 1000000
section P40
variable {F : Nat → Nat → Nat → Nat → Nat} {hg : Nat → Nat} {nm : Nat}
theorem Xf_fuel (hn : nm ≤ 7) : ∀ (K k left room : Nat), k ≤ K → left ≤ k → left < 128 → Xf F hg nm k left room = Xf F hg nm left left room
  | K, 0, left, room, _, h2, _ => by
    obtain rfl : left = 0 := by omega
    rfl
  | 0, k + 1, left, room, h1, _, _ => absurd h1 (by omega)
  | K + 1, k + 1, 0, room, h1, h2, h3 => rfl
  | K + 1, k + 1, j + 1, room, h1, h2, h3 => by
    show (if j + 1 = 0 then 0 else mnF _ nm) = (if j + 1 = 0 then 0 else mnF _ nm)
    rw [if_neg (by omega), if_neg (by omega)]
    refine mnF_cg nm (fun m hm => ?_)
    by_cases c : (j + 1).testBit m = true
    · rw [if_pos c, if_pos c]
      have h4 := tb_lt (j + 1) h3 m (by omega) c
      rw [Xf_fuel hn K k ((j + 1) ^^^ 2 ^ m) (hg m) (by omega) (by omega) (by omega), Xf_fuel hn K j ((j + 1) ^^^ 2 ^ m) (hg m) (by omega) (by omega) (by omega)]
    · rw [if_neg c, if_neg c]
theorem Xv_0 {room : Nat} : Xv F hg nm 0 room = 0 := rfl
theorem Xv_eq (hn : nm ≤ 7) {left room : Nat} (h : left < 128) (h0 : left ≠ 0) : Xv F hg nm left room = mnF (stp F hg nm left room) nm := by
  obtain ⟨j, rfl⟩ : ∃ j, left = j + 1 := ⟨left - 1, by omega⟩
  show (if j + 1 = 0 then 0 else mnF _ nm) = _
  rw [if_neg h0]
  refine mnF_cg nm (fun m hm => ?_)
  unfold stp
  by_cases c : (j + 1).testBit m = true
  · rw [if_pos c, if_pos c]
    have h4 := tb_lt (j + 1) h m (by omega) c
    unfold Xv
    rw [Xf_fuel hn j j ((j + 1) ^^^ 2 ^ m) (hg m) (Nat.le_refl _) (by omega) (by omega)]
  · rw [if_neg c, if_neg c]
theorem Xv_le (hn : nm ≤ 7) {left room : Nat} (h : left < 128) : Xv F hg nm left room ≤ 1000000 := by
  by_cases c : left = 0
  · rw [c, Xv_0]
    omega
  · rw [Xv_eq hn h c]
    exact mnF_le nm
end P40
/-- the class's next step, the reference's -/
def FG (ok : Nat → Nat → Bool) (D : Nat → Nat → Nat) (hg : Nat → Nat) (left room m t : Nat) : Nat := if ok left m = true then min 1000000 (D room (hg m) + t) else 1000000
def FQ (ok : Nat → Nat → Bool) (kn : Nat → Bool) (D : Nat → Nat → Nat) (hg br : Nat → Nat) (left room m t : Nat) : Nat := if (kn m = true ∧ ok left m = true) ∧ D room (hg m) < 1000000 then (if t < 1000000 then D room (hg m) + br m + t else 1000000) else 1000000
theorem FQ_n {ok : Nat → Nat → Bool} {kn : Nat → Bool} {D : Nat → Nat → Nat} {hg br : Nat → Nat} {left room m t : Nat} (h : ¬ ((kn m = true ∧ ok left m = true) ∧ D room (hg m) < 1000000)) : FQ ok kn D hg br left room m t = 1000000 := by
  unfold FQ
  rw [if_neg h]
theorem FQ_far {ok : Nat → Nat → Bool} {kn : Nat → Bool} {D : Nat → Nat → Nat} {hg br : Nat → Nat} {left room m : Nat} : FQ ok kn D hg br left room m 1000000 = 1000000 := by
  unfold FQ
  split
  · rw [if_neg (by omega)]
  · rfl
theorem FG_y {ok : Nat → Nat → Bool} {D : Nat → Nat → Nat} {hg : Nat → Nat} {left room m t : Nat} (h : ok left m = true) : FG ok D hg left room m t = min 1000000 (D room (hg m) + t) := by
  unfold FG
  rw [if_pos h]
theorem FG_n {ok : Nat → Nat → Bool} {D : Nat → Nat → Nat} {hg : Nat → Nat} {left room m t : Nat} (h : ¬ ok left m = true) : FG ok D hg left room m t = 1000000 := by
  unfold FG
  rw [if_neg h]
def Bs (br : Nat → Nat) (left : Nat) : Nat → Nat
  | 0 => 0
  | m + 1 => if left.testBit m = true then Bs br left m + br m else Bs br left m
theorem Bs_out {br : Nat → Nat} {left m : Nat} : ∀ n, n ≤ m → Bs br (left ^^^ 2 ^ m) n = Bs br left n
  | 0, _ => rfl
  | n + 1, h => by
    show (if (left ^^^ 2 ^ m).testBit n = true then Bs br (left ^^^ 2 ^ m) n + br n else Bs br (left ^^^ 2 ^ m) n) = (if left.testBit n = true then Bs br left n + br n else Bs br left n)
    rw [Bs_out n (by omega), tb_x, decide_eq_false (by omega), Bool.xor_false]
theorem Bs_take {br : Nat → Nat} {left m : Nat} (h : left.testBit m = true) : ∀ n, m < n → Bs br left n = Bs br (left ^^^ 2 ^ m) n + br m
  | 0, hm => absurd hm (by omega)
  | n + 1, hm => by
    show (if left.testBit n = true then Bs br left n + br n else Bs br left n) = (if (left ^^^ 2 ^ m).testBit n = true then Bs br (left ^^^ 2 ^ m) n + br n else Bs br (left ^^^ 2 ^ m) n) + br m
    rw [tb_x]
    by_cases e : m = n
    · subst e
      rw [h, decide_eq_true rfl, if_pos rfl, if_neg (by decide), Bs_out m (Nat.le_refl _)]
    · rw [decide_eq_false e, Bool.xor_false, Bs_take h n (by omega)]
      split <;> omega
theorem Bs_bd {br : Nat → Nat} {left : Nat} (h : ∀ m, br m < 10) : ∀ n, Bs br left n ≤ 9 * n
  | 0 => Nat.le_refl _
  | n + 1 => by
    have h1 := Bs_bd (left := left) h n
    have h2 := h n
    show (if left.testBit n = true then Bs br left n + br n else Bs br left n) ≤ 9 * (n + 1)
    split <;> omega
section P40b
variable {ok : Nat → Nat → Bool} {kn : Nat → Bool} {D : Nat → Nat → Nat} {hg br : Nat → Nat} {nm here nr : Nat}
/-- one that can't be greeted: no round, on the reference's side -/
theorem XQ_bad (hn : nm ≤ 7) (hgr : ∀ m, m < nm → hg m < nr) (hT : ∀ r s, r < nr → s < nr → D here r < 1000000 → D r s < 1000000 → D here s < 1000000) {m0 : Nat} (hm0 : m0 < nm) (hb : ¬ (kn m0 = true ∧ D here (hg m0) < 1000000)) :
    ∀ (K left room : Nat), left ≤ K → left < 128 → left.testBit m0 = true → room < nr → D here room < 1000000 → Xv (FQ ok kn D hg br) hg nm left room = 1000000
  | 0, left, room, h1, _, h3, _, _ => by
    obtain rfl : left = 0 := by omega
    rw [Nat.zero_testBit] at h3
    cases h3
  | K + 1, left, room, h1, h2, h3, h4, h5 => by
    have h0 : left ≠ 0 := fun e => by rw [e, Nat.zero_testBit] at h3; cases h3
    rw [Xv_eq hn h2 h0]
    refine mnF_far nm (fun m hm => ?_)
    unfold stp
    by_cases c : left.testBit m = true
    · rw [if_pos c]
      by_cases c2 : (kn m = true ∧ ok left m = true) ∧ D room (hg m) < 1000000
      · have h6 := hT room (hg m) h4 (hgr m hm) h5 c2.2
        by_cases e : m = m0
        · rw [e] at c2 h6
          exact absurd ⟨c2.1.1, h6⟩ hb
        · have h7 := tb_lt left h2 m (by omega) c
          have h8 := XQ_bad hn hgr hT hm0 hb K (left ^^^ 2 ^ m) (hg m) (by omega) (by omega) (by rw [tb_x, h3, decide_eq_false e]; rfl) (hgr m hm) h6
          rw [h8, FQ_far]
      · exact FQ_n c2
    · rw [if_neg c]
theorem XG_bd (hn : nm ≤ 7) (hgr : ∀ m, m < nm → hg m < nr) (hD : ∀ r s, r < nr → s < nr → D r s < 7 ∨ D r s = 1000000) : ∀ (K left room : Nat), left ≤ K → left < 128 → room < nr → Xv (FG ok D hg) hg nm left room < 1000000 → Xv (FG ok D hg) hg nm left room ≤ 6 * left
  | 0, left, room, h1, _, _, _ => by
    obtain rfl : left = 0 := by omega
    rw [Xv_0]
    omega
  | K + 1, left, room, h1, h2, h4, h5 => by
    by_cases h0 : left = 0
    · rw [h0, Xv_0]
      omega
    · rw [Xv_eq hn h2 h0] at h5 ⊢
      refine mnF_bd nm (fun m hm => ?_) h5
      unfold stp
      by_cases c : left.testBit m = true
      · rw [if_pos c]
        have h7 := tb_lt left h2 m (by omega) c
        have h8 := XG_bd hn hgr hD K (left ^^^ 2 ^ m) (hg m) (by omega) (by omega) (hgr m hm)
        have h9 := hD room (hg m) h4 (hgr m hm)
        by_cases c2 : ok left m = true
        · rw [FG_y c2]
          intro h
          have := h8 (by omega)
          omega
        · rw [FG_n c2]
          intro h
          omega
      · rw [if_neg c]
        intro h
        omega
/-- the two sides, if all that are left can be greeted -/
theorem XQ_good (hn : nm ≤ 7) (hgr : ∀ m, m < nm → hg m < nr) (hD : ∀ r s, r < nr → s < nr → D r s < 7 ∨ D r s = 1000000) (hbr : ∀ m, br m < 10) (hT : ∀ r s, r < nr → s < nr → D here r < 1000000 → D here s < 1000000 → D r s < 1000000) :
    ∀ (K left room : Nat), left ≤ K → left < 128 → (∀ m, m < nm → left.testBit m = true → kn m = true ∧ D here (hg m) < 1000000) → room < nr → D here room < 1000000 →
      (∀ m, m < nm → stp (FQ ok kn D hg br) hg nm left room m = if stp (FG ok D hg) hg nm left room m < 1000000 then stp (FG ok D hg) hg nm left room m + Bs br left nm else 1000000) ∧
      Xv (FQ ok kn D hg br) hg nm left room = if Xv (FG ok D hg) hg nm left room < 1000000 then Xv (FG ok D hg) hg nm left room + Bs br left nm else 1000000
  | K, left, room, h1, h2, h3, h4, h5 => by
    have hst : ∀ m, m < nm → stp (FG ok D hg) hg nm left room m ≤ 1000000 ∧ (stp (FG ok D hg) hg nm left room m < 1000000 → stp (FG ok D hg) hg nm left room m + Bs br left nm < 1000000) ∧ stp (FQ ok kn D hg br) hg nm left room m = if stp (FG ok D hg) hg nm left room m < 1000000 then stp (FG ok D hg) hg nm left room m + Bs br left nm else 1000000 := by
      intro m hm
      have hB := Bs_bd (left := left) hbr nm
      unfold stp
      by_cases c : left.testBit m = true
      · rw [if_pos c, if_pos c]
        have h7 := tb_lt left h2 m (by omega) c
        obtain ⟨k1, k2⟩ := h3 m hm c
        have k3 := hT room (hg m) h4 (hgr m hm) h5 k2
        have k4 := hD room (hg m) h4 (hgr m hm)
        have k5 := Bs_take (br := br) c nm hm
        have k6 : Xv (FQ ok kn D hg br) hg nm (left ^^^ 2 ^ m) (hg m) = if Xv (FG ok D hg) hg nm (left ^^^ 2 ^ m) (hg m) < 1000000 then Xv (FG ok D hg) hg nm (left ^^^ 2 ^ m) (hg m) + Bs br (left ^^^ 2 ^ m) nm else 1000000 := by
          match K, h1 with
          | 0, h1 => omega
          | K + 1, h1 => exact (XQ_good hn hgr hD hbr hT K (left ^^^ 2 ^ m) (hg m) (by omega) (by omega) (fun j hj hb => h3 j hj (by
              rw [tb_x] at hb
              by_cases e : m = j
              · rw [← e]; exact c
              · rw [decide_eq_false e, Bool.xor_false] at hb
                exact hb)) (hgr m hm) k2).2
        have k7 := XG_bd (ok := ok) hn hgr hD (left ^^^ 2 ^ m) (left ^^^ 2 ^ m) (hg m) (Nat.le_refl _) (by omega) (hgr m hm)
        have k8 := Xv_le (F := FG ok D hg) (hg := hg) hn (left := left ^^^ 2 ^ m) (room := hg m) (by omega)
        rw [k6]
        generalize Xv (FG ok D hg) hg nm (left ^^^ 2 ^ m) (hg m) = t at *
        unfold FG FQ
        by_cases c2 : ok left m = true
        · rw [if_pos c2, if_pos ⟨⟨k1, c2⟩, k3⟩]
          by_cases c3 : t < 1000000
          · have := k7 c3
            rw [if_pos c3, if_pos (by omega), if_pos (by omega)]
            omega
          · rw [if_neg c3, if_neg (by omega), if_neg (by omega)]
            omega
        · rw [if_neg c2, if_neg (fun q => c2 q.1.2), if_neg (by omega)]
          omega
      · rw [if_neg c, if_neg c, if_neg (by omega)]
        omega
    refine ⟨fun m hm => (hst m hm).2.2, ?_⟩
    by_cases h0 : left = 0
    · subst h0
      rw [Xv_0, Xv_0, if_pos (by omega)]
      have : ∀ n, Bs br 0 n = 0 := by
        intro n
        induction n with
        | zero => rfl
        | succ n ih =>
          show (if (0 : Nat).testBit n = true then _ else _) = 0
          rw [Nat.zero_testBit, if_neg (by decide), ih]
      rw [this]
    · rw [Xv_eq hn h2 h0, Xv_eq hn h2 h0]
      exact mnF_map nm hst
end P40b
/-! the next, and the way -/
def nx (p : Nat → Bool) : Nat → Option Nat
  | 0 => none
  | k + 1 => match nx p k with
    | some m => some m
    | none => if p k = true then some k else none
def orO (a b : Option Nat) : Option Nat := match a with
  | some m => some m
  | none => b
theorem nx_s (p : Nat → Bool) (k : Nat) : nx p (k + 1) = orO (nx p k) (if p k = true then some k else none) := by
  show (match nx p k with | some m => some m | none => if p k = true then some k else none) = _
  unfold orO
  rfl
theorem nx_some {p : Nat → Bool} {i m : Nat} (h : nx p i = some m) : ∀ d, nx p (i + d) = some m
  | 0 => h
  | d + 1 => by
    show nx p (i + d + 1) = _
    rw [nx_s, nx_some h d]
    rfl
theorem nx_cg {p q : Nat → Bool} : ∀ n, (∀ m, m < n → p m = q m) → nx p n = nx q n
  | 0, _ => rfl
  | n + 1, h => by rw [nx_s, nx_s, nx_cg n (fun m hm => h m (by omega)), h n (by omega)]
theorem nx_in {p : Nat → Bool} {m : Nat} : ∀ n, nx p n = some m → m < n ∧ p m = true
  | 0, h => by cases h
  | n + 1, h => by
    rw [nx_s] at h
    cases k : nx p n with
    | some j =>
      rw [k] at h
      have : j = m := Option.some.inj h
      subst this
      have := nx_in n k
      exact ⟨by omega, this.2⟩
    | none =>
      rw [k] at h
      have h' : (if p n = true then some n else none) = some m := h
      by_cases c : p n = true
      · rw [if_pos c] at h'
        have := Option.some.inj h'
        rw [← this]
        exact ⟨by omega, c⟩
      · rw [if_neg c] at h'
        cases h'
theorem nx_none {p : Nat → Bool} : ∀ n, nx p n = none → ∀ m, m < n → p m = false
  | 0, _, m, hm => absurd hm (by omega)
  | n + 1, h, m, hm => by
    rw [nx_s] at h
    cases k : nx p n with
    | some j => rw [k] at h; cases h
    | none =>
      rw [k] at h
      by_cases e : m = n
      · rw [e]
        have h' : (if p n = true then some n else none) = none := h
        cases c : p n with
        | true => rw [c, if_pos rfl] at h'; cases h'
        | false => rfl
      · exact nx_none n k m (by omega)
def opI : Option Nat → Int32
  | none => -1
  | some m => nI m
def nxP (F : Nat → Nat → Nat → Nat → Nat) (hg : Nat → Nat) (nm left room : Nat) : Nat → Bool := fun m => left.testBit m && decide (stp F hg nm left room m = Xv F hg nm left room)
def pth (F : Nat → Nat → Nat → Nat → Nat) (hg : Nat → Nat) (nm : Nat) : Nat → Nat → Nat → Int32
  | 0, left, room => if left = 0 then -1 else opI (nx (nxP F hg nm left room) nm)
  | i + 1, left, room => if left = 0 then -1 else match nx (nxP F hg nm left room) nm with
    | none => -1
    | some m => pth F hg nm i (left ^^^ 2 ^ m) (hg m)
/-- how many are left -/
def pc (n : Nat) : Nat := (List.range 7).countP (fun j => n.testBit j)
theorem pc_x : ∀ n, n < 128 → ∀ m, m < 7 → n.testBit m = true → pc (n ^^^ 2 ^ m) + 1 = pc n := by decide +kernel
theorem pc_0 : ∀ n, n < 128 → pc n = 0 → n = 0 := by decide +kernel
theorem pc_le : ∀ nm, nm < 8 → ∀ n, n < 2 ^ nm → pc n ≤ nm := by decide +kernel
