-- needs 36 37
-- counting
theorem cnt_mono {p q : Nat → Bool} : ∀ {n : Nat}, (∀ j, j < n → p j = true → q j = true) → fa_cnt p n ≤ fa_cnt q n
  | 0, _ => Nat.le_refl _
  | n + 1, h => by
    have ih := cnt_mono (p := p) (q := q) (n := n) (fun j hj => h j (by omega))
    rw [fa_cnt, fa_cnt]
    cases hp : p n
    · simp; omega
    · rw [h n (by omega) hp]; simp; omega
theorem cnt_lt {p q : Nat → Bool} {x : Nat} : ∀ {n : Nat}, (∀ j, j < n → p j = true → q j = true) → x < n → p x = false → q x = true → fa_cnt p n < fa_cnt q n
  | 0, _, hx, _, _ => absurd hx (Nat.not_lt_zero x)
  | n + 1, h, hx, hp, hq => by
    rw [fa_cnt, fa_cnt]
    by_cases e : x = n
    · subst e
      have := cnt_mono (p := p) (q := q) (n := x) (fun j hj => h j (by omega))
      rw [hp, hq]; simp; omega
    · have ih := cnt_lt (n := n) (fun j hj => h j (by omega)) (show x < n by omega) hp hq
      cases hpn : p n
      · simp; omega
      · rw [h n (by omega) hpn]; simp; omega
theorem cnt_not (p : Nat → Bool) : ∀ n, fa_cnt p n + fa_cnt (fun j => !p j) n = n
  | 0 => rfl
  | n + 1 => by
    have ih := cnt_not p n
    rw [fa_cnt, fa_cnt]
    cases p n <;> simp <;> omega
theorem cnt_inj : ∀ (n : Nat) {p : Nat → Bool} (k : Nat) (f : Nat → Nat), (∀ i, i < k → f i < n ∧ p (f i) = true) → (∀ i j, i < k → j < k → f i = f j → i = j) → k ≤ fa_cnt p n
  | 0, p, k, f, h1, _ => by
    rcases Nat.eq_zero_or_pos k with h | h
    · omega
    · exact absurd (h1 0 h).1 (Nat.not_lt_zero _)
  | n + 1, p, k, f, h1, h2 => by
    by_cases hx : ∃ i, i < k ∧ f i = n
    · obtain ⟨i0, hi0, hf⟩ := hx
      have hp : p n = true := by rw [← hf]; exact (h1 i0 hi0).2
      rw [fa_cnt_yes hp]
      have ih := cnt_inj n (p := p) (k - 1) (fun i => if i < i0 then f i else f (i + 1)) (fun i hi => by
        by_cases c : i < i0
        · simp only [if_pos c]
          refine ⟨?_, (h1 i (by omega)).2⟩
          have := (h1 i (by omega)).1
          have h3 : f i ≠ n := fun e => by have := h2 i i0 (by omega) hi0 (by omega); omega
          omega
        · simp only [if_neg c]
          refine ⟨?_, (h1 (i + 1) (by omega)).2⟩
          have := (h1 (i + 1) (by omega)).1
          have h3 : f (i + 1) ≠ n := fun e => by have := h2 (i + 1) i0 (by omega) hi0 (by omega); omega
          omega) (fun i j hi hj e => by
        by_cases c : i < i0 <;> by_cases d : j < i0
        · simp only [if_pos c, if_pos d] at e; exact h2 i j (by omega) (by omega) e
        · simp only [if_pos c, if_neg d] at e; have := h2 i (j + 1) (by omega) (by omega) e; omega
        · simp only [if_neg c, if_pos d] at e; have := h2 (i + 1) j (by omega) (by omega) e; omega
        · simp only [if_neg c, if_neg d] at e; have := h2 (i + 1) (j + 1) (by omega) (by omega) e; omega)
      omega
    · have ih := cnt_inj n (p := p) k f (fun i hi => by
        refine ⟨?_, (h1 i hi).2⟩
        have := (h1 i hi).1
        have h3 : f i ≠ n := fun e => hx ⟨i, hi, e⟩
        omega) h2
      have : fa_cnt p n ≤ fa_cnt p (n + 1) := by rw [fa_cnt]; omega
      omega
-- two rising rows of the same things are the same
theorem rise_rank {n : Nat} {R : Nat → Nat → Bool} (irr : ∀ x, R x x = false) (tr : ∀ x y z, R x y = true → R y z = true → R x z = true) {s : Nat → Nat} (h1 : ∀ j, j < n → s j < n) (h2 : ∀ i j, i < j → j < n → R (s i) (s j) = true) {j : Nat} (hj : j < n) : fa_cnt (fun y => R y (s j)) n = j := by
  have inj : ∀ a b, a < n → b < n → s a = s b → a = b := by
    intro a b ha hb e
    rcases Nat.lt_trichotomy a b with h | h | h
    · have := h2 a b h hb; rw [e, irr] at this; cases this
    · exact h
    · have := h2 b a h ha; rw [e, irr] at this; cases this
  have lo := cnt_inj n (p := fun y => R y (s j)) j s (fun i hi => ⟨h1 i (by omega), h2 i j hi hj⟩) (fun a b ha hb => inj a b (by omega) (by omega))
  have hi := cnt_inj n (p := fun y => !R y (s j)) (n - j) (fun i => s (j + i)) (fun i hi => ⟨h1 _ (by omega), by
    cases hc : R (s (j + i)) (s j)
    · rfl
    · exfalso
      rcases Nat.eq_zero_or_pos i with h | h
      · subst h; rw [Nat.add_zero, irr] at hc; cases hc
      · have := tr _ _ _ (h2 j (j + i) (by omega) (by omega)) hc
        rw [irr] at this; cases this⟩) (fun a b ha hb e => by have := inj _ _ (by omega) (by omega) e; omega)
  have := cnt_not (fun y => R y (s j)) n
  omega
theorem rise_uniq {n : Nat} {R : Nat → Nat → Bool} (irr : ∀ x, R x x = false) (tr : ∀ x y z, R x y = true → R y z = true → R x z = true) (tot : ∀ x y, x ≠ y → R x y = true ∨ R y x = true) {s t : Nat → Nat} (h1 : ∀ j, j < n → s j < n) (h2 : ∀ i j, i < j → j < n → R (s i) (s j) = true) (k1 : ∀ j, j < n → t j < n) (k2 : ∀ i j, i < j → j < n → R (t i) (t j) = true) {j : Nat} (hj : j < n) : s j = t j := by
  have a := rise_rank irr tr h1 h2 hj
  have b := rise_rank irr tr k1 k2 hj
  apply Decidable.byContradiction
  intro hne
  rcases tot _ _ hne with h | h
  · have := cnt_lt (p := fun y => R y (s j)) (q := fun y => R y (t j)) (x := s j) (n := n) (fun y _ hy => tr _ _ _ hy h) (h1 j hj) (irr _) h
    omega
  · have := cnt_lt (p := fun y => R y (t j)) (q := fun y => R y (s j)) (x := t j) (n := n) (fun y _ hy => tr _ _ _ hy h) (k1 j hj) (irr _) h
    omega
