-- pairs of stakes, each stake in one at most
def Mg (ns : Nat) (A B : Nat → Bool) (L : Nat → Nat → Prop) (f : Nat → Option Nat) : Prop := ∀ s t, f s = some t → f t = some s ∧ s < ns ∧ t < ns ∧ ((A s = true ∧ B t = true ∧ L s t) ∨ (B s = true ∧ A t = true ∧ L t s))
def Zc (ns : Nat) (B : Nat → Bool) (L : Nat → Nat → Prop) (Z : Nat → Prop) (f : Nat → Option Nat) : Prop := ∀ z, Z z → ∀ t, t < ns → B t = true → L z t → ∃ s, f t = some s ∧ Z s
def aug (f : Nat → Option Nat) (s t : Nat) : Nat → Option Nat := fun x => if x = s then some t else if x = t then some s else if f s = some x then none else f x
def nA (ns : Nat) (A : Nat → Bool) (f : Nat → Option Nat) : Nat := fa_cnt (fun s => A s && (f s).isSome) ns
theorem Mg.ab {ns : Nat} {A B : Nat → Bool} {L : Nat → Nat → Prop} {f : Nat → Option Nat} (hd : ∀ x, A x = true → B x = true → False) (h : Mg ns A B L f) {s t : Nat} (e : f s = some t) (a : A s = true) : B t = true ∧ L s t := by
  obtain ⟨_, _, _, h2⟩ := h s t e
  rcases h2 with ⟨_, b, l⟩ | ⟨b, _, _⟩
  · exact ⟨b, l⟩
  · exact (hd s a b).elim
theorem Mg.ba {ns : Nat} {A B : Nat → Bool} {L : Nat → Nat → Prop} {f : Nat → Option Nat} (hd : ∀ x, A x = true → B x = true → False) (h : Mg ns A B L f) {s t : Nat} (e : f t = some s) (b : B t = true) : A s = true ∧ L s t := by
  obtain ⟨_, _, _, h2⟩ := h t s e
  rcases h2 with ⟨a, _, _⟩ | ⟨_, a, l⟩
  · exact (hd t a b).elim
  · exact ⟨a, l⟩
theorem aug_s {f : Nat → Option Nat} {s t : Nat} : aug f s t s = some t := by unfold aug; rw [if_pos rfl]
theorem aug_t {f : Nat → Option Nat} {s t : Nat} (h : t ≠ s) : aug f s t t = some s := by unfold aug; rw [if_neg h, if_pos rfl]
theorem aug_o {f : Nat → Option Nat} {s t x : Nat} (h1 : x ≠ s) (h2 : x ≠ t) (h3 : f s ≠ some x) : aug f s t x = f x := by unfold aug; rw [if_neg h1, if_neg h2, if_neg h3]
theorem aug_f {f : Nat → Option Nat} {s t x : Nat} (h1 : x ≠ s) (h2 : x ≠ t) (h3 : f s = some x) : aug f s t x = none := by unfold aug; rw [if_neg h1, if_neg h2, if_pos h3]
theorem aug_mg {ns : Nat} {A B : Nat → Bool} {L : Nat → Nat → Prop} {f : Nat → Option Nat} (hd : ∀ x, A x = true → B x = true → False) (h : Mg ns A B L f) {s t : Nat} (ht : f t = none) (bt : B t = true) (as : A s = true) (l : L s t) (hs : s < ns) (htn : t < ns) : Mg ns A B L (aug f s t) := by
  have hst : t ≠ s := fun e => hd s as (e ▸ bt)
  intro x y hxy
  by_cases c1 : x = s
  · subst c1
    rw [aug_s] at hxy
    have := Option.some.inj hxy
    subst this
    exact ⟨aug_t hst, hs, htn, Or.inl ⟨as, bt, l⟩⟩
  · by_cases c2 : x = t
    · subst c2
      rw [aug_t hst] at hxy
      have := Option.some.inj hxy
      subst this
      exact ⟨aug_s, htn, hs, Or.inr ⟨bt, as, l⟩⟩
    · by_cases c3 : f s = some x
      · rw [aug_f c1 c2 c3] at hxy; cases hxy
      · rw [aug_o c1 c2 c3] at hxy
        obtain ⟨h1, h2, h3, h4⟩ := h x y hxy
        refine ⟨?_, h2, h3, h4⟩
        rw [aug_o, h1]
        · intro e; subst e; exact c3 h1
        · intro e; subst e; rw [ht] at h1; cases h1
        · intro e
          have := (h s y e).1
          rw [h1] at this
          exact c1 (Option.some.inj this)
theorem aug_zc {ns : Nat} {A B : Nat → Bool} {L : Nat → Nat → Prop} {f : Nat → Option Nat} {Z : Nat → Prop} (hd : ∀ x, A x = true → B x = true → False) (h : Mg ns A B L f) (hZ : Zc ns B L Z f) {s t : Nat} (ht : f t = none) (bt : B t = true) (as : A s = true) (l : L s t) (htn : t < ns) : Zc ns B L Z (aug f s t) := by
  intro z hz t' ht' bt' l'
  obtain ⟨s', e, z'⟩ := hZ z hz t' ht' bt' l'
  refine ⟨s', ?_, z'⟩
  rw [aug_o, e]
  · intro q; subst q; exact hd _ as bt'
  · intro q; subst q; rw [ht] at e; cases e
  · intro q
    have := (h s t' q).1
    rw [e] at this
    have := Option.some.inj this
    subst this
    obtain ⟨s2, e2, _⟩ := hZ s' z' t htn bt l
    rw [ht] at e2; cases e2
theorem aug_ms {ns : Nat} {A B : Nat → Bool} {L : Nat → Nat → Prop} {f : Nat → Option Nat} (hd : ∀ x, A x = true → B x = true → False) (h : Mg ns A B L f) {s t : Nat} (bt : B t = true) (as : A s = true) {x : Nat} (ax : A x = true) : (aug f s t x).isSome = ((f x).isSome || decide (x = s)) := by
  by_cases c1 : x = s
  · subst c1
    rw [aug_s]; simp
  · rw [aug_o c1 (fun e => by subst e; exact hd _ ax bt) (fun e => hd _ ax (h.ab hd e as).1)]
    simp [c1]
-- counting
theorem cnt_set {p q : Nat → Bool} {x : Nat} (hp : p x = false) (hq : q x = true) (h : ∀ y, y ≠ x → q y = p y) : ∀ {n : Nat}, x < n → fa_cnt q n = fa_cnt p n + 1
  | 0, hx => absurd hx (Nat.not_lt_zero x)
  | n + 1, hx => by
    rw [fa_cnt, fa_cnt]
    by_cases e : x = n
    · subst e
      rw [hp, hq, fa_cnt_cong (p := q) (q := p) (n := x) (fun k hk => h k (by omega))]
      simp
    · have ih := cnt_set hp hq h (n := n) (by omega)
      rw [h n (fun q => e q.symm)]
      omega
theorem cnt_map {m : Nat} : ∀ {n : Nat} {p q : Nat → Bool} (g : Nat → Nat), (∀ i, i < n → p i = true → g i < m ∧ q (g i) = true) → (∀ i j, i < n → j < n → p i = true → p j = true → g i = g j → i = j) → fa_cnt p n ≤ fa_cnt q m
  | 0, p, q, g, _, _ => Nat.zero_le _
  | n + 1, p, q, g, h1, h2 => by
    cases hp : p n
    · rw [fa_cnt_no hp]
      exact cnt_map g (fun i hi hpi => h1 i (by omega) hpi) (fun i j hi hj a b e => h2 i j (by omega) (by omega) a b e)
    · rw [fa_cnt_yes hp]
      have hn := h1 n (by omega) hp
      have ih := cnt_map (m := m) (n := n) (p := p) (q := fun y => q y && decide (y ≠ g n)) g (fun i hi hpi => by
        have := h1 i (by omega) hpi
        refine ⟨this.1, ?_⟩
        have hne : g i ≠ g n := fun e => by have := h2 i n (by omega) (by omega) hpi hp e; omega
        simp [this.2, hne]) (fun i j hi hj a b e => h2 i j (by omega) (by omega) a b e)
      have := cnt_set (p := fun y => q y && decide (y ≠ g n)) (q := q) (x := g n) (by simp) hn.2 (fun y hy => by simp [hy]) hn.1
      omega
-- the most
theorem mg_most {ns : Nat} {A B : Nat → Bool} {L : Nat → Nat → Prop} {f f2 : Nat → Option Nat} {Z : Nat → Prop} (hd : ∀ x, A x = true → B x = true → False) (h : Mg ns A B L f) (hZ : Zc ns B L Z f) (hF : ∀ s, s < ns → A s = true → f s = none → Z s) (h2 : Mg ns A B L f2) : nA ns A f2 ≤ nA ns A f := by
  have key : ∀ s, A s = true → (f2 s).isSome = true → Z s → ∃ t s', f2 s = some t ∧ f t = some s' ∧ Z s' := by
    intro s a e z
    obtain ⟨t, et⟩ := Option.isSome_iff_exists.mp e
    obtain ⟨s', e1, e2⟩ := hZ s z t (h2 s t et).2.2.1 (h2.ab hd et a).1 (h2.ab hd et a).2
    exact ⟨t, s', et, e1, e2⟩
  refine cnt_map (fun s => @ite _ (Z s) (Classical.propDecidable _) (((f2 s).bind f).getD 0) s) (fun s hs hp => ?_) (fun s s1 hs hs1 hp hp1 e => ?_)
  · rw [Bool.and_eq_true] at hp
    by_cases z : Z s
    · obtain ⟨t, s', e1, e2, e3⟩ := key s hp.1 hp.2 z
      simp only [if_pos z, e1, Option.bind_some, e2, Option.getD_some]
      have hb := (h2.ab hd e1 hp.1).1
      obtain ⟨q1, q2, q3, _⟩ := h t s' e2
      refine ⟨q3, ?_⟩
      rw [(h.ba hd e2 hb).1, q1]; rfl
    · simp only [if_neg z]
      refine ⟨hs, ?_⟩
      rw [hp.1]
      cases hf : f s with
      | none => exact (z (hF s hs hp.1 hf)).elim
      | some t => rfl
  · rw [Bool.and_eq_true] at hp hp1
    by_cases z : Z s <;> by_cases z1 : Z s1
    · obtain ⟨t, s', e1, e2, e3⟩ := key s hp.1 hp.2 z
      obtain ⟨t1, s1', e11, e21, e31⟩ := key s1 hp1.1 hp1.2 z1
      simp only [if_pos z, if_pos z1, e1, e11, Option.bind_some, e2, e21, Option.getD_some] at e
      subst e
      have r1 := (h t s' e2).1
      have r2 := (h t1 s' e21).1
      rw [r1] at r2
      have := Option.some.inj r2
      subst this
      have r3 := (h2 s t e1).1
      have r4 := (h2 s1 t e11).1
      rw [r3] at r4
      exact Option.some.inj r4
    · obtain ⟨t, s', e1, e2, e3⟩ := key s hp.1 hp.2 z
      simp only [if_pos z, if_neg z1, e1, Option.bind_some, e2, Option.getD_some] at e
      exact (z1 (e ▸ e3)).elim
    · obtain ⟨t, s', e1, e2, e3⟩ := key s1 hp1.1 hp1.2 z1
      simp only [if_neg z, if_pos z1, e1, Option.bind_some, e2, Option.getD_some] at e
      exact (z (e ▸ e3)).elim
    · simp only [if_neg z, if_neg z1] at e
      exact e
def Most (ns : Nat) (A B : Nat → Bool) (L : Nat → Nat → Prop) (n : Nat) : Prop := (∃ f, Mg ns A B L f ∧ nA ns A f = n) ∧ ∀ f, Mg ns A B L f → nA ns A f ≤ n
theorem Most.uniq {ns : Nat} {A B : Nat → Bool} {L : Nat → Nat → Prop} {n m : Nat} (h : Most ns A B L n) (k : Most ns A B L m) : n = m := by
  obtain ⟨⟨f, f1, f2⟩, f3⟩ := h
  obtain ⟨⟨g, g1, g2⟩, g3⟩ := k
  have := f3 g g1
  have := g3 f f1
  omega
theorem Mg.turn {ns : Nat} {A B : Nat → Bool} {L : Nat → Nat → Prop} (hL : ∀ s t, L s t → L t s) {f : Nat → Option Nat} (h : Mg ns A B L f) : Mg ns B A L f := by
  intro s t e
  obtain ⟨h1, h2, h3, h4⟩ := h s t e
  refine ⟨h1, h2, h3, ?_⟩
  rcases h4 with ⟨a, b, l⟩ | ⟨b, a, l⟩
  · exact Or.inr ⟨a, b, hL _ _ l⟩
  · exact Or.inl ⟨b, a, hL _ _ l⟩
theorem nA_le {ns : Nat} {A B : Nat → Bool} {L : Nat → Nat → Prop} (hd : ∀ x, A x = true → B x = true → False) {f : Nat → Option Nat} (h : Mg ns A B L f) : nA ns A f ≤ nA ns B f := by
  refine cnt_map (fun s => (f s).getD 0) (fun s hs hp => ?_) (fun s s1 hs hs1 hp hp1 e => ?_)
  · rw [Bool.and_eq_true] at hp
    obtain ⟨t, et⟩ := Option.isSome_iff_exists.mp hp.2
    simp only [et, Option.getD_some]
    obtain ⟨h1, h2, h3, _⟩ := h s t et
    refine ⟨h3, ?_⟩
    rw [(h.ab hd et hp.1).1, h1]; rfl
  · rw [Bool.and_eq_true] at hp hp1
    obtain ⟨t, et⟩ := Option.isSome_iff_exists.mp hp.2
    obtain ⟨t1, et1⟩ := Option.isSome_iff_exists.mp hp1.2
    simp only [et, et1, Option.getD_some] at e
    subst e
    have r1 := (h s t et).1
    have r2 := (h s1 t et1).1
    rw [r1] at r2
    exact Option.some.inj r2
theorem Most.turn {ns : Nat} {A B : Nat → Bool} {L : Nat → Nat → Prop} (hd : ∀ x, A x = true → B x = true → False) (hL : ∀ s t, L s t → L t s) {n : Nat} (h : Most ns A B L n) : Most ns B A L n := by
  obtain ⟨⟨f, f1, f2⟩, f3⟩ := h
  have hd' : ∀ x, B x = true → A x = true → False := fun x b a => hd x a b
  have sz : ∀ g, Mg ns A B L g → nA ns B g = nA ns A g := fun g hg => Nat.le_antisymm (nA_le hd' (hg.turn hL)) (nA_le hd hg)
  refine ⟨⟨f, f1.turn hL, by rw [sz f f1]; exact f2⟩, fun g hg => ?_⟩
  rw [sz g (hg.turn hL)]
  exact f3 g (hg.turn hL)
-- the search
def Bs (ns : Nat) (A B : Nat → Bool) (L : Nat → Nat → Prop) (f : Nat → Option Nat) (st i j : Nat) (r : Nat → Option Nat) (q : Nat → Nat) (Q : Nat) : Prop :=
  1 ≤ Q ∧ q 0 = st ∧ (∀ k, k < Q → A (q k) = true ∧ q k < ns) ∧ (∀ k k', k < Q → k' < Q → q k = q k' → k = k') ∧
  (∀ k, 1 ≤ k → k < Q → ∃ t k', k' < k ∧ r t = some (q k') ∧ f t = some (q k)) ∧
  (∀ t s, r t = some s → t < ns ∧ B t = true ∧ L s t ∧ (∃ k, k < Q ∧ k ≤ i ∧ s = q k) ∧ ∃ k, 1 ≤ k ∧ k < Q ∧ f t = some (q k)) ∧
  (∀ k, k < i → ∀ t, t < ns → B t = true → L (q k) t → (r t).isSome = true) ∧
  (∀ t, t < j → B t = true → L (q i) t → (r t).isSome = true) ∧
  Q = 1 + fa_cnt (fun t => (r t).isSome) ns
theorem bs_init {ns : Nat} {A B : Nat → Bool} {L : Nat → Nat → Prop} {f : Nat → Option Nat} {st : Nat} (hs : st < ns) (as : A st = true) : Bs ns A B L f st 0 0 (fun _ => none) (fun _ => st) 1 := by
  refine ⟨Nat.le_refl _, rfl, fun k hk => ⟨as, hs⟩, fun k k' hk hk' _ => by omega, fun k h1 h2 => by omega, fun t s e => (by cases e), fun k hk => absurd hk (Nat.not_lt_zero _), fun t ht => absurd ht (Nat.not_lt_zero _), ?_⟩
  have : ∀ n, fa_cnt (fun t => ((fun _ => none : Nat → Option Nat) t).isSome) n = 0 := by
    intro n
    induction n with
    | zero => rfl
    | succ n ih => rw [fa_cnt_no (by rfl), ih]
  rw [this]
theorem bs_le {ns : Nat} {A B : Nat → Bool} {L : Nat → Nat → Prop} {f : Nat → Option Nat} {st i j : Nat} {r : Nat → Option Nat} {q : Nat → Nat} {Q : Nat} (hd : ∀ x, A x = true → B x = true → False) (hs : st < ns) (as : A st = true) (h : Bs ns A B L f st i j r q Q) : Q ≤ ns := by
  obtain ⟨c1, c2, c3, c4, c5, c6, c7, c8, c9⟩ := h
  have h0 : (r st).isSome = false := by
    cases e : r st with
    | none => rfl
    | some s => exact (hd st as (c6 st s e).2.1).elim
  have := cnt_lt (p := fun t => (r t).isSome) (q := fun _ => true) (x := st) (n := ns) (fun _ _ _ => rfl) hs h0 rfl
  have := fa_cnt_le (fun _ => true) ns
  omega
theorem bs_room {ns : Nat} {A B : Nat → Bool} {L : Nat → Nat → Prop} {f : Nat → Option Nat} {st i j : Nat} {r : Nat → Option Nat} {q : Nat → Nat} {Q : Nat} (hd : ∀ x, A x = true → B x = true → False) (hs : st < ns) (as : A st = true) (h : Bs ns A B L f st i j r q Q) (hj : j < ns) (bj : B j = true) (rj : r j = none) : Q + 1 ≤ ns := by
  obtain ⟨c1, c2, c3, c4, c5, c6, c7, c8, c9⟩ := h
  have h0 : (r st).isSome = false := by
    cases e : r st with
    | none => rfl
    | some s => exact (hd st as (c6 st s e).2.1).elim
  have hne : st ≠ j := fun e => hd st as (e ▸ bj)
  have a1 := cnt_lt (p := fun t => (r t).isSome) (q := fun t => decide (t ≠ j)) (x := st) (n := ns) (fun t _ e => by
    have : t ≠ j := fun q => by subst q; simp [rj] at e
    simp [this]) hs h0 (by simp [hne])
  have a2 := cnt_lt (p := fun t => decide (t ≠ j)) (q := fun _ => true) (x := j) (n := ns) (fun _ _ _ => rfl) hj (by simp) rfl
  have := fa_cnt_le (fun _ => true) ns
  omega
theorem bs_skip {ns : Nat} {A B : Nat → Bool} {L : Nat → Nat → Prop} {f : Nat → Option Nat} {st i j : Nat} {r : Nat → Option Nat} {q : Nat → Nat} {Q : Nat} (h : Bs ns A B L f st i j r q Q) (hk : B j = true → L (q i) j → (r j).isSome = true) : Bs ns A B L f st i (j + 1) r q Q := by
  obtain ⟨c1, c2, c3, c4, c5, c6, c7, c8, c9⟩ := h
  refine ⟨c1, c2, c3, c4, c5, c6, c7, fun t ht b l => ?_, c9⟩
  by_cases e : t = j
  · subst e; exact hk b l
  · exact c8 t (by omega) b l
theorem bs_next {ns : Nat} {A B : Nat → Bool} {L : Nat → Nat → Prop} {f : Nat → Option Nat} {st i : Nat} {r : Nat → Option Nat} {q : Nat → Nat} {Q : Nat} (h : Bs ns A B L f st i ns r q Q) : Bs ns A B L f st (i + 1) 0 r q Q := by
  obtain ⟨c1, c2, c3, c4, c5, c6, c7, c8, c9⟩ := h
  refine ⟨c1, c2, c3, c4, c5, fun t s e => ?_, fun k hk t ht b l => ?_, fun t ht => absurd ht (Nat.not_lt_zero _), c9⟩
  · obtain ⟨d1, d2, d3, ⟨k, k1, k2, k3⟩, d5⟩ := c6 t s e
    exact ⟨d1, d2, d3, ⟨k, k1, by omega, k3⟩, d5⟩
  · by_cases e : k = i
    · subst e; exact c8 t ht b l
    · exact c7 k (by omega) t ht b l
def fset (f : Nat → Option Nat) (k : Nat) (x : Option Nat) : Nat → Option Nat := fun j => if j = k then x else f j
theorem fset_s {f : Nat → Option Nat} {k : Nat} {x : Option Nat} : fset f k x k = x := if_pos rfl
theorem fset_o {f : Nat → Option Nat} {k j : Nat} {x : Option Nat} (h : j ≠ k) : fset f k x j = f j := if_neg h
def qset (q : Nat → Nat) (k x : Nat) : Nat → Nat := fun j => if j = k then x else q j
theorem qset_s {q : Nat → Nat} {k x : Nat} : qset q k x k = x := if_pos rfl
theorem qset_o {q : Nat → Nat} {k j x : Nat} (h : j ≠ k) : qset q k x j = q j := if_neg h
theorem bs_push {ns : Nat} {A B : Nat → Bool} {L : Nat → Nat → Prop} {f : Nat → Option Nat} {st i j : Nat} {r : Nat → Option Nat} {q : Nat → Nat} {Q s : Nat} (hd : ∀ x, A x = true → B x = true → False) (hM : Mg ns A B L f) (fs : f st = none) (h : Bs ns A B L f st i j r q Q) (hi : i < Q) (hj : j < ns) (bj : B j = true) (rj : r j = none) (l : L (q i) j) (fj : f j = some s) : Bs ns A B L f st i (j + 1) (fset r j (some (q i))) (qset q Q s) (Q + 1) := by
  obtain ⟨c1, c2, c3, c4, c5, c6, c7, c8, c9⟩ := h
  have sA := (hM.ba hd fj bj).1
  obtain ⟨m1, m2, m3, _⟩ := hM j s fj
  have new : ∀ k, k < Q → q k ≠ s := by
    intro k hk e
    by_cases k0 : k = 0
    · subst k0
      rw [c2] at e
      rw [e, m1] at fs; cases fs
    · obtain ⟨t, k', e1, e2, e3⟩ := c5 k (by omega) hk
      rw [e] at e3
      have := (hM t s e3).1
      rw [m1] at this
      have := Option.some.inj this
      subst this
      rw [rj] at e2; cases e2
  have qo : ∀ k, k < Q → qset q Q s k = q k := fun k hk => qset_o (by omega)
  have ro : ∀ t, (r t).isSome = true → fset r j (some (q i)) t = r t := fun t ht => fset_o (fun e => by subst e; simp [rj] at ht)
  have mono : ∀ t, (r t).isSome = true → (fset r j (some (q i)) t).isSome = true := fun t ht => by rw [ro t ht]; exact ht
  refine ⟨by omega, by rw [qo 0 (by omega)]; exact c2, fun k hk => ?_, fun k k' hk hk' e => ?_, fun k h1 hk => ?_, fun t s' e => ?_, fun k hk t ht b l' => ?_, fun t ht b l' => ?_, ?_⟩
  · by_cases e : k = Q
    · subst e; rw [qset_s]; exact ⟨sA, m3⟩
    · rw [qset_o e]; exact c3 k (by omega)
  · by_cases e1 : k = Q <;> by_cases e2 : k' = Q
    · omega
    · subst e1; rw [qset_s, qset_o e2] at e; exact (new k' (by omega) e.symm).elim
    · subst e2; rw [qset_s, qset_o e1] at e; exact (new k (by omega) e).elim
    · rw [qset_o e1, qset_o e2] at e; exact c4 k k' (by omega) (by omega) e
  · by_cases e : k = Q
    · subst e
      refine ⟨j, i, hi, ?_, ?_⟩
      · rw [fset_s, qo i hi]
      · rw [qset_s]; exact fj
    · obtain ⟨t, k', e1, e2, e3⟩ := c5 k h1 (by omega)
      refine ⟨t, k', e1, ?_, ?_⟩
      · rw [ro t (by rw [e2]; rfl), qo k' (by omega)]; exact e2
      · rw [qset_o e]; exact e3
  · by_cases e1 : t = j
    · subst e1
      rw [fset_s] at e
      have := Option.some.inj e
      subst this
      exact ⟨hj, bj, l, ⟨i, by omega, Nat.le_refl _, (qo i hi).symm⟩, ⟨Q, c1, by omega, by rw [qset_s]; exact fj⟩⟩
    · rw [fset_o e1] at e
      obtain ⟨d1, d2, d3, ⟨k, k1, k2, k3⟩, ⟨k4, k5, k6, k7⟩⟩ := c6 t s' e
      exact ⟨d1, d2, d3, ⟨k, by omega, k2, by rw [qo k k1]; exact k3⟩, ⟨k4, k5, by omega, by rw [qo k4 k6]; exact k7⟩⟩
  · rw [qo k (by omega)] at l'
    exact mono t (c7 k hk t ht b l')
  · by_cases e : t = j
    · subst e; rw [fset_s]; rfl
    · rw [qo i hi] at l'
      exact mono t (c8 t (by omega) b l')
  · have := cnt_set (p := fun t => (r t).isSome) (q := fun t => (fset r j (some (q i)) t).isSome) (x := j) (by rw [rj]; rfl) (by rw [fset_s]; rfl) (fun y hy => by rw [fset_o hy]) hj
    omega
theorem bs_fail {ns : Nat} {A B : Nat → Bool} {L : Nat → Nat → Prop} {f : Nat → Option Nat} {st : Nat} {r : Nat → Option Nat} {q : Nat → Nat} {Q i : Nat} {Z : Nat → Prop} (h : Bs ns A B L f st i 0 r q Q) (hi : Q ≤ i) (hZ : Zc ns B L Z f) : ∃ Z' : Nat → Prop, Zc ns B L Z' f ∧ (∀ z, Z z → Z' z) ∧ Z' st := by
  obtain ⟨c1, c2, c3, c4, c5, c6, c7, c8, c9⟩ := h
  refine ⟨fun z => Z z ∨ ∃ k, k < Q ∧ z = q k, ?_, fun z hz => Or.inl hz, Or.inr ⟨0, by omega, c2.symm⟩⟩
  intro z hz t ht bt l
  rcases hz with hz | ⟨k, hk, e⟩
  · obtain ⟨s, e, zs⟩ := hZ z hz t ht bt l
    exact ⟨s, e, Or.inl zs⟩
  · subst e
    obtain ⟨s, es⟩ := Option.isSome_iff_exists.mp (c7 k (by omega) t ht bt l)
    obtain ⟨_, _, _, _, ⟨k2, k3, k4, k5⟩⟩ := c6 t s es
    exact ⟨q k2, k5, Or.inr ⟨k2, k4, rfl⟩⟩
-- the way back
def Pth (ns : Nat) (A B : Nat → Bool) (L : Nat → Nat → Prop) (f : Nat → Option Nat) (st : Nat) (r : Nat → Option Nat) (q : Nat → Nat) (k0 : Nat) : Prop :=
  q 0 = st ∧ (∀ k, k ≤ k0 → A (q k) = true ∧ q k < ns) ∧ (∀ k k', k ≤ k0 → k' ≤ k0 → q k = q k' → k = k') ∧
  (∀ k, 1 ≤ k → k ≤ k0 → ∃ t k', k' < k ∧ r t = some (q k') ∧ f t = some (q k) ∧ B t = true ∧ L (q k') t ∧ t < ns)
theorem bs_path {ns : Nat} {A B : Nat → Bool} {L : Nat → Nat → Prop} {f : Nat → Option Nat} {st i j : Nat} {r : Nat → Option Nat} {q : Nat → Nat} {Q : Nat} (h : Bs ns A B L f st i j r q Q) (hi : i < Q) (fj : f j = none) : Pth ns A B L f st (fset r j (some (q i))) q i := by
  obtain ⟨c1, c2, c3, c4, c5, c6, c7, c8, c9⟩ := h
  refine ⟨c2, fun k hk => c3 k (by omega), fun k k' hk hk' e => c4 k k' (by omega) (by omega) e, fun k h1 hk => ?_⟩
  obtain ⟨t, k', e1, e2, e3⟩ := c5 k h1 (by omega)
  obtain ⟨d1, d2, d3, _⟩ := c6 t _ e2
  exact ⟨t, k', e1, by rw [fset_o (fun e => by subst e; rw [fj] at e3; cases e3)]; exact e2, e3, d2, d3, d1⟩
def Wl (ns : Nat) (A B : Nat → Bool) (L : Nat → Nat → Prop) (f : Nat → Option Nat) (Z : Nat → Prop) (r : Nat → Option Nat) (q : Nat → Nat) (k0 : Nat) (g : Nat → Option Nat) (t k : Nat) : Prop :=
  Mg ns A B L g ∧ Zc ns B L Z g ∧ g t = none ∧ B t = true ∧ t < ns ∧ r t = some (q k) ∧ L (q k) t ∧ k ≤ k0 ∧ (∀ k', k' ≤ k → g (q k') = f (q k')) ∧ ∀ x, A x = true → (g x).isSome = (f x).isSome
theorem wl_step {ns : Nat} {A B : Nat → Bool} {L : Nat → Nat → Prop} {f : Nat → Option Nat} {Z : Nat → Prop} {st : Nat} {r : Nat → Option Nat} {q : Nat → Nat} {k0 : Nat} {g : Nat → Option Nat} {t k : Nat} (hd : ∀ x, A x = true → B x = true → False) (hM : Mg ns A B L f) (fs : f st = none) (hP : Pth ns A B L f st r q k0) (h : Wl ns A B L f Z r q k0 g t k) :
    (k = 0 ∧ q k = st ∧ g (q k) = none ∧ Mg ns A B L (aug g (q k) t) ∧ Zc ns B L Z (aug g (q k) t) ∧ ∀ x, A x = true → (aug g (q k) t x).isSome = ((f x).isSome || decide (x = st))) ∨
    (q k ≠ st ∧ ∃ t2 k2, k2 < k ∧ g (q k) = some t2 ∧ Wl ns A B L f Z r q k0 (aug g (q k) t) t2 k2) := by
  obtain ⟨w1, w2, w3, w4, w5, w6, w7, w8, w9, w10⟩ := h
  obtain ⟨p1, p2, p3, p4⟩ := hP
  obtain ⟨aq, qn⟩ := p2 k w8
  have m1 := aug_mg hd w1 w3 w4 aq w7 qn w5
  have m2 := aug_zc hd w1 w2 w3 w4 aq w7 w5
  by_cases k00 : k = 0
  · subst k00
    left
    refine ⟨rfl, p1, ?_, m1, m2, fun x ax => ?_⟩
    · rw [w9 0 (Nat.le_refl _), p1]; exact fs
    · rw [aug_ms hd w1 w4 aq ax, w10 x ax, p1]
  · right
    refine ⟨fun e => k00 (p3 k 0 w8 (by omega) (by rw [e, p1])), ?_⟩
    obtain ⟨t2, k2, e1, e2, e3, e4, e5, e6⟩ := p4 k (by omega) w8
    have gq : g (q k) = some t2 := by rw [w9 k (Nat.le_refl _)]; exact (hM t2 (q k) e3).1
    have tq : t2 ≠ q k := fun e => hd _ aq (e ▸ e4)
    have tt : t2 ≠ t := fun e => by
      have := (w1 _ _ gq).1
      rw [e, w3] at this; cases this
    refine ⟨t2, k2, e1, gq, m1, m2, aug_f tq tt gq, e4, e6, e2, e5, by omega, fun k' hk' => ?_, fun x ax => ?_⟩
    · have n1 : q k' ≠ q k := fun e => by have := p3 k' k (by omega) w8 e; omega
      rw [aug_o n1 (fun e => hd _ (p2 k' (by omega)).1 (e ▸ w4)) (fun e => by
        rw [gq] at e
        exact hd _ (p2 k' (by omega)).1 (Option.some.inj e ▸ e4))]
      exact w9 k' (by omega)
    · rw [aug_ms hd w1 w4 aq ax, w10 x ax]
      by_cases c : x = q k
      · subst c
        rw [(hM t2 (q k) e3).1]; rfl
      · simp [c]
-- the numbers of a row of stakes or none
def en (c : Int32) (o : Option Nat) : Int32 := match o with
  | none => c
  | some t => nI t
def Rep (ns : Nat) (c : Int32) (p : Nat → Int32) (f : Nat → Option Nat) : Prop := ∀ s, s < ns → p s = en c (f s)
theorem Rep.set {ns : Nat} {c : Int32} {p : Nat → Int32} {f : Nat → Option Nat} (h : Rep ns c p f) (j x : Nat) : Rep ns c (upd p j (nI x)) (fset f j (some x)) := by
  intro s hs
  by_cases e : s = j
  · subst e; rw [pk_us, fset_s]; rfl
  · rw [pk_un e, fset_o e]; exact h s hs
