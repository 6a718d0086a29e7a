-- needs 36 37 48
def kst (a b : Nat) (h at_ : Int32) (K : Nat → Int32) : Nat → Int32 := if h < at_ then K else if K a = -6 then (if K b = -6 then K else upd K a h) else (if K b = -6 then upd K b h else K)
def knS (one other hour : Nat → Int32) (first : Nat) (at_ : Int32) : Nat → Nat → Int32
  | 0 => fun p => if p = first then at_ else -6
  | k + 1 => kst (one k).toNatClampNeg (other k).toNatClampNeg (hour k) at_ (knS one other hour first at_ k)
theorem knS_0 (one other hour : Nat → Int32) (first : Nat) (at_ : Int32) (p : Nat) : knS one other hour first at_ 0 p = if p = first then at_ else -6 := rfl
def kv (x : Int32) : Prop := x = -6 ∨ rg x 1000
theorem kst_kv {a b : Nat} {h at_ : Int32} {K : Nat → Int32} (hh : rg h 1000) (hK : ∀ p, kv (K p)) : ∀ p, kv (kst a b h at_ K p) := by
  intro p
  unfold kst
  split
  · exact hK p
  · split <;> split
    · exact hK p
    · rw [upd_at]; split
      · exact Or.inr hh
      · exact hK p
    · rw [upd_at]; split
      · exact Or.inr hh
      · exact hK p
    · exact hK p
theorem kv_neg {x : Int32} (h : kv x) : x < 0 ↔ x = -6 := by
  rcases h with rfl | ⟨k, hk, rfl⟩
  · decide
  · refine ⟨fun q => absurd q (nI_pos (by omega)), fun q => ?_⟩
    have h2 : ¬ nI k < 0 := nI_pos (by omega)
    rw [q] at h2
    exact absurd (by decide) h2
def same10 (f g : Nat → Int32) : Prop := ∀ p, p < 10 → f p = g p
theorem same10.upd {f g : Nat → Int32} (h : same10 f g) (k : Nat) (v : Int32) : same10 (upd f k v) (upd g k v) := by
  intro p hp
  rw [upd_at, upd_at, h p hp]
theorem tell_ok {f K : Nat → Int32} (hf : same10 f K) {a b : Nat} (ha : a < 10) (hb : b < 10) (h : Int32) : Ok (t_X7_tell f (nI a) (nI b) h) (fun g => same10 g (if K a = -6 then K else if K b = -6 then upd K b h else K)) := by
  unfold t_X7_tell
  rw [nI_clamp (by omega), nI_clamp (by omega), ckn_m ha (by decide), ckn_m hb (by decide), ckn_m hb (by decide), hf a ha, hf b hb]
  refine Ok.ite (fun h1 => Ok.ret ?_) (fun h1 => Ok.ite (fun h2 => Ok.ret ?_) (fun h2 => Ok.ret ?_))
  · rw [if_pos h1]; exact hf
  · rw [if_neg h1, if_pos h2]; exact hf.upd b h
  · rw [if_neg h1, if_neg h2]; exact hf
theorem spread_ok {nt first : Nat} (hnt : nt ≤ 30) (hf : first < 10) {one other hour : Nat → Int32} (h1 : ∀ j, j < nt → rg (one j) 10) (h2 : ∀ j, j < nt → rg (other j) 10) (h3 : ∀ j, j < nt → rg (hour j) 1000) (known : Nat → Int32) (at_ : Int32) : Ok (t_X7_spread (nI nt) hour known one other (nI first) at_) (fun g => same10 g (knS one other hour first at_ nt)) := by
  unfold t_X7_spread
  rw [fill_ok (by decide), bd1_s, nI_clamp (by omega), ckn_m hf (by decide)]
  refine lr_X7_spread_18 _ (fun i c ho kn on ot x2 x3 => c = nI nt ∧ hour = ho ∧ one = on ∧ other = ot ∧ at_ = x2 ∧ x3 = nI i ∧ same10 kn (knS one other hour first at_ i)) nt ?_ ?_ lfuel 0 _ _ _ _ _ _ _ (Nat.zero_le _) (by unfold lfuel; omega) ?_
  · rintro kk i c ho kn on ot x2 x3 hi ⟨d1, d2, d3, d4, d5, d6, d7⟩ hk
    subst d1 d2 d3 d4 d5 d6
    unfold t_X7_spread_18_b t_X7_spread_80
    have hin := nI_in (c := i) (N := 30) (by omega) (by decide)
    obtain ⟨a, ha, ea⟩ := h1 i hi
    obtain ⟨b, hb, eb⟩ := h2 i hi
    have hks : knS one other hour first at_ (i + 1) = kst a b (hour i) at_ (knS one other hour first at_ i) := by
      rw [knS, ea, eb, nI_clamp (by omega), nI_clamp (by omega)]
    refine Ok.neg (nI_ge hi (by omega)) (Ok.ck hin ?_)
    rw [nI_clamp (by omega)] at hin ⊢
    rw [ea, eb]
    refine Ok.ite (fun h => hk _ _ _ _ _ _ _ ⟨rfl, rfl, rfl, rfl, rfl, nI_1 i, ?_⟩) (fun h => Ok.ck hin (Ok.ck hin (Ok.ck hin (Ok.bd1 (tell_ok d7 ha hb (hour i)) (fun g1 hg1 => Ok.ck hin (Ok.ck hin (Ok.ck hin (Ok.bd1 (tell_ok hg1 hb ha (hour i)) (fun g2 hg2 => hk _ _ _ _ _ _ _ ⟨rfl, rfl, rfl, rfl, rfl, nI_1 i, ?_⟩)))))))))
    · rw [hks, kst, if_pos h]; exact d7
    · rw [hks, kst, if_neg h]
      generalize hK : knS one other hour first at_ i = K at hg2
      by_cases c1 : K a = -6
      · simp only [if_pos c1] at hg2 ⊢
        by_cases c2 : K b = -6
        · simp only [if_pos c2] at hg2 ⊢; exact hg2
        · simp only [if_neg c2] at hg2 ⊢; exact hg2
      · simp only [if_neg c1] at hg2 ⊢
        by_cases c2 : K b = -6
        · simp only [if_pos c2] at hg2 ⊢
          have c3 : ¬ upd K b (hour i) a = -6 := by
            rw [upd_at]
            split
            · obtain ⟨k, hk3, e3⟩ := h3 i hi
              rw [e3]
              intro q
              have h2 : ¬ nI k < 0 := nI_pos (by omega)
              rw [q] at h2
              exact absurd (by decide) h2
            · exact c1
          by_cases c4 : upd K b (hour i) b = -6
          · simp only [if_pos c4] at hg2; exact hg2
          · simp only [if_neg c4, if_neg c3] at hg2; exact hg2
        · simp only [if_neg c2, if_neg c1] at hg2 ⊢; exact hg2
  · rintro kk c ho kn on ot x2 x3 ⟨d1, d2, d3, d4, d5, d6, d7⟩
    subst d1 d2 d3 d4 d5 d6
    unfold t_X7_spread_18_b
    exact Ok.pos (nI_le (Nat.le_refl _) (by omega)) (Ok.ret d7)
  · refine ⟨rfl, rfl, rfl, rfl, rfl, rfl, ?_⟩
    intro p hp
    rw [upd_at, knS_0]
    by_cases e : p = first
    · rw [if_pos e, if_pos e]
    · rw [if_neg e, if_neg e, if_pos hp]
theorem knS_kv {nt first : Nat} {one other hour : Nat → Int32} {at_ : Int32} (ha : rg at_ 1000) (h3 : ∀ j, j < nt → rg (hour j) 1000) : ∀ k, k ≤ nt → ∀ p, kv (knS one other hour first at_ k p)
  | 0, _, p => by
    rw [knS_0]
    by_cases e : p = first
    · rw [if_pos e]; exact Or.inr ha
    · rw [if_neg e]; exact Or.inl rfl
  | k + 1, h, p => by
    rw [knS]
    exact kst_kv (h3 k (by omega)) (knS_kv ha h3 k (by omega)) p
-- the reference's order
def lexB (H : Nat → Int32) (x y : Nat) : Bool := decide (H x < H y ∨ (H x = H y ∧ x < y))
theorem lex_irr (H : Nat → Int32) (x : Nat) : lexB H x x = false := by
  unfold lexB
  refine decide_eq_false ?_
  rintro (h | ⟨-, h⟩)
  · rw [i_lt] at h; omega
  · omega
theorem lex_tr (H : Nat → Int32) (x y z : Nat) (h1 : lexB H x y = true) (h2 : lexB H y z = true) : lexB H x z = true := by
  unfold lexB at *
  have h1 := of_decide_eq_true h1
  have h2 := of_decide_eq_true h2
  refine decide_eq_true ?_
  rw [i_lt] at h1 h2 ⊢
  rcases h1 with h1 | ⟨e1, h1⟩ <;> rcases h2 with h2 | ⟨e2, h2⟩
  · left; omega
  · left; rw [← e2]; exact h1
  · left; rw [e1]; exact h2
  · right; exact ⟨e1.trans e2, by omega⟩
theorem lex_tot (H : Nat → Int32) (x y : Nat) (h : x ≠ y) : lexB H x y = true ∨ lexB H y x = true := by
  unfold lexB
  rcases fa_three (H x) (H y) with q | q | q
  · exact Or.inl (decide_eq_true (Or.inl q))
  · rcases Nat.lt_or_gt_of_ne h with r | r
    · exact Or.inl (decide_eq_true (Or.inr ⟨q, r⟩))
    · exact Or.inr (decide_eq_true (Or.inr ⟨q.symm, r⟩))
  · exact Or.inr (decide_eq_true (Or.inl q))
-- order holds the first k meetings by hours
def ordP (H : Nat → Int32) (k : Nat) (order : Nat → Int32) : Prop := ∃ s : Nat → Nat, (∀ j, j < k → s j < k ∧ order j = nI (s j)) ∧ ∀ i j, i < j → j < k → lexB H (s i) (s j) = true
theorem lay_loop {nt first : Nat} (hnt : nt ≤ 30) {meetA meetB meetHour one other hour : Nat → Int32} {at_ : Int32} (m4 : ∀ j, j < nt → rg (meetA j) 10) (m5 : ∀ j, j < nt → rg (meetB j) 10) (m7 : ∀ j, j < nt → rg (meetHour j) 1000) (ha : rg at_ 1000) {pm : Nat → Nat} (p1 : ∀ j, j < nt → pm j < nt) (p3 : ∀ j, j < nt → one j = meetA (pm j)) (p4 : ∀ j, j < nt → other j = meetB (pm j)) (p5 : ∀ j, j < nt → hour j = meetHour (pm j)) {order knows : Nat → Int32} (ho : ∀ j, j < nt → order j = nI (pm j)) (hkn : same10 knows (knS one other hour first at_ 0)) : Ok (t_X11_layKnown_108 (nI nt) knows meetA meetB meetHour order at_) (fun u => same10 u.1 (knS one other hour first at_ nt)) := by
  unfold t_X11_layKnown_108
  have h3 : ∀ j, j < nt → rg (hour j) 1000 := fun j hj => by rw [p5 j hj]; exact m7 _ (p1 j hj)
  refine lr_X11_layKnown_110 _ (fun i c kn ma mb mh od x2 x3 => c = nI nt ∧ meetA = ma ∧ meetB = mb ∧ meetHour = mh ∧ order = od ∧ at_ = x2 ∧ x3 = nI i ∧ same10 kn (knS one other hour first at_ i)) nt ?_ ?_ lfuel 0 _ _ _ _ _ _ _ _ (Nat.zero_le _) (by unfold lfuel; omega) ?_
  · rintro kk i c kn ma mb mh od x2 x3 hi ⟨d1, d2, d3, d4, d5, d6, d7, d8⟩ hk
    subst d1 d2 d3 d4 d5 d6 d7
    unfold t_X11_layKnown_110_b t_X11_layKnown_170 t_X11_layKnown_185 t_X11_layKnown_209 t_X11_layKnown_217
    have hin := nI_in (c := i) (N := 30) (by omega) (by decide)
    rw [nI_clamp (by omega)] at hin
    obtain ⟨a, ha2, ea⟩ := m4 (pm i) (p1 i hi)
    obtain ⟨b, hb2, eb⟩ := m5 (pm i) (p1 i hi)
    have hpi := p1 i hi
    have hks : knS one other hour first at_ (i + 1) = kst a b (meetHour (pm i)) at_ (knS one other hour first at_ i) := by
      rw [knS, p3 i hi, p4 i hi, p5 i hi, ea, eb, nI_clamp (by omega), nI_clamp (by omega)]
    have hv := knS_kv (one := one) (other := other) (first := first) ha h3 i (by omega)
    generalize hK : knS one other hour first at_ i = K at *
    refine Ok.neg (nI_ge hi (by omega)) ?_
    simp only [nI_clamp (show i < 2 ^ 31 by omega), ho i hi, nI_clamp (show pm i < 2 ^ 31 by omega), ckn_m (show i < 30 by omega) (by decide), ckn_m (show pm i < 30 by omega) (by decide), ea, eb, nI_clamp (show a < 2 ^ 31 by omega), nI_clamp (show b < 2 ^ 31 by omega), ckn_m ha2 (by decide), ckn_m hb2 (by decide), d8 a ha2, d8 b hb2, kv_neg (hv a), kv_neg (hv b), n10, ↓reduceIte, nI_1]
    have go : ∀ kn2, same10 kn2 (knS one other hour first at_ (i + 1)) → Ok (kk (nI nt) kn2 meetA meetB meetHour order at_ (nI (i + 1))) (fun u => same10 u.1 (knS one other hour first at_ nt)) := fun kn2 h => hk _ _ _ _ _ _ _ _ ⟨rfl, rfl, rfl, rfl, rfl, rfl, rfl, h⟩
    rw [hks, kst] at go
    refine Ok.ite (fun h => go _ (by rw [if_pos h]; exact d8)) (fun h => ?_)
    rw [if_neg h] at go
    refine Ok.ite (fun c1 => ?_) (fun c1 => ?_)
    · rw [if_pos c1] at go
      refine Ok.ite (fun c2 => ?_) (fun c2 => ?_)
      · rw [if_pos c2] at go; exact go _ d8
      · rw [if_neg c2] at go
        rw [if_neg (show ¬ (0 : Int32) = 1 by decide)]
        first | exact go _ (d8.upd a _) | (rw [if_pos c1]; exact go _ (d8.upd a _))
    · rw [if_neg c1] at go
      refine Ok.ite (fun c2 => ?_) (fun c2 => ?_)
      · rw [if_pos c2] at go
        first | exact go _ (d8.upd b _) | (rw [if_neg c1]; exact go _ (d8.upd b _))
      · rw [if_neg c2] at go; exact go _ d8
  · rintro kk c kn ma mb mh od x2 x3 ⟨d1, d2, d3, d4, d5, d6, d7, d8⟩
    subst d1 d2 d3 d4 d5 d6 d7
    unfold t_X11_layKnown_110_b
    exact Ok.pos (nI_le (Nat.le_refl _) (by omega)) (Ok.ret d8)
  · exact ⟨rfl, rfl, rfl, rfl, rfl, rfl, rfl, hkn⟩
theorem ord_ins {H : Nat → Int32} {i q : Nat} {order od : Nat → Int32} (hq : q ≤ i) {s : Nat → Nat} (s1 : ∀ j, j < i → s j < i) (s2 : ∀ a b, a < b → b < i → lexB H (s a) (s b) = true) (e1 : ∀ j, j < q → od j = nI (s j)) (e2 : ∀ j, q < j → j ≤ i → od j = nI (s (j - 1))) (hx : q = 0 ∨ H (s (q - 1)) ≤ H i) (hg : ∀ j, q ≤ j → j < i → ¬ H (s j) ≤ H i) : ordP H (i + 1) (upd od q (nI i)) := by
  refine ⟨fun j => if j < q then s j else if j = q then i else s (j - 1), ?_, ?_⟩
  · intro j hj
    simp only [upd_at]
    by_cases c1 : j < q
    · simp only [if_pos c1, if_neg (show ¬ j = q by omega)]
      exact ⟨by have := s1 j (by omega); omega, e1 j c1⟩
    · by_cases c2 : j = q
      · simp only [if_neg c1, if_pos c2]; exact ⟨by omega, trivial⟩
      · simp only [if_neg c1, if_neg c2]
        exact ⟨by have := s1 (j - 1) (by omega); omega, e2 j (by omega) (by omega)⟩
  · have below : ∀ a, a < q → lexB H (s a) i = true := by
      intro a ha
      have hle : H (s (q - 1)) ≤ H i := hx.resolve_left (by omega)
      have h3 : H (s a) ≤ H i := by
        by_cases e : a = q - 1
        · rw [e]; exact hle
        · have := of_decide_eq_true (s2 a (q - 1) (by omega) (by omega))
          rw [i_le] at hle ⊢
          rcases this with r | ⟨r, -⟩
          · rw [i_lt] at r; omega
          · rw [r]; exact hle
      unfold lexB
      refine decide_eq_true ?_
      by_cases e : H (s a) = H i
      · exact Or.inr ⟨e, by have := s1 a (by omega); omega⟩
      · exact Or.inl (fa_le_ne h3 e)
    have above : ∀ b, q ≤ b → b < i → lexB H i (s b) = true := fun b hb hb2 => decide_eq_true (Or.inl (fa_of_nle (hg b hb hb2)))
    intro a b hab hb
    by_cases c1 : a < q
    · by_cases c2 : b < q
      · simp only [if_pos c1, if_pos c2]; exact s2 a b hab (by omega)
      · by_cases c3 : b = q
        · simp only [if_pos c1, if_neg c2, if_pos c3]; exact below a c1
        · simp only [if_pos c1, if_neg c2, if_neg c3]; exact s2 a (b - 1) (by omega) (by omega)
    · by_cases c4 : a = q
      · simp only [if_neg c1, if_pos c4, if_neg (show ¬ b < q by omega), if_neg (show ¬ b = q by omega)]
        exact above (b - 1) (by omega) (by omega)
      · simp only [if_neg c1, if_neg c4, if_neg (show ¬ b < q by omega), if_neg (show ¬ b = q by omega)]
        exact s2 (a - 1) (b - 1) (by omega) (by omega)
theorem layKnown_ok {nt first : Nat} (hf : first < 10) {meetA meetB meetHour one other hour : Nat → Int32} {c1 c2 at_ : Int32} (hM : RM nt c1 one other hour c2 meetA meetB meetHour) (ha : rg at_ 1000) (knows order : Nat → Int32) : Ok (t_X11_layKnown (nI nt) knows meetA meetB meetHour order (nI first) at_) (fun u => same10 u.1 (knS one other hour first at_ nt)) := by
  obtain ⟨m1, m2, m3, m4, m5, m6, m7, pm, p1, p2, p3, p4, p5⟩ := hM
  unfold t_X11_layKnown
  refine lr_X11_layKnown_2 _ (fun i c kn ma mb mh od x1 x2 x3 => c = nI nt ∧ meetA = ma ∧ meetB = mb ∧ meetHour = mh ∧ x1 = nI first ∧ at_ = x2 ∧ x3 = nI i ∧ ∀ p, p < i → kn p = knS one other hour first at_ 0 p) 10 ?_ ?_ lfuel 0 _ _ _ _ _ _ _ _ _ (Nat.zero_le _) (by unfold lfuel; omega) ?_
  · rintro kk i c kn ma mb mh od x1 x2 x3 hi ⟨d1, d2, d3, d4, d5, d6, d7, d8⟩ hk
    subst d1 d2 d3 d4 d5 d6 d7
    unfold t_X11_layKnown_2_b t_X11_layKnown_24
    have hin := nI_in (c := i) (N := 10) hi (by decide)
    have fin : ∀ x, x = knS one other hour first at_ 0 i → ∀ p, p < i + 1 → upd kn (nI i).toNatClampNeg x p = knS one other hour first at_ 0 p := by
      intro x hx p hp
      rw [nI_clamp (by omega), upd_at]
      by_cases e : p = i
      · rw [if_pos e, e]; exact hx
      · rw [if_neg e]; exact d8 p (by omega)
    refine Ok.neg (nI_ge (b := 10) hi (by decide)) (Ok.ite (fun h => Ok.ck hin (hk _ _ _ _ _ _ _ _ _ ⟨rfl, rfl, rfl, rfl, rfl, rfl, nI_1 i, fin _ ?_⟩)) (fun h => Ok.ck hin (hk _ _ _ _ _ _ _ _ _ ⟨rfl, rfl, rfl, rfl, rfl, rfl, nI_1 i, fin _ ?_⟩)))
    · rw [knS_0, if_pos ((nI_eq (by omega) (by omega)).mp h)]
    · rw [knS_0, if_neg (fun e => h (by rw [e]))]
  · rintro kk c kn ma mb mh od x1 x2 x3 ⟨d1, d2, d3, d4, d5, d6, d7, d8⟩
    subst d1 d2 d3 d4 d5 d6 d7
    unfold t_X11_layKnown_2_b t_X11_layKnown_31
    refine Ok.pos (by decide) ?_
    refine lr_X11_layKnown_33 _ (fun i c kn2 ma mb mh od x2 x3 => c = nI nt ∧ kn = kn2 ∧ meetA = ma ∧ meetB = mb ∧ meetHour = mh ∧ at_ = x2 ∧ x3 = nI i ∧ ordP meetHour i od) nt ?_ ?_ lfuel 0 _ _ _ _ _ _ _ _ (Nat.zero_le _) (by unfold lfuel; omega) ?_
    · rintro kk2 i c kn2 ma mb mh od2 x2 x3 hi ⟨d1, d2, d3, d4, d5, d6, d7, s, s1, s2⟩ hk
      subst d1 d2 d3 d4 d5 d6 d7
      unfold t_X11_layKnown_33_b
      refine Ok.neg (nI_ge hi (by omega)) ?_
      refine lr_X11_layKnown_44 _ (fun j c kn2 ma mb mh od x2 x3 x4 => c = nI nt ∧ kn = kn2 ∧ meetA = ma ∧ meetB = mb ∧ meetHour = mh ∧ at_ = x2 ∧ x3 = nI i ∧ x4 = nI (i - j) ∧ (∀ k, k < i - j → od k = nI (s k)) ∧ (∀ k, i - j < k → k ≤ i → od k = nI (s (k - 1))) ∧ (∀ k, i - j ≤ k → k < i → ¬ meetHour (s k) ≤ meetHour i)) i ?_ ?_ lfuel 0 _ _ _ _ _ _ _ _ _ (Nat.zero_le _) (by unfold lfuel; omega) ?_
      · rintro kk3 j c kn2 ma mb mh od x2 x3 x4 hj ⟨d1, d2, d3, d4, d5, d6, d7, d9, e1, e2, e3⟩ hk3
        subst d1 d2 d3 d4 d5 d6 d7 d9
        obtain ⟨q, hq⟩ : ∃ q, i - j = q + 1 := ⟨i - j - 1, by omega⟩
        rw [hq] at e1 e2 e3 ⊢
        unfold t_X11_layKnown_44_b t_X11_layKnown_94
        have hs := (s1 q (by omega)).1
        simp only [nI_pp, show nI (q + 1) + (-1 : Int32) = nI q from pk_m1 q, nI_clamp (show q < 2 ^ 31 by omega), nI_clamp (show q + 1 < 2 ^ 31 by omega), nI_clamp (show i < 2 ^ 31 by omega), e1 q (by omega), nI_clamp (show s q < 2 ^ 31 by omega), ckn_m (show q < 30 by omega) (by decide), ckn_m (show q + 1 < 30 by omega) (by decide), ckn_m (show s q < 30 by omega) (by decide), ckn_m (show i < 30 by omega) (by decide), nI_1]
        refine Ok.neg (nI_nle (by omega) (by omega)) (Ok.ite (fun h => ?_) (fun h => ?_))
        · exact hk _ _ _ _ _ _ _ _ ⟨rfl, rfl, rfl, rfl, rfl, rfl, rfl, ord_ins (order := od2) (by omega) (fun j hj => (s1 j hj).1) s2 e1 e2 (Or.inr h) e3⟩
        · refine hk3 _ _ _ _ _ _ _ _ _ ⟨rfl, rfl, rfl, rfl, rfl, rfl, rfl, by rw [show i - (j + 1) = q by omega], ?_, ?_, ?_⟩
          · intro k hk4
            rw [upd_at, if_neg (by omega)]; exact e1 k (by omega)
          · intro k hk4 hk5
            rw [upd_at]
            by_cases e : k = q + 1
            · rw [if_pos e, e]; rfl
            · rw [if_neg e]; exact e2 k (by omega) hk5
          · intro k hk4 hk5
            by_cases e : k = q
            · rw [e]; exact h
            · exact e3 k (by omega) hk5
      · rintro kk3 c kn2 ma mb mh od x2 x3 x4 ⟨d1, d2, d3, d4, d5, d6, d7, d9, e1, e2, e3⟩
        subst d1 d2 d3 d4 d5 d6 d7 d9
        rw [Nat.sub_self] at e1 e2 e3 ⊢
        unfold t_X11_layKnown_44_b t_X11_layKnown_94
        refine Ok.pos (by decide) ?_
        rw [nI_clamp (by omega), ckn_m (show 0 < 30 by decide) (by decide), nI_1]
        exact hk _ _ _ _ _ _ _ _ ⟨rfl, rfl, rfl, rfl, rfl, rfl, rfl, ord_ins (order := od2) (by omega) (fun j hj => (s1 j hj).1) s2 e1 e2 (Or.inl rfl) e3⟩
      · exact ⟨rfl, rfl, rfl, rfl, rfl, rfl, rfl, rfl, fun k hk4 => (s1 k hk4).2, fun k hk4 hk5 => by omega, fun k hk4 hk5 => by omega⟩
    · rintro kk2 c kn2 ma mb mh od2 x2 x3 ⟨d1, d2, d3, d4, d5, d6, d7, s, s1, s2⟩
      subst d1 d2 d3 d4 d5 d6 d7
      unfold t_X11_layKnown_33_b
      refine Ok.pos (nI_le (Nat.le_refl _) (by omega)) ?_
      refine lay_loop m1 m4 m5 m7 ha p1 p3 p4 p5 (fun j hj => ?_) d8
      rw [(s1 j hj).2]
      have := rise_uniq (lex_irr meetHour) (lex_tr meetHour) (lex_tot meetHour) (fun j hj => (s1 j hj).1) s2 p1 (fun i j hij hj => decide_eq_true (p2 i j hij hj)) hj
      rw [this]
    · exact ⟨rfl, rfl, rfl, rfl, rfl, rfl, rfl, fun j => j, fun j hj => absurd hj (Nat.not_lt_zero j), fun a b hab hb => absurd hb (Nat.not_lt_zero b)⟩
  · exact ⟨rfl, rfl, rfl, rfl, rfl, rfl, rfl, fun p hp => absurd hp (Nat.not_lt_zero p)⟩
