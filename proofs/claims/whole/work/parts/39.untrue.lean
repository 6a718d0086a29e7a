-- needs 36 37 38
def Bz (u : Int32) (p : Prop) : Prop := (u = 1 ∧ p) ∨ (u = 0 ∧ ¬ p)
theorem Bz.t {p : Prop} (h : p) : Bz 1 p := Or.inl ⟨rfl, h⟩
theorem Bz.f {p : Prop} (h : ¬ p) : Bz 0 p := Or.inr ⟨rfl, h⟩
theorem Bz.iff {u : Int32} {p q : Prop} (h : Bz u p) (e : p ↔ q) : Bz u q := by
  rcases h with ⟨a, b⟩ | ⟨a, b⟩
  · exact Or.inl ⟨a, e.mp b⟩
  · exact Or.inr ⟨a, fun h => b (e.mpr h)⟩
theorem Bz.z {u : Int32} {p : Prop} (h : Bz u p) : u = 0 ↔ ¬ p := by
  rcases h with ⟨a, b⟩ | ⟨a, b⟩
  · subst a; exact ⟨fun h => absurd h (by decide), fun h => absurd b h⟩
  · subst a; exact ⟨fun _ => b, fun _ => rfl⟩
theorem Bz.b {u : Int32} {p : Prop} (h : Bz u p) : ¬ ¬ (u = 0 ∨ u = 1) := by
  rcases h with ⟨a, b⟩ | ⟨a, b⟩
  · exact fun q => q (Or.inr a)
  · exact fun q => q (Or.inl a)
theorem Bz.of {c : Prop} [Decidable c] : Bz (if c then 1 else 0) c := by
  by_cases h : c
  · rw [if_pos h]; exact Bz.t h
  · rw [if_neg h]; exact Bz.f h
theorem Bz.eq {u : Int32} {c : Prop} [Decidable c] (h : Bz u c) : u = if c then 1 else 0 := by
  rcases h with ⟨a, b⟩ | ⟨a, b⟩
  · rw [a, if_pos b]
  · rw [a, if_neg b]
def cbP (ny : Nat) (K : Nat → Nat → Prop) (s : Nat) : Prop := ∀ a b, a < ny → b < ny → a ≠ b → K a b → s.testBit a = true ∨ s.testBit b = true
theorem rest_ok {ny : Nat} (hny : ny ≤ 10) {K : Nat → Nat → Prop} {against : Nat → Int32} (hA : ∀ i, i < ny → ∃ k : Nat, k < 1024 ∧ against i = nI k ∧ ∀ j, k.testBit j = true ↔ j < ny ∧ i ≠ j ∧ K i j) {s : Nat} (hs : s < 1024) : Ok (t_X9_restCanBe (nI ny) against (nI s)) (fun u => Bz u (cbP ny K s)) := by
  unfold t_X9_restCanBe
  refine lr_X9_restCanBe_2 _ (fun i c ag x1 x2 => c = nI ny ∧ against = ag ∧ x1 = nI s ∧ x2 = nI i ∧ ∀ a b, a < i → b < ny → a ≠ b → K a b → s.testBit a = true ∨ s.testBit b = true) ny ?_ ?_ lfuel 0 _ _ _ _ (Nat.zero_le _) (by unfold lfuel; omega) ?_
  · rintro kk i c ag x1 x2 hi ⟨d1, d2, d3, d4, d5⟩ hk
    subst d1 d2 d3 d4
    unfold t_X9_restCanBe_2_b t_X9_restCanBe_33
    have hii := nI_in (c := i) (N := 10) (by omega) (by decide)
    obtain ⟨k, k1, k2, k3⟩ := hA i hi
    refine Ok.neg (fun h => by have := (nI_leI (a := ny) (b := i) (by omega) (by omega)).mp h; omega) ?_
    refine Ok.ite (fun hc => Ok.ck hii ?_) (fun hc => hk _ _ _ _ ⟨rfl, rfl, rfl, nI_1 i, ?_⟩)
    · rw [nI_clamp (by omega), k2, andn (by omega)]
      rw [tb0 (by omega) (by omega)] at hc
      have hz : nI (k &&& (2 ^ 32 - 1 - s)) = 0 ↔ k &&& (2 ^ 32 - 1 - s) = 0 := nI_eq (b := 0) (Nat.lt_of_le_of_lt Nat.and_le_left (by omega)) (by decide)
      rw [show (0 : Int32) = nI 0 from rfl] at hz ⊢
      refine Ok.ite (fun hd => hk _ _ _ _ ⟨rfl, rfl, rfl, nI_1 i, ?_⟩) (fun hd => Ok.ret (Bz.f ?_))
      · rw [hz, zero_bits] at hd
        intro a b ha hb hab hK
        by_cases e : a = i
        · subst e
          have h1 := hd b
          rw [andn_at (by omega) (by omega), (k3 b).mpr ⟨hb, hab, hK⟩] at h1
          refine Or.inr ?_
          cases h2 : s.testBit b
          · rw [h2] at h1; cases h1
          · rfl
        · exact d5 a b (by omega) hb hab hK
      · intro hC
        apply hd
        rw [hz, zero_bits]
        intro j
        rw [andn_at (by omega) (by omega)]
        cases h1 : k.testBit j
        · rfl
        · obtain ⟨g1, g2, g3⟩ := (k3 j).mp h1
          rcases hC i j hi g1 g2 g3 with h2 | h2
          · rw [hc] at h2; cases h2
          · rw [h2]; rfl
    · rw [tb0 (by omega) (by omega)] at hc
      intro a b ha hb hab hK
      by_cases e : a = i
      · subst e
        exact Or.inl (by cases h : s.testBit a; exact absurd h hc; rfl)
      · exact d5 a b (by omega) hb hab hK
  · rintro kk c ag x1 x2 ⟨d1, d2, d3, d4, d5⟩
    subst d1 d2 d3 d4
    unfold t_X9_restCanBe_2_b
    exact Ok.pos (nI_le (Nat.le_refl _) (by omega)) (Ok.ret (Bz.t d5))
  · exact ⟨rfl, rfl, rfl, rfl, fun a b ha => absurd ha (Nat.not_lt_zero a)⟩
theorem canBe_ok {ny : Nat} (hny : ny ≤ 10) (person place from_ to_ : Nat → Int32) {s : Nat} (hs : s < 1024) : Ok (t_X11_canBe (nI ny) from_ person place to_ (nI s)) (fun u => Bz u (cbP ny (clashP person place from_ to_) s)) := by
  let E : Nat → Nat → Prop := fun a b => s.testBit a = true ∨ s.testBit b = true ∨ ¬ clashP person place from_ to_ a b
  unfold t_X11_canBe
  refine lr_X11_canBe_4 _ (fun i c fr pe pl to x1 x2 x3 => c = nI ny ∧ from_ = fr ∧ person = pe ∧ place = pl ∧ to_ = to ∧ x1 = nI s ∧ x3 = nI i ∧ Bz x2 (∀ a b, a < i → b < a → E a b)) ny ?_ ?_ lfuel 0 _ _ _ _ _ _ _ _ (Nat.zero_le _) (by unfold lfuel; omega) ?_
  · rintro kk i c fr pe pl to x1 x2 x3 hi ⟨d1, d2, d3, d4, d5, d6, d7, d8⟩ hk
    subst d1 d2 d3 d4 d5 d6 d7
    unfold t_X11_canBe_4_b
    refine Ok.neg (fun h => by have := (nI_leI (a := ny) (b := i) (by omega) (by omega)).mp h; omega) ?_
    refine lr_X11_canBe_15 _ (fun j c fr pe pl to x1 x2 x3 x4 => c = nI ny ∧ from_ = fr ∧ person = pe ∧ place = pl ∧ to_ = to ∧ x1 = nI s ∧ x3 = nI i ∧ x4 = nI j ∧ Bz x2 ((∀ a b, a < i → b < a → E a b) ∧ ∀ b, b < j → E i b)) i ?_ ?_ lfuel 0 _ _ _ _ _ _ _ _ _ (Nat.zero_le _) (by unfold lfuel; omega) ?_
    · rintro kk2 j c fr pe pl to x1 x2 x3 x4 hj ⟨d1, d2, d3, d4, d5, d6, d7, d9, d8⟩ hk2
      subst d1 d2 d3 d4 d5 d6 d7 d9
      unfold t_X11_canBe_15_b t_X11_canBe_58 t_X11_canBe_54 t_X11_canBe_59
      refine Ok.neg (fun h => by have := (nI_leI (a := i) (b := j) (by omega) (by omega)).mp h; omega) ?_
      have good : E i j → ¬ x2 = 0 → Bz 1 ((∀ a b, a < i → b < a → E a b) ∧ ∀ b, b < j + 1 → E i b) := by
        intro h1 h2
        have h3 := Classical.not_not.mp (fun h => h2 (d8.z.mpr h))
        refine Bz.t ⟨h3.1, fun b hb => ?_⟩
        by_cases e : b = j
        · rw [e]; exact h1
        · exact h3.2 b (by omega)
      refine Ok.ite (fun hc => hk2 _ _ _ _ _ _ _ _ _ ⟨rfl, rfl, rfl, rfl, rfl, rfl, rfl, nI_1 j, Bz.f (fun h => d8.z.mp hc ⟨h.1, fun b hb => h.2 b (by omega)⟩)⟩) (fun hc => ?_)
      rw [clash_ok2 (by omega) (by omega), bd1_s]
      refine Ok.ite (fun h1 => hk2 _ _ _ _ _ _ _ _ _ ⟨rfl, rfl, rfl, rfl, rfl, rfl, rfl, nI_1 j, good (Or.inl ((tb1 (by omega) (by omega)).mp h1)) hc⟩) (fun h1 => ?_)
      refine Ok.ite (fun h2 => hk2 _ _ _ _ _ _ _ _ _ ⟨rfl, rfl, rfl, rfl, rfl, rfl, rfl, nI_1 j, good (Or.inr (Or.inl ((tb1 (by omega) (by omega)).mp h2))) hc⟩) (fun h2 => ?_)
      rw [bz]
      refine Ok.ite (fun h3 => hk2 _ _ _ _ _ _ _ _ _ ⟨rfl, rfl, rfl, rfl, rfl, rfl, rfl, nI_1 j, Bz.f (fun h => ?_)⟩) (fun h3 => hk2 _ _ _ _ _ _ _ _ _ ⟨rfl, rfl, rfl, rfl, rfl, rfl, rfl, nI_1 j, good (Or.inr (Or.inr h3)) hc⟩)
      rw [tb1 (by omega) (by omega)] at h1 h2
      rcases h.2 j (by omega) with q | q | q
      · exact h1 q
      · exact h2 q
      · exact q h3
    · rintro kk2 c fr pe pl to x1 x2 x3 x4 ⟨d1, d2, d3, d4, d5, d6, d7, d9, d8⟩
      subst d1 d2 d3 d4 d5 d6 d7 d9
      unfold t_X11_canBe_15_b t_X11_canBe_66
      refine Ok.pos (nI_le (Nat.le_refl _) (by omega)) (hk _ _ _ _ _ _ _ _ ⟨rfl, rfl, rfl, rfl, rfl, rfl, nI_1 i, d8.iff ⟨fun h a b ha hb => ?_, fun h => ⟨fun a b ha hb => h a b (by omega) hb, fun b hb => h i b (by omega) hb⟩⟩⟩)
      by_cases e : a = i
      · subst e; exact h.2 b hb
      · exact h.1 a b (by omega) hb
    · exact ⟨rfl, rfl, rfl, rfl, rfl, rfl, rfl, rfl, d8.iff ⟨fun h => ⟨h, fun b hb => absurd hb (Nat.not_lt_zero b)⟩, fun h => h.1⟩⟩
  · rintro kk c fr pe pl to x1 x2 x3 ⟨d1, d2, d3, d4, d5, d6, d7, d8⟩
    subst d1 d2 d3 d4 d5 d6 d7
    unfold t_X11_canBe_4_b
    refine Ok.pos (nI_le (Nat.le_refl _) (by omega)) (Ok.ck d8.b (Ok.ret (d8.iff ⟨fun h a b ha hb hab hK => ?_, fun h a b ha hb => ?_⟩)))
    · by_cases hlt : b < a
      · rcases h a b ha hlt with q | q | q
        · exact Or.inl q
        · exact Or.inr q
        · exact absurd hK q
      · rcases h b a hb (by omega) with q | q | q
        · exact Or.inr q
        · exact Or.inl q
        · exact absurd hK.symm q
    · by_cases hK : clashP person place from_ to_ a b
      · rcases h a b ha (by omega) (by omega) hK with q | q
        · exact Or.inl q
        · exact Or.inr (Or.inl q)
      · exact Or.inr (Or.inr hK)
  · exact ⟨rfl, rfl, rfl, rfl, rfl, rfl, rfl, Bz.t (fun a b ha => absurd ha (Nat.not_lt_zero a))⟩
theorem cnt_cap {p : Nat → Bool} {m : Nat} (h : ∀ j, m ≤ j → p j = false) : ∀ k, fa_cnt p k ≤ m
  | 0 => Nat.zero_le _
  | k + 1 => by
    by_cases hk : m ≤ k
    · rw [fa_cnt_no (h k hk)]; exact cnt_cap h k
    · exact Nat.le_trans (fa_cnt_le p (k + 1)) (by omega)
theorem pop_cap {n m : Nat} (h : n < 2 ^ m) : pop n ≤ m := cnt_cap (fun j hj => bit_hi h hj) 12
noncomputable def untS (C : Nat → Prop) : Nat → Option (Nat × Nat)
  | 0 => none
  | i + 1 => match untS C i with
    | none => @ite _ (C i) (Classical.propDecidable _) (some (i, i)) none
    | some bs => @ite _ (pop i ≤ pop bs.1 ∧ C i) (Classical.propDecidable _) (if pop i < pop bs.1 then some (i, i) else some (bs.1, bs.2 &&& i)) (some bs)
theorem untS_none {C : Nat → Prop} : ∀ {i : Nat}, untS C i = none → ∀ j, j < i → ¬ C j
  | 0, _, j, hj => absurd hj (Nat.not_lt_zero j)
  | i + 1, h, j, hj => by
    rw [untS] at h
    cases h1 : untS C i with
    | none =>
      rw [h1] at h
      simp only at h
      by_cases hc : C i
      · rw [if_pos hc] at h; cases h
      · by_cases e : j = i
        · rw [e]; exact hc
        · exact untS_none h1 j (by omega)
    | some bs =>
      rw [h1] at h
      simp only at h
      split at h
      · split at h <;> cases h
      · cases h
def unC (ny : Nat) (o : Option (Nat × Nat)) (fewest sure best : Int32) : Prop := match o with
  | none => fewest = nI (2 ^ ny - 1) ∧ sure = nI (2 ^ ny - 1) ∧ best = nI (ny + 1)
  | some bs => fewest = nI bs.1 ∧ sure = nI bs.2 ∧ best = nI (pop bs.1) ∧ bs.1 < 2 ^ ny ∧ bs.2 < 2 ^ ny
def unM (ny : Nat) (o : Option (Nat × Nat)) (best sure : Int32) : Prop := match o with
  | none => best = -6 ∧ sure = 0
  | some bs => best = nI bs.1 ∧ sure = nI bs.2 ∧ bs.1 < 2 ^ ny
theorem p2_lt {ny : Nat} (h : ny ≤ 10) : 2 ^ ny ≤ 1024 := show 2 ^ ny ≤ 2 ^ 10 from Nat.pow_le_pow_right (by decide) h
theorem sift_ok {ny : Nat} (hny : ny ≤ 10) {K : Nat → Nat → Prop} {against : Nat → Int32} (hA : ∀ i, i < ny → ∃ k : Nat, k < 1024 ∧ against i = nI k ∧ ∀ j, k.testBit j = true ↔ j < ny ∧ i ≠ j ∧ K i j) (f0 s0 : Int32) : Ok (t_X9_sift (nI ny) f0 s0 against) (fun u => ∃ x, unC ny (untS (cbP ny K) (2 ^ ny)) u.1 u.2 x) := by
  unfold t_X9_sift
  have hp := p2_lt hny
  have hp0 : 0 < 2 ^ ny := Nat.two_pow_pos ny
  obtain ⟨N, hN⟩ : ∃ N, 2 ^ ny = N + 1 := ⟨2 ^ ny - 1, by omega⟩
  rw [sh1 (by omega), nI_1, hN, nI_pp]
  refine lr_X9_sift_28 _ (fun i c f s ag x1 x2 x3 => c = nI ny ∧ against = ag ∧ x1 = nI N ∧ x3 = nI i ∧ unC ny (untS (cbP ny K) i) f s x2) (N + 1) ?_ ?_ lfuel 0 _ _ _ _ _ _ _ (Nat.zero_le _) (by unfold lfuel; omega) ?_
  · rintro kk i c f s ag x1 x2 x3 hi ⟨d1, d2, d3, d4, d5⟩ hk
    subst d1 d2 d3 d4
    unfold t_X9_sift_28_b t_X9_sift_85 t_X9_sift_75
    refine Ok.neg (nI_nlt (by omega) (by omega)) ?_
    rw [bitCount_ok (by omega), bd1_s]
    have hpi : pop i ≤ ny := pop_cap (by omega)
    have hr := rest_ok hny hA (s := i) (by omega)
    cases ho : untS (cbP ny K) i with
    | none =>
      rw [ho] at d5
      obtain ⟨e1, e2, e3⟩ := d5
      subst e1 e2 e3
      refine Ok.neg (nI_nlt (by omega) (by omega)) (Ok.bd1 hr (fun v hv => Ok.ite (fun hz => ?_) (fun hz => ?_)))
      · refine hk _ _ _ _ _ _ _ ⟨rfl, rfl, rfl, nI_1 i, ?_⟩
        rw [untS, ho]
        simp only
        rw [if_neg (hv.z.mp hz)]
        exact ⟨rfl, rfl, rfl⟩
      · refine Ok.neg (nI_ge (by omega) (by omega)) (hk _ _ _ _ _ _ _ ⟨rfl, rfl, rfl, nI_1 i, ?_⟩)
        rw [untS, ho]
        simp only
        rw [if_pos (Classical.not_not.mp (fun h => hz (hv.z.mpr h))), fa_and, Nat.and_self]
        exact ⟨rfl, rfl, rfl, by omega, by omega⟩
    | some bs =>
      rw [ho] at d5
      obtain ⟨e1, e2, e3, e4, e5⟩ := d5
      subst e1 e2 e3
      have hq := pop_le bs.1
      refine Ok.ite (fun hz => ?_) (fun hz => Ok.bd1 hr (fun v hv => Ok.ite (fun hz2 => ?_) (fun hz2 => Ok.ite (fun hz3 => ?_) (fun hz3 => ?_))))
      · refine hk _ _ _ _ _ _ _ ⟨rfl, rfl, rfl, nI_1 i, ?_⟩
        rw [nI_ltI (by omega) (by omega)] at hz
        rw [untS, ho]
        simp only
        rw [if_neg (fun h => by have := h.1; omega)]
        exact ⟨rfl, rfl, rfl, e4, e5⟩
      · refine hk _ _ _ _ _ _ _ ⟨rfl, rfl, rfl, nI_1 i, ?_⟩
        rw [untS, ho]
        simp only
        rw [if_neg (fun h => hv.z.mp hz2 h.2)]
        exact ⟨rfl, rfl, rfl, e4, e5⟩
      · refine hk _ _ _ _ _ _ _ ⟨rfl, rfl, rfl, nI_1 i, ?_⟩
        rw [nI_ltI (by omega) (by omega)] at hz
        rw [nI_leI (by omega) (by omega)] at hz3
        rw [untS, ho]
        simp only
        rw [if_pos ⟨by omega, Classical.not_not.mp (fun h => hz2 (hv.z.mpr h))⟩, if_neg (by omega), fa_and]
        exact ⟨rfl, rfl, rfl, e4, Nat.lt_of_le_of_lt Nat.and_le_left e5⟩
      · refine hk _ _ _ _ _ _ _ ⟨rfl, rfl, rfl, nI_1 i, ?_⟩
        rw [nI_leI (by omega) (by omega)] at hz3
        rw [untS, ho]
        simp only
        rw [if_pos ⟨by omega, Classical.not_not.mp (fun h => hz2 (hv.z.mpr h))⟩, if_pos (by omega), fa_and, Nat.and_self]
        exact ⟨rfl, rfl, rfl, by omega, by omega⟩
  · rintro kk c f s ag x1 x2 x3 ⟨d1, d2, d3, d4, d5⟩
    subst d1 d2 d3 d4
    unfold t_X9_sift_28_b
    exact Ok.pos (nI_lt (by omega) (by omega)) (Ok.ret ⟨x2, d5⟩)
  · refine ⟨rfl, rfl, rfl, rfl, ?_⟩
    rw [untS]
    refine ⟨?_, ?_, rfl⟩
    · rw [hN]; rfl
    · rw [hN]; rfl
theorem untrue_ok {ny : Nat} (hny : ny ≤ 10) (person place from_ to_ : Nat → Int32) (w : Int32) : Ok (t_X11_untrue_20 lfuel (nI ny) from_ person place to_ w (-6 : Int32) (0 : Int32) (0 : Int32)) (fun u => ∀ bs, untS (cbP ny (clashP person place from_ to_)) (2 ^ ny) = some bs → u = if w = 0 then nI bs.1 else if w = 1 then nI (pop bs.1) else nI bs.2) := by
  have hp := p2_lt hny
  refine lr_X11_untrue_20 _ (fun i c fr pe pl to x1 x2 x3 x4 => c = nI ny ∧ from_ = fr ∧ person = pe ∧ place = pl ∧ to_ = to ∧ w = x1 ∧ x4 = nI i ∧ unM ny (untS (cbP ny (clashP person place from_ to_)) i) x2 x3) (2 ^ ny) ?_ ?_ lfuel 0 _ _ _ _ _ _ _ _ _ (Nat.zero_le _) (by unfold lfuel; omega) ?_
  · rintro kk i c fr pe pl to x1 x2 x3 x4 hi ⟨d1, d2, d3, d4, d5, d6, d7, d8⟩ hk
    subst d1 d2 d3 d4 d5 d6 d7
    unfold t_X11_untrue_20_b t_X11_untrue_47 t_X11_untrue_72 t_X11_untrue_77 t_X11_untrue_93 t_X11_untrue_105 t_X11_untrue_106
    rw [sh1 (by omega)]
    refine Ok.neg (nI_ge hi (by omega)) ?_
    have hr := canBe_ok hny person place from_ to_ (s := i) (by omega)
    rw [bits_ok (show i < 2 ^ 31 by omega), bd1_s]
    cases ho : untS (cbP ny (clashP person place from_ to_)) i with
    | none =>
      rw [ho] at d8
      obtain ⟨e1, e2⟩ := d8
      subst e1 e2
      refine Ok.pos (by decide) (Ok.bd1 hr (fun v hv => Ok.ite (fun hz => ?_) (fun hz => ?_)))
      · refine hk _ _ _ _ _ _ _ _ _ ⟨rfl, rfl, rfl, rfl, rfl, rfl, nI_1 i, ?_⟩
        rw [untS, ho]
        simp only
        rw [if_neg (hv.z.mp hz)]
        exact ⟨rfl, rfl⟩
      · refine Ok.pos (by decide) (Ok.neg (by decide) (Ok.neg (by decide) (hk _ _ _ _ _ _ _ _ _ ⟨rfl, rfl, rfl, rfl, rfl, rfl, nI_1 i, ?_⟩)))
        rw [untS, ho]
        simp only
        rw [if_pos (Classical.not_not.mp (fun h => hz (hv.z.mpr h)))]
        exact ⟨rfl, rfl, by omega⟩
    | some bs =>
      rw [ho] at d8
      obtain ⟨e1, e2, e3⟩ := d8
      subst e1 e2
      have hq := pop_le bs.1
      have hq2 := pop_le i
      rw [bits_ok (show bs.1 < 2 ^ 31 by omega), bd1_s]
      refine Ok.neg (nI_pos (by omega)) (Ok.ite (fun hz => ?_) (fun hz => Ok.bd1 hr (fun v hv => Ok.ite (fun hz2 => ?_) (fun hz2 => ?_))))
      · refine hk _ _ _ _ _ _ _ _ _ ⟨rfl, rfl, rfl, rfl, rfl, rfl, nI_1 i, ?_⟩
        rw [nI_ltI (by omega) (by omega)] at hz
        rw [untS, ho]
        simp only
        rw [if_neg (fun h => by have := h.1; omega)]
        exact ⟨rfl, rfl, e3⟩
      · refine hk _ _ _ _ _ _ _ _ _ ⟨rfl, rfl, rfl, rfl, rfl, rfl, nI_1 i, ?_⟩
        rw [untS, ho]
        simp only
        rw [if_neg (fun h => hv.z.mp hz2 h.2)]
        exact ⟨rfl, rfl, e3⟩
      · rw [nI_ltI (by omega) (by omega)] at hz
        refine Ok.neg (nI_pos (by omega)) (Ok.ite (fun hz3 => Ok.pos rfl (Ok.pos rfl ?_)) (fun hz3 => Ok.neg (by decide) (Ok.neg (by decide) ?_)))
        · refine hk _ _ _ _ _ _ _ _ _ ⟨rfl, rfl, rfl, rfl, rfl, rfl, nI_1 i, ?_⟩
          rw [nI_leI (by omega) (by omega)] at hz3
          rw [untS, ho]
          simp only
          rw [if_pos ⟨by omega, Classical.not_not.mp (fun h => hz2 (hv.z.mpr h))⟩, if_neg (by omega), fa_and]
          exact ⟨rfl, rfl, e3⟩
        · refine hk _ _ _ _ _ _ _ _ _ ⟨rfl, rfl, rfl, rfl, rfl, rfl, nI_1 i, ?_⟩
          rw [nI_leI (by omega) (by omega)] at hz3
          rw [untS, ho]
          simp only
          rw [if_pos ⟨by omega, Classical.not_not.mp (fun h => hz2 (hv.z.mpr h))⟩, if_pos (by omega)]
          exact ⟨rfl, rfl, by omega⟩
  · rintro kk c fr pe pl to x1 x2 x3 x4 ⟨d1, d2, d3, d4, d5, d6, d7, d8⟩
    subst d1 d2 d3 d4 d5 d6 d7
    unfold t_X11_untrue_20_b t_X11_untrue_112 t_X11_untrue_133
    rw [sh1 (by omega)]
    refine Ok.pos (nI_le (Nat.le_refl _) (by omega)) ?_
    cases ho : untS (cbP ny (clashP person place from_ to_)) (2 ^ ny) with
    | none =>
      rw [ho] at d8
      obtain ⟨e1, e2⟩ := d8
      subst e1 e2
      refine absurd (untS_none ho (2 ^ ny - 1) (by have := Nat.two_pow_pos ny; omega)) (fun h => h ?_)
      intro a b ha hb hab hK
      refine Or.inl ?_
      rw [Nat.testBit_two_pow_sub_one]
      exact decide_eq_true ha
    | some bs =>
      rw [ho] at d8
      obtain ⟨e1, e2, e3⟩ := d8
      subst e1 e2
      rw [bits_ok (show bs.1 < 2 ^ 31 by omega), bd1_s]
      refine Ok.ite (fun h => Ok.ret ?_) (fun h => Ok.ite (fun h2 => Ok.ret ?_) (fun h2 => Ok.ret ?_))
      · rintro b ⟨⟩; rw [if_pos h]
      · rintro b ⟨⟩; rw [if_neg h, if_pos h2]
      · rintro b ⟨⟩; rw [if_neg h, if_neg h2]
  · refine ⟨rfl, rfl, rfl, rfl, rfl, rfl, rfl, ?_⟩
    rw [untS]
    exact ⟨rfl, rfl⟩
