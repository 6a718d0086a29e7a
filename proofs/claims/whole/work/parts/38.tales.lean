-- needs 36 37
theorem clash_ok {person place from_ to_ : Nat → Int32} {a b : Nat} (ha : a < 10) (hb : b < 10) : t_X9_clash from_ person place to_ (nI a) (nI b) = some (if person a = person b ∧ place a ≠ place b ∧ from_ a ≤ to_ b ∧ from_ b ≤ to_ a then 1 else 0) := by
  unfold t_X9_clash t_X9_clash_65
  rw [ckn_f (show ¬ ¬ ((0 : Int32) = 0 ∨ (0 : Int32) = 1) by decide), ckn_f (show ¬ ¬ ((1 : Int32) = 0 ∨ (1 : Int32) = 1) by decide)]
  simp only [nI_clamp (show a < 2 ^ 31 by omega), nI_clamp (show b < 2 ^ 31 by omega), ckn_m ha (by decide), ckn_m hb (by decide)]
  by_cases h1 : person a = person b
  · rw [if_pos h1]
    by_cases h2 : place a = place b
    · rw [if_pos h2, if_neg (fun h : person a = person b ∧ place a ≠ place b ∧ from_ a ≤ to_ b ∧ from_ b ≤ to_ a => h.2.1 h2)]
    · rw [if_neg h2]
      by_cases h3 : to_ b < from_ a
      · rw [if_pos h3, if_neg (fun h : person a = person b ∧ place a ≠ place b ∧ from_ a ≤ to_ b ∧ from_ b ≤ to_ a => by have := h.2.2.1; rw [i_le] at this; rw [i_lt] at h3; omega)]
      · rw [if_neg h3]
        by_cases h4 : to_ a < from_ b
        · rw [if_pos h4, if_neg (fun h : person a = person b ∧ place a ≠ place b ∧ from_ a ≤ to_ b ∧ from_ b ≤ to_ a => by have := h.2.2.2; rw [i_le] at this; rw [i_lt] at h4; omega)]
        · rw [if_neg h4, if_pos (show person a = person b ∧ place a ≠ place b ∧ from_ a ≤ to_ b ∧ from_ b ≤ to_ a from ⟨h1, h2, i_nlt.mp h3, i_nlt.mp h4⟩)]
  · rw [if_neg h1, if_neg (fun h : person a = person b ∧ place a ≠ place b ∧ from_ a ≤ to_ b ∧ from_ b ≤ to_ a => h1 h.1)]
theorem clash_ok2 {person place from_ to_ : Nat → Int32} {a b : Nat} (ha : a < 10) (hb : b < 10) : t_X11_clash from_ person place to_ (nI a) (nI b) = some (if person a = person b ∧ place a ≠ place b ∧ from_ a ≤ to_ b ∧ from_ b ≤ to_ a then 1 else 0) := clash_ok ha hb
theorem clashP.symm {person place from_ to_ : Nat → Int32} {a b : Nat} (h : clashP person place from_ to_ a b) : clashP person place from_ to_ b a := ⟨h.1.symm, fun e => h.2.1 e.symm, h.2.2.2, h.2.2.1⟩
theorem clashP.upd {person place from_ to_ : Nat → Int32} {a b n : Nat} {x1 x2 x3 x4 : Int32} (ha : a ≠ n) (hb : b ≠ n) : clashP (upd person n x1) (upd place n x2) (upd from_ n x3) (upd to_ n x4) a b ↔ clashP person place from_ to_ a b := by
  unfold clashP
  rw [upd_at, upd_at, upd_at, upd_at, upd_at, upd_at, upd_at, upd_at, if_neg ha, if_neg ha, if_neg ha, if_neg ha, if_neg hb, if_neg hb, if_neg hb, if_neg hb]
def agP (ny : Nat) (person place from_ to_ : Nat → Int32) (i : Nat) (ag : Nat → Int32) : Prop := ∀ m, m < ny + 1 → ∃ k : Nat, k < 1024 ∧ ag m = nI k ∧ ∀ j, k.testBit j = true ↔ j < ny + 1 ∧ m ≠ j ∧ clashP person place from_ to_ m j ∧ (m = ny → j < i) ∧ (j = ny → m < i)
theorem tale_add {ny : Nat} (hny : ny < 10) {person place from_ to_ against : Nat → Int32} (hA : ∀ i, i < ny → ∃ k : Nat, k < 1024 ∧ against i = nI k ∧ ∀ j, k.testBit j = true ↔ j < ny ∧ i ≠ j ∧ clashP person place from_ to_ i j) (x1 x2 x3 x4 : Int32) :
    Ok (t_X9_add (nI ny) against from_ person place to_ x1 x2 x3 x4) (fun u => u.1 = nI ny ∧ u.2.1 = nI (ny + 1) ∧ u.2.2.2 = (upd from_ ny x3, upd person ny x1, upd place ny x2, upd to_ ny x4) ∧ agP ny (upd person ny x1) (upd place ny x2) (upd from_ ny x3) (upd to_ ny x4) ny u.2.2.1) := by
  unfold t_X9_add
  rw [nI_clamp (show ny < 2 ^ 31 by omega)]
  have hin := nI_in (c := ny) (N := 10) hny (by decide)
  rw [nI_clamp (show ny < 2 ^ 31 by omega)] at hin
  refine Ok.ck hin (Ok.ck hin (Ok.ck hin (Ok.ck hin (Ok.ck hin ?_))))
  refine lr_X9_add_54 _ (fun i c ag fr pe pl to x5 => c = nI ny ∧ fr = upd from_ ny x3 ∧ pe = upd person ny x1 ∧ pl = upd place ny x2 ∧ to = upd to_ ny x4 ∧ x5 = nI i ∧ agP ny (upd person ny x1) (upd place ny x2) (upd from_ ny x3) (upd to_ ny x4) i ag) ny ?_ ?_ lfuel 0 _ _ _ _ _ _ _ (Nat.zero_le _) (by unfold lfuel; omega) ?_
  · rintro kk i c ag fr pe pl to x5 hi ⟨d1, d2, d3, d4, d5, d6, d7⟩ hk
    subst d1 d2 d3 d4 d5 d6
    unfold t_X9_add_54_b t_X9_add_108
    refine Ok.neg (fun h => by have := (nI_leI (a := ny) (b := i) (by omega) (by omega)).mp h; omega) ?_
    rw [clash_ok (by omega) hny, bd1_s, bz]
    have hii := nI_in (c := i) (N := 10) (by omega) (by decide)
    have hnn := nI_in (c := ny) (N := 10) hny (by decide)
    refine Ok.ite (fun hc => Ok.ck hii (Ok.ck hii (Ok.ck hnn (Ok.ck hnn (hk _ _ _ _ _ _ _ ⟨rfl, rfl, rfl, rfl, rfl, nI_1 i, ?_⟩))))) (fun hc => hk _ _ _ _ _ _ _ ⟨rfl, rfl, rfl, rfl, rfl, nI_1 i, ?_⟩)
    · rw [nI_clamp (show ny < 2 ^ 31 by omega), nI_clamp (show i < 2 ^ 31 by omega), sh1 (by omega), sh1 (by omega)]
      intro m hm
      obtain ⟨k, k1, k2, k3⟩ := d7 m hm
      by_cases e1 : m = ny
      · subst e1
        refine ⟨k ||| 2 ^ i, or_lt (k := 10) k1 (bit_lt (by omega)), ?_, ?_⟩
        · rw [upd_at, if_pos rfl, upd_at, if_neg (by omega), k2, fa_or]
        · intro j
          rw [bit_or, Bool.or_eq_true, k3, decide_eq_true_eq]
          constructor
          · rintro (⟨a1, a2, a3, a4, a5⟩ | rfl)
            · exact ⟨a1, a2, a3, fun _ => by have := a4 rfl; omega, fun e => by have := a4 rfl; omega⟩
            · exact ⟨by omega, by omega, clashP.symm hc, fun _ => by omega, fun e => by omega⟩
          · rintro ⟨a1, a2, a3, a4, a5⟩
            by_cases e : i = j
            · exact Or.inr e
            · exact Or.inl ⟨a1, a2, a3, fun _ => by have := a4 rfl; omega, fun e => by omega⟩
      · by_cases e2 : m = i
        · subst e2
          refine ⟨k ||| 2 ^ ny, or_lt (k := 10) k1 (bit_lt (by omega)), ?_, ?_⟩
          · rw [upd_at, if_neg e1, upd_at, if_pos rfl, k2, fa_or]
          · intro j
            rw [bit_or, Bool.or_eq_true, k3, decide_eq_true_eq]
            constructor
            · rintro (⟨a1, a2, a3, a4, a5⟩ | rfl)
              · exact ⟨a1, a2, a3, fun e => by omega, fun e => by omega⟩
              · exact ⟨by omega, by omega, hc, fun e => by omega, fun e => by omega⟩
            · rintro ⟨a1, a2, a3, a4, a5⟩
              by_cases e : ny = j
              · exact Or.inr e
              · exact Or.inl ⟨a1, a2, a3, fun e => by omega, fun e => by omega⟩
        · refine ⟨k, k1, by rw [upd_at, if_neg e1, upd_at, if_neg e2, k2], ?_⟩
          intro j
          rw [k3]
          constructor
          · rintro ⟨a1, a2, a3, a4, a5⟩
            exact ⟨a1, a2, a3, fun e => by omega, fun e => by have := a5 e; omega⟩
          · rintro ⟨a1, a2, a3, a4, a5⟩
            exact ⟨a1, a2, a3, fun e => by omega, fun e => by have := a5 e; omega⟩
    · intro m hm
      obtain ⟨k, k1, k2, k3⟩ := d7 m hm
      refine ⟨k, k1, k2, ?_⟩
      intro j
      rw [k3]
      constructor
      · rintro ⟨a1, a2, a3, a4, a5⟩
        exact ⟨a1, a2, a3, fun e => by have := a4 e; omega, fun e => by have := a5 e; omega⟩
      · rintro ⟨a1, a2, a3, a4, a5⟩
        refine ⟨a1, a2, a3, fun e => ?_, fun e => ?_⟩
        · have h1 := a4 e
          by_cases e2 : j = i
          · subst e e2; exact absurd a3.symm hc
          · omega
        · have h1 := a5 e
          by_cases e2 : m = i
          · subst e e2; exact absurd a3 hc
          · omega
  · rintro kk c ag fr pe pl to x5 ⟨d1, d2, d3, d4, d5, d6, d7⟩
    subst d1 d2 d3 d4 d5 d6
    unfold t_X9_add_54_b t_X9_add_114
    refine Ok.pos (nI_le (Nat.le_refl _) (by omega)) (Ok.ret ⟨?_, nI_1 ny, rfl, d7⟩)
    rw [nI_1, nI_pp]
  · refine ⟨rfl, rfl, rfl, rfl, rfl, rfl, ?_⟩
    intro m hm
    by_cases e1 : m = ny
    · refine ⟨0, by decide, by rw [upd_at, if_pos e1]; rfl, ?_⟩
      intro j
      rw [Nat.zero_testBit]
      constructor
      · intro h; cases h
      · rintro ⟨a1, a2, a3, a4, a5⟩; have := a4 e1; omega
    · obtain ⟨k, k1, k2, k3⟩ := hA m (by omega)
      refine ⟨k, k1, by rw [upd_at, if_neg e1, k2], ?_⟩
      intro j
      rw [k3]
      constructor
      · rintro ⟨a1, a2, a3⟩
        exact ⟨by omega, a2, (clashP.upd e1 (by omega)).mpr a3, fun e => absurd e e1, fun e => by omega⟩
      · rintro ⟨a1, a2, a3, a4, a5⟩
        have : j ≠ ny := fun e => by have := a5 e; omega
        exact ⟨by omega, a2, (clashP.upd e1 this).mp a3⟩
theorem agP.full {ny : Nat} {person place from_ to_ ag : Nat → Int32} (h : agP ny person place from_ to_ ny ag) : ∀ i, i < ny + 1 → ∃ k : Nat, k < 1024 ∧ ag i = nI k ∧ ∀ j, k.testBit j = true ↔ j < ny + 1 ∧ i ≠ j ∧ clashP person place from_ to_ i j := by
  intro m hm
  obtain ⟨k, k1, k2, k3⟩ := h m hm
  refine ⟨k, k1, k2, ?_⟩
  intro j
  rw [k3]
  constructor
  · rintro ⟨a1, a2, a3, a4, a5⟩; exact ⟨a1, a2, a3⟩
  · rintro ⟨a1, a2, a3⟩; exact ⟨a1, a2, a3, fun e => by omega, fun e => by omega⟩
