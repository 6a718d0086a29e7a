-- what a held text says of facts
def dv (h : Nat → Int32) (a : Nat) : Nat → Int32
  | 0 => 0
  | k + 1 => (dv h a k * 10 + h (a + k)) - 48
def rl (h : Nat → Int32) (nh a : Nat) : Nat := fa_first (fun j => !decide (48 ≤ h (a + j) ∧ h (a + j) ≤ 57)) (nh - a)
theorem rl_le (h : Nat → Int32) {nh a : Nat} (ha : a ≤ nh) : a + rl h nh a ≤ nh := by
  have := fa_first_le (fun j => !decide (48 ≤ h (a + j) ∧ h (a + j) ≤ 57)) (nh - a)
  unfold rl
  omega
theorem rl_in {h : Nat → Int32} {nh a j : Nat} (hj : j < rl h nh a) : 48 ≤ h (a + j) ∧ h (a + j) ≤ 57 := by
  have := fa_first_no (fun j => !decide (48 ≤ h (a + j) ∧ h (a + j) ≤ 57)) (nh - a) j hj
  simpa using this
theorem rl_out {h : Nat → Int32} {nh a : Nat} (hj : a + rl h nh a < nh) : ¬ (48 ≤ h (a + rl h nh a) ∧ h (a + rl h nh a) ≤ 57) := by
  have := fa_first_yes (fun j => !decide (48 ≤ h (a + j) ∧ h (a + j) ≤ 57)) (nh - a) (by unfold rl at hj; omega)
  intro q
  have q2 : decide (48 ≤ h (a + rl h nh a) ∧ h (a + rl h nh a) ≤ 57) = true := decide_eq_true q
  unfold rl at q2
  rw [q2] at this
  cases this
def cmpP (r f v : Int32) : Prop := (r = 60 ∧ f < v) ∨ (r ≠ 60 ∧ v < f)
theorem fits_ok {nh k : Nat} (hnh : nh ≤ 40) (hk : k < nh) (h : Nat → Int32) (f : Int32) : Ok (t_X1_fits (nI nh) h f (nI k)) (fun u => Bz u (cmpP (h k) f (dv h (k + 1) (rl h nh (k + 1))))) := by
  unfold t_X1_fits
  have hle := rl_le h (a := k + 1) (nh := nh) (by omega)
  refine Ok.pos (nI_lt hk (by omega)) ?_
  rw [nI_1]
  have fin : ∀ v, v = dv h (k + 1) (rl h nh (k + 1)) → Ok (t_X1_fits_61 (nI nh) h f (nI k) v) (fun u => Bz u (cmpP (h k) f (dv h (k + 1) (rl h nh (k + 1))))) := by
    intro v hv
    unfold t_X1_fits_61 t_X1_fits_95
    rw [nI_clamp (by omega), ckn_m (by omega) (by decide), ckn_f (by decide), ckn_f (by decide), hv]
    refine Ok.ite (fun c => Ok.ite (fun c2 => Ok.ret (Bz.f ?_)) (fun c2 => Ok.ret (Bz.t (Or.inl ⟨c, fa_of_nle c2⟩)))) (fun c => Ok.ite (fun c2 => Ok.ret (Bz.f ?_)) (fun c2 => Ok.ret (Bz.t (Or.inr ⟨c, fa_of_nle c2⟩))))
    · rintro (q | q)
      · have := q.2; rw [i_lt] at this; rw [i_le] at c2; omega
      · exact q.1 c
    · rintro (q | q)
      · exact c q.1
      · have := q.2; rw [i_lt] at this; rw [i_le] at c2; omega
  refine lr_X1_fits_17 _ (fun j hc hd x1 x2 x3 x4 => nI nh = hc ∧ h = hd ∧ f = x1 ∧ x2 = nI k ∧ x3 = dv h (k + 1) j ∧ x4 = nI (k + 1 + j)) (rl h nh (k + 1)) ?_ ?_ lfuel 0 _ _ _ _ _ _ (Nat.zero_le _) (by unfold lfuel; omega) ?_
  · rintro kk j hc hd x1 x2 x3 x4 hj ⟨d1, d2, d3, d4, d5, d6⟩ hk2
    subst d1 d2 d3 d4 d5 d6
    unfold t_X1_fits_17_b
    rw [nI_clamp (by omega), ckn_m (by omega) (by decide), dig_ok, bd1_s, bz, ckn_m (by omega) (by decide)]
    refine Ok.neg (nI_ge (by omega) (by omega)) (Ok.pos (rl_in hj) ?_)
    apply hk2
    exact ⟨rfl, rfl, rfl, rfl, rfl, by rw [nI_1]; rfl⟩
  · rintro kk hc hd x1 x2 x3 x4 ⟨d1, d2, d3, d4, d5, d6⟩
    subst d1 d2 d3 d4 d5 d6
    unfold t_X1_fits_17_b
    by_cases c : nh ≤ k + 1 + rl h nh (k + 1)
    · exact Ok.pos (nI_le c (by omega)) (fin _ rfl)
    · rw [nI_clamp (by omega), ckn_m (by omega) (by decide), dig_ok, bd1_s, bz]
      exact Ok.neg (nI_ge (by omega) (by omega)) (Ok.neg (rl_out (by omega)) (fin _ rfl))
  · exact ⟨rfl, rfl, rfl, rfl, rfl, rfl⟩
def fi (x : Int32) : Nat := if x = 103 then 0 else if x = 104 then 1 else if x = 120 then 2 else if x = 114 then 3 else 4
theorem fi_ok {x : Int32} (h : isF x) : fi x < 5 ∧ t_X1_factBy x = some (nI (fi x)) ∧ t_X11_factAt x = some (nI (fi x + 1)) := by
  rcases h with rfl | rfl | rfl | rfl | rfl
  · exact ⟨by decide, rfl, rfl⟩
  · exact ⟨by decide, rfl, rfl⟩
  · exact ⟨by decide, rfl, rfl⟩
  · exact ⟨by decide, rfl, rfl⟩
  · exact ⟨by decide, rfl, rfl⟩
theorem fi_no {x : Int32} (h : ¬ isF x) : t_X1_factBy x = some (-1) := by
  obtain ⟨k, e, _, h2⟩ := factBy_ok x
  rw [e, (h2 h).1]
def AtP (F h : Nat → Int32) (nh k : Nat) : Prop := cmpP (h (k + 1)) (F (fi (h k))) (dv h (k + 1 + 1) (rl h nh (k + 1 + 1)))
def alA (F h : Nat → Int32) (nh i : Nat) : Prop := ∀ k, k < i → isF (h k) → (∀ b, k ≤ b → b < i → h b ≠ 124) → AtP F h nh k
def anA (F h : Nat → Int32) (nh i : Nat) : Prop := ∃ b, b < i ∧ h b = 124 ∧ alA F h nh b
def TT (F h : Nat → Int32) (nh : Nat) : Prop := 0 < nh ∧ (anA F h nh nh ∨ alA F h nh nh)
theorem isF_b {x : Int32} (h : isF x) : x ≠ 124 := by
  rcases h with rfl | rfl | rfl | rfl | rfl <;> decide
theorem alA_0 {F h : Nat → Int32} {nh : Nat} : alA F h nh 0 := fun k hk => absurd hk (Nat.not_lt_zero k)
theorem anA_0 {F h : Nat → Int32} {nh : Nat} : ¬ anA F h nh 0 := fun ⟨b, hb, _⟩ => absurd hb (Nat.not_lt_zero b)
theorem alA_l {F h : Nat → Int32} {nh i : Nat} (hl : isF (h i)) : alA F h nh (i + 1) ↔ alA F h nh i ∧ AtP F h nh i := by
  constructor
  · intro q
    refine ⟨fun k hk hf hb => q k (by omega) hf (fun b h1 h2 => ?_), q i (by omega) hl (fun b h1 h2 => ?_)⟩
    · by_cases e : b = i
      · rw [e]; exact isF_b hl
      · exact hb b h1 (by omega)
    · have : b = i := by omega
      rw [this]; exact isF_b hl
  · rintro ⟨q1, q2⟩ k hk hf hb
    by_cases e : k = i
    · rw [e]; exact q2
    · exact q1 k (by omega) hf (fun b h1 h2 => hb b h1 (by omega))
theorem alA_b {F h : Nat → Int32} {nh i : Nat} (hl : h i = 124) : alA F h nh (i + 1) := fun k hk _ hb => absurd hl (hb i (by omega) (by omega))
theorem alA_o {F h : Nat → Int32} {nh i : Nat} (hl : ¬ isF (h i)) (hb : h i ≠ 124) : alA F h nh (i + 1) ↔ alA F h nh i := by
  constructor
  · intro q k hk hf hb2
    refine q k (by omega) hf (fun b h1 h2 => ?_)
    by_cases e : b = i
    · rw [e]; exact hb
    · exact hb2 b h1 (by omega)
  · intro q k hk hf hb2
    by_cases e : k = i
    · rw [e] at hf; exact absurd hf hl
    · exact q k (by omega) hf (fun b h1 h2 => hb2 b h1 (by omega))
theorem anA_b {F h : Nat → Int32} {nh i : Nat} (hl : h i = 124) : anA F h nh (i + 1) ↔ anA F h nh i ∨ alA F h nh i := by
  constructor
  · rintro ⟨b, h1, h2, h3⟩
    by_cases e : b = i
    · rw [e] at h3; exact Or.inr h3
    · exact Or.inl ⟨b, by omega, h2, h3⟩
  · rintro (⟨b, h1, h2, h3⟩ | q)
    · exact ⟨b, by omega, h2, h3⟩
    · exact ⟨i, by omega, hl, q⟩
theorem anA_o {F h : Nat → Int32} {nh i : Nat} (hl : h i ≠ 124) : anA F h nh (i + 1) ↔ anA F h nh i := by
  constructor
  · rintro ⟨b, h1, h2, h3⟩
    by_cases e : b = i
    · rw [e] at h2; exact absurd h2 hl
    · exact ⟨b, by omega, h2, h3⟩
  · rintro ⟨b, h1, h2, h3⟩
    exact ⟨b, by omega, h2, h3⟩
theorem run_o {F h : Nat → Int32} {nh a : Nat} : ∀ {b : Nat}, a ≤ b → (∀ j, a ≤ j → j < b → ¬ isF (h j) ∧ h j ≠ 124) → (alA F h nh b ↔ alA F h nh a) ∧ (anA F h nh b ↔ anA F h nh a)
  | 0, hab, _ => by
    have : a = 0 := by omega
    subst this
    exact ⟨Iff.rfl, Iff.rfl⟩
  | b + 1, hab, hj => by
    by_cases e : a = b + 1
    · subst e; exact ⟨Iff.rfl, Iff.rfl⟩
    · have ih := run_o (F := F) (h := h) (nh := nh) (a := a) (b := b) (by omega) (fun j h1 h2 => hj j h1 (by omega))
      have := hj b (by omega) (by omega)
      exact ⟨(alA_o this.1 this.2).trans ih.1, (anA_o this.2).trans ih.2⟩
-- the text is well formed
theorem tx_pre {h : Nat → Int32} {nh : Nat} (ht : textOk h nh) : ∀ d k, k + d = nh → ∃ s, autoN h k = some s
  | 0, k, e => by
    have : k = nh := by omega
    subst this
    obtain ⟨s, h1, _⟩ := ht
    exact ⟨s, h1⟩
  | d + 1, k, e => by
    obtain ⟨s, hs⟩ := tx_pre ht d (k + 1) (by omega)
    rw [autoN] at hs
    cases e2 : autoN h k with
    | none => rw [e2] at hs; cases hs
    | some s2 => exact ⟨s2, rfl⟩
theorem tx_st {h : Nat → Int32} {nh k : Nat} (ht : textOk h nh) (hk : k < nh) {s : Nat} (hs : autoN h k = some s) : ∃ s', auto s (h k) = some s' ∧ autoN h (k + 1) = some s' := by
  obtain ⟨s', hs'⟩ := tx_pre ht (nh - (k + 1)) (k + 1) (by omega)
  refine ⟨s', ?_, hs'⟩
  rw [autoN, hs] at hs'
  exact hs'
theorem tx_end {h : Nat → Int32} {nh s : Nat} (ht : textOk h nh) (hs : autoN h nh = some s) : 3 ≤ s := by
  obtain ⟨s2, h1, h2⟩ := ht
  rw [h1] at hs
  cases hs
  exact h2
theorem dg_f {x : Int32} (h : 48 ≤ x ∧ x ≤ 57) : ¬ isF x ∧ x ≠ 124 := by
  constructor
  · rintro (rfl | rfl | rfl | rfl | rfl) <;> exact absurd h (by decide)
  · rintro rfl; exact absurd h (by decide)
theorem tx_0 {h : Nat → Int32} {nh k : Nat} (ht : textOk h nh) (hk : k < nh) (hs : autoN h k = some 0) : isF (h k) ∧ k + 1 < nh ∧ (h (k + 1) = 60 ∨ h (k + 1) = 62) ∧ autoN h (k + 1 + 1) = some 2 := by
  obtain ⟨s1, h1, h2⟩ := tx_st ht hk hs
  rw [auto0] at h1
  by_cases c : h k = 103 ∨ h k = 104 ∨ h k = 120 ∨ h k = 114 ∨ h k = 110
  · rw [if_pos c] at h1
    cases h1
    have hk1 : k + 1 < nh := by
      apply Classical.byContradiction
      intro q
      have : k + 1 = nh := by omega
      rw [this] at h2
      have := tx_end ht h2
      omega
    obtain ⟨s2, h3, h4⟩ := tx_st ht hk1 h2
    rw [auto1] at h3
    by_cases c2 : h (k + 1) = 60 ∨ h (k + 1) = 62
    · rw [if_pos c2] at h3
      cases h3
      exact ⟨c, hk1, c2, h4⟩
    · rw [if_neg c2] at h3; cases h3
  · rw [if_neg c] at h1; cases h1
theorem tx_l {h : Nat → Int32} {nh k : Nat} (ht : textOk h nh) (hk : k < nh) (hl : isF (h k)) : autoN h k = some 0 := by
  obtain ⟨s, hs⟩ := tx_pre ht (nh - k) k (by omega)
  obtain ⟨s1, h1, h2⟩ := tx_st ht hk hs
  by_cases c0 : s = 0
  · rw [hs, c0]
  · exfalso
    by_cases c1 : s = 1
    · subst c1
      rw [auto1, if_neg (by rcases hl with e | e | e | e | e <;> rw [e] <;> decide)] at h1
      cases h1
    · rw [auto2 (by omega), if_neg (fun q => (dg_f q).1 hl), if_neg (fun q => by
        have := q.2
        rcases hl with e | e | e | e | e <;> rw [e] at this <;> exact absurd this (by decide))] at h1
      cases h1
theorem tx_run {h : Nat → Int32} {nh k : Nat} (ht : textOk h nh) (hs : autoN h k = some 2) (hk : k ≤ nh) : ∀ j, j ≤ rl h nh k → autoN h (k + j) = some (2 + j)
  | 0, _ => hs
  | j + 1, hj => by
    have ih := tx_run ht hs hk j (by omega)
    have hle := rl_le h hk
    obtain ⟨s1, h1, h2⟩ := tx_st ht (show k + j < nh by omega) ih
    rw [auto2 (by omega), if_pos (rl_in (show j < rl h nh k by omega))] at h1
    by_cases c : 2 + j < 5
    · rw [if_pos c] at h1
      cases h1
      rw [← Nat.add_assoc, h2]
      congr 1
    · rw [if_neg c] at h1; cases h1
theorem tx_sep {h : Nat → Int32} {nh k : Nat} (ht : textOk h nh) (hs : autoN h k = some 2) (hk : k ≤ nh) (hlt : k + rl h nh k < nh) : (h (k + rl h nh k) = 38 ∨ h (k + rl h nh k) = 124) ∧ autoN h (k + rl h nh k + 1) = some 0 := by
  obtain ⟨s1, h1, h2⟩ := tx_st ht hlt (tx_run ht hs hk _ (Nat.le_refl _))
  rw [auto2 (by omega), if_neg (rl_out hlt)] at h1
  by_cases c : 3 ≤ 2 + rl h nh k ∧ (h (k + rl h nh k) = 38 ∨ h (k + rl h nh k) = 124)
  · rw [if_pos c] at h1
    cases h1
    exact ⟨c.2, h2⟩
  · rw [if_neg c] at h1; cases h1
theorem grants_ok {nh : Nat} (hnh : nh ≤ 40) {h facts F : Nat → Int32} (hF : ∀ j, j < 5 → facts j = F j) (ht : nh = 0 ∨ textOk h nh) : Ok (t_X1_grants 5 (nI nh) facts h) (fun u => Bz u (TT F h nh)) := by
  unfold t_X1_grants t_X1_grants_12
  by_cases h0 : nh = 0
  · subst h0
    refine Ok.pos (by decide) ?_
    refine lr_X1_grants_15 _ (fun i hc p1 hd x2 x3 => nI 0 = hc ∧ x2 = 0 ∧ x3 = nI i) 0 ?_ ?_ lfuel 0 _ _ _ _ _ (Nat.zero_le _) (by unfold lfuel; omega) ?_
    · rintro kk i hc p1 hd x2 x3 hi
      exact absurd hi (Nat.not_lt_zero i)
    · rintro kk hc p1 hd x2 x3 ⟨d1, d2, d3⟩
      subst d1 d2 d3
      unfold t_X1_grants_15_b
      exact Ok.pos (by decide) (Ok.ck (by decide) (Ok.ret (Bz.f (fun q => absurd q.1 (Nat.lt_irrefl 0)))))
    · exact ⟨rfl, rfl, rfl⟩
  · have ht : textOk h nh := by
      rcases ht with q | q
      · exact absurd q h0
      · exact q
    refine Ok.neg (nI_nle (by omega) (by omega)) ?_
    refine lr_X1_grants_15 _ (fun i hc p1 hd x2 x3 => nI nh = hc ∧ facts = p1 ∧ h = hd ∧ x3 = nI i ∧ Bz x2 (alA F h nh i) ∧ ¬ anA F h nh i) nh ?_ ?_ lfuel 0 _ _ _ _ _ (Nat.zero_le _) (by unfold lfuel; omega) ?_
    · rintro kk i hc p1 hd x2 x3 hi ⟨d1, d2, d3, d4, d5, d6⟩ hk
      subst d1 d2 d3 d4
      unfold t_X1_grants_15_b
      rw [nI_clamp (by omega), ckn_m (by omega) (by decide)]
      refine Ok.neg (nI_ge hi (by omega)) ?_
      by_cases hl : isF (h i)
      · obtain ⟨f1, f2, f3⟩ := fi_ok hl
        have h00 := tx_l ht hi hl
        obtain ⟨t1, t2, t3, t4⟩ := tx_0 ht hi h00
        rw [f2, bd1_s]
        unfold t_X1_grants_68 t_X1_grants_69 t_X1_grants_92
        have na : ¬ anA F h nh (i + 1) := fun q => d6 ((anA_o (isF_b hl)).mp q)
        refine Ok.neg (nI_pos (by omega)) (Ok.neg (nI_ge (b := 5) f1 (by decide)) (Ok.ite (fun c => ?_) (fun c => ?_)))
        · apply hk
          exact ⟨rfl, rfl, rfl, nI_1 i, Bz.f (fun q => d5.z.mp c ((alA_l hl).mp q).1), na⟩
        · rw [nI_clamp (by omega), ckn_m f1 (by decide), nI_1, hF _ f1]
          have ha := Classical.not_not.mp (fun q => c (d5.z.mpr q))
          refine Ok.bd1 (fits_ok hnh t2 h (F (fi (h i)))) (fun v hv => Ok.ite (fun c2 => ?_) (fun c2 => ?_))
          · apply hk
            exact ⟨rfl, rfl, rfl, rfl, Bz.f (fun q => hv.z.mp c2 ((alA_l hl).mp q).2), na⟩
          · apply hk
            exact ⟨rfl, rfl, rfl, rfl, Bz.t ((alA_l hl).mpr ⟨ha, Classical.not_not.mp (fun q => c2 (hv.z.mpr q))⟩), na⟩
      · rw [fi_no hl, bd1_s]
        unfold t_X1_grants_73 t_X1_grants_92
        rw [nI_clamp (by omega), ckn_m (by omega) (by decide)]
        refine Ok.pos (by decide) (Ok.ite (fun c => Ok.ite (fun c2 => ?_) (fun c2 => ?_)) (fun c => ?_))
        · apply hk
          refine ⟨rfl, rfl, rfl, nI_1 i, Bz.t (alA_b c), fun q => ?_⟩
          rcases (anA_b c).mp q with q | q
          · exact d6 q
          · exact d5.z.mp c2 q
        · have ha := Classical.not_not.mp (fun q => c2 (d5.z.mpr q))
          exact Ok.ret (Bz.t ⟨by omega, Or.inl ⟨i, hi, c, ha⟩⟩)
        · apply hk
          exact ⟨rfl, rfl, rfl, nI_1 i, d5.iff (alA_o hl c).symm, fun q => d6 ((anA_o c).mp q)⟩
    · rintro kk hc p1 hd x2 x3 ⟨d1, d2, d3, d4, d5, d6⟩
      subst d1 d2 d3 d4
      unfold t_X1_grants_15_b
      exact Ok.pos (nI_le (Nat.le_refl _) (by omega)) (Ok.ck d5.b (Ok.ret (d5.iff ⟨fun q => ⟨by omega, Or.inr q⟩, fun q => q.2.elim (fun w => absurd w d6) id⟩)))
    · exact ⟨rfl, rfl, rfl, rfl, Bz.t alA_0, anA_0⟩
