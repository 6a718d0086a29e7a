-- needs 36 37 41
-- sums of the first so many
def sm (f : Nat → Nat) : Nat → Nat
  | 0 => 0
  | k + 1 => sm f k + f k
theorem sm_le {f g : Nat → Nat} : ∀ {k : Nat}, (∀ j, j < k → f j ≤ g j) → sm f k ≤ sm g k
  | 0, _ => Nat.le_refl _
  | k + 1, h => Nat.add_le_add (sm_le (fun j hj => h j (by omega))) (h k (by omega))
theorem sm_cong {f g : Nat → Nat} : ∀ {k : Nat}, (∀ j, j < k → f j = g j) → sm f k = sm g k
  | 0, _ => rfl
  | k + 1, h => by rw [sm, sm, sm_cong (fun j hj => h j (by omega)), h k (by omega)]
theorem updL_at {f : Nat → Int64} {k j : Nat} {v : Int64} : vp_updL f k v j = if j = k then v else f j := rfl
-- chances
theorem chance_p (c : Int32) : ∃ p : Nat, 1 ≤ p ∧ p ≤ 45 ∧ (if 1 < (if c < 45 then c else 45) then (if c < 45 then c else 45) else 1) = nI p ∧ (if 1 ≤ c then (if c ≤ 45 then c else 45) else 1) = nI p := by
  have e1 : (1 : Int32).toInt = 1 := rfl
  have e45 : (45 : Int32).toInt = 45 := rfl
  by_cases h1 : 1 ≤ c
  · by_cases h2 : c ≤ 45
    · obtain ⟨k, k1, k2, rfl⟩ : ∃ k : Nat, 1 ≤ k ∧ k ≤ 45 ∧ c = nI k := rgp 1 45 rfl rfl ⟨h1, h2⟩
      refine ⟨k, k1, k2, ?_, by rw [if_pos h1, if_pos h2]⟩
      by_cases h3 : k = 45
      · subst h3; decide
      · have h4 : nI k < 45 := nI_lt (b := 45) (by omega) (by decide)
        rw [if_pos h4]
        by_cases h5 : k = 1
        · subst h5; decide
        · rw [if_pos (show (1 : Int32) < nI k from nI_lt (a := 1) (by omega) (by omega))]
    · refine ⟨45, by decide, by decide, ?_, by rw [if_pos h1, if_neg h2]; rfl⟩
      rw [if_neg (show ¬ c < 45 from fun h => h2 (by rw [i_le]; rw [i_lt] at h; omega))]; decide
  · refine ⟨1, by decide, by decide, ?_, by rw [if_neg h1]; rfl⟩
    have h2 : c < 45 := by rw [i_lt]; rw [i_le] at h1; omega
    rw [if_pos h2, if_neg (fun h => h1 (by rw [i_le]; rw [i_lt] at h; omega))]
    rfl
theorem chance_ok {base : Int32} {skills told : Nat → Int32} (h0 : told 0 = base) {a b : Nat} (ha : a < 8) (hb : b < 8) : ∃ p : Nat, 1 ≤ p ∧ p ≤ 45 ∧ t_X2_chanceOf base skills (nI a) (nI b) = some (nI p) ∧ t_X11_chance skills told (nI a) (nI b) = some (nI p) := by
  obtain ⟨p, p1, p2, p3, p4⟩ := chance_p (base + (skills a - skills b) / 4)
  refine ⟨p, p1, p2, ?_, ?_⟩
  · unfold t_X2_chanceOf
    rw [ckn_n ha (by decide), ckn_n hb (by decide), nI_clamp (by omega), nI_clamp (by omega), p3]
  · unfold t_X11_chance t_X11_chance_44
    rw [ckn_n ha (by decide), ckn_n hb (by decide), ckn_f (by decide), nI_clamp (by omega), nI_clamp (by omega), show (0 : Int32).toNatClampNeg = 0 from rfl, h0, ← p4]
    by_cases h1 : 1 ≤ base + (skills a - skills b) / 4
    · rw [if_pos h1, if_pos h1]
      by_cases h2 : base + (skills a - skills b) / 4 ≤ 45
      · rw [if_pos h2, if_pos h2]
      · rw [if_neg h2, if_neg h2]
    · rw [if_neg h1, if_neg h1]
-- ways to a lead
def wy (p q : Nat) : Nat → Nat → Nat
  | 0, d => if d = 6 then 1 else 0
  | i + 1, d => (if d = 0 then 0 else wy p q i (d - 1)) * p + wy p q i d * (100 - p - q) + (if d = 12 then 0 else wy p q i (d + 1)) * q
theorem wy_sum {p q : Nat} (hp : p ≤ 45) (hq : q ≤ 45) : ∀ i, sm (wy p q i) 13 ≤ 100 ^ i
  | 0 => by simp [sm, wy]
  | i + 1 => by
    have ih := wy_sum hp hq i
    obtain ⟨r, hr⟩ : ∃ r, r = 100 - p - q := ⟨_, rfl⟩
    have key : ∀ a, a * p + a * r + a * q = a * 100 := by
      intro a
      rw [← Nat.mul_add, ← Nat.mul_add, show p + r + q = 100 by omega]
    have st : sm (wy p q (i + 1)) 13 ≤ sm (wy p q i) 13 * 100 := by
      simp only [sm, wy, ← hr]
      simp only [Nat.add_one_ne_zero, ↓reduceIte, Nat.zero_add, Nat.reduceAdd, Nat.reduceSub, Nat.reduceEqDiff, Nat.zero_mul, Nat.add_zero, show (0 : Nat) = 12 ↔ False by decide, show (1 : Nat) = 12 ↔ False by decide, show (2 : Nat) = 12 ↔ False by decide, show (3 : Nat) = 12 ↔ False by decide]
      have k0 := key (wy p q i 0)
      have k1 := key (wy p q i 1)
      have k2 := key (wy p q i 2)
      have k3 := key (wy p q i 3)
      have k4 := key (wy p q i 4)
      have k5 := key (wy p q i 5)
      have k6 := key (wy p q i 6)
      have k7 := key (wy p q i 7)
      have k8 := key (wy p q i 8)
      have k9 := key (wy p q i 9)
      have k10 := key (wy p q i 10)
      have k11 := key (wy p q i 11)
      have k12 := key (wy p q i 12)
      omega
    rw [Nat.pow_succ]
    exact Nat.le_trans st (Nat.mul_le_mul_right 100 ih)
def isW (f : Nat → Int64) (w : Nat → Nat) : Prop := ∀ d, d < 13 → f d = lN (w d)
theorem h100 {p q : Nat} (hp : p ≤ 45) (hq : q ≤ 45) : (100 : Int32) - nI p - nI q = nI (100 - p - q) := by
  rw [show (100 : Int32) = nI 100 from rfl, pk_sub (by omega), pk_sub (by omega)]
theorem play1_ok {p q i : Nat} (hp : p ≤ 45) (hq : q ≤ 45) {f : Nat → Int64} (hf : isW f (wy p q i)) : Ok (t_X4_playQuarter f (nI p) (nI q)) (fun g => isW g (wy p q (i + 1))) := by
  unfold t_X4_playQuarter
  rw [h100 hp hq]
  refine lr_X4_playQuarter_13 _ (fun j c x1 x2 x3 x4 x6 => x1 = nI p ∧ x2 = nI q ∧ x3 = nI (100 - p - q) ∧ x4 = lN (if j = 0 then 0 else wy p q i (j - 1)) ∧ x6 = nI j ∧ isW c (fun d => if d < j then wy p q (i + 1) d else wy p q i d)) 13 ?_ ?_ lfuel 0 _ _ _ _ _ _ (Nat.zero_le _) (by unfold lfuel; omega) ?_
  · rintro kk j c x1 x2 x3 x4 x6 hj ⟨d1, d2, d3, d4, d5, d6⟩ hk
    subst d1 d2 d3 d4 d5
    unfold t_X4_playQuarter_13_b t_X4_playQuarter_57
    have hin := nI_in (c := j) (N := 13) hj (by decide)
    have hh : c j = lN (wy p q i j) := by rw [d6 j hj]; simp only [Nat.lt_irrefl, if_false]
    have fin : ∀ ab : Nat, ab = (if j = 12 then 0 else wy p q i (j + 1)) → isW (vp_updL c j (lN (if j = 0 then 0 else wy p q i (j - 1)) * lN p + lN (wy p q i j) * lN (100 - p - q) + lN ab * lN q)) (fun d => if d < j + 1 then wy p q (i + 1) d else wy p q i d) := by
      intro ab hab d hd
      rw [updL_at]
      by_cases e : d = j
      · subst e
        simp only [if_pos rfl, if_pos (Nat.lt_succ_self d)]
        rw [lN_mul, lN_mul, lN_mul, lN_add, lN_add, wy, hab, if_pos trivial]
      · simp only [if_neg e]
        rw [d6 d hd]
        by_cases e2 : d < j
        · simp only [if_pos e2, if_pos (show d < j + 1 by omega)]
        · simp only [if_neg e2, if_neg (show ¬ d < j + 1 by omega)]
    refine Ok.neg (nI_ge (b := 13) hj (by decide)) (Ok.ck hin ?_)
    rw [nI_clamp (by omega), hh, nI_1, nI_l (show p < 2 ^ 31 by omega), nI_l (show q < 2 ^ 31 by omega), nI_l (show 100 - p - q < 2 ^ 31 by omega)]
    refine Ok.ite (fun h => Ok.ck (by rw [nI_clamp (by omega)] at hin; exact hin) (hk _ _ _ _ _ _ ⟨rfl, rfl, rfl, by simp, rfl, ?_⟩)) (fun h => ?_)
    · have h := (nI_leI (a := 13) (b := j + 1) (by decide) (by omega)).mp h
      rw [show (0 : Int64) = lN 0 from rfl]
      exact fin 0 (by rw [if_pos (by omega)])
    · have h : ¬ 13 ≤ j + 1 := fun q => h (nI_le (a := 13) (b := j + 1) q (by omega))
      rw [nI_clamp (by omega), ckn_m (show j + 1 < 13 by omega) (by decide), d6 (j + 1) (by omega)]
      simp only [if_neg (show ¬ j + 1 < j by omega)]
      refine Ok.ck (by rw [nI_clamp (by omega)] at hin; exact hin) (hk _ _ _ _ _ _ ⟨rfl, rfl, rfl, by simp, rfl, fin _ (by rw [if_neg (by omega)])⟩)
  · rintro kk c x1 x2 x3 x4 x6 ⟨d1, d2, d3, d4, d5, d6⟩
    subst d1 d2 d3 d4 d5
    unfold t_X4_playQuarter_13_b
    refine Ok.pos (by decide) (Ok.ret ?_)
    intro d hd
    rw [d6 d hd]
    simp only [if_pos hd]
  · exact ⟨rfl, rfl, rfl, rfl, rfl, fun d hd => by rw [hf d hd]; simp⟩
theorem play_ok {p q k : Nat} (hp : p ≤ 45) (hq : q ≤ 45) (hk6 : k ≤ 6) (l0 : Int64) (c0 : Nat → Int64) : Ok (t_X4_playQuarters l0 c0 (nI k) (nI p) (nI q)) (fun u => u.1 = lN (100 ^ k) ∧ isW u.2 (wy p q k)) := by
  unfold t_X4_playQuarters
  rw [fillL_ok (by decide), bd1_s, ckn_f (by decide)]
  refine lr_X4_playQuarters_24 _ (fun i l c x1 x2 x3 x4 => l = lN (100 ^ i) ∧ x1 = nI k ∧ x2 = nI p ∧ x3 = nI q ∧ x4 = nI i ∧ isW c (wy p q i)) k ?_ ?_ lfuel 0 _ _ _ _ _ _ (Nat.zero_le _) (by unfold lfuel; omega) ?_
  · rintro kk i l c x1 x2 x3 x4 hi ⟨d1, d2, d3, d4, d5, d6⟩ hk
    subst d1 d2 d3 d4 d5
    unfold t_X4_playQuarters_24_b
    refine Ok.neg (nI_ge hi (by omega)) (Ok.bd1 (play1_ok hp hq d6) (fun g hg => hk _ _ _ _ _ _ ⟨?_, rfl, rfl, rfl, nI_1 i, hg⟩))
    rw [show (100 : Int64) = lN 100 from rfl, lN_mul, Nat.pow_succ]
  · rintro kk l c x1 x2 x3 x4 ⟨d1, d2, d3, d4, d5, d6⟩
    subst d1 d2 d3 d4 d5
    unfold t_X4_playQuarters_24_b
    exact Ok.pos (nI_le (Nat.le_refl _) (by omega)) (Ok.ret ⟨rfl, d6⟩)
  · refine ⟨rfl, rfl, rfl, rfl, rfl, ?_⟩
    intro d hd
    rw [updL_at, show (6 : Int32).toNatClampNeg = 6 from rfl, wy]
    by_cases e : d = 6
    · rw [if_pos e, if_pos e]; rfl
    · rw [if_neg e, if_neg e, if_pos hd]; rfl
def upS (w : Nat → Nat) (lead end_ : Int32) (k : Nat) : Nat := sm (fun d => if eb ((lead + nI d) - 6) = end_ then w d else 0) k
theorem upS_le (w : Nat → Nat) (lead end_ : Int32) : upS w lead end_ 13 ≤ sm w 13 := sm_le (fun j _ => by
  by_cases h : eb ((lead + nI j) - 6) = end_
  · simp only [if_pos h]; exact Nat.le_refl _
  · simp only [if_neg h]; exact Nat.zero_le _)
theorem sumEnd_ok {w : Nat → Nat} {c : Nat → Int64} (hc : isW c w) (u0 : Int64) (lead end_ : Int32) : Ok (t_X4_sumEnd u0 c lead end_) (fun u => u = lN (upS w lead end_ 13)) := by
  unfold t_X4_sumEnd
  refine lr_X4_sumEnd_7 _ (fun i u cc x1 x2 x3 => u = lN (upS w lead end_ i) ∧ c = cc ∧ lead = x1 ∧ end_ = x2 ∧ x3 = nI i) 13 ?_ ?_ lfuel 0 _ _ _ _ _ (Nat.zero_le _) (by unfold lfuel; omega) ?_
  · rintro kk i u cc x1 x2 x3 hi ⟨d1, d2, d3, d4, d5⟩ hk
    subst d1 d2 d3 d4 d5
    unfold t_X4_sumEnd_7_b t_X4_sumEnd_44
    have hin := nI_in (c := i) (N := 13) hi (by decide)
    refine Ok.neg (nI_ge (b := 13) hi (by decide)) ?_
    rw [eb_ok, bd1_s]
    refine Ok.ite (fun h => Ok.ck hin (hk _ _ _ _ _ ⟨?_, rfl, rfl, rfl, nI_1 i⟩)) (fun h => hk _ _ _ _ _ ⟨?_, rfl, rfl, rfl, nI_1 i⟩)
    · rw [nI_clamp (by omega), hc i hi, lN_add, upS, upS, sm, if_pos h]
    · rw [upS, upS, sm, if_neg h, Nat.add_zero]
  · rintro kk u cc x1 x2 x3 ⟨d1, d2, d3, d4, d5⟩
    subst d1 d2 d3 d4 d5
    unfold t_X4_sumEnd_7_b
    exact Ok.pos (by decide) (Ok.ret rfl)
  · exact ⟨rfl, rfl, rfl, rfl, rfl⟩
-- lowest terms
theorem gcd_step {a b : Nat} : Nat.gcd a b = Nat.gcd b (a % b) := by rw [Nat.gcd_comm a b, Nat.gcd_rec b a, Nat.gcd_comm]
theorem half {a b P : Nat} (h0 : 0 < b) (hab : b ≤ a) (hP : a * b < 2 ^ (P + 1)) : b * (a % b) < 2 ^ P := by
  have h1 : a % b < b := Nat.mod_lt a h0
  have h2 : b + a % b ≤ a := by
    have := Nat.div_add_mod a b
    have h3 : 1 ≤ a / b := (Nat.one_le_div_iff h0).mpr hab
    have h4 : b * 1 ≤ b * (a / b) := Nat.mul_le_mul_left b h3
    omega
  have h3 : 2 * (a % b) ≤ a := by omega
  have h4 : b * (2 * (a % b)) ≤ b * a := Nat.mul_le_mul_left b h3
  rw [Nat.mul_comm b a] at h4
  have h5 : b * (2 * (a % b)) = 2 * (b * (a % b)) := by rw [Nat.mul_left_comm]
  rw [Nat.pow_succ] at hP
  omega
theorem low_ok {u l : Nat} (hul : u ≤ l) (hl0 : 0 < l) (hl : l < 2 ^ 52) (part : Int32) : Ok (t_X4_inLowestTerms (lN u) (lN l) part) (fun r => r = if part = 0 then lN (u / Nat.gcd l u) else lN (l / Nat.gcd l u)) := by
  unfold t_X4_inLowestTerms
  have fin : ∀ g, 0 < g → g = Nat.gcd l u → Ok (t_X4_inLowestTerms_48 (lN u) (lN l) part (lN g)) (fun r => r = if part = 0 then lN (u / Nat.gcd l u) else lN (l / Nat.gcd l u)) := by
    intro g hg0 hg
    have hgl : g ≤ l := by rw [hg]; exact Nat.le_of_dvd hl0 (Nat.gcd_dvd_left l u)
    unfold t_X4_inLowestTerms_48 t_X4_inLowestTerms_72
    have hne : ¬ lN g = 0 := fun h => by
      have := (pk_lEQ (a := g) (b := 0) (by omega) (by decide)).mp h; omega
    refine Ok.pos ((lg_cmp_gt _ _).mpr ((pk_lLT (a := 0) (b := g) (by decide) (by omega)).mpr hg0)) (Ok.ite (fun h => Ok.ck hne (Ok.ret ?_)) (fun h => Ok.ck hne (Ok.ret ?_)))
    · rw [if_pos h, pk_lDiv (by omega) hg0 (by omega), hg]
    · rw [if_neg h, pk_lDiv (by omega) hg0 (by omega), hg]
  refine lr_X4_inLowestTerms_14 _ (fun i uu ll x1 x2 x4 x6 => uu = lN u ∧ ll = lN l ∧ part = x1 ∧ x6 = nI i ∧ ∃ a b : Nat, x2 = lN a ∧ x4 = lN b ∧ 0 < a ∧ b ≤ a ∧ a ≤ l ∧ Nat.gcd a b = Nat.gcd l u ∧ a * b < 2 ^ (104 - i)) 104 ?_ ?_ lfuel 0 _ _ _ _ _ _ (Nat.zero_le _) (by unfold lfuel; omega) ?_
  · rintro kk i uu ll x1 x2 x4 x6 hi ⟨d1, d2, d3, d4, a, b, d5, d6, a1, a2, a3, a4, a5⟩ hk
    subst d1 d2 d3 d4 d5 d6
    unfold t_X4_inLowestTerms_14_b
    refine Ok.neg (nI_ge (b := 1000) (by omega) (by decide)) (Ok.ite (fun h => ?_) (fun h => ?_))
    · rw [lg_cmp_le] at h
      have h := (pk_lLE (a := b) (b := 0) (by omega) (by decide)).mp h
      have hb : b = 0 := by omega
      rw [hb, Nat.gcd_zero_right] at a4
      exact fin a a1 a4
    · rw [lg_cmp_le] at h
      have hb : 0 < b := by
        rcases Nat.eq_zero_or_pos b with q | q
        · subst q; exact absurd ((pk_lLE (a := 0) (b := 0) (by decide) (by decide)).mpr (Nat.le_refl 0)) h
        · exact q
      refine Ok.ck (fun q => by have := (pk_lEQ (a := b) (b := 0) (by omega) (by decide)).mp q; omega) (hk _ _ _ _ _ _ ⟨rfl, rfl, rfl, nI_1 i, b, a % b, rfl, pk_lRem (by omega) hb (by omega), hb, Nat.le_of_lt (Nat.mod_lt a hb), by omega, ?_, ?_⟩)
      · rw [← a4, ← gcd_step]
      · exact half hb a2 (by rw [show 104 - (i + 1) + 1 = 104 - i by omega]; exact a5)
  · rintro kk uu ll x1 x2 x4 x6 ⟨d1, d2, d3, d4, a, b, d5, d6, a1, a2, a3, a4, a5⟩
    subst d1 d2 d3 d4 d5 d6
    unfold t_X4_inLowestTerms_14_b
    have hb : b = 0 := by
      rcases Nat.eq_zero_or_pos b with q | q
      · exact q
      · have := Nat.mul_pos a1 q; omega
    subst hb
    rw [Nat.gcd_zero_right] at a4
    exact Ok.ite (fun h => fin a a1 a4) (fun h => Ok.pos ((lg_cmp_le _ _).mpr ((pk_lLE (a := 0) (b := 0) (by decide) (by decide)).mpr (Nat.le_refl 0))) (fin a a1 a4))
  · refine ⟨rfl, rfl, rfl, rfl, l, u, rfl, rfl, hl0, hul, Nat.le_refl _, rfl, ?_⟩
    have h1 : l * u ≤ l * l := Nat.mul_le_mul_left l hul
    have h2 : l * l < 2 ^ 52 * 2 ^ 52 := Nat.mul_lt_mul'' hl hl
    rw [← Nat.pow_add] at h2
    exact Nat.lt_of_le_of_lt h1 h2
theorem common_ok {u l : Nat} (hul : u ≤ l) (hl0 : 0 < l) (hl : l < 2 ^ 52) : t_X11_common (lN u) (lN l) = some (lN (Nat.gcd l u)) := by
  apply Ok.to
  unfold t_X11_common
  refine lr_X11_common_6 _ (fun i x4 x6 => ∃ a b : Nat, x4 = lN a ∧ x6 = lN b ∧ 0 < a + b ∧ (i = 0 → a = u ∧ b = l) ∧ (0 < i → b ≤ a) ∧ a ≤ l ∧ b ≤ l ∧ Nat.gcd a b = Nat.gcd l u ∧ (0 < i → a * b < 2 ^ (106 - i))) 106 ?_ ?_ lfuel 0 _ _ (Nat.zero_le _) (by unfold lfuel; omega) ?_
  · rintro kk i x4 x6 hi ⟨a, b, d1, d2, a1, a2, a3, a4, a5, a6, a7⟩ hk
    subst d1 d2
    unfold t_X11_common_6_b
    refine Ok.ite (fun h => Ok.ret ?_) (fun h => ?_)
    · rw [lg_cmp_eq] at h
      have h := (pk_lEQ (a := b) (b := 0) (by omega) (by decide)).mp h
      rw [h, Nat.gcd_zero_right] at a6
      rw [a6]
    · rw [lg_cmp_eq] at h
      have hb : 0 < b := by
        rcases Nat.eq_zero_or_pos b with q | q
        · subst q; exact absurd rfl h
        · exact q
      refine Ok.ck h (hk _ _ ⟨b, a % b, rfl, pk_lRem (by omega) hb (by omega), by omega, fun h => by omega, fun _ => Nat.le_of_lt (Nat.mod_lt a hb), a5, ?_, ?_, ?_⟩)
      · have := Nat.mod_lt a hb; omega
      · rw [← a6, ← gcd_step]
      · intro _
        rcases Nat.eq_zero_or_pos i with q | q
        · subst q
          have h1 : b * (a % b) ≤ l * l := Nat.mul_le_mul a5 (by have := Nat.mod_lt a hb; omega)
          have h2 : l * l < 2 ^ 52 * 2 ^ 52 := Nat.mul_lt_mul'' hl hl
          rw [← Nat.pow_add] at h2
          exact Nat.lt_of_le_of_lt h1 (Nat.lt_trans h2 (by decide))
        · exact half hb (a3 q) (by rw [show 106 - (i + 1) + 1 = 106 - i by omega]; exact a7 q)
  · rintro kk x4 x6 ⟨a, b, d1, d2, a1, a2, a3, a4, a5, a6, a7⟩
    subst d1 d2
    unfold t_X11_common_6_b
    have h7 := a7 (by decide)
    have h3 := a3 (by decide)
    have hb : b = 0 := by
      rcases Nat.eq_zero_or_pos b with q | q
      · exact q
      · have := Nat.mul_pos (show 0 < a by omega) q; omega
    subst hb
    rw [Nat.gcd_zero_right] at a6
    exact Ok.pos ((lg_cmp_eq _ _).mpr rfl) (Ok.ret (by rw [a6]))
  · refine ⟨u, l, rfl, rfl, by omega, fun _ => ⟨rfl, rfl⟩, fun h => absurd h (by decide), hul, Nat.le_refl _, Nat.gcd_comm u l, fun h => absurd h (by decide)⟩
theorem term_ok {u l : Nat} (hul : u ≤ l) (hl0 : 0 < l) (hl : l < 2 ^ 52) (part : Int32) : t_X11_term (lN u) (lN l) part = some (if part = 0 then lN (u / Nat.gcd l u) else lN (l / Nat.gcd l u)) := by
  unfold t_X11_term t_X11_term_23
  have hg0 : 0 < Nat.gcd l u := Nat.gcd_pos_of_pos_left u hl0
  have hgl : Nat.gcd l u ≤ l := Nat.le_of_dvd hl0 (Nat.gcd_dvd_left l u)
  have hne : ¬ lN (Nat.gcd l u) = 0 := fun h => by
    have := (pk_lEQ (a := Nat.gcd l u) (b := 0) (by omega) (by decide)).mp h; omega
  rw [common_ok hul hl0 hl, bd1_s, ckn_f hne, ckn_f hne, pk_lDiv (by omega) hg0 (by omega), pk_lDiv (by omega) hg0 (by omega)]
  by_cases h : part = 0
  · rw [if_pos h, if_pos h]
  · rw [if_neg h, if_neg h]
