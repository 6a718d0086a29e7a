-- needs 36 37 41 43 44
def GC (m p q : Nat) (base : Int32) (skills home guest told : Nat → Int32) : Prop := p ≤ 45 ∧ q ≤ 45 ∧ m < 12 ∧ t_X2_chanceOf base skills (home m) (guest m) = some (nI p) ∧ t_X2_chanceOf base skills (guest m) (home m) = some (nI q) ∧ t_X11_chance skills told (home m) (guest m) = some (nI p) ∧ t_X11_chance skills told (guest m) (home m) = some (nI q)
theorem GC.mk {n m : Nat} {base : Int32} {skills home guest told : Nat → Int32} (hn : n ≤ 12) (hm : m < n) (h0 : told 0 = base) (hh : ∀ j, j < n → rg (home j) 8) (hg : ∀ j, j < n → rg (guest j) 8) : ∃ p q, GC m p q base skills home guest told := by
  obtain ⟨a, ha, ea⟩ := hh m hm
  obtain ⟨b, hb, eb⟩ := hg m hm
  obtain ⟨p, p1, p2, p3, p4⟩ := chance_ok (skills := skills) h0 ha hb
  obtain ⟨q, q1, q2, q3, q4⟩ := chance_ok (skills := skills) h0 hb ha
  rw [← ea, ← eb] at p3 p4 q3 q4
  exact ⟨p, q, p2, q2, by omega, p3, q3, p4, q4⟩
def thV (w : Nat → Nat) (lead end_ : Int32) (k : Nat) : Int32 := (lN (1000 * upS w lead end_ 13 / 100 ^ k)).toInt32
def lnV (goals prices : Nat → Int32) (m p q qr e : Nat) : Int32 := if prices (18 * m + 3 * qr + e) = 0 then 0 else 100000 / prices (18 * m + 3 * qr + e) - thV (wy p q (6 - qr)) (ld goals m qr) (nI e) (6 - qr)
theorem pow100 {k : Nat} (h : k ≤ 6) : 100 ^ k ≤ 1000000000000 := Nat.pow_le_pow_right (n := 100) (by decide) h
theorem th_c {w : Nat → Nat} {lead end_ : Int32} {k : Nat} (hk : k ≤ 6) (hw : sm w 13 ≤ 100 ^ k) : t_X4_thousandths (lN (upS w lead end_ 13)) (lN (100 ^ k)) = some (thV w lead end_ k) := by
  unfold t_X4_thousandths t_X4_thousandths_27
  have h1 := pow100 hk
  have h2 := upS_le w lead end_
  have h3 : 0 < 100 ^ k := Nat.pow_pos (by decide)
  rw [if_neg (fun h => by rw [lg_cmp_le] at h; have := (pk_lLE (a := 100 ^ k) (b := 0) (by omega) (by decide)).mp h; omega), ckn_f (fun h => by have := (pk_lEQ (a := 100 ^ k) (b := 0) (by omega) (by decide)).mp h; omega), show (1000 : Int64) = lN 1000 from rfl, lN_mul, pk_lDiv (by omega) h3 (by omega)]
  rfl
theorem spot {m q e : Nat} : nI m * 18 + nI q * 3 + nI e = nI (18 * m + 3 * q + e) := by
  rw [show (18 : Int32) = nI 18 from rfl, show (3 : Int32) = nI 3 from rfl, pk_mul, pk_mul, nI_add, nI_add, Nat.mul_comm m, Nat.mul_comm q]
theorem spot' {m q e : Nat} : 18 * nI m + 3 * nI q + nI e = nI (18 * m + 3 * q + e) := by
  rw [show (18 : Int32) = nI 18 from rfl, show (3 : Int32) = nI 3 from rfl, pk_mul, pk_mul, nI_add, nI_add]
theorem leanAt_ok {m p q qr e : Nat} {base : Int32} {skills home guest told : Nat → Int32} (hG : GC m p q base skills home guest told) (hq6 : qr < 6) (he : e < 3) (goals prices : Nat → Int32) (hpr : ∀ j, prices j = 0 ∨ ∃ k : Nat, 100 ≤ k ∧ k ≤ 10000 ∧ prices j = nI k) (u0 l0 : Int64) (cs : Nat → Int64) : Ok (t_X2_leanAt base u0 l0 goals guest home prices skills cs (nI m) (nI qr) (nI e)) (fun u => u.1 = lnV goals prices m p q qr e) := by
  obtain ⟨hp, hq, hm, c1, c2, c3, c4⟩ := hG
  unfold t_X2_leanAt lnV
  rw [spot, nI_clamp (by omega), ckn_m (show 18 * m + 3 * qr + e < 216 by omega) (by decide)]
  rcases hpr (18 * m + 3 * qr + e) with h | ⟨k, k1, k2, h⟩
  · rw [h]
    exact Ok.neg (by decide) (Ok.ret (by rw [if_pos rfl]))
  · rw [h]
    refine Ok.pos (nI_lt (a := 0) (by omega) (by omega)) ?_
    rw [lead_ok hm (by omega), bd1_s]
    refine Ok.bd3 (weigh_ok hp hq hm (by omega) c1 c2 u0 l0 cs (ld goals m qr) (nI e)) (fun a b c hw => Ok.ck (nI_ne0 (by omega) (by omega)) ?_)
    obtain ⟨w1, w2⟩ := hw
    simp only at w1 w2
    subst w1 w2
    rw [th_c (by omega) (wy_sum hp hq _), bd1_s]
    exact Ok.ret (by rw [if_neg (nI_ne0 (by omega) (by omega))])
theorem leanOf_ok {m p q qr e : Nat} {base : Int32} {skills home guest told : Nat → Int32} (hG : GC m p q base skills home guest told) (hq6 : qr < 6) (he : e < 3) (goals prices : Nat → Int32) (hpr : ∀ j, prices j = 0 ∨ ∃ k : Nat, 100 ≤ k ∧ k ≤ 10000 ∧ prices j = nI k) (u0 l0 : Int64) (next ways : Nat → Int64) : Ok (t_X11_leanOf u0 l0 goals guest home next prices skills told ways (nI m) (nI qr) (nI e)) (fun u => u.1 = lnV goals prices m p q qr e) := by
  obtain ⟨hp, hq, hm, c1, c2, c3, c4⟩ := hG
  unfold t_X11_leanOf lnV
  rw [spot', nI_clamp (by omega), ckn_m (show 18 * m + 3 * qr + e < 216 by omega) (by decide)]
  rcases hpr (18 * m + 3 * qr + e) with h | ⟨k, k1, k2, h⟩
  · rw [h]
    exact Ok.pos rfl (Ok.ret (by rw [if_pos rfl]))
  · rw [h]
    refine Ok.neg (nI_ne0 (by omega) (by omega)) ?_
    rw [scored_ok hm (by omega), bd1_s, scored_ok hm (by omega), bd1_s]
    refine Ok.bd4 (lay_ok hp hq hm (by omega) c3 c4 u0 l0 next ways _ _ he) (fun a b c d hw => Ok.ck (nI_ne0 (by omega) (by omega)) ?_)
    obtain ⟨w1, w2⟩ := hw
    simp only at w1 w2
    subst w1 w2
    have h1 := pow100 (show 6 - qr ≤ 6 by omega)
    have h2 := upS_le (wy p q (6 - qr)) (nI (sc goals m qr 1) - nI (sc goals m qr 2)) (nI e)
    have h3 : 0 < 100 ^ (6 - qr) := Nat.pow_pos (by decide)
    have h4 := wy_sum hp hq (6 - qr)
    refine Ok.ck (fun h => by have := (pk_lEQ (a := 100 ^ (6 - qr)) (b := 0) (by omega) (by decide)).mp h; omega) (Ok.ret ?_)
    rw [show (1000 : Int64) = lN 1000 from rfl, lN_mul, pk_lDiv (by omega) h3 (by omega), if_neg (nI_ne0 (by omega) (by omega))]
    rfl
def grV (f : Nat → Int32) : Nat → Int32 × Int32
  | 0 => (f 0, 0)
  | k + 1 => if f (k + 1) ≤ (grV f k).1 then grV f k else (f (k + 1), nI (10 * ((k + 1) / 3) + (k + 1) % 3))
def lnF (goals prices : Nat → Int32) (m p q k : Nat) : Int32 := lnV goals prices m p q (k / 3) (k % 3)
theorem div3 {k : Nat} (hk : k < 2 ^ 31) : nI k / 3 = nI (k / 3) := pk_div hk (by decide) (by decide)
theorem mod3 {k : Nat} (hk : k < 2 ^ 31) : nI k - nI (k / 3) * 3 = nI (k % 3) := by
  rw [← div3 hk]; exact pk_rem (d := 3) hk (by decide) (by decide)
theorem seekTop_ok {m p q : Nat} {base : Int32} {skills home guest told : Nat → Int32} (hG : GC m p q base skills home guest told) (goals prices : Nat → Int32) (hpr : ∀ j, prices j = 0 ∨ ∃ k : Nat, 100 ≤ k ∧ k ≤ 10000 ∧ prices j = nI k) (tl ts : Int32) (u0 l0 : Int64) (cs : Nat → Int64) : Ok (t_X2_seekTop base tl ts u0 l0 goals guest home prices skills cs (nI m)) (fun u => u.1 = (grV (lnF goals prices m p q) 17).1 ∧ u.2.1 = (grV (lnF goals prices m p q) 17).2) := by
  unfold t_X2_seekTop
  refine Ok.bd4 (leanAt_ok hG (qr := 0) (e := 0) (by decide) (by decide) goals prices hpr u0 l0 cs) (fun v a b c hv => ?_)
  simp only at hv
  refine lr_X2_seekTop_18 _ (fun i ba tl ts u l go gu ho pr sk cs x1 x2 => base = ba ∧ goals = go ∧ guest = gu ∧ home = ho ∧ prices = pr ∧ skills = sk ∧ x1 = nI m ∧ x2 = nI (i + 1) ∧ tl = (grV (lnF goals prices m p q) i).1 ∧ ts = (grV (lnF goals prices m p q) i).2) 17 ?_ ?_ lfuel 0 _ _ _ _ _ _ _ _ _ _ _ _ _ (Nat.zero_le _) (by unfold lfuel; omega) ?_
  · rintro kk i ba tl ts u l go gu ho pr sk cs x1 x2 hi ⟨d1, d2, d3, d4, d5, d6, d7, d8, d9, d10⟩ hk
    subst d1 d2 d3 d4 d5 d6 d7 d8 d9 d10
    unfold t_X2_seekTop_18_b t_X2_seekTop_63
    refine Ok.neg (nI_ge (b := 18) (by omega) (by decide)) ?_
    rw [div3 (by omega), mod3 (by omega)]
    refine Ok.bd4 (leanAt_ok hG (qr := (i + 1) / 3) (e := (i + 1) % 3) (by omega) (by omega) goals prices hpr u l cs) (fun v a b c hv => ?_)
    simp only at hv
    subst hv
    refine Ok.ite (fun h => hk _ _ _ _ _ _ _ _ _ _ _ _ _ ⟨rfl, rfl, rfl, rfl, rfl, rfl, rfl, nI_1 _, ?_, ?_⟩) (fun h => hk _ _ _ _ _ _ _ _ _ _ _ _ _ ⟨rfl, rfl, rfl, rfl, rfl, rfl, rfl, nI_1 _, ?_, ?_⟩)
    · rw [grV, if_pos (show lnF goals prices m p q (i + 1) ≤ _ from h)]
    · rw [grV, if_pos (show lnF goals prices m p q (i + 1) ≤ _ from h)]
    · rw [grV, if_neg (show ¬ lnF goals prices m p q (i + 1) ≤ _ from h)]; rfl
    · rw [grV, if_neg (show ¬ lnF goals prices m p q (i + 1) ≤ _ from h), show (10 : Int32) = nI 10 from rfl, pk_mul, nI_add]
  · rintro kk ba tl ts u l go gu ho pr sk cs x1 x2 ⟨d1, d2, d3, d4, d5, d6, d7, d8, d9, d10⟩
    subst d1 d2 d3 d4 d5 d6 d7 d8
    unfold t_X2_seekTop_18_b
    exact Ok.pos (by decide) (Ok.ret ⟨d9, d10⟩)
  · exact ⟨rfl, rfl, rfl, rfl, rfl, rfl, rfl, rfl, hv, rfl⟩
theorem greatestOf_ok {m p q : Nat} {base : Int32} {skills home guest told : Nat → Int32} (hG : GC m p q base skills home guest told) (goals prices : Nat → Int32) (hpr : ∀ j, prices j = 0 ∨ ∃ k : Nat, 100 ≤ k ∧ k ≤ 10000 ∧ prices j = nI k) (u0 l0 : Int64) (ga : Int32) (next ways : Nat → Int64) : Ok (t_X11_greatestOf u0 l0 ga goals guest home next prices skills told ways (nI m)) (fun u => u.1 = (grV (lnF goals prices m p q) 17).1 ∧ u.2.2.2.1 = (grV (lnF goals prices m p q) 17).2) := by
  unfold t_X11_greatestOf
  refine Ok.bd5 (leanOf_ok hG (qr := 0) (e := 0) (by decide) (by decide) goals prices hpr u0 l0 next ways) (fun v a b c d hv => ?_)
  simp only at hv
  refine lr_X11_greatestOf_15 _ (fun i u l ts go gu ho ne pr sk to wa x1 tl x2 => goals = go ∧ guest = gu ∧ home = ho ∧ prices = pr ∧ skills = sk ∧ told = to ∧ x1 = nI m ∧ x2 = nI (i + 1) ∧ tl = (grV (lnF goals prices m p q) i).1 ∧ ts = (grV (lnF goals prices m p q) i).2) 17 ?_ ?_ lfuel 0 _ _ _ _ _ _ _ _ _ _ _ _ _ _ (Nat.zero_le _) (by unfold lfuel; omega) ?_
  · rintro kk i u l ts go gu ho ne pr sk to wa x1 tl x2 hi ⟨d1, d2, d3, d4, d5, d6, d7, d8, d9, d10⟩ hk
    subst d1 d2 d3 d4 d5 d6 d7 d8 d9 d10
    unfold t_X11_greatestOf_15_b t_X11_greatestOf_57
    refine Ok.neg (nI_ge (b := 18) (by omega) (by decide)) ?_
    rw [div3 (by omega), mod3 (by omega)]
    refine Ok.bd5 (leanOf_ok hG (qr := (i + 1) / 3) (e := (i + 1) % 3) (by omega) (by omega) goals prices hpr u l ne wa) (fun v a b c d hv => ?_)
    simp only at hv
    subst hv
    refine Ok.ite (fun h => hk _ _ _ _ _ _ _ _ _ _ _ _ _ _ ⟨rfl, rfl, rfl, rfl, rfl, rfl, rfl, nI_1 _, ?_, ?_⟩) (fun h => hk _ _ _ _ _ _ _ _ _ _ _ _ _ _ ⟨rfl, rfl, rfl, rfl, rfl, rfl, rfl, nI_1 _, ?_, ?_⟩)
    · rw [grV, if_pos (show lnF goals prices m p q (i + 1) ≤ _ from h)]
    · rw [grV, if_pos (show lnF goals prices m p q (i + 1) ≤ _ from h)]
    · rw [grV, if_neg (show ¬ lnF goals prices m p q (i + 1) ≤ _ from h)]; rfl
    · rw [grV, if_neg (show ¬ lnF goals prices m p q (i + 1) ≤ _ from h), show (10 : Int32) = nI 10 from rfl, pk_mul, nI_add]
  · rintro kk u l ts go gu ho ne pr sk to wa x1 tl x2 ⟨d1, d2, d3, d4, d5, d6, d7, d8, d9, d10⟩
    subst d1 d2 d3 d4 d5 d6 d7 d8
    unfold t_X11_greatestOf_15_b
    exact Ok.pos (by decide) (Ok.ret ⟨d9, d10⟩)
  · exact ⟨rfl, rfl, rfl, rfl, rfl, rfl, rfl, rfl, hv, rfl⟩
