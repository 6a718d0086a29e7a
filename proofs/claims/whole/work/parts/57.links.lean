-- hands with stakes on a match, and those that are one with them
def Hs (n : Nat) (p : Nat → Int32) (H : Nat → Nat → Prop) : Prop := ∀ m, m < n → ∃ k : Nat, k < 2 ^ 10 ∧ p m = nI k ∧ ∀ h, k.testBit h = true ↔ H m h
def Hd (ns : Nat) (hand match_ : Nat → Int32) (R : Nat → Nat → Prop) (m h : Nat) : Prop := h < 10 ∧ ∃ s, s < ns ∧ match_ s = nI m ∧ R (hand s).toNatClampNeg h
theorem hN_lt {x : Int32} (h : rg x 10) : x.toNatClampNeg < 10 ∧ x = nI x.toNatClampNeg := by
  obtain ⟨k, hk, rfl⟩ := h
  rw [nI_clamp (by omega)]
  exact ⟨hk, rfl⟩
theorem handsOn_ok {ns : Nat} (hns : ns ≤ 40) {hand : Nat → Int32} (b7 : ∀ j, j < ns → rg (hand j) 10) (match_ : Nat → Int32) (x : Int32) : Ok (t_X0_handsOn (nI ns) hand match_ x) (fun v => ∃ k : Nat, k < 2 ^ 10 ∧ v = nI k ∧ ∀ h, k.testBit h = true ↔ ∃ s, s < ns ∧ match_ s = x ∧ (hand s).toNatClampNeg = h) := by
  unfold t_X0_handsOn
  refine lr_X0_handsOn_4 _ (fun i c h m x1 x2 x3 => nI ns = c ∧ hand = h ∧ match_ = m ∧ x = x1 ∧ x3 = nI i ∧ ∃ k : Nat, k < 2 ^ 10 ∧ x2 = nI k ∧ ∀ h, k.testBit h = true ↔ ∃ s, s < i ∧ match_ s = x ∧ (hand s).toNatClampNeg = h) ns ?_ ?_ lfuel 0 _ _ _ _ _ _ (Nat.zero_le _) (by unfold lfuel; omega) ?_
  · rintro kk i c h m x1 x2 x3 hi ⟨d1, d2, d3, d4, d5, k, d6, d7, d8⟩ hk
    subst d1 d2 d3 d4 d5 d7
    unfold t_X0_handsOn_4_b t_X0_handsOn_33
    rw [nI_clamp (by omega), ckn_m (by omega) (by decide), ckn_m (by omega) (by decide)]
    obtain ⟨g, eg⟩ := hN_lt (b7 i hi)
    refine Ok.neg (nI_ge hi (by omega)) (Ok.ite (fun c => ?_) (fun c => ?_))
    · apply hk
      rw [eg, sh1 (by omega), fa_or]
      refine ⟨rfl, rfl, rfl, rfl, nI_1 i, _, or_lt d6 (bit_lt g), rfl, fun h => ?_⟩
      rw [or_tb, pw_tb, d8]
      constructor
      · rintro (⟨s, s1, s2, s3⟩ | e)
        · exact ⟨s, by omega, s2, s3⟩
        · exact ⟨i, by omega, c, e⟩
      · rintro ⟨s, s1, s2, s3⟩
        by_cases e : s = i
        · subst e; exact Or.inr s3
        · exact Or.inl ⟨s, by omega, s2, s3⟩
    · apply hk
      refine ⟨rfl, rfl, rfl, rfl, nI_1 i, k, d6, rfl, fun h => ?_⟩
      rw [d8]
      constructor
      · rintro ⟨s, s1, s2, s3⟩
        exact ⟨s, by omega, s2, s3⟩
      · rintro ⟨s, s1, s2, s3⟩
        by_cases e : s = i
        · subst e; exact absurd s2 c
        · exact ⟨s, by omega, s2, s3⟩
  · rintro kk c h m x1 x2 x3 ⟨d1, d2, d3, d4, d5, d6⟩
    subst d1 d2 d3 d4 d5
    unfold t_X0_handsOn_4_b
    exact Ok.pos (nI_le (Nat.le_refl _) (by omega)) (Ok.ret d6)
  · refine ⟨rfl, rfl, rfl, rfl, rfl, 0, by decide, rfl, fun h => ?_⟩
    rw [Nat.zero_testBit]
    exact ⟨fun e => (by cases e), fun ⟨s, s1, _⟩ => absurd s1 (Nat.not_lt_zero s)⟩
theorem reachOf_ok {gr : Nat → Int32} {R : Nat → Nat → Prop} (hR : Rw 10 gr R) {k : Nat} (hk : k < 2 ^ 10) : Ok (t_X3_reachOf gr (nI k)) (fun v => ∃ l : Nat, l < 2 ^ 10 ∧ v = nI l ∧ ∀ h, l.testBit h = true ↔ h < 10 ∧ ∃ g, g < 10 ∧ k.testBit g = true ∧ R g h) := by
  unfold t_X3_reachOf
  refine lr_X3_reachOf_4 _ (fun i g x0 x2 x3 => gr = g ∧ x0 = nI k ∧ x3 = nI i ∧ ∃ l : Nat, l < 2 ^ 10 ∧ x2 = nI l ∧ ∀ h, l.testBit h = true ↔ h < 10 ∧ ∃ g, g < i ∧ k.testBit g = true ∧ R g h) 10 ?_ ?_ lfuel 0 _ _ _ _ (Nat.zero_le _) (by unfold lfuel; omega) ?_
  · rintro kk i g x0 x2 x3 hi ⟨d1, d2, d3, l, d4, d5, d6⟩ hk2
    subst d1 d2 d3 d5
    unfold t_X3_reachOf_4_b t_X3_reachOf_28
    obtain ⟨q, q1, q2, q3⟩ := hR i hi
    rw [nI_clamp (by omega), ckn_m (by omega) (by decide), q2, fa_or]
    refine Ok.neg (nI_ge (b := 10) hi (by decide)) (Ok.ite (fun c => ?_) (fun c => ?_))
    · rw [tb1 (by omega) (by omega)] at c
      apply hk2
      refine ⟨rfl, rfl, nI_1 i, _, or_lt d4 q1, rfl, fun h => ?_⟩
      rw [or_tb, d6, q3]
      constructor
      · rintro (⟨s1, g, s2, s3, s4⟩ | ⟨s1, s2⟩)
        · exact ⟨s1, g, by omega, s3, s4⟩
        · exact ⟨s1, i, by omega, c, s2⟩
      · rintro ⟨s1, g, s2, s3, s4⟩
        by_cases e : g = i
        · subst e; exact Or.inr ⟨s1, s4⟩
        · exact Or.inl ⟨s1, g, by omega, s3, s4⟩
    · rw [tb1 (by omega) (by omega)] at c
      apply hk2
      refine ⟨rfl, rfl, nI_1 i, l, d4, rfl, fun h => ?_⟩
      rw [d6]
      constructor
      · rintro ⟨s1, g, s2, s3, s4⟩
        exact ⟨s1, g, by omega, s3, s4⟩
      · rintro ⟨s1, g, s2, s3, s4⟩
        by_cases e : g = i
        · subst e; exact absurd s3 c
        · exact ⟨s1, g, by omega, s3, s4⟩
  · rintro kk g x0 x2 x3 ⟨d1, d2, d3, d4⟩
    subst d1 d2 d3
    unfold t_X3_reachOf_4_b
    exact Ok.pos (by decide) (Ok.ret d4)
  · refine ⟨rfl, rfl, rfl, 0, by decide, rfl, fun h => ?_⟩
    rw [Nat.zero_testBit]
    exact ⟨fun e => (by cases e), fun ⟨_, g, s1, _⟩ => absurd s1 (Nat.not_lt_zero g)⟩
theorem layHands_ok {n ns tn : Nat} (hn : n ≤ 12) (hns : ns ≤ 40) (htn : tn ≤ 20) {near times : Int32} {hand match_ end_ minute sum told : Nat → Int32} {mx : Int32 → Int32 → Nat} (hX : MX ns near times hand match_ end_ minute sum mx) (k1 : told 1 = near) (k2 : told 2 = times) (k3 : told 3 = nI tn) (b7 : ∀ j, j < ns → rg (hand j) 10) (b8 : ∀ j, j < ns → rg (match_ j) n) (gr0 pa0 rf0 wt0 ho0 : Nat → Int32) :
    Ok (t_X11_layHands (nI n) (nI ns) rf0 ho0 pa0 gr0 wt0 end_ hand match_ minute sum told) (fun v => Hs n v.2.1 (Hd ns hand match_ (One mx tn)) ∧ Rw 10 v.2.2.2.1 (One mx tn)) := by
  unfold t_X11_layHands
  refine Ok.bd4 (layOnes_ok hns htn hX k1 k2 k3 gr0 pa0 rf0 wt0) (fun u0 u1 u2 u3 hu => ?_)
  simp only at hu
  refine lr_X11_layHands_6 _ (fun i c1 c2 rf ho pa on wt e h m mi su to x1 => nI n = c1 ∧ nI ns = c2 ∧ end_ = e ∧ hand = h ∧ match_ = m ∧ minute = mi ∧ sum = su ∧ told = to ∧ u2 = on ∧ x1 = nI i ∧ ∀ k, k < i → ho k = 0) n ?_ ?_ lfuel 0 _ _ _ _ _ _ _ _ _ _ _ _ _ _ (Nat.zero_le _) (by unfold lfuel; omega) ?_
  · rintro kk i c1 c2 rf ho pa on wt e h m mi su to x1 hi ⟨d1, d2, d3, d4, d5, d6, d7, d8, d9, d10, d11⟩ hk
    subst d1 d2 d3 d4 d5 d6 d7 d8 d9 d10
    unfold t_X11_layHands_6_b
    rw [nI_clamp (by omega), ckn_m (by omega) (by decide)]
    refine Ok.neg (nI_ge hi (by omega)) ?_
    apply hk
    refine ⟨rfl, rfl, rfl, rfl, rfl, rfl, rfl, rfl, rfl, nI_1 i, fun k hk => ?_⟩
    by_cases e : k = i
    · subst e; exact pk_us
    · rw [pk_un e]; exact d11 k (by omega)
  · rintro kk0 c1 c2 rf ho pa on wt e h m mi su to x1 ⟨d1, d2, d3, d4, d5, d6, d7, d8, d9, d10, d11⟩
    subst d1 d2 d3 d4 d5 d6 d7 d8 d9 d10
    unfold t_X11_layHands_6_b t_X11_layHands_27
    refine Ok.pos (nI_le (Nat.le_refl _) (by omega)) ?_
    refine lr_X11_layHands_29 _ (fun i c1 c2 rf ho pa on wt e h m mi su to x1 => nI n = c1 ∧ nI ns = c2 ∧ end_ = e ∧ hand = h ∧ match_ = m ∧ minute = mi ∧ sum = su ∧ told = to ∧ u2 = on ∧ x1 = nI i ∧ Hs n ho (Hd i hand match_ (One mx tn))) ns ?_ ?_ lfuel 0 _ _ _ _ _ _ _ _ _ _ _ _ _ _ (Nat.zero_le _) (by unfold lfuel; omega) ?_
    · clear d11
      rintro kk i c1 c2 rf ho pa on wt e h m mi su to x1 hi ⟨d1, d2, d3, d4, d5, d6, d7, d8, d9, d10, d11⟩ hk
      subst d1 d2 d3 d4 d5 d6 d7 d8 d9 d10
      unfold t_X11_layHands_29_b
      obtain ⟨mm, m1, m2⟩ := b8 i hi
      obtain ⟨g, g1, g2⟩ := b7 i hi
      obtain ⟨kh, h1, h2, h3⟩ := d11 mm m1
      obtain ⟨ko, o1, o2, o3⟩ := hu g g1
      rw [nI_clamp (by omega), m2, g2, nI_clamp (by omega), nI_clamp (by omega), ckn_m (by omega) (by decide), ckn_m (by omega) (by decide), ckn_m (by omega) (by decide), ckn_m (by omega) (by decide), ckn_m (by omega) (by decide), h2, o2, fa_or]
      refine Ok.neg (nI_ge hi (by omega)) ?_
      apply hk
      refine ⟨rfl, rfl, rfl, rfl, rfl, rfl, rfl, rfl, rfl, nI_1 i, fun x hx => ?_⟩
      by_cases e : x = mm
      · subst e
        refine ⟨_, or_lt h1 o1, pk_us, fun h => ?_⟩
        rw [or_tb, h3, o3]
        constructor
        · rintro (⟨s1, s, s2, s3, s4⟩ | ⟨s1, s2⟩)
          · exact ⟨s1, s, by omega, s3, s4⟩
          · exact ⟨s1, i, by omega, m2, by rw [g2, nI_clamp (by omega)]; exact s2⟩
        · rintro ⟨s1, s, s2, s3, s4⟩
          by_cases e : s = i
          · subst e
            rw [g2, nI_clamp (by omega)] at s4
            exact Or.inr ⟨s1, s4⟩
          · exact Or.inl ⟨s1, s, by omega, s3, s4⟩
      · obtain ⟨kx, x1, x2, x3⟩ := d11 x hx
        refine ⟨kx, x1, by rw [pk_un e]; exact x2, fun h => ?_⟩
        rw [x3]
        constructor
        · rintro ⟨s1, s, s2, s3, s4⟩
          exact ⟨s1, s, by omega, s3, s4⟩
        · rintro ⟨s1, s, s2, s3, s4⟩
          by_cases e2 : s = i
          · subst e2
            rw [m2] at s3
            exact absurd ((nI_eq (by omega) (by omega)).mp s3).symm e
          · exact ⟨s1, s, by omega, s3, s4⟩
    · clear d11
      rintro kk c1 c2 rf ho pa on wt e h m mi su to x1 ⟨d1, d2, d3, d4, d5, d6, d7, d8, d9, d10, d11⟩
      subst d1 d2 d3 d4 d5 d6 d7 d8 d9 d10
      unfold t_X11_layHands_29_b
      exact Ok.pos (nI_le (Nat.le_refl _) (by omega)) (Ok.ret ⟨d11, hu⟩)
    · refine ⟨rfl, rfl, rfl, rfl, rfl, rfl, rfl, rfl, rfl, rfl, fun x hx => ⟨0, by decide, d11 x hx, fun h => ?_⟩⟩
      rw [Nat.zero_testBit]
      exact ⟨fun e => (by cases e), fun ⟨_, s, s1, _⟩ => absurd s1 (Nat.not_lt_zero s)⟩
  · exact ⟨rfl, rfl, rfl, rfl, rfl, rfl, rfl, rfl, rfl, rfl, fun k hk => absurd hk (Nat.not_lt_zero k)⟩
-- which matches are joined
def Jn (referee : Nat → Int32) (H : Nat → Nat → Prop) (a b : Nat) : Prop := referee a = referee b ∨ ∃ h, H a h ∧ H b h
theorem Jn.symm {referee : Nat → Int32} {H : Nat → Nat → Prop} (a b : Nat) (h : Jn referee H a b) : Jn referee H b a := by
  rcases h with h | ⟨x, h1, h2⟩
  · exact Or.inl h.symm
  · exact Or.inr ⟨x, h2, h1⟩
theorem and_0 {k l : Nat} (hk : k < 2 ^ 10) (hl : l < 2 ^ 10) : nI k &&& nI l = 0 ↔ ¬ ∃ h, k.testBit h = true ∧ l.testBit h = true := by
  have hlt : k &&& l < 2 ^ 10 := Nat.and_lt_two_pow k hl
  rw [fa_and]
  constructor
  · rintro e ⟨h, h1, h2⟩
    have e : k &&& l = 0 := (nI_eq (b := 0) (by omega) (by decide)).mp e
    have e2 : (k &&& l).testBit h = true := by rw [Nat.testBit_and, h1, h2]; rfl
    rw [e, Nat.zero_testBit] at e2; cases e2
  · intro e
    have : k &&& l = 0 := zero_bits.mpr (fun i => by
      cases w : (k &&& l).testBit i
      · rfl
      · rw [Nat.testBit_and, Bool.and_eq_true] at w
        exact absurd ⟨i, w⟩ e)
    rw [this]; rfl
theorem areJoined_ok {n : Nat} (hn : n ≤ 12) {ho referee : Nat → Int32} {H : Nat → Nat → Prop} (hH : Hs n ho H) {a b : Nat} (ha : a < n) (hb : b < n) : Ok (t_X11_areJoined ho referee (nI a) (nI b)) (fun u => Bz u (Jn referee H a b)) := by
  unfold t_X11_areJoined t_X11_areJoined_31 t_X11_areJoined_36
  obtain ⟨k, k1, k2, k3⟩ := hH a ha
  obtain ⟨l, l1, l2, l3⟩ := hH b hb
  rw [nI_clamp (by omega), nI_clamp (by omega), ckn_m (by omega) (by decide), ckn_m (by omega) (by decide), ckn_m (by omega) (by decide), ckn_m (by omega) (by decide), ckn_f (by decide), ckn_f (by decide), k2, l2]
  refine Ok.ite (fun c => Ok.ret (Bz.t (Or.inl c))) (fun c => Ok.ite (fun c2 => Ok.ret (Bz.f ?_)) (fun c2 => Ok.ret (Bz.t ?_)))
  · rw [and_0 k1 l1] at c2
    rintro (q | ⟨h, q1, q2⟩)
    · exact c q
    · exact c2 ⟨h, (k3 h).mpr q1, (l3 h).mpr q2⟩
  · rw [and_0 k1 l1] at c2
    obtain ⟨h, q1, q2⟩ := Classical.not_not.mp c2
    exact Or.inr ⟨h, (k3 h).mp q1, (l3 h).mp q2⟩
theorem build_ok {n ns tn : Nat} (hn : n ≤ 12) (hns : ns ≤ 40) (htn : tn ≤ 20) {near times : Int32} {hand match_ end_ minute sum : Nat → Int32} {mx : Int32 → Int32 → Nat} (hX : MX ns near times hand match_ end_ minute sum mx) (b7 : ∀ j, j < ns → rg (hand j) 10) (sz0 : Int32) (referee gr0 pa0 rf0 wt0 re0 ro0 : Nat → Int32) :
    Ok (t_X3_build (nI ns) near times (nI tn) (nI n) sz0 end_ gr0 hand match_ minute pa0 rf0 sum wt0 referee re0 ro0) (fun v => v.1 = nI n ∧ Rw n v.2.2.2.2.2.2 (Jn referee (Hd ns hand match_ (One mx tn)))) := by
  have h12 := p12 hn
  generalize hHH : Hd ns hand match_ (One mx tn) = H
  unfold t_X3_build
  refine Ok.bd4 (groupHands_ok hns htn hX gr0 pa0 rf0 wt0) (fun u0 u1 u2 u3 hu => ?_)
  simp only at hu
  refine lr_X3_build_14 _ (fun i c1 ne ti tt c2 sz e gr h m mi pa rf su wt rr re ro x3 => nI ns = c1 ∧ near = ne ∧ times = ti ∧ nI tn = tt ∧ nI n = c2 ∧ nI n = sz ∧ end_ = e ∧ u0 = gr ∧ hand = h ∧ match_ = m ∧ minute = mi ∧ sum = su ∧ referee = rr ∧ x3 = nI i ∧ Hs i re H ∧ ∀ k, k < i → ro k = nI (2 ^ k)) n ?_ ?_ lfuel 0 _ _ _ _ _ _ _ _ _ _ _ _ _ _ _ _ _ _ _ (Nat.zero_le _) (by unfold lfuel; omega) ?_
  · rintro kk i c1 ne ti tt c2 sz e gr h m mi pa rf su wt rr re ro x3 hi ⟨d1, d2, d3, d4, d5, d6, d7, d8, d9, d10, d11, d12, d13, d14, d15, d16⟩ hk
    subst d1 d2 d3 d4 d5 d6 d7 d8 d9 d10 d11 d12 d13 d14
    unfold t_X3_build_14_b
    rw [sh1 (by omega), nI_clamp (by omega)]
    refine Ok.neg (nI_ge hi (by omega)) (Ok.ck (fun q => q.elim (nI_pos (by omega)) (fun q => by omega)) (Ok.bd1 (handsOn_ok hns b7 match_ (nI i)) (fun v hv => ?_)))
    obtain ⟨k, v1, v2, v3⟩ := hv
    subst v2
    refine Ok.bd1 (reachOf_ok hu v1) (fun w hw => ?_)
    obtain ⟨l, w1, w2, w3⟩ := hw
    subst w2
    rw [ckn_m (by omega) (by decide)]
    apply hk
    refine ⟨rfl, rfl, rfl, rfl, rfl, rfl, rfl, rfl, rfl, rfl, rfl, rfl, rfl, nI_1 i, fun x hx => ?_, fun k hk => ?_⟩
    · by_cases e : x = i
      · subst e
        refine ⟨l, w1, pk_us, fun h => ?_⟩
        rw [w3, ← hHH]
        constructor
        · rintro ⟨q1, g, q2, q3, q4⟩
          obtain ⟨s, s1, s2, s3⟩ := (v3 g).mp q3
          exact ⟨q1, s, s1, s2, by rw [s3]; exact q4⟩
        · rintro ⟨q1, s, s1, s2, s3⟩
          exact ⟨q1, _, (hN_lt (b7 s s1)).1, (v3 _).mpr ⟨s, s1, s2, rfl⟩, s3⟩
      · obtain ⟨kx, x1, x2, x3⟩ := d15 x (by omega)
        exact ⟨kx, x1, by rw [pk_un e]; exact x2, x3⟩
    · by_cases e : k = i
      · subst e; exact pk_us
      · rw [pk_un e]; exact d16 k (by omega)
  · rintro kk0 c1 ne ti tt c2 sz e gr h m mi pa rf su wt rr re ro x3 ⟨d1, d2, d3, d4, d5, d6, d7, d8, d9, d10, d11, d12, d13, d14, d15, d16⟩
    subst d1 d2 d3 d4 d5 d6 d7 d8 d9 d10 d11 d12 d13 d14
    unfold t_X3_build_14_b t_X3_build_52
    refine Ok.pos (nI_le (Nat.le_refl _) (by omega)) ?_
    refine lr_X3_build_54 _ (fun a c1 ne ti tt c2 sz e gr h m mi pa rf su wt rr re' ro x3 => nI n = sz ∧ referee = rr ∧ re = re' ∧ x3 = nI a ∧ Rw n ro (fun i j => i = j ∨ (Jn referee H i j ∧ (i < a ∨ j < a)))) n ?_ ?_ lfuel 0 _ _ _ _ _ _ _ _ _ _ _ _ _ _ _ _ _ _ _ (Nat.zero_le _) (by unfold lfuel; omega) ?_
    · clear d16
      rintro kk a c1 ne ti tt c2 sz e gr h m mi pa rf su wt rr re' ro x3 ha ⟨d1, d2, d3, d4, d5⟩ hk
      subst d1 d2 d3 d4
      unfold t_X3_build_54_b
      refine Ok.neg (nI_ge ha (by omega)) ?_
      rw [nI_1]
      refine lr_X3_build_67 _ (fun b c1 ne ti tt c2 sz e gr h m mi pa rf su wt rr re' ro x3 x4 => nI n = sz ∧ referee = rr ∧ re = re' ∧ x3 = nI a ∧ x4 = nI (a + 1 + b) ∧ Rw n ro (fun i j => i = j ∨ (Jn referee H i j ∧ (i < a ∨ j < a ∨ (i = a ∧ j < a + 1 + b) ∨ (j = a ∧ i < a + 1 + b))))) (n - 1 - a) ?_ ?_ lfuel 0 _ _ _ _ _ _ _ _ _ _ _ _ _ _ _ _ _ _ _ _ (Nat.zero_le _) (by unfold lfuel; omega) ?_
      · clear d5
        rintro kk2 b c1 ne ti tt c2 sz e gr h m mi pa rf su wt rr re' ro x3 x4 hb ⟨d1, d2, d3, d4, d5, d6⟩ hk2
        subst d1 d2 d3 d4 d5
        generalize hbb : a + 1 + b = bb at *
        unfold t_X3_build_67_b t_X3_build_109 t_X3_build_135
        obtain ⟨ka, a1, a2, a3⟩ := d6 a (by omega)
        obtain ⟨kb, b1, b2, b3⟩ := d6 bb (by omega)
        obtain ⟨ra, ra1, ra2, ra3⟩ := d15 a (by omega)
        obtain ⟨rb, rb1, rb2, rb3⟩ := d15 bb (by omega)
        simp only [nI_clamp (show a < 2 ^ 31 by omega), nI_clamp (show bb < 2 ^ 31 by omega), ckn_m (show a < 12 by omega) (show 12 < 2 ^ 31 by decide), ckn_m (show bb < 12 by omega) (show 12 < 2 ^ 31 by decide), sh1 (show a < 31 by omega), sh1 (show bb < 31 by omega), pk_un (show bb ≠ a by omega), a2, b2, ra2, rb2, fa_or]
        have yes : Jn referee H a bb → Ok (kk2 c1 ne ti tt c2 (nI n) e gr h m mi pa rf su wt referee re (upd (upd ro a (nI (ka ||| 2 ^ bb))) bb (nI (kb ||| 2 ^ a))) (nI a) (nI bb + 1)) (fun v => v.1 = nI n ∧ Rw n v.2.2.2.2.2.2 (Jn referee H)) := by
          intro hE
          apply hk2
          refine ⟨rfl, rfl, rfl, rfl, by rw [nI_1, ← hbb]; rfl, ?_⟩
          have s1 := d6.set (R' := fun i j => i = j ∨ (Jn referee H i j ∧ (i < a ∨ j < a ∨ (i = a ∧ j < bb + 1) ∨ (j = a ∧ i < bb)))) (i := a) (k := ka ||| 2 ^ bb) (or_lt a1 (bit_lt (by omega))) (fun j => by
            rw [or_tb, a3, pw_tb]
            constructor
            · rintro (⟨q1, q2⟩ | q)
              · refine ⟨q1, ?_⟩
                rcases q2 with q2 | ⟨q2, q3⟩
                · exact Or.inl q2
                · exact Or.inr ⟨q2, by omega⟩
              · subst q
                exact ⟨by omega, Or.inr ⟨hE, by omega⟩⟩
            · rintro ⟨q1, q2⟩
              by_cases e : bb = j
              · exact Or.inr e
              · refine Or.inl ⟨q1, ?_⟩
                rcases q2 with q2 | ⟨q2, q3⟩
                · exact Or.inl q2
                · exact Or.inr ⟨q2, by omega⟩) (fun x j hx hne hj => by
            constructor
            · rintro (q | ⟨q1, q2⟩)
              · exact Or.inl q
              · exact Or.inr ⟨q1, by omega⟩
            · rintro (q | ⟨q1, q2⟩)
              · exact Or.inl q
              · exact Or.inr ⟨q1, by omega⟩)
          refine s1.set (i := bb) (or_lt b1 (bit_lt (by omega))) (fun j => ?_) (fun x j hx hne hj => ?_)
          · rw [or_tb, b3, pw_tb]
            constructor
            · rintro (⟨q1, q2⟩ | q)
              · refine ⟨q1, ?_⟩
                rcases q2 with q2 | ⟨q2, q3⟩
                · exact Or.inl q2
                · exact Or.inr ⟨q2, by omega⟩
              · subst q
                exact ⟨by omega, Or.inr ⟨hE.symm, by omega⟩⟩
            · rintro ⟨q1, q2⟩
              by_cases e : a = j
              · exact Or.inr e
              · refine Or.inl ⟨q1, ?_⟩
                rcases q2 with q2 | ⟨q2, q3⟩
                · exact Or.inl q2
                · exact Or.inr ⟨q2, by omega⟩
          · constructor
            · rintro (q | ⟨q1, q2⟩)
              · exact Or.inl q
              · exact Or.inr ⟨q1, by omega⟩
            · rintro (q | ⟨q1, q2⟩)
              · exact Or.inl q
              · exact Or.inr ⟨q1, by omega⟩
        refine Ok.neg (nI_ge (by omega) (by omega)) (Ok.ite (fun c => yes (Or.inl c)) (fun c => Ok.ite (fun c2 => ?_) (fun c2 => yes ?_)))
        · rw [and_0 ra1 rb1] at c2
          have hno : ¬ Jn referee H a bb := by
            rintro (q | ⟨h, q1, q2⟩)
            · exact c q
            · exact c2 ⟨h, (ra3 h).mpr q1, (rb3 h).mpr q2⟩
          apply hk2
          refine ⟨rfl, rfl, rfl, rfl, by rw [nI_1, ← hbb]; rfl, d6.iff (fun i j hi hj => ?_)⟩
          constructor
          · rintro (q | ⟨q1, q2⟩)
            · exact Or.inl q
            · exact Or.inr ⟨q1, by omega⟩
          · rintro (q | ⟨q1, q2⟩)
            · exact Or.inl q
            · refine Or.inr ⟨q1, ?_⟩
              have n1 : ¬ (i = a ∧ j = bb) := fun w => by
                obtain ⟨rfl, rfl⟩ := w
                exact hno q1
              have n2 : ¬ (j = a ∧ i = bb) := fun w => by
                obtain ⟨rfl, rfl⟩ := w
                exact hno q1.symm
              omega
        · rw [and_0 ra1 rb1] at c2
          obtain ⟨h, q1, q2⟩ := Classical.not_not.mp c2
          exact Or.inr ⟨h, (ra3 h).mp q1, (rb3 h).mp q2⟩
      · clear d5
        rintro kk2 c1 ne ti tt c2 sz e gr h m mi pa rf su wt rr re' ro x3 x4 ⟨d1, d2, d3, d4, d5, d6⟩
        subst d1 d2 d3 d4 d5
        unfold t_X3_build_67_b t_X3_build_141
        refine Ok.pos (nI_le (by omega) (by omega)) ?_
        apply hk
        refine ⟨rfl, rfl, rfl, nI_1 a, d6.iff (fun i j hi hj => ?_)⟩
        constructor
        · rintro (q | ⟨q1, q2⟩)
          · exact Or.inl q
          · exact Or.inr ⟨q1, by omega⟩
        · rintro (q | ⟨q1, q2⟩)
          · exact Or.inl q
          · exact Or.inr ⟨q1, by omega⟩
      · refine ⟨rfl, rfl, rfl, rfl, rfl, d5.iff (fun i j hi hj => ?_)⟩
        by_cases eij : i = j
        · exact ⟨fun _ => Or.inl eij, fun _ => Or.inl eij⟩
        · constructor
          · rintro (q | ⟨q1, q2⟩)
            · exact Or.inl q
            · exact Or.inr ⟨q1, by omega⟩
          · rintro (q | ⟨q1, q2⟩)
            · exact Or.inl q
            · exact Or.inr ⟨q1, by omega⟩
    · clear d16
      rintro kk c1 ne ti tt c2 sz e gr h m mi pa rf su wt rr re' ro x3 ⟨d1, d2, d3, d4, d5⟩
      subst d1 d2 d3 d4
      unfold t_X3_build_54_b
      refine Ok.pos (nI_le (Nat.le_refl _) (by omega)) (Ok.ret ⟨rfl, d5.iff (fun i j hi hj => ?_)⟩)
      constructor
      · rintro (q | ⟨q1, q2⟩)
        · subst q; exact Or.inl rfl
        · exact q1
      · intro q
        exact Or.inr ⟨q, by omega⟩
    · refine ⟨rfl, rfl, rfl, rfl, fun i hi => ⟨2 ^ i, bit_lt hi, d16 i hi, fun j => ?_⟩⟩
      rw [pw_tb]
      constructor
      · rintro rfl
        exact ⟨hi, Or.inl rfl⟩
      · rintro ⟨_, q | ⟨_, q⟩⟩
        · exact q
        · omega
  · exact ⟨rfl, rfl, rfl, rfl, rfl, rfl, rfl, rfl, rfl, rfl, rfl, rfl, rfl, rfl, fun k hk => absurd hk (Nat.not_lt_zero k), fun k hk => absurd hk (Nat.not_lt_zero k)⟩
theorem areLinked_ok {n : Nat} (hn : n ≤ 12) {ro : Nat → Int32} {R : Nat → Nat → Prop} (h : Rw n ro R) {a b : Nat} (ha : a < n) (hb : b < n) : Ok (t_X3_areLinked ro (nI a) (nI b)) (fun u => Bz u (R a b)) := by
  have h12 := p12 hn
  unfold t_X3_areLinked t_X3_areLinked_19
  obtain ⟨k, k1, k2, k3⟩ := h a ha
  rw [nI_clamp (by omega), ckn_m (by omega) (by decide), ckn_f (by decide), ckn_f (by decide), k2]
  refine Ok.ite (fun c => Ok.ret (Bz.t ?_)) (fun c => Ok.ret (Bz.f ?_))
  · rw [tb1 (by omega) (by omega), k3] at c
    exact c.2
  · rw [tb1 (by omega) (by omega), k3] at c
    exact fun q => c ⟨hb, q⟩
def cutN (a b x y : Nat) : Prop := (x = a ∧ y = b) ∨ (x = b ∧ y = a)
theorem cut_ok {n : Nat} (hn : n ≤ 12) {ro : Nat → Int32} {R : Nat → Nat → Prop} (h : Rw n ro R) {a b : Nat} (ha : a < n) (hb : b < n) (hab : a ≠ b) : Ok (t_X3_cut ro (nI a) (nI b)) (fun v => Rw n v (fun x y => R x y ∧ ¬ cutN a b x y)) := by
  have h12 := p12 hn
  unfold t_X3_cut
  obtain ⟨ka, a1, a2, a3⟩ := h a ha
  obtain ⟨kb, b1, b2, b3⟩ := h b hb
  have pa : 2 ^ a < 2 ^ 31 := bit_lt (by omega)
  have pb : 2 ^ b < 2 ^ 31 := bit_lt (by omega)
  rw [nI_clamp (by omega), nI_clamp (by omega), ckn_m (by omega) (by decide), ckn_m (by omega) (by decide), ckn_m (by omega) (by decide), ckn_m (by omega) (by decide), sh1 (by omega), sh1 (by omega), pk_un (fun e => hab e.symm), a2, b2, andn pb, andn pa]
  refine Ok.ret ?_
  have s1 := h.set (R' := fun x y => R x y ∧ ¬ (x = a ∧ y = b)) (i := a) (k := ka &&& (2 ^ 32 - 1 - 2 ^ b)) (Nat.lt_of_le_of_lt Nat.and_le_left a1) (fun j => by
    rw [andn_at (by omega) pb, Bool.and_eq_true, a3, Bool.not_eq_true', bit_at, decide_eq_false_iff_not]
    constructor
    · rintro ⟨⟨q1, q2⟩, q3⟩
      exact ⟨q1, q2, fun w => q3 w.2.symm⟩
    · rintro ⟨q1, q2, q3⟩
      exact ⟨⟨q1, q2⟩, fun w => q3 ⟨rfl, w.symm⟩⟩) (fun x j hx hne hj => ⟨fun q => ⟨q, fun w => hne w.1⟩, fun q => q.1⟩)
  refine s1.set (i := b) (Nat.lt_of_le_of_lt Nat.and_le_left b1) (fun j => ?_) (fun x j hx hne hj => ?_)
  · rw [andn_at (by omega) pa, Bool.and_eq_true, b3, Bool.not_eq_true', bit_at, decide_eq_false_iff_not]
    constructor
    · rintro ⟨⟨q1, q2⟩, q3⟩
      refine ⟨q1, q2, fun w => ?_⟩
      rcases w with w | w
      · exact hab w.1.symm
      · exact q3 w.2.symm
    · rintro ⟨q1, q2, q3⟩
      exact ⟨⟨q1, q2⟩, fun w => q3 (Or.inr ⟨rfl, w.symm⟩)⟩
  · constructor
    · rintro ⟨q1, q2⟩
      refine ⟨q1, fun w => ?_⟩
      rcases w with w | w
      · exact q2 w
      · exact hne w.1
    · rintro ⟨q1, q2⟩
      exact ⟨q1, fun w => q2 (Or.inl w)⟩
theorem close_ok {n : Nat} (hn : n ≤ 12) {ro : Nat → Int32} {R : Nat → Nat → Prop} (hr : ∀ i, i < n → R i i) (h : Rw n ro R) : Ok (t_X3_close (nI n) ro) (fun v => Rw n v (Cn n R)) := by
  unfold t_X3_close
  exact Ok.bd1 (closeOver_ok hn (by decide) h) (fun u hu => Ok.ret (hu.iff (fun i j hi hj => wh_cn hr hi hj)))
-- the reference's ring
def clo (n : Nat) (R : Nat → Nat → Prop) (k : Nat) : Prop := ∀ x y, x < n → y < n → k.testBit x = true → R x y → k.testBit y = true
theorem ringOf_ok {n : Nat} (hn : n ≤ 12) {ho referee : Nat → Int32} {H : Nat → Nat → Prop} (hH : Hs n ho H) {m : Nat} (hm : m < n) (x2 x3 : Int32) {R : Nat → Nat → Prop} (hR : ∀ x y, x < n → y < n → (R x y ↔ Jn referee H x y ∧ ¬ ((nI x = x2 ∧ nI y = x3) ∨ (nI x = x3 ∧ nI y = x2)))) :
    Ok (t_X11_ringOf (nI n) ho referee (nI m) x2 x3) (fun v => ∃ k : Nat, k < 2 ^ n ∧ v = nI k ∧ ∀ j, k.testBit j = true ↔ j < n ∧ Cn n R m j) := by
  have h12 := p12 hn
  unfold t_X11_ringOf
  rw [sh1 (by omega)]
  refine lr_X11_ringOf_8 _ (fun r c h rr y2 y3 x4 x5 => nI n = c ∧ ho = h ∧ referee = rr ∧ x2 = y2 ∧ x3 = y3 ∧ x5 = nI r ∧ ∃ k : Nat, k < 2 ^ n ∧ x4 = nI k ∧ k.testBit m = true ∧ (∀ j, k.testBit j = true → Cn n R m j) ∧ (clo n R k ∨ r + 1 ≤ fa_cnt k.testBit n)) n ?_ ?_ lfuel 0 _ _ _ _ _ _ _ (Nat.zero_le _) (by unfold lfuel; omega) ?_
  · rintro kk r c h rr y2 y3 x4 x5 hr ⟨d1, d2, d3, d4, d5, d6, k0, e1, e2, e3, e4, e5⟩ hk
    subst d1 d2 d3 d4 d5 d6 e2
    unfold t_X11_ringOf_8_b
    refine Ok.neg (nI_ge hr (by omega)) ?_
    refine lr_X11_ringOf_20 _ (fun x c h rr y2 y3 x4 x5 x6 => nI n = c ∧ ho = h ∧ referee = rr ∧ x2 = y2 ∧ x3 = y3 ∧ x5 = nI r ∧ x6 = nI x ∧ ∃ k : Nat, k < 2 ^ n ∧ x4 = nI k ∧ (∀ j, k0.testBit j = true → k.testBit j = true) ∧ (∀ j, k.testBit j = true → Cn n R m j) ∧ (∀ x' y, x' < x → y < n → k0.testBit x' = true → R x' y → k.testBit y = true) ∧ (clo n R k0 → k = k0)) n ?_ ?_ lfuel 0 _ _ _ _ _ _ _ _ (Nat.zero_le _) (by unfold lfuel; omega) ?_
    · rintro kk2 x c h rr y2 y3 x4 x5 x6 hx ⟨d1, d2, d3, d4, d5, d6, d7, k1, f1, f2, f3, f4, f5, f6⟩ hk2
      subst d1 d2 d3 d4 d5 d6 d7 f2
      unfold t_X11_ringOf_20_b
      refine Ok.neg (nI_ge hx (by omega)) ?_
      refine lr_X11_ringOf_32 _ (fun y c h rr y2 y3 x4 x5 x6 x7 => nI n = c ∧ ho = h ∧ referee = rr ∧ x2 = y2 ∧ x3 = y3 ∧ x5 = nI r ∧ x6 = nI x ∧ x7 = nI y ∧ ∃ k : Nat, k < 2 ^ n ∧ x4 = nI k ∧ (∀ j, k0.testBit j = true → k.testBit j = true) ∧ (∀ j, k.testBit j = true → Cn n R m j) ∧ (∀ x' y, x' < x → y < n → k0.testBit x' = true → R x' y → k.testBit y = true) ∧ (clo n R k0 → k = k0) ∧ (∀ y', y' < y → R x y' → k.testBit y' = true)) n ?_ ?_ lfuel 0 _ _ _ _ _ _ _ _ _ (Nat.zero_le _) (by unfold lfuel; omega) ?_
      · clear f1 f3 f4 f5 f6 k1
        rintro kk3 y c h rr y2 y3 x4 x5 x6 x7 hy ⟨d1, d2, d3, d4, d5, d6, d7, d8, k, f1, f2, f3, f4, f5, f6, f7⟩ hk3
        subst d1 d2 d3 d4 d5 d6 d7 d8 f2
        unfold t_X11_ringOf_32_b
        refine Ok.neg (nI_ge hy (by omega)) (Ok.ite (fun c => ?_) (fun c => ?_))
        · rw [tb1 (by omega) (by omega)] at c
          have keep : ¬ R x y → Ok (t_X11_ringOf_108 kk kk2 kk3 (nI n) ho referee x2 x3 (nI r) (nI x) (nI y) (nI k)) (fun v => ∃ k : Nat, k < 2 ^ n ∧ v = nI k ∧ ∀ j, k.testBit j = true ↔ j < n ∧ Cn n R m j) := by
            intro hno
            unfold t_X11_ringOf_108 t_X11_ringOf_109
            rw [show ∀ y : Int32, y ||| 0 = y from fun y => Int32.or_zero]
            apply hk3
            refine ⟨rfl, rfl, rfl, rfl, rfl, rfl, rfl, nI_1 y, k, f1, rfl, f3, f4, f5, f6, fun y' hy' w => ?_⟩
            by_cases e : y' = y
            · subst e; exact absurd w hno
            · exact f7 y' (by omega) w
          have s76 : ((nI x = x2 ∧ nI y = x3) ∨ (nI x = x3 ∧ nI y = x2)) → Ok (t_X11_ringOf_76 kk kk2 kk3 (nI n) ho referee x2 x3 (nI k) (nI r) (nI x) (nI y)) (fun v => ∃ k : Nat, k < 2 ^ n ∧ v = nI k ∧ ∀ j, k.testBit j = true ↔ j < n ∧ Cn n R m j) := by
            intro hc
            unfold t_X11_ringOf_76 t_X11_ringOf_81
            exact Ok.neg (by decide) (keep (fun q => ((hR x y hx hy).mp q).2 hc))
          have s80 : ¬ ((nI x = x2 ∧ nI y = x3) ∨ (nI x = x3 ∧ nI y = x2)) → Ok (t_X11_ringOf_80 kk kk2 kk3 (nI n) ho referee x2 x3 (nI k) (nI r) (nI x) (nI y)) (fun v => ∃ k : Nat, k < 2 ^ n ∧ v = nI k ∧ ∀ j, k.testBit j = true ↔ j < n ∧ Cn n R m j) := by
            intro hc
            unfold t_X11_ringOf_80 t_X11_ringOf_81
            refine Ok.pos rfl (Ok.bd1 (areJoined_ok hn hH hx hy) (fun v hv => Ok.ite (fun hz => keep (fun q => hv.z.mp hz ((hR x y hx hy).mp q).1)) (fun hz => ?_)))
            have hj := Classical.not_not.mp (fun q => hz (hv.z.mpr q))
            have hRR : R x y := (hR x y hx hy).mpr ⟨hj, hc⟩
            unfold t_X11_ringOf_109
            rw [sh1 (by omega), fa_or]
            apply hk3
            refine ⟨rfl, rfl, rfl, rfl, rfl, rfl, rfl, nI_1 y, k ||| 2 ^ y, or_lt f1 (bit_lt hy), rfl, fun j w => or_tb.mpr (Or.inl (f3 j w)), fun j w => ?_, fun x' y' h1 h2 h3 h4 => or_tb.mpr (Or.inl (f5 x' y' h1 h2 h3 h4)), fun w => ?_, fun y' hy' w => ?_⟩
            · rcases or_tb.mp w with w | w
              · exact f4 j w
              · rw [pw_tb] at w
                subst w
                exact (f4 x c).trans (Cn.one hx hy hRR)
            · have ek := f6 w
              subst ek
              have := w x y hx hy c hRR
              apply bits_ext (or_lt f1 (bit_lt hy)) f1
              intro i _
              rw [bit_or]
              by_cases e : y = i
              · subst e; simp [this]
              · simp [e]
            · by_cases e : y' = y
              · subst e; exact or_tb.mpr (Or.inr (pw_tb.mpr rfl))
              · exact or_tb.mpr (Or.inl (f7 y' (by omega) w))
          have s64 : ¬ (nI x = x2 ∧ nI y = x3) → Ok (t_X11_ringOf_64 kk kk2 kk3 (nI n) ho referee x2 x3 (nI k) (nI r) (nI x) (nI y)) (fun v => ∃ k : Nat, k < 2 ^ n ∧ v = nI k ∧ ∀ j, k.testBit j = true ↔ j < n ∧ Cn n R m j) := by
            intro hc
            unfold t_X11_ringOf_64
            exact Ok.ite (fun c1 => Ok.ite (fun c2 => s76 (Or.inr ⟨c1, c2⟩)) (fun c2 => s80 (fun q => q.elim hc (fun q => c2 q.2)))) (fun c1 => s80 (fun q => q.elim hc (fun q => c1 q.1)))
          exact Ok.ite (fun c1 => Ok.ite (fun c2 => s76 (Or.inl ⟨c1, c2⟩)) (fun c2 => s64 (fun q => c2 q.2))) (fun c1 => s64 (fun q => c1 q.1))
        · rw [tb1 (by omega) (by omega)] at c
          unfold t_X11_ringOf_118
          apply hk2
          refine ⟨rfl, rfl, rfl, rfl, rfl, rfl, nI_1 x, k, f1, rfl, f3, f4, fun x' y' h1 h2 h3 h4 => ?_, f6⟩
          by_cases e : x' = x
          · subst e; exact absurd (f3 x' h3) c
          · exact f5 x' y' (by omega) h2 h3 h4
      · clear f1 f3 f4 f5 f6 k1
        rintro kk3 c h rr y2 y3 x4 x5 x6 x7 ⟨d1, d2, d3, d4, d5, d6, d7, d8, k, f1, f2, f3, f4, f5, f6, f7⟩
        subst d1 d2 d3 d4 d5 d6 d7 d8 f2
        unfold t_X11_ringOf_32_b t_X11_ringOf_118
        refine Ok.pos (nI_le (Nat.le_refl _) (by omega)) ?_
        apply hk2
        refine ⟨rfl, rfl, rfl, rfl, rfl, rfl, nI_1 x, k, f1, rfl, f3, f4, fun x' y' h1 h2 h3 h4 => ?_, f6⟩
        by_cases e : x' = x
        · subst e; exact f7 y' h2 h4
        · exact f5 x' y' (by omega) h2 h3 h4
      · exact ⟨rfl, rfl, rfl, rfl, rfl, rfl, rfl, rfl, k1, f1, rfl, f3, f4, f5, f6, fun y' h => absurd h (Nat.not_lt_zero y')⟩
    · rintro kk2 c h rr y2 y3 x4 x5 x6 ⟨d1, d2, d3, d4, d5, d6, d7, k, f1, f2, f3, f4, f5, f6⟩
      subst d1 d2 d3 d4 d5 d6 d7 f2
      unfold t_X11_ringOf_20_b t_X11_ringOf_124
      refine Ok.pos (nI_le (Nat.le_refl _) (by omega)) ?_
      apply hk
      refine ⟨rfl, rfl, rfl, rfl, rfl, nI_1 r, k, f1, rfl, f3 m e3, f4, ?_⟩
      by_cases hc : clo n R k0
      · left; rw [f6 hc]; exact hc
      · right
        have h1 : r + 1 ≤ fa_cnt k0.testBit n := by
          rcases e5 with e5 | e5
          · exact absurd e5 hc
          · exact e5
        unfold clo at hc
        have : ∃ x y, x < n ∧ y < n ∧ k0.testBit x = true ∧ R x y ∧ ¬ k0.testBit y = true := by
          apply Classical.byContradiction
          intro w
          apply hc
          intro x y hx hy h2 h3
          apply Classical.byContradiction
          intro h4
          exact w ⟨x, y, hx, hy, h2, h3, h4⟩
        obtain ⟨x, y, hx, hy, h2, h3, h4⟩ := this
        have := cnt_lt (p := k0.testBit) (q := k.testBit) (x := y) (n := n) (fun j _ w => f3 j w) hy (by simpa using h4) (f5 x y hx hy h2 h3)
        omega
    · exact ⟨rfl, rfl, rfl, rfl, rfl, rfl, rfl, k0, e1, rfl, fun j w => w, e4, fun x' y h => absurd h (Nat.not_lt_zero x'), fun _ => rfl⟩
  · rintro kk c h rr y2 y3 x4 x5 ⟨d1, d2, d3, d4, d5, d6, k0, e1, e2, e3, e4, e5⟩
    subst d1 d2 d3 d4 d5 d6 e2
    unfold t_X11_ringOf_8_b
    have hc : clo n R k0 := by
      rcases e5 with e5 | e5
      · exact e5
      · have := fa_cnt_le k0.testBit n; omega
    refine Ok.pos (nI_le (Nat.le_refl _) (by omega)) (Ok.ret ⟨k0, e1, rfl, fun j => ⟨fun w => ⟨bit_in e1 w, e4 j w⟩, fun w => ?_⟩⟩)
    exact w.2 (fun x => k0.testBit x = true) e3 (fun x y hx hy s r => hc x y hx hy s r)
  · refine ⟨rfl, rfl, rfl, rfl, rfl, rfl, 2 ^ m, bit_lt hm, rfl, pw_tb.mpr rfl, fun j w => by rw [pw_tb] at w; subst w; exact Cn.refl _, Or.inr ?_⟩
    have := cnt_lt (p := fun _ => false) (q := (2 ^ m).testBit) (x := m) (n := n) (fun j _ w => by cases w) hm rfl (pw_tb.mpr rfl)
    omega
