-- hands with stakes on a match that are one with another hand
theorem pop_1a : ∀ a b : Fin 32, ∀ i : Fin 10, (32 * a.val + b.val).testBit i.val = true → (pop (32 * a.val + b.val) ≤ 1 ↔ 32 * a.val + b.val = 2 ^ i.val) := by decide +kernel
theorem pop_1 {k i : Nat} (hk : k < 2 ^ 10) (hi : i < 10) (h : k.testBit i = true) : pop k ≤ 1 ↔ k = 2 ^ i := by
  have h2 := pop_1a ⟨k / 32, by omega⟩ ⟨k % 32, by omega⟩ ⟨i, hi⟩
  simp only [Nat.div_add_mod] at h2
  exact h2 h
theorem row_1 {R : Nat → Nat → Prop} {k i : Nat} (hi : i < 10) (hr : R i i) (hk : k < 2 ^ 10) (h : ∀ j, k.testBit j = true ↔ j < 10 ∧ R i j) : k = 2 ^ i ↔ ¬ ∃ j, j < 10 ∧ j ≠ i ∧ R i j := by
  constructor
  · rintro e ⟨j, h1, h2, h3⟩
    have := (h j).mpr ⟨h1, h3⟩
    rw [e, pw_tb] at this
    exact h2 this.symm
  · intro q
    refine bits_eq hk (bit_lt hi) h (fun j => ?_)
    rw [pw_tb]
    constructor
    · rintro rfl; exact ⟨hi, hr⟩
    · rintro ⟨h1, h2⟩
      apply Classical.byContradiction
      intro e
      exact q ⟨j, h1, fun e2 => e e2.symm, h2⟩
noncomputable def grC (ns : Nat) (hand match_ : Nat → Int32) (R : Nat → Nat → Prop) (x : Int32) (n : Nat) : Nat := fa_cnt (fun i => dc ((∃ s, s < ns ∧ match_ s = x ∧ (hand s).toNatClampNeg = i) ∧ ∃ j, j < 10 ∧ j ≠ i ∧ R i j)) n
theorem countGrouped_ok {ns tn : Nat} (hns : ns ≤ 40) (htn : tn ≤ 20) {near times : Int32} {hand match_ end_ minute sum : Nat → Int32} {mx : Int32 → Int32 → Nat} (hX : MX ns near times hand match_ end_ minute sum mx) (b7 : ∀ j, j < ns → rg (hand j) 10) (gr0 pa0 rf0 wt0 : Nat → Int32) (x : Int32) : Ok (t_X0_countGrouped (nI ns) near times (nI tn) end_ gr0 hand match_ minute pa0 rf0 sum wt0 x) (fun v => v.1 = nI (grC ns hand match_ (One mx tn) x 10)) := by
  unfold t_X0_countGrouped
  refine Ok.bd4 (groupHands_ok hns htn hX gr0 pa0 rf0 wt0) (fun u0 u1 u2 u3 hu => Ok.bd1 (handsOn_ok hns b7 match_ x) (fun w hw => ?_))
  simp only at hu
  obtain ⟨kb, w1, w2, w3⟩ := hw
  subst w2
  refine lr_X0_countGrouped_15 _ (fun i c ne ti tt e gr h m mi pa rf su wt x2 x3 x4 => u0 = gr ∧ x2 = nI kb ∧ x3 = nI (grC ns hand match_ (One mx tn) x i) ∧ x4 = nI i) 10 ?_ ?_ lfuel 0 _ _ _ _ _ _ _ _ _ _ _ _ _ _ _ _ (Nat.zero_le _) (by unfold lfuel; omega) ?_
  · rintro kk i c ne ti tt e gr h m mi pa rf su wt x2 x3 x4 hi ⟨d1, d2, d3, d4⟩ hk
    subst d1 d2 d3 d4
    unfold t_X0_countGrouped_15_b t_X0_countGrouped_49
    obtain ⟨kg, g1, g2, g3⟩ := hu i hi
    have hrow := row_1 (R := One mx tn) hi (Cn.refl i) g1 g3
    have hp : 2 ^ i < 2 ^ 10 := bit_lt hi
    rw [nI_clamp (by omega), ckn_m hi (by decide), sh1 (by omega), g2]
    have no : ¬ ((∃ s, s < ns ∧ match_ s = x ∧ (hand s).toNatClampNeg = i) ∧ ∃ j, j < 10 ∧ j ≠ i ∧ One mx tn i j) → nI (grC ns hand match_ (One mx tn) x i) = nI (grC ns hand match_ (One mx tn) x (i + 1)) := fun q => by
      unfold grC
      rw [fa_cnt_no (p := fun i => dc ((∃ s, s < ns ∧ match_ s = x ∧ (hand s).toNatClampNeg = i) ∧ ∃ j, j < 10 ∧ j ≠ i ∧ One mx tn i j)) (dc_n q)]
    refine Ok.neg (nI_ge (b := 10) hi (by decide)) (Ok.ite (fun c1 => Ok.ite (fun c2 => ?_) (fun c2 => ?_)) (fun c1 => ?_))
    · rw [nI_eq (by omega) (by omega)] at c2
      apply hk
      exact ⟨rfl, rfl, no (fun q => hrow.mp c2 q.2), nI_1 i⟩
    · rw [nI_eq (by omega) (by omega)] at c2
      rw [tb1 (by omega) (by omega)] at c1
      apply hk
      refine ⟨rfl, rfl, ?_, nI_1 i⟩
      rw [nI_1]
      unfold grC
      rw [fa_cnt_yes (p := fun i => dc ((∃ s, s < ns ∧ match_ s = x ∧ (hand s).toNatClampNeg = i) ∧ ∃ j, j < 10 ∧ j ≠ i ∧ One mx tn i j)) (dc_y ⟨(w3 i).mp c1, Classical.not_not.mp (fun q => c2 (hrow.mpr q))⟩)]
    · rw [tb1 (by omega) (by omega)] at c1
      apply hk
      exact ⟨rfl, rfl, no (fun q => c1 ((w3 i).mpr q.1)), nI_1 i⟩
  · rintro kk c ne ti tt e gr h m mi pa rf su wt x2 x3 x4 ⟨d1, d2, d3, d4⟩
    subst d1 d2 d3 d4
    unfold t_X0_countGrouped_15_b
    exact Ok.pos (by decide) (Ok.ret rfl)
  · exact ⟨rfl, rfl, rfl, rfl⟩
theorem fact2_ok {ns : Nat} (hns : ns ≤ 40) {matches_ : Int32} {meetings : Int32} {newsFirst : Int32} {newsHour : Int32} {acts : Int32} {upper : Int64} {lower : Int64} {greatAt : Int32} {actMatch : Nat → Int32} {actPlayers : Nat → Int32} {cameFrom : Nat → Int32} {debt : Nat → Int32} {goals : Nat → Int32} {guest : Nat → Int32} {handsOn : Nat → Int32} {home : Nat → Int32} {hour : Nat → Int32} {knows : Nat → Int32} {mate : Nat → Int32} {meetA : Nat → Int32} {meetB : Nat → Int32} {meetHour : Nat → Int32} {next : Nat → Int64} {ones : Nat → Int32} {order : Nat → Int32} {owner : Nat → Int32} {prices : Nat → Int32} {queue : Nat → Int32} {referee : Nat → Int32} {skill : Nat → Int32} {stakeEnd : Nat → Int32} {stakeHand : Nat → Int32} {stakeMatch : Nat → Int32} {stakeMinute : Nat → Int32} {stakeSum : Nat → Int32} {told : Nat → Int32} {ways : Nat → Int64} (b7 : ∀ j, j < ns → rg (stakeHand j) 10) {R : Nat → Nat → Prop} (hr : ∀ i, i < 10 → R i i) (hu : Rw 10 ones R) (x : Int32) : Ok (t_X11_factOf_47 lfuel matches_ (nI ns) meetings newsFirst newsHour acts upper lower greatAt actMatch actPlayers cameFrom debt goals guest handsOn home hour knows mate meetA meetB meetHour next ones order owner prices queue referee skill stakeEnd stakeHand stakeMatch stakeMinute stakeSum told ways x 0 0) (fun v => v.1 = nI (grC ns stakeHand stakeMatch R x 10)) := by
  refine lr_X11_factOf_47 _ (fun i matches_q stakesq meetingsq newsFirstq newsHourq actsq upperq lowerq greatAtq actMatchq actPlayersq cameFromq debtq goalsq guestq handsOnq homeq hourq knowsq mateq meetAq meetBq meetHourq nextq onesq orderq ownerq pricesq queueq refereeq skillq stakeEndq stakeHandq stakeMatchq stakeMinuteq stakeSumq toldq waysq x1 x3 x4 => nI ns = stakesq ∧ ones = onesq ∧ stakeHand = stakeHandq ∧ stakeMatch = stakeMatchq ∧ x = x1 ∧ x4 = nI i ∧ ∃ k : Nat, k < 2 ^ 10 ∧ x3 = nI k ∧ ∀ h, k.testBit h = true ↔ h < 10 ∧ (∃ s, s < i ∧ stakeMatch s = x ∧ (stakeHand s).toNatClampNeg = h) ∧ ∃ j, j < 10 ∧ j ≠ h ∧ R h j) ns ?_ ?_ lfuel 0 _ _ _ _ _ _ _ _ _ _ _ _ _ _ _ _ _ _ _ _ _ _ _ _ _ _ _ _ _ _ _ _ _ _ _ _ _ _ _ _ _ (Nat.zero_le _) (by unfold lfuel; omega) ?_
  · rintro kk i matches_q stakesq meetingsq newsFirstq newsHourq actsq upperq lowerq greatAtq actMatchq actPlayersq cameFromq debtq goalsq guestq handsOnq homeq hourq knowsq mateq meetAq meetBq meetHourq nextq onesq orderq ownerq pricesq queueq refereeq skillq stakeEndq stakeHandq stakeMatchq stakeMinuteq stakeSumq toldq waysq x1 x3 x4 hi ⟨d1, d2, d3, d4, d5, d6, k, e1, e2, e3⟩ hk
    subst d1 d2 d3 d4 d5 d6 e2
    unfold t_X11_factOf_47_b t_X11_factOf_99 t_X11_factOf_100
    obtain ⟨g, eg⟩ := hN_lt (b7 i hi)
    generalize hgg : (stakeHand i).toNatClampNeg = gg at *
    obtain ⟨kg, g1, g2, g3⟩ := hu gg g
    have hrow := row_1 (R := R) g (hr gg g) g1 g3
    have hpop := pop_1 g1 g ((g3 gg).mpr ⟨g, hr gg g⟩)
    have hpl := pop_le kg
    rw [nI_clamp (by omega), ckn_m (by omega) (by decide), ckn_m (by omega) (by decide), eg, nI_clamp (by omega), ckn_m (by omega) (by decide), g2, bits_ok (by omega), bd1_s, ckn_m (by omega) (by decide), sh1 (by omega), fa_or, show ∀ y : Int32, y ||| 0 = y from fun y => Int32.or_zero]
    refine Ok.neg (nI_ge hi (by omega)) (Ok.ite (fun c1 => Ok.ite (fun c2 => ?_) (fun c2 => ?_)) (fun c1 => ?_))
    · rw [show (1 : Int32) = nI 1 from rfl, nI_leI (by omega) (by omega), hpop, hrow] at c2
      apply hk
      refine ⟨rfl, rfl, rfl, rfl, rfl, nI_1 i, k, e1, rfl, fun h => ?_⟩
      rw [e3]
      constructor
      · rintro ⟨q1, ⟨s, s1, s2, s3⟩, q3⟩
        exact ⟨q1, ⟨s, by omega, s2, s3⟩, q3⟩
      · rintro ⟨q1, ⟨s, s1, s2, s3⟩, q3⟩
        by_cases e : s = i
        · subst e
          rw [hgg] at s3
          subst s3
          exact absurd q3 c2
        · exact ⟨q1, ⟨s, by omega, s2, s3⟩, q3⟩
    · rw [show (1 : Int32) = nI 1 from rfl, nI_leI (by omega) (by omega), hpop, hrow] at c2
      have c2 := Classical.not_not.mp c2
      apply hk
      refine ⟨rfl, rfl, rfl, rfl, rfl, nI_1 i, _, or_lt e1 (bit_lt g), rfl, fun h => ?_⟩
      rw [or_tb, pw_tb, e3]
      constructor
      · rintro (⟨q1, ⟨s, s1, s2, s3⟩, q3⟩ | q)
        · exact ⟨q1, ⟨s, by omega, s2, s3⟩, q3⟩
        · subst q
          exact ⟨g, ⟨i, by omega, c1, hgg⟩, c2⟩
      · rintro ⟨q1, ⟨s, s1, s2, s3⟩, q3⟩
        by_cases e : s = i
        · subst e
          rw [hgg] at s3
          exact Or.inr s3
        · exact Or.inl ⟨q1, ⟨s, by omega, s2, s3⟩, q3⟩
    · apply hk
      refine ⟨rfl, rfl, rfl, rfl, rfl, nI_1 i, k, e1, rfl, fun h => ?_⟩
      rw [e3]
      constructor
      · rintro ⟨q1, ⟨s, s1, s2, s3⟩, q3⟩
        exact ⟨q1, ⟨s, by omega, s2, s3⟩, q3⟩
      · rintro ⟨q1, ⟨s, s1, s2, s3⟩, q3⟩
        by_cases e : s = i
        · subst e; exact absurd s2 c1
        · exact ⟨q1, ⟨s, by omega, s2, s3⟩, q3⟩
  · rintro kk matches_q stakesq meetingsq newsFirstq newsHourq actsq upperq lowerq greatAtq actMatchq actPlayersq cameFromq debtq goalsq guestq handsOnq homeq hourq knowsq mateq meetAq meetBq meetHourq nextq onesq orderq ownerq pricesq queueq refereeq skillq stakeEndq stakeHandq stakeMatchq stakeMinuteq stakeSumq toldq waysq x1 x3 x4 ⟨d1, d2, d3, d4, d5, d6, k, e1, e2, e3⟩
    subst d1 d2 d3 d4 d5 d6 e2
    unfold t_X11_factOf_47_b t_X11_factOf_108
    rw [bits_ok (by omega), bd1_s]
    refine Ok.pos (nI_le (Nat.le_refl _) (by omega)) (Ok.ret ?_)
    show nI (pop k) = nI (grC ns stakeHand stakeMatch R x 10)
    congr 1
    have hc : ∀ m, m ≤ 10 → fa_cnt k.testBit m = grC ns stakeHand stakeMatch R x m := by
      intro m hm
      unfold grC
      refine fa_cnt_cong (fun j hj => ?_)
      by_cases q : (∃ s, s < ns ∧ stakeMatch s = x ∧ (stakeHand s).toNatClampNeg = j) ∧ ∃ l, l < 10 ∧ l ≠ j ∧ R j l
      · rw [dc_y q]; exact (e3 j).mpr ⟨by omega, q⟩
      · rw [dc_n q]
        cases w : k.testBit j
        · rfl
        · exact absurd ((e3 j).mp w).2 q
    rw [← hc 10 (Nat.le_refl _)]
    unfold pop
    rw [fa_cnt_no (n := 11) (bit_hi e1 (by omega)), fa_cnt_no (n := 10) (bit_hi e1 (by omega))]
  · refine ⟨rfl, rfl, rfl, rfl, rfl, rfl, 0, by decide, rfl, fun h => ?_⟩
    rw [Nat.zero_testBit]
    exact ⟨fun e => (by cases e), fun ⟨_, ⟨s, s1, _⟩, _⟩ => absurd s1 (Nat.not_lt_zero s)⟩
