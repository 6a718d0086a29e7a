-- the reference's table
def Tb (pl : Nat → Prop) (P B : Nat → Int32) (s k : Nat) (r : Nat → Nat) (row : Nat → Int32) : Prop := k = fa_cnt (fun i => dc (pl i)) s ∧ (∀ j, j < k → r j < s ∧ pl (r j) ∧ row j = nI (r j)) ∧ ∀ i j, i < j → j < k → AH P B (r i) (r j)
theorem layTable_ok {n : Nat} (hn : n ≤ 12) (goals home guest taken : Nat → Int32) (sd0 x1 x2 : Int32) (row0 : Nat → Int32) : Ok (t_X11_layTable (nI n) sd0 goals guest home row0 taken x1 x2) (fun v => ∃ k r, v.1 = nI k ∧ Tb (plP home guest n) (lessP (fun s => ptV goals home guest taken s n) x1 x2) (fun s => ofV goals home guest s n) 8 k r v.2) := by
  unfold t_X11_layTable
  generalize hPP : lessP (fun s => ptV goals home guest taken s n) x1 x2 = P
  generalize hBB : (fun s => ofV goals home guest s n) = B
  refine lr_X11_layTable_7 _ (fun s c sd go gu ho row ta y1 y2 x3 => nI n = c ∧ goals = go ∧ guest = gu ∧ home = ho ∧ taken = ta ∧ x1 = y1 ∧ x2 = y2 ∧ x3 = nI s ∧ ∃ k r, sd = nI k ∧ Tb (plP home guest n) P B s k r row) 8 ?_ ?_ lfuel 0 _ _ _ _ _ _ _ _ _ _ (Nat.zero_le _) (by unfold lfuel; omega) ?_
  · rintro kk s c sd go gu ho row ta y1 y2 x3 hs ⟨d1, d2, d3, d4, d5, d6, d7, d8, k, r, d9, t1, t2, t3⟩ hk
    subst d1 d2 d3 d4 d5 d6 d7 d8 d9
    unfold t_X11_layTable_7_b
    have hks : k ≤ s := by rw [t1]; exact fa_cnt_le _ _
    refine Ok.neg (nI_ge (b := 8) hs (by decide)) (Ok.bd1 (plays_ok hn home guest) (fun v hv => Ok.ite (fun c => ?_) (fun c => ?_)))
    · unfold t_X11_layTable_162
      apply hk
      refine ⟨rfl, rfl, rfl, rfl, rfl, rfl, rfl, nI_1 s, k, r, rfl, ?_, fun j hj => ?_, t3⟩
      · rw [fa_cnt_no (dc_n (hv.z.mp c))]; exact t1
      · obtain ⟨q1, q2, q3⟩ := t2 j hj
        exact ⟨by omega, q2, q3⟩
    · have hps : plP home guest n s := Classical.not_not.mp (fun q => c (hv.z.mpr q))
      refine lr_X11_layTable_30 _ (fun i c sd go gu ho rw' ta y1 y2 x3 x4 x5 => nI n = c ∧ nI k = sd ∧ goals = go ∧ guest = gu ∧ home = ho ∧ taken = ta ∧ x1 = y1 ∧ x2 = y2 ∧ x3 = nI s ∧ ∃ p, x4 = nI p ∧ p ≤ k ∧ (∀ j, j < p → rw' j = nI (r j)) ∧ (∀ j, p ≤ j → j < k → rw' (j + 1) = nI (r j) ∧ AH P B s (r j)) ∧ ((x5 = 1 ∧ p + i = k) ∨ (x5 = 0 ∧ 1 ≤ p ∧ AH P B (r (p - 1)) s))) (k + 1) ?_ ?_ lfuel 0 _ _ _ _ _ _ _ _ _ _ _ _ (Nat.zero_le _) (by unfold lfuel; omega) ?_
      · rintro kk2 i c sd go gu ho rw' ta y1 y2 x3 x4 x5 hi ⟨d1, d2, d3, d4, d5, d6, d7, d8, d9, p, p1, p2, p3, p4, p5⟩ hk2
        subst d1 d2 d3 d4 d5 d6 d7 d8 d9 p1
        unfold t_X11_layTable_30_b
        have fin : (p = 0 ∨ AH P B (r (p - 1)) s) → Ok (t_X11_layTable_144 kk (nI n) (nI k) goals guest home rw' taken x1 x2 (nI s) (nI p)) (fun v => ∃ k r, v.1 = nI k ∧ Tb (plP home guest n) P B 8 k r v.2) := by
          intro hq
          unfold t_X11_layTable_144 t_X11_layTable_162
          rw [nI_clamp (by omega), ckn_m (by omega) (by decide)]
          apply hk
          refine ⟨rfl, rfl, rfl, rfl, rfl, rfl, rfl, nI_1 s, k + 1, fun j => if j < p then r j else if j = p then s else r (j - 1), nI_1 k, ?_, fun j hj => ?_, fun i j hij hj => ?_⟩
          · rw [fa_cnt_yes (dc_y hps)]; omega
          · by_cases e1 : j < p
            · simp only [if_pos e1]
              obtain ⟨q1, q2, q3⟩ := t2 j (by omega)
              exact ⟨by omega, q2, by rw [pk_un (by omega)]; exact p3 j e1⟩
            · by_cases e2 : j = p
              · simp only [if_neg e1, if_pos e2]
                exact ⟨by omega, hps, by rw [e2, pk_us]⟩
              · simp only [if_neg e1, if_neg e2]
                obtain ⟨q1, q2, q3⟩ := t2 (j - 1) (by omega)
                refine ⟨by omega, q2, ?_⟩
                rw [pk_un e2]
                have := (p4 (j - 1) (by omega) (by omega)).1
                rw [show j - 1 + 1 = j by omega] at this
                exact this
          · have bef : ∀ a, a < p → AH P B (r a) s := by
              intro a ha
              rcases hq with hq | hq
              · omega
              · by_cases e : a = p - 1
                · rw [e]; exact hq
                · exact (t3 a (p - 1) (by omega) (by omega)).tr hq
            by_cases e1 : j < p
            · simp only [if_pos e1, if_pos (show i < p by omega)]
              exact t3 i j hij (by omega)
            · by_cases e2 : j = p
              · simp only [if_neg e1, if_pos e2, if_pos (show i < p by omega)]
                exact bef i (by omega)
              · simp only [if_neg e1, if_neg e2]
                by_cases e3 : i < p
                · simp only [if_pos e3]
                  exact t3 i (j - 1) (by omega) (by omega)
                · by_cases e4 : i = p
                  · simp only [if_neg e3, if_pos e4]
                    exact (p4 (j - 1) (by omega) (by omega)).2
                  · simp only [if_neg e3, if_neg e4]
                    exact t3 (i - 1) (j - 1) (by omega) (by omega)
        by_cases p0 : p = 0
        · subst p0
          exact Ok.pos (by decide) (fin (Or.inl rfl))
        · refine Ok.neg (nI_nle (by omega) (by omega)) ?_
          rcases p5 with ⟨f1, f2⟩ | ⟨f1, f2, f3⟩
          · subst f1
            obtain ⟨y, hy⟩ : ∃ y, p = y + 1 := ⟨p - 1, by omega⟩
            subst hy
            obtain ⟨y1, y2, y3⟩ := t2 y (by omega)
            refine Ok.neg (by decide) ?_
            rw [nI_pp, nI_clamp (by omega), ckn_m (by omega) (by decide), p3 y (by omega), pointsOf_ok hn hs, bd1_s]
            have stay : AH P B (r y) s → Ok (t_X11_layTable_121 kk kk2 (nI n) (nI k) goals guest home rw' taken x1 x2 (nI s) (nI (y + 1)) (nI (r y))) (fun v => ∃ k r, v.1 = nI k ∧ Tb (plP home guest n) P B 8 k r v.2) := by
              intro h
              unfold t_X11_layTable_121 t_X11_layTable_122 t_X11_layTable_141
              refine Ok.pos rfl ?_
              apply hk2
              exact ⟨rfl, rfl, rfl, rfl, rfl, rfl, rfl, rfl, rfl, y + 1, rfl, p2, p3, p4, Or.inr ⟨rfl, by omega, h⟩⟩
            have move : AH P B s (r y) → Ok (t_X11_layTable_117 kk kk2 (nI n) (nI k) goals guest home rw' taken x1 x2 (nI s) (nI (y + 1)) (nI (r y))) (fun v => ∃ k r, v.1 = nI k ∧ Tb (plP home guest n) P B 8 k r v.2) := by
              intro h
              unfold t_X11_layTable_117 t_X11_layTable_122 t_X11_layTable_141
              rw [pk_m1, nI_clamp (by omega), ckn_m (by omega) (by decide)]
              refine Ok.neg (by decide) ?_
              apply hk2
              refine ⟨rfl, rfl, rfl, rfl, rfl, rfl, rfl, rfl, rfl, y, rfl, by omega, fun j hj => by rw [pk_un (by omega)]; exact p3 j (by omega), fun j hj1 hj2 => ?_, Or.inl ⟨rfl, by omega⟩⟩
              by_cases e : j = y
              · subst e; exact ⟨pk_us, h⟩
              · rw [pk_un (by omega)]; exact p4 j (by omega) hj2
            have ePs : ∀ z, z = (if nI s = x1 then x2 else 0) → ptV goals home guest taken s n - z = P s := fun z hz => by rw [← hPP, hz]; rfl
            have ePr : ∀ z, z = (if nI (r y) = x1 then x2 else 0) → ptV goals home guest taken (r y) n - z = P (r y) := fun z hz => by rw [← hPP, hz]; rfl
            have eBs : ofV goals home guest s n = B s := by rw [← hBB]
            have eBr : ofV goals home guest (r y) n = B (r y) := by rw [← hBB]
            have h86 : ∀ z, z = (if nI (r y) = x1 then x2 else 0) → Ok (t_X11_layTable_86 kk kk2 (nI n) (nI k) goals guest home rw' taken x1 x2 (nI s) (nI (y + 1)) (nI (r y)) (P s) z (ptV goals home guest taken (r y) n)) (fun v => ∃ k r, v.1 = nI k ∧ Tb (plP home guest n) P B 8 k r v.2) := by
              intro z hz
              unfold t_X11_layTable_86
              rw [ePr z hz, offOf_ok hn, bd1_s, offOf_ok hn, bd1_s, eBs, eBr]
              refine Ok.ite (fun c1 => move (Or.inl c1)) (fun c1 => Ok.ite (fun c2 => Ok.ite (fun c3 => stay ?_) (fun c3 => move (Or.inr ⟨c2, Or.inl (fa_of_nle c3)⟩))) (fun c2 => stay ?_))
              · by_cases e : B s = B (r y)
                · exact Or.inr ⟨c2.symm, Or.inr ⟨e.symm, y1⟩⟩
                · exact Or.inr ⟨c2.symm, Or.inl (fa_le_ne c3 e)⟩
              · rcases fa_three (P s) (P (r y)) with q | q | q
                · exact Or.inl q
                · exact absurd q c2
                · exact absurd q c1
            have h66 : ∀ z, z = (if nI s = x1 then x2 else 0) → Ok (t_X11_layTable_66 kk kk2 (nI n) (nI k) goals guest home rw' taken x1 x2 (nI s) (nI (y + 1)) (nI (r y)) z (ptV goals home guest taken s n)) (fun v => ∃ k r, v.1 = nI k ∧ Tb (plP home guest n) P B 8 k r v.2) := by
              intro z hz
              unfold t_X11_layTable_66
              rw [pointsOf_ok hn (by omega), bd1_s, ePs z hz]
              exact Ok.ite (fun c1 => h86 x2 (by rw [if_pos c1])) (fun c1 => h86 0 (by rw [if_neg c1]))
            exact Ok.ite (fun c1 => h66 x2 (by rw [if_pos c1])) (fun c1 => h66 0 (by rw [if_neg c1]))
          · subst f1
            exact Ok.pos rfl (fin (Or.inr f3))
      · rintro kk2 c sd go gu ho rw' ta y1 y2 x3 x4 x5 ⟨d1, d2, d3, d4, d5, d6, d7, d8, d9, p, p1, p2, p3, p4, p5⟩
        subst d1 d2 d3 d4 d5 d6 d7 d8 d9 p1
        unfold t_X11_layTable_30_b
        rcases p5 with ⟨f1, f2⟩ | ⟨f1, f2, f3⟩
        · omega
        · subst f1
          refine Ok.neg (nI_nle (by omega) (by omega)) (Ok.pos rfl ?_)
          unfold t_X11_layTable_144 t_X11_layTable_162
          rw [nI_clamp (by omega), ckn_m (by omega) (by decide)]
          apply hk
          have bef : ∀ a, a < p → AH P B (r a) s := by
            intro a ha
            by_cases e : a = p - 1
            · rw [e]; exact f3
            · exact (t3 a (p - 1) (by omega) (by omega)).tr f3
          refine ⟨rfl, rfl, rfl, rfl, rfl, rfl, rfl, nI_1 s, k + 1, fun j => if j < p then r j else if j = p then s else r (j - 1), nI_1 k, ?_, fun j hj => ?_, fun i j hij hj => ?_⟩
          · rw [fa_cnt_yes (dc_y hps)]; omega
          · by_cases e1 : j < p
            · simp only [if_pos e1]
              obtain ⟨q1, q2, q3⟩ := t2 j (by omega)
              exact ⟨by omega, q2, by rw [pk_un (by omega)]; exact p3 j e1⟩
            · by_cases e2 : j = p
              · simp only [if_neg e1, if_pos e2]
                exact ⟨by omega, hps, by rw [e2, pk_us]⟩
              · simp only [if_neg e1, if_neg e2]
                obtain ⟨q1, q2, q3⟩ := t2 (j - 1) (by omega)
                refine ⟨by omega, q2, ?_⟩
                rw [pk_un e2]
                have := (p4 (j - 1) (by omega) (by omega)).1
                rw [show j - 1 + 1 = j by omega] at this
                exact this
          · by_cases e1 : j < p
            · simp only [if_pos e1, if_pos (show i < p by omega)]
              exact t3 i j hij (by omega)
            · by_cases e2 : j = p
              · simp only [if_neg e1, if_pos e2, if_pos (show i < p by omega)]
                exact bef i (by omega)
              · simp only [if_neg e1, if_neg e2]
                by_cases e3 : i < p
                · simp only [if_pos e3]
                  exact t3 i (j - 1) (by omega) (by omega)
                · by_cases e4 : i = p
                  · simp only [if_neg e3, if_pos e4]
                    exact (p4 (j - 1) (by omega) (by omega)).2
                  · simp only [if_neg e3, if_neg e4]
                    exact t3 (i - 1) (j - 1) (by omega) (by omega)
      · exact ⟨rfl, rfl, rfl, rfl, rfl, rfl, rfl, rfl, rfl, k, rfl, Nat.le_refl _, fun j hj => (t2 j hj).2.2, fun j h1 h2 => by omega, Or.inl ⟨rfl, rfl⟩⟩
  · rintro kk c sd go gu ho row ta y1 y2 x3 ⟨d1, d2, d3, d4, d5, d6, d7, d8, k, r, d9, d10⟩
    subst d1 d2 d3 d4 d5 d6 d7 d8 d9
    unfold t_X11_layTable_7_b
    exact Ok.pos (by decide) (Ok.ret ⟨k, r, rfl, d10⟩)
  · exact ⟨rfl, rfl, rfl, rfl, rfl, rfl, rfl, rfl, 0, fun j => j, rfl, rfl, fun j hj => absurd hj (Nat.not_lt_zero j), fun i j _ hj => absurd hj (Nat.not_lt_zero j)⟩
theorem cnt_split (p q : Nat → Prop) : ∀ n, fa_cnt (fun i => dc (p i ∧ q i)) n + fa_cnt (fun i => dc (p i ∧ ¬ q i)) n = fa_cnt (fun i => dc (p i)) n
  | 0 => rfl
  | n + 1 => by
    have ih := cnt_split p q n
    by_cases h1 : p n
    · by_cases h2 : q n
      · rw [fa_cnt_yes (p := fun i => dc (p i ∧ q i)) (dc_y ⟨h1, h2⟩), fa_cnt_no (p := fun i => dc (p i ∧ ¬ q i)) (dc_n (fun w => w.2 h2)), fa_cnt_yes (p := fun i => dc (p i)) (dc_y h1)]; omega
      · rw [fa_cnt_no (p := fun i => dc (p i ∧ q i)) (dc_n (fun w => h2 w.2)), fa_cnt_yes (p := fun i => dc (p i ∧ ¬ q i)) (dc_y ⟨h1, h2⟩), fa_cnt_yes (p := fun i => dc (p i)) (dc_y h1)]; omega
    · rw [fa_cnt_no (p := fun i => dc (p i ∧ q i)) (dc_n (fun w => h1 w.1)), fa_cnt_no (p := fun i => dc (p i ∧ ¬ q i)) (dc_n (fun w => h1 w.1)), fa_cnt_no (p := fun i => dc (p i)) (dc_n h1)]; omega
theorem Tb.inj {pl : Nat → Prop} {P B : Nat → Int32} {k : Nat} {r : Nat → Nat} {row : Nat → Int32} (h : Tb pl P B 8 k r row) : ∀ i j, i < k → j < k → r i = r j → i = j := by
  intro i j hi hj e
  rcases Nat.lt_trichotomy i j with q | q | q
  · exact absurd (e ▸ h.2.2 i j q hj) AH.irr
  · exact q
  · exact absurd (e ▸ h.2.2 j i q hi) AH.irr
theorem Tb.rank {pl : Nat → Prop} {P B : Nat → Int32} {k : Nat} {r : Nat → Nat} {row : Nat → Int32} (h : Tb pl P B 8 k r row) {j : Nat} (hj : j < k) : rkC pl P B (r j) = j := by
  have inj := h.inj
  obtain ⟨t1, t2, t3⟩ := h
  have a := cnt_inj 8 (p := fun i => dc (pl i ∧ AH P B i (r j))) j r (fun i hi => ⟨(t2 i (by omega)).1, dc_y ⟨(t2 i (by omega)).2.1, t3 i j hi hj⟩⟩) (fun x y hx hy e => inj x y (by omega) (by omega) e)
  have b := cnt_inj 8 (p := fun i => dc (pl i ∧ ¬ AH P B i (r j))) (k - j) (fun i => r (j + i)) (fun i hi => ⟨(t2 (j + i) (by omega)).1, dc_y ⟨(t2 (j + i) (by omega)).2.1, fun q => by
    rcases Nat.eq_zero_or_pos i with e | e
    · subst e; exact AH.irr q
    · exact (t3 j (j + i) (by omega) (by omega)).asym q⟩⟩) (fun x y hx hy e => by have := inj (j + x) (j + y) (by omega) (by omega) e; omega)
  have c := cnt_split pl (fun i => AH P B i (r j)) 8
  unfold rkC
  omega
theorem Tb.surj {pl : Nat → Prop} {P B : Nat → Int32} {k : Nat} {r : Nat → Nat} {row : Nat → Int32} (h : Tb pl P B 8 k r row) {x : Nat} (hx : x < 8) (hp : pl x) : ∃ j, j < k ∧ r j = x := by
  apply Classical.byContradiction
  intro hno
  have inj := h.inj
  obtain ⟨t1, t2, t3⟩ := h
  have a := cnt_inj 8 (p := fun i => dc (pl i ∧ i ≠ x)) k r (fun i hi => ⟨(t2 i hi).1, dc_y ⟨(t2 i hi).2.1, fun e => hno ⟨i, hi, e⟩⟩⟩) (fun a b ha hb e => inj a b ha hb e)
  have b := cnt_lt (p := fun i => dc (pl i ∧ i ≠ x)) (q := fun i => dc (pl i)) (x := x) (n := 8) (fun i _ q => dc_y (dc_t.mp q).1) hx (dc_n (fun q => q.2 rfl)) (dc_y hp)
  omega
theorem c45 {R : Type} {x : Option R} : ckn ((4 : Int32) < 0 ∨ 5 ≤ (4 : Int32).toNatClampNeg) x = x := ckn_f (by decide)
theorem isDown_ok2 {n x dn : Nat} (hn : n ≤ 12) (hx : x < 8) (h2 : dn ≤ 4) (goals home guest taken : Nat → Int32) {told : Nat → Int32} (ht : told 4 = nI dn) (hp : plP home guest n x) (sd0 less : Int32) (row0 : Nat → Int32) : Ok (t_X11_isDown (nI n) sd0 goals guest home row0 taken told (nI x) less) (fun v => Bz v.1 (fa_cnt (fun s => dc (plP home guest n s)) 8 ≤ rkC (plP home guest n) (lessP (fun s => ptV goals home guest taken s n) (nI x) less) (fun s => ofV goals home guest s n) x + dn)) := by
  unfold t_X11_isDown
  refine Ok.bd2 (layTable_ok hn goals home guest taken sd0 (nI x) less row0) (fun u0 u1 hu => ?_)
  obtain ⟨k, r, e, hT⟩ := hu
  simp only at e hT
  subst e
  have hk8 : k ≤ 8 := by rw [hT.1]; exact fa_cnt_le _ _
  have t2 := hT.2.1
  refine lr_X11_isDown_11 _ (fun i c sd go gu ho row ta to x1 x3 x4 => nI k = sd ∧ u1 = row ∧ told = to ∧ x1 = nI x ∧ x4 = nI i ∧ Bz x3 (∃ j, j < i ∧ r j = x ∧ k ≤ j + dn)) k ?_ ?_ lfuel 0 _ _ _ _ _ _ _ _ _ _ _ (Nat.zero_le _) (by unfold lfuel; omega) ?_
  · rintro kk i c sd go gu ho row ta to x1 x3 x4 hi ⟨d1, d2, d3, d4, d5, d6⟩ hk
    subst d1 d2 d3 d4 d5
    unfold t_X11_isDown_11_b t_X11_isDown_51 t_X11_isDown_55 t_X11_isDown_56
    rw [nI_clamp (by omega), ckn_m (by omega) (by decide), c45, show (4 : Int32).toNatClampNeg = 4 from rfl, ht, (t2 i hi).2.2]
    refine Ok.neg (nI_ge hi (by omega)) (Ok.ite (fun c => Ok.ite (fun c1 => Ok.ite (fun c2 => ?_) (fun c2 => ?_)) (fun c1 => ?_)) (fun c => ?_))
    · rw [down_t (by omega) h2 (by omega)] at c2
      apply hk
      refine ⟨rfl, rfl, rfl, rfl, nI_1 i, Bz.f ?_⟩
      rintro ⟨j, q1, q2, q3⟩
      by_cases e : j = i
      · subst e; exact c2 q3
      · exact d6.z.mp c ⟨j, by omega, q2, q3⟩
    · rw [down_t (by omega) h2 (by omega)] at c2
      apply hk
      rw [nI_eq (by have := (t2 i hi).1; omega) (by omega)] at c1
      exact ⟨rfl, rfl, rfl, rfl, nI_1 i, Bz.t ⟨i, by omega, c1, Classical.not_not.mp c2⟩⟩
    · apply hk
      refine ⟨rfl, rfl, rfl, rfl, nI_1 i, Bz.f ?_⟩
      rintro ⟨j, q1, q2, q3⟩
      by_cases e : j = i
      · subst e; exact c1 (by rw [q2])
      · exact d6.z.mp c ⟨j, by omega, q2, q3⟩
    · apply hk
      obtain ⟨j, q1, q2, q3⟩ := Classical.not_not.mp (fun q => c (d6.z.mpr q))
      exact ⟨rfl, rfl, rfl, rfl, nI_1 i, Bz.t ⟨j, by omega, q2, q3⟩⟩
  · rintro kk c sd go gu ho row ta to x1 x3 x4 ⟨d1, d2, d3, d4, d5, d6⟩
    subst d1 d2 d3 d4 d5
    unfold t_X11_isDown_11_b
    refine Ok.pos (nI_le (Nat.le_refl _) (by omega)) (Ok.ck d6.b (Ok.ret (d6.iff ?_)))
    rw [← hT.1]
    constructor
    · rintro ⟨j, q1, q2, q3⟩
      have hr := hT.rank q1
      rw [q2] at hr
      rw [hr]; exact q3
    · intro q
      obtain ⟨j, q1, q2⟩ := hT.surj hx hp
      have hr := hT.rank q1
      rw [q2] at hr
      rw [hr] at q
      exact ⟨j, q1, q2, q⟩
  · exact ⟨rfl, rfl, rfl, rfl, rfl, Bz.f (fun ⟨j, h, _⟩ => absurd h (Nat.not_lt_zero j))⟩
theorem byTaking_ok {n x dn : Nat} (hn : n ≤ 12) (hx : x < 8) (h2 : dn ≤ 4) (goals home guest taken : Nat → Int32) {told : Nat → Int32} (ht : told 4 = nI dn) (hp : plP home guest n x) {sz : Nat} (hsz : fa_cnt (fun s => dc (plP home guest n s)) 8 = sz) {D : Nat → Prop} (hD : ∀ m, D m ↔ sz ≤ rkC (plP home guest n) (lessP (fun s => ptV goals home guest taken s n) (nI x) (nI m)) (fun s => ofV goals home guest s n) x + dn) (sd0 : Int32) (row0 : Nat → Int32) : Ok (t_X11_byTaking (nI n) sd0 goals guest home row0 taken told (nI x)) (fun v => (∃ m, m ≤ 200 ∧ v.1 = nI m ∧ D m ∧ ∀ k, k < m → ¬ D k) ∨ (v.1 = -6 ∧ ∀ k, k ≤ 200 → ¬ D k)) := by
  unfold t_X11_byTaking
  refine lr_X11_byTaking_2 _ (fun j c sd go gu ho row ta to x1 x2 => nI n = c ∧ goals = go ∧ guest = gu ∧ home = ho ∧ taken = ta ∧ told = to ∧ x1 = nI x ∧ x2 = nI j ∧ ∀ k, k < j → ¬ D k) 201 ?_ ?_ lfuel 0 _ _ _ _ _ _ _ _ _ _ (Nat.zero_le _) (by unfold lfuel; omega) ?_
  · rintro kk j c sd go gu ho row ta to x1 x2 hj ⟨d1, d2, d3, d4, d5, d6, d7, d8, d9⟩ hk
    subst d1 d2 d3 d4 d5 d6 d7 d8
    unfold t_X11_byTaking_2_b
    refine Ok.neg (fun q => by have := (nI_ltI (a := 200) (b := j) (by decide) (by omega)).mp q; omega) (Ok.bd3 (isDown_ok2 hn hx h2 goals home guest taken ht hp sd (nI j) row) (fun u0 u1 u2 hu => ?_))
    simp only at hu
    rw [hsz, ← hD] at hu
    refine Ok.ite (fun c => ?_) (fun c => Ok.ret (Or.inl ⟨j, by omega, rfl, Classical.not_not.mp (fun q => c (hu.z.mpr q)), d9⟩))
    apply hk
    refine ⟨rfl, rfl, rfl, rfl, rfl, rfl, rfl, nI_1 j, fun k hk => ?_⟩
    by_cases e : k = j
    · subst e; exact hu.z.mp c
    · exact d9 k (by omega)
  · rintro kk c sd go gu ho row ta to x1 x2 ⟨d1, d2, d3, d4, d5, d6, d7, d8, d9⟩
    subst d1 d2 d3 d4 d5 d6 d7 d8
    unfold t_X11_byTaking_2_b
    exact Ok.pos (by decide) (Ok.ret (Or.inr ⟨rfl, fun k hk => d9 k (by omega)⟩))
  · exact ⟨rfl, rfl, rfl, rfl, rfl, rfl, rfl, rfl, fun k hk => absurd hk (Nat.not_lt_zero k)⟩
theorem lessP_0 (P : Nat → Int32) {x : Int32} (s : Nat) : lessP P x 0 s = P s := by
  unfold lessP
  split <;> rw [Int32.sub_zero]
