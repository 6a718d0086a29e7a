-- points, goals and places
noncomputable def dc (p : Prop) : Bool := @decide p (Classical.propDecidable p)
theorem dc_t {p : Prop} : dc p = true ↔ p := by unfold dc; exact @decide_eq_true_iff p (Classical.propDecidable p)
theorem dc_y {p : Prop} (h : p) : dc p = true := dc_t.mpr h
theorem dc_n {p : Prop} (h : ¬ p) : dc p = false := by
  cases e : dc p
  · rfl
  · exact absurd (dc_t.mp e) h
def pts (x : Int32) : Int32 := if x ≤ 0 then (if x = 0 then 1 else 0) else 3
def ptV (goals home guest taken : Nat → Int32) (s : Nat) : Nat → Int32
  | 0 => -(taken s)
  | m + 1 => ptV goals home guest taken s m + (if home m = nI s then pts (ld goals m 6) else 0) + (if guest m = nI s then pts (-(ld goals m 6)) else 0)
def ofV (goals home guest : Nat → Int32) (s : Nat) : Nat → Int32
  | 0 => 0
  | m + 1 => ofV goals home guest s m + (if home m = nI s then ld goals m 6 else if guest m = nI s then -(ld goals m 6) else 0)
def plP (home guest : Nat → Int32) (n s : Nat) : Prop := ∃ m, m < n ∧ (home m = nI s ∨ guest m = nI s)
theorem plP_s {home guest : Nat → Int32} {n s : Nat} : plP home guest (n + 1) s ↔ plP home guest n s ∨ home n = nI s ∨ guest n = nI s := by
  constructor
  · rintro ⟨m, h1, h2⟩
    by_cases e : m = n
    · subst e; exact Or.inr h2
    · exact Or.inl ⟨m, by omega, h2⟩
  · rintro (⟨m, h1, h2⟩ | h)
    · exact ⟨m, by omega, h2⟩
    · exact ⟨n, by omega, h⟩
theorem eb_h (x : Int32) : (if eb x = 0 then (3 : Int32) else if eb x = 1 then 1 else 0) = pts x := by
  unfold eb pts
  by_cases c1 : x ≤ 0
  · by_cases c2 : x = 0
    · simp [c2]
    · simp [c1, c2]
  · simp [c1]
theorem ld_r (goals : Nat → Int32) (m : Nat) : (ld goals m 6).toInt = (sc goals m 6 1 : Int) - sc goals m 6 2 := by
  have h1 := sc_le goals m 6 1
  have h2 := sc_le goals m 6 2
  unfold ld
  exact pk_sub_toInt (by omega) (by omega)
theorem ld_n (goals : Nat → Int32) (m : Nat) : (-(ld goals m 6)).toInt = (sc goals m 6 2 : Int) - sc goals m 6 1 := by
  have h1 := sc_le goals m 6 1
  have h2 := sc_le goals m 6 2
  have e : -(ld goals m 6) = nI (sc goals m 6 2) - nI (sc goals m 6 1) := by unfold ld; grind
  rw [e]
  exact pk_sub_toInt (by omega) (by omega)
theorem eb_g (goals : Nat → Int32) (m : Nat) : (if eb (ld goals m 6) = 2 then (3 : Int32) else if eb (ld goals m 6) = 1 then 1 else 0) = pts (-(ld goals m 6)) := by
  have h1 := ld_r goals m
  have h2 := ld_n goals m
  generalize ld goals m 6 = x at *
  have e0 : (0 : Int32).toInt = 0 := rfl
  have a1 : x ≤ 0 ↔ x.toInt ≤ 0 := by rw [i_le, e0]
  have a2 : x = 0 ↔ x.toInt = 0 := by rw [← Int32.toInt_inj, e0]
  have a3 : -x ≤ 0 ↔ (-x).toInt ≤ 0 := by rw [i_le, e0]
  have a4 : -x = 0 ↔ (-x).toInt = 0 := by rw [← Int32.toInt_inj, e0]
  unfold eb pts
  by_cases c1 : x ≤ 0
  · by_cases c2 : x = 0
    · rw [if_pos c1, if_pos c2, if_pos (a3.mpr (by rw [a2] at c2; omega)), if_pos (a4.mpr (by rw [a2] at c2; omega))]; rfl
    · rw [if_pos c1, if_neg c2, if_neg (show ¬ -x ≤ 0 from fun q => by rw [a3] at q; rw [a2] at c2; rw [a1] at c1; omega)]; rfl
  · rw [if_neg c1, if_pos (a3.mpr (by rw [a1] at c1; omega)), if_neg (show ¬ -x = 0 from fun q => by rw [a4] at q; rw [a1] at c1; omega)]; rfl
theorem plays_ok {n s : Nat} (hn : n ≤ 12) (home guest : Nat → Int32) : Ok (t_X11_plays (nI n) guest home (nI s)) (fun u => Bz u (plP home guest n s)) := by
  unfold t_X11_plays
  refine lr_X11_plays_4 _ (fun i c gu ho x1 x2 x3 => nI n = c ∧ guest = gu ∧ home = ho ∧ x1 = nI s ∧ x3 = nI i ∧ Bz x2 (plP home guest i s)) n ?_ ?_ lfuel 0 _ _ _ _ _ _ (Nat.zero_le _) (by unfold lfuel; omega) ?_
  · rintro kk i c gu ho x1 x2 x3 hi ⟨d1, d2, d3, d4, d5, d6⟩ hk
    subst d1 d2 d3 d4 d5
    unfold t_X11_plays_4_b t_X11_plays_36 t_X11_plays_41
    rw [nI_clamp (by omega), ckn_m (by omega) (by decide), ckn_m (by omega) (by decide)]
    refine Ok.neg (nI_ge hi (by omega)) (Ok.ite (fun c => Ok.ite (fun c2 => ?_) (fun c2 => Ok.ite (fun c3 => ?_) (fun c3 => ?_))) (fun c => ?_))
    · apply hk
      exact ⟨rfl, rfl, rfl, rfl, nI_1 i, Bz.t (plP_s.mpr (Or.inr (Or.inl c2)))⟩
    · apply hk
      exact ⟨rfl, rfl, rfl, rfl, nI_1 i, Bz.t (plP_s.mpr (Or.inr (Or.inr c3)))⟩
    · apply hk
      refine ⟨rfl, rfl, rfl, rfl, nI_1 i, Bz.f (fun q => ?_)⟩
      rcases plP_s.mp q with q | q | q
      · exact d6.z.mp c q
      · exact c2 q
      · exact c3 q
    · apply hk
      exact ⟨rfl, rfl, rfl, rfl, nI_1 i, Bz.t (plP_s.mpr (Or.inl (Classical.not_not.mp (fun q => c (d6.z.mpr q)))))⟩
  · rintro kk c gu ho x1 x2 x3 ⟨d1, d2, d3, d4, d5, d6⟩
    subst d1 d2 d3 d4 d5
    unfold t_X11_plays_4_b
    exact Ok.pos (nI_le (Nat.le_refl _) (by omega)) (Ok.ck d6.b (Ok.ret d6))
  · exact ⟨rfl, rfl, rfl, rfl, rfl, Bz.f (fun ⟨m, h, _⟩ => absurd h (Nat.not_lt_zero m))⟩
theorem pointsOf_ok {n s : Nat} (hn : n ≤ 12) (hs : s < 8) (goals home guest taken : Nat → Int32) : t_X11_pointsOf (nI n) goals guest home taken (nI s) = some (ptV goals home guest taken s n) := by
  apply Ok.to
  unfold t_X11_pointsOf
  rw [nI_clamp (by omega), ckn_m hs (by decide)]
  refine lr_X11_pointsOf_10 _ (fun i c go gu ho ta x1 x2 x3 => nI n = c ∧ goals = go ∧ guest = gu ∧ home = ho ∧ x1 = nI s ∧ x3 = nI i ∧ x2 = ptV goals home guest taken s i) n ?_ ?_ lfuel 0 _ _ _ _ _ _ _ _ (Nat.zero_le _) (by unfold lfuel; omega) ?_
  · rintro kk i c go gu ho ta x1 x2 x3 hi ⟨d1, d2, d3, d4, d5, d6, d7⟩ hk
    subst d1 d2 d3 d4 d5 d6 d7
    unfold t_X11_pointsOf_10_b t_X11_pointsOf_60 t_X11_pointsOf_98
    rw [endOf_ok2 (by omega), bd1_s, nI_clamp (by omega)]
    simp only [ckn_m (show i < 12 by omega) (show 12 < 2 ^ 31 by decide)]
    have hp := eb_h (ld goals i 6)
    have gp := eb_g goals i
    have fin : ∀ h g : Int32, h = (if home i = nI s then pts (ld goals i 6) else 0) → g = (if guest i = nI s then pts (-(ld goals i 6)) else 0) → Ok (kk (nI n) goals guest home ta (nI s) (ptV goals home guest taken s i + h + g) (nI i + 1)) (fun w => w = ptV goals home guest taken s n) := by
      intro h g e1 e2
      apply hk
      exact ⟨rfl, rfl, rfl, rfl, rfl, nI_1 i, by rw [ptV, e1, e2]⟩
    have gg : ∀ h : Int32, h = (if home i = nI s then pts (ld goals i 6) else 0) → Ok (if guest i = nI s then if eb (ld goals i 6) = 2 then kk (nI n) goals guest home ta (nI s) (ptV goals home guest taken s i + h + 3) (nI i + 1) else if eb (ld goals i 6) = 1 then kk (nI n) goals guest home ta (nI s) (ptV goals home guest taken s i + h + 1) (nI i + 1) else kk (nI n) goals guest home ta (nI s) (ptV goals home guest taken s i + h + 0) (nI i + 1) else kk (nI n) goals guest home ta (nI s) (ptV goals home guest taken s i + h + 0) (nI i + 1)) (fun w => w = ptV goals home guest taken s n) := by
      intro h e1
      refine Ok.ite (fun c1 => Ok.ite (fun c2 => fin h 3 e1 ?_) (fun c2 => Ok.ite (fun c3 => fin h 1 e1 ?_) (fun c3 => fin h 0 e1 ?_))) (fun c1 => fin h 0 e1 ?_)
      · rw [if_pos c1, ← gp, if_pos c2]
      · rw [if_pos c1, ← gp, if_neg c2, if_pos c3]
      · rw [if_pos c1, ← gp, if_neg c2, if_neg c3]
      · rw [if_neg c1]
    refine Ok.neg (nI_ge hi (by omega)) (Ok.ite (fun c1 => Ok.ite (fun c2 => gg 3 ?_) (fun c2 => Ok.ite (fun c3 => gg 1 ?_) (fun c3 => gg 0 ?_))) (fun c1 => gg 0 ?_))
    · rw [if_pos c1, ← hp, if_pos c2]
    · rw [if_pos c1, ← hp, if_neg c2, if_pos c3]
    · rw [if_pos c1, ← hp, if_neg c2, if_neg c3]
    · rw [if_neg c1]
  · rintro kk c go gu ho ta x1 x2 x3 ⟨d1, d2, d3, d4, d5, d6, d7⟩
    subst d1 d2 d3 d4 d5 d6 d7
    unfold t_X11_pointsOf_10_b
    exact Ok.pos (nI_le (Nat.le_refl _) (by omega)) (Ok.ret rfl)
  · exact ⟨rfl, rfl, rfl, rfl, rfl, rfl, rfl⟩
theorem offOf_ok {n s : Nat} (hn : n ≤ 12) (goals home guest : Nat → Int32) : t_X11_offOf (nI n) goals guest home (nI s) = some (ofV goals home guest s n) := by
  apply Ok.to
  unfold t_X11_offOf
  refine lr_X11_offOf_4 _ (fun i c go gu ho x1 x2 x3 => nI n = c ∧ goals = go ∧ guest = gu ∧ home = ho ∧ x1 = nI s ∧ x3 = nI i ∧ x2 = ofV goals home guest s i) n ?_ ?_ lfuel 0 _ _ _ _ _ _ _ (Nat.zero_le _) (by unfold lfuel; omega) ?_
  · rintro kk i c go gu ho x1 x2 x3 hi ⟨d1, d2, d3, d4, d5, d6, d7⟩ hk
    subst d1 d2 d3 d4 d5 d6 d7
    unfold t_X11_offOf_4_b t_X11_offOf_64
    rw [show (6 : Int32) = nI 6 from rfl, scored_ok (by omega) (by omega), bd1_s, scored_ok (by omega) (by omega), bd1_s, nI_clamp (by omega), ckn_m (by omega) (by decide), ckn_m (by omega) (by decide)]
    refine Ok.neg (nI_ge hi (by omega)) (Ok.ite (fun c => ?_) (fun c => Ok.ite (fun c2 => ?_) (fun c2 => ?_)))
    · apply hk
      refine ⟨rfl, rfl, rfl, rfl, rfl, nI_1 i, ?_⟩
      rw [ofV, if_pos c]; rfl
    · apply hk
      refine ⟨rfl, rfl, rfl, rfl, rfl, nI_1 i, ?_⟩
      rw [ofV, if_neg c, if_pos c2]; rfl
    · apply hk
      refine ⟨rfl, rfl, rfl, rfl, rfl, nI_1 i, ?_⟩
      rw [ofV, if_neg c, if_neg c2]
  · rintro kk c go gu ho x1 x2 x3 ⟨d1, d2, d3, d4, d5, d6, d7⟩
    subst d1 d2 d3 d4 d5 d6 d7
    unfold t_X11_offOf_4_b
    exact Ok.pos (nI_le (Nat.le_refl _) (by omega)) (Ok.ret rfl)
  · exact ⟨rfl, rfl, rfl, rfl, rfl, rfl, rfl⟩
theorem nar0 : vp_nar .boolean 0 = 0 := by first | rfl | decide | simp [vp_nar]
theorem nar1 : vp_nar .boolean 1 = 1 := by first | rfl | decide | simp [vp_nar]
theorem score_ok {s : Nat} (hs : s < 8) (bal pl pt : Nat → Int32) (x : Int32) : t_X6_score bal pl pt (nI s) x = some (upd bal s (bal s + x), upd pl s 1, upd pt s (pt s + pts x)) := by
  unfold t_X6_score t_X6_score_41 pts
  rw [nI_clamp (by omega), ckn_m hs (by decide), ckn_m hs (by decide), ckn_m hs (by decide), ckn_m hs (by decide), ckn_m hs (by decide), ckn_m hs (by decide), ckn_m hs (by decide), nar1]
  by_cases c1 : x ≤ 0
  · by_cases c2 : x = 0
    · rw [if_pos c1, if_pos c2, if_pos c1, if_pos c2]
    · rw [if_pos c1, if_neg c2, if_pos c1, if_neg c2]
  · rw [if_neg c1, if_neg c1]
theorem reckon_ok {n : Nat} (hn : n ≤ 12) {goals home guest taken : Nat → Int32} (g6 : ∀ j, j < n → rg (home j) 8) (g7 : ∀ j, j < n → rg (guest j) 8) (g8 : ∀ j, j < n → home j ≠ guest j) (sz0 : Int32) (ba0 pl0 pt0 : Nat → Int32) : Ok (t_X6_reckon (nI n) sz0 goals guest home ba0 pl0 pt0 taken) (fun v => v.1 = nI (fa_cnt (fun s => dc (plP home guest n s)) 8) ∧ (∀ s, s < 8 → v.2.1 s = ofV goals home guest s n) ∧ (∀ s, s < 8 → Bz (v.2.2.1 s) (plP home guest n s)) ∧ ∀ s, s < 8 → v.2.2.2 s = ptV goals home guest taken s n) := by
  unfold t_X6_reckon
  refine lr_X6_reckon_2 _ (fun i c sz go gu ho ba pl pt ta x2 => nI n = c ∧ goals = go ∧ guest = gu ∧ home = ho ∧ taken = ta ∧ x2 = nI i ∧ (∀ s, s < i → ba s = 0) ∧ (∀ s, s < i → pl s = 0) ∧ ∀ s, s < i → pt s = -(taken s)) 8 ?_ ?_ lfuel 0 _ _ _ _ _ _ _ _ _ _ (Nat.zero_le _) (by unfold lfuel; omega) ?_
  · rintro kk i c sz go gu ho ba pl pt ta x2 hi ⟨d1, d2, d3, d4, d5, d6, d7, d8, d9⟩ hk
    subst d1 d2 d3 d4 d5 d6
    unfold t_X6_reckon_2_b
    rw [nI_clamp (by omega), ckn_m hi (by decide), ckn_m hi (by decide), ckn_m hi (by decide), ckn_m hi (by decide), nar0]
    refine Ok.neg (nI_ge (b := 8) hi (by decide)) ?_
    apply hk
    refine ⟨rfl, rfl, rfl, rfl, rfl, nI_1 i, fun s hs => ?_, fun s hs => ?_, fun s hs => ?_⟩
    · by_cases e : s = i
      · subst e; exact pk_us
      · rw [pk_un e]; exact d7 s (by omega)
    · by_cases e : s = i
      · subst e; exact pk_us
      · rw [pk_un e]; exact d8 s (by omega)
    · by_cases e : s = i
      · subst e; exact pk_us
      · rw [pk_un e]; exact d9 s (by omega)
  · rintro kk0 c sz go gu ho ba pl pt ta x2 ⟨d1, d2, d3, d4, d5, d6, d7, d8, d9⟩
    subst d1 d2 d3 d4 d5 d6
    unfold t_X6_reckon_2_b t_X6_reckon_41
    refine Ok.pos (by decide) ?_
    refine lr_X6_reckon_43 _ (fun i c sz go gu ho ba pl pt ta x2 => nI n = c ∧ goals = go ∧ guest = gu ∧ home = ho ∧ x2 = nI i ∧ (∀ s, s < 8 → ba s = ofV goals home guest s i) ∧ (∀ s, s < 8 → Bz (pl s) (plP home guest i s)) ∧ ∀ s, s < 8 → pt s = ptV goals home guest taken s i) n ?_ ?_ lfuel 0 _ _ _ _ _ _ _ _ _ _ (Nat.zero_le _) (by unfold lfuel; omega) ?_
    · clear d7 d8 d9
      rintro kk i c sz go gu ho ba pl pt ta x2 hi ⟨d1, d2, d3, d4, d5, d6, d7, d8⟩ hk
      subst d1 d2 d3 d4 d5
      unfold t_X6_reckon_43_b
      obtain ⟨a, a1, a2⟩ := g6 i hi
      obtain ⟨b, b1, b2⟩ := g7 i hi
      have hab : a ≠ b := fun e => g8 i hi (by rw [a2, b2, e])
      rw [show (6 : Int32) = nI 6 from rfl, lead_ok (by omega) (by omega), bd1_s, nI_clamp (by omega), ckn_m (by omega) (by decide), a2, score_ok a1, bd3_s, ckn_m (by omega) (by decide), b2, score_ok b1, bd3_s]
      refine Ok.neg (nI_ge hi (by omega)) ?_
      apply hk
      have na : ∀ s, s < 8 → (home i = nI s ↔ s = a) := fun s hs => by rw [a2, nI_eq (by omega) (by omega)]; exact ⟨fun e => e.symm, fun e => e.symm⟩
      have nb : ∀ s, s < 8 → (guest i = nI s ↔ s = b) := fun s hs => by rw [b2, nI_eq (by omega) (by omega)]; exact ⟨fun e => e.symm, fun e => e.symm⟩
      refine ⟨rfl, rfl, rfl, rfl, nI_1 i, fun s hs => ?_, fun s hs => ?_, fun s hs => ?_⟩
      · rw [ofV]
        by_cases e : s = b
        · subst e
          rw [pk_us, pk_un (fun e => hab e.symm), d6 s hs, if_neg (fun q => hab ((na s hs).mp q).symm), if_pos ((nb s hs).mpr rfl)]
        · rw [pk_un e]
          by_cases e2 : s = a
          · subst e2
            rw [pk_us, d6 s hs, if_pos ((na s hs).mpr rfl)]
          · rw [pk_un e2, d6 s hs, if_neg (fun q => e2 ((na s hs).mp q)), if_neg (fun q => e ((nb s hs).mp q)), Int32.add_zero]
      · by_cases e : s = b
        · subst e
          rw [pk_us]
          exact Bz.t (plP_s.mpr (Or.inr (Or.inr ((nb s hs).mpr rfl))))
        · rw [pk_un e]
          by_cases e2 : s = a
          · subst e2
            rw [pk_us]
            exact Bz.t (plP_s.mpr (Or.inr (Or.inl ((na s hs).mpr rfl))))
          · rw [pk_un e2]
            refine (d7 s hs).iff ⟨fun q => plP_s.mpr (Or.inl q), fun q => ?_⟩
            rcases plP_s.mp q with q | q | q
            · exact q
            · exact absurd ((na s hs).mp q) e2
            · exact absurd ((nb s hs).mp q) e
      · rw [ptV]
        by_cases e : s = b
        · subst e
          rw [pk_us, pk_un (fun e => hab e.symm), d8 s hs, if_neg (fun q => hab ((na s hs).mp q).symm), if_pos ((nb s hs).mpr rfl), Int32.add_zero]
        · rw [pk_un e]
          by_cases e2 : s = a
          · subst e2
            rw [pk_us, d8 s hs, if_pos ((na s hs).mpr rfl), if_neg (fun q => e ((nb s hs).mp q)), Int32.add_zero]
          · rw [pk_un e2, d8 s hs, if_neg (fun q => e2 ((na s hs).mp q)), if_neg (fun q => e ((nb s hs).mp q)), Int32.add_zero, Int32.add_zero]
    · clear d7 d8 d9
      rintro kk c sz go gu ho ba pl pt ta x2 ⟨d1, d2, d3, d4, d5, d6, d7, d8⟩
      subst d1 d2 d3 d4 d5
      unfold t_X6_reckon_43_b t_X6_reckon_88
      refine Ok.pos (nI_le (Nat.le_refl _) (by omega)) ?_
      refine lr_X6_reckon_95 _ (fun i c sz go gu ho ba' pl' pt' ta x2 => ba = ba' ∧ pl = pl' ∧ pt = pt' ∧ x2 = nI i ∧ sz = nI (fa_cnt (fun s => dc (plP home guest n s)) i)) 8 ?_ ?_ lfuel 0 _ _ _ _ _ _ _ _ _ _ (Nat.zero_le _) (by unfold lfuel; omega) ?_
      · rintro kk i c sz go gu ho ba' pl' pt' ta x2 hi ⟨d1, d2, d3, d4, d5⟩ hk
        subst d1 d2 d3 d4 d5
        unfold t_X6_reckon_95_b
        rw [nI_clamp (by omega), ckn_m hi (by decide), asNb (d7 i hi), bd1_s]
        refine Ok.neg (nI_ge (b := 8) hi (by decide)) ?_
        apply hk
        refine ⟨rfl, rfl, rfl, nI_1 i, ?_⟩
        rcases d7 i hi with ⟨e, q⟩ | ⟨e, q⟩
        · rw [e, fa_cnt_yes (dc_y q), nI_1]
        · rw [e, fa_cnt_no (dc_n q), Int32.add_zero]
      · rintro kk c sz go gu ho ba' pl' pt' ta x2 ⟨d1, d2, d3, d4, d5⟩
        subst d1 d2 d3 d4
        unfold t_X6_reckon_95_b
        exact Ok.pos (by decide) (Ok.ret ⟨d5, d6, d7, d8⟩)
      · exact ⟨rfl, rfl, rfl, rfl, rfl⟩
    · exact ⟨rfl, rfl, rfl, rfl, rfl, fun s hs => d7 s hs, fun s hs => by rw [d8 s hs]; exact Bz.f (fun ⟨m, h, _⟩ => absurd h (Nat.not_lt_zero m)), fun s hs => d9 s hs⟩
  · exact ⟨rfl, rfl, rfl, rfl, rfl, rfl, fun s hs => absurd hs (Nat.not_lt_zero s), fun s hs => absurd hs (Nat.not_lt_zero s), fun s hs => absurd hs (Nat.not_lt_zero s)⟩
-- who is ahead
def AH (P B : Nat → Int32) (a b : Nat) : Prop := P b < P a ∨ (P a = P b ∧ (B b < B a ∨ (B a = B b ∧ a < b)))
theorem AH.irr {P B : Nat → Int32} {a : Nat} : ¬ AH P B a a := by
  rintro (h | ⟨_, h | ⟨_, h⟩⟩)
  · rw [i_lt] at h; omega
  · rw [i_lt] at h; omega
  · omega
theorem AH.tr {P B : Nat → Int32} {a b c : Nat} (h1 : AH P B a b) (h2 : AH P B b c) : AH P B a c := by
  unfold AH at *
  rw [i_lt, ← Int32.toInt_inj, i_lt, ← Int32.toInt_inj] at *
  omega
theorem AH.tot {P B : Nat → Int32} {a b : Nat} (h : a ≠ b) : AH P B a b ∨ AH P B b a := by
  unfold AH
  rw [i_lt, ← Int32.toInt_inj, i_lt, ← Int32.toInt_inj, i_lt, ← Int32.toInt_inj, i_lt, ← Int32.toInt_inj]
  omega
theorem AH.asym {P B : Nat → Int32} {a b : Nat} (h1 : AH P B a b) (h2 : AH P B b a) : False := AH.irr (h1.tr h2)
theorem AH.congr {P B P' B' : Nat → Int32} {a b : Nat} (h1 : P a = P' a) (h2 : P b = P' b) (h3 : B a = B' a) (h4 : B b = B' b) : AH P B a b ↔ AH P' B' a b := by
  unfold AH
  rw [h1, h2, h3, h4]
noncomputable def rkC (pl : Nat → Prop) (P B : Nat → Int32) (x : Nat) : Nat := fa_cnt (fun i => dc (pl i ∧ AH P B i x)) 8
theorem isAhead_ok {a b : Nat} (ha : a < 8) (hb : b < 8) (bal pt : Nat → Int32) : Ok (t_X6_isAhead bal pt (nI a) (nI b)) (fun u => Bz u (AH pt bal a b)) := by
  unfold t_X6_isAhead t_X6_isAhead_82 t_X6_isAhead_71 t_X6_isAhead_35
  simp only [nI_clamp (show a < 2 ^ 31 by omega), nI_clamp (show b < 2 ^ 31 by omega), ckn_m ha (show 8 < 2 ^ 31 by decide), ckn_m hb (show 8 < 2 ^ 31 by decide)]
  rw [ckn_f (by decide), ckn_f (by decide)]
  refine Ok.ite (fun c1 => Ok.ite (fun c2 => Ok.ite (fun c3 => Ok.ret (Bz.f ?_)) (fun c3 => Ok.ret (Bz.t ?_))) (fun c2 => Ok.ite (fun c3 => Ok.ret (Bz.f ?_)) (fun c3 => Ok.ret (Bz.t ?_)))) (fun c1 => Ok.ite (fun c3 => Ok.ret (Bz.f ?_)) (fun c3 => Ok.ret (Bz.t ?_)))
  · rw [nI_leI (by omega) (by omega)] at c3
    rintro (q | ⟨_, q | ⟨_, q⟩⟩)
    · rw [c1, i_lt] at q; omega
    · rw [c2, i_lt] at q; omega
    · omega
  · rw [nI_leI (by omega) (by omega)] at c3
    exact Or.inr ⟨c1, Or.inr ⟨c2, by omega⟩⟩
  · rintro (q | ⟨_, q | ⟨q, _⟩⟩)
    · rw [c1, i_lt] at q; omega
    · rw [i_lt] at q; rw [i_le] at c3; omega
    · exact c2 q
  · exact Or.inr ⟨c1, Or.inl (fa_of_nle c3)⟩
  · rintro (q | ⟨q, _⟩)
    · rw [i_lt] at q; rw [i_le] at c3; omega
    · exact c1 q
  · exact Or.inl (fa_of_nle c3)
theorem rkC_cong {pl : Nat → Prop} {P B P' B' : Nat → Int32} (h1 : ∀ s, s < 8 → P s = P' s) (h2 : ∀ s, s < 8 → B s = B' s) {x : Nat} (hx : x < 8) : rkC pl P B x = rkC pl P' B' x := by
  unfold rkC
  refine fa_cnt_cong (fun k hk => ?_)
  have := AH.congr (h1 k hk) (h1 x hx) (h2 k hk) (h2 x hx)
  rw [this]
theorem placeOf_ok {pl : Nat → Prop} {bal pa pt : Nat → Int32} (hpl : ∀ s, s < 8 → Bz (pa s) (pl s)) {x : Nat} (hx : x < 8) : t_X6_placeOf bal pa pt (nI x) = some (nI (rkC pl pt bal x)) := by
  apply Ok.to
  unfold t_X6_placeOf rkC
  refine lr_X6_placeOf_4 _ (fun i ba pa' pt' x1 x2 x3 => bal = ba ∧ pa = pa' ∧ pt = pt' ∧ x1 = nI x ∧ x3 = nI i ∧ x2 = nI (fa_cnt (fun i => dc (pl i ∧ AH pt bal i x)) i)) 8 ?_ ?_ lfuel 0 _ _ _ _ _ _ (Nat.zero_le _) (by unfold lfuel; omega) ?_
  · rintro kk i ba pa' pt' x1 x2 x3 hi ⟨d1, d2, d3, d4, d5, d6⟩ hk
    subst d1 d2 d3 d4 d5 d6
    unfold t_X6_placeOf_4_b t_X6_placeOf_31
    rw [nI_clamp (by omega), ckn_m hi (by decide)]
    have no : ¬ (pl i ∧ AH pt bal i x) → Ok (kk bal pa pt (nI x) (nI (fa_cnt (fun i => dc (pl i ∧ AH pt bal i x)) i)) (nI i + 1)) (fun w => w = nI (fa_cnt (fun i => dc (pl i ∧ AH pt bal i x)) 8)) := by
      intro h
      apply hk
      exact ⟨rfl, rfl, rfl, rfl, nI_1 i, by rw [fa_cnt_no (p := fun i => dc (pl i ∧ AH pt bal i x)) (dc_n h)]⟩
    refine Ok.neg (nI_ge (b := 8) hi (by decide)) (Ok.ite (fun c => no (fun q => (hpl i hi).z.mp c q.1)) (fun c => Ok.bd1 (isAhead_ok hi hx bal pt) (fun v hv => Ok.ite (fun c2 => no (fun q => hv.z.mp c2 q.2)) (fun c2 => ?_))))
    apply hk
    refine ⟨rfl, rfl, rfl, rfl, nI_1 i, ?_⟩
    rw [fa_cnt_yes (p := fun i => dc (pl i ∧ AH pt bal i x)) (dc_y ⟨Classical.not_not.mp (fun q => c ((hpl i hi).z.mpr q)), Classical.not_not.mp (fun q => c2 (hv.z.mpr q))⟩), nI_1]
  · rintro kk ba pa' pt' x1 x2 x3 ⟨d1, d2, d3, d4, d5, d6⟩
    subst d1 d2 d3 d4 d5 d6
    unfold t_X6_placeOf_4_b
    exact Ok.pos (by decide) (Ok.ret rfl)
  · exact ⟨rfl, rfl, rfl, rfl, rfl, rfl⟩
theorem rkC_le (pl : Nat → Prop) (P B : Nat → Int32) (x : Nat) : rkC pl P B x ≤ 8 := fa_cnt_le _ 8
theorem sideAt_ok {pl : Nat → Prop} {bal pa pt : Nat → Int32} (hpl : ∀ s, s < 8 → Bz (pa s) (pl s)) (x : Int32) : Ok (t_X6_sideAt bal pa pt x) (fun v => (∃ i, i < 8 ∧ pl i ∧ nI (rkC pl pt bal i) = x ∧ v = nI i) ∨ (v = -6 ∧ ∀ i, i < 8 → pl i → nI (rkC pl pt bal i) ≠ x)) := by
  unfold t_X6_sideAt
  refine lr_X6_sideAt_2 _ (fun i ba pa' pt' x1 x2 => bal = ba ∧ pa = pa' ∧ pt = pt' ∧ x = x1 ∧ x2 = nI i ∧ ∀ j, j < i → pl j → nI (rkC pl pt bal j) ≠ x) 8 ?_ ?_ lfuel 0 _ _ _ _ _ (Nat.zero_le _) (by unfold lfuel; omega) ?_
  · rintro kk i ba pa' pt' x1 x2 hi ⟨d1, d2, d3, d4, d5, d6⟩ hk
    subst d1 d2 d3 d4 d5
    unfold t_X6_sideAt_2_b t_X6_sideAt_28
    rw [nI_clamp (by omega), ckn_m hi (by decide), placeOf_ok hpl hi, bd1_s]
    refine Ok.neg (nI_ge (b := 8) hi (by decide)) (Ok.ite (fun c => ?_) (fun c => Ok.ite (fun c2 => Ok.ret (Or.inl ⟨i, hi, Classical.not_not.mp (fun q => c ((hpl i hi).z.mpr q)), c2, rfl⟩)) (fun c2 => ?_)))
    · apply hk
      refine ⟨rfl, rfl, rfl, rfl, nI_1 i, fun j hj hp => ?_⟩
      by_cases e : j = i
      · subst e; exact absurd hp ((hpl j hi).z.mp c)
      · exact d6 j (by omega) hp
    · apply hk
      refine ⟨rfl, rfl, rfl, rfl, nI_1 i, fun j hj hp => ?_⟩
      by_cases e : j = i
      · subst e; exact c2
      · exact d6 j (by omega) hp
  · rintro kk ba pa' pt' x1 x2 ⟨d1, d2, d3, d4, d5, d6⟩
    subst d1 d2 d3 d4 d5
    unfold t_X6_sideAt_2_b
    exact Ok.pos (by decide) (Ok.ret (Or.inr ⟨rfl, d6⟩))
  · exact ⟨rfl, rfl, rfl, rfl, rfl, fun j hj => absurd hj (Nat.not_lt_zero j)⟩
theorem down_t {sz dn r : Nat} (h1 : sz ≤ 8) (h2 : dn ≤ 4) (h3 : r ≤ 8) : nI r < nI sz - nI dn ↔ ¬ sz ≤ r + dn := by
  rw [i_lt, pk_sub_toInt (by omega) (by omega), nI_toInt (by omega)]
  omega
theorem isDown_ok {pl : Nat → Prop} {bal pa pt : Nat → Int32} (hpl : ∀ s, s < 8 → Bz (pa s) (pl s)) {x sz dn : Nat} (hx : x < 8) (h1 : sz ≤ 8) (h2 : dn ≤ 4) : Ok (t_X6_isDown (nI dn) (nI sz) bal pa pt (nI x)) (fun u => Bz u (sz ≤ rkC pl pt bal x + dn)) := by
  unfold t_X6_isDown t_X6_isDown_22
  rw [placeOf_ok hpl hx, bd1_s, ckn_f (by decide), ckn_f (by decide)]
  have := rkC_le pl pt bal x
  refine Ok.ite (fun c => Ok.ret (Bz.f ?_)) (fun c => Ok.ret (Bz.t ?_))
  · rw [down_t h1 h2 this] at c; exact c
  · rw [down_t h1 h2 this] at c; exact Classical.not_not.mp c
def lessP (P : Nat → Int32) (x : Int32) (less : Int32) (s : Nat) : Int32 := P s - (if nI s = x then less else 0)
theorem taking_ok {pl : Nat → Prop} {bal pa pt : Nat → Int32} (hpl : ∀ s, s < 8 → Bz (pa s) (pl s)) {x sz dn : Nat} (hx : x < 8) (h1 : sz ≤ 8) (h2 : dn ≤ 4) : Ok (t_X6_takingToGoDown (nI dn) (nI sz) bal pa pt (nI x)) (fun v => (∃ m, m ≤ 200 ∧ v.1 = nI m ∧ sz ≤ rkC pl (lessP pt (nI x) (nI m)) bal x + dn ∧ ∀ k, k < m → ¬ sz ≤ rkC pl (lessP pt (nI x) (nI k)) bal x + dn) ∨ (v.1 = -6 ∧ ∀ k, k ≤ 200 → ¬ sz ≤ rkC pl (lessP pt (nI x) (nI k)) bal x + dn)) := by
  unfold t_X6_takingToGoDown
  rw [nI_clamp (by omega), ckn_m hx (by decide)]
  refine lr_X6_takingToGoDown_13 _ (fun j dd ss ba pa' pt' x1 x2 x3 x4 => nI dn = dd ∧ nI sz = ss ∧ bal = ba ∧ pa = pa' ∧ x1 = nI x ∧ pt x = x2 ∧ x4 = nI j ∧ (∀ s, s ≠ x → pt' s = pt s) ∧ ((x3 = -6 ∧ ∀ k, k < j → ¬ sz ≤ rkC pl (lessP pt (nI x) (nI k)) bal x + dn) ∨ (∃ m, m ≤ 200 ∧ x3 = nI m ∧ sz ≤ rkC pl (lessP pt (nI x) (nI m)) bal x + dn ∧ ∀ k, k < m → ¬ sz ≤ rkC pl (lessP pt (nI x) (nI k)) bal x + dn))) 201 ?_ ?_ lfuel 0 _ _ _ _ _ _ _ _ _ (Nat.zero_le _) (by unfold lfuel; omega) ?_
  · rintro kk j dd ss ba pa' pt' x1 x2 x3 x4 hj ⟨d1, d2, d3, d4, d5, d6, d7, d8, d9⟩ hk
    subst d1 d2 d3 d4 d5 d6 d7
    unfold t_X6_takingToGoDown_13_b t_X6_takingToGoDown_54 t_X6_takingToGoDown_48
    rw [nI_clamp (by omega), ckn_m hx (by decide), ckn_m hx (by decide)]
    refine Ok.neg (nI_nlt (b := 200) (a := 200) (Nat.le_refl _) (by decide) |> fun _ => fun q => by have := (nI_ltI (a := 200) (b := j) (by decide) (by omega)).mp q; omega) ?_
    rcases d9 with ⟨d9, d10⟩ | ⟨m, m1, m2, m3, m4⟩
    · subst d9
      refine Ok.pos rfl ?_
      have hcg : rkC pl (upd pt' x (pt x - nI j)) bal x = rkC pl (lessP pt (nI x) (nI j)) bal x := by
        refine rkC_cong (fun s hs => ?_) (fun _ _ => rfl) hx
        unfold lessP
        by_cases e : s = x
        · subst e; rw [pk_us, if_pos rfl]
        · rw [pk_un e, if_neg (nI_ne (by omega) (by omega) e), d8 s e, Int32.sub_zero]
      refine Ok.bd1 (isDown_ok hpl hx h1 h2) (fun v hv => ?_)
      rw [hcg] at hv
      refine Ok.ite (fun c => ?_) (fun c => ?_)
      · apply hk
        refine ⟨rfl, rfl, rfl, rfl, rfl, rfl, nI_1 j, fun s hs => by rw [pk_un hs]; exact d8 s hs, Or.inl ⟨rfl, fun k hk => ?_⟩⟩
        by_cases e : k = j
        · subst e; exact hv.z.mp c
        · exact d10 k (by omega)
      · apply hk
        exact ⟨rfl, rfl, rfl, rfl, rfl, rfl, nI_1 j, fun s hs => by rw [pk_un hs]; exact d8 s hs, Or.inr ⟨j, by omega, rfl, Classical.not_not.mp (fun q => c (hv.z.mpr q)), d10⟩⟩
    · subst m2
      exact Ok.neg (nI_m6 (by omega)) (Ok.ret (Or.inl ⟨m, m1, rfl, m3, m4⟩))
  · rintro kk dd ss ba pa' pt' x1 x2 x3 x4 ⟨d1, d2, d3, d4, d5, d6, d7, d8, d9⟩
    subst d1 d2 d3 d4 d5 d6 d7
    unfold t_X6_takingToGoDown_13_b t_X6_takingToGoDown_54
    rw [nI_clamp (by omega), ckn_m hx (by decide)]
    refine Ok.pos (by decide) (Ok.ret ?_)
    rcases d9 with ⟨d9, d10⟩ | ⟨m, m1, m2, m3, m4⟩
    · exact Or.inr ⟨d9, fun k hk => d10 k (by omega)⟩
    · exact Or.inl ⟨m, m1, m2, m3, m4⟩
  · exact ⟨rfl, rfl, rfl, rfl, rfl, rfl, rfl, fun _ _ => rfl, Or.inl ⟨rfl, fun k hk => absurd hk (Nat.not_lt_zero k)⟩⟩
