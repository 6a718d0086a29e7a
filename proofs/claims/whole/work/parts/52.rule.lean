-- needs 36 37 38 39
def stI (o : Option Nat) : Int32 := match o with
  | none => -1
  | some s => nI s
theorem dig_ok (x : Int32) : t_X1_isDigit x = some (if 48 ≤ x ∧ x ≤ 57 then 1 else 0) := by
  unfold t_X1_isDigit t_X1_isDigit_17
  rw [ckn_f (show ¬ ¬ ((0 : Int32) = 0 ∨ (0 : Int32) = 1) by decide), ckn_f (show ¬ ¬ ((1 : Int32) = 0 ∨ (1 : Int32) = 1) by decide)]
  by_cases h1 : x < 48
  · rw [if_pos h1, if_neg (fun h => by have := h.1; rw [i_le] at this; rw [i_lt] at h1; omega)]
  · rw [if_neg h1]
    by_cases h2 : 57 < x
    · rw [if_pos h2, if_neg (fun h => by have := h.2; rw [i_le] at this; rw [i_lt] at h2; omega)]
    · rw [if_neg h2, if_pos ⟨i_nlt.mp h1, i_nlt.mp h2⟩]
def isF (x : Int32) : Prop := x = 103 ∨ x = 104 ∨ x = 120 ∨ x = 114 ∨ x = 110
theorem factBy_ok (x : Int32) : ∃ k : Int32, t_X1_factBy x = some k ∧ (isF x → ∃ j : Nat, j < 5 ∧ k = nI j ∧ t_X11_factAt x = some (nI (j + 1))) ∧ (¬ isF x → k = -1 ∧ t_X11_factAt x = some (-6)) := by
  unfold t_X1_factBy t_X11_factAt t_X11_factAt_52 isF
  by_cases c1 : x = 103
  · subst c1; exact ⟨0, rfl, fun _ => ⟨0, by decide, rfl, rfl⟩, fun h => absurd (Or.inl rfl) h⟩
  · by_cases c2 : x = 104
    · subst c2; exact ⟨1, rfl, fun _ => ⟨1, by decide, rfl, rfl⟩, fun h => absurd (Or.inr (Or.inl rfl)) h⟩
    · by_cases c3 : x = 110
      · subst c3; exact ⟨4, rfl, fun _ => ⟨4, by decide, rfl, rfl⟩, fun h => absurd (Or.inr (Or.inr (Or.inr (Or.inr rfl)))) h⟩
      · by_cases c4 : x = 114
        · subst c4; exact ⟨3, rfl, fun _ => ⟨3, by decide, rfl, rfl⟩, fun h => absurd (Or.inr (Or.inr (Or.inr (Or.inl rfl)))) h⟩
        · by_cases c5 : x = 120
          · subst c5; exact ⟨2, rfl, fun _ => ⟨2, by decide, rfl, rfl⟩, fun h => absurd (Or.inr (Or.inr (Or.inl rfl))) h⟩
          · refine ⟨-1, by rw [if_neg c1, if_neg c2, if_neg c3, if_neg c4, if_neg c5], ?_, fun _ => ⟨rfl, by rw [if_neg c1, if_neg c2, if_neg c5, if_neg c4, if_neg c3]⟩⟩
            rintro (h | h | h | h | h)
            · exact absurd h c1
            · exact absurd h c2
            · exact absurd h c5
            · exact absurd h c4
            · exact absurd h c3
theorem auto0 (sg : Int32) : auto 0 sg = if sg = 103 ∨ sg = 104 ∨ sg = 120 ∨ sg = 114 ∨ sg = 110 then some 1 else none := rfl
theorem auto1 (sg : Int32) : auto 1 sg = if sg = 60 ∨ sg = 62 then some 2 else none := rfl
theorem auto2 {st : Nat} (h : 2 ≤ st) (sg : Int32) : auto st sg = if 48 ≤ sg ∧ sg ≤ 57 then (if st < 5 then some (st + 1) else none) else if 3 ≤ st ∧ (sg = 38 ∨ sg = 124) then some 0 else none := by
  unfold auto
  rw [if_neg (by omega), if_neg (by omega)]
theorem auto_le {st s : Nat} {sg : Int32} (h : auto st sg = some s) (hs : st ≤ 5) : s ≤ 5 := by
  rcases (show st = 0 ∨ st = 1 ∨ 2 ≤ st by omega) with rfl | rfl | h2
  · rw [auto0] at h; split at h
    · cases h; decide
    · cases h
  · rw [auto1] at h; split at h
    · cases h; decide
    · cases h
  · rw [auto2 h2] at h; split at h
    · split at h
      · cases h; omega
      · cases h
    · split at h
      · cases h; decide
      · cases h
theorem goOn_ok {st : Nat} (hs : st ≤ 5) (sg : Int32) : t_X1_goOn (nI st) sg = some (stI (auto st sg)) := by
  unfold t_X1_goOn t_X1_goOn_82 t_X1_goOn_77 t_X1_goOn_59 t_X1_goOn_39 t_X1_goOn_34 t_X1_goOn_16
  rcases (show st = 0 ∨ st = 1 ∨ 2 ≤ st by omega) with rfl | rfl | h2
  · rw [if_pos (show nI 0 = 0 from rfl), auto0]
    obtain ⟨k, ek, k1, k2⟩ := factBy_ok sg
    rw [ek, bd1_s]
    by_cases h : isF sg
    · obtain ⟨j, hj, rfl, -⟩ := k1 h
      rw [if_neg (nI_pos (by omega)), if_pos (show sg = 103 ∨ sg = 104 ∨ sg = 120 ∨ sg = 114 ∨ sg = 110 from h)]; rfl
    · obtain ⟨rfl, -⟩ := k2 h
      rw [if_pos (by decide), if_neg (show ¬ (sg = 103 ∨ sg = 104 ∨ sg = 120 ∨ sg = 114 ∨ sg = 110) from h)]; rfl
  · rw [if_neg (show ¬ nI 1 = 0 by decide), if_pos (show nI 1 = 1 from rfl), auto1]
    by_cases c1 : sg = 60
    · rw [if_pos c1, if_pos (Or.inl c1)]; rfl
    · rw [if_neg c1]
      by_cases c2 : sg = 62
      · rw [if_pos c2, if_pos (Or.inr c2)]; rfl
      · rw [if_neg c2, if_neg (fun q => q.elim c1 c2)]; rfl
  · rw [if_neg (fun q => by have := (nI_eq (a := st) (b := 0) (by omega) (by decide)).mp q; omega), if_neg (fun q => by have := (nI_eq (a := st) (b := 1) (by omega) (by decide)).mp q; omega), dig_ok, bd1_s, bz, auto2 h2]
    by_cases hd : 48 ≤ sg ∧ sg ≤ 57
    · rw [if_pos hd, if_pos hd]
      by_cases h5 : st < 5
      · rw [if_neg (show ¬ (5 : Int32) ≤ nI st from nI_ge (b := 5) h5 (by decide)), if_pos h5, nI_1]; rfl
      · rw [if_pos (show (5 : Int32) ≤ nI st from nI_le (a := 5) (by omega) (by omega)), if_neg h5]; rfl
    · rw [if_neg hd, if_neg hd]
      by_cases h3 : 3 ≤ st
      · rw [if_neg (show ¬ nI st < 3 from nI_nlt (b := 3) h3 (by omega))]
        by_cases c1 : sg = 38
        · rw [if_pos c1, if_pos ⟨h3, Or.inl c1⟩]; rfl
        · rw [if_neg c1]
          by_cases c2 : sg = 124
          · rw [if_pos c2, if_pos ⟨h3, Or.inr c2⟩]; rfl
          · rw [if_neg c2, if_neg (fun q => q.2.elim c1 c2)]; rfl
      · rw [if_pos (show nI st < 3 from nI_lt (b := 3) (by omega) (by decide)), if_neg (fun q => h3 q.1)]; rfl
def fltS (signs : Nat → Int32) : Nat → Nat → Nat → Int32
  | 0, st, i => if st < 3 then nI i else -6
  | r + 1, st, i => match auto st (signs i) with
    | none => nI i
    | some s => fltS signs r s (i + 1)
def flP (signs : Nat → Int32) (n : Nat) (v : Int32) : Prop := v = fltS signs n 0 0 ∧ ((v = -6 ∧ textOk signs n) ∨ ∃ k : Nat, k ≤ n ∧ v = nI k)
theorem fl_brk {signs : Nat → Int32} {n i st : Nat} (hi : i < n) (hf : fltS signs (n - i) st i = fltS signs n 0 0) (ha : auto st (signs i) = none) : flP signs n (nI i) := by
  refine ⟨?_, Or.inr ⟨i, by omega, rfl⟩⟩
  rw [← hf, show n - i = (n - i - 1) + 1 by omega, fltS, ha]
theorem fl_go {signs : Nat → Int32} {n i st s : Nat} (hi : i < n) (hf : fltS signs (n - i) st i = fltS signs n 0 0) (ha : auto st (signs i) = some s) : fltS signs (n - (i + 1)) s (i + 1) = fltS signs n 0 0 := by
  rw [← hf, show n - i = (n - (i + 1)) + 1 by omega, fltS, ha]
theorem fl_end {signs : Nat → Int32} {n st : Nat} (hs : autoN signs n = some st) (hf : fltS signs (n - n) st n = fltS signs n 0 0) : flP signs n (if st < 3 then nI n else -6) := by
  refine ⟨?_, ?_⟩
  · rw [← hf, Nat.sub_self, fltS]
  · by_cases h : st < 3
    · rw [if_pos h]; exact Or.inr ⟨n, Nat.le_refl _, rfl⟩
    · rw [if_neg h]; exact Or.inl ⟨rfl, st, hs, by omega⟩
theorem fault_ok {n : Nat} (hn : n ≤ 40) (signs : Nat → Int32) : Ok (t_X1_firstFault (nI n) signs) (flP signs n) := by
  unfold t_X1_firstFault
  refine lr_X1_firstFault_4 _ (fun i c sg x1 x2 => c = nI n ∧ signs = sg ∧ x2 = nI i ∧ ∃ st, st ≤ 5 ∧ x1 = nI st ∧ autoN signs i = some st ∧ fltS signs (n - i) st i = fltS signs n 0 0) n ?_ ?_ lfuel 0 _ _ _ _ (Nat.zero_le _) (by unfold lfuel; omega) ?_
  · rintro kk i c sg x1 x2 hi ⟨d1, d2, d3, st, s1, d4, s2, s3⟩ hk
    subst d1 d2 d3 d4
    unfold t_X1_firstFault_4_b
    have hin := nI_in (c := i) (N := 40) (by omega) (by decide)
    refine Ok.neg (nI_ge hi (by omega)) (Ok.ck hin ?_)
    rw [nI_clamp (by omega), goOn_ok s1, bd1_s]
    cases ha : auto st (signs i) with
    | none => exact Ok.pos rfl (Ok.ret (fl_brk hi s3 ha))
    | some s =>
      have hs5 := auto_le ha s1
      refine Ok.neg (show ¬ nI s = -1 from fun q => ?_) (hk _ _ _ _ ⟨rfl, rfl, nI_1 i, s, hs5, rfl, ?_, fl_go hi s3 ha⟩)
      · have h2 : ¬ nI s < 0 := nI_pos (by omega)
        rw [q] at h2
        exact absurd (by decide) h2
      · rw [autoN, s2]; exact ha
  · rintro kk c sg x1 x2 ⟨d1, d2, d3, st, s1, d4, s2, s3⟩
    subst d1 d2 d3 d4
    unfold t_X1_firstFault_4_b t_X1_firstFault_36 t_X1_firstFault_50
    have he := fl_end s2 s3
    refine Ok.pos (nI_le (Nat.le_refl _) (by omega)) (Ok.ite (fun h => Ok.ret ?_) (fun h => Ok.ret ?_))
    · rw [if_pos ((nI_ltI (b := 3) (by omega) (by decide)).mp h)] at he; exact he
    · rw [if_neg (fun q => h (nI_lt (b := 3) q (by decide)))] at he; exact he
  · exact ⟨rfl, rfl, rfl, 0, by decide, rfl, rfl, rfl⟩
theorem fault_ok2 {n : Nat} (hn : n ≤ 40) (signs : Nat → Int32) : Ok (t_X11_faultOf (nI n) signs) (flP signs n) := by
  unfold t_X11_faultOf
  refine lr_X11_faultOf_4 _ (fun i c sg x1 x2 => c = nI n ∧ signs = sg ∧ x2 = nI i ∧ ∃ st, st ≤ 5 ∧ x1 = nI st ∧ autoN signs i = some st ∧ fltS signs (n - i) st i = fltS signs n 0 0) n ?_ ?_ lfuel 0 _ _ _ _ (Nat.zero_le _) (by unfold lfuel; omega) ?_
  · rintro kk i c sg x1 x2 hi ⟨d1, d2, d3, st, s1, d4, s2, s3⟩ hk
    subst d1 d2 d3 d4
    unfold t_X11_faultOf_4_b t_X11_faultOf_41 t_X11_faultOf_46 t_X11_faultOf_84 t_X11_faultOf_124 t_X11_faultOf_125 t_X11_faultOf_148 t_X11_faultOf_151
    have hin := nI_in (c := i) (N := 40) (by omega) (by decide)
    refine Ok.neg (nI_ge hi (by omega)) (Ok.ck hin ?_)
    rw [nI_clamp (by omega), in_ok, bd1_s]
    generalize hsg : signs i = sg at *
    have brk : auto st sg = none → Ok (some (nI i)) (flP signs n) := fun ha => Ok.ret (fl_brk hi s3 (by rw [hsg]; exact ha))
    have go : ∀ s, auto st sg = some s → Ok (kk (nI n) signs (nI s) (nI i + 1)) (flP signs n) := fun s ha => hk _ _ _ _ ⟨rfl, rfl, nI_1 i, s, auto_le ha s1, rfl, by rw [autoN, s2]; exact (by rw [← hsg] at ha; exact ha), fl_go hi s3 (by rw [hsg]; exact ha)⟩
    have tw : (0 : Int32) = 0 := rfl
    rcases (show st = 0 ∨ st = 1 ∨ 2 ≤ st by omega) with rfl | rfl | h2
    · obtain ⟨k, ek, k1, k2⟩ := factBy_ok sg
      rw [auto0] at brk go
      by_cases h : isF sg
      · obtain ⟨j, hj, rfl, ef⟩ := k1 h
        rw [if_pos (show sg = 103 ∨ sg = 104 ∨ sg = 120 ∨ sg = 114 ∨ sg = 110 from h)] at go
        have g2 := go 1 rfl
        rw [ef]
        repeat rw [bd1_s]
        have main : ∀ s0 : Int32, Ok (if nI 0 = 0 then (if nI (j + 1) ≤ 0 then (if (0 : Int32) = 0 then some (nI i) else if nI 0 ≤ 2 then kk (nI n) signs (nI 0 + 1) (nI i + 1) else if s0 = 0 then kk (nI n) signs (nI 0 + 1) (nI i + 1) else kk (nI n) signs 0 (nI i + 1)) else (if (1 : Int32) = 0 then some (nI i) else if nI 0 ≤ 2 then kk (nI n) signs (nI 0 + 1) (nI i + 1) else if s0 = 0 then kk (nI n) signs (nI 0 + 1) (nI i + 1) else kk (nI n) signs 0 (nI i + 1))) else none) (flP signs n) := fun s0 => Ok.pos rfl (Ok.neg (nI_nle (by omega) (by omega)) (Ok.neg (by decide) (Ok.pos (by decide) g2)))
        refine Ok.ite (fun _ => ?_) (fun _ => Ok.ite (fun _ => ?_) (fun _ => ?_))
        all_goals exact Ok.pos rfl (Ok.neg (nI_nle (by omega) (by omega)) (Ok.neg (by decide) (Ok.pos (by decide) g2)))
      · obtain ⟨rfl, ef⟩ := k2 h
        rw [if_neg (show ¬ (sg = 103 ∨ sg = 104 ∨ sg = 120 ∨ sg = 114 ∨ sg = 110) from h)] at brk
        have g2 := brk rfl
        rw [ef]
        repeat rw [bd1_s]
        refine Ok.ite (fun _ => ?_) (fun _ => Ok.ite (fun _ => ?_) (fun _ => ?_))
        all_goals exact Ok.pos rfl (Ok.pos (by decide) (Ok.pos rfl g2))
    · rw [auto1] at brk go
      by_cases c1 : sg = 60
      · rw [if_pos (Or.inl c1)] at go
        have g2 := go 2 rfl
        refine Ok.ite (fun _ => ?_) (fun _ => Ok.ite (fun _ => ?_) (fun _ => ?_))
        all_goals exact Ok.neg (by decide) (Ok.pos rfl (Ok.pos c1 (Ok.neg (by decide) (Ok.pos (by decide) g2))))
      · by_cases c2 : sg = 62
        · rw [if_pos (Or.inr c2)] at go
          have g2 := go 2 rfl
          refine Ok.ite (fun _ => ?_) (fun _ => Ok.ite (fun _ => ?_) (fun _ => ?_))
          all_goals exact Ok.neg (by decide) (Ok.pos rfl (Ok.neg c1 (Ok.pos c2 (Ok.neg (by decide) (Ok.pos (by decide) g2)))))
        · rw [if_neg (fun q => q.elim c1 c2)] at brk
          have g2 := brk rfl
          refine Ok.ite (fun _ => ?_) (fun _ => Ok.ite (fun _ => ?_) (fun _ => ?_))
          all_goals exact Ok.neg (by decide) (Ok.pos rfl (Ok.neg c1 (Ok.neg c2 (Ok.pos rfl g2))))
    · rw [auto2 h2] at brk go
      have z0 : ¬ nI st = 0 := fun q => by have := (nI_eq (a := st) (b := 0) (by omega) (by decide)).mp q; omega
      have z1 : ¬ nI st = 1 := fun q => by have := (nI_eq (a := st) (b := 1) (by omega) (by decide)).mp q; omega
      by_cases hd : 48 ≤ sg ∧ sg ≤ 57
      · have c1 : ¬ sg = 38 := fun q => by rw [q] at hd; exact absurd hd (by decide)
        have c2 : ¬ sg = 124 := fun q => by rw [q] at hd; exact absurd hd (by decide)
        rw [if_pos hd] at brk go ⊢
        refine Ok.neg c1 (Ok.neg c2 (Ok.neg z0 (Ok.neg z1 (Ok.neg (by decide) ?_))))
        by_cases h5 : st < 5
        · rw [if_pos h5] at go
          have g2 := go _ rfl
          rw [← nI_1] at g2
          refine Ok.neg (nI_ge (b := 5) h5 (by decide)) (Ok.neg (by decide) (Ok.ite (fun _ => g2) (fun _ => Ok.pos rfl g2)))
        · rw [if_neg h5] at brk
          exact Ok.pos (nI_le (a := 5) (by omega) (by omega)) (Ok.pos rfl (brk rfl))
      · rw [if_neg hd] at brk go ⊢
        by_cases hb : sg = 38 ∨ sg = 124
        · by_cases h3 : 3 ≤ st
          · rw [if_pos ⟨h3, hb⟩] at go
            have g2 := go 0 rfl
            have h3' : ¬ nI st ≤ 2 := nI_ge (a := 2) (by omega) (by omega)
            have main := Ok.neg (c := nI st = 0) (x := none) z0 (Ok.neg (c := nI st = 1) (x := none) z1 g2)
            refine Ok.ite (fun _ => ?_) (fun q1 => Ok.ite (fun _ => ?_) (fun q2 => absurd hb (fun q => q.elim q1 q2)))
            all_goals exact Ok.neg z0 (Ok.neg z1 (Ok.pos rfl (Ok.neg (by decide) (Ok.neg h3' (Ok.neg (by decide) (Ok.neg h3' (Ok.neg (by decide) g2)))))))
          · rw [if_neg (fun q => h3 q.1)] at brk
            have g2 := brk rfl
            have h3' : nI st ≤ 2 := nI_le (b := 2) (by omega) (by decide)
            refine Ok.ite (fun _ => ?_) (fun q1 => Ok.ite (fun _ => ?_) (fun q2 => absurd hb (fun q => q.elim q1 q2)))
            all_goals exact Ok.neg z0 (Ok.neg z1 (Ok.pos rfl (Ok.neg (by decide) (Ok.pos h3' (Ok.pos rfl g2)))))
        · rw [if_neg (fun q => hb q.2)] at brk
          exact Ok.neg (fun q => hb (Or.inl q)) (Ok.neg (fun q => hb (Or.inr q)) (Ok.neg z0 (Ok.neg z1 (Ok.pos rfl (Ok.pos rfl (Ok.pos rfl (brk rfl)))))))
  · rintro kk c sg x1 x2 ⟨d1, d2, d3, st, s1, d4, s2, s3⟩
    subst d1 d2 d3 d4
    unfold t_X11_faultOf_4_b t_X11_faultOf_158 t_X11_faultOf_172
    have he := fl_end s2 s3
    refine Ok.pos (nI_le (Nat.le_refl _) (by omega)) (Ok.ite (fun h => Ok.ret ?_) (fun h => Ok.ret ?_))
    · rw [if_pos (by have := (nI_leI (b := 2) (by omega) (by decide)).mp h; omega)] at he; exact he
    · rw [if_neg (fun q => h (nI_le (b := 2) (by omega) (by decide)))] at he; exact he
  · exact ⟨rfl, rfl, rfl, 0, by decide, rfl, rfl, rfl⟩
theorem autoN_cong {f g : Nat → Int32} : ∀ {n : Nat}, (∀ j, j < n → f j = g j) → autoN f n = autoN g n
  | 0, _ => rfl
  | n + 1, h => by rw [autoN, autoN, autoN_cong (fun j hj => h j (by omega)), h n (by omega)]
theorem hold_ok {n : Nat} (hn : n ≤ 40) (hc : Int32) (held signs : Nat → Int32) : t_X1_hold (nI n) hc held signs = some (0, nI n, fa_fill signs held n) := by
  apply Ok.to
  unfold t_X1_hold
  refine lr_X1_hold_2 _ (fun i c h hd sg x1 => c = nI n ∧ hd = fa_fill signs held i ∧ signs = sg ∧ x1 = nI i) n ?_ ?_ lfuel 0 _ _ _ _ _ (Nat.zero_le _) (by unfold lfuel; omega) ?_
  · rintro kk i c h hd sg x1 hi ⟨d1, d2, d3, d4⟩ hk
    subst d1 d2 d3 d4
    unfold t_X1_hold_2_b
    have hin := nI_in (c := i) (N := 40) (by omega) (by decide)
    refine Ok.neg (nI_ge hi (by omega)) (Ok.ck hin (Ok.ck hin (hk _ _ _ _ _ ⟨rfl, ?_, rfl, nI_1 i⟩)))
    rw [nI_clamp (by omega), fa_fill_succ]
  · rintro kk c h hd sg x1 ⟨d1, d2, d3, d4⟩
    subst d1 d2 d3 d4
    unfold t_X1_hold_2_b t_X1_hold_28
    exact Ok.pos (nI_le (Nat.le_refl _) (by omega)) (Ok.ret rfl)
  · exact ⟨rfl, (fa_fill_0 signs held).symm, rfl, rfl⟩
theorem rule20_ok {n : Nat} (hn : n ≤ 40) (held signs : Nat → Int32) : t_X11_rule_20 lfuel (nI n) (nI n) held signs 0 = some (1, 0, nI n, fa_fill signs held n) := by
  apply Ok.to
  refine lr_X11_rule_20 _ (fun i c h hd sg x1 => c = nI n ∧ h = nI n ∧ hd = fa_fill signs held i ∧ signs = sg ∧ x1 = nI i) n ?_ ?_ lfuel 0 _ _ _ _ _ (Nat.zero_le _) (by unfold lfuel; omega) ?_
  · rintro kk i c h hd sg x1 hi ⟨d1, d5, d2, d3, d4⟩ hk
    subst d1 d2 d3 d4 d5
    unfold t_X11_rule_20_b
    have hin := nI_in (c := i) (N := 40) (by omega) (by decide)
    refine Ok.neg (nI_ge hi (by omega)) (Ok.ck hin (Ok.ck hin (hk _ _ _ _ _ ⟨rfl, rfl, ?_, rfl, nI_1 i⟩)))
    rw [nI_clamp (by omega), fa_fill_succ]
  · rintro kk c h hd sg x1 ⟨d1, d5, d2, d3, d4⟩
    subst d1 d2 d3 d4 d5
    unfold t_X11_rule_20_b t_X11_rule_46
    exact Ok.pos (nI_le (Nat.le_refl _) (by omega)) (Ok.ret rfl)
  · exact ⟨rfl, rfl, (fa_fill_0 signs held).symm, rfl, rfl⟩
set_option maxHeartbeats 4000000 in
theorem step_fault (p2_matches : Int32) (p2_stakes : Int32) (p2_meetings : Int32) (p2_newsFirst : Int32) (p2_newsHour : Int32) (p2_acts : Int32) (p2_stories : Int32) (p2_signs : Int32) (p2_ruleMany : Int32) (p1_bets_count : Int32) (p1_bets_near : Int32) (p1_bets_times : Int32) (p1_bets_ties : Int32) (p1_clause_count : Int32) (p1_clause_heldCount : Int32) (p1_games_count : Int32) (p1_games_base : Int32) (p1_ranks_down : Int32) (p1_rumour_count : Int32) (p1_rumour_first : Int32) (p1_rumour_since : Int32) (p1_squad_acts : Int32) (p1_tales_count : Int32) (p2_actMatch : Nat → Int32) (p2_actPlayers : Nat → Int32) (p2_allMoves : Nat → Int32) (p2_debt : Nat → Int32) (p2_goals : Nat → Int32) (p2_guest : Nat → Int32) (p2_home : Nat → Int32) (p2_hour : Nat → Int32) (p2_lateMoves : Nat → Int32) (p2_look : Nat → Int32) (p2_meetA : Nat → Int32) (p2_meetB : Nat → Int32) (p2_meetHour : Nat → Int32) (p2_owner : Nat → Int32) (p2_prices : Nat → Int32) (p2_referee : Nat → Int32) (p2_ruleSign : Nat → Int32) (p2_sign : Nat → Int32) (p2_skill : Nat → Int32) (p2_stakeEnd : Nat → Int32) (p2_stakeHand : Nat → Int32) (p2_stakeMatch : Nat → Int32) (p2_stakeMinute : Nat → Int32) (p2_stakeSum : Nat → Int32) (p2_storyFrom : Nat → Int32) (p2_storyPerson : Nat → Int32) (p2_storyPlace : Nat → Int32) (p2_storyTo : Nat → Int32) (p2_taken : Nat → Int32) (p2_told : Nat → Int32) (p1_bets_end : Nat → Int32) (p1_bets_hand : Nat → Int32) (p1_bets_match : Nat → Int32) (p1_bets_minute : Nat → Int32) (p1_bets_sum : Nat → Int32) (p1_clause_held : Nat → Int32) (p1_clause_signs : Nat → Int32) (p1_games_fee : Nat → Int32) (p1_games_goals : Nat → Int32) (p1_games_guest : Nat → Int32) (p1_games_home : Nat → Int32) (p1_games_hour : Nat → Int32) (p1_games_prices : Nat → Int32) (p1_games_referee : Nat → Int32) (p1_games_skills : Nat → Int32) (p1_ranks_taken : Nat → Int32) (p1_rumour_hour : Nat → Int32) (p1_rumour_one : Nat → Int32) (p1_rumour_other : Nat → Int32) (p1_rumour_owner : Nat → Int32) (p1_squad_actMatch : Nat → Int32) (p1_squad_actPlayers : Nat → Int32) (p1_squad_debts : Nat → Int32) (p1_squad_lateMoves : Nat → Int32) (p1_squad_moves : Nat → Int32) (p1_tales_against : Nat → Int32) (p1_tales_from : Nat → Int32) (p1_tales_person : Nat → Int32) (p1_tales_place : Nat → Int32) (p1_tales_to : Nat → Int32) (hR : Rel p1_games_count p1_games_base p1_games_skills p1_games_home p1_games_guest p1_games_referee p1_games_hour p1_games_fee p1_games_goals p1_games_prices p1_bets_count p1_bets_near p1_bets_times p1_bets_ties p1_bets_hand p1_bets_match p1_bets_end p1_bets_minute p1_bets_sum p1_rumour_count p1_rumour_one p1_rumour_other p1_rumour_hour p1_rumour_owner p1_rumour_first p1_rumour_since p1_squad_moves p1_squad_lateMoves p1_squad_debts p1_squad_acts p1_squad_actMatch p1_squad_actPlayers p1_tales_count p1_tales_person p1_tales_place p1_tales_from p1_tales_to p1_tales_against p1_ranks_down p1_ranks_taken p1_clause_count p1_clause_signs p1_clause_heldCount p1_clause_held p2_matches p2_skill p2_home p2_guest p2_referee p2_hour p2_look p2_goals p2_prices p2_told p2_stakes p2_stakeHand p2_stakeMatch p2_stakeEnd p2_stakeMinute p2_stakeSum p2_meetings p2_meetA p2_meetB p2_meetHour p2_owner p2_newsFirst p2_newsHour p2_allMoves p2_lateMoves p2_debt p2_acts p2_actMatch p2_actPlayers p2_stories p2_storyPerson p2_storyPlace p2_storyFrom p2_storyTo p2_taken p2_signs p2_sign p2_ruleMany p2_ruleSign)  : ∃ (r : Int32), t_X10_fault p1_clause_count p1_clause_signs  = some r ∧ t_X11_fault p2_signs p2_sign  = some r ∧ Rel p1_games_count p1_games_base p1_games_skills p1_games_home p1_games_guest p1_games_referee p1_games_hour p1_games_fee p1_games_goals p1_games_prices p1_bets_count p1_bets_near p1_bets_times p1_bets_ties p1_bets_hand p1_bets_match p1_bets_end p1_bets_minute p1_bets_sum p1_rumour_count p1_rumour_one p1_rumour_other p1_rumour_hour p1_rumour_owner p1_rumour_first p1_rumour_since p1_squad_moves p1_squad_lateMoves p1_squad_debts p1_squad_acts p1_squad_actMatch p1_squad_actPlayers p1_tales_count p1_tales_person p1_tales_place p1_tales_from p1_tales_to p1_tales_against p1_ranks_down p1_ranks_taken p1_clause_count p1_clause_signs p1_clause_heldCount p1_clause_held p2_matches p2_skill p2_home p2_guest p2_referee p2_hour p2_look p2_goals p2_prices p2_told p2_stakes p2_stakeHand p2_stakeMatch p2_stakeEnd p2_stakeMinute p2_stakeSum p2_meetings p2_meetA p2_meetB p2_meetHour p2_owner p2_newsFirst p2_newsHour p2_allMoves p2_lateMoves p2_debt p2_acts p2_actMatch p2_actPlayers p2_stories p2_storyPerson p2_storyPlace p2_storyFrom p2_storyTo p2_taken p2_signs p2_sign p2_ruleMany p2_ruleSign := by
  have hR0 := hR
  obtain ⟨n, ns, nt, na, ny, ng, nh, hG, hB, hM, hO, hQ, hT, hK, hC, h0⟩ := hR
  obtain ⟨c1, c2, c3, c4, c5, c6, c7, c8, c9, c10, c11⟩ := id hC
  subst c3 c5
  have c7 := c7.symm
  subst c7
  obtain ⟨v, ev, hv⟩ := fault_ok c1 p1_clause_signs
  obtain ⟨w, ew, hw⟩ := fault_ok2 c1 p1_clause_signs
  have e : w = v := hw.1.trans hv.1.symm
  subst e
  have e1 : t_X10_fault (nI ng) p1_clause_signs = some w := by
    simp only [t_X10_fault, ev, bd1_s]
  have e2 : t_X11_fault (nI ng) p1_clause_signs = some w := by
    simp only [t_X11_fault, ew, bd1_s]
  exact ⟨_, e1, e2, hR0⟩
set_option maxHeartbeats 4000000 in
theorem step_rule (p2_matches : Int32) (p2_stakes : Int32) (p2_meetings : Int32) (p2_newsFirst : Int32) (p2_newsHour : Int32) (p2_acts : Int32) (p2_stories : Int32) (p2_signs : Int32) (p2_ruleMany : Int32) (p1_bets_count : Int32) (p1_bets_near : Int32) (p1_bets_times : Int32) (p1_bets_ties : Int32) (p1_clause_count : Int32) (p1_clause_heldCount : Int32) (p1_games_count : Int32) (p1_games_base : Int32) (p1_ranks_down : Int32) (p1_rumour_count : Int32) (p1_rumour_first : Int32) (p1_rumour_since : Int32) (p1_squad_acts : Int32) (p1_tales_count : Int32) (p2_actMatch : Nat → Int32) (p2_actPlayers : Nat → Int32) (p2_allMoves : Nat → Int32) (p2_debt : Nat → Int32) (p2_goals : Nat → Int32) (p2_guest : Nat → Int32) (p2_home : Nat → Int32) (p2_hour : Nat → Int32) (p2_lateMoves : Nat → Int32) (p2_look : Nat → Int32) (p2_meetA : Nat → Int32) (p2_meetB : Nat → Int32) (p2_meetHour : Nat → Int32) (p2_owner : Nat → Int32) (p2_prices : Nat → Int32) (p2_referee : Nat → Int32) (p2_ruleSign : Nat → Int32) (p2_sign : Nat → Int32) (p2_skill : Nat → Int32) (p2_stakeEnd : Nat → Int32) (p2_stakeHand : Nat → Int32) (p2_stakeMatch : Nat → Int32) (p2_stakeMinute : Nat → Int32) (p2_stakeSum : Nat → Int32) (p2_storyFrom : Nat → Int32) (p2_storyPerson : Nat → Int32) (p2_storyPlace : Nat → Int32) (p2_storyTo : Nat → Int32) (p2_taken : Nat → Int32) (p2_told : Nat → Int32) (p1_bets_end : Nat → Int32) (p1_bets_hand : Nat → Int32) (p1_bets_match : Nat → Int32) (p1_bets_minute : Nat → Int32) (p1_bets_sum : Nat → Int32) (p1_clause_held : Nat → Int32) (p1_clause_signs : Nat → Int32) (p1_games_fee : Nat → Int32) (p1_games_goals : Nat → Int32) (p1_games_guest : Nat → Int32) (p1_games_home : Nat → Int32) (p1_games_hour : Nat → Int32) (p1_games_prices : Nat → Int32) (p1_games_referee : Nat → Int32) (p1_games_skills : Nat → Int32) (p1_ranks_taken : Nat → Int32) (p1_rumour_hour : Nat → Int32) (p1_rumour_one : Nat → Int32) (p1_rumour_other : Nat → Int32) (p1_rumour_owner : Nat → Int32) (p1_squad_actMatch : Nat → Int32) (p1_squad_actPlayers : Nat → Int32) (p1_squad_debts : Nat → Int32) (p1_squad_lateMoves : Nat → Int32) (p1_squad_moves : Nat → Int32) (p1_tales_against : Nat → Int32) (p1_tales_from : Nat → Int32) (p1_tales_person : Nat → Int32) (p1_tales_place : Nat → Int32) (p1_tales_to : Nat → Int32) (hR : Rel p1_games_count p1_games_base p1_games_skills p1_games_home p1_games_guest p1_games_referee p1_games_hour p1_games_fee p1_games_goals p1_games_prices p1_bets_count p1_bets_near p1_bets_times p1_bets_ties p1_bets_hand p1_bets_match p1_bets_end p1_bets_minute p1_bets_sum p1_rumour_count p1_rumour_one p1_rumour_other p1_rumour_hour p1_rumour_owner p1_rumour_first p1_rumour_since p1_squad_moves p1_squad_lateMoves p1_squad_debts p1_squad_acts p1_squad_actMatch p1_squad_actPlayers p1_tales_count p1_tales_person p1_tales_place p1_tales_from p1_tales_to p1_tales_against p1_ranks_down p1_ranks_taken p1_clause_count p1_clause_signs p1_clause_heldCount p1_clause_held p2_matches p2_skill p2_home p2_guest p2_referee p2_hour p2_look p2_goals p2_prices p2_told p2_stakes p2_stakeHand p2_stakeMatch p2_stakeEnd p2_stakeMinute p2_stakeSum p2_meetings p2_meetA p2_meetB p2_meetHour p2_owner p2_newsFirst p2_newsHour p2_allMoves p2_lateMoves p2_debt p2_acts p2_actMatch p2_actPlayers p2_stories p2_storyPerson p2_storyPlace p2_storyFrom p2_storyTo p2_taken p2_signs p2_sign p2_ruleMany p2_ruleSign)  : ∃ (r : Int32) (z0 : Int32) (z1 : Int32) (z2 : Nat → Int32) (y0 : Int32) (y1 : Int32) (y2 : Nat → Int32), t_X10_rule p1_clause_count p1_clause_heldCount p1_clause_held p1_clause_signs  = some (r, z0, z1, z2) ∧ t_X11_rule p2_signs p2_ruleMany p2_ruleSign p2_sign  = some (r, y0, y1, y2) ∧ Rel p1_games_count p1_games_base p1_games_skills p1_games_home p1_games_guest p1_games_referee p1_games_hour p1_games_fee p1_games_goals p1_games_prices p1_bets_count p1_bets_near p1_bets_times p1_bets_ties p1_bets_hand p1_bets_match p1_bets_end p1_bets_minute p1_bets_sum p1_rumour_count p1_rumour_one p1_rumour_other p1_rumour_hour p1_rumour_owner p1_rumour_first p1_rumour_since p1_squad_moves p1_squad_lateMoves p1_squad_debts p1_squad_acts p1_squad_actMatch p1_squad_actPlayers p1_tales_count p1_tales_person p1_tales_place p1_tales_from p1_tales_to p1_tales_against p1_ranks_down p1_ranks_taken z0 p1_clause_signs z1 z2 p2_matches p2_skill p2_home p2_guest p2_referee p2_hour p2_look p2_goals p2_prices p2_told p2_stakes p2_stakeHand p2_stakeMatch p2_stakeEnd p2_stakeMinute p2_stakeSum p2_meetings p2_meetA p2_meetB p2_meetHour p2_owner p2_newsFirst p2_newsHour p2_allMoves p2_lateMoves p2_debt p2_acts p2_actMatch p2_actPlayers p2_stories p2_storyPerson p2_storyPlace p2_storyFrom p2_storyTo p2_taken y0 p2_sign y1 y2 := by
  have hR0 := hR
  obtain ⟨n, ns, nt, na, ny, ng, nh, hG, hB, hM, hO, hQ, hT, hK, hC, h0⟩ := hR
  obtain ⟨c1, c2, c3, c4, c5, c6, c7, c8, c9, c10, c11⟩ := id hC
  subst c3 c4 c5 c6
  have c7 := c7.symm
  have c8 := c8.symm
  subst c7 c8
  obtain ⟨v, ev, hv⟩ := fault_ok c1 p1_clause_signs
  obtain ⟨w, ew, hw⟩ := fault_ok2 c1 p1_clause_signs
  have e : w = v := hw.1.trans hv.1.symm
  subst e
  rcases hv.2 with ⟨rfl, ht⟩ | ⟨k, hk, rfl⟩
  · have e1 : t_X10_rule (nI ng) (nI nh) p1_clause_held p1_clause_signs = some (1, 0, nI ng, fa_fill p1_clause_signs p1_clause_held ng) := by
      simp only [t_X10_rule, ev, bd1_s, ↓reduceIte, hold_ok c1, bd3_s]
    have e2 : t_X11_rule (nI ng) (nI nh) p1_clause_held p1_clause_signs = some (1, 0, nI ng, fa_fill p1_clause_signs p1_clause_held ng) := by
      simp only [t_X11_rule, ew, bd1_s, if_pos (show (-6 : Int32) < 0 by decide), rule20_ok c1]
    refine ⟨_, _, _, _, _, _, _, e1, e2, n, ns, nt, na, ny, 0, ng, hG, hB, hM, hO, hQ, hT, hK, ⟨by decide, c1, rfl, rfl, rfl, rfl, rfl, rfl, fun j hj => absurd hj (Nat.not_lt_zero j), fun j hj => ?_, Or.inr ?_⟩, h0⟩
    · rw [fa_fill_in hj]; exact c9 j hj
    · obtain ⟨st, s1, s2⟩ := ht
      exact ⟨st, by rw [autoN_cong (fun j hj => fa_fill_in hj)]; exact s1, s2⟩
  · have hne : ¬ nI k = -6 := fun q => by
      have h2 : ¬ nI k < 0 := nI_pos (by omega)
      rw [q] at h2
      exact absurd (by decide) h2
    have e1 : t_X10_rule (nI ng) (nI nh) p1_clause_held p1_clause_signs = some (-5, nI ng, nI nh, p1_clause_held) := by
      simp only [t_X10_rule, ev, bd1_s, if_neg hne]
    have e2 : t_X11_rule (nI ng) (nI nh) p1_clause_held p1_clause_signs = some (-5, nI ng, nI nh, p1_clause_held) := by
      simp only [t_X11_rule, ew, bd1_s, if_neg (show ¬ nI k < 0 from nI_pos (by omega))]
    exact ⟨_, _, _, _, _, _, _, e1, e2, hR0⟩
