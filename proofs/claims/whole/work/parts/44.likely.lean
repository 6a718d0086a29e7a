-- needs 36 37 41 43
theorem weigh_ok {p q m done : Nat} (hp : p ≤ 45) (hq : q ≤ 45) {base : Int32} {skills home guest : Nat → Int32} (hm : m < 12) (hd : done ≤ 6) (c1 : t_X2_chanceOf base skills (home m) (guest m) = some (nI p)) (c2 : t_X2_chanceOf base skills (guest m) (home m) = some (nI q)) (u0 l0 : Int64) (cs : Nat → Int64) (lead end_ : Int32) : Ok (t_X2_weigh base u0 l0 guest home skills cs (nI m) (nI done) lead end_) (fun w => w.1 = lN (upS (wy p q (6 - done)) lead end_ 13) ∧ w.2.1 = lN (100 ^ (6 - done))) := by
  unfold t_X2_weigh
  rw [nI_clamp (by omega), ckn_m hm (by decide), ckn_m hm (by decide), c1, bd1_s, ckn_m hm (by decide), ckn_m hm (by decide), c2, bd1_s, show (6 : Int32) = nI 6 from rfl, pk_sub hd]
  refine Ok.bd2 (play_ok hp hq (by omega) l0 cs) (fun l1 c1 h1 => Ok.bd1 (sumEnd_ok h1.2 u0 lead end_) (fun u1 hu => Ok.ret ⟨hu, h1.1⟩))
theorem lay230 {w : Nat → Nat} {ways : Nat → Int64} (hw : isW ways w) (u0 lower : Int64) (guest home : Nat → Int32) (next : Nat → Int64) (skill told : Nat → Int32) (x3 x4 : Int32) {e : Nat} (he : e < 3) : Ok (t_X11_layLikely_222 u0 lower guest home next skill told ways x3 x4 (nI e)) (fun u => u.1 = lN (upS w (x3 - x4) (nI e) 13) ∧ u.2.1 = lower) := by
  unfold t_X11_layLikely_222
  refine lr_X11_layLikely_230 _ (fun i u l gu ho ne sk to wa y3 y4 y5 y10 => u = lN (upS w (x3 - x4) (nI e) i) ∧ lower = l ∧ ways = wa ∧ x3 = y3 ∧ x4 = y4 ∧ y5 = nI e ∧ y10 = nI i) 13 ?_ ?_ lfuel 0 _ _ _ _ _ _ _ _ _ _ _ _ (Nat.zero_le _) (by unfold lfuel; omega) ?_
  · rintro kk i u l gu ho ne sk to wa y3 y4 y5 y10 hi ⟨d1, d2, d3, d4, d5, d6, d7⟩ hk
    subst d1 d2 d3 d4 d5 d6 d7
    unfold t_X11_layLikely_230_b t_X11_layLikely_296 t_X11_layLikely_319
    have hin := nI_in (c := i) (N := 13) hi (by decide)
    refine Ok.neg (nI_ge (b := 13) hi (by decide)) ?_
    have no : ¬ eb ((x3 - x4 + nI i) - 6) = nI e → Ok (kk (lN (upS w (x3 - x4) (nI e) i) + 0) lower gu ho ne sk to ways x3 x4 (nI e) (nI i + 1)) (fun u => u.1 = lN (upS w (x3 - x4) (nI e) 13) ∧ u.2.1 = lower) := by
      intro h
      refine hk _ _ _ _ _ _ _ _ _ _ _ _ ⟨?_, rfl, rfl, rfl, rfl, rfl, nI_1 i⟩
      rw [show (0 : Int64) = lN 0 from rfl, lN_add, upS, upS, sm, if_neg h]
    have yes : eb ((x3 - x4 + nI i) - 6) = nI e → Ok (kk (lN (upS w (x3 - x4) (nI e) i) + ways (nI i).toNatClampNeg) lower gu ho ne sk to ways x3 x4 (nI e) (nI i + 1)) (fun u => u.1 = lN (upS w (x3 - x4) (nI e) 13) ∧ u.2.1 = lower) := by
      intro h
      refine hk _ _ _ _ _ _ _ _ _ _ _ _ ⟨?_, rfl, rfl, rfl, rfl, rfl, nI_1 i⟩
      rw [nI_clamp (by omega), hw i hi, lN_add, upS, upS, sm, if_pos h]
    generalize hz : (x3 - x4 + nI i) - 6 = z at no yes ⊢
    have e0 : (0 : Int32).toInt = 0 := rfl
    rcases (show e = 0 ∨ e = 1 ∨ e = 2 by omega) with rfl | rfl | rfl
    · refine Ok.pos rfl (Ok.ite (fun h => Ok.pos rfl (no ?_)) (fun h => Ok.neg (by decide) (Ok.ck hin (yes ?_))))
      · unfold eb; rw [if_pos h]
        by_cases h2 : z = 0
        · rw [if_pos h2]; decide
        · rw [if_neg h2]; decide
      · unfold eb; rw [if_neg h]; rfl
    · refine Ok.neg (by decide) (Ok.pos rfl (Ok.ite (fun h => Ok.neg (by decide) (Ok.ck hin (yes ?_))) (fun h => Ok.pos rfl (no ?_))))
      · subst h; decide
      · unfold eb
        by_cases h2 : z ≤ 0
        · rw [if_pos h2, if_neg h]; decide
        · rw [if_neg h2]; decide
    · refine Ok.neg (by decide) (Ok.neg (by decide) (Ok.ite (fun h => Ok.pos rfl (no ?_)) (fun h => Ok.neg (by decide) (Ok.ck hin (yes ?_)))))
      · unfold eb
        by_cases h2 : z ≤ 0
        · rw [if_pos h2, if_pos (Int32.toInt_inj.mp (by rw [i_le] at h h2; omega))]; decide
        · rw [if_neg h2]; decide
      · unfold eb
        rw [i_le] at h
        rw [if_pos (by rw [i_le]; omega), if_neg (fun q => by subst q; omega)]
        rfl
  · rintro kk u l gu ho ne sk to wa y3 y4 y5 y10 ⟨d1, d2, d3, d4, d5, d6, d7⟩
    subst d1 d2 d3 d4 d5 d6 d7
    unfold t_X11_layLikely_230_b
    exact Ok.pos (by decide) (Ok.ret ⟨rfl, rfl⟩)
  · exact ⟨rfl, rfl, rfl, rfl, rfl, rfl, rfl⟩
theorem lay81 {p q done : Nat} (hp : p ≤ 45) (hq : q ≤ 45) (hd : done ≤ 6) {ways : Nat → Int64} (hw : isW ways (wy p q 0)) (u0 l0 : Int64) (guest home : Nat → Int32) (next : Nat → Int64) (skill told : Nat → Int32) (x3 x4 : Int32) {e : Nat} (he : e < 3) : Ok (t_X11_layLikely_73 u0 l0 guest home next skill told ways (nI done) x3 x4 (nI e) (lN p) (lN q)) (fun u => u.1 = lN (upS (wy p q (6 - done)) (x3 - x4) (nI e) 13) ∧ u.2.1 = lN (100 ^ (6 - done))) := by
  unfold t_X11_layLikely_73
  refine lr_X11_layLikely_81 _ (fun i u l gu ho ne sk to wa y3 y4 y5 y6 y8 y10 => l = lN (100 ^ i) ∧ isW wa (wy p q i) ∧ x3 = y3 ∧ x4 = y4 ∧ y5 = nI e ∧ y6 = lN p ∧ y8 = lN q ∧ y10 = nI (done + i)) (6 - done) ?_ ?_ lfuel 0 _ _ _ _ _ _ _ _ _ _ _ _ _ _ (Nat.zero_le _) (by unfold lfuel; omega) ?_
  · rintro kk i u l gu ho ne sk to wa y3 y4 y5 y6 y8 y10 hi ⟨d1, d2, d3, d4, d5, d6, d7, d8⟩ hk
    subst d1 d3 d4 d5 d6 d7 d8
    unfold t_X11_layLikely_81_b
    refine Ok.neg (nI_ge (b := 6) (by omega) (by decide)) ?_
    refine lr_X11_layLikely_91 _ (fun j u l gu ho ne sk to wa2 y3 y4 y5 y6 y8 y10 y11 => l = lN (100 ^ i) ∧ wa = wa2 ∧ x3 = y3 ∧ x4 = y4 ∧ y5 = nI e ∧ y6 = lN p ∧ y8 = lN q ∧ y10 = nI (done + i) ∧ y11 = nI j ∧ ∀ d, d < j → ne d = lN (wy p q (i + 1) d)) 13 ?_ ?_ lfuel 0 _ _ _ _ _ _ _ _ _ _ _ _ _ _ _ (Nat.zero_le _) (by unfold lfuel; omega) ?_
    · rintro kk2 j u l gu ho ne sk to wa2 y3 y4 y5 y6 y8 y10 y11 hj ⟨d1, d9, d3, d4, d5, d6, d7, d8, d10, d11⟩ hk2
      subst d1 d3 d4 d5 d6 d7 d8 d9 d10
      unfold t_X11_layLikely_91_b t_X11_layLikely_142 t_X11_layLikely_166
      have hin := nI_in (c := j) (N := 13) hj (by decide)
      rw [nI_clamp (by omega)] at hin
      refine Ok.neg (nI_ge (b := 13) hj (by decide)) ?_
      rw [nI_clamp (by omega), d2 j hj, nI_1, show (100 : Int64) = lN 100 from rfl, lN_sub (show p ≤ 100 by omega), lN_sub (show q ≤ 100 - p by omega), lN_mul]
      have fin : ∀ x : Int64, x = lN (wy p q (i + 1) j) → Ok (kk2 u (lN (100 ^ i)) gu ho (vp_updL ne j x) sk to wa x3 x4 (nI e) (lN p) (lN q) (nI (done + i)) (nI (j + 1))) (fun u => u.1 = lN (upS (wy p q (6 - done)) (x3 - x4) (nI e) 13) ∧ u.2.1 = lN (100 ^ (6 - done))) := by
        intro x hx
        refine hk2 _ _ _ _ _ _ _ _ _ _ _ _ _ _ _ ⟨rfl, rfl, rfl, rfl, rfl, rfl, rfl, rfl, rfl, ?_⟩
        intro d hd2
        rw [updL_at]
        by_cases e2 : d = j
        · rw [if_pos e2, e2]; exact hx
        · rw [if_neg e2]; exact d11 d (by omega)
      refine Ok.ck hin (Ok.ite (fun h => ?_) (fun h => ?_))
      · have hj0 : j = 0 := by have := (nI_leI (a := j) (b := 0) (by omega) (by decide)).mp h; omega
        subst hj0
        refine Ok.neg (by decide) ?_
        rw [nI_clamp (by omega), ckn_m (show 0 + 1 < 13 by decide) (by decide), d2 (0 + 1) (by decide)]
        refine Ok.ck hin (fin _ ?_)
        rw [show (0 : Int64) = lN 0 from rfl, lN_mul, lN_add, lN_add, wy]
        simp
      · have hj0 : 0 < j := by
          rcases Nat.eq_zero_or_pos j with q2 | q2
          · subst q2; exact absurd (by decide) h
          · exact q2
        obtain ⟨j', rfl⟩ : ∃ j', j = j' + 1 := ⟨j - 1, by omega⟩
        rw [nI_pp, nI_clamp (by omega), ckn_m (show j' < 13 by omega) (by decide), d2 j' (by omega)]
        refine Ok.ite (fun h2 => Ok.ck hin (fin _ ?_)) (fun h2 => ?_)
        · have h2 := (nI_leI (a := 12) (b := j' + 1) (by decide) (by omega)).mp h2
          have : j' = 11 := by omega
          subst this
          rw [show (0 : Int64) = lN 0 from rfl, lN_mul, lN_add, lN_add, wy]
          simp [Nat.add_comm]
        · have h2 : ¬ 12 ≤ j' + 1 := fun q2 => h2 (nI_le (a := 12) (b := j' + 1) q2 (by omega))
          rw [nI_clamp (by omega), ckn_m (show j' + 1 + 1 < 13 by omega) (by decide), d2 (j' + 1 + 1) (by omega)]
          refine Ok.ck hin (fin _ ?_)
          rw [lN_mul, lN_mul, lN_add, lN_add, wy]
          rw [if_neg (by omega), if_neg (by omega), Nat.add_sub_cancel, Nat.add_comm (wy p q i (j' + 1) * (100 - p - q))]
    · rintro kk2 u l gu ho ne sk to wa2 y3 y4 y5 y6 y8 y10 y11 ⟨d1, d9, d3, d4, d5, d6, d7, d8, d10, d11⟩
      subst d1 d3 d4 d5 d6 d7 d8 d9 d10
      unfold t_X11_layLikely_91_b t_X11_layLikely_174
      refine Ok.pos (by decide) ?_
      refine lr_X11_layLikely_177 _ (fun j u l gu ho ne2 sk to wa2 y3 y4 y5 y6 y8 y10 y11 => l = lN (100 ^ i) ∧ ne = ne2 ∧ x3 = y3 ∧ x4 = y4 ∧ y5 = nI e ∧ y6 = lN p ∧ y8 = lN q ∧ y10 = nI (done + i) ∧ y11 = nI j ∧ ∀ d, d < j → wa2 d = lN (wy p q (i + 1) d)) 13 ?_ ?_ lfuel 0 _ _ _ _ _ _ _ _ _ _ _ _ _ _ _ (Nat.zero_le _) (by unfold lfuel; omega) ?_
      · rintro kk2 j u l gu ho ne2 sk to wa2 y3 y4 y5 y6 y8 y10 y11 hj ⟨d1, d9, d3, d4, d5, d6, d7, d8, d10, d12⟩ hk2
        subst d1 d3 d4 d5 d6 d7 d8 d9 d10
        unfold t_X11_layLikely_177_b
        have hin := nI_in (c := j) (N := 13) hj (by decide)
        refine Ok.neg (nI_ge (b := 13) hj (by decide)) (Ok.ck hin (Ok.ck hin (hk2 _ _ _ _ _ _ _ _ _ _ _ _ _ _ _ ⟨rfl, rfl, rfl, rfl, rfl, rfl, rfl, rfl, nI_1 j, ?_⟩)))
        intro d hd2
        rw [nI_clamp (by omega), updL_at]
        by_cases e2 : d = j
        · rw [if_pos e2, e2]; exact d11 j hj
        · rw [if_neg e2]; exact d12 d (by omega)
      · rintro kk2 u l gu ho ne2 sk to wa2 y3 y4 y5 y6 y8 y10 y11 ⟨d1, d9, d3, d4, d5, d6, d7, d8, d10, d12⟩
        subst d1 d3 d4 d5 d6 d7 d8 d9 d10
        unfold t_X11_layLikely_177_b t_X11_layLikely_204
        refine Ok.pos (by decide) (hk _ _ _ _ _ _ _ _ _ _ _ _ _ _ ⟨?_, d12, rfl, rfl, rfl, rfl, rfl, nI_1 _⟩)
        rw [show (100 : Int64) = lN 100 from rfl, lN_mul, Nat.pow_succ]
      · exact ⟨rfl, rfl, rfl, rfl, rfl, rfl, rfl, rfl, rfl, fun d hd2 => absurd hd2 (Nat.not_lt_zero d)⟩
    · exact ⟨rfl, rfl, rfl, rfl, rfl, rfl, rfl, rfl, rfl, fun d hd2 => absurd hd2 (Nat.not_lt_zero d)⟩
  · rintro kk u l gu ho ne sk to wa y3 y4 y5 y6 y8 y10 ⟨d1, d2, d3, d4, d5, d6, d7, d8⟩
    subst d1 d3 d4 d5 d6 d7 d8
    unfold t_X11_layLikely_81_b
    exact Ok.pos (nI_le (a := 6) (by omega) (by omega)) (lay230 d2 _ _ _ _ _ _ _ _ _ he)
  · exact ⟨rfl, hw, rfl, rfl, rfl, rfl, rfl, rfl⟩
theorem lay_ok {p q m done : Nat} (hp : p ≤ 45) (hq : q ≤ 45) {skill told home guest : Nat → Int32} (hm : m < 12) (hd : done ≤ 6) (c1 : t_X11_chance skill told (home m) (guest m) = some (nI p)) (c2 : t_X11_chance skill told (guest m) (home m) = some (nI q)) (u0 l0 : Int64) (next ways : Nat → Int64) (x3 x4 : Int32) {e : Nat} (he : e < 3) : Ok (t_X11_layLikely u0 l0 guest home next skill told ways (nI m) (nI done) x3 x4 (nI e)) (fun u => u.1 = lN (upS (wy p q (6 - done)) (x3 - x4) (nI e) 13) ∧ u.2.1 = lN (100 ^ (6 - done))) := by
  unfold t_X11_layLikely
  rw [nI_clamp (by omega), ckn_m hm (by decide), ckn_m hm (by decide), c1, bd1_s, ckn_m hm (by decide), ckn_m hm (by decide), c2, bd1_s, nI_l (by omega), nI_l (by omega)]
  refine lr_X11_layLikely_41 _ (fun i u l gu ho ne sk to wa y2 y3 y4 y5 y6 y8 y10 => y2 = nI done ∧ x3 = y3 ∧ x4 = y4 ∧ y5 = nI e ∧ y6 = lN p ∧ y8 = lN q ∧ y10 = nI i ∧ ∀ d, d < i → wa d = lN (wy p q 0 d)) 13 ?_ ?_ lfuel 0 _ _ _ _ _ _ _ _ _ _ _ _ _ _ _ (Nat.zero_le _) (by unfold lfuel; omega) ?_
  · rintro kk i u l gu ho ne sk to wa y2 y3 y4 y5 y6 y8 y10 hi ⟨d1, d2, d3, d4, d5, d6, d7, d8⟩ hk
    subst d1 d2 d3 d4 d5 d6 d7
    unfold t_X11_layLikely_41_b t_X11_layLikely_66
    have hin := nI_in (c := i) (N := 13) hi (by decide)
    have fin : ∀ x : Int64, x = lN (wy p q 0 i) → ∀ d, d < i + 1 → vp_updL wa (nI i).toNatClampNeg x d = lN (wy p q 0 d) := by
      intro x hx d hd2
      rw [nI_clamp (by omega), updL_at]
      by_cases e2 : d = i
      · rw [if_pos e2, e2]; exact hx
      · rw [if_neg e2]; exact d8 d (by omega)
    refine Ok.neg (nI_ge (b := 13) hi (by decide)) (Ok.ite (fun h => Ok.ck hin (hk _ _ _ _ _ _ _ _ _ _ _ _ _ _ _ ⟨rfl, rfl, rfl, rfl, rfl, rfl, nI_1 i, fin _ ?_⟩)) (fun h => Ok.ck hin (hk _ _ _ _ _ _ _ _ _ _ _ _ _ _ _ ⟨rfl, rfl, rfl, rfl, rfl, rfl, nI_1 i, fin _ ?_⟩)))
    · have h := (nI_eq (a := i) (b := 6) (by omega) (by decide)).mp h
      rw [wy, if_pos h]; rfl
    · have h : ¬ i = 6 := fun q2 => h (by rw [q2]; rfl)
      rw [wy, if_neg h]; rfl
  · rintro kk u l gu ho ne sk to wa y2 y3 y4 y5 y6 y8 y10 ⟨d1, d2, d3, d4, d5, d6, d7, d8⟩
    subst d1 d2 d3 d4 d5 d6 d7
    unfold t_X11_layLikely_41_b
    exact Ok.pos (by decide) (lay81 hp hq hd d8 _ _ _ _ _ _ _ _ _ he)
  · exact ⟨rfl, rfl, rfl, rfl, rfl, rfl, rfl, fun d hd2 => absurd hd2 (Nat.not_lt_zero d)⟩
