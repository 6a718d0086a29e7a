def insf (a : Nat → Int32) (p : Nat) (v : Int32) (j : Nat) : Int32 := if j < p then a j else if j = p then v else a (j - 1)
theorem ins78 {nt p : Nat} (hn : nt < 30) (hp : p ≤ nt) {hour one other h o ot : Nat → Int32} {x1 x2 x3 : Int32} (e1 : ∀ j, j < p → h j = hour j ∧ o j = one j ∧ ot j = other j) (e2 : ∀ j, p < j → j ≤ nt → h j = hour (j - 1) ∧ o j = one (j - 1) ∧ ot j = other (j - 1)) (hx : p = 0 ∨ hour (p - 1) ≤ x3) (hg : ∀ j, p ≤ j → j < nt → ¬ hour j ≤ x3) :
    Ok (t_X7_add_78 (nI nt) h o ot x1 x2 x3 (nI p)) (fun u => u.1 = nI (nt + 1) ∧ u.2.1 = nI (nt + 1) ∧ ∃ p, p ≤ nt ∧ (p = 0 ∨ hour (p - 1) ≤ x3) ∧ (∀ j, p ≤ j → j < nt → ¬ hour j ≤ x3) ∧ ∀ j, j ≤ nt → u.2.2.1 j = insf hour p x3 j ∧ u.2.2.2.1 j = insf one p x1 j ∧ u.2.2.2.2 j = insf other p x2 j) := by
  unfold t_X7_add_78
  have hin := nI_in (c := p) (N := 30) (by omega) (by decide)
  refine Ok.ck hin (Ok.ck hin (Ok.ck hin (Ok.ret ?_)))
  refine ⟨nI_1 nt, nI_1 nt, p, hp, hx, hg, ?_⟩
  intro j hj
  simp only [nI_clamp (show p < 2 ^ 31 by omega), upd_at, insf]
  by_cases h1 : j = p
  · subst h1
    simp
  · rw [if_neg h1, if_neg h1, if_neg h1, if_neg h1, if_neg h1, if_neg h1]
    by_cases h2 : j < p
    · rw [if_pos h2, if_pos h2, if_pos h2]; exact e1 j h2
    · rw [if_neg h2, if_neg h2, if_neg h2]; exact e2 j (by omega) hj
theorem ins_ok {nt : Nat} (hn : nt < 30) (hour one other : Nat → Int32) (x1 x2 x3 : Int32) : Ok (t_X7_add (nI nt) hour one other x1 x2 x3) (fun u => u.1 = nI (nt + 1) ∧ u.2.1 = nI (nt + 1) ∧ ∃ p, p ≤ nt ∧ (p = 0 ∨ hour (p - 1) ≤ x3) ∧ (∀ j, p ≤ j → j < nt → ¬ hour j ≤ x3) ∧ ∀ j, j ≤ nt → u.2.2.1 j = insf hour p x3 j ∧ u.2.2.2.1 j = insf one p x1 j ∧ u.2.2.2.2 j = insf other p x2 j) := by
  unfold t_X7_add
  refine lr_X7_add_6 _ (fun i c h o ot y1 y2 y3 x4 => c = nI nt ∧ y1 = x1 ∧ y2 = x2 ∧ y3 = x3 ∧ x4 = nI (nt - i) ∧ (∀ j, j < nt - i → h j = hour j ∧ o j = one j ∧ ot j = other j) ∧ (∀ j, nt - i < j → j ≤ nt → h j = hour (j - 1) ∧ o j = one (j - 1) ∧ ot j = other (j - 1)) ∧ (∀ j, nt - i ≤ j → j < nt → ¬ hour j ≤ x3)) nt ?_ ?_ lfuel 0 _ _ _ _ _ _ _ _ (Nat.zero_le _) (by unfold lfuel; omega) ?_
  · rintro kk i c h o ot y1 y2 y3 x4 hi ⟨d1, d2, d3, d4, d5, d6, d7, d8⟩ hk
    subst d1 d2 d3 d4 d5
    obtain ⟨q, hq⟩ : ∃ q, nt - i = q + 1 := ⟨nt - i - 1, by omega⟩
    rw [hq] at d6 d7 d8 ⊢
    unfold t_X7_add_6_b
    have hin1 := nI_in (c := q) (N := 30) (by omega) (by decide)
    have hin2 := nI_in (c := q + 1) (N := 30) (by omega) (by decide)
    rw [nI_pp, show nI (q + 1) + (-1 : Int32) = nI q from pk_m1 q]
    refine Ok.neg (nI_nle (by omega) (by omega)) (Ok.ck hin1 (Ok.ite (fun hc => ?_) (fun hc => ?_)))
    · rw [nI_clamp (by omega), (d6 q (by omega)).1] at hc
      exact ins78 hn (by omega) d6 d7 (Or.inr hc) d8
    · refine Ok.ck hin1 (Ok.ck hin2 (Ok.ck hin1 (Ok.ck hin2 (Ok.ck hin1 (Ok.ck hin2 ?_)))))
      rw [nI_clamp (by omega), (d6 q (by omega)).1] at hc
      refine hk _ _ _ _ _ _ _ _ ⟨rfl, rfl, rfl, rfl, by rw [show nt - (i + 1) = q by omega], ?_, ?_, ?_⟩
      · intro j hj
        rw [nI_clamp (by omega), upd_at, upd_at, upd_at, if_neg (by omega), if_neg (by omega), if_neg (by omega)]
        exact d6 j (by omega)
      · intro j hj hj2
        rw [nI_clamp (by omega), nI_clamp (by omega), upd_at, upd_at, upd_at]
        by_cases e : j = q + 1
        · rw [if_pos e, if_pos e, if_pos e, e]; exact d6 q (by omega)
        · rw [if_neg e, if_neg e, if_neg e]; exact d7 j (by omega) hj2
      · intro j hj hj2
        by_cases e : j = q
        · rw [e]; exact hc
        · exact d8 j (by omega) hj2
  · rintro kk c h o ot y1 y2 y3 x4 ⟨d1, d2, d3, d4, d5, d6, d7, d8⟩
    subst d1 d2 d3 d4 d5
    rw [Nat.sub_self] at d6 d7 d8 ⊢
    unfold t_X7_add_6_b
    exact Ok.pos (by decide) (ins78 hn (by omega) d6 d7 (Or.inl rfl) d8)
  · exact ⟨rfl, rfl, rfl, rfl, rfl, fun j hj => ⟨rfl, rfl, rfl⟩, fun j hj hj2 => by omega, fun j hj hj2 => by omega⟩
theorem RM.ins {nt : Nat} (hlt : nt < 30) {one other hour : Nat → Int32} {meetA meetB meetHour : Nat → Int32} {x1 x2 x3 : Int32} {h o ot : Nat → Int32} {p : Nat} (H : RM nt (nI nt) one other hour (nI nt) meetA meetB meetHour) (r1 : rg x1 10) (r2 : rg x2 10) (h12 : x1 ≠ x2) (r3 : rg x3 1000) (hp : p ≤ nt) (hx : p = 0 ∨ hour (p - 1) ≤ x3) (hg : ∀ j, p ≤ j → j < nt → ¬ hour j ≤ x3) (he : ∀ j, j ≤ nt → h j = insf hour p x3 j ∧ o j = insf one p x1 j ∧ ot j = insf other p x2 j) : RM (nt + 1) (nI (nt + 1)) o ot h (nI (nt + 1)) (upd meetA nt x1) (upd meetB nt x2) (upd meetHour nt x3) := by
  obtain ⟨m1, m2, m3, m4, m5, m6, m7, pm, p1, p2, p3, p4, p5⟩ := H
  refine ⟨hlt, rfl, rfl, upd_new (fun x => rg x 10) m4 r1, upd_new (fun x => rg x 10) m5 r2, upd_new2 (fun x y => x ≠ y) m6 h12, upd_new (fun x => rg x 1000) m7 r3, fun j => if j < p then pm j else if j = p then nt else pm (j - 1), ?_, ?_, ?_, ?_, ?_⟩
  · intro j hj
    by_cases c1 : j < p
    · simp only [if_pos c1]; have := p1 j (by omega); omega
    · by_cases c2 : j = p
      · simp only [if_neg c1, if_pos c2]; omega
      · simp only [if_neg c1, if_neg c2]; have := p1 (j - 1) (by omega); omega
  · -- order
    have old : ∀ j, j < nt → upd meetHour nt x3 (pm j) = hour j := fun j hj => by
      rw [upd_at, if_neg (by have := p1 j hj; omega), p5 j hj]
    have new : upd meetHour nt x3 nt = x3 := by rw [upd_at, if_pos rfl]
    have lo : ∀ j, j < p → hour j ≤ x3 := by
      intro j hj
      have hle : hour (p - 1) ≤ x3 := hx.resolve_left (by omega)
      by_cases e : j = p - 1
      · rw [e]; exact hle
      · have := p2 j (p - 1) (by omega) (by omega)
        rw [← p5 j (by omega), ← p5 (p - 1) (by omega)] at this
        rw [i_le] at hle ⊢
        rcases this with q | ⟨q, -⟩
        · rw [i_lt] at q; omega
        · rw [q]; exact hle
    intro i j hij hj
    by_cases c1 : j < p
    · simp only [if_pos c1, if_pos (show i < p by omega)]
      rw [old i (by omega), old j (by omega)]
      have := p2 i j hij (by omega)
      rw [p5 i (by omega), p5 j (by omega)]
      exact this
    · by_cases c2 : j = p
      · simp only [if_neg c1, if_pos c2, if_pos (show i < p by omega)]
        rw [old i (by omega), new]
        have h1 := lo i (by omega)
        have h2 := p1 i (by omega)
        rw [i_le] at h1
        by_cases e : hour i = x3
        · exact Or.inr ⟨e, h2⟩
        · left
          rw [i_lt]
          have : (hour i).toInt ≠ x3.toInt := fun q => e (Int32.toInt_inj.mp q)
          omega
      · simp only [if_neg c1, if_neg c2]
        rw [old (j - 1) (by omega)]
        have hj1 : ¬ hour (j - 1) ≤ x3 := hg (j - 1) (by omega) (by omega)
        by_cases c3 : i < p
        · simp only [if_pos c3]
          rw [old i (by omega)]
          have := p2 i (j - 1) (by omega) (by omega)
          rw [p5 i (by omega), p5 (j - 1) (by omega)]
          exact this
        · by_cases c4 : i = p
          · simp only [if_neg c3, if_pos c4]
            rw [new]
            left
            rw [i_le] at hj1
            rw [i_lt]
            omega
          · simp only [if_neg c3, if_neg c4]
            rw [old (i - 1) (by omega)]
            have := p2 (i - 1) (j - 1) (by omega) (by omega)
            rw [p5 (i - 1) (by omega), p5 (j - 1) (by omega)]
            exact this
  all_goals
    intro j hj
    have hj' := he j (by omega)
    first | rw [hj'.2.1] | rw [hj'.2.2] | rw [hj'.1]
    unfold insf
    by_cases c1 : j < p
    · simp only [if_pos c1]
      rw [upd_at, if_neg (by have := p1 j (by omega); omega)]
      first | exact p3 j (by omega) | exact p4 j (by omega) | exact p5 j (by omega)
    · by_cases c2 : j = p
      · simp only [if_neg c1, if_pos c2]
        rw [upd_at, if_pos rfl]
      · simp only [if_neg c1, if_neg c2]
        rw [upd_at, if_neg (by have := p1 (j - 1) (by omega); omega)]
        first | exact p3 (j - 1) (by omega) | exact p4 (j - 1) (by omega) | exact p5 (j - 1) (by omega)
set_option maxHeartbeats 4000000 in
theorem step_meet (p2_matches : Int32) (p2_stakes : Int32) (p2_meetings : Int32) (p2_newsFirst : Int32) (p2_newsHour : Int32) (p2_acts : Int32) (p2_stories : Int32) (p2_signs : Int32) (p2_ruleMany : Int32) (p1_bets_count : Int32) (p1_bets_near : Int32) (p1_bets_times : Int32) (p1_bets_ties : Int32) (p1_clause_count : Int32) (p1_clause_heldCount : Int32) (p1_games_count : Int32) (p1_games_base : Int32) (p1_ranks_down : Int32) (p1_rumour_count : Int32) (p1_rumour_first : Int32) (p1_rumour_since : Int32) (p1_squad_acts : Int32) (p1_tales_count : Int32) (p2_actMatch : Nat → Int32) (p2_actPlayers : Nat → Int32) (p2_allMoves : Nat → Int32) (p2_debt : Nat → Int32) (p2_goals : Nat → Int32) (p2_guest : Nat → Int32) (p2_home : Nat → Int32) (p2_hour : Nat → Int32) (p2_lateMoves : Nat → Int32) (p2_look : Nat → Int32) (p2_meetA : Nat → Int32) (p2_meetB : Nat → Int32) (p2_meetHour : Nat → Int32) (p2_owner : Nat → Int32) (p2_prices : Nat → Int32) (p2_referee : Nat → Int32) (p2_ruleSign : Nat → Int32) (p2_sign : Nat → Int32) (p2_skill : Nat → Int32) (p2_stakeEnd : Nat → Int32) (p2_stakeHand : Nat → Int32) (p2_stakeMatch : Nat → Int32) (p2_stakeMinute : Nat → Int32) (p2_stakeSum : Nat → Int32) (p2_storyFrom : Nat → Int32) (p2_storyPerson : Nat → Int32) (p2_storyPlace : Nat → Int32) (p2_storyTo : Nat → Int32) (p2_taken : Nat → Int32) (p2_told : Nat → Int32) (p1_bets_end : Nat → Int32) (p1_bets_hand : Nat → Int32) (p1_bets_match : Nat → Int32) (p1_bets_minute : Nat → Int32) (p1_bets_sum : Nat → Int32) (p1_clause_held : Nat → Int32) (p1_clause_signs : Nat → Int32) (p1_games_fee : Nat → Int32) (p1_games_goals : Nat → Int32) (p1_games_guest : Nat → Int32) (p1_games_home : Nat → Int32) (p1_games_hour : Nat → Int32) (p1_games_prices : Nat → Int32) (p1_games_referee : Nat → Int32) (p1_games_skills : Nat → Int32) (p1_ranks_taken : Nat → Int32) (p1_rumour_hour : Nat → Int32) (p1_rumour_one : Nat → Int32) (p1_rumour_other : Nat → Int32) (p1_rumour_owner : Nat → Int32) (p1_squad_actMatch : Nat → Int32) (p1_squad_actPlayers : Nat → Int32) (p1_squad_debts : Nat → Int32) (p1_squad_lateMoves : Nat → Int32) (p1_squad_moves : Nat → Int32) (p1_tales_against : Nat → Int32) (p1_tales_from : Nat → Int32) (p1_tales_person : Nat → Int32) (p1_tales_place : Nat → Int32) (p1_tales_to : Nat → Int32) (hR : Rel p1_games_count p1_games_base p1_games_skills p1_games_home p1_games_guest p1_games_referee p1_games_hour p1_games_fee p1_games_goals p1_games_prices p1_bets_count p1_bets_near p1_bets_times p1_bets_ties p1_bets_hand p1_bets_match p1_bets_end p1_bets_minute p1_bets_sum p1_rumour_count p1_rumour_one p1_rumour_other p1_rumour_hour p1_rumour_owner p1_rumour_first p1_rumour_since p1_squad_moves p1_squad_lateMoves p1_squad_debts p1_squad_acts p1_squad_actMatch p1_squad_actPlayers p1_tales_count p1_tales_person p1_tales_place p1_tales_from p1_tales_to p1_tales_against p1_ranks_down p1_ranks_taken p1_clause_count p1_clause_signs p1_clause_heldCount p1_clause_held p2_matches p2_skill p2_home p2_guest p2_referee p2_hour p2_look p2_goals p2_prices p2_told p2_stakes p2_stakeHand p2_stakeMatch p2_stakeEnd p2_stakeMinute p2_stakeSum p2_meetings p2_meetA p2_meetB p2_meetHour p2_owner p2_newsFirst p2_newsHour p2_allMoves p2_lateMoves p2_debt p2_acts p2_actMatch p2_actPlayers p2_stories p2_storyPerson p2_storyPlace p2_storyFrom p2_storyTo p2_taken p2_signs p2_sign p2_ruleMany p2_ruleSign) (x1 x2 x3 : Int32) : ∃ (r : Int32) (z0 : Int32) (z1 : Nat → Int32) (z2 : Nat → Int32) (z3 : Nat → Int32) (y0 : Int32) (y1 : Nat → Int32) (y2 : Nat → Int32) (y3 : Nat → Int32), t_X10_meet p1_rumour_count p1_rumour_hour p1_rumour_one p1_rumour_other x1 x2 x3 = some (r, z0, z1, z2, z3) ∧ t_X11_meet p2_meetings p2_meetA p2_meetB p2_meetHour x1 x2 x3 = some (r, y0, y1, y2, y3) ∧ Rel p1_games_count p1_games_base p1_games_skills p1_games_home p1_games_guest p1_games_referee p1_games_hour p1_games_fee p1_games_goals p1_games_prices p1_bets_count p1_bets_near p1_bets_times p1_bets_ties p1_bets_hand p1_bets_match p1_bets_end p1_bets_minute p1_bets_sum z0 z2 z3 z1 p1_rumour_owner p1_rumour_first p1_rumour_since p1_squad_moves p1_squad_lateMoves p1_squad_debts p1_squad_acts p1_squad_actMatch p1_squad_actPlayers p1_tales_count p1_tales_person p1_tales_place p1_tales_from p1_tales_to p1_tales_against p1_ranks_down p1_ranks_taken p1_clause_count p1_clause_signs p1_clause_heldCount p1_clause_held p2_matches p2_skill p2_home p2_guest p2_referee p2_hour p2_look p2_goals p2_prices p2_told p2_stakes p2_stakeHand p2_stakeMatch p2_stakeEnd p2_stakeMinute p2_stakeSum y0 y1 y2 y3 p2_owner p2_newsFirst p2_newsHour p2_allMoves p2_lateMoves p2_debt p2_acts p2_actMatch p2_actPlayers p2_stories p2_storyPerson p2_storyPlace p2_storyFrom p2_storyTo p2_taken p2_signs p2_sign p2_ruleMany p2_ruleSign := by
  obtain ⟨n, ns, nt, na, ny, ng, nh, hG, hB, hM, hO, hQ, hT, hK, hC, h0⟩ := hR
  obtain ⟨m1, m2, m3, m4, m5, m6, m7, m8⟩ := id hM
  subst m2 m3
  by_cases h1 : 0 ≤ x1 ∧ x1 ≤ 9
  · skip
    by_cases h2 : 0 ≤ x2 ∧ x2 ≤ 9
    · skip
      by_cases h3 : x1 = x2
      · have e1 : t_X10_meet (nI nt) p1_rumour_hour p1_rumour_one p1_rumour_other x1 x2 x3 = some (-1, nI nt, p1_rumour_hour, p1_rumour_one, p1_rumour_other) := by
          simp only [t_X10_meet, isPerson_ok, isHour_ok, bd1_s, n10, ↓reduceIte, if_pos h1, if_pos h2, if_pos h3]
        have e2 : t_X11_meet (nI nt) p2_meetA p2_meetB p2_meetHour x1 x2 x3 = some (-1, nI nt, p2_meetA, p2_meetB, p2_meetHour) := by
          simp only [t_X11_meet, isTen_ok, in_ok, bd1_s, n10, ↓reduceIte, if_pos h1, if_pos h2, if_pos h3]
        exact ⟨_, _, _, _, _, _, _, _, _, e1, e2, n, ns, nt, na, ny, ng, nh, hG, hB, hM, hO, hQ, hT, hK, hC, h0⟩
      · skip
        by_cases h4 : 0 ≤ x3 ∧ x3 ≤ 999
        · skip
          by_cases h6 : nt = 30
          · subst h6
            have e1 : t_X10_meet (nI 30) p1_rumour_hour p1_rumour_one p1_rumour_other x1 x2 x3 = some (-4, nI 30, p1_rumour_hour, p1_rumour_one, p1_rumour_other) := by
              simp only [t_X10_meet, t_X10_meet_58, isPerson_ok, isHour_ok, bd1_s, n10, ↓reduceIte, if_pos h1, if_pos h2, if_neg h3, if_pos h4, if_pos (show (30 : Int32) ≤ nI 30 by decide)]
            have e2 : t_X11_meet (nI 30) p2_meetA p2_meetB p2_meetHour x1 x2 x3 = some (-4, nI 30, p2_meetA, p2_meetB, p2_meetHour) := by
              simp only [t_X11_meet, isTen_ok, in_ok, bd1_s, n10, ↓reduceIte, if_pos h1, if_pos h2, if_neg h3, if_pos h4, if_pos (show nI 30 = (30 : Int32) by decide)]
            exact ⟨_, _, _, _, _, _, _, _, _, e1, e2, n, ns, 30, na, ny, ng, nh, hG, hB, hM, hO, hQ, hT, hK, hC, h0⟩
          · have hlt : nt < 30 := by omega
            obtain ⟨⟨r, c, h, o, ot⟩, ei, i1, i2, p, hp, hx, hg, he⟩ := ins_ok hlt p1_rumour_hour p1_rumour_one p1_rumour_other x1 x2 x3
            dsimp only at i1 i2 he
            subst i1 i2
            have e1 : t_X10_meet (nI nt) p1_rumour_hour p1_rumour_one p1_rumour_other x1 x2 x3 = some (nI (nt + 1), nI (nt + 1), h, o, ot) := by
              simp only [t_X10_meet, t_X10_meet_58, isPerson_ok, isHour_ok, bd1_s, n10, ↓reduceIte, if_pos h1, if_pos h2, if_neg h3, if_pos h4, if_neg (show ¬ (30 : Int32) ≤ nI nt from nI_ge hlt (by decide)), ei, bd5_s]
            have e2 : t_X11_meet (nI nt) p2_meetA p2_meetB p2_meetHour x1 x2 x3 = some (nI (nt + 1), nI (nt + 1), upd p2_meetA nt x1, upd p2_meetB nt x2, upd p2_meetHour nt x3) := by
              simp only [t_X11_meet, isTen_ok, in_ok, bd1_s, n10, ↓reduceIte, if_pos h1, if_pos h2, if_neg h3, if_pos h4, if_neg (show ¬ nI nt = (30 : Int32) from fun q => h6 ((nI_eq (a := nt) (b := 30) (by omega) (by decide)).mp q)), nI_clamp (show nt < 2 ^ 31 by omega), ckn_m hlt (by decide), nI_1]
            exact ⟨_, _, _, _, _, _, _, _, _, e1, e2, n, ns, nt + 1, na, ny, ng, nh, hG, hB, RM.ins hlt hM (rgo' 9 rfl h1) (rgo' 9 rfl h2) h3 (rgo' 999 rfl h4) hp hx hg he, hO, hQ, hT, hK, hC, h0⟩
        · have e1 : t_X10_meet (nI nt) p1_rumour_hour p1_rumour_one p1_rumour_other x1 x2 x3 = some (-2, nI nt, p1_rumour_hour, p1_rumour_one, p1_rumour_other) := by
            simp only [t_X10_meet, isPerson_ok, isHour_ok, bd1_s, n10, ↓reduceIte, if_pos h1, if_pos h2, if_neg h3, if_neg h4]
          have e2 : t_X11_meet (nI nt) p2_meetA p2_meetB p2_meetHour x1 x2 x3 = some (-2, nI nt, p2_meetA, p2_meetB, p2_meetHour) := by
            simp only [t_X11_meet, isTen_ok, in_ok, bd1_s, n10, ↓reduceIte, if_pos h1, if_pos h2, if_neg h3, if_neg h4]
          exact ⟨_, _, _, _, _, _, _, _, _, e1, e2, n, ns, nt, na, ny, ng, nh, hG, hB, hM, hO, hQ, hT, hK, hC, h0⟩
    · have e1 : t_X10_meet (nI nt) p1_rumour_hour p1_rumour_one p1_rumour_other x1 x2 x3 = some (-1, nI nt, p1_rumour_hour, p1_rumour_one, p1_rumour_other) := by
        simp only [t_X10_meet, isPerson_ok, isHour_ok, bd1_s, n10, ↓reduceIte, if_pos h1, if_neg h2]
      have e2 : t_X11_meet (nI nt) p2_meetA p2_meetB p2_meetHour x1 x2 x3 = some (-1, nI nt, p2_meetA, p2_meetB, p2_meetHour) := by
        simp only [t_X11_meet, isTen_ok, in_ok, bd1_s, n10, ↓reduceIte, if_pos h1, if_neg h2]
      exact ⟨_, _, _, _, _, _, _, _, _, e1, e2, n, ns, nt, na, ny, ng, nh, hG, hB, hM, hO, hQ, hT, hK, hC, h0⟩
  · have e1 : t_X10_meet (nI nt) p1_rumour_hour p1_rumour_one p1_rumour_other x1 x2 x3 = some (-1, nI nt, p1_rumour_hour, p1_rumour_one, p1_rumour_other) := by
      simp only [t_X10_meet, isPerson_ok, isHour_ok, bd1_s, n10, ↓reduceIte, if_neg h1]
    have e2 : t_X11_meet (nI nt) p2_meetA p2_meetB p2_meetHour x1 x2 x3 = some (-1, nI nt, p2_meetA, p2_meetB, p2_meetHour) := by
      simp only [t_X11_meet, isTen_ok, in_ok, bd1_s, n10, ↓reduceIte, if_neg h1]
    exact ⟨_, _, _, _, _, _, _, _, _, e1, e2, n, ns, nt, na, ny, ng, nh, hG, hB, hM, hO, hQ, hT, hK, hC, h0⟩
