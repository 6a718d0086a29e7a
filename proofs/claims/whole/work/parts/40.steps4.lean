-- needs 36 37 38 39
set_option maxHeartbeats 4000000 in
theorem step_story (p2_matches : Int32) (p2_stakes : Int32) (p2_meetings : Int32) (p2_newsFirst : Int32) (p2_newsHour : Int32) (p2_acts : Int32) (p2_stories : Int32) (p2_signs : Int32) (p2_ruleMany : Int32) (p1_bets_count : Int32) (p1_bets_near : Int32) (p1_bets_times : Int32) (p1_bets_ties : Int32) (p1_clause_count : Int32) (p1_clause_heldCount : Int32) (p1_games_count : Int32) (p1_games_base : Int32) (p1_ranks_down : Int32) (p1_rumour_count : Int32) (p1_rumour_first : Int32) (p1_rumour_since : Int32) (p1_squad_acts : Int32) (p1_tales_count : Int32) (p2_actMatch : Nat → Int32) (p2_actPlayers : Nat → Int32) (p2_allMoves : Nat → Int32) (p2_debt : Nat → Int32) (p2_goals : Nat → Int32) (p2_guest : Nat → Int32) (p2_home : Nat → Int32) (p2_hour : Nat → Int32) (p2_lateMoves : Nat → Int32) (p2_look : Nat → Int32) (p2_meetA : Nat → Int32) (p2_meetB : Nat → Int32) (p2_meetHour : Nat → Int32) (p2_owner : Nat → Int32) (p2_prices : Nat → Int32) (p2_referee : Nat → Int32) (p2_ruleSign : Nat → Int32) (p2_sign : Nat → Int32) (p2_skill : Nat → Int32) (p2_stakeEnd : Nat → Int32) (p2_stakeHand : Nat → Int32) (p2_stakeMatch : Nat → Int32) (p2_stakeMinute : Nat → Int32) (p2_stakeSum : Nat → Int32) (p2_storyFrom : Nat → Int32) (p2_storyPerson : Nat → Int32) (p2_storyPlace : Nat → Int32) (p2_storyTo : Nat → Int32) (p2_taken : Nat → Int32) (p2_told : Nat → Int32) (p1_bets_end : Nat → Int32) (p1_bets_hand : Nat → Int32) (p1_bets_match : Nat → Int32) (p1_bets_minute : Nat → Int32) (p1_bets_sum : Nat → Int32) (p1_clause_held : Nat → Int32) (p1_clause_signs : Nat → Int32) (p1_games_fee : Nat → Int32) (p1_games_goals : Nat → Int32) (p1_games_guest : Nat → Int32) (p1_games_home : Nat → Int32) (p1_games_hour : Nat → Int32) (p1_games_prices : Nat → Int32) (p1_games_referee : Nat → Int32) (p1_games_skills : Nat → Int32) (p1_ranks_taken : Nat → Int32) (p1_rumour_hour : Nat → Int32) (p1_rumour_one : Nat → Int32) (p1_rumour_other : Nat → Int32) (p1_rumour_owner : Nat → Int32) (p1_squad_actMatch : Nat → Int32) (p1_squad_actPlayers : Nat → Int32) (p1_squad_debts : Nat → Int32) (p1_squad_lateMoves : Nat → Int32) (p1_squad_moves : Nat → Int32) (p1_tales_against : Nat → Int32) (p1_tales_from : Nat → Int32) (p1_tales_person : Nat → Int32) (p1_tales_place : Nat → Int32) (p1_tales_to : Nat → Int32) (hR : Rel p1_games_count p1_games_base p1_games_skills p1_games_home p1_games_guest p1_games_referee p1_games_hour p1_games_fee p1_games_goals p1_games_prices p1_bets_count p1_bets_near p1_bets_times p1_bets_ties p1_bets_hand p1_bets_match p1_bets_end p1_bets_minute p1_bets_sum p1_rumour_count p1_rumour_one p1_rumour_other p1_rumour_hour p1_rumour_owner p1_rumour_first p1_rumour_since p1_squad_moves p1_squad_lateMoves p1_squad_debts p1_squad_acts p1_squad_actMatch p1_squad_actPlayers p1_tales_count p1_tales_person p1_tales_place p1_tales_from p1_tales_to p1_tales_against p1_ranks_down p1_ranks_taken p1_clause_count p1_clause_signs p1_clause_heldCount p1_clause_held p2_matches p2_skill p2_home p2_guest p2_referee p2_hour p2_look p2_goals p2_prices p2_told p2_stakes p2_stakeHand p2_stakeMatch p2_stakeEnd p2_stakeMinute p2_stakeSum p2_meetings p2_meetA p2_meetB p2_meetHour p2_owner p2_newsFirst p2_newsHour p2_allMoves p2_lateMoves p2_debt p2_acts p2_actMatch p2_actPlayers p2_stories p2_storyPerson p2_storyPlace p2_storyFrom p2_storyTo p2_taken p2_signs p2_sign p2_ruleMany p2_ruleSign) (x1 x2 x3 x4 : Int32) : ∃ (r : Int32) (z0 : Int32) (z1 : Nat → Int32) (z2 : Nat → Int32) (z3 : Nat → Int32) (z4 : Nat → Int32) (z5 : Nat → Int32) (y0 : Int32) (y1 : Nat → Int32) (y2 : Nat → Int32) (y3 : Nat → Int32) (y4 : Nat → Int32), t_X10_story p1_tales_count p1_tales_against p1_tales_from p1_tales_person p1_tales_place p1_tales_to x1 x2 x3 x4 = some (r, z0, z1, z2, z3, z4, z5) ∧ t_X11_story p2_stories p2_storyFrom p2_storyPerson p2_storyPlace p2_storyTo x1 x2 x3 x4 = some (r, y0, y1, y2, y3, y4) ∧ Rel p1_games_count p1_games_base p1_games_skills p1_games_home p1_games_guest p1_games_referee p1_games_hour p1_games_fee p1_games_goals p1_games_prices p1_bets_count p1_bets_near p1_bets_times p1_bets_ties p1_bets_hand p1_bets_match p1_bets_end p1_bets_minute p1_bets_sum p1_rumour_count p1_rumour_one p1_rumour_other p1_rumour_hour p1_rumour_owner p1_rumour_first p1_rumour_since p1_squad_moves p1_squad_lateMoves p1_squad_debts p1_squad_acts p1_squad_actMatch p1_squad_actPlayers z0 z3 z4 z2 z5 z1 p1_ranks_down p1_ranks_taken p1_clause_count p1_clause_signs p1_clause_heldCount p1_clause_held p2_matches p2_skill p2_home p2_guest p2_referee p2_hour p2_look p2_goals p2_prices p2_told p2_stakes p2_stakeHand p2_stakeMatch p2_stakeEnd p2_stakeMinute p2_stakeSum p2_meetings p2_meetA p2_meetB p2_meetHour p2_owner p2_newsFirst p2_newsHour p2_allMoves p2_lateMoves p2_debt p2_acts p2_actMatch p2_actPlayers y0 y2 y3 y1 y4 p2_taken p2_signs p2_sign p2_ruleMany p2_ruleSign := by
  have hR0 := hR
  obtain ⟨n, ns, nt, na, ny, ng, nh, hG, hB, hM, hO, hQ, hT, hK, hC, h0⟩ := hR
  obtain ⟨t1, t2, t3, t4, t5, t6, t7, t8⟩ := id hT
  subst t2 t3
  have t4 := t4.symm
  have t5 := t5.symm
  have t6 := t6.symm
  have t7 := t7.symm
  subst t4 t5 t6 t7
  by_cases h1 : 0 ≤ x1 ∧ x1 ≤ 9
  · by_cases h2 : (0 ≤ x2 ∧ x2 ≤ 9) ∧ (0 ≤ x3 ∧ x3 ≤ 999) ∧ (0 ≤ x4 ∧ x4 ≤ 999) ∧ x3 ≤ x4
    · obtain ⟨h2, h3, h4, h5⟩ := h2
      by_cases h6 : ny = 10
      · subst h6
        have e1 : t_X10_story (nI 10) p1_tales_against p1_tales_from p1_tales_person p1_tales_place p1_tales_to x1 x2 x3 x4 = some (-4, nI 10, p1_tales_against, p1_tales_from, p1_tales_person, p1_tales_place, p1_tales_to) := by
          simp only [t_X10_story, t_X10_story_72, isPerson_ok, within_ok, isHour_ok, bd1_s, n10, ↓reduceIte, if_pos h1, if_pos h2, if_pos h3, if_pos h4, if_pos h5, if_pos (show (10 : Int32) ≤ nI 10 by decide)]
        have e2 : t_X11_story (nI 10) p1_tales_from p1_tales_person p1_tales_place p1_tales_to x1 x2 x3 x4 = some (-4, nI 10, p1_tales_from, p1_tales_person, p1_tales_place, p1_tales_to) := by
          simp only [t_X11_story, isTen_ok, in_ok, bd1_s, n10, ↓reduceIte, if_pos h1, if_pos h2, if_pos h3, if_pos h4, if_pos h5, if_pos (show nI 10 = (10 : Int32) by decide)]
        exact ⟨_, _, _, _, _, _, _, _, _, _, _, _, e1, e2, n, ns, nt, na, 10, ng, nh, hG, hB, hM, hO, hQ, hT, hK, hC, h0⟩
      · have hlt : ny < 10 := by omega
        obtain ⟨⟨r, c, ag, ab⟩, ea, a1, a2, a3, a4⟩ := tale_add hlt t8 x1 x2 x3 x4
        simp only at a1 a2 a3 a4
        subst a1 a2 a3
        have e1 : t_X10_story (nI ny) p1_tales_against p1_tales_from p1_tales_person p1_tales_place p1_tales_to x1 x2 x3 x4 = some (nI ny, nI (ny + 1), ag, upd p1_tales_from ny x3, upd p1_tales_person ny x1, upd p1_tales_place ny x2, upd p1_tales_to ny x4) := by
          simp only [t_X10_story, t_X10_story_72, isPerson_ok, within_ok, isHour_ok, bd1_s, n10, ↓reduceIte, if_pos h1, if_pos h2, if_pos h3, if_pos h4, if_pos h5, if_neg (show ¬ (10 : Int32) ≤ nI ny from nI_ge hlt (by decide)), ea, bd7_s]
        have e2 : t_X11_story (nI ny) p1_tales_from p1_tales_person p1_tales_place p1_tales_to x1 x2 x3 x4 = some (nI ny, nI (ny + 1), upd p1_tales_from ny x3, upd p1_tales_person ny x1, upd p1_tales_place ny x2, upd p1_tales_to ny x4) := by
          simp only [t_X11_story, isTen_ok, in_ok, bd1_s, n10, ↓reduceIte, if_pos h1, if_pos h2, if_pos h3, if_pos h4, if_pos h5, if_neg (show ¬ nI ny = (10 : Int32) from fun q => h6 ((nI_eq (a := ny) (b := 10) (by omega) (by decide)).mp q)), nI_clamp (show ny < 2 ^ 31 by omega), ckn_m hlt (by decide), nI_1, nI_pp]
        exact ⟨_, _, _, _, _, _, _, _, _, _, _, _, e1, e2, n, ns, nt, na, ny + 1, ng, nh, hG, hB, hM, hO, hQ, ⟨hlt, rfl, rfl, rfl, rfl, rfl, rfl, a4.full⟩, hK, hC, h0⟩
    · have e1 : t_X10_story (nI ny) p1_tales_against p1_tales_from p1_tales_person p1_tales_place p1_tales_to x1 x2 x3 x4 = some (-2, nI ny, p1_tales_against, p1_tales_from, p1_tales_person, p1_tales_place, p1_tales_to) := by
        simp only [t_X10_story, isPerson_ok, within_ok, isHour_ok, bd1_s, n10, ↓reduceIte, if_pos h1, bz]
        by_cases g2 : 0 ≤ x2 ∧ x2 ≤ 9
        · by_cases g3 : 0 ≤ x3 ∧ x3 ≤ 999
          · by_cases g4 : 0 ≤ x4 ∧ x4 ≤ 999
            · rw [if_pos g2, if_pos g3, if_pos g4, if_neg (fun g5 => h2 ⟨g2, g3, g4, g5⟩)]
            · rw [if_pos g2, if_pos g3, if_neg g4]
          · rw [if_pos g2, if_neg g3]
        · rw [if_neg g2]
      have e2 : t_X11_story (nI ny) p1_tales_from p1_tales_person p1_tales_place p1_tales_to x1 x2 x3 x4 = some (-2, nI ny, p1_tales_from, p1_tales_person, p1_tales_place, p1_tales_to) := by
        simp only [t_X11_story, isTen_ok, in_ok, bd1_s, n10, ↓reduceIte, if_pos h1, bz]
        by_cases g2 : 0 ≤ x2 ∧ x2 ≤ 9
        · by_cases g3 : 0 ≤ x3 ∧ x3 ≤ 999
          · by_cases g4 : 0 ≤ x4 ∧ x4 ≤ 999
            · rw [if_pos g2, if_pos g3, if_pos g4, if_neg (fun g5 => h2 ⟨g2, g3, g4, g5⟩)]
            · rw [if_pos g2, if_pos g3, if_neg g4]
          · rw [if_pos g2, if_neg g3]
        · rw [if_neg g2]
      exact ⟨_, _, _, _, _, _, _, _, _, _, _, _, e1, e2, n, ns, nt, na, ny, ng, nh, hG, hB, hM, hO, hQ, hT, hK, hC, h0⟩
  · have e1 : t_X10_story (nI ny) p1_tales_against p1_tales_from p1_tales_person p1_tales_place p1_tales_to x1 x2 x3 x4 = some (-1, nI ny, p1_tales_against, p1_tales_from, p1_tales_person, p1_tales_place, p1_tales_to) := by
      simp only [t_X10_story, isPerson_ok, bd1_s, n10, ↓reduceIte, if_neg h1]
    have e2 : t_X11_story (nI ny) p1_tales_from p1_tales_person p1_tales_place p1_tales_to x1 x2 x3 x4 = some (-1, nI ny, p1_tales_from, p1_tales_person, p1_tales_place, p1_tales_to) := by
      simp only [t_X11_story, isTen_ok, bd1_s, n10, ↓reduceIte, if_neg h1]
    exact ⟨_, _, _, _, _, _, _, _, _, _, _, _, e1, e2, n, ns, nt, na, ny, ng, nh, hG, hB, hM, hO, hQ, hT, hK, hC, h0⟩
set_option maxHeartbeats 4000000 in
theorem step_untrue (p2_matches : Int32) (p2_stakes : Int32) (p2_meetings : Int32) (p2_newsFirst : Int32) (p2_newsHour : Int32) (p2_acts : Int32) (p2_stories : Int32) (p2_signs : Int32) (p2_ruleMany : Int32) (p1_bets_count : Int32) (p1_bets_near : Int32) (p1_bets_times : Int32) (p1_bets_ties : Int32) (p1_clause_count : Int32) (p1_clause_heldCount : Int32) (p1_games_count : Int32) (p1_games_base : Int32) (p1_ranks_down : Int32) (p1_rumour_count : Int32) (p1_rumour_first : Int32) (p1_rumour_since : Int32) (p1_squad_acts : Int32) (p1_tales_count : Int32) (p1_tales_fewest : Int32) (p1_tales_sure : Int32) (p2_actMatch : Nat → Int32) (p2_actPlayers : Nat → Int32) (p2_allMoves : Nat → Int32) (p2_debt : Nat → Int32) (p2_goals : Nat → Int32) (p2_guest : Nat → Int32) (p2_home : Nat → Int32) (p2_hour : Nat → Int32) (p2_lateMoves : Nat → Int32) (p2_look : Nat → Int32) (p2_meetA : Nat → Int32) (p2_meetB : Nat → Int32) (p2_meetHour : Nat → Int32) (p2_owner : Nat → Int32) (p2_prices : Nat → Int32) (p2_referee : Nat → Int32) (p2_ruleSign : Nat → Int32) (p2_sign : Nat → Int32) (p2_skill : Nat → Int32) (p2_stakeEnd : Nat → Int32) (p2_stakeHand : Nat → Int32) (p2_stakeMatch : Nat → Int32) (p2_stakeMinute : Nat → Int32) (p2_stakeSum : Nat → Int32) (p2_storyFrom : Nat → Int32) (p2_storyPerson : Nat → Int32) (p2_storyPlace : Nat → Int32) (p2_storyTo : Nat → Int32) (p2_taken : Nat → Int32) (p2_told : Nat → Int32) (p1_bets_end : Nat → Int32) (p1_bets_hand : Nat → Int32) (p1_bets_match : Nat → Int32) (p1_bets_minute : Nat → Int32) (p1_bets_sum : Nat → Int32) (p1_clause_held : Nat → Int32) (p1_clause_signs : Nat → Int32) (p1_games_fee : Nat → Int32) (p1_games_goals : Nat → Int32) (p1_games_guest : Nat → Int32) (p1_games_home : Nat → Int32) (p1_games_hour : Nat → Int32) (p1_games_prices : Nat → Int32) (p1_games_referee : Nat → Int32) (p1_games_skills : Nat → Int32) (p1_ranks_taken : Nat → Int32) (p1_rumour_hour : Nat → Int32) (p1_rumour_one : Nat → Int32) (p1_rumour_other : Nat → Int32) (p1_rumour_owner : Nat → Int32) (p1_squad_actMatch : Nat → Int32) (p1_squad_actPlayers : Nat → Int32) (p1_squad_debts : Nat → Int32) (p1_squad_lateMoves : Nat → Int32) (p1_squad_moves : Nat → Int32) (p1_tales_against : Nat → Int32) (p1_tales_from : Nat → Int32) (p1_tales_person : Nat → Int32) (p1_tales_place : Nat → Int32) (p1_tales_to : Nat → Int32) (hR : Rel p1_games_count p1_games_base p1_games_skills p1_games_home p1_games_guest p1_games_referee p1_games_hour p1_games_fee p1_games_goals p1_games_prices p1_bets_count p1_bets_near p1_bets_times p1_bets_ties p1_bets_hand p1_bets_match p1_bets_end p1_bets_minute p1_bets_sum p1_rumour_count p1_rumour_one p1_rumour_other p1_rumour_hour p1_rumour_owner p1_rumour_first p1_rumour_since p1_squad_moves p1_squad_lateMoves p1_squad_debts p1_squad_acts p1_squad_actMatch p1_squad_actPlayers p1_tales_count p1_tales_person p1_tales_place p1_tales_from p1_tales_to p1_tales_against p1_ranks_down p1_ranks_taken p1_clause_count p1_clause_signs p1_clause_heldCount p1_clause_held p2_matches p2_skill p2_home p2_guest p2_referee p2_hour p2_look p2_goals p2_prices p2_told p2_stakes p2_stakeHand p2_stakeMatch p2_stakeEnd p2_stakeMinute p2_stakeSum p2_meetings p2_meetA p2_meetB p2_meetHour p2_owner p2_newsFirst p2_newsHour p2_allMoves p2_lateMoves p2_debt p2_acts p2_actMatch p2_actPlayers p2_stories p2_storyPerson p2_storyPlace p2_storyFrom p2_storyTo p2_taken p2_signs p2_sign p2_ruleMany p2_ruleSign) (x1 : Int32) : ∃ (r : Int32) (z0 : Int32) (z1 : Int32), t_X10_untrue p1_tales_count p1_tales_fewest p1_tales_sure p1_tales_against x1 = some (r, z0, z1) ∧ t_X11_untrue p2_stories p2_storyFrom p2_storyPerson p2_storyPlace p2_storyTo x1 = some r ∧ Rel p1_games_count p1_games_base p1_games_skills p1_games_home p1_games_guest p1_games_referee p1_games_hour p1_games_fee p1_games_goals p1_games_prices p1_bets_count p1_bets_near p1_bets_times p1_bets_ties p1_bets_hand p1_bets_match p1_bets_end p1_bets_minute p1_bets_sum p1_rumour_count p1_rumour_one p1_rumour_other p1_rumour_hour p1_rumour_owner p1_rumour_first p1_rumour_since p1_squad_moves p1_squad_lateMoves p1_squad_debts p1_squad_acts p1_squad_actMatch p1_squad_actPlayers p1_tales_count p1_tales_person p1_tales_place p1_tales_from p1_tales_to p1_tales_against p1_ranks_down p1_ranks_taken p1_clause_count p1_clause_signs p1_clause_heldCount p1_clause_held p2_matches p2_skill p2_home p2_guest p2_referee p2_hour p2_look p2_goals p2_prices p2_told p2_stakes p2_stakeHand p2_stakeMatch p2_stakeEnd p2_stakeMinute p2_stakeSum p2_meetings p2_meetA p2_meetB p2_meetHour p2_owner p2_newsFirst p2_newsHour p2_allMoves p2_lateMoves p2_debt p2_acts p2_actMatch p2_actPlayers p2_stories p2_storyPerson p2_storyPlace p2_storyFrom p2_storyTo p2_taken p2_signs p2_sign p2_ruleMany p2_ruleSign := by
  have hR0 := hR
  obtain ⟨n, ns, nt, na, ny, ng, nh, hG, hB, hM, hO, hQ, hT, hK, hC, h0⟩ := hR
  obtain ⟨t1, t2, t3, t4, t5, t6, t7, t8⟩ := id hT
  subst t2 t3
  have t4 := t4.symm
  have t5 := t5.symm
  have t6 := t6.symm
  have t7 := t7.symm
  subst t4 t5 t6 t7
  obtain ⟨⟨f, s⟩, es, x, hx⟩ := sift_ok t1 t8 p1_tales_fewest p1_tales_sure
  obtain ⟨v, ev, hv⟩ := untrue_ok t1 p1_tales_person p1_tales_place p1_tales_from p1_tales_to x1
  simp only at hx
  have hp := p2_lt t1
  cases ho : untS (cbP ny (clashP p1_tales_person p1_tales_place p1_tales_from p1_tales_to)) (2 ^ ny) with
  | none =>
    refine absurd (untS_none ho (2 ^ ny - 1) (by have := Nat.two_pow_pos ny; omega)) (fun h => h ?_)
    intro a b ha hb hab hK
    refine Or.inl ?_
    rw [Nat.testBit_two_pow_sub_one]
    exact decide_eq_true ha
  | some bs =>
    rw [ho] at hx
    obtain ⟨y1, y2, y3, y4, y5⟩ := hx
    subst y1 y2
    have hw := hv bs ho
    have e0 : (0 : Int32).toInt = 0 := rfl
    have e2 : (2 : Int32).toInt = 2 := rfl
    by_cases c0 : x1 = 0
    · subst c0
      rw [if_pos rfl] at hw
      have e1 : t_X10_untrue (nI ny) p1_tales_fewest p1_tales_sure p1_tales_against 0 = some (nI bs.1, nI bs.1, nI bs.2) := by
        simp only [t_X10_untrue, ↓reduceIte, es, bd2_s]
      have e2 : t_X11_untrue (nI ny) p1_tales_from p1_tales_person p1_tales_place p1_tales_to 0 = some (nI bs.1) := by
        simp only [t_X11_untrue, in_ok, bd1_s, if_pos (show (0 : Int32) ≤ 0 ∧ (0 : Int32) ≤ 2 by decide), n10, ↓reduceIte, ev, hw]
      exact ⟨_, _, _, e1, e2, hR0⟩
    · by_cases c1 : x1 = 1
      · subst c1
        rw [if_neg c0, if_pos rfl] at hw
        have e1 : t_X10_untrue (nI ny) p1_tales_fewest p1_tales_sure p1_tales_against 1 = some (nI (pop bs.1), nI bs.1, nI bs.2) := by
          simp only [t_X10_untrue, n10, ↓reduceIte, es, bd2_s, bitCount_ok (show bs.1 < 4096 by omega), bd1_s]
        have e2 : t_X11_untrue (nI ny) p1_tales_from p1_tales_person p1_tales_place p1_tales_to 1 = some (nI (pop bs.1)) := by
          simp only [t_X11_untrue, in_ok, bd1_s, if_pos (show (0 : Int32) ≤ 1 ∧ (1 : Int32) ≤ 2 by decide), n10, ↓reduceIte, ev, hw]
        exact ⟨_, _, _, e1, e2, hR0⟩
      · by_cases c2 : x1 = 2
        · subst c2
          rw [if_neg c0, if_neg c1] at hw
          have e1 : t_X10_untrue (nI ny) p1_tales_fewest p1_tales_sure p1_tales_against 2 = some (nI bs.2, nI bs.1, nI bs.2) := by
            simp only [t_X10_untrue, if_neg c0, if_neg c1, ↓reduceIte, es, bd2_s]
          have e2 : t_X11_untrue (nI ny) p1_tales_from p1_tales_person p1_tales_place p1_tales_to 2 = some (nI bs.2) := by
            simp only [t_X11_untrue, in_ok, bd1_s, if_pos (show (0 : Int32) ≤ 2 ∧ (2 : Int32) ≤ 2 by decide), n10, ↓reduceIte, ev, hw]
          exact ⟨_, _, _, e1, e2, hR0⟩
        · have hn : ¬ (0 ≤ x1 ∧ x1 ≤ 2) := by
            intro h
            obtain ⟨k, hk, rfl⟩ := rgo 2 rfl h
            rcases (show k = 0 ∨ k = 1 ∨ k = 2 by omega) with rfl | rfl | rfl
            · exact c0 rfl
            · exact c1 rfl
            · exact c2 rfl
          have e1 : t_X10_untrue (nI ny) p1_tales_fewest p1_tales_sure p1_tales_against x1 = some (-2, p1_tales_fewest, p1_tales_sure) := by
            simp only [t_X10_untrue, if_neg c0, if_neg c1, if_neg c2]
          have e2 : t_X11_untrue (nI ny) p1_tales_from p1_tales_person p1_tales_place p1_tales_to x1 = some (-2) := by
            simp only [t_X11_untrue, in_ok, bd1_s, if_neg hn, ↓reduceIte]
          exact ⟨_, _, _, e1, e2, hR0⟩
