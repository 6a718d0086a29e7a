set_option maxHeartbeats 4000000 in
theorem step_late (p2_matches : Int32) (p2_stakes : Int32) (p2_meetings : Int32) (p2_newsFirst : Int32) (p2_newsHour : Int32) (p2_acts : Int32) (p2_stories : Int32) (p2_signs : Int32) (p2_ruleMany : Int32) (p1_bets_count : Int32) (p1_bets_near : Int32) (p1_bets_times : Int32) (p1_bets_ties : Int32) (p1_clause_count : Int32) (p1_clause_heldCount : Int32) (p1_games_count : Int32) (p1_games_base : Int32) (p1_ranks_down : Int32) (p1_rumour_count : Int32) (p1_rumour_first : Int32) (p1_rumour_since : Int32) (p1_squad_acts : Int32) (p1_tales_count : Int32) (p1_squad_odds_upper : Int64) (p1_squad_odds_lower : Int64) (p2_actMatch : Nat → Int32) (p2_actPlayers : Nat → Int32) (p2_allMoves : Nat → Int32) (p2_debt : Nat → Int32) (p2_goals : Nat → Int32) (p2_guest : Nat → Int32) (p2_home : Nat → Int32) (p2_hour : Nat → Int32) (p2_lateMoves : Nat → Int32) (p2_look : Nat → Int32) (p2_meetA : Nat → Int32) (p2_meetB : Nat → Int32) (p2_meetHour : Nat → Int32) (p2_owner : Nat → Int32) (p2_prices : Nat → Int32) (p2_referee : Nat → Int32) (p2_ruleSign : Nat → Int32) (p2_sign : Nat → Int32) (p2_skill : Nat → Int32) (p2_stakeEnd : Nat → Int32) (p2_stakeHand : Nat → Int32) (p2_stakeMatch : Nat → Int32) (p2_stakeMinute : Nat → Int32) (p2_stakeSum : Nat → Int32) (p2_storyFrom : Nat → Int32) (p2_storyPerson : Nat → Int32) (p2_storyPlace : Nat → Int32) (p2_storyTo : Nat → Int32) (p2_taken : Nat → Int32) (p2_told : Nat → Int32) (p1_bets_end : Nat → Int32) (p1_bets_hand : Nat → Int32) (p1_bets_match : Nat → Int32) (p1_bets_minute : Nat → Int32) (p1_bets_sum : Nat → Int32) (p1_clause_held : Nat → Int32) (p1_clause_signs : Nat → Int32) (p1_games_fee : Nat → Int32) (p1_games_goals : Nat → Int32) (p1_games_guest : Nat → Int32) (p1_games_home : Nat → Int32) (p1_games_hour : Nat → Int32) (p1_games_prices : Nat → Int32) (p1_games_referee : Nat → Int32) (p1_games_skills : Nat → Int32) (p1_ranks_taken : Nat → Int32) (p1_rumour_hour : Nat → Int32) (p1_rumour_one : Nat → Int32) (p1_rumour_other : Nat → Int32) (p1_rumour_owner : Nat → Int32) (p1_squad_actMatch : Nat → Int32) (p1_squad_actPlayers : Nat → Int32) (p1_squad_debts : Nat → Int32) (p1_squad_lateMoves : Nat → Int32) (p1_squad_moves : Nat → Int32) (p1_tales_against : Nat → Int32) (p1_tales_from : Nat → Int32) (p1_tales_person : Nat → Int32) (p1_tales_place : Nat → Int32) (p1_tales_to : Nat → Int32) (p1_squad_odds_cases : Nat → Int64) (hR : Rel p1_games_count p1_games_base p1_games_skills p1_games_home p1_games_guest p1_games_referee p1_games_hour p1_games_fee p1_games_goals p1_games_prices p1_bets_count p1_bets_near p1_bets_times p1_bets_ties p1_bets_hand p1_bets_match p1_bets_end p1_bets_minute p1_bets_sum p1_rumour_count p1_rumour_one p1_rumour_other p1_rumour_hour p1_rumour_owner p1_rumour_first p1_rumour_since p1_squad_moves p1_squad_lateMoves p1_squad_debts p1_squad_acts p1_squad_actMatch p1_squad_actPlayers p1_tales_count p1_tales_person p1_tales_place p1_tales_from p1_tales_to p1_tales_against p1_ranks_down p1_ranks_taken p1_clause_count p1_clause_signs p1_clause_heldCount p1_clause_held p2_matches p2_skill p2_home p2_guest p2_referee p2_hour p2_look p2_goals p2_prices p2_told p2_stakes p2_stakeHand p2_stakeMatch p2_stakeEnd p2_stakeMinute p2_stakeSum p2_meetings p2_meetA p2_meetB p2_meetHour p2_owner p2_newsFirst p2_newsHour p2_allMoves p2_lateMoves p2_debt p2_acts p2_actMatch p2_actPlayers p2_stories p2_storyPerson p2_storyPlace p2_storyFrom p2_storyTo p2_taken p2_signs p2_sign p2_ruleMany p2_ruleSign) (x1 x2 x3 : Int32) : ∃ (r : Int64) (z0 : Int64) (z1 : Int64) (z2 : Nat → Int64), t_X10_late p1_squad_odds_upper p1_squad_odds_lower p1_squad_lateMoves p1_squad_moves p1_squad_odds_cases x1 x2 x3 = some (r, z0, z1, z2) ∧ t_X11_late p2_allMoves p2_lateMoves x1 x2 x3 = some r ∧ Rel p1_games_count p1_games_base p1_games_skills p1_games_home p1_games_guest p1_games_referee p1_games_hour p1_games_fee p1_games_goals p1_games_prices p1_bets_count p1_bets_near p1_bets_times p1_bets_ties p1_bets_hand p1_bets_match p1_bets_end p1_bets_minute p1_bets_sum p1_rumour_count p1_rumour_one p1_rumour_other p1_rumour_hour p1_rumour_owner p1_rumour_first p1_rumour_since p1_squad_moves p1_squad_lateMoves p1_squad_debts p1_squad_acts p1_squad_actMatch p1_squad_actPlayers p1_tales_count p1_tales_person p1_tales_place p1_tales_from p1_tales_to p1_tales_against p1_ranks_down p1_ranks_taken p1_clause_count p1_clause_signs p1_clause_heldCount p1_clause_held p2_matches p2_skill p2_home p2_guest p2_referee p2_hour p2_look p2_goals p2_prices p2_told p2_stakes p2_stakeHand p2_stakeMatch p2_stakeEnd p2_stakeMinute p2_stakeSum p2_meetings p2_meetA p2_meetB p2_meetHour p2_owner p2_newsFirst p2_newsHour p2_allMoves p2_lateMoves p2_debt p2_acts p2_actMatch p2_actPlayers p2_stories p2_storyPerson p2_storyPlace p2_storyFrom p2_storyTo p2_taken p2_signs p2_sign p2_ruleMany p2_ruleSign := by
  have hR0 := hR
  obtain ⟨n, ns, nt, na, ny, ng, nh, hG, hB, hM, hO, hQ, hT, hK, hC, h0⟩ := hR
  obtain ⟨q1, q2, q3, q4, q5, q6, q7, q8, q9, q10, q11, q12⟩ := id hQ
  have q8 := q8.symm
  have q9 := q9.symm
  subst q8 q9
  by_cases h1 : 0 ≤ x1 ∧ x1 ≤ 9
  · by_cases h2 : (1 ≤ x2 ∧ x2 ≤ 19) ∧ (0 ≤ x3 ∧ x3 ≤ 1)
    · obtain ⟨h2, h3⟩ := h2
      obtain ⟨p, hp, rfl⟩ := rgo 9 rfl h1
      have h20 : (0 : Int32) ≤ x2 := by
        have := h2.1
        rw [i_le] at this ⊢
        have e0 : (0 : Int32).toInt = 0 := rfl
        have e1 : (1 : Int32).toInt = 1 := rfl
        omega
      obtain ⟨w, hw, rfl⟩ := rgo 19 rfl ⟨h20, h2.2⟩
      obtain ⟨a, b, hba, ha, ea, eb⟩ := q4 p (by omega)
      by_cases c0 : a = 0
      · subst c0
        have e1 : t_X10_late p1_squad_odds_upper p1_squad_odds_lower p1_squad_lateMoves p1_squad_moves p1_squad_odds_cases (nI p) (nI w) x3 = some (-1000000000000000003, p1_squad_odds_upper, p1_squad_odds_lower, p1_squad_odds_cases) := by
          simp only [t_X10_late, isPlayer_ok, within_ok, bd1_s, if_pos h1, if_pos h2, if_pos h3, n10, ↓reduceIte, nI_clamp (show p < 2 ^ 31 by omega), ckn_m (show p < 10 by omega) (by decide), ea, nI_0]
        have e2 : t_X11_late p1_squad_moves p1_squad_lateMoves (nI p) (nI w) x3 = some (-1000000000000000003) := by
          simp only [t_X11_late, isTen_ok, in_ok, bd1_s, if_pos h1, if_pos h2, if_pos h3, n10, ↓reduceIte, nI_clamp (show p < 2 ^ 31 by omega), ckn_m (show p < 10 by omega) (by decide), ea, nI_0]
        exact ⟨_, _, _, _, e1, e2, hR0⟩
      · have ha0 : ¬ nI a = 0 := nI_ne0 (by omega) (by omega)
        by_cases c1 : a ≤ 12
        · obtain ⟨⟨u, l, cs⟩, ec, hu, hl⟩ := countLate_ok (n := a) (late := b) (w := w) c1 (by omega) (by omega) p1_squad_odds_upper p1_squad_odds_lower p1_squad_odds_cases
          simp only at hu hl
          subst hu hl
          obtain ⟨v, ev, hv⟩ := low_ok (u := sm (lf w a b) 13) (l := 20 ^ a) (lf_le (by omega)) (Nat.pow_pos (by decide)) (Nat.lt_of_le_of_lt (Nat.pow_le_pow_right (by decide) c1) (by decide)) x3
          obtain ⟨r, er, hr⟩ := late113_ok (n := a) (late := b) (w := w) c1 hba (by omega) p1_squad_moves p1_squad_lateMoves x3
          rw [term_ok (lf_le (by omega)) (Nat.pow_pos (by decide)) (Nat.lt_of_le_of_lt (Nat.pow_le_pow_right (by decide) c1) (by decide)), ← hv] at hr
          have hr := Option.some.inj hr
          subst hr
          have cl : nI a ≤ 12 := nI_le (b := 12) c1 (by decide)
          have e1 : t_X10_late p1_squad_odds_upper p1_squad_odds_lower p1_squad_lateMoves p1_squad_moves p1_squad_odds_cases (nI p) (nI w) x3 = some (v, lN (sm (lf w a b) 13), lN (20 ^ a), cs) := by
            simp only [t_X10_late, t_X8_weighLate, t_X8_weighLate_33, isPlayer_ok, within_ok, bd1_s, if_pos h1, if_pos h2, if_pos h3, n10, ↓reduceIte, nI_clamp (show p < 2 ^ 31 by omega), ckn_m (show p < 10 by omega) (by decide), ea, eb, if_neg ha0, if_pos cl, ec, bd3_s, ev]
          have e2 : t_X11_late p1_squad_moves p1_squad_lateMoves (nI p) (nI w) x3 = some v := by
            simp only [t_X11_late, t_X11_late_63, t_X11_late_81, isTen_ok, in_ok, bd1_s, if_pos h1, if_pos h2, if_pos h3, n10, ↓reduceIte, nI_clamp (show p < 2 ^ 31 by omega), ckn_m (show p < 10 by omega) (by decide), ea, eb, if_neg ha0, if_pos cl, er]
          exact ⟨_, _, _, _, e1, e2, hR0⟩
        · have hd : b * 12 / a ≤ 12 := by
            rw [Nat.div_le_iff_le_mul_add_pred (by omega)]
            omega
          obtain ⟨⟨u, l, cs⟩, ec, hu, hl⟩ := countLate_ok (n := 12) (late := b * 12 / a) (w := w) (by omega) hd (by omega) p1_squad_odds_upper p1_squad_odds_lower p1_squad_odds_cases
          simp only at hu hl
          subst hu hl
          obtain ⟨v, ev, hv⟩ := low_ok (u := sm (lf w 12 (b * 12 / a)) 13) (l := 20 ^ 12) (lf_le (by omega)) (Nat.pow_pos (by decide)) (by decide) x3
          obtain ⟨r, er, hr⟩ := late113_ok (n := 12) (late := b * 12 / a) (w := w) (by omega) hd (by omega) p1_squad_moves p1_squad_lateMoves x3
          rw [term_ok (lf_le (by omega)) (Nat.pow_pos (by decide)) (by decide), ← hv] at hr
          have hr := Option.some.inj hr
          subst hr
          have cl : ¬ nI a ≤ 12 := nI_ge (a := 12) (by omega) (by omega)
          have em : nI b * 12 / nI a = nI (b * 12 / a) := by
            rw [show (12 : Int32) = nI 12 from rfl, pk_mul, pk_div (by omega) (by omega) (by omega)]
          have e1 : t_X10_late p1_squad_odds_upper p1_squad_odds_lower p1_squad_lateMoves p1_squad_moves p1_squad_odds_cases (nI p) (nI w) x3 = some (v, lN (sm (lf w 12 (b * 12 / a)) 13), lN (20 ^ 12), cs) := by
            simp only [t_X10_late, t_X8_weighLate, t_X8_weighLate_33, isPlayer_ok, within_ok, bd1_s, if_pos h1, if_pos h2, if_pos h3, n10, ↓reduceIte, nI_clamp (show p < 2 ^ 31 by omega), ckn_m (show p < 10 by omega) (by decide), ea, eb, if_neg ha0, if_neg cl, ckn_f ha0, em]
            rw [show (12 : Int32) = nI 12 from rfl, ec]
            simp only [bd3_s, ev, bd1_s]
          have e2 : t_X11_late p1_squad_moves p1_squad_lateMoves (nI p) (nI w) x3 = some v := by
            simp only [t_X11_late, t_X11_late_63, t_X11_late_81, isTen_ok, in_ok, bd1_s, if_pos h1, if_pos h2, if_pos h3, n10, ↓reduceIte, nI_clamp (show p < 2 ^ 31 by omega), ckn_m (show p < 10 by omega) (by decide), ea, eb, if_neg ha0, if_neg cl, ckn_f ha0, em]
            rw [show (12 : Int32) = nI 12 from rfl, er]
          exact ⟨_, _, _, _, e1, e2, hR0⟩
    · have e1 : t_X10_late p1_squad_odds_upper p1_squad_odds_lower p1_squad_lateMoves p1_squad_moves p1_squad_odds_cases x1 x2 x3 = some (-1000000000000000002, p1_squad_odds_upper, p1_squad_odds_lower, p1_squad_odds_cases) := by
        simp only [t_X10_late, isPlayer_ok, within_ok, bd1_s, if_pos h1, n10, ↓reduceIte, bz]
        by_cases c1 : 1 ≤ x2 ∧ x2 ≤ 19
        · rw [if_pos c1, if_neg (fun q => h2 ⟨c1, q⟩)]
        · rw [if_neg c1]
      have e2 : t_X11_late p1_squad_moves p1_squad_lateMoves x1 x2 x3 = some (-1000000000000000002) := by
        simp only [t_X11_late, isTen_ok, in_ok, bd1_s, if_pos h1, n10, ↓reduceIte, bz]
        by_cases c1 : 1 ≤ x2 ∧ x2 ≤ 19
        · rw [if_pos c1, if_neg (fun q => h2 ⟨c1, q⟩)]
        · rw [if_neg c1]
      exact ⟨_, _, _, _, e1, e2, hR0⟩
  · have e1 : t_X10_late p1_squad_odds_upper p1_squad_odds_lower p1_squad_lateMoves p1_squad_moves p1_squad_odds_cases x1 x2 x3 = some (-1000000000000000001, p1_squad_odds_upper, p1_squad_odds_lower, p1_squad_odds_cases) := by
      simp only [t_X10_late, isPlayer_ok, bd1_s, if_neg h1, ↓reduceIte]
    have e2 : t_X11_late p1_squad_moves p1_squad_lateMoves x1 x2 x3 = some (-1000000000000000001) := by
      simp only [t_X11_late, isTen_ok, bd1_s, if_neg h1, ↓reduceIte]
    exact ⟨_, _, _, _, e1, e2, hR0⟩
set_option maxHeartbeats 4000000 in
theorem step_looks (p2_matches : Int32) (p2_stakes : Int32) (p2_meetings : Int32) (p2_newsFirst : Int32) (p2_newsHour : Int32) (p2_acts : Int32) (p2_stories : Int32) (p2_signs : Int32) (p2_ruleMany : Int32) (p2_upper : Int64) (p2_lower : Int64) (p2_greatAt : Int32) (p1_bets_count : Int32) (p1_bets_near : Int32) (p1_bets_times : Int32) (p1_bets_ties : Int32) (p1_clause_count : Int32) (p1_clause_heldCount : Int32) (p1_games_count : Int32) (p1_games_base : Int32) (p1_games_topLean : Int32) (p1_games_topSpot : Int32) (p1_purses_bestSet : Int32) (p1_purses_bestSum : Int32) (p1_purses_sum : Int32) (p1_purses_cost : Int32) (p1_ranks_down : Int32) (p1_rumour_count : Int32) (p1_rumour_first : Int32) (p1_rumour_since : Int32) (p1_squad_acts : Int32) (p1_tales_count : Int32) (p1_games_odds_upper : Int64) (p1_games_odds_lower : Int64) (p2_actMatch : Nat → Int32) (p2_actPlayers : Nat → Int32) (p2_allMoves : Nat → Int32) (p2_debt : Nat → Int32) (p2_goals : Nat → Int32) (p2_great : Nat → Int32) (p2_guest : Nat → Int32) (p2_home : Nat → Int32) (p2_hour : Nat → Int32) (p2_lateMoves : Nat → Int32) (p2_look : Nat → Int32) (p2_meetA : Nat → Int32) (p2_meetB : Nat → Int32) (p2_meetHour : Nat → Int32) (p2_next : Nat → Int64) (p2_owner : Nat → Int32) (p2_prices : Nat → Int32) (p2_referee : Nat → Int32) (p2_ruleSign : Nat → Int32) (p2_sign : Nat → Int32) (p2_skill : Nat → Int32) (p2_stakeEnd : Nat → Int32) (p2_stakeHand : Nat → Int32) (p2_stakeMatch : Nat → Int32) (p2_stakeMinute : Nat → Int32) (p2_stakeSum : Nat → Int32) (p2_storyFrom : Nat → Int32) (p2_storyPerson : Nat → Int32) (p2_storyPlace : Nat → Int32) (p2_storyTo : Nat → Int32) (p2_taken : Nat → Int32) (p2_told : Nat → Int32) (p2_ways : Nat → Int64) (p1_bets_end : Nat → Int32) (p1_bets_hand : Nat → Int32) (p1_bets_match : Nat → Int32) (p1_bets_minute : Nat → Int32) (p1_bets_sum : Nat → Int32) (p1_clause_held : Nat → Int32) (p1_clause_signs : Nat → Int32) (p1_games_fee : Nat → Int32) (p1_games_goals : Nat → Int32) (p1_games_guest : Nat → Int32) (p1_games_home : Nat → Int32) (p1_games_hour : Nat → Int32) (p1_games_prices : Nat → Int32) (p1_games_referee : Nat → Int32) (p1_games_skills : Nat → Int32) (p1_purses_leans : Nat → Int32) (p1_ranks_taken : Nat → Int32) (p1_rumour_hour : Nat → Int32) (p1_rumour_one : Nat → Int32) (p1_rumour_other : Nat → Int32) (p1_rumour_owner : Nat → Int32) (p1_squad_actMatch : Nat → Int32) (p1_squad_actPlayers : Nat → Int32) (p1_squad_debts : Nat → Int32) (p1_squad_lateMoves : Nat → Int32) (p1_squad_moves : Nat → Int32) (p1_tales_against : Nat → Int32) (p1_tales_from : Nat → Int32) (p1_tales_person : Nat → Int32) (p1_tales_place : Nat → Int32) (p1_tales_to : Nat → Int32) (p1_games_odds_cases : Nat → Int64) (hR : Rel p1_games_count p1_games_base p1_games_skills p1_games_home p1_games_guest p1_games_referee p1_games_hour p1_games_fee p1_games_goals p1_games_prices p1_bets_count p1_bets_near p1_bets_times p1_bets_ties p1_bets_hand p1_bets_match p1_bets_end p1_bets_minute p1_bets_sum p1_rumour_count p1_rumour_one p1_rumour_other p1_rumour_hour p1_rumour_owner p1_rumour_first p1_rumour_since p1_squad_moves p1_squad_lateMoves p1_squad_debts p1_squad_acts p1_squad_actMatch p1_squad_actPlayers p1_tales_count p1_tales_person p1_tales_place p1_tales_from p1_tales_to p1_tales_against p1_ranks_down p1_ranks_taken p1_clause_count p1_clause_signs p1_clause_heldCount p1_clause_held p2_matches p2_skill p2_home p2_guest p2_referee p2_hour p2_look p2_goals p2_prices p2_told p2_stakes p2_stakeHand p2_stakeMatch p2_stakeEnd p2_stakeMinute p2_stakeSum p2_meetings p2_meetA p2_meetB p2_meetHour p2_owner p2_newsFirst p2_newsHour p2_allMoves p2_lateMoves p2_debt p2_acts p2_actMatch p2_actPlayers p2_stories p2_storyPerson p2_storyPlace p2_storyFrom p2_storyTo p2_taken p2_signs p2_sign p2_ruleMany p2_ruleSign) (x1 x2 : Int32) : ∃ (r : Int32) (z0 : Int32) (z1 : Int32) (z2 : Int32) (z3 : Int32) (z4 : Int32) (z5 : Int32) (z6 : Int64) (z7 : Int64) (z8 : Nat → Int32) (z9 : Nat → Int64) (y0 : Int64) (y1 : Int64) (y2 : Int32) (y3 : Nat → Int32) (y4 : Nat → Int64) (y5 : Nat → Int64), t_X10_looks p1_games_count p1_games_base p1_games_topLean p1_games_topSpot p1_purses_bestSet p1_purses_bestSum p1_purses_sum p1_purses_cost p1_games_odds_upper p1_games_odds_lower p1_games_fee p1_games_goals p1_games_guest p1_games_home p1_games_prices p1_games_skills p1_purses_leans p1_games_odds_cases x1 x2 = some (r, z0, z1, z2, z3, z4, z5, z6, z7, z8, z9) ∧ t_X11_looks p2_matches p2_upper p2_lower p2_greatAt p2_goals p2_great p2_guest p2_home p2_look p2_next p2_prices p2_skill p2_told p2_ways x1 x2 = some (r, y0, y1, y2, y3, y4, y5) ∧ Rel p1_games_count p1_games_base p1_games_skills p1_games_home p1_games_guest p1_games_referee p1_games_hour p1_games_fee p1_games_goals p1_games_prices p1_bets_count p1_bets_near p1_bets_times p1_bets_ties p1_bets_hand p1_bets_match p1_bets_end p1_bets_minute p1_bets_sum p1_rumour_count p1_rumour_one p1_rumour_other p1_rumour_hour p1_rumour_owner p1_rumour_first p1_rumour_since p1_squad_moves p1_squad_lateMoves p1_squad_debts p1_squad_acts p1_squad_actMatch p1_squad_actPlayers p1_tales_count p1_tales_person p1_tales_place p1_tales_from p1_tales_to p1_tales_against p1_ranks_down p1_ranks_taken p1_clause_count p1_clause_signs p1_clause_heldCount p1_clause_held p2_matches p2_skill p2_home p2_guest p2_referee p2_hour p2_look p2_goals p2_prices p2_told p2_stakes p2_stakeHand p2_stakeMatch p2_stakeEnd p2_stakeMinute p2_stakeSum p2_meetings p2_meetA p2_meetB p2_meetHour p2_owner p2_newsFirst p2_newsHour p2_allMoves p2_lateMoves p2_debt p2_acts p2_actMatch p2_actPlayers p2_stories p2_storyPerson p2_storyPlace p2_storyFrom p2_storyTo p2_taken p2_signs p2_sign p2_ruleMany p2_ruleSign := by
  have hR0 := hR
  obtain ⟨n, ns, nt, na, ny, ng, nh, hG, hB, hM, hO, hQ, hT, hK, hC, h0⟩ := hR
  obtain ⟨g1, g2, g3, g4, g5, g6, g7, g8, g9, g10, g11, g12, g13, f1, f2, f3, f4, f5, f6, f7, f8, f9⟩ := id hG
  subst g2 g3
  have f1 := f1.symm
  have f2 := f2.symm
  have f3 := f3.symm
  have f4 := f4.symm
  have f5 := f5.symm
  have f6 := f6.symm
  have f7 := f7.symm
  subst f1 f2 f3 f4 f5 f6 f7
  by_cases hb : (0 ≤ x1 ∧ x1 ≤ 1000) ∧ (0 ≤ x2 ∧ x2 ≤ 1)
  · obtain ⟨h1, h2⟩ := id hb
    obtain ⟨G, hGT⟩ := gt_ex (skills := p1_games_skills) g1 h0 g6 g7 p1_games_goals p1_games_prices g13
    obtain ⟨⟨w, tl, ts, u, l, le, cs⟩, ew, ⟨W, w1, w2, w3⟩, w4⟩ := worthy_ok g1 hGT p1_games_topLean p1_games_topSpot p1_games_odds_upper p1_games_odds_lower p1_purses_leans p1_games_odds_cases
    simp only at w2 w4
    subst w2
    obtain ⟨⟨c0, c1, be, bs, c4, c5, c6, c7, c8, c9⟩, ec, hc1, hc2⟩ := choose_ok g1 w1 w4 p1_games_fee p1_games_goals p1_games_guest p1_games_home p1_games_prices p1_games_skills p1_games_base x1 tl ts u l cs
    obtain ⟨⟨v, y0, y1, y2, y3, y4, y5⟩, ey, W2, k1, k3, k4⟩ := looks_ok g1 hGT f8 x1 x2 p2_upper p2_lower p2_greatAt p2_great p2_next p2_ways
    simp only at hc1 hc2 k4
    have eW : W2 = W := bits_eq k1 w1 k3 w3
    subst eW
    rw [← hc1, ← hc2] at k4
    have e1 : t_X10_looks (nI n) p1_games_base p1_games_topLean p1_games_topSpot p1_purses_bestSet p1_purses_bestSum p1_purses_sum p1_purses_cost p1_games_odds_upper p1_games_odds_lower p1_games_fee p1_games_goals p1_games_guest p1_games_home p1_games_prices p1_games_skills p1_purses_leans p1_games_odds_cases x1 x2 = some (if x2 = 0 then be else bs, c0, c1, be, bs, c4, c5, c6, c7, c8, c9) := by
      simp only [t_X10_looks, t_X10_looks_56, t_X5_choose, within_ok, bd1_s, if_pos h1, if_pos h2, n10, ↓reduceIte, ew, bd7_s, ec, bd10_s]
      split <;> rfl
    have e2 : t_X11_looks (nI n) p2_upper p2_lower p2_greatAt p1_games_goals p2_great p1_games_guest p1_games_home p2_look p2_next p1_games_prices p1_games_skills p2_told p2_ways x1 x2 = some (if x2 = 0 then be else bs, y0, y1, y2, y3, y4, y5) := by
      simp only [t_X11_looks, in_ok, bd1_s, if_pos h1, if_pos h2, n10, ↓reduceIte, ey, k4]
    exact ⟨_, _, _, _, _, _, _, _, _, _, _, _, _, _, _, _, _, e1, e2, hR0⟩
  · have e1 : t_X10_looks (nI n) p1_games_base p1_games_topLean p1_games_topSpot p1_purses_bestSet p1_purses_bestSum p1_purses_sum p1_purses_cost p1_games_odds_upper p1_games_odds_lower p1_games_fee p1_games_goals p1_games_guest p1_games_home p1_games_prices p1_games_skills p1_purses_leans p1_games_odds_cases x1 x2 = some (-2, p1_games_topLean, p1_games_topSpot, p1_purses_bestSet, p1_purses_bestSum, p1_purses_sum, p1_purses_cost, p1_games_odds_upper, p1_games_odds_lower, p1_purses_leans, p1_games_odds_cases) := by
      simp only [t_X10_looks, within_ok, bd1_s, bz]
      by_cases c1 : 0 ≤ x1 ∧ x1 ≤ 1000
      · rw [if_pos c1, if_neg (fun q => hb ⟨c1, q⟩)]
      · rw [if_neg c1]
    have e2 : t_X11_looks (nI n) p2_upper p2_lower p2_greatAt p1_games_goals p2_great p1_games_guest p1_games_home p2_look p2_next p1_games_prices p1_games_skills p2_told p2_ways x1 x2 = some (-2, p2_upper, p2_lower, p2_greatAt, p2_great, p2_next, p2_ways) := by
      simp only [t_X11_looks, in_ok, bd1_s, bz]
      by_cases c1 : 0 ≤ x1 ∧ x1 ≤ 1000
      · rw [if_pos c1, if_neg (fun q => hb ⟨c1, q⟩)]
      · rw [if_neg c1]
    exact ⟨_, _, _, _, _, _, _, _, _, _, _, _, _, _, _, _, _, e1, e2, hR0⟩
