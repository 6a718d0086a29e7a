set_option maxHeartbeats 4000000 in
theorem step_table (p2_matches : Int32) (p2_stakes : Int32) (p2_meetings : Int32) (p2_newsFirst : Int32) (p2_newsHour : Int32) (p2_acts : Int32) (p2_stories : Int32) (p2_signs : Int32) (p2_ruleMany : Int32) (p2_sides : Int32) (p1_bets_count : Int32) (p1_bets_near : Int32) (p1_bets_times : Int32) (p1_bets_ties : Int32) (p1_clause_count : Int32) (p1_clause_heldCount : Int32) (p1_games_count : Int32) (p1_games_base : Int32) (p1_ranks_down : Int32) (p1_ranks_size : Int32) (p1_rumour_count : Int32) (p1_rumour_first : Int32) (p1_rumour_since : Int32) (p1_squad_acts : Int32) (p1_tales_count : Int32) (p2_actMatch : Nat → Int32) (p2_actPlayers : Nat → Int32) (p2_allMoves : Nat → Int32) (p2_debt : Nat → Int32) (p2_goals : Nat → Int32) (p2_guest : Nat → Int32) (p2_home : Nat → Int32) (p2_hour : Nat → Int32) (p2_lateMoves : Nat → Int32) (p2_look : Nat → Int32) (p2_meetA : Nat → Int32) (p2_meetB : Nat → Int32) (p2_meetHour : Nat → Int32) (p2_owner : Nat → Int32) (p2_prices : Nat → Int32) (p2_referee : Nat → Int32) (p2_row : Nat → Int32) (p2_ruleSign : Nat → Int32) (p2_sign : Nat → Int32) (p2_skill : Nat → Int32) (p2_stakeEnd : Nat → Int32) (p2_stakeHand : Nat → Int32) (p2_stakeMatch : Nat → Int32) (p2_stakeMinute : Nat → Int32) (p2_stakeSum : Nat → Int32) (p2_storyFrom : Nat → Int32) (p2_storyPerson : Nat → Int32) (p2_storyPlace : Nat → Int32) (p2_storyTo : Nat → Int32) (p2_taken : Nat → Int32) (p2_told : Nat → Int32) (p1_bets_end : Nat → Int32) (p1_bets_hand : Nat → Int32) (p1_bets_match : Nat → Int32) (p1_bets_minute : Nat → Int32) (p1_bets_sum : Nat → Int32) (p1_clause_held : Nat → Int32) (p1_clause_signs : Nat → Int32) (p1_games_fee : Nat → Int32) (p1_games_goals : Nat → Int32) (p1_games_guest : Nat → Int32) (p1_games_home : Nat → Int32) (p1_games_hour : Nat → Int32) (p1_games_prices : Nat → Int32) (p1_games_referee : Nat → Int32) (p1_games_skills : Nat → Int32) (p1_ranks_balance : Nat → Int32) (p1_ranks_plays : Nat → Int32) (p1_ranks_points : Nat → Int32) (p1_ranks_taken : Nat → Int32) (p1_rumour_hour : Nat → Int32) (p1_rumour_one : Nat → Int32) (p1_rumour_other : Nat → Int32) (p1_rumour_owner : Nat → Int32) (p1_squad_actMatch : Nat → Int32) (p1_squad_actPlayers : Nat → Int32) (p1_squad_debts : Nat → Int32) (p1_squad_lateMoves : Nat → Int32) (p1_squad_moves : Nat → Int32) (p1_tales_against : Nat → Int32) (p1_tales_from : Nat → Int32) (p1_tales_person : Nat → Int32) (p1_tales_place : Nat → Int32) (p1_tales_to : Nat → Int32) (hR : Rel p1_games_count p1_games_base p1_games_skills p1_games_home p1_games_guest p1_games_referee p1_games_hour p1_games_fee p1_games_goals p1_games_prices p1_bets_count p1_bets_near p1_bets_times p1_bets_ties p1_bets_hand p1_bets_match p1_bets_end p1_bets_minute p1_bets_sum p1_rumour_count p1_rumour_one p1_rumour_other p1_rumour_hour p1_rumour_owner p1_rumour_first p1_rumour_since p1_squad_moves p1_squad_lateMoves p1_squad_debts p1_squad_acts p1_squad_actMatch p1_squad_actPlayers p1_tales_count p1_tales_person p1_tales_place p1_tales_from p1_tales_to p1_tales_against p1_ranks_down p1_ranks_taken p1_clause_count p1_clause_signs p1_clause_heldCount p1_clause_held p2_matches p2_skill p2_home p2_guest p2_referee p2_hour p2_look p2_goals p2_prices p2_told p2_stakes p2_stakeHand p2_stakeMatch p2_stakeEnd p2_stakeMinute p2_stakeSum p2_meetings p2_meetA p2_meetB p2_meetHour p2_owner p2_newsFirst p2_newsHour p2_allMoves p2_lateMoves p2_debt p2_acts p2_actMatch p2_actPlayers p2_stories p2_storyPerson p2_storyPlace p2_storyFrom p2_storyTo p2_taken p2_signs p2_sign p2_ruleMany p2_ruleSign) (x1 : Int32) : ∃ (r : Int32) (z0 : Int32) (z1 : Nat → Int32) (z2 : Nat → Int32) (z3 : Nat → Int32) (y0 : Int32) (y1 : Nat → Int32), t_X10_table p1_games_count p1_ranks_size p1_games_goals p1_games_guest p1_games_home p1_ranks_balance p1_ranks_plays p1_ranks_points p1_ranks_taken x1 = some (r, z0, z1, z2, z3) ∧ t_X11_table p2_matches p2_sides p2_goals p2_guest p2_home p2_row p2_taken x1 = some (r, y0, y1) ∧ Rel p1_games_count p1_games_base p1_games_skills p1_games_home p1_games_guest p1_games_referee p1_games_hour p1_games_fee p1_games_goals p1_games_prices p1_bets_count p1_bets_near p1_bets_times p1_bets_ties p1_bets_hand p1_bets_match p1_bets_end p1_bets_minute p1_bets_sum p1_rumour_count p1_rumour_one p1_rumour_other p1_rumour_hour p1_rumour_owner p1_rumour_first p1_rumour_since p1_squad_moves p1_squad_lateMoves p1_squad_debts p1_squad_acts p1_squad_actMatch p1_squad_actPlayers p1_tales_count p1_tales_person p1_tales_place p1_tales_from p1_tales_to p1_tales_against p1_ranks_down p1_ranks_taken p1_clause_count p1_clause_signs p1_clause_heldCount p1_clause_held p2_matches p2_skill p2_home p2_guest p2_referee p2_hour p2_look p2_goals p2_prices p2_told p2_stakes p2_stakeHand p2_stakeMatch p2_stakeEnd p2_stakeMinute p2_stakeSum p2_meetings p2_meetA p2_meetB p2_meetHour p2_owner p2_newsFirst p2_newsHour p2_allMoves p2_lateMoves p2_debt p2_acts p2_actMatch p2_actPlayers p2_stories p2_storyPerson p2_storyPlace p2_storyFrom p2_storyTo p2_taken p2_signs p2_sign p2_ruleMany p2_ruleSign := by
  have hR0 := hR
  obtain ⟨n, ns, nt, na, ny, ng, nh, hG, hB, hM, hO, hQ, hT, hK, hC, h0⟩ := hR
  obtain ⟨g1, g2, g3, g4, g5, g6, g7, g8, g9, g10, g11, g12, g13, f1, f2, f3, f4, f5, f6, f7, f8, f9⟩ := id hG
  subst g2 g3
  have f1 := f1.symm
  have f2 := f2.symm
  have f3 := f3.symm
  have f4 := f4.symm
  have f5 := f5.symm
  have f6 := f6.symm
  have f7 := f7.symm
  subst f1 f2 f3 f4 f5 f6 f7
  obtain ⟨-, -, kk3, -⟩ := id hK
  have kk3 := kk3.symm
  subst kk3
  obtain ⟨⟨sz, ba, pa, pt⟩, er, r1, r2, r3, r4⟩ := reckon_ok (goals := p1_games_goals) (taken := p1_ranks_taken) g1 g6 g7 g8 p1_ranks_size p1_ranks_balance p1_ranks_plays p1_ranks_points
  obtain ⟨⟨sd, row⟩, el, k, r, l1, l2⟩ := layTable_ok g1 p1_games_goals p1_games_home p1_games_guest p1_ranks_taken p2_sides (-6) 0 p2_row
  simp only at r1 r2 r3 r4 l1 l2
  have ek := l2.1
  rw [← ek] at r1
  subst r1 l1
  have hk8 : k ≤ 8 := by rw [ek]; exact fa_cnt_le _ _
  by_cases c1 : x1 = -1
  · have e1 : t_X10_table (nI n) p1_ranks_size p1_games_goals p1_games_guest p1_games_home p1_ranks_balance p1_ranks_plays p1_ranks_points p1_ranks_taken x1 = some (nI k, nI k, ba, pa, pt) := by
      simp only [t_X10_table, t_X10_table_34, er, bd4_s, if_pos c1]
    have e2 : t_X11_table (nI n) p2_sides p1_games_goals p1_games_guest p1_games_home p2_row p1_ranks_taken x1 = some (nI k, nI k, row) := by
      simp only [t_X11_table, t_X11_table_44, el, bd2_s, if_pos c1]
    exact ⟨_, _, _, _, _, _, _, e1, e2, hR0⟩
  · obtain ⟨v, ev, hv⟩ := sideAt_ok (bal := ba) (pt := pt) r3 x1
    have hcg : ∀ i, i < 8 → rkC (plP p1_games_home p1_games_guest n) pt ba i = rkC (plP p1_games_home p1_games_guest n) (lessP (fun s => ptV p1_games_goals p1_games_home p1_games_guest p1_ranks_taken s n) (-6) 0) (fun s => ofV p1_games_goals p1_games_home p1_games_guest s n) i := fun i hi => rkC_cong (fun s hs => by rw [lessP_0]; exact r4 s hs) (fun s hs => r2 s hs) hi
    have e1 : t_X10_table (nI n) p1_ranks_size p1_games_goals p1_games_guest p1_games_home p1_ranks_balance p1_ranks_plays p1_ranks_points p1_ranks_taken x1 = some (v, nI k, ba, pa, pt) := by
      simp only [t_X10_table, t_X10_table_34, er, bd4_s, if_neg c1, ev, bd1_s]
    by_cases c2 : 0 ≤ x1 ∧ x1 < nI k
    · obtain ⟨i, hi, rfl⟩ := rgm (by omega) c2
      obtain ⟨q1, q2, q3⟩ := l2.2.1 i hi
      have hin : 0 ≤ nI i ∧ nI i ≤ nI k - 1 := ⟨c2.1, by
        rw [i_le, show (1 : Int32) = nI 1 from rfl, pk_sub_toInt (by omega) (by omega), nI_toInt (by omega)]
        omega⟩
      have e2 : t_X11_table (nI n) p2_sides p1_games_goals p1_games_guest p1_games_home p2_row p1_ranks_taken (nI i) = some (nI (r i), nI k, row) := by
        simp only [t_X11_table, t_X11_table_44, el, bd2_s, if_neg c1, in_ok, bd1_s, if_pos hin, n10, ↓reduceIte, nI_clamp (show i < 2 ^ 31 by omega), ckn_m (show i < 8 by omega) (by decide), q3]
      have ev2 : v = nI (r i) := by
        rcases hv with ⟨j, j1, j2, j3, j4⟩ | ⟨j1, j2⟩
        · rw [hcg j j1] at j3
          have hle := rkC_le (plP p1_games_home p1_games_guest n) (lessP (fun s => ptV p1_games_goals p1_games_home p1_games_guest p1_ranks_taken s n) (-6) 0) (fun s => ofV p1_games_goals p1_games_home p1_games_guest s n) j
          rw [nI_eq (by omega) (by omega)] at j3
          obtain ⟨a, a1, a2⟩ := l2.surj j1 j2
          have hr := l2.rank a1
          rw [a2, j3] at hr
          rw [j4, ← a2, hr]
        · have h := j2 (r i) q1 q2
          rw [hcg _ q1, l2.rank hi] at h
          exact absurd rfl h
      subst ev2
      exact ⟨_, _, _, _, _, _, _, e1, e2, hR0⟩
    · have hin : ¬ (0 ≤ x1 ∧ x1 ≤ nI k - 1) := fun q => c2 ⟨q.1, by
        have h := q.2
        rw [i_le, show (1 : Int32) = nI 1 from rfl, pk_sub_toInt (by omega) (by omega)] at h
        rw [i_lt, nI_toInt (by omega)]
        omega⟩
      have e2 : t_X11_table (nI n) p2_sides p1_games_goals p1_games_guest p1_games_home p2_row p1_ranks_taken x1 = some (-6, nI k, row) := by
        simp only [t_X11_table, t_X11_table_44, el, bd2_s, if_neg c1, in_ok, bd1_s, if_neg hin, ↓reduceIte]
      have ev2 : v = -6 := by
        rcases hv with ⟨j, j1, j2, j3, j4⟩ | ⟨j1, j2⟩
        · exfalso
          rw [hcg j j1] at j3
          obtain ⟨a, a1, a2⟩ := l2.surj j1 j2
          have hr := l2.rank a1
          rw [a2] at hr
          rw [hr] at j3
          subst j3
          exact c2 ⟨nI_pos' (by omega), nI_lt a1 (by omega)⟩
        · exact j1
      subst ev2
      exact ⟨_, _, _, _, _, _, _, e1, e2, hR0⟩
set_option maxHeartbeats 4000000 in
theorem step_ofSide (p2_matches : Int32) (p2_stakes : Int32) (p2_meetings : Int32) (p2_newsFirst : Int32) (p2_newsHour : Int32) (p2_acts : Int32) (p2_stories : Int32) (p2_signs : Int32) (p2_ruleMany : Int32) (p2_sides : Int32) (p1_bets_count : Int32) (p1_bets_near : Int32) (p1_bets_times : Int32) (p1_bets_ties : Int32) (p1_clause_count : Int32) (p1_clause_heldCount : Int32) (p1_games_count : Int32) (p1_games_base : Int32) (p1_ranks_down : Int32) (p1_ranks_size : Int32) (p1_rumour_count : Int32) (p1_rumour_first : Int32) (p1_rumour_since : Int32) (p1_squad_acts : Int32) (p1_tales_count : Int32) (p2_actMatch : Nat → Int32) (p2_actPlayers : Nat → Int32) (p2_allMoves : Nat → Int32) (p2_debt : Nat → Int32) (p2_goals : Nat → Int32) (p2_guest : Nat → Int32) (p2_home : Nat → Int32) (p2_hour : Nat → Int32) (p2_lateMoves : Nat → Int32) (p2_look : Nat → Int32) (p2_meetA : Nat → Int32) (p2_meetB : Nat → Int32) (p2_meetHour : Nat → Int32) (p2_owner : Nat → Int32) (p2_prices : Nat → Int32) (p2_referee : Nat → Int32) (p2_row : Nat → Int32) (p2_ruleSign : Nat → Int32) (p2_sign : Nat → Int32) (p2_skill : Nat → Int32) (p2_stakeEnd : Nat → Int32) (p2_stakeHand : Nat → Int32) (p2_stakeMatch : Nat → Int32) (p2_stakeMinute : Nat → Int32) (p2_stakeSum : Nat → Int32) (p2_storyFrom : Nat → Int32) (p2_storyPerson : Nat → Int32) (p2_storyPlace : Nat → Int32) (p2_storyTo : Nat → Int32) (p2_taken : Nat → Int32) (p2_told : Nat → Int32) (p1_bets_end : Nat → Int32) (p1_bets_hand : Nat → Int32) (p1_bets_match : Nat → Int32) (p1_bets_minute : Nat → Int32) (p1_bets_sum : Nat → Int32) (p1_clause_held : Nat → Int32) (p1_clause_signs : Nat → Int32) (p1_games_fee : Nat → Int32) (p1_games_goals : Nat → Int32) (p1_games_guest : Nat → Int32) (p1_games_home : Nat → Int32) (p1_games_hour : Nat → Int32) (p1_games_prices : Nat → Int32) (p1_games_referee : Nat → Int32) (p1_games_skills : Nat → Int32) (p1_ranks_balance : Nat → Int32) (p1_ranks_plays : Nat → Int32) (p1_ranks_points : Nat → Int32) (p1_ranks_taken : Nat → Int32) (p1_rumour_hour : Nat → Int32) (p1_rumour_one : Nat → Int32) (p1_rumour_other : Nat → Int32) (p1_rumour_owner : Nat → Int32) (p1_squad_actMatch : Nat → Int32) (p1_squad_actPlayers : Nat → Int32) (p1_squad_debts : Nat → Int32) (p1_squad_lateMoves : Nat → Int32) (p1_squad_moves : Nat → Int32) (p1_tales_against : Nat → Int32) (p1_tales_from : Nat → Int32) (p1_tales_person : Nat → Int32) (p1_tales_place : Nat → Int32) (p1_tales_to : Nat → Int32) (hR : Rel p1_games_count p1_games_base p1_games_skills p1_games_home p1_games_guest p1_games_referee p1_games_hour p1_games_fee p1_games_goals p1_games_prices p1_bets_count p1_bets_near p1_bets_times p1_bets_ties p1_bets_hand p1_bets_match p1_bets_end p1_bets_minute p1_bets_sum p1_rumour_count p1_rumour_one p1_rumour_other p1_rumour_hour p1_rumour_owner p1_rumour_first p1_rumour_since p1_squad_moves p1_squad_lateMoves p1_squad_debts p1_squad_acts p1_squad_actMatch p1_squad_actPlayers p1_tales_count p1_tales_person p1_tales_place p1_tales_from p1_tales_to p1_tales_against p1_ranks_down p1_ranks_taken p1_clause_count p1_clause_signs p1_clause_heldCount p1_clause_held p2_matches p2_skill p2_home p2_guest p2_referee p2_hour p2_look p2_goals p2_prices p2_told p2_stakes p2_stakeHand p2_stakeMatch p2_stakeEnd p2_stakeMinute p2_stakeSum p2_meetings p2_meetA p2_meetB p2_meetHour p2_owner p2_newsFirst p2_newsHour p2_allMoves p2_lateMoves p2_debt p2_acts p2_actMatch p2_actPlayers p2_stories p2_storyPerson p2_storyPlace p2_storyFrom p2_storyTo p2_taken p2_signs p2_sign p2_ruleMany p2_ruleSign) (x1 x2 : Int32) : ∃ (r : Int32) (z0 : Int32) (z1 : Nat → Int32) (z2 : Nat → Int32) (z3 : Nat → Int32) (y0 : Int32) (y1 : Nat → Int32), t_X10_ofSide p1_games_count p1_ranks_down p1_ranks_size p1_games_goals p1_games_guest p1_games_home p1_ranks_balance p1_ranks_plays p1_ranks_points p1_ranks_taken x1 x2 = some (r, z0, z1, z2, z3) ∧ t_X11_ofSide p2_matches p2_sides p2_goals p2_guest p2_home p2_row p2_taken p2_told x1 x2 = some (r, y0, y1) ∧ Rel p1_games_count p1_games_base p1_games_skills p1_games_home p1_games_guest p1_games_referee p1_games_hour p1_games_fee p1_games_goals p1_games_prices p1_bets_count p1_bets_near p1_bets_times p1_bets_ties p1_bets_hand p1_bets_match p1_bets_end p1_bets_minute p1_bets_sum p1_rumour_count p1_rumour_one p1_rumour_other p1_rumour_hour p1_rumour_owner p1_rumour_first p1_rumour_since p1_squad_moves p1_squad_lateMoves p1_squad_debts p1_squad_acts p1_squad_actMatch p1_squad_actPlayers p1_tales_count p1_tales_person p1_tales_place p1_tales_from p1_tales_to p1_tales_against p1_ranks_down p1_ranks_taken p1_clause_count p1_clause_signs p1_clause_heldCount p1_clause_held p2_matches p2_skill p2_home p2_guest p2_referee p2_hour p2_look p2_goals p2_prices p2_told p2_stakes p2_stakeHand p2_stakeMatch p2_stakeEnd p2_stakeMinute p2_stakeSum p2_meetings p2_meetA p2_meetB p2_meetHour p2_owner p2_newsFirst p2_newsHour p2_allMoves p2_lateMoves p2_debt p2_acts p2_actMatch p2_actPlayers p2_stories p2_storyPerson p2_storyPlace p2_storyFrom p2_storyTo p2_taken p2_signs p2_sign p2_ruleMany p2_ruleSign := by
  have hR0 := hR
  obtain ⟨n, ns, nt, na, ny, ng, nh, hG, hB, hM, hO, hQ, hT, hK, hC, h0⟩ := hR
  obtain ⟨g1, g2, g3, g4, g5, g6, g7, g8, g9, g10, g11, g12, g13, f1, f2, f3, f4, f5, f6, f7, f8, f9⟩ := id hG
  subst g2 g3
  have f1 := f1.symm
  have f2 := f2.symm
  have f3 := f3.symm
  have f4 := f4.symm
  have f5 := f5.symm
  have f6 := f6.symm
  have f7 := f7.symm
  subst f1 f2 f3 f4 f5 f6 f7
  obtain ⟨⟨dn, dn1, dn2, dn3⟩, -, kk3, kk4⟩ := id hK
  have kk3 := kk3.symm
  subst kk3
  subst dn3
  by_cases h1 : 0 ≤ x1 ∧ x1 ≤ 7
  · obtain ⟨s, hs, rfl⟩ := rgo 7 rfl h1
    obtain ⟨⟨sz, ba, pa, pt⟩, er, r1, r2, r3, r4⟩ := reckon_ok (goals := p1_games_goals) (taken := p1_ranks_taken) g1 g6 g7 g8 p1_ranks_size p1_ranks_balance p1_ranks_plays p1_ranks_points
    simp only at r1 r2 r3 r4
    obtain ⟨u, eu, hu⟩ := plays_ok (n := n) (s := s) g1 p1_games_home p1_games_guest
    have epl := (r3 s (by omega)).uniq hu
    by_cases hp : plP p1_games_home p1_games_guest n s
    · have hu0 : ¬ u = 0 := fun q => hu.z.mp q hp
      have hk8 : fa_cnt (fun s => dc (plP p1_games_home p1_games_guest n s)) 8 ≤ 8 := fa_cnt_le _ _
      generalize hkk : fa_cnt (fun s => dc (plP p1_games_home p1_games_guest n s)) 8 = k at *
      subst r1
      by_cases c0 : x2 = 0
      · have e1 : t_X10_ofSide (nI n) (nI dn) p1_ranks_size p1_games_goals p1_games_guest p1_games_home p1_ranks_balance p1_ranks_plays p1_ranks_points p1_ranks_taken (nI s) x2 = some (ptV p1_games_goals p1_games_home p1_games_guest p1_ranks_taken s n, nI k, ba, pa, pt) := by
          simp only [t_X10_ofSide, within_ok, bd1_s, if_pos h1, n10, ↓reduceIte, er, bd4_s, nI_clamp (show s < 2 ^ 31 by omega), ckn_m (show s < 8 by omega) (show 8 < 2 ^ 31 by decide), epl, if_neg hu0, if_pos c0, r4 s (by omega)]
        have e2 : t_X11_ofSide (nI n) p2_sides p1_games_goals p1_games_guest p1_games_home p2_row p1_ranks_taken p2_told (nI s) x2 = some (ptV p1_games_goals p1_games_home p1_games_guest p1_ranks_taken s n, p2_sides, p2_row) := by
          simp only [t_X11_ofSide, t_X11_ofSide_79, isSide_ok, in_ok, bd1_s, if_pos h1, n10, ↓reduceIte, eu, if_neg hu0, if_pos (show 0 ≤ x2 ∧ x2 ≤ 3 by subst c0; decide), if_pos c0, pointsOf_ok g1 (show s < 8 by omega)]
        exact ⟨_, _, _, _, _, _, _, e1, e2, hR0⟩
      · by_cases c1 : x2 = 1
        · have e1 : t_X10_ofSide (nI n) (nI dn) p1_ranks_size p1_games_goals p1_games_guest p1_games_home p1_ranks_balance p1_ranks_plays p1_ranks_points p1_ranks_taken (nI s) x2 = some (ofV p1_games_goals p1_games_home p1_games_guest s n, nI k, ba, pa, pt) := by
            simp only [t_X10_ofSide, within_ok, bd1_s, if_pos h1, n10, ↓reduceIte, er, bd4_s, nI_clamp (show s < 2 ^ 31 by omega), ckn_m (show s < 8 by omega) (show 8 < 2 ^ 31 by decide), epl, if_neg hu0, if_neg c0, if_pos c1, r2 s (by omega)]
          have e2 : t_X11_ofSide (nI n) p2_sides p1_games_goals p1_games_guest p1_games_home p2_row p1_ranks_taken p2_told (nI s) x2 = some (ofV p1_games_goals p1_games_home p1_games_guest s n, p2_sides, p2_row) := by
            simp only [t_X11_ofSide, t_X11_ofSide_79, isSide_ok, in_ok, bd1_s, if_pos h1, n10, ↓reduceIte, eu, if_neg hu0, if_pos (show 0 ≤ x2 ∧ x2 ≤ 3 by subst c1; decide), if_neg c0, if_pos c1, offOf_ok g1]
          exact ⟨_, _, _, _, _, _, _, e1, e2, hR0⟩
        · by_cases c2 : x2 = 2
          · obtain ⟨d, ed, hd⟩ := isDown_ok (bal := ba) (pt := pt) r3 (x := s) (sz := k) (dn := dn) (by omega) hk8 dn2
            obtain ⟨⟨d2, sd, row⟩, ed2, hd2⟩ := isDown_ok2 g1 (show s < 8 by omega) dn2 p1_games_goals p1_games_home p1_games_guest p1_ranks_taken kk4 hp p2_sides 0 p2_row
            simp only at hd2
            rw [hkk] at hd2
            rw [rkC_cong (fun t ht => by rw [lessP_0]; exact r4 t ht) (fun t ht => r2 t ht) (show s < 8 by omega) (P' := lessP (fun t => ptV p1_games_goals p1_games_home p1_games_guest p1_ranks_taken t n) (nI s) 0) (B' := fun t => ofV p1_games_goals p1_games_home p1_games_guest t n)] at hd
            have e := hd.uniq hd2
            subst e
            have e1 : t_X10_ofSide (nI n) (nI dn) p1_ranks_size p1_games_goals p1_games_guest p1_games_home p1_ranks_balance p1_ranks_plays p1_ranks_points p1_ranks_taken (nI s) x2 = some (d, nI k, ba, pa, pt) := by
              simp only [t_X10_ofSide, within_ok, bd1_s, if_pos h1, n10, ↓reduceIte, er, bd4_s, nI_clamp (show s < 2 ^ 31 by omega), ckn_m (show s < 8 by omega) (show 8 < 2 ^ 31 by decide), epl, if_neg hu0, if_neg c0, if_neg c1, if_pos c2, ed, asNb hd]
            have e2 : t_X11_ofSide (nI n) p2_sides p1_games_goals p1_games_guest p1_games_home p2_row p1_ranks_taken p2_told (nI s) x2 = some (d, sd, row) := by
              simp only [t_X11_ofSide, t_X11_ofSide_79, isSide_ok, in_ok, bd1_s, if_pos h1, n10, ↓reduceIte, eu, if_neg hu0, if_pos (show 0 ≤ x2 ∧ x2 ≤ 3 by subst c2; decide), if_neg c0, if_neg c1, if_pos c2, ed2, bd3_s]
              rcases hd with ⟨rfl, _⟩ | ⟨rfl, _⟩ <;> rfl
            exact ⟨_, _, _, _, _, _, _, e1, e2, hR0⟩
          · by_cases c3 : x2 = 3
            · obtain ⟨⟨d, pt2⟩, ed, hd⟩ := taking_ok (bal := ba) (pt := pt) r3 (x := s) (sz := k) (dn := dn) (by omega) hk8 dn2
              obtain ⟨⟨d2, sd, row⟩, ed2, hd2⟩ := byTaking_ok g1 (show s < 8 by omega) dn2 p1_games_goals p1_games_home p1_games_guest p1_ranks_taken kk4 hp hkk (D := fun m => k ≤ rkC (plP p1_games_home p1_games_guest n) (lessP pt (nI s) (nI m)) ba s + dn) (fun m => by
                rw [rkC_cong (fun t ht => by unfold lessP; rw [r4 t ht]) (fun t ht => r2 t ht) (show s < 8 by omega) (P' := lessP (fun t => ptV p1_games_goals p1_games_home p1_games_guest p1_ranks_taken t n) (nI s) (nI m)) (B' := fun t => ofV p1_games_goals p1_games_home p1_games_guest t n)]) p2_sides p2_row
              simp only at hd hd2
              have e : d = d2 := by
                rcases hd with ⟨m, m1, m2, m3, m4⟩ | ⟨m1, m2⟩ <;> rcases hd2 with ⟨l, l1, l2, l3, l4⟩ | ⟨l1, l2⟩
                · rcases Nat.lt_trichotomy m l with q | q | q
                  · exact absurd m3 (l4 m q)
                  · rw [m2, l2, q]
                  · exact absurd l3 (m4 l q)
                · exact absurd m3 (l2 m m1)
                · exact absurd l3 (m2 l l1)
                · rw [m1, l1]
              subst e
              have e1 : t_X10_ofSide (nI n) (nI dn) p1_ranks_size p1_games_goals p1_games_guest p1_games_home p1_ranks_balance p1_ranks_plays p1_ranks_points p1_ranks_taken (nI s) x2 = some (d, nI k, ba, pa, pt2) := by
                simp only [t_X10_ofSide, within_ok, bd1_s, if_pos h1, n10, ↓reduceIte, er, bd4_s, nI_clamp (show s < 2 ^ 31 by omega), ckn_m (show s < 8 by omega) (show 8 < 2 ^ 31 by decide), epl, if_neg hu0, if_neg c0, if_neg c1, if_neg c2, if_pos c3, ed, bd2_s]
              have e2 : t_X11_ofSide (nI n) p2_sides p1_games_goals p1_games_guest p1_games_home p2_row p1_ranks_taken p2_told (nI s) x2 = some (d, sd, row) := by
                simp only [t_X11_ofSide, t_X11_ofSide_79, isSide_ok, in_ok, bd1_s, if_pos h1, n10, ↓reduceIte, eu, if_neg hu0, if_pos (show 0 ≤ x2 ∧ x2 ≤ 3 by subst c3; decide), if_neg c0, if_neg c1, if_neg c2, ed2, bd3_s]
              exact ⟨_, _, _, _, _, _, _, e1, e2, hR0⟩
            · have hno : ¬ (0 ≤ x2 ∧ x2 ≤ 3) := by
                intro h
                obtain ⟨j, hj, rfl⟩ := rgo 3 rfl h
                rcases (show j = 0 ∨ j = 1 ∨ j = 2 ∨ j = 3 by omega) with rfl | rfl | rfl | rfl
                · exact c0 rfl
                · exact c1 rfl
                · exact c2 rfl
                · exact c3 rfl
              have e1 : t_X10_ofSide (nI n) (nI dn) p1_ranks_size p1_games_goals p1_games_guest p1_games_home p1_ranks_balance p1_ranks_plays p1_ranks_points p1_ranks_taken (nI s) x2 = some (-2000000000, nI k, ba, pa, pt) := by
                simp only [t_X10_ofSide, within_ok, bd1_s, if_pos h1, n10, ↓reduceIte, er, bd4_s, nI_clamp (show s < 2 ^ 31 by omega), ckn_m (show s < 8 by omega) (show 8 < 2 ^ 31 by decide), epl, if_neg hu0, if_neg c0, if_neg c1, if_neg c2, if_neg c3]
              have e2 : t_X11_ofSide (nI n) p2_sides p1_games_goals p1_games_guest p1_games_home p2_row p1_ranks_taken p2_told (nI s) x2 = some (-2000000000, p2_sides, p2_row) := by
                simp only [t_X11_ofSide, isSide_ok, in_ok, bd1_s, if_pos h1, n10, ↓reduceIte, eu, if_neg hu0, if_neg hno]
              exact ⟨_, _, _, _, _, _, _, e1, e2, hR0⟩
    · have hu0 : u = 0 := hu.z.mpr hp
      subst hu0
      have e1 : t_X10_ofSide (nI n) (nI dn) p1_ranks_size p1_games_goals p1_games_guest p1_games_home p1_ranks_balance p1_ranks_plays p1_ranks_points p1_ranks_taken (nI s) x2 = some (-2000000000, sz, ba, pa, pt) := by
        simp only [t_X10_ofSide, within_ok, bd1_s, if_pos h1, n10, ↓reduceIte, er, bd4_s, nI_clamp (show s < 2 ^ 31 by omega), ckn_m (show s < 8 by omega) (show 8 < 2 ^ 31 by decide), epl]
      have e2 : t_X11_ofSide (nI n) p2_sides p1_games_goals p1_games_guest p1_games_home p2_row p1_ranks_taken p2_told (nI s) x2 = some (-2000000000, p2_sides, p2_row) := by
        simp only [t_X11_ofSide, isSide_ok, bd1_s, if_pos h1, n10, ↓reduceIte, eu]
      exact ⟨_, _, _, _, _, _, _, e1, e2, hR0⟩
  · have e1 : t_X10_ofSide (nI n) (nI dn) p1_ranks_size p1_games_goals p1_games_guest p1_games_home p1_ranks_balance p1_ranks_plays p1_ranks_points p1_ranks_taken x1 x2 = some (-2000000000, p1_ranks_size, p1_ranks_balance, p1_ranks_plays, p1_ranks_points) := by
      simp only [t_X10_ofSide, within_ok, bd1_s, if_neg h1, ↓reduceIte]
    have e2 : t_X11_ofSide (nI n) p2_sides p1_games_goals p1_games_guest p1_games_home p2_row p1_ranks_taken p2_told x1 x2 = some (-2000000000, p2_sides, p2_row) := by
      simp only [t_X11_ofSide, isSide_ok, bd1_s, if_neg h1, ↓reduceIte]
    exact ⟨_, _, _, _, _, _, _, e1, e2, hR0⟩
