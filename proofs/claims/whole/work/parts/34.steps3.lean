theorem rgp {x L M : Int32} (a b : Nat) (hL : L.toInt = a) (hM : M.toInt = b) (h : L ≤ x ∧ x ≤ M) : ∃ k : Nat, a ≤ k ∧ k ≤ b ∧ x = nI k := by
  obtain ⟨h1, h2⟩ := h
  rw [i_le, hL] at h1
  obtain ⟨k, hk, rfl⟩ := rgo (x := x) b hM ⟨by rw [i_le]; have e0 : (0 : Int32).toInt = 0 := rfl; omega, h2⟩
  have h3 := h2
  rw [i_le, hM] at h3
  have hb : b < 2 ^ 31 := by
    have := Int32.toInt_lt M
    omega
  rw [nI_toInt (by omega)] at h1
  exact ⟨k, by omega, hk, rfl⟩
theorem rgo' {x M : Int32} (n : Nat) (hM : M.toInt = n) (h : 0 ≤ x ∧ x ≤ M) : rg x (n + 1) := by
  obtain ⟨k, hk, e⟩ := rgo n hM h
  exact ⟨k, by omega, e⟩
theorem t_set11 {told : Nat → Int32} (k : Nat) (hk : k ≤ 4) (x2 : Int32) : t_X11_set told (nI k) x2 = if leastF k ≤ x2 ∧ x2 ≤ greatF k then some (told k, upd told k x2) else some (-2, told) := by
  rcases (show k = 0 ∨ k = 1 ∨ k = 2 ∨ k = 3 ∨ k = 4 by omega) with rfl | rfl | rfl | rfl | rfl <;>
    simp only [t_X11_set, t_X11_set_52, t_X11_set_64, in_ok, bd1_s, bz, nI_clamp (show 0 < 2 ^ 31 by omega)]
  · rw [if_pos (by decide), if_pos (by decide), if_neg (by decide), ckn_f (by decide), ckn_f (by decide)]; rfl
  · rw [if_pos (by decide), if_neg (by decide), if_pos (by decide), if_neg (by decide), ckn_f (by decide), ckn_f (by decide)]; rfl
  · rw [if_pos (by decide), if_neg (by decide), if_neg (by decide), if_pos (by decide), if_pos (by decide), ckn_f (by decide), ckn_f (by decide)]; rfl
  · rw [if_pos (by decide), if_neg (by decide), if_neg (by decide), if_neg (by decide), if_pos (by decide), if_pos (by decide), ckn_f (by decide), ckn_f (by decide)]; rfl
  · rw [if_pos (by decide), if_neg (by decide), if_neg (by decide), if_neg (by decide), if_neg (by decide), if_pos (by decide), ckn_f (by decide), ckn_f (by decide)]; rfl
set_option maxHeartbeats 4000000 in
theorem step_stake (p2_matches : Int32) (p2_stakes : Int32) (p2_meetings : Int32) (p2_newsFirst : Int32) (p2_newsHour : Int32) (p2_acts : Int32) (p2_stories : Int32) (p2_signs : Int32) (p2_ruleMany : Int32) (p1_bets_count : Int32) (p1_bets_near : Int32) (p1_bets_times : Int32) (p1_bets_ties : Int32) (p1_clause_count : Int32) (p1_clause_heldCount : Int32) (p1_games_count : Int32) (p1_games_base : Int32) (p1_ranks_down : Int32) (p1_rumour_count : Int32) (p1_rumour_first : Int32) (p1_rumour_since : Int32) (p1_squad_acts : Int32) (p1_tales_count : Int32) (p2_actMatch : Nat → Int32) (p2_actPlayers : Nat → Int32) (p2_allMoves : Nat → Int32) (p2_debt : Nat → Int32) (p2_goals : Nat → Int32) (p2_guest : Nat → Int32) (p2_home : Nat → Int32) (p2_hour : Nat → Int32) (p2_lateMoves : Nat → Int32) (p2_look : Nat → Int32) (p2_meetA : Nat → Int32) (p2_meetB : Nat → Int32) (p2_meetHour : Nat → Int32) (p2_owner : Nat → Int32) (p2_prices : Nat → Int32) (p2_referee : Nat → Int32) (p2_ruleSign : Nat → Int32) (p2_sign : Nat → Int32) (p2_skill : Nat → Int32) (p2_stakeEnd : Nat → Int32) (p2_stakeHand : Nat → Int32) (p2_stakeMatch : Nat → Int32) (p2_stakeMinute : Nat → Int32) (p2_stakeSum : Nat → Int32) (p2_storyFrom : Nat → Int32) (p2_storyPerson : Nat → Int32) (p2_storyPlace : Nat → Int32) (p2_storyTo : Nat → Int32) (p2_taken : Nat → Int32) (p2_told : Nat → Int32) (p1_bets_end : Nat → Int32) (p1_bets_hand : Nat → Int32) (p1_bets_match : Nat → Int32) (p1_bets_minute : Nat → Int32) (p1_bets_sum : Nat → Int32) (p1_clause_held : Nat → Int32) (p1_clause_signs : Nat → Int32) (p1_games_fee : Nat → Int32) (p1_games_goals : Nat → Int32) (p1_games_guest : Nat → Int32) (p1_games_home : Nat → Int32) (p1_games_hour : Nat → Int32) (p1_games_prices : Nat → Int32) (p1_games_referee : Nat → Int32) (p1_games_skills : Nat → Int32) (p1_ranks_taken : Nat → Int32) (p1_rumour_hour : Nat → Int32) (p1_rumour_one : Nat → Int32) (p1_rumour_other : Nat → Int32) (p1_rumour_owner : Nat → Int32) (p1_squad_actMatch : Nat → Int32) (p1_squad_actPlayers : Nat → Int32) (p1_squad_debts : Nat → Int32) (p1_squad_lateMoves : Nat → Int32) (p1_squad_moves : Nat → Int32) (p1_tales_against : Nat → Int32) (p1_tales_from : Nat → Int32) (p1_tales_person : Nat → Int32) (p1_tales_place : Nat → Int32) (p1_tales_to : Nat → Int32) (hR : Rel p1_games_count p1_games_base p1_games_skills p1_games_home p1_games_guest p1_games_referee p1_games_hour p1_games_fee p1_games_goals p1_games_prices p1_bets_count p1_bets_near p1_bets_times p1_bets_ties p1_bets_hand p1_bets_match p1_bets_end p1_bets_minute p1_bets_sum p1_rumour_count p1_rumour_one p1_rumour_other p1_rumour_hour p1_rumour_owner p1_rumour_first p1_rumour_since p1_squad_moves p1_squad_lateMoves p1_squad_debts p1_squad_acts p1_squad_actMatch p1_squad_actPlayers p1_tales_count p1_tales_person p1_tales_place p1_tales_from p1_tales_to p1_tales_against p1_ranks_down p1_ranks_taken p1_clause_count p1_clause_signs p1_clause_heldCount p1_clause_held p2_matches p2_skill p2_home p2_guest p2_referee p2_hour p2_look p2_goals p2_prices p2_told p2_stakes p2_stakeHand p2_stakeMatch p2_stakeEnd p2_stakeMinute p2_stakeSum p2_meetings p2_meetA p2_meetB p2_meetHour p2_owner p2_newsFirst p2_newsHour p2_allMoves p2_lateMoves p2_debt p2_acts p2_actMatch p2_actPlayers p2_stories p2_storyPerson p2_storyPlace p2_storyFrom p2_storyTo p2_taken p2_signs p2_sign p2_ruleMany p2_ruleSign) (x1 x2 x3 x4 x5 : Int32) : ∃ (r : Int32) (z0 : Int32) (z1 : Nat → Int32) (z2 : Nat → Int32) (z3 : Nat → Int32) (z4 : Nat → Int32) (z5 : Nat → Int32) (y0 : Int32) (y1 : Nat → Int32) (y2 : Nat → Int32) (y3 : Nat → Int32) (y4 : Nat → Int32) (y5 : Nat → Int32), t_X10_stake p1_bets_count p1_games_count p1_bets_end p1_bets_hand p1_bets_match p1_bets_minute p1_bets_sum x1 x2 x3 x4 x5 = some (r, z0, z1, z2, z3, z4, z5) ∧ t_X11_stake p2_matches p2_stakes p2_stakeEnd p2_stakeHand p2_stakeMatch p2_stakeMinute p2_stakeSum x1 x2 x3 x4 x5 = some (r, y0, y1, y2, y3, y4, y5) ∧ Rel p1_games_count p1_games_base p1_games_skills p1_games_home p1_games_guest p1_games_referee p1_games_hour p1_games_fee p1_games_goals p1_games_prices z0 p1_bets_near p1_bets_times p1_bets_ties z2 z3 z1 z4 z5 p1_rumour_count p1_rumour_one p1_rumour_other p1_rumour_hour p1_rumour_owner p1_rumour_first p1_rumour_since p1_squad_moves p1_squad_lateMoves p1_squad_debts p1_squad_acts p1_squad_actMatch p1_squad_actPlayers p1_tales_count p1_tales_person p1_tales_place p1_tales_from p1_tales_to p1_tales_against p1_ranks_down p1_ranks_taken p1_clause_count p1_clause_signs p1_clause_heldCount p1_clause_held p2_matches p2_skill p2_home p2_guest p2_referee p2_hour p2_look p2_goals p2_prices p2_told y0 y2 y3 y1 y4 y5 p2_meetings p2_meetA p2_meetB p2_meetHour p2_owner p2_newsFirst p2_newsHour p2_allMoves p2_lateMoves p2_debt p2_acts p2_actMatch p2_actPlayers p2_stories p2_storyPerson p2_storyPlace p2_storyFrom p2_storyTo p2_taken p2_signs p2_sign p2_ruleMany p2_ruleSign := by
  obtain ⟨n, ns, nt, na, ny, ng, nh, hG, hB, hM, hO, hQ, hT, hK, hC, h0⟩ := hR
  obtain ⟨g1, g2, g3, -⟩ := id hG
  subst g2 g3
  obtain ⟨b1, b2, b3, b4, b5, b6, b7, b8, b9, b10, b11, b12, b13, b14, b15, b16, b17, b18, b19⟩ := id hB
  subst b2 b3
  have b12 := b12.symm
  have b13 := b13.symm
  have b14 := b14.symm
  have b15 := b15.symm
  have b16 := b16.symm
  subst b12 b13 b14 b15 b16
  by_cases h1 : 0 ≤ x1 ∧ x1 ≤ 9
  · skip
    by_cases h2 : 0 ≤ x2 ∧ x2 < nI n
    · skip
      by_cases h3 : 0 ≤ x3 ∧ x3 ≤ 2
      · skip
        by_cases h4 : 0 ≤ x4 ∧ x4 ≤ 89
        · skip
          by_cases h5 : 1 ≤ x5 ∧ x5 ≤ 10000
          · skip
            by_cases h6 : ns = 40
            · subst h6
              have e1 : t_X10_stake (nI 40) (nI n) p1_bets_end p1_bets_hand p1_bets_match p1_bets_minute p1_bets_sum x1 x2 x3 x4 x5 = some (-4, nI 40, p1_bets_end, p1_bets_hand, p1_bets_match, p1_bets_minute, p1_bets_sum) := by
                simp only [t_X10_stake, t_X10_stake_86, isHand_ok, has_ok g1, within_ok, bd1_s, n10, ↓reduceIte, if_pos h1, if_pos h2, if_pos h3, if_pos h4, if_pos h5, if_pos (show (40 : Int32) ≤ nI 40 by decide)]
              have e2 : t_X11_stake (nI n) (nI 40) p1_bets_end p1_bets_hand p1_bets_match p1_bets_minute p1_bets_sum x1 x2 x3 x4 x5 = some (-4, nI 40, p1_bets_end, p1_bets_hand, p1_bets_match, p1_bets_minute, p1_bets_sum) := by
                simp only [t_X11_stake, isTen_ok, isMatch_ok g1, in_ok, bd1_s, n10, ↓reduceIte, if_pos h1, if_pos h2, if_pos h3, if_pos h4, if_pos h5, if_pos (show nI 40 = (40 : Int32) by decide)]
              exact ⟨_, _, _, _, _, _, _, _, _, _, _, _, _, e1, e2, n, 40, nt, na, ny, ng, nh, hG, hB, hM, hO, hQ, hT, hK, hC, h0⟩
            · have hlt : ns < 40 := by omega
              have e1 : t_X10_stake (nI ns) (nI n) p1_bets_end p1_bets_hand p1_bets_match p1_bets_minute p1_bets_sum x1 x2 x3 x4 x5 = some (nI ns, nI (ns + 1), upd p1_bets_end ns x3, upd p1_bets_hand ns x1, upd p1_bets_match ns x2, upd p1_bets_minute ns x4, upd p1_bets_sum ns x5) := by
                simp only [t_X10_stake, t_X10_stake_86, t_X0_add, isHand_ok, has_ok g1, within_ok, bd1_s, n10, ↓reduceIte, if_pos h1, if_pos h2, if_pos h3, if_pos h4, if_pos h5, if_neg (show ¬ (40 : Int32) ≤ nI ns from nI_ge hlt (by decide)), nI_clamp (show ns < 2 ^ 31 by omega), ckn_m hlt (by decide), bd7_s, nI_1, nI_pp]
              have e2 : t_X11_stake (nI n) (nI ns) p1_bets_end p1_bets_hand p1_bets_match p1_bets_minute p1_bets_sum x1 x2 x3 x4 x5 = some (nI ns, nI (ns + 1), upd p1_bets_end ns x3, upd p1_bets_hand ns x1, upd p1_bets_match ns x2, upd p1_bets_minute ns x4, upd p1_bets_sum ns x5) := by
                simp only [t_X11_stake, isTen_ok, isMatch_ok g1, in_ok, bd1_s, n10, ↓reduceIte, if_pos h1, if_pos h2, if_pos h3, if_pos h4, if_pos h5, if_neg (show ¬ nI ns = (40 : Int32) from fun q => h6 ((nI_eq (a := ns) (b := 40) (by omega) (by decide)).mp q)), nI_clamp (show ns < 2 ^ 31 by omega), ckn_m hlt (by decide), nI_1, nI_pp]
              have r1 : rg x1 10 := by
                obtain ⟨k, hk, e⟩ := rgo 9 rfl h1
                exact ⟨k, by omega, e⟩
              have r2 : rg x2 n := rgm (by omega) h2
              have r3 : rg x3 3 := by
                obtain ⟨k, hk, e⟩ := rgo 2 rfl h3
                exact ⟨k, by omega, e⟩
              have r4 : rg x4 90 := by
                obtain ⟨k, hk, e⟩ := rgo 89 rfl h4
                exact ⟨k, by omega, e⟩
              have r5 : ∃ k : Nat, 1 ≤ k ∧ k ≤ 10000 ∧ x5 = nI k := rgp 1 10000 rfl rfl h5
              exact ⟨_, _, _, _, _, _, _, _, _, _, _, _, _, e1, e2, n, ns + 1, nt, na, ny, ng, nh, hG, ⟨hlt, rfl, rfl, b4, b5, b6, upd_new (fun x => rg x 10) b7 r1, upd_new (fun x => rg x n) b8 r2, upd_new (fun x => rg x 3) b9 r3, upd_new (fun x => rg x 90) b10 r4, upd_new (fun x => ∃ k : Nat, 1 ≤ k ∧ k ≤ 10000 ∧ x = nI k) b11 r5, rfl, rfl, rfl, rfl, rfl, b17, b18, b19⟩, hM, hO, hQ, hT, hK, hC, h0⟩
          · have e1 : t_X10_stake (nI ns) (nI n) p1_bets_end p1_bets_hand p1_bets_match p1_bets_minute p1_bets_sum x1 x2 x3 x4 x5 = some (-2, nI ns, p1_bets_end, p1_bets_hand, p1_bets_match, p1_bets_minute, p1_bets_sum) := by
              simp only [t_X10_stake, isHand_ok, has_ok g1, within_ok, bd1_s, n10, ↓reduceIte, if_pos h1, if_pos h2, if_pos h3, if_pos h4, if_neg h5]
            have e2 : t_X11_stake (nI n) (nI ns) p1_bets_end p1_bets_hand p1_bets_match p1_bets_minute p1_bets_sum x1 x2 x3 x4 x5 = some (-2, nI ns, p1_bets_end, p1_bets_hand, p1_bets_match, p1_bets_minute, p1_bets_sum) := by
              simp only [t_X11_stake, isTen_ok, isMatch_ok g1, in_ok, bd1_s, n10, ↓reduceIte, if_pos h1, if_pos h2, if_pos h3, if_pos h4, if_neg h5]
            exact ⟨_, _, _, _, _, _, _, _, _, _, _, _, _, e1, e2, n, ns, nt, na, ny, ng, nh, hG, hB, hM, hO, hQ, hT, hK, hC, h0⟩
        · have e1 : t_X10_stake (nI ns) (nI n) p1_bets_end p1_bets_hand p1_bets_match p1_bets_minute p1_bets_sum x1 x2 x3 x4 x5 = some (-2, nI ns, p1_bets_end, p1_bets_hand, p1_bets_match, p1_bets_minute, p1_bets_sum) := by
            simp only [t_X10_stake, isHand_ok, has_ok g1, within_ok, bd1_s, n10, ↓reduceIte, if_pos h1, if_pos h2, if_pos h3, if_neg h4]
          have e2 : t_X11_stake (nI n) (nI ns) p1_bets_end p1_bets_hand p1_bets_match p1_bets_minute p1_bets_sum x1 x2 x3 x4 x5 = some (-2, nI ns, p1_bets_end, p1_bets_hand, p1_bets_match, p1_bets_minute, p1_bets_sum) := by
            simp only [t_X11_stake, isTen_ok, isMatch_ok g1, in_ok, bd1_s, n10, ↓reduceIte, if_pos h1, if_pos h2, if_pos h3, if_neg h4]
          exact ⟨_, _, _, _, _, _, _, _, _, _, _, _, _, e1, e2, n, ns, nt, na, ny, ng, nh, hG, hB, hM, hO, hQ, hT, hK, hC, h0⟩
      · have e1 : t_X10_stake (nI ns) (nI n) p1_bets_end p1_bets_hand p1_bets_match p1_bets_minute p1_bets_sum x1 x2 x3 x4 x5 = some (-2, nI ns, p1_bets_end, p1_bets_hand, p1_bets_match, p1_bets_minute, p1_bets_sum) := by
          simp only [t_X10_stake, isHand_ok, has_ok g1, within_ok, bd1_s, n10, ↓reduceIte, if_pos h1, if_pos h2, if_neg h3]
        have e2 : t_X11_stake (nI n) (nI ns) p1_bets_end p1_bets_hand p1_bets_match p1_bets_minute p1_bets_sum x1 x2 x3 x4 x5 = some (-2, nI ns, p1_bets_end, p1_bets_hand, p1_bets_match, p1_bets_minute, p1_bets_sum) := by
          simp only [t_X11_stake, isTen_ok, isMatch_ok g1, in_ok, bd1_s, n10, ↓reduceIte, if_pos h1, if_pos h2, if_neg h3]
        exact ⟨_, _, _, _, _, _, _, _, _, _, _, _, _, e1, e2, n, ns, nt, na, ny, ng, nh, hG, hB, hM, hO, hQ, hT, hK, hC, h0⟩
    · have e1 : t_X10_stake (nI ns) (nI n) p1_bets_end p1_bets_hand p1_bets_match p1_bets_minute p1_bets_sum x1 x2 x3 x4 x5 = some (-1, nI ns, p1_bets_end, p1_bets_hand, p1_bets_match, p1_bets_minute, p1_bets_sum) := by
        simp only [t_X10_stake, isHand_ok, has_ok g1, within_ok, bd1_s, n10, ↓reduceIte, if_pos h1, if_neg h2]
      have e2 : t_X11_stake (nI n) (nI ns) p1_bets_end p1_bets_hand p1_bets_match p1_bets_minute p1_bets_sum x1 x2 x3 x4 x5 = some (-1, nI ns, p1_bets_end, p1_bets_hand, p1_bets_match, p1_bets_minute, p1_bets_sum) := by
        simp only [t_X11_stake, isTen_ok, isMatch_ok g1, in_ok, bd1_s, n10, ↓reduceIte, if_pos h1, if_neg h2]
      exact ⟨_, _, _, _, _, _, _, _, _, _, _, _, _, e1, e2, n, ns, nt, na, ny, ng, nh, hG, hB, hM, hO, hQ, hT, hK, hC, h0⟩
  · have e1 : t_X10_stake (nI ns) (nI n) p1_bets_end p1_bets_hand p1_bets_match p1_bets_minute p1_bets_sum x1 x2 x3 x4 x5 = some (-1, nI ns, p1_bets_end, p1_bets_hand, p1_bets_match, p1_bets_minute, p1_bets_sum) := by
      simp only [t_X10_stake, isHand_ok, has_ok g1, within_ok, bd1_s, n10, ↓reduceIte, if_neg h1]
    have e2 : t_X11_stake (nI n) (nI ns) p1_bets_end p1_bets_hand p1_bets_match p1_bets_minute p1_bets_sum x1 x2 x3 x4 x5 = some (-1, nI ns, p1_bets_end, p1_bets_hand, p1_bets_match, p1_bets_minute, p1_bets_sum) := by
      simp only [t_X11_stake, isTen_ok, isMatch_ok g1, in_ok, bd1_s, n10, ↓reduceIte, if_neg h1]
    exact ⟨_, _, _, _, _, _, _, _, _, _, _, _, _, e1, e2, n, ns, nt, na, ny, ng, nh, hG, hB, hM, hO, hQ, hT, hK, hC, h0⟩
set_option maxHeartbeats 4000000 in
theorem step_act (p2_matches : Int32) (p2_stakes : Int32) (p2_meetings : Int32) (p2_newsFirst : Int32) (p2_newsHour : Int32) (p2_acts : Int32) (p2_stories : Int32) (p2_signs : Int32) (p2_ruleMany : Int32) (p1_bets_count : Int32) (p1_bets_near : Int32) (p1_bets_times : Int32) (p1_bets_ties : Int32) (p1_clause_count : Int32) (p1_clause_heldCount : Int32) (p1_games_count : Int32) (p1_games_base : Int32) (p1_ranks_down : Int32) (p1_rumour_count : Int32) (p1_rumour_first : Int32) (p1_rumour_since : Int32) (p1_squad_acts : Int32) (p1_tales_count : Int32) (p2_actMatch : Nat → Int32) (p2_actPlayers : Nat → Int32) (p2_allMoves : Nat → Int32) (p2_debt : Nat → Int32) (p2_goals : Nat → Int32) (p2_guest : Nat → Int32) (p2_home : Nat → Int32) (p2_hour : Nat → Int32) (p2_lateMoves : Nat → Int32) (p2_look : Nat → Int32) (p2_meetA : Nat → Int32) (p2_meetB : Nat → Int32) (p2_meetHour : Nat → Int32) (p2_owner : Nat → Int32) (p2_prices : Nat → Int32) (p2_referee : Nat → Int32) (p2_ruleSign : Nat → Int32) (p2_sign : Nat → Int32) (p2_skill : Nat → Int32) (p2_stakeEnd : Nat → Int32) (p2_stakeHand : Nat → Int32) (p2_stakeMatch : Nat → Int32) (p2_stakeMinute : Nat → Int32) (p2_stakeSum : Nat → Int32) (p2_storyFrom : Nat → Int32) (p2_storyPerson : Nat → Int32) (p2_storyPlace : Nat → Int32) (p2_storyTo : Nat → Int32) (p2_taken : Nat → Int32) (p2_told : Nat → Int32) (p1_bets_end : Nat → Int32) (p1_bets_hand : Nat → Int32) (p1_bets_match : Nat → Int32) (p1_bets_minute : Nat → Int32) (p1_bets_sum : Nat → Int32) (p1_clause_held : Nat → Int32) (p1_clause_signs : Nat → Int32) (p1_games_fee : Nat → Int32) (p1_games_goals : Nat → Int32) (p1_games_guest : Nat → Int32) (p1_games_home : Nat → Int32) (p1_games_hour : Nat → Int32) (p1_games_prices : Nat → Int32) (p1_games_referee : Nat → Int32) (p1_games_skills : Nat → Int32) (p1_ranks_taken : Nat → Int32) (p1_rumour_hour : Nat → Int32) (p1_rumour_one : Nat → Int32) (p1_rumour_other : Nat → Int32) (p1_rumour_owner : Nat → Int32) (p1_squad_actMatch : Nat → Int32) (p1_squad_actPlayers : Nat → Int32) (p1_squad_debts : Nat → Int32) (p1_squad_lateMoves : Nat → Int32) (p1_squad_moves : Nat → Int32) (p1_tales_against : Nat → Int32) (p1_tales_from : Nat → Int32) (p1_tales_person : Nat → Int32) (p1_tales_place : Nat → Int32) (p1_tales_to : Nat → Int32) (hR : Rel p1_games_count p1_games_base p1_games_skills p1_games_home p1_games_guest p1_games_referee p1_games_hour p1_games_fee p1_games_goals p1_games_prices p1_bets_count p1_bets_near p1_bets_times p1_bets_ties p1_bets_hand p1_bets_match p1_bets_end p1_bets_minute p1_bets_sum p1_rumour_count p1_rumour_one p1_rumour_other p1_rumour_hour p1_rumour_owner p1_rumour_first p1_rumour_since p1_squad_moves p1_squad_lateMoves p1_squad_debts p1_squad_acts p1_squad_actMatch p1_squad_actPlayers p1_tales_count p1_tales_person p1_tales_place p1_tales_from p1_tales_to p1_tales_against p1_ranks_down p1_ranks_taken p1_clause_count p1_clause_signs p1_clause_heldCount p1_clause_held p2_matches p2_skill p2_home p2_guest p2_referee p2_hour p2_look p2_goals p2_prices p2_told p2_stakes p2_stakeHand p2_stakeMatch p2_stakeEnd p2_stakeMinute p2_stakeSum p2_meetings p2_meetA p2_meetB p2_meetHour p2_owner p2_newsFirst p2_newsHour p2_allMoves p2_lateMoves p2_debt p2_acts p2_actMatch p2_actPlayers p2_stories p2_storyPerson p2_storyPlace p2_storyFrom p2_storyTo p2_taken p2_signs p2_sign p2_ruleMany p2_ruleSign) (x1 x2 : Int32) : ∃ (r : Int32) (z0 : Int32) (z1 : Nat → Int32) (z2 : Nat → Int32) (y0 : Int32) (y1 : Nat → Int32) (y2 : Nat → Int32), t_X10_act p1_games_count p1_squad_acts p1_squad_actMatch p1_squad_actPlayers x1 x2 = some (r, z0, z1, z2) ∧ t_X11_act p2_matches p2_acts p2_actMatch p2_actPlayers x1 x2 = some (r, y0, y1, y2) ∧ Rel p1_games_count p1_games_base p1_games_skills p1_games_home p1_games_guest p1_games_referee p1_games_hour p1_games_fee p1_games_goals p1_games_prices p1_bets_count p1_bets_near p1_bets_times p1_bets_ties p1_bets_hand p1_bets_match p1_bets_end p1_bets_minute p1_bets_sum p1_rumour_count p1_rumour_one p1_rumour_other p1_rumour_hour p1_rumour_owner p1_rumour_first p1_rumour_since p1_squad_moves p1_squad_lateMoves p1_squad_debts z0 z1 z2 p1_tales_count p1_tales_person p1_tales_place p1_tales_from p1_tales_to p1_tales_against p1_ranks_down p1_ranks_taken p1_clause_count p1_clause_signs p1_clause_heldCount p1_clause_held p2_matches p2_skill p2_home p2_guest p2_referee p2_hour p2_look p2_goals p2_prices p2_told p2_stakes p2_stakeHand p2_stakeMatch p2_stakeEnd p2_stakeMinute p2_stakeSum p2_meetings p2_meetA p2_meetB p2_meetHour p2_owner p2_newsFirst p2_newsHour p2_allMoves p2_lateMoves p2_debt y0 y1 y2 p2_stories p2_storyPerson p2_storyPlace p2_storyFrom p2_storyTo p2_taken p2_signs p2_sign p2_ruleMany p2_ruleSign := by
  obtain ⟨n, ns, nt, na, ny, ng, nh, hG, hB, hM, hO, hQ, hT, hK, hC, h0⟩ := hR
  obtain ⟨g1, g2, g3, -⟩ := id hG
  subst g2 g3
  obtain ⟨q1, q2, q3, q4, q5, q6, q7, q8, q9, q10, q11, q12⟩ := id hQ
  subst q2 q3
  have q11 := q11.symm
  have q12 := q12.symm
  subst q11 q12
  by_cases h1 : 0 ≤ x1 ∧ x1 < nI n
  · skip
    by_cases h2 : 1 ≤ x2 ∧ x2 ≤ 1023
    · skip
      by_cases h6 : na = 12
      · subst h6
        have e1 : t_X10_act (nI n) (nI 12) p1_squad_actMatch p1_squad_actPlayers x1 x2 = some (-4, nI 12, p1_squad_actMatch, p1_squad_actPlayers) := by
          simp only [t_X10_act, t_X10_act_53, has_ok g1, within_ok, bd1_s, n10, ↓reduceIte, if_pos h1, if_pos h2, if_pos (show (12 : Int32) ≤ nI 12 by decide)]
        have e2 : t_X11_act (nI n) (nI 12) p1_squad_actMatch p1_squad_actPlayers x1 x2 = some (-4, nI 12, p1_squad_actMatch, p1_squad_actPlayers) := by
          simp only [t_X11_act, isMatch_ok g1, in_ok, bd1_s, n10, ↓reduceIte, if_pos h1, if_pos h2, if_pos (show nI 12 = (12 : Int32) by decide)]
        exact ⟨_, _, _, _, _, _, _, e1, e2, n, ns, nt, 12, ny, ng, nh, hG, hB, hM, hO, hQ, hT, hK, hC, h0⟩
      · have hlt : na < 12 := by omega
        have e1 : t_X10_act (nI n) (nI na) p1_squad_actMatch p1_squad_actPlayers x1 x2 = some (nI na, nI (na + 1), upd p1_squad_actMatch na x1, upd p1_squad_actPlayers na x2) := by
          simp only [t_X10_act, t_X10_act_53, t_X8_addAct, has_ok g1, within_ok, bd1_s, n10, ↓reduceIte, if_pos h1, if_pos h2, if_neg (show ¬ (12 : Int32) ≤ nI na from nI_ge hlt (by decide)), nI_clamp (show na < 2 ^ 31 by omega), ckn_m hlt (by decide), bd4_s, nI_1, nI_pp]
        have e2 : t_X11_act (nI n) (nI na) p1_squad_actMatch p1_squad_actPlayers x1 x2 = some (nI na, nI (na + 1), upd p1_squad_actMatch na x1, upd p1_squad_actPlayers na x2) := by
          simp only [t_X11_act, isMatch_ok g1, in_ok, bd1_s, n10, ↓reduceIte, if_pos h1, if_pos h2, if_neg (show ¬ nI na = (12 : Int32) from fun q => h6 ((nI_eq (a := na) (b := 12) (by omega) (by decide)).mp q)), nI_clamp (show na < 2 ^ 31 by omega), ckn_m hlt (by decide), nI_1, nI_pp]
        exact ⟨_, _, _, _, _, _, _, e1, e2, n, ns, nt, na + 1, ny, ng, nh, hG, hB, hM, hO, ⟨hlt, rfl, rfl, q4, q5, upd_new (fun x => rg x n) q6 (rgm (by omega) h1), upd_new (fun x => ∃ k : Nat, 1 ≤ k ∧ k ≤ 1023 ∧ x = nI k) q7 (rgp 1 1023 rfl rfl h2), q8, q9, q10, rfl, rfl⟩, hT, hK, hC, h0⟩
    · have e1 : t_X10_act (nI n) (nI na) p1_squad_actMatch p1_squad_actPlayers x1 x2 = some (-2, nI na, p1_squad_actMatch, p1_squad_actPlayers) := by
        simp only [t_X10_act, has_ok g1, within_ok, bd1_s, n10, ↓reduceIte, if_pos h1, if_neg h2]
      have e2 : t_X11_act (nI n) (nI na) p1_squad_actMatch p1_squad_actPlayers x1 x2 = some (-2, nI na, p1_squad_actMatch, p1_squad_actPlayers) := by
        simp only [t_X11_act, isMatch_ok g1, in_ok, bd1_s, n10, ↓reduceIte, if_pos h1, if_neg h2]
      exact ⟨_, _, _, _, _, _, _, e1, e2, n, ns, nt, na, ny, ng, nh, hG, hB, hM, hO, hQ, hT, hK, hC, h0⟩
  · have e1 : t_X10_act (nI n) (nI na) p1_squad_actMatch p1_squad_actPlayers x1 x2 = some (-1, nI na, p1_squad_actMatch, p1_squad_actPlayers) := by
      simp only [t_X10_act, has_ok g1, within_ok, bd1_s, n10, ↓reduceIte, if_neg h1]
    have e2 : t_X11_act (nI n) (nI na) p1_squad_actMatch p1_squad_actPlayers x1 x2 = some (-1, nI na, p1_squad_actMatch, p1_squad_actPlayers) := by
      simp only [t_X11_act, isMatch_ok g1, in_ok, bd1_s, n10, ↓reduceIte, if_neg h1]
    exact ⟨_, _, _, _, _, _, _, e1, e2, n, ns, nt, na, ny, ng, nh, hG, hB, hM, hO, hQ, hT, hK, hC, h0⟩
set_option maxHeartbeats 4000000 in
theorem step_set (p2_matches : Int32) (p2_stakes : Int32) (p2_meetings : Int32) (p2_newsFirst : Int32) (p2_newsHour : Int32) (p2_acts : Int32) (p2_stories : Int32) (p2_signs : Int32) (p2_ruleMany : Int32) (p1_bets_count : Int32) (p1_bets_near : Int32) (p1_bets_times : Int32) (p1_bets_ties : Int32) (p1_clause_count : Int32) (p1_clause_heldCount : Int32) (p1_games_count : Int32) (p1_games_base : Int32) (p1_ranks_down : Int32) (p1_rumour_count : Int32) (p1_rumour_first : Int32) (p1_rumour_since : Int32) (p1_squad_acts : Int32) (p1_tales_count : Int32) (p2_actMatch : Nat → Int32) (p2_actPlayers : Nat → Int32) (p2_allMoves : Nat → Int32) (p2_debt : Nat → Int32) (p2_goals : Nat → Int32) (p2_guest : Nat → Int32) (p2_home : Nat → Int32) (p2_hour : Nat → Int32) (p2_lateMoves : Nat → Int32) (p2_look : Nat → Int32) (p2_meetA : Nat → Int32) (p2_meetB : Nat → Int32) (p2_meetHour : Nat → Int32) (p2_owner : Nat → Int32) (p2_prices : Nat → Int32) (p2_referee : Nat → Int32) (p2_ruleSign : Nat → Int32) (p2_sign : Nat → Int32) (p2_skill : Nat → Int32) (p2_stakeEnd : Nat → Int32) (p2_stakeHand : Nat → Int32) (p2_stakeMatch : Nat → Int32) (p2_stakeMinute : Nat → Int32) (p2_stakeSum : Nat → Int32) (p2_storyFrom : Nat → Int32) (p2_storyPerson : Nat → Int32) (p2_storyPlace : Nat → Int32) (p2_storyTo : Nat → Int32) (p2_taken : Nat → Int32) (p2_told : Nat → Int32) (p1_bets_end : Nat → Int32) (p1_bets_hand : Nat → Int32) (p1_bets_match : Nat → Int32) (p1_bets_minute : Nat → Int32) (p1_bets_sum : Nat → Int32) (p1_clause_held : Nat → Int32) (p1_clause_signs : Nat → Int32) (p1_games_fee : Nat → Int32) (p1_games_goals : Nat → Int32) (p1_games_guest : Nat → Int32) (p1_games_home : Nat → Int32) (p1_games_hour : Nat → Int32) (p1_games_prices : Nat → Int32) (p1_games_referee : Nat → Int32) (p1_games_skills : Nat → Int32) (p1_ranks_taken : Nat → Int32) (p1_rumour_hour : Nat → Int32) (p1_rumour_one : Nat → Int32) (p1_rumour_other : Nat → Int32) (p1_rumour_owner : Nat → Int32) (p1_squad_actMatch : Nat → Int32) (p1_squad_actPlayers : Nat → Int32) (p1_squad_debts : Nat → Int32) (p1_squad_lateMoves : Nat → Int32) (p1_squad_moves : Nat → Int32) (p1_tales_against : Nat → Int32) (p1_tales_from : Nat → Int32) (p1_tales_person : Nat → Int32) (p1_tales_place : Nat → Int32) (p1_tales_to : Nat → Int32) (hR : Rel p1_games_count p1_games_base p1_games_skills p1_games_home p1_games_guest p1_games_referee p1_games_hour p1_games_fee p1_games_goals p1_games_prices p1_bets_count p1_bets_near p1_bets_times p1_bets_ties p1_bets_hand p1_bets_match p1_bets_end p1_bets_minute p1_bets_sum p1_rumour_count p1_rumour_one p1_rumour_other p1_rumour_hour p1_rumour_owner p1_rumour_first p1_rumour_since p1_squad_moves p1_squad_lateMoves p1_squad_debts p1_squad_acts p1_squad_actMatch p1_squad_actPlayers p1_tales_count p1_tales_person p1_tales_place p1_tales_from p1_tales_to p1_tales_against p1_ranks_down p1_ranks_taken p1_clause_count p1_clause_signs p1_clause_heldCount p1_clause_held p2_matches p2_skill p2_home p2_guest p2_referee p2_hour p2_look p2_goals p2_prices p2_told p2_stakes p2_stakeHand p2_stakeMatch p2_stakeEnd p2_stakeMinute p2_stakeSum p2_meetings p2_meetA p2_meetB p2_meetHour p2_owner p2_newsFirst p2_newsHour p2_allMoves p2_lateMoves p2_debt p2_acts p2_actMatch p2_actPlayers p2_stories p2_storyPerson p2_storyPlace p2_storyFrom p2_storyTo p2_taken p2_signs p2_sign p2_ruleMany p2_ruleSign) (x1 x2 : Int32) : ∃ (r : Int32) (z0 : Int32) (z1 : Int32) (z2 : Int32) (z3 : Int32) (z4 : Int32) (y0 : Nat → Int32), t_X10_set p1_bets_near p1_bets_times p1_bets_ties p1_games_base p1_ranks_down x1 x2 = some (r, z0, z1, z2, z3, z4) ∧ t_X11_set p2_told x1 x2 = some (r, y0) ∧ Rel p1_games_count z3 p1_games_skills p1_games_home p1_games_guest p1_games_referee p1_games_hour p1_games_fee p1_games_goals p1_games_prices p1_bets_count z0 z1 z2 p1_bets_hand p1_bets_match p1_bets_end p1_bets_minute p1_bets_sum p1_rumour_count p1_rumour_one p1_rumour_other p1_rumour_hour p1_rumour_owner p1_rumour_first p1_rumour_since p1_squad_moves p1_squad_lateMoves p1_squad_debts p1_squad_acts p1_squad_actMatch p1_squad_actPlayers p1_tales_count p1_tales_person p1_tales_place p1_tales_from p1_tales_to p1_tales_against z4 p1_ranks_taken p1_clause_count p1_clause_signs p1_clause_heldCount p1_clause_held p2_matches p2_skill p2_home p2_guest p2_referee p2_hour p2_look p2_goals p2_prices y0 p2_stakes p2_stakeHand p2_stakeMatch p2_stakeEnd p2_stakeMinute p2_stakeSum p2_meetings p2_meetA p2_meetB p2_meetHour p2_owner p2_newsFirst p2_newsHour p2_allMoves p2_lateMoves p2_debt p2_acts p2_actMatch p2_actPlayers p2_stories p2_storyPerson p2_storyPlace p2_storyFrom p2_storyTo p2_taken p2_signs p2_sign p2_ruleMany p2_ruleSign := by
  obtain ⟨n, ns, nt, na, ny, ng, nh, hG, hB, hM, hO, hQ, hT, hK, hC, h0⟩ := hR
  obtain ⟨g1, g2, g3, g4, gg⟩ := id hG
  obtain ⟨b1, b2, b3, b4, b5, b6, b7, b8, b9, b10, b11, b12, b13, b14, b15, b16, b17, b18, b19⟩ := id hB
  obtain ⟨k1, k2, k3, k4⟩ := id hK
  by_cases h1 : 0 ≤ x1 ∧ x1 ≤ 4
  · obtain ⟨k, hk, rfl⟩ := rgo 4 rfl h1
    by_cases h2 : leastF k ≤ x2 ∧ x2 ≤ greatF k
    · have f1 : t_X10_set p1_bets_near p1_bets_times p1_bets_ties p1_games_base p1_ranks_down (nI k) x2 = (if nI k = 0 then some (p1_games_base, p1_bets_near, p1_bets_times, p1_bets_ties, x2, p1_ranks_down) else if nI k = 1 then some (p1_bets_near, x2, p1_bets_times, p1_bets_ties, p1_games_base, p1_ranks_down) else if nI k = 2 then some (p1_bets_times, p1_bets_near, x2, p1_bets_ties, p1_games_base, p1_ranks_down) else if nI k = 3 then some (p1_bets_ties, p1_bets_near, p1_bets_times, x2, p1_games_base, p1_ranks_down) else some (p1_ranks_down, p1_bets_near, p1_bets_times, p1_bets_ties, p1_games_base, x2)) := by
        simp only [t_X10_set, show (5 : Int32) - 1 = 4 from by decide, within_ok, bd1_s, n10, ↓reduceIte, if_pos h1, nI_clamp (show k < 2 ^ 31 by omega), ckn_m (show k < 5 by omega) (by decide), if_pos h2]
      have f2 : t_X11_set p2_told (nI k) x2 = some (p2_told k, upd p2_told k x2) := by
        rw [t_set11 k hk x2, if_pos h2]
      rcases (show k = 0 ∨ k = 1 ∨ k = 2 ∨ k = 3 ∨ k = 4 by omega) with rfl | rfl | rfl | rfl | rfl
      · rw [if_pos (by decide)] at f1
        rw [h0] at f2
        exact ⟨_, _, _, _, _, _, _, f1, f2, n, ns, nt, na, ny, ng, nh, ⟨g1, g2, g3, rgo' 40 rfl h2, gg⟩, ⟨b1, b2, b3, b4, b5, b6, b7, b8, b9, b10, b11, b12, b13, b14, b15, b16, b17, b18, b19⟩, hM, hO, hQ, hT, hK, hC, rfl⟩
      · rw [if_neg (by decide), if_pos (by decide)] at f1
        rw [b17] at f2
        exact ⟨_, _, _, _, _, _, _, f1, f2, n, ns, nt, na, ny, ng, nh, hG, ⟨b1, b2, b3, rgo' 89 rfl h2, b5, b6, b7, b8, b9, b10, b11, b12, b13, b14, b15, b16, rfl, b18, b19⟩, hM, hO, hQ, hT, hK, hC, h0⟩
      · rw [if_neg (by decide), if_neg (by decide), if_pos (by decide)] at f1
        rw [b18] at f2
        exact ⟨_, _, _, _, _, _, _, f1, f2, n, ns, nt, na, ny, ng, nh, hG, ⟨b1, b2, b3, b4, rgp 1 10 rfl rfl h2, b6, b7, b8, b9, b10, b11, b12, b13, b14, b15, b16, b17, rfl, b19⟩, hM, hO, hQ, hT, hK, hC, h0⟩
      · rw [if_neg (by decide), if_neg (by decide), if_neg (by decide), if_pos (by decide)] at f1
        rw [b19] at f2
        exact ⟨_, _, _, _, _, _, _, f1, f2, n, ns, nt, na, ny, ng, nh, hG, ⟨b1, b2, b3, b4, b5, rgp 1 20 rfl rfl h2, b7, b8, b9, b10, b11, b12, b13, b14, b15, b16, b17, b18, rfl⟩, hM, hO, hQ, hT, hK, hC, h0⟩
      · rw [if_neg (by decide), if_neg (by decide), if_neg (by decide), if_neg (by decide)] at f1
        rw [k4] at f2
        exact ⟨_, _, _, _, _, _, _, f1, f2, n, ns, nt, na, ny, ng, nh, hG, ⟨b1, b2, b3, b4, b5, b6, b7, b8, b9, b10, b11, b12, b13, b14, b15, b16, b17, b18, b19⟩, hM, hO, hQ, hT, ⟨rgp 1 4 rfl rfl h2, k2, k3, rfl⟩, hC, h0⟩
    · have e1 : t_X10_set p1_bets_near p1_bets_times p1_bets_ties p1_games_base p1_ranks_down (nI k) x2 = some (-2, p1_bets_near, p1_bets_times, p1_bets_ties, p1_games_base, p1_ranks_down) := by
        simp only [t_X10_set, show (5 : Int32) - 1 = 4 from by decide, within_ok, bd1_s, n10, ↓reduceIte, if_pos h1, nI_clamp (show k < 2 ^ 31 by omega), ckn_m (show k < 5 by omega) (by decide), if_neg h2]
      have e2 : t_X11_set p2_told (nI k) x2 = some (-2, p2_told) := by
        rw [t_set11 k hk x2, if_neg h2]
      exact ⟨_, _, _, _, _, _, _, e1, e2, n, ns, nt, na, ny, ng, nh, hG, hB, hM, hO, hQ, hT, hK, hC, h0⟩
  · have e1 : t_X10_set p1_bets_near p1_bets_times p1_bets_ties p1_games_base p1_ranks_down x1 x2 = some (-2, p1_bets_near, p1_bets_times, p1_bets_ties, p1_games_base, p1_ranks_down) := by
      simp only [t_X10_set, show (5 : Int32) - 1 = 4 from by decide, within_ok, bd1_s, n10, ↓reduceIte, if_neg h1]
    have e2 : t_X11_set p2_told x1 x2 = some (-2, p2_told) := by
      simp only [t_X11_set, in_ok, bd1_s, n10, ↓reduceIte, if_neg h1]
    exact ⟨_, _, _, _, _, _, _, e1, e2, n, ns, nt, na, ny, ng, nh, hG, hB, hM, hO, hQ, hT, hK, hC, h0⟩
