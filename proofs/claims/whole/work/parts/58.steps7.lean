-- answers of hands and rings
theorem asN0 : t_X10_asNumber 0 = some 0 := rfl
theorem asN1 : t_X10_asNumber 1 = some 1 := rfl
theorem asNb {u : Int32} {p : Prop} (h : Bz u p) : t_X10_asNumber u = some u := by
  rcases h with ⟨rfl, _⟩ | ⟨rfl, _⟩
  · exact asN1
  · exact asN0
theorem Bz.uniq {u w : Int32} {p : Prop} (h : Bz u p) (k : Bz w p) : u = w := by
  rcases h with ⟨rfl, a⟩ | ⟨rfl, a⟩ <;> rcases k with ⟨rfl, b⟩ | ⟨rfl, b⟩
  · rfl
  · exact absurd a b
  · exact absurd b a
  · rfl
theorem bits_eq {n k l : Nat} (hk : k < 2 ^ n) (hl : l < 2 ^ n) {P : Nat → Prop} (h1 : ∀ j, k.testBit j = true ↔ P j) (h2 : ∀ j, l.testBit j = true ↔ P j) : k = l := by
  refine bits_ext hk hl (fun j _ => ?_)
  have a := h1 j
  have b := h2 j
  cases w1 : k.testBit j <;> cases w2 : l.testBit j
  · rfl
  · exact absurd (a.mpr (b.mp w2)) (by rw [w1]; decide)
  · exact absurd (b.mpr (a.mp w1)) (by rw [w2]; decide)
  · rfl
theorem c35 {R : Type} {x : Option R} : ckn ((3 : Int32) < 0 ∨ 5 ≤ (3 : Int32).toNatClampNeg) x = x := ckn_f (by decide)
theorem t3c : (3 : Int32).toNatClampNeg = 3 := rfl
theorem nI_m6 {t : Nat} (h : t < 2 ^ 31) : ¬ nI t = -6 := fun q => by
  have h2 : ¬ nI t < 0 := nI_pos h
  rw [q] at h2
  exact absurd (by decide) h2
set_option maxHeartbeats 4000000 in
theorem step_answer (p2_matches : Int32) (p2_stakes : Int32) (p2_meetings : Int32) (p2_newsFirst : Int32) (p2_newsHour : Int32) (p2_acts : Int32) (p2_stories : Int32) (p2_signs : Int32) (p2_ruleMany : Int32) (p1_bets_count : Int32) (p1_bets_near : Int32) (p1_bets_times : Int32) (p1_bets_ties : Int32) (p1_clause_count : Int32) (p1_clause_heldCount : Int32) (p1_games_count : Int32) (p1_games_base : Int32) (p1_ranks_down : Int32) (p1_rumour_count : Int32) (p1_rumour_first : Int32) (p1_rumour_since : Int32) (p1_squad_acts : Int32) (p1_tales_count : Int32) (p2_actMatch : Nat → Int32) (p2_actPlayers : Nat → Int32) (p2_allMoves : Nat → Int32) (p2_cameFrom : Nat → Int32) (p2_debt : Nat → Int32) (p2_goals : Nat → Int32) (p2_guest : Nat → Int32) (p2_home : Nat → Int32) (p2_hour : Nat → Int32) (p2_lateMoves : Nat → Int32) (p2_look : Nat → Int32) (p2_mate : Nat → Int32) (p2_meetA : Nat → Int32) (p2_meetB : Nat → Int32) (p2_meetHour : Nat → Int32) (p2_owner : Nat → Int32) (p2_prices : Nat → Int32) (p2_queue : Nat → Int32) (p2_referee : Nat → Int32) (p2_ruleSign : Nat → Int32) (p2_sign : Nat → Int32) (p2_skill : Nat → Int32) (p2_stakeEnd : Nat → Int32) (p2_stakeHand : Nat → Int32) (p2_stakeMatch : Nat → Int32) (p2_stakeMinute : Nat → Int32) (p2_stakeSum : Nat → Int32) (p2_storyFrom : Nat → Int32) (p2_storyPerson : Nat → Int32) (p2_storyPlace : Nat → Int32) (p2_storyTo : Nat → Int32) (p2_taken : Nat → Int32) (p2_told : Nat → Int32) (p1_bets_end : Nat → Int32) (p1_bets_hand : Nat → Int32) (p1_bets_match : Nat → Int32) (p1_bets_minute : Nat → Int32) (p1_bets_partner : Nat → Int32) (p1_bets_reachedFrom : Nat → Int32) (p1_bets_sum : Nat → Int32) (p1_bets_waiting : Nat → Int32) (p1_clause_held : Nat → Int32) (p1_clause_signs : Nat → Int32) (p1_games_fee : Nat → Int32) (p1_games_goals : Nat → Int32) (p1_games_guest : Nat → Int32) (p1_games_home : Nat → Int32) (p1_games_hour : Nat → Int32) (p1_games_prices : Nat → Int32) (p1_games_referee : Nat → Int32) (p1_games_skills : Nat → Int32) (p1_ranks_taken : Nat → Int32) (p1_rumour_hour : Nat → Int32) (p1_rumour_one : Nat → Int32) (p1_rumour_other : Nat → Int32) (p1_rumour_owner : Nat → Int32) (p1_squad_actMatch : Nat → Int32) (p1_squad_actPlayers : Nat → Int32) (p1_squad_debts : Nat → Int32) (p1_squad_lateMoves : Nat → Int32) (p1_squad_moves : Nat → Int32) (p1_tales_against : Nat → Int32) (p1_tales_from : Nat → Int32) (p1_tales_person : Nat → Int32) (p1_tales_place : Nat → Int32) (p1_tales_to : Nat → Int32) (hR : Rel p1_games_count p1_games_base p1_games_skills p1_games_home p1_games_guest p1_games_referee p1_games_hour p1_games_fee p1_games_goals p1_games_prices p1_bets_count p1_bets_near p1_bets_times p1_bets_ties p1_bets_hand p1_bets_match p1_bets_end p1_bets_minute p1_bets_sum p1_rumour_count p1_rumour_one p1_rumour_other p1_rumour_hour p1_rumour_owner p1_rumour_first p1_rumour_since p1_squad_moves p1_squad_lateMoves p1_squad_debts p1_squad_acts p1_squad_actMatch p1_squad_actPlayers p1_tales_count p1_tales_person p1_tales_place p1_tales_from p1_tales_to p1_tales_against p1_ranks_down p1_ranks_taken p1_clause_count p1_clause_signs p1_clause_heldCount p1_clause_held p2_matches p2_skill p2_home p2_guest p2_referee p2_hour p2_look p2_goals p2_prices p2_told p2_stakes p2_stakeHand p2_stakeMatch p2_stakeEnd p2_stakeMinute p2_stakeSum p2_meetings p2_meetA p2_meetB p2_meetHour p2_owner p2_newsFirst p2_newsHour p2_allMoves p2_lateMoves p2_debt p2_acts p2_actMatch p2_actPlayers p2_stories p2_storyPerson p2_storyPlace p2_storyFrom p2_storyTo p2_taken p2_signs p2_sign p2_ruleMany p2_ruleSign) (x1 x2 x3 : Int32) : ∃ (r : Int32) (z0 : Nat → Int32) (z1 : Nat → Int32) (z2 : Nat → Int32) (y0 : Nat → Int32) (y1 : Nat → Int32) (y2 : Nat → Int32), t_X10_answer p1_bets_count p1_bets_near p1_bets_times p1_bets_ties p1_bets_end p1_bets_hand p1_bets_match p1_bets_minute p1_bets_partner p1_bets_reachedFrom p1_bets_sum p1_bets_waiting x1 x2 x3 = some (r, z0, z1, z2) ∧ t_X11_answer p2_stakes p2_cameFrom p2_mate p2_queue p2_stakeEnd p2_stakeHand p2_stakeMatch p2_stakeMinute p2_stakeSum p2_told x1 x2 x3 = some (r, y0, y1, y2) ∧ Rel p1_games_count p1_games_base p1_games_skills p1_games_home p1_games_guest p1_games_referee p1_games_hour p1_games_fee p1_games_goals p1_games_prices p1_bets_count p1_bets_near p1_bets_times p1_bets_ties p1_bets_hand p1_bets_match p1_bets_end p1_bets_minute p1_bets_sum p1_rumour_count p1_rumour_one p1_rumour_other p1_rumour_hour p1_rumour_owner p1_rumour_first p1_rumour_since p1_squad_moves p1_squad_lateMoves p1_squad_debts p1_squad_acts p1_squad_actMatch p1_squad_actPlayers p1_tales_count p1_tales_person p1_tales_place p1_tales_from p1_tales_to p1_tales_against p1_ranks_down p1_ranks_taken p1_clause_count p1_clause_signs p1_clause_heldCount p1_clause_held p2_matches p2_skill p2_home p2_guest p2_referee p2_hour p2_look p2_goals p2_prices p2_told p2_stakes p2_stakeHand p2_stakeMatch p2_stakeEnd p2_stakeMinute p2_stakeSum p2_meetings p2_meetA p2_meetB p2_meetHour p2_owner p2_newsFirst p2_newsHour p2_allMoves p2_lateMoves p2_debt p2_acts p2_actMatch p2_actPlayers p2_stories p2_storyPerson p2_storyPlace p2_storyFrom p2_storyTo p2_taken p2_signs p2_sign p2_ruleMany p2_ruleSign := by
  have hR0 := hR
  obtain ⟨n, ns, nt, na, ny, ng, nh, hG, hB, hM, hO, hQ, hT, hK, hC, h0⟩ := hR
  obtain ⟨b1, b2, b3, b4, b5, b6, b7, b8, b9, b10, b11, k1, k2, k3, k4, k5, k6, k7, k8⟩ := id hB
  subst b2 b3
  have k1 := k1.symm
  have k2 := k2.symm
  have k3 := k3.symm
  have k4 := k4.symm
  have k5 := k5.symm
  subst k1 k2 k3 k4 k5
  obtain ⟨tn, tn1, tn2, et⟩ := b6
  subst et
  have D : SD ns p1_bets_near p1_bets_times p1_bets_minute p1_bets_sum := ⟨b1, b4, b5, b10, b11⟩
  obtain ⟨mx, hX⟩ := mx_ex p1_bets_hand p1_bets_match p1_bets_end D
  by_cases h1 : (0 ≤ x1 ∧ x1 ≤ 9) ∧ (0 ≤ x2 ∧ x2 ≤ 9) ∧ x1 ≠ x2
  · by_cases h2 : 0 ≤ x3 ∧ x3 ≤ 1
    · obtain ⟨m1, -, m3, m4⟩ := hX x1 x2 h1.2.2
      obtain ⟨⟨v1, z0, z1, z2⟩, ev1, hv1⟩ := m3 p1_bets_partner p1_bets_reachedFrom p1_bets_waiting
      obtain ⟨⟨v2, y0, y1, y2⟩, ev2, hv2⟩ := m4 p2_told k6 k7 p2_mate p2_cameFrom p2_queue
      simp only at hv1 hv2
      subst hv1 hv2
      have e1 : t_X10_answer (nI ns) p1_bets_near p1_bets_times (nI tn) p1_bets_end p1_bets_hand p1_bets_match p1_bets_minute p1_bets_partner p1_bets_reachedFrom p1_bets_sum p1_bets_waiting x1 x2 x3 = some (if x3 = 0 then nI (mx x1 x2) else if nI (mx x1 x2) < nI tn then 0 else 1, z0, z1, z2) := by
        simp only [t_X10_answer, t_X10_answer_73, t_X10_answer_70, isHand_ok, within_ok, bd1_s, if_pos h1.1, if_pos h1.2.1, if_neg h1.2.2, if_pos h2, n10, ↓reduceIte, ev1, bd4_s, asN0, asN1]
        split
        · rfl
        · split <;> rfl
      have e2 : t_X11_answer (nI ns) p2_cameFrom p2_mate p2_queue p1_bets_end p1_bets_hand p1_bets_match p1_bets_minute p1_bets_sum p2_told x1 x2 x3 = some (if x3 = 0 then nI (mx x1 x2) else if nI (mx x1 x2) < nI tn then 0 else 1, y0, y1, y2) := by
        simp only [t_X11_answer, t_X11_answer_66, isTen_ok, in_ok, bd1_s, if_pos h1.1, if_pos h1.2.1, if_neg h1.2.2, if_pos h2, n10, ↓reduceIte, ev2, bd4_s]
        rw [c35, t3c, k8]
        split
        · rfl
        · split <;> rfl
      exact ⟨_, _, _, _, _, _, _, e1, e2, hR0⟩
    · have e1 : t_X10_answer (nI ns) p1_bets_near p1_bets_times (nI tn) p1_bets_end p1_bets_hand p1_bets_match p1_bets_minute p1_bets_partner p1_bets_reachedFrom p1_bets_sum p1_bets_waiting x1 x2 x3 = some (-2, p1_bets_partner, p1_bets_reachedFrom, p1_bets_waiting) := by
        simp only [t_X10_answer, isHand_ok, within_ok, bd1_s, if_pos h1.1, if_pos h1.2.1, if_neg h1.2.2, if_neg h2, n10, ↓reduceIte]
      have e2 : t_X11_answer (nI ns) p2_cameFrom p2_mate p2_queue p1_bets_end p1_bets_hand p1_bets_match p1_bets_minute p1_bets_sum p2_told x1 x2 x3 = some (-2, p2_cameFrom, p2_mate, p2_queue) := by
        simp only [t_X11_answer, isTen_ok, in_ok, bd1_s, if_pos h1.1, if_pos h1.2.1, if_neg h1.2.2, if_neg h2, n10, ↓reduceIte]
      exact ⟨_, _, _, _, _, _, _, e1, e2, hR0⟩
  · have e1 : t_X10_answer (nI ns) p1_bets_near p1_bets_times (nI tn) p1_bets_end p1_bets_hand p1_bets_match p1_bets_minute p1_bets_partner p1_bets_reachedFrom p1_bets_sum p1_bets_waiting x1 x2 x3 = some (-1, p1_bets_partner, p1_bets_reachedFrom, p1_bets_waiting) := by
      simp only [t_X10_answer, isHand_ok, bd1_s, bz]
      by_cases c1 : 0 ≤ x1 ∧ x1 ≤ 9
      · by_cases c2 : 0 ≤ x2 ∧ x2 ≤ 9
        · rw [if_pos c1, if_pos c2, if_pos (Classical.not_not.mp (fun q => h1 ⟨c1, c2, q⟩))]
        · rw [if_pos c1, if_neg c2]
      · rw [if_neg c1]
    have e2 : t_X11_answer (nI ns) p2_cameFrom p2_mate p2_queue p1_bets_end p1_bets_hand p1_bets_match p1_bets_minute p1_bets_sum p2_told x1 x2 x3 = some (-1, p2_cameFrom, p2_mate, p2_queue) := by
      simp only [t_X11_answer, isTen_ok, bd1_s, bz]
      by_cases c1 : 0 ≤ x1 ∧ x1 ≤ 9
      · by_cases c2 : 0 ≤ x2 ∧ x2 ≤ 9
        · rw [if_pos c1, if_pos c2, if_pos (Classical.not_not.mp (fun q => h1 ⟨c1, c2, q⟩))]
        · rw [if_pos c1, if_neg c2]
      · rw [if_neg c1]
    exact ⟨_, _, _, _, _, _, _, e1, e2, hR0⟩
set_option maxHeartbeats 4000000 in
theorem step_one (p2_matches : Int32) (p2_stakes : Int32) (p2_meetings : Int32) (p2_newsFirst : Int32) (p2_newsHour : Int32) (p2_acts : Int32) (p2_stories : Int32) (p2_signs : Int32) (p2_ruleMany : Int32) (p1_bets_count : Int32) (p1_bets_near : Int32) (p1_bets_times : Int32) (p1_bets_ties : Int32) (p1_clause_count : Int32) (p1_clause_heldCount : Int32) (p1_games_count : Int32) (p1_games_base : Int32) (p1_ranks_down : Int32) (p1_rumour_count : Int32) (p1_rumour_first : Int32) (p1_rumour_since : Int32) (p1_squad_acts : Int32) (p1_tales_count : Int32) (p2_actMatch : Nat → Int32) (p2_actPlayers : Nat → Int32) (p2_allMoves : Nat → Int32) (p2_cameFrom : Nat → Int32) (p2_debt : Nat → Int32) (p2_goals : Nat → Int32) (p2_guest : Nat → Int32) (p2_home : Nat → Int32) (p2_hour : Nat → Int32) (p2_lateMoves : Nat → Int32) (p2_look : Nat → Int32) (p2_mate : Nat → Int32) (p2_meetA : Nat → Int32) (p2_meetB : Nat → Int32) (p2_meetHour : Nat → Int32) (p2_ones : Nat → Int32) (p2_owner : Nat → Int32) (p2_prices : Nat → Int32) (p2_queue : Nat → Int32) (p2_referee : Nat → Int32) (p2_ruleSign : Nat → Int32) (p2_sign : Nat → Int32) (p2_skill : Nat → Int32) (p2_stakeEnd : Nat → Int32) (p2_stakeHand : Nat → Int32) (p2_stakeMatch : Nat → Int32) (p2_stakeMinute : Nat → Int32) (p2_stakeSum : Nat → Int32) (p2_storyFrom : Nat → Int32) (p2_storyPerson : Nat → Int32) (p2_storyPlace : Nat → Int32) (p2_storyTo : Nat → Int32) (p2_taken : Nat → Int32) (p2_told : Nat → Int32) (p1_bets_end : Nat → Int32) (p1_bets_groups : Nat → Int32) (p1_bets_hand : Nat → Int32) (p1_bets_match : Nat → Int32) (p1_bets_minute : Nat → Int32) (p1_bets_partner : Nat → Int32) (p1_bets_reachedFrom : Nat → Int32) (p1_bets_sum : Nat → Int32) (p1_bets_waiting : Nat → Int32) (p1_clause_held : Nat → Int32) (p1_clause_signs : Nat → Int32) (p1_games_fee : Nat → Int32) (p1_games_goals : Nat → Int32) (p1_games_guest : Nat → Int32) (p1_games_home : Nat → Int32) (p1_games_hour : Nat → Int32) (p1_games_prices : Nat → Int32) (p1_games_referee : Nat → Int32) (p1_games_skills : Nat → Int32) (p1_ranks_taken : Nat → Int32) (p1_rumour_hour : Nat → Int32) (p1_rumour_one : Nat → Int32) (p1_rumour_other : Nat → Int32) (p1_rumour_owner : Nat → Int32) (p1_squad_actMatch : Nat → Int32) (p1_squad_actPlayers : Nat → Int32) (p1_squad_debts : Nat → Int32) (p1_squad_lateMoves : Nat → Int32) (p1_squad_moves : Nat → Int32) (p1_tales_against : Nat → Int32) (p1_tales_from : Nat → Int32) (p1_tales_person : Nat → Int32) (p1_tales_place : Nat → Int32) (p1_tales_to : Nat → Int32) (hR : Rel p1_games_count p1_games_base p1_games_skills p1_games_home p1_games_guest p1_games_referee p1_games_hour p1_games_fee p1_games_goals p1_games_prices p1_bets_count p1_bets_near p1_bets_times p1_bets_ties p1_bets_hand p1_bets_match p1_bets_end p1_bets_minute p1_bets_sum p1_rumour_count p1_rumour_one p1_rumour_other p1_rumour_hour p1_rumour_owner p1_rumour_first p1_rumour_since p1_squad_moves p1_squad_lateMoves p1_squad_debts p1_squad_acts p1_squad_actMatch p1_squad_actPlayers p1_tales_count p1_tales_person p1_tales_place p1_tales_from p1_tales_to p1_tales_against p1_ranks_down p1_ranks_taken p1_clause_count p1_clause_signs p1_clause_heldCount p1_clause_held p2_matches p2_skill p2_home p2_guest p2_referee p2_hour p2_look p2_goals p2_prices p2_told p2_stakes p2_stakeHand p2_stakeMatch p2_stakeEnd p2_stakeMinute p2_stakeSum p2_meetings p2_meetA p2_meetB p2_meetHour p2_owner p2_newsFirst p2_newsHour p2_allMoves p2_lateMoves p2_debt p2_acts p2_actMatch p2_actPlayers p2_stories p2_storyPerson p2_storyPlace p2_storyFrom p2_storyTo p2_taken p2_signs p2_sign p2_ruleMany p2_ruleSign) (x1 : Int32) : ∃ (r : Int32) (z0 : Nat → Int32) (z1 : Nat → Int32) (z2 : Nat → Int32) (z3 : Nat → Int32) (y0 : Nat → Int32) (y1 : Nat → Int32) (y2 : Nat → Int32) (y3 : Nat → Int32), t_X10_one p1_bets_count p1_bets_near p1_bets_times p1_bets_ties p1_bets_end p1_bets_groups p1_bets_hand p1_bets_match p1_bets_minute p1_bets_partner p1_bets_reachedFrom p1_bets_sum p1_bets_waiting x1 = some (r, z0, z1, z2, z3) ∧ t_X11_one p2_stakes p2_cameFrom p2_mate p2_ones p2_queue p2_stakeEnd p2_stakeHand p2_stakeMatch p2_stakeMinute p2_stakeSum p2_told x1 = some (r, y0, y1, y2, y3) ∧ Rel p1_games_count p1_games_base p1_games_skills p1_games_home p1_games_guest p1_games_referee p1_games_hour p1_games_fee p1_games_goals p1_games_prices p1_bets_count p1_bets_near p1_bets_times p1_bets_ties p1_bets_hand p1_bets_match p1_bets_end p1_bets_minute p1_bets_sum p1_rumour_count p1_rumour_one p1_rumour_other p1_rumour_hour p1_rumour_owner p1_rumour_first p1_rumour_since p1_squad_moves p1_squad_lateMoves p1_squad_debts p1_squad_acts p1_squad_actMatch p1_squad_actPlayers p1_tales_count p1_tales_person p1_tales_place p1_tales_from p1_tales_to p1_tales_against p1_ranks_down p1_ranks_taken p1_clause_count p1_clause_signs p1_clause_heldCount p1_clause_held p2_matches p2_skill p2_home p2_guest p2_referee p2_hour p2_look p2_goals p2_prices p2_told p2_stakes p2_stakeHand p2_stakeMatch p2_stakeEnd p2_stakeMinute p2_stakeSum p2_meetings p2_meetA p2_meetB p2_meetHour p2_owner p2_newsFirst p2_newsHour p2_allMoves p2_lateMoves p2_debt p2_acts p2_actMatch p2_actPlayers p2_stories p2_storyPerson p2_storyPlace p2_storyFrom p2_storyTo p2_taken p2_signs p2_sign p2_ruleMany p2_ruleSign := by
  have hR0 := hR
  obtain ⟨n, ns, nt, na, ny, ng, nh, hG, hB, hM, hO, hQ, hT, hK, hC, h0⟩ := hR
  obtain ⟨b1, b2, b3, b4, b5, b6, b7, b8, b9, b10, b11, k1, k2, k3, k4, k5, k6, k7, k8⟩ := id hB
  subst b2 b3
  have k1 := k1.symm
  have k2 := k2.symm
  have k3 := k3.symm
  have k4 := k4.symm
  have k5 := k5.symm
  subst k1 k2 k3 k4 k5
  obtain ⟨tn, tn1, tn2, et⟩ := b6
  subst et
  have D : SD ns p1_bets_near p1_bets_times p1_bets_minute p1_bets_sum := ⟨b1, b4, b5, b10, b11⟩
  obtain ⟨mx, hX⟩ := mx_ex p1_bets_hand p1_bets_match p1_bets_end D
  by_cases h1 : 0 ≤ x1 ∧ x1 ≤ 9
  · obtain ⟨h, hh, rfl⟩ := rgo 9 rfl h1
    obtain ⟨⟨g0, z1, z2, z3⟩, ev1, hv1⟩ := groupHands_ok (tn := tn) b1 tn2 hX p1_bets_groups p1_bets_partner p1_bets_reachedFrom p1_bets_waiting
    obtain ⟨⟨y0, y1, o2, y3⟩, ev2, hv2⟩ := layOnes_ok b1 tn2 hX k6 k7 k8 p2_ones p2_mate p2_cameFrom p2_queue
    simp only at hv1 hv2
    have e := hv1.eq hv2 (i := h) (by omega)
    have e1 : t_X10_one (nI ns) p1_bets_near p1_bets_times (nI tn) p1_bets_end p1_bets_groups p1_bets_hand p1_bets_match p1_bets_minute p1_bets_partner p1_bets_reachedFrom p1_bets_sum p1_bets_waiting (nI h) = some (g0 h, g0, z1, z2, z3) := by
      simp only [t_X10_one, isHand_ok, bd1_s, if_pos h1, n10, ↓reduceIte, ev1, bd4_s, nI_clamp (show h < 2 ^ 31 by omega), ckn_m (show h < 10 by omega) (by decide)]
    have e2 : t_X11_one (nI ns) p2_cameFrom p2_mate p2_ones p2_queue p1_bets_end p1_bets_hand p1_bets_match p1_bets_minute p1_bets_sum p2_told (nI h) = some (g0 h, y0, y1, o2, y3) := by
      simp only [t_X11_one, isTen_ok, bd1_s, if_pos h1, n10, ↓reduceIte, ev2, bd4_s, nI_clamp (show h < 2 ^ 31 by omega), ckn_m (show h < 10 by omega) (by decide), e]
    exact ⟨_, _, _, _, _, _, _, _, _, e1, e2, hR0⟩
  · have e1 : t_X10_one (nI ns) p1_bets_near p1_bets_times (nI tn) p1_bets_end p1_bets_groups p1_bets_hand p1_bets_match p1_bets_minute p1_bets_partner p1_bets_reachedFrom p1_bets_sum p1_bets_waiting x1 = some (-1, p1_bets_groups, p1_bets_partner, p1_bets_reachedFrom, p1_bets_waiting) := by
      simp only [t_X10_one, isHand_ok, bd1_s, if_neg h1, ↓reduceIte]
    have e2 : t_X11_one (nI ns) p2_cameFrom p2_mate p2_ones p2_queue p1_bets_end p1_bets_hand p1_bets_match p1_bets_minute p1_bets_sum p2_told x1 = some (-1, p2_cameFrom, p2_mate, p2_ones, p2_queue) := by
      simp only [t_X11_one, isTen_ok, bd1_s, if_neg h1, ↓reduceIte]
    exact ⟨_, _, _, _, _, _, _, _, _, e1, e2, hR0⟩
set_option maxHeartbeats 4000000 in
theorem step_joined (p2_matches : Int32) (p2_stakes : Int32) (p2_meetings : Int32) (p2_newsFirst : Int32) (p2_newsHour : Int32) (p2_acts : Int32) (p2_stories : Int32) (p2_signs : Int32) (p2_ruleMany : Int32) (p1_bets_count : Int32) (p1_bets_near : Int32) (p1_bets_times : Int32) (p1_bets_ties : Int32) (p1_clause_count : Int32) (p1_clause_heldCount : Int32) (p1_games_count : Int32) (p1_games_base : Int32) (p1_links_size : Int32) (p1_ranks_down : Int32) (p1_rumour_count : Int32) (p1_rumour_first : Int32) (p1_rumour_since : Int32) (p1_squad_acts : Int32) (p1_tales_count : Int32) (p2_actMatch : Nat → Int32) (p2_actPlayers : Nat → Int32) (p2_allMoves : Nat → Int32) (p2_cameFrom : Nat → Int32) (p2_debt : Nat → Int32) (p2_goals : Nat → Int32) (p2_guest : Nat → Int32) (p2_handsOn : Nat → Int32) (p2_home : Nat → Int32) (p2_hour : Nat → Int32) (p2_lateMoves : Nat → Int32) (p2_look : Nat → Int32) (p2_mate : Nat → Int32) (p2_meetA : Nat → Int32) (p2_meetB : Nat → Int32) (p2_meetHour : Nat → Int32) (p2_ones : Nat → Int32) (p2_owner : Nat → Int32) (p2_prices : Nat → Int32) (p2_queue : Nat → Int32) (p2_referee : Nat → Int32) (p2_ruleSign : Nat → Int32) (p2_sign : Nat → Int32) (p2_skill : Nat → Int32) (p2_stakeEnd : Nat → Int32) (p2_stakeHand : Nat → Int32) (p2_stakeMatch : Nat → Int32) (p2_stakeMinute : Nat → Int32) (p2_stakeSum : Nat → Int32) (p2_storyFrom : Nat → Int32) (p2_storyPerson : Nat → Int32) (p2_storyPlace : Nat → Int32) (p2_storyTo : Nat → Int32) (p2_taken : Nat → Int32) (p2_told : Nat → Int32) (p1_bets_end : Nat → Int32) (p1_bets_groups : Nat → Int32) (p1_bets_hand : Nat → Int32) (p1_bets_match : Nat → Int32) (p1_bets_minute : Nat → Int32) (p1_bets_partner : Nat → Int32) (p1_bets_reachedFrom : Nat → Int32) (p1_bets_sum : Nat → Int32) (p1_bets_waiting : Nat → Int32) (p1_clause_held : Nat → Int32) (p1_clause_signs : Nat → Int32) (p1_games_fee : Nat → Int32) (p1_games_goals : Nat → Int32) (p1_games_guest : Nat → Int32) (p1_games_home : Nat → Int32) (p1_games_hour : Nat → Int32) (p1_games_prices : Nat → Int32) (p1_games_referee : Nat → Int32) (p1_games_skills : Nat → Int32) (p1_links_reach : Nat → Int32) (p1_links_rows : Nat → Int32) (p1_ranks_taken : Nat → Int32) (p1_rumour_hour : Nat → Int32) (p1_rumour_one : Nat → Int32) (p1_rumour_other : Nat → Int32) (p1_rumour_owner : Nat → Int32) (p1_squad_actMatch : Nat → Int32) (p1_squad_actPlayers : Nat → Int32) (p1_squad_debts : Nat → Int32) (p1_squad_lateMoves : Nat → Int32) (p1_squad_moves : Nat → Int32) (p1_tales_against : Nat → Int32) (p1_tales_from : Nat → Int32) (p1_tales_person : Nat → Int32) (p1_tales_place : Nat → Int32) (p1_tales_to : Nat → Int32) (hR : Rel p1_games_count p1_games_base p1_games_skills p1_games_home p1_games_guest p1_games_referee p1_games_hour p1_games_fee p1_games_goals p1_games_prices p1_bets_count p1_bets_near p1_bets_times p1_bets_ties p1_bets_hand p1_bets_match p1_bets_end p1_bets_minute p1_bets_sum p1_rumour_count p1_rumour_one p1_rumour_other p1_rumour_hour p1_rumour_owner p1_rumour_first p1_rumour_since p1_squad_moves p1_squad_lateMoves p1_squad_debts p1_squad_acts p1_squad_actMatch p1_squad_actPlayers p1_tales_count p1_tales_person p1_tales_place p1_tales_from p1_tales_to p1_tales_against p1_ranks_down p1_ranks_taken p1_clause_count p1_clause_signs p1_clause_heldCount p1_clause_held p2_matches p2_skill p2_home p2_guest p2_referee p2_hour p2_look p2_goals p2_prices p2_told p2_stakes p2_stakeHand p2_stakeMatch p2_stakeEnd p2_stakeMinute p2_stakeSum p2_meetings p2_meetA p2_meetB p2_meetHour p2_owner p2_newsFirst p2_newsHour p2_allMoves p2_lateMoves p2_debt p2_acts p2_actMatch p2_actPlayers p2_stories p2_storyPerson p2_storyPlace p2_storyFrom p2_storyTo p2_taken p2_signs p2_sign p2_ruleMany p2_ruleSign) (x1 x2 : Int32) : ∃ (r : Int32) (z0 : Int32) (z1 : Nat → Int32) (z2 : Nat → Int32) (z3 : Nat → Int32) (z4 : Nat → Int32) (z5 : Nat → Int32) (z6 : Nat → Int32) (y0 : Nat → Int32) (y1 : Nat → Int32) (y2 : Nat → Int32) (y3 : Nat → Int32) (y4 : Nat → Int32), t_X10_joined p1_bets_count p1_bets_near p1_bets_times p1_bets_ties p1_games_count p1_links_size p1_bets_end p1_bets_groups p1_bets_hand p1_bets_match p1_bets_minute p1_bets_partner p1_bets_reachedFrom p1_bets_sum p1_bets_waiting p1_games_referee p1_links_reach p1_links_rows x1 x2 = some (r, z0, z1, z2, z3, z4, z5, z6) ∧ t_X11_joined p2_matches p2_stakes p2_cameFrom p2_handsOn p2_mate p2_ones p2_queue p2_referee p2_stakeEnd p2_stakeHand p2_stakeMatch p2_stakeMinute p2_stakeSum p2_told x1 x2 = some (r, y0, y1, y2, y3, y4) ∧ Rel p1_games_count p1_games_base p1_games_skills p1_games_home p1_games_guest p1_games_referee p1_games_hour p1_games_fee p1_games_goals p1_games_prices p1_bets_count p1_bets_near p1_bets_times p1_bets_ties p1_bets_hand p1_bets_match p1_bets_end p1_bets_minute p1_bets_sum p1_rumour_count p1_rumour_one p1_rumour_other p1_rumour_hour p1_rumour_owner p1_rumour_first p1_rumour_since p1_squad_moves p1_squad_lateMoves p1_squad_debts p1_squad_acts p1_squad_actMatch p1_squad_actPlayers p1_tales_count p1_tales_person p1_tales_place p1_tales_from p1_tales_to p1_tales_against p1_ranks_down p1_ranks_taken p1_clause_count p1_clause_signs p1_clause_heldCount p1_clause_held p2_matches p2_skill p2_home p2_guest p2_referee p2_hour p2_look p2_goals p2_prices p2_told p2_stakes p2_stakeHand p2_stakeMatch p2_stakeEnd p2_stakeMinute p2_stakeSum p2_meetings p2_meetA p2_meetB p2_meetHour p2_owner p2_newsFirst p2_newsHour p2_allMoves p2_lateMoves p2_debt p2_acts p2_actMatch p2_actPlayers p2_stories p2_storyPerson p2_storyPlace p2_storyFrom p2_storyTo p2_taken p2_signs p2_sign p2_ruleMany p2_ruleSign := by
  have hR0 := hR
  obtain ⟨n, ns, nt, na, ny, ng, nh, hG, hB, hM, hO, hQ, hT, hK, hC, h0⟩ := hR
  obtain ⟨g1, g2, g3, g4, g5, g6, g7, g8, g9, g10, g11, g12, g13, f1, f2, f3, f4, f5, f6, f7, f8, f9⟩ := id hG
  subst g2 g3
  have f1 := f1.symm
  have f2 := f2.symm
  have f3 := f3.symm
  have f4 := f4.symm
  have f5 := f5.symm
  have f6 := f6.symm
  have f7 := f7.symm
  subst f1 f2 f3 f4 f5 f6 f7
  obtain ⟨b1, b2, b3, b4, b5, b6, b7, b8, b9, b10, b11, k1, k2, k3, k4, k5, k6, k7, k8⟩ := id hB
  subst b2 b3
  have k1 := k1.symm
  have k2 := k2.symm
  have k3 := k3.symm
  have k4 := k4.symm
  have k5 := k5.symm
  subst k1 k2 k3 k4 k5
  obtain ⟨tn, tn1, tn2, et⟩ := b6
  subst et
  have D : SD ns p1_bets_near p1_bets_times p1_bets_minute p1_bets_sum := ⟨b1, b4, b5, b10, b11⟩
  obtain ⟨mx, hX⟩ := mx_ex p1_bets_hand p1_bets_match p1_bets_end D
  obtain ⟨⟨sz, z1, z2, z3, z4, re, ro⟩, ev1, hsz, hro⟩ := build_ok g1 b1 tn2 hX b7 p1_links_size p1_games_referee p1_bets_groups p1_bets_partner p1_bets_reachedFrom p1_bets_waiting p1_links_reach p1_links_rows
  obtain ⟨⟨y0, ho, y2, y3, y4⟩, ev2, hho, -⟩ := layHands_ok g1 b1 tn2 hX k6 k7 k8 b7 b8 p2_ones p2_mate p2_cameFrom p2_queue p2_handsOn
  simp only at hsz hro hho
  subst hsz
  by_cases h1 : 0 ≤ x1 ∧ x1 < nI n
  · by_cases h2 : 0 ≤ x2 ∧ x2 < nI n
    · obtain ⟨a, ha, rfl⟩ := rgm (by omega) h1
      obtain ⟨b, hb, rfl⟩ := rgm (by omega) h2
      obtain ⟨u, eu, hu⟩ := areLinked_ok g1 hro ha hb
      obtain ⟨w, ew, hw⟩ := areJoined_ok (referee := p1_games_referee) g1 hho ha hb
      have e := hu.uniq hw
      subst e
      have e1 : t_X10_joined (nI ns) p1_bets_near p1_bets_times (nI tn) (nI n) p1_links_size p1_bets_end p1_bets_groups p1_bets_hand p1_bets_match p1_bets_minute p1_bets_partner p1_bets_reachedFrom p1_bets_sum p1_bets_waiting p1_games_referee p1_links_reach p1_links_rows (nI a) (nI b) = some (u, nI n, z1, z2, z3, z4, re, ro) := by
        simp only [t_X10_joined, has_ok g1, bd1_s, if_pos h1, if_pos h2, n10, ↓reduceIte, ev1, bd7_s, eu, asNb hu]
      have e2 : t_X11_joined (nI n) (nI ns) p2_cameFrom p2_handsOn p2_mate p2_ones p2_queue p1_games_referee p1_bets_end p1_bets_hand p1_bets_match p1_bets_minute p1_bets_sum p2_told (nI a) (nI b) = some (u, y0, ho, y2, y3, y4) := by
        simp only [t_X11_joined, t_X11_joined_36, isMatch_ok g1, bd1_s, if_pos h1, if_pos h2, n10, ↓reduceIte, ev2, bd5_s, ew]
        rcases hu with ⟨rfl, _⟩ | ⟨rfl, _⟩ <;> rfl
      exact ⟨_, _, _, _, _, _, _, _, _, _, _, _, _, e1, e2, hR0⟩
    · have e1 : t_X10_joined (nI ns) p1_bets_near p1_bets_times (nI tn) (nI n) p1_links_size p1_bets_end p1_bets_groups p1_bets_hand p1_bets_match p1_bets_minute p1_bets_partner p1_bets_reachedFrom p1_bets_sum p1_bets_waiting p1_games_referee p1_links_reach p1_links_rows x1 x2 = some (-1, p1_links_size, p1_bets_groups, p1_bets_partner, p1_bets_reachedFrom, p1_bets_waiting, p1_links_reach, p1_links_rows) := by
        simp only [t_X10_joined, has_ok g1, bd1_s, if_pos h1, if_neg h2, n10, ↓reduceIte]
      have e2 : t_X11_joined (nI n) (nI ns) p2_cameFrom p2_handsOn p2_mate p2_ones p2_queue p1_games_referee p1_bets_end p1_bets_hand p1_bets_match p1_bets_minute p1_bets_sum p2_told x1 x2 = some (-1, p2_cameFrom, p2_handsOn, p2_mate, p2_ones, p2_queue) := by
        simp only [t_X11_joined, isMatch_ok g1, bd1_s, if_pos h1, if_neg h2, n10, ↓reduceIte]
      exact ⟨_, _, _, _, _, _, _, _, _, _, _, _, _, e1, e2, hR0⟩
  · have e1 : t_X10_joined (nI ns) p1_bets_near p1_bets_times (nI tn) (nI n) p1_links_size p1_bets_end p1_bets_groups p1_bets_hand p1_bets_match p1_bets_minute p1_bets_partner p1_bets_reachedFrom p1_bets_sum p1_bets_waiting p1_games_referee p1_links_reach p1_links_rows x1 x2 = some (-1, p1_links_size, p1_bets_groups, p1_bets_partner, p1_bets_reachedFrom, p1_bets_waiting, p1_links_reach, p1_links_rows) := by
      simp only [t_X10_joined, has_ok g1, bd1_s, if_neg h1, ↓reduceIte]
    have e2 : t_X11_joined (nI n) (nI ns) p2_cameFrom p2_handsOn p2_mate p2_ones p2_queue p1_games_referee p1_bets_end p1_bets_hand p1_bets_match p1_bets_minute p1_bets_sum p2_told x1 x2 = some (-1, p2_cameFrom, p2_handsOn, p2_mate, p2_ones, p2_queue) := by
      simp only [t_X11_joined, isMatch_ok g1, bd1_s, if_neg h1, ↓reduceIte]
    exact ⟨_, _, _, _, _, _, _, _, _, _, _, _, _, e1, e2, hR0⟩
set_option maxHeartbeats 4000000 in
theorem step_ring (p2_matches : Int32) (p2_stakes : Int32) (p2_meetings : Int32) (p2_newsFirst : Int32) (p2_newsHour : Int32) (p2_acts : Int32) (p2_stories : Int32) (p2_signs : Int32) (p2_ruleMany : Int32) (p1_bets_count : Int32) (p1_bets_near : Int32) (p1_bets_times : Int32) (p1_bets_ties : Int32) (p1_clause_count : Int32) (p1_clause_heldCount : Int32) (p1_games_count : Int32) (p1_games_base : Int32) (p1_links_size : Int32) (p1_ranks_down : Int32) (p1_rumour_count : Int32) (p1_rumour_first : Int32) (p1_rumour_since : Int32) (p1_squad_acts : Int32) (p1_tales_count : Int32) (p2_actMatch : Nat → Int32) (p2_actPlayers : Nat → Int32) (p2_allMoves : Nat → Int32) (p2_cameFrom : Nat → Int32) (p2_debt : Nat → Int32) (p2_goals : Nat → Int32) (p2_guest : Nat → Int32) (p2_handsOn : Nat → Int32) (p2_home : Nat → Int32) (p2_hour : Nat → Int32) (p2_lateMoves : Nat → Int32) (p2_look : Nat → Int32) (p2_mate : Nat → Int32) (p2_meetA : Nat → Int32) (p2_meetB : Nat → Int32) (p2_meetHour : Nat → Int32) (p2_ones : Nat → Int32) (p2_owner : Nat → Int32) (p2_prices : Nat → Int32) (p2_queue : Nat → Int32) (p2_referee : Nat → Int32) (p2_ruleSign : Nat → Int32) (p2_sign : Nat → Int32) (p2_skill : Nat → Int32) (p2_stakeEnd : Nat → Int32) (p2_stakeHand : Nat → Int32) (p2_stakeMatch : Nat → Int32) (p2_stakeMinute : Nat → Int32) (p2_stakeSum : Nat → Int32) (p2_storyFrom : Nat → Int32) (p2_storyPerson : Nat → Int32) (p2_storyPlace : Nat → Int32) (p2_storyTo : Nat → Int32) (p2_taken : Nat → Int32) (p2_told : Nat → Int32) (p1_bets_end : Nat → Int32) (p1_bets_groups : Nat → Int32) (p1_bets_hand : Nat → Int32) (p1_bets_match : Nat → Int32) (p1_bets_minute : Nat → Int32) (p1_bets_partner : Nat → Int32) (p1_bets_reachedFrom : Nat → Int32) (p1_bets_sum : Nat → Int32) (p1_bets_waiting : Nat → Int32) (p1_clause_held : Nat → Int32) (p1_clause_signs : Nat → Int32) (p1_games_fee : Nat → Int32) (p1_games_goals : Nat → Int32) (p1_games_guest : Nat → Int32) (p1_games_home : Nat → Int32) (p1_games_hour : Nat → Int32) (p1_games_prices : Nat → Int32) (p1_games_referee : Nat → Int32) (p1_games_skills : Nat → Int32) (p1_links_reach : Nat → Int32) (p1_links_rows : Nat → Int32) (p1_ranks_taken : Nat → Int32) (p1_rumour_hour : Nat → Int32) (p1_rumour_one : Nat → Int32) (p1_rumour_other : Nat → Int32) (p1_rumour_owner : Nat → Int32) (p1_squad_actMatch : Nat → Int32) (p1_squad_actPlayers : Nat → Int32) (p1_squad_debts : Nat → Int32) (p1_squad_lateMoves : Nat → Int32) (p1_squad_moves : Nat → Int32) (p1_tales_against : Nat → Int32) (p1_tales_from : Nat → Int32) (p1_tales_person : Nat → Int32) (p1_tales_place : Nat → Int32) (p1_tales_to : Nat → Int32) (hR : Rel p1_games_count p1_games_base p1_games_skills p1_games_home p1_games_guest p1_games_referee p1_games_hour p1_games_fee p1_games_goals p1_games_prices p1_bets_count p1_bets_near p1_bets_times p1_bets_ties p1_bets_hand p1_bets_match p1_bets_end p1_bets_minute p1_bets_sum p1_rumour_count p1_rumour_one p1_rumour_other p1_rumour_hour p1_rumour_owner p1_rumour_first p1_rumour_since p1_squad_moves p1_squad_lateMoves p1_squad_debts p1_squad_acts p1_squad_actMatch p1_squad_actPlayers p1_tales_count p1_tales_person p1_tales_place p1_tales_from p1_tales_to p1_tales_against p1_ranks_down p1_ranks_taken p1_clause_count p1_clause_signs p1_clause_heldCount p1_clause_held p2_matches p2_skill p2_home p2_guest p2_referee p2_hour p2_look p2_goals p2_prices p2_told p2_stakes p2_stakeHand p2_stakeMatch p2_stakeEnd p2_stakeMinute p2_stakeSum p2_meetings p2_meetA p2_meetB p2_meetHour p2_owner p2_newsFirst p2_newsHour p2_allMoves p2_lateMoves p2_debt p2_acts p2_actMatch p2_actPlayers p2_stories p2_storyPerson p2_storyPlace p2_storyFrom p2_storyTo p2_taken p2_signs p2_sign p2_ruleMany p2_ruleSign) (x1 : Int32) : ∃ (r : Int32) (z0 : Int32) (z1 : Nat → Int32) (z2 : Nat → Int32) (z3 : Nat → Int32) (z4 : Nat → Int32) (z5 : Nat → Int32) (z6 : Nat → Int32) (y0 : Nat → Int32) (y1 : Nat → Int32) (y2 : Nat → Int32) (y3 : Nat → Int32) (y4 : Nat → Int32), t_X10_ring p1_bets_count p1_bets_near p1_bets_times p1_bets_ties p1_games_count p1_links_size p1_bets_end p1_bets_groups p1_bets_hand p1_bets_match p1_bets_minute p1_bets_partner p1_bets_reachedFrom p1_bets_sum p1_bets_waiting p1_games_referee p1_links_reach p1_links_rows x1 = some (r, z0, z1, z2, z3, z4, z5, z6) ∧ t_X11_ring p2_matches p2_stakes p2_cameFrom p2_handsOn p2_mate p2_ones p2_queue p2_referee p2_stakeEnd p2_stakeHand p2_stakeMatch p2_stakeMinute p2_stakeSum p2_told x1 = some (r, y0, y1, y2, y3, y4) ∧ Rel p1_games_count p1_games_base p1_games_skills p1_games_home p1_games_guest p1_games_referee p1_games_hour p1_games_fee p1_games_goals p1_games_prices p1_bets_count p1_bets_near p1_bets_times p1_bets_ties p1_bets_hand p1_bets_match p1_bets_end p1_bets_minute p1_bets_sum p1_rumour_count p1_rumour_one p1_rumour_other p1_rumour_hour p1_rumour_owner p1_rumour_first p1_rumour_since p1_squad_moves p1_squad_lateMoves p1_squad_debts p1_squad_acts p1_squad_actMatch p1_squad_actPlayers p1_tales_count p1_tales_person p1_tales_place p1_tales_from p1_tales_to p1_tales_against p1_ranks_down p1_ranks_taken p1_clause_count p1_clause_signs p1_clause_heldCount p1_clause_held p2_matches p2_skill p2_home p2_guest p2_referee p2_hour p2_look p2_goals p2_prices p2_told p2_stakes p2_stakeHand p2_stakeMatch p2_stakeEnd p2_stakeMinute p2_stakeSum p2_meetings p2_meetA p2_meetB p2_meetHour p2_owner p2_newsFirst p2_newsHour p2_allMoves p2_lateMoves p2_debt p2_acts p2_actMatch p2_actPlayers p2_stories p2_storyPerson p2_storyPlace p2_storyFrom p2_storyTo p2_taken p2_signs p2_sign p2_ruleMany p2_ruleSign := by
  have hR0 := hR
  obtain ⟨n, ns, nt, na, ny, ng, nh, hG, hB, hM, hO, hQ, hT, hK, hC, h0⟩ := hR
  obtain ⟨g1, g2, g3, g4, g5, g6, g7, g8, g9, g10, g11, g12, g13, f1, f2, f3, f4, f5, f6, f7, f8, f9⟩ := id hG
  subst g2 g3
  have f1 := f1.symm
  have f2 := f2.symm
  have f3 := f3.symm
  have f4 := f4.symm
  have f5 := f5.symm
  have f6 := f6.symm
  have f7 := f7.symm
  subst f1 f2 f3 f4 f5 f6 f7
  obtain ⟨b1, b2, b3, b4, b5, b6, b7, b8, b9, b10, b11, k1, k2, k3, k4, k5, k6, k7, k8⟩ := id hB
  subst b2 b3
  have k1 := k1.symm
  have k2 := k2.symm
  have k3 := k3.symm
  have k4 := k4.symm
  have k5 := k5.symm
  subst k1 k2 k3 k4 k5
  obtain ⟨tn, tn1, tn2, et⟩ := b6
  subst et
  have D : SD ns p1_bets_near p1_bets_times p1_bets_minute p1_bets_sum := ⟨b1, b4, b5, b10, b11⟩
  obtain ⟨mx, hX⟩ := mx_ex p1_bets_hand p1_bets_match p1_bets_end D
  obtain ⟨⟨sz, z1, z2, z3, z4, re, ro⟩, ev1, hsz, hro⟩ := build_ok g1 b1 tn2 hX b7 p1_links_size p1_games_referee p1_bets_groups p1_bets_partner p1_bets_reachedFrom p1_bets_waiting p1_links_reach p1_links_rows
  obtain ⟨⟨y0, ho, y2, y3, y4⟩, ev2, hho, -⟩ := layHands_ok g1 b1 tn2 hX k6 k7 k8 b7 b8 p2_ones p2_mate p2_cameFrom p2_queue p2_handsOn
  simp only at hsz hro hho
  subst hsz
  by_cases h1 : 0 ≤ x1 ∧ x1 < nI n
  · obtain ⟨a, ha, rfl⟩ := rgm (by omega) h1
    obtain ⟨u, eu, hu⟩ := close_ok g1 (fun i _ => Or.inl rfl) hro
    obtain ⟨w, ew, l, w1, w2, w3⟩ := ringOf_ok (referee := p1_games_referee) (R := Jn p1_games_referee (Hd ns p1_bets_hand p1_bets_match (One mx tn))) g1 hho ha (-6) (-6) (fun x y hx hy => ⟨fun q => ⟨q, fun c => nI_m6 (t := x) (by omega) (c.elim (fun c => c.1) (fun c => c.1))⟩, fun q => q.1⟩)
    obtain ⟨k, q1, q2, q3⟩ := hu a ha
    have e : l = k := bits_eq w1 q1 w3 q3
    subst e w2
    have e1 : t_X10_ring (nI ns) p1_bets_near p1_bets_times (nI tn) (nI n) p1_links_size p1_bets_end p1_bets_groups p1_bets_hand p1_bets_match p1_bets_minute p1_bets_partner p1_bets_reachedFrom p1_bets_sum p1_bets_waiting p1_games_referee p1_links_reach p1_links_rows (nI a) = some (nI l, nI n, z1, z2, z3, z4, re, u) := by
      simp only [t_X10_ring, has_ok g1, bd1_s, if_pos h1, n10, ↓reduceIte, ev1, bd7_s, eu, nI_clamp (show a < 2 ^ 31 by omega), ckn_m (show a < 12 by omega) (by decide), q2]
    have e2 : t_X11_ring (nI n) (nI ns) p2_cameFrom p2_handsOn p2_mate p2_ones p2_queue p1_games_referee p1_bets_end p1_bets_hand p1_bets_match p1_bets_minute p1_bets_sum p2_told (nI a) = some (nI l, y0, ho, y2, y3, y4) := by
      simp only [t_X11_ring, isMatch_ok g1, bd1_s, if_pos h1, n10, ↓reduceIte, ev2, bd5_s, ew]
    exact ⟨_, _, _, _, _, _, _, _, _, _, _, _, _, e1, e2, hR0⟩
  · have e1 : t_X10_ring (nI ns) p1_bets_near p1_bets_times (nI tn) (nI n) p1_links_size p1_bets_end p1_bets_groups p1_bets_hand p1_bets_match p1_bets_minute p1_bets_partner p1_bets_reachedFrom p1_bets_sum p1_bets_waiting p1_games_referee p1_links_reach p1_links_rows x1 = some (-1, p1_links_size, p1_bets_groups, p1_bets_partner, p1_bets_reachedFrom, p1_bets_waiting, p1_links_reach, p1_links_rows) := by
      simp only [t_X10_ring, has_ok g1, bd1_s, if_neg h1, ↓reduceIte]
    have e2 : t_X11_ring (nI n) (nI ns) p2_cameFrom p2_handsOn p2_mate p2_ones p2_queue p1_games_referee p1_bets_end p1_bets_hand p1_bets_match p1_bets_minute p1_bets_sum p2_told x1 = some (-1, p2_cameFrom, p2_handsOn, p2_mate, p2_ones, p2_queue) := by
      simp only [t_X11_ring, isMatch_ok g1, bd1_s, if_neg h1, ↓reduceIte]
    exact ⟨_, _, _, _, _, _, _, _, _, _, _, _, _, e1, e2, hR0⟩
set_option maxHeartbeats 4000000 in
theorem step_holds (p2_matches : Int32) (p2_stakes : Int32) (p2_meetings : Int32) (p2_newsFirst : Int32) (p2_newsHour : Int32) (p2_acts : Int32) (p2_stories : Int32) (p2_signs : Int32) (p2_ruleMany : Int32) (p1_bets_count : Int32) (p1_bets_near : Int32) (p1_bets_times : Int32) (p1_bets_ties : Int32) (p1_clause_count : Int32) (p1_clause_heldCount : Int32) (p1_games_count : Int32) (p1_games_base : Int32) (p1_links_size : Int32) (p1_ranks_down : Int32) (p1_rumour_count : Int32) (p1_rumour_first : Int32) (p1_rumour_since : Int32) (p1_squad_acts : Int32) (p1_tales_count : Int32) (p2_actMatch : Nat → Int32) (p2_actPlayers : Nat → Int32) (p2_allMoves : Nat → Int32) (p2_cameFrom : Nat → Int32) (p2_debt : Nat → Int32) (p2_goals : Nat → Int32) (p2_guest : Nat → Int32) (p2_handsOn : Nat → Int32) (p2_home : Nat → Int32) (p2_hour : Nat → Int32) (p2_lateMoves : Nat → Int32) (p2_look : Nat → Int32) (p2_mate : Nat → Int32) (p2_meetA : Nat → Int32) (p2_meetB : Nat → Int32) (p2_meetHour : Nat → Int32) (p2_ones : Nat → Int32) (p2_owner : Nat → Int32) (p2_prices : Nat → Int32) (p2_queue : Nat → Int32) (p2_referee : Nat → Int32) (p2_ruleSign : Nat → Int32) (p2_sign : Nat → Int32) (p2_skill : Nat → Int32) (p2_stakeEnd : Nat → Int32) (p2_stakeHand : Nat → Int32) (p2_stakeMatch : Nat → Int32) (p2_stakeMinute : Nat → Int32) (p2_stakeSum : Nat → Int32) (p2_storyFrom : Nat → Int32) (p2_storyPerson : Nat → Int32) (p2_storyPlace : Nat → Int32) (p2_storyTo : Nat → Int32) (p2_taken : Nat → Int32) (p2_told : Nat → Int32) (p1_bets_end : Nat → Int32) (p1_bets_groups : Nat → Int32) (p1_bets_hand : Nat → Int32) (p1_bets_match : Nat → Int32) (p1_bets_minute : Nat → Int32) (p1_bets_partner : Nat → Int32) (p1_bets_reachedFrom : Nat → Int32) (p1_bets_sum : Nat → Int32) (p1_bets_waiting : Nat → Int32) (p1_clause_held : Nat → Int32) (p1_clause_signs : Nat → Int32) (p1_games_fee : Nat → Int32) (p1_games_goals : Nat → Int32) (p1_games_guest : Nat → Int32) (p1_games_home : Nat → Int32) (p1_games_hour : Nat → Int32) (p1_games_prices : Nat → Int32) (p1_games_referee : Nat → Int32) (p1_games_skills : Nat → Int32) (p1_links_reach : Nat → Int32) (p1_links_rows : Nat → Int32) (p1_ranks_taken : Nat → Int32) (p1_rumour_hour : Nat → Int32) (p1_rumour_one : Nat → Int32) (p1_rumour_other : Nat → Int32) (p1_rumour_owner : Nat → Int32) (p1_squad_actMatch : Nat → Int32) (p1_squad_actPlayers : Nat → Int32) (p1_squad_debts : Nat → Int32) (p1_squad_lateMoves : Nat → Int32) (p1_squad_moves : Nat → Int32) (p1_tales_against : Nat → Int32) (p1_tales_from : Nat → Int32) (p1_tales_person : Nat → Int32) (p1_tales_place : Nat → Int32) (p1_tales_to : Nat → Int32) (hR : Rel p1_games_count p1_games_base p1_games_skills p1_games_home p1_games_guest p1_games_referee p1_games_hour p1_games_fee p1_games_goals p1_games_prices p1_bets_count p1_bets_near p1_bets_times p1_bets_ties p1_bets_hand p1_bets_match p1_bets_end p1_bets_minute p1_bets_sum p1_rumour_count p1_rumour_one p1_rumour_other p1_rumour_hour p1_rumour_owner p1_rumour_first p1_rumour_since p1_squad_moves p1_squad_lateMoves p1_squad_debts p1_squad_acts p1_squad_actMatch p1_squad_actPlayers p1_tales_count p1_tales_person p1_tales_place p1_tales_from p1_tales_to p1_tales_against p1_ranks_down p1_ranks_taken p1_clause_count p1_clause_signs p1_clause_heldCount p1_clause_held p2_matches p2_skill p2_home p2_guest p2_referee p2_hour p2_look p2_goals p2_prices p2_told p2_stakes p2_stakeHand p2_stakeMatch p2_stakeEnd p2_stakeMinute p2_stakeSum p2_meetings p2_meetA p2_meetB p2_meetHour p2_owner p2_newsFirst p2_newsHour p2_allMoves p2_lateMoves p2_debt p2_acts p2_actMatch p2_actPlayers p2_stories p2_storyPerson p2_storyPlace p2_storyFrom p2_storyTo p2_taken p2_signs p2_sign p2_ruleMany p2_ruleSign) (x1 x2 : Int32) : ∃ (r : Int32) (z0 : Int32) (z1 : Nat → Int32) (z2 : Nat → Int32) (z3 : Nat → Int32) (z4 : Nat → Int32) (z5 : Nat → Int32) (z6 : Nat → Int32) (y0 : Nat → Int32) (y1 : Nat → Int32) (y2 : Nat → Int32) (y3 : Nat → Int32) (y4 : Nat → Int32), t_X10_holds p1_bets_count p1_bets_near p1_bets_times p1_bets_ties p1_games_count p1_links_size p1_bets_end p1_bets_groups p1_bets_hand p1_bets_match p1_bets_minute p1_bets_partner p1_bets_reachedFrom p1_bets_sum p1_bets_waiting p1_games_referee p1_links_reach p1_links_rows x1 x2 = some (r, z0, z1, z2, z3, z4, z5, z6) ∧ t_X11_holds p2_matches p2_stakes p2_cameFrom p2_handsOn p2_mate p2_ones p2_queue p2_referee p2_stakeEnd p2_stakeHand p2_stakeMatch p2_stakeMinute p2_stakeSum p2_told x1 x2 = some (r, y0, y1, y2, y3, y4) ∧ Rel p1_games_count p1_games_base p1_games_skills p1_games_home p1_games_guest p1_games_referee p1_games_hour p1_games_fee p1_games_goals p1_games_prices p1_bets_count p1_bets_near p1_bets_times p1_bets_ties p1_bets_hand p1_bets_match p1_bets_end p1_bets_minute p1_bets_sum p1_rumour_count p1_rumour_one p1_rumour_other p1_rumour_hour p1_rumour_owner p1_rumour_first p1_rumour_since p1_squad_moves p1_squad_lateMoves p1_squad_debts p1_squad_acts p1_squad_actMatch p1_squad_actPlayers p1_tales_count p1_tales_person p1_tales_place p1_tales_from p1_tales_to p1_tales_against p1_ranks_down p1_ranks_taken p1_clause_count p1_clause_signs p1_clause_heldCount p1_clause_held p2_matches p2_skill p2_home p2_guest p2_referee p2_hour p2_look p2_goals p2_prices p2_told p2_stakes p2_stakeHand p2_stakeMatch p2_stakeEnd p2_stakeMinute p2_stakeSum p2_meetings p2_meetA p2_meetB p2_meetHour p2_owner p2_newsFirst p2_newsHour p2_allMoves p2_lateMoves p2_debt p2_acts p2_actMatch p2_actPlayers p2_stories p2_storyPerson p2_storyPlace p2_storyFrom p2_storyTo p2_taken p2_signs p2_sign p2_ruleMany p2_ruleSign := by
  have hR0 := hR
  obtain ⟨n, ns, nt, na, ny, ng, nh, hG, hB, hM, hO, hQ, hT, hK, hC, h0⟩ := hR
  obtain ⟨g1, g2, g3, g4, g5, g6, g7, g8, g9, g10, g11, g12, g13, f1, f2, f3, f4, f5, f6, f7, f8, f9⟩ := id hG
  subst g2 g3
  have f1 := f1.symm
  have f2 := f2.symm
  have f3 := f3.symm
  have f4 := f4.symm
  have f5 := f5.symm
  have f6 := f6.symm
  have f7 := f7.symm
  subst f1 f2 f3 f4 f5 f6 f7
  obtain ⟨b1, b2, b3, b4, b5, b6, b7, b8, b9, b10, b11, k1, k2, k3, k4, k5, k6, k7, k8⟩ := id hB
  subst b2 b3
  have k1 := k1.symm
  have k2 := k2.symm
  have k3 := k3.symm
  have k4 := k4.symm
  have k5 := k5.symm
  subst k1 k2 k3 k4 k5
  obtain ⟨tn, tn1, tn2, et⟩ := b6
  subst et
  have D : SD ns p1_bets_near p1_bets_times p1_bets_minute p1_bets_sum := ⟨b1, b4, b5, b10, b11⟩
  obtain ⟨mx, hX⟩ := mx_ex p1_bets_hand p1_bets_match p1_bets_end D
  obtain ⟨⟨sz, z1, z2, z3, z4, re, ro⟩, ev1, hsz, hro⟩ := build_ok g1 b1 tn2 hX b7 p1_links_size p1_games_referee p1_bets_groups p1_bets_partner p1_bets_reachedFrom p1_bets_waiting p1_links_reach p1_links_rows
  obtain ⟨⟨y0, ho, y2, y3, y4⟩, ev2, hho, -⟩ := layHands_ok g1 b1 tn2 hX k6 k7 k8 b7 b8 p2_ones p2_mate p2_cameFrom p2_queue p2_handsOn
  simp only at hsz hro hho
  subst hsz
  have h12 := p12 g1
  by_cases h1 : 0 ≤ x1 ∧ x1 < nI n
  · by_cases h2 : 0 ≤ x2 ∧ x2 < nI n
    · obtain ⟨a, ha, rfl⟩ := rgm (by omega) h1
      obtain ⟨b, hb, rfl⟩ := rgm (by omega) h2
      obtain ⟨u, eu, hu⟩ := areLinked_ok g1 hro ha hb
      obtain ⟨w, ew, hw⟩ := areJoined_ok (referee := p1_games_referee) g1 hho ha hb
      have e := hu.uniq hw
      subst e
      by_cases c1 : u = 0
      · subst c1
        have e1 : t_X10_holds (nI ns) p1_bets_near p1_bets_times (nI tn) (nI n) p1_links_size p1_bets_end p1_bets_groups p1_bets_hand p1_bets_match p1_bets_minute p1_bets_partner p1_bets_reachedFrom p1_bets_sum p1_bets_waiting p1_games_referee p1_links_reach p1_links_rows (nI a) (nI b) = some (-5, nI n, z1, z2, z3, z4, re, ro) := by
          simp only [t_X10_holds, has_ok g1, bd1_s, if_pos h1, if_pos h2, n10, ↓reduceIte, ev1, bd7_s, eu]
        have e2 : t_X11_holds (nI n) (nI ns) p2_cameFrom p2_handsOn p2_mate p2_ones p2_queue p1_games_referee p1_bets_end p1_bets_hand p1_bets_match p1_bets_minute p1_bets_sum p2_told (nI a) (nI b) = some (-5, y0, ho, y2, y3, y4) := by
          simp only [t_X11_holds, isMatch_ok g1, bd1_s, if_pos h1, if_pos h2, n10, ↓reduceIte, ev2, bd5_s, ew]
        exact ⟨_, _, _, _, _, _, _, _, _, _, _, _, _, e1, e2, hR0⟩
      · by_cases c2 : a = b
        · subst c2
          have e1 : t_X10_holds (nI ns) p1_bets_near p1_bets_times (nI tn) (nI n) p1_links_size p1_bets_end p1_bets_groups p1_bets_hand p1_bets_match p1_bets_minute p1_bets_partner p1_bets_reachedFrom p1_bets_sum p1_bets_waiting p1_games_referee p1_links_reach p1_links_rows (nI a) (nI a) = some (0, nI n, z1, z2, z3, z4, re, ro) := by
            simp only [t_X10_holds, has_ok g1, bd1_s, if_pos h1, n10, if_neg c1, ↓reduceIte, ev1, bd7_s, eu]
          have e2 : t_X11_holds (nI n) (nI ns) p2_cameFrom p2_handsOn p2_mate p2_ones p2_queue p1_games_referee p1_bets_end p1_bets_hand p1_bets_match p1_bets_minute p1_bets_sum p2_told (nI a) (nI a) = some (0, y0, ho, y2, y3, y4) := by
            simp only [t_X11_holds, t_X11_holds_58, isMatch_ok g1, bd1_s, if_pos h1, n10, if_neg c1, ↓reduceIte, ev2, bd5_s, ew]
          exact ⟨_, _, _, _, _, _, _, _, _, _, _, _, _, e1, e2, hR0⟩
        · obtain ⟨r2, er2, hr2⟩ := cut_ok g1 hro ha hb c2
          obtain ⟨r3, er3, hr3⟩ := close_ok g1 (R := fun x y => Jn p1_games_referee (Hd ns p1_bets_hand p1_bets_match (One mx tn)) x y ∧ ¬ cutN a b x y) (fun i _ => ⟨Or.inl rfl, fun q => c2 (q.elim (fun q => q.1.symm.trans q.2) (fun q => q.2.symm.trans q.1))⟩) hr2
          obtain ⟨u2, eu2, hu2⟩ := areLinked_ok g1 hr3 ha hb
          obtain ⟨w2, ew2, l, l1, l2, l3⟩ := ringOf_ok (referee := p1_games_referee) (R := fun x y => Jn p1_games_referee (Hd ns p1_bets_hand p1_bets_match (One mx tn)) x y ∧ ¬ cutN a b x y) g1 hho ha (nI a) (nI b) (fun x y hx hy => by
            unfold cutN
            rw [nI_eq (by omega) (by omega), nI_eq (by omega) (by omega), nI_eq (by omega) (by omega), nI_eq (by omega) (by omega)])
          subst l2
          have hc := nI_ne (a := a) (b := b) (by omega) (by omega) c2
          have key : (nI l >>> (nI b &&& 31)) &&& 1 = 0 ↔ u2 = 0 := by
            rw [tb0 (by omega) (by omega), hu2.z]
            have := l3 b
            cases q : l.testBit b
            · rw [q] at this
              exact ⟨fun _ r => absurd (this.mpr ⟨hb, r⟩) (by decide), fun _ => rfl⟩
            · rw [q] at this
              exact ⟨fun r => (by cases r), fun r => absurd (this.mp rfl).2 r⟩
          have e1 : t_X10_holds (nI ns) p1_bets_near p1_bets_times (nI tn) (nI n) p1_links_size p1_bets_end p1_bets_groups p1_bets_hand p1_bets_match p1_bets_minute p1_bets_partner p1_bets_reachedFrom p1_bets_sum p1_bets_waiting p1_games_referee p1_links_reach p1_links_rows (nI a) (nI b) = some (if u2 = 0 then 1 else 0, nI n, z1, z2, z3, z4, re, r3) := by
            simp only [t_X10_holds, t_X10_holds_94, has_ok g1, bd1_s, if_pos h1, if_pos h2, n10, if_neg c1, if_neg hc, ↓reduceIte, ev1, bd7_s, eu, er2, er3, eu2, asN0, asN1]
            split <;> rfl
          have e2 : t_X11_holds (nI n) (nI ns) p2_cameFrom p2_handsOn p2_mate p2_ones p2_queue p1_games_referee p1_bets_end p1_bets_hand p1_bets_match p1_bets_minute p1_bets_sum p2_told (nI a) (nI b) = some (if u2 = 0 then 1 else 0, y0, ho, y2, y3, y4) := by
            simp only [t_X11_holds, t_X11_holds_58, isMatch_ok g1, bd1_s, if_pos h1, if_pos h2, n10, if_neg c1, if_neg hc, ↓reduceIte, ev2, bd5_s, ew, ew2, key]
            split <;> rfl
          exact ⟨_, _, _, _, _, _, _, _, _, _, _, _, _, e1, e2, hR0⟩
    · have e1 : t_X10_holds (nI ns) p1_bets_near p1_bets_times (nI tn) (nI n) p1_links_size p1_bets_end p1_bets_groups p1_bets_hand p1_bets_match p1_bets_minute p1_bets_partner p1_bets_reachedFrom p1_bets_sum p1_bets_waiting p1_games_referee p1_links_reach p1_links_rows x1 x2 = some (-1, p1_links_size, p1_bets_groups, p1_bets_partner, p1_bets_reachedFrom, p1_bets_waiting, p1_links_reach, p1_links_rows) := by
        simp only [t_X10_holds, has_ok g1, bd1_s, if_pos h1, if_neg h2, n10, ↓reduceIte]
      have e2 : t_X11_holds (nI n) (nI ns) p2_cameFrom p2_handsOn p2_mate p2_ones p2_queue p1_games_referee p1_bets_end p1_bets_hand p1_bets_match p1_bets_minute p1_bets_sum p2_told x1 x2 = some (-1, p2_cameFrom, p2_handsOn, p2_mate, p2_ones, p2_queue) := by
        simp only [t_X11_holds, isMatch_ok g1, bd1_s, if_pos h1, if_neg h2, n10, ↓reduceIte]
      exact ⟨_, _, _, _, _, _, _, _, _, _, _, _, _, e1, e2, hR0⟩
  · have e1 : t_X10_holds (nI ns) p1_bets_near p1_bets_times (nI tn) (nI n) p1_links_size p1_bets_end p1_bets_groups p1_bets_hand p1_bets_match p1_bets_minute p1_bets_partner p1_bets_reachedFrom p1_bets_sum p1_bets_waiting p1_games_referee p1_links_reach p1_links_rows x1 x2 = some (-1, p1_links_size, p1_bets_groups, p1_bets_partner, p1_bets_reachedFrom, p1_bets_waiting, p1_links_reach, p1_links_rows) := by
      simp only [t_X10_holds, has_ok g1, bd1_s, if_neg h1, ↓reduceIte]
    have e2 : t_X11_holds (nI n) (nI ns) p2_cameFrom p2_handsOn p2_mate p2_ones p2_queue p1_games_referee p1_bets_end p1_bets_hand p1_bets_match p1_bets_minute p1_bets_sum p2_told x1 x2 = some (-1, p2_cameFrom, p2_handsOn, p2_mate, p2_ones, p2_queue) := by
      simp only [t_X11_holds, isMatch_ok g1, bd1_s, if_neg h1, ↓reduceIte]
    exact ⟨_, _, _, _, _, _, _, _, _, _, _, _, _, e1, e2, hR0⟩
