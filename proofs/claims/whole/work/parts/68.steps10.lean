set_option maxHeartbeats 4000000 in
theorem step_proof (p2_matches : Int32) (p2_stakes : Int32) (p2_meetings : Int32) (p2_newsFirst : Int32) (p2_newsHour : Int32) (p2_acts : Int32) (p2_stories : Int32) (p2_signs : Int32) (p2_ruleMany : Int32) (p2_upper : Int64) (p2_lower : Int64) (p2_greatAt : Int32) (p1_bets_count : Int32) (p1_bets_near : Int32) (p1_bets_times : Int32) (p1_bets_ties : Int32) (p1_clause_count : Int32) (p1_clause_heldCount : Int32) (p1_games_count : Int32) (p1_games_base : Int32) (p1_games_topLean : Int32) (p1_games_topSpot : Int32) (p1_links_size : Int32) (p1_ranks_down : Int32) (p1_rumour_count : Int32) (p1_rumour_first : Int32) (p1_rumour_since : Int32) (p1_squad_acts : Int32) (p1_tales_count : Int32) (p1_games_odds_upper : Int64) (p1_games_odds_lower : Int64) (p1_facts : Nat → Int32) (p2_actMatch : Nat → Int32) (p2_actPlayers : Nat → Int32) (p2_allMoves : Nat → Int32) (p2_cameFrom : Nat → Int32) (p2_debt : Nat → Int32) (p2_goals : Nat → Int32) (p2_guest : Nat → Int32) (p2_handsOn : Nat → Int32) (p2_home : Nat → Int32) (p2_hour : Nat → Int32) (p2_knows : Nat → Int32) (p2_lateMoves : Nat → Int32) (p2_look : Nat → Int32) (p2_mate : Nat → Int32) (p2_meetA : Nat → Int32) (p2_meetB : Nat → Int32) (p2_meetHour : Nat → Int32) (p2_next : Nat → Int64) (p2_ones : Nat → Int32) (p2_order : Nat → Int32) (p2_owner : Nat → Int32) (p2_prices : Nat → Int32) (p2_queue : Nat → Int32) (p2_referee : Nat → Int32) (p2_ruleSign : Nat → Int32) (p2_sign : Nat → Int32) (p2_skill : Nat → Int32) (p2_stakeEnd : Nat → Int32) (p2_stakeHand : Nat → Int32) (p2_stakeMatch : Nat → Int32) (p2_stakeMinute : Nat → Int32) (p2_stakeSum : Nat → Int32) (p2_storyFrom : Nat → Int32) (p2_storyPerson : Nat → Int32) (p2_storyPlace : Nat → Int32) (p2_storyTo : Nat → Int32) (p2_taken : Nat → Int32) (p2_told : Nat → Int32) (p2_ways : Nat → Int64) (p1_bets_end : Nat → Int32) (p1_bets_groups : Nat → Int32) (p1_bets_hand : Nat → Int32) (p1_bets_match : Nat → Int32) (p1_bets_minute : Nat → Int32) (p1_bets_partner : Nat → Int32) (p1_bets_reachedFrom : Nat → Int32) (p1_bets_sum : Nat → Int32) (p1_bets_waiting : Nat → Int32) (p1_clause_held : Nat → Int32) (p1_clause_signs : Nat → Int32) (p1_games_fee : Nat → Int32) (p1_games_goals : Nat → Int32) (p1_games_guest : Nat → Int32) (p1_games_home : Nat → Int32) (p1_games_hour : Nat → Int32) (p1_games_prices : Nat → Int32) (p1_games_referee : Nat → Int32) (p1_games_skills : Nat → Int32) (p1_links_reach : Nat → Int32) (p1_links_rows : Nat → Int32) (p1_ranks_taken : Nat → Int32) (p1_rumour_hour : Nat → Int32) (p1_rumour_known : Nat → Int32) (p1_rumour_one : Nat → Int32) (p1_rumour_other : Nat → Int32) (p1_rumour_owner : Nat → Int32) (p1_squad_actMatch : Nat → Int32) (p1_squad_actPlayers : Nat → Int32) (p1_squad_debts : Nat → Int32) (p1_squad_lateMoves : Nat → Int32) (p1_squad_moves : Nat → Int32) (p1_tales_against : Nat → Int32) (p1_tales_from : Nat → Int32) (p1_tales_person : Nat → Int32) (p1_tales_place : Nat → Int32) (p1_tales_to : Nat → Int32) (p1_games_odds_cases : Nat → Int64) (hR : Rel p1_games_count p1_games_base p1_games_skills p1_games_home p1_games_guest p1_games_referee p1_games_hour p1_games_fee p1_games_goals p1_games_prices p1_bets_count p1_bets_near p1_bets_times p1_bets_ties p1_bets_hand p1_bets_match p1_bets_end p1_bets_minute p1_bets_sum p1_rumour_count p1_rumour_one p1_rumour_other p1_rumour_hour p1_rumour_owner p1_rumour_first p1_rumour_since p1_squad_moves p1_squad_lateMoves p1_squad_debts p1_squad_acts p1_squad_actMatch p1_squad_actPlayers p1_tales_count p1_tales_person p1_tales_place p1_tales_from p1_tales_to p1_tales_against p1_ranks_down p1_ranks_taken p1_clause_count p1_clause_signs p1_clause_heldCount p1_clause_held p2_matches p2_skill p2_home p2_guest p2_referee p2_hour p2_look p2_goals p2_prices p2_told p2_stakes p2_stakeHand p2_stakeMatch p2_stakeEnd p2_stakeMinute p2_stakeSum p2_meetings p2_meetA p2_meetB p2_meetHour p2_owner p2_newsFirst p2_newsHour p2_allMoves p2_lateMoves p2_debt p2_acts p2_actMatch p2_actPlayers p2_stories p2_storyPerson p2_storyPlace p2_storyFrom p2_storyTo p2_taken p2_signs p2_sign p2_ruleMany p2_ruleSign) (x1 x2 : Int32) : ∃ (r : Int32) (z0 : Int32) (z1 : Int32) (z2 : Int32) (z3 : Int64) (z4 : Int64) (z5 : Nat → Int32) (z6 : Nat → Int32) (z7 : Nat → Int32) (z8 : Nat → Int32) (z9 : Nat → Int32) (z10 : Nat → Int32) (z11 : Nat → Int32) (z12 : Nat → Int32) (z13 : Nat → Int64) (y0 : Int64) (y1 : Int64) (y2 : Int32) (y3 : Nat → Int32) (y4 : Nat → Int32) (y5 : Nat → Int32) (y6 : Nat → Int32) (y7 : Nat → Int64) (y8 : Nat → Int32) (y9 : Nat → Int32) (y10 : Nat → Int32) (y11 : Nat → Int64), t_X10_proof p1_bets_count p1_bets_near p1_bets_times p1_bets_ties p1_clause_heldCount p1_games_count p1_games_base p1_games_topLean p1_games_topSpot p1_links_size p1_rumour_count p1_rumour_first p1_rumour_since p1_squad_acts p1_games_odds_upper p1_games_odds_lower p1_facts p1_bets_end p1_bets_groups p1_bets_hand p1_bets_match p1_bets_minute p1_bets_partner p1_bets_reachedFrom p1_bets_sum p1_bets_waiting p1_clause_held p1_games_goals p1_games_guest p1_games_home p1_games_hour p1_games_prices p1_games_referee p1_games_skills p1_links_reach p1_links_rows p1_rumour_hour p1_rumour_known p1_rumour_one p1_rumour_other p1_rumour_owner p1_squad_actMatch p1_squad_actPlayers p1_squad_debts p1_games_odds_cases x1 x2 = some (r, z0, z1, z2, z3, z4, z5, z6, z7, z8, z9, z10, z11, z12, z13) ∧ t_X11_proof p2_matches p2_stakes p2_meetings p2_newsFirst p2_newsHour p2_acts p2_ruleMany p2_upper p2_lower p2_greatAt p2_actMatch p2_actPlayers p2_cameFrom p2_debt p2_goals p2_guest p2_handsOn p2_home p2_hour p2_knows p2_mate p2_meetA p2_meetB p2_meetHour p2_next p2_ones p2_order p2_owner p2_prices p2_queue p2_referee p2_ruleSign p2_skill p2_stakeEnd p2_stakeHand p2_stakeMatch p2_stakeMinute p2_stakeSum p2_told p2_ways x1 x2 = some (r, y0, y1, y2, y3, y4, y5, y6, y7, y8, y9, y10, y11) ∧ Rel p1_games_count p1_games_base p1_games_skills p1_games_home p1_games_guest p1_games_referee p1_games_hour p1_games_fee p1_games_goals p1_games_prices p1_bets_count p1_bets_near p1_bets_times p1_bets_ties p1_bets_hand p1_bets_match p1_bets_end p1_bets_minute p1_bets_sum p1_rumour_count p1_rumour_one p1_rumour_other p1_rumour_hour p1_rumour_owner p1_rumour_first p1_rumour_since p1_squad_moves p1_squad_lateMoves p1_squad_debts p1_squad_acts p1_squad_actMatch p1_squad_actPlayers p1_tales_count p1_tales_person p1_tales_place p1_tales_from p1_tales_to p1_tales_against p1_ranks_down p1_ranks_taken p1_clause_count p1_clause_signs p1_clause_heldCount p1_clause_held p2_matches p2_skill p2_home p2_guest p2_referee p2_hour p2_look p2_goals p2_prices p2_told p2_stakes p2_stakeHand p2_stakeMatch p2_stakeEnd p2_stakeMinute p2_stakeSum p2_meetings p2_meetA p2_meetB p2_meetHour p2_owner p2_newsFirst p2_newsHour p2_allMoves p2_lateMoves p2_debt p2_acts p2_actMatch p2_actPlayers p2_stories p2_storyPerson p2_storyPlace p2_storyFrom p2_storyTo p2_taken p2_signs p2_sign p2_ruleMany p2_ruleSign := by
  have hR0 := hR
  obtain ⟨n, ns, nt, na, ny, ng, nh, hG, hB, hM, hO, hQ, hT, hK, hC, h0⟩ := hR
  obtain ⟨g1, g2, g3, g4, g5, g6, g7, g8, g9, g10, g11, g12, g13, f1, f2, f3, f4, f5, f6, f7, f8, f9⟩ := id hG
  subst g2 g3
  have f1 := f1.symm
  have f2 := f2.symm
  have f3 := f3.symm
  have f4 := f4.symm
  have f5 := f5.symm
  have f6 := f6.symm
  have f7 := f7.symm
  subst f1 f2 f3 f4 f5 f6 f7
  obtain ⟨b1, b2, b3, b4, b5, b6, b7, b8, b9, b10, b11, k1, k2, k3, k4, k5, k6, k7, k8⟩ := id hB
  subst b2 b3
  have k1 := k1.symm
  have k2 := k2.symm
  have k3 := k3.symm
  have k4 := k4.symm
  have k5 := k5.symm
  subst k1 k2 k3 k4 k5
  obtain ⟨tn, tn1, tn2, et⟩ := b6
  subst et
  have D : SD ns p1_bets_near p1_bets_times p1_bets_minute p1_bets_sum := ⟨b1, b4, b5, b10, b11⟩
  obtain ⟨mx, hX⟩ := mx_ex p1_bets_hand p1_bets_match p1_bets_end D
  obtain ⟨m1, m2, m3, -⟩ := id hM
  subst m2 m3
  obtain ⟨o1, o2, o3, o4, o5, o6⟩ := id hO
  have o4 := o4.symm
  have o5 := o5.symm
  have o6 := o6.symm
  subst o4 o5 o6
  obtain ⟨q1, q2, q3, q4, q5, q6, q7, q8, q9, q10, q11, q12⟩ := id hQ
  subst q2 q3
  have q10 := q10.symm
  have q11 := q11.symm
  have q12 := q12.symm
  subst q10 q11 q12
  obtain ⟨s1, s2, s3, s4, s5, s6, s7, s8, s9, s10, s11⟩ := id hC
  subst s4 s6
  have s8 := s8.symm
  subst s8
  have h12 := p12 g1
  by_cases hb : (0 ≤ x1 ∧ x1 < nI n) ∧ (0 ≤ x2 ∧ x2 ≤ 5)
  · obtain ⟨h1, h2⟩ := id hb
    obtain ⟨m, hm, rfl⟩ := rgm (by omega) h1
    have hm' : m < 12 := by omega
    obtain ⟨G, hGT⟩ := gt_ex (skills := p1_games_skills) g1 h0 g6 g7 p1_games_goals p1_games_prices g13
    obtain ⟨kr, kr1, kr3⟩ : ∃ k : Nat, k < 2 ^ n ∧ ∀ j, k.testBit j = true ↔ j < n ∧ Cn n (Jn p1_games_referee (Hd ns p1_bets_hand p1_bets_match (One mx tn))) m j := by
      obtain ⟨⟨sz, w1, w2, w3, w4, re, ro⟩, _, _, hro⟩ := build_ok g1 b1 tn2 hX b7 p1_links_size p1_games_referee p1_bets_groups p1_bets_partner p1_bets_reachedFrom p1_bets_waiting p1_links_reach p1_links_rows
      obtain ⟨u, _, hu⟩ := close_ok g1 (fun i _ => Or.inl rfl) hro
      obtain ⟨k, k1, _, k3⟩ := hu m hm
      exact ⟨k, k1, k3⟩
    have nb := (ndS_b (C := fun i => cdP na p1_squad_actMatch p1_squad_actPlayers (nI m) (nI i)) (pr := fun i => prS p1_squad_debts i 10) (Nat.le_refl 1024)).1
    obtain ⟨F, F0, F1, F2, F3, F4⟩ : ∃ F : Nat → Int32, F 0 = G m ∧ F 1 = nI (grC ns p1_bets_hand p1_bets_match (One mx tn) (nI m) 10) ∧ F 2 = exV nt ns p1_rumour_first p1_rumour_since p1_rumour_one p1_rumour_other p1_rumour_hour p1_bets_hand p1_bets_match p1_bets_minute p1_rumour_owner (nI m) (p1_games_hour m) ∧ F 3 = nI (pop kr) ∧ F 4 = nI (pop (ndS (fun i => cdP na p1_squad_actMatch p1_squad_actPlayers (nI m) (nI i)) (fun i => prS p1_squad_debts i 10) 1024)) :=
      ⟨fun j => if j = 0 then G m else if j = 1 then nI (grC ns p1_bets_hand p1_bets_match (One mx tn) (nI m) 10) else if j = 2 then exV nt ns p1_rumour_first p1_rumour_since p1_rumour_one p1_rumour_other p1_rumour_hour p1_bets_hand p1_bets_match p1_bets_minute p1_rumour_owner (nI m) (p1_games_hour m) else if j = 3 then nI (pop kr) else nI (pop (ndS (fun i => cdP na p1_squad_actMatch p1_squad_actPlayers (nI m) (nI i)) (fun i => prS p1_squad_debts i 10) 1024)), rfl, rfl, rfl, rfl, rfl⟩
    have hFc : ∀ j, j < 5 → ∀ (games_topLean : Int32) (games_topSpot : Int32) (links_size : Int32) (games_odds_upper : Int64) (games_odds_lower : Int64) (bets_groups : Nat → Int32) (bets_partner : Nat → Int32) (bets_reachedFrom : Nat → Int32) (bets_waiting : Nat → Int32) (links_reach : Nat → Int32) (links_rows : Nat → Int32) (rumour_known : Nat → Int32) (games_odds_cases : Nat → Int64), Ok (t_X10_factOf (nI ns) p1_bets_near p1_bets_times (nI tn) (nI n) p1_games_base games_topLean games_topSpot links_size (nI nt) p1_rumour_first p1_rumour_since (nI na) games_odds_upper games_odds_lower p1_bets_end bets_groups p1_bets_hand p1_bets_match p1_bets_minute bets_partner bets_reachedFrom p1_bets_sum bets_waiting p1_games_goals p1_games_guest p1_games_home p1_games_hour p1_games_prices p1_games_referee p1_games_skills links_reach links_rows p1_rumour_hour rumour_known p1_rumour_one p1_rumour_other p1_rumour_owner p1_squad_actMatch p1_squad_actPlayers p1_squad_debts games_odds_cases (nI m) (nI j)) (fun v => v.1 = F j) := by
      intro j hj games_topLean games_topSpot links_size games_odds_upper games_odds_lower bets_groups bets_partner bets_reachedFrom bets_waiting links_reach links_rows rumour_known games_odds_cases
      unfold t_X10_factOf
      rcases (show j = 0 ∨ j = 1 ∨ j = 2 ∨ j = 3 ∨ j = 4 by omega) with rfl | rfl | rfl | rfl | rfl
      · rw [F0]
        exact Ok.pos rfl (Ok.bd5 ((hGT m hm).1 _ _ _ _ _) (fun _ _ _ _ _ h => Ok.ret h))
      · rw [F1]
        exact Ok.neg (by decide) (Ok.pos rfl (Ok.bd5 (countGrouped_ok b1 tn2 hX b7 _ _ _ _ (nI m)) (fun _ _ _ _ _ h => Ok.ret h)))
      · rw [F2]
        refine Ok.neg (by decide) (Ok.neg (by decide) (Ok.pos rfl ?_))
        rw [nI_clamp (by omega), ckn_m hm' (by decide)]
        exact Ok.bd2 (cexp_ok (n := n) (match_ := p1_bets_match) (minute := p1_bets_minute) b1 b7 hM hO _ (nI m) (p1_games_hour m)) (fun _ _ h => Ok.ret h)
      · rw [F3]
        refine Ok.neg (by decide) (Ok.neg (by decide) (Ok.neg (by decide) (Ok.pos rfl ?_)))
        refine Ok.bd7 (build_ok g1 b1 tn2 hX b7 _ p1_games_referee _ _ _ _ _ _) (fun u0 u1 u2 u3 u4 u5 u6 hu => ?_)
        obtain ⟨v1, v2⟩ := hu
        simp only at v1 v2
        subst v1
        refine Ok.bd1 (close_ok g1 (fun i _ => Or.inl rfl) v2) (fun w hw => ?_)
        obtain ⟨k, k1, k2, k3⟩ := hw m hm
        have ek := bits_eq k1 kr1 k3 kr3
        subst ek
        rw [nI_clamp (by omega), ckn_m hm' (by decide), k2, bitCount_ok (by omega), bd1_s]
        exact Ok.ret rfl
      · rw [F4]
        refine Ok.neg (by decide) (Ok.neg (by decide) (Ok.neg (by decide) (Ok.neg (by decide) ?_)))
        rw [fewest_ok q1, bd1_s, bitCount_ok (by omega), bd1_s]
        exact Ok.ret rfl
    have hFr : ∀ j, j < 5 → ∀ (upper : Int64) (lower : Int64) (greatAt : Int32) (cameFrom : Nat → Int32) (handsOn : Nat → Int32) (knows : Nat → Int32) (mate : Nat → Int32) (next : Nat → Int64) (ones : Nat → Int32) (order : Nat → Int32) (queue : Nat → Int32) (ways : Nat → Int64), Ok (t_X11_factOf (nI n) (nI ns) (nI nt) p1_rumour_first p1_rumour_since (nI na) upper lower greatAt p1_squad_actMatch p1_squad_actPlayers cameFrom p1_squad_debts p1_games_goals p1_games_guest handsOn p1_games_home p1_games_hour knows mate p2_meetA p2_meetB p2_meetHour next ones order p1_rumour_owner p1_games_prices queue p1_games_referee p1_games_skills p1_bets_end p1_bets_hand p1_bets_match p1_bets_minute p1_bets_sum p2_told ways (nI m) (nI (j + 1))) (fun v => v.1 = F j) := by
      intro j hj upper lower greatAt cameFrom handsOn knows mate next ones order queue ways
      unfold t_X11_factOf
      rcases (show j = 0 ∨ j = 1 ∨ j = 2 ∨ j = 3 ∨ j = 4 by omega) with rfl | rfl | rfl | rfl | rfl
      · rw [F0]
        exact Ok.pos rfl (Ok.bd6 ((hGT m hm).2 _ _ _ _ _) (fun _ _ _ _ _ _ h => Ok.ret h))
      · rw [F1]
        exact Ok.neg (by decide) (Ok.pos rfl (Ok.bd4 (layOnes_ok b1 tn2 hX k6 k7 k8 _ _ _ _) (fun _ _ _ _ hu => fact2_ok b1 b7 (fun i _ => Cn.refl i) hu (nI m))))
      · rw [F2]
        refine Ok.neg (by decide) (Ok.neg (by decide) (Ok.pos rfl ?_))
        exact Ok.bd3 (exof_ok (n := n) (match_ := p1_bets_match) b1 hm' b7 b10 hM hO _ _ p1_games_hour) (fun _ _ _ h => Ok.ret h)
      · rw [F3]
        refine Ok.neg (by decide) (Ok.neg (by decide) (Ok.neg (by decide) (Ok.pos rfl ?_)))
        refine Ok.bd5 (layHands_ok g1 b1 tn2 hX k6 k7 k8 b7 b8 _ _ _ _ _) (fun u0 u1 u2 u3 u4 hu => ?_)
        refine Ok.bd1 (ringOf_ok (referee := p1_games_referee) (R := Jn p1_games_referee (Hd ns p1_bets_hand p1_bets_match (One mx tn))) g1 hu.1 hm (-6) (-6) (fun x y hx hy => ⟨fun q => ⟨q, fun c => nI_m6 (t := x) (by omega) (c.elim (fun c => c.1) (fun c => c.1))⟩, fun q => q.1⟩)) (fun w hw => ?_)
        obtain ⟨l, l1, l2, l3⟩ := hw
        subst l2
        have ek := bits_eq l1 kr1 l3 kr3
        subst ek
        rw [bits_ok (by omega), bd1_s]
        exact Ok.ret rfl
      · rw [F4]
        refine Ok.neg (by decide) (Ok.neg (by decide) (Ok.neg (by decide) (Ok.neg (by decide) ?_)))
        rw [needed_ok q1, bd1_s, bits_ok (by omega), bd1_s]
        exact Ok.ret rfl
    by_cases c0 : x2 = 0
    · subst c0
      have k1 : Ok (t_X10_proof (nI ns) p1_bets_near p1_bets_times (nI tn) (nI nh) (nI n) p1_games_base p1_games_topLean p1_games_topSpot p1_links_size (nI nt) p1_rumour_first p1_rumour_since (nI na) p1_games_odds_upper p1_games_odds_lower p1_facts p1_bets_end p1_bets_groups p1_bets_hand p1_bets_match p1_bets_minute p1_bets_partner p1_bets_reachedFrom p1_bets_sum p1_bets_waiting p1_clause_held p1_games_goals p1_games_guest p1_games_home p1_games_hour p1_games_prices p1_games_referee p1_games_skills p1_links_reach p1_links_rows p1_rumour_hour p1_rumour_known p1_rumour_one p1_rumour_other p1_rumour_owner p1_squad_actMatch p1_squad_actPlayers p1_squad_debts p1_games_odds_cases (nI m) 0) (fun v => Bz v.1 (TT F p1_clause_held nh)) := by
        unfold t_X10_proof
        rw [has_ok g1, bd1_s, bz]
        refine Ok.pos h1 ?_
        rw [within_ok, bd1_s, bz]
        refine Ok.pos h2 (Ok.pos (by decide) ?_)
        refine lr_X10_proof_38 _ (fun j bets_countq bets_nearq bets_timesq bets_tiesq clause_heldCountq games_countq games_baseq games_topLeanq games_topSpotq links_sizeq rumour_countq rumour_firstq rumour_sinceq squad_actsq games_odds_upperq games_odds_lowerq factsq bets_endq bets_groupsq bets_handq bets_matchq bets_minuteq bets_partnerq bets_reachedFromq bets_sumq bets_waitingq clause_heldq games_goalsq games_guestq games_homeq games_hourq games_pricesq games_refereeq games_skillsq links_reachq links_rowsq rumour_hourq rumour_knownq rumour_oneq rumour_otherq rumour_ownerq squad_actMatchq squad_actPlayersq squad_debtsq games_odds_casesq y1 x3 => (nI ns) = bets_countq ∧ p1_bets_near = bets_nearq ∧ p1_bets_times = bets_timesq ∧ (nI tn) = bets_tiesq ∧ (nI nh) = clause_heldCountq ∧ (nI n) = games_countq ∧ p1_games_base = games_baseq ∧ (nI nt) = rumour_countq ∧ p1_rumour_first = rumour_firstq ∧ p1_rumour_since = rumour_sinceq ∧ (nI na) = squad_actsq ∧ p1_bets_end = bets_endq ∧ p1_bets_hand = bets_handq ∧ p1_bets_match = bets_matchq ∧ p1_bets_minute = bets_minuteq ∧ p1_bets_sum = bets_sumq ∧ p1_clause_held = clause_heldq ∧ p1_games_goals = games_goalsq ∧ p1_games_guest = games_guestq ∧ p1_games_home = games_homeq ∧ p1_games_hour = games_hourq ∧ p1_games_prices = games_pricesq ∧ p1_games_referee = games_refereeq ∧ p1_games_skills = games_skillsq ∧ p1_rumour_hour = rumour_hourq ∧ p1_rumour_one = rumour_oneq ∧ p1_rumour_other = rumour_otherq ∧ p1_rumour_owner = rumour_ownerq ∧ p1_squad_actMatch = squad_actMatchq ∧ p1_squad_actPlayers = squad_actPlayersq ∧ p1_squad_debts = squad_debtsq ∧ nI m = y1 ∧ x3 = nI j ∧ ∀ i, i < j → factsq i = F i) 5 ?_ ?_ lfuel 0 _ _ _ _ _ _ _ _ _ _ _ _ _ _ _ _ _ _ _ _ _ _ _ _ _ _ _ _ _ _ _ _ _ _ _ _ _ _ _ _ _ _ _ _ _ _ _ (Nat.zero_le _) (by unfold lfuel; omega) ?_
        · rintro kk j bets_countq bets_nearq bets_timesq bets_tiesq clause_heldCountq games_countq games_baseq games_topLeanq games_topSpotq links_sizeq rumour_countq rumour_firstq rumour_sinceq squad_actsq games_odds_upperq games_odds_lowerq factsq bets_endq bets_groupsq bets_handq bets_matchq bets_minuteq bets_partnerq bets_reachedFromq bets_sumq bets_waitingq clause_heldq games_goalsq games_guestq games_homeq games_hourq games_pricesq games_refereeq games_skillsq links_reachq links_rowsq rumour_hourq rumour_knownq rumour_oneq rumour_otherq rumour_ownerq squad_actMatchq squad_actPlayersq squad_debtsq games_odds_casesq y1 x3 hj ⟨d1, d2, d3, d4, d5, d6, d7, d8, d9, d10, d11, d12, d13, d14, d15, d16, d17, d18, d19, d20, d21, d22, d23, d24, d25, d26, d27, d28, d29, d30, d31, a1, a2, a3⟩ hk
          subst d1 d2 d3 d4 d5 d6 d7 d8 d9 d10 d11 d12 d13 d14 d15 d16 d17 d18 d19 d20 d21 d22 d23 d24 d25 d26 d27 d28 d29 d30 d31 a1 a2
          unfold t_X10_proof_38_b
          refine Ok.neg (nI_ge (b := 5) hj (by decide)) (Ok.bd14 (hFc j hj _ _ _ _ _ _ _ _ _ _ _ _ _) (fun v u0 u1 u2 u3 u4 u5 u6 u7 u8 u9 u10 u11 u12 hv => ?_))
          simp only at hv
          subst hv
          rw [nI_clamp (by omega), ckn_m hj (by decide)]
          apply hk
          refine ⟨rfl, rfl, rfl, rfl, rfl, rfl, rfl, rfl, rfl, rfl, rfl, rfl, rfl, rfl, rfl, rfl, rfl, rfl, rfl, rfl, rfl, rfl, rfl, rfl, rfl, rfl, rfl, rfl, rfl, rfl, rfl, rfl, nI_1 j, fun i hi => ?_⟩
          by_cases e : i = j
          · subst e; exact pk_us
          · rw [pk_un e]; exact a3 i (by omega)
        · rintro kk bets_countq bets_nearq bets_timesq bets_tiesq clause_heldCountq games_countq games_baseq games_topLeanq games_topSpotq links_sizeq rumour_countq rumour_firstq rumour_sinceq squad_actsq games_odds_upperq games_odds_lowerq factsq bets_endq bets_groupsq bets_handq bets_matchq bets_minuteq bets_partnerq bets_reachedFromq bets_sumq bets_waitingq clause_heldq games_goalsq games_guestq games_homeq games_hourq games_pricesq games_refereeq games_skillsq links_reachq links_rowsq rumour_hourq rumour_knownq rumour_oneq rumour_otherq rumour_ownerq squad_actMatchq squad_actPlayersq squad_debtsq games_odds_casesq y1 x3 ⟨d1, d2, d3, d4, d5, d6, d7, d8, d9, d10, d11, d12, d13, d14, d15, d16, d17, d18, d19, d20, d21, d22, d23, d24, d25, d26, d27, d28, d29, d30, d31, a1, a2, a3⟩
          subst d1 d2 d3 d4 d5 d6 d7 d8 d9 d10 d11 d12 d13 d14 d15 d16 d17 d18 d19 d20 d21 d22 d23 d24 d25 d26 d27 d28 d29 d30 d31 a1 a2
          unfold t_X10_proof_38_b t_X10_proof_61
          refine Ok.pos (by decide) (Ok.bd1 (grants_ok s2 a3 s11) (fun v hv => ?_))
          rw [asNb hv, bd1_s]
          exact Ok.ret hv
        · exact ⟨rfl, rfl, rfl, rfl, rfl, rfl, rfl, rfl, rfl, rfl, rfl, rfl, rfl, rfl, rfl, rfl, rfl, rfl, rfl, rfl, rfl, rfl, rfl, rfl, rfl, rfl, rfl, rfl, rfl, rfl, rfl, rfl, rfl, fun i hi => absurd hi (Nat.not_lt_zero i)⟩
      have k2 : Ok (t_X11_proof (nI n) (nI ns) (nI nt) p1_rumour_first p1_rumour_since (nI na) (nI nh) p2_upper p2_lower p2_greatAt p1_squad_actMatch p1_squad_actPlayers p2_cameFrom p1_squad_debts p1_games_goals p1_games_guest p2_handsOn p1_games_home p1_games_hour p2_knows p2_mate p2_meetA p2_meetB p2_meetHour p2_next p2_ones p2_order p1_rumour_owner p1_games_prices p2_queue p1_games_referee p1_clause_held p1_games_skills p1_bets_end p1_bets_hand p1_bets_match p1_bets_minute p1_bets_sum p2_told p2_ways (nI m) 0) (fun v => Bz v.1 (TT F p1_clause_held nh)) := by
        unfold t_X11_proof
        rw [isMatch_ok g1, bd1_s, bz]
        refine Ok.pos h1 ?_
        rw [in_ok, bd1_s, bz]
        refine Ok.pos h2 (Ok.pos rfl (Ok.bd13 (isProof_ok s2 (nI m) s11 hFr _ _ _ _ _ _ _ _ _ _ _ _) (fun v u0 u1 u2 u3 u4 u5 u6 u7 u8 u9 u10 u11 hv => ?_)))
        simp only at hv
        unfold t_X11_proof_46
        exact Ok.ite (fun q => Ok.ret (Bz.f (hv.z.mp q))) (fun q => Ok.ret (Bz.t (Classical.not_not.mp (fun w => q (hv.z.mpr w)))))
      obtain ⟨⟨r, z0, z1, z2, z3, z4, z5, z6, z7, z8, z9, z10, z11, z12, z13⟩, e1, v1⟩ := k1
      obtain ⟨⟨r2, y0, y1, y2, y3, y4, y5, y6, y7, y8, y9, y10, y11⟩, e2, v2⟩ := k2
      simp only at v1 v2
      have e := v1.uniq v2
      subst e
      exact ⟨_, _, _, _, _, _, _, _, _, _, _, _, _, _, _, _, _, _, _, _, _, _, _, _, _, _, _, e1, e2, hR0⟩
    · obtain ⟨j0, hj0, rfl⟩ := rgo 5 rfl h2
      obtain ⟨j, ej⟩ : ∃ j, j0 = j + 1 := ⟨j0 - 1, by
        rcases Nat.eq_zero_or_pos j0 with q | q
        · subst q; exact absurd rfl c0
        · omega⟩
      subst ej
      have k1 : Ok (t_X10_proof (nI ns) p1_bets_near p1_bets_times (nI tn) (nI nh) (nI n) p1_games_base p1_games_topLean p1_games_topSpot p1_links_size (nI nt) p1_rumour_first p1_rumour_since (nI na) p1_games_odds_upper p1_games_odds_lower p1_facts p1_bets_end p1_bets_groups p1_bets_hand p1_bets_match p1_bets_minute p1_bets_partner p1_bets_reachedFrom p1_bets_sum p1_bets_waiting p1_clause_held p1_games_goals p1_games_guest p1_games_home p1_games_hour p1_games_prices p1_games_referee p1_games_skills p1_links_reach p1_links_rows p1_rumour_hour p1_rumour_known p1_rumour_one p1_rumour_other p1_rumour_owner p1_squad_actMatch p1_squad_actPlayers p1_squad_debts p1_games_odds_cases (nI m) (nI (j + 1))) (fun v => v.1 = F j) := by
        unfold t_X10_proof
        rw [has_ok g1, bd1_s, bz]
        refine Ok.pos h1 ?_
        rw [within_ok, bd1_s, bz]
        refine Ok.pos h2 (Ok.neg (nI_nle (by omega) (by omega)) ?_)
        rw [nI_pp]
        exact Ok.bd14 (hFc j (by omega) _ _ _ _ _ _ _ _ _ _ _ _ _) (fun _ _ _ _ _ _ _ _ _ _ _ _ _ _ h => Ok.ret h)
      have k2 : Ok (t_X11_proof (nI n) (nI ns) (nI nt) p1_rumour_first p1_rumour_since (nI na) (nI nh) p2_upper p2_lower p2_greatAt p1_squad_actMatch p1_squad_actPlayers p2_cameFrom p1_squad_debts p1_games_goals p1_games_guest p2_handsOn p1_games_home p1_games_hour p2_knows p2_mate p2_meetA p2_meetB p2_meetHour p2_next p2_ones p2_order p1_rumour_owner p1_games_prices p2_queue p1_games_referee p1_clause_held p1_games_skills p1_bets_end p1_bets_hand p1_bets_match p1_bets_minute p1_bets_sum p2_told p2_ways (nI m) (nI (j + 1))) (fun v => v.1 = F j) := by
        unfold t_X11_proof
        rw [isMatch_ok g1, bd1_s, bz]
        refine Ok.pos h1 ?_
        rw [in_ok, bd1_s, bz]
        refine Ok.pos h2 (Ok.neg c0 ?_)
        exact Ok.bd13 (hFr j (by omega) _ _ _ _ _ _ _ _ _ _ _ _) (fun _ _ _ _ _ _ _ _ _ _ _ _ _ h => Ok.ret h)
      obtain ⟨⟨r, z0, z1, z2, z3, z4, z5, z6, z7, z8, z9, z10, z11, z12, z13⟩, e1, v1⟩ := k1
      obtain ⟨⟨r2, y0, y1, y2, y3, y4, y5, y6, y7, y8, y9, y10, y11⟩, e2, v2⟩ := k2
      simp only at v1 v2
      rw [← v1] at v2
      subst v2
      exact ⟨_, _, _, _, _, _, _, _, _, _, _, _, _, _, _, _, _, _, _, _, _, _, _, _, _, _, _, e1, e2, hR0⟩
  · have e1 : t_X10_proof (nI ns) p1_bets_near p1_bets_times (nI tn) (nI nh) (nI n) p1_games_base p1_games_topLean p1_games_topSpot p1_links_size (nI nt) p1_rumour_first p1_rumour_since (nI na) p1_games_odds_upper p1_games_odds_lower p1_facts p1_bets_end p1_bets_groups p1_bets_hand p1_bets_match p1_bets_minute p1_bets_partner p1_bets_reachedFrom p1_bets_sum p1_bets_waiting p1_clause_held p1_games_goals p1_games_guest p1_games_home p1_games_hour p1_games_prices p1_games_referee p1_games_skills p1_links_reach p1_links_rows p1_rumour_hour p1_rumour_known p1_rumour_one p1_rumour_other p1_rumour_owner p1_squad_actMatch p1_squad_actPlayers p1_squad_debts p1_games_odds_cases x1 x2 = some (-2000000000, p1_games_topLean, p1_games_topSpot, p1_links_size, p1_games_odds_upper, p1_games_odds_lower, p1_facts, p1_bets_groups, p1_bets_partner, p1_bets_reachedFrom, p1_bets_waiting, p1_links_reach, p1_links_rows, p1_rumour_known, p1_games_odds_cases) := by
      unfold t_X10_proof
      rw [has_ok g1, bd1_s, bz]
      by_cases c1 : 0 ≤ x1 ∧ x1 < nI n
      · rw [if_pos c1, within_ok, bd1_s, bz, if_neg (fun q => hb ⟨c1, q⟩)]
      · rw [if_neg c1]
    have e2 : t_X11_proof (nI n) (nI ns) (nI nt) p1_rumour_first p1_rumour_since (nI na) (nI nh) p2_upper p2_lower p2_greatAt p1_squad_actMatch p1_squad_actPlayers p2_cameFrom p1_squad_debts p1_games_goals p1_games_guest p2_handsOn p1_games_home p1_games_hour p2_knows p2_mate p2_meetA p2_meetB p2_meetHour p2_next p2_ones p2_order p1_rumour_owner p1_games_prices p2_queue p1_games_referee p1_clause_held p1_games_skills p1_bets_end p1_bets_hand p1_bets_match p1_bets_minute p1_bets_sum p2_told p2_ways x1 x2 = some (-2000000000, p2_upper, p2_lower, p2_greatAt, p2_cameFrom, p2_handsOn, p2_knows, p2_mate, p2_next, p2_ones, p2_order, p2_queue, p2_ways) := by
      unfold t_X11_proof
      rw [isMatch_ok g1, bd1_s, bz]
      by_cases c1 : 0 ≤ x1 ∧ x1 < nI n
      · rw [if_pos c1, in_ok, bd1_s, bz, if_neg (fun q => hb ⟨c1, q⟩)]
      · rw [if_neg c1]
    exact ⟨_, _, _, _, _, _, _, _, _, _, _, _, _, _, _, _, _, _, _, _, _, _, _, _, _, _, _, e1, e2, hR0⟩
