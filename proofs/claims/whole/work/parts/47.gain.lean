-- needs 36 37 38 39 41 43 44 45
def gnV (goals prices match_ end_ minute sum : Nat → Int32) (s : Nat) : Int32 := if prices (18 * (match_ s).toNatClampNeg + 3 * ((minute s).toNatClampNeg / 15) + (end_ s).toNatClampNeg) = 0 then 0 else (if eb (ld goals (match_ s).toNatClampNeg 6) = end_ s then sum s * prices (18 * (match_ s).toNatClampNeg + 3 * ((minute s).toNatClampNeg / 15) + (end_ s).toNatClampNeg) / 100 else 0) - sum s
def gnS (f : Nat → Int32) (hand : Nat → Int32) (x : Int32) : Nat → Int32
  | 0 => 0
  | i + 1 => if hand i = x then gnS f hand x i + f i else gnS f hand x i
theorem div15 {k : Nat} (hk : k < 2 ^ 31) : nI k / 15 = nI (k / 15) := pk_div hk (by decide) (by decide)
theorem spot2 {m q e : Nat} : nI m * 18 + (nI q * 3 + nI e) = nI (18 * m + 3 * q + e) := by
  rw [show (18 : Int32) = nI 18 from rfl, show (3 : Int32) = nI 3 from rfl, pk_mul, pk_mul, nI_add, nI_add, Nat.mul_comm m, Nat.mul_comm q, Nat.add_assoc]
theorem gainBy_ok {s m k e : Nat} (hs : s < 40) {goals prices match_ end_ minute sum : Nat → Int32} (em : match_ s = nI m) (hm : m < 12) (ek : minute s = nI k) (hk : k < 90) (ee : end_ s = nI e) (he : e < 3) : t_X0_gainBy end_ match_ minute sum goals prices (nI s) = some (gnV goals prices match_ end_ minute sum s) := by
  unfold t_X0_gainBy t_X0_gainBy_79 gnV
  simp only [nI_clamp (show s < 2 ^ 31 by omega), ckn_m hs (by decide), em, ek, ee, div15 (show k < 2 ^ 31 by omega), spot2, nI_clamp (show 18 * m + 3 * (k / 15) + e < 2 ^ 31 by omega), ckn_m (show 18 * m + 3 * (k / 15) + e < 216 by omega) (by decide), endOf_ok hm, bd1_s, nI_clamp (show m < 2 ^ 31 by omega), nI_clamp (show k < 2 ^ 31 by omega), nI_clamp (show e < 2 ^ 31 by omega)]
  (repeat' split) <;> rfl
theorem gainOf_ok {n ns : Nat} (hn : n ≤ 12) (hns : ns ≤ 40) {goals prices match_ end_ minute sum hand : Nat → Int32} (b8 : ∀ j, j < ns → rg (match_ j) n) (b9 : ∀ j, j < ns → rg (end_ j) 3) (b10 : ∀ j, j < ns → rg (minute j) 90) (x : Int32) : t_X0_gainOf (nI ns) end_ hand match_ minute sum goals prices x = some (gnS (gnV goals prices match_ end_ minute sum) hand x ns) := by
  apply Ok.to
  unfold t_X0_gainOf
  refine lr_X0_gainOf_5 _ (fun i c en ha ma mi su go pr x1 x3 x4 => c = nI ns ∧ end_ = en ∧ hand = ha ∧ match_ = ma ∧ minute = mi ∧ sum = su ∧ goals = go ∧ prices = pr ∧ x = x1 ∧ x3 = gnS (gnV goals prices match_ end_ minute sum) hand x i ∧ x4 = nI i) ns ?_ ?_ lfuel 0 _ _ _ _ _ _ _ _ _ _ _ (Nat.zero_le _) (by unfold lfuel; omega) ?_
  · rintro kk i c en ha ma mi su go pr x1 x3 x4 hi ⟨d1, d2, d3, d4, d5, d6, d7, d8, d9, d10, d11⟩ hk
    subst d1 d2 d3 d4 d5 d6 d7 d8 d9 d10 d11
    unfold t_X0_gainOf_5_b t_X0_gainOf_35
    have hin := nI_in (c := i) (N := 40) (by omega) (by decide)
    obtain ⟨m, hm, em⟩ := b8 i hi
    obtain ⟨e, he, ee⟩ := b9 i hi
    obtain ⟨k, hk2, ek⟩ := b10 i hi
    rw [gainBy_ok (by omega) em (by omega) ek hk2 ee he, bd1_s, nI_clamp (by omega)]
    rw [nI_clamp (by omega)] at hin
    refine Ok.neg (nI_ge hi (by omega)) (Ok.ck hin (Ok.ite (fun h => hk _ _ _ _ _ _ _ _ _ _ _ ⟨rfl, rfl, rfl, rfl, rfl, rfl, rfl, rfl, rfl, ?_, nI_1 i⟩) (fun h => hk _ _ _ _ _ _ _ _ _ _ _ ⟨rfl, rfl, rfl, rfl, rfl, rfl, rfl, rfl, rfl, ?_, nI_1 i⟩)))
    · rw [gnS, if_pos h]
    · rw [gnS, if_neg h]
  · rintro kk c en ha ma mi su go pr x1 x3 x4 ⟨d1, d2, d3, d4, d5, d6, d7, d8, d9, d10, d11⟩
    subst d1 d2 d3 d4 d5 d6 d7 d8 d9 d10 d11
    unfold t_X0_gainOf_5_b
    exact Ok.pos (nI_le (Nat.le_refl _) (by omega)) (Ok.ret rfl)
  · exact ⟨rfl, rfl, rfl, rfl, rfl, rfl, rfl, rfl, rfl, rfl, rfl⟩
theorem gain_ok2 {n ns : Nat} (hn : n ≤ 12) (hns : ns ≤ 40) {goals prices match_ end_ minute sum hand : Nat → Int32} (hpr : ∀ j, prices j = 0 ∨ ∃ k : Nat, 100 ≤ k ∧ k ≤ 10000 ∧ prices j = nI k) (b8 : ∀ j, j < ns → rg (match_ j) n) (b9 : ∀ j, j < ns → rg (end_ j) 3) (b10 : ∀ j, j < ns → rg (minute j) 90) (x : Int32) : t_X11_gain_14 lfuel (nI ns) goals prices end_ hand match_ minute sum x 0 0 = some (gnS (gnV goals prices match_ end_ minute sum) hand x ns) := by
  apply Ok.to
  refine lr_X11_gain_14 _ (fun i c go pr en ha ma mi su x1 x3 x4 => c = nI ns ∧ end_ = en ∧ hand = ha ∧ match_ = ma ∧ minute = mi ∧ sum = su ∧ goals = go ∧ prices = pr ∧ x = x1 ∧ x3 = gnS (gnV goals prices match_ end_ minute sum) hand x i ∧ x4 = nI i) ns ?_ ?_ lfuel 0 _ _ _ _ _ _ _ _ _ _ _ (Nat.zero_le _) (by unfold lfuel; omega) ?_
  · rintro kk i c go pr en ha ma mi su x1 x3 x4 hi ⟨d1, d2, d3, d4, d5, d6, d7, d8, d9, d10, d11⟩ hk
    subst d1 d2 d3 d4 d5 d6 d7 d8 d9 d10 d11
    unfold t_X11_gain_14_b t_X11_gain_108 t_X11_gain_117
    obtain ⟨m, hm, em⟩ := b8 i hi
    obtain ⟨e, he, ee⟩ := b9 i hi
    obtain ⟨k, hk2, ek⟩ := b10 i hi
    have fin : ∀ v, v = gnS (gnV goals prices match_ end_ minute sum) hand x (i + 1) → Ok (kk (nI ns) goals prices end_ hand match_ minute sum x v (nI (i + 1))) (fun w => w = gnS (gnV goals prices match_ end_ minute sum) hand x ns) := fun v hv => hk _ _ _ _ _ _ _ _ _ _ _ ⟨rfl, rfl, rfl, rfl, rfl, rfl, rfl, rfl, rfl, hv, rfl⟩
    have gv : gnV goals prices match_ end_ minute sum i = if prices (18 * m + 3 * (k / 15) + e) = 0 then 0 else (if eb (ld goals m 6) = nI e then sum i * prices (18 * m + 3 * (k / 15) + e) / 100 else 0) - sum i := by
      unfold gnV
      rw [em, ek, ee, nI_clamp (show m < 2 ^ 31 by omega), nI_clamp (show k < 2 ^ 31 by omega), nI_clamp (show e < 2 ^ 31 by omega)]
    refine Ok.neg (nI_ge hi (by omega)) ?_
    simp only [nI_clamp (show i < 2 ^ 31 by omega), ckn_m (show i < 40 by omega) (by decide), em, ek, ee, div15 (show k < 2 ^ 31 by omega), spot', nI_clamp (show 18 * m + 3 * (k / 15) + e < 2 ^ 31 by omega), ckn_m (show 18 * m + 3 * (k / 15) + e < 216 by omega) (by decide), endOf_ok2 (show m < 12 by omega), bd1_s, nI_1]
    rw [gnS, gv] at fin
    refine Ok.ite (fun h => ?_) (fun h => fin _ (by rw [if_neg h]))
    rw [if_pos h] at fin
    rcases hpr (18 * m + 3 * (k / 15) + e) with hp | ⟨pk, p1, p2, hp⟩
    · rw [hp] at fin ⊢
      refine Ok.pos (by decide) (fin _ ?_)
      rw [if_pos rfl, Int32.add_zero]
    · rw [hp] at fin ⊢
      rw [if_neg (nI_ne0 (by omega) (by omega))] at fin
      refine Ok.neg (nI_nle (by omega) (by omega)) (Ok.ite (fun h2 => fin _ (by rw [if_pos h2])) (fun h2 => fin _ (by rw [if_neg h2])))
  · rintro kk c go pr en ha ma mi su x1 x3 x4 ⟨d1, d2, d3, d4, d5, d6, d7, d8, d9, d10, d11⟩
    subst d1 d2 d3 d4 d5 d6 d7 d8 d9 d10 d11
    unfold t_X11_gain_14_b
    exact Ok.pos (nI_le (Nat.le_refl _) (by omega)) (Ok.ret rfl)
  · exact ⟨rfl, rfl, rfl, rfl, rfl, rfl, rfl, rfl, rfl, rfl, rfl⟩
set_option maxHeartbeats 4000000 in
theorem step_gain (p2_matches : Int32) (p2_stakes : Int32) (p2_meetings : Int32) (p2_newsFirst : Int32) (p2_newsHour : Int32) (p2_acts : Int32) (p2_stories : Int32) (p2_signs : Int32) (p2_ruleMany : Int32) (p1_bets_count : Int32) (p1_bets_near : Int32) (p1_bets_times : Int32) (p1_bets_ties : Int32) (p1_clause_count : Int32) (p1_clause_heldCount : Int32) (p1_games_count : Int32) (p1_games_base : Int32) (p1_ranks_down : Int32) (p1_rumour_count : Int32) (p1_rumour_first : Int32) (p1_rumour_since : Int32) (p1_squad_acts : Int32) (p1_tales_count : Int32) (p2_actMatch : Nat → Int32) (p2_actPlayers : Nat → Int32) (p2_allMoves : Nat → Int32) (p2_debt : Nat → Int32) (p2_goals : Nat → Int32) (p2_guest : Nat → Int32) (p2_home : Nat → Int32) (p2_hour : Nat → Int32) (p2_lateMoves : Nat → Int32) (p2_look : Nat → Int32) (p2_meetA : Nat → Int32) (p2_meetB : Nat → Int32) (p2_meetHour : Nat → Int32) (p2_owner : Nat → Int32) (p2_prices : Nat → Int32) (p2_referee : Nat → Int32) (p2_ruleSign : Nat → Int32) (p2_sign : Nat → Int32) (p2_skill : Nat → Int32) (p2_stakeEnd : Nat → Int32) (p2_stakeHand : Nat → Int32) (p2_stakeMatch : Nat → Int32) (p2_stakeMinute : Nat → Int32) (p2_stakeSum : Nat → Int32) (p2_storyFrom : Nat → Int32) (p2_storyPerson : Nat → Int32) (p2_storyPlace : Nat → Int32) (p2_storyTo : Nat → Int32) (p2_taken : Nat → Int32) (p2_told : Nat → Int32) (p1_bets_end : Nat → Int32) (p1_bets_hand : Nat → Int32) (p1_bets_match : Nat → Int32) (p1_bets_minute : Nat → Int32) (p1_bets_sum : Nat → Int32) (p1_clause_held : Nat → Int32) (p1_clause_signs : Nat → Int32) (p1_games_fee : Nat → Int32) (p1_games_goals : Nat → Int32) (p1_games_guest : Nat → Int32) (p1_games_home : Nat → Int32) (p1_games_hour : Nat → Int32) (p1_games_prices : Nat → Int32) (p1_games_referee : Nat → Int32) (p1_games_skills : Nat → Int32) (p1_ranks_taken : Nat → Int32) (p1_rumour_hour : Nat → Int32) (p1_rumour_one : Nat → Int32) (p1_rumour_other : Nat → Int32) (p1_rumour_owner : Nat → Int32) (p1_squad_actMatch : Nat → Int32) (p1_squad_actPlayers : Nat → Int32) (p1_squad_debts : Nat → Int32) (p1_squad_lateMoves : Nat → Int32) (p1_squad_moves : Nat → Int32) (p1_tales_against : Nat → Int32) (p1_tales_from : Nat → Int32) (p1_tales_person : Nat → Int32) (p1_tales_place : Nat → Int32) (p1_tales_to : Nat → Int32) (hR : Rel p1_games_count p1_games_base p1_games_skills p1_games_home p1_games_guest p1_games_referee p1_games_hour p1_games_fee p1_games_goals p1_games_prices p1_bets_count p1_bets_near p1_bets_times p1_bets_ties p1_bets_hand p1_bets_match p1_bets_end p1_bets_minute p1_bets_sum p1_rumour_count p1_rumour_one p1_rumour_other p1_rumour_hour p1_rumour_owner p1_rumour_first p1_rumour_since p1_squad_moves p1_squad_lateMoves p1_squad_debts p1_squad_acts p1_squad_actMatch p1_squad_actPlayers p1_tales_count p1_tales_person p1_tales_place p1_tales_from p1_tales_to p1_tales_against p1_ranks_down p1_ranks_taken p1_clause_count p1_clause_signs p1_clause_heldCount p1_clause_held p2_matches p2_skill p2_home p2_guest p2_referee p2_hour p2_look p2_goals p2_prices p2_told p2_stakes p2_stakeHand p2_stakeMatch p2_stakeEnd p2_stakeMinute p2_stakeSum p2_meetings p2_meetA p2_meetB p2_meetHour p2_owner p2_newsFirst p2_newsHour p2_allMoves p2_lateMoves p2_debt p2_acts p2_actMatch p2_actPlayers p2_stories p2_storyPerson p2_storyPlace p2_storyFrom p2_storyTo p2_taken p2_signs p2_sign p2_ruleMany p2_ruleSign) (x1 : Int32) : ∃ (r : Int32), t_X10_gain p1_bets_count p1_bets_end p1_bets_hand p1_bets_match p1_bets_minute p1_bets_sum p1_games_goals p1_games_prices x1 = some r ∧ t_X11_gain p2_stakes p2_goals p2_prices p2_stakeEnd p2_stakeHand p2_stakeMatch p2_stakeMinute p2_stakeSum x1 = some r ∧ Rel p1_games_count p1_games_base p1_games_skills p1_games_home p1_games_guest p1_games_referee p1_games_hour p1_games_fee p1_games_goals p1_games_prices p1_bets_count p1_bets_near p1_bets_times p1_bets_ties p1_bets_hand p1_bets_match p1_bets_end p1_bets_minute p1_bets_sum p1_rumour_count p1_rumour_one p1_rumour_other p1_rumour_hour p1_rumour_owner p1_rumour_first p1_rumour_since p1_squad_moves p1_squad_lateMoves p1_squad_debts p1_squad_acts p1_squad_actMatch p1_squad_actPlayers p1_tales_count p1_tales_person p1_tales_place p1_tales_from p1_tales_to p1_tales_against p1_ranks_down p1_ranks_taken p1_clause_count p1_clause_signs p1_clause_heldCount p1_clause_held p2_matches p2_skill p2_home p2_guest p2_referee p2_hour p2_look p2_goals p2_prices p2_told p2_stakes p2_stakeHand p2_stakeMatch p2_stakeEnd p2_stakeMinute p2_stakeSum p2_meetings p2_meetA p2_meetB p2_meetHour p2_owner p2_newsFirst p2_newsHour p2_allMoves p2_lateMoves p2_debt p2_acts p2_actMatch p2_actPlayers p2_stories p2_storyPerson p2_storyPlace p2_storyFrom p2_storyTo p2_taken p2_signs p2_sign p2_ruleMany p2_ruleSign := by
  have hR0 := hR
  obtain ⟨n, ns, nt, na, ny, ng, nh, hG, hB, hM, hO, hQ, hT, hK, hC, h0⟩ := hR
  obtain ⟨g1, g2, g3, g4, g5, g6, g7, g8, g9, g10, g11, g12, g13, f1, f2, f3, f4, f5, f6, f7, f8, f9⟩ := id hG
  subst g2 g3
  have f1 := f1.symm
  have f2 := f2.symm
  have f3 := f3.symm
  have f4 := f4.symm
  have f5 := f5.symm
  have f6 := f6.symm
  have f7 := f7.symm
  subst f1 f2 f3 f4 f5 f6 f7
  obtain ⟨b1, b2, b3, b4, b5, b6, b7, b8, b9, b10, b11, k1, k2, k3, k4, k5, k6, k7, k8⟩ := id hB
  subst b2 b3
  have k1 := k1.symm
  have k2 := k2.symm
  have k3 := k3.symm
  have k4 := k4.symm
  have k5 := k5.symm
  subst k1 k2 k3 k4 k5
  by_cases h1 : 0 ≤ x1 ∧ x1 ≤ 9
  · have e1 : t_X10_gain (nI ns) p1_bets_end p1_bets_hand p1_bets_match p1_bets_minute p1_bets_sum p1_games_goals p1_games_prices x1 = some (gnS (gnV p1_games_goals p1_games_prices p1_bets_match p1_bets_end p1_bets_minute p1_bets_sum) p1_bets_hand x1 ns) := by
      simp only [t_X10_gain, t_X10_gain_24, isHand_ok, bd1_s, if_pos h1, n10, ↓reduceIte, gainOf_ok g1 b1 b8 b9 b10]
    have e2 : t_X11_gain (nI ns) p1_games_goals p1_games_prices p1_bets_end p1_bets_hand p1_bets_match p1_bets_minute p1_bets_sum x1 = some (gnS (gnV p1_games_goals p1_games_prices p1_bets_match p1_bets_end p1_bets_minute p1_bets_sum) p1_bets_hand x1 ns) := by
      simp only [t_X11_gain, isTen_ok, bd1_s, if_pos h1, n10, ↓reduceIte, gain_ok2 g1 b1 g13 b8 b9 b10]
    exact ⟨_, e1, e2, hR0⟩
  · have e1 : t_X10_gain (nI ns) p1_bets_end p1_bets_hand p1_bets_match p1_bets_minute p1_bets_sum p1_games_goals p1_games_prices x1 = some (-2000000000) := by
      simp only [t_X10_gain, t_X10_gain_24, isHand_ok, bd1_s, if_neg h1, ↓reduceIte]
    have e2 : t_X11_gain (nI ns) p1_games_goals p1_games_prices p1_bets_end p1_bets_hand p1_bets_match p1_bets_minute p1_bets_sum x1 = some (-2000000000) := by
      simp only [t_X11_gain, isTen_ok, bd1_s, if_neg h1, ↓reduceIte]
    exact ⟨_, e1, e2, hR0⟩
