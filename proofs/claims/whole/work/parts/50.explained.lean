-- needs 36 37 38 39 48 49
def exB (K hand match_ minute owner : Nat → Int32) (x hr : Int32) (s : Nat) : Bool := decide (match_ s = x ∧ K (owner (hand s).toNatClampNeg).toNatClampNeg ≠ -6 ∧ ¬ hr + minute s / 60 < K (owner (hand s).toNatClampNeg).toNatClampNeg)
def exV (nt ns : Nat) (first since : Int32) (one other hour hand match_ minute owner : Nat → Int32) (x hr : Int32) : Int32 := if first = -6 then 0 else nI (fa_cnt (exB (knS one other hour first.toNatClampNeg since nt) hand match_ minute owner x hr) ns)
theorem div60 {k : Nat} (hk : k < 90) : nI k / 60 = if nI k ≤ 59 then 0 else 1 := by
  rw [show (60 : Int32) = nI 60 from rfl, pk_div (by omega) (by decide) (by decide)]
  by_cases h : k ≤ 59
  · rw [if_pos (show nI k ≤ 59 from nI_le (b := 59) h (by decide)), show k / 60 = 0 by omega]; rfl
  · rw [if_neg (show ¬ nI k ≤ 59 from nI_ge (a := 59) (by omega) (by omega)), show k / 60 = 1 by omega]; rfl
theorem cexp_ok {n ns nt : Nat} (hns : ns ≤ 40) {hand match_ minute : Nat → Int32} (b7 : ∀ j, j < ns → rg (hand j) 10) {c1 c2 first since f2 s2 : Int32} {one other hour meetA meetB meetHour owner owner2 : Nat → Int32} (hM : RM nt c1 one other hour c2 meetA meetB meetHour) (hO : RO owner first since owner2 f2 s2) (known : Nat → Int32) (x hr : Int32) : Ok (t_X7_countExplained (nI ns) (nI nt) first since hand match_ minute hour known one other owner x hr) (fun u => u.1 = exV nt ns first since one other hour hand match_ minute owner x hr) := by
  obtain ⟨m1, m2, m3, m4, m5, m6, m7, pm, p1, p2, p3, p4, p5⟩ := hM
  obtain ⟨o1, o2, o3, -⟩ := hO
  unfold t_X7_countExplained exV
  refine Ok.ite (fun h => Ok.ret (by rw [if_pos h])) (fun h => ?_)
  obtain ⟨f, hf, ef⟩ := o2.resolve_left h
  rw [if_neg h, ef, nI_clamp (by omega)]
  refine Ok.bd1 (spread_ok m1 hf (fun j hj => by rw [p3 j hj]; exact m4 _ (p1 j hj)) (fun j hj => by rw [p4 j hj]; exact m5 _ (p1 j hj)) (fun j hj => by rw [p5 j hj]; exact m7 _ (p1 j hj)) known since) (fun kn hkn => ?_)
  generalize hK : knS one other hour f since nt = K at hkn ⊢
  refine lr_X7_countExplained_29 _ (fun i pc c fi si ph pma pmi ho kn2 on ot ow x1 x2 x4 x5 => pc = nI ns ∧ hand = ph ∧ match_ = pma ∧ minute = pmi ∧ kn = kn2 ∧ owner = ow ∧ x = x1 ∧ hr = x2 ∧ x4 = nI (fa_cnt (exB K hand match_ minute owner x hr) i) ∧ x5 = nI i) ns ?_ ?_ lfuel 0 _ _ _ _ _ _ _ _ _ _ _ _ _ _ _ _ (Nat.zero_le _) (by unfold lfuel; omega) ?_
  · rintro kk i pc c fi si ph pma pmi ho kn2 on ot ow x1 x2 x4 x5 hi ⟨d1, d2, d3, d4, d5, d6, d7, d8, d9, d10⟩ hk
    subst d1 d2 d3 d4 d5 d6 d7 d8 d9 d10
    unfold t_X7_countExplained_29_b t_X7_countExplained_99
    obtain ⟨a, ha, ea⟩ := b7 i hi
    obtain ⟨w, hw, ew⟩ := o1 a ha
    refine Ok.neg (nI_ge hi (by omega)) ?_
    have eb : exB K hand match_ minute owner x hr i = decide (match_ i = x ∧ K w ≠ -6 ∧ ¬ hr + minute i / 60 < K w) := by
      unfold exB
      rw [ea, nI_clamp (by omega), ew, nI_clamp (by omega)]
    simp only [nI_clamp (show i < 2 ^ 31 by omega), ckn_m (show i < 40 by omega) (by decide), ea, nI_clamp (show a < 2 ^ 31 by omega), ckn_m ha (by decide), ew, nI_clamp (show w < 2 ^ 31 by omega), ckn_m hw (by decide), hkn w hw, nI_1]
    have no : ¬ (match_ i = x ∧ K w ≠ -6 ∧ ¬ hr + minute i / 60 < K w) → Ok (kk (nI ns) c fi si hand match_ minute ho kn on ot owner x hr (nI (fa_cnt (exB K hand match_ minute owner x hr) i)) (nI (i + 1))) (fun u => u.1 = nI (fa_cnt (exB K hand match_ minute owner x hr) ns)) := fun hn => hk _ _ _ _ _ _ _ _ _ _ _ _ _ _ _ _ ⟨rfl, rfl, rfl, rfl, rfl, rfl, rfl, rfl, by rw [fa_cnt_no (by rw [eb]; exact decide_eq_false hn)], rfl⟩
    refine Ok.ite (fun h1 => Ok.ite (fun h2 => no (fun q => q.2.1 h2)) (fun h2 => Ok.ite (fun h3 => no (fun q => q.2.2 h3)) (fun h3 => ?_))) (fun h1 => no (fun q => h1 q.1))
    exact hk _ _ _ _ _ _ _ _ _ _ _ _ _ _ _ _ ⟨rfl, rfl, rfl, rfl, rfl, rfl, rfl, rfl, by rw [fa_cnt_yes (by rw [eb]; exact decide_eq_true ⟨h1, h2, h3⟩)], rfl⟩
  · rintro kk pc c fi si ph pma pmi ho kn2 on ot ow x1 x2 x4 x5 ⟨d1, d2, d3, d4, d5, d6, d7, d8, d9, d10⟩
    subst d1 d2 d3 d4 d5 d6 d7 d8 d9 d10
    unfold t_X7_countExplained_29_b
    exact Ok.pos (nI_le (Nat.le_refl _) (by omega)) (Ok.ret rfl)
  · exact ⟨rfl, rfl, rfl, rfl, rfl, rfl, rfl, rfl, rfl, rfl⟩
theorem exof_ok {n ns nt m : Nat} (hns : ns ≤ 40) (hm : m < 12) {hand match_ minute : Nat → Int32} (b7 : ∀ j, j < ns → rg (hand j) 10) (b10 : ∀ j, j < ns → rg (minute j) 90) {c1 c2 first since : Int32} {one other hour meetA meetB meetHour owner owner2 : Nat → Int32} {f2 s2 : Int32} (hM : RM nt c1 one other hour c2 meetA meetB meetHour) (hO : RO owner first since owner2 f2 s2) (knows order ghour : Nat → Int32) : Ok (t_X11_explainedOf (nI ns) (nI nt) first since ghour knows meetA meetB meetHour order owner hand match_ minute (nI m)) (fun u => u.1 = exV nt ns first since one other hour hand match_ minute owner (nI m) (ghour m)) := by
  obtain ⟨o1, o2, o3, -⟩ := hO
  have hR := hM
  obtain ⟨m1, m2, m3, m4, m5, m6, m7, pm, p1, p2, p3, p4, p5⟩ := id hM
  unfold t_X11_explainedOf exV
  rcases o2 with h | ⟨f, hf, ef⟩
  · subst h
    exact Ok.neg (by decide) (Ok.ret (by rw [if_pos rfl]))
  · subst ef
    have hne : ¬ nI f = -6 := fun q => by
      have h2 : ¬ nI f < 0 := nI_pos (by omega)
      rw [q] at h2
      exact absurd (by decide) h2
    rw [if_neg hne, nI_clamp (by omega)]
    refine Ok.pos (nI_pos' (by omega)) (Ok.bd2 (layKnown_ok hf hM o3 knows order) (fun kn od hkn => ?_))
    simp only at hkn
    have hv := knS_kv (one := one) (other := other) (first := f) (hour := hour) o3 (fun j hj => by rw [p5 j hj]; exact m7 _ (p1 j hj)) nt (Nat.le_refl _)
    generalize hK : knS one other hour f since nt = K at hkn hv ⊢
    refine lr_X11_explainedOf_25 _ (fun i pc c fi si gh kn2 ma mb mh od2 ow ph pma pmi x1 x4 x5 => pc = nI ns ∧ hand = ph ∧ match_ = pma ∧ minute = pmi ∧ kn = kn2 ∧ owner = ow ∧ x1 = nI m ∧ ghour = gh ∧ x4 = nI (fa_cnt (exB K hand match_ minute owner (nI m) (ghour m)) i) ∧ x5 = nI i) ns ?_ ?_ lfuel 0 _ _ _ _ _ _ _ _ _ _ _ _ _ _ _ _ _ (Nat.zero_le _) (by unfold lfuel; omega) ?_
    · rintro kk i pc c fi si gh kn2 ma mb mh od2 ow ph pma pmi x1 x4 x5 hi ⟨d1, d2, d3, d4, d5, d6, d7, d8, d9, d10⟩ hk
      subst d1 d2 d3 d4 d5 d6 d7 d8 d9 d10
      unfold t_X11_explainedOf_25_b t_X11_explainedOf_55 t_X11_explainedOf_103 t_X11_explainedOf_104
      obtain ⟨a, ha, ea⟩ := b7 i hi
      obtain ⟨w, hw, ew⟩ := o1 a ha
      obtain ⟨k, hk2, ek⟩ := b10 i hi
      refine Ok.neg (nI_ge hi (by omega)) ?_
      have eb : exB K hand match_ minute owner (nI m) (ghour m) i = decide (match_ i = nI m ∧ K w ≠ -6 ∧ ¬ ghour m + (if nI k ≤ 59 then 0 else 1) < K w) := by
        unfold exB
        rw [ea, nI_clamp (by omega), ew, nI_clamp (by omega), ek, div60 hk2]
      simp only [nI_clamp (show i < 2 ^ 31 by omega), nI_clamp (show m < 2 ^ 31 by omega), ckn_m hm (by decide), ckn_m (show i < 40 by omega) (by decide), ea, ek, nI_clamp (show a < 2 ^ 31 by omega), ckn_m ha (by decide), ew, nI_clamp (show w < 2 ^ 31 by omega), ckn_m hw (by decide), hkn w hw, nI_1, kv_neg (hv w), Int32.add_zero]
      have no : ¬ (match_ i = nI m ∧ K w ≠ -6 ∧ ¬ ghour m + (if nI k ≤ 59 then 0 else 1) < K w) → Ok (kk (nI ns) c fi si ghour kn ma mb mh od2 owner hand match_ minute (nI m) (nI (fa_cnt (exB K hand match_ minute owner (nI m) (ghour m)) i)) (nI (i + 1))) (fun u => u.1 = nI (fa_cnt (exB K hand match_ minute owner (nI m) (ghour m)) ns)) := fun hn => hk _ _ _ _ _ _ _ _ _ _ _ _ _ _ _ _ _ ⟨rfl, rfl, rfl, rfl, rfl, rfl, rfl, rfl, by rw [fa_cnt_no (by rw [eb]; exact decide_eq_false hn)], rfl⟩
      have yes : (match_ i = nI m ∧ K w ≠ -6 ∧ ¬ ghour m + (if nI k ≤ 59 then 0 else 1) < K w) → Ok (kk (nI ns) c fi si ghour kn ma mb mh od2 owner hand match_ minute (nI m) (nI (fa_cnt (exB K hand match_ minute owner (nI m) (ghour m)) i + 1)) (nI (i + 1))) (fun u => u.1 = nI (fa_cnt (exB K hand match_ minute owner (nI m) (ghour m)) ns)) := fun hn => hk _ _ _ _ _ _ _ _ _ _ _ _ _ _ _ _ _ ⟨rfl, rfl, rfl, rfl, rfl, rfl, rfl, rfl, by rw [fa_cnt_yes (by rw [eb]; exact decide_eq_true hn)], rfl⟩
      by_cases hc : nI k ≤ 59
      · simp only [if_pos hc, Int32.add_zero] at no yes
        refine Ok.pos hc (Ok.ite (fun h1 => Ok.ite (fun h2 => no (fun q => q.2.1 h2)) (fun h2 => Ok.ite (fun h3 => no (fun q => q.2.2 h3)) (fun h3 => yes ⟨h1, h2, h3⟩))) (fun h1 => no (fun q => h1 q.1)))
      · simp only [if_neg hc] at no yes
        refine Ok.neg hc (Ok.ite (fun h1 => Ok.ite (fun h2 => no (fun q => q.2.1 h2)) (fun h2 => Ok.ite (fun h3 => no (fun q => q.2.2 h3)) (fun h3 => yes ⟨h1, h2, h3⟩))) (fun h1 => no (fun q => h1 q.1)))
    · rintro kk pc c fi si gh kn2 ma mb mh od2 ow ph pma pmi x1 x4 x5 ⟨d1, d2, d3, d4, d5, d6, d7, d8, d9, d10⟩
      subst d1 d2 d3 d4 d5 d6 d7 d8 d9 d10
      unfold t_X11_explainedOf_25_b
      exact Ok.pos (nI_le (Nat.le_refl _) (by omega)) (Ok.ret rfl)
    · exact ⟨rfl, rfl, rfl, rfl, rfl, rfl, rfl, rfl, rfl, rfl⟩
theorem countOn_ok {ns : Nat} (hns : ns ≤ 40) (match_ : Nat → Int32) (x : Int32) : t_X0_countOn (nI ns) match_ x = some (nI (fa_cnt (fun s => decide (match_ s = x)) ns)) := by
  apply Ok.to
  unfold t_X0_countOn
  refine lr_X0_countOn_4 _ (fun i c ma x1 x2 x3 => c = nI ns ∧ match_ = ma ∧ x = x1 ∧ x2 = nI (fa_cnt (fun s => decide (match_ s = x)) i) ∧ x3 = nI i) ns ?_ ?_ lfuel 0 _ _ _ _ _ (Nat.zero_le _) (by unfold lfuel; omega) ?_
  · rintro kk i c ma x1 x2 x3 hi ⟨d1, d2, d3, d4, d5⟩ hk
    subst d1 d2 d3 d4 d5
    unfold t_X0_countOn_4_b t_X0_countOn_25
    have hin := nI_in (c := i) (N := 40) (by omega) (by decide)
    refine Ok.neg (nI_ge hi (by omega)) (Ok.ck hin ?_)
    rw [nI_clamp (by omega)]
    refine Ok.ite (fun h => hk _ _ _ _ _ ⟨rfl, rfl, rfl, ?_, nI_1 i⟩) (fun h => hk _ _ _ _ _ ⟨rfl, rfl, rfl, ?_, nI_1 i⟩)
    · rw [nI_1, fa_cnt_yes (decide_eq_true h)]
    · rw [fa_cnt_no (decide_eq_false h)]
  · rintro kk c ma x1 x2 x3 ⟨d1, d2, d3, d4, d5⟩
    subst d1 d2 d3 d4 d5
    unfold t_X0_countOn_4_b
    exact Ok.pos (nI_le (Nat.le_refl _) (by omega)) (Ok.ret rfl)
  · exact ⟨rfl, rfl, rfl, rfl, rfl⟩
theorem stakesOn_ok {ns : Nat} (hns : ns ≤ 40) (match_ : Nat → Int32) (x : Int32) : t_X11_stakesOn (nI ns) match_ x = some (nI (fa_cnt (fun s => decide (match_ s = x)) ns)) := by
  apply Ok.to
  unfold t_X11_stakesOn
  refine lr_X11_stakesOn_4 _ (fun i c ma x1 x2 x3 => c = nI ns ∧ match_ = ma ∧ x = x1 ∧ x2 = nI (fa_cnt (fun s => decide (match_ s = x)) i) ∧ x3 = nI i) ns ?_ ?_ lfuel 0 _ _ _ _ _ (Nat.zero_le _) (by unfold lfuel; omega) ?_
  · rintro kk i c ma x1 x2 x3 hi ⟨d1, d2, d3, d4, d5⟩ hk
    subst d1 d2 d3 d4 d5
    unfold t_X11_stakesOn_4_b t_X11_stakesOn_28
    have hin := nI_in (c := i) (N := 40) (by omega) (by decide)
    refine Ok.neg (nI_ge hi (by omega)) (Ok.ck hin ?_)
    rw [nI_clamp (by omega)]
    refine Ok.ite (fun h => hk _ _ _ _ _ ⟨rfl, rfl, rfl, ?_, nI_1 i⟩) (fun h => hk _ _ _ _ _ ⟨rfl, rfl, rfl, ?_, nI_1 i⟩)
    · rw [nI_1, fa_cnt_yes (decide_eq_true h)]
    · rw [fa_cnt_no (decide_eq_false h), Int32.add_zero]
  · rintro kk c ma x1 x2 x3 ⟨d1, d2, d3, d4, d5⟩
    subst d1 d2 d3 d4 d5
    unfold t_X11_stakesOn_4_b
    exact Ok.pos (nI_le (Nat.le_refl _) (by omega)) (Ok.ret rfl)
  · exact ⟨rfl, rfl, rfl, rfl, rfl⟩
set_option maxHeartbeats 4000000 in
theorem step_knew (p2_matches : Int32) (p2_stakes : Int32) (p2_meetings : Int32) (p2_newsFirst : Int32) (p2_newsHour : Int32) (p2_acts : Int32) (p2_stories : Int32) (p2_signs : Int32) (p2_ruleMany : Int32) (p1_bets_count : Int32) (p1_bets_near : Int32) (p1_bets_times : Int32) (p1_bets_ties : Int32) (p1_clause_count : Int32) (p1_clause_heldCount : Int32) (p1_games_count : Int32) (p1_games_base : Int32) (p1_ranks_down : Int32) (p1_rumour_count : Int32) (p1_rumour_first : Int32) (p1_rumour_since : Int32) (p1_squad_acts : Int32) (p1_tales_count : Int32) (p2_actMatch : Nat → Int32) (p2_actPlayers : Nat → Int32) (p2_allMoves : Nat → Int32) (p2_debt : Nat → Int32) (p2_goals : Nat → Int32) (p2_guest : Nat → Int32) (p2_home : Nat → Int32) (p2_hour : Nat → Int32) (p2_knows : Nat → Int32) (p2_lateMoves : Nat → Int32) (p2_look : Nat → Int32) (p2_meetA : Nat → Int32) (p2_meetB : Nat → Int32) (p2_meetHour : Nat → Int32) (p2_order : Nat → Int32) (p2_owner : Nat → Int32) (p2_prices : Nat → Int32) (p2_referee : Nat → Int32) (p2_ruleSign : Nat → Int32) (p2_sign : Nat → Int32) (p2_skill : Nat → Int32) (p2_stakeEnd : Nat → Int32) (p2_stakeHand : Nat → Int32) (p2_stakeMatch : Nat → Int32) (p2_stakeMinute : Nat → Int32) (p2_stakeSum : Nat → Int32) (p2_storyFrom : Nat → Int32) (p2_storyPerson : Nat → Int32) (p2_storyPlace : Nat → Int32) (p2_storyTo : Nat → Int32) (p2_taken : Nat → Int32) (p2_told : Nat → Int32) (p1_bets_end : Nat → Int32) (p1_bets_hand : Nat → Int32) (p1_bets_match : Nat → Int32) (p1_bets_minute : Nat → Int32) (p1_bets_sum : Nat → Int32) (p1_clause_held : Nat → Int32) (p1_clause_signs : Nat → Int32) (p1_games_fee : Nat → Int32) (p1_games_goals : Nat → Int32) (p1_games_guest : Nat → Int32) (p1_games_home : Nat → Int32) (p1_games_hour : Nat → Int32) (p1_games_prices : Nat → Int32) (p1_games_referee : Nat → Int32) (p1_games_skills : Nat → Int32) (p1_ranks_taken : Nat → Int32) (p1_rumour_hour : Nat → Int32) (p1_rumour_known : Nat → Int32) (p1_rumour_one : Nat → Int32) (p1_rumour_other : Nat → Int32) (p1_rumour_owner : Nat → Int32) (p1_squad_actMatch : Nat → Int32) (p1_squad_actPlayers : Nat → Int32) (p1_squad_debts : Nat → Int32) (p1_squad_lateMoves : Nat → Int32) (p1_squad_moves : Nat → Int32) (p1_tales_against : Nat → Int32) (p1_tales_from : Nat → Int32) (p1_tales_person : Nat → Int32) (p1_tales_place : Nat → Int32) (p1_tales_to : Nat → Int32) (hR : Rel p1_games_count p1_games_base p1_games_skills p1_games_home p1_games_guest p1_games_referee p1_games_hour p1_games_fee p1_games_goals p1_games_prices p1_bets_count p1_bets_near p1_bets_times p1_bets_ties p1_bets_hand p1_bets_match p1_bets_end p1_bets_minute p1_bets_sum p1_rumour_count p1_rumour_one p1_rumour_other p1_rumour_hour p1_rumour_owner p1_rumour_first p1_rumour_since p1_squad_moves p1_squad_lateMoves p1_squad_debts p1_squad_acts p1_squad_actMatch p1_squad_actPlayers p1_tales_count p1_tales_person p1_tales_place p1_tales_from p1_tales_to p1_tales_against p1_ranks_down p1_ranks_taken p1_clause_count p1_clause_signs p1_clause_heldCount p1_clause_held p2_matches p2_skill p2_home p2_guest p2_referee p2_hour p2_look p2_goals p2_prices p2_told p2_stakes p2_stakeHand p2_stakeMatch p2_stakeEnd p2_stakeMinute p2_stakeSum p2_meetings p2_meetA p2_meetB p2_meetHour p2_owner p2_newsFirst p2_newsHour p2_allMoves p2_lateMoves p2_debt p2_acts p2_actMatch p2_actPlayers p2_stories p2_storyPerson p2_storyPlace p2_storyFrom p2_storyTo p2_taken p2_signs p2_sign p2_ruleMany p2_ruleSign) (x1 x2 x3 : Int32) : ∃ (r : Int32) (z0 : Nat → Int32) (y0 : Nat → Int32) (y1 : Nat → Int32), t_X10_knew p1_rumour_count p1_rumour_hour p1_rumour_known p1_rumour_one p1_rumour_other x1 x2 x3 = some (r, z0) ∧ t_X11_knew p2_meetings p2_knows p2_meetA p2_meetB p2_meetHour p2_order x1 x2 x3 = some (r, y0, y1) ∧ Rel p1_games_count p1_games_base p1_games_skills p1_games_home p1_games_guest p1_games_referee p1_games_hour p1_games_fee p1_games_goals p1_games_prices p1_bets_count p1_bets_near p1_bets_times p1_bets_ties p1_bets_hand p1_bets_match p1_bets_end p1_bets_minute p1_bets_sum p1_rumour_count p1_rumour_one p1_rumour_other p1_rumour_hour p1_rumour_owner p1_rumour_first p1_rumour_since p1_squad_moves p1_squad_lateMoves p1_squad_debts p1_squad_acts p1_squad_actMatch p1_squad_actPlayers p1_tales_count p1_tales_person p1_tales_place p1_tales_from p1_tales_to p1_tales_against p1_ranks_down p1_ranks_taken p1_clause_count p1_clause_signs p1_clause_heldCount p1_clause_held p2_matches p2_skill p2_home p2_guest p2_referee p2_hour p2_look p2_goals p2_prices p2_told p2_stakes p2_stakeHand p2_stakeMatch p2_stakeEnd p2_stakeMinute p2_stakeSum p2_meetings p2_meetA p2_meetB p2_meetHour p2_owner p2_newsFirst p2_newsHour p2_allMoves p2_lateMoves p2_debt p2_acts p2_actMatch p2_actPlayers p2_stories p2_storyPerson p2_storyPlace p2_storyFrom p2_storyTo p2_taken p2_signs p2_sign p2_ruleMany p2_ruleSign := by
  have hR0 := hR
  obtain ⟨n, ns, nt, na, ny, ng, nh, hG, hB, hM, hO, hQ, hT, hK, hC, h0⟩ := hR
  obtain ⟨m1, m2, m3, m4, m5, m6, m7, pm, p1, p2, p3, p4, p5⟩ := id hM
  subst m2 m3
  by_cases h1 : (0 ≤ x1 ∧ x1 ≤ 9) ∧ (0 ≤ x3 ∧ x3 ≤ 9)
  · by_cases h2 : 0 ≤ x2 ∧ x2 ≤ 999
    · obtain ⟨h1, h3⟩ := h1
      obtain ⟨f, hf, rfl⟩ := rgo 9 rfl h1
      obtain ⟨w, hw, rfl⟩ := rgo 9 rfl h3
      obtain ⟨a, ha, ea⟩ := rgo 999 rfl h2
      have ra : rg x2 1000 := ⟨a, by omega, ea⟩
      obtain ⟨k1, ek1, hk1⟩ := spread_ok (one := p1_rumour_one) (other := p1_rumour_other) (hour := p1_rumour_hour) m1 (show f < 10 by omega) (fun j hj => by rw [p3 j hj]; exact m4 _ (p1 j hj)) (fun j hj => by rw [p4 j hj]; exact m5 _ (p1 j hj)) (fun j hj => by rw [p5 j hj]; exact m7 _ (p1 j hj)) p1_rumour_known x2
      obtain ⟨⟨k2, od⟩, ek2, hk2⟩ := layKnown_ok (show f < 10 by omega) hM ra p2_knows p2_order
      simp only at hk2
      have e1 : t_X10_knew (nI nt) p1_rumour_hour p1_rumour_known p1_rumour_one p1_rumour_other (nI f) x2 (nI w) = some (knS p1_rumour_one p1_rumour_other p1_rumour_hour f x2 nt w, k1) := by
        simp only [t_X10_knew, isPerson_ok, isHour_ok, bd1_s, if_pos h1, if_pos h2, if_pos h3, n10, ↓reduceIte, ek1, nI_clamp (show w < 2 ^ 31 by omega), ckn_m (show w < 10 by omega) (by decide), hk1 w (by omega)]
      have e2 : t_X11_knew (nI nt) p2_knows p2_meetA p2_meetB p2_meetHour p2_order (nI f) x2 (nI w) = some (knS p1_rumour_one p1_rumour_other p1_rumour_hour f x2 nt w, k2, od) := by
        simp only [t_X11_knew, isTen_ok, in_ok, bd1_s, if_pos h1, if_pos h2, if_pos h3, n10, ↓reduceIte, ek2, bd2_s, nI_clamp (show w < 2 ^ 31 by omega), ckn_m (show w < 10 by omega) (by decide), hk2 w (by omega)]
      exact ⟨_, _, _, _, e1, e2, hR0⟩
    · have e1 : t_X10_knew (nI nt) p1_rumour_hour p1_rumour_known p1_rumour_one p1_rumour_other x1 x2 x3 = some (-2, p1_rumour_known) := by
        simp only [t_X10_knew, isPerson_ok, isHour_ok, bd1_s, if_pos h1.1, if_neg h2, if_pos h1.2, n10, ↓reduceIte]
      have e2 : t_X11_knew (nI nt) p2_knows p2_meetA p2_meetB p2_meetHour p2_order x1 x2 x3 = some (-2, p2_knows, p2_order) := by
        simp only [t_X11_knew, isTen_ok, in_ok, bd1_s, if_pos h1.1, if_neg h2, if_pos h1.2, n10, ↓reduceIte]
      exact ⟨_, _, _, _, e1, e2, hR0⟩
  · have e1 : t_X10_knew (nI nt) p1_rumour_hour p1_rumour_known p1_rumour_one p1_rumour_other x1 x2 x3 = some (-1, p1_rumour_known) := by
      simp only [t_X10_knew, isPerson_ok, isHour_ok, bd1_s, bz]
      (repeat' split) <;> first | rfl | (exfalso; apply h1; refine ⟨?_, ?_⟩ <;> assumption)
    have e2 : t_X11_knew (nI nt) p2_knows p2_meetA p2_meetB p2_meetHour p2_order x1 x2 x3 = some (-1, p2_knows, p2_order) := by
      simp only [t_X11_knew, isTen_ok, in_ok, bd1_s, bz]
      (repeat' split) <;> first | rfl | (exfalso; apply h1; refine ⟨?_, ?_⟩ <;> assumption)
    exact ⟨_, _, _, _, e1, e2, hR0⟩
set_option maxHeartbeats 4000000 in
theorem step_explained (p2_matches : Int32) (p2_stakes : Int32) (p2_meetings : Int32) (p2_newsFirst : Int32) (p2_newsHour : Int32) (p2_acts : Int32) (p2_stories : Int32) (p2_signs : Int32) (p2_ruleMany : Int32) (p1_bets_count : Int32) (p1_bets_near : Int32) (p1_bets_times : Int32) (p1_bets_ties : Int32) (p1_clause_count : Int32) (p1_clause_heldCount : Int32) (p1_games_count : Int32) (p1_games_base : Int32) (p1_ranks_down : Int32) (p1_rumour_count : Int32) (p1_rumour_first : Int32) (p1_rumour_since : Int32) (p1_squad_acts : Int32) (p1_tales_count : Int32) (p2_actMatch : Nat → Int32) (p2_actPlayers : Nat → Int32) (p2_allMoves : Nat → Int32) (p2_debt : Nat → Int32) (p2_goals : Nat → Int32) (p2_guest : Nat → Int32) (p2_home : Nat → Int32) (p2_hour : Nat → Int32) (p2_knows : Nat → Int32) (p2_lateMoves : Nat → Int32) (p2_look : Nat → Int32) (p2_meetA : Nat → Int32) (p2_meetB : Nat → Int32) (p2_meetHour : Nat → Int32) (p2_order : Nat → Int32) (p2_owner : Nat → Int32) (p2_prices : Nat → Int32) (p2_referee : Nat → Int32) (p2_ruleSign : Nat → Int32) (p2_sign : Nat → Int32) (p2_skill : Nat → Int32) (p2_stakeEnd : Nat → Int32) (p2_stakeHand : Nat → Int32) (p2_stakeMatch : Nat → Int32) (p2_stakeMinute : Nat → Int32) (p2_stakeSum : Nat → Int32) (p2_storyFrom : Nat → Int32) (p2_storyPerson : Nat → Int32) (p2_storyPlace : Nat → Int32) (p2_storyTo : Nat → Int32) (p2_taken : Nat → Int32) (p2_told : Nat → Int32) (p1_bets_end : Nat → Int32) (p1_bets_hand : Nat → Int32) (p1_bets_match : Nat → Int32) (p1_bets_minute : Nat → Int32) (p1_bets_sum : Nat → Int32) (p1_clause_held : Nat → Int32) (p1_clause_signs : Nat → Int32) (p1_games_fee : Nat → Int32) (p1_games_goals : Nat → Int32) (p1_games_guest : Nat → Int32) (p1_games_home : Nat → Int32) (p1_games_hour : Nat → Int32) (p1_games_prices : Nat → Int32) (p1_games_referee : Nat → Int32) (p1_games_skills : Nat → Int32) (p1_ranks_taken : Nat → Int32) (p1_rumour_hour : Nat → Int32) (p1_rumour_known : Nat → Int32) (p1_rumour_one : Nat → Int32) (p1_rumour_other : Nat → Int32) (p1_rumour_owner : Nat → Int32) (p1_squad_actMatch : Nat → Int32) (p1_squad_actPlayers : Nat → Int32) (p1_squad_debts : Nat → Int32) (p1_squad_lateMoves : Nat → Int32) (p1_squad_moves : Nat → Int32) (p1_tales_against : Nat → Int32) (p1_tales_from : Nat → Int32) (p1_tales_person : Nat → Int32) (p1_tales_place : Nat → Int32) (p1_tales_to : Nat → Int32) (hR : Rel p1_games_count p1_games_base p1_games_skills p1_games_home p1_games_guest p1_games_referee p1_games_hour p1_games_fee p1_games_goals p1_games_prices p1_bets_count p1_bets_near p1_bets_times p1_bets_ties p1_bets_hand p1_bets_match p1_bets_end p1_bets_minute p1_bets_sum p1_rumour_count p1_rumour_one p1_rumour_other p1_rumour_hour p1_rumour_owner p1_rumour_first p1_rumour_since p1_squad_moves p1_squad_lateMoves p1_squad_debts p1_squad_acts p1_squad_actMatch p1_squad_actPlayers p1_tales_count p1_tales_person p1_tales_place p1_tales_from p1_tales_to p1_tales_against p1_ranks_down p1_ranks_taken p1_clause_count p1_clause_signs p1_clause_heldCount p1_clause_held p2_matches p2_skill p2_home p2_guest p2_referee p2_hour p2_look p2_goals p2_prices p2_told p2_stakes p2_stakeHand p2_stakeMatch p2_stakeEnd p2_stakeMinute p2_stakeSum p2_meetings p2_meetA p2_meetB p2_meetHour p2_owner p2_newsFirst p2_newsHour p2_allMoves p2_lateMoves p2_debt p2_acts p2_actMatch p2_actPlayers p2_stories p2_storyPerson p2_storyPlace p2_storyFrom p2_storyTo p2_taken p2_signs p2_sign p2_ruleMany p2_ruleSign) (x1 x2 : Int32) : ∃ (r : Int32) (z0 : Nat → Int32) (y0 : Nat → Int32) (y1 : Nat → Int32), t_X10_explained p1_bets_count p1_games_count p1_rumour_count p1_rumour_first p1_rumour_since p1_bets_hand p1_bets_match p1_bets_minute p1_games_hour p1_rumour_hour p1_rumour_known p1_rumour_one p1_rumour_other p1_rumour_owner x1 x2 = some (r, z0) ∧ t_X11_explained p2_matches p2_stakes p2_meetings p2_newsFirst p2_newsHour p2_hour p2_knows p2_meetA p2_meetB p2_meetHour p2_order p2_owner p2_stakeHand p2_stakeMatch p2_stakeMinute x1 x2 = some (r, y0, y1) ∧ Rel p1_games_count p1_games_base p1_games_skills p1_games_home p1_games_guest p1_games_referee p1_games_hour p1_games_fee p1_games_goals p1_games_prices p1_bets_count p1_bets_near p1_bets_times p1_bets_ties p1_bets_hand p1_bets_match p1_bets_end p1_bets_minute p1_bets_sum p1_rumour_count p1_rumour_one p1_rumour_other p1_rumour_hour p1_rumour_owner p1_rumour_first p1_rumour_since p1_squad_moves p1_squad_lateMoves p1_squad_debts p1_squad_acts p1_squad_actMatch p1_squad_actPlayers p1_tales_count p1_tales_person p1_tales_place p1_tales_from p1_tales_to p1_tales_against p1_ranks_down p1_ranks_taken p1_clause_count p1_clause_signs p1_clause_heldCount p1_clause_held p2_matches p2_skill p2_home p2_guest p2_referee p2_hour p2_look p2_goals p2_prices p2_told p2_stakes p2_stakeHand p2_stakeMatch p2_stakeEnd p2_stakeMinute p2_stakeSum p2_meetings p2_meetA p2_meetB p2_meetHour p2_owner p2_newsFirst p2_newsHour p2_allMoves p2_lateMoves p2_debt p2_acts p2_actMatch p2_actPlayers p2_stories p2_storyPerson p2_storyPlace p2_storyFrom p2_storyTo p2_taken p2_signs p2_sign p2_ruleMany p2_ruleSign := by
  have hR0 := hR
  obtain ⟨n, ns, nt, na, ny, ng, nh, hG, hB, hM, hO, hQ, hT, hK, hC, h0⟩ := hR
  obtain ⟨g1, g2, g3, g4, g5, g6, g7, g8, g9, g10, g11, g12, g13, f1, f2, f3, f4, f5, f6, f7, f8, f9⟩ := id hG
  subst g2 g3
  have f1 := f1.symm
  have f2 := f2.symm
  have f3 := f3.symm
  have f4 := f4.symm
  have f5 := f5.symm
  have f6 := f6.symm
  have f7 := f7.symm
  subst f1 f2 f3 f4 f5 f6 f7
  obtain ⟨b1, b2, b3, b4, b5, b6, b7, b8, b9, b10, b11, k1, k2, k3, k4, k5, k6, k7, k8⟩ := id hB
  subst b2 b3
  have k1 := k1.symm
  have k2 := k2.symm
  have k3 := k3.symm
  have k4 := k4.symm
  have k5 := k5.symm
  subst k1 k2 k3 k4 k5
  obtain ⟨m1, m2, m3, -⟩ := id hM
  subst m2 m3
  obtain ⟨o1, o2, o3, o4, o5, o6⟩ := id hO
  have o4 := o4.symm
  have o5 := o5.symm
  have o6 := o6.symm
  subst o4 o5 o6
  by_cases h1 : 0 ≤ x1 ∧ x1 < nI n
  · by_cases h2 : 0 ≤ x2 ∧ x2 ≤ 1
    · obtain ⟨m, hm, rfl⟩ := rgm (by omega) h1
      have hm' : m < 12 := by omega
      obtain ⟨⟨v1, kn1⟩, ev1, hv1⟩ := cexp_ok (n := n) (match_ := p1_bets_match) (minute := p1_bets_minute) b1 b7 hM hO p1_rumour_known (nI m) (p1_games_hour m)
      obtain ⟨⟨v2, kn2, od⟩, ev2, hv2⟩ := exof_ok (n := n) (match_ := p1_bets_match) b1 hm' b7 b10 hM hO p2_knows p2_order p1_games_hour
      simp only at hv1 hv2
      rw [← hv1] at hv2
      have e1 : t_X10_explained (nI ns) (nI n) (nI nt) p1_rumour_first p1_rumour_since p1_bets_hand p1_bets_match p1_bets_minute p1_games_hour p1_rumour_hour p1_rumour_known p1_rumour_one p1_rumour_other p1_rumour_owner (nI m) x2 = some (if x2 = 0 then v1 else nI (fa_cnt (fun s => decide (p1_bets_match s = nI m)) ns) - v1, kn1) := by
        simp only [t_X10_explained, t_X10_explained_65, has_ok g1, within_ok, bd1_s, if_pos h1, if_pos h2, n10, ↓reduceIte, nI_clamp (show m < 2 ^ 31 by omega), ckn_m hm' (by decide), ev1, bd2_s, countOn_ok b1]
        split <;> rfl
      have e2 : t_X11_explained (nI n) (nI ns) (nI nt) p1_rumour_first p1_rumour_since p1_games_hour p2_knows p2_meetA p2_meetB p2_meetHour p2_order p1_rumour_owner p1_bets_hand p1_bets_match p1_bets_minute (nI m) x2 = some (if x2 = 0 then v1 else nI (fa_cnt (fun s => decide (p1_bets_match s = nI m)) ns) - v1, kn2, od) := by
        simp only [t_X11_explained, t_X11_explained_43, isMatch_ok g1, in_ok, bd1_s, if_pos h1, if_pos h2, n10, ↓reduceIte, ev2, bd3_s, stakesOn_ok b1, hv2]
        split <;> rfl
      exact ⟨_, _, _, _, e1, e2, hR0⟩
    · have e1 : t_X10_explained (nI ns) (nI n) (nI nt) p1_rumour_first p1_rumour_since p1_bets_hand p1_bets_match p1_bets_minute p1_games_hour p1_rumour_hour p1_rumour_known p1_rumour_one p1_rumour_other p1_rumour_owner x1 x2 = some (-2, p1_rumour_known) := by
        simp only [t_X10_explained, has_ok g1, within_ok, bd1_s, if_pos h1, if_neg h2, n10, ↓reduceIte]
      have e2 : t_X11_explained (nI n) (nI ns) (nI nt) p1_rumour_first p1_rumour_since p1_games_hour p2_knows p2_meetA p2_meetB p2_meetHour p2_order p1_rumour_owner p1_bets_hand p1_bets_match p1_bets_minute x1 x2 = some (-2, p2_knows, p2_order) := by
        simp only [t_X11_explained, isMatch_ok g1, in_ok, bd1_s, if_pos h1, if_neg h2, n10, ↓reduceIte]
      exact ⟨_, _, _, _, e1, e2, hR0⟩
  · have e1 : t_X10_explained (nI ns) (nI n) (nI nt) p1_rumour_first p1_rumour_since p1_bets_hand p1_bets_match p1_bets_minute p1_games_hour p1_rumour_hour p1_rumour_known p1_rumour_one p1_rumour_other p1_rumour_owner x1 x2 = some (-1, p1_rumour_known) := by
      simp only [t_X10_explained, has_ok g1, bd1_s, if_neg h1, ↓reduceIte]
    have e2 : t_X11_explained (nI n) (nI ns) (nI nt) p1_rumour_first p1_rumour_since p1_games_hour p2_knows p2_meetA p2_meetB p2_meetHour p2_order p1_rumour_owner p1_bets_hand p1_bets_match p1_bets_minute x1 x2 = some (-1, p2_knows, p2_order) := by
      simp only [t_X11_explained, isMatch_ok g1, bd1_s, if_neg h1, ↓reduceIte]
    exact ⟨_, _, _, _, e1, e2, hR0⟩
