-- the text and the facts, as the reference does it
set_option maxHeartbeats 4000000 in
theorem isProof_ok {nh : Nat} (hnh : nh ≤ 40) {F : Nat → Int32} {matches_ : Int32} {stakes : Int32} {meetings : Int32} {newsFirst : Int32} {newsHour : Int32} {acts : Int32} {actMatch : Nat → Int32} {actPlayers : Nat → Int32} {debt : Nat → Int32} {goals : Nat → Int32} {guest : Nat → Int32} {home : Nat → Int32} {hour : Nat → Int32} {meetA : Nat → Int32} {meetB : Nat → Int32} {meetHour : Nat → Int32} {owner : Nat → Int32} {prices : Nat → Int32} {referee : Nat → Int32} {ruleSign : Nat → Int32} {skill : Nat → Int32} {stakeEnd : Nat → Int32} {stakeHand : Nat → Int32} {stakeMatch : Nat → Int32} {stakeMinute : Nat → Int32} {stakeSum : Nat → Int32} {told : Nat → Int32} (x1 : Int32) (ht : nh = 0 ∨ textOk ruleSign nh) (hF : ∀ j, j < 5 → ∀ (upper : Int64) (lower : Int64) (greatAt : Int32) (cameFrom : Nat → Int32) (handsOn : Nat → Int32) (knows : Nat → Int32) (mate : Nat → Int32) (next : Nat → Int64) (ones : Nat → Int32) (order : Nat → Int32) (queue : Nat → Int32) (ways : Nat → Int64), Ok (t_X11_factOf matches_ stakes meetings newsFirst newsHour acts upper lower greatAt actMatch actPlayers cameFrom debt goals guest handsOn home hour knows mate meetA meetB meetHour next ones order owner prices queue referee skill stakeEnd stakeHand stakeMatch stakeMinute stakeSum told ways x1 (nI (j + 1))) (fun v => v.1 = F j)) (upper : Int64) (lower : Int64) (greatAt : Int32) (cameFrom : Nat → Int32) (handsOn : Nat → Int32) (knows : Nat → Int32) (mate : Nat → Int32) (next : Nat → Int64) (ones : Nat → Int32) (order : Nat → Int32) (queue : Nat → Int32) (ways : Nat → Int64) : Ok (t_X11_isProof matches_ stakes meetings newsFirst newsHour acts (nI nh) upper lower greatAt actMatch actPlayers cameFrom debt goals guest handsOn home hour knows mate meetA meetB meetHour next ones order owner prices queue referee ruleSign skill stakeEnd stakeHand stakeMatch stakeMinute stakeSum told ways x1) (fun v => Bz v.1 (TT F ruleSign nh)) := by
  unfold t_X11_isProof
  refine lr_X11_isProof_7 _ (fun i matches_q stakesq meetingsq newsFirstq newsHourq actsq ruleManyq upperq lowerq greatAtq actMatchq actPlayersq cameFromq debtq goalsq guestq handsOnq homeq hourq knowsq mateq meetAq meetBq meetHourq nextq onesq orderq ownerq pricesq queueq refereeq ruleSignq skillq stakeEndq stakeHandq stakeMatchq stakeMinuteq stakeSumq toldq waysq y1 x2 x3 x4 => matches_ = matches_q ∧ stakes = stakesq ∧ meetings = meetingsq ∧ newsFirst = newsFirstq ∧ newsHour = newsHourq ∧ acts = actsq ∧ actMatch = actMatchq ∧ actPlayers = actPlayersq ∧ debt = debtq ∧ goals = goalsq ∧ guest = guestq ∧ home = homeq ∧ hour = hourq ∧ meetA = meetAq ∧ meetB = meetBq ∧ meetHour = meetHourq ∧ owner = ownerq ∧ prices = pricesq ∧ referee = refereeq ∧ ruleSign = ruleSignq ∧ skill = skillq ∧ stakeEnd = stakeEndq ∧ stakeHand = stakeHandq ∧ stakeMatch = stakeMatchq ∧ stakeMinute = stakeMinuteq ∧ stakeSum = stakeSumq ∧ told = toldq ∧ nI nh = ruleManyq ∧ x1 = y1 ∧ ∃ k, i ≤ k ∧ x4 = nI k ∧ ((k ≤ nh ∧ autoN ruleSign k = some 0 ∧ Bz x2 (anA F ruleSign nh k) ∧ Bz x3 (alA F ruleSign nh k)) ∨ (k = nh + 1 ∧ Bz x2 (TT F ruleSign nh)))) (nh + 1) ?_ ?_ lfuel 0 _ _ _ _ _ _ _ _ _ _ _ _ _ _ _ _ _ _ _ _ _ _ _ _ _ _ _ _ _ _ _ _ _ _ _ _ _ _ _ _ _ _ _ _ (Nat.zero_le _) (by unfold lfuel; omega) ?_
  · rintro kk i matches_q stakesq meetingsq newsFirstq newsHourq actsq ruleManyq upperq lowerq greatAtq actMatchq actPlayersq cameFromq debtq goalsq guestq handsOnq homeq hourq knowsq mateq meetAq meetBq meetHourq nextq onesq orderq ownerq pricesq queueq refereeq ruleSignq skillq stakeEndq stakeHandq stakeMatchq stakeMinuteq stakeSumq toldq waysq y1 x2 x3 x4 hi ⟨d1, d2, d3, d4, d5, d6, d7, d8, d9, d10, d11, d12, d13, d14, d15, d16, d17, d18, d19, d20, d21, d22, d23, d24, d25, d26, d27, d28, e0, k, e1, e2, e3⟩ hk
    subst d1 d2 d3 d4 d5 d6 d7 d8 d9 d10 d11 d12 d13 d14 d15 d16 d17 d18 d19 d20 d21 d22 d23 d24 d25 d26 d27 d28 e0 e2
    unfold t_X11_isProof_7_b
    by_cases hkn : nh ≤ k
    · refine Ok.pos (nI_le hkn (by omega)) ?_
      have hz : Bz x2 (TT F ruleSign nh) := by
        rcases e3 with ⟨f1, f2, f3, f4⟩ | ⟨f1, f2⟩
        · have ek : k = nh := by omega
          subst ek
          rcases ht with q | q
          · subst q
            exact f3.iff ⟨fun w => absurd w anA_0, fun w => absurd w.1 (Nat.lt_irrefl 0)⟩
          · have := tx_end q f2; omega
        · exact f2
      exact Ok.ck hz.b (Ok.ret hz)
    · rcases e3 with ⟨f1, f2, f3, f4⟩ | ⟨f1, f2⟩
      · have ht : textOk ruleSign nh := by
          rcases ht with q | q
          · omega
          · exact q
        refine Ok.neg (nI_ge (by omega) (by omega)) ?_
        obtain ⟨t1, t2, t3, t4⟩ := tx_0 ht (by omega) f2
        obtain ⟨i1, i2, i3⟩ := fi_ok t1
        have hle := rl_le ruleSign (a := k + 1 + 1) (nh := nh) (by omega)
        generalize hK : k + 1 + 1 + rl ruleSign nh (k + 1 + 1) = K at *
        have run := run_o (F := F) (h := ruleSign) (nh := nh) (a := k + 1) (b := K) (by omega) (fun j h1 h2 => by
          by_cases e : j = k + 1
          · subst e
            rcases t3 with q | q <;> rw [q] <;> unfold isF <;> decide
          · obtain ⟨y, hy⟩ : ∃ y, j = k + 1 + 1 + y := ⟨j - (k + 1 + 1), by omega⟩
            subst hy
            exact dg_f (rl_in (nh := nh) (by omega)))
        have al : alA F ruleSign nh K ↔ alA F ruleSign nh k ∧ AtP F ruleSign nh k := run.1.trans (alA_l t1)
        have an : anA F ruleSign nh K ↔ anA F ruleSign nh k := run.2.trans (anA_o (isF_b t1))
        have h141 : ∀ (upper : Int64) (lower : Int64) (greatAt : Int32) (cameFrom : Nat → Int32) (handsOn : Nat → Int32) (knows : Nat → Int32) (mate : Nat → Int32) (next : Nat → Int64) (ones : Nat → Int32) (order : Nat → Int32) (queue : Nat → Int32) (ways : Nat → Int64) (s0 : Int32), Bz s0 (alA F ruleSign nh K) → Ok (t_X11_isProof_141 kk matches_ stakes meetings newsFirst newsHour acts (nI nh) upper lower greatAt actMatch actPlayers cameFrom debt goals guest handsOn home hour knows mate meetA meetB meetHour next ones order owner prices queue referee ruleSign skill stakeEnd stakeHand stakeMatch stakeMinute stakeSum told ways x1 x2 (nI K) s0) (fun v => Bz v.1 (TT F ruleSign nh)) := by
          intro upper lower greatAt cameFrom handsOn knows mate next ones order queue ways s0 hs0
          have h163 : ∀ a, Bz a (anA F ruleSign nh K ∨ alA F ruleSign nh K) → (∀ a, Bz a (anA F ruleSign nh K ∨ alA F ruleSign nh K) → Ok (t_X11_isProof_176 kk matches_ stakes meetings newsFirst newsHour acts (nI nh) upper lower greatAt actMatch actPlayers cameFrom debt goals guest handsOn home hour knows mate meetA meetB meetHour next ones order owner prices queue referee ruleSign skill stakeEnd stakeHand stakeMatch stakeMinute stakeSum told ways x1 (nI K) a) (fun v => Bz v.1 (TT F ruleSign nh))) → Ok (t_X11_isProof_163 kk matches_ stakes meetings newsFirst newsHour acts (nI nh) upper lower greatAt actMatch actPlayers cameFrom debt goals guest handsOn home hour knows mate meetA meetB meetHour next ones order owner prices queue referee ruleSign skill stakeEnd stakeHand stakeMatch stakeMinute stakeSum told ways x1 x2 s0 (nI K)) (fun v => Bz v.1 (TT F ruleSign nh)) := by
            intro _ _ h176
            unfold t_X11_isProof_163 t_X11_isProof_171
            refine Ok.ite (fun c1 => Ok.ite (fun c2 => h176 0 (Bz.f (fun q => ?_))) (fun c2 => h176 1 (Bz.t (Or.inr (Classical.not_not.mp (fun q => c2 (hs0.z.mpr q))))))) (fun c1 => h176 1 (Bz.t (Or.inl (an.mpr (Classical.not_not.mp (fun q => c1 (f3.z.mpr q)))))))
            rcases q with q | q
            · exact f3.z.mp c1 (an.mp q)
            · exact hs0.z.mp c2 q
          have bz1 : Bz (@ite _ (anA F ruleSign nh K ∨ alA F ruleSign nh K) (Classical.propDecidable _) 1 0) (anA F ruleSign nh K ∨ alA F ruleSign nh K) := by
            by_cases q : anA F ruleSign nh K ∨ alA F ruleSign nh K
            · rw [if_pos q]; exact Bz.t q
            · rw [if_neg q]; exact Bz.f q
          unfold t_X11_isProof_141
          by_cases cK : K = nh
          · refine Ok.pos (by rw [cK]) (h163 _ bz1 (fun a ha => ?_))
            unfold t_X11_isProof_176 t_X11_isProof_179
            apply hk
            refine ⟨rfl, rfl, rfl, rfl, rfl, rfl, rfl, rfl, rfl, rfl, rfl, rfl, rfl, rfl, rfl, rfl, rfl, rfl, rfl, rfl, rfl, rfl, rfl, rfl, rfl, rfl, rfl, rfl, rfl, K + 1, by omega, nI_1 K, Or.inr ⟨by omega, ha.iff ?_⟩⟩
            rw [cK]
            exact ⟨fun q => ⟨by omega, q⟩, fun q => q.2⟩
          · obtain ⟨p1, p2⟩ := tx_sep ht t4 (by omega) (by omega)
            rw [hK] at p1 p2
            refine Ok.neg (fun q => cK ((nI_eq (by omega) (by omega)).mp q)) ?_
            rw [nI_clamp (by omega), ckn_m (by omega) (by decide)]
            refine Ok.ite (fun c1 => h163 _ bz1 (fun a ha => ?_)) (fun c1 => ?_)
            · unfold t_X11_isProof_176 t_X11_isProof_179
              apply hk
              exact ⟨rfl, rfl, rfl, rfl, rfl, rfl, rfl, rfl, rfl, rfl, rfl, rfl, rfl, rfl, rfl, rfl, rfl, rfl, rfl, rfl, rfl, rfl, rfl, rfl, rfl, rfl, rfl, rfl, rfl, K + 1, by omega, nI_1 K, Or.inl ⟨by omega, p2, ha.iff (anA_b c1).symm, Bz.t (alA_b c1)⟩⟩
            · have n38 : ¬ isF (ruleSign K) := by
                rcases p1 with q | q
                · rw [q]; unfold isF; decide
                · exact absurd q c1
              unfold t_X11_isProof_179
              apply hk
              exact ⟨rfl, rfl, rfl, rfl, rfl, rfl, rfl, rfl, rfl, rfl, rfl, rfl, rfl, rfl, rfl, rfl, rfl, rfl, rfl, rfl, rfl, rfl, rfl, rfl, rfl, rfl, rfl, rfl, rfl, K + 1, by omega, nI_1 K, Or.inl ⟨by omega, p2, f3.iff (an.symm.trans (anA_o c1).symm), hs0.iff (alA_o n38 c1).symm⟩⟩
        have h110 : ∀ (upper : Int64) (lower : Int64) (greatAt : Int32) (cameFrom : Nat → Int32) (handsOn : Nat → Int32) (knows : Nat → Int32) (mate : Nat → Int32) (next : Nat → Int64) (ones : Nat → Int32) (order : Nat → Int32) (queue : Nat → Int32) (ways : Nat → Int64) (fl : Int32), ((fl = 1 ∧ ruleSign (k + 1) = 60) ∨ (fl = 0 ∧ ruleSign (k + 1) ≠ 60)) → Ok (t_X11_isProof_110 kk matches_ stakes meetings newsFirst newsHour acts (nI nh) upper lower greatAt actMatch actPlayers cameFrom debt goals guest handsOn home hour knows mate meetA meetB meetHour next ones order owner prices queue referee ruleSign skill stakeEnd stakeHand stakeMatch stakeMinute stakeSum told ways x1 x2 x3 (nI K) (F (fi (ruleSign k))) fl (dv ruleSign (k + 1 + 1) (rl ruleSign nh (k + 1 + 1)))) (fun v => Bz v.1 (TT F ruleSign nh)) := by
          intro upper lower greatAt cameFrom handsOn knows mate next ones order queue ways fl hfl
          unfold t_X11_isProof_110 t_X11_isProof_140 t_X11_isProof_136
          refine Ok.ite (fun c1 => h141 _ _ _ _ _ _ _ _ _ _ _ _ 0 (Bz.f (fun q => f4.z.mp c1 (al.mp q).1))) (fun c1 => ?_)
          have ha := Classical.not_not.mp (fun q => c1 (f4.z.mpr q))
          rcases hfl with ⟨g1, g2⟩ | ⟨g1, g2⟩
          · subst g1
            refine Ok.neg (by decide) (Ok.ite (fun c2 => h141 _ _ _ _ _ _ _ _ _ _ _ _ 0 (Bz.f (fun q => ?_))) (fun c2 => h141 _ _ _ _ _ _ _ _ _ _ _ _ 1 (Bz.t (al.mpr ⟨ha, Or.inl ⟨g2, fa_of_nle c2⟩⟩))))
            rcases (al.mp q).2 with w | w
            · have := w.2; rw [i_lt] at this; rw [i_le] at c2; omega
            · exact w.1 g2
          · subst g1
            refine Ok.pos rfl (Ok.ite (fun c2 => h141 _ _ _ _ _ _ _ _ _ _ _ _ 0 (Bz.f (fun q => ?_))) (fun c2 => h141 _ _ _ _ _ _ _ _ _ _ _ _ 1 (Bz.t (al.mpr ⟨ha, Or.inr ⟨g2, fa_of_nle c2⟩⟩))))
            rcases (al.mp q).2 with w | w
            · exact g2 w.1
            · have := w.2; rw [i_lt] at this; rw [i_le] at c2; omega
        have h52 : ∀ (upper : Int64) (lower : Int64) (greatAt : Int32) (cameFrom : Nat → Int32) (handsOn : Nat → Int32) (knows : Nat → Int32) (mate : Nat → Int32) (next : Nat → Int64) (ones : Nat → Int32) (order : Nat → Int32) (queue : Nat → Int32) (ways : Nat → Int64) (fl : Int32), ((fl = 1 ∧ ruleSign (k + 1) = 60) ∨ (fl = 0 ∧ ruleSign (k + 1) ≠ 60)) → Ok (t_X11_isProof_52 kk matches_ stakes meetings newsFirst newsHour acts (nI nh) upper lower greatAt actMatch actPlayers cameFrom debt goals guest handsOn home hour knows mate meetA meetB meetHour next ones order owner prices queue referee ruleSign skill stakeEnd stakeHand stakeMatch stakeMinute stakeSum told ways x1 x2 x3 (nI k) (F (fi (ruleSign k))) fl) (fun v => Bz v.1 (TT F ruleSign nh)) := by
          intro upper lower greatAt cameFrom handsOn knows mate next ones order queue ways fl hfl
          unfold t_X11_isProof_52
          rw [show nI k + 2 = nI (k + 1 + 1) from nI_add k 2]
          refine lr_X11_isProof_60 _ (fun j matches_q stakesq meetingsq newsFirstq newsHourq actsq ruleManyq upperq lowerq greatAtq actMatchq actPlayersq cameFromq debtq goalsq guestq handsOnq homeq hourq knowsq mateq meetAq meetBq meetHourq nextq onesq orderq ownerq pricesq queueq refereeq ruleSignq skillq stakeEndq stakeHandq stakeMatchq stakeMinuteq stakeSumq toldq waysq y1 y2 y3 x4 x5 x6 x7 => matches_ = matches_q ∧ stakes = stakesq ∧ meetings = meetingsq ∧ newsFirst = newsFirstq ∧ newsHour = newsHourq ∧ acts = actsq ∧ actMatch = actMatchq ∧ actPlayers = actPlayersq ∧ debt = debtq ∧ goals = goalsq ∧ guest = guestq ∧ home = homeq ∧ hour = hourq ∧ meetA = meetAq ∧ meetB = meetBq ∧ meetHour = meetHourq ∧ owner = ownerq ∧ prices = pricesq ∧ referee = refereeq ∧ ruleSign = ruleSignq ∧ skill = skillq ∧ stakeEnd = stakeEndq ∧ stakeHand = stakeHandq ∧ stakeMatch = stakeMatchq ∧ stakeMinute = stakeMinuteq ∧ stakeSum = stakeSumq ∧ told = toldq ∧ nI nh = ruleManyq ∧ x1 = y1 ∧ x2 = y2 ∧ x3 = y3 ∧ x4 = nI (k + 1 + 1 + j) ∧ F (fi (ruleSign k)) = x5 ∧ fl = x6 ∧ x7 = dv ruleSign (k + 1 + 1) j) (rl ruleSign nh (k + 1 + 1)) ?_ ?_ lfuel 0 _ _ _ _ _ _ _ _ _ _ _ _ _ _ _ _ _ _ _ _ _ _ _ _ _ _ _ _ _ _ _ _ _ _ _ _ _ _ _ _ _ _ _ _ _ _ _ (Nat.zero_le _) (by unfold lfuel; omega) ?_
          · rintro kk2 j matches_q stakesq meetingsq newsFirstq newsHourq actsq ruleManyq upperq lowerq greatAtq actMatchq actPlayersq cameFromq debtq goalsq guestq handsOnq homeq hourq knowsq mateq meetAq meetBq meetHourq nextq onesq orderq ownerq pricesq queueq refereeq ruleSignq skillq stakeEndq stakeHandq stakeMatchq stakeMinuteq stakeSumq toldq waysq y1 y2 y3 x4 x5 x6 x7 hj ⟨d1, d2, d3, d4, d5, d6, d7, d8, d9, d10, d11, d12, d13, d14, d15, d16, d17, d18, d19, d20, d21, d22, d23, d24, d25, d26, d27, d28, c1, c2, c3, c4, c5, c6, c7⟩ hk2
            subst d1 d2 d3 d4 d5 d6 d7 d8 d9 d10 d11 d12 d13 d14 d15 d16 d17 d18 d19 d20 d21 d22 d23 d24 d25 d26 d27 d28 c1 c2 c3 c4 c5 c6 c7
            unfold t_X11_isProof_60_b
            rw [nI_clamp (by omega), ckn_m (by omega) (by decide), in_ok, bd1_s, bz, ckn_m (by omega) (by decide)]
            refine Ok.neg (nI_ge (by omega) (by omega)) (Ok.pos (rl_in hj) ?_)
            apply hk2
            refine ⟨rfl, rfl, rfl, rfl, rfl, rfl, rfl, rfl, rfl, rfl, rfl, rfl, rfl, rfl, rfl, rfl, rfl, rfl, rfl, rfl, rfl, rfl, rfl, rfl, rfl, rfl, rfl, rfl, rfl, rfl, rfl, by rw [nI_1]; rfl, rfl, rfl, ?_⟩
            rw [dv, Int32.mul_comm]
          · rintro kk2 matches_q stakesq meetingsq newsFirstq newsHourq actsq ruleManyq upperq lowerq greatAtq actMatchq actPlayersq cameFromq debtq goalsq guestq handsOnq homeq hourq knowsq mateq meetAq meetBq meetHourq nextq onesq orderq ownerq pricesq queueq refereeq ruleSignq skillq stakeEndq stakeHandq stakeMatchq stakeMinuteq stakeSumq toldq waysq y1 y2 y3 x4 x5 x6 x7 ⟨d1, d2, d3, d4, d5, d6, d7, d8, d9, d10, d11, d12, d13, d14, d15, d16, d17, d18, d19, d20, d21, d22, d23, d24, d25, d26, d27, d28, c1, c2, c3, c4, c5, c6, c7⟩
            subst d1 d2 d3 d4 d5 d6 d7 d8 d9 d10 d11 d12 d13 d14 d15 d16 d17 d18 d19 d20 d21 d22 d23 d24 d25 d26 d27 d28 c1 c2 c3 c4 c5 c6 c7
            unfold t_X11_isProof_60_b
            by_cases c : nh ≤ K
            · rw [hK]
              exact Ok.pos (nI_le c (by omega)) (h110 _ _ _ _ _ _ _ _ _ _ _ _ _ hfl)
            · have ho := rl_out (h := ruleSign) (nh := nh) (a := k + 1 + 1) (by omega)
              rw [hK] at ho
              rw [hK, nI_clamp (by omega), ckn_m (by omega) (by decide), in_ok, bd1_s, bz]
              exact Ok.neg (nI_ge (by omega) (by omega)) (Ok.neg ho (h110 _ _ _ _ _ _ _ _ _ _ _ _ _ hfl))
          · exact ⟨rfl, rfl, rfl, rfl, rfl, rfl, rfl, rfl, rfl, rfl, rfl, rfl, rfl, rfl, rfl, rfl, rfl, rfl, rfl, rfl, rfl, rfl, rfl, rfl, rfl, rfl, rfl, rfl, rfl, rfl, rfl, rfl, rfl, rfl, rfl⟩
        rw [nI_clamp (by omega), ckn_m (by omega) (by decide), i3, bd1_s]
        refine Ok.bd13 (hF _ i1 _ _ _ _ _ _ _ _ _ _ _ _) (fun v u0 u1 u2 u3 u4 u5 u6 u7 u8 u9 u10 u11 hv => ?_)
        simp only at hv
        subst hv
        rw [nI_1, nI_clamp (by omega), ckn_m (by omega) (by decide)]
        exact Ok.ite (fun c => h52 _ _ _ _ _ _ _ _ _ _ _ _ 1 (Or.inl ⟨rfl, c⟩)) (fun c => h52 _ _ _ _ _ _ _ _ _ _ _ _ 0 (Or.inr ⟨rfl, c⟩))
      · omega
  · rintro kk matches_q stakesq meetingsq newsFirstq newsHourq actsq ruleManyq upperq lowerq greatAtq actMatchq actPlayersq cameFromq debtq goalsq guestq handsOnq homeq hourq knowsq mateq meetAq meetBq meetHourq nextq onesq orderq ownerq pricesq queueq refereeq ruleSignq skillq stakeEndq stakeHandq stakeMatchq stakeMinuteq stakeSumq toldq waysq y1 x2 x3 x4 ⟨d1, d2, d3, d4, d5, d6, d7, d8, d9, d10, d11, d12, d13, d14, d15, d16, d17, d18, d19, d20, d21, d22, d23, d24, d25, d26, d27, d28, e0, k, e1, e2, e3⟩
    subst d1 d2 d3 d4 d5 d6 d7 d8 d9 d10 d11 d12 d13 d14 d15 d16 d17 d18 d19 d20 d21 d22 d23 d24 d25 d26 d27 d28 e0 e2
    unfold t_X11_isProof_7_b
    rcases e3 with ⟨f1, f2, f3, f4⟩ | ⟨f1, f2⟩
    · omega
    · exact Ok.pos (nI_le (by omega) (by omega)) (Ok.ck f2.b (Ok.ret f2))
  · exact ⟨rfl, rfl, rfl, rfl, rfl, rfl, rfl, rfl, rfl, rfl, rfl, rfl, rfl, rfl, rfl, rfl, rfl, rfl, rfl, rfl, rfl, rfl, rfl, rfl, rfl, rfl, rfl, rfl, rfl, 0, Nat.le_refl _, rfl, Or.inl ⟨Nat.zero_le _, rfl, Bz.f anA_0, Bz.t alA_0⟩⟩
