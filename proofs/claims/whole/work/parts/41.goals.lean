-- needs 36 37
-- goals, and who leads
def sc (goals : Nat → Int32) (m q : Nat) (who : Int32) : Nat := fa_cnt (fun i => decide (goals (6 * m + i) = who)) q
theorem sc_le (goals : Nat → Int32) (m q : Nat) (who : Int32) : sc goals m q who ≤ q := fa_cnt_le _ q
theorem six {m i : Nat} : nI m * 6 + nI i = nI (6 * m + i) := by
  rw [show (6 : Int32) = nI 6 from rfl, pk_mul, nI_add, Nat.mul_comm]
theorem six' {m i : Nat} : 6 * nI m + nI i = nI (6 * m + i) := by
  rw [show (6 : Int32) = nI 6 from rfl, pk_mul, nI_add]
theorem goals_ok {m q : Nat} (hm : m < 12) (hq : q ≤ 6) (goals : Nat → Int32) (who : Int32) : t_X2_goalsAhead goals (nI m) (nI q) who = some (nI (sc goals m q who)) := by
  apply Ok.to
  unfold t_X2_goalsAhead
  refine lr_X2_goalsAhead_6 _ (fun i g x1 x2 x3 x4 x5 => goals = g ∧ x1 = nI m ∧ x2 = nI q ∧ who = x3 ∧ x4 = nI (sc goals m i who) ∧ x5 = nI i) q ?_ ?_ lfuel 0 _ _ _ _ _ _ (Nat.zero_le _) (by unfold lfuel; omega) ?_
  · rintro kk i g x1 x2 x3 x4 x5 hi ⟨d1, d2, d3, d4, d5, d6⟩ hk
    subst d1 d2 d3 d4 d5 d6
    unfold t_X2_goalsAhead_6_b t_X2_goalsAhead_31
    refine Ok.neg (nI_ge hi (by omega)) ?_
    rw [six, nI_clamp (by omega), ckn_m (show 6 * m + i < 72 by omega) (by decide)]
    refine Ok.ite (fun h => hk _ _ _ _ _ _ ⟨rfl, rfl, rfl, rfl, ?_, nI_1 i⟩) (fun h => hk _ _ _ _ _ _ ⟨rfl, rfl, rfl, rfl, ?_, nI_1 i⟩)
    · rw [nI_1, sc, sc, fa_cnt_yes (decide_eq_true h)]
    · rw [sc, sc, fa_cnt_no (decide_eq_false h)]
  · rintro kk g x1 x2 x3 x4 x5 ⟨d1, d2, d3, d4, d5, d6⟩
    subst d1 d2 d3 d4 d5 d6
    unfold t_X2_goalsAhead_6_b
    exact Ok.pos (nI_le (Nat.le_refl _) (by omega)) (Ok.ret rfl)
  · exact ⟨rfl, rfl, rfl, rfl, rfl, rfl⟩
theorem scored_ok {m q : Nat} (hm : m < 12) (hq : q ≤ 6) (goals : Nat → Int32) (who : Int32) : t_X11_scored goals (nI m) (nI q) who = some (nI (sc goals m q who)) := by
  apply Ok.to
  unfold t_X11_scored
  refine lr_X11_scored_6 _ (fun i g x1 x2 x3 x4 x5 => goals = g ∧ x1 = nI m ∧ x2 = nI q ∧ who = x3 ∧ x4 = nI (sc goals m i who) ∧ x5 = nI i) q ?_ ?_ lfuel 0 _ _ _ _ _ _ (Nat.zero_le _) (by unfold lfuel; omega) ?_
  · rintro kk i g x1 x2 x3 x4 x5 hi ⟨d1, d2, d3, d4, d5, d6⟩ hk
    subst d1 d2 d3 d4 d5 d6
    unfold t_X11_scored_6_b t_X11_scored_35
    refine Ok.neg (nI_ge hi (by omega)) ?_
    rw [six', nI_clamp (by omega), ckn_m (show 6 * m + i < 72 by omega) (by decide)]
    refine Ok.ite (fun h => hk _ _ _ _ _ _ ⟨rfl, rfl, rfl, rfl, ?_, nI_1 i⟩) (fun h => hk _ _ _ _ _ _ ⟨rfl, rfl, rfl, rfl, ?_, nI_1 i⟩)
    · rw [nI_1, sc, sc, fa_cnt_yes (decide_eq_true h)]
    · rw [sc, sc, fa_cnt_no (decide_eq_false h)]; exact nI_add _ 0
  · rintro kk g x1 x2 x3 x4 x5 ⟨d1, d2, d3, d4, d5, d6⟩
    subst d1 d2 d3 d4 d5 d6
    unfold t_X11_scored_6_b
    exact Ok.pos (nI_le (Nat.le_refl _) (by omega)) (Ok.ret rfl)
  · exact ⟨rfl, rfl, rfl, rfl, rfl, rfl⟩
def eb (x : Int32) : Int32 := if x ≤ 0 then (if x = 0 then 1 else 2) else 0
theorem eb_ok (x : Int32) : t_X4_endByLead x = some (eb x) := by
  unfold t_X4_endByLead t_X4_endByLead_17 eb
  by_cases h : x ≤ 0
  · rw [if_pos h, if_pos h]
    by_cases h2 : x = 0
    · rw [if_pos h2, if_pos h2]
    · rw [if_neg h2, if_neg h2]
  · rw [if_neg h, if_neg h]
def ld (goals : Nat → Int32) (m q : Nat) : Int32 := nI (sc goals m q 1) - nI (sc goals m q 2)
theorem lead_ok {m q : Nat} (hm : m < 12) (hq : q ≤ 6) (goals : Nat → Int32) : t_X2_leadAhead goals (nI m) (nI q) = some (ld goals m q) := by
  unfold t_X2_leadAhead
  rw [goals_ok hm hq, bd1_s, goals_ok hm hq, bd1_s]
  rfl
theorem endOf_ok {m : Nat} (hm : m < 12) (goals : Nat → Int32) : t_X2_endOf goals (nI m) = some (eb (ld goals m 6)) := by
  unfold t_X2_endOf
  rw [show (6 : Int32) = nI 6 from rfl, lead_ok hm (by omega), bd1_s, eb_ok, bd1_s]
theorem endOf_ok2 {m : Nat} (hm : m < 12) (goals : Nat → Int32) : t_X11_endOf goals (nI m) = some (eb (ld goals m 6)) := by
  unfold t_X11_endOf t_X11_endOf_35 eb
  rw [show (6 : Int32) = nI 6 from rfl, scored_ok hm (by omega), bd1_s, scored_ok hm (by omega), bd1_s]
  unfold ld
  by_cases h : nI (sc goals m 6 1) - nI (sc goals m 6 2) ≤ 0
  · rw [if_pos h, if_pos h]
    by_cases h2 : nI (sc goals m 6 1) - nI (sc goals m 6 2) = 0
    · rw [if_pos h2, if_pos h2]
    · rw [if_neg h2, if_neg h2]
  · rw [if_neg h, if_neg h]
