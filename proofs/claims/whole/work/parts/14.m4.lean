-- ===== SoldMatches.cost(II)I
abbrev rmX10_cost : Room := { frames := 1, cells := 0, slots := 0, locals := 23 }
def w_X10_cost (cI cJ cZ : ClassId) (h_this : Nat) (q_this : Nat → Nat) (q_this_games : Nat → Nat) (this_games_count : Int32) (this_games_base : Int32) (this_games_topLean : Int32) (this_games_topSpot : Int32) (this_games_fee : Nat → Int32) : va_W := [(h_this, .inr (10, oFX10 q_this )), ((q_this 0), .inr (2, oFX2 q_this_games this_games_count this_games_base this_games_topLean this_games_topSpot)), ((q_this_games 7), .inl (cI, 12, .inl this_games_fee))]
theorem m_X10_cost_f12 : Cond.fieldLink RX10 12 "SoldMatches" "games" "LSoldMatches$Games;" ∈ wsX10_cost := List.mem_of_getElem? (i := 1) rfl
theorem in_X10_cost_X10 : ∀ w ∈ wsX100, w ∈ wsX10_cost := fun w h => List.mem_cons_of_mem _ (List.mem_append_left _ (List.mem_append_right _ h))
theorem cw_X10_cost_X2_has_95 {s : State} {args : Array Value} (hts : ∀ w ∈ wsX10_cost, w.before args s = true) : CallW rmX10_cost s args RX10 RX2 95 yX2_has cX2_has 2 (some .boolean) wsX2_has rmX2_has 0 0 1 := cwV 1 hts gX10_cost_X2_has rfl rfl rfl (by decide +kernel) ⟨by decide, by decide⟩
theorem cw_X10_cost_X10_within_76 {s : State} {args : Array Value} (hts : ∀ w ∈ wsX10_cost, w.before args s = true) : CallB rmX10_cost s args RX10 76 yX10_within cX10_within 3 (some .boolean) wsX10_within rmX10_within 0 0 3 ∧ (Cond.static yX10_within).before args s = true := va_cwS 3 hts gX10_cost_X10_within rfl rfl rfl (by decide +kernel) ⟨by decide, by decide⟩
theorem in_X10_cost_X2 : ∀ w ∈ wsX20, w ∈ wsX10_cost := fun w h => List.mem_cons_of_mem _ (List.mem_append_right _ h)
theorem cw_X10_cost_X10_exchange_83 {s : State} {args : Array Value} (hts : ∀ w ∈ wsX10_cost, w.before args s = true) : CallB rmX10_cost s args RX10 83 yX10_exchange cX10_exchange 4 (some .int) wsX10_exchange rmX10_exchange 0 0 3 ∧ (Cond.static yX10_exchange).before args s = true := va_cwS 3 hts gX10_cost_X10_exchange rfl rfl rfl (by decide +kernel) ⟨by decide, by decide⟩
def t_X10_cost_40   (this_games_count : Int32) (this_games_fee : Nat → Int32) (s0 : Int32) : Option (Int32 × (Nat → Int32)) := some (s0, this_games_fee)
def t_X10_cost  (this_games_count : Int32) (this_games_fee : Nat → Int32) (x1 : Int32) (x2 : Int32) : Option (Int32 × (Nat → Int32)) := bd1 (t_X2_has this_games_count x1) (fun v1 => if v1 = 0 then (some ((-1 : Int32), this_games_fee)) else (bd1 (t_X10_within x2 (0 : Int32) (100 : Int32)) (fun v3 => if v3 = 0 then (t_X10_cost_40   this_games_count this_games_fee (-2 : Int32)) else (bd2 (t_X10_exchange 12 this_games_fee x1 x2) (fun v5 u5_0 => t_X10_cost_40   this_games_count u5_0 v5)))))
set_option maxHeartbeats 4000000 in
set_option maxRecDepth 100000 in
theorem b_X10_cost_40 {p : Program} {l : Launch} {e : Env} {s : State} {m : MethodId} {args : Array Value} {below : List Frame} {meth : Method} {c : Code} {D : va_G} {A : Nat → Prop} {cI cJ cZ : ClassId} (X : Cx p m c cX10_cost 3 s args wsX10_cost RX10 D (tys3 cI cJ cZ) meth (some .int)) (_ _ _ : ClassId)  (h_this : Nat) (q_this : Nat → Nat) (q_this_games : Nat → Nat) (this_games_base : Int32) (this_games_topLean : Int32) (this_games_topSpot : Int32) (r : Int32) (z0 : Nat → Int32)  (this_games_count : Int32) (this_games_fee : Nat → Int32) (s0 : Int32) (hT : t_X10_cost_40   this_games_count this_games_fee s0 = some (r, z0)) : J p l e rmX10_cost s m args below meth c D A 3 (QI D below args s A r (w_X10_cost cI cJ cZ h_this q_this q_this_games this_games_count this_games_base this_games_topLean this_games_topSpot z0)) 0 0 (w_X10_cost cI cJ cZ h_this q_this q_this_games this_games_count this_games_base this_games_topLean this_games_topSpot this_games_fee) [(0, .ref h_this)] [.int s0] 40 := by
  unfold t_X10_cost_40 at hT
  cases hT
  exact J_iret X dX10_cost_40
set_option maxHeartbeats 4000000 in
set_option maxRecDepth 100000 in
theorem c_X10_cost (l : Launch) (D : va_G) (cI cJ cZ : ClassId) (h_this : Nat) (q_this : Nat → Nat) (q_this_games : Nat → Nat) (this_games_count : Int32) (this_games_base : Int32) (this_games_topLean : Int32) (this_games_topSpot : Int32) (this_games_fee : Nat → Int32) (x1 : Int32) (x2 : Int32) (r : Int32) (z0 : Nat → Int32) (hT : t_X10_cost  this_games_count this_games_fee x1 x2 = some (r, z0)) : Ci l yX10_cost wsX10_cost rmX10_cost D (tys3 cI cJ cZ) [.ref h_this, .int x1, .int x2] (w_X10_cost cI cJ cZ h_this q_this q_this_games this_games_count this_games_base this_games_topLean this_games_topSpot this_games_fee) r (w_X10_cost cI cJ cZ h_this q_this q_this_games this_games_count this_games_base this_games_topLean this_games_topSpot z0) := by
  refine Ci.ofJ (cc := cX10_cost) (nL := 3) (rt := (some .int)) (own := RX10) (by decide) rfl rfl (Nat.le_of_ble_eq_true rfl) ?_
  intro p e s m below meth c A X
  unfold t_X10_cost at hT
  refine J_lv (lv' := [(0, .ref h_this), (1, .int x1), (2, .int x2)]) [0, 1, 2] rfl ?_
  refine J_aload_n X dX10_cost_0 0 rfl ?_
  refine J_get (C := RX10) (T := TX10) (N := 10) (ci := 10) (v := .ref (q_this 0)) X in_X10_cost_X10 0 rfl rfl 0 (by decide) m_X10_cost_f12 rfl dX10_cost_1 ?_
  refine J_iload_n X dX10_cost_4 1 rfl ?_
  obtain ⟨v1, hq1, hT⟩ := bd1_e hT
  refine J_ci (wc := (w_X2_has cI cJ cZ (q_this 0) q_this_games this_games_count this_games_base this_games_topLean this_games_topSpot)) (wc' := (w_X2_has cI cJ cZ (q_this 0) q_this_games this_games_count this_games_base this_games_topLean this_games_topSpot)) (ws' := (w_X10_cost cI cJ cZ h_this q_this q_this_games this_games_count this_games_base this_games_topLean this_games_topSpot this_games_fee)) [1] [0, 2] 3 rfl rfl rfl rfl rfl rfl rfl rfl (run_V (As := [.int x1]) (rest := []) X (c_X2_has l D cI cJ cZ (q_this 0) q_this_games this_games_count this_games_base this_games_topLean this_games_topSpot x1 v1 hq1) (cw_X10_cost_X2_has_95 X.1.2.2.2.2) 0 rfl rfl rfl rfl (Nat.le_of_ble_eq_true rfl) dX10_cost_5 ⟨Nat.zero_le _, Nat.zero_le _⟩) ?_
  refine J_if_ne (tgt := 13) X dX10_cost_8 (by decide) (fun hc2 => ?_) (fun hc2 => ?_)
  · have hT := iff_ hT hc2
    refine J_iload_n X dX10_cost_13 2 rfl ?_
    refine J_iconst (v := 0) X dX10_cost_14 (by decide) ?_
    refine J_bipush (v := 100) X dX10_cost_15 (by decide) ?_
    obtain ⟨v3, hq3, hT⟩ := bd1_e hT
    refine J_ci (wc := (w_X10_within cI cJ cZ )) (wc' := (w_X10_within cI cJ cZ )) (ws' := (w_X10_cost cI cJ cZ h_this q_this q_this_games this_games_count this_games_base this_games_topLean this_games_topSpot this_games_fee)) [] [0, 1, 2] 3 rfl rfl rfl rfl rfl rfl rfl rfl (run_S (As := [.int x2, .int (0 : Int32), .int (100 : Int32)]) (rest := []) X (c_X10_within l D cI cJ cZ  x2 (0 : Int32) (100 : Int32) v3 hq3) (cw_X10_cost_X10_within_76 X.1.2.2.2.2) rfl rfl (Nat.le_of_ble_eq_true rfl) dX10_cost_17 ⟨Nat.zero_le _, Nat.zero_le _⟩) ?_
    refine J_if_eq (tgt := 38) X dX10_cost_20 (by decide) (fun hc4 => ?_) (fun hc4 => ?_)
    · have hT := ift hT hc4
      refine J_bipush (v := -2) X dX10_cost_38 (by decide) ?_
      refine J_lv (lv' := [(0, .ref h_this)]) [0] rfl ?_
      exact b_X10_cost_40 X cI cJ cZ h_this q_this q_this_games this_games_base this_games_topLean this_games_topSpot r z0  this_games_count this_games_fee (-2 : Int32) hT
    · have hT := iff_ hT hc4
      refine J_aload_n X dX10_cost_23 0 rfl ?_
      refine J_get (C := RX10) (T := TX10) (N := 10) (ci := 10) (v := .ref (q_this 0)) X in_X10_cost_X10 0 rfl rfl 0 (by decide) m_X10_cost_f12 rfl dX10_cost_24 ?_
      refine J_getN (host := "SoldMatches") (C := RX2) (T := TX2) (N := 13) (ci := 2) (v := .ref (q_this_games 7)) X in_X10_cost_X2 1 rfl rfl 7 (by decide) (List.mem_of_getElem? (i := 14) rfl) rfl dX10_cost_27 ?_
      refine J_iload_n X dX10_cost_30 1 rfl ?_
      refine J_iload_n X dX10_cost_31 2 rfl ?_
      obtain ⟨v5, u5_0, hq5, hT⟩ := bd2_e hT
      refine J_ci (wc := (w_X10_exchange cI cJ cZ (q_this_games 7) 12 this_games_fee)) (wc' := (w_X10_exchange cI cJ cZ (q_this_games 7) 12 u5_0)) (ws' := (w_X10_cost cI cJ cZ h_this q_this q_this_games this_games_count this_games_base this_games_topLean this_games_topSpot u5_0)) [2] [0, 1] 3 rfl rfl rfl rfl rfl rfl rfl rfl (run_S (As := [.ref (q_this_games 7), .int x1, .int x2]) (rest := []) X (c_X10_exchange l D cI cJ cZ (q_this_games 7) 12 this_games_fee x1 x2 v5 u5_0 hq5) (cw_X10_cost_X10_exchange_83 X.1.2.2.2.2) rfl rfl (Nat.le_of_ble_eq_true rfl) dX10_cost_32 ⟨Nat.zero_le _, Nat.zero_le _⟩) ?_
      refine J_goto (tgt := 40) X dX10_cost_35 (by decide) ?_
      refine J_lv (lv' := [(0, .ref h_this)]) [0] rfl ?_
      exact b_X10_cost_40 X cI cJ cZ h_this q_this q_this_games this_games_base this_games_topLean this_games_topSpot r z0  this_games_count u5_0 v5 hT
  · have hT := ift hT hc2
    refine J_iconst (v := -1) X dX10_cost_11 (by decide) ?_
    cases hT
    exact J_iret X dX10_cost_12
-- ===== SoldMatches.looks(II)I
abbrev rmX10_looks : Room := { frames := 7, cells := 0, slots := 0, locals := 177 }
def w_X10_looks (cI cJ cZ : ClassId) (h_this : Nat) (q_this : Nat → Nat) (q_this_games : Nat → Nat) (q_this_purses : Nat → Nat) (q_this_games_odds : Nat → Nat) (this_games_count : Int32) (this_games_base : Int32) (this_games_topLean : Int32) (this_games_topSpot : Int32) (this_purses_bestSet : Int32) (this_purses_bestSum : Int32) (this_purses_sum : Int32) (this_purses_cost : Int32) (this_games_odds_upper : Int64) (this_games_odds_lower : Int64) (this_games_fee : Nat → Int32) (this_games_goals : Nat → Int32) (this_games_guest : Nat → Int32) (this_games_home : Nat → Int32) (this_games_prices : Nat → Int32) (this_games_skills : Nat → Int32) (this_purses_leans : Nat → Int32) (this_games_odds_cases : Nat → Int64) : va_W := [(h_this, .inr (10, oFX10 q_this )), ((q_this 0), .inr (2, oFX2 q_this_games this_games_count this_games_base this_games_topLean this_games_topSpot)), ((q_this 8), .inr (5, oFX5 q_this_purses this_purses_bestSet this_purses_bestSum this_purses_sum this_purses_cost)), ((q_this_games 10), .inr (4, oFX4 q_this_games_odds this_games_odds_upper this_games_odds_lower)), ((q_this_games 7), .inl (cI, 12, .inl this_games_fee)), ((q_this_games 8), .inl (cI, 72, .inl this_games_goals)), ((q_this_games 4), .inl (cI, 12, .inl this_games_guest)), ((q_this_games 3), .inl (cI, 12, .inl this_games_home)), ((q_this_games 9), .inl (cI, 216, .inl this_games_prices)), ((q_this_games 2), .inl (cI, 8, .inl this_games_skills)), ((q_this_purses 0), .inl (cI, 12, .inl this_purses_leans)), ((q_this_games_odds 0), .inl (cJ, 13, .inr (.inl this_games_odds_cases)))]
theorem cw_X10_looks_X10_within_76 {s : State} {args : Array Value} (hts : ∀ w ∈ wsX10_looks, w.before args s = true) : CallB rmX10_looks s args RX10 76 yX10_within cX10_within 3 (some .boolean) wsX10_within rmX10_within 0 0 3 ∧ (Cond.static yX10_within).before args s = true := va_cwS 3 hts gX10_looks_X10_within rfl rfl rfl (by decide +kernel) ⟨by decide, by decide⟩
theorem m_X10_looks_f68 : Cond.fieldLink RX10 68 "SoldMatches" "purses" "LSoldMatches$Purse;" ∈ wsX10_looks := List.mem_of_getElem? (i := 1) rfl
theorem in_X10_looks_X10 : ∀ w ∈ wsX100, w ∈ wsX10_looks := fun w h => List.mem_cons_of_mem _ (List.mem_append_left _ (List.mem_append_left _ (List.mem_append_left _ (List.mem_append_right _ h))))
theorem m_X10_looks_f12 : Cond.fieldLink RX10 12 "SoldMatches" "games" "LSoldMatches$Games;" ∈ wsX10_looks := List.mem_of_getElem? (i := 2) rfl
theorem cw_X10_looks_X5_choose_353 {s : State} {args : Array Value} (hts : ∀ w ∈ wsX10_looks, w.before args s = true) : CallW rmX10_looks s args RX10 RX5 353 yX5_choose cX5_choose 8 none wsX5_choose rmX5_choose 0 0 2 := cwV 2 hts gX10_looks_X5_choose rfl rfl rfl (by decide +kernel) ⟨by decide, by decide⟩
theorem in_X10_looks_X5 : ∀ w ∈ wsX50, w ∈ wsX10_looks := fun w h => List.mem_cons_of_mem _ (List.mem_append_left _ (List.mem_append_left _ (List.mem_append_right _ h)))
def t_X10_looks_56   (this_games_count : Int32) (this_games_base : Int32) (this_games_topLean : Int32) (this_games_topSpot : Int32) (this_purses_bestSet : Int32) (this_purses_bestSum : Int32) (this_purses_sum : Int32) (this_purses_cost : Int32) (this_games_odds_upper : Int64) (this_games_odds_lower : Int64) (this_games_fee : Nat → Int32) (this_games_goals : Nat → Int32) (this_games_guest : Nat → Int32) (this_games_home : Nat → Int32) (this_games_prices : Nat → Int32) (this_games_skills : Nat → Int32) (this_purses_leans : Nat → Int32) (this_games_odds_cases : Nat → Int64) (s0 : Int32) : Option (Int32 × Int32 × Int32 × Int32 × Int32 × Int32 × Int32 × Int64 × Int64 × (Nat → Int32) × (Nat → Int64)) := some (s0, this_games_topLean, this_games_topSpot, this_purses_bestSet, this_purses_bestSum, this_purses_sum, this_purses_cost, this_games_odds_upper, this_games_odds_lower, this_purses_leans, this_games_odds_cases)
def t_X10_looks  (this_games_count : Int32) (this_games_base : Int32) (this_games_topLean : Int32) (this_games_topSpot : Int32) (this_purses_bestSet : Int32) (this_purses_bestSum : Int32) (this_purses_sum : Int32) (this_purses_cost : Int32) (this_games_odds_upper : Int64) (this_games_odds_lower : Int64) (this_games_fee : Nat → Int32) (this_games_goals : Nat → Int32) (this_games_guest : Nat → Int32) (this_games_home : Nat → Int32) (this_games_prices : Nat → Int32) (this_games_skills : Nat → Int32) (this_purses_leans : Nat → Int32) (this_games_odds_cases : Nat → Int64) (x1 : Int32) (x2 : Int32) : Option (Int32 × Int32 × Int32 × Int32 × Int32 × Int32 × Int32 × Int64 × Int64 × (Nat → Int32) × (Nat → Int64)) := bd1 (t_X10_within x1 (0 : Int32) (1000 : Int32)) (fun v1 => if v1 = 0 then (some ((-2 : Int32), this_games_topLean, this_games_topSpot, this_purses_bestSet, this_purses_bestSum, this_purses_sum, this_purses_cost, this_games_odds_upper, this_games_odds_lower, this_purses_leans, this_games_odds_cases)) else (bd1 (t_X10_within x2 (0 : Int32) (1 : Int32)) (fun v3 => if v3 = 0 then (some ((-2 : Int32), this_games_topLean, this_games_topSpot, this_purses_bestSet, this_purses_bestSum, this_purses_sum, this_purses_cost, this_games_odds_upper, this_games_odds_lower, this_purses_leans, this_games_odds_cases)) else (bd10 (t_X5_choose this_games_count this_games_base this_games_topLean this_games_topSpot this_purses_bestSet this_purses_bestSum this_purses_sum this_purses_cost this_games_odds_upper this_games_odds_lower this_games_fee this_games_goals this_games_guest this_games_home this_games_prices this_games_skills this_purses_leans this_games_odds_cases x1) (fun u5_0 u5_1 u5_2 u5_3 u5_4 u5_5 u5_6 u5_7 u5_8 u5_9 => if x2 = 0 then (t_X10_looks_56   this_games_count this_games_base u5_0 u5_1 u5_2 u5_3 u5_4 u5_5 u5_6 u5_7 this_games_fee this_games_goals this_games_guest this_games_home this_games_prices this_games_skills u5_8 u5_9 u5_2) else (t_X10_looks_56   this_games_count this_games_base u5_0 u5_1 u5_2 u5_3 u5_4 u5_5 u5_6 u5_7 this_games_fee this_games_goals this_games_guest this_games_home this_games_prices this_games_skills u5_8 u5_9 u5_3))))))
set_option maxHeartbeats 4000000 in
set_option maxRecDepth 100000 in
theorem b_X10_looks_56 {p : Program} {l : Launch} {e : Env} {s : State} {m : MethodId} {args : Array Value} {below : List Frame} {meth : Method} {c : Code} {D : va_G} {A : Nat → Prop} {cI cJ cZ : ClassId} (X : Cx p m c cX10_looks 3 s args wsX10_looks RX10 D (tys3 cI cJ cZ) meth (some .int)) (_ _ _ : ClassId)  (h_this : Nat) (q_this : Nat → Nat) (q_this_games : Nat → Nat) (q_this_purses : Nat → Nat) (q_this_games_odds : Nat → Nat)  (r : Int32) (z0 : Int32) (z1 : Int32) (z2 : Int32) (z3 : Int32) (z4 : Int32) (z5 : Int32) (z6 : Int64) (z7 : Int64) (z8 : Nat → Int32) (z9 : Nat → Int64)  (this_games_count : Int32) (this_games_base : Int32) (this_games_topLean : Int32) (this_games_topSpot : Int32) (this_purses_bestSet : Int32) (this_purses_bestSum : Int32) (this_purses_sum : Int32) (this_purses_cost : Int32) (this_games_odds_upper : Int64) (this_games_odds_lower : Int64) (this_games_fee : Nat → Int32) (this_games_goals : Nat → Int32) (this_games_guest : Nat → Int32) (this_games_home : Nat → Int32) (this_games_prices : Nat → Int32) (this_games_skills : Nat → Int32) (this_purses_leans : Nat → Int32) (this_games_odds_cases : Nat → Int64) (s0 : Int32) (hT : t_X10_looks_56   this_games_count this_games_base this_games_topLean this_games_topSpot this_purses_bestSet this_purses_bestSum this_purses_sum this_purses_cost this_games_odds_upper this_games_odds_lower this_games_fee this_games_goals this_games_guest this_games_home this_games_prices this_games_skills this_purses_leans this_games_odds_cases s0 = some (r, z0, z1, z2, z3, z4, z5, z6, z7, z8, z9)) : J p l e rmX10_looks s m args below meth c D A 3 (QI D below args s A r (w_X10_looks cI cJ cZ h_this q_this q_this_games q_this_purses q_this_games_odds this_games_count this_games_base z0 z1 z2 z3 z4 z5 z6 z7 this_games_fee this_games_goals this_games_guest this_games_home this_games_prices this_games_skills z8 z9)) 0 0 (w_X10_looks cI cJ cZ h_this q_this q_this_games q_this_purses q_this_games_odds this_games_count this_games_base this_games_topLean this_games_topSpot this_purses_bestSet this_purses_bestSum this_purses_sum this_purses_cost this_games_odds_upper this_games_odds_lower this_games_fee this_games_goals this_games_guest this_games_home this_games_prices this_games_skills this_purses_leans this_games_odds_cases) [(0, .ref h_this)] [.int s0] 56 := by
  unfold t_X10_looks_56 at hT
  cases hT
  exact J_iret X dX10_looks_56
set_option maxHeartbeats 4000000 in
set_option maxRecDepth 100000 in
theorem c_X10_looks (l : Launch) (D : va_G) (cI cJ cZ : ClassId) (h_this : Nat) (q_this : Nat → Nat) (q_this_games : Nat → Nat) (q_this_purses : Nat → Nat) (q_this_games_odds : Nat → Nat) (this_games_count : Int32) (this_games_base : Int32) (this_games_topLean : Int32) (this_games_topSpot : Int32) (this_purses_bestSet : Int32) (this_purses_bestSum : Int32) (this_purses_sum : Int32) (this_purses_cost : Int32) (this_games_odds_upper : Int64) (this_games_odds_lower : Int64) (this_games_fee : Nat → Int32) (this_games_goals : Nat → Int32) (this_games_guest : Nat → Int32) (this_games_home : Nat → Int32) (this_games_prices : Nat → Int32) (this_games_skills : Nat → Int32) (this_purses_leans : Nat → Int32) (this_games_odds_cases : Nat → Int64) (x1 : Int32) (x2 : Int32) (r : Int32) (z0 : Int32) (z1 : Int32) (z2 : Int32) (z3 : Int32) (z4 : Int32) (z5 : Int32) (z6 : Int64) (z7 : Int64) (z8 : Nat → Int32) (z9 : Nat → Int64) (hT : t_X10_looks  this_games_count this_games_base this_games_topLean this_games_topSpot this_purses_bestSet this_purses_bestSum this_purses_sum this_purses_cost this_games_odds_upper this_games_odds_lower this_games_fee this_games_goals this_games_guest this_games_home this_games_prices this_games_skills this_purses_leans this_games_odds_cases x1 x2 = some (r, z0, z1, z2, z3, z4, z5, z6, z7, z8, z9)) : Ci l yX10_looks wsX10_looks rmX10_looks D (tys3 cI cJ cZ) [.ref h_this, .int x1, .int x2] (w_X10_looks cI cJ cZ h_this q_this q_this_games q_this_purses q_this_games_odds this_games_count this_games_base this_games_topLean this_games_topSpot this_purses_bestSet this_purses_bestSum this_purses_sum this_purses_cost this_games_odds_upper this_games_odds_lower this_games_fee this_games_goals this_games_guest this_games_home this_games_prices this_games_skills this_purses_leans this_games_odds_cases) r (w_X10_looks cI cJ cZ h_this q_this q_this_games q_this_purses q_this_games_odds this_games_count this_games_base z0 z1 z2 z3 z4 z5 z6 z7 this_games_fee this_games_goals this_games_guest this_games_home this_games_prices this_games_skills z8 z9) := by
  refine Ci.ofJ (cc := cX10_looks) (nL := 3) (rt := (some .int)) (own := RX10) (by decide) rfl rfl (Nat.le_of_ble_eq_true rfl) ?_
  intro p e s m below meth c A X
  unfold t_X10_looks at hT
  refine J_lv (lv' := [(0, .ref h_this), (1, .int x1), (2, .int x2)]) [0, 1, 2] rfl ?_
  refine J_iload_n X dX10_looks_0 1 rfl ?_
  refine J_iconst (v := 0) X dX10_looks_1 (by decide) ?_
  refine J_sipush (v := 1000) X dX10_looks_2 (by decide) ?_
  obtain ⟨v1, hq1, hT⟩ := bd1_e hT
  refine J_ci (wc := (w_X10_within cI cJ cZ )) (wc' := (w_X10_within cI cJ cZ )) (ws' := (w_X10_looks cI cJ cZ h_this q_this q_this_games q_this_purses q_this_games_odds this_games_count this_games_base this_games_topLean this_games_topSpot this_purses_bestSet this_purses_bestSum this_purses_sum this_purses_cost this_games_odds_upper this_games_odds_lower this_games_fee this_games_goals this_games_guest this_games_home this_games_prices this_games_skills this_purses_leans this_games_odds_cases)) (idxs [false, false, false, false, false, false, false, false, false, false, false, false] 0) (idxs [true, true, true, true, true, true, true, true, true, true, true, true] 0) 12 rfl rfl rfl (pick_C _ rfl rfl) rfl (pick_C _ rfl rfl) rfl (pick_R _ rfl rfl rfl) (run_S (As := [.int x1, .int (0 : Int32), .int (1000 : Int32)]) (rest := []) X (c_X10_within l D cI cJ cZ  x1 (0 : Int32) (1000 : Int32) v1 hq1) (cw_X10_looks_X10_within_76 X.1.2.2.2.2) rfl rfl (Nat.le_of_ble_eq_true rfl) dX10_looks_5 ⟨Nat.zero_le _, Nat.zero_le _⟩) ?_
  refine J_if_eq (tgt := 20) X dX10_looks_8 (by decide) (fun hc2 => ?_) (fun hc2 => ?_)
  · have hT := ift hT hc2
    refine J_bipush (v := -2) X dX10_looks_20 (by decide) ?_
    cases hT
    exact J_iret X dX10_looks_22
  · have hT := iff_ hT hc2
    refine J_iload_n X dX10_looks_11 2 rfl ?_
    refine J_iconst (v := 0) X dX10_looks_12 (by decide) ?_
    refine J_iconst (v := 1) X dX10_looks_13 (by decide) ?_
    obtain ⟨v3, hq3, hT⟩ := bd1_e hT
    refine J_ci (wc := (w_X10_within cI cJ cZ )) (wc' := (w_X10_within cI cJ cZ )) (ws' := (w_X10_looks cI cJ cZ h_this q_this q_this_games q_this_purses q_this_games_odds this_games_count this_games_base this_games_topLean this_games_topSpot this_purses_bestSet this_purses_bestSum this_purses_sum this_purses_cost this_games_odds_upper this_games_odds_lower this_games_fee this_games_goals this_games_guest this_games_home this_games_prices this_games_skills this_purses_leans this_games_odds_cases)) (idxs [false, false, false, false, false, false, false, false, false, false, false, false] 0) (idxs [true, true, true, true, true, true, true, true, true, true, true, true] 0) 12 rfl rfl rfl (pick_C _ rfl rfl) rfl (pick_C _ rfl rfl) rfl (pick_R _ rfl rfl rfl) (run_S (As := [.int x2, .int (0 : Int32), .int (1 : Int32)]) (rest := []) X (c_X10_within l D cI cJ cZ  x2 (0 : Int32) (1 : Int32) v3 hq3) (cw_X10_looks_X10_within_76 X.1.2.2.2.2) rfl rfl (Nat.le_of_ble_eq_true rfl) dX10_looks_14 ⟨Nat.zero_le _, Nat.zero_le _⟩) ?_
    refine J_if_ne (tgt := 23) X dX10_looks_17 (by decide) (fun hc4 => ?_) (fun hc4 => ?_)
    · have hT := iff_ hT hc4
      refine J_aload_n X dX10_looks_23 0 rfl ?_
      refine J_get (C := RX10) (T := TX10) (N := 10) (ci := 10) (v := .ref (q_this 8)) X in_X10_looks_X10 0 rfl rfl 8 (by decide) m_X10_looks_f68 rfl dX10_looks_24 ?_
      refine J_iload_n X dX10_looks_27 1 rfl ?_
      refine J_aload_n X dX10_looks_28 0 rfl ?_
      refine J_get (C := RX10) (T := TX10) (N := 10) (ci := 10) (v := .ref (q_this 0)) X in_X10_looks_X10 0 rfl rfl 0 (by decide) m_X10_looks_f12 rfl dX10_looks_29 ?_
      obtain ⟨u5_0, u5_1, u5_2, u5_3, u5_4, u5_5, u5_6, u5_7, u5_8, u5_9, hq5, hT⟩ := bd10_e hT
      refine J_cv (wc := (w_X5_choose cI cJ cZ (q_this 0) (q_this 8) q_this_games q_this_purses q_this_games_odds this_games_count this_games_base this_games_topLean this_games_topSpot this_purses_bestSet this_purses_bestSum this_purses_sum this_purses_cost this_games_odds_upper this_games_odds_lower this_games_fee this_games_goals this_games_guest this_games_home this_games_prices this_games_skills this_purses_leans this_games_odds_cases)) (wc' := (w_X5_choose cI cJ cZ (q_this 0) (q_this 8) q_this_games q_this_purses q_this_games_odds this_games_count this_games_base u5_0 u5_1 u5_2 u5_3 u5_4 u5_5 u5_6 u5_7 this_games_fee this_games_goals this_games_guest this_games_home this_games_prices this_games_skills u5_8 u5_9)) (ws' := (w_X10_looks cI cJ cZ h_this q_this q_this_games q_this_purses q_this_games_odds this_games_count this_games_base u5_0 u5_1 u5_2 u5_3 u5_4 u5_5 u5_6 u5_7 this_games_fee this_games_goals this_games_guest this_games_home this_games_prices this_games_skills u5_8 u5_9)) (idxs [false, true, true, true, true, true, true, true, true, true, true, true] 0) (idxs [true, false, false, false, false, false, false, false, false, false, false, false] 0) 12 rfl rfl rfl (pick_C _ rfl rfl) rfl (pick_C _ rfl rfl) rfl (pick_R _ rfl rfl rfl) (run_V (As := [.int x1, .ref (q_this 0)]) (rest := []) X (c_X5_choose l D cI cJ cZ (q_this 0) (q_this 8) q_this_games q_this_purses q_this_games_odds this_games_count this_games_base this_games_topLean this_games_topSpot this_purses_bestSet this_purses_bestSum this_purses_sum this_purses_cost this_games_odds_upper this_games_odds_lower this_games_fee this_games_goals this_games_guest this_games_home this_games_prices this_games_skills this_purses_leans this_games_odds_cases x1 u5_0 u5_1 u5_2 u5_3 u5_4 u5_5 u5_6 u5_7 u5_8 u5_9 hq5) (cw_X10_looks_X5_choose_353 X.1.2.2.2.2) 1 rfl rfl rfl rfl (Nat.le_of_ble_eq_true rfl) dX10_looks_32 ⟨Nat.zero_le _, Nat.zero_le _⟩) ?_
      refine J_iload_n X dX10_looks_35 2 rfl ?_
      refine J_if_ne (tgt := 49) X dX10_looks_36 (by decide) (fun hc6 => ?_) (fun hc6 => ?_)
      · have hT := iff_ hT hc6
        refine J_aload_n X dX10_looks_49 0 rfl ?_
        refine J_get (C := RX10) (T := TX10) (N := 10) (ci := 10) (v := .ref (q_this 8)) X in_X10_looks_X10 0 rfl rfl 8 (by decide) m_X10_looks_f68 rfl dX10_looks_50 ?_
        refine J_getN (host := "SoldMatches") (C := RX5) (T := TX5) (N := 5) (ci := 5) (v := .int u5_3) X in_X10_looks_X5 2 rfl rfl 2 (by decide) (List.mem_of_getElem? (i := 54) rfl) rfl dX10_looks_53 ?_
        refine J_lv (lv' := [(0, .ref h_this)]) [0] rfl ?_
        exact b_X10_looks_56 X cI cJ cZ h_this q_this q_this_games q_this_purses q_this_games_odds  r z0 z1 z2 z3 z4 z5 z6 z7 z8 z9  this_games_count this_games_base u5_0 u5_1 u5_2 u5_3 u5_4 u5_5 u5_6 u5_7 this_games_fee this_games_goals this_games_guest this_games_home this_games_prices this_games_skills u5_8 u5_9 u5_3 hT
      · have hT := ift hT hc6
        refine J_aload_n X dX10_looks_39 0 rfl ?_
        refine J_get (C := RX10) (T := TX10) (N := 10) (ci := 10) (v := .ref (q_this 8)) X in_X10_looks_X10 0 rfl rfl 8 (by decide) m_X10_looks_f68 rfl dX10_looks_40 ?_
        refine J_getN (host := "SoldMatches") (C := RX5) (T := TX5) (N := 5) (ci := 5) (v := .int u5_2) X in_X10_looks_X5 2 rfl rfl 1 (by decide) (List.mem_of_getElem? (i := 53) rfl) rfl dX10_looks_43 ?_
        refine J_goto (tgt := 56) X dX10_looks_46 (by decide) ?_
        refine J_lv (lv' := [(0, .ref h_this)]) [0] rfl ?_
        exact b_X10_looks_56 X cI cJ cZ h_this q_this q_this_games q_this_purses q_this_games_odds  r z0 z1 z2 z3 z4 z5 z6 z7 z8 z9  this_games_count this_games_base u5_0 u5_1 u5_2 u5_3 u5_4 u5_5 u5_6 u5_7 this_games_fee this_games_goals this_games_guest this_games_home this_games_prices this_games_skills u5_8 u5_9 u5_2 hT
    · have hT := ift hT hc4
      refine J_bipush (v := -2) X dX10_looks_20 (by decide) ?_
      cases hT
      exact J_iret X dX10_looks_22
-- ===== SoldMatches.told(I)I
abbrev rmX10_told : Room := { frames := 0, cells := 0, slots := 0, locals := 0 }
def w_X10_told (cI cJ cZ : ClassId) (h_this : Nat) (q_this : Nat → Nat) (q_this_bets : Nat → Nat) (q_this_clause : Nat → Nat) (q_this_games : Nat → Nat) (q_this_rumour : Nat → Nat) (q_this_squad : Nat → Nat) (q_this_tales : Nat → Nat) (this_bets_count : Int32) (this_bets_near : Int32) (this_bets_times : Int32) (this_bets_ties : Int32) (this_clause_count : Int32) (this_clause_heldCount : Int32) (this_games_count : Int32) (this_games_base : Int32) (this_games_topLean : Int32) (this_games_topSpot : Int32) (this_rumour_count : Int32) (this_rumour_first : Int32) (this_rumour_since : Int32) (this_squad_acts : Int32) (this_tales_count : Int32) (this_tales_fewest : Int32) (this_tales_sure : Int32) : va_W := [(h_this, .inr (10, oFX10 q_this )), ((q_this 1), .inr (0, oFX0 q_this_bets this_bets_count this_bets_near this_bets_times this_bets_ties)), ((q_this 7), .inr (1, oFX1 q_this_clause this_clause_count this_clause_heldCount)), ((q_this 0), .inr (2, oFX2 q_this_games this_games_count this_games_base this_games_topLean this_games_topSpot)), ((q_this 2), .inr (7, oFX7 q_this_rumour this_rumour_count this_rumour_first this_rumour_since)), ((q_this 3), .inr (8, oFX8 q_this_squad this_squad_acts)), ((q_this 5), .inr (9, oFX9 q_this_tales this_tales_count this_tales_fewest this_tales_sure))]
theorem m_X10_told_f12 : Cond.fieldLink RX10 12 "SoldMatches" "games" "LSoldMatches$Games;" ∈ wsX10_told := List.mem_of_getElem? (i := 1) rfl
theorem in_X10_told_X10 : ∀ w ∈ wsX100, w ∈ wsX10_told := fun w h => List.mem_cons_of_mem _ (List.mem_append_left _ (List.mem_append_left _ (List.mem_append_left _ (List.mem_append_left _ (List.mem_append_left _ (List.mem_append_left _ (List.mem_append_right _ h)))))))
theorem in_X10_told_X2 : ∀ w ∈ wsX20, w ∈ wsX10_told := fun w h => List.mem_cons_of_mem _ (List.mem_append_left _ (List.mem_append_left _ (List.mem_append_left _ (List.mem_append_left _ (List.mem_append_left _ (List.mem_append_right _ h))))))
theorem m_X10_told_f19 : Cond.fieldLink RX10 19 "SoldMatches" "bets" "LSoldMatches$Bets;" ∈ wsX10_told := List.mem_of_getElem? (i := 2) rfl
theorem in_X10_told_X0 : ∀ w ∈ wsX00, w ∈ wsX10_told := fun w h => List.mem_cons_of_mem _ (List.mem_append_left _ (List.mem_append_left _ (List.mem_append_left _ (List.mem_append_left _ (List.mem_append_right _ h)))))
theorem m_X10_told_f26 : Cond.fieldLink RX10 26 "SoldMatches" "rumour" "LSoldMatches$Rumour;" ∈ wsX10_told := List.mem_of_getElem? (i := 3) rfl
theorem in_X10_told_X7 : ∀ w ∈ wsX70, w ∈ wsX10_told := fun w h => List.mem_cons_of_mem _ (List.mem_append_left _ (List.mem_append_left _ (List.mem_append_left _ (List.mem_append_right _ h))))
theorem m_X10_told_f33 : Cond.fieldLink RX10 33 "SoldMatches" "squad" "LSoldMatches$Squad;" ∈ wsX10_told := List.mem_of_getElem? (i := 4) rfl
theorem in_X10_told_X8 : ∀ w ∈ wsX80, w ∈ wsX10_told := fun w h => List.mem_cons_of_mem _ (List.mem_append_left _ (List.mem_append_left _ (List.mem_append_right _ h)))
theorem m_X10_told_f47 : Cond.fieldLink RX10 47 "SoldMatches" "tales" "LSoldMatches$Tales;" ∈ wsX10_told := List.mem_of_getElem? (i := 5) rfl
theorem in_X10_told_X9 : ∀ w ∈ wsX90, w ∈ wsX10_told := fun w h => List.mem_cons_of_mem _ (List.mem_append_left _ (List.mem_append_right _ h))
theorem m_X10_told_f61 : Cond.fieldLink RX10 61 "SoldMatches" "clause" "LSoldMatches$Clause;" ∈ wsX10_told := List.mem_of_getElem? (i := 6) rfl
theorem in_X10_told_X1 : ∀ w ∈ wsX10, w ∈ wsX10_told := fun w h => List.mem_cons_of_mem _ (List.mem_append_right _ h)
def t_X10_told  (this_bets_count : Int32) (this_clause_count : Int32) (this_games_count : Int32) (this_rumour_count : Int32) (this_squad_acts : Int32) (this_tales_count : Int32) (x1 : Int32) : Option (Int32) := if x1 = 0 then (some (this_games_count)) else (if x1 = 1 then (some (this_bets_count)) else (if x1 = 2 then (some (this_rumour_count)) else (if x1 = 3 then (some (this_squad_acts)) else (if x1 = 4 then (some (this_tales_count)) else (if x1 = 5 then (some (this_clause_count)) else (some ((-2 : Int32))))))))
set_option maxHeartbeats 4000000 in
set_option maxRecDepth 100000 in
theorem c_X10_told (l : Launch) (D : va_G) (cI cJ cZ : ClassId) (h_this : Nat) (q_this : Nat → Nat) (q_this_bets : Nat → Nat) (q_this_clause : Nat → Nat) (q_this_games : Nat → Nat) (q_this_rumour : Nat → Nat) (q_this_squad : Nat → Nat) (q_this_tales : Nat → Nat) (this_bets_count : Int32) (this_bets_near : Int32) (this_bets_times : Int32) (this_bets_ties : Int32) (this_clause_count : Int32) (this_clause_heldCount : Int32) (this_games_count : Int32) (this_games_base : Int32) (this_games_topLean : Int32) (this_games_topSpot : Int32) (this_rumour_count : Int32) (this_rumour_first : Int32) (this_rumour_since : Int32) (this_squad_acts : Int32) (this_tales_count : Int32) (this_tales_fewest : Int32) (this_tales_sure : Int32) (x1 : Int32) (r : Int32) (hT : t_X10_told  this_bets_count this_clause_count this_games_count this_rumour_count this_squad_acts this_tales_count x1 = some r) : Ci l yX10_told wsX10_told rmX10_told D (tys3 cI cJ cZ) [.ref h_this, .int x1] (w_X10_told cI cJ cZ h_this q_this q_this_bets q_this_clause q_this_games q_this_rumour q_this_squad q_this_tales this_bets_count this_bets_near this_bets_times this_bets_ties this_clause_count this_clause_heldCount this_games_count this_games_base this_games_topLean this_games_topSpot this_rumour_count this_rumour_first this_rumour_since this_squad_acts this_tales_count this_tales_fewest this_tales_sure) r (w_X10_told cI cJ cZ h_this q_this q_this_bets q_this_clause q_this_games q_this_rumour q_this_squad q_this_tales this_bets_count this_bets_near this_bets_times this_bets_ties this_clause_count this_clause_heldCount this_games_count this_games_base this_games_topLean this_games_topSpot this_rumour_count this_rumour_first this_rumour_since this_squad_acts this_tales_count this_tales_fewest this_tales_sure) := by
  refine Ci.ofJ (cc := cX10_told) (nL := 2) (rt := (some .int)) (own := RX10) (by decide) rfl rfl (Nat.le_of_ble_eq_true rfl) ?_
  intro p e s m below meth c A X
  unfold t_X10_told at hT
  refine J_lv (lv' := [(0, .ref h_this), (1, .int x1)]) [0, 1] rfl ?_
  refine J_iload_n X dX10_told_0 1 rfl ?_
  refine J_if (x1 = 0) (fun hc1 => ?_) (fun hc1 => ?_)
  · have hT := ift hT hc1
    refine J_tsK (tgt := 40) X dX10_told_1 0 hc1 (by decide) (by decide) rfl (by decide) ?_
    refine J_aload_n X dX10_told_40 0 rfl ?_
    refine J_get (C := RX10) (T := TX10) (N := 10) (ci := 10) (v := .ref (q_this 0)) X in_X10_told_X10 0 rfl rfl 0 (by decide) m_X10_told_f12 rfl dX10_told_41 ?_
    refine J_getN (host := "SoldMatches") (C := RX2) (T := TX2) (N := 13) (ci := 2) (v := .int this_games_count) X in_X10_told_X2 3 rfl rfl 0 (by decide) (List.mem_of_getElem? (i := 3) rfl) rfl dX10_told_44 ?_
    cases hT
    exact J_iret X dX10_told_47
  · have hT := iff_ hT hc1
    refine J_if (x1 = 1) (fun hc2 => ?_) (fun hc2 => ?_)
    · have hT := ift hT hc2
      refine J_tsK (tgt := 48) X dX10_told_1 1 hc2 (by decide) (by decide) rfl (by decide) ?_
      refine J_aload_n X dX10_told_48 0 rfl ?_
      refine J_get (C := RX10) (T := TX10) (N := 10) (ci := 10) (v := .ref (q_this 1)) X in_X10_told_X10 0 rfl rfl 1 (by decide) m_X10_told_f19 rfl dX10_told_49 ?_
      refine J_getN (host := "SoldMatches") (C := RX0) (T := TX0) (N := 13) (ci := 0) (v := .int this_bets_count) X in_X10_told_X0 1 rfl rfl 0 (by decide) (List.mem_of_getElem? (i := 23) rfl) rfl dX10_told_52 ?_
      cases hT
      exact J_iret X dX10_told_55
    · have hT := iff_ hT hc2
      refine J_if (x1 = 2) (fun hc3 => ?_) (fun hc3 => ?_)
      · have hT := ift hT hc3
        refine J_tsK (tgt := 56) X dX10_told_1 2 hc3 (by decide) (by decide) rfl (by decide) ?_
        refine J_aload_n X dX10_told_56 0 rfl ?_
        refine J_get (C := RX10) (T := TX10) (N := 10) (ci := 10) (v := .ref (q_this 2)) X in_X10_told_X10 0 rfl rfl 2 (by decide) m_X10_told_f26 rfl dX10_told_57 ?_
        refine J_getN (host := "SoldMatches") (C := RX7) (T := TX7) (N := 8) (ci := 7) (v := .int this_rumour_count) X in_X10_told_X7 4 rfl rfl 0 (by decide) (List.mem_of_getElem? (i := 32) rfl) rfl dX10_told_60 ?_
        cases hT
        exact J_iret X dX10_told_63
      · have hT := iff_ hT hc3
        refine J_if (x1 = 3) (fun hc4 => ?_) (fun hc4 => ?_)
        · have hT := ift hT hc4
          refine J_tsK (tgt := 64) X dX10_told_1 3 hc4 (by decide) (by decide) rfl (by decide) ?_
          refine J_aload_n X dX10_told_64 0 rfl ?_
          refine J_get (C := RX10) (T := TX10) (N := 10) (ci := 10) (v := .ref (q_this 3)) X in_X10_told_X10 0 rfl rfl 3 (by decide) m_X10_told_f33 rfl dX10_told_65 ?_
          refine J_getN (host := "SoldMatches") (C := RX8) (T := TX8) (N := 7) (ci := 8) (v := .int this_squad_acts) X in_X10_told_X8 5 rfl rfl 3 (by decide) (List.mem_of_getElem? (i := 40) rfl) rfl dX10_told_68 ?_
          cases hT
          exact J_iret X dX10_told_71
        · have hT := iff_ hT hc4
          refine J_if (x1 = 4) (fun hc5 => ?_) (fun hc5 => ?_)
          · have hT := ift hT hc5
            refine J_tsK (tgt := 72) X dX10_told_1 4 hc5 (by decide) (by decide) rfl (by decide) ?_
            refine J_aload_n X dX10_told_72 0 rfl ?_
            refine J_get (C := RX10) (T := TX10) (N := 10) (ci := 10) (v := .ref (q_this 5)) X in_X10_told_X10 0 rfl rfl 5 (by decide) m_X10_told_f47 rfl dX10_told_73 ?_
            refine J_getN (host := "SoldMatches") (C := RX9) (T := TX9) (N := 8) (ci := 9) (v := .int this_tales_count) X in_X10_told_X9 6 rfl rfl 0 (by decide) (List.mem_of_getElem? (i := 43) rfl) rfl dX10_told_76 ?_
            cases hT
            exact J_iret X dX10_told_79
          · have hT := iff_ hT hc5
            refine J_if (x1 = 5) (fun hc6 => ?_) (fun hc6 => ?_)
            · have hT := ift hT hc6
              refine J_tsK (tgt := 80) X dX10_told_1 5 hc6 (by decide) (by decide) rfl (by decide) ?_
              refine J_aload_n X dX10_told_80 0 rfl ?_
              refine J_get (C := RX10) (T := TX10) (N := 10) (ci := 10) (v := .ref (q_this 7)) X in_X10_told_X10 0 rfl rfl 7 (by decide) m_X10_told_f61 rfl dX10_told_81 ?_
              refine J_getN (host := "SoldMatches") (C := RX1) (T := TX1) (N := 4) (ci := 1) (v := .int this_clause_count) X in_X10_told_X1 2 rfl rfl 0 (by decide) (List.mem_of_getElem? (i := 52) rfl) rfl dX10_told_84 ?_
              cases hT
              exact J_iret X dX10_told_87
            · have hT := iff_ hT hc6
              refine J_tsD (tgt := 88) X dX10_told_1 (by have e0 := lv_neT (a := 0) hc1 (by decide); have e1 := lv_neT (a := 1) hc2 (by decide); have e2 := lv_neT (a := 2) hc3 (by decide); have e3 := lv_neT (a := 3) hc4 (by decide); have e4 := lv_neT (a := 4) hc5 (by decide); have e5 := lv_neT (a := 5) hc6 (by decide); omega) (by decide) ?_
              refine J_bipush (v := -2) X dX10_told_88 (by decide) ?_
              cases hT
              exact J_iret X dX10_told_90
-- ===== SoldMatchesModel.in(III)Z
abbrev rmX11_in : Room := { frames := 0, cells := 0, slots := 0, locals := 0 }
def w_X11_in (cI cJ cZ : ClassId)  : va_W := []
def t_X11_in_15    (s0 : Int32) : Option (Int32) := ckn (¬ (s0 = 0 ∨ s0 = 1)) (some (s0))
def t_X11_in   (x0 : Int32) (x1 : Int32) (x2 : Int32) : Option (Int32) := if x0 < x1 then (t_X11_in_15   (0 : Int32)) else (if x2 < x0 then (t_X11_in_15   (0 : Int32)) else (t_X11_in_15   (1 : Int32)))
set_option maxHeartbeats 4000000 in
set_option maxRecDepth 100000 in
theorem b_X11_in_15 {p : Program} {l : Launch} {e : Env} {s : State} {m : MethodId} {args : Array Value} {below : List Frame} {meth : Method} {c : Code} {D : va_G} {A : Nat → Prop} {cI cJ cZ : ClassId} (X : Cx p m c cX11_in 3 s args wsX11_in RX11 D (tys3 cI cJ cZ) meth (some .boolean)) (_ _ _ : ClassId)   (r : Int32)   (s0 : Int32) (hT : t_X11_in_15    s0 = some r) : J p l e rmX11_in s m args below meth c D A 3 (QI D below args s A r (w_X11_in cI cJ cZ )) 0 0 (w_X11_in cI cJ cZ ) [] [.int s0] 15 := by
  unfold t_X11_in_15 at hT
  obtain ⟨hk1, hT⟩ := ckn_e hT
  cases hT
  exact J_zret X (Decidable.not_not.mp hk1) dX11_in_15
set_option maxHeartbeats 4000000 in
set_option maxRecDepth 100000 in
theorem c_X11_in (l : Launch) (D : va_G) (cI cJ cZ : ClassId)  (x0 : Int32) (x1 : Int32) (x2 : Int32) (r : Int32) (hT : t_X11_in   x0 x1 x2 = some r) : Ci l yX11_in wsX11_in rmX11_in D (tys3 cI cJ cZ) [.int x0, .int x1, .int x2] (w_X11_in cI cJ cZ ) r (w_X11_in cI cJ cZ ) := by
  refine Ci.ofJ (cc := cX11_in) (nL := 3) (rt := (some .boolean)) (own := RX11) (by decide) rfl rfl (Nat.le_of_ble_eq_true rfl) ?_
  intro p e s m below meth c A X
  unfold t_X11_in at hT
  refine J_lv (lv' := [(0, .int x0), (1, .int x1), (2, .int x2)]) [0, 1, 2] rfl ?_
  refine J_iload_n X dX11_in_0 0 rfl ?_
  refine J_iload_n X dX11_in_1 1 rfl ?_
  refine J_icmp_lt (tgt := 14) X dX11_in_2 (by decide) (fun hc2 => ?_) (fun hc2 => ?_)
  · have hT := ift hT hc2
    refine J_iconst (v := 0) X dX11_in_14 (by decide) ?_
    refine J_lv (lv' := []) [] rfl ?_
    exact b_X11_in_15 X cI cJ cZ  r  (0 : Int32) hT
  · have hT := iff_ hT hc2
    refine J_iload_n X dX11_in_5 0 rfl ?_
    refine J_iload_n X dX11_in_6 2 rfl ?_
    refine J_icmp_gt (tgt := 14) X dX11_in_7 (by decide) (fun hc3 => ?_) (fun hc3 => ?_)
    · have hT := ift hT hc3
      refine J_iconst (v := 0) X dX11_in_14 (by decide) ?_
      refine J_lv (lv' := []) [] rfl ?_
      exact b_X11_in_15 X cI cJ cZ  r  (0 : Int32) hT
    · have hT := iff_ hT hc3
      refine J_iconst (v := 1) X dX11_in_10 (by decide) ?_
      refine J_goto (tgt := 15) X dX11_in_11 (by decide) ?_
      refine J_lv (lv' := []) [] rfl ?_
      exact b_X11_in_15 X cI cJ cZ  r  (1 : Int32) hT
-- ===== SoldMatchesModel.isSide(I)Z
abbrev rmX11_isSide : Room := { frames := 1, cells := 0, slots := 0, locals := 22 }
def w_X11_isSide (cI cJ cZ : ClassId)  : va_W := []
theorem cw_X11_isSide_X11_in_138 {s : State} {args : Array Value} (hts : ∀ w ∈ wsX11_isSide, w.before args s = true) : CallB rmX11_isSide s args RX11 138 yX11_in cX11_in 3 (some .boolean) wsX11_in rmX11_in 0 0 3 ∧ (Cond.static yX11_in).before args s = true := va_cwS 3 hts gX11_isSide_X11_in rfl rfl rfl (by decide +kernel) ⟨by decide, by decide⟩
def t_X11_isSide   (x0 : Int32) : Option (Int32) := bd1 (t_X11_in x0 (0 : Int32) (7 : Int32)) (fun v1 => ckn (¬ (v1 = 0 ∨ v1 = 1)) (some (v1)))
set_option maxHeartbeats 4000000 in
set_option maxRecDepth 100000 in
theorem c_X11_isSide (l : Launch) (D : va_G) (cI cJ cZ : ClassId)  (x0 : Int32) (r : Int32) (hT : t_X11_isSide   x0 = some r) : Ci l yX11_isSide wsX11_isSide rmX11_isSide D (tys3 cI cJ cZ) [.int x0] (w_X11_isSide cI cJ cZ ) r (w_X11_isSide cI cJ cZ ) := by
  refine Ci.ofJ (cc := cX11_isSide) (nL := 1) (rt := (some .boolean)) (own := RX11) (by decide) rfl rfl (Nat.le_of_ble_eq_true rfl) ?_
  intro p e s m below meth c A X
  unfold t_X11_isSide at hT
  refine J_lv (lv' := [(0, .int x0)]) [0] rfl ?_
  refine J_iload_n X dX11_isSide_0 0 rfl ?_
  refine J_iconst (v := 0) X dX11_isSide_1 (by decide) ?_
  refine J_bipush (v := 7) X dX11_isSide_2 (by decide) ?_
  obtain ⟨v1, hq1, hT⟩ := bd1_e hT
  refine J_ci (wc := (w_X11_in cI cJ cZ )) (wc' := (w_X11_in cI cJ cZ )) (ws' := (w_X11_isSide cI cJ cZ )) [] [] 0 rfl rfl rfl rfl rfl rfl rfl rfl (run_S (As := [.int x0, .int (0 : Int32), .int (7 : Int32)]) (rest := []) X (c_X11_in l D cI cJ cZ  x0 (0 : Int32) (7 : Int32) v1 hq1) (cw_X11_isSide_X11_in_138 X.1.2.2.2.2) rfl rfl (Nat.le_of_ble_eq_true rfl) dX11_isSide_4 ⟨Nat.zero_le _, Nat.zero_le _⟩) ?_
  obtain ⟨hk2, hT⟩ := ckn_e hT
  cases hT
  exact J_zret X (Decidable.not_not.mp hk2) dX11_isSide_7
-- ===== SoldMatchesModel.isTen(I)Z
abbrev rmX11_isTen : Room := { frames := 1, cells := 0, slots := 0, locals := 22 }
def w_X11_isTen (cI cJ cZ : ClassId)  : va_W := []
theorem cw_X11_isTen_X11_in_138 {s : State} {args : Array Value} (hts : ∀ w ∈ wsX11_isTen, w.before args s = true) : CallB rmX11_isTen s args RX11 138 yX11_in cX11_in 3 (some .boolean) wsX11_in rmX11_in 0 0 3 ∧ (Cond.static yX11_in).before args s = true := va_cwS 3 hts gX11_isTen_X11_in rfl rfl rfl (by decide +kernel) ⟨by decide, by decide⟩
def t_X11_isTen   (x0 : Int32) : Option (Int32) := bd1 (t_X11_in x0 (0 : Int32) (9 : Int32)) (fun v1 => ckn (¬ (v1 = 0 ∨ v1 = 1)) (some (v1)))
set_option maxHeartbeats 4000000 in
set_option maxRecDepth 100000 in
theorem c_X11_isTen (l : Launch) (D : va_G) (cI cJ cZ : ClassId)  (x0 : Int32) (r : Int32) (hT : t_X11_isTen   x0 = some r) : Ci l yX11_isTen wsX11_isTen rmX11_isTen D (tys3 cI cJ cZ) [.int x0] (w_X11_isTen cI cJ cZ ) r (w_X11_isTen cI cJ cZ ) := by
  refine Ci.ofJ (cc := cX11_isTen) (nL := 1) (rt := (some .boolean)) (own := RX11) (by decide) rfl rfl (Nat.le_of_ble_eq_true rfl) ?_
  intro p e s m below meth c A X
  unfold t_X11_isTen at hT
  refine J_lv (lv' := [(0, .int x0)]) [0] rfl ?_
  refine J_iload_n X dX11_isTen_0 0 rfl ?_
  refine J_iconst (v := 0) X dX11_isTen_1 (by decide) ?_
  refine J_bipush (v := 9) X dX11_isTen_2 (by decide) ?_
  obtain ⟨v1, hq1, hT⟩ := bd1_e hT
  refine J_ci (wc := (w_X11_in cI cJ cZ )) (wc' := (w_X11_in cI cJ cZ )) (ws' := (w_X11_isTen cI cJ cZ )) [] [] 0 rfl rfl rfl rfl rfl rfl rfl rfl (run_S (As := [.int x0, .int (0 : Int32), .int (9 : Int32)]) (rest := []) X (c_X11_in l D cI cJ cZ  x0 (0 : Int32) (9 : Int32) v1 hq1) (cw_X11_isTen_X11_in_138 X.1.2.2.2.2) rfl rfl (Nat.le_of_ble_eq_true rfl) dX11_isTen_4 ⟨Nat.zero_le _, Nat.zero_le _⟩) ?_
  obtain ⟨hk2, hT⟩ := ckn_e hT
  cases hT
  exact J_zret X (Decidable.not_not.mp hk2) dX11_isTen_7
-- ===== SoldMatchesModel.isMatch(I)Z
abbrev rmX11_isMatch : Room := { frames := 1, cells := 0, slots := 0, locals := 22 }
def w_X11_isMatch (cI cJ cZ : ClassId) (h_this : Nat) (q_this : Nat → Nat) (this_matches : Int32) (this_stakes : Int32) (this_meetings : Int32) (this_newsFirst : Int32) (this_newsHour : Int32) (this_acts : Int32) (this_stories : Int32) (this_signs : Int32) (this_ruleMany : Int32) (this_upper : Int64) (this_lower : Int64) (this_greatAt : Int32) (this_sides : Int32) : va_W := [(h_this, .inr (11, oFX11 q_this this_matches this_stakes this_meetings this_newsFirst this_newsHour this_acts this_stories this_signs this_ruleMany this_upper this_lower this_greatAt this_sides))]
theorem m_X11_isMatch_f142 : Cond.fieldLink RX11 142 "SoldMatchesModel" "matches" "I" ∈ wsX11_isMatch := List.mem_of_getElem? (i := 1) rfl
theorem in_X11_isMatch_X11 : ∀ w ∈ wsX110, w ∈ wsX11_isMatch := fun w h => List.mem_cons_of_mem _ (List.mem_append_right _ h)
theorem cw_X11_isMatch_X11_in_138 {s : State} {args : Array Value} (hts : ∀ w ∈ wsX11_isMatch, w.before args s = true) : CallB rmX11_isMatch s args RX11 138 yX11_in cX11_in 3 (some .boolean) wsX11_in rmX11_in 0 0 3 ∧ (Cond.static yX11_in).before args s = true := va_cwS 3 hts gX11_isMatch_X11_in rfl rfl rfl (by decide +kernel) ⟨by decide, by decide⟩
def t_X11_isMatch  (this_matches : Int32) (x1 : Int32) : Option (Int32) := bd1 (t_X11_in x1 (0 : Int32) (this_matches - (1 : Int32))) (fun v1 => ckn (¬ (v1 = 0 ∨ v1 = 1)) (some (v1)))
set_option maxHeartbeats 4000000 in
set_option maxRecDepth 100000 in
theorem c_X11_isMatch (l : Launch) (D : va_G) (cI cJ cZ : ClassId) (h_this : Nat) (q_this : Nat → Nat) (this_matches : Int32) (this_stakes : Int32) (this_meetings : Int32) (this_newsFirst : Int32) (this_newsHour : Int32) (this_acts : Int32) (this_stories : Int32) (this_signs : Int32) (this_ruleMany : Int32) (this_upper : Int64) (this_lower : Int64) (this_greatAt : Int32) (this_sides : Int32) (x1 : Int32) (r : Int32) (hT : t_X11_isMatch  this_matches x1 = some r) : Ci l yX11_isMatch wsX11_isMatch rmX11_isMatch D (tys3 cI cJ cZ) [.ref h_this, .int x1] (w_X11_isMatch cI cJ cZ h_this q_this this_matches this_stakes this_meetings this_newsFirst this_newsHour this_acts this_stories this_signs this_ruleMany this_upper this_lower this_greatAt this_sides) r (w_X11_isMatch cI cJ cZ h_this q_this this_matches this_stakes this_meetings this_newsFirst this_newsHour this_acts this_stories this_signs this_ruleMany this_upper this_lower this_greatAt this_sides) := by
  refine Ci.ofJ (cc := cX11_isMatch) (nL := 2) (rt := (some .boolean)) (own := RX11) (by decide) rfl rfl (Nat.le_of_ble_eq_true rfl) ?_
  intro p e s m below meth c A X
  unfold t_X11_isMatch at hT
  refine J_lv (lv' := [(0, .ref h_this), (1, .int x1)]) [0, 1] rfl ?_
  refine J_iload_n X dX11_isMatch_0 1 rfl ?_
  refine J_iconst (v := 0) X dX11_isMatch_1 (by decide) ?_
  refine J_aload_n X dX11_isMatch_2 0 rfl ?_
  refine J_get (C := RX11) (T := TX11) (N := 54) (ci := 11) (v := .int this_matches) X in_X11_isMatch_X11 0 rfl rfl 2 (by decide) m_X11_isMatch_f142 rfl dX11_isMatch_3 ?_
  refine J_iconst (v := 1) X dX11_isMatch_6 (by decide) ?_
  refine J_isub X dX11_isMatch_7 ?_
  obtain ⟨v1, hq1, hT⟩ := bd1_e hT
  refine J_ci (wc := (w_X11_in cI cJ cZ )) (wc' := (w_X11_in cI cJ cZ )) (ws' := (w_X11_isMatch cI cJ cZ h_this q_this this_matches this_stakes this_meetings this_newsFirst this_newsHour this_acts this_stories this_signs this_ruleMany this_upper this_lower this_greatAt this_sides)) [] [0] 1 rfl rfl rfl rfl rfl rfl rfl rfl (run_S (As := [.int x1, .int (0 : Int32), .int (this_matches - (1 : Int32))]) (rest := []) X (c_X11_in l D cI cJ cZ  x1 (0 : Int32) (this_matches - (1 : Int32)) v1 hq1) (cw_X11_isMatch_X11_in_138 X.1.2.2.2.2) rfl rfl (Nat.le_of_ble_eq_true rfl) dX11_isMatch_8 ⟨Nat.zero_le _, Nat.zero_le _⟩) ?_
  obtain ⟨hk2, hT⟩ := ckn_e hT
  cases hT
  exact J_zret X (Decidable.not_not.mp hk2) dX11_isMatch_11
-- ===== SoldMatchesModel.common(JJ)J
abbrev rmX11_common : Room := { frames := 0, cells := 0, slots := 0, locals := 0 }
def w_X11_common (cI cJ cZ : ClassId)  : va_W := []
def t_X11_common_6_b  (k_6 : Int64 → Int64 → Option (Int64))  (x4 : Int64) (x6 : Int64) : Option (Int64) := if (lg_cmp x6 (0 : Int64)) = 0 then (some (x4)) else (ckn (x6 = 0) (k_6 x6 (x4 - x4 / x6 * x6)))
def t_X11_common_6   (n : Nat) : Int64 → Int64 → Option (Int64) := Nat.rec (fun _ _ => none) (fun _ ih => t_X11_common_6_b   ih) n
def t_X11_common   (x0 : Int64) (x2 : Int64) : Option (Int64) := t_X11_common_6   lfuel x0 x2
set_option maxHeartbeats 4000000 in
set_option maxRecDepth 100000 in
theorem b_X11_common_6_b {p : Program} {l : Launch} {e : Env} {s : State} {m : MethodId} {args : Array Value} {below : List Frame} {meth : Method} {c : Code} {D : va_G} {A : Nat → Prop} {cI cJ cZ : ClassId} (X : Cx p m c cX11_common 10 s args wsX11_common RX11 D (tys3 cI cJ cZ) meth (some .long)) (_ _ _ : ClassId)   (r : Int64) (k_6 : Int64 → Int64 → Option (Int64)) (hk_6 : ∀  (x4 : Int64) (x6 : Int64), k_6 x4 x6 = some r → J p l e rmX11_common s m args below meth c D A 10 (QL D below args s A r (w_X11_common cI cJ cZ )) 0 0 (w_X11_common cI cJ cZ ) [(4, .long x4), (6, .long x6)] [] 6)  (x4 : Int64) (x6 : Int64) (hT : t_X11_common_6_b  k_6  x4 x6 = some r) : J p l e rmX11_common s m args below meth c D A 10 (QL D below args s A r (w_X11_common cI cJ cZ )) 0 0 (w_X11_common cI cJ cZ ) [(4, .long x4), (6, .long x6)] [] 6 := by
  unfold t_X11_common_6_b at hT
  refine J_lload X dX11_common_6 1 rfl ?_
  refine J_lconst (v := 0) X dX11_common_8 (by decide) ?_
  refine J_lcmp X dX11_common_9 ?_
  refine J_if_eq (tgt := 31) X dX11_common_10 (by decide) (fun hc1 => ?_) (fun hc1 => ?_)
  · have hT := ift hT hc1
    refine J_lload X dX11_common_31 0 rfl ?_
    cases hT
    exact J_lret X dX11_common_33
  · have hT := iff_ hT hc1
    refine J_lload X dX11_common_13 0 rfl ?_
    refine J_lload X dX11_common_15 1 rfl ?_
    obtain ⟨hk2, hT⟩ := ckn_e hT
    refine J_lrem X dX11_common_17 hk2 ?_
    refine J_lstore (lv' := [(8, .long (x4 - x4 / x6 * x6)), (4, .long x4), (6, .long x6)]) X dX11_common_18 (by decide) rfl ?_
    refine J_lload X dX11_common_20 2 rfl ?_
    refine J_lstore (lv' := [(4, .long x6), (8, .long (x4 - x4 / x6 * x6)), (6, .long x6)]) X dX11_common_22 (by decide) rfl ?_
    refine J_lload X dX11_common_24 1 rfl ?_
    refine J_lstore (lv' := [(6, .long (x4 - x4 / x6 * x6)), (4, .long x6), (8, .long (x4 - x4 / x6 * x6))]) X dX11_common_26 (by decide) rfl ?_
    refine J_goto (tgt := 6) X dX11_common_28 (by decide) ?_
    refine J_lv (lv' := [(4, .long x6), (6, .long (x4 - x4 / x6 * x6))]) [1, 0] rfl ?_
    exact hk_6 x6 (x4 - x4 / x6 * x6) hT
set_option maxHeartbeats 4000000 in
set_option maxRecDepth 100000 in
theorem b_X11_common_6 {p : Program} {l : Launch} {e : Env} {s : State} {m : MethodId} {args : Array Value} {below : List Frame} {meth : Method} {c : Code} {D : va_G} {A : Nat → Prop} {cI cJ cZ : ClassId} (X : Cx p m c cX11_common 10 s args wsX11_common RX11 D (tys3 cI cJ cZ) meth (some .long)) (_ _ _ : ClassId)   (r : Int64)  : ∀ (n : Nat)  (x4 : Int64) (x6 : Int64) (hT : t_X11_common_6   n  x4 x6 = some r), J p l e rmX11_common s m args below meth c D A 10 (QL D below args s A r (w_X11_common cI cJ cZ )) 0 0 (w_X11_common cI cJ cZ ) [(4, .long x4), (6, .long x6)] [] 6 := by
  intro n
  induction n with
  | zero => intro x4 x6 hT; cases hT
  | succ n ih =>
    intro x4 x6 hT
    exact b_X11_common_6_b X cI cJ cZ  r  (t_X11_common_6   n) ih x4 x6 hT
set_option maxHeartbeats 4000000 in
set_option maxRecDepth 100000 in
theorem c_X11_common (l : Launch) (D : va_G) (cI cJ cZ : ClassId)  (x0 : Int64) (x2 : Int64) (r : Int64) (hT : t_X11_common   x0 x2 = some r) : Cl l yX11_common wsX11_common rmX11_common D (tys3 cI cJ cZ) [.long x0, .long x2] (w_X11_common cI cJ cZ ) r (w_X11_common cI cJ cZ ) := by
  refine Cl.ofJ (cc := cX11_common) (nL := 10) (rt := (some .long)) (own := RX11) (by decide) rfl rfl (Nat.le_of_ble_eq_true rfl) ?_
  intro p e s m below meth c A X
  unfold t_X11_common at hT
  refine J_lv (lv' := [(0, .long x0), (2, .long x2)]) [0, 1] rfl ?_
  refine J_lload_n X dX11_common_0 0 rfl ?_
  refine J_lstore (lv' := [(4, .long x0), (0, .long x0), (2, .long x2)]) X dX11_common_1 (by decide) rfl ?_
  refine J_lload_n X dX11_common_3 2 rfl ?_
  refine J_lstore (lv' := [(6, .long x2), (4, .long x0), (0, .long x0), (2, .long x2)]) X dX11_common_4 (by decide) rfl ?_
  refine J_lv (lv' := [(4, .long x0), (6, .long x2)]) [1, 0] rfl ?_
  exact b_X11_common_6 X cI cJ cZ  r  lfuel x0 x2 hT
-- ===== SoldMatchesModel.term(JJI)J
abbrev rmX11_term : Room := { frames := 1, cells := 0, slots := 0, locals := 29 }
def w_X11_term (cI cJ cZ : ClassId)  : va_W := []
theorem cw_X11_term_X11_common_145 {s : State} {args : Array Value} (hts : ∀ w ∈ wsX11_term, w.before args s = true) : CallB rmX11_term s args RX11 145 yX11_common cX11_common 10 (some .long) wsX11_common rmX11_common 0 0 2 ∧ (Cond.static yX11_common).before args s = true := va_cwS 2 hts gX11_term_X11_common rfl rfl rfl (by decide +kernel) ⟨by decide, by decide⟩
def t_X11_term_23    (s0 : Int64) : Option (Int64) := some (s0)
def t_X11_term   (x0 : Int64) (x2 : Int64) (x4 : Int32) : Option (Int64) := bd1 (t_X11_common x0 x2) (fun v1 => if x4 = 0 then (ckn (v1 = 0) (t_X11_term_23   (x0 / v1))) else (ckn (v1 = 0) (t_X11_term_23   (x2 / v1))))
set_option maxHeartbeats 4000000 in
set_option maxRecDepth 100000 in
theorem b_X11_term_23 {p : Program} {l : Launch} {e : Env} {s : State} {m : MethodId} {args : Array Value} {below : List Frame} {meth : Method} {c : Code} {D : va_G} {A : Nat → Prop} {cI cJ cZ : ClassId} (X : Cx p m c cX11_term 7 s args wsX11_term RX11 D (tys3 cI cJ cZ) meth (some .long)) (_ _ _ : ClassId)   (r : Int64)   (s0 : Int64) (hT : t_X11_term_23    s0 = some r) : J p l e rmX11_term s m args below meth c D A 7 (QL D below args s A r (w_X11_term cI cJ cZ )) 0 0 (w_X11_term cI cJ cZ ) [] [.long s0] 23 := by
  unfold t_X11_term_23 at hT
  cases hT
  exact J_lret X dX11_term_23
set_option maxHeartbeats 4000000 in
set_option maxRecDepth 100000 in
theorem c_X11_term (l : Launch) (D : va_G) (cI cJ cZ : ClassId)  (x0 : Int64) (x2 : Int64) (x4 : Int32) (r : Int64) (hT : t_X11_term   x0 x2 x4 = some r) : Cl l yX11_term wsX11_term rmX11_term D (tys3 cI cJ cZ) [.long x0, .long x2, .int x4] (w_X11_term cI cJ cZ ) r (w_X11_term cI cJ cZ ) := by
  refine Cl.ofJ (cc := cX11_term) (nL := 7) (rt := (some .long)) (own := RX11) (by decide) rfl rfl (Nat.le_of_ble_eq_true rfl) ?_
  intro p e s m below meth c A X
  unfold t_X11_term at hT
  refine J_lv (lv' := [(0, .long x0), (2, .long x2), (4, .int x4)]) [0, 1, 2] rfl ?_
  refine J_lload_n X dX11_term_0 0 rfl ?_
  refine J_lload_n X dX11_term_1 1 rfl ?_
  obtain ⟨v1, hq1, hT⟩ := bd1_e hT
  refine J_cl (wc := (w_X11_common cI cJ cZ )) (wc' := (w_X11_common cI cJ cZ )) (ws' := (w_X11_term cI cJ cZ )) [] [] 0 rfl rfl rfl rfl rfl rfl rfl rfl (run_S (As := [.long x0, .long x2]) (rest := []) X (c_X11_common l D cI cJ cZ  x0 x2 v1 hq1) (cw_X11_term_X11_common_145 X.1.2.2.2.2) rfl rfl (Nat.le_of_ble_eq_true rfl) dX11_term_2 ⟨Nat.zero_le _, Nat.zero_le _⟩) ?_
  refine J_lstore (lv' := [(5, .long v1), (0, .long x0), (2, .long x2), (4, .int x4)]) X dX11_term_5 (by decide) rfl ?_
  refine J_iload X dX11_term_7 3 rfl ?_
  refine J_if_ne (tgt := 19) X dX11_term_9 (by decide) (fun hc2 => ?_) (fun hc2 => ?_)
  · have hT := iff_ hT hc2
    refine J_lload_n X dX11_term_19 2 rfl ?_
    refine J_lload X dX11_term_20 0 rfl ?_
    obtain ⟨hk3, hT⟩ := ckn_e hT
    refine J_ldiv X dX11_term_22 hk3 ?_
    refine J_lv (lv' := []) [] rfl ?_
    exact b_X11_term_23 X cI cJ cZ  r  (x2 / v1) hT
  · have hT := ift hT hc2
    refine J_lload_n X dX11_term_12 1 rfl ?_
    refine J_lload X dX11_term_13 0 rfl ?_
    obtain ⟨hk4, hT⟩ := ckn_e hT
    refine J_ldiv X dX11_term_15 hk4 ?_
    refine J_goto (tgt := 23) X dX11_term_16 (by decide) ?_
    refine J_lv (lv' := []) [] rfl ?_
    exact b_X11_term_23 X cI cJ cZ  r  (x0 / v1) hT
-- ===== SoldMatchesModel.skill(II)I
abbrev rmX11_skill : Room := { frames := 2, cells := 0, slots := 0, locals := 42 }
def w_X11_skill (cI cJ cZ : ClassId) (h_this : Nat) (q_this : Nat → Nat) (this_matches : Int32) (this_stakes : Int32) (this_meetings : Int32) (this_newsFirst : Int32) (this_newsHour : Int32) (this_acts : Int32) (this_stories : Int32) (this_signs : Int32) (this_ruleMany : Int32) (this_upper : Int64) (this_lower : Int64) (this_greatAt : Int32) (this_sides : Int32) (this_skill : Nat → Int32) : va_W := [(h_this, .inr (11, oFX11 q_this this_matches this_stakes this_meetings this_newsFirst this_newsHour this_acts this_stories this_signs this_ruleMany this_upper this_lower this_greatAt this_sides)), ((q_this 0), .inl (cI, 8, .inl this_skill))]
theorem cw_X11_skill_X11_isSide_149 {s : State} {args : Array Value} (hts : ∀ w ∈ wsX11_skill, w.before args s = true) : CallB rmX11_skill s args RX11 149 yX11_isSide cX11_isSide 1 (some .boolean) wsX11_isSide rmX11_isSide 0 0 1 ∧ (Cond.static yX11_isSide).before args s = true := va_cwS 1 hts gX11_skill_X11_isSide rfl rfl rfl (by decide +kernel) ⟨by decide, by decide⟩
theorem cw_X11_skill_X11_in_138 {s : State} {args : Array Value} (hts : ∀ w ∈ wsX11_skill, w.before args s = true) : CallB rmX11_skill s args RX11 138 yX11_in cX11_in 3 (some .boolean) wsX11_in rmX11_in 0 0 3 ∧ (Cond.static yX11_in).before args s = true := va_cwS 3 hts gX11_skill_X11_in rfl rfl rfl (by decide +kernel) ⟨by decide, by decide⟩
theorem m_X11_skill_f7 : Cond.fieldLink RX11 7 "SoldMatchesModel" "skill" "[I" ∈ wsX11_skill := List.mem_of_getElem? (i := 1) rfl
theorem in_X11_skill_X11 : ∀ w ∈ wsX110, w ∈ wsX11_skill := fun w h => List.mem_cons_of_mem _ (List.mem_append_right _ h)
def t_X11_skill  (this_skill : Nat → Int32) (x1 : Int32) (x2 : Int32) : Option (Int32 × (Nat → Int32)) := bd1 (t_X11_isSide x1) (fun v1 => if v1 = 0 then (some ((-1 : Int32), this_skill)) else (bd1 (t_X11_in x2 (0 : Int32) (99 : Int32)) (fun v3 => if v3 = 0 then (some ((-2 : Int32), this_skill)) else (ckn (x1 < 0 ∨ 8 ≤ x1.toNatClampNeg) (ckn (x1 < 0 ∨ 8 ≤ x1.toNatClampNeg) (some (this_skill x1.toNatClampNeg, upd this_skill x1.toNatClampNeg x2)))))))
set_option maxHeartbeats 4000000 in
set_option maxRecDepth 100000 in
theorem c_X11_skill (l : Launch) (D : va_G) (cI cJ cZ : ClassId) (h_this : Nat) (q_this : Nat → Nat) (this_matches : Int32) (this_stakes : Int32) (this_meetings : Int32) (this_newsFirst : Int32) (this_newsHour : Int32) (this_acts : Int32) (this_stories : Int32) (this_signs : Int32) (this_ruleMany : Int32) (this_upper : Int64) (this_lower : Int64) (this_greatAt : Int32) (this_sides : Int32) (this_skill : Nat → Int32) (x1 : Int32) (x2 : Int32) (r : Int32) (z0 : Nat → Int32) (hT : t_X11_skill  this_skill x1 x2 = some (r, z0)) : Ci l yX11_skill wsX11_skill rmX11_skill D (tys3 cI cJ cZ) [.ref h_this, .int x1, .int x2] (w_X11_skill cI cJ cZ h_this q_this this_matches this_stakes this_meetings this_newsFirst this_newsHour this_acts this_stories this_signs this_ruleMany this_upper this_lower this_greatAt this_sides this_skill) r (w_X11_skill cI cJ cZ h_this q_this this_matches this_stakes this_meetings this_newsFirst this_newsHour this_acts this_stories this_signs this_ruleMany this_upper this_lower this_greatAt this_sides z0) := by
  refine Ci.ofJ (cc := cX11_skill) (nL := 4) (rt := (some .int)) (own := RX11) (by decide) rfl rfl (Nat.le_of_ble_eq_true rfl) ?_
  intro p e s m below meth c A X
  unfold t_X11_skill at hT
  refine J_lv (lv' := [(0, .ref h_this), (1, .int x1), (2, .int x2)]) [0, 1, 2] rfl ?_
  refine J_iload_n X dX11_skill_0 1 rfl ?_
  obtain ⟨v1, hq1, hT⟩ := bd1_e hT
  refine J_ci (wc := (w_X11_isSide cI cJ cZ )) (wc' := (w_X11_isSide cI cJ cZ )) (ws' := (w_X11_skill cI cJ cZ h_this q_this this_matches this_stakes this_meetings this_newsFirst this_newsHour this_acts this_stories this_signs this_ruleMany this_upper this_lower this_greatAt this_sides this_skill)) [] [0, 1] 2 rfl rfl rfl rfl rfl rfl rfl rfl (run_S (As := [.int x1]) (rest := []) X (c_X11_isSide l D cI cJ cZ  x1 v1 hq1) (cw_X11_skill_X11_isSide_149 X.1.2.2.2.2) rfl rfl (Nat.le_of_ble_eq_true rfl) dX11_skill_1 ⟨Nat.zero_le _, Nat.zero_le _⟩) ?_
  refine J_if_ne (tgt := 9) X dX11_skill_4 (by decide) (fun hc2 => ?_) (fun hc2 => ?_)
  · have hT := iff_ hT hc2
    refine J_iload_n X dX11_skill_9 2 rfl ?_
    refine J_iconst (v := 0) X dX11_skill_10 (by decide) ?_
    refine J_bipush (v := 99) X dX11_skill_11 (by decide) ?_
    obtain ⟨v3, hq3, hT⟩ := bd1_e hT
    refine J_ci (wc := (w_X11_in cI cJ cZ )) (wc' := (w_X11_in cI cJ cZ )) (ws' := (w_X11_skill cI cJ cZ h_this q_this this_matches this_stakes this_meetings this_newsFirst this_newsHour this_acts this_stories this_signs this_ruleMany this_upper this_lower this_greatAt this_sides this_skill)) [] [0, 1] 2 rfl rfl rfl rfl rfl rfl rfl rfl (run_S (As := [.int x2, .int (0 : Int32), .int (99 : Int32)]) (rest := []) X (c_X11_in l D cI cJ cZ  x2 (0 : Int32) (99 : Int32) v3 hq3) (cw_X11_skill_X11_in_138 X.1.2.2.2.2) rfl rfl (Nat.le_of_ble_eq_true rfl) dX11_skill_13 ⟨Nat.zero_le _, Nat.zero_le _⟩) ?_
    refine J_if_ne (tgt := 22) X dX11_skill_16 (by decide) (fun hc4 => ?_) (fun hc4 => ?_)
    · have hT := iff_ hT hc4
      refine J_aload_n X dX11_skill_22 0 rfl ?_
      refine J_get (C := RX11) (T := TX11) (N := 54) (ci := 11) (v := .ref (q_this 0)) X in_X11_skill_X11 0 rfl rfl 0 (by decide) m_X11_skill_f7 rfl dX11_skill_23 ?_
      refine J_iload_n X dX11_skill_26 1 rfl ?_
      obtain ⟨hk5, hT⟩ := ckn_e hT
      refine J_iald X 1 rfl rfl hk5 dX11_skill_27 ?_
      refine J_istore_n (lv' := [(3, .int (this_skill x1.toNatClampNeg)), (0, .ref h_this), (1, .int x1), (2, .int x2)]) X dX11_skill_28 (by decide) rfl ?_
      refine J_aload_n X dX11_skill_29 1 rfl ?_
      refine J_get (C := RX11) (T := TX11) (N := 54) (ci := 11) (v := .ref (q_this 0)) X in_X11_skill_X11 0 rfl rfl 0 (by decide) m_X11_skill_f7 rfl dX11_skill_30 ?_
      refine J_iload_n X dX11_skill_33 2 rfl ?_
      refine J_iload_n X dX11_skill_34 3 rfl ?_
      obtain ⟨hk6, hT⟩ := ckn_e hT
      refine J_iast (ws' := (w_X11_skill cI cJ cZ h_this q_this this_matches this_stakes this_meetings this_newsFirst this_newsHour this_acts this_stories this_signs this_ruleMany this_upper this_lower this_greatAt this_sides (upd this_skill x1.toNatClampNeg x2))) X 1 rfl rfl hk6 rfl dX11_skill_35 ?_
      refine J_iload_n X dX11_skill_36 0 rfl ?_
      cases hT
      exact J_iret X dX11_skill_37
    · have hT := ift hT hc4
      refine J_bipush (v := -2) X dX11_skill_19 (by decide) ?_
      cases hT
      exact J_iret X dX11_skill_21
  · have hT := ift hT hc2
    refine J_iconst (v := -1) X dX11_skill_7 (by decide) ?_
    cases hT
    exact J_iret X dX11_skill_8
-- ===== SoldMatchesModel.match(III)I
abbrev rmX11_match : Room := { frames := 2, cells := 0, slots := 0, locals := 42 }
def w_X11_match (cI cJ cZ : ClassId) (h_this : Nat) (q_this : Nat → Nat) (this_matches : Int32) (this_stakes : Int32) (this_meetings : Int32) (this_newsFirst : Int32) (this_newsHour : Int32) (this_acts : Int32) (this_stories : Int32) (this_signs : Int32) (this_ruleMany : Int32) (this_upper : Int64) (this_lower : Int64) (this_greatAt : Int32) (this_sides : Int32) (this_guest : Nat → Int32) (this_home : Nat → Int32) (this_look : Nat → Int32) (this_referee : Nat → Int32) : va_W := [(h_this, .inr (11, oFX11 q_this this_matches this_stakes this_meetings this_newsFirst this_newsHour this_acts this_stories this_signs this_ruleMany this_upper this_lower this_greatAt this_sides)), ((q_this 4), .inl (cI, 12, .inl this_guest)), ((q_this 3), .inl (cI, 12, .inl this_home)), ((q_this 7), .inl (cI, 12, .inl this_look)), ((q_this 5), .inl (cI, 12, .inl this_referee))]
theorem cw_X11_match_X11_isSide_149 {s : State} {args : Array Value} (hts : ∀ w ∈ wsX11_match, w.before args s = true) : CallB rmX11_match s args RX11 149 yX11_isSide cX11_isSide 1 (some .boolean) wsX11_isSide rmX11_isSide 0 0 1 ∧ (Cond.static yX11_isSide).before args s = true := va_cwS 1 hts gX11_match_X11_isSide rfl rfl rfl (by decide +kernel) ⟨by decide, by decide⟩
theorem cw_X11_match_X11_in_138 {s : State} {args : Array Value} (hts : ∀ w ∈ wsX11_match, w.before args s = true) : CallB rmX11_match s args RX11 138 yX11_in cX11_in 3 (some .boolean) wsX11_in rmX11_in 0 0 3 ∧ (Cond.static yX11_in).before args s = true := va_cwS 3 hts gX11_match_X11_in rfl rfl rfl (by decide +kernel) ⟨by decide, by decide⟩
theorem m_X11_match_f142 : Cond.fieldLink RX11 142 "SoldMatchesModel" "matches" "I" ∈ wsX11_match := List.mem_of_getElem? (i := 1) rfl
theorem in_X11_match_X11 : ∀ w ∈ wsX110, w ∈ wsX11_match := fun w h => List.mem_cons_of_mem _ (List.mem_append_right _ h)
theorem m_X11_match_f16 : Cond.fieldLink RX11 16 "SoldMatchesModel" "home" "[I" ∈ wsX11_match := List.mem_of_getElem? (i := 2) rfl
theorem m_X11_match_f19 : Cond.fieldLink RX11 19 "SoldMatchesModel" "guest" "[I" ∈ wsX11_match := List.mem_of_getElem? (i := 3) rfl
theorem m_X11_match_f22 : Cond.fieldLink RX11 22 "SoldMatchesModel" "referee" "[I" ∈ wsX11_match := List.mem_of_getElem? (i := 4) rfl
theorem m_X11_match_f28 : Cond.fieldLink RX11 28 "SoldMatchesModel" "look" "[I" ∈ wsX11_match := List.mem_of_getElem? (i := 5) rfl
def t_X11_match  (this_matches : Int32) (this_guest : Nat → Int32) (this_home : Nat → Int32) (this_look : Nat → Int32) (this_referee : Nat → Int32) (x1 : Int32) (x2 : Int32) (x3 : Int32) : Option (Int32 × Int32 × (Nat → Int32) × (Nat → Int32) × (Nat → Int32) × (Nat → Int32)) := bd1 (t_X11_isSide x1) (fun v1 => if v1 = 0 then (some ((-1 : Int32), this_matches, this_guest, this_home, this_look, this_referee)) else (bd1 (t_X11_isSide x2) (fun v3 => if v3 = 0 then (some ((-1 : Int32), this_matches, this_guest, this_home, this_look, this_referee)) else (if x1 = x2 then (some ((-1 : Int32), this_matches, this_guest, this_home, this_look, this_referee)) else (bd1 (t_X11_in x3 (0 : Int32) (5 : Int32)) (fun v6 => if v6 = 0 then (some ((-2 : Int32), this_matches, this_guest, this_home, this_look, this_referee)) else (if this_matches = (12 : Int32) then (some ((-4 : Int32), this_matches, this_guest, this_home, this_look, this_referee)) else (ckn (this_matches < 0 ∨ 12 ≤ this_matches.toNatClampNeg) (ckn (this_matches < 0 ∨ 12 ≤ this_matches.toNatClampNeg) (ckn (this_matches < 0 ∨ 12 ≤ this_matches.toNatClampNeg) (ckn (this_matches < 0 ∨ 12 ≤ this_matches.toNatClampNeg) (some ((this_matches + (1 : Int32)) - (1 : Int32), this_matches + (1 : Int32), upd this_guest this_matches.toNatClampNeg x2, upd this_home this_matches.toNatClampNeg x1, upd this_look this_matches.toNatClampNeg (10 : Int32), upd this_referee this_matches.toNatClampNeg x3)))))))))))))
set_option maxHeartbeats 4000000 in
set_option maxRecDepth 100000 in
theorem c_X11_match (l : Launch) (D : va_G) (cI cJ cZ : ClassId) (h_this : Nat) (q_this : Nat → Nat) (this_matches : Int32) (this_stakes : Int32) (this_meetings : Int32) (this_newsFirst : Int32) (this_newsHour : Int32) (this_acts : Int32) (this_stories : Int32) (this_signs : Int32) (this_ruleMany : Int32) (this_upper : Int64) (this_lower : Int64) (this_greatAt : Int32) (this_sides : Int32) (this_guest : Nat → Int32) (this_home : Nat → Int32) (this_look : Nat → Int32) (this_referee : Nat → Int32) (x1 : Int32) (x2 : Int32) (x3 : Int32) (r : Int32) (z0 : Int32) (z1 : Nat → Int32) (z2 : Nat → Int32) (z3 : Nat → Int32) (z4 : Nat → Int32) (hT : t_X11_match  this_matches this_guest this_home this_look this_referee x1 x2 x3 = some (r, z0, z1, z2, z3, z4)) : Ci l yX11_match wsX11_match rmX11_match D (tys3 cI cJ cZ) [.ref h_this, .int x1, .int x2, .int x3] (w_X11_match cI cJ cZ h_this q_this this_matches this_stakes this_meetings this_newsFirst this_newsHour this_acts this_stories this_signs this_ruleMany this_upper this_lower this_greatAt this_sides this_guest this_home this_look this_referee) r (w_X11_match cI cJ cZ h_this q_this z0 this_stakes this_meetings this_newsFirst this_newsHour this_acts this_stories this_signs this_ruleMany this_upper this_lower this_greatAt this_sides z1 z2 z3 z4) := by
  refine Ci.ofJ (cc := cX11_match) (nL := 4) (rt := (some .int)) (own := RX11) (by decide) rfl rfl (Nat.le_of_ble_eq_true rfl) ?_
  intro p e s m below meth c A X
  unfold t_X11_match at hT
  refine J_lv (lv' := [(0, .ref h_this), (1, .int x1), (2, .int x2), (3, .int x3)]) [0, 1, 2, 3] rfl ?_
  refine J_iload_n X dX11_match_0 1 rfl ?_
  obtain ⟨v1, hq1, hT⟩ := bd1_e hT
  refine J_ci (wc := (w_X11_isSide cI cJ cZ )) (wc' := (w_X11_isSide cI cJ cZ )) (ws' := (w_X11_match cI cJ cZ h_this q_this this_matches this_stakes this_meetings this_newsFirst this_newsHour this_acts this_stories this_signs this_ruleMany this_upper this_lower this_greatAt this_sides this_guest this_home this_look this_referee)) [] [0, 1, 2, 3, 4] 5 rfl rfl rfl rfl rfl rfl rfl rfl (run_S (As := [.int x1]) (rest := []) X (c_X11_isSide l D cI cJ cZ  x1 v1 hq1) (cw_X11_match_X11_isSide_149 X.1.2.2.2.2) rfl rfl (Nat.le_of_ble_eq_true rfl) dX11_match_1 ⟨Nat.zero_le _, Nat.zero_le _⟩) ?_
  refine J_if_eq (tgt := 19) X dX11_match_4 (by decide) (fun hc2 => ?_) (fun hc2 => ?_)
  · have hT := ift hT hc2
    refine J_iconst (v := -1) X dX11_match_19 (by decide) ?_
    cases hT
    exact J_iret X dX11_match_20
  · have hT := iff_ hT hc2
    refine J_iload_n X dX11_match_7 2 rfl ?_
    obtain ⟨v3, hq3, hT⟩ := bd1_e hT
    refine J_ci (wc := (w_X11_isSide cI cJ cZ )) (wc' := (w_X11_isSide cI cJ cZ )) (ws' := (w_X11_match cI cJ cZ h_this q_this this_matches this_stakes this_meetings this_newsFirst this_newsHour this_acts this_stories this_signs this_ruleMany this_upper this_lower this_greatAt this_sides this_guest this_home this_look this_referee)) [] [0, 1, 2, 3, 4] 5 rfl rfl rfl rfl rfl rfl rfl rfl (run_S (As := [.int x2]) (rest := []) X (c_X11_isSide l D cI cJ cZ  x2 v3 hq3) (cw_X11_match_X11_isSide_149 X.1.2.2.2.2) rfl rfl (Nat.le_of_ble_eq_true rfl) dX11_match_8 ⟨Nat.zero_le _, Nat.zero_le _⟩) ?_
    refine J_if_eq (tgt := 19) X dX11_match_11 (by decide) (fun hc4 => ?_) (fun hc4 => ?_)
    · have hT := ift hT hc4
      refine J_iconst (v := -1) X dX11_match_19 (by decide) ?_
      cases hT
      exact J_iret X dX11_match_20
    · have hT := iff_ hT hc4
      refine J_iload_n X dX11_match_14 1 rfl ?_
      refine J_iload_n X dX11_match_15 2 rfl ?_
      refine J_icmp_ne (tgt := 21) X dX11_match_16 (by decide) (fun hc5 => ?_) (fun hc5 => ?_)
      · have hT := iff_ hT hc5
        refine J_iload_n X dX11_match_21 3 rfl ?_
        refine J_iconst (v := 0) X dX11_match_22 (by decide) ?_
        refine J_iconst (v := 5) X dX11_match_23 (by decide) ?_
        obtain ⟨v6, hq6, hT⟩ := bd1_e hT
        refine J_ci (wc := (w_X11_in cI cJ cZ )) (wc' := (w_X11_in cI cJ cZ )) (ws' := (w_X11_match cI cJ cZ h_this q_this this_matches this_stakes this_meetings this_newsFirst this_newsHour this_acts this_stories this_signs this_ruleMany this_upper this_lower this_greatAt this_sides this_guest this_home this_look this_referee)) [] [0, 1, 2, 3, 4] 5 rfl rfl rfl rfl rfl rfl rfl rfl (run_S (As := [.int x3, .int (0 : Int32), .int (5 : Int32)]) (rest := []) X (c_X11_in l D cI cJ cZ  x3 (0 : Int32) (5 : Int32) v6 hq6) (cw_X11_match_X11_in_138 X.1.2.2.2.2) rfl rfl (Nat.le_of_ble_eq_true rfl) dX11_match_24 ⟨Nat.zero_le _, Nat.zero_le _⟩) ?_
        refine J_if_ne (tgt := 33) X dX11_match_27 (by decide) (fun hc7 => ?_) (fun hc7 => ?_)
        · have hT := iff_ hT hc7
          refine J_aload_n X dX11_match_33 0 rfl ?_
          refine J_get (C := RX11) (T := TX11) (N := 54) (ci := 11) (v := .int this_matches) X in_X11_match_X11 0 rfl rfl 2 (by decide) m_X11_match_f142 rfl dX11_match_34 ?_
          refine J_bipush (v := 12) X dX11_match_37 (by decide) ?_
          refine J_icmp_ne (tgt := 45) X dX11_match_39 (by decide) (fun hc8 => ?_) (fun hc8 => ?_)
          · have hT := iff_ hT hc8
            refine J_aload_n X dX11_match_45 0 rfl ?_
            refine J_get (C := RX11) (T := TX11) (N := 54) (ci := 11) (v := .ref (q_this 3)) X in_X11_match_X11 0 rfl rfl 3 (by decide) m_X11_match_f16 rfl dX11_match_46 ?_
            refine J_aload_n X dX11_match_49 0 rfl ?_
            refine J_get (C := RX11) (T := TX11) (N := 54) (ci := 11) (v := .int this_matches) X in_X11_match_X11 0 rfl rfl 2 (by decide) m_X11_match_f142 rfl dX11_match_50 ?_
            refine J_iload_n X dX11_match_53 1 rfl ?_
            obtain ⟨hk9, hT⟩ := ckn_e hT
            refine J_iast (ws' := (w_X11_match cI cJ cZ h_this q_this this_matches this_stakes this_meetings this_newsFirst this_newsHour this_acts this_stories this_signs this_ruleMany this_upper this_lower this_greatAt this_sides this_guest (upd this_home this_matches.toNatClampNeg x1) this_look this_referee)) X 2 rfl rfl hk9 rfl dX11_match_54 ?_
            refine J_aload_n X dX11_match_55 0 rfl ?_
            refine J_get (C := RX11) (T := TX11) (N := 54) (ci := 11) (v := .ref (q_this 4)) X in_X11_match_X11 0 rfl rfl 4 (by decide) m_X11_match_f19 rfl dX11_match_56 ?_
            refine J_aload_n X dX11_match_59 0 rfl ?_
            refine J_get (C := RX11) (T := TX11) (N := 54) (ci := 11) (v := .int this_matches) X in_X11_match_X11 0 rfl rfl 2 (by decide) m_X11_match_f142 rfl dX11_match_60 ?_
            refine J_iload_n X dX11_match_63 2 rfl ?_
            obtain ⟨hk10, hT⟩ := ckn_e hT
            refine J_iast (ws' := (w_X11_match cI cJ cZ h_this q_this this_matches this_stakes this_meetings this_newsFirst this_newsHour this_acts this_stories this_signs this_ruleMany this_upper this_lower this_greatAt this_sides (upd this_guest this_matches.toNatClampNeg x2) (upd this_home this_matches.toNatClampNeg x1) this_look this_referee)) X 1 rfl rfl hk10 rfl dX11_match_64 ?_
            refine J_aload_n X dX11_match_65 0 rfl ?_
            refine J_get (C := RX11) (T := TX11) (N := 54) (ci := 11) (v := .ref (q_this 5)) X in_X11_match_X11 0 rfl rfl 5 (by decide) m_X11_match_f22 rfl dX11_match_66 ?_
            refine J_aload_n X dX11_match_69 0 rfl ?_
            refine J_get (C := RX11) (T := TX11) (N := 54) (ci := 11) (v := .int this_matches) X in_X11_match_X11 0 rfl rfl 2 (by decide) m_X11_match_f142 rfl dX11_match_70 ?_
            refine J_iload_n X dX11_match_73 3 rfl ?_
            obtain ⟨hk11, hT⟩ := ckn_e hT
            refine J_iast (ws' := (w_X11_match cI cJ cZ h_this q_this this_matches this_stakes this_meetings this_newsFirst this_newsHour this_acts this_stories this_signs this_ruleMany this_upper this_lower this_greatAt this_sides (upd this_guest this_matches.toNatClampNeg x2) (upd this_home this_matches.toNatClampNeg x1) this_look (upd this_referee this_matches.toNatClampNeg x3))) X 4 rfl rfl hk11 rfl dX11_match_74 ?_
            refine J_aload_n X dX11_match_75 0 rfl ?_
            refine J_get (C := RX11) (T := TX11) (N := 54) (ci := 11) (v := .ref (q_this 7)) X in_X11_match_X11 0 rfl rfl 7 (by decide) m_X11_match_f28 rfl dX11_match_76 ?_
            refine J_aload_n X dX11_match_79 0 rfl ?_
            refine J_get (C := RX11) (T := TX11) (N := 54) (ci := 11) (v := .int this_matches) X in_X11_match_X11 0 rfl rfl 2 (by decide) m_X11_match_f142 rfl dX11_match_80 ?_
            refine J_bipush (v := 10) X dX11_match_83 (by decide) ?_
            obtain ⟨hk12, hT⟩ := ckn_e hT
            refine J_iast (ws' := (w_X11_match cI cJ cZ h_this q_this this_matches this_stakes this_meetings this_newsFirst this_newsHour this_acts this_stories this_signs this_ruleMany this_upper this_lower this_greatAt this_sides (upd this_guest this_matches.toNatClampNeg x2) (upd this_home this_matches.toNatClampNeg x1) (upd this_look this_matches.toNatClampNeg (10 : Int32)) (upd this_referee this_matches.toNatClampNeg x3))) X 3 rfl rfl hk12 rfl dX11_match_85 ?_
            refine J_aload_n X dX11_match_86 0 rfl ?_
            refine J_dup X dX11_match_87 rfl ?_
            refine J_get (C := RX11) (T := TX11) (N := 54) (ci := 11) (v := .int this_matches) X in_X11_match_X11 0 rfl rfl 2 (by decide) m_X11_match_f142 rfl dX11_match_88 ?_
            refine J_iconst (v := 1) X dX11_match_91 (by decide) ?_
            refine J_iadd X dX11_match_92 ?_
            refine J_put (host := "") (C := RX11) (T := TX11) (N := 54) (ci := 11) (ws' := (w_X11_match cI cJ cZ h_this q_this (this_matches + (1 : Int32)) this_stakes this_meetings this_newsFirst this_newsHour this_acts this_stories this_signs this_ruleMany this_upper this_lower this_greatAt this_sides (upd this_guest this_matches.toNatClampNeg x2) (upd this_home this_matches.toNatClampNeg x1) (upd this_look this_matches.toNatClampNeg (10 : Int32)) (upd this_referee this_matches.toNatClampNeg x3))) X in_X11_match_X11 0 rfl rfl 2 (by decide) tyX11 tyX11_ok nmX11 m_X11_match_f142 rfl rfl rfl (Nat.le_of_ble_eq_true rfl) rfl dX11_match_93 ?_
            refine J_aload_n X dX11_match_96 0 rfl ?_
            refine J_get (C := RX11) (T := TX11) (N := 54) (ci := 11) (v := .int (this_matches + (1 : Int32))) X in_X11_match_X11 0 rfl rfl 2 (by decide) m_X11_match_f142 rfl dX11_match_97 ?_
            refine J_iconst (v := 1) X dX11_match_100 (by decide) ?_
            refine J_isub X dX11_match_101 ?_
            cases hT
            exact J_iret X dX11_match_102
          · have hT := ift hT hc8
            refine J_bipush (v := -4) X dX11_match_42 (by decide) ?_
            cases hT
            exact J_iret X dX11_match_44
        · have hT := ift hT hc7
          refine J_bipush (v := -2) X dX11_match_30 (by decide) ?_
          cases hT
          exact J_iret X dX11_match_32
      · have hT := ift hT hc5
        refine J_iconst (v := -1) X dX11_match_19 (by decide) ?_
        cases hT
        exact J_iret X dX11_match_20
-- ===== SoldMatchesModel.goal(III)I
abbrev rmX11_goal : Room := { frames := 2, cells := 0, slots := 0, locals := 43 }
def w_X11_goal (cI cJ cZ : ClassId) (h_this : Nat) (q_this : Nat → Nat) (this_matches : Int32) (this_stakes : Int32) (this_meetings : Int32) (this_newsFirst : Int32) (this_newsHour : Int32) (this_acts : Int32) (this_stories : Int32) (this_signs : Int32) (this_ruleMany : Int32) (this_upper : Int64) (this_lower : Int64) (this_greatAt : Int32) (this_sides : Int32) (this_goals : Nat → Int32) : va_W := [(h_this, .inr (11, oFX11 q_this this_matches this_stakes this_meetings this_newsFirst this_newsHour this_acts this_stories this_signs this_ruleMany this_upper this_lower this_greatAt this_sides)), ((q_this 8), .inl (cI, 72, .inl this_goals))]
theorem cw_X11_goal_X11_isMatch_153 {s : State} {args : Array Value} (hts : ∀ w ∈ wsX11_goal, w.before args s = true) : CallW rmX11_goal s args RX11 RX11 153 yX11_isMatch cX11_isMatch 2 (some .boolean) wsX11_isMatch rmX11_isMatch 0 0 1 := cwV 1 hts gX11_goal_X11_isMatch rfl rfl rfl (by decide +kernel) ⟨by decide, by decide⟩
theorem cw_X11_goal_X11_in_138 {s : State} {args : Array Value} (hts : ∀ w ∈ wsX11_goal, w.before args s = true) : CallB rmX11_goal s args RX11 138 yX11_in cX11_in 3 (some .boolean) wsX11_in rmX11_in 0 0 3 ∧ (Cond.static yX11_in).before args s = true := va_cwS 3 hts gX11_goal_X11_in rfl rfl rfl (by decide +kernel) ⟨by decide, by decide⟩
theorem m_X11_goal_f31 : Cond.fieldLink RX11 31 "SoldMatchesModel" "goals" "[I" ∈ wsX11_goal := List.mem_of_getElem? (i := 1) rfl
theorem in_X11_goal_X11 : ∀ w ∈ wsX110, w ∈ wsX11_goal := fun w h => List.mem_cons_of_mem _ (List.mem_append_right _ h)
def t_X11_goal  (this_matches : Int32) (this_goals : Nat → Int32) (x1 : Int32) (x2 : Int32) (x3 : Int32) : Option (Int32 × (Nat → Int32)) := bd1 (t_X11_isMatch this_matches x1) (fun v1 => if v1 = 0 then (some ((-1 : Int32), this_goals)) else (bd1 (t_X11_in x2 (0 : Int32) (5 : Int32)) (fun v3 => if v3 = 0 then (some ((-2 : Int32), this_goals)) else (bd1 (t_X11_in x3 (0 : Int32) (2 : Int32)) (fun v5 => if v5 = 0 then (some ((-2 : Int32), this_goals)) else (ckn ((((6 : Int32) * x1) + x2) < 0 ∨ 72 ≤ (((6 : Int32) * x1) + x2).toNatClampNeg) (ckn ((((6 : Int32) * x1) + x2) < 0 ∨ 72 ≤ (((6 : Int32) * x1) + x2).toNatClampNeg) (some (this_goals (((6 : Int32) * x1) + x2).toNatClampNeg, upd this_goals (((6 : Int32) * x1) + x2).toNatClampNeg x3)))))))))
set_option maxHeartbeats 4000000 in
set_option maxRecDepth 100000 in
theorem c_X11_goal (l : Launch) (D : va_G) (cI cJ cZ : ClassId) (h_this : Nat) (q_this : Nat → Nat) (this_matches : Int32) (this_stakes : Int32) (this_meetings : Int32) (this_newsFirst : Int32) (this_newsHour : Int32) (this_acts : Int32) (this_stories : Int32) (this_signs : Int32) (this_ruleMany : Int32) (this_upper : Int64) (this_lower : Int64) (this_greatAt : Int32) (this_sides : Int32) (this_goals : Nat → Int32) (x1 : Int32) (x2 : Int32) (x3 : Int32) (r : Int32) (z0 : Nat → Int32) (hT : t_X11_goal  this_matches this_goals x1 x2 x3 = some (r, z0)) : Ci l yX11_goal wsX11_goal rmX11_goal D (tys3 cI cJ cZ) [.ref h_this, .int x1, .int x2, .int x3] (w_X11_goal cI cJ cZ h_this q_this this_matches this_stakes this_meetings this_newsFirst this_newsHour this_acts this_stories this_signs this_ruleMany this_upper this_lower this_greatAt this_sides this_goals) r (w_X11_goal cI cJ cZ h_this q_this this_matches this_stakes this_meetings this_newsFirst this_newsHour this_acts this_stories this_signs this_ruleMany this_upper this_lower this_greatAt this_sides z0) := by
  refine Ci.ofJ (cc := cX11_goal) (nL := 5) (rt := (some .int)) (own := RX11) (by decide) rfl rfl (Nat.le_of_ble_eq_true rfl) ?_
  intro p e s m below meth c A X
  unfold t_X11_goal at hT
  refine J_lv (lv' := [(0, .ref h_this), (1, .int x1), (2, .int x2), (3, .int x3)]) [0, 1, 2, 3] rfl ?_
  refine J_aload_n X dX11_goal_0 0 rfl ?_
  refine J_iload_n X dX11_goal_1 1 rfl ?_
  obtain ⟨v1, hq1, hT⟩ := bd1_e hT
  refine J_ci (wc := (w_X11_isMatch cI cJ cZ h_this q_this this_matches this_stakes this_meetings this_newsFirst this_newsHour this_acts this_stories this_signs this_ruleMany this_upper this_lower this_greatAt this_sides)) (wc' := (w_X11_isMatch cI cJ cZ h_this q_this this_matches this_stakes this_meetings this_newsFirst this_newsHour this_acts this_stories this_signs this_ruleMany this_upper this_lower this_greatAt this_sides)) (ws' := (w_X11_goal cI cJ cZ h_this q_this this_matches this_stakes this_meetings this_newsFirst this_newsHour this_acts this_stories this_signs this_ruleMany this_upper this_lower this_greatAt this_sides this_goals)) [0] [1] 2 rfl rfl rfl rfl rfl rfl rfl rfl (run_V (As := [.int x1]) (rest := []) X (c_X11_isMatch l D cI cJ cZ h_this q_this this_matches this_stakes this_meetings this_newsFirst this_newsHour this_acts this_stories this_signs this_ruleMany this_upper this_lower this_greatAt this_sides x1 v1 hq1) (cw_X11_goal_X11_isMatch_153 X.1.2.2.2.2) 0 rfl rfl rfl rfl (Nat.le_of_ble_eq_true rfl) dX11_goal_2 ⟨Nat.zero_le _, Nat.zero_le _⟩) ?_
  refine J_if_ne (tgt := 10) X dX11_goal_5 (by decide) (fun hc2 => ?_) (fun hc2 => ?_)
  · have hT := iff_ hT hc2
    refine J_iload_n X dX11_goal_10 2 rfl ?_
    refine J_iconst (v := 0) X dX11_goal_11 (by decide) ?_
    refine J_iconst (v := 5) X dX11_goal_12 (by decide) ?_
    obtain ⟨v3, hq3, hT⟩ := bd1_e hT
    refine J_ci (wc := (w_X11_in cI cJ cZ )) (wc' := (w_X11_in cI cJ cZ )) (ws' := (w_X11_goal cI cJ cZ h_this q_this this_matches this_stakes this_meetings this_newsFirst this_newsHour this_acts this_stories this_signs this_ruleMany this_upper this_lower this_greatAt this_sides this_goals)) [] [0, 1] 2 rfl rfl rfl rfl rfl rfl rfl rfl (run_S (As := [.int x2, .int (0 : Int32), .int (5 : Int32)]) (rest := []) X (c_X11_in l D cI cJ cZ  x2 (0 : Int32) (5 : Int32) v3 hq3) (cw_X11_goal_X11_in_138 X.1.2.2.2.2) rfl rfl (Nat.le_of_ble_eq_true rfl) dX11_goal_13 ⟨Nat.zero_le _, Nat.zero_le _⟩) ?_
    refine J_if_eq (tgt := 28) X dX11_goal_16 (by decide) (fun hc4 => ?_) (fun hc4 => ?_)
    · have hT := ift hT hc4
      refine J_bipush (v := -2) X dX11_goal_28 (by decide) ?_
      cases hT
      exact J_iret X dX11_goal_30
    · have hT := iff_ hT hc4
      refine J_iload_n X dX11_goal_19 3 rfl ?_
      refine J_iconst (v := 0) X dX11_goal_20 (by decide) ?_
      refine J_iconst (v := 2) X dX11_goal_21 (by decide) ?_
      obtain ⟨v5, hq5, hT⟩ := bd1_e hT
      refine J_ci (wc := (w_X11_in cI cJ cZ )) (wc' := (w_X11_in cI cJ cZ )) (ws' := (w_X11_goal cI cJ cZ h_this q_this this_matches this_stakes this_meetings this_newsFirst this_newsHour this_acts this_stories this_signs this_ruleMany this_upper this_lower this_greatAt this_sides this_goals)) [] [0, 1] 2 rfl rfl rfl rfl rfl rfl rfl rfl (run_S (As := [.int x3, .int (0 : Int32), .int (2 : Int32)]) (rest := []) X (c_X11_in l D cI cJ cZ  x3 (0 : Int32) (2 : Int32) v5 hq5) (cw_X11_goal_X11_in_138 X.1.2.2.2.2) rfl rfl (Nat.le_of_ble_eq_true rfl) dX11_goal_22 ⟨Nat.zero_le _, Nat.zero_le _⟩) ?_
      refine J_if_ne (tgt := 31) X dX11_goal_25 (by decide) (fun hc6 => ?_) (fun hc6 => ?_)
      · have hT := iff_ hT hc6
        refine J_aload_n X dX11_goal_31 0 rfl ?_
        refine J_get (C := RX11) (T := TX11) (N := 54) (ci := 11) (v := .ref (q_this 8)) X in_X11_goal_X11 0 rfl rfl 8 (by decide) m_X11_goal_f31 rfl dX11_goal_32 ?_
        refine J_bipush (v := 6) X dX11_goal_35 (by decide) ?_
        refine J_iload_n X dX11_goal_37 1 rfl ?_
        refine J_imul X dX11_goal_38 ?_
        refine J_iload_n X dX11_goal_39 2 rfl ?_
        refine J_iadd X dX11_goal_40 ?_
        obtain ⟨hk7, hT⟩ := ckn_e hT
        refine J_iald X 1 rfl rfl hk7 dX11_goal_41 ?_
        refine J_istore (lv' := [(4, .int (this_goals (((6 : Int32) * x1) + x2).toNatClampNeg)), (0, .ref h_this), (1, .int x1), (2, .int x2), (3, .int x3)]) X dX11_goal_42 (by decide) rfl ?_
        refine J_aload_n X dX11_goal_44 1 rfl ?_
        refine J_get (C := RX11) (T := TX11) (N := 54) (ci := 11) (v := .ref (q_this 8)) X in_X11_goal_X11 0 rfl rfl 8 (by decide) m_X11_goal_f31 rfl dX11_goal_45 ?_
        refine J_bipush (v := 6) X dX11_goal_48 (by decide) ?_
        refine J_iload_n X dX11_goal_50 2 rfl ?_
        refine J_imul X dX11_goal_51 ?_
        refine J_iload_n X dX11_goal_52 3 rfl ?_
        refine J_iadd X dX11_goal_53 ?_
        refine J_iload_n X dX11_goal_54 4 rfl ?_
        obtain ⟨hk8, hT⟩ := ckn_e hT
        refine J_iast (ws' := (w_X11_goal cI cJ cZ h_this q_this this_matches this_stakes this_meetings this_newsFirst this_newsHour this_acts this_stories this_signs this_ruleMany this_upper this_lower this_greatAt this_sides (upd this_goals (((6 : Int32) * x1) + x2).toNatClampNeg x3))) X 1 rfl rfl hk8 rfl dX11_goal_55 ?_
        refine J_iload X dX11_goal_56 0 rfl ?_
        cases hT
        exact J_iret X dX11_goal_58
      · have hT := ift hT hc6
        refine J_bipush (v := -2) X dX11_goal_28 (by decide) ?_
        cases hT
        exact J_iret X dX11_goal_30
  · have hT := ift hT hc2
    refine J_iconst (v := -1) X dX11_goal_8 (by decide) ?_
    cases hT
    exact J_iret X dX11_goal_9
-- ===== SoldMatchesModel.scored(III)I
abbrev rmX11_scored : Room := { frames := 0, cells := 0, slots := 0, locals := 0 }
def w_X11_scored (cI cJ cZ : ClassId) (h_this : Nat) (q_this : Nat → Nat) (this_matches : Int32) (this_stakes : Int32) (this_meetings : Int32) (this_newsFirst : Int32) (this_newsHour : Int32) (this_acts : Int32) (this_stories : Int32) (this_signs : Int32) (this_ruleMany : Int32) (this_upper : Int64) (this_lower : Int64) (this_greatAt : Int32) (this_sides : Int32) (this_goals : Nat → Int32) : va_W := [(h_this, .inr (11, oFX11 q_this this_matches this_stakes this_meetings this_newsFirst this_newsHour this_acts this_stories this_signs this_ruleMany this_upper this_lower this_greatAt this_sides)), ((q_this 8), .inl (cI, 72, .inl this_goals))]
theorem m_X11_scored_f31 : Cond.fieldLink RX11 31 "SoldMatchesModel" "goals" "[I" ∈ wsX11_scored := List.mem_of_getElem? (i := 1) rfl
theorem in_X11_scored_X11 : ∀ w ∈ wsX110, w ∈ wsX11_scored := fun w h => List.mem_cons_of_mem _ (List.mem_append_right _ h)
def t_X11_scored_35  (k_6 : (Nat → Int32) → Int32 → Int32 → Int32 → Int32 → Int32 → Option (Int32)) (this_goals : Nat → Int32) (x1 : Int32) (x2 : Int32) (x3 : Int32) (x5 : Int32) (s0 : Int32) (s1 : Int32) : Option (Int32) := k_6 this_goals x1 x2 x3 (s1 + s0) (x5 + (1 : Int32))
def t_X11_scored_6_b  (k_6 : (Nat → Int32) → Int32 → Int32 → Int32 → Int32 → Int32 → Option (Int32)) (this_goals : Nat → Int32) (x1 : Int32) (x2 : Int32) (x3 : Int32) (x4 : Int32) (x5 : Int32) : Option (Int32) := if x2 ≤ x5 then (some (x4)) else (ckn ((((6 : Int32) * x1) + x5) < 0 ∨ 72 ≤ (((6 : Int32) * x1) + x5).toNatClampNeg) (if (this_goals (((6 : Int32) * x1) + x5).toNatClampNeg) = x3 then (t_X11_scored_35  k_6 this_goals x1 x2 x3 x5 (1 : Int32) x4) else (t_X11_scored_35  k_6 this_goals x1 x2 x3 x5 (0 : Int32) x4)))
def t_X11_scored_6   (n : Nat) : (Nat → Int32) → Int32 → Int32 → Int32 → Int32 → Int32 → Option (Int32) := Nat.rec (fun _ _ _ _ _ _ => none) (fun _ ih => t_X11_scored_6_b   ih) n
def t_X11_scored  (this_goals : Nat → Int32) (x1 : Int32) (x2 : Int32) (x3 : Int32) : Option (Int32) := t_X11_scored_6   lfuel this_goals x1 x2 x3 (0 : Int32) (0 : Int32)
set_option maxHeartbeats 4000000 in
set_option maxRecDepth 100000 in
theorem b_X11_scored_35 {p : Program} {l : Launch} {e : Env} {s : State} {m : MethodId} {args : Array Value} {below : List Frame} {meth : Method} {c : Code} {D : va_G} {A : Nat → Prop} {cI cJ cZ : ClassId} (X : Cx p m c cX11_scored 6 s args wsX11_scored RX11 D (tys3 cI cJ cZ) meth (some .int)) (_ _ _ : ClassId)  (h_this : Nat) (q_this : Nat → Nat) (this_matches : Int32) (this_stakes : Int32) (this_meetings : Int32) (this_newsFirst : Int32) (this_newsHour : Int32) (this_acts : Int32) (this_stories : Int32) (this_signs : Int32) (this_ruleMany : Int32) (this_upper : Int64) (this_lower : Int64) (this_greatAt : Int32) (this_sides : Int32) (r : Int32) (k_6 : (Nat → Int32) → Int32 → Int32 → Int32 → Int32 → Int32 → Option (Int32)) (hk_6 : ∀ (this_goals : Nat → Int32) (x1 : Int32) (x2 : Int32) (x3 : Int32) (x4 : Int32) (x5 : Int32), k_6 this_goals x1 x2 x3 x4 x5 = some r → J p l e rmX11_scored s m args below meth c D A 6 (QI D below args s A r (w_X11_scored cI cJ cZ h_this q_this this_matches this_stakes this_meetings this_newsFirst this_newsHour this_acts this_stories this_signs this_ruleMany this_upper this_lower this_greatAt this_sides this_goals)) 0 0 (w_X11_scored cI cJ cZ h_this q_this this_matches this_stakes this_meetings this_newsFirst this_newsHour this_acts this_stories this_signs this_ruleMany this_upper this_lower this_greatAt this_sides this_goals) [(0, .ref h_this), (1, .int x1), (2, .int x2), (3, .int x3), (4, .int x4), (5, .int x5)] [] 6) (this_goals : Nat → Int32) (x1 : Int32) (x2 : Int32) (x3 : Int32) (x5 : Int32) (s0 : Int32) (s1 : Int32) (hT : t_X11_scored_35  k_6 this_goals x1 x2 x3 x5 s0 s1 = some r) : J p l e rmX11_scored s m args below meth c D A 6 (QI D below args s A r (w_X11_scored cI cJ cZ h_this q_this this_matches this_stakes this_meetings this_newsFirst this_newsHour this_acts this_stories this_signs this_ruleMany this_upper this_lower this_greatAt this_sides this_goals)) 0 0 (w_X11_scored cI cJ cZ h_this q_this this_matches this_stakes this_meetings this_newsFirst this_newsHour this_acts this_stories this_signs this_ruleMany this_upper this_lower this_greatAt this_sides this_goals) [(0, .ref h_this), (1, .int x1), (2, .int x2), (3, .int x3), (5, .int x5)] [.int s0, .int s1] 35 := by
  unfold t_X11_scored_35 at hT
  refine J_iadd X dX11_scored_35 ?_
  refine J_istore (lv' := [(4, .int (s1 + s0)), (0, .ref h_this), (1, .int x1), (2, .int x2), (3, .int x3), (5, .int x5)]) X dX11_scored_36 (by decide) rfl ?_
  refine J_iinc (lv' := [(5, .int (x5 + (1 : Int32))), (4, .int (s1 + s0)), (0, .ref h_this), (1, .int x1), (2, .int x2), (3, .int x3)]) (j := 5) X dX11_scored_38 rfl rfl (by decide) rfl ?_
  refine J_goto (tgt := 6) X dX11_scored_41 (by decide) ?_
  refine J_lv (lv' := [(0, .ref h_this), (1, .int x1), (2, .int x2), (3, .int x3), (4, .int (s1 + s0)), (5, .int (x5 + (1 : Int32)))]) [2, 3, 4, 5, 1, 0] rfl ?_
  exact hk_6 this_goals x1 x2 x3 (s1 + s0) (x5 + (1 : Int32)) hT
set_option maxHeartbeats 4000000 in
set_option maxRecDepth 100000 in
theorem b_X11_scored_6_b {p : Program} {l : Launch} {e : Env} {s : State} {m : MethodId} {args : Array Value} {below : List Frame} {meth : Method} {c : Code} {D : va_G} {A : Nat → Prop} {cI cJ cZ : ClassId} (X : Cx p m c cX11_scored 6 s args wsX11_scored RX11 D (tys3 cI cJ cZ) meth (some .int)) (_ _ _ : ClassId)  (h_this : Nat) (q_this : Nat → Nat) (this_matches : Int32) (this_stakes : Int32) (this_meetings : Int32) (this_newsFirst : Int32) (this_newsHour : Int32) (this_acts : Int32) (this_stories : Int32) (this_signs : Int32) (this_ruleMany : Int32) (this_upper : Int64) (this_lower : Int64) (this_greatAt : Int32) (this_sides : Int32) (r : Int32) (k_6 : (Nat → Int32) → Int32 → Int32 → Int32 → Int32 → Int32 → Option (Int32)) (hk_6 : ∀ (this_goals : Nat → Int32) (x1 : Int32) (x2 : Int32) (x3 : Int32) (x4 : Int32) (x5 : Int32), k_6 this_goals x1 x2 x3 x4 x5 = some r → J p l e rmX11_scored s m args below meth c D A 6 (QI D below args s A r (w_X11_scored cI cJ cZ h_this q_this this_matches this_stakes this_meetings this_newsFirst this_newsHour this_acts this_stories this_signs this_ruleMany this_upper this_lower this_greatAt this_sides this_goals)) 0 0 (w_X11_scored cI cJ cZ h_this q_this this_matches this_stakes this_meetings this_newsFirst this_newsHour this_acts this_stories this_signs this_ruleMany this_upper this_lower this_greatAt this_sides this_goals) [(0, .ref h_this), (1, .int x1), (2, .int x2), (3, .int x3), (4, .int x4), (5, .int x5)] [] 6) (this_goals : Nat → Int32) (x1 : Int32) (x2 : Int32) (x3 : Int32) (x4 : Int32) (x5 : Int32) (hT : t_X11_scored_6_b  k_6 this_goals x1 x2 x3 x4 x5 = some r) : J p l e rmX11_scored s m args below meth c D A 6 (QI D below args s A r (w_X11_scored cI cJ cZ h_this q_this this_matches this_stakes this_meetings this_newsFirst this_newsHour this_acts this_stories this_signs this_ruleMany this_upper this_lower this_greatAt this_sides this_goals)) 0 0 (w_X11_scored cI cJ cZ h_this q_this this_matches this_stakes this_meetings this_newsFirst this_newsHour this_acts this_stories this_signs this_ruleMany this_upper this_lower this_greatAt this_sides this_goals) [(0, .ref h_this), (1, .int x1), (2, .int x2), (3, .int x3), (4, .int x4), (5, .int x5)] [] 6 := by
  unfold t_X11_scored_6_b at hT
  refine J_iload X dX11_scored_6 5 rfl ?_
  refine J_iload_n X dX11_scored_8 2 rfl ?_
  refine J_icmp_ge (tgt := 44) X dX11_scored_9 (by decide) (fun hc1 => ?_) (fun hc1 => ?_)
  · have hT := ift hT hc1
    refine J_iload X dX11_scored_44 4 rfl ?_
    cases hT
    exact J_iret X dX11_scored_46
  · have hT := iff_ hT hc1
    refine J_iload X dX11_scored_12 4 rfl ?_
    refine J_aload_n X dX11_scored_14 0 rfl ?_
    refine J_get (C := RX11) (T := TX11) (N := 54) (ci := 11) (v := .ref (q_this 8)) X in_X11_scored_X11 0 rfl rfl 8 (by decide) m_X11_scored_f31 rfl dX11_scored_15 ?_
    refine J_bipush (v := 6) X dX11_scored_18 (by decide) ?_
    refine J_iload_n X dX11_scored_20 1 rfl ?_
    refine J_imul X dX11_scored_21 ?_
    refine J_iload X dX11_scored_22 5 rfl ?_
    refine J_iadd X dX11_scored_24 ?_
    obtain ⟨hk2, hT⟩ := ckn_e hT
    refine J_iald X 1 rfl rfl hk2 dX11_scored_25 ?_
    refine J_iload_n X dX11_scored_26 3 rfl ?_
    refine J_icmp_ne (tgt := 34) X dX11_scored_27 (by decide) (fun hc3 => ?_) (fun hc3 => ?_)
    · have hT := iff_ hT hc3
      refine J_iconst (v := 0) X dX11_scored_34 (by decide) ?_
      refine J_lv (lv' := [(0, .ref h_this), (1, .int x1), (2, .int x2), (3, .int x3), (5, .int x5)]) [0, 1, 2, 3, 5] rfl ?_
      exact b_X11_scored_35 X cI cJ cZ h_this q_this this_matches this_stakes this_meetings this_newsFirst this_newsHour this_acts this_stories this_signs this_ruleMany this_upper this_lower this_greatAt this_sides r k_6 hk_6 this_goals x1 x2 x3 x5 (0 : Int32) x4 hT
    · have hT := ift hT hc3
      refine J_iconst (v := 1) X dX11_scored_30 (by decide) ?_
      refine J_goto (tgt := 35) X dX11_scored_31 (by decide) ?_
      refine J_lv (lv' := [(0, .ref h_this), (1, .int x1), (2, .int x2), (3, .int x3), (5, .int x5)]) [0, 1, 2, 3, 5] rfl ?_
      exact b_X11_scored_35 X cI cJ cZ h_this q_this this_matches this_stakes this_meetings this_newsFirst this_newsHour this_acts this_stories this_signs this_ruleMany this_upper this_lower this_greatAt this_sides r k_6 hk_6 this_goals x1 x2 x3 x5 (1 : Int32) x4 hT
set_option maxHeartbeats 4000000 in
set_option maxRecDepth 100000 in
theorem b_X11_scored_6 {p : Program} {l : Launch} {e : Env} {s : State} {m : MethodId} {args : Array Value} {below : List Frame} {meth : Method} {c : Code} {D : va_G} {A : Nat → Prop} {cI cJ cZ : ClassId} (X : Cx p m c cX11_scored 6 s args wsX11_scored RX11 D (tys3 cI cJ cZ) meth (some .int)) (_ _ _ : ClassId)  (h_this : Nat) (q_this : Nat → Nat) (this_matches : Int32) (this_stakes : Int32) (this_meetings : Int32) (this_newsFirst : Int32) (this_newsHour : Int32) (this_acts : Int32) (this_stories : Int32) (this_signs : Int32) (this_ruleMany : Int32) (this_upper : Int64) (this_lower : Int64) (this_greatAt : Int32) (this_sides : Int32) (r : Int32)  : ∀ (n : Nat) (this_goals : Nat → Int32) (x1 : Int32) (x2 : Int32) (x3 : Int32) (x4 : Int32) (x5 : Int32) (hT : t_X11_scored_6   n this_goals x1 x2 x3 x4 x5 = some r), J p l e rmX11_scored s m args below meth c D A 6 (QI D below args s A r (w_X11_scored cI cJ cZ h_this q_this this_matches this_stakes this_meetings this_newsFirst this_newsHour this_acts this_stories this_signs this_ruleMany this_upper this_lower this_greatAt this_sides this_goals)) 0 0 (w_X11_scored cI cJ cZ h_this q_this this_matches this_stakes this_meetings this_newsFirst this_newsHour this_acts this_stories this_signs this_ruleMany this_upper this_lower this_greatAt this_sides this_goals) [(0, .ref h_this), (1, .int x1), (2, .int x2), (3, .int x3), (4, .int x4), (5, .int x5)] [] 6 := by
  intro n
  induction n with
  | zero => intro this_goals x1 x2 x3 x4 x5 hT; cases hT
  | succ n ih =>
    intro this_goals x1 x2 x3 x4 x5 hT
    exact b_X11_scored_6_b X cI cJ cZ h_this q_this this_matches this_stakes this_meetings this_newsFirst this_newsHour this_acts this_stories this_signs this_ruleMany this_upper this_lower this_greatAt this_sides r  (t_X11_scored_6   n) ih this_goals x1 x2 x3 x4 x5 hT
set_option maxHeartbeats 4000000 in
set_option maxRecDepth 100000 in
theorem c_X11_scored (l : Launch) (D : va_G) (cI cJ cZ : ClassId) (h_this : Nat) (q_this : Nat → Nat) (this_matches : Int32) (this_stakes : Int32) (this_meetings : Int32) (this_newsFirst : Int32) (this_newsHour : Int32) (this_acts : Int32) (this_stories : Int32) (this_signs : Int32) (this_ruleMany : Int32) (this_upper : Int64) (this_lower : Int64) (this_greatAt : Int32) (this_sides : Int32) (this_goals : Nat → Int32) (x1 : Int32) (x2 : Int32) (x3 : Int32) (r : Int32) (hT : t_X11_scored  this_goals x1 x2 x3 = some r) : Ci l yX11_scored wsX11_scored rmX11_scored D (tys3 cI cJ cZ) [.ref h_this, .int x1, .int x2, .int x3] (w_X11_scored cI cJ cZ h_this q_this this_matches this_stakes this_meetings this_newsFirst this_newsHour this_acts this_stories this_signs this_ruleMany this_upper this_lower this_greatAt this_sides this_goals) r (w_X11_scored cI cJ cZ h_this q_this this_matches this_stakes this_meetings this_newsFirst this_newsHour this_acts this_stories this_signs this_ruleMany this_upper this_lower this_greatAt this_sides this_goals) := by
  refine Ci.ofJ (cc := cX11_scored) (nL := 6) (rt := (some .int)) (own := RX11) (by decide) rfl rfl (Nat.le_of_ble_eq_true rfl) ?_
  intro p e s m below meth c A X
  unfold t_X11_scored at hT
  refine J_lv (lv' := [(0, .ref h_this), (1, .int x1), (2, .int x2), (3, .int x3)]) [0, 1, 2, 3] rfl ?_
  refine J_iconst (v := 0) X dX11_scored_0 (by decide) ?_
  refine J_istore (lv' := [(4, .int (0 : Int32)), (0, .ref h_this), (1, .int x1), (2, .int x2), (3, .int x3)]) X dX11_scored_1 (by decide) rfl ?_
  refine J_iconst (v := 0) X dX11_scored_3 (by decide) ?_
  refine J_istore (lv' := [(5, .int (0 : Int32)), (4, .int (0 : Int32)), (0, .ref h_this), (1, .int x1), (2, .int x2), (3, .int x3)]) X dX11_scored_4 (by decide) rfl ?_
  refine J_lv (lv' := [(0, .ref h_this), (1, .int x1), (2, .int x2), (3, .int x3), (4, .int (0 : Int32)), (5, .int (0 : Int32))]) [2, 3, 4, 5, 1, 0] rfl ?_
  exact b_X11_scored_6 X cI cJ cZ h_this q_this this_matches this_stakes this_meetings this_newsFirst this_newsHour this_acts this_stories this_signs this_ruleMany this_upper this_lower this_greatAt this_sides r  lfuel this_goals x1 x2 x3 (0 : Int32) (0 : Int32) hT
-- ===== SoldMatchesModel.endOf(I)I
abbrev rmX11_endOf : Room := { frames := 1, cells := 0, slots := 0, locals := 25 }
def w_X11_endOf (cI cJ cZ : ClassId) (h_this : Nat) (q_this : Nat → Nat) (this_matches : Int32) (this_stakes : Int32) (this_meetings : Int32) (this_newsFirst : Int32) (this_newsHour : Int32) (this_acts : Int32) (this_stories : Int32) (this_signs : Int32) (this_ruleMany : Int32) (this_upper : Int64) (this_lower : Int64) (this_greatAt : Int32) (this_sides : Int32) (this_goals : Nat → Int32) : va_W := [(h_this, .inr (11, oFX11 q_this this_matches this_stakes this_meetings this_newsFirst this_newsHour this_acts this_stories this_signs this_ruleMany this_upper this_lower this_greatAt this_sides)), ((q_this 8), .inl (cI, 72, .inl this_goals))]
theorem cw_X11_endOf_X11_scored_156 {s : State} {args : Array Value} (hts : ∀ w ∈ wsX11_endOf, w.before args s = true) : CallW rmX11_endOf s args RX11 RX11 156 yX11_scored cX11_scored 6 (some .int) wsX11_scored rmX11_scored 0 0 3 := cwV 3 hts gX11_endOf_X11_scored rfl rfl rfl (by decide +kernel) ⟨by decide, by decide⟩
def t_X11_endOf_35   (this_goals : Nat → Int32) (s0 : Int32) : Option (Int32) := some (s0)
def t_X11_endOf  (this_goals : Nat → Int32) (x1 : Int32) : Option (Int32) := bd1 (t_X11_scored this_goals x1 (6 : Int32) (1 : Int32)) (fun v1 => bd1 (t_X11_scored this_goals x1 (6 : Int32) (2 : Int32)) (fun v2 => if (v1 - v2) ≤ 0 then (if (v1 - v2) = 0 then (t_X11_endOf_35   this_goals (1 : Int32)) else (t_X11_endOf_35   this_goals (2 : Int32))) else (t_X11_endOf_35   this_goals (0 : Int32))))
set_option maxHeartbeats 4000000 in
set_option maxRecDepth 100000 in
theorem b_X11_endOf_35 {p : Program} {l : Launch} {e : Env} {s : State} {m : MethodId} {args : Array Value} {below : List Frame} {meth : Method} {c : Code} {D : va_G} {A : Nat → Prop} {cI cJ cZ : ClassId} (X : Cx p m c cX11_endOf 3 s args wsX11_endOf RX11 D (tys3 cI cJ cZ) meth (some .int)) (_ _ _ : ClassId)  (h_this : Nat) (q_this : Nat → Nat) (this_matches : Int32) (this_stakes : Int32) (this_meetings : Int32) (this_newsFirst : Int32) (this_newsHour : Int32) (this_acts : Int32) (this_stories : Int32) (this_signs : Int32) (this_ruleMany : Int32) (this_upper : Int64) (this_lower : Int64) (this_greatAt : Int32) (this_sides : Int32) (r : Int32)  (this_goals : Nat → Int32) (s0 : Int32) (hT : t_X11_endOf_35   this_goals s0 = some r) : J p l e rmX11_endOf s m args below meth c D A 3 (QI D below args s A r (w_X11_endOf cI cJ cZ h_this q_this this_matches this_stakes this_meetings this_newsFirst this_newsHour this_acts this_stories this_signs this_ruleMany this_upper this_lower this_greatAt this_sides this_goals)) 0 0 (w_X11_endOf cI cJ cZ h_this q_this this_matches this_stakes this_meetings this_newsFirst this_newsHour this_acts this_stories this_signs this_ruleMany this_upper this_lower this_greatAt this_sides this_goals) [(0, .ref h_this)] [.int s0] 35 := by
  unfold t_X11_endOf_35 at hT
  cases hT
  exact J_iret X dX11_endOf_35
set_option maxHeartbeats 4000000 in
set_option maxRecDepth 100000 in
theorem c_X11_endOf (l : Launch) (D : va_G) (cI cJ cZ : ClassId) (h_this : Nat) (q_this : Nat → Nat) (this_matches : Int32) (this_stakes : Int32) (this_meetings : Int32) (this_newsFirst : Int32) (this_newsHour : Int32) (this_acts : Int32) (this_stories : Int32) (this_signs : Int32) (this_ruleMany : Int32) (this_upper : Int64) (this_lower : Int64) (this_greatAt : Int32) (this_sides : Int32) (this_goals : Nat → Int32) (x1 : Int32) (r : Int32) (hT : t_X11_endOf  this_goals x1 = some r) : Ci l yX11_endOf wsX11_endOf rmX11_endOf D (tys3 cI cJ cZ) [.ref h_this, .int x1] (w_X11_endOf cI cJ cZ h_this q_this this_matches this_stakes this_meetings this_newsFirst this_newsHour this_acts this_stories this_signs this_ruleMany this_upper this_lower this_greatAt this_sides this_goals) r (w_X11_endOf cI cJ cZ h_this q_this this_matches this_stakes this_meetings this_newsFirst this_newsHour this_acts this_stories this_signs this_ruleMany this_upper this_lower this_greatAt this_sides this_goals) := by
  refine Ci.ofJ (cc := cX11_endOf) (nL := 3) (rt := (some .int)) (own := RX11) (by decide) rfl rfl (Nat.le_of_ble_eq_true rfl) ?_
  intro p e s m below meth c A X
  unfold t_X11_endOf at hT
  refine J_lv (lv' := [(0, .ref h_this), (1, .int x1)]) [0, 1] rfl ?_
  refine J_aload_n X dX11_endOf_0 0 rfl ?_
  refine J_iload_n X dX11_endOf_1 1 rfl ?_
  refine J_bipush (v := 6) X dX11_endOf_2 (by decide) ?_
  refine J_iconst (v := 1) X dX11_endOf_4 (by decide) ?_
  obtain ⟨v1, hq1, hT⟩ := bd1_e hT
  refine J_ci (wc := (w_X11_scored cI cJ cZ h_this q_this this_matches this_stakes this_meetings this_newsFirst this_newsHour this_acts this_stories this_signs this_ruleMany this_upper this_lower this_greatAt this_sides this_goals)) (wc' := (w_X11_scored cI cJ cZ h_this q_this this_matches this_stakes this_meetings this_newsFirst this_newsHour this_acts this_stories this_signs this_ruleMany this_upper this_lower this_greatAt this_sides this_goals)) (ws' := (w_X11_endOf cI cJ cZ h_this q_this this_matches this_stakes this_meetings this_newsFirst this_newsHour this_acts this_stories this_signs this_ruleMany this_upper this_lower this_greatAt this_sides this_goals)) [0, 1] [] 2 rfl rfl rfl rfl rfl rfl rfl rfl (run_V (As := [.int x1, .int (6 : Int32), .int (1 : Int32)]) (rest := []) X (c_X11_scored l D cI cJ cZ h_this q_this this_matches this_stakes this_meetings this_newsFirst this_newsHour this_acts this_stories this_signs this_ruleMany this_upper this_lower this_greatAt this_sides this_goals x1 (6 : Int32) (1 : Int32) v1 hq1) (cw_X11_endOf_X11_scored_156 X.1.2.2.2.2) 0 rfl rfl rfl rfl (Nat.le_of_ble_eq_true rfl) dX11_endOf_5 ⟨Nat.zero_le _, Nat.zero_le _⟩) ?_
  refine J_aload_n X dX11_endOf_8 0 rfl ?_
  refine J_iload_n X dX11_endOf_9 1 rfl ?_
  refine J_bipush (v := 6) X dX11_endOf_10 (by decide) ?_
  refine J_iconst (v := 2) X dX11_endOf_12 (by decide) ?_
  obtain ⟨v2, hq2, hT⟩ := bd1_e hT
  refine J_ci (wc := (w_X11_scored cI cJ cZ h_this q_this this_matches this_stakes this_meetings this_newsFirst this_newsHour this_acts this_stories this_signs this_ruleMany this_upper this_lower this_greatAt this_sides this_goals)) (wc' := (w_X11_scored cI cJ cZ h_this q_this this_matches this_stakes this_meetings this_newsFirst this_newsHour this_acts this_stories this_signs this_ruleMany this_upper this_lower this_greatAt this_sides this_goals)) (ws' := (w_X11_endOf cI cJ cZ h_this q_this this_matches this_stakes this_meetings this_newsFirst this_newsHour this_acts this_stories this_signs this_ruleMany this_upper this_lower this_greatAt this_sides this_goals)) [0, 1] [] 2 rfl rfl rfl rfl rfl rfl rfl rfl (run_V (As := [.int x1, .int (6 : Int32), .int (2 : Int32)]) (rest := [.int v1]) X (c_X11_scored l D cI cJ cZ h_this q_this this_matches this_stakes this_meetings this_newsFirst this_newsHour this_acts this_stories this_signs this_ruleMany this_upper this_lower this_greatAt this_sides this_goals x1 (6 : Int32) (2 : Int32) v2 hq2) (cw_X11_endOf_X11_scored_156 X.1.2.2.2.2) 0 rfl rfl rfl rfl (Nat.le_of_ble_eq_true rfl) dX11_endOf_13 ⟨Nat.zero_le _, Nat.zero_le _⟩) ?_
  refine J_isub X dX11_endOf_16 ?_
  refine J_istore_n (lv' := [(2, .int (v1 - v2)), (0, .ref h_this), (1, .int x1)]) X dX11_endOf_17 (by decide) rfl ?_
  refine J_iload_n X dX11_endOf_18 0 rfl ?_
  refine J_if_le (tgt := 26) X dX11_endOf_19 (by decide) (fun hc3 => ?_) (fun hc3 => ?_)
  · have hT := ift hT hc3
    refine J_iload_n X dX11_endOf_26 0 rfl ?_
    refine J_if_ne (tgt := 34) X dX11_endOf_27 (by decide) (fun hc4 => ?_) (fun hc4 => ?_)
    · have hT := iff_ hT hc4
      refine J_iconst (v := 2) X dX11_endOf_34 (by decide) ?_
      refine J_lv (lv' := [(0, .ref h_this)]) [1] rfl ?_
      exact b_X11_endOf_35 X cI cJ cZ h_this q_this this_matches this_stakes this_meetings this_newsFirst this_newsHour this_acts this_stories this_signs this_ruleMany this_upper this_lower this_greatAt this_sides r  this_goals (2 : Int32) hT
    · have hT := ift hT hc4
      refine J_iconst (v := 1) X dX11_endOf_30 (by decide) ?_
      refine J_goto (tgt := 35) X dX11_endOf_31 (by decide) ?_
      refine J_lv (lv' := [(0, .ref h_this)]) [1] rfl ?_
      exact b_X11_endOf_35 X cI cJ cZ h_this q_this this_matches this_stakes this_meetings this_newsFirst this_newsHour this_acts this_stories this_signs this_ruleMany this_upper this_lower this_greatAt this_sides r  this_goals (1 : Int32) hT
  · have hT := iff_ hT hc3
    refine J_iconst (v := 0) X dX11_endOf_22 (by decide) ?_
    refine J_goto (tgt := 35) X dX11_endOf_23 (by decide) ?_
    refine J_lv (lv' := [(0, .ref h_this)]) [1] rfl ?_
    exact b_X11_endOf_35 X cI cJ cZ h_this q_this this_matches this_stakes this_meetings this_newsFirst this_newsHour this_acts this_stories this_signs this_ruleMany this_upper this_lower this_greatAt this_sides r  this_goals (0 : Int32) hT
-- ===== SoldMatchesModel.ofMatch(II)I
abbrev rmX11_ofMatch : Room := { frames := 2, cells := 0, slots := 0, locals := 47 }
def w_X11_ofMatch (cI cJ cZ : ClassId) (h_this : Nat) (q_this : Nat → Nat) (this_matches : Int32) (this_stakes : Int32) (this_meetings : Int32) (this_newsFirst : Int32) (this_newsHour : Int32) (this_acts : Int32) (this_stories : Int32) (this_signs : Int32) (this_ruleMany : Int32) (this_upper : Int64) (this_lower : Int64) (this_greatAt : Int32) (this_sides : Int32) (this_goals : Nat → Int32) (this_guest : Nat → Int32) (this_home : Nat → Int32) (this_hour : Nat → Int32) (this_look : Nat → Int32) (this_referee : Nat → Int32) : va_W := [(h_this, .inr (11, oFX11 q_this this_matches this_stakes this_meetings this_newsFirst this_newsHour this_acts this_stories this_signs this_ruleMany this_upper this_lower this_greatAt this_sides)), ((q_this 8), .inl (cI, 72, .inl this_goals)), ((q_this 4), .inl (cI, 12, .inl this_guest)), ((q_this 3), .inl (cI, 12, .inl this_home)), ((q_this 6), .inl (cI, 12, .inl this_hour)), ((q_this 7), .inl (cI, 12, .inl this_look)), ((q_this 5), .inl (cI, 12, .inl this_referee))]
theorem cw_X11_ofMatch_X11_isMatch_153 {s : State} {args : Array Value} (hts : ∀ w ∈ wsX11_ofMatch, w.before args s = true) : CallW rmX11_ofMatch s args RX11 RX11 153 yX11_isMatch cX11_isMatch 2 (some .boolean) wsX11_isMatch rmX11_isMatch 0 0 1 := cwV 1 hts gX11_ofMatch_X11_isMatch rfl rfl rfl (by decide +kernel) ⟨by decide, by decide⟩
theorem m_X11_ofMatch_f16 : Cond.fieldLink RX11 16 "SoldMatchesModel" "home" "[I" ∈ wsX11_ofMatch := List.mem_of_getElem? (i := 1) rfl
theorem in_X11_ofMatch_X11 : ∀ w ∈ wsX110, w ∈ wsX11_ofMatch := fun w h => List.mem_cons_of_mem _ (List.mem_append_right _ h)
theorem m_X11_ofMatch_f19 : Cond.fieldLink RX11 19 "SoldMatchesModel" "guest" "[I" ∈ wsX11_ofMatch := List.mem_of_getElem? (i := 2) rfl
theorem m_X11_ofMatch_f22 : Cond.fieldLink RX11 22 "SoldMatchesModel" "referee" "[I" ∈ wsX11_ofMatch := List.mem_of_getElem? (i := 3) rfl
theorem cw_X11_ofMatch_X11_scored_156 {s : State} {args : Array Value} (hts : ∀ w ∈ wsX11_ofMatch, w.before args s = true) : CallW rmX11_ofMatch s args RX11 RX11 156 yX11_scored cX11_scored 6 (some .int) wsX11_scored rmX11_scored 0 0 3 := cwV 3 hts gX11_ofMatch_X11_scored rfl rfl rfl (by decide +kernel) ⟨by decide, by decide⟩
theorem cw_X11_ofMatch_X11_endOf_160 {s : State} {args : Array Value} (hts : ∀ w ∈ wsX11_ofMatch, w.before args s = true) : CallW rmX11_ofMatch s args RX11 RX11 160 yX11_endOf cX11_endOf 3 (some .int) wsX11_endOf rmX11_endOf 0 0 1 := cwV 1 hts gX11_ofMatch_X11_endOf rfl rfl rfl (by decide +kernel) ⟨by decide, by decide⟩
theorem m_X11_ofMatch_f25 : Cond.fieldLink RX11 25 "SoldMatchesModel" "hour" "[I" ∈ wsX11_ofMatch := List.mem_of_getElem? (i := 4) rfl
theorem m_X11_ofMatch_f28 : Cond.fieldLink RX11 28 "SoldMatchesModel" "look" "[I" ∈ wsX11_ofMatch := List.mem_of_getElem? (i := 5) rfl
def t_X11_ofMatch  (this_matches : Int32) (this_goals : Nat → Int32) (this_guest : Nat → Int32) (this_home : Nat → Int32) (this_hour : Nat → Int32) (this_look : Nat → Int32) (this_referee : Nat → Int32) (x1 : Int32) (x2 : Int32) : Option (Int32) := bd1 (t_X11_isMatch this_matches x1) (fun v1 => if v1 = 0 then (some ((-1 : Int32))) else (if x2 = 0 then (ckn (x1 < 0 ∨ 12 ≤ x1.toNatClampNeg) (some (this_home x1.toNatClampNeg))) else (if x2 = 1 then (ckn (x1 < 0 ∨ 12 ≤ x1.toNatClampNeg) (some (this_guest x1.toNatClampNeg))) else (if x2 = 2 then (ckn (x1 < 0 ∨ 12 ≤ x1.toNatClampNeg) (some (this_referee x1.toNatClampNeg))) else (if x2 = 3 then (bd1 (t_X11_scored this_goals x1 (6 : Int32) (1 : Int32)) (fun v10 => some (v10))) else (if x2 = 4 then (bd1 (t_X11_scored this_goals x1 (6 : Int32) (2 : Int32)) (fun v12 => some (v12))) else (if x2 = 5 then (bd1 (t_X11_endOf this_goals x1) (fun v14 => some (v14))) else (if x2 = 6 then (ckn (x1 < 0 ∨ 12 ≤ x1.toNatClampNeg) (some (this_hour x1.toNatClampNeg))) else (if x2 = 7 then (ckn (x1 < 0 ∨ 12 ≤ x1.toNatClampNeg) (some (this_look x1.toNatClampNeg))) else (some ((-2 : Int32))))))))))))
set_option maxHeartbeats 4000000 in
set_option maxRecDepth 100000 in
theorem c_X11_ofMatch (l : Launch) (D : va_G) (cI cJ cZ : ClassId) (h_this : Nat) (q_this : Nat → Nat) (this_matches : Int32) (this_stakes : Int32) (this_meetings : Int32) (this_newsFirst : Int32) (this_newsHour : Int32) (this_acts : Int32) (this_stories : Int32) (this_signs : Int32) (this_ruleMany : Int32) (this_upper : Int64) (this_lower : Int64) (this_greatAt : Int32) (this_sides : Int32) (this_goals : Nat → Int32) (this_guest : Nat → Int32) (this_home : Nat → Int32) (this_hour : Nat → Int32) (this_look : Nat → Int32) (this_referee : Nat → Int32) (x1 : Int32) (x2 : Int32) (r : Int32) (hT : t_X11_ofMatch  this_matches this_goals this_guest this_home this_hour this_look this_referee x1 x2 = some r) : Ci l yX11_ofMatch wsX11_ofMatch rmX11_ofMatch D (tys3 cI cJ cZ) [.ref h_this, .int x1, .int x2] (w_X11_ofMatch cI cJ cZ h_this q_this this_matches this_stakes this_meetings this_newsFirst this_newsHour this_acts this_stories this_signs this_ruleMany this_upper this_lower this_greatAt this_sides this_goals this_guest this_home this_hour this_look this_referee) r (w_X11_ofMatch cI cJ cZ h_this q_this this_matches this_stakes this_meetings this_newsFirst this_newsHour this_acts this_stories this_signs this_ruleMany this_upper this_lower this_greatAt this_sides this_goals this_guest this_home this_hour this_look this_referee) := by
  refine Ci.ofJ (cc := cX11_ofMatch) (nL := 3) (rt := (some .int)) (own := RX11) (by decide) rfl rfl (Nat.le_of_ble_eq_true rfl) ?_
  intro p e s m below meth c A X
  unfold t_X11_ofMatch at hT
  refine J_lv (lv' := [(0, .ref h_this), (1, .int x1), (2, .int x2)]) [0, 1, 2] rfl ?_
  refine J_aload_n X dX11_ofMatch_0 0 rfl ?_
  refine J_iload_n X dX11_ofMatch_1 1 rfl ?_
  obtain ⟨v1, hq1, hT⟩ := bd1_e hT
  refine J_ci (wc := (w_X11_isMatch cI cJ cZ h_this q_this this_matches this_stakes this_meetings this_newsFirst this_newsHour this_acts this_stories this_signs this_ruleMany this_upper this_lower this_greatAt this_sides)) (wc' := (w_X11_isMatch cI cJ cZ h_this q_this this_matches this_stakes this_meetings this_newsFirst this_newsHour this_acts this_stories this_signs this_ruleMany this_upper this_lower this_greatAt this_sides)) (ws' := (w_X11_ofMatch cI cJ cZ h_this q_this this_matches this_stakes this_meetings this_newsFirst this_newsHour this_acts this_stories this_signs this_ruleMany this_upper this_lower this_greatAt this_sides this_goals this_guest this_home this_hour this_look this_referee)) (idxs [true, false, false, false, false, false, false] 0) (idxs [false, true, true, true, true, true, true] 0) 7 rfl rfl rfl (pick_C _ rfl rfl) rfl (pick_C _ rfl rfl) rfl (pick_R _ rfl rfl rfl) (run_V (As := [.int x1]) (rest := []) X (c_X11_isMatch l D cI cJ cZ h_this q_this this_matches this_stakes this_meetings this_newsFirst this_newsHour this_acts this_stories this_signs this_ruleMany this_upper this_lower this_greatAt this_sides x1 v1 hq1) (cw_X11_ofMatch_X11_isMatch_153 X.1.2.2.2.2) 0 rfl rfl rfl rfl (Nat.le_of_ble_eq_true rfl) dX11_ofMatch_2 ⟨Nat.zero_le _, Nat.zero_le _⟩) ?_
  refine J_if_ne (tgt := 10) X dX11_ofMatch_5 (by decide) (fun hc2 => ?_) (fun hc2 => ?_)
  · have hT := iff_ hT hc2
    refine J_iload_n X dX11_ofMatch_10 2 rfl ?_
    refine J_if (x2 = 0) (fun hc3 => ?_) (fun hc3 => ?_)
    · have hT := ift hT hc3
      refine J_tsK (tgt := 56) X dX11_ofMatch_11 0 hc3 (by decide) (by decide) rfl (by decide) ?_
      refine J_aload_n X dX11_ofMatch_56 0 rfl ?_
      refine J_get (C := RX11) (T := TX11) (N := 54) (ci := 11) (v := .ref (q_this 3)) X in_X11_ofMatch_X11 0 rfl rfl 3 (by decide) m_X11_ofMatch_f16 rfl dX11_ofMatch_57 ?_
      refine J_iload_n X dX11_ofMatch_60 1 rfl ?_
      obtain ⟨hk4, hT⟩ := ckn_e hT
      refine J_iald X 3 rfl rfl hk4 dX11_ofMatch_61 ?_
      cases hT
      exact J_iret X dX11_ofMatch_62
    · have hT := iff_ hT hc3
      refine J_if (x2 = 1) (fun hc5 => ?_) (fun hc5 => ?_)
      · have hT := ift hT hc5
        refine J_tsK (tgt := 63) X dX11_ofMatch_11 1 hc5 (by decide) (by decide) rfl (by decide) ?_
        refine J_aload_n X dX11_ofMatch_63 0 rfl ?_
        refine J_get (C := RX11) (T := TX11) (N := 54) (ci := 11) (v := .ref (q_this 4)) X in_X11_ofMatch_X11 0 rfl rfl 4 (by decide) m_X11_ofMatch_f19 rfl dX11_ofMatch_64 ?_
        refine J_iload_n X dX11_ofMatch_67 1 rfl ?_
        obtain ⟨hk6, hT⟩ := ckn_e hT
        refine J_iald X 2 rfl rfl hk6 dX11_ofMatch_68 ?_
        cases hT
        exact J_iret X dX11_ofMatch_69
      · have hT := iff_ hT hc5
        refine J_if (x2 = 2) (fun hc7 => ?_) (fun hc7 => ?_)
        · have hT := ift hT hc7
          refine J_tsK (tgt := 70) X dX11_ofMatch_11 2 hc7 (by decide) (by decide) rfl (by decide) ?_
          refine J_aload_n X dX11_ofMatch_70 0 rfl ?_
          refine J_get (C := RX11) (T := TX11) (N := 54) (ci := 11) (v := .ref (q_this 5)) X in_X11_ofMatch_X11 0 rfl rfl 5 (by decide) m_X11_ofMatch_f22 rfl dX11_ofMatch_71 ?_
          refine J_iload_n X dX11_ofMatch_74 1 rfl ?_
          obtain ⟨hk8, hT⟩ := ckn_e hT
          refine J_iald X 6 rfl rfl hk8 dX11_ofMatch_75 ?_
          cases hT
          exact J_iret X dX11_ofMatch_76
        · have hT := iff_ hT hc7
          refine J_if (x2 = 3) (fun hc9 => ?_) (fun hc9 => ?_)
          · have hT := ift hT hc9
            refine J_tsK (tgt := 77) X dX11_ofMatch_11 3 hc9 (by decide) (by decide) rfl (by decide) ?_
            refine J_aload_n X dX11_ofMatch_77 0 rfl ?_
            refine J_iload_n X dX11_ofMatch_78 1 rfl ?_
            refine J_bipush (v := 6) X dX11_ofMatch_79 (by decide) ?_
            refine J_iconst (v := 1) X dX11_ofMatch_81 (by decide) ?_
            obtain ⟨v10, hq10, hT⟩ := bd1_e hT
            refine J_ci (wc := (w_X11_scored cI cJ cZ h_this q_this this_matches this_stakes this_meetings this_newsFirst this_newsHour this_acts this_stories this_signs this_ruleMany this_upper this_lower this_greatAt this_sides this_goals)) (wc' := (w_X11_scored cI cJ cZ h_this q_this this_matches this_stakes this_meetings this_newsFirst this_newsHour this_acts this_stories this_signs this_ruleMany this_upper this_lower this_greatAt this_sides this_goals)) (ws' := (w_X11_ofMatch cI cJ cZ h_this q_this this_matches this_stakes this_meetings this_newsFirst this_newsHour this_acts this_stories this_signs this_ruleMany this_upper this_lower this_greatAt this_sides this_goals this_guest this_home this_hour this_look this_referee)) (idxs [true, true, false, false, false, false, false] 0) (idxs [false, false, true, true, true, true, true] 0) 7 rfl rfl rfl (pick_C _ rfl rfl) rfl (pick_C _ rfl rfl) rfl (pick_R _ rfl rfl rfl) (run_V (As := [.int x1, .int (6 : Int32), .int (1 : Int32)]) (rest := []) X (c_X11_scored l D cI cJ cZ h_this q_this this_matches this_stakes this_meetings this_newsFirst this_newsHour this_acts this_stories this_signs this_ruleMany this_upper this_lower this_greatAt this_sides this_goals x1 (6 : Int32) (1 : Int32) v10 hq10) (cw_X11_ofMatch_X11_scored_156 X.1.2.2.2.2) 0 rfl rfl rfl rfl (Nat.le_of_ble_eq_true rfl) dX11_ofMatch_82 ⟨Nat.zero_le _, Nat.zero_le _⟩) ?_
            cases hT
            exact J_iret X dX11_ofMatch_85
          · have hT := iff_ hT hc9
            refine J_if (x2 = 4) (fun hc11 => ?_) (fun hc11 => ?_)
            · have hT := ift hT hc11
              refine J_tsK (tgt := 86) X dX11_ofMatch_11 4 hc11 (by decide) (by decide) rfl (by decide) ?_
              refine J_aload_n X dX11_ofMatch_86 0 rfl ?_
              refine J_iload_n X dX11_ofMatch_87 1 rfl ?_
              refine J_bipush (v := 6) X dX11_ofMatch_88 (by decide) ?_
              refine J_iconst (v := 2) X dX11_ofMatch_90 (by decide) ?_
              obtain ⟨v12, hq12, hT⟩ := bd1_e hT
              refine J_ci (wc := (w_X11_scored cI cJ cZ h_this q_this this_matches this_stakes this_meetings this_newsFirst this_newsHour this_acts this_stories this_signs this_ruleMany this_upper this_lower this_greatAt this_sides this_goals)) (wc' := (w_X11_scored cI cJ cZ h_this q_this this_matches this_stakes this_meetings this_newsFirst this_newsHour this_acts this_stories this_signs this_ruleMany this_upper this_lower this_greatAt this_sides this_goals)) (ws' := (w_X11_ofMatch cI cJ cZ h_this q_this this_matches this_stakes this_meetings this_newsFirst this_newsHour this_acts this_stories this_signs this_ruleMany this_upper this_lower this_greatAt this_sides this_goals this_guest this_home this_hour this_look this_referee)) (idxs [true, true, false, false, false, false, false] 0) (idxs [false, false, true, true, true, true, true] 0) 7 rfl rfl rfl (pick_C _ rfl rfl) rfl (pick_C _ rfl rfl) rfl (pick_R _ rfl rfl rfl) (run_V (As := [.int x1, .int (6 : Int32), .int (2 : Int32)]) (rest := []) X (c_X11_scored l D cI cJ cZ h_this q_this this_matches this_stakes this_meetings this_newsFirst this_newsHour this_acts this_stories this_signs this_ruleMany this_upper this_lower this_greatAt this_sides this_goals x1 (6 : Int32) (2 : Int32) v12 hq12) (cw_X11_ofMatch_X11_scored_156 X.1.2.2.2.2) 0 rfl rfl rfl rfl (Nat.le_of_ble_eq_true rfl) dX11_ofMatch_91 ⟨Nat.zero_le _, Nat.zero_le _⟩) ?_
              cases hT
              exact J_iret X dX11_ofMatch_94
            · have hT := iff_ hT hc11
              refine J_if (x2 = 5) (fun hc13 => ?_) (fun hc13 => ?_)
              · have hT := ift hT hc13
                refine J_tsK (tgt := 95) X dX11_ofMatch_11 5 hc13 (by decide) (by decide) rfl (by decide) ?_
                refine J_aload_n X dX11_ofMatch_95 0 rfl ?_
                refine J_iload_n X dX11_ofMatch_96 1 rfl ?_
                obtain ⟨v14, hq14, hT⟩ := bd1_e hT
                refine J_ci (wc := (w_X11_endOf cI cJ cZ h_this q_this this_matches this_stakes this_meetings this_newsFirst this_newsHour this_acts this_stories this_signs this_ruleMany this_upper this_lower this_greatAt this_sides this_goals)) (wc' := (w_X11_endOf cI cJ cZ h_this q_this this_matches this_stakes this_meetings this_newsFirst this_newsHour this_acts this_stories this_signs this_ruleMany this_upper this_lower this_greatAt this_sides this_goals)) (ws' := (w_X11_ofMatch cI cJ cZ h_this q_this this_matches this_stakes this_meetings this_newsFirst this_newsHour this_acts this_stories this_signs this_ruleMany this_upper this_lower this_greatAt this_sides this_goals this_guest this_home this_hour this_look this_referee)) (idxs [true, true, false, false, false, false, false] 0) (idxs [false, false, true, true, true, true, true] 0) 7 rfl rfl rfl (pick_C _ rfl rfl) rfl (pick_C _ rfl rfl) rfl (pick_R _ rfl rfl rfl) (run_V (As := [.int x1]) (rest := []) X (c_X11_endOf l D cI cJ cZ h_this q_this this_matches this_stakes this_meetings this_newsFirst this_newsHour this_acts this_stories this_signs this_ruleMany this_upper this_lower this_greatAt this_sides this_goals x1 v14 hq14) (cw_X11_ofMatch_X11_endOf_160 X.1.2.2.2.2) 0 rfl rfl rfl rfl (Nat.le_of_ble_eq_true rfl) dX11_ofMatch_97 ⟨Nat.zero_le _, Nat.zero_le _⟩) ?_
                cases hT
                exact J_iret X dX11_ofMatch_100
              · have hT := iff_ hT hc13
                refine J_if (x2 = 6) (fun hc15 => ?_) (fun hc15 => ?_)
                · have hT := ift hT hc15
                  refine J_tsK (tgt := 101) X dX11_ofMatch_11 6 hc15 (by decide) (by decide) rfl (by decide) ?_
                  refine J_aload_n X dX11_ofMatch_101 0 rfl ?_
                  refine J_get (C := RX11) (T := TX11) (N := 54) (ci := 11) (v := .ref (q_this 6)) X in_X11_ofMatch_X11 0 rfl rfl 6 (by decide) m_X11_ofMatch_f25 rfl dX11_ofMatch_102 ?_
                  refine J_iload_n X dX11_ofMatch_105 1 rfl ?_
                  obtain ⟨hk16, hT⟩ := ckn_e hT
                  refine J_iald X 4 rfl rfl hk16 dX11_ofMatch_106 ?_
                  cases hT
                  exact J_iret X dX11_ofMatch_107
                · have hT := iff_ hT hc15
                  refine J_if (x2 = 7) (fun hc17 => ?_) (fun hc17 => ?_)
                  · have hT := ift hT hc17
                    refine J_tsK (tgt := 108) X dX11_ofMatch_11 7 hc17 (by decide) (by decide) rfl (by decide) ?_
                    refine J_aload_n X dX11_ofMatch_108 0 rfl ?_
                    refine J_get (C := RX11) (T := TX11) (N := 54) (ci := 11) (v := .ref (q_this 7)) X in_X11_ofMatch_X11 0 rfl rfl 7 (by decide) m_X11_ofMatch_f28 rfl dX11_ofMatch_109 ?_
                    refine J_iload_n X dX11_ofMatch_112 1 rfl ?_
                    obtain ⟨hk18, hT⟩ := ckn_e hT
                    refine J_iald X 5 rfl rfl hk18 dX11_ofMatch_113 ?_
                    cases hT
                    exact J_iret X dX11_ofMatch_114
                  · have hT := iff_ hT hc17
                    refine J_tsD (tgt := 115) X dX11_ofMatch_11 (by have e0 := lv_neT (a := 0) hc3 (by decide); have e1 := lv_neT (a := 1) hc5 (by decide); have e2 := lv_neT (a := 2) hc7 (by decide); have e3 := lv_neT (a := 3) hc9 (by decide); have e4 := lv_neT (a := 4) hc11 (by decide); have e5 := lv_neT (a := 5) hc13 (by decide); have e6 := lv_neT (a := 6) hc15 (by decide); have e7 := lv_neT (a := 7) hc17 (by decide); omega) (by decide) ?_
                    refine J_bipush (v := -2) X dX11_ofMatch_115 (by decide) ?_
                    cases hT
                    exact J_iret X dX11_ofMatch_117
  · have hT := ift hT hc2
    refine J_iconst (v := -1) X dX11_ofMatch_8 (by decide) ?_
    cases hT
    exact J_iret X dX11_ofMatch_9
-- ===== SoldMatchesModel.chance(II)I
abbrev rmX11_chance : Room := { frames := 0, cells := 0, slots := 0, locals := 0 }
def w_X11_chance (cI cJ cZ : ClassId) (h_this : Nat) (q_this : Nat → Nat) (this_matches : Int32) (this_stakes : Int32) (this_meetings : Int32) (this_newsFirst : Int32) (this_newsHour : Int32) (this_acts : Int32) (this_stories : Int32) (this_signs : Int32) (this_ruleMany : Int32) (this_upper : Int64) (this_lower : Int64) (this_greatAt : Int32) (this_sides : Int32) (this_skill : Nat → Int32) (this_told : Nat → Int32) : va_W := [(h_this, .inr (11, oFX11 q_this this_matches this_stakes this_meetings this_newsFirst this_newsHour this_acts this_stories this_signs this_ruleMany this_upper this_lower this_greatAt this_sides)), ((q_this 0), .inl (cI, 8, .inl this_skill)), ((q_this 10), .inl (cI, 5, .inl this_told))]
theorem m_X11_chance_f37 : Cond.fieldLink RX11 37 "SoldMatchesModel" "told" "[I" ∈ wsX11_chance := List.mem_of_getElem? (i := 1) rfl
theorem in_X11_chance_X11 : ∀ w ∈ wsX110, w ∈ wsX11_chance := fun w h => List.mem_cons_of_mem _ (List.mem_append_right _ h)
theorem m_X11_chance_f7 : Cond.fieldLink RX11 7 "SoldMatchesModel" "skill" "[I" ∈ wsX11_chance := List.mem_of_getElem? (i := 2) rfl
def t_X11_chance_44   (this_skill : Nat → Int32) (this_told : Nat → Int32) (s0 : Int32) : Option (Int32) := some (s0)
def t_X11_chance  (this_skill : Nat → Int32) (this_told : Nat → Int32) (x1 : Int32) (x2 : Int32) : Option (Int32) := ckn ((0 : Int32) < 0 ∨ 5 ≤ (0 : Int32).toNatClampNeg) (ckn (x1 < 0 ∨ 8 ≤ x1.toNatClampNeg) (ckn (x2 < 0 ∨ 8 ≤ x2.toNatClampNeg) (if (1 : Int32) ≤ ((this_told (0 : Int32).toNatClampNeg) + (((this_skill x1.toNatClampNeg) - (this_skill x2.toNatClampNeg)) / (4 : Int32))) then (if ((this_told (0 : Int32).toNatClampNeg) + (((this_skill x1.toNatClampNeg) - (this_skill x2.toNatClampNeg)) / (4 : Int32))) ≤ (45 : Int32) then (t_X11_chance_44   this_skill this_told ((this_told (0 : Int32).toNatClampNeg) + (((this_skill x1.toNatClampNeg) - (this_skill x2.toNatClampNeg)) / (4 : Int32)))) else (t_X11_chance_44   this_skill this_told (45 : Int32))) else (t_X11_chance_44   this_skill this_told (1 : Int32)))))
set_option maxHeartbeats 4000000 in
set_option maxRecDepth 100000 in
theorem b_X11_chance_44 {p : Program} {l : Launch} {e : Env} {s : State} {m : MethodId} {args : Array Value} {below : List Frame} {meth : Method} {c : Code} {D : va_G} {A : Nat → Prop} {cI cJ cZ : ClassId} (X : Cx p m c cX11_chance 4 s args wsX11_chance RX11 D (tys3 cI cJ cZ) meth (some .int)) (_ _ _ : ClassId)  (h_this : Nat) (q_this : Nat → Nat) (this_matches : Int32) (this_stakes : Int32) (this_meetings : Int32) (this_newsFirst : Int32) (this_newsHour : Int32) (this_acts : Int32) (this_stories : Int32) (this_signs : Int32) (this_ruleMany : Int32) (this_upper : Int64) (this_lower : Int64) (this_greatAt : Int32) (this_sides : Int32) (r : Int32)  (this_skill : Nat → Int32) (this_told : Nat → Int32) (s0 : Int32) (hT : t_X11_chance_44   this_skill this_told s0 = some r) : J p l e rmX11_chance s m args below meth c D A 4 (QI D below args s A r (w_X11_chance cI cJ cZ h_this q_this this_matches this_stakes this_meetings this_newsFirst this_newsHour this_acts this_stories this_signs this_ruleMany this_upper this_lower this_greatAt this_sides this_skill this_told)) 0 0 (w_X11_chance cI cJ cZ h_this q_this this_matches this_stakes this_meetings this_newsFirst this_newsHour this_acts this_stories this_signs this_ruleMany this_upper this_lower this_greatAt this_sides this_skill this_told) [(0, .ref h_this)] [.int s0] 44 := by
  unfold t_X11_chance_44 at hT
  cases hT
  exact J_iret X dX11_chance_44
set_option maxHeartbeats 4000000 in
set_option maxRecDepth 100000 in
theorem c_X11_chance (l : Launch) (D : va_G) (cI cJ cZ : ClassId) (h_this : Nat) (q_this : Nat → Nat) (this_matches : Int32) (this_stakes : Int32) (this_meetings : Int32) (this_newsFirst : Int32) (this_newsHour : Int32) (this_acts : Int32) (this_stories : Int32) (this_signs : Int32) (this_ruleMany : Int32) (this_upper : Int64) (this_lower : Int64) (this_greatAt : Int32) (this_sides : Int32) (this_skill : Nat → Int32) (this_told : Nat → Int32) (x1 : Int32) (x2 : Int32) (r : Int32) (hT : t_X11_chance  this_skill this_told x1 x2 = some r) : Ci l yX11_chance wsX11_chance rmX11_chance D (tys3 cI cJ cZ) [.ref h_this, .int x1, .int x2] (w_X11_chance cI cJ cZ h_this q_this this_matches this_stakes this_meetings this_newsFirst this_newsHour this_acts this_stories this_signs this_ruleMany this_upper this_lower this_greatAt this_sides this_skill this_told) r (w_X11_chance cI cJ cZ h_this q_this this_matches this_stakes this_meetings this_newsFirst this_newsHour this_acts this_stories this_signs this_ruleMany this_upper this_lower this_greatAt this_sides this_skill this_told) := by
  refine Ci.ofJ (cc := cX11_chance) (nL := 4) (rt := (some .int)) (own := RX11) (by decide) rfl rfl (Nat.le_of_ble_eq_true rfl) ?_
  intro p e s m below meth c A X
  unfold t_X11_chance at hT
  refine J_lv (lv' := [(0, .ref h_this), (1, .int x1), (2, .int x2)]) [0, 1, 2] rfl ?_
  refine J_aload_n X dX11_chance_0 0 rfl ?_
  refine J_get (C := RX11) (T := TX11) (N := 54) (ci := 11) (v := .ref (q_this 10)) X in_X11_chance_X11 0 rfl rfl 10 (by decide) m_X11_chance_f37 rfl dX11_chance_1 ?_
  refine J_iconst (v := 0) X dX11_chance_4 (by decide) ?_
  obtain ⟨hk1, hT⟩ := ckn_e hT
  refine J_iald X 2 rfl rfl hk1 dX11_chance_5 ?_
  refine J_aload_n X dX11_chance_6 0 rfl ?_
  refine J_get (C := RX11) (T := TX11) (N := 54) (ci := 11) (v := .ref (q_this 0)) X in_X11_chance_X11 0 rfl rfl 0 (by decide) m_X11_chance_f7 rfl dX11_chance_7 ?_
  refine J_iload_n X dX11_chance_10 1 rfl ?_
  obtain ⟨hk2, hT⟩ := ckn_e hT
  refine J_iald X 1 rfl rfl hk2 dX11_chance_11 ?_
  refine J_aload_n X dX11_chance_12 0 rfl ?_
  refine J_get (C := RX11) (T := TX11) (N := 54) (ci := 11) (v := .ref (q_this 0)) X in_X11_chance_X11 0 rfl rfl 0 (by decide) m_X11_chance_f7 rfl dX11_chance_13 ?_
  refine J_iload_n X dX11_chance_16 2 rfl ?_
  obtain ⟨hk3, hT⟩ := ckn_e hT
  refine J_iald X 1 rfl rfl hk3 dX11_chance_17 ?_
  refine J_isub X dX11_chance_18 ?_
  refine J_iconst (v := 4) X dX11_chance_19 (by decide) ?_
  refine J_idiv X dX11_chance_20 (by decide) ?_
  refine J_iadd X dX11_chance_21 ?_
  refine J_istore_n (lv' := [(3, .int ((this_told (0 : Int32).toNatClampNeg) + (((this_skill x1.toNatClampNeg) - (this_skill x2.toNatClampNeg)) / (4 : Int32)))), (0, .ref h_this), (1, .int x1), (2, .int x2)]) X dX11_chance_22 (by decide) rfl ?_
  refine J_iload_n X dX11_chance_23 0 rfl ?_
  refine J_iconst (v := 1) X dX11_chance_24 (by decide) ?_
  refine J_icmp_ge (tgt := 32) X dX11_chance_25 (by decide) (fun hc4 => ?_) (fun hc4 => ?_)
  · have hT := ift hT hc4
    refine J_iload_n X dX11_chance_32 0 rfl ?_
    refine J_bipush (v := 45) X dX11_chance_33 (by decide) ?_
    refine J_icmp_le (tgt := 43) X dX11_chance_35 (by decide) (fun hc5 => ?_) (fun hc5 => ?_)
    · have hT := ift hT hc5
      refine J_iload_n X dX11_chance_43 0 rfl ?_
      refine J_lv (lv' := [(0, .ref h_this)]) [1] rfl ?_
      exact b_X11_chance_44 X cI cJ cZ h_this q_this this_matches this_stakes this_meetings this_newsFirst this_newsHour this_acts this_stories this_signs this_ruleMany this_upper this_lower this_greatAt this_sides r  this_skill this_told ((this_told (0 : Int32).toNatClampNeg) + (((this_skill x1.toNatClampNeg) - (this_skill x2.toNatClampNeg)) / (4 : Int32))) hT
    · have hT := iff_ hT hc5
      refine J_bipush (v := 45) X dX11_chance_38 (by decide) ?_
      refine J_goto (tgt := 44) X dX11_chance_40 (by decide) ?_
      refine J_lv (lv' := [(0, .ref h_this)]) [1] rfl ?_
      exact b_X11_chance_44 X cI cJ cZ h_this q_this this_matches this_stakes this_meetings this_newsFirst this_newsHour this_acts this_stories this_signs this_ruleMany this_upper this_lower this_greatAt this_sides r  this_skill this_told (45 : Int32) hT
  · have hT := iff_ hT hc4
    refine J_iconst (v := 1) X dX11_chance_28 (by decide) ?_
    refine J_goto (tgt := 44) X dX11_chance_29 (by decide) ?_
    refine J_lv (lv' := [(0, .ref h_this)]) [1] rfl ?_
    exact b_X11_chance_44 X cI cJ cZ h_this q_this this_matches this_stakes this_meetings this_newsFirst this_newsHour this_acts this_stories this_signs this_ruleMany this_upper this_lower this_greatAt this_sides r  this_skill this_told (1 : Int32) hT
-- ===== SoldMatchesModel.layLikely(IIIII)V
abbrev rmX11_layLikely : Room := { frames := 1, cells := 0, slots := 0, locals := 23 }
def w_X11_layLikely (cI cJ cZ : ClassId) (h_this : Nat) (q_this : Nat → Nat) (this_matches : Int32) (this_stakes : Int32) (this_meetings : Int32) (this_newsFirst : Int32) (this_newsHour : Int32) (this_acts : Int32) (this_stories : Int32) (this_signs : Int32) (this_ruleMany : Int32) (this_upper : Int64) (this_lower : Int64) (this_greatAt : Int32) (this_sides : Int32) (this_guest : Nat → Int32) (this_home : Nat → Int32) (this_next : Nat → Int64) (this_skill : Nat → Int32) (this_told : Nat → Int32) (this_ways : Nat → Int64) : va_W := [(h_this, .inr (11, oFX11 q_this this_matches this_stakes this_meetings this_newsFirst this_newsHour this_acts this_stories this_signs this_ruleMany this_upper this_lower this_greatAt this_sides)), ((q_this 4), .inl (cI, 12, .inl this_guest)), ((q_this 3), .inl (cI, 12, .inl this_home)), ((q_this 40), .inl (cJ, 13, .inr (.inl this_next))), ((q_this 0), .inl (cI, 8, .inl this_skill)), ((q_this 10), .inl (cI, 5, .inl this_told)), ((q_this 39), .inl (cJ, 13, .inr (.inl this_ways)))]
theorem m_X11_layLikely_f174 : Cond.fieldLink RX11 174 "SoldMatchesModel" "upper" "J" ∈ wsX11_layLikely := List.mem_of_getElem? (i := 7) rfl
theorem in_X11_layLikely_X11 : ∀ w ∈ wsX110, w ∈ wsX11_layLikely := fun w h => List.mem_cons_of_mem _ (List.mem_append_right _ h)
theorem m_X11_layLikely_f104 : Cond.fieldLink RX11 104 "SoldMatchesModel" "ways" "[J" ∈ wsX11_layLikely := List.mem_of_getElem? (i := 3) rfl
theorem m_X11_layLikely_f168 : Cond.fieldLink RX11 168 "SoldMatchesModel" "lower" "J" ∈ wsX11_layLikely := List.mem_of_getElem? (i := 4) rfl
theorem m_X11_layLikely_c172 : Cond.constantLong RX11 172 (100) ∈ wsX11_layLikely := List.mem_of_getElem? (i := 6) rfl
theorem m_X11_layLikely_f108 : Cond.fieldLink RX11 108 "SoldMatchesModel" "next" "[J" ∈ wsX11_layLikely := List.mem_of_getElem? (i := 5) rfl
theorem m_X11_layLikely_f16 : Cond.fieldLink RX11 16 "SoldMatchesModel" "home" "[I" ∈ wsX11_layLikely := List.mem_of_getElem? (i := 1) rfl
theorem m_X11_layLikely_f19 : Cond.fieldLink RX11 19 "SoldMatchesModel" "guest" "[I" ∈ wsX11_layLikely := List.mem_of_getElem? (i := 2) rfl
theorem cw_X11_layLikely_X11_chance_164 {s : State} {args : Array Value} (hts : ∀ w ∈ wsX11_layLikely, w.before args s = true) : CallW rmX11_layLikely s args RX11 RX11 164 yX11_chance cX11_chance 4 (some .int) wsX11_chance rmX11_chance 0 0 2 := cwV 2 hts gX11_layLikely_X11_chance rfl rfl rfl (by decide +kernel) ⟨by decide, by decide⟩
def t_X11_layLikely_319  (k_230 : Int64 → Int64 → (Nat → Int32) → (Nat → Int32) → (Nat → Int64) → (Nat → Int32) → (Nat → Int32) → (Nat → Int64) → Int32 → Int32 → Int32 → Int32 → (Option (Int64 × Int64 × (Nat → Int64) × (Nat → Int64)))) (this_upper : Int64) (this_lower : Int64) (this_guest : Nat → Int32) (this_home : Nat → Int32) (this_next : Nat → Int64) (this_skill : Nat → Int32) (this_told : Nat → Int32) (this_ways : Nat → Int64) (x3 : Int32) (x4 : Int32) (x5 : Int32) (x10 : Int32) (s0 : Int64) (s1 : Int64) : Option (Int64 × Int64 × (Nat → Int64) × (Nat → Int64)) := k_230 (s1 + s0) this_lower this_guest this_home this_next this_skill this_told this_ways x3 x4 x5 (x10 + (1 : Int32))
def t_X11_layLikely_296  (k_230 : Int64 → Int64 → (Nat → Int32) → (Nat → Int32) → (Nat → Int64) → (Nat → Int32) → (Nat → Int32) → (Nat → Int64) → Int32 → Int32 → Int32 → Int32 → (Option (Int64 × Int64 × (Nat → Int64) × (Nat → Int64)))) (this_upper : Int64) (this_lower : Int64) (this_guest : Nat → Int32) (this_home : Nat → Int32) (this_next : Nat → Int64) (this_skill : Nat → Int32) (this_told : Nat → Int32) (this_ways : Nat → Int64) (x3 : Int32) (x4 : Int32) (x5 : Int32) (x10 : Int32) (s0 : Int32) : Option (Int64 × Int64 × (Nat → Int64) × (Nat → Int64)) := if s0 = 0 then (t_X11_layLikely_319  k_230 this_upper this_lower this_guest this_home this_next this_skill this_told this_ways x3 x4 x5 x10 (0 : Int64) this_upper) else (ckn (x10 < 0 ∨ 13 ≤ x10.toNatClampNeg) (t_X11_layLikely_319  k_230 this_upper this_lower this_guest this_home this_next this_skill this_told this_ways x3 x4 x5 x10 (this_ways x10.toNatClampNeg) this_upper))
def t_X11_layLikely_230_b  (k_230 : Int64 → Int64 → (Nat → Int32) → (Nat → Int32) → (Nat → Int64) → (Nat → Int32) → (Nat → Int32) → (Nat → Int64) → Int32 → Int32 → Int32 → Int32 → (Option (Int64 × Int64 × (Nat → Int64) × (Nat → Int64)))) (this_upper : Int64) (this_lower : Int64) (this_guest : Nat → Int32) (this_home : Nat → Int32) (this_next : Nat → Int64) (this_skill : Nat → Int32) (this_told : Nat → Int32) (this_ways : Nat → Int64) (x3 : Int32) (x4 : Int32) (x5 : Int32) (x10 : Int32) : Option (Int64 × Int64 × (Nat → Int64) × (Nat → Int64)) := if (13 : Int32) ≤ x10 then (some (this_upper, this_lower, this_next, this_ways)) else (if x5 = 0 then (if (((x3 - x4) + x10) - (6 : Int32)) ≤ 0 then (t_X11_layLikely_296  k_230 this_upper this_lower this_guest this_home this_next this_skill this_told this_ways x3 x4 x5 x10 (0 : Int32)) else (t_X11_layLikely_296  k_230 this_upper this_lower this_guest this_home this_next this_skill this_told this_ways x3 x4 x5 x10 (1 : Int32))) else (if x5 = (1 : Int32) then (if (((x3 - x4) + x10) - (6 : Int32)) = 0 then (t_X11_layLikely_296  k_230 this_upper this_lower this_guest this_home this_next this_skill this_told this_ways x3 x4 x5 x10 (1 : Int32)) else (t_X11_layLikely_296  k_230 this_upper this_lower this_guest this_home this_next this_skill this_told this_ways x3 x4 x5 x10 (0 : Int32))) else (if 0 ≤ (((x3 - x4) + x10) - (6 : Int32)) then (t_X11_layLikely_296  k_230 this_upper this_lower this_guest this_home this_next this_skill this_told this_ways x3 x4 x5 x10 (0 : Int32)) else (t_X11_layLikely_296  k_230 this_upper this_lower this_guest this_home this_next this_skill this_told this_ways x3 x4 x5 x10 (1 : Int32)))))
def t_X11_layLikely_230   (n : Nat) : Int64 → Int64 → (Nat → Int32) → (Nat → Int32) → (Nat → Int64) → (Nat → Int32) → (Nat → Int32) → (Nat → Int64) → Int32 → Int32 → Int32 → Int32 → (Option (Int64 × Int64 × (Nat → Int64) × (Nat → Int64))) := Nat.rec (fun _ _ _ _ _ _ _ _ _ _ _ _ => none) (fun _ ih => t_X11_layLikely_230_b   ih) n
def t_X11_layLikely_222   (this_upper : Int64) (this_lower : Int64) (this_guest : Nat → Int32) (this_home : Nat → Int32) (this_next : Nat → Int64) (this_skill : Nat → Int32) (this_told : Nat → Int32) (this_ways : Nat → Int64) (x3 : Int32) (x4 : Int32) (x5 : Int32) : Option (Int64 × Int64 × (Nat → Int64) × (Nat → Int64)) := t_X11_layLikely_230   lfuel (0 : Int64) this_lower this_guest this_home this_next this_skill this_told this_ways x3 x4 x5 (0 : Int32)
def t_X11_layLikely_204  (k_81 : Int64 → Int64 → (Nat → Int32) → (Nat → Int32) → (Nat → Int64) → (Nat → Int32) → (Nat → Int32) → (Nat → Int64) → Int32 → Int32 → Int32 → Int64 → Int64 → Int32 → (Option (Int64 × Int64 × (Nat → Int64) × (Nat → Int64)))) (this_upper : Int64) (this_lower : Int64) (this_guest : Nat → Int32) (this_home : Nat → Int32) (this_next : Nat → Int64) (this_skill : Nat → Int32) (this_told : Nat → Int32) (this_ways : Nat → Int64) (x3 : Int32) (x4 : Int32) (x5 : Int32) (x6 : Int64) (x8 : Int64) (x10 : Int32) : Option (Int64 × Int64 × (Nat → Int64) × (Nat → Int64)) := k_81 this_upper (this_lower * (100 : Int64)) this_guest this_home this_next this_skill this_told this_ways x3 x4 x5 x6 x8 (x10 + (1 : Int32))
def t_X11_layLikely_177_b  (k_81 : Int64 → Int64 → (Nat → Int32) → (Nat → Int32) → (Nat → Int64) → (Nat → Int32) → (Nat → Int32) → (Nat → Int64) → Int32 → Int32 → Int32 → Int64 → Int64 → Int32 → (Option (Int64 × Int64 × (Nat → Int64) × (Nat → Int64)))) (k_177 : Int64 → Int64 → (Nat → Int32) → (Nat → Int32) → (Nat → Int64) → (Nat → Int32) → (Nat → Int32) → (Nat → Int64) → Int32 → Int32 → Int32 → Int64 → Int64 → Int32 → Int32 → (Option (Int64 × Int64 × (Nat → Int64) × (Nat → Int64)))) (this_upper : Int64) (this_lower : Int64) (this_guest : Nat → Int32) (this_home : Nat → Int32) (this_next : Nat → Int64) (this_skill : Nat → Int32) (this_told : Nat → Int32) (this_ways : Nat → Int64) (x3 : Int32) (x4 : Int32) (x5 : Int32) (x6 : Int64) (x8 : Int64) (x10 : Int32) (x11 : Int32) : Option (Int64 × Int64 × (Nat → Int64) × (Nat → Int64)) := if (13 : Int32) ≤ x11 then (t_X11_layLikely_204  k_81 this_upper this_lower this_guest this_home this_next this_skill this_told this_ways x3 x4 x5 x6 x8 x10) else (ckn (x11 < 0 ∨ 13 ≤ x11.toNatClampNeg) (ckn (x11 < 0 ∨ 13 ≤ x11.toNatClampNeg) (k_177 this_upper this_lower this_guest this_home this_next this_skill this_told (vp_updL this_ways x11.toNatClampNeg (this_next x11.toNatClampNeg)) x3 x4 x5 x6 x8 x10 (x11 + (1 : Int32)))))
def t_X11_layLikely_177  (k_81 : Int64 → Int64 → (Nat → Int32) → (Nat → Int32) → (Nat → Int64) → (Nat → Int32) → (Nat → Int32) → (Nat → Int64) → Int32 → Int32 → Int32 → Int64 → Int64 → Int32 → (Option (Int64 × Int64 × (Nat → Int64) × (Nat → Int64)))) (n : Nat) : Int64 → Int64 → (Nat → Int32) → (Nat → Int32) → (Nat → Int64) → (Nat → Int32) → (Nat → Int32) → (Nat → Int64) → Int32 → Int32 → Int32 → Int64 → Int64 → Int32 → Int32 → (Option (Int64 × Int64 × (Nat → Int64) × (Nat → Int64))) := Nat.rec (fun _ _ _ _ _ _ _ _ _ _ _ _ _ _ _ => none) (fun _ ih => t_X11_layLikely_177_b  k_81 ih) n
def t_X11_layLikely_174  (k_81 : Int64 → Int64 → (Nat → Int32) → (Nat → Int32) → (Nat → Int64) → (Nat → Int32) → (Nat → Int32) → (Nat → Int64) → Int32 → Int32 → Int32 → Int64 → Int64 → Int32 → (Option (Int64 × Int64 × (Nat → Int64) × (Nat → Int64)))) (this_upper : Int64) (this_lower : Int64) (this_guest : Nat → Int32) (this_home : Nat → Int32) (this_next : Nat → Int64) (this_skill : Nat → Int32) (this_told : Nat → Int32) (this_ways : Nat → Int64) (x3 : Int32) (x4 : Int32) (x5 : Int32) (x6 : Int64) (x8 : Int64) (x10 : Int32) : Option (Int64 × Int64 × (Nat → Int64) × (Nat → Int64)) := t_X11_layLikely_177  k_81 lfuel this_upper this_lower this_guest this_home this_next this_skill this_told this_ways x3 x4 x5 x6 x8 x10 (0 : Int32)
def t_X11_layLikely_166  (k_81 : Int64 → Int64 → (Nat → Int32) → (Nat → Int32) → (Nat → Int64) → (Nat → Int32) → (Nat → Int32) → (Nat → Int64) → Int32 → Int32 → Int32 → Int64 → Int64 → Int32 → (Option (Int64 × Int64 × (Nat → Int64) × (Nat → Int64)))) (k_91 : Int64 → Int64 → (Nat → Int32) → (Nat → Int32) → (Nat → Int64) → (Nat → Int32) → (Nat → Int32) → (Nat → Int64) → Int32 → Int32 → Int32 → Int64 → Int64 → Int32 → Int32 → (Option (Int64 × Int64 × (Nat → Int64) × (Nat → Int64)))) (this_upper : Int64) (this_lower : Int64) (this_guest : Nat → Int32) (this_home : Nat → Int32) (this_next : Nat → Int64) (this_skill : Nat → Int32) (this_told : Nat → Int32) (this_ways : Nat → Int64) (x3 : Int32) (x4 : Int32) (x5 : Int32) (x6 : Int64) (x8 : Int64) (x10 : Int32) (x11 : Int32) (s0 : Int64) (s1 : Int64) (s2 : Int32) : Option (Int64 × Int64 × (Nat → Int64) × (Nat → Int64)) := ckn (s2 < 0 ∨ 13 ≤ s2.toNatClampNeg) (k_91 this_upper this_lower this_guest this_home (vp_updL this_next s2.toNatClampNeg (s1 + s0)) this_skill this_told this_ways x3 x4 x5 x6 x8 x10 (x11 + (1 : Int32)))
def t_X11_layLikely_142  (k_81 : Int64 → Int64 → (Nat → Int32) → (Nat → Int32) → (Nat → Int64) → (Nat → Int32) → (Nat → Int32) → (Nat → Int64) → Int32 → Int32 → Int32 → Int64 → Int64 → Int32 → (Option (Int64 × Int64 × (Nat → Int64) × (Nat → Int64)))) (k_91 : Int64 → Int64 → (Nat → Int32) → (Nat → Int32) → (Nat → Int64) → (Nat → Int32) → (Nat → Int32) → (Nat → Int64) → Int32 → Int32 → Int32 → Int64 → Int64 → Int32 → Int32 → (Option (Int64 × Int64 × (Nat → Int64) × (Nat → Int64)))) (this_upper : Int64) (this_lower : Int64) (this_guest : Nat → Int32) (this_home : Nat → Int32) (this_next : Nat → Int64) (this_skill : Nat → Int32) (this_told : Nat → Int32) (this_ways : Nat → Int64) (x3 : Int32) (x4 : Int32) (x5 : Int32) (x6 : Int64) (x8 : Int64) (x10 : Int32) (x11 : Int32) (s0 : Int64) (s1 : Int64) (s2 : Int32) : Option (Int64 × Int64 × (Nat → Int64) × (Nat → Int64)) := if (12 : Int32) ≤ x11 then (t_X11_layLikely_166  k_81 k_91 this_upper this_lower this_guest this_home this_next this_skill this_told this_ways x3 x4 x5 x6 x8 x10 x11 (0 : Int64) (s1 + s0) s2) else (ckn ((x11 + (1 : Int32)) < 0 ∨ 13 ≤ (x11 + (1 : Int32)).toNatClampNeg) (t_X11_layLikely_166  k_81 k_91 this_upper this_lower this_guest this_home this_next this_skill this_told this_ways x3 x4 x5 x6 x8 x10 x11 ((this_ways (x11 + (1 : Int32)).toNatClampNeg) * x8) (s1 + s0) s2))
def t_X11_layLikely_91_b  (k_81 : Int64 → Int64 → (Nat → Int32) → (Nat → Int32) → (Nat → Int64) → (Nat → Int32) → (Nat → Int32) → (Nat → Int64) → Int32 → Int32 → Int32 → Int64 → Int64 → Int32 → (Option (Int64 × Int64 × (Nat → Int64) × (Nat → Int64)))) (k_91 : Int64 → Int64 → (Nat → Int32) → (Nat → Int32) → (Nat → Int64) → (Nat → Int32) → (Nat → Int32) → (Nat → Int64) → Int32 → Int32 → Int32 → Int64 → Int64 → Int32 → Int32 → (Option (Int64 × Int64 × (Nat → Int64) × (Nat → Int64)))) (this_upper : Int64) (this_lower : Int64) (this_guest : Nat → Int32) (this_home : Nat → Int32) (this_next : Nat → Int64) (this_skill : Nat → Int32) (this_told : Nat → Int32) (this_ways : Nat → Int64) (x3 : Int32) (x4 : Int32) (x5 : Int32) (x6 : Int64) (x8 : Int64) (x10 : Int32) (x11 : Int32) : Option (Int64 × Int64 × (Nat → Int64) × (Nat → Int64)) := if (13 : Int32) ≤ x11 then (t_X11_layLikely_174  k_81 this_upper this_lower this_guest this_home this_next this_skill this_told this_ways x3 x4 x5 x6 x8 x10) else (ckn (x11 < 0 ∨ 13 ≤ x11.toNatClampNeg) (if x11 ≤ 0 then (t_X11_layLikely_142  k_81 k_91 this_upper this_lower this_guest this_home this_next this_skill this_told this_ways x3 x4 x5 x6 x8 x10 x11 (0 : Int64) ((this_ways x11.toNatClampNeg) * (((100 : Int64) - x6) - x8)) x11) else (ckn ((x11 - (1 : Int32)) < 0 ∨ 13 ≤ (x11 - (1 : Int32)).toNatClampNeg) (t_X11_layLikely_142  k_81 k_91 this_upper this_lower this_guest this_home this_next this_skill this_told this_ways x3 x4 x5 x6 x8 x10 x11 ((this_ways (x11 - (1 : Int32)).toNatClampNeg) * x6) ((this_ways x11.toNatClampNeg) * (((100 : Int64) - x6) - x8)) x11))))
def t_X11_layLikely_91  (k_81 : Int64 → Int64 → (Nat → Int32) → (Nat → Int32) → (Nat → Int64) → (Nat → Int32) → (Nat → Int32) → (Nat → Int64) → Int32 → Int32 → Int32 → Int64 → Int64 → Int32 → (Option (Int64 × Int64 × (Nat → Int64) × (Nat → Int64)))) (n : Nat) : Int64 → Int64 → (Nat → Int32) → (Nat → Int32) → (Nat → Int64) → (Nat → Int32) → (Nat → Int32) → (Nat → Int64) → Int32 → Int32 → Int32 → Int64 → Int64 → Int32 → Int32 → (Option (Int64 × Int64 × (Nat → Int64) × (Nat → Int64))) := Nat.rec (fun _ _ _ _ _ _ _ _ _ _ _ _ _ _ _ => none) (fun _ ih => t_X11_layLikely_91_b  k_81 ih) n
def t_X11_layLikely_81_b  (k_81 : Int64 → Int64 → (Nat → Int32) → (Nat → Int32) → (Nat → Int64) → (Nat → Int32) → (Nat → Int32) → (Nat → Int64) → Int32 → Int32 → Int32 → Int64 → Int64 → Int32 → (Option (Int64 × Int64 × (Nat → Int64) × (Nat → Int64)))) (this_upper : Int64) (this_lower : Int64) (this_guest : Nat → Int32) (this_home : Nat → Int32) (this_next : Nat → Int64) (this_skill : Nat → Int32) (this_told : Nat → Int32) (this_ways : Nat → Int64) (x3 : Int32) (x4 : Int32) (x5 : Int32) (x6 : Int64) (x8 : Int64) (x10 : Int32) : Option (Int64 × Int64 × (Nat → Int64) × (Nat → Int64)) := if (6 : Int32) ≤ x10 then (t_X11_layLikely_222   this_upper this_lower this_guest this_home this_next this_skill this_told this_ways x3 x4 x5) else (t_X11_layLikely_91  k_81 lfuel this_upper this_lower this_guest this_home this_next this_skill this_told this_ways x3 x4 x5 x6 x8 x10 (0 : Int32))
def t_X11_layLikely_81   (n : Nat) : Int64 → Int64 → (Nat → Int32) → (Nat → Int32) → (Nat → Int64) → (Nat → Int32) → (Nat → Int32) → (Nat → Int64) → Int32 → Int32 → Int32 → Int64 → Int64 → Int32 → (Option (Int64 × Int64 × (Nat → Int64) × (Nat → Int64))) := Nat.rec (fun _ _ _ _ _ _ _ _ _ _ _ _ _ _ => none) (fun _ ih => t_X11_layLikely_81_b   ih) n
def t_X11_layLikely_73   (this_upper : Int64) (this_lower : Int64) (this_guest : Nat → Int32) (this_home : Nat → Int32) (this_next : Nat → Int64) (this_skill : Nat → Int32) (this_told : Nat → Int32) (this_ways : Nat → Int64) (x2 : Int32) (x3 : Int32) (x4 : Int32) (x5 : Int32) (x6 : Int64) (x8 : Int64) : Option (Int64 × Int64 × (Nat → Int64) × (Nat → Int64)) := t_X11_layLikely_81   lfuel this_upper (1 : Int64) this_guest this_home this_next this_skill this_told this_ways x3 x4 x5 x6 x8 x2
def t_X11_layLikely_66  (k_41 : Int64 → Int64 → (Nat → Int32) → (Nat → Int32) → (Nat → Int64) → (Nat → Int32) → (Nat → Int32) → (Nat → Int64) → Int32 → Int32 → Int32 → Int32 → Int64 → Int64 → Int32 → (Option (Int64 × Int64 × (Nat → Int64) × (Nat → Int64)))) (this_upper : Int64) (this_lower : Int64) (this_guest : Nat → Int32) (this_home : Nat → Int32) (this_next : Nat → Int64) (this_skill : Nat → Int32) (this_told : Nat → Int32) (this_ways : Nat → Int64) (x2 : Int32) (x3 : Int32) (x4 : Int32) (x5 : Int32) (x6 : Int64) (x8 : Int64) (x10 : Int32) (s0 : Int64) (s1 : Int32) : Option (Int64 × Int64 × (Nat → Int64) × (Nat → Int64)) := ckn (s1 < 0 ∨ 13 ≤ s1.toNatClampNeg) (k_41 this_upper this_lower this_guest this_home this_next this_skill this_told (vp_updL this_ways s1.toNatClampNeg s0) x2 x3 x4 x5 x6 x8 (x10 + (1 : Int32)))
def t_X11_layLikely_41_b  (k_41 : Int64 → Int64 → (Nat → Int32) → (Nat → Int32) → (Nat → Int64) → (Nat → Int32) → (Nat → Int32) → (Nat → Int64) → Int32 → Int32 → Int32 → Int32 → Int64 → Int64 → Int32 → (Option (Int64 × Int64 × (Nat → Int64) × (Nat → Int64)))) (this_upper : Int64) (this_lower : Int64) (this_guest : Nat → Int32) (this_home : Nat → Int32) (this_next : Nat → Int64) (this_skill : Nat → Int32) (this_told : Nat → Int32) (this_ways : Nat → Int64) (x2 : Int32) (x3 : Int32) (x4 : Int32) (x5 : Int32) (x6 : Int64) (x8 : Int64) (x10 : Int32) : Option (Int64 × Int64 × (Nat → Int64) × (Nat → Int64)) := if (13 : Int32) ≤ x10 then (t_X11_layLikely_73   this_upper this_lower this_guest this_home this_next this_skill this_told this_ways x2 x3 x4 x5 x6 x8) else (if x10 = (6 : Int32) then (t_X11_layLikely_66  k_41 this_upper this_lower this_guest this_home this_next this_skill this_told this_ways x2 x3 x4 x5 x6 x8 x10 (1 : Int64) x10) else (t_X11_layLikely_66  k_41 this_upper this_lower this_guest this_home this_next this_skill this_told this_ways x2 x3 x4 x5 x6 x8 x10 (0 : Int64) x10))
def t_X11_layLikely_41   (n : Nat) : Int64 → Int64 → (Nat → Int32) → (Nat → Int32) → (Nat → Int64) → (Nat → Int32) → (Nat → Int32) → (Nat → Int64) → Int32 → Int32 → Int32 → Int32 → Int64 → Int64 → Int32 → (Option (Int64 × Int64 × (Nat → Int64) × (Nat → Int64))) := Nat.rec (fun _ _ _ _ _ _ _ _ _ _ _ _ _ _ _ => none) (fun _ ih => t_X11_layLikely_41_b   ih) n
def t_X11_layLikely  (this_upper : Int64) (this_lower : Int64) (this_guest : Nat → Int32) (this_home : Nat → Int32) (this_next : Nat → Int64) (this_skill : Nat → Int32) (this_told : Nat → Int32) (this_ways : Nat → Int64) (x1 : Int32) (x2 : Int32) (x3 : Int32) (x4 : Int32) (x5 : Int32) : Option (Int64 × Int64 × (Nat → Int64) × (Nat → Int64)) := ckn (x1 < 0 ∨ 12 ≤ x1.toNatClampNeg) (ckn (x1 < 0 ∨ 12 ≤ x1.toNatClampNeg) (bd1 (t_X11_chance this_skill this_told (this_home x1.toNatClampNeg) (this_guest x1.toNatClampNeg)) (fun v25 => ckn (x1 < 0 ∨ 12 ≤ x1.toNatClampNeg) (ckn (x1 < 0 ∨ 12 ≤ x1.toNatClampNeg) (bd1 (t_X11_chance this_skill this_told (this_guest x1.toNatClampNeg) (this_home x1.toNatClampNeg)) (fun v28 => t_X11_layLikely_41   lfuel this_upper this_lower this_guest this_home this_next this_skill this_told this_ways x2 x3 x4 x5 (v25.toInt64) (v28.toInt64) (0 : Int32)))))))
set_option maxHeartbeats 4000000 in
set_option maxRecDepth 100000 in
theorem b_X11_layLikely_319 {p : Program} {l : Launch} {e : Env} {s : State} {m : MethodId} {args : Array Value} {below : List Frame} {meth : Method} {c : Code} {D : va_G} {A : Nat → Prop} {cI cJ cZ : ClassId} (X : Cx p m c cX11_layLikely 13 s args wsX11_layLikely RX11 D (tys3 cI cJ cZ) meth none) (_ _ _ : ClassId)  (h_this : Nat) (q_this : Nat → Nat) (this_matches : Int32) (this_stakes : Int32) (this_meetings : Int32) (this_newsFirst : Int32) (this_newsHour : Int32) (this_acts : Int32) (this_stories : Int32) (this_signs : Int32) (this_ruleMany : Int32) (this_greatAt : Int32) (this_sides : Int32) (z0 : Int64) (z1 : Int64) (z2 : Nat → Int64) (z3 : Nat → Int64) (k_230 : Int64 → Int64 → (Nat → Int32) → (Nat → Int32) → (Nat → Int64) → (Nat → Int32) → (Nat → Int32) → (Nat → Int64) → Int32 → Int32 → Int32 → Int32 → (Option (Int64 × Int64 × (Nat → Int64) × (Nat → Int64)))) (hk_230 : ∀ (this_upper : Int64) (this_lower : Int64) (this_guest : Nat → Int32) (this_home : Nat → Int32) (this_next : Nat → Int64) (this_skill : Nat → Int32) (this_told : Nat → Int32) (this_ways : Nat → Int64) (x3 : Int32) (x4 : Int32) (x5 : Int32) (x10 : Int32), k_230 this_upper this_lower this_guest this_home this_next this_skill this_told this_ways x3 x4 x5 x10 = some (z0, z1, z2, z3) → J p l e rmX11_layLikely s m args below meth c D A 13 (QV D below args s A (w_X11_layLikely cI cJ cZ h_this q_this this_matches this_stakes this_meetings this_newsFirst this_newsHour this_acts this_stories this_signs this_ruleMany z0 z1 this_greatAt this_sides this_guest this_home z2 this_skill this_told z3)) 0 0 (w_X11_layLikely cI cJ cZ h_this q_this this_matches this_stakes this_meetings this_newsFirst this_newsHour this_acts this_stories this_signs this_ruleMany this_upper this_lower this_greatAt this_sides this_guest this_home this_next this_skill this_told this_ways) [(0, .ref h_this), (3, .int x3), (4, .int x4), (5, .int x5), (10, .int x10)] [] 230) (this_upper : Int64) (this_lower : Int64) (this_guest : Nat → Int32) (this_home : Nat → Int32) (this_next : Nat → Int64) (this_skill : Nat → Int32) (this_told : Nat → Int32) (this_ways : Nat → Int64) (x3 : Int32) (x4 : Int32) (x5 : Int32) (x10 : Int32) (s0 : Int64) (s1 : Int64) (hT : t_X11_layLikely_319  k_230 this_upper this_lower this_guest this_home this_next this_skill this_told this_ways x3 x4 x5 x10 s0 s1 = some (z0, z1, z2, z3)) : J p l e rmX11_layLikely s m args below meth c D A 13 (QV D below args s A (w_X11_layLikely cI cJ cZ h_this q_this this_matches this_stakes this_meetings this_newsFirst this_newsHour this_acts this_stories this_signs this_ruleMany z0 z1 this_greatAt this_sides this_guest this_home z2 this_skill this_told z3)) 0 0 (w_X11_layLikely cI cJ cZ h_this q_this this_matches this_stakes this_meetings this_newsFirst this_newsHour this_acts this_stories this_signs this_ruleMany this_upper this_lower this_greatAt this_sides this_guest this_home this_next this_skill this_told this_ways) [(0, .ref h_this), (3, .int x3), (4, .int x4), (5, .int x5), (10, .int x10)] [.long s0, .long s1, .ref h_this] 319 := by
  unfold t_X11_layLikely_319 at hT
  refine J_ladd X dX11_layLikely_319 ?_
  refine J_put (host := "") (C := RX11) (T := TX11) (N := 54) (ci := 11) (ws' := (w_X11_layLikely cI cJ cZ h_this q_this this_matches this_stakes this_meetings this_newsFirst this_newsHour this_acts this_stories this_signs this_ruleMany (s1 + s0) this_lower this_greatAt this_sides this_guest this_home this_next this_skill this_told this_ways)) X in_X11_layLikely_X11 0 rfl rfl 41 (by decide) tyX11 tyX11_ok nmX11 m_X11_layLikely_f174 rfl rfl rfl (Nat.le_of_ble_eq_true rfl) rfl dX11_layLikely_320 ?_
  refine J_iinc (lv' := [(10, .int (x10 + (1 : Int32))), (0, .ref h_this), (3, .int x3), (4, .int x4), (5, .int x5)]) (j := 4) X dX11_layLikely_323 rfl rfl (by decide) rfl ?_
  refine J_goto (tgt := 230) X dX11_layLikely_326 (by decide) ?_
  refine J_lv (lv' := [(0, .ref h_this), (3, .int x3), (4, .int x4), (5, .int x5), (10, .int (x10 + (1 : Int32)))]) [1, 2, 3, 4, 0] rfl ?_
  exact hk_230 (s1 + s0) this_lower this_guest this_home this_next this_skill this_told this_ways x3 x4 x5 (x10 + (1 : Int32)) hT
set_option maxHeartbeats 4000000 in
set_option maxRecDepth 100000 in
theorem b_X11_layLikely_296 {p : Program} {l : Launch} {e : Env} {s : State} {m : MethodId} {args : Array Value} {below : List Frame} {meth : Method} {c : Code} {D : va_G} {A : Nat → Prop} {cI cJ cZ : ClassId} (X : Cx p m c cX11_layLikely 13 s args wsX11_layLikely RX11 D (tys3 cI cJ cZ) meth none) (_ _ _ : ClassId)  (h_this : Nat) (q_this : Nat → Nat) (this_matches : Int32) (this_stakes : Int32) (this_meetings : Int32) (this_newsFirst : Int32) (this_newsHour : Int32) (this_acts : Int32) (this_stories : Int32) (this_signs : Int32) (this_ruleMany : Int32) (this_greatAt : Int32) (this_sides : Int32) (z0 : Int64) (z1 : Int64) (z2 : Nat → Int64) (z3 : Nat → Int64) (k_230 : Int64 → Int64 → (Nat → Int32) → (Nat → Int32) → (Nat → Int64) → (Nat → Int32) → (Nat → Int32) → (Nat → Int64) → Int32 → Int32 → Int32 → Int32 → (Option (Int64 × Int64 × (Nat → Int64) × (Nat → Int64)))) (hk_230 : ∀ (this_upper : Int64) (this_lower : Int64) (this_guest : Nat → Int32) (this_home : Nat → Int32) (this_next : Nat → Int64) (this_skill : Nat → Int32) (this_told : Nat → Int32) (this_ways : Nat → Int64) (x3 : Int32) (x4 : Int32) (x5 : Int32) (x10 : Int32), k_230 this_upper this_lower this_guest this_home this_next this_skill this_told this_ways x3 x4 x5 x10 = some (z0, z1, z2, z3) → J p l e rmX11_layLikely s m args below meth c D A 13 (QV D below args s A (w_X11_layLikely cI cJ cZ h_this q_this this_matches this_stakes this_meetings this_newsFirst this_newsHour this_acts this_stories this_signs this_ruleMany z0 z1 this_greatAt this_sides this_guest this_home z2 this_skill this_told z3)) 0 0 (w_X11_layLikely cI cJ cZ h_this q_this this_matches this_stakes this_meetings this_newsFirst this_newsHour this_acts this_stories this_signs this_ruleMany this_upper this_lower this_greatAt this_sides this_guest this_home this_next this_skill this_told this_ways) [(0, .ref h_this), (3, .int x3), (4, .int x4), (5, .int x5), (10, .int x10)] [] 230) (this_upper : Int64) (this_lower : Int64) (this_guest : Nat → Int32) (this_home : Nat → Int32) (this_next : Nat → Int64) (this_skill : Nat → Int32) (this_told : Nat → Int32) (this_ways : Nat → Int64) (x3 : Int32) (x4 : Int32) (x5 : Int32) (x10 : Int32) (s0 : Int32) (hT : t_X11_layLikely_296  k_230 this_upper this_lower this_guest this_home this_next this_skill this_told this_ways x3 x4 x5 x10 s0 = some (z0, z1, z2, z3)) : J p l e rmX11_layLikely s m args below meth c D A 13 (QV D below args s A (w_X11_layLikely cI cJ cZ h_this q_this this_matches this_stakes this_meetings this_newsFirst this_newsHour this_acts this_stories this_signs this_ruleMany z0 z1 this_greatAt this_sides this_guest this_home z2 this_skill this_told z3)) 0 0 (w_X11_layLikely cI cJ cZ h_this q_this this_matches this_stakes this_meetings this_newsFirst this_newsHour this_acts this_stories this_signs this_ruleMany this_upper this_lower this_greatAt this_sides this_guest this_home this_next this_skill this_told this_ways) [(0, .ref h_this), (3, .int x3), (4, .int x4), (5, .int x5), (10, .int x10)] [.int s0] 296 := by
  unfold t_X11_layLikely_296 at hT
  refine J_istore (lv' := [(12, .int s0), (0, .ref h_this), (3, .int x3), (4, .int x4), (5, .int x5), (10, .int x10)]) X dX11_layLikely_296 (by decide) rfl ?_
  refine J_aload_n X dX11_layLikely_298 1 rfl ?_
  refine J_dup X dX11_layLikely_299 rfl ?_
  refine J_get (C := RX11) (T := TX11) (N := 54) (ci := 11) (v := .long this_upper) X in_X11_layLikely_X11 0 rfl rfl 41 (by decide) m_X11_layLikely_f174 rfl dX11_layLikely_300 ?_
  refine J_iload X dX11_layLikely_303 0 rfl ?_
  refine J_if_eq (tgt := 318) X dX11_layLikely_305 (by decide) (fun hc1 => ?_) (fun hc1 => ?_)
  · have hT := ift hT hc1
    refine J_lconst (v := 0) X dX11_layLikely_318 (by decide) ?_
    refine J_lv (lv' := [(0, .ref h_this), (3, .int x3), (4, .int x4), (5, .int x5), (10, .int x10)]) [1, 2, 3, 4, 5] rfl ?_
    exact b_X11_layLikely_319 X cI cJ cZ h_this q_this this_matches this_stakes this_meetings this_newsFirst this_newsHour this_acts this_stories this_signs this_ruleMany this_greatAt this_sides z0 z1 z2 z3 k_230 hk_230 this_upper this_lower this_guest this_home this_next this_skill this_told this_ways x3 x4 x5 x10 (0 : Int64) this_upper hT
  · have hT := iff_ hT hc1
    refine J_aload_n X dX11_layLikely_308 1 rfl ?_
    refine J_get (C := RX11) (T := TX11) (N := 54) (ci := 11) (v := .ref (q_this 39)) X in_X11_layLikely_X11 0 rfl rfl 39 (by decide) m_X11_layLikely_f104 rfl dX11_layLikely_309 ?_
    refine J_iload X dX11_layLikely_312 5 rfl ?_
    obtain ⟨hk2, hT⟩ := ckn_e hT
    refine J_lald X 6 rfl rfl hk2 dX11_layLikely_314 ?_
    refine J_goto (tgt := 319) X dX11_layLikely_315 (by decide) ?_
    refine J_lv (lv' := [(0, .ref h_this), (3, .int x3), (4, .int x4), (5, .int x5), (10, .int x10)]) [1, 2, 3, 4, 5] rfl ?_
    exact b_X11_layLikely_319 X cI cJ cZ h_this q_this this_matches this_stakes this_meetings this_newsFirst this_newsHour this_acts this_stories this_signs this_ruleMany this_greatAt this_sides z0 z1 z2 z3 k_230 hk_230 this_upper this_lower this_guest this_home this_next this_skill this_told this_ways x3 x4 x5 x10 (this_ways x10.toNatClampNeg) this_upper hT
set_option maxHeartbeats 4000000 in
set_option maxRecDepth 100000 in
theorem b_X11_layLikely_230_b {p : Program} {l : Launch} {e : Env} {s : State} {m : MethodId} {args : Array Value} {below : List Frame} {meth : Method} {c : Code} {D : va_G} {A : Nat → Prop} {cI cJ cZ : ClassId} (X : Cx p m c cX11_layLikely 13 s args wsX11_layLikely RX11 D (tys3 cI cJ cZ) meth none) (_ _ _ : ClassId)  (h_this : Nat) (q_this : Nat → Nat) (this_matches : Int32) (this_stakes : Int32) (this_meetings : Int32) (this_newsFirst : Int32) (this_newsHour : Int32) (this_acts : Int32) (this_stories : Int32) (this_signs : Int32) (this_ruleMany : Int32) (this_greatAt : Int32) (this_sides : Int32) (z0 : Int64) (z1 : Int64) (z2 : Nat → Int64) (z3 : Nat → Int64) (k_230 : Int64 → Int64 → (Nat → Int32) → (Nat → Int32) → (Nat → Int64) → (Nat → Int32) → (Nat → Int32) → (Nat → Int64) → Int32 → Int32 → Int32 → Int32 → (Option (Int64 × Int64 × (Nat → Int64) × (Nat → Int64)))) (hk_230 : ∀ (this_upper : Int64) (this_lower : Int64) (this_guest : Nat → Int32) (this_home : Nat → Int32) (this_next : Nat → Int64) (this_skill : Nat → Int32) (this_told : Nat → Int32) (this_ways : Nat → Int64) (x3 : Int32) (x4 : Int32) (x5 : Int32) (x10 : Int32), k_230 this_upper this_lower this_guest this_home this_next this_skill this_told this_ways x3 x4 x5 x10 = some (z0, z1, z2, z3) → J p l e rmX11_layLikely s m args below meth c D A 13 (QV D below args s A (w_X11_layLikely cI cJ cZ h_this q_this this_matches this_stakes this_meetings this_newsFirst this_newsHour this_acts this_stories this_signs this_ruleMany z0 z1 this_greatAt this_sides this_guest this_home z2 this_skill this_told z3)) 0 0 (w_X11_layLikely cI cJ cZ h_this q_this this_matches this_stakes this_meetings this_newsFirst this_newsHour this_acts this_stories this_signs this_ruleMany this_upper this_lower this_greatAt this_sides this_guest this_home this_next this_skill this_told this_ways) [(0, .ref h_this), (3, .int x3), (4, .int x4), (5, .int x5), (10, .int x10)] [] 230) (this_upper : Int64) (this_lower : Int64) (this_guest : Nat → Int32) (this_home : Nat → Int32) (this_next : Nat → Int64) (this_skill : Nat → Int32) (this_told : Nat → Int32) (this_ways : Nat → Int64) (x3 : Int32) (x4 : Int32) (x5 : Int32) (x10 : Int32) (hT : t_X11_layLikely_230_b  k_230 this_upper this_lower this_guest this_home this_next this_skill this_told this_ways x3 x4 x5 x10 = some (z0, z1, z2, z3)) : J p l e rmX11_layLikely s m args below meth c D A 13 (QV D below args s A (w_X11_layLikely cI cJ cZ h_this q_this this_matches this_stakes this_meetings this_newsFirst this_newsHour this_acts this_stories this_signs this_ruleMany z0 z1 this_greatAt this_sides this_guest this_home z2 this_skill this_told z3)) 0 0 (w_X11_layLikely cI cJ cZ h_this q_this this_matches this_stakes this_meetings this_newsFirst this_newsHour this_acts this_stories this_signs this_ruleMany this_upper this_lower this_greatAt this_sides this_guest this_home this_next this_skill this_told this_ways) [(0, .ref h_this), (3, .int x3), (4, .int x4), (5, .int x5), (10, .int x10)] [] 230 := by
  unfold t_X11_layLikely_230_b at hT
  refine J_iload X dX11_layLikely_230 4 rfl ?_
  refine J_bipush (v := 13) X dX11_layLikely_232 (by decide) ?_
  refine J_icmp_ge (tgt := 329) X dX11_layLikely_234 (by decide) (fun hc3 => ?_) (fun hc3 => ?_)
  · have hT := ift hT hc3
    cases hT
    exact J_vret X dX11_layLikely_329
  · have hT := iff_ hT hc3
    refine J_iload_n X dX11_layLikely_237 1 rfl ?_
    refine J_iload X dX11_layLikely_238 2 rfl ?_
    refine J_isub X dX11_layLikely_240 ?_
    refine J_iload X dX11_layLikely_241 4 rfl ?_
    refine J_iadd X dX11_layLikely_243 ?_
    refine J_bipush (v := 6) X dX11_layLikely_244 (by decide) ?_
    refine J_isub X dX11_layLikely_246 ?_
    refine J_istore (lv' := [(11, .int (((x3 - x4) + x10) - (6 : Int32))), (0, .ref h_this), (3, .int x3), (4, .int x4), (5, .int x5), (10, .int x10)]) X dX11_layLikely_247 (by decide) rfl ?_
    refine J_iload X dX11_layLikely_249 4 rfl ?_
    refine J_if_ne (tgt := 267) X dX11_layLikely_251 (by decide) (fun hc4 => ?_) (fun hc4 => ?_)
    · have hT := iff_ hT hc4
      refine J_iload X dX11_layLikely_267 4 rfl ?_
      refine J_iconst (v := 1) X dX11_layLikely_269 (by decide) ?_
      refine J_icmp_ne (tgt := 286) X dX11_layLikely_270 (by decide) (fun hc5 => ?_) (fun hc5 => ?_)
      · have hT := iff_ hT hc5
        refine J_iload X dX11_layLikely_286 0 rfl ?_
        refine J_if_ge (tgt := 295) X dX11_layLikely_288 (by decide) (fun hc6 => ?_) (fun hc6 => ?_)
        · have hT := ift hT hc6
          refine J_iconst (v := 0) X dX11_layLikely_295 (by decide) ?_
          refine J_lv (lv' := [(0, .ref h_this), (3, .int x3), (4, .int x4), (5, .int x5), (10, .int x10)]) [1, 2, 3, 4, 5] rfl ?_
          exact b_X11_layLikely_296 X cI cJ cZ h_this q_this this_matches this_stakes this_meetings this_newsFirst this_newsHour this_acts this_stories this_signs this_ruleMany this_greatAt this_sides z0 z1 z2 z3 k_230 hk_230 this_upper this_lower this_guest this_home this_next this_skill this_told this_ways x3 x4 x5 x10 (0 : Int32) hT
        · have hT := iff_ hT hc6
          refine J_iconst (v := 1) X dX11_layLikely_291 (by decide) ?_
          refine J_goto (tgt := 296) X dX11_layLikely_292 (by decide) ?_
          refine J_lv (lv' := [(0, .ref h_this), (3, .int x3), (4, .int x4), (5, .int x5), (10, .int x10)]) [1, 2, 3, 4, 5] rfl ?_
          exact b_X11_layLikely_296 X cI cJ cZ h_this q_this this_matches this_stakes this_meetings this_newsFirst this_newsHour this_acts this_stories this_signs this_ruleMany this_greatAt this_sides z0 z1 z2 z3 k_230 hk_230 this_upper this_lower this_guest this_home this_next this_skill this_told this_ways x3 x4 x5 x10 (1 : Int32) hT
      · have hT := ift hT hc5
        refine J_iload X dX11_layLikely_273 0 rfl ?_
        refine J_if_ne (tgt := 282) X dX11_layLikely_275 (by decide) (fun hc7 => ?_) (fun hc7 => ?_)
        · have hT := iff_ hT hc7
          refine J_iconst (v := 0) X dX11_layLikely_282 (by decide) ?_
          refine J_goto (tgt := 296) X dX11_layLikely_283 (by decide) ?_
          refine J_lv (lv' := [(0, .ref h_this), (3, .int x3), (4, .int x4), (5, .int x5), (10, .int x10)]) [1, 2, 3, 4, 5] rfl ?_
          exact b_X11_layLikely_296 X cI cJ cZ h_this q_this this_matches this_stakes this_meetings this_newsFirst this_newsHour this_acts this_stories this_signs this_ruleMany this_greatAt this_sides z0 z1 z2 z3 k_230 hk_230 this_upper this_lower this_guest this_home this_next this_skill this_told this_ways x3 x4 x5 x10 (0 : Int32) hT
        · have hT := ift hT hc7
          refine J_iconst (v := 1) X dX11_layLikely_278 (by decide) ?_
          refine J_goto (tgt := 296) X dX11_layLikely_279 (by decide) ?_
          refine J_lv (lv' := [(0, .ref h_this), (3, .int x3), (4, .int x4), (5, .int x5), (10, .int x10)]) [1, 2, 3, 4, 5] rfl ?_
          exact b_X11_layLikely_296 X cI cJ cZ h_this q_this this_matches this_stakes this_meetings this_newsFirst this_newsHour this_acts this_stories this_signs this_ruleMany this_greatAt this_sides z0 z1 z2 z3 k_230 hk_230 this_upper this_lower this_guest this_home this_next this_skill this_told this_ways x3 x4 x5 x10 (1 : Int32) hT
    · have hT := ift hT hc4
      refine J_iload X dX11_layLikely_254 0 rfl ?_
      refine J_if_le (tgt := 263) X dX11_layLikely_256 (by decide) (fun hc8 => ?_) (fun hc8 => ?_)
      · have hT := ift hT hc8
        refine J_iconst (v := 0) X dX11_layLikely_263 (by decide) ?_
        refine J_goto (tgt := 296) X dX11_layLikely_264 (by decide) ?_
        refine J_lv (lv' := [(0, .ref h_this), (3, .int x3), (4, .int x4), (5, .int x5), (10, .int x10)]) [1, 2, 3, 4, 5] rfl ?_
        exact b_X11_layLikely_296 X cI cJ cZ h_this q_this this_matches this_stakes this_meetings this_newsFirst this_newsHour this_acts this_stories this_signs this_ruleMany this_greatAt this_sides z0 z1 z2 z3 k_230 hk_230 this_upper this_lower this_guest this_home this_next this_skill this_told this_ways x3 x4 x5 x10 (0 : Int32) hT
      · have hT := iff_ hT hc8
        refine J_iconst (v := 1) X dX11_layLikely_259 (by decide) ?_
        refine J_goto (tgt := 296) X dX11_layLikely_260 (by decide) ?_
        refine J_lv (lv' := [(0, .ref h_this), (3, .int x3), (4, .int x4), (5, .int x5), (10, .int x10)]) [1, 2, 3, 4, 5] rfl ?_
        exact b_X11_layLikely_296 X cI cJ cZ h_this q_this this_matches this_stakes this_meetings this_newsFirst this_newsHour this_acts this_stories this_signs this_ruleMany this_greatAt this_sides z0 z1 z2 z3 k_230 hk_230 this_upper this_lower this_guest this_home this_next this_skill this_told this_ways x3 x4 x5 x10 (1 : Int32) hT
set_option maxHeartbeats 4000000 in
set_option maxRecDepth 100000 in
theorem b_X11_layLikely_230 {p : Program} {l : Launch} {e : Env} {s : State} {m : MethodId} {args : Array Value} {below : List Frame} {meth : Method} {c : Code} {D : va_G} {A : Nat → Prop} {cI cJ cZ : ClassId} (X : Cx p m c cX11_layLikely 13 s args wsX11_layLikely RX11 D (tys3 cI cJ cZ) meth none) (_ _ _ : ClassId)  (h_this : Nat) (q_this : Nat → Nat) (this_matches : Int32) (this_stakes : Int32) (this_meetings : Int32) (this_newsFirst : Int32) (this_newsHour : Int32) (this_acts : Int32) (this_stories : Int32) (this_signs : Int32) (this_ruleMany : Int32) (this_greatAt : Int32) (this_sides : Int32) (z0 : Int64) (z1 : Int64) (z2 : Nat → Int64) (z3 : Nat → Int64)  : ∀ (n : Nat) (this_upper : Int64) (this_lower : Int64) (this_guest : Nat → Int32) (this_home : Nat → Int32) (this_next : Nat → Int64) (this_skill : Nat → Int32) (this_told : Nat → Int32) (this_ways : Nat → Int64) (x3 : Int32) (x4 : Int32) (x5 : Int32) (x10 : Int32) (hT : t_X11_layLikely_230   n this_upper this_lower this_guest this_home this_next this_skill this_told this_ways x3 x4 x5 x10 = some (z0, z1, z2, z3)), J p l e rmX11_layLikely s m args below meth c D A 13 (QV D below args s A (w_X11_layLikely cI cJ cZ h_this q_this this_matches this_stakes this_meetings this_newsFirst this_newsHour this_acts this_stories this_signs this_ruleMany z0 z1 this_greatAt this_sides this_guest this_home z2 this_skill this_told z3)) 0 0 (w_X11_layLikely cI cJ cZ h_this q_this this_matches this_stakes this_meetings this_newsFirst this_newsHour this_acts this_stories this_signs this_ruleMany this_upper this_lower this_greatAt this_sides this_guest this_home this_next this_skill this_told this_ways) [(0, .ref h_this), (3, .int x3), (4, .int x4), (5, .int x5), (10, .int x10)] [] 230 := by
  intro n
  induction n with
  | zero => intro this_upper this_lower this_guest this_home this_next this_skill this_told this_ways x3 x4 x5 x10 hT; cases hT
  | succ n ih =>
    intro this_upper this_lower this_guest this_home this_next this_skill this_told this_ways x3 x4 x5 x10 hT
    exact b_X11_layLikely_230_b X cI cJ cZ h_this q_this this_matches this_stakes this_meetings this_newsFirst this_newsHour this_acts this_stories this_signs this_ruleMany this_greatAt this_sides z0 z1 z2 z3  (t_X11_layLikely_230   n) ih this_upper this_lower this_guest this_home this_next this_skill this_told this_ways x3 x4 x5 x10 hT
set_option maxHeartbeats 4000000 in
set_option maxRecDepth 100000 in
theorem b_X11_layLikely_222 {p : Program} {l : Launch} {e : Env} {s : State} {m : MethodId} {args : Array Value} {below : List Frame} {meth : Method} {c : Code} {D : va_G} {A : Nat → Prop} {cI cJ cZ : ClassId} (X : Cx p m c cX11_layLikely 13 s args wsX11_layLikely RX11 D (tys3 cI cJ cZ) meth none) (_ _ _ : ClassId)  (h_this : Nat) (q_this : Nat → Nat) (this_matches : Int32) (this_stakes : Int32) (this_meetings : Int32) (this_newsFirst : Int32) (this_newsHour : Int32) (this_acts : Int32) (this_stories : Int32) (this_signs : Int32) (this_ruleMany : Int32) (this_greatAt : Int32) (this_sides : Int32) (z0 : Int64) (z1 : Int64) (z2 : Nat → Int64) (z3 : Nat → Int64)  (this_upper : Int64) (this_lower : Int64) (this_guest : Nat → Int32) (this_home : Nat → Int32) (this_next : Nat → Int64) (this_skill : Nat → Int32) (this_told : Nat → Int32) (this_ways : Nat → Int64) (x3 : Int32) (x4 : Int32) (x5 : Int32) (hT : t_X11_layLikely_222   this_upper this_lower this_guest this_home this_next this_skill this_told this_ways x3 x4 x5 = some (z0, z1, z2, z3)) : J p l e rmX11_layLikely s m args below meth c D A 13 (QV D below args s A (w_X11_layLikely cI cJ cZ h_this q_this this_matches this_stakes this_meetings this_newsFirst this_newsHour this_acts this_stories this_signs this_ruleMany z0 z1 this_greatAt this_sides this_guest this_home z2 this_skill this_told z3)) 0 0 (w_X11_layLikely cI cJ cZ h_this q_this this_matches this_stakes this_meetings this_newsFirst this_newsHour this_acts this_stories this_signs this_ruleMany this_upper this_lower this_greatAt this_sides this_guest this_home this_next this_skill this_told this_ways) [(0, .ref h_this), (3, .int x3), (4, .int x4), (5, .int x5)] [] 222 := by
  unfold t_X11_layLikely_222 at hT
  refine J_aload_n X dX11_layLikely_222 0 rfl ?_
  refine J_lconst (v := 0) X dX11_layLikely_223 (by decide) ?_
  refine J_put (host := "") (C := RX11) (T := TX11) (N := 54) (ci := 11) (ws' := (w_X11_layLikely cI cJ cZ h_this q_this this_matches this_stakes this_meetings this_newsFirst this_newsHour this_acts this_stories this_signs this_ruleMany (0 : Int64) this_lower this_greatAt this_sides this_guest this_home this_next this_skill this_told this_ways)) X in_X11_layLikely_X11 0 rfl rfl 41 (by decide) tyX11 tyX11_ok nmX11 m_X11_layLikely_f174 rfl rfl rfl (Nat.le_of_ble_eq_true rfl) rfl dX11_layLikely_224 ?_
  refine J_iconst (v := 0) X dX11_layLikely_227 (by decide) ?_
  refine J_istore (lv' := [(10, .int (0 : Int32)), (0, .ref h_this), (3, .int x3), (4, .int x4), (5, .int x5)]) X dX11_layLikely_228 (by decide) rfl ?_
  refine J_lv (lv' := [(0, .ref h_this), (3, .int x3), (4, .int x4), (5, .int x5), (10, .int (0 : Int32))]) [1, 2, 3, 4, 0] rfl ?_
  exact b_X11_layLikely_230 X cI cJ cZ h_this q_this this_matches this_stakes this_meetings this_newsFirst this_newsHour this_acts this_stories this_signs this_ruleMany this_greatAt this_sides z0 z1 z2 z3  lfuel (0 : Int64) this_lower this_guest this_home this_next this_skill this_told this_ways x3 x4 x5 (0 : Int32) hT
set_option maxHeartbeats 4000000 in
set_option maxRecDepth 100000 in
theorem b_X11_layLikely_204 {p : Program} {l : Launch} {e : Env} {s : State} {m : MethodId} {args : Array Value} {below : List Frame} {meth : Method} {c : Code} {D : va_G} {A : Nat → Prop} {cI cJ cZ : ClassId} (X : Cx p m c cX11_layLikely 13 s args wsX11_layLikely RX11 D (tys3 cI cJ cZ) meth none) (_ _ _ : ClassId)  (h_this : Nat) (q_this : Nat → Nat) (this_matches : Int32) (this_stakes : Int32) (this_meetings : Int32) (this_newsFirst : Int32) (this_newsHour : Int32) (this_acts : Int32) (this_stories : Int32) (this_signs : Int32) (this_ruleMany : Int32) (this_greatAt : Int32) (this_sides : Int32) (z0 : Int64) (z1 : Int64) (z2 : Nat → Int64) (z3 : Nat → Int64) (k_81 : Int64 → Int64 → (Nat → Int32) → (Nat → Int32) → (Nat → Int64) → (Nat → Int32) → (Nat → Int32) → (Nat → Int64) → Int32 → Int32 → Int32 → Int64 → Int64 → Int32 → (Option (Int64 × Int64 × (Nat → Int64) × (Nat → Int64)))) (hk_81 : ∀ (this_upper : Int64) (this_lower : Int64) (this_guest : Nat → Int32) (this_home : Nat → Int32) (this_next : Nat → Int64) (this_skill : Nat → Int32) (this_told : Nat → Int32) (this_ways : Nat → Int64) (x3 : Int32) (x4 : Int32) (x5 : Int32) (x6 : Int64) (x8 : Int64) (x10 : Int32), k_81 this_upper this_lower this_guest this_home this_next this_skill this_told this_ways x3 x4 x5 x6 x8 x10 = some (z0, z1, z2, z3) → J p l e rmX11_layLikely s m args below meth c D A 13 (QV D below args s A (w_X11_layLikely cI cJ cZ h_this q_this this_matches this_stakes this_meetings this_newsFirst this_newsHour this_acts this_stories this_signs this_ruleMany z0 z1 this_greatAt this_sides this_guest this_home z2 this_skill this_told z3)) 0 0 (w_X11_layLikely cI cJ cZ h_this q_this this_matches this_stakes this_meetings this_newsFirst this_newsHour this_acts this_stories this_signs this_ruleMany this_upper this_lower this_greatAt this_sides this_guest this_home this_next this_skill this_told this_ways) [(0, .ref h_this), (3, .int x3), (4, .int x4), (5, .int x5), (6, .long x6), (8, .long x8), (10, .int x10)] [] 81) (this_upper : Int64) (this_lower : Int64) (this_guest : Nat → Int32) (this_home : Nat → Int32) (this_next : Nat → Int64) (this_skill : Nat → Int32) (this_told : Nat → Int32) (this_ways : Nat → Int64) (x3 : Int32) (x4 : Int32) (x5 : Int32) (x6 : Int64) (x8 : Int64) (x10 : Int32) (hT : t_X11_layLikely_204  k_81 this_upper this_lower this_guest this_home this_next this_skill this_told this_ways x3 x4 x5 x6 x8 x10 = some (z0, z1, z2, z3)) : J p l e rmX11_layLikely s m args below meth c D A 13 (QV D below args s A (w_X11_layLikely cI cJ cZ h_this q_this this_matches this_stakes this_meetings this_newsFirst this_newsHour this_acts this_stories this_signs this_ruleMany z0 z1 this_greatAt this_sides this_guest this_home z2 this_skill this_told z3)) 0 0 (w_X11_layLikely cI cJ cZ h_this q_this this_matches this_stakes this_meetings this_newsFirst this_newsHour this_acts this_stories this_signs this_ruleMany this_upper this_lower this_greatAt this_sides this_guest this_home this_next this_skill this_told this_ways) [(0, .ref h_this), (3, .int x3), (4, .int x4), (5, .int x5), (6, .long x6), (8, .long x8), (10, .int x10)] [] 204 := by
  unfold t_X11_layLikely_204 at hT
  refine J_aload_n X dX11_layLikely_204 0 rfl ?_
  refine J_dup X dX11_layLikely_205 rfl ?_
  refine J_get (C := RX11) (T := TX11) (N := 54) (ci := 11) (v := .long this_lower) X in_X11_layLikely_X11 0 rfl rfl 42 (by decide) m_X11_layLikely_f168 rfl dX11_layLikely_206 ?_
  refine J_ldc2 X dX11_layLikely_209 m_X11_layLikely_c172 ?_
  refine J_lmul X dX11_layLikely_212 ?_
  refine J_put (host := "") (C := RX11) (T := TX11) (N := 54) (ci := 11) (ws' := (w_X11_layLikely cI cJ cZ h_this q_this this_matches this_stakes this_meetings this_newsFirst this_newsHour this_acts this_stories this_signs this_ruleMany this_upper (this_lower * (100 : Int64)) this_greatAt this_sides this_guest this_home this_next this_skill this_told this_ways)) X in_X11_layLikely_X11 0 rfl rfl 42 (by decide) tyX11 tyX11_ok nmX11 m_X11_layLikely_f168 rfl rfl rfl (Nat.le_of_ble_eq_true rfl) rfl dX11_layLikely_213 ?_
  refine J_iinc (lv' := [(10, .int (x10 + (1 : Int32))), (0, .ref h_this), (3, .int x3), (4, .int x4), (5, .int x5), (6, .long x6), (8, .long x8)]) (j := 6) X dX11_layLikely_216 rfl rfl (by decide) rfl ?_
  refine J_goto (tgt := 81) X dX11_layLikely_219 (by decide) ?_
  refine J_lv (lv' := [(0, .ref h_this), (3, .int x3), (4, .int x4), (5, .int x5), (6, .long x6), (8, .long x8), (10, .int (x10 + (1 : Int32)))]) [1, 2, 3, 4, 5, 6, 0] rfl ?_
  exact hk_81 this_upper (this_lower * (100 : Int64)) this_guest this_home this_next this_skill this_told this_ways x3 x4 x5 x6 x8 (x10 + (1 : Int32)) hT
set_option maxHeartbeats 4000000 in
set_option maxRecDepth 100000 in
theorem b_X11_layLikely_177_b {p : Program} {l : Launch} {e : Env} {s : State} {m : MethodId} {args : Array Value} {below : List Frame} {meth : Method} {c : Code} {D : va_G} {A : Nat → Prop} {cI cJ cZ : ClassId} (X : Cx p m c cX11_layLikely 13 s args wsX11_layLikely RX11 D (tys3 cI cJ cZ) meth none) (_ _ _ : ClassId)  (h_this : Nat) (q_this : Nat → Nat) (this_matches : Int32) (this_stakes : Int32) (this_meetings : Int32) (this_newsFirst : Int32) (this_newsHour : Int32) (this_acts : Int32) (this_stories : Int32) (this_signs : Int32) (this_ruleMany : Int32) (this_greatAt : Int32) (this_sides : Int32) (z0 : Int64) (z1 : Int64) (z2 : Nat → Int64) (z3 : Nat → Int64) (k_81 : Int64 → Int64 → (Nat → Int32) → (Nat → Int32) → (Nat → Int64) → (Nat → Int32) → (Nat → Int32) → (Nat → Int64) → Int32 → Int32 → Int32 → Int64 → Int64 → Int32 → (Option (Int64 × Int64 × (Nat → Int64) × (Nat → Int64)))) (hk_81 : ∀ (this_upper : Int64) (this_lower : Int64) (this_guest : Nat → Int32) (this_home : Nat → Int32) (this_next : Nat → Int64) (this_skill : Nat → Int32) (this_told : Nat → Int32) (this_ways : Nat → Int64) (x3 : Int32) (x4 : Int32) (x5 : Int32) (x6 : Int64) (x8 : Int64) (x10 : Int32), k_81 this_upper this_lower this_guest this_home this_next this_skill this_told this_ways x3 x4 x5 x6 x8 x10 = some (z0, z1, z2, z3) → J p l e rmX11_layLikely s m args below meth c D A 13 (QV D below args s A (w_X11_layLikely cI cJ cZ h_this q_this this_matches this_stakes this_meetings this_newsFirst this_newsHour this_acts this_stories this_signs this_ruleMany z0 z1 this_greatAt this_sides this_guest this_home z2 this_skill this_told z3)) 0 0 (w_X11_layLikely cI cJ cZ h_this q_this this_matches this_stakes this_meetings this_newsFirst this_newsHour this_acts this_stories this_signs this_ruleMany this_upper this_lower this_greatAt this_sides this_guest this_home this_next this_skill this_told this_ways) [(0, .ref h_this), (3, .int x3), (4, .int x4), (5, .int x5), (6, .long x6), (8, .long x8), (10, .int x10)] [] 81) (k_177 : Int64 → Int64 → (Nat → Int32) → (Nat → Int32) → (Nat → Int64) → (Nat → Int32) → (Nat → Int32) → (Nat → Int64) → Int32 → Int32 → Int32 → Int64 → Int64 → Int32 → Int32 → (Option (Int64 × Int64 × (Nat → Int64) × (Nat → Int64)))) (hk_177 : ∀ (this_upper : Int64) (this_lower : Int64) (this_guest : Nat → Int32) (this_home : Nat → Int32) (this_next : Nat → Int64) (this_skill : Nat → Int32) (this_told : Nat → Int32) (this_ways : Nat → Int64) (x3 : Int32) (x4 : Int32) (x5 : Int32) (x6 : Int64) (x8 : Int64) (x10 : Int32) (x11 : Int32), k_177 this_upper this_lower this_guest this_home this_next this_skill this_told this_ways x3 x4 x5 x6 x8 x10 x11 = some (z0, z1, z2, z3) → J p l e rmX11_layLikely s m args below meth c D A 13 (QV D below args s A (w_X11_layLikely cI cJ cZ h_this q_this this_matches this_stakes this_meetings this_newsFirst this_newsHour this_acts this_stories this_signs this_ruleMany z0 z1 this_greatAt this_sides this_guest this_home z2 this_skill this_told z3)) 0 0 (w_X11_layLikely cI cJ cZ h_this q_this this_matches this_stakes this_meetings this_newsFirst this_newsHour this_acts this_stories this_signs this_ruleMany this_upper this_lower this_greatAt this_sides this_guest this_home this_next this_skill this_told this_ways) [(0, .ref h_this), (3, .int x3), (4, .int x4), (5, .int x5), (6, .long x6), (8, .long x8), (10, .int x10), (11, .int x11)] [] 177) (this_upper : Int64) (this_lower : Int64) (this_guest : Nat → Int32) (this_home : Nat → Int32) (this_next : Nat → Int64) (this_skill : Nat → Int32) (this_told : Nat → Int32) (this_ways : Nat → Int64) (x3 : Int32) (x4 : Int32) (x5 : Int32) (x6 : Int64) (x8 : Int64) (x10 : Int32) (x11 : Int32) (hT : t_X11_layLikely_177_b  k_81 k_177 this_upper this_lower this_guest this_home this_next this_skill this_told this_ways x3 x4 x5 x6 x8 x10 x11 = some (z0, z1, z2, z3)) : J p l e rmX11_layLikely s m args below meth c D A 13 (QV D below args s A (w_X11_layLikely cI cJ cZ h_this q_this this_matches this_stakes this_meetings this_newsFirst this_newsHour this_acts this_stories this_signs this_ruleMany z0 z1 this_greatAt this_sides this_guest this_home z2 this_skill this_told z3)) 0 0 (w_X11_layLikely cI cJ cZ h_this q_this this_matches this_stakes this_meetings this_newsFirst this_newsHour this_acts this_stories this_signs this_ruleMany this_upper this_lower this_greatAt this_sides this_guest this_home this_next this_skill this_told this_ways) [(0, .ref h_this), (3, .int x3), (4, .int x4), (5, .int x5), (6, .long x6), (8, .long x8), (10, .int x10), (11, .int x11)] [] 177 := by
  unfold t_X11_layLikely_177_b at hT
  refine J_iload X dX11_layLikely_177 7 rfl ?_
  refine J_bipush (v := 13) X dX11_layLikely_179 (by decide) ?_
  refine J_icmp_ge (tgt := 204) X dX11_layLikely_181 (by decide) (fun hc9 => ?_) (fun hc9 => ?_)
  · have hT := ift hT hc9
    refine J_lv (lv' := [(0, .ref h_this), (3, .int x3), (4, .int x4), (5, .int x5), (6, .long x6), (8, .long x8), (10, .int x10)]) [0, 1, 2, 3, 4, 5, 6] rfl ?_
    exact b_X11_layLikely_204 X cI cJ cZ h_this q_this this_matches this_stakes this_meetings this_newsFirst this_newsHour this_acts this_stories this_signs this_ruleMany this_greatAt this_sides z0 z1 z2 z3 k_81 hk_81 this_upper this_lower this_guest this_home this_next this_skill this_told this_ways x3 x4 x5 x6 x8 x10 hT
  · have hT := iff_ hT hc9
    refine J_aload_n X dX11_layLikely_184 0 rfl ?_
    refine J_get (C := RX11) (T := TX11) (N := 54) (ci := 11) (v := .ref (q_this 39)) X in_X11_layLikely_X11 0 rfl rfl 39 (by decide) m_X11_layLikely_f104 rfl dX11_layLikely_185 ?_
    refine J_iload X dX11_layLikely_188 7 rfl ?_
    refine J_aload_n X dX11_layLikely_190 0 rfl ?_
    refine J_get (C := RX11) (T := TX11) (N := 54) (ci := 11) (v := .ref (q_this 40)) X in_X11_layLikely_X11 0 rfl rfl 40 (by decide) m_X11_layLikely_f108 rfl dX11_layLikely_191 ?_
    refine J_iload X dX11_layLikely_194 7 rfl ?_
    obtain ⟨hk10, hT⟩ := ckn_e hT
    refine J_lald X 3 rfl rfl hk10 dX11_layLikely_196 ?_
    obtain ⟨hk11, hT⟩ := ckn_e hT
    refine J_last (ws' := (w_X11_layLikely cI cJ cZ h_this q_this this_matches this_stakes this_meetings this_newsFirst this_newsHour this_acts this_stories this_signs this_ruleMany this_upper this_lower this_greatAt this_sides this_guest this_home this_next this_skill this_told (vp_updL this_ways x11.toNatClampNeg (this_next x11.toNatClampNeg)))) X 6 rfl rfl hk11 rfl dX11_layLikely_197 ?_
    refine J_iinc (lv' := [(11, .int (x11 + (1 : Int32))), (0, .ref h_this), (3, .int x3), (4, .int x4), (5, .int x5), (6, .long x6), (8, .long x8), (10, .int x10)]) (j := 7) X dX11_layLikely_198 rfl rfl (by decide) rfl ?_
    refine J_goto (tgt := 177) X dX11_layLikely_201 (by decide) ?_
    refine J_lv (lv' := [(0, .ref h_this), (3, .int x3), (4, .int x4), (5, .int x5), (6, .long x6), (8, .long x8), (10, .int x10), (11, .int (x11 + (1 : Int32)))]) [1, 2, 3, 4, 5, 6, 7, 0] rfl ?_
    exact hk_177 this_upper this_lower this_guest this_home this_next this_skill this_told (vp_updL this_ways x11.toNatClampNeg (this_next x11.toNatClampNeg)) x3 x4 x5 x6 x8 x10 (x11 + (1 : Int32)) hT
set_option maxHeartbeats 4000000 in
set_option maxRecDepth 100000 in
theorem b_X11_layLikely_177 {p : Program} {l : Launch} {e : Env} {s : State} {m : MethodId} {args : Array Value} {below : List Frame} {meth : Method} {c : Code} {D : va_G} {A : Nat → Prop} {cI cJ cZ : ClassId} (X : Cx p m c cX11_layLikely 13 s args wsX11_layLikely RX11 D (tys3 cI cJ cZ) meth none) (_ _ _ : ClassId)  (h_this : Nat) (q_this : Nat → Nat) (this_matches : Int32) (this_stakes : Int32) (this_meetings : Int32) (this_newsFirst : Int32) (this_newsHour : Int32) (this_acts : Int32) (this_stories : Int32) (this_signs : Int32) (this_ruleMany : Int32) (this_greatAt : Int32) (this_sides : Int32) (z0 : Int64) (z1 : Int64) (z2 : Nat → Int64) (z3 : Nat → Int64) (k_81 : Int64 → Int64 → (Nat → Int32) → (Nat → Int32) → (Nat → Int64) → (Nat → Int32) → (Nat → Int32) → (Nat → Int64) → Int32 → Int32 → Int32 → Int64 → Int64 → Int32 → (Option (Int64 × Int64 × (Nat → Int64) × (Nat → Int64)))) (hk_81 : ∀ (this_upper : Int64) (this_lower : Int64) (this_guest : Nat → Int32) (this_home : Nat → Int32) (this_next : Nat → Int64) (this_skill : Nat → Int32) (this_told : Nat → Int32) (this_ways : Nat → Int64) (x3 : Int32) (x4 : Int32) (x5 : Int32) (x6 : Int64) (x8 : Int64) (x10 : Int32), k_81 this_upper this_lower this_guest this_home this_next this_skill this_told this_ways x3 x4 x5 x6 x8 x10 = some (z0, z1, z2, z3) → J p l e rmX11_layLikely s m args below meth c D A 13 (QV D below args s A (w_X11_layLikely cI cJ cZ h_this q_this this_matches this_stakes this_meetings this_newsFirst this_newsHour this_acts this_stories this_signs this_ruleMany z0 z1 this_greatAt this_sides this_guest this_home z2 this_skill this_told z3)) 0 0 (w_X11_layLikely cI cJ cZ h_this q_this this_matches this_stakes this_meetings this_newsFirst this_newsHour this_acts this_stories this_signs this_ruleMany this_upper this_lower this_greatAt this_sides this_guest this_home this_next this_skill this_told this_ways) [(0, .ref h_this), (3, .int x3), (4, .int x4), (5, .int x5), (6, .long x6), (8, .long x8), (10, .int x10)] [] 81) : ∀ (n : Nat) (this_upper : Int64) (this_lower : Int64) (this_guest : Nat → Int32) (this_home : Nat → Int32) (this_next : Nat → Int64) (this_skill : Nat → Int32) (this_told : Nat → Int32) (this_ways : Nat → Int64) (x3 : Int32) (x4 : Int32) (x5 : Int32) (x6 : Int64) (x8 : Int64) (x10 : Int32) (x11 : Int32) (hT : t_X11_layLikely_177  k_81 n this_upper this_lower this_guest this_home this_next this_skill this_told this_ways x3 x4 x5 x6 x8 x10 x11 = some (z0, z1, z2, z3)), J p l e rmX11_layLikely s m args below meth c D A 13 (QV D below args s A (w_X11_layLikely cI cJ cZ h_this q_this this_matches this_stakes this_meetings this_newsFirst this_newsHour this_acts this_stories this_signs this_ruleMany z0 z1 this_greatAt this_sides this_guest this_home z2 this_skill this_told z3)) 0 0 (w_X11_layLikely cI cJ cZ h_this q_this this_matches this_stakes this_meetings this_newsFirst this_newsHour this_acts this_stories this_signs this_ruleMany this_upper this_lower this_greatAt this_sides this_guest this_home this_next this_skill this_told this_ways) [(0, .ref h_this), (3, .int x3), (4, .int x4), (5, .int x5), (6, .long x6), (8, .long x8), (10, .int x10), (11, .int x11)] [] 177 := by
  intro n
  induction n with
  | zero => intro this_upper this_lower this_guest this_home this_next this_skill this_told this_ways x3 x4 x5 x6 x8 x10 x11 hT; cases hT
  | succ n ih =>
    intro this_upper this_lower this_guest this_home this_next this_skill this_told this_ways x3 x4 x5 x6 x8 x10 x11 hT
    exact b_X11_layLikely_177_b X cI cJ cZ h_this q_this this_matches this_stakes this_meetings this_newsFirst this_newsHour this_acts this_stories this_signs this_ruleMany this_greatAt this_sides z0 z1 z2 z3 k_81 hk_81 (t_X11_layLikely_177  k_81 n) ih this_upper this_lower this_guest this_home this_next this_skill this_told this_ways x3 x4 x5 x6 x8 x10 x11 hT
set_option maxHeartbeats 4000000 in
set_option maxRecDepth 100000 in
theorem b_X11_layLikely_174 {p : Program} {l : Launch} {e : Env} {s : State} {m : MethodId} {args : Array Value} {below : List Frame} {meth : Method} {c : Code} {D : va_G} {A : Nat → Prop} {cI cJ cZ : ClassId} (X : Cx p m c cX11_layLikely 13 s args wsX11_layLikely RX11 D (tys3 cI cJ cZ) meth none) (_ _ _ : ClassId)  (h_this : Nat) (q_this : Nat → Nat) (this_matches : Int32) (this_stakes : Int32) (this_meetings : Int32) (this_newsFirst : Int32) (this_newsHour : Int32) (this_acts : Int32) (this_stories : Int32) (this_signs : Int32) (this_ruleMany : Int32) (this_greatAt : Int32) (this_sides : Int32) (z0 : Int64) (z1 : Int64) (z2 : Nat → Int64) (z3 : Nat → Int64) (k_81 : Int64 → Int64 → (Nat → Int32) → (Nat → Int32) → (Nat → Int64) → (Nat → Int32) → (Nat → Int32) → (Nat → Int64) → Int32 → Int32 → Int32 → Int64 → Int64 → Int32 → (Option (Int64 × Int64 × (Nat → Int64) × (Nat → Int64)))) (hk_81 : ∀ (this_upper : Int64) (this_lower : Int64) (this_guest : Nat → Int32) (this_home : Nat → Int32) (this_next : Nat → Int64) (this_skill : Nat → Int32) (this_told : Nat → Int32) (this_ways : Nat → Int64) (x3 : Int32) (x4 : Int32) (x5 : Int32) (x6 : Int64) (x8 : Int64) (x10 : Int32), k_81 this_upper this_lower this_guest this_home this_next this_skill this_told this_ways x3 x4 x5 x6 x8 x10 = some (z0, z1, z2, z3) → J p l e rmX11_layLikely s m args below meth c D A 13 (QV D below args s A (w_X11_layLikely cI cJ cZ h_this q_this this_matches this_stakes this_meetings this_newsFirst this_newsHour this_acts this_stories this_signs this_ruleMany z0 z1 this_greatAt this_sides this_guest this_home z2 this_skill this_told z3)) 0 0 (w_X11_layLikely cI cJ cZ h_this q_this this_matches this_stakes this_meetings this_newsFirst this_newsHour this_acts this_stories this_signs this_ruleMany this_upper this_lower this_greatAt this_sides this_guest this_home this_next this_skill this_told this_ways) [(0, .ref h_this), (3, .int x3), (4, .int x4), (5, .int x5), (6, .long x6), (8, .long x8), (10, .int x10)] [] 81) (this_upper : Int64) (this_lower : Int64) (this_guest : Nat → Int32) (this_home : Nat → Int32) (this_next : Nat → Int64) (this_skill : Nat → Int32) (this_told : Nat → Int32) (this_ways : Nat → Int64) (x3 : Int32) (x4 : Int32) (x5 : Int32) (x6 : Int64) (x8 : Int64) (x10 : Int32) (hT : t_X11_layLikely_174  k_81 this_upper this_lower this_guest this_home this_next this_skill this_told this_ways x3 x4 x5 x6 x8 x10 = some (z0, z1, z2, z3)) : J p l e rmX11_layLikely s m args below meth c D A 13 (QV D below args s A (w_X11_layLikely cI cJ cZ h_this q_this this_matches this_stakes this_meetings this_newsFirst this_newsHour this_acts this_stories this_signs this_ruleMany z0 z1 this_greatAt this_sides this_guest this_home z2 this_skill this_told z3)) 0 0 (w_X11_layLikely cI cJ cZ h_this q_this this_matches this_stakes this_meetings this_newsFirst this_newsHour this_acts this_stories this_signs this_ruleMany this_upper this_lower this_greatAt this_sides this_guest this_home this_next this_skill this_told this_ways) [(0, .ref h_this), (3, .int x3), (4, .int x4), (5, .int x5), (6, .long x6), (8, .long x8), (10, .int x10)] [] 174 := by
  unfold t_X11_layLikely_174 at hT
  refine J_iconst (v := 0) X dX11_layLikely_174 (by decide) ?_
  refine J_istore (lv' := [(11, .int (0 : Int32)), (0, .ref h_this), (3, .int x3), (4, .int x4), (5, .int x5), (6, .long x6), (8, .long x8), (10, .int x10)]) X dX11_layLikely_175 (by decide) rfl ?_
  refine J_lv (lv' := [(0, .ref h_this), (3, .int x3), (4, .int x4), (5, .int x5), (6, .long x6), (8, .long x8), (10, .int x10), (11, .int (0 : Int32))]) [1, 2, 3, 4, 5, 6, 7, 0] rfl ?_
  exact b_X11_layLikely_177 X cI cJ cZ h_this q_this this_matches this_stakes this_meetings this_newsFirst this_newsHour this_acts this_stories this_signs this_ruleMany this_greatAt this_sides z0 z1 z2 z3 k_81 hk_81 lfuel this_upper this_lower this_guest this_home this_next this_skill this_told this_ways x3 x4 x5 x6 x8 x10 (0 : Int32) hT
set_option maxHeartbeats 4000000 in
set_option maxRecDepth 100000 in
theorem b_X11_layLikely_166 {p : Program} {l : Launch} {e : Env} {s : State} {m : MethodId} {args : Array Value} {below : List Frame} {meth : Method} {c : Code} {D : va_G} {A : Nat → Prop} {cI cJ cZ : ClassId} (X : Cx p m c cX11_layLikely 13 s args wsX11_layLikely RX11 D (tys3 cI cJ cZ) meth none) (_ _ _ : ClassId)  (h_this : Nat) (q_this : Nat → Nat) (this_matches : Int32) (this_stakes : Int32) (this_meetings : Int32) (this_newsFirst : Int32) (this_newsHour : Int32) (this_acts : Int32) (this_stories : Int32) (this_signs : Int32) (this_ruleMany : Int32) (this_greatAt : Int32) (this_sides : Int32) (z0 : Int64) (z1 : Int64) (z2 : Nat → Int64) (z3 : Nat → Int64) (k_81 : Int64 → Int64 → (Nat → Int32) → (Nat → Int32) → (Nat → Int64) → (Nat → Int32) → (Nat → Int32) → (Nat → Int64) → Int32 → Int32 → Int32 → Int64 → Int64 → Int32 → (Option (Int64 × Int64 × (Nat → Int64) × (Nat → Int64)))) (hk_81 : ∀ (this_upper : Int64) (this_lower : Int64) (this_guest : Nat → Int32) (this_home : Nat → Int32) (this_next : Nat → Int64) (this_skill : Nat → Int32) (this_told : Nat → Int32) (this_ways : Nat → Int64) (x3 : Int32) (x4 : Int32) (x5 : Int32) (x6 : Int64) (x8 : Int64) (x10 : Int32), k_81 this_upper this_lower this_guest this_home this_next this_skill this_told this_ways x3 x4 x5 x6 x8 x10 = some (z0, z1, z2, z3) → J p l e rmX11_layLikely s m args below meth c D A 13 (QV D below args s A (w_X11_layLikely cI cJ cZ h_this q_this this_matches this_stakes this_meetings this_newsFirst this_newsHour this_acts this_stories this_signs this_ruleMany z0 z1 this_greatAt this_sides this_guest this_home z2 this_skill this_told z3)) 0 0 (w_X11_layLikely cI cJ cZ h_this q_this this_matches this_stakes this_meetings this_newsFirst this_newsHour this_acts this_stories this_signs this_ruleMany this_upper this_lower this_greatAt this_sides this_guest this_home this_next this_skill this_told this_ways) [(0, .ref h_this), (3, .int x3), (4, .int x4), (5, .int x5), (6, .long x6), (8, .long x8), (10, .int x10)] [] 81) (k_91 : Int64 → Int64 → (Nat → Int32) → (Nat → Int32) → (Nat → Int64) → (Nat → Int32) → (Nat → Int32) → (Nat → Int64) → Int32 → Int32 → Int32 → Int64 → Int64 → Int32 → Int32 → (Option (Int64 × Int64 × (Nat → Int64) × (Nat → Int64)))) (hk_91 : ∀ (this_upper : Int64) (this_lower : Int64) (this_guest : Nat → Int32) (this_home : Nat → Int32) (this_next : Nat → Int64) (this_skill : Nat → Int32) (this_told : Nat → Int32) (this_ways : Nat → Int64) (x3 : Int32) (x4 : Int32) (x5 : Int32) (x6 : Int64) (x8 : Int64) (x10 : Int32) (x11 : Int32), k_91 this_upper this_lower this_guest this_home this_next this_skill this_told this_ways x3 x4 x5 x6 x8 x10 x11 = some (z0, z1, z2, z3) → J p l e rmX11_layLikely s m args below meth c D A 13 (QV D below args s A (w_X11_layLikely cI cJ cZ h_this q_this this_matches this_stakes this_meetings this_newsFirst this_newsHour this_acts this_stories this_signs this_ruleMany z0 z1 this_greatAt this_sides this_guest this_home z2 this_skill this_told z3)) 0 0 (w_X11_layLikely cI cJ cZ h_this q_this this_matches this_stakes this_meetings this_newsFirst this_newsHour this_acts this_stories this_signs this_ruleMany this_upper this_lower this_greatAt this_sides this_guest this_home this_next this_skill this_told this_ways) [(0, .ref h_this), (3, .int x3), (4, .int x4), (5, .int x5), (6, .long x6), (8, .long x8), (10, .int x10), (11, .int x11)] [] 91) (this_upper : Int64) (this_lower : Int64) (this_guest : Nat → Int32) (this_home : Nat → Int32) (this_next : Nat → Int64) (this_skill : Nat → Int32) (this_told : Nat → Int32) (this_ways : Nat → Int64) (x3 : Int32) (x4 : Int32) (x5 : Int32) (x6 : Int64) (x8 : Int64) (x10 : Int32) (x11 : Int32) (s0 : Int64) (s1 : Int64) (s2 : Int32) (hT : t_X11_layLikely_166  k_81 k_91 this_upper this_lower this_guest this_home this_next this_skill this_told this_ways x3 x4 x5 x6 x8 x10 x11 s0 s1 s2 = some (z0, z1, z2, z3)) : J p l e rmX11_layLikely s m args below meth c D A 13 (QV D below args s A (w_X11_layLikely cI cJ cZ h_this q_this this_matches this_stakes this_meetings this_newsFirst this_newsHour this_acts this_stories this_signs this_ruleMany z0 z1 this_greatAt this_sides this_guest this_home z2 this_skill this_told z3)) 0 0 (w_X11_layLikely cI cJ cZ h_this q_this this_matches this_stakes this_meetings this_newsFirst this_newsHour this_acts this_stories this_signs this_ruleMany this_upper this_lower this_greatAt this_sides this_guest this_home this_next this_skill this_told this_ways) [(0, .ref h_this), (3, .int x3), (4, .int x4), (5, .int x5), (6, .long x6), (8, .long x8), (10, .int x10), (11, .int x11)] [.long s0, .long s1, .int s2, .ref (q_this 40)] 166 := by
  unfold t_X11_layLikely_166 at hT
  refine J_ladd X dX11_layLikely_166 ?_
  obtain ⟨hk12, hT⟩ := ckn_e hT
  refine J_last (ws' := (w_X11_layLikely cI cJ cZ h_this q_this this_matches this_stakes this_meetings this_newsFirst this_newsHour this_acts this_stories this_signs this_ruleMany this_upper this_lower this_greatAt this_sides this_guest this_home (vp_updL this_next s2.toNatClampNeg (s1 + s0)) this_skill this_told this_ways)) X 3 rfl rfl hk12 rfl dX11_layLikely_167 ?_
  refine J_iinc (lv' := [(11, .int (x11 + (1 : Int32))), (0, .ref h_this), (3, .int x3), (4, .int x4), (5, .int x5), (6, .long x6), (8, .long x8), (10, .int x10)]) (j := 7) X dX11_layLikely_168 rfl rfl (by decide) rfl ?_
  refine J_goto (tgt := 91) X dX11_layLikely_171 (by decide) ?_
  refine J_lv (lv' := [(0, .ref h_this), (3, .int x3), (4, .int x4), (5, .int x5), (6, .long x6), (8, .long x8), (10, .int x10), (11, .int (x11 + (1 : Int32)))]) [1, 2, 3, 4, 5, 6, 7, 0] rfl ?_
  exact hk_91 this_upper this_lower this_guest this_home (vp_updL this_next s2.toNatClampNeg (s1 + s0)) this_skill this_told this_ways x3 x4 x5 x6 x8 x10 (x11 + (1 : Int32)) hT
set_option maxHeartbeats 4000000 in
set_option maxRecDepth 100000 in
theorem b_X11_layLikely_142 {p : Program} {l : Launch} {e : Env} {s : State} {m : MethodId} {args : Array Value} {below : List Frame} {meth : Method} {c : Code} {D : va_G} {A : Nat → Prop} {cI cJ cZ : ClassId} (X : Cx p m c cX11_layLikely 13 s args wsX11_layLikely RX11 D (tys3 cI cJ cZ) meth none) (_ _ _ : ClassId)  (h_this : Nat) (q_this : Nat → Nat) (this_matches : Int32) (this_stakes : Int32) (this_meetings : Int32) (this_newsFirst : Int32) (this_newsHour : Int32) (this_acts : Int32) (this_stories : Int32) (this_signs : Int32) (this_ruleMany : Int32) (this_greatAt : Int32) (this_sides : Int32) (z0 : Int64) (z1 : Int64) (z2 : Nat → Int64) (z3 : Nat → Int64) (k_81 : Int64 → Int64 → (Nat → Int32) → (Nat → Int32) → (Nat → Int64) → (Nat → Int32) → (Nat → Int32) → (Nat → Int64) → Int32 → Int32 → Int32 → Int64 → Int64 → Int32 → (Option (Int64 × Int64 × (Nat → Int64) × (Nat → Int64)))) (hk_81 : ∀ (this_upper : Int64) (this_lower : Int64) (this_guest : Nat → Int32) (this_home : Nat → Int32) (this_next : Nat → Int64) (this_skill : Nat → Int32) (this_told : Nat → Int32) (this_ways : Nat → Int64) (x3 : Int32) (x4 : Int32) (x5 : Int32) (x6 : Int64) (x8 : Int64) (x10 : Int32), k_81 this_upper this_lower this_guest this_home this_next this_skill this_told this_ways x3 x4 x5 x6 x8 x10 = some (z0, z1, z2, z3) → J p l e rmX11_layLikely s m args below meth c D A 13 (QV D below args s A (w_X11_layLikely cI cJ cZ h_this q_this this_matches this_stakes this_meetings this_newsFirst this_newsHour this_acts this_stories this_signs this_ruleMany z0 z1 this_greatAt this_sides this_guest this_home z2 this_skill this_told z3)) 0 0 (w_X11_layLikely cI cJ cZ h_this q_this this_matches this_stakes this_meetings this_newsFirst this_newsHour this_acts this_stories this_signs this_ruleMany this_upper this_lower this_greatAt this_sides this_guest this_home this_next this_skill this_told this_ways) [(0, .ref h_this), (3, .int x3), (4, .int x4), (5, .int x5), (6, .long x6), (8, .long x8), (10, .int x10)] [] 81) (k_91 : Int64 → Int64 → (Nat → Int32) → (Nat → Int32) → (Nat → Int64) → (Nat → Int32) → (Nat → Int32) → (Nat → Int64) → Int32 → Int32 → Int32 → Int64 → Int64 → Int32 → Int32 → (Option (Int64 × Int64 × (Nat → Int64) × (Nat → Int64)))) (hk_91 : ∀ (this_upper : Int64) (this_lower : Int64) (this_guest : Nat → Int32) (this_home : Nat → Int32) (this_next : Nat → Int64) (this_skill : Nat → Int32) (this_told : Nat → Int32) (this_ways : Nat → Int64) (x3 : Int32) (x4 : Int32) (x5 : Int32) (x6 : Int64) (x8 : Int64) (x10 : Int32) (x11 : Int32), k_91 this_upper this_lower this_guest this_home this_next this_skill this_told this_ways x3 x4 x5 x6 x8 x10 x11 = some (z0, z1, z2, z3) → J p l e rmX11_layLikely s m args below meth c D A 13 (QV D below args s A (w_X11_layLikely cI cJ cZ h_this q_this this_matches this_stakes this_meetings this_newsFirst this_newsHour this_acts this_stories this_signs this_ruleMany z0 z1 this_greatAt this_sides this_guest this_home z2 this_skill this_told z3)) 0 0 (w_X11_layLikely cI cJ cZ h_this q_this this_matches this_stakes this_meetings this_newsFirst this_newsHour this_acts this_stories this_signs this_ruleMany this_upper this_lower this_greatAt this_sides this_guest this_home this_next this_skill this_told this_ways) [(0, .ref h_this), (3, .int x3), (4, .int x4), (5, .int x5), (6, .long x6), (8, .long x8), (10, .int x10), (11, .int x11)] [] 91) (this_upper : Int64) (this_lower : Int64) (this_guest : Nat → Int32) (this_home : Nat → Int32) (this_next : Nat → Int64) (this_skill : Nat → Int32) (this_told : Nat → Int32) (this_ways : Nat → Int64) (x3 : Int32) (x4 : Int32) (x5 : Int32) (x6 : Int64) (x8 : Int64) (x10 : Int32) (x11 : Int32) (s0 : Int64) (s1 : Int64) (s2 : Int32) (hT : t_X11_layLikely_142  k_81 k_91 this_upper this_lower this_guest this_home this_next this_skill this_told this_ways x3 x4 x5 x6 x8 x10 x11 s0 s1 s2 = some (z0, z1, z2, z3)) : J p l e rmX11_layLikely s m args below meth c D A 13 (QV D below args s A (w_X11_layLikely cI cJ cZ h_this q_this this_matches this_stakes this_meetings this_newsFirst this_newsHour this_acts this_stories this_signs this_ruleMany z0 z1 this_greatAt this_sides this_guest this_home z2 this_skill this_told z3)) 0 0 (w_X11_layLikely cI cJ cZ h_this q_this this_matches this_stakes this_meetings this_newsFirst this_newsHour this_acts this_stories this_signs this_ruleMany this_upper this_lower this_greatAt this_sides this_guest this_home this_next this_skill this_told this_ways) [(0, .ref h_this), (3, .int x3), (4, .int x4), (5, .int x5), (6, .long x6), (8, .long x8), (10, .int x10), (11, .int x11)] [.long s0, .long s1, .int s2, .ref (q_this 40)] 142 := by
  unfold t_X11_layLikely_142 at hT
  refine J_ladd X dX11_layLikely_142 ?_
  refine J_iload X dX11_layLikely_143 7 rfl ?_
  refine J_bipush (v := 12) X dX11_layLikely_145 (by decide) ?_
  refine J_icmp_ge (tgt := 165) X dX11_layLikely_147 (by decide) (fun hc13 => ?_) (fun hc13 => ?_)
  · have hT := ift hT hc13
    refine J_lconst (v := 0) X dX11_layLikely_165 (by decide) ?_
    exact b_X11_layLikely_166 X cI cJ cZ h_this q_this this_matches this_stakes this_meetings this_newsFirst this_newsHour this_acts this_stories this_signs this_ruleMany this_greatAt this_sides z0 z1 z2 z3 k_81 hk_81 k_91 hk_91 this_upper this_lower this_guest this_home this_next this_skill this_told this_ways x3 x4 x5 x6 x8 x10 x11 (0 : Int64) (s1 + s0) s2 hT
  · have hT := iff_ hT hc13
    refine J_aload_n X dX11_layLikely_150 0 rfl ?_
    refine J_get (C := RX11) (T := TX11) (N := 54) (ci := 11) (v := .ref (q_this 39)) X in_X11_layLikely_X11 0 rfl rfl 39 (by decide) m_X11_layLikely_f104 rfl dX11_layLikely_151 ?_
    refine J_iload X dX11_layLikely_154 7 rfl ?_
    refine J_iconst (v := 1) X dX11_layLikely_156 (by decide) ?_
    refine J_iadd X dX11_layLikely_157 ?_
    obtain ⟨hk14, hT⟩ := ckn_e hT
    refine J_lald X 6 rfl rfl hk14 dX11_layLikely_158 ?_
    refine J_lload X dX11_layLikely_159 5 rfl ?_
    refine J_lmul X dX11_layLikely_161 ?_
    refine J_goto (tgt := 166) X dX11_layLikely_162 (by decide) ?_
    exact b_X11_layLikely_166 X cI cJ cZ h_this q_this this_matches this_stakes this_meetings this_newsFirst this_newsHour this_acts this_stories this_signs this_ruleMany this_greatAt this_sides z0 z1 z2 z3 k_81 hk_81 k_91 hk_91 this_upper this_lower this_guest this_home this_next this_skill this_told this_ways x3 x4 x5 x6 x8 x10 x11 ((this_ways (x11 + (1 : Int32)).toNatClampNeg) * x8) (s1 + s0) s2 hT
set_option maxHeartbeats 4000000 in
set_option maxRecDepth 100000 in
theorem b_X11_layLikely_91_b {p : Program} {l : Launch} {e : Env} {s : State} {m : MethodId} {args : Array Value} {below : List Frame} {meth : Method} {c : Code} {D : va_G} {A : Nat → Prop} {cI cJ cZ : ClassId} (X : Cx p m c cX11_layLikely 13 s args wsX11_layLikely RX11 D (tys3 cI cJ cZ) meth none) (_ _ _ : ClassId)  (h_this : Nat) (q_this : Nat → Nat) (this_matches : Int32) (this_stakes : Int32) (this_meetings : Int32) (this_newsFirst : Int32) (this_newsHour : Int32) (this_acts : Int32) (this_stories : Int32) (this_signs : Int32) (this_ruleMany : Int32) (this_greatAt : Int32) (this_sides : Int32) (z0 : Int64) (z1 : Int64) (z2 : Nat → Int64) (z3 : Nat → Int64) (k_81 : Int64 → Int64 → (Nat → Int32) → (Nat → Int32) → (Nat → Int64) → (Nat → Int32) → (Nat → Int32) → (Nat → Int64) → Int32 → Int32 → Int32 → Int64 → Int64 → Int32 → (Option (Int64 × Int64 × (Nat → Int64) × (Nat → Int64)))) (hk_81 : ∀ (this_upper : Int64) (this_lower : Int64) (this_guest : Nat → Int32) (this_home : Nat → Int32) (this_next : Nat → Int64) (this_skill : Nat → Int32) (this_told : Nat → Int32) (this_ways : Nat → Int64) (x3 : Int32) (x4 : Int32) (x5 : Int32) (x6 : Int64) (x8 : Int64) (x10 : Int32), k_81 this_upper this_lower this_guest this_home this_next this_skill this_told this_ways x3 x4 x5 x6 x8 x10 = some (z0, z1, z2, z3) → J p l e rmX11_layLikely s m args below meth c D A 13 (QV D below args s A (w_X11_layLikely cI cJ cZ h_this q_this this_matches this_stakes this_meetings this_newsFirst this_newsHour this_acts this_stories this_signs this_ruleMany z0 z1 this_greatAt this_sides this_guest this_home z2 this_skill this_told z3)) 0 0 (w_X11_layLikely cI cJ cZ h_this q_this this_matches this_stakes this_meetings this_newsFirst this_newsHour this_acts this_stories this_signs this_ruleMany this_upper this_lower this_greatAt this_sides this_guest this_home this_next this_skill this_told this_ways) [(0, .ref h_this), (3, .int x3), (4, .int x4), (5, .int x5), (6, .long x6), (8, .long x8), (10, .int x10)] [] 81) (k_91 : Int64 → Int64 → (Nat → Int32) → (Nat → Int32) → (Nat → Int64) → (Nat → Int32) → (Nat → Int32) → (Nat → Int64) → Int32 → Int32 → Int32 → Int64 → Int64 → Int32 → Int32 → (Option (Int64 × Int64 × (Nat → Int64) × (Nat → Int64)))) (hk_91 : ∀ (this_upper : Int64) (this_lower : Int64) (this_guest : Nat → Int32) (this_home : Nat → Int32) (this_next : Nat → Int64) (this_skill : Nat → Int32) (this_told : Nat → Int32) (this_ways : Nat → Int64) (x3 : Int32) (x4 : Int32) (x5 : Int32) (x6 : Int64) (x8 : Int64) (x10 : Int32) (x11 : Int32), k_91 this_upper this_lower this_guest this_home this_next this_skill this_told this_ways x3 x4 x5 x6 x8 x10 x11 = some (z0, z1, z2, z3) → J p l e rmX11_layLikely s m args below meth c D A 13 (QV D below args s A (w_X11_layLikely cI cJ cZ h_this q_this this_matches this_stakes this_meetings this_newsFirst this_newsHour this_acts this_stories this_signs this_ruleMany z0 z1 this_greatAt this_sides this_guest this_home z2 this_skill this_told z3)) 0 0 (w_X11_layLikely cI cJ cZ h_this q_this this_matches this_stakes this_meetings this_newsFirst this_newsHour this_acts this_stories this_signs this_ruleMany this_upper this_lower this_greatAt this_sides this_guest this_home this_next this_skill this_told this_ways) [(0, .ref h_this), (3, .int x3), (4, .int x4), (5, .int x5), (6, .long x6), (8, .long x8), (10, .int x10), (11, .int x11)] [] 91) (this_upper : Int64) (this_lower : Int64) (this_guest : Nat → Int32) (this_home : Nat → Int32) (this_next : Nat → Int64) (this_skill : Nat → Int32) (this_told : Nat → Int32) (this_ways : Nat → Int64) (x3 : Int32) (x4 : Int32) (x5 : Int32) (x6 : Int64) (x8 : Int64) (x10 : Int32) (x11 : Int32) (hT : t_X11_layLikely_91_b  k_81 k_91 this_upper this_lower this_guest this_home this_next this_skill this_told this_ways x3 x4 x5 x6 x8 x10 x11 = some (z0, z1, z2, z3)) : J p l e rmX11_layLikely s m args below meth c D A 13 (QV D below args s A (w_X11_layLikely cI cJ cZ h_this q_this this_matches this_stakes this_meetings this_newsFirst this_newsHour this_acts this_stories this_signs this_ruleMany z0 z1 this_greatAt this_sides this_guest this_home z2 this_skill this_told z3)) 0 0 (w_X11_layLikely cI cJ cZ h_this q_this this_matches this_stakes this_meetings this_newsFirst this_newsHour this_acts this_stories this_signs this_ruleMany this_upper this_lower this_greatAt this_sides this_guest this_home this_next this_skill this_told this_ways) [(0, .ref h_this), (3, .int x3), (4, .int x4), (5, .int x5), (6, .long x6), (8, .long x8), (10, .int x10), (11, .int x11)] [] 91 := by
  unfold t_X11_layLikely_91_b at hT
  refine J_iload X dX11_layLikely_91 7 rfl ?_
  refine J_bipush (v := 13) X dX11_layLikely_93 (by decide) ?_
  refine J_icmp_ge (tgt := 174) X dX11_layLikely_95 (by decide) (fun hc15 => ?_) (fun hc15 => ?_)
  · have hT := ift hT hc15
    refine J_lv (lv' := [(0, .ref h_this), (3, .int x3), (4, .int x4), (5, .int x5), (6, .long x6), (8, .long x8), (10, .int x10)]) [0, 1, 2, 3, 4, 5, 6] rfl ?_
    exact b_X11_layLikely_174 X cI cJ cZ h_this q_this this_matches this_stakes this_meetings this_newsFirst this_newsHour this_acts this_stories this_signs this_ruleMany this_greatAt this_sides z0 z1 z2 z3 k_81 hk_81 this_upper this_lower this_guest this_home this_next this_skill this_told this_ways x3 x4 x5 x6 x8 x10 hT
  · have hT := iff_ hT hc15
    refine J_aload_n X dX11_layLikely_98 0 rfl ?_
    refine J_get (C := RX11) (T := TX11) (N := 54) (ci := 11) (v := .ref (q_this 40)) X in_X11_layLikely_X11 0 rfl rfl 40 (by decide) m_X11_layLikely_f108 rfl dX11_layLikely_99 ?_
    refine J_iload X dX11_layLikely_102 7 rfl ?_
    refine J_aload_n X dX11_layLikely_104 0 rfl ?_
    refine J_get (C := RX11) (T := TX11) (N := 54) (ci := 11) (v := .ref (q_this 39)) X in_X11_layLikely_X11 0 rfl rfl 39 (by decide) m_X11_layLikely_f104 rfl dX11_layLikely_105 ?_
    refine J_iload X dX11_layLikely_108 7 rfl ?_
    obtain ⟨hk16, hT⟩ := ckn_e hT
    refine J_lald X 6 rfl rfl hk16 dX11_layLikely_110 ?_
    refine J_ldc2 X dX11_layLikely_111 m_X11_layLikely_c172 ?_
    refine J_lload X dX11_layLikely_114 4 rfl ?_
    refine J_lsub X dX11_layLikely_116 ?_
    refine J_lload X dX11_layLikely_117 5 rfl ?_
    refine J_lsub X dX11_layLikely_119 ?_
    refine J_lmul X dX11_layLikely_120 ?_
    refine J_iload X dX11_layLikely_121 7 rfl ?_
    refine J_if_le (tgt := 141) X dX11_layLikely_123 (by decide) (fun hc17 => ?_) (fun hc17 => ?_)
    · have hT := ift hT hc17
      refine J_lconst (v := 0) X dX11_layLikely_141 (by decide) ?_
      exact b_X11_layLikely_142 X cI cJ cZ h_this q_this this_matches this_stakes this_meetings this_newsFirst this_newsHour this_acts this_stories this_signs this_ruleMany this_greatAt this_sides z0 z1 z2 z3 k_81 hk_81 k_91 hk_91 this_upper this_lower this_guest this_home this_next this_skill this_told this_ways x3 x4 x5 x6 x8 x10 x11 (0 : Int64) ((this_ways x11.toNatClampNeg) * (((100 : Int64) - x6) - x8)) x11 hT
    · have hT := iff_ hT hc17
      refine J_aload_n X dX11_layLikely_126 0 rfl ?_
      refine J_get (C := RX11) (T := TX11) (N := 54) (ci := 11) (v := .ref (q_this 39)) X in_X11_layLikely_X11 0 rfl rfl 39 (by decide) m_X11_layLikely_f104 rfl dX11_layLikely_127 ?_
      refine J_iload X dX11_layLikely_130 7 rfl ?_
      refine J_iconst (v := 1) X dX11_layLikely_132 (by decide) ?_
      refine J_isub X dX11_layLikely_133 ?_
      obtain ⟨hk18, hT⟩ := ckn_e hT
      refine J_lald X 6 rfl rfl hk18 dX11_layLikely_134 ?_
      refine J_lload X dX11_layLikely_135 4 rfl ?_
      refine J_lmul X dX11_layLikely_137 ?_
      refine J_goto (tgt := 142) X dX11_layLikely_138 (by decide) ?_
      exact b_X11_layLikely_142 X cI cJ cZ h_this q_this this_matches this_stakes this_meetings this_newsFirst this_newsHour this_acts this_stories this_signs this_ruleMany this_greatAt this_sides z0 z1 z2 z3 k_81 hk_81 k_91 hk_91 this_upper this_lower this_guest this_home this_next this_skill this_told this_ways x3 x4 x5 x6 x8 x10 x11 ((this_ways (x11 - (1 : Int32)).toNatClampNeg) * x6) ((this_ways x11.toNatClampNeg) * (((100 : Int64) - x6) - x8)) x11 hT
set_option maxHeartbeats 4000000 in
set_option maxRecDepth 100000 in
theorem b_X11_layLikely_91 {p : Program} {l : Launch} {e : Env} {s : State} {m : MethodId} {args : Array Value} {below : List Frame} {meth : Method} {c : Code} {D : va_G} {A : Nat → Prop} {cI cJ cZ : ClassId} (X : Cx p m c cX11_layLikely 13 s args wsX11_layLikely RX11 D (tys3 cI cJ cZ) meth none) (_ _ _ : ClassId)  (h_this : Nat) (q_this : Nat → Nat) (this_matches : Int32) (this_stakes : Int32) (this_meetings : Int32) (this_newsFirst : Int32) (this_newsHour : Int32) (this_acts : Int32) (this_stories : Int32) (this_signs : Int32) (this_ruleMany : Int32) (this_greatAt : Int32) (this_sides : Int32) (z0 : Int64) (z1 : Int64) (z2 : Nat → Int64) (z3 : Nat → Int64) (k_81 : Int64 → Int64 → (Nat → Int32) → (Nat → Int32) → (Nat → Int64) → (Nat → Int32) → (Nat → Int32) → (Nat → Int64) → Int32 → Int32 → Int32 → Int64 → Int64 → Int32 → (Option (Int64 × Int64 × (Nat → Int64) × (Nat → Int64)))) (hk_81 : ∀ (this_upper : Int64) (this_lower : Int64) (this_guest : Nat → Int32) (this_home : Nat → Int32) (this_next : Nat → Int64) (this_skill : Nat → Int32) (this_told : Nat → Int32) (this_ways : Nat → Int64) (x3 : Int32) (x4 : Int32) (x5 : Int32) (x6 : Int64) (x8 : Int64) (x10 : Int32), k_81 this_upper this_lower this_guest this_home this_next this_skill this_told this_ways x3 x4 x5 x6 x8 x10 = some (z0, z1, z2, z3) → J p l e rmX11_layLikely s m args below meth c D A 13 (QV D below args s A (w_X11_layLikely cI cJ cZ h_this q_this this_matches this_stakes this_meetings this_newsFirst this_newsHour this_acts this_stories this_signs this_ruleMany z0 z1 this_greatAt this_sides this_guest this_home z2 this_skill this_told z3)) 0 0 (w_X11_layLikely cI cJ cZ h_this q_this this_matches this_stakes this_meetings this_newsFirst this_newsHour this_acts this_stories this_signs this_ruleMany this_upper this_lower this_greatAt this_sides this_guest this_home this_next this_skill this_told this_ways) [(0, .ref h_this), (3, .int x3), (4, .int x4), (5, .int x5), (6, .long x6), (8, .long x8), (10, .int x10)] [] 81) : ∀ (n : Nat) (this_upper : Int64) (this_lower : Int64) (this_guest : Nat → Int32) (this_home : Nat → Int32) (this_next : Nat → Int64) (this_skill : Nat → Int32) (this_told : Nat → Int32) (this_ways : Nat → Int64) (x3 : Int32) (x4 : Int32) (x5 : Int32) (x6 : Int64) (x8 : Int64) (x10 : Int32) (x11 : Int32) (hT : t_X11_layLikely_91  k_81 n this_upper this_lower this_guest this_home this_next this_skill this_told this_ways x3 x4 x5 x6 x8 x10 x11 = some (z0, z1, z2, z3)), J p l e rmX11_layLikely s m args below meth c D A 13 (QV D below args s A (w_X11_layLikely cI cJ cZ h_this q_this this_matches this_stakes this_meetings this_newsFirst this_newsHour this_acts this_stories this_signs this_ruleMany z0 z1 this_greatAt this_sides this_guest this_home z2 this_skill this_told z3)) 0 0 (w_X11_layLikely cI cJ cZ h_this q_this this_matches this_stakes this_meetings this_newsFirst this_newsHour this_acts this_stories this_signs this_ruleMany this_upper this_lower this_greatAt this_sides this_guest this_home this_next this_skill this_told this_ways) [(0, .ref h_this), (3, .int x3), (4, .int x4), (5, .int x5), (6, .long x6), (8, .long x8), (10, .int x10), (11, .int x11)] [] 91 := by
  intro n
  induction n with
  | zero => intro this_upper this_lower this_guest this_home this_next this_skill this_told this_ways x3 x4 x5 x6 x8 x10 x11 hT; cases hT
  | succ n ih =>
    intro this_upper this_lower this_guest this_home this_next this_skill this_told this_ways x3 x4 x5 x6 x8 x10 x11 hT
    exact b_X11_layLikely_91_b X cI cJ cZ h_this q_this this_matches this_stakes this_meetings this_newsFirst this_newsHour this_acts this_stories this_signs this_ruleMany this_greatAt this_sides z0 z1 z2 z3 k_81 hk_81 (t_X11_layLikely_91  k_81 n) ih this_upper this_lower this_guest this_home this_next this_skill this_told this_ways x3 x4 x5 x6 x8 x10 x11 hT
set_option maxHeartbeats 4000000 in
set_option maxRecDepth 100000 in
theorem b_X11_layLikely_81_b {p : Program} {l : Launch} {e : Env} {s : State} {m : MethodId} {args : Array Value} {below : List Frame} {meth : Method} {c : Code} {D : va_G} {A : Nat → Prop} {cI cJ cZ : ClassId} (X : Cx p m c cX11_layLikely 13 s args wsX11_layLikely RX11 D (tys3 cI cJ cZ) meth none) (_ _ _ : ClassId)  (h_this : Nat) (q_this : Nat → Nat) (this_matches : Int32) (this_stakes : Int32) (this_meetings : Int32) (this_newsFirst : Int32) (this_newsHour : Int32) (this_acts : Int32) (this_stories : Int32) (this_signs : Int32) (this_ruleMany : Int32) (this_greatAt : Int32) (this_sides : Int32) (z0 : Int64) (z1 : Int64) (z2 : Nat → Int64) (z3 : Nat → Int64) (k_81 : Int64 → Int64 → (Nat → Int32) → (Nat → Int32) → (Nat → Int64) → (Nat → Int32) → (Nat → Int32) → (Nat → Int64) → Int32 → Int32 → Int32 → Int64 → Int64 → Int32 → (Option (Int64 × Int64 × (Nat → Int64) × (Nat → Int64)))) (hk_81 : ∀ (this_upper : Int64) (this_lower : Int64) (this_guest : Nat → Int32) (this_home : Nat → Int32) (this_next : Nat → Int64) (this_skill : Nat → Int32) (this_told : Nat → Int32) (this_ways : Nat → Int64) (x3 : Int32) (x4 : Int32) (x5 : Int32) (x6 : Int64) (x8 : Int64) (x10 : Int32), k_81 this_upper this_lower this_guest this_home this_next this_skill this_told this_ways x3 x4 x5 x6 x8 x10 = some (z0, z1, z2, z3) → J p l e rmX11_layLikely s m args below meth c D A 13 (QV D below args s A (w_X11_layLikely cI cJ cZ h_this q_this this_matches this_stakes this_meetings this_newsFirst this_newsHour this_acts this_stories this_signs this_ruleMany z0 z1 this_greatAt this_sides this_guest this_home z2 this_skill this_told z3)) 0 0 (w_X11_layLikely cI cJ cZ h_this q_this this_matches this_stakes this_meetings this_newsFirst this_newsHour this_acts this_stories this_signs this_ruleMany this_upper this_lower this_greatAt this_sides this_guest this_home this_next this_skill this_told this_ways) [(0, .ref h_this), (3, .int x3), (4, .int x4), (5, .int x5), (6, .long x6), (8, .long x8), (10, .int x10)] [] 81) (this_upper : Int64) (this_lower : Int64) (this_guest : Nat → Int32) (this_home : Nat → Int32) (this_next : Nat → Int64) (this_skill : Nat → Int32) (this_told : Nat → Int32) (this_ways : Nat → Int64) (x3 : Int32) (x4 : Int32) (x5 : Int32) (x6 : Int64) (x8 : Int64) (x10 : Int32) (hT : t_X11_layLikely_81_b  k_81 this_upper this_lower this_guest this_home this_next this_skill this_told this_ways x3 x4 x5 x6 x8 x10 = some (z0, z1, z2, z3)) : J p l e rmX11_layLikely s m args below meth c D A 13 (QV D below args s A (w_X11_layLikely cI cJ cZ h_this q_this this_matches this_stakes this_meetings this_newsFirst this_newsHour this_acts this_stories this_signs this_ruleMany z0 z1 this_greatAt this_sides this_guest this_home z2 this_skill this_told z3)) 0 0 (w_X11_layLikely cI cJ cZ h_this q_this this_matches this_stakes this_meetings this_newsFirst this_newsHour this_acts this_stories this_signs this_ruleMany this_upper this_lower this_greatAt this_sides this_guest this_home this_next this_skill this_told this_ways) [(0, .ref h_this), (3, .int x3), (4, .int x4), (5, .int x5), (6, .long x6), (8, .long x8), (10, .int x10)] [] 81 := by
  unfold t_X11_layLikely_81_b at hT
  refine J_iload X dX11_layLikely_81 6 rfl ?_
  refine J_bipush (v := 6) X dX11_layLikely_83 (by decide) ?_
  refine J_icmp_ge (tgt := 222) X dX11_layLikely_85 (by decide) (fun hc19 => ?_) (fun hc19 => ?_)
  · have hT := ift hT hc19
    refine J_lv (lv' := [(0, .ref h_this), (3, .int x3), (4, .int x4), (5, .int x5)]) [0, 1, 2, 3] rfl ?_
    exact b_X11_layLikely_222 X cI cJ cZ h_this q_this this_matches this_stakes this_meetings this_newsFirst this_newsHour this_acts this_stories this_signs this_ruleMany this_greatAt this_sides z0 z1 z2 z3  this_upper this_lower this_guest this_home this_next this_skill this_told this_ways x3 x4 x5 hT
  · have hT := iff_ hT hc19
    refine J_iconst (v := 0) X dX11_layLikely_88 (by decide) ?_
    refine J_istore (lv' := [(11, .int (0 : Int32)), (0, .ref h_this), (3, .int x3), (4, .int x4), (5, .int x5), (6, .long x6), (8, .long x8), (10, .int x10)]) X dX11_layLikely_89 (by decide) rfl ?_
    refine J_lv (lv' := [(0, .ref h_this), (3, .int x3), (4, .int x4), (5, .int x5), (6, .long x6), (8, .long x8), (10, .int x10), (11, .int (0 : Int32))]) [1, 2, 3, 4, 5, 6, 7, 0] rfl ?_
    exact b_X11_layLikely_91 X cI cJ cZ h_this q_this this_matches this_stakes this_meetings this_newsFirst this_newsHour this_acts this_stories this_signs this_ruleMany this_greatAt this_sides z0 z1 z2 z3 k_81 hk_81 lfuel this_upper this_lower this_guest this_home this_next this_skill this_told this_ways x3 x4 x5 x6 x8 x10 (0 : Int32) hT
set_option maxHeartbeats 4000000 in
set_option maxRecDepth 100000 in
theorem b_X11_layLikely_81 {p : Program} {l : Launch} {e : Env} {s : State} {m : MethodId} {args : Array Value} {below : List Frame} {meth : Method} {c : Code} {D : va_G} {A : Nat → Prop} {cI cJ cZ : ClassId} (X : Cx p m c cX11_layLikely 13 s args wsX11_layLikely RX11 D (tys3 cI cJ cZ) meth none) (_ _ _ : ClassId)  (h_this : Nat) (q_this : Nat → Nat) (this_matches : Int32) (this_stakes : Int32) (this_meetings : Int32) (this_newsFirst : Int32) (this_newsHour : Int32) (this_acts : Int32) (this_stories : Int32) (this_signs : Int32) (this_ruleMany : Int32) (this_greatAt : Int32) (this_sides : Int32) (z0 : Int64) (z1 : Int64) (z2 : Nat → Int64) (z3 : Nat → Int64)  : ∀ (n : Nat) (this_upper : Int64) (this_lower : Int64) (this_guest : Nat → Int32) (this_home : Nat → Int32) (this_next : Nat → Int64) (this_skill : Nat → Int32) (this_told : Nat → Int32) (this_ways : Nat → Int64) (x3 : Int32) (x4 : Int32) (x5 : Int32) (x6 : Int64) (x8 : Int64) (x10 : Int32) (hT : t_X11_layLikely_81   n this_upper this_lower this_guest this_home this_next this_skill this_told this_ways x3 x4 x5 x6 x8 x10 = some (z0, z1, z2, z3)), J p l e rmX11_layLikely s m args below meth c D A 13 (QV D below args s A (w_X11_layLikely cI cJ cZ h_this q_this this_matches this_stakes this_meetings this_newsFirst this_newsHour this_acts this_stories this_signs this_ruleMany z0 z1 this_greatAt this_sides this_guest this_home z2 this_skill this_told z3)) 0 0 (w_X11_layLikely cI cJ cZ h_this q_this this_matches this_stakes this_meetings this_newsFirst this_newsHour this_acts this_stories this_signs this_ruleMany this_upper this_lower this_greatAt this_sides this_guest this_home this_next this_skill this_told this_ways) [(0, .ref h_this), (3, .int x3), (4, .int x4), (5, .int x5), (6, .long x6), (8, .long x8), (10, .int x10)] [] 81 := by
  intro n
  induction n with
  | zero => intro this_upper this_lower this_guest this_home this_next this_skill this_told this_ways x3 x4 x5 x6 x8 x10 hT; cases hT
  | succ n ih =>
    intro this_upper this_lower this_guest this_home this_next this_skill this_told this_ways x3 x4 x5 x6 x8 x10 hT
    exact b_X11_layLikely_81_b X cI cJ cZ h_this q_this this_matches this_stakes this_meetings this_newsFirst this_newsHour this_acts this_stories this_signs this_ruleMany this_greatAt this_sides z0 z1 z2 z3  (t_X11_layLikely_81   n) ih this_upper this_lower this_guest this_home this_next this_skill this_told this_ways x3 x4 x5 x6 x8 x10 hT
set_option maxHeartbeats 4000000 in
set_option maxRecDepth 100000 in
theorem b_X11_layLikely_73 {p : Program} {l : Launch} {e : Env} {s : State} {m : MethodId} {args : Array Value} {below : List Frame} {meth : Method} {c : Code} {D : va_G} {A : Nat → Prop} {cI cJ cZ : ClassId} (X : Cx p m c cX11_layLikely 13 s args wsX11_layLikely RX11 D (tys3 cI cJ cZ) meth none) (_ _ _ : ClassId)  (h_this : Nat) (q_this : Nat → Nat) (this_matches : Int32) (this_stakes : Int32) (this_meetings : Int32) (this_newsFirst : Int32) (this_newsHour : Int32) (this_acts : Int32) (this_stories : Int32) (this_signs : Int32) (this_ruleMany : Int32) (this_greatAt : Int32) (this_sides : Int32) (z0 : Int64) (z1 : Int64) (z2 : Nat → Int64) (z3 : Nat → Int64)  (this_upper : Int64) (this_lower : Int64) (this_guest : Nat → Int32) (this_home : Nat → Int32) (this_next : Nat → Int64) (this_skill : Nat → Int32) (this_told : Nat → Int32) (this_ways : Nat → Int64) (x2 : Int32) (x3 : Int32) (x4 : Int32) (x5 : Int32) (x6 : Int64) (x8 : Int64) (hT : t_X11_layLikely_73   this_upper this_lower this_guest this_home this_next this_skill this_told this_ways x2 x3 x4 x5 x6 x8 = some (z0, z1, z2, z3)) : J p l e rmX11_layLikely s m args below meth c D A 13 (QV D below args s A (w_X11_layLikely cI cJ cZ h_this q_this this_matches this_stakes this_meetings this_newsFirst this_newsHour this_acts this_stories this_signs this_ruleMany z0 z1 this_greatAt this_sides this_guest this_home z2 this_skill this_told z3)) 0 0 (w_X11_layLikely cI cJ cZ h_this q_this this_matches this_stakes this_meetings this_newsFirst this_newsHour this_acts this_stories this_signs this_ruleMany this_upper this_lower this_greatAt this_sides this_guest this_home this_next this_skill this_told this_ways) [(0, .ref h_this), (2, .int x2), (3, .int x3), (4, .int x4), (5, .int x5), (6, .long x6), (8, .long x8)] [] 73 := by
  unfold t_X11_layLikely_73 at hT
  refine J_aload_n X dX11_layLikely_73 0 rfl ?_
  refine J_lconst (v := 1) X dX11_layLikely_74 (by decide) ?_
  refine J_put (host := "") (C := RX11) (T := TX11) (N := 54) (ci := 11) (ws' := (w_X11_layLikely cI cJ cZ h_this q_this this_matches this_stakes this_meetings this_newsFirst this_newsHour this_acts this_stories this_signs this_ruleMany this_upper (1 : Int64) this_greatAt this_sides this_guest this_home this_next this_skill this_told this_ways)) X in_X11_layLikely_X11 0 rfl rfl 42 (by decide) tyX11 tyX11_ok nmX11 m_X11_layLikely_f168 rfl rfl rfl (Nat.le_of_ble_eq_true rfl) rfl dX11_layLikely_75 ?_
  refine J_iload_n X dX11_layLikely_78 1 rfl ?_
  refine J_istore (lv' := [(10, .int x2), (0, .ref h_this), (2, .int x2), (3, .int x3), (4, .int x4), (5, .int x5), (6, .long x6), (8, .long x8)]) X dX11_layLikely_79 (by decide) rfl ?_
  refine J_lv (lv' := [(0, .ref h_this), (3, .int x3), (4, .int x4), (5, .int x5), (6, .long x6), (8, .long x8), (10, .int x2)]) [1, 3, 4, 5, 6, 7, 0] rfl ?_
  exact b_X11_layLikely_81 X cI cJ cZ h_this q_this this_matches this_stakes this_meetings this_newsFirst this_newsHour this_acts this_stories this_signs this_ruleMany this_greatAt this_sides z0 z1 z2 z3  lfuel this_upper (1 : Int64) this_guest this_home this_next this_skill this_told this_ways x3 x4 x5 x6 x8 x2 hT
set_option maxHeartbeats 4000000 in
set_option maxRecDepth 100000 in
theorem b_X11_layLikely_66 {p : Program} {l : Launch} {e : Env} {s : State} {m : MethodId} {args : Array Value} {below : List Frame} {meth : Method} {c : Code} {D : va_G} {A : Nat → Prop} {cI cJ cZ : ClassId} (X : Cx p m c cX11_layLikely 13 s args wsX11_layLikely RX11 D (tys3 cI cJ cZ) meth none) (_ _ _ : ClassId)  (h_this : Nat) (q_this : Nat → Nat) (this_matches : Int32) (this_stakes : Int32) (this_meetings : Int32) (this_newsFirst : Int32) (this_newsHour : Int32) (this_acts : Int32) (this_stories : Int32) (this_signs : Int32) (this_ruleMany : Int32) (this_greatAt : Int32) (this_sides : Int32) (z0 : Int64) (z1 : Int64) (z2 : Nat → Int64) (z3 : Nat → Int64) (k_41 : Int64 → Int64 → (Nat → Int32) → (Nat → Int32) → (Nat → Int64) → (Nat → Int32) → (Nat → Int32) → (Nat → Int64) → Int32 → Int32 → Int32 → Int32 → Int64 → Int64 → Int32 → (Option (Int64 × Int64 × (Nat → Int64) × (Nat → Int64)))) (hk_41 : ∀ (this_upper : Int64) (this_lower : Int64) (this_guest : Nat → Int32) (this_home : Nat → Int32) (this_next : Nat → Int64) (this_skill : Nat → Int32) (this_told : Nat → Int32) (this_ways : Nat → Int64) (x2 : Int32) (x3 : Int32) (x4 : Int32) (x5 : Int32) (x6 : Int64) (x8 : Int64) (x10 : Int32), k_41 this_upper this_lower this_guest this_home this_next this_skill this_told this_ways x2 x3 x4 x5 x6 x8 x10 = some (z0, z1, z2, z3) → J p l e rmX11_layLikely s m args below meth c D A 13 (QV D below args s A (w_X11_layLikely cI cJ cZ h_this q_this this_matches this_stakes this_meetings this_newsFirst this_newsHour this_acts this_stories this_signs this_ruleMany z0 z1 this_greatAt this_sides this_guest this_home z2 this_skill this_told z3)) 0 0 (w_X11_layLikely cI cJ cZ h_this q_this this_matches this_stakes this_meetings this_newsFirst this_newsHour this_acts this_stories this_signs this_ruleMany this_upper this_lower this_greatAt this_sides this_guest this_home this_next this_skill this_told this_ways) [(0, .ref h_this), (2, .int x2), (3, .int x3), (4, .int x4), (5, .int x5), (6, .long x6), (8, .long x8), (10, .int x10)] [] 41) (this_upper : Int64) (this_lower : Int64) (this_guest : Nat → Int32) (this_home : Nat → Int32) (this_next : Nat → Int64) (this_skill : Nat → Int32) (this_told : Nat → Int32) (this_ways : Nat → Int64) (x2 : Int32) (x3 : Int32) (x4 : Int32) (x5 : Int32) (x6 : Int64) (x8 : Int64) (x10 : Int32) (s0 : Int64) (s1 : Int32) (hT : t_X11_layLikely_66  k_41 this_upper this_lower this_guest this_home this_next this_skill this_told this_ways x2 x3 x4 x5 x6 x8 x10 s0 s1 = some (z0, z1, z2, z3)) : J p l e rmX11_layLikely s m args below meth c D A 13 (QV D below args s A (w_X11_layLikely cI cJ cZ h_this q_this this_matches this_stakes this_meetings this_newsFirst this_newsHour this_acts this_stories this_signs this_ruleMany z0 z1 this_greatAt this_sides this_guest this_home z2 this_skill this_told z3)) 0 0 (w_X11_layLikely cI cJ cZ h_this q_this this_matches this_stakes this_meetings this_newsFirst this_newsHour this_acts this_stories this_signs this_ruleMany this_upper this_lower this_greatAt this_sides this_guest this_home this_next this_skill this_told this_ways) [(0, .ref h_this), (2, .int x2), (3, .int x3), (4, .int x4), (5, .int x5), (6, .long x6), (8, .long x8), (10, .int x10)] [.long s0, .int s1, .ref (q_this 39)] 66 := by
  unfold t_X11_layLikely_66 at hT
  obtain ⟨hk20, hT⟩ := ckn_e hT
  refine J_last (ws' := (w_X11_layLikely cI cJ cZ h_this q_this this_matches this_stakes this_meetings this_newsFirst this_newsHour this_acts this_stories this_signs this_ruleMany this_upper this_lower this_greatAt this_sides this_guest this_home this_next this_skill this_told (vp_updL this_ways s1.toNatClampNeg s0))) X 6 rfl rfl hk20 rfl dX11_layLikely_66 ?_
  refine J_iinc (lv' := [(10, .int (x10 + (1 : Int32))), (0, .ref h_this), (2, .int x2), (3, .int x3), (4, .int x4), (5, .int x5), (6, .long x6), (8, .long x8)]) (j := 7) X dX11_layLikely_67 rfl rfl (by decide) rfl ?_
  refine J_goto (tgt := 41) X dX11_layLikely_70 (by decide) ?_
  refine J_lv (lv' := [(0, .ref h_this), (2, .int x2), (3, .int x3), (4, .int x4), (5, .int x5), (6, .long x6), (8, .long x8), (10, .int (x10 + (1 : Int32)))]) [1, 2, 3, 4, 5, 6, 7, 0] rfl ?_
  exact hk_41 this_upper this_lower this_guest this_home this_next this_skill this_told (vp_updL this_ways s1.toNatClampNeg s0) x2 x3 x4 x5 x6 x8 (x10 + (1 : Int32)) hT
set_option maxHeartbeats 4000000 in
set_option maxRecDepth 100000 in
theorem b_X11_layLikely_41_b {p : Program} {l : Launch} {e : Env} {s : State} {m : MethodId} {args : Array Value} {below : List Frame} {meth : Method} {c : Code} {D : va_G} {A : Nat → Prop} {cI cJ cZ : ClassId} (X : Cx p m c cX11_layLikely 13 s args wsX11_layLikely RX11 D (tys3 cI cJ cZ) meth none) (_ _ _ : ClassId)  (h_this : Nat) (q_this : Nat → Nat) (this_matches : Int32) (this_stakes : Int32) (this_meetings : Int32) (this_newsFirst : Int32) (this_newsHour : Int32) (this_acts : Int32) (this_stories : Int32) (this_signs : Int32) (this_ruleMany : Int32) (this_greatAt : Int32) (this_sides : Int32) (z0 : Int64) (z1 : Int64) (z2 : Nat → Int64) (z3 : Nat → Int64) (k_41 : Int64 → Int64 → (Nat → Int32) → (Nat → Int32) → (Nat → Int64) → (Nat → Int32) → (Nat → Int32) → (Nat → Int64) → Int32 → Int32 → Int32 → Int32 → Int64 → Int64 → Int32 → (Option (Int64 × Int64 × (Nat → Int64) × (Nat → Int64)))) (hk_41 : ∀ (this_upper : Int64) (this_lower : Int64) (this_guest : Nat → Int32) (this_home : Nat → Int32) (this_next : Nat → Int64) (this_skill : Nat → Int32) (this_told : Nat → Int32) (this_ways : Nat → Int64) (x2 : Int32) (x3 : Int32) (x4 : Int32) (x5 : Int32) (x6 : Int64) (x8 : Int64) (x10 : Int32), k_41 this_upper this_lower this_guest this_home this_next this_skill this_told this_ways x2 x3 x4 x5 x6 x8 x10 = some (z0, z1, z2, z3) → J p l e rmX11_layLikely s m args below meth c D A 13 (QV D below args s A (w_X11_layLikely cI cJ cZ h_this q_this this_matches this_stakes this_meetings this_newsFirst this_newsHour this_acts this_stories this_signs this_ruleMany z0 z1 this_greatAt this_sides this_guest this_home z2 this_skill this_told z3)) 0 0 (w_X11_layLikely cI cJ cZ h_this q_this this_matches this_stakes this_meetings this_newsFirst this_newsHour this_acts this_stories this_signs this_ruleMany this_upper this_lower this_greatAt this_sides this_guest this_home this_next this_skill this_told this_ways) [(0, .ref h_this), (2, .int x2), (3, .int x3), (4, .int x4), (5, .int x5), (6, .long x6), (8, .long x8), (10, .int x10)] [] 41) (this_upper : Int64) (this_lower : Int64) (this_guest : Nat → Int32) (this_home : Nat → Int32) (this_next : Nat → Int64) (this_skill : Nat → Int32) (this_told : Nat → Int32) (this_ways : Nat → Int64) (x2 : Int32) (x3 : Int32) (x4 : Int32) (x5 : Int32) (x6 : Int64) (x8 : Int64) (x10 : Int32) (hT : t_X11_layLikely_41_b  k_41 this_upper this_lower this_guest this_home this_next this_skill this_told this_ways x2 x3 x4 x5 x6 x8 x10 = some (z0, z1, z2, z3)) : J p l e rmX11_layLikely s m args below meth c D A 13 (QV D below args s A (w_X11_layLikely cI cJ cZ h_this q_this this_matches this_stakes this_meetings this_newsFirst this_newsHour this_acts this_stories this_signs this_ruleMany z0 z1 this_greatAt this_sides this_guest this_home z2 this_skill this_told z3)) 0 0 (w_X11_layLikely cI cJ cZ h_this q_this this_matches this_stakes this_meetings this_newsFirst this_newsHour this_acts this_stories this_signs this_ruleMany this_upper this_lower this_greatAt this_sides this_guest this_home this_next this_skill this_told this_ways) [(0, .ref h_this), (2, .int x2), (3, .int x3), (4, .int x4), (5, .int x5), (6, .long x6), (8, .long x8), (10, .int x10)] [] 41 := by
  unfold t_X11_layLikely_41_b at hT
  refine J_iload X dX11_layLikely_41 7 rfl ?_
  refine J_bipush (v := 13) X dX11_layLikely_43 (by decide) ?_
  refine J_icmp_ge (tgt := 73) X dX11_layLikely_45 (by decide) (fun hc21 => ?_) (fun hc21 => ?_)
  · have hT := ift hT hc21
    refine J_lv (lv' := [(0, .ref h_this), (2, .int x2), (3, .int x3), (4, .int x4), (5, .int x5), (6, .long x6), (8, .long x8)]) [0, 1, 2, 3, 4, 5, 6] rfl ?_
    exact b_X11_layLikely_73 X cI cJ cZ h_this q_this this_matches this_stakes this_meetings this_newsFirst this_newsHour this_acts this_stories this_signs this_ruleMany this_greatAt this_sides z0 z1 z2 z3  this_upper this_lower this_guest this_home this_next this_skill this_told this_ways x2 x3 x4 x5 x6 x8 hT
  · have hT := iff_ hT hc21
    refine J_aload_n X dX11_layLikely_48 0 rfl ?_
    refine J_get (C := RX11) (T := TX11) (N := 54) (ci := 11) (v := .ref (q_this 39)) X in_X11_layLikely_X11 0 rfl rfl 39 (by decide) m_X11_layLikely_f104 rfl dX11_layLikely_49 ?_
    refine J_iload X dX11_layLikely_52 7 rfl ?_
    refine J_iload X dX11_layLikely_54 7 rfl ?_
    refine J_bipush (v := 6) X dX11_layLikely_56 (by decide) ?_
    refine J_icmp_ne (tgt := 65) X dX11_layLikely_58 (by decide) (fun hc22 => ?_) (fun hc22 => ?_)
    · have hT := iff_ hT hc22
      refine J_lconst (v := 0) X dX11_layLikely_65 (by decide) ?_
      exact b_X11_layLikely_66 X cI cJ cZ h_this q_this this_matches this_stakes this_meetings this_newsFirst this_newsHour this_acts this_stories this_signs this_ruleMany this_greatAt this_sides z0 z1 z2 z3 k_41 hk_41 this_upper this_lower this_guest this_home this_next this_skill this_told this_ways x2 x3 x4 x5 x6 x8 x10 (0 : Int64) x10 hT
    · have hT := ift hT hc22
      refine J_lconst (v := 1) X dX11_layLikely_61 (by decide) ?_
      refine J_goto (tgt := 66) X dX11_layLikely_62 (by decide) ?_
      exact b_X11_layLikely_66 X cI cJ cZ h_this q_this this_matches this_stakes this_meetings this_newsFirst this_newsHour this_acts this_stories this_signs this_ruleMany this_greatAt this_sides z0 z1 z2 z3 k_41 hk_41 this_upper this_lower this_guest this_home this_next this_skill this_told this_ways x2 x3 x4 x5 x6 x8 x10 (1 : Int64) x10 hT
set_option maxHeartbeats 4000000 in
set_option maxRecDepth 100000 in
theorem b_X11_layLikely_41 {p : Program} {l : Launch} {e : Env} {s : State} {m : MethodId} {args : Array Value} {below : List Frame} {meth : Method} {c : Code} {D : va_G} {A : Nat → Prop} {cI cJ cZ : ClassId} (X : Cx p m c cX11_layLikely 13 s args wsX11_layLikely RX11 D (tys3 cI cJ cZ) meth none) (_ _ _ : ClassId)  (h_this : Nat) (q_this : Nat → Nat) (this_matches : Int32) (this_stakes : Int32) (this_meetings : Int32) (this_newsFirst : Int32) (this_newsHour : Int32) (this_acts : Int32) (this_stories : Int32) (this_signs : Int32) (this_ruleMany : Int32) (this_greatAt : Int32) (this_sides : Int32) (z0 : Int64) (z1 : Int64) (z2 : Nat → Int64) (z3 : Nat → Int64)  : ∀ (n : Nat) (this_upper : Int64) (this_lower : Int64) (this_guest : Nat → Int32) (this_home : Nat → Int32) (this_next : Nat → Int64) (this_skill : Nat → Int32) (this_told : Nat → Int32) (this_ways : Nat → Int64) (x2 : Int32) (x3 : Int32) (x4 : Int32) (x5 : Int32) (x6 : Int64) (x8 : Int64) (x10 : Int32) (hT : t_X11_layLikely_41   n this_upper this_lower this_guest this_home this_next this_skill this_told this_ways x2 x3 x4 x5 x6 x8 x10 = some (z0, z1, z2, z3)), J p l e rmX11_layLikely s m args below meth c D A 13 (QV D below args s A (w_X11_layLikely cI cJ cZ h_this q_this this_matches this_stakes this_meetings this_newsFirst this_newsHour this_acts this_stories this_signs this_ruleMany z0 z1 this_greatAt this_sides this_guest this_home z2 this_skill this_told z3)) 0 0 (w_X11_layLikely cI cJ cZ h_this q_this this_matches this_stakes this_meetings this_newsFirst this_newsHour this_acts this_stories this_signs this_ruleMany this_upper this_lower this_greatAt this_sides this_guest this_home this_next this_skill this_told this_ways) [(0, .ref h_this), (2, .int x2), (3, .int x3), (4, .int x4), (5, .int x5), (6, .long x6), (8, .long x8), (10, .int x10)] [] 41 := by
  intro n
  induction n with
  | zero => intro this_upper this_lower this_guest this_home this_next this_skill this_told this_ways x2 x3 x4 x5 x6 x8 x10 hT; cases hT
  | succ n ih =>
    intro this_upper this_lower this_guest this_home this_next this_skill this_told this_ways x2 x3 x4 x5 x6 x8 x10 hT
    exact b_X11_layLikely_41_b X cI cJ cZ h_this q_this this_matches this_stakes this_meetings this_newsFirst this_newsHour this_acts this_stories this_signs this_ruleMany this_greatAt this_sides z0 z1 z2 z3  (t_X11_layLikely_41   n) ih this_upper this_lower this_guest this_home this_next this_skill this_told this_ways x2 x3 x4 x5 x6 x8 x10 hT
set_option maxHeartbeats 4000000 in
set_option maxRecDepth 100000 in
theorem c_X11_layLikely (l : Launch) (D : va_G) (cI cJ cZ : ClassId) (h_this : Nat) (q_this : Nat → Nat) (this_matches : Int32) (this_stakes : Int32) (this_meetings : Int32) (this_newsFirst : Int32) (this_newsHour : Int32) (this_acts : Int32) (this_stories : Int32) (this_signs : Int32) (this_ruleMany : Int32) (this_upper : Int64) (this_lower : Int64) (this_greatAt : Int32) (this_sides : Int32) (this_guest : Nat → Int32) (this_home : Nat → Int32) (this_next : Nat → Int64) (this_skill : Nat → Int32) (this_told : Nat → Int32) (this_ways : Nat → Int64) (x1 : Int32) (x2 : Int32) (x3 : Int32) (x4 : Int32) (x5 : Int32) (z0 : Int64) (z1 : Int64) (z2 : Nat → Int64) (z3 : Nat → Int64) (hT : t_X11_layLikely  this_upper this_lower this_guest this_home this_next this_skill this_told this_ways x1 x2 x3 x4 x5 = some (z0, z1, z2, z3)) : Cv l yX11_layLikely wsX11_layLikely rmX11_layLikely D (tys3 cI cJ cZ) [.ref h_this, .int x1, .int x2, .int x3, .int x4, .int x5] (w_X11_layLikely cI cJ cZ h_this q_this this_matches this_stakes this_meetings this_newsFirst this_newsHour this_acts this_stories this_signs this_ruleMany this_upper this_lower this_greatAt this_sides this_guest this_home this_next this_skill this_told this_ways) (w_X11_layLikely cI cJ cZ h_this q_this this_matches this_stakes this_meetings this_newsFirst this_newsHour this_acts this_stories this_signs this_ruleMany z0 z1 this_greatAt this_sides this_guest this_home z2 this_skill this_told z3) := by
  refine Cv.ofJ (cc := cX11_layLikely) (nL := 13) (rt := none) (own := RX11) (by decide) rfl rfl (Nat.le_of_ble_eq_true rfl) ?_
  intro p e s m below meth c A X
  unfold t_X11_layLikely at hT
  refine J_lv (lv' := [(0, .ref h_this), (1, .int x1), (2, .int x2), (3, .int x3), (4, .int x4), (5, .int x5)]) [0, 1, 2, 3, 4, 5] rfl ?_
  refine J_aload_n X dX11_layLikely_0 0 rfl ?_
  refine J_aload_n X dX11_layLikely_1 0 rfl ?_
  refine J_get (C := RX11) (T := TX11) (N := 54) (ci := 11) (v := .ref (q_this 3)) X in_X11_layLikely_X11 0 rfl rfl 3 (by decide) m_X11_layLikely_f16 rfl dX11_layLikely_2 ?_
  refine J_iload_n X dX11_layLikely_5 1 rfl ?_
  obtain ⟨hk23, hT⟩ := ckn_e hT
  refine J_iald X 2 rfl rfl hk23 dX11_layLikely_6 ?_
  refine J_aload_n X dX11_layLikely_7 0 rfl ?_
  refine J_get (C := RX11) (T := TX11) (N := 54) (ci := 11) (v := .ref (q_this 4)) X in_X11_layLikely_X11 0 rfl rfl 4 (by decide) m_X11_layLikely_f19 rfl dX11_layLikely_8 ?_
  refine J_iload_n X dX11_layLikely_11 1 rfl ?_
  obtain ⟨hk24, hT⟩ := ckn_e hT
  refine J_iald X 1 rfl rfl hk24 dX11_layLikely_12 ?_
  obtain ⟨v25, hq25, hT⟩ := bd1_e hT
  refine J_ci (wc := (w_X11_chance cI cJ cZ h_this q_this this_matches this_stakes this_meetings this_newsFirst this_newsHour this_acts this_stories this_signs this_ruleMany this_upper this_lower this_greatAt this_sides this_skill this_told)) (wc' := (w_X11_chance cI cJ cZ h_this q_this this_matches this_stakes this_meetings this_newsFirst this_newsHour this_acts this_stories this_signs this_ruleMany this_upper this_lower this_greatAt this_sides this_skill this_told)) (ws' := (w_X11_layLikely cI cJ cZ h_this q_this this_matches this_stakes this_meetings this_newsFirst this_newsHour this_acts this_stories this_signs this_ruleMany this_upper this_lower this_greatAt this_sides this_guest this_home this_next this_skill this_told this_ways)) (idxs [true, false, false, false, true, true, false] 0) (idxs [false, true, true, true, false, false, true] 0) 7 rfl rfl rfl (pick_C _ rfl rfl) rfl (pick_C _ rfl rfl) rfl (pick_R _ rfl rfl rfl) (run_V (As := [.int (this_home x1.toNatClampNeg), .int (this_guest x1.toNatClampNeg)]) (rest := []) X (c_X11_chance l D cI cJ cZ h_this q_this this_matches this_stakes this_meetings this_newsFirst this_newsHour this_acts this_stories this_signs this_ruleMany this_upper this_lower this_greatAt this_sides this_skill this_told (this_home x1.toNatClampNeg) (this_guest x1.toNatClampNeg) v25 hq25) (cw_X11_layLikely_X11_chance_164 X.1.2.2.2.2) 0 rfl rfl rfl rfl (Nat.le_of_ble_eq_true rfl) dX11_layLikely_13 ⟨Nat.zero_le _, Nat.zero_le _⟩) ?_
  refine J_i2l X dX11_layLikely_16 ?_
  refine J_lstore (lv' := [(6, .long (v25.toInt64)), (0, .ref h_this), (1, .int x1), (2, .int x2), (3, .int x3), (4, .int x4), (5, .int x5)]) X dX11_layLikely_17 (by decide) rfl ?_
  refine J_aload_n X dX11_layLikely_19 1 rfl ?_
  refine J_aload_n X dX11_layLikely_20 1 rfl ?_
  refine J_get (C := RX11) (T := TX11) (N := 54) (ci := 11) (v := .ref (q_this 4)) X in_X11_layLikely_X11 0 rfl rfl 4 (by decide) m_X11_layLikely_f19 rfl dX11_layLikely_21 ?_
  refine J_iload_n X dX11_layLikely_24 2 rfl ?_
  obtain ⟨hk26, hT⟩ := ckn_e hT
  refine J_iald X 1 rfl rfl hk26 dX11_layLikely_25 ?_
  refine J_aload_n X dX11_layLikely_26 1 rfl ?_
  refine J_get (C := RX11) (T := TX11) (N := 54) (ci := 11) (v := .ref (q_this 3)) X in_X11_layLikely_X11 0 rfl rfl 3 (by decide) m_X11_layLikely_f16 rfl dX11_layLikely_27 ?_
  refine J_iload_n X dX11_layLikely_30 2 rfl ?_
  obtain ⟨hk27, hT⟩ := ckn_e hT
  refine J_iald X 2 rfl rfl hk27 dX11_layLikely_31 ?_
  obtain ⟨v28, hq28, hT⟩ := bd1_e hT
  refine J_ci (wc := (w_X11_chance cI cJ cZ h_this q_this this_matches this_stakes this_meetings this_newsFirst this_newsHour this_acts this_stories this_signs this_ruleMany this_upper this_lower this_greatAt this_sides this_skill this_told)) (wc' := (w_X11_chance cI cJ cZ h_this q_this this_matches this_stakes this_meetings this_newsFirst this_newsHour this_acts this_stories this_signs this_ruleMany this_upper this_lower this_greatAt this_sides this_skill this_told)) (ws' := (w_X11_layLikely cI cJ cZ h_this q_this this_matches this_stakes this_meetings this_newsFirst this_newsHour this_acts this_stories this_signs this_ruleMany this_upper this_lower this_greatAt this_sides this_guest this_home this_next this_skill this_told this_ways)) (idxs [true, false, false, false, true, true, false] 0) (idxs [false, true, true, true, false, false, true] 0) 7 rfl rfl rfl (pick_C _ rfl rfl) rfl (pick_C _ rfl rfl) rfl (pick_R _ rfl rfl rfl) (run_V (As := [.int (this_guest x1.toNatClampNeg), .int (this_home x1.toNatClampNeg)]) (rest := []) X (c_X11_chance l D cI cJ cZ h_this q_this this_matches this_stakes this_meetings this_newsFirst this_newsHour this_acts this_stories this_signs this_ruleMany this_upper this_lower this_greatAt this_sides this_skill this_told (this_guest x1.toNatClampNeg) (this_home x1.toNatClampNeg) v28 hq28) (cw_X11_layLikely_X11_chance_164 X.1.2.2.2.2) 0 rfl rfl rfl rfl (Nat.le_of_ble_eq_true rfl) dX11_layLikely_32 ⟨Nat.zero_le _, Nat.zero_le _⟩) ?_
  refine J_i2l X dX11_layLikely_35 ?_
  refine J_lstore (lv' := [(8, .long (v28.toInt64)), (6, .long (v25.toInt64)), (0, .ref h_this), (1, .int x1), (2, .int x2), (3, .int x3), (4, .int x4), (5, .int x5)]) X dX11_layLikely_36 (by decide) rfl ?_
  refine J_iconst (v := 0) X dX11_layLikely_38 (by decide) ?_
  refine J_istore (lv' := [(10, .int (0 : Int32)), (8, .long (v28.toInt64)), (6, .long (v25.toInt64)), (0, .ref h_this), (1, .int x1), (2, .int x2), (3, .int x3), (4, .int x4), (5, .int x5)]) X dX11_layLikely_39 (by decide) rfl ?_
  refine J_lv (lv' := [(0, .ref h_this), (2, .int x2), (3, .int x3), (4, .int x4), (5, .int x5), (6, .long (v25.toInt64)), (8, .long (v28.toInt64)), (10, .int (0 : Int32))]) [3, 5, 6, 7, 8, 2, 1, 0] rfl ?_
  exact b_X11_layLikely_41 X cI cJ cZ h_this q_this this_matches this_stakes this_meetings this_newsFirst this_newsHour this_acts this_stories this_signs this_ruleMany this_greatAt this_sides z0 z1 z2 z3  lfuel this_upper this_lower this_guest this_home this_next this_skill this_told this_ways x2 x3 x4 x5 (v25.toInt64) (v28.toInt64) (0 : Int32) hT
-- ===== SoldMatchesModel.likely(IIIIII)J
abbrev rmX11_likely : Room := { frames := 2, cells := 0, slots := 0, locals := 55 }
def w_X11_likely (cI cJ cZ : ClassId) (h_this : Nat) (q_this : Nat → Nat) (this_matches : Int32) (this_stakes : Int32) (this_meetings : Int32) (this_newsFirst : Int32) (this_newsHour : Int32) (this_acts : Int32) (this_stories : Int32) (this_signs : Int32) (this_ruleMany : Int32) (this_upper : Int64) (this_lower : Int64) (this_greatAt : Int32) (this_sides : Int32) (this_guest : Nat → Int32) (this_home : Nat → Int32) (this_next : Nat → Int64) (this_skill : Nat → Int32) (this_told : Nat → Int32) (this_ways : Nat → Int64) : va_W := [(h_this, .inr (11, oFX11 q_this this_matches this_stakes this_meetings this_newsFirst this_newsHour this_acts this_stories this_signs this_ruleMany this_upper this_lower this_greatAt this_sides)), ((q_this 4), .inl (cI, 12, .inl this_guest)), ((q_this 3), .inl (cI, 12, .inl this_home)), ((q_this 40), .inl (cJ, 13, .inr (.inl this_next))), ((q_this 0), .inl (cI, 8, .inl this_skill)), ((q_this 10), .inl (cI, 5, .inl this_told)), ((q_this 39), .inl (cJ, 13, .inr (.inl this_ways)))]
theorem cw_X11_likely_X11_isMatch_153 {s : State} {args : Array Value} (hts : ∀ w ∈ wsX11_likely, w.before args s = true) : CallW rmX11_likely s args RX11 RX11 153 yX11_isMatch cX11_isMatch 2 (some .boolean) wsX11_isMatch rmX11_isMatch 0 0 1 := cwV 1 hts gX11_likely_X11_isMatch rfl rfl rfl (by decide +kernel) ⟨by decide, by decide⟩
theorem cw_X11_likely_X11_in_138 {s : State} {args : Array Value} (hts : ∀ w ∈ wsX11_likely, w.before args s = true) : CallB rmX11_likely s args RX11 138 yX11_in cX11_in 3 (some .boolean) wsX11_in rmX11_in 0 0 3 ∧ (Cond.static yX11_in).before args s = true := va_cwS 3 hts gX11_likely_X11_in rfl rfl rfl (by decide +kernel) ⟨by decide, by decide⟩
theorem m_X11_likely_c179 : Cond.constantLong RX11 179 (-1000000000000000002) ∈ wsX11_likely := List.mem_of_getElem? (i := 2) rfl
theorem cw_X11_likely_X11_layLikely_181 {s : State} {args : Array Value} (hts : ∀ w ∈ wsX11_likely, w.before args s = true) : CallW rmX11_likely s args RX11 RX11 181 yX11_layLikely cX11_layLikely 13 none wsX11_layLikely rmX11_layLikely 0 0 5 := cwV 5 hts gX11_likely_X11_layLikely rfl rfl rfl (by decide +kernel) ⟨by decide, by decide⟩
theorem m_X11_likely_f174 : Cond.fieldLink RX11 174 "SoldMatchesModel" "upper" "J" ∈ wsX11_likely := List.mem_of_getElem? (i := 3) rfl
theorem in_X11_likely_X11 : ∀ w ∈ wsX110, w ∈ wsX11_likely := fun w h => List.mem_cons_of_mem _ (List.mem_append_right _ h)
theorem m_X11_likely_f168 : Cond.fieldLink RX11 168 "SoldMatchesModel" "lower" "J" ∈ wsX11_likely := List.mem_of_getElem? (i := 4) rfl
theorem cw_X11_likely_X11_term_185 {s : State} {args : Array Value} (hts : ∀ w ∈ wsX11_likely, w.before args s = true) : CallB rmX11_likely s args RX11 185 yX11_term cX11_term 7 (some .long) wsX11_term rmX11_term 0 0 3 ∧ (Cond.static yX11_term).before args s = true := va_cwS 3 hts gX11_likely_X11_term rfl rfl rfl (by decide +kernel) ⟨by decide, by decide⟩
theorem m_X11_likely_c177 : Cond.constantLong RX11 177 (-1000000000000000001) ∈ wsX11_likely := List.mem_of_getElem? (i := 1) rfl
def t_X11_likely  (this_matches : Int32) (this_upper : Int64) (this_lower : Int64) (this_guest : Nat → Int32) (this_home : Nat → Int32) (this_next : Nat → Int64) (this_skill : Nat → Int32) (this_told : Nat → Int32) (this_ways : Nat → Int64) (x1 : Int32) (x2 : Int32) (x3 : Int32) (x4 : Int32) (x5 : Int32) (x6 : Int32) : Option (Int64 × Int64 × Int64 × (Nat → Int64) × (Nat → Int64)) := bd1 (t_X11_isMatch this_matches x1) (fun v1 => if v1 = 0 then (some ((-1000000000000000001 : Int64), this_upper, this_lower, this_next, this_ways)) else (bd1 (t_X11_in x2 (0 : Int32) (6 : Int32)) (fun v3 => if v3 = 0 then (some ((-1000000000000000002 : Int64), this_upper, this_lower, this_next, this_ways)) else (bd1 (t_X11_in x3 (0 : Int32) (6 : Int32)) (fun v5 => if v5 = 0 then (some ((-1000000000000000002 : Int64), this_upper, this_lower, this_next, this_ways)) else (bd1 (t_X11_in x4 (0 : Int32) (6 : Int32)) (fun v7 => if v7 = 0 then (some ((-1000000000000000002 : Int64), this_upper, this_lower, this_next, this_ways)) else (bd1 (t_X11_in x5 (0 : Int32) (2 : Int32)) (fun v9 => if v9 = 0 then (some ((-1000000000000000002 : Int64), this_upper, this_lower, this_next, this_ways)) else (bd1 (t_X11_in x6 (0 : Int32) (1 : Int32)) (fun v11 => if v11 = 0 then (some ((-1000000000000000002 : Int64), this_upper, this_lower, this_next, this_ways)) else (bd4 (t_X11_layLikely this_upper this_lower this_guest this_home this_next this_skill this_told this_ways x1 x2 x3 x4 x5) (fun u13_0 u13_1 u13_2 u13_3 => bd1 (t_X11_term u13_0 u13_1 x6) (fun v14 => some (v14, u13_0, u13_1, u13_2, u13_3)))))))))))))))
set_option maxHeartbeats 4000000 in
set_option maxRecDepth 100000 in
theorem c_X11_likely (l : Launch) (D : va_G) (cI cJ cZ : ClassId) (h_this : Nat) (q_this : Nat → Nat) (this_matches : Int32) (this_stakes : Int32) (this_meetings : Int32) (this_newsFirst : Int32) (this_newsHour : Int32) (this_acts : Int32) (this_stories : Int32) (this_signs : Int32) (this_ruleMany : Int32) (this_upper : Int64) (this_lower : Int64) (this_greatAt : Int32) (this_sides : Int32) (this_guest : Nat → Int32) (this_home : Nat → Int32) (this_next : Nat → Int64) (this_skill : Nat → Int32) (this_told : Nat → Int32) (this_ways : Nat → Int64) (x1 : Int32) (x2 : Int32) (x3 : Int32) (x4 : Int32) (x5 : Int32) (x6 : Int32) (r : Int64) (z0 : Int64) (z1 : Int64) (z2 : Nat → Int64) (z3 : Nat → Int64) (hT : t_X11_likely  this_matches this_upper this_lower this_guest this_home this_next this_skill this_told this_ways x1 x2 x3 x4 x5 x6 = some (r, z0, z1, z2, z3)) : Cl l yX11_likely wsX11_likely rmX11_likely D (tys3 cI cJ cZ) [.ref h_this, .int x1, .int x2, .int x3, .int x4, .int x5, .int x6] (w_X11_likely cI cJ cZ h_this q_this this_matches this_stakes this_meetings this_newsFirst this_newsHour this_acts this_stories this_signs this_ruleMany this_upper this_lower this_greatAt this_sides this_guest this_home this_next this_skill this_told this_ways) r (w_X11_likely cI cJ cZ h_this q_this this_matches this_stakes this_meetings this_newsFirst this_newsHour this_acts this_stories this_signs this_ruleMany z0 z1 this_greatAt this_sides this_guest this_home z2 this_skill this_told z3) := by
  refine Cl.ofJ (cc := cX11_likely) (nL := 7) (rt := (some .long)) (own := RX11) (by decide) rfl rfl (Nat.le_of_ble_eq_true rfl) ?_
  intro p e s m below meth c A X
  unfold t_X11_likely at hT
  refine J_lv (lv' := [(0, .ref h_this), (1, .int x1), (2, .int x2), (3, .int x3), (4, .int x4), (5, .int x5), (6, .int x6)]) [0, 1, 2, 3, 4, 5, 6] rfl ?_
  refine J_aload_n X dX11_likely_0 0 rfl ?_
  refine J_iload_n X dX11_likely_1 1 rfl ?_
  obtain ⟨v1, hq1, hT⟩ := bd1_e hT
  refine J_ci (wc := (w_X11_isMatch cI cJ cZ h_this q_this this_matches this_stakes this_meetings this_newsFirst this_newsHour this_acts this_stories this_signs this_ruleMany this_upper this_lower this_greatAt this_sides)) (wc' := (w_X11_isMatch cI cJ cZ h_this q_this this_matches this_stakes this_meetings this_newsFirst this_newsHour this_acts this_stories this_signs this_ruleMany this_upper this_lower this_greatAt this_sides)) (ws' := (w_X11_likely cI cJ cZ h_this q_this this_matches this_stakes this_meetings this_newsFirst this_newsHour this_acts this_stories this_signs this_ruleMany this_upper this_lower this_greatAt this_sides this_guest this_home this_next this_skill this_told this_ways)) (idxs [true, false, false, false, false, false, false] 0) (idxs [false, true, true, true, true, true, true] 0) 7 rfl rfl rfl (pick_C _ rfl rfl) rfl (pick_C _ rfl rfl) rfl (pick_R _ rfl rfl rfl) (run_V (As := [.int x1]) (rest := []) X (c_X11_isMatch l D cI cJ cZ h_this q_this this_matches this_stakes this_meetings this_newsFirst this_newsHour this_acts this_stories this_signs this_ruleMany this_upper this_lower this_greatAt this_sides x1 v1 hq1) (cw_X11_likely_X11_isMatch_153 X.1.2.2.2.2) 0 rfl rfl rfl rfl (Nat.le_of_ble_eq_true rfl) dX11_likely_2 ⟨Nat.zero_le _, Nat.zero_le _⟩) ?_
  refine J_if_ne (tgt := 12) X dX11_likely_5 (by decide) (fun hc2 => ?_) (fun hc2 => ?_)
  · have hT := iff_ hT hc2
    refine J_iload_n X dX11_likely_12 2 rfl ?_
    refine J_iconst (v := 0) X dX11_likely_13 (by decide) ?_
    refine J_bipush (v := 6) X dX11_likely_14 (by decide) ?_
    obtain ⟨v3, hq3, hT⟩ := bd1_e hT
    refine J_ci (wc := (w_X11_in cI cJ cZ )) (wc' := (w_X11_in cI cJ cZ )) (ws' := (w_X11_likely cI cJ cZ h_this q_this this_matches this_stakes this_meetings this_newsFirst this_newsHour this_acts this_stories this_signs this_ruleMany this_upper this_lower this_greatAt this_sides this_guest this_home this_next this_skill this_told this_ways)) (idxs [false, false, false, false, false, false, false] 0) (idxs [true, true, true, true, true, true, true] 0) 7 rfl rfl rfl (pick_C _ rfl rfl) rfl (pick_C _ rfl rfl) rfl (pick_R _ rfl rfl rfl) (run_S (As := [.int x2, .int (0 : Int32), .int (6 : Int32)]) (rest := []) X (c_X11_in l D cI cJ cZ  x2 (0 : Int32) (6 : Int32) v3 hq3) (cw_X11_likely_X11_in_138 X.1.2.2.2.2) rfl rfl (Nat.le_of_ble_eq_true rfl) dX11_likely_16 ⟨Nat.zero_le _, Nat.zero_le _⟩) ?_
    refine J_if_eq (tgt := 63) X dX11_likely_19 (by decide) (fun hc4 => ?_) (fun hc4 => ?_)
    · have hT := ift hT hc4
      refine J_ldc2 X dX11_likely_63 m_X11_likely_c179 ?_
      cases hT
      exact J_lret X dX11_likely_66
    · have hT := iff_ hT hc4
      refine J_iload_n X dX11_likely_22 3 rfl ?_
      refine J_iconst (v := 0) X dX11_likely_23 (by decide) ?_
      refine J_bipush (v := 6) X dX11_likely_24 (by decide) ?_
      obtain ⟨v5, hq5, hT⟩ := bd1_e hT
      refine J_ci (wc := (w_X11_in cI cJ cZ )) (wc' := (w_X11_in cI cJ cZ )) (ws' := (w_X11_likely cI cJ cZ h_this q_this this_matches this_stakes this_meetings this_newsFirst this_newsHour this_acts this_stories this_signs this_ruleMany this_upper this_lower this_greatAt this_sides this_guest this_home this_next this_skill this_told this_ways)) (idxs [false, false, false, false, false, false, false] 0) (idxs [true, true, true, true, true, true, true] 0) 7 rfl rfl rfl (pick_C _ rfl rfl) rfl (pick_C _ rfl rfl) rfl (pick_R _ rfl rfl rfl) (run_S (As := [.int x3, .int (0 : Int32), .int (6 : Int32)]) (rest := []) X (c_X11_in l D cI cJ cZ  x3 (0 : Int32) (6 : Int32) v5 hq5) (cw_X11_likely_X11_in_138 X.1.2.2.2.2) rfl rfl (Nat.le_of_ble_eq_true rfl) dX11_likely_26 ⟨Nat.zero_le _, Nat.zero_le _⟩) ?_
      refine J_if_eq (tgt := 63) X dX11_likely_29 (by decide) (fun hc6 => ?_) (fun hc6 => ?_)
      · have hT := ift hT hc6
        refine J_ldc2 X dX11_likely_63 m_X11_likely_c179 ?_
        cases hT
        exact J_lret X dX11_likely_66
      · have hT := iff_ hT hc6
        refine J_iload X dX11_likely_32 4 rfl ?_
        refine J_iconst (v := 0) X dX11_likely_34 (by decide) ?_
        refine J_bipush (v := 6) X dX11_likely_35 (by decide) ?_
        obtain ⟨v7, hq7, hT⟩ := bd1_e hT
        refine J_ci (wc := (w_X11_in cI cJ cZ )) (wc' := (w_X11_in cI cJ cZ )) (ws' := (w_X11_likely cI cJ cZ h_this q_this this_matches this_stakes this_meetings this_newsFirst this_newsHour this_acts this_stories this_signs this_ruleMany this_upper this_lower this_greatAt this_sides this_guest this_home this_next this_skill this_told this_ways)) (idxs [false, false, false, false, false, false, false] 0) (idxs [true, true, true, true, true, true, true] 0) 7 rfl rfl rfl (pick_C _ rfl rfl) rfl (pick_C _ rfl rfl) rfl (pick_R _ rfl rfl rfl) (run_S (As := [.int x4, .int (0 : Int32), .int (6 : Int32)]) (rest := []) X (c_X11_in l D cI cJ cZ  x4 (0 : Int32) (6 : Int32) v7 hq7) (cw_X11_likely_X11_in_138 X.1.2.2.2.2) rfl rfl (Nat.le_of_ble_eq_true rfl) dX11_likely_37 ⟨Nat.zero_le _, Nat.zero_le _⟩) ?_
        refine J_if_eq (tgt := 63) X dX11_likely_40 (by decide) (fun hc8 => ?_) (fun hc8 => ?_)
        · have hT := ift hT hc8
          refine J_ldc2 X dX11_likely_63 m_X11_likely_c179 ?_
          cases hT
          exact J_lret X dX11_likely_66
        · have hT := iff_ hT hc8
          refine J_iload X dX11_likely_43 5 rfl ?_
          refine J_iconst (v := 0) X dX11_likely_45 (by decide) ?_
          refine J_iconst (v := 2) X dX11_likely_46 (by decide) ?_
          obtain ⟨v9, hq9, hT⟩ := bd1_e hT
          refine J_ci (wc := (w_X11_in cI cJ cZ )) (wc' := (w_X11_in cI cJ cZ )) (ws' := (w_X11_likely cI cJ cZ h_this q_this this_matches this_stakes this_meetings this_newsFirst this_newsHour this_acts this_stories this_signs this_ruleMany this_upper this_lower this_greatAt this_sides this_guest this_home this_next this_skill this_told this_ways)) (idxs [false, false, false, false, false, false, false] 0) (idxs [true, true, true, true, true, true, true] 0) 7 rfl rfl rfl (pick_C _ rfl rfl) rfl (pick_C _ rfl rfl) rfl (pick_R _ rfl rfl rfl) (run_S (As := [.int x5, .int (0 : Int32), .int (2 : Int32)]) (rest := []) X (c_X11_in l D cI cJ cZ  x5 (0 : Int32) (2 : Int32) v9 hq9) (cw_X11_likely_X11_in_138 X.1.2.2.2.2) rfl rfl (Nat.le_of_ble_eq_true rfl) dX11_likely_47 ⟨Nat.zero_le _, Nat.zero_le _⟩) ?_
          refine J_if_eq (tgt := 63) X dX11_likely_50 (by decide) (fun hc10 => ?_) (fun hc10 => ?_)
          · have hT := ift hT hc10
            refine J_ldc2 X dX11_likely_63 m_X11_likely_c179 ?_
            cases hT
            exact J_lret X dX11_likely_66
          · have hT := iff_ hT hc10
            refine J_iload X dX11_likely_53 6 rfl ?_
            refine J_iconst (v := 0) X dX11_likely_55 (by decide) ?_
            refine J_iconst (v := 1) X dX11_likely_56 (by decide) ?_
            obtain ⟨v11, hq11, hT⟩ := bd1_e hT
            refine J_ci (wc := (w_X11_in cI cJ cZ )) (wc' := (w_X11_in cI cJ cZ )) (ws' := (w_X11_likely cI cJ cZ h_this q_this this_matches this_stakes this_meetings this_newsFirst this_newsHour this_acts this_stories this_signs this_ruleMany this_upper this_lower this_greatAt this_sides this_guest this_home this_next this_skill this_told this_ways)) (idxs [false, false, false, false, false, false, false] 0) (idxs [true, true, true, true, true, true, true] 0) 7 rfl rfl rfl (pick_C _ rfl rfl) rfl (pick_C _ rfl rfl) rfl (pick_R _ rfl rfl rfl) (run_S (As := [.int x6, .int (0 : Int32), .int (1 : Int32)]) (rest := []) X (c_X11_in l D cI cJ cZ  x6 (0 : Int32) (1 : Int32) v11 hq11) (cw_X11_likely_X11_in_138 X.1.2.2.2.2) rfl rfl (Nat.le_of_ble_eq_true rfl) dX11_likely_57 ⟨Nat.zero_le _, Nat.zero_le _⟩) ?_
            refine J_if_ne (tgt := 67) X dX11_likely_60 (by decide) (fun hc12 => ?_) (fun hc12 => ?_)
            · have hT := iff_ hT hc12
              refine J_aload_n X dX11_likely_67 0 rfl ?_
              refine J_iload_n X dX11_likely_68 1 rfl ?_
              refine J_iload_n X dX11_likely_69 2 rfl ?_
              refine J_iload_n X dX11_likely_70 3 rfl ?_
              refine J_iload X dX11_likely_71 4 rfl ?_
              refine J_iload X dX11_likely_73 5 rfl ?_
              obtain ⟨u13_0, u13_1, u13_2, u13_3, hq13, hT⟩ := bd4_e hT
              refine J_cv (wc := (w_X11_layLikely cI cJ cZ h_this q_this this_matches this_stakes this_meetings this_newsFirst this_newsHour this_acts this_stories this_signs this_ruleMany this_upper this_lower this_greatAt this_sides this_guest this_home this_next this_skill this_told this_ways)) (wc' := (w_X11_layLikely cI cJ cZ h_this q_this this_matches this_stakes this_meetings this_newsFirst this_newsHour this_acts this_stories this_signs this_ruleMany u13_0 u13_1 this_greatAt this_sides this_guest this_home u13_2 this_skill this_told u13_3)) (ws' := (w_X11_likely cI cJ cZ h_this q_this this_matches this_stakes this_meetings this_newsFirst this_newsHour this_acts this_stories this_signs this_ruleMany u13_0 u13_1 this_greatAt this_sides this_guest this_home u13_2 this_skill this_told u13_3)) (idxs [true, true, true, true, true, true, true] 0) (idxs [false, false, false, false, false, false, false] 0) 7 rfl rfl rfl (pick_C _ rfl rfl) rfl (pick_C _ rfl rfl) rfl (pick_R _ rfl rfl rfl) (run_V (As := [.int x1, .int x2, .int x3, .int x4, .int x5]) (rest := []) X (c_X11_layLikely l D cI cJ cZ h_this q_this this_matches this_stakes this_meetings this_newsFirst this_newsHour this_acts this_stories this_signs this_ruleMany this_upper this_lower this_greatAt this_sides this_guest this_home this_next this_skill this_told this_ways x1 x2 x3 x4 x5 u13_0 u13_1 u13_2 u13_3 hq13) (cw_X11_likely_X11_layLikely_181 X.1.2.2.2.2) 0 rfl rfl rfl rfl (Nat.le_of_ble_eq_true rfl) dX11_likely_75 ⟨Nat.zero_le _, Nat.zero_le _⟩) ?_
              refine J_aload_n X dX11_likely_78 0 rfl ?_
              refine J_get (C := RX11) (T := TX11) (N := 54) (ci := 11) (v := .long u13_0) X in_X11_likely_X11 0 rfl rfl 41 (by decide) m_X11_likely_f174 rfl dX11_likely_79 ?_
              refine J_aload_n X dX11_likely_82 0 rfl ?_
              refine J_get (C := RX11) (T := TX11) (N := 54) (ci := 11) (v := .long u13_1) X in_X11_likely_X11 0 rfl rfl 42 (by decide) m_X11_likely_f168 rfl dX11_likely_83 ?_
              refine J_iload X dX11_likely_86 6 rfl ?_
              obtain ⟨v14, hq14, hT⟩ := bd1_e hT
              refine J_cl (wc := (w_X11_term cI cJ cZ )) (wc' := (w_X11_term cI cJ cZ )) (ws' := (w_X11_likely cI cJ cZ h_this q_this this_matches this_stakes this_meetings this_newsFirst this_newsHour this_acts this_stories this_signs this_ruleMany u13_0 u13_1 this_greatAt this_sides this_guest this_home u13_2 this_skill this_told u13_3)) (idxs [false, false, false, false, false, false, false] 0) (idxs [true, true, true, true, true, true, true] 0) 7 rfl rfl rfl (pick_C _ rfl rfl) rfl (pick_C _ rfl rfl) rfl (pick_R _ rfl rfl rfl) (run_S (As := [.long u13_0, .long u13_1, .int x6]) (rest := []) X (c_X11_term l D cI cJ cZ  u13_0 u13_1 x6 v14 hq14) (cw_X11_likely_X11_term_185 X.1.2.2.2.2) rfl rfl (Nat.le_of_ble_eq_true rfl) dX11_likely_88 ⟨Nat.zero_le _, Nat.zero_le _⟩) ?_
              cases hT
              exact J_lret X dX11_likely_91
            · have hT := ift hT hc12
              refine J_ldc2 X dX11_likely_63 m_X11_likely_c179 ?_
              cases hT
              exact J_lret X dX11_likely_66
  · have hT := ift hT hc2
    refine J_ldc2 X dX11_likely_8 m_X11_likely_c177 ?_
    cases hT
    exact J_lret X dX11_likely_11
-- ===== SoldMatchesModel.set(II)I
abbrev rmX11_set : Room := { frames := 1, cells := 0, slots := 0, locals := 22 }
def w_X11_set (cI cJ cZ : ClassId) (h_this : Nat) (q_this : Nat → Nat) (this_matches : Int32) (this_stakes : Int32) (this_meetings : Int32) (this_newsFirst : Int32) (this_newsHour : Int32) (this_acts : Int32) (this_stories : Int32) (this_signs : Int32) (this_ruleMany : Int32) (this_upper : Int64) (this_lower : Int64) (this_greatAt : Int32) (this_sides : Int32) (this_told : Nat → Int32) : va_W := [(h_this, .inr (11, oFX11 q_this this_matches this_stakes this_meetings this_newsFirst this_newsHour this_acts this_stories this_signs this_ruleMany this_upper this_lower this_greatAt this_sides)), ((q_this 10), .inl (cI, 5, .inl this_told))]
theorem cw_X11_set_X11_in_138 {s : State} {args : Array Value} (hts : ∀ w ∈ wsX11_set, w.before args s = true) : CallB rmX11_set s args RX11 138 yX11_in cX11_in 3 (some .boolean) wsX11_in rmX11_in 0 0 3 ∧ (Cond.static yX11_in).before args s = true := va_cwS 3 hts gX11_set_X11_in rfl rfl rfl (by decide +kernel) ⟨by decide, by decide⟩
theorem m_X11_set_f37 : Cond.fieldLink RX11 37 "SoldMatchesModel" "told" "[I" ∈ wsX11_set := List.mem_of_getElem? (i := 1) rfl
theorem in_X11_set_X11 : ∀ w ∈ wsX110, w ∈ wsX11_set := fun w h => List.mem_cons_of_mem _ (List.mem_append_right _ h)
def t_X11_set_64   (this_told : Nat → Int32) (x1 : Int32) (x2 : Int32) (x3 : Int32) (s0 : Int32) (s1 : Int32) : Option (Int32 × (Nat → Int32)) := bd1 (t_X11_in s1 s0 x3) (fun v1 => if v1 = 0 then (some ((-2 : Int32), this_told)) else (ckn (x1 < 0 ∨ 5 ≤ x1.toNatClampNeg) (ckn (x1 < 0 ∨ 5 ≤ x1.toNatClampNeg) (some (this_told x1.toNatClampNeg, upd this_told x1.toNatClampNeg x2)))))
def t_X11_set_52   (this_told : Nat → Int32) (x1 : Int32) (x2 : Int32) (s0 : Int32) : Option (Int32 × (Nat → Int32)) := if (2 : Int32) ≤ x1 then (t_X11_set_64   this_told x1 x2 s0 (1 : Int32) x2) else (t_X11_set_64   this_told x1 x2 s0 (0 : Int32) x2)
def t_X11_set  (this_told : Nat → Int32) (x1 : Int32) (x2 : Int32) : Option (Int32 × (Nat → Int32)) := bd1 (t_X11_in x1 (0 : Int32) (4 : Int32)) (fun v6 => if v6 = 0 then (some ((-2 : Int32), this_told)) else (if x1 = 0 then (t_X11_set_52   this_told x1 x2 (40 : Int32)) else (if x1 = (1 : Int32) then (t_X11_set_52   this_told x1 x2 (89 : Int32)) else (if x1 = (2 : Int32) then (t_X11_set_52   this_told x1 x2 (10 : Int32)) else (if x1 = (3 : Int32) then (t_X11_set_52   this_told x1 x2 (20 : Int32)) else (t_X11_set_52   this_told x1 x2 (4 : Int32)))))))
set_option maxHeartbeats 4000000 in
set_option maxRecDepth 100000 in
theorem b_X11_set_64 {p : Program} {l : Launch} {e : Env} {s : State} {m : MethodId} {args : Array Value} {below : List Frame} {meth : Method} {c : Code} {D : va_G} {A : Nat → Prop} {cI cJ cZ : ClassId} (X : Cx p m c cX11_set 5 s args wsX11_set RX11 D (tys3 cI cJ cZ) meth (some .int)) (_ _ _ : ClassId)  (h_this : Nat) (q_this : Nat → Nat) (this_matches : Int32) (this_stakes : Int32) (this_meetings : Int32) (this_newsFirst : Int32) (this_newsHour : Int32) (this_acts : Int32) (this_stories : Int32) (this_signs : Int32) (this_ruleMany : Int32) (this_upper : Int64) (this_lower : Int64) (this_greatAt : Int32) (this_sides : Int32) (r : Int32) (z0 : Nat → Int32)  (this_told : Nat → Int32) (x1 : Int32) (x2 : Int32) (x3 : Int32) (s0 : Int32) (s1 : Int32) (hT : t_X11_set_64   this_told x1 x2 x3 s0 s1 = some (r, z0)) : J p l e rmX11_set s m args below meth c D A 5 (QI D below args s A r (w_X11_set cI cJ cZ h_this q_this this_matches this_stakes this_meetings this_newsFirst this_newsHour this_acts this_stories this_signs this_ruleMany this_upper this_lower this_greatAt this_sides z0)) 0 0 (w_X11_set cI cJ cZ h_this q_this this_matches this_stakes this_meetings this_newsFirst this_newsHour this_acts this_stories this_signs this_ruleMany this_upper this_lower this_greatAt this_sides this_told) [(0, .ref h_this), (1, .int x1), (2, .int x2), (3, .int x3)] [.int s0, .int s1] 64 := by
  unfold t_X11_set_64 at hT
  refine J_iload_n X dX11_set_64 3 rfl ?_
  obtain ⟨v1, hq1, hT⟩ := bd1_e hT
  refine J_ci (wc := (w_X11_in cI cJ cZ )) (wc' := (w_X11_in cI cJ cZ )) (ws' := (w_X11_set cI cJ cZ h_this q_this this_matches this_stakes this_meetings this_newsFirst this_newsHour this_acts this_stories this_signs this_ruleMany this_upper this_lower this_greatAt this_sides this_told)) [] [0, 1] 2 rfl rfl rfl rfl rfl rfl rfl rfl (run_S (As := [.int s1, .int s0, .int x3]) (rest := []) X (c_X11_in l D cI cJ cZ  s1 s0 x3 v1 hq1) (cw_X11_set_X11_in_138 X.1.2.2.2.2) rfl rfl (Nat.le_of_ble_eq_true rfl) dX11_set_65 ⟨Nat.zero_le _, Nat.zero_le _⟩) ?_
  refine J_if_ne (tgt := 74) X dX11_set_68 (by decide) (fun hc2 => ?_) (fun hc2 => ?_)
  · have hT := iff_ hT hc2
    refine J_aload_n X dX11_set_74 0 rfl ?_
    refine J_get (C := RX11) (T := TX11) (N := 54) (ci := 11) (v := .ref (q_this 10)) X in_X11_set_X11 0 rfl rfl 10 (by decide) m_X11_set_f37 rfl dX11_set_75 ?_
    refine J_iload_n X dX11_set_78 1 rfl ?_
    obtain ⟨hk3, hT⟩ := ckn_e hT
    refine J_iald X 1 rfl rfl hk3 dX11_set_79 ?_
    refine J_istore (lv' := [(4, .int (this_told x1.toNatClampNeg)), (0, .ref h_this), (1, .int x1), (2, .int x2), (3, .int x3)]) X dX11_set_80 (by decide) rfl ?_
    refine J_aload_n X dX11_set_82 1 rfl ?_
    refine J_get (C := RX11) (T := TX11) (N := 54) (ci := 11) (v := .ref (q_this 10)) X in_X11_set_X11 0 rfl rfl 10 (by decide) m_X11_set_f37 rfl dX11_set_83 ?_
    refine J_iload_n X dX11_set_86 2 rfl ?_
    refine J_iload_n X dX11_set_87 3 rfl ?_
    obtain ⟨hk4, hT⟩ := ckn_e hT
    refine J_iast (ws' := (w_X11_set cI cJ cZ h_this q_this this_matches this_stakes this_meetings this_newsFirst this_newsHour this_acts this_stories this_signs this_ruleMany this_upper this_lower this_greatAt this_sides (upd this_told x1.toNatClampNeg x2))) X 1 rfl rfl hk4 rfl dX11_set_88 ?_
    refine J_iload X dX11_set_89 0 rfl ?_
    cases hT
    exact J_iret X dX11_set_91
  · have hT := ift hT hc2
    refine J_bipush (v := -2) X dX11_set_71 (by decide) ?_
    cases hT
    exact J_iret X dX11_set_73
set_option maxHeartbeats 4000000 in
set_option maxRecDepth 100000 in
theorem b_X11_set_52 {p : Program} {l : Launch} {e : Env} {s : State} {m : MethodId} {args : Array Value} {below : List Frame} {meth : Method} {c : Code} {D : va_G} {A : Nat → Prop} {cI cJ cZ : ClassId} (X : Cx p m c cX11_set 5 s args wsX11_set RX11 D (tys3 cI cJ cZ) meth (some .int)) (_ _ _ : ClassId)  (h_this : Nat) (q_this : Nat → Nat) (this_matches : Int32) (this_stakes : Int32) (this_meetings : Int32) (this_newsFirst : Int32) (this_newsHour : Int32) (this_acts : Int32) (this_stories : Int32) (this_signs : Int32) (this_ruleMany : Int32) (this_upper : Int64) (this_lower : Int64) (this_greatAt : Int32) (this_sides : Int32) (r : Int32) (z0 : Nat → Int32)  (this_told : Nat → Int32) (x1 : Int32) (x2 : Int32) (s0 : Int32) (hT : t_X11_set_52   this_told x1 x2 s0 = some (r, z0)) : J p l e rmX11_set s m args below meth c D A 5 (QI D below args s A r (w_X11_set cI cJ cZ h_this q_this this_matches this_stakes this_meetings this_newsFirst this_newsHour this_acts this_stories this_signs this_ruleMany this_upper this_lower this_greatAt this_sides z0)) 0 0 (w_X11_set cI cJ cZ h_this q_this this_matches this_stakes this_meetings this_newsFirst this_newsHour this_acts this_stories this_signs this_ruleMany this_upper this_lower this_greatAt this_sides this_told) [(0, .ref h_this), (1, .int x1), (2, .int x2)] [.int s0] 52 := by
  unfold t_X11_set_52 at hT
  refine J_istore_n (lv' := [(3, .int s0), (0, .ref h_this), (1, .int x1), (2, .int x2)]) X dX11_set_52 (by decide) rfl ?_
  refine J_iload_n X dX11_set_53 3 rfl ?_
  refine J_iload_n X dX11_set_54 2 rfl ?_
  refine J_iconst (v := 2) X dX11_set_55 (by decide) ?_
  refine J_icmp_ge (tgt := 63) X dX11_set_56 (by decide) (fun hc5 => ?_) (fun hc5 => ?_)
  · have hT := ift hT hc5
    refine J_iconst (v := 1) X dX11_set_63 (by decide) ?_
    refine J_lv (lv' := [(0, .ref h_this), (1, .int x1), (2, .int x2), (3, .int s0)]) [1, 2, 3, 0] rfl ?_
    exact b_X11_set_64 X cI cJ cZ h_this q_this this_matches this_stakes this_meetings this_newsFirst this_newsHour this_acts this_stories this_signs this_ruleMany this_upper this_lower this_greatAt this_sides r z0  this_told x1 x2 s0 (1 : Int32) x2 hT
  · have hT := iff_ hT hc5
    refine J_iconst (v := 0) X dX11_set_59 (by decide) ?_
    refine J_goto (tgt := 64) X dX11_set_60 (by decide) ?_
    refine J_lv (lv' := [(0, .ref h_this), (1, .int x1), (2, .int x2), (3, .int s0)]) [1, 2, 3, 0] rfl ?_
    exact b_X11_set_64 X cI cJ cZ h_this q_this this_matches this_stakes this_meetings this_newsFirst this_newsHour this_acts this_stories this_signs this_ruleMany this_upper this_lower this_greatAt this_sides r z0  this_told x1 x2 s0 (0 : Int32) x2 hT
set_option maxHeartbeats 4000000 in
set_option maxRecDepth 100000 in
theorem c_X11_set (l : Launch) (D : va_G) (cI cJ cZ : ClassId) (h_this : Nat) (q_this : Nat → Nat) (this_matches : Int32) (this_stakes : Int32) (this_meetings : Int32) (this_newsFirst : Int32) (this_newsHour : Int32) (this_acts : Int32) (this_stories : Int32) (this_signs : Int32) (this_ruleMany : Int32) (this_upper : Int64) (this_lower : Int64) (this_greatAt : Int32) (this_sides : Int32) (this_told : Nat → Int32) (x1 : Int32) (x2 : Int32) (r : Int32) (z0 : Nat → Int32) (hT : t_X11_set  this_told x1 x2 = some (r, z0)) : Ci l yX11_set wsX11_set rmX11_set D (tys3 cI cJ cZ) [.ref h_this, .int x1, .int x2] (w_X11_set cI cJ cZ h_this q_this this_matches this_stakes this_meetings this_newsFirst this_newsHour this_acts this_stories this_signs this_ruleMany this_upper this_lower this_greatAt this_sides this_told) r (w_X11_set cI cJ cZ h_this q_this this_matches this_stakes this_meetings this_newsFirst this_newsHour this_acts this_stories this_signs this_ruleMany this_upper this_lower this_greatAt this_sides z0) := by
  refine Ci.ofJ (cc := cX11_set) (nL := 5) (rt := (some .int)) (own := RX11) (by decide) rfl rfl (Nat.le_of_ble_eq_true rfl) ?_
  intro p e s m below meth c A X
  unfold t_X11_set at hT
  refine J_lv (lv' := [(0, .ref h_this), (1, .int x1), (2, .int x2)]) [0, 1, 2] rfl ?_
  refine J_iload_n X dX11_set_0 1 rfl ?_
  refine J_iconst (v := 0) X dX11_set_1 (by decide) ?_
  refine J_iconst (v := 4) X dX11_set_2 (by decide) ?_
  obtain ⟨v6, hq6, hT⟩ := bd1_e hT
  refine J_ci (wc := (w_X11_in cI cJ cZ )) (wc' := (w_X11_in cI cJ cZ )) (ws' := (w_X11_set cI cJ cZ h_this q_this this_matches this_stakes this_meetings this_newsFirst this_newsHour this_acts this_stories this_signs this_ruleMany this_upper this_lower this_greatAt this_sides this_told)) [] [0, 1] 2 rfl rfl rfl rfl rfl rfl rfl rfl (run_S (As := [.int x1, .int (0 : Int32), .int (4 : Int32)]) (rest := []) X (c_X11_in l D cI cJ cZ  x1 (0 : Int32) (4 : Int32) v6 hq6) (cw_X11_set_X11_in_138 X.1.2.2.2.2) rfl rfl (Nat.le_of_ble_eq_true rfl) dX11_set_3 ⟨Nat.zero_le _, Nat.zero_le _⟩) ?_
  refine J_if_ne (tgt := 12) X dX11_set_6 (by decide) (fun hc7 => ?_) (fun hc7 => ?_)
  · have hT := iff_ hT hc7
    refine J_iload_n X dX11_set_12 1 rfl ?_
    refine J_if_ne (tgt := 21) X dX11_set_13 (by decide) (fun hc8 => ?_) (fun hc8 => ?_)
    · have hT := iff_ hT hc8
      refine J_iload_n X dX11_set_21 1 rfl ?_
      refine J_iconst (v := 1) X dX11_set_22 (by decide) ?_
      refine J_icmp_ne (tgt := 31) X dX11_set_23 (by decide) (fun hc9 => ?_) (fun hc9 => ?_)
      · have hT := iff_ hT hc9
        refine J_iload_n X dX11_set_31 1 rfl ?_
        refine J_iconst (v := 2) X dX11_set_32 (by decide) ?_
        refine J_icmp_ne (tgt := 41) X dX11_set_33 (by decide) (fun hc10 => ?_) (fun hc10 => ?_)
        · have hT := iff_ hT hc10
          refine J_iload_n X dX11_set_41 1 rfl ?_
          refine J_iconst (v := 3) X dX11_set_42 (by decide) ?_
          refine J_icmp_ne (tgt := 51) X dX11_set_43 (by decide) (fun hc11 => ?_) (fun hc11 => ?_)
          · have hT := iff_ hT hc11
            refine J_iconst (v := 4) X dX11_set_51 (by decide) ?_
            exact b_X11_set_52 X cI cJ cZ h_this q_this this_matches this_stakes this_meetings this_newsFirst this_newsHour this_acts this_stories this_signs this_ruleMany this_upper this_lower this_greatAt this_sides r z0  this_told x1 x2 (4 : Int32) hT
          · have hT := ift hT hc11
            refine J_bipush (v := 20) X dX11_set_46 (by decide) ?_
            refine J_goto (tgt := 52) X dX11_set_48 (by decide) ?_
            exact b_X11_set_52 X cI cJ cZ h_this q_this this_matches this_stakes this_meetings this_newsFirst this_newsHour this_acts this_stories this_signs this_ruleMany this_upper this_lower this_greatAt this_sides r z0  this_told x1 x2 (20 : Int32) hT
        · have hT := ift hT hc10
          refine J_bipush (v := 10) X dX11_set_36 (by decide) ?_
          refine J_goto (tgt := 52) X dX11_set_38 (by decide) ?_
          exact b_X11_set_52 X cI cJ cZ h_this q_this this_matches this_stakes this_meetings this_newsFirst this_newsHour this_acts this_stories this_signs this_ruleMany this_upper this_lower this_greatAt this_sides r z0  this_told x1 x2 (10 : Int32) hT
      · have hT := ift hT hc9
        refine J_bipush (v := 89) X dX11_set_26 (by decide) ?_
        refine J_goto (tgt := 52) X dX11_set_28 (by decide) ?_
        exact b_X11_set_52 X cI cJ cZ h_this q_this this_matches this_stakes this_meetings this_newsFirst this_newsHour this_acts this_stories this_signs this_ruleMany this_upper this_lower this_greatAt this_sides r z0  this_told x1 x2 (89 : Int32) hT
    · have hT := ift hT hc8
      refine J_bipush (v := 40) X dX11_set_16 (by decide) ?_
      refine J_goto (tgt := 52) X dX11_set_18 (by decide) ?_
      exact b_X11_set_52 X cI cJ cZ h_this q_this this_matches this_stakes this_meetings this_newsFirst this_newsHour this_acts this_stories this_signs this_ruleMany this_upper this_lower this_greatAt this_sides r z0  this_told x1 x2 (40 : Int32) hT
  · have hT := ift hT hc7
    refine J_bipush (v := -2) X dX11_set_9 (by decide) ?_
    cases hT
    exact J_iret X dX11_set_11
-- ===== SoldMatchesModel.price(IIII)I
abbrev rmX11_price : Room := { frames := 2, cells := 0, slots := 0, locals := 43 }
def w_X11_price (cI cJ cZ : ClassId) (h_this : Nat) (q_this : Nat → Nat) (this_matches : Int32) (this_stakes : Int32) (this_meetings : Int32) (this_newsFirst : Int32) (this_newsHour : Int32) (this_acts : Int32) (this_stories : Int32) (this_signs : Int32) (this_ruleMany : Int32) (this_upper : Int64) (this_lower : Int64) (this_greatAt : Int32) (this_sides : Int32) (this_prices : Nat → Int32) : va_W := [(h_this, .inr (11, oFX11 q_this this_matches this_stakes this_meetings this_newsFirst this_newsHour this_acts this_stories this_signs this_ruleMany this_upper this_lower this_greatAt this_sides)), ((q_this 9), .inl (cI, 216, .inl this_prices))]
theorem m_X11_price_f34 : Cond.fieldLink RX11 34 "SoldMatchesModel" "prices" "[I" ∈ wsX11_price := List.mem_of_getElem? (i := 1) rfl
theorem in_X11_price_X11 : ∀ w ∈ wsX110, w ∈ wsX11_price := fun w h => List.mem_cons_of_mem _ (List.mem_append_right _ h)
theorem cw_X11_price_X11_isMatch_153 {s : State} {args : Array Value} (hts : ∀ w ∈ wsX11_price, w.before args s = true) : CallW rmX11_price s args RX11 RX11 153 yX11_isMatch cX11_isMatch 2 (some .boolean) wsX11_isMatch rmX11_isMatch 0 0 1 := cwV 1 hts gX11_price_X11_isMatch rfl rfl rfl (by decide +kernel) ⟨by decide, by decide⟩
theorem cw_X11_price_X11_in_138 {s : State} {args : Array Value} (hts : ∀ w ∈ wsX11_price, w.before args s = true) : CallB rmX11_price s args RX11 138 yX11_in cX11_in 3 (some .boolean) wsX11_in rmX11_in 0 0 3 ∧ (Cond.static yX11_in).before args s = true := va_cwS 3 hts gX11_price_X11_in rfl rfl rfl (by decide +kernel) ⟨by decide, by decide⟩
def t_X11_price_49   (this_matches : Int32) (this_prices : Nat → Int32) (x1 : Int32) (x2 : Int32) (x3 : Int32) (x4 : Int32) : Option (Int32 × (Nat → Int32)) := ckn (((((18 : Int32) * x1) + ((3 : Int32) * x2)) + x3) < 0 ∨ 216 ≤ ((((18 : Int32) * x1) + ((3 : Int32) * x2)) + x3).toNatClampNeg) (ckn (((((18 : Int32) * x1) + ((3 : Int32) * x2)) + x3) < 0 ∨ 216 ≤ ((((18 : Int32) * x1) + ((3 : Int32) * x2)) + x3).toNatClampNeg) (some (this_prices ((((18 : Int32) * x1) + ((3 : Int32) * x2)) + x3).toNatClampNeg, upd this_prices ((((18 : Int32) * x1) + ((3 : Int32) * x2)) + x3).toNatClampNeg x4)))
def t_X11_price  (this_matches : Int32) (this_prices : Nat → Int32) (x1 : Int32) (x2 : Int32) (x3 : Int32) (x4 : Int32) : Option (Int32 × (Nat → Int32)) := bd1 (t_X11_isMatch this_matches x1) (fun v3 => if v3 = 0 then (some ((-1 : Int32), this_prices)) else (bd1 (t_X11_in x2 (0 : Int32) (5 : Int32)) (fun v5 => if v5 = 0 then (some ((-2 : Int32), this_prices)) else (bd1 (t_X11_in x3 (0 : Int32) (2 : Int32)) (fun v7 => if v7 = 0 then (some ((-2 : Int32), this_prices)) else (if x4 = 0 then (t_X11_price_49   this_matches this_prices x1 x2 x3 x4) else (bd1 (t_X11_in x4 (100 : Int32) (10000 : Int32)) (fun v10 => if v10 = 0 then (some ((-2 : Int32), this_prices)) else (t_X11_price_49   this_matches this_prices x1 x2 x3 x4)))))))))
set_option maxHeartbeats 4000000 in
set_option maxRecDepth 100000 in
theorem b_X11_price_49 {p : Program} {l : Launch} {e : Env} {s : State} {m : MethodId} {args : Array Value} {below : List Frame} {meth : Method} {c : Code} {D : va_G} {A : Nat → Prop} {cI cJ cZ : ClassId} (X : Cx p m c cX11_price 7 s args wsX11_price RX11 D (tys3 cI cJ cZ) meth (some .int)) (_ _ _ : ClassId)  (h_this : Nat) (q_this : Nat → Nat) (this_stakes : Int32) (this_meetings : Int32) (this_newsFirst : Int32) (this_newsHour : Int32) (this_acts : Int32) (this_stories : Int32) (this_signs : Int32) (this_ruleMany : Int32) (this_upper : Int64) (this_lower : Int64) (this_greatAt : Int32) (this_sides : Int32) (r : Int32) (z0 : Nat → Int32)  (this_matches : Int32) (this_prices : Nat → Int32) (x1 : Int32) (x2 : Int32) (x3 : Int32) (x4 : Int32) (hT : t_X11_price_49   this_matches this_prices x1 x2 x3 x4 = some (r, z0)) : J p l e rmX11_price s m args below meth c D A 7 (QI D below args s A r (w_X11_price cI cJ cZ h_this q_this this_matches this_stakes this_meetings this_newsFirst this_newsHour this_acts this_stories this_signs this_ruleMany this_upper this_lower this_greatAt this_sides z0)) 0 0 (w_X11_price cI cJ cZ h_this q_this this_matches this_stakes this_meetings this_newsFirst this_newsHour this_acts this_stories this_signs this_ruleMany this_upper this_lower this_greatAt this_sides this_prices) [(0, .ref h_this), (1, .int x1), (2, .int x2), (3, .int x3), (4, .int x4)] [] 49 := by
  unfold t_X11_price_49 at hT
  refine J_bipush (v := 18) X dX11_price_49 (by decide) ?_
  refine J_iload_n X dX11_price_51 1 rfl ?_
  refine J_imul X dX11_price_52 ?_
  refine J_iconst (v := 3) X dX11_price_53 (by decide) ?_
  refine J_iload_n X dX11_price_54 2 rfl ?_
  refine J_imul X dX11_price_55 ?_
  refine J_iadd X dX11_price_56 ?_
  refine J_iload_n X dX11_price_57 3 rfl ?_
  refine J_iadd X dX11_price_58 ?_
  refine J_istore (lv' := [(5, .int ((((18 : Int32) * x1) + ((3 : Int32) * x2)) + x3)), (0, .ref h_this), (1, .int x1), (2, .int x2), (3, .int x3), (4, .int x4)]) X dX11_price_59 (by decide) rfl ?_
  refine J_aload_n X dX11_price_61 1 rfl ?_
  refine J_get (C := RX11) (T := TX11) (N := 54) (ci := 11) (v := .ref (q_this 9)) X in_X11_price_X11 0 rfl rfl 9 (by decide) m_X11_price_f34 rfl dX11_price_62 ?_
  refine J_iload X dX11_price_65 0 rfl ?_
  obtain ⟨hk1, hT⟩ := ckn_e hT
  refine J_iald X 1 rfl rfl hk1 dX11_price_67 ?_
  refine J_istore (lv' := [(6, .int (this_prices ((((18 : Int32) * x1) + ((3 : Int32) * x2)) + x3).toNatClampNeg)), (5, .int ((((18 : Int32) * x1) + ((3 : Int32) * x2)) + x3)), (0, .ref h_this), (1, .int x1), (2, .int x2), (3, .int x3), (4, .int x4)]) X dX11_price_68 (by decide) rfl ?_
  refine J_aload_n X dX11_price_70 2 rfl ?_
  refine J_get (C := RX11) (T := TX11) (N := 54) (ci := 11) (v := .ref (q_this 9)) X in_X11_price_X11 0 rfl rfl 9 (by decide) m_X11_price_f34 rfl dX11_price_71 ?_
  refine J_iload X dX11_price_74 1 rfl ?_
  refine J_iload X dX11_price_76 6 rfl ?_
  obtain ⟨hk2, hT⟩ := ckn_e hT
  refine J_iast (ws' := (w_X11_price cI cJ cZ h_this q_this this_matches this_stakes this_meetings this_newsFirst this_newsHour this_acts this_stories this_signs this_ruleMany this_upper this_lower this_greatAt this_sides (upd this_prices ((((18 : Int32) * x1) + ((3 : Int32) * x2)) + x3).toNatClampNeg x4))) X 1 rfl rfl hk2 rfl dX11_price_78 ?_
  refine J_iload X dX11_price_79 0 rfl ?_
  cases hT
  exact J_iret X dX11_price_81
set_option maxHeartbeats 4000000 in
set_option maxRecDepth 100000 in
theorem c_X11_price (l : Launch) (D : va_G) (cI cJ cZ : ClassId) (h_this : Nat) (q_this : Nat → Nat) (this_matches : Int32) (this_stakes : Int32) (this_meetings : Int32) (this_newsFirst : Int32) (this_newsHour : Int32) (this_acts : Int32) (this_stories : Int32) (this_signs : Int32) (this_ruleMany : Int32) (this_upper : Int64) (this_lower : Int64) (this_greatAt : Int32) (this_sides : Int32) (this_prices : Nat → Int32) (x1 : Int32) (x2 : Int32) (x3 : Int32) (x4 : Int32) (r : Int32) (z0 : Nat → Int32) (hT : t_X11_price  this_matches this_prices x1 x2 x3 x4 = some (r, z0)) : Ci l yX11_price wsX11_price rmX11_price D (tys3 cI cJ cZ) [.ref h_this, .int x1, .int x2, .int x3, .int x4] (w_X11_price cI cJ cZ h_this q_this this_matches this_stakes this_meetings this_newsFirst this_newsHour this_acts this_stories this_signs this_ruleMany this_upper this_lower this_greatAt this_sides this_prices) r (w_X11_price cI cJ cZ h_this q_this this_matches this_stakes this_meetings this_newsFirst this_newsHour this_acts this_stories this_signs this_ruleMany this_upper this_lower this_greatAt this_sides z0) := by
  refine Ci.ofJ (cc := cX11_price) (nL := 7) (rt := (some .int)) (own := RX11) (by decide) rfl rfl (Nat.le_of_ble_eq_true rfl) ?_
  intro p e s m below meth c A X
  unfold t_X11_price at hT
  refine J_lv (lv' := [(0, .ref h_this), (1, .int x1), (2, .int x2), (3, .int x3), (4, .int x4)]) [0, 1, 2, 3, 4] rfl ?_
  refine J_aload_n X dX11_price_0 0 rfl ?_
  refine J_iload_n X dX11_price_1 1 rfl ?_
  obtain ⟨v3, hq3, hT⟩ := bd1_e hT
  refine J_ci (wc := (w_X11_isMatch cI cJ cZ h_this q_this this_matches this_stakes this_meetings this_newsFirst this_newsHour this_acts this_stories this_signs this_ruleMany this_upper this_lower this_greatAt this_sides)) (wc' := (w_X11_isMatch cI cJ cZ h_this q_this this_matches this_stakes this_meetings this_newsFirst this_newsHour this_acts this_stories this_signs this_ruleMany this_upper this_lower this_greatAt this_sides)) (ws' := (w_X11_price cI cJ cZ h_this q_this this_matches this_stakes this_meetings this_newsFirst this_newsHour this_acts this_stories this_signs this_ruleMany this_upper this_lower this_greatAt this_sides this_prices)) [0] [1] 2 rfl rfl rfl rfl rfl rfl rfl rfl (run_V (As := [.int x1]) (rest := []) X (c_X11_isMatch l D cI cJ cZ h_this q_this this_matches this_stakes this_meetings this_newsFirst this_newsHour this_acts this_stories this_signs this_ruleMany this_upper this_lower this_greatAt this_sides x1 v3 hq3) (cw_X11_price_X11_isMatch_153 X.1.2.2.2.2) 0 rfl rfl rfl rfl (Nat.le_of_ble_eq_true rfl) dX11_price_2 ⟨Nat.zero_le _, Nat.zero_le _⟩) ?_
  refine J_if_ne (tgt := 10) X dX11_price_5 (by decide) (fun hc4 => ?_) (fun hc4 => ?_)
  · have hT := iff_ hT hc4
    refine J_iload_n X dX11_price_10 2 rfl ?_
    refine J_iconst (v := 0) X dX11_price_11 (by decide) ?_
    refine J_iconst (v := 5) X dX11_price_12 (by decide) ?_
    obtain ⟨v5, hq5, hT⟩ := bd1_e hT
    refine J_ci (wc := (w_X11_in cI cJ cZ )) (wc' := (w_X11_in cI cJ cZ )) (ws' := (w_X11_price cI cJ cZ h_this q_this this_matches this_stakes this_meetings this_newsFirst this_newsHour this_acts this_stories this_signs this_ruleMany this_upper this_lower this_greatAt this_sides this_prices)) [] [0, 1] 2 rfl rfl rfl rfl rfl rfl rfl rfl (run_S (As := [.int x2, .int (0 : Int32), .int (5 : Int32)]) (rest := []) X (c_X11_in l D cI cJ cZ  x2 (0 : Int32) (5 : Int32) v5 hq5) (cw_X11_price_X11_in_138 X.1.2.2.2.2) rfl rfl (Nat.le_of_ble_eq_true rfl) dX11_price_13 ⟨Nat.zero_le _, Nat.zero_le _⟩) ?_
    refine J_if_eq (tgt := 46) X dX11_price_16 (by decide) (fun hc6 => ?_) (fun hc6 => ?_)
    · have hT := ift hT hc6
      refine J_bipush (v := -2) X dX11_price_46 (by decide) ?_
      cases hT
      exact J_iret X dX11_price_48
    · have hT := iff_ hT hc6
      refine J_iload_n X dX11_price_19 3 rfl ?_
      refine J_iconst (v := 0) X dX11_price_20 (by decide) ?_
      refine J_iconst (v := 2) X dX11_price_21 (by decide) ?_
      obtain ⟨v7, hq7, hT⟩ := bd1_e hT
      refine J_ci (wc := (w_X11_in cI cJ cZ )) (wc' := (w_X11_in cI cJ cZ )) (ws' := (w_X11_price cI cJ cZ h_this q_this this_matches this_stakes this_meetings this_newsFirst this_newsHour this_acts this_stories this_signs this_ruleMany this_upper this_lower this_greatAt this_sides this_prices)) [] [0, 1] 2 rfl rfl rfl rfl rfl rfl rfl rfl (run_S (As := [.int x3, .int (0 : Int32), .int (2 : Int32)]) (rest := []) X (c_X11_in l D cI cJ cZ  x3 (0 : Int32) (2 : Int32) v7 hq7) (cw_X11_price_X11_in_138 X.1.2.2.2.2) rfl rfl (Nat.le_of_ble_eq_true rfl) dX11_price_22 ⟨Nat.zero_le _, Nat.zero_le _⟩) ?_
      refine J_if_eq (tgt := 46) X dX11_price_25 (by decide) (fun hc8 => ?_) (fun hc8 => ?_)
      · have hT := ift hT hc8
        refine J_bipush (v := -2) X dX11_price_46 (by decide) ?_
        cases hT
        exact J_iret X dX11_price_48
      · have hT := iff_ hT hc8
        refine J_iload X dX11_price_28 4 rfl ?_
        refine J_if_eq (tgt := 49) X dX11_price_30 (by decide) (fun hc9 => ?_) (fun hc9 => ?_)
        · have hT := ift hT hc9
          exact b_X11_price_49 X cI cJ cZ h_this q_this this_stakes this_meetings this_newsFirst this_newsHour this_acts this_stories this_signs this_ruleMany this_upper this_lower this_greatAt this_sides r z0  this_matches this_prices x1 x2 x3 x4 hT
        · have hT := iff_ hT hc9
          refine J_iload X dX11_price_33 4 rfl ?_
          refine J_bipush (v := 100) X dX11_price_35 (by decide) ?_
          refine J_sipush (v := 10000) X dX11_price_37 (by decide) ?_
          obtain ⟨v10, hq10, hT⟩ := bd1_e hT
          refine J_ci (wc := (w_X11_in cI cJ cZ )) (wc' := (w_X11_in cI cJ cZ )) (ws' := (w_X11_price cI cJ cZ h_this q_this this_matches this_stakes this_meetings this_newsFirst this_newsHour this_acts this_stories this_signs this_ruleMany this_upper this_lower this_greatAt this_sides this_prices)) [] [0, 1] 2 rfl rfl rfl rfl rfl rfl rfl rfl (run_S (As := [.int x4, .int (100 : Int32), .int (10000 : Int32)]) (rest := []) X (c_X11_in l D cI cJ cZ  x4 (100 : Int32) (10000 : Int32) v10 hq10) (cw_X11_price_X11_in_138 X.1.2.2.2.2) rfl rfl (Nat.le_of_ble_eq_true rfl) dX11_price_40 ⟨Nat.zero_le _, Nat.zero_le _⟩) ?_
          refine J_if_ne (tgt := 49) X dX11_price_43 (by decide) (fun hc11 => ?_) (fun hc11 => ?_)
          · have hT := iff_ hT hc11
            exact b_X11_price_49 X cI cJ cZ h_this q_this this_stakes this_meetings this_newsFirst this_newsHour this_acts this_stories this_signs this_ruleMany this_upper this_lower this_greatAt this_sides r z0  this_matches this_prices x1 x2 x3 x4 hT
          · have hT := ift hT hc11
            refine J_bipush (v := -2) X dX11_price_46 (by decide) ?_
            cases hT
            exact J_iret X dX11_price_48
  · have hT := ift hT hc4
    refine J_iconst (v := -1) X dX11_price_8 (by decide) ?_
    cases hT
    exact J_iret X dX11_price_9
-- ===== SoldMatchesModel.leanOf(III)I
abbrev rmX11_leanOf : Room := { frames := 2, cells := 0, slots := 0, locals := 55 }
def w_X11_leanOf (cI cJ cZ : ClassId) (h_this : Nat) (q_this : Nat → Nat) (this_matches : Int32) (this_stakes : Int32) (this_meetings : Int32) (this_newsFirst : Int32) (this_newsHour : Int32) (this_acts : Int32) (this_stories : Int32) (this_signs : Int32) (this_ruleMany : Int32) (this_upper : Int64) (this_lower : Int64) (this_greatAt : Int32) (this_sides : Int32) (this_goals : Nat → Int32) (this_guest : Nat → Int32) (this_home : Nat → Int32) (this_next : Nat → Int64) (this_prices : Nat → Int32) (this_skill : Nat → Int32) (this_told : Nat → Int32) (this_ways : Nat → Int64) : va_W := [(h_this, .inr (11, oFX11 q_this this_matches this_stakes this_meetings this_newsFirst this_newsHour this_acts this_stories this_signs this_ruleMany this_upper this_lower this_greatAt this_sides)), ((q_this 8), .inl (cI, 72, .inl this_goals)), ((q_this 4), .inl (cI, 12, .inl this_guest)), ((q_this 3), .inl (cI, 12, .inl this_home)), ((q_this 40), .inl (cJ, 13, .inr (.inl this_next))), ((q_this 9), .inl (cI, 216, .inl this_prices)), ((q_this 0), .inl (cI, 8, .inl this_skill)), ((q_this 10), .inl (cI, 5, .inl this_told)), ((q_this 39), .inl (cJ, 13, .inr (.inl this_ways)))]
theorem m_X11_leanOf_f34 : Cond.fieldLink RX11 34 "SoldMatchesModel" "prices" "[I" ∈ wsX11_leanOf := List.mem_of_getElem? (i := 1) rfl
theorem in_X11_leanOf_X11 : ∀ w ∈ wsX110, w ∈ wsX11_leanOf := fun w h => List.mem_cons_of_mem _ (List.mem_append_right _ h)
theorem cw_X11_leanOf_X11_scored_156 {s : State} {args : Array Value} (hts : ∀ w ∈ wsX11_leanOf, w.before args s = true) : CallW rmX11_leanOf s args RX11 RX11 156 yX11_scored cX11_scored 6 (some .int) wsX11_scored rmX11_scored 0 0 3 := cwV 3 hts gX11_leanOf_X11_scored rfl rfl rfl (by decide +kernel) ⟨by decide, by decide⟩
theorem cw_X11_leanOf_X11_layLikely_181 {s : State} {args : Array Value} (hts : ∀ w ∈ wsX11_leanOf, w.before args s = true) : CallW rmX11_leanOf s args RX11 RX11 181 yX11_layLikely cX11_layLikely 13 none wsX11_layLikely rmX11_layLikely 0 0 5 := cwV 5 hts gX11_leanOf_X11_layLikely rfl rfl rfl (by decide +kernel) ⟨by decide, by decide⟩
theorem m_X11_leanOf_c189 : Cond.constant RX11 189 (100000) ∈ wsX11_leanOf := List.mem_of_getElem? (i := 2) rfl
theorem m_X11_leanOf_c190 : Cond.constantLong RX11 190 (1000) ∈ wsX11_leanOf := List.mem_of_getElem? (i := 3) rfl
theorem m_X11_leanOf_f174 : Cond.fieldLink RX11 174 "SoldMatchesModel" "upper" "J" ∈ wsX11_leanOf := List.mem_of_getElem? (i := 4) rfl
theorem m_X11_leanOf_f168 : Cond.fieldLink RX11 168 "SoldMatchesModel" "lower" "J" ∈ wsX11_leanOf := List.mem_of_getElem? (i := 5) rfl
def t_X11_leanOf  (this_upper : Int64) (this_lower : Int64) (this_goals : Nat → Int32) (this_guest : Nat → Int32) (this_home : Nat → Int32) (this_next : Nat → Int64) (this_prices : Nat → Int32) (this_skill : Nat → Int32) (this_told : Nat → Int32) (this_ways : Nat → Int64) (x1 : Int32) (x2 : Int32) (x3 : Int32) : Option (Int32 × Int64 × Int64 × (Nat → Int64) × (Nat → Int64)) := ckn (((((18 : Int32) * x1) + ((3 : Int32) * x2)) + x3) < 0 ∨ 216 ≤ ((((18 : Int32) * x1) + ((3 : Int32) * x2)) + x3).toNatClampNeg) (if (this_prices ((((18 : Int32) * x1) + ((3 : Int32) * x2)) + x3).toNatClampNeg) = 0 then (some ((0 : Int32), this_upper, this_lower, this_next, this_ways)) else (bd1 (t_X11_scored this_goals x1 x2 (1 : Int32)) (fun v3 => bd1 (t_X11_scored this_goals x1 x2 (2 : Int32)) (fun v4 => bd4 (t_X11_layLikely this_upper this_lower this_guest this_home this_next this_skill this_told this_ways x1 x2 v3 v4 x3) (fun u5_0 u5_1 u5_2 u5_3 => ckn ((this_prices ((((18 : Int32) * x1) + ((3 : Int32) * x2)) + x3).toNatClampNeg) = 0) (ckn (u5_1 = 0) (some (((100000 : Int32) / (this_prices ((((18 : Int32) * x1) + ((3 : Int32) * x2)) + x3).toNatClampNeg)) - ((((1000 : Int64) * u5_0) / u5_1).toInt32), u5_0, u5_1, u5_2, u5_3))))))))
set_option maxHeartbeats 4000000 in
set_option maxRecDepth 100000 in
theorem c_X11_leanOf (l : Launch) (D : va_G) (cI cJ cZ : ClassId) (h_this : Nat) (q_this : Nat → Nat) (this_matches : Int32) (this_stakes : Int32) (this_meetings : Int32) (this_newsFirst : Int32) (this_newsHour : Int32) (this_acts : Int32) (this_stories : Int32) (this_signs : Int32) (this_ruleMany : Int32) (this_upper : Int64) (this_lower : Int64) (this_greatAt : Int32) (this_sides : Int32) (this_goals : Nat → Int32) (this_guest : Nat → Int32) (this_home : Nat → Int32) (this_next : Nat → Int64) (this_prices : Nat → Int32) (this_skill : Nat → Int32) (this_told : Nat → Int32) (this_ways : Nat → Int64) (x1 : Int32) (x2 : Int32) (x3 : Int32) (r : Int32) (z0 : Int64) (z1 : Int64) (z2 : Nat → Int64) (z3 : Nat → Int64) (hT : t_X11_leanOf  this_upper this_lower this_goals this_guest this_home this_next this_prices this_skill this_told this_ways x1 x2 x3 = some (r, z0, z1, z2, z3)) : Ci l yX11_leanOf wsX11_leanOf rmX11_leanOf D (tys3 cI cJ cZ) [.ref h_this, .int x1, .int x2, .int x3] (w_X11_leanOf cI cJ cZ h_this q_this this_matches this_stakes this_meetings this_newsFirst this_newsHour this_acts this_stories this_signs this_ruleMany this_upper this_lower this_greatAt this_sides this_goals this_guest this_home this_next this_prices this_skill this_told this_ways) r (w_X11_leanOf cI cJ cZ h_this q_this this_matches this_stakes this_meetings this_newsFirst this_newsHour this_acts this_stories this_signs this_ruleMany z0 z1 this_greatAt this_sides this_goals this_guest this_home z2 this_prices this_skill this_told z3) := by
  refine Ci.ofJ (cc := cX11_leanOf) (nL := 5) (rt := (some .int)) (own := RX11) (by decide) rfl rfl (Nat.le_of_ble_eq_true rfl) ?_
  intro p e s m below meth c A X
  unfold t_X11_leanOf at hT
  refine J_lv (lv' := [(0, .ref h_this), (1, .int x1), (2, .int x2), (3, .int x3)]) [0, 1, 2, 3] rfl ?_
  refine J_aload_n X dX11_leanOf_0 0 rfl ?_
  refine J_get (C := RX11) (T := TX11) (N := 54) (ci := 11) (v := .ref (q_this 9)) X in_X11_leanOf_X11 0 rfl rfl 9 (by decide) m_X11_leanOf_f34 rfl dX11_leanOf_1 ?_
  refine J_bipush (v := 18) X dX11_leanOf_4 (by decide) ?_
  refine J_iload_n X dX11_leanOf_6 1 rfl ?_
  refine J_imul X dX11_leanOf_7 ?_
  refine J_iconst (v := 3) X dX11_leanOf_8 (by decide) ?_
  refine J_iload_n X dX11_leanOf_9 2 rfl ?_
  refine J_imul X dX11_leanOf_10 ?_
  refine J_iadd X dX11_leanOf_11 ?_
  refine J_iload_n X dX11_leanOf_12 3 rfl ?_
  refine J_iadd X dX11_leanOf_13 ?_
  obtain ⟨hk1, hT⟩ := ckn_e hT
  refine J_iald X 5 rfl rfl hk1 dX11_leanOf_14 ?_
  refine J_istore (lv' := [(4, .int (this_prices ((((18 : Int32) * x1) + ((3 : Int32) * x2)) + x3).toNatClampNeg)), (0, .ref h_this), (1, .int x1), (2, .int x2), (3, .int x3)]) X dX11_leanOf_15 (by decide) rfl ?_
  refine J_iload X dX11_leanOf_17 0 rfl ?_
  refine J_if_ne (tgt := 24) X dX11_leanOf_19 (by decide) (fun hc2 => ?_) (fun hc2 => ?_)
  · have hT := iff_ hT hc2
    refine J_aload_n X dX11_leanOf_24 1 rfl ?_
    refine J_iload_n X dX11_leanOf_25 2 rfl ?_
    refine J_iload_n X dX11_leanOf_26 3 rfl ?_
    refine J_aload_n X dX11_leanOf_27 1 rfl ?_
    refine J_iload_n X dX11_leanOf_28 2 rfl ?_
    refine J_iload_n X dX11_leanOf_29 3 rfl ?_
    refine J_iconst (v := 1) X dX11_leanOf_30 (by decide) ?_
    obtain ⟨v3, hq3, hT⟩ := bd1_e hT
    refine J_ci (wc := (w_X11_scored cI cJ cZ h_this q_this this_matches this_stakes this_meetings this_newsFirst this_newsHour this_acts this_stories this_signs this_ruleMany this_upper this_lower this_greatAt this_sides this_goals)) (wc' := (w_X11_scored cI cJ cZ h_this q_this this_matches this_stakes this_meetings this_newsFirst this_newsHour this_acts this_stories this_signs this_ruleMany this_upper this_lower this_greatAt this_sides this_goals)) (ws' := (w_X11_leanOf cI cJ cZ h_this q_this this_matches this_stakes this_meetings this_newsFirst this_newsHour this_acts this_stories this_signs this_ruleMany this_upper this_lower this_greatAt this_sides this_goals this_guest this_home this_next this_prices this_skill this_told this_ways)) (idxs [true, true, false, false, false, false, false, false, false] 0) (idxs [false, false, true, true, true, true, true, true, true] 0) 9 rfl rfl rfl (pick_C _ rfl rfl) rfl (pick_C _ rfl rfl) rfl (pick_R _ rfl rfl rfl) (run_V (As := [.int x1, .int x2, .int (1 : Int32)]) (rest := [.int x2, .int x1, .ref h_this]) X (c_X11_scored l D cI cJ cZ h_this q_this this_matches this_stakes this_meetings this_newsFirst this_newsHour this_acts this_stories this_signs this_ruleMany this_upper this_lower this_greatAt this_sides this_goals x1 x2 (1 : Int32) v3 hq3) (cw_X11_leanOf_X11_scored_156 X.1.2.2.2.2) 0 rfl rfl rfl rfl (Nat.le_of_ble_eq_true rfl) dX11_leanOf_31 ⟨Nat.zero_le _, Nat.zero_le _⟩) ?_
    refine J_aload_n X dX11_leanOf_34 1 rfl ?_
    refine J_iload_n X dX11_leanOf_35 2 rfl ?_
    refine J_iload_n X dX11_leanOf_36 3 rfl ?_
    refine J_iconst (v := 2) X dX11_leanOf_37 (by decide) ?_
    obtain ⟨v4, hq4, hT⟩ := bd1_e hT
    refine J_ci (wc := (w_X11_scored cI cJ cZ h_this q_this this_matches this_stakes this_meetings this_newsFirst this_newsHour this_acts this_stories this_signs this_ruleMany this_upper this_lower this_greatAt this_sides this_goals)) (wc' := (w_X11_scored cI cJ cZ h_this q_this this_matches this_stakes this_meetings this_newsFirst this_newsHour this_acts this_stories this_signs this_ruleMany this_upper this_lower this_greatAt this_sides this_goals)) (ws' := (w_X11_leanOf cI cJ cZ h_this q_this this_matches this_stakes this_meetings this_newsFirst this_newsHour this_acts this_stories this_signs this_ruleMany this_upper this_lower this_greatAt this_sides this_goals this_guest this_home this_next this_prices this_skill this_told this_ways)) (idxs [true, true, false, false, false, false, false, false, false] 0) (idxs [false, false, true, true, true, true, true, true, true] 0) 9 rfl rfl rfl (pick_C _ rfl rfl) rfl (pick_C _ rfl rfl) rfl (pick_R _ rfl rfl rfl) (run_V (As := [.int x1, .int x2, .int (2 : Int32)]) (rest := [.int v3, .int x2, .int x1, .ref h_this]) X (c_X11_scored l D cI cJ cZ h_this q_this this_matches this_stakes this_meetings this_newsFirst this_newsHour this_acts this_stories this_signs this_ruleMany this_upper this_lower this_greatAt this_sides this_goals x1 x2 (2 : Int32) v4 hq4) (cw_X11_leanOf_X11_scored_156 X.1.2.2.2.2) 0 rfl rfl rfl rfl (Nat.le_of_ble_eq_true rfl) dX11_leanOf_38 ⟨Nat.zero_le _, Nat.zero_le _⟩) ?_
    refine J_iload_n X dX11_leanOf_41 4 rfl ?_
    obtain ⟨u5_0, u5_1, u5_2, u5_3, hq5, hT⟩ := bd4_e hT
    refine J_cv (wc := (w_X11_layLikely cI cJ cZ h_this q_this this_matches this_stakes this_meetings this_newsFirst this_newsHour this_acts this_stories this_signs this_ruleMany this_upper this_lower this_greatAt this_sides this_guest this_home this_next this_skill this_told this_ways)) (wc' := (w_X11_layLikely cI cJ cZ h_this q_this this_matches this_stakes this_meetings this_newsFirst this_newsHour this_acts this_stories this_signs this_ruleMany u5_0 u5_1 this_greatAt this_sides this_guest this_home u5_2 this_skill this_told u5_3)) (ws' := (w_X11_leanOf cI cJ cZ h_this q_this this_matches this_stakes this_meetings this_newsFirst this_newsHour this_acts this_stories this_signs this_ruleMany u5_0 u5_1 this_greatAt this_sides this_goals this_guest this_home u5_2 this_prices this_skill this_told u5_3)) (idxs [true, false, true, true, true, false, true, true, true] 0) (idxs [false, true, false, false, false, true, false, false, false] 0) 9 rfl rfl rfl (pick_C _ rfl rfl) rfl (pick_C _ rfl rfl) rfl (pick_R _ rfl rfl rfl) (run_V (As := [.int x1, .int x2, .int v3, .int v4, .int x3]) (rest := []) X (c_X11_layLikely l D cI cJ cZ h_this q_this this_matches this_stakes this_meetings this_newsFirst this_newsHour this_acts this_stories this_signs this_ruleMany this_upper this_lower this_greatAt this_sides this_guest this_home this_next this_skill this_told this_ways x1 x2 v3 v4 x3 u5_0 u5_1 u5_2 u5_3 hq5) (cw_X11_leanOf_X11_layLikely_181 X.1.2.2.2.2) 0 rfl rfl rfl rfl (Nat.le_of_ble_eq_true rfl) dX11_leanOf_42 ⟨Nat.zero_le _, Nat.zero_le _⟩) ?_
    refine J_ldc X dX11_leanOf_45 m_X11_leanOf_c189 ?_
    refine J_iload X dX11_leanOf_47 0 rfl ?_
    obtain ⟨hk6, hT⟩ := ckn_e hT
    refine J_idiv X dX11_leanOf_49 hk6 ?_
    refine J_ldc2 X dX11_leanOf_50 m_X11_leanOf_c190 ?_
    refine J_aload_n X dX11_leanOf_53 1 rfl ?_
    refine J_get (C := RX11) (T := TX11) (N := 54) (ci := 11) (v := .long u5_0) X in_X11_leanOf_X11 0 rfl rfl 41 (by decide) m_X11_leanOf_f174 rfl dX11_leanOf_54 ?_
    refine J_lmul X dX11_leanOf_57 ?_
    refine J_aload_n X dX11_leanOf_58 1 rfl ?_
    refine J_get (C := RX11) (T := TX11) (N := 54) (ci := 11) (v := .long u5_1) X in_X11_leanOf_X11 0 rfl rfl 42 (by decide) m_X11_leanOf_f168 rfl dX11_leanOf_59 ?_
    obtain ⟨hk7, hT⟩ := ckn_e hT
    refine J_ldiv X dX11_leanOf_62 hk7 ?_
    refine J_l2i X dX11_leanOf_63 ?_
    refine J_isub X dX11_leanOf_64 ?_
    cases hT
    exact J_iret X dX11_leanOf_65
  · have hT := ift hT hc2
    refine J_iconst (v := 0) X dX11_leanOf_22 (by decide) ?_
    cases hT
    exact J_iret X dX11_leanOf_23
-- ===== SoldMatchesModel.lean(III)I
abbrev rmX11_lean : Room := { frames := 3, cells := 0, slots := 0, locals := 79 }
def w_X11_lean (cI cJ cZ : ClassId) (h_this : Nat) (q_this : Nat → Nat) (this_matches : Int32) (this_stakes : Int32) (this_meetings : Int32) (this_newsFirst : Int32) (this_newsHour : Int32) (this_acts : Int32) (this_stories : Int32) (this_signs : Int32) (this_ruleMany : Int32) (this_upper : Int64) (this_lower : Int64) (this_greatAt : Int32) (this_sides : Int32) (this_goals : Nat → Int32) (this_guest : Nat → Int32) (this_home : Nat → Int32) (this_next : Nat → Int64) (this_prices : Nat → Int32) (this_skill : Nat → Int32) (this_told : Nat → Int32) (this_ways : Nat → Int64) : va_W := [(h_this, .inr (11, oFX11 q_this this_matches this_stakes this_meetings this_newsFirst this_newsHour this_acts this_stories this_signs this_ruleMany this_upper this_lower this_greatAt this_sides)), ((q_this 8), .inl (cI, 72, .inl this_goals)), ((q_this 4), .inl (cI, 12, .inl this_guest)), ((q_this 3), .inl (cI, 12, .inl this_home)), ((q_this 40), .inl (cJ, 13, .inr (.inl this_next))), ((q_this 9), .inl (cI, 216, .inl this_prices)), ((q_this 0), .inl (cI, 8, .inl this_skill)), ((q_this 10), .inl (cI, 5, .inl this_told)), ((q_this 39), .inl (cJ, 13, .inr (.inl this_ways)))]
theorem cw_X11_lean_X11_isMatch_153 {s : State} {args : Array Value} (hts : ∀ w ∈ wsX11_lean, w.before args s = true) : CallW rmX11_lean s args RX11 RX11 153 yX11_isMatch cX11_isMatch 2 (some .boolean) wsX11_isMatch rmX11_isMatch 0 0 1 := cwV 1 hts gX11_lean_X11_isMatch rfl rfl rfl (by decide +kernel) ⟨by decide, by decide⟩
theorem cw_X11_lean_X11_in_138 {s : State} {args : Array Value} (hts : ∀ w ∈ wsX11_lean, w.before args s = true) : CallB rmX11_lean s args RX11 138 yX11_in cX11_in 3 (some .boolean) wsX11_in rmX11_in 0 0 3 ∧ (Cond.static yX11_in).before args s = true := va_cwS 3 hts gX11_lean_X11_in rfl rfl rfl (by decide +kernel) ⟨by decide, by decide⟩
theorem m_X11_lean_c192 : Cond.constant RX11 192 (-2000000000) ∈ wsX11_lean := List.mem_of_getElem? (i := 1) rfl
theorem cw_X11_lean_X11_leanOf_193 {s : State} {args : Array Value} (hts : ∀ w ∈ wsX11_lean, w.before args s = true) : CallW rmX11_lean s args RX11 RX11 193 yX11_leanOf cX11_leanOf 5 (some .int) wsX11_leanOf rmX11_leanOf 0 0 3 := cwV 3 hts gX11_lean_X11_leanOf rfl rfl rfl (by decide +kernel) ⟨by decide, by decide⟩
def t_X11_lean_41   (this_matches : Int32) (this_upper : Int64) (this_lower : Int64) (this_goals : Nat → Int32) (this_guest : Nat → Int32) (this_home : Nat → Int32) (this_next : Nat → Int64) (this_prices : Nat → Int32) (this_skill : Nat → Int32) (this_told : Nat → Int32) (this_ways : Nat → Int64) (s0 : Int32) : Option (Int32 × Int64 × Int64 × (Nat → Int64) × (Nat → Int64)) := some (s0, this_upper, this_lower, this_next, this_ways)
def t_X11_lean  (this_matches : Int32) (this_upper : Int64) (this_lower : Int64) (this_goals : Nat → Int32) (this_guest : Nat → Int32) (this_home : Nat → Int32) (this_next : Nat → Int64) (this_prices : Nat → Int32) (this_skill : Nat → Int32) (this_told : Nat → Int32) (this_ways : Nat → Int64) (x1 : Int32) (x2 : Int32) (x3 : Int32) : Option (Int32 × Int64 × Int64 × (Nat → Int64) × (Nat → Int64)) := bd1 (t_X11_isMatch this_matches x1) (fun v1 => if v1 = 0 then (some ((-2000000000 : Int32), this_upper, this_lower, this_next, this_ways)) else (bd1 (t_X11_in x2 (0 : Int32) (5 : Int32)) (fun v3 => if v3 = 0 then (t_X11_lean_41   this_matches this_upper this_lower this_goals this_guest this_home this_next this_prices this_skill this_told this_ways (-2000000000 : Int32)) else (bd1 (t_X11_in x3 (0 : Int32) (2 : Int32)) (fun v5 => if v5 = 0 then (t_X11_lean_41   this_matches this_upper this_lower this_goals this_guest this_home this_next this_prices this_skill this_told this_ways (-2000000000 : Int32)) else (bd5 (t_X11_leanOf this_upper this_lower this_goals this_guest this_home this_next this_prices this_skill this_told this_ways x1 x2 x3) (fun v7 u7_0 u7_1 u7_2 u7_3 => t_X11_lean_41   this_matches u7_0 u7_1 this_goals this_guest this_home u7_2 this_prices this_skill this_told u7_3 v7)))))))
set_option maxHeartbeats 4000000 in
set_option maxRecDepth 100000 in
theorem b_X11_lean_41 {p : Program} {l : Launch} {e : Env} {s : State} {m : MethodId} {args : Array Value} {below : List Frame} {meth : Method} {c : Code} {D : va_G} {A : Nat → Prop} {cI cJ cZ : ClassId} (X : Cx p m c cX11_lean 4 s args wsX11_lean RX11 D (tys3 cI cJ cZ) meth (some .int)) (_ _ _ : ClassId)  (h_this : Nat) (q_this : Nat → Nat) (this_stakes : Int32) (this_meetings : Int32) (this_newsFirst : Int32) (this_newsHour : Int32) (this_acts : Int32) (this_stories : Int32) (this_signs : Int32) (this_ruleMany : Int32) (this_greatAt : Int32) (this_sides : Int32) (r : Int32) (z0 : Int64) (z1 : Int64) (z2 : Nat → Int64) (z3 : Nat → Int64)  (this_matches : Int32) (this_upper : Int64) (this_lower : Int64) (this_goals : Nat → Int32) (this_guest : Nat → Int32) (this_home : Nat → Int32) (this_next : Nat → Int64) (this_prices : Nat → Int32) (this_skill : Nat → Int32) (this_told : Nat → Int32) (this_ways : Nat → Int64) (s0 : Int32) (hT : t_X11_lean_41   this_matches this_upper this_lower this_goals this_guest this_home this_next this_prices this_skill this_told this_ways s0 = some (r, z0, z1, z2, z3)) : J p l e rmX11_lean s m args below meth c D A 4 (QI D below args s A r (w_X11_lean cI cJ cZ h_this q_this this_matches this_stakes this_meetings this_newsFirst this_newsHour this_acts this_stories this_signs this_ruleMany z0 z1 this_greatAt this_sides this_goals this_guest this_home z2 this_prices this_skill this_told z3)) 0 0 (w_X11_lean cI cJ cZ h_this q_this this_matches this_stakes this_meetings this_newsFirst this_newsHour this_acts this_stories this_signs this_ruleMany this_upper this_lower this_greatAt this_sides this_goals this_guest this_home this_next this_prices this_skill this_told this_ways) [(0, .ref h_this)] [.int s0] 41 := by
  unfold t_X11_lean_41 at hT
  cases hT
  exact J_iret X dX11_lean_41
set_option maxHeartbeats 4000000 in
set_option maxRecDepth 100000 in
theorem c_X11_lean (l : Launch) (D : va_G) (cI cJ cZ : ClassId) (h_this : Nat) (q_this : Nat → Nat) (this_matches : Int32) (this_stakes : Int32) (this_meetings : Int32) (this_newsFirst : Int32) (this_newsHour : Int32) (this_acts : Int32) (this_stories : Int32) (this_signs : Int32) (this_ruleMany : Int32) (this_upper : Int64) (this_lower : Int64) (this_greatAt : Int32) (this_sides : Int32) (this_goals : Nat → Int32) (this_guest : Nat → Int32) (this_home : Nat → Int32) (this_next : Nat → Int64) (this_prices : Nat → Int32) (this_skill : Nat → Int32) (this_told : Nat → Int32) (this_ways : Nat → Int64) (x1 : Int32) (x2 : Int32) (x3 : Int32) (r : Int32) (z0 : Int64) (z1 : Int64) (z2 : Nat → Int64) (z3 : Nat → Int64) (hT : t_X11_lean  this_matches this_upper this_lower this_goals this_guest this_home this_next this_prices this_skill this_told this_ways x1 x2 x3 = some (r, z0, z1, z2, z3)) : Ci l yX11_lean wsX11_lean rmX11_lean D (tys3 cI cJ cZ) [.ref h_this, .int x1, .int x2, .int x3] (w_X11_lean cI cJ cZ h_this q_this this_matches this_stakes this_meetings this_newsFirst this_newsHour this_acts this_stories this_signs this_ruleMany this_upper this_lower this_greatAt this_sides this_goals this_guest this_home this_next this_prices this_skill this_told this_ways) r (w_X11_lean cI cJ cZ h_this q_this this_matches this_stakes this_meetings this_newsFirst this_newsHour this_acts this_stories this_signs this_ruleMany z0 z1 this_greatAt this_sides this_goals this_guest this_home z2 this_prices this_skill this_told z3) := by
  refine Ci.ofJ (cc := cX11_lean) (nL := 4) (rt := (some .int)) (own := RX11) (by decide) rfl rfl (Nat.le_of_ble_eq_true rfl) ?_
  intro p e s m below meth c A X
  unfold t_X11_lean at hT
  refine J_lv (lv' := [(0, .ref h_this), (1, .int x1), (2, .int x2), (3, .int x3)]) [0, 1, 2, 3] rfl ?_
  refine J_aload_n X dX11_lean_0 0 rfl ?_
  refine J_iload_n X dX11_lean_1 1 rfl ?_
  obtain ⟨v1, hq1, hT⟩ := bd1_e hT
  refine J_ci (wc := (w_X11_isMatch cI cJ cZ h_this q_this this_matches this_stakes this_meetings this_newsFirst this_newsHour this_acts this_stories this_signs this_ruleMany this_upper this_lower this_greatAt this_sides)) (wc' := (w_X11_isMatch cI cJ cZ h_this q_this this_matches this_stakes this_meetings this_newsFirst this_newsHour this_acts this_stories this_signs this_ruleMany this_upper this_lower this_greatAt this_sides)) (ws' := (w_X11_lean cI cJ cZ h_this q_this this_matches this_stakes this_meetings this_newsFirst this_newsHour this_acts this_stories this_signs this_ruleMany this_upper this_lower this_greatAt this_sides this_goals this_guest this_home this_next this_prices this_skill this_told this_ways)) (idxs [true, false, false, false, false, false, false, false, false] 0) (idxs [false, true, true, true, true, true, true, true, true] 0) 9 rfl rfl rfl (pick_C _ rfl rfl) rfl (pick_C _ rfl rfl) rfl (pick_R _ rfl rfl rfl) (run_V (As := [.int x1]) (rest := []) X (c_X11_isMatch l D cI cJ cZ h_this q_this this_matches this_stakes this_meetings this_newsFirst this_newsHour this_acts this_stories this_signs this_ruleMany this_upper this_lower this_greatAt this_sides x1 v1 hq1) (cw_X11_lean_X11_isMatch_153 X.1.2.2.2.2) 0 rfl rfl rfl rfl (Nat.le_of_ble_eq_true rfl) dX11_lean_2 ⟨Nat.zero_le _, Nat.zero_le _⟩) ?_
  refine J_if_ne (tgt := 11) X dX11_lean_5 (by decide) (fun hc2 => ?_) (fun hc2 => ?_)
  · have hT := iff_ hT hc2
    refine J_iload_n X dX11_lean_11 2 rfl ?_
    refine J_iconst (v := 0) X dX11_lean_12 (by decide) ?_
    refine J_iconst (v := 5) X dX11_lean_13 (by decide) ?_
    obtain ⟨v3, hq3, hT⟩ := bd1_e hT
    refine J_ci (wc := (w_X11_in cI cJ cZ )) (wc' := (w_X11_in cI cJ cZ )) (ws' := (w_X11_lean cI cJ cZ h_this q_this this_matches this_stakes this_meetings this_newsFirst this_newsHour this_acts this_stories this_signs this_ruleMany this_upper this_lower this_greatAt this_sides this_goals this_guest this_home this_next this_prices this_skill this_told this_ways)) (idxs [false, false, false, false, false, false, false, false, false] 0) (idxs [true, true, true, true, true, true, true, true, true] 0) 9 rfl rfl rfl (pick_C _ rfl rfl) rfl (pick_C _ rfl rfl) rfl (pick_R _ rfl rfl rfl) (run_S (As := [.int x2, .int (0 : Int32), .int (5 : Int32)]) (rest := []) X (c_X11_in l D cI cJ cZ  x2 (0 : Int32) (5 : Int32) v3 hq3) (cw_X11_lean_X11_in_138 X.1.2.2.2.2) rfl rfl (Nat.le_of_ble_eq_true rfl) dX11_lean_14 ⟨Nat.zero_le _, Nat.zero_le _⟩) ?_
    refine J_if_eq (tgt := 39) X dX11_lean_17 (by decide) (fun hc4 => ?_) (fun hc4 => ?_)
    · have hT := ift hT hc4
      refine J_ldc X dX11_lean_39 m_X11_lean_c192 ?_
      refine J_lv (lv' := [(0, .ref h_this)]) [0] rfl ?_
      exact b_X11_lean_41 X cI cJ cZ h_this q_this this_stakes this_meetings this_newsFirst this_newsHour this_acts this_stories this_signs this_ruleMany this_greatAt this_sides r z0 z1 z2 z3  this_matches this_upper this_lower this_goals this_guest this_home this_next this_prices this_skill this_told this_ways (-2000000000 : Int32) hT
    · have hT := iff_ hT hc4
      refine J_iload_n X dX11_lean_20 3 rfl ?_
      refine J_iconst (v := 0) X dX11_lean_21 (by decide) ?_
      refine J_iconst (v := 2) X dX11_lean_22 (by decide) ?_
      obtain ⟨v5, hq5, hT⟩ := bd1_e hT
      refine J_ci (wc := (w_X11_in cI cJ cZ )) (wc' := (w_X11_in cI cJ cZ )) (ws' := (w_X11_lean cI cJ cZ h_this q_this this_matches this_stakes this_meetings this_newsFirst this_newsHour this_acts this_stories this_signs this_ruleMany this_upper this_lower this_greatAt this_sides this_goals this_guest this_home this_next this_prices this_skill this_told this_ways)) (idxs [false, false, false, false, false, false, false, false, false] 0) (idxs [true, true, true, true, true, true, true, true, true] 0) 9 rfl rfl rfl (pick_C _ rfl rfl) rfl (pick_C _ rfl rfl) rfl (pick_R _ rfl rfl rfl) (run_S (As := [.int x3, .int (0 : Int32), .int (2 : Int32)]) (rest := []) X (c_X11_in l D cI cJ cZ  x3 (0 : Int32) (2 : Int32) v5 hq5) (cw_X11_lean_X11_in_138 X.1.2.2.2.2) rfl rfl (Nat.le_of_ble_eq_true rfl) dX11_lean_23 ⟨Nat.zero_le _, Nat.zero_le _⟩) ?_
      refine J_if_eq (tgt := 39) X dX11_lean_26 (by decide) (fun hc6 => ?_) (fun hc6 => ?_)
      · have hT := ift hT hc6
        refine J_ldc X dX11_lean_39 m_X11_lean_c192 ?_
        refine J_lv (lv' := [(0, .ref h_this)]) [0] rfl ?_
        exact b_X11_lean_41 X cI cJ cZ h_this q_this this_stakes this_meetings this_newsFirst this_newsHour this_acts this_stories this_signs this_ruleMany this_greatAt this_sides r z0 z1 z2 z3  this_matches this_upper this_lower this_goals this_guest this_home this_next this_prices this_skill this_told this_ways (-2000000000 : Int32) hT
      · have hT := iff_ hT hc6
        refine J_aload_n X dX11_lean_29 0 rfl ?_
        refine J_iload_n X dX11_lean_30 1 rfl ?_
        refine J_iload_n X dX11_lean_31 2 rfl ?_
        refine J_iload_n X dX11_lean_32 3 rfl ?_
        obtain ⟨v7, u7_0, u7_1, u7_2, u7_3, hq7, hT⟩ := bd5_e hT
        refine J_ci (wc := (w_X11_leanOf cI cJ cZ h_this q_this this_matches this_stakes this_meetings this_newsFirst this_newsHour this_acts this_stories this_signs this_ruleMany this_upper this_lower this_greatAt this_sides this_goals this_guest this_home this_next this_prices this_skill this_told this_ways)) (wc' := (w_X11_leanOf cI cJ cZ h_this q_this this_matches this_stakes this_meetings this_newsFirst this_newsHour this_acts this_stories this_signs this_ruleMany u7_0 u7_1 this_greatAt this_sides this_goals this_guest this_home u7_2 this_prices this_skill this_told u7_3)) (ws' := (w_X11_lean cI cJ cZ h_this q_this this_matches this_stakes this_meetings this_newsFirst this_newsHour this_acts this_stories this_signs this_ruleMany u7_0 u7_1 this_greatAt this_sides this_goals this_guest this_home u7_2 this_prices this_skill this_told u7_3)) (idxs [true, true, true, true, true, true, true, true, true] 0) (idxs [false, false, false, false, false, false, false, false, false] 0) 9 rfl rfl rfl (pick_C _ rfl rfl) rfl (pick_C _ rfl rfl) rfl (pick_R _ rfl rfl rfl) (run_V (As := [.int x1, .int x2, .int x3]) (rest := []) X (c_X11_leanOf l D cI cJ cZ h_this q_this this_matches this_stakes this_meetings this_newsFirst this_newsHour this_acts this_stories this_signs this_ruleMany this_upper this_lower this_greatAt this_sides this_goals this_guest this_home this_next this_prices this_skill this_told this_ways x1 x2 x3 v7 u7_0 u7_1 u7_2 u7_3 hq7) (cw_X11_lean_X11_leanOf_193 X.1.2.2.2.2) 0 rfl rfl rfl rfl (Nat.le_of_ble_eq_true rfl) dX11_lean_33 ⟨Nat.zero_le _, Nat.zero_le _⟩) ?_
        refine J_goto (tgt := 41) X dX11_lean_36 (by decide) ?_
        refine J_lv (lv' := [(0, .ref h_this)]) [0] rfl ?_
        exact b_X11_lean_41 X cI cJ cZ h_this q_this this_stakes this_meetings this_newsFirst this_newsHour this_acts this_stories this_signs this_ruleMany this_greatAt this_sides r z0 z1 z2 z3  this_matches u7_0 u7_1 this_goals this_guest this_home u7_2 this_prices this_skill this_told u7_3 v7 hT
  · have hT := ift hT hc2
    refine J_ldc X dX11_lean_8 m_X11_lean_c192 ?_
    cases hT
    exact J_iret X dX11_lean_10
-- ===== SoldMatchesModel.greatestOf(I)I
abbrev rmX11_greatestOf : Room := { frames := 3, cells := 0, slots := 0, locals := 79 }
def w_X11_greatestOf (cI cJ cZ : ClassId) (h_this : Nat) (q_this : Nat → Nat) (this_matches : Int32) (this_stakes : Int32) (this_meetings : Int32) (this_newsFirst : Int32) (this_newsHour : Int32) (this_acts : Int32) (this_stories : Int32) (this_signs : Int32) (this_ruleMany : Int32) (this_upper : Int64) (this_lower : Int64) (this_greatAt : Int32) (this_sides : Int32) (this_goals : Nat → Int32) (this_guest : Nat → Int32) (this_home : Nat → Int32) (this_next : Nat → Int64) (this_prices : Nat → Int32) (this_skill : Nat → Int32) (this_told : Nat → Int32) (this_ways : Nat → Int64) : va_W := [(h_this, .inr (11, oFX11 q_this this_matches this_stakes this_meetings this_newsFirst this_newsHour this_acts this_stories this_signs this_ruleMany this_upper this_lower this_greatAt this_sides)), ((q_this 8), .inl (cI, 72, .inl this_goals)), ((q_this 4), .inl (cI, 12, .inl this_guest)), ((q_this 3), .inl (cI, 12, .inl this_home)), ((q_this 40), .inl (cJ, 13, .inr (.inl this_next))), ((q_this 9), .inl (cI, 216, .inl this_prices)), ((q_this 0), .inl (cI, 8, .inl this_skill)), ((q_this 10), .inl (cI, 5, .inl this_told)), ((q_this 39), .inl (cJ, 13, .inr (.inl this_ways)))]
theorem cw_X11_greatestOf_X11_leanOf_193 {s : State} {args : Array Value} (hts : ∀ w ∈ wsX11_greatestOf, w.before args s = true) : CallW rmX11_greatestOf s args RX11 RX11 193 yX11_leanOf cX11_leanOf 5 (some .int) wsX11_leanOf rmX11_leanOf 0 0 3 := cwV 3 hts gX11_greatestOf_X11_leanOf rfl rfl rfl (by decide +kernel) ⟨by decide, by decide⟩
theorem m_X11_greatestOf_f196 : Cond.fieldLink RX11 196 "SoldMatchesModel" "greatAt" "I" ∈ wsX11_greatestOf := List.mem_of_getElem? (i := 1) rfl
theorem in_X11_greatestOf_X11 : ∀ w ∈ wsX110, w ∈ wsX11_greatestOf := fun w h => List.mem_cons_of_mem _ (List.mem_append_right _ h)
def t_X11_greatestOf_57  (k_15 : Int64 → Int64 → Int32 → (Nat → Int32) → (Nat → Int32) → (Nat → Int32) → (Nat → Int64) → (Nat → Int32) → (Nat → Int32) → (Nat → Int32) → (Nat → Int64) → Int32 → Int32 → Int32 → (Option (Int32 × Int64 × Int64 × Int32 × (Nat → Int64) × (Nat → Int64)))) (this_upper : Int64) (this_lower : Int64) (this_greatAt : Int32) (this_goals : Nat → Int32) (this_guest : Nat → Int32) (this_home : Nat → Int32) (this_next : Nat → Int64) (this_prices : Nat → Int32) (this_skill : Nat → Int32) (this_told : Nat → Int32) (this_ways : Nat → Int64) (x1 : Int32) (x2 : Int32) (x3 : Int32) : Option (Int32 × Int64 × Int64 × Int32 × (Nat → Int64) × (Nat → Int64)) := k_15 this_upper this_lower this_greatAt this_goals this_guest this_home this_next this_prices this_skill this_told this_ways x1 x2 (x3 + (1 : Int32))
def t_X11_greatestOf_15_b  (k_15 : Int64 → Int64 → Int32 → (Nat → Int32) → (Nat → Int32) → (Nat → Int32) → (Nat → Int64) → (Nat → Int32) → (Nat → Int32) → (Nat → Int32) → (Nat → Int64) → Int32 → Int32 → Int32 → (Option (Int32 × Int64 × Int64 × Int32 × (Nat → Int64) × (Nat → Int64)))) (this_upper : Int64) (this_lower : Int64) (this_greatAt : Int32) (this_goals : Nat → Int32) (this_guest : Nat → Int32) (this_home : Nat → Int32) (this_next : Nat → Int64) (this_prices : Nat → Int32) (this_skill : Nat → Int32) (this_told : Nat → Int32) (this_ways : Nat → Int64) (x1 : Int32) (x2 : Int32) (x3 : Int32) : Option (Int32 × Int64 × Int64 × Int32 × (Nat → Int64) × (Nat → Int64)) := if (18 : Int32) ≤ x3 then (some (x2, this_upper, this_lower, this_greatAt, this_next, this_ways)) else (bd5 (t_X11_leanOf this_upper this_lower this_goals this_guest this_home this_next this_prices this_skill this_told this_ways x1 (x3 / (3 : Int32)) (x3 - x3 / (3 : Int32) * (3 : Int32))) (fun v2 u2_0 u2_1 u2_2 u2_3 => if v2 ≤ x2 then (t_X11_greatestOf_57  k_15 u2_0 u2_1 this_greatAt this_goals this_guest this_home u2_2 this_prices this_skill this_told u2_3 x1 x2 x3) else (t_X11_greatestOf_57  k_15 u2_0 u2_1 (((10 : Int32) * (x3 / (3 : Int32))) + (x3 - x3 / (3 : Int32) * (3 : Int32))) this_goals this_guest this_home u2_2 this_prices this_skill this_told u2_3 x1 v2 x3)))
def t_X11_greatestOf_15   (n : Nat) : Int64 → Int64 → Int32 → (Nat → Int32) → (Nat → Int32) → (Nat → Int32) → (Nat → Int64) → (Nat → Int32) → (Nat → Int32) → (Nat → Int32) → (Nat → Int64) → Int32 → Int32 → Int32 → (Option (Int32 × Int64 × Int64 × Int32 × (Nat → Int64) × (Nat → Int64))) := Nat.rec (fun _ _ _ _ _ _ _ _ _ _ _ _ _ _ => none) (fun _ ih => t_X11_greatestOf_15_b   ih) n
def t_X11_greatestOf  (this_upper : Int64) (this_lower : Int64) (this_greatAt : Int32) (this_goals : Nat → Int32) (this_guest : Nat → Int32) (this_home : Nat → Int32) (this_next : Nat → Int64) (this_prices : Nat → Int32) (this_skill : Nat → Int32) (this_told : Nat → Int32) (this_ways : Nat → Int64) (x1 : Int32) : Option (Int32 × Int64 × Int64 × Int32 × (Nat → Int64) × (Nat → Int64)) := bd5 (t_X11_leanOf this_upper this_lower this_goals this_guest this_home this_next this_prices this_skill this_told this_ways x1 (0 : Int32) (0 : Int32)) (fun v4 u4_0 u4_1 u4_2 u4_3 => t_X11_greatestOf_15   lfuel u4_0 u4_1 (0 : Int32) this_goals this_guest this_home u4_2 this_prices this_skill this_told u4_3 x1 v4 (1 : Int32))
set_option maxHeartbeats 4000000 in
set_option maxRecDepth 100000 in
theorem b_X11_greatestOf_57 {p : Program} {l : Launch} {e : Env} {s : State} {m : MethodId} {args : Array Value} {below : List Frame} {meth : Method} {c : Code} {D : va_G} {A : Nat → Prop} {cI cJ cZ : ClassId} (X : Cx p m c cX11_greatestOf 5 s args wsX11_greatestOf RX11 D (tys3 cI cJ cZ) meth (some .int)) (_ _ _ : ClassId)  (h_this : Nat) (q_this : Nat → Nat) (this_matches : Int32) (this_stakes : Int32) (this_meetings : Int32) (this_newsFirst : Int32) (this_newsHour : Int32) (this_acts : Int32) (this_stories : Int32) (this_signs : Int32) (this_ruleMany : Int32) (this_sides : Int32) (r : Int32) (z0 : Int64) (z1 : Int64) (z2 : Int32) (z3 : Nat → Int64) (z4 : Nat → Int64) (k_15 : Int64 → Int64 → Int32 → (Nat → Int32) → (Nat → Int32) → (Nat → Int32) → (Nat → Int64) → (Nat → Int32) → (Nat → Int32) → (Nat → Int32) → (Nat → Int64) → Int32 → Int32 → Int32 → (Option (Int32 × Int64 × Int64 × Int32 × (Nat → Int64) × (Nat → Int64)))) (hk_15 : ∀ (this_upper : Int64) (this_lower : Int64) (this_greatAt : Int32) (this_goals : Nat → Int32) (this_guest : Nat → Int32) (this_home : Nat → Int32) (this_next : Nat → Int64) (this_prices : Nat → Int32) (this_skill : Nat → Int32) (this_told : Nat → Int32) (this_ways : Nat → Int64) (x1 : Int32) (x2 : Int32) (x3 : Int32), k_15 this_upper this_lower this_greatAt this_goals this_guest this_home this_next this_prices this_skill this_told this_ways x1 x2 x3 = some (r, z0, z1, z2, z3, z4) → J p l e rmX11_greatestOf s m args below meth c D A 5 (QI D below args s A r (w_X11_greatestOf cI cJ cZ h_this q_this this_matches this_stakes this_meetings this_newsFirst this_newsHour this_acts this_stories this_signs this_ruleMany z0 z1 z2 this_sides this_goals this_guest this_home z3 this_prices this_skill this_told z4)) 0 0 (w_X11_greatestOf cI cJ cZ h_this q_this this_matches this_stakes this_meetings this_newsFirst this_newsHour this_acts this_stories this_signs this_ruleMany this_upper this_lower this_greatAt this_sides this_goals this_guest this_home this_next this_prices this_skill this_told this_ways) [(0, .ref h_this), (1, .int x1), (2, .int x2), (3, .int x3)] [] 15) (this_upper : Int64) (this_lower : Int64) (this_greatAt : Int32) (this_goals : Nat → Int32) (this_guest : Nat → Int32) (this_home : Nat → Int32) (this_next : Nat → Int64) (this_prices : Nat → Int32) (this_skill : Nat → Int32) (this_told : Nat → Int32) (this_ways : Nat → Int64) (x1 : Int32) (x2 : Int32) (x3 : Int32) (hT : t_X11_greatestOf_57  k_15 this_upper this_lower this_greatAt this_goals this_guest this_home this_next this_prices this_skill this_told this_ways x1 x2 x3 = some (r, z0, z1, z2, z3, z4)) : J p l e rmX11_greatestOf s m args below meth c D A 5 (QI D below args s A r (w_X11_greatestOf cI cJ cZ h_this q_this this_matches this_stakes this_meetings this_newsFirst this_newsHour this_acts this_stories this_signs this_ruleMany z0 z1 z2 this_sides this_goals this_guest this_home z3 this_prices this_skill this_told z4)) 0 0 (w_X11_greatestOf cI cJ cZ h_this q_this this_matches this_stakes this_meetings this_newsFirst this_newsHour this_acts this_stories this_signs this_ruleMany this_upper this_lower this_greatAt this_sides this_goals this_guest this_home this_next this_prices this_skill this_told this_ways) [(0, .ref h_this), (1, .int x1), (2, .int x2), (3, .int x3)] [] 57 := by
  unfold t_X11_greatestOf_57 at hT
  refine J_iinc (lv' := [(3, .int (x3 + (1 : Int32))), (0, .ref h_this), (1, .int x1), (2, .int x2)]) (j := 3) X dX11_greatestOf_57 rfl rfl (by decide) rfl ?_
  refine J_goto (tgt := 15) X dX11_greatestOf_60 (by decide) ?_
  refine J_lv (lv' := [(0, .ref h_this), (1, .int x1), (2, .int x2), (3, .int (x3 + (1 : Int32)))]) [1, 2, 3, 0] rfl ?_
  exact hk_15 this_upper this_lower this_greatAt this_goals this_guest this_home this_next this_prices this_skill this_told this_ways x1 x2 (x3 + (1 : Int32)) hT
set_option maxHeartbeats 4000000 in
set_option maxRecDepth 100000 in
theorem b_X11_greatestOf_15_b {p : Program} {l : Launch} {e : Env} {s : State} {m : MethodId} {args : Array Value} {below : List Frame} {meth : Method} {c : Code} {D : va_G} {A : Nat → Prop} {cI cJ cZ : ClassId} (X : Cx p m c cX11_greatestOf 5 s args wsX11_greatestOf RX11 D (tys3 cI cJ cZ) meth (some .int)) (_ _ _ : ClassId)  (h_this : Nat) (q_this : Nat → Nat) (this_matches : Int32) (this_stakes : Int32) (this_meetings : Int32) (this_newsFirst : Int32) (this_newsHour : Int32) (this_acts : Int32) (this_stories : Int32) (this_signs : Int32) (this_ruleMany : Int32) (this_sides : Int32) (r : Int32) (z0 : Int64) (z1 : Int64) (z2 : Int32) (z3 : Nat → Int64) (z4 : Nat → Int64) (k_15 : Int64 → Int64 → Int32 → (Nat → Int32) → (Nat → Int32) → (Nat → Int32) → (Nat → Int64) → (Nat → Int32) → (Nat → Int32) → (Nat → Int32) → (Nat → Int64) → Int32 → Int32 → Int32 → (Option (Int32 × Int64 × Int64 × Int32 × (Nat → Int64) × (Nat → Int64)))) (hk_15 : ∀ (this_upper : Int64) (this_lower : Int64) (this_greatAt : Int32) (this_goals : Nat → Int32) (this_guest : Nat → Int32) (this_home : Nat → Int32) (this_next : Nat → Int64) (this_prices : Nat → Int32) (this_skill : Nat → Int32) (this_told : Nat → Int32) (this_ways : Nat → Int64) (x1 : Int32) (x2 : Int32) (x3 : Int32), k_15 this_upper this_lower this_greatAt this_goals this_guest this_home this_next this_prices this_skill this_told this_ways x1 x2 x3 = some (r, z0, z1, z2, z3, z4) → J p l e rmX11_greatestOf s m args below meth c D A 5 (QI D below args s A r (w_X11_greatestOf cI cJ cZ h_this q_this this_matches this_stakes this_meetings this_newsFirst this_newsHour this_acts this_stories this_signs this_ruleMany z0 z1 z2 this_sides this_goals this_guest this_home z3 this_prices this_skill this_told z4)) 0 0 (w_X11_greatestOf cI cJ cZ h_this q_this this_matches this_stakes this_meetings this_newsFirst this_newsHour this_acts this_stories this_signs this_ruleMany this_upper this_lower this_greatAt this_sides this_goals this_guest this_home this_next this_prices this_skill this_told this_ways) [(0, .ref h_this), (1, .int x1), (2, .int x2), (3, .int x3)] [] 15) (this_upper : Int64) (this_lower : Int64) (this_greatAt : Int32) (this_goals : Nat → Int32) (this_guest : Nat → Int32) (this_home : Nat → Int32) (this_next : Nat → Int64) (this_prices : Nat → Int32) (this_skill : Nat → Int32) (this_told : Nat → Int32) (this_ways : Nat → Int64) (x1 : Int32) (x2 : Int32) (x3 : Int32) (hT : t_X11_greatestOf_15_b  k_15 this_upper this_lower this_greatAt this_goals this_guest this_home this_next this_prices this_skill this_told this_ways x1 x2 x3 = some (r, z0, z1, z2, z3, z4)) : J p l e rmX11_greatestOf s m args below meth c D A 5 (QI D below args s A r (w_X11_greatestOf cI cJ cZ h_this q_this this_matches this_stakes this_meetings this_newsFirst this_newsHour this_acts this_stories this_signs this_ruleMany z0 z1 z2 this_sides this_goals this_guest this_home z3 this_prices this_skill this_told z4)) 0 0 (w_X11_greatestOf cI cJ cZ h_this q_this this_matches this_stakes this_meetings this_newsFirst this_newsHour this_acts this_stories this_signs this_ruleMany this_upper this_lower this_greatAt this_sides this_goals this_guest this_home this_next this_prices this_skill this_told this_ways) [(0, .ref h_this), (1, .int x1), (2, .int x2), (3, .int x3)] [] 15 := by
  unfold t_X11_greatestOf_15_b at hT
  refine J_iload_n X dX11_greatestOf_15 3 rfl ?_
  refine J_bipush (v := 18) X dX11_greatestOf_16 (by decide) ?_
  refine J_icmp_ge (tgt := 63) X dX11_greatestOf_18 (by decide) (fun hc1 => ?_) (fun hc1 => ?_)
  · have hT := ift hT hc1
    refine J_iload_n X dX11_greatestOf_63 2 rfl ?_
    cases hT
    exact J_iret X dX11_greatestOf_64
  · have hT := iff_ hT hc1
    refine J_aload_n X dX11_greatestOf_21 0 rfl ?_
    refine J_iload_n X dX11_greatestOf_22 1 rfl ?_
    refine J_iload_n X dX11_greatestOf_23 3 rfl ?_
    refine J_iconst (v := 3) X dX11_greatestOf_24 (by decide) ?_
    refine J_idiv X dX11_greatestOf_25 (by decide) ?_
    refine J_iload_n X dX11_greatestOf_26 3 rfl ?_
    refine J_iconst (v := 3) X dX11_greatestOf_27 (by decide) ?_
    refine J_irem X dX11_greatestOf_28 (by decide) ?_
    obtain ⟨v2, u2_0, u2_1, u2_2, u2_3, hq2, hT⟩ := bd5_e hT
    refine J_ci (wc := (w_X11_leanOf cI cJ cZ h_this q_this this_matches this_stakes this_meetings this_newsFirst this_newsHour this_acts this_stories this_signs this_ruleMany this_upper this_lower this_greatAt this_sides this_goals this_guest this_home this_next this_prices this_skill this_told this_ways)) (wc' := (w_X11_leanOf cI cJ cZ h_this q_this this_matches this_stakes this_meetings this_newsFirst this_newsHour this_acts this_stories this_signs this_ruleMany u2_0 u2_1 this_greatAt this_sides this_goals this_guest this_home u2_2 this_prices this_skill this_told u2_3)) (ws' := (w_X11_greatestOf cI cJ cZ h_this q_this this_matches this_stakes this_meetings this_newsFirst this_newsHour this_acts this_stories this_signs this_ruleMany u2_0 u2_1 this_greatAt this_sides this_goals this_guest this_home u2_2 this_prices this_skill this_told u2_3)) (idxs [true, true, true, true, true, true, true, true, true] 0) (idxs [false, false, false, false, false, false, false, false, false] 0) 9 rfl rfl rfl (pick_C _ rfl rfl) rfl (pick_C _ rfl rfl) rfl (pick_R _ rfl rfl rfl) (run_V (As := [.int x1, .int (x3 / (3 : Int32)), .int (x3 - x3 / (3 : Int32) * (3 : Int32))]) (rest := []) X (c_X11_leanOf l D cI cJ cZ h_this q_this this_matches this_stakes this_meetings this_newsFirst this_newsHour this_acts this_stories this_signs this_ruleMany this_upper this_lower this_greatAt this_sides this_goals this_guest this_home this_next this_prices this_skill this_told this_ways x1 (x3 / (3 : Int32)) (x3 - x3 / (3 : Int32) * (3 : Int32)) v2 u2_0 u2_1 u2_2 u2_3 hq2) (cw_X11_greatestOf_X11_leanOf_193 X.1.2.2.2.2) 0 rfl rfl rfl rfl (Nat.le_of_ble_eq_true rfl) dX11_greatestOf_29 ⟨Nat.zero_le _, Nat.zero_le _⟩) ?_
    refine J_istore (lv' := [(4, .int v2), (0, .ref h_this), (1, .int x1), (2, .int x2), (3, .int x3)]) X dX11_greatestOf_32 (by decide) rfl ?_
    refine J_iload X dX11_greatestOf_34 0 rfl ?_
    refine J_iload_n X dX11_greatestOf_36 3 rfl ?_
    refine J_icmp_le (tgt := 57) X dX11_greatestOf_37 (by decide) (fun hc3 => ?_) (fun hc3 => ?_)
    · have hT := ift hT hc3
      refine J_lv (lv' := [(0, .ref h_this), (1, .int x1), (2, .int x2), (3, .int x3)]) [1, 2, 3, 4] rfl ?_
      exact b_X11_greatestOf_57 X cI cJ cZ h_this q_this this_matches this_stakes this_meetings this_newsFirst this_newsHour this_acts this_stories this_signs this_ruleMany this_sides r z0 z1 z2 z3 z4 k_15 hk_15 u2_0 u2_1 this_greatAt this_goals this_guest this_home u2_2 this_prices this_skill this_told u2_3 x1 x2 x3 hT
    · have hT := iff_ hT hc3
      refine J_iload X dX11_greatestOf_40 0 rfl ?_
      refine J_istore_n (lv' := [(2, .int v2), (4, .int v2), (0, .ref h_this), (1, .int x1), (3, .int x3)]) X dX11_greatestOf_42 (by decide) rfl ?_
      refine J_aload_n X dX11_greatestOf_43 2 rfl ?_
      refine J_bipush (v := 10) X dX11_greatestOf_44 (by decide) ?_
      refine J_iload_n X dX11_greatestOf_46 4 rfl ?_
      refine J_iconst (v := 3) X dX11_greatestOf_47 (by decide) ?_
      refine J_idiv X dX11_greatestOf_48 (by decide) ?_
      refine J_imul X dX11_greatestOf_49 ?_
      refine J_iload_n X dX11_greatestOf_50 4 rfl ?_
      refine J_iconst (v := 3) X dX11_greatestOf_51 (by decide) ?_
      refine J_irem X dX11_greatestOf_52 (by decide) ?_
      refine J_iadd X dX11_greatestOf_53 ?_
      refine J_put (host := "") (C := RX11) (T := TX11) (N := 54) (ci := 11) (ws' := (w_X11_greatestOf cI cJ cZ h_this q_this this_matches this_stakes this_meetings this_newsFirst this_newsHour this_acts this_stories this_signs this_ruleMany u2_0 u2_1 (((10 : Int32) * (x3 / (3 : Int32))) + (x3 - x3 / (3 : Int32) * (3 : Int32))) this_sides this_goals this_guest this_home u2_2 this_prices this_skill this_told u2_3)) X in_X11_greatestOf_X11 0 rfl rfl 43 (by decide) tyX11 tyX11_ok nmX11 m_X11_greatestOf_f196 rfl rfl rfl (Nat.le_of_ble_eq_true rfl) rfl dX11_greatestOf_54 ?_
      refine J_lv (lv' := [(0, .ref h_this), (1, .int x1), (2, .int v2), (3, .int x3)]) [2, 3, 0, 4] rfl ?_
      exact b_X11_greatestOf_57 X cI cJ cZ h_this q_this this_matches this_stakes this_meetings this_newsFirst this_newsHour this_acts this_stories this_signs this_ruleMany this_sides r z0 z1 z2 z3 z4 k_15 hk_15 u2_0 u2_1 (((10 : Int32) * (x3 / (3 : Int32))) + (x3 - x3 / (3 : Int32) * (3 : Int32))) this_goals this_guest this_home u2_2 this_prices this_skill this_told u2_3 x1 v2 x3 hT
set_option maxHeartbeats 4000000 in
set_option maxRecDepth 100000 in
theorem b_X11_greatestOf_15 {p : Program} {l : Launch} {e : Env} {s : State} {m : MethodId} {args : Array Value} {below : List Frame} {meth : Method} {c : Code} {D : va_G} {A : Nat → Prop} {cI cJ cZ : ClassId} (X : Cx p m c cX11_greatestOf 5 s args wsX11_greatestOf RX11 D (tys3 cI cJ cZ) meth (some .int)) (_ _ _ : ClassId)  (h_this : Nat) (q_this : Nat → Nat) (this_matches : Int32) (this_stakes : Int32) (this_meetings : Int32) (this_newsFirst : Int32) (this_newsHour : Int32) (this_acts : Int32) (this_stories : Int32) (this_signs : Int32) (this_ruleMany : Int32) (this_sides : Int32) (r : Int32) (z0 : Int64) (z1 : Int64) (z2 : Int32) (z3 : Nat → Int64) (z4 : Nat → Int64)  : ∀ (n : Nat) (this_upper : Int64) (this_lower : Int64) (this_greatAt : Int32) (this_goals : Nat → Int32) (this_guest : Nat → Int32) (this_home : Nat → Int32) (this_next : Nat → Int64) (this_prices : Nat → Int32) (this_skill : Nat → Int32) (this_told : Nat → Int32) (this_ways : Nat → Int64) (x1 : Int32) (x2 : Int32) (x3 : Int32) (hT : t_X11_greatestOf_15   n this_upper this_lower this_greatAt this_goals this_guest this_home this_next this_prices this_skill this_told this_ways x1 x2 x3 = some (r, z0, z1, z2, z3, z4)), J p l e rmX11_greatestOf s m args below meth c D A 5 (QI D below args s A r (w_X11_greatestOf cI cJ cZ h_this q_this this_matches this_stakes this_meetings this_newsFirst this_newsHour this_acts this_stories this_signs this_ruleMany z0 z1 z2 this_sides this_goals this_guest this_home z3 this_prices this_skill this_told z4)) 0 0 (w_X11_greatestOf cI cJ cZ h_this q_this this_matches this_stakes this_meetings this_newsFirst this_newsHour this_acts this_stories this_signs this_ruleMany this_upper this_lower this_greatAt this_sides this_goals this_guest this_home this_next this_prices this_skill this_told this_ways) [(0, .ref h_this), (1, .int x1), (2, .int x2), (3, .int x3)] [] 15 := by
  intro n
  induction n with
  | zero => intro this_upper this_lower this_greatAt this_goals this_guest this_home this_next this_prices this_skill this_told this_ways x1 x2 x3 hT; cases hT
  | succ n ih =>
    intro this_upper this_lower this_greatAt this_goals this_guest this_home this_next this_prices this_skill this_told this_ways x1 x2 x3 hT
    exact b_X11_greatestOf_15_b X cI cJ cZ h_this q_this this_matches this_stakes this_meetings this_newsFirst this_newsHour this_acts this_stories this_signs this_ruleMany this_sides r z0 z1 z2 z3 z4  (t_X11_greatestOf_15   n) ih this_upper this_lower this_greatAt this_goals this_guest this_home this_next this_prices this_skill this_told this_ways x1 x2 x3 hT
set_option maxHeartbeats 4000000 in
set_option maxRecDepth 100000 in
theorem c_X11_greatestOf (l : Launch) (D : va_G) (cI cJ cZ : ClassId) (h_this : Nat) (q_this : Nat → Nat) (this_matches : Int32) (this_stakes : Int32) (this_meetings : Int32) (this_newsFirst : Int32) (this_newsHour : Int32) (this_acts : Int32) (this_stories : Int32) (this_signs : Int32) (this_ruleMany : Int32) (this_upper : Int64) (this_lower : Int64) (this_greatAt : Int32) (this_sides : Int32) (this_goals : Nat → Int32) (this_guest : Nat → Int32) (this_home : Nat → Int32) (this_next : Nat → Int64) (this_prices : Nat → Int32) (this_skill : Nat → Int32) (this_told : Nat → Int32) (this_ways : Nat → Int64) (x1 : Int32) (r : Int32) (z0 : Int64) (z1 : Int64) (z2 : Int32) (z3 : Nat → Int64) (z4 : Nat → Int64) (hT : t_X11_greatestOf  this_upper this_lower this_greatAt this_goals this_guest this_home this_next this_prices this_skill this_told this_ways x1 = some (r, z0, z1, z2, z3, z4)) : Ci l yX11_greatestOf wsX11_greatestOf rmX11_greatestOf D (tys3 cI cJ cZ) [.ref h_this, .int x1] (w_X11_greatestOf cI cJ cZ h_this q_this this_matches this_stakes this_meetings this_newsFirst this_newsHour this_acts this_stories this_signs this_ruleMany this_upper this_lower this_greatAt this_sides this_goals this_guest this_home this_next this_prices this_skill this_told this_ways) r (w_X11_greatestOf cI cJ cZ h_this q_this this_matches this_stakes this_meetings this_newsFirst this_newsHour this_acts this_stories this_signs this_ruleMany z0 z1 z2 this_sides this_goals this_guest this_home z3 this_prices this_skill this_told z4) := by
  refine Ci.ofJ (cc := cX11_greatestOf) (nL := 5) (rt := (some .int)) (own := RX11) (by decide) rfl rfl (Nat.le_of_ble_eq_true rfl) ?_
  intro p e s m below meth c A X
  unfold t_X11_greatestOf at hT
  refine J_lv (lv' := [(0, .ref h_this), (1, .int x1)]) [0, 1] rfl ?_
  refine J_aload_n X dX11_greatestOf_0 0 rfl ?_
  refine J_iload_n X dX11_greatestOf_1 1 rfl ?_
  refine J_iconst (v := 0) X dX11_greatestOf_2 (by decide) ?_
  refine J_iconst (v := 0) X dX11_greatestOf_3 (by decide) ?_
  obtain ⟨v4, u4_0, u4_1, u4_2, u4_3, hq4, hT⟩ := bd5_e hT
  refine J_ci (wc := (w_X11_leanOf cI cJ cZ h_this q_this this_matches this_stakes this_meetings this_newsFirst this_newsHour this_acts this_stories this_signs this_ruleMany this_upper this_lower this_greatAt this_sides this_goals this_guest this_home this_next this_prices this_skill this_told this_ways)) (wc' := (w_X11_leanOf cI cJ cZ h_this q_this this_matches this_stakes this_meetings this_newsFirst this_newsHour this_acts this_stories this_signs this_ruleMany u4_0 u4_1 this_greatAt this_sides this_goals this_guest this_home u4_2 this_prices this_skill this_told u4_3)) (ws' := (w_X11_greatestOf cI cJ cZ h_this q_this this_matches this_stakes this_meetings this_newsFirst this_newsHour this_acts this_stories this_signs this_ruleMany u4_0 u4_1 this_greatAt this_sides this_goals this_guest this_home u4_2 this_prices this_skill this_told u4_3)) (idxs [true, true, true, true, true, true, true, true, true] 0) (idxs [false, false, false, false, false, false, false, false, false] 0) 9 rfl rfl rfl (pick_C _ rfl rfl) rfl (pick_C _ rfl rfl) rfl (pick_R _ rfl rfl rfl) (run_V (As := [.int x1, .int (0 : Int32), .int (0 : Int32)]) (rest := []) X (c_X11_leanOf l D cI cJ cZ h_this q_this this_matches this_stakes this_meetings this_newsFirst this_newsHour this_acts this_stories this_signs this_ruleMany this_upper this_lower this_greatAt this_sides this_goals this_guest this_home this_next this_prices this_skill this_told this_ways x1 (0 : Int32) (0 : Int32) v4 u4_0 u4_1 u4_2 u4_3 hq4) (cw_X11_greatestOf_X11_leanOf_193 X.1.2.2.2.2) 0 rfl rfl rfl rfl (Nat.le_of_ble_eq_true rfl) dX11_greatestOf_4 ⟨Nat.zero_le _, Nat.zero_le _⟩) ?_
  refine J_istore_n (lv' := [(2, .int v4), (0, .ref h_this), (1, .int x1)]) X dX11_greatestOf_7 (by decide) rfl ?_
  refine J_aload_n X dX11_greatestOf_8 1 rfl ?_
  refine J_iconst (v := 0) X dX11_greatestOf_9 (by decide) ?_
  refine J_put (host := "") (C := RX11) (T := TX11) (N := 54) (ci := 11) (ws' := (w_X11_greatestOf cI cJ cZ h_this q_this this_matches this_stakes this_meetings this_newsFirst this_newsHour this_acts this_stories this_signs this_ruleMany u4_0 u4_1 (0 : Int32) this_sides this_goals this_guest this_home u4_2 this_prices this_skill this_told u4_3)) X in_X11_greatestOf_X11 0 rfl rfl 43 (by decide) tyX11 tyX11_ok nmX11 m_X11_greatestOf_f196 rfl rfl rfl (Nat.le_of_ble_eq_true rfl) rfl dX11_greatestOf_10 ?_
  refine J_iconst (v := 1) X dX11_greatestOf_13 (by decide) ?_
  refine J_istore_n (lv' := [(3, .int (1 : Int32)), (2, .int v4), (0, .ref h_this), (1, .int x1)]) X dX11_greatestOf_14 (by decide) rfl ?_
  refine J_lv (lv' := [(0, .ref h_this), (1, .int x1), (2, .int v4), (3, .int (1 : Int32))]) [2, 3, 1, 0] rfl ?_
  exact b_X11_greatestOf_15 X cI cJ cZ h_this q_this this_matches this_stakes this_meetings this_newsFirst this_newsHour this_acts this_stories this_signs this_ruleMany this_sides r z0 z1 z2 z3 z4  lfuel u4_0 u4_1 (0 : Int32) this_goals this_guest this_home u4_2 this_prices this_skill this_told u4_3 x1 v4 (1 : Int32) hT
-- ===== SoldMatchesModel.greatest(II)I
abbrev rmX11_greatest : Room := { frames := 4, cells := 0, slots := 0, locals := 103 }
def w_X11_greatest (cI cJ cZ : ClassId) (h_this : Nat) (q_this : Nat → Nat) (this_matches : Int32) (this_stakes : Int32) (this_meetings : Int32) (this_newsFirst : Int32) (this_newsHour : Int32) (this_acts : Int32) (this_stories : Int32) (this_signs : Int32) (this_ruleMany : Int32) (this_upper : Int64) (this_lower : Int64) (this_greatAt : Int32) (this_sides : Int32) (this_goals : Nat → Int32) (this_guest : Nat → Int32) (this_home : Nat → Int32) (this_next : Nat → Int64) (this_prices : Nat → Int32) (this_skill : Nat → Int32) (this_told : Nat → Int32) (this_ways : Nat → Int64) : va_W := [(h_this, .inr (11, oFX11 q_this this_matches this_stakes this_meetings this_newsFirst this_newsHour this_acts this_stories this_signs this_ruleMany this_upper this_lower this_greatAt this_sides)), ((q_this 8), .inl (cI, 72, .inl this_goals)), ((q_this 4), .inl (cI, 12, .inl this_guest)), ((q_this 3), .inl (cI, 12, .inl this_home)), ((q_this 40), .inl (cJ, 13, .inr (.inl this_next))), ((q_this 9), .inl (cI, 216, .inl this_prices)), ((q_this 0), .inl (cI, 8, .inl this_skill)), ((q_this 10), .inl (cI, 5, .inl this_told)), ((q_this 39), .inl (cJ, 13, .inr (.inl this_ways)))]
theorem cw_X11_greatest_X11_isMatch_153 {s : State} {args : Array Value} (hts : ∀ w ∈ wsX11_greatest, w.before args s = true) : CallW rmX11_greatest s args RX11 RX11 153 yX11_isMatch cX11_isMatch 2 (some .boolean) wsX11_isMatch rmX11_isMatch 0 0 1 := cwV 1 hts gX11_greatest_X11_isMatch rfl rfl rfl (by decide +kernel) ⟨by decide, by decide⟩
theorem m_X11_greatest_c192 : Cond.constant RX11 192 (-2000000000) ∈ wsX11_greatest := List.mem_of_getElem? (i := 1) rfl
theorem cw_X11_greatest_X11_in_138 {s : State} {args : Array Value} (hts : ∀ w ∈ wsX11_greatest, w.before args s = true) : CallB rmX11_greatest s args RX11 138 yX11_in cX11_in 3 (some .boolean) wsX11_in rmX11_in 0 0 3 ∧ (Cond.static yX11_in).before args s = true := va_cwS 3 hts gX11_greatest_X11_in rfl rfl rfl (by decide +kernel) ⟨by decide, by decide⟩
theorem cw_X11_greatest_X11_greatestOf_199 {s : State} {args : Array Value} (hts : ∀ w ∈ wsX11_greatest, w.before args s = true) : CallW rmX11_greatest s args RX11 RX11 199 yX11_greatestOf cX11_greatestOf 5 (some .int) wsX11_greatestOf rmX11_greatestOf 0 0 1 := cwV 1 hts gX11_greatest_X11_greatestOf rfl rfl rfl (by decide +kernel) ⟨by decide, by decide⟩
theorem m_X11_greatest_f196 : Cond.fieldLink RX11 196 "SoldMatchesModel" "greatAt" "I" ∈ wsX11_greatest := List.mem_of_getElem? (i := 2) rfl
theorem in_X11_greatest_X11 : ∀ w ∈ wsX110, w ∈ wsX11_greatest := fun w h => List.mem_cons_of_mem _ (List.mem_append_right _ h)
def t_X11_greatest_38   (this_matches : Int32) (this_upper : Int64) (this_lower : Int64) (this_greatAt : Int32) (this_goals : Nat → Int32) (this_guest : Nat → Int32) (this_home : Nat → Int32) (this_next : Nat → Int64) (this_prices : Nat → Int32) (this_skill : Nat → Int32) (this_told : Nat → Int32) (this_ways : Nat → Int64) (s0 : Int32) : Option (Int32 × Int64 × Int64 × Int32 × (Nat → Int64) × (Nat → Int64)) := some (s0, this_upper, this_lower, this_greatAt, this_next, this_ways)
def t_X11_greatest  (this_matches : Int32) (this_upper : Int64) (this_lower : Int64) (this_greatAt : Int32) (this_goals : Nat → Int32) (this_guest : Nat → Int32) (this_home : Nat → Int32) (this_next : Nat → Int64) (this_prices : Nat → Int32) (this_skill : Nat → Int32) (this_told : Nat → Int32) (this_ways : Nat → Int64) (x1 : Int32) (x2 : Int32) : Option (Int32 × Int64 × Int64 × Int32 × (Nat → Int64) × (Nat → Int64)) := bd1 (t_X11_isMatch this_matches x1) (fun v1 => if v1 = 0 then (some ((-2000000000 : Int32), this_upper, this_lower, this_greatAt, this_next, this_ways)) else (bd1 (t_X11_in x2 (0 : Int32) (1 : Int32)) (fun v3 => if v3 = 0 then (some ((-2000000000 : Int32), this_upper, this_lower, this_greatAt, this_next, this_ways)) else (bd6 (t_X11_greatestOf this_upper this_lower this_greatAt this_goals this_guest this_home this_next this_prices this_skill this_told this_ways x1) (fun v5 u5_0 u5_1 u5_2 u5_3 u5_4 => if x2 = 0 then (t_X11_greatest_38   this_matches u5_0 u5_1 u5_2 this_goals this_guest this_home u5_3 this_prices this_skill this_told u5_4 v5) else (t_X11_greatest_38   this_matches u5_0 u5_1 u5_2 this_goals this_guest this_home u5_3 this_prices this_skill this_told u5_4 u5_2))))))
set_option maxHeartbeats 4000000 in
set_option maxRecDepth 100000 in
theorem b_X11_greatest_38 {p : Program} {l : Launch} {e : Env} {s : State} {m : MethodId} {args : Array Value} {below : List Frame} {meth : Method} {c : Code} {D : va_G} {A : Nat → Prop} {cI cJ cZ : ClassId} (X : Cx p m c cX11_greatest 4 s args wsX11_greatest RX11 D (tys3 cI cJ cZ) meth (some .int)) (_ _ _ : ClassId)  (h_this : Nat) (q_this : Nat → Nat) (this_stakes : Int32) (this_meetings : Int32) (this_newsFirst : Int32) (this_newsHour : Int32) (this_acts : Int32) (this_stories : Int32) (this_signs : Int32) (this_ruleMany : Int32) (this_sides : Int32) (r : Int32) (z0 : Int64) (z1 : Int64) (z2 : Int32) (z3 : Nat → Int64) (z4 : Nat → Int64)  (this_matches : Int32) (this_upper : Int64) (this_lower : Int64) (this_greatAt : Int32) (this_goals : Nat → Int32) (this_guest : Nat → Int32) (this_home : Nat → Int32) (this_next : Nat → Int64) (this_prices : Nat → Int32) (this_skill : Nat → Int32) (this_told : Nat → Int32) (this_ways : Nat → Int64) (s0 : Int32) (hT : t_X11_greatest_38   this_matches this_upper this_lower this_greatAt this_goals this_guest this_home this_next this_prices this_skill this_told this_ways s0 = some (r, z0, z1, z2, z3, z4)) : J p l e rmX11_greatest s m args below meth c D A 4 (QI D below args s A r (w_X11_greatest cI cJ cZ h_this q_this this_matches this_stakes this_meetings this_newsFirst this_newsHour this_acts this_stories this_signs this_ruleMany z0 z1 z2 this_sides this_goals this_guest this_home z3 this_prices this_skill this_told z4)) 0 0 (w_X11_greatest cI cJ cZ h_this q_this this_matches this_stakes this_meetings this_newsFirst this_newsHour this_acts this_stories this_signs this_ruleMany this_upper this_lower this_greatAt this_sides this_goals this_guest this_home this_next this_prices this_skill this_told this_ways) [(0, .ref h_this)] [.int s0] 38 := by
  unfold t_X11_greatest_38 at hT
  cases hT
  exact J_iret X dX11_greatest_38
set_option maxHeartbeats 4000000 in
set_option maxRecDepth 100000 in
theorem c_X11_greatest (l : Launch) (D : va_G) (cI cJ cZ : ClassId) (h_this : Nat) (q_this : Nat → Nat) (this_matches : Int32) (this_stakes : Int32) (this_meetings : Int32) (this_newsFirst : Int32) (this_newsHour : Int32) (this_acts : Int32) (this_stories : Int32) (this_signs : Int32) (this_ruleMany : Int32) (this_upper : Int64) (this_lower : Int64) (this_greatAt : Int32) (this_sides : Int32) (this_goals : Nat → Int32) (this_guest : Nat → Int32) (this_home : Nat → Int32) (this_next : Nat → Int64) (this_prices : Nat → Int32) (this_skill : Nat → Int32) (this_told : Nat → Int32) (this_ways : Nat → Int64) (x1 : Int32) (x2 : Int32) (r : Int32) (z0 : Int64) (z1 : Int64) (z2 : Int32) (z3 : Nat → Int64) (z4 : Nat → Int64) (hT : t_X11_greatest  this_matches this_upper this_lower this_greatAt this_goals this_guest this_home this_next this_prices this_skill this_told this_ways x1 x2 = some (r, z0, z1, z2, z3, z4)) : Ci l yX11_greatest wsX11_greatest rmX11_greatest D (tys3 cI cJ cZ) [.ref h_this, .int x1, .int x2] (w_X11_greatest cI cJ cZ h_this q_this this_matches this_stakes this_meetings this_newsFirst this_newsHour this_acts this_stories this_signs this_ruleMany this_upper this_lower this_greatAt this_sides this_goals this_guest this_home this_next this_prices this_skill this_told this_ways) r (w_X11_greatest cI cJ cZ h_this q_this this_matches this_stakes this_meetings this_newsFirst this_newsHour this_acts this_stories this_signs this_ruleMany z0 z1 z2 this_sides this_goals this_guest this_home z3 this_prices this_skill this_told z4) := by
  refine Ci.ofJ (cc := cX11_greatest) (nL := 4) (rt := (some .int)) (own := RX11) (by decide) rfl rfl (Nat.le_of_ble_eq_true rfl) ?_
  intro p e s m below meth c A X
  unfold t_X11_greatest at hT
  refine J_lv (lv' := [(0, .ref h_this), (1, .int x1), (2, .int x2)]) [0, 1, 2] rfl ?_
  refine J_aload_n X dX11_greatest_0 0 rfl ?_
  refine J_iload_n X dX11_greatest_1 1 rfl ?_
  obtain ⟨v1, hq1, hT⟩ := bd1_e hT
  refine J_ci (wc := (w_X11_isMatch cI cJ cZ h_this q_this this_matches this_stakes this_meetings this_newsFirst this_newsHour this_acts this_stories this_signs this_ruleMany this_upper this_lower this_greatAt this_sides)) (wc' := (w_X11_isMatch cI cJ cZ h_this q_this this_matches this_stakes this_meetings this_newsFirst this_newsHour this_acts this_stories this_signs this_ruleMany this_upper this_lower this_greatAt this_sides)) (ws' := (w_X11_greatest cI cJ cZ h_this q_this this_matches this_stakes this_meetings this_newsFirst this_newsHour this_acts this_stories this_signs this_ruleMany this_upper this_lower this_greatAt this_sides this_goals this_guest this_home this_next this_prices this_skill this_told this_ways)) (idxs [true, false, false, false, false, false, false, false, false] 0) (idxs [false, true, true, true, true, true, true, true, true] 0) 9 rfl rfl rfl (pick_C _ rfl rfl) rfl (pick_C _ rfl rfl) rfl (pick_R _ rfl rfl rfl) (run_V (As := [.int x1]) (rest := []) X (c_X11_isMatch l D cI cJ cZ h_this q_this this_matches this_stakes this_meetings this_newsFirst this_newsHour this_acts this_stories this_signs this_ruleMany this_upper this_lower this_greatAt this_sides x1 v1 hq1) (cw_X11_greatest_X11_isMatch_153 X.1.2.2.2.2) 0 rfl rfl rfl rfl (Nat.le_of_ble_eq_true rfl) dX11_greatest_2 ⟨Nat.zero_le _, Nat.zero_le _⟩) ?_
  refine J_if_eq (tgt := 17) X dX11_greatest_5 (by decide) (fun hc2 => ?_) (fun hc2 => ?_)
  · have hT := ift hT hc2
    refine J_ldc X dX11_greatest_17 m_X11_greatest_c192 ?_
    cases hT
    exact J_iret X dX11_greatest_19
  · have hT := iff_ hT hc2
    refine J_iload_n X dX11_greatest_8 2 rfl ?_
    refine J_iconst (v := 0) X dX11_greatest_9 (by decide) ?_
    refine J_iconst (v := 1) X dX11_greatest_10 (by decide) ?_
    obtain ⟨v3, hq3, hT⟩ := bd1_e hT
    refine J_ci (wc := (w_X11_in cI cJ cZ )) (wc' := (w_X11_in cI cJ cZ )) (ws' := (w_X11_greatest cI cJ cZ h_this q_this this_matches this_stakes this_meetings this_newsFirst this_newsHour this_acts this_stories this_signs this_ruleMany this_upper this_lower this_greatAt this_sides this_goals this_guest this_home this_next this_prices this_skill this_told this_ways)) (idxs [false, false, false, false, false, false, false, false, false] 0) (idxs [true, true, true, true, true, true, true, true, true] 0) 9 rfl rfl rfl (pick_C _ rfl rfl) rfl (pick_C _ rfl rfl) rfl (pick_R _ rfl rfl rfl) (run_S (As := [.int x2, .int (0 : Int32), .int (1 : Int32)]) (rest := []) X (c_X11_in l D cI cJ cZ  x2 (0 : Int32) (1 : Int32) v3 hq3) (cw_X11_greatest_X11_in_138 X.1.2.2.2.2) rfl rfl (Nat.le_of_ble_eq_true rfl) dX11_greatest_11 ⟨Nat.zero_le _, Nat.zero_le _⟩) ?_
    refine J_if_ne (tgt := 20) X dX11_greatest_14 (by decide) (fun hc4 => ?_) (fun hc4 => ?_)
    · have hT := iff_ hT hc4
      refine J_aload_n X dX11_greatest_20 0 rfl ?_
      refine J_iload_n X dX11_greatest_21 1 rfl ?_
      obtain ⟨v5, u5_0, u5_1, u5_2, u5_3, u5_4, hq5, hT⟩ := bd6_e hT
      refine J_ci (wc := (w_X11_greatestOf cI cJ cZ h_this q_this this_matches this_stakes this_meetings this_newsFirst this_newsHour this_acts this_stories this_signs this_ruleMany this_upper this_lower this_greatAt this_sides this_goals this_guest this_home this_next this_prices this_skill this_told this_ways)) (wc' := (w_X11_greatestOf cI cJ cZ h_this q_this this_matches this_stakes this_meetings this_newsFirst this_newsHour this_acts this_stories this_signs this_ruleMany u5_0 u5_1 u5_2 this_sides this_goals this_guest this_home u5_3 this_prices this_skill this_told u5_4)) (ws' := (w_X11_greatest cI cJ cZ h_this q_this this_matches this_stakes this_meetings this_newsFirst this_newsHour this_acts this_stories this_signs this_ruleMany u5_0 u5_1 u5_2 this_sides this_goals this_guest this_home u5_3 this_prices this_skill this_told u5_4)) (idxs [true, true, true, true, true, true, true, true, true] 0) (idxs [false, false, false, false, false, false, false, false, false] 0) 9 rfl rfl rfl (pick_C _ rfl rfl) rfl (pick_C _ rfl rfl) rfl (pick_R _ rfl rfl rfl) (run_V (As := [.int x1]) (rest := []) X (c_X11_greatestOf l D cI cJ cZ h_this q_this this_matches this_stakes this_meetings this_newsFirst this_newsHour this_acts this_stories this_signs this_ruleMany this_upper this_lower this_greatAt this_sides this_goals this_guest this_home this_next this_prices this_skill this_told this_ways x1 v5 u5_0 u5_1 u5_2 u5_3 u5_4 hq5) (cw_X11_greatest_X11_greatestOf_199 X.1.2.2.2.2) 0 rfl rfl rfl rfl (Nat.le_of_ble_eq_true rfl) dX11_greatest_22 ⟨Nat.zero_le _, Nat.zero_le _⟩) ?_
      refine J_istore_n (lv' := [(3, .int v5), (0, .ref h_this), (1, .int x1), (2, .int x2)]) X dX11_greatest_25 (by decide) rfl ?_
      refine J_iload_n X dX11_greatest_26 3 rfl ?_
      refine J_if_ne (tgt := 34) X dX11_greatest_27 (by decide) (fun hc6 => ?_) (fun hc6 => ?_)
      · have hT := iff_ hT hc6
        refine J_aload_n X dX11_greatest_34 1 rfl ?_
        refine J_get (C := RX11) (T := TX11) (N := 54) (ci := 11) (v := .int u5_2) X in_X11_greatest_X11 0 rfl rfl 43 (by decide) m_X11_greatest_f196 rfl dX11_greatest_35 ?_
        refine J_lv (lv' := [(0, .ref h_this)]) [1] rfl ?_
        exact b_X11_greatest_38 X cI cJ cZ h_this q_this this_stakes this_meetings this_newsFirst this_newsHour this_acts this_stories this_signs this_ruleMany this_sides r z0 z1 z2 z3 z4  this_matches u5_0 u5_1 u5_2 this_goals this_guest this_home u5_3 this_prices this_skill this_told u5_4 u5_2 hT
      · have hT := ift hT hc6
        refine J_iload_n X dX11_greatest_30 0 rfl ?_
        refine J_goto (tgt := 38) X dX11_greatest_31 (by decide) ?_
        refine J_lv (lv' := [(0, .ref h_this)]) [1] rfl ?_
        exact b_X11_greatest_38 X cI cJ cZ h_this q_this this_stakes this_meetings this_newsFirst this_newsHour this_acts this_stories this_signs this_ruleMany this_sides r z0 z1 z2 z3 z4  this_matches u5_0 u5_1 u5_2 this_goals this_guest this_home u5_3 this_prices this_skill this_told u5_4 v5 hT
    · have hT := ift hT hc4
      refine J_ldc X dX11_greatest_17 m_X11_greatest_c192 ?_
      cases hT
      exact J_iret X dX11_greatest_19
-- ===== SoldMatchesModel.stake(IIIII)I
abbrev rmX11_stake : Room := { frames := 2, cells := 0, slots := 0, locals := 43 }
def w_X11_stake (cI cJ cZ : ClassId) (h_this : Nat) (q_this : Nat → Nat) (this_matches : Int32) (this_stakes : Int32) (this_meetings : Int32) (this_newsFirst : Int32) (this_newsHour : Int32) (this_acts : Int32) (this_stories : Int32) (this_signs : Int32) (this_ruleMany : Int32) (this_upper : Int64) (this_lower : Int64) (this_greatAt : Int32) (this_sides : Int32) (this_stakeEnd : Nat → Int32) (this_stakeHand : Nat → Int32) (this_stakeMatch : Nat → Int32) (this_stakeMinute : Nat → Int32) (this_stakeSum : Nat → Int32) : va_W := [(h_this, .inr (11, oFX11 q_this this_matches this_stakes this_meetings this_newsFirst this_newsHour this_acts this_stories this_signs this_ruleMany this_upper this_lower this_greatAt this_sides)), ((q_this 14), .inl (cI, 40, .inl this_stakeEnd)), ((q_this 12), .inl (cI, 40, .inl this_stakeHand)), ((q_this 13), .inl (cI, 40, .inl this_stakeMatch)), ((q_this 15), .inl (cI, 40, .inl this_stakeMinute)), ((q_this 16), .inl (cI, 40, .inl this_stakeSum))]
theorem cw_X11_stake_X11_isTen_202 {s : State} {args : Array Value} (hts : ∀ w ∈ wsX11_stake, w.before args s = true) : CallB rmX11_stake s args RX11 202 yX11_isTen cX11_isTen 1 (some .boolean) wsX11_isTen rmX11_isTen 0 0 1 ∧ (Cond.static yX11_isTen).before args s = true := va_cwS 1 hts gX11_stake_X11_isTen rfl rfl rfl (by decide +kernel) ⟨by decide, by decide⟩
theorem cw_X11_stake_X11_isMatch_153 {s : State} {args : Array Value} (hts : ∀ w ∈ wsX11_stake, w.before args s = true) : CallW rmX11_stake s args RX11 RX11 153 yX11_isMatch cX11_isMatch 2 (some .boolean) wsX11_isMatch rmX11_isMatch 0 0 1 := cwV 1 hts gX11_stake_X11_isMatch rfl rfl rfl (by decide +kernel) ⟨by decide, by decide⟩
theorem cw_X11_stake_X11_in_138 {s : State} {args : Array Value} (hts : ∀ w ∈ wsX11_stake, w.before args s = true) : CallB rmX11_stake s args RX11 138 yX11_in cX11_in 3 (some .boolean) wsX11_in rmX11_in 0 0 3 ∧ (Cond.static yX11_in).before args s = true := va_cwS 3 hts gX11_stake_X11_in rfl rfl rfl (by decide +kernel) ⟨by decide, by decide⟩
theorem m_X11_stake_f205 : Cond.fieldLink RX11 205 "SoldMatchesModel" "stakes" "I" ∈ wsX11_stake := List.mem_of_getElem? (i := 1) rfl
theorem in_X11_stake_X11 : ∀ w ∈ wsX110, w ∈ wsX11_stake := fun w h => List.mem_cons_of_mem _ (List.mem_append_right _ h)
theorem m_X11_stake_f40 : Cond.fieldLink RX11 40 "SoldMatchesModel" "stakeHand" "[I" ∈ wsX11_stake := List.mem_of_getElem? (i := 2) rfl
theorem m_X11_stake_f43 : Cond.fieldLink RX11 43 "SoldMatchesModel" "stakeMatch" "[I" ∈ wsX11_stake := List.mem_of_getElem? (i := 3) rfl
theorem m_X11_stake_f46 : Cond.fieldLink RX11 46 "SoldMatchesModel" "stakeEnd" "[I" ∈ wsX11_stake := List.mem_of_getElem? (i := 4) rfl
theorem m_X11_stake_f49 : Cond.fieldLink RX11 49 "SoldMatchesModel" "stakeMinute" "[I" ∈ wsX11_stake := List.mem_of_getElem? (i := 5) rfl
theorem m_X11_stake_f52 : Cond.fieldLink RX11 52 "SoldMatchesModel" "stakeSum" "[I" ∈ wsX11_stake := List.mem_of_getElem? (i := 6) rfl
def t_X11_stake  (this_matches : Int32) (this_stakes : Int32) (this_stakeEnd : Nat → Int32) (this_stakeHand : Nat → Int32) (this_stakeMatch : Nat → Int32) (this_stakeMinute : Nat → Int32) (this_stakeSum : Nat → Int32) (x1 : Int32) (x2 : Int32) (x3 : Int32) (x4 : Int32) (x5 : Int32) : Option (Int32 × Int32 × (Nat → Int32) × (Nat → Int32) × (Nat → Int32) × (Nat → Int32) × (Nat → Int32)) := bd1 (t_X11_isTen x1) (fun v1 => if v1 = 0 then (some ((-1 : Int32), this_stakes, this_stakeEnd, this_stakeHand, this_stakeMatch, this_stakeMinute, this_stakeSum)) else (bd1 (t_X11_isMatch this_matches x2) (fun v3 => if v3 = 0 then (some ((-1 : Int32), this_stakes, this_stakeEnd, this_stakeHand, this_stakeMatch, this_stakeMinute, this_stakeSum)) else (bd1 (t_X11_in x3 (0 : Int32) (2 : Int32)) (fun v5 => if v5 = 0 then (some ((-2 : Int32), this_stakes, this_stakeEnd, this_stakeHand, this_stakeMatch, this_stakeMinute, this_stakeSum)) else (bd1 (t_X11_in x4 (0 : Int32) (89 : Int32)) (fun v7 => if v7 = 0 then (some ((-2 : Int32), this_stakes, this_stakeEnd, this_stakeHand, this_stakeMatch, this_stakeMinute, this_stakeSum)) else (bd1 (t_X11_in x5 (1 : Int32) (10000 : Int32)) (fun v9 => if v9 = 0 then (some ((-2 : Int32), this_stakes, this_stakeEnd, this_stakeHand, this_stakeMatch, this_stakeMinute, this_stakeSum)) else (if this_stakes = (40 : Int32) then (some ((-4 : Int32), this_stakes, this_stakeEnd, this_stakeHand, this_stakeMatch, this_stakeMinute, this_stakeSum)) else (ckn (this_stakes < 0 ∨ 40 ≤ this_stakes.toNatClampNeg) (ckn (this_stakes < 0 ∨ 40 ≤ this_stakes.toNatClampNeg) (ckn (this_stakes < 0 ∨ 40 ≤ this_stakes.toNatClampNeg) (ckn (this_stakes < 0 ∨ 40 ≤ this_stakes.toNatClampNeg) (ckn (this_stakes < 0 ∨ 40 ≤ this_stakes.toNatClampNeg) (some ((this_stakes + (1 : Int32)) - (1 : Int32), this_stakes + (1 : Int32), upd this_stakeEnd this_stakes.toNatClampNeg x3, upd this_stakeHand this_stakes.toNatClampNeg x1, upd this_stakeMatch this_stakes.toNatClampNeg x2, upd this_stakeMinute this_stakes.toNatClampNeg x4, upd this_stakeSum this_stakes.toNatClampNeg x5)))))))))))))))))
set_option maxHeartbeats 4000000 in
set_option maxRecDepth 100000 in
theorem c_X11_stake (l : Launch) (D : va_G) (cI cJ cZ : ClassId) (h_this : Nat) (q_this : Nat → Nat) (this_matches : Int32) (this_stakes : Int32) (this_meetings : Int32) (this_newsFirst : Int32) (this_newsHour : Int32) (this_acts : Int32) (this_stories : Int32) (this_signs : Int32) (this_ruleMany : Int32) (this_upper : Int64) (this_lower : Int64) (this_greatAt : Int32) (this_sides : Int32) (this_stakeEnd : Nat → Int32) (this_stakeHand : Nat → Int32) (this_stakeMatch : Nat → Int32) (this_stakeMinute : Nat → Int32) (this_stakeSum : Nat → Int32) (x1 : Int32) (x2 : Int32) (x3 : Int32) (x4 : Int32) (x5 : Int32) (r : Int32) (z0 : Int32) (z1 : Nat → Int32) (z2 : Nat → Int32) (z3 : Nat → Int32) (z4 : Nat → Int32) (z5 : Nat → Int32) (hT : t_X11_stake  this_matches this_stakes this_stakeEnd this_stakeHand this_stakeMatch this_stakeMinute this_stakeSum x1 x2 x3 x4 x5 = some (r, z0, z1, z2, z3, z4, z5)) : Ci l yX11_stake wsX11_stake rmX11_stake D (tys3 cI cJ cZ) [.ref h_this, .int x1, .int x2, .int x3, .int x4, .int x5] (w_X11_stake cI cJ cZ h_this q_this this_matches this_stakes this_meetings this_newsFirst this_newsHour this_acts this_stories this_signs this_ruleMany this_upper this_lower this_greatAt this_sides this_stakeEnd this_stakeHand this_stakeMatch this_stakeMinute this_stakeSum) r (w_X11_stake cI cJ cZ h_this q_this this_matches z0 this_meetings this_newsFirst this_newsHour this_acts this_stories this_signs this_ruleMany this_upper this_lower this_greatAt this_sides z1 z2 z3 z4 z5) := by
  refine Ci.ofJ (cc := cX11_stake) (nL := 6) (rt := (some .int)) (own := RX11) (by decide) rfl rfl (Nat.le_of_ble_eq_true rfl) ?_
  intro p e s m below meth c A X
  unfold t_X11_stake at hT
  refine J_lv (lv' := [(0, .ref h_this), (1, .int x1), (2, .int x2), (3, .int x3), (4, .int x4), (5, .int x5)]) [0, 1, 2, 3, 4, 5] rfl ?_
  refine J_iload_n X dX11_stake_0 1 rfl ?_
  obtain ⟨v1, hq1, hT⟩ := bd1_e hT
  refine J_ci (wc := (w_X11_isTen cI cJ cZ )) (wc' := (w_X11_isTen cI cJ cZ )) (ws' := (w_X11_stake cI cJ cZ h_this q_this this_matches this_stakes this_meetings this_newsFirst this_newsHour this_acts this_stories this_signs this_ruleMany this_upper this_lower this_greatAt this_sides this_stakeEnd this_stakeHand this_stakeMatch this_stakeMinute this_stakeSum)) [] [0, 1, 2, 3, 4, 5] 6 rfl rfl rfl rfl rfl rfl rfl rfl (run_S (As := [.int x1]) (rest := []) X (c_X11_isTen l D cI cJ cZ  x1 v1 hq1) (cw_X11_stake_X11_isTen_202 X.1.2.2.2.2) rfl rfl (Nat.le_of_ble_eq_true rfl) dX11_stake_1 ⟨Nat.zero_le _, Nat.zero_le _⟩) ?_
  refine J_if_eq (tgt := 15) X dX11_stake_4 (by decide) (fun hc2 => ?_) (fun hc2 => ?_)
  · have hT := ift hT hc2
    refine J_iconst (v := -1) X dX11_stake_15 (by decide) ?_
    cases hT
    exact J_iret X dX11_stake_16
  · have hT := iff_ hT hc2
    refine J_aload_n X dX11_stake_7 0 rfl ?_
    refine J_iload_n X dX11_stake_8 2 rfl ?_
    obtain ⟨v3, hq3, hT⟩ := bd1_e hT
    refine J_ci (wc := (w_X11_isMatch cI cJ cZ h_this q_this this_matches this_stakes this_meetings this_newsFirst this_newsHour this_acts this_stories this_signs this_ruleMany this_upper this_lower this_greatAt this_sides)) (wc' := (w_X11_isMatch cI cJ cZ h_this q_this this_matches this_stakes this_meetings this_newsFirst this_newsHour this_acts this_stories this_signs this_ruleMany this_upper this_lower this_greatAt this_sides)) (ws' := (w_X11_stake cI cJ cZ h_this q_this this_matches this_stakes this_meetings this_newsFirst this_newsHour this_acts this_stories this_signs this_ruleMany this_upper this_lower this_greatAt this_sides this_stakeEnd this_stakeHand this_stakeMatch this_stakeMinute this_stakeSum)) [0] [1, 2, 3, 4, 5] 6 rfl rfl rfl rfl rfl rfl rfl rfl (run_V (As := [.int x2]) (rest := []) X (c_X11_isMatch l D cI cJ cZ h_this q_this this_matches this_stakes this_meetings this_newsFirst this_newsHour this_acts this_stories this_signs this_ruleMany this_upper this_lower this_greatAt this_sides x2 v3 hq3) (cw_X11_stake_X11_isMatch_153 X.1.2.2.2.2) 0 rfl rfl rfl rfl (Nat.le_of_ble_eq_true rfl) dX11_stake_9 ⟨Nat.zero_le _, Nat.zero_le _⟩) ?_
    refine J_if_ne (tgt := 17) X dX11_stake_12 (by decide) (fun hc4 => ?_) (fun hc4 => ?_)
    · have hT := iff_ hT hc4
      refine J_iload_n X dX11_stake_17 3 rfl ?_
      refine J_iconst (v := 0) X dX11_stake_18 (by decide) ?_
      refine J_iconst (v := 2) X dX11_stake_19 (by decide) ?_
      obtain ⟨v5, hq5, hT⟩ := bd1_e hT
      refine J_ci (wc := (w_X11_in cI cJ cZ )) (wc' := (w_X11_in cI cJ cZ )) (ws' := (w_X11_stake cI cJ cZ h_this q_this this_matches this_stakes this_meetings this_newsFirst this_newsHour this_acts this_stories this_signs this_ruleMany this_upper this_lower this_greatAt this_sides this_stakeEnd this_stakeHand this_stakeMatch this_stakeMinute this_stakeSum)) [] [0, 1, 2, 3, 4, 5] 6 rfl rfl rfl rfl rfl rfl rfl rfl (run_S (As := [.int x3, .int (0 : Int32), .int (2 : Int32)]) (rest := []) X (c_X11_in l D cI cJ cZ  x3 (0 : Int32) (2 : Int32) v5 hq5) (cw_X11_stake_X11_in_138 X.1.2.2.2.2) rfl rfl (Nat.le_of_ble_eq_true rfl) dX11_stake_20 ⟨Nat.zero_le _, Nat.zero_le _⟩) ?_
      refine J_if_eq (tgt := 49) X dX11_stake_23 (by decide) (fun hc6 => ?_) (fun hc6 => ?_)
      · have hT := ift hT hc6
        refine J_bipush (v := -2) X dX11_stake_49 (by decide) ?_
        cases hT
        exact J_iret X dX11_stake_51
      · have hT := iff_ hT hc6
        refine J_iload X dX11_stake_26 4 rfl ?_
        refine J_iconst (v := 0) X dX11_stake_28 (by decide) ?_
        refine J_bipush (v := 89) X dX11_stake_29 (by decide) ?_
        obtain ⟨v7, hq7, hT⟩ := bd1_e hT
        refine J_ci (wc := (w_X11_in cI cJ cZ )) (wc' := (w_X11_in cI cJ cZ )) (ws' := (w_X11_stake cI cJ cZ h_this q_this this_matches this_stakes this_meetings this_newsFirst this_newsHour this_acts this_stories this_signs this_ruleMany this_upper this_lower this_greatAt this_sides this_stakeEnd this_stakeHand this_stakeMatch this_stakeMinute this_stakeSum)) [] [0, 1, 2, 3, 4, 5] 6 rfl rfl rfl rfl rfl rfl rfl rfl (run_S (As := [.int x4, .int (0 : Int32), .int (89 : Int32)]) (rest := []) X (c_X11_in l D cI cJ cZ  x4 (0 : Int32) (89 : Int32) v7 hq7) (cw_X11_stake_X11_in_138 X.1.2.2.2.2) rfl rfl (Nat.le_of_ble_eq_true rfl) dX11_stake_31 ⟨Nat.zero_le _, Nat.zero_le _⟩) ?_
        refine J_if_eq (tgt := 49) X dX11_stake_34 (by decide) (fun hc8 => ?_) (fun hc8 => ?_)
        · have hT := ift hT hc8
          refine J_bipush (v := -2) X dX11_stake_49 (by decide) ?_
          cases hT
          exact J_iret X dX11_stake_51
        · have hT := iff_ hT hc8
          refine J_iload X dX11_stake_37 5 rfl ?_
          refine J_iconst (v := 1) X dX11_stake_39 (by decide) ?_
          refine J_sipush (v := 10000) X dX11_stake_40 (by decide) ?_
          obtain ⟨v9, hq9, hT⟩ := bd1_e hT
          refine J_ci (wc := (w_X11_in cI cJ cZ )) (wc' := (w_X11_in cI cJ cZ )) (ws' := (w_X11_stake cI cJ cZ h_this q_this this_matches this_stakes this_meetings this_newsFirst this_newsHour this_acts this_stories this_signs this_ruleMany this_upper this_lower this_greatAt this_sides this_stakeEnd this_stakeHand this_stakeMatch this_stakeMinute this_stakeSum)) [] [0, 1, 2, 3, 4, 5] 6 rfl rfl rfl rfl rfl rfl rfl rfl (run_S (As := [.int x5, .int (1 : Int32), .int (10000 : Int32)]) (rest := []) X (c_X11_in l D cI cJ cZ  x5 (1 : Int32) (10000 : Int32) v9 hq9) (cw_X11_stake_X11_in_138 X.1.2.2.2.2) rfl rfl (Nat.le_of_ble_eq_true rfl) dX11_stake_43 ⟨Nat.zero_le _, Nat.zero_le _⟩) ?_
          refine J_if_ne (tgt := 52) X dX11_stake_46 (by decide) (fun hc10 => ?_) (fun hc10 => ?_)
          · have hT := iff_ hT hc10
            refine J_aload_n X dX11_stake_52 0 rfl ?_
            refine J_get (C := RX11) (T := TX11) (N := 54) (ci := 11) (v := .int this_stakes) X in_X11_stake_X11 0 rfl rfl 11 (by decide) m_X11_stake_f205 rfl dX11_stake_53 ?_
            refine J_bipush (v := 40) X dX11_stake_56 (by decide) ?_
            refine J_icmp_ne (tgt := 64) X dX11_stake_58 (by decide) (fun hc11 => ?_) (fun hc11 => ?_)
            · have hT := iff_ hT hc11
              refine J_aload_n X dX11_stake_64 0 rfl ?_
              refine J_get (C := RX11) (T := TX11) (N := 54) (ci := 11) (v := .ref (q_this 12)) X in_X11_stake_X11 0 rfl rfl 12 (by decide) m_X11_stake_f40 rfl dX11_stake_65 ?_
              refine J_aload_n X dX11_stake_68 0 rfl ?_
              refine J_get (C := RX11) (T := TX11) (N := 54) (ci := 11) (v := .int this_stakes) X in_X11_stake_X11 0 rfl rfl 11 (by decide) m_X11_stake_f205 rfl dX11_stake_69 ?_
              refine J_iload_n X dX11_stake_72 1 rfl ?_
              obtain ⟨hk12, hT⟩ := ckn_e hT
              refine J_iast (ws' := (w_X11_stake cI cJ cZ h_this q_this this_matches this_stakes this_meetings this_newsFirst this_newsHour this_acts this_stories this_signs this_ruleMany this_upper this_lower this_greatAt this_sides this_stakeEnd (upd this_stakeHand this_stakes.toNatClampNeg x1) this_stakeMatch this_stakeMinute this_stakeSum)) X 2 rfl rfl hk12 rfl dX11_stake_73 ?_
              refine J_aload_n X dX11_stake_74 0 rfl ?_
              refine J_get (C := RX11) (T := TX11) (N := 54) (ci := 11) (v := .ref (q_this 13)) X in_X11_stake_X11 0 rfl rfl 13 (by decide) m_X11_stake_f43 rfl dX11_stake_75 ?_
              refine J_aload_n X dX11_stake_78 0 rfl ?_
              refine J_get (C := RX11) (T := TX11) (N := 54) (ci := 11) (v := .int this_stakes) X in_X11_stake_X11 0 rfl rfl 11 (by decide) m_X11_stake_f205 rfl dX11_stake_79 ?_
              refine J_iload_n X dX11_stake_82 2 rfl ?_
              obtain ⟨hk13, hT⟩ := ckn_e hT
              refine J_iast (ws' := (w_X11_stake cI cJ cZ h_this q_this this_matches this_stakes this_meetings this_newsFirst this_newsHour this_acts this_stories this_signs this_ruleMany this_upper this_lower this_greatAt this_sides this_stakeEnd (upd this_stakeHand this_stakes.toNatClampNeg x1) (upd this_stakeMatch this_stakes.toNatClampNeg x2) this_stakeMinute this_stakeSum)) X 3 rfl rfl hk13 rfl dX11_stake_83 ?_
              refine J_aload_n X dX11_stake_84 0 rfl ?_
              refine J_get (C := RX11) (T := TX11) (N := 54) (ci := 11) (v := .ref (q_this 14)) X in_X11_stake_X11 0 rfl rfl 14 (by decide) m_X11_stake_f46 rfl dX11_stake_85 ?_
              refine J_aload_n X dX11_stake_88 0 rfl ?_
              refine J_get (C := RX11) (T := TX11) (N := 54) (ci := 11) (v := .int this_stakes) X in_X11_stake_X11 0 rfl rfl 11 (by decide) m_X11_stake_f205 rfl dX11_stake_89 ?_
              refine J_iload_n X dX11_stake_92 3 rfl ?_
              obtain ⟨hk14, hT⟩ := ckn_e hT
              refine J_iast (ws' := (w_X11_stake cI cJ cZ h_this q_this this_matches this_stakes this_meetings this_newsFirst this_newsHour this_acts this_stories this_signs this_ruleMany this_upper this_lower this_greatAt this_sides (upd this_stakeEnd this_stakes.toNatClampNeg x3) (upd this_stakeHand this_stakes.toNatClampNeg x1) (upd this_stakeMatch this_stakes.toNatClampNeg x2) this_stakeMinute this_stakeSum)) X 1 rfl rfl hk14 rfl dX11_stake_93 ?_
              refine J_aload_n X dX11_stake_94 0 rfl ?_
              refine J_get (C := RX11) (T := TX11) (N := 54) (ci := 11) (v := .ref (q_this 15)) X in_X11_stake_X11 0 rfl rfl 15 (by decide) m_X11_stake_f49 rfl dX11_stake_95 ?_
              refine J_aload_n X dX11_stake_98 0 rfl ?_
              refine J_get (C := RX11) (T := TX11) (N := 54) (ci := 11) (v := .int this_stakes) X in_X11_stake_X11 0 rfl rfl 11 (by decide) m_X11_stake_f205 rfl dX11_stake_99 ?_
              refine J_iload X dX11_stake_102 4 rfl ?_
              obtain ⟨hk15, hT⟩ := ckn_e hT
              refine J_iast (ws' := (w_X11_stake cI cJ cZ h_this q_this this_matches this_stakes this_meetings this_newsFirst this_newsHour this_acts this_stories this_signs this_ruleMany this_upper this_lower this_greatAt this_sides (upd this_stakeEnd this_stakes.toNatClampNeg x3) (upd this_stakeHand this_stakes.toNatClampNeg x1) (upd this_stakeMatch this_stakes.toNatClampNeg x2) (upd this_stakeMinute this_stakes.toNatClampNeg x4) this_stakeSum)) X 4 rfl rfl hk15 rfl dX11_stake_104 ?_
              refine J_aload_n X dX11_stake_105 0 rfl ?_
              refine J_get (C := RX11) (T := TX11) (N := 54) (ci := 11) (v := .ref (q_this 16)) X in_X11_stake_X11 0 rfl rfl 16 (by decide) m_X11_stake_f52 rfl dX11_stake_106 ?_
              refine J_aload_n X dX11_stake_109 0 rfl ?_
              refine J_get (C := RX11) (T := TX11) (N := 54) (ci := 11) (v := .int this_stakes) X in_X11_stake_X11 0 rfl rfl 11 (by decide) m_X11_stake_f205 rfl dX11_stake_110 ?_
              refine J_iload X dX11_stake_113 5 rfl ?_
              obtain ⟨hk16, hT⟩ := ckn_e hT
              refine J_iast (ws' := (w_X11_stake cI cJ cZ h_this q_this this_matches this_stakes this_meetings this_newsFirst this_newsHour this_acts this_stories this_signs this_ruleMany this_upper this_lower this_greatAt this_sides (upd this_stakeEnd this_stakes.toNatClampNeg x3) (upd this_stakeHand this_stakes.toNatClampNeg x1) (upd this_stakeMatch this_stakes.toNatClampNeg x2) (upd this_stakeMinute this_stakes.toNatClampNeg x4) (upd this_stakeSum this_stakes.toNatClampNeg x5))) X 5 rfl rfl hk16 rfl dX11_stake_115 ?_
              refine J_aload_n X dX11_stake_116 0 rfl ?_
              refine J_dup X dX11_stake_117 rfl ?_
              refine J_get (C := RX11) (T := TX11) (N := 54) (ci := 11) (v := .int this_stakes) X in_X11_stake_X11 0 rfl rfl 11 (by decide) m_X11_stake_f205 rfl dX11_stake_118 ?_
              refine J_iconst (v := 1) X dX11_stake_121 (by decide) ?_
              refine J_iadd X dX11_stake_122 ?_
              refine J_put (host := "") (C := RX11) (T := TX11) (N := 54) (ci := 11) (ws' := (w_X11_stake cI cJ cZ h_this q_this this_matches (this_stakes + (1 : Int32)) this_meetings this_newsFirst this_newsHour this_acts this_stories this_signs this_ruleMany this_upper this_lower this_greatAt this_sides (upd this_stakeEnd this_stakes.toNatClampNeg x3) (upd this_stakeHand this_stakes.toNatClampNeg x1) (upd this_stakeMatch this_stakes.toNatClampNeg x2) (upd this_stakeMinute this_stakes.toNatClampNeg x4) (upd this_stakeSum this_stakes.toNatClampNeg x5))) X in_X11_stake_X11 0 rfl rfl 11 (by decide) tyX11 tyX11_ok nmX11 m_X11_stake_f205 rfl rfl rfl (Nat.le_of_ble_eq_true rfl) rfl dX11_stake_123 ?_
              refine J_aload_n X dX11_stake_126 0 rfl ?_
              refine J_get (C := RX11) (T := TX11) (N := 54) (ci := 11) (v := .int (this_stakes + (1 : Int32))) X in_X11_stake_X11 0 rfl rfl 11 (by decide) m_X11_stake_f205 rfl dX11_stake_127 ?_
              refine J_iconst (v := 1) X dX11_stake_130 (by decide) ?_
              refine J_isub X dX11_stake_131 ?_
              cases hT
              exact J_iret X dX11_stake_132
            · have hT := ift hT hc11
              refine J_bipush (v := -4) X dX11_stake_61 (by decide) ?_
              cases hT
              exact J_iret X dX11_stake_63
          · have hT := ift hT hc10
            refine J_bipush (v := -2) X dX11_stake_49 (by decide) ?_
            cases hT
            exact J_iret X dX11_stake_51
    · have hT := ift hT hc4
      refine J_iconst (v := -1) X dX11_stake_15 (by decide) ?_
      cases hT
      exact J_iret X dX11_stake_16
