def oFX0 (q : Nat → Nat) (count_ : Int32) (near_ : Int32) (times_ : Int32) (ties_ : Int32) : List Value := [.int count_, .int near_, .int times_, .int ties_, .ref (q 4), .ref (q 5), .ref (q 6), .ref (q 7), .ref (q 8), .ref (q 9), .ref (q 10), .ref (q 11), .ref (q 12)]
def oFX1 (q : Nat → Nat) (count_ : Int32) (heldCount_ : Int32) : List Value := [.int count_, .ref (q 1), .int heldCount_, .ref (q 3)]
def oFX2 (q : Nat → Nat) (count_ : Int32) (base_ : Int32) (topLean_ : Int32) (topSpot_ : Int32) : List Value := [.int count_, .int base_, .ref (q 2), .ref (q 3), .ref (q 4), .ref (q 5), .ref (q 6), .ref (q 7), .ref (q 8), .ref (q 9), .ref (q 10), .int topLean_, .int topSpot_]
def oFX3 (q : Nat → Nat) (size_ : Int32) : List Value := [.int size_, .ref (q 1), .ref (q 2)]
def oFX4 (q : Nat → Nat) (upper_ : Int64) (lower_ : Int64) : List Value := [.ref (q 0), .long upper_, .long lower_]
def oFX5 (q : Nat → Nat) (bestSet_ : Int32) (bestSum_ : Int32) (sum_ : Int32) (cost_ : Int32) : List Value := [.ref (q 0), .int bestSet_, .int bestSum_, .int sum_, .int cost_]
def oFX6 (q : Nat → Nat) (down_ : Int32) (size_ : Int32) : List Value := [.int down_, .int size_, .ref (q 2), .ref (q 3), .ref (q 4), .ref (q 5)]
def oFX7 (q : Nat → Nat) (count_ : Int32) (first_ : Int32) (since_ : Int32) : List Value := [.int count_, .ref (q 1), .ref (q 2), .ref (q 3), .ref (q 4), .ref (q 5), .int first_, .int since_]
def oFX8 (q : Nat → Nat) (acts_ : Int32) : List Value := [.ref (q 0), .ref (q 1), .ref (q 2), .int acts_, .ref (q 4), .ref (q 5), .ref (q 6)]
def oFX9 (q : Nat → Nat) (count_ : Int32) (fewest_ : Int32) (sure_ : Int32) : List Value := [.int count_, .ref (q 1), .ref (q 2), .ref (q 3), .ref (q 4), .ref (q 5), .int fewest_, .int sure_]
def oFX10 (q : Nat → Nat)  : List Value := [.ref (q 0), .ref (q 1), .ref (q 2), .ref (q 3), .ref (q 4), .ref (q 5), .ref (q 6), .ref (q 7), .ref (q 8), .ref (q 9)]
def oFX11 (q : Nat → Nat) (matches_ : Int32) (stakes_ : Int32) (meetings_ : Int32) (newsFirst_ : Int32) (newsHour_ : Int32) (acts_ : Int32) (stories_ : Int32) (signs_ : Int32) (ruleMany_ : Int32) (upper_ : Int64) (lower_ : Int64) (greatAt_ : Int32) (sides_ : Int32) : List Value := [.ref (q 0), .ref (q 1), .int matches_, .ref (q 3), .ref (q 4), .ref (q 5), .ref (q 6), .ref (q 7), .ref (q 8), .ref (q 9), .ref (q 10), .int stakes_, .ref (q 12), .ref (q 13), .ref (q 14), .ref (q 15), .ref (q 16), .int meetings_, .ref (q 18), .ref (q 19), .ref (q 20), .ref (q 21), .int newsFirst_, .int newsHour_, .ref (q 24), .ref (q 25), .ref (q 26), .int acts_, .ref (q 28), .ref (q 29), .int stories_, .ref (q 31), .ref (q 32), .ref (q 33), .ref (q 34), .int signs_, .ref (q 36), .int ruleMany_, .ref (q 38), .ref (q 39), .ref (q 40), .long upper_, .long lower_, .int greatAt_, .ref (q 44), .ref (q 45), .ref (q 46), .ref (q 47), .ref (q 48), .ref (q 49), .ref (q 50), .int sides_, .ref (q 52), .ref (q 53)]
-- ===== SoldMatches$Bets.add(IIIII)I
abbrev rmX0_add : Room := { frames := 0, cells := 0, slots := 0, locals := 0 }
def w_X0_add (cI cJ cZ : ClassId) (h_this : Nat) (q_this : Nat → Nat) (this_count : Int32) (this_near : Int32) (this_times : Int32) (this_ties : Int32) (this_end : Nat → Int32) (this_hand : Nat → Int32) (this_match : Nat → Int32) (this_minute : Nat → Int32) (this_sum : Nat → Int32) : va_W := [(h_this, .inr (0, oFX0 q_this this_count this_near this_times this_ties)), ((q_this 6), .inl (cI, 40, .inl this_end)), ((q_this 4), .inl (cI, 40, .inl this_hand)), ((q_this 5), .inl (cI, 40, .inl this_match)), ((q_this 7), .inl (cI, 40, .inl this_minute)), ((q_this 8), .inl (cI, 40, .inl this_sum))]
theorem m_X0_add_f21 : Cond.fieldLink RX0 21 "SoldMatches$Bets" "hand" "[I" ∈ wsX0_add := List.mem_of_getElem? (i := 1) rfl
theorem in_X0_add_X0 : ∀ w ∈ wsX00, w ∈ wsX0_add := fun w h => List.mem_cons_of_mem _ (List.mem_append_right _ h)
theorem m_X0_add_f49 : Cond.fieldLink RX0 49 "SoldMatches$Bets" "count" "I" ∈ wsX0_add := List.mem_of_getElem? (i := 2) rfl
theorem m_X0_add_f25 : Cond.fieldLink RX0 25 "SoldMatches$Bets" "match" "[I" ∈ wsX0_add := List.mem_of_getElem? (i := 3) rfl
theorem m_X0_add_f28 : Cond.fieldLink RX0 28 "SoldMatches$Bets" "end" "[I" ∈ wsX0_add := List.mem_of_getElem? (i := 4) rfl
theorem m_X0_add_f31 : Cond.fieldLink RX0 31 "SoldMatches$Bets" "minute" "[I" ∈ wsX0_add := List.mem_of_getElem? (i := 5) rfl
theorem m_X0_add_f34 : Cond.fieldLink RX0 34 "SoldMatches$Bets" "sum" "[I" ∈ wsX0_add := List.mem_of_getElem? (i := 6) rfl
def t_X0_add  (this_count : Int32) (this_end : Nat → Int32) (this_hand : Nat → Int32) (this_match : Nat → Int32) (this_minute : Nat → Int32) (this_sum : Nat → Int32) (x1 : Int32) (x2 : Int32) (x3 : Int32) (x4 : Int32) (x5 : Int32) : Option (Int32 × Int32 × (Nat → Int32) × (Nat → Int32) × (Nat → Int32) × (Nat → Int32) × (Nat → Int32)) := ckn (this_count < 0 ∨ 40 ≤ this_count.toNatClampNeg) (ckn (this_count < 0 ∨ 40 ≤ this_count.toNatClampNeg) (ckn (this_count < 0 ∨ 40 ≤ this_count.toNatClampNeg) (ckn (this_count < 0 ∨ 40 ≤ this_count.toNatClampNeg) (ckn (this_count < 0 ∨ 40 ≤ this_count.toNatClampNeg) (some ((this_count + (1 : Int32)) - (1 : Int32), this_count + (1 : Int32), upd this_end this_count.toNatClampNeg x3, upd this_hand this_count.toNatClampNeg x1, upd this_match this_count.toNatClampNeg x2, upd this_minute this_count.toNatClampNeg x4, upd this_sum this_count.toNatClampNeg x5))))))
set_option maxHeartbeats 4000000 in
set_option maxRecDepth 100000 in
theorem c_X0_add (l : Launch) (D : va_G) (cI cJ cZ : ClassId) (h_this : Nat) (q_this : Nat → Nat) (this_count : Int32) (this_near : Int32) (this_times : Int32) (this_ties : Int32) (this_end : Nat → Int32) (this_hand : Nat → Int32) (this_match : Nat → Int32) (this_minute : Nat → Int32) (this_sum : Nat → Int32) (x1 : Int32) (x2 : Int32) (x3 : Int32) (x4 : Int32) (x5 : Int32) (r : Int32) (z0 : Int32) (z1 : Nat → Int32) (z2 : Nat → Int32) (z3 : Nat → Int32) (z4 : Nat → Int32) (z5 : Nat → Int32) (hT : t_X0_add  this_count this_end this_hand this_match this_minute this_sum x1 x2 x3 x4 x5 = some (r, z0, z1, z2, z3, z4, z5)) : Ci l yX0_add wsX0_add rmX0_add D (tys3 cI cJ cZ) [.ref h_this, .int x1, .int x2, .int x3, .int x4, .int x5] (w_X0_add cI cJ cZ h_this q_this this_count this_near this_times this_ties this_end this_hand this_match this_minute this_sum) r (w_X0_add cI cJ cZ h_this q_this z0 this_near this_times this_ties z1 z2 z3 z4 z5) := by
  refine Ci.ofJ (cc := cX0_add) (nL := 6) (rt := (some .int)) (own := RX0) (by decide) rfl rfl (Nat.le_of_ble_eq_true rfl) ?_
  intro p e s m below meth c A X
  unfold t_X0_add at hT
  refine J_lv (lv' := [(0, .ref h_this), (1, .int x1), (2, .int x2), (3, .int x3), (4, .int x4), (5, .int x5)]) [0, 1, 2, 3, 4, 5] rfl ?_
  refine J_aload_n X dX0_add_0 0 rfl ?_
  refine J_get (C := RX0) (T := TX0) (N := 13) (ci := 0) (v := .ref (q_this 4)) X in_X0_add_X0 0 rfl rfl 4 (by decide) m_X0_add_f21 rfl dX0_add_1 ?_
  refine J_aload_n X dX0_add_4 0 rfl ?_
  refine J_get (C := RX0) (T := TX0) (N := 13) (ci := 0) (v := .int this_count) X in_X0_add_X0 0 rfl rfl 0 (by decide) m_X0_add_f49 rfl dX0_add_5 ?_
  refine J_iload_n X dX0_add_8 1 rfl ?_
  obtain ⟨hk1, hT⟩ := ckn_e hT
  refine J_iast (ws' := (w_X0_add cI cJ cZ h_this q_this this_count this_near this_times this_ties this_end (upd this_hand this_count.toNatClampNeg x1) this_match this_minute this_sum)) X 2 rfl rfl hk1 rfl dX0_add_9 ?_
  refine J_aload_n X dX0_add_10 0 rfl ?_
  refine J_get (C := RX0) (T := TX0) (N := 13) (ci := 0) (v := .ref (q_this 5)) X in_X0_add_X0 0 rfl rfl 5 (by decide) m_X0_add_f25 rfl dX0_add_11 ?_
  refine J_aload_n X dX0_add_14 0 rfl ?_
  refine J_get (C := RX0) (T := TX0) (N := 13) (ci := 0) (v := .int this_count) X in_X0_add_X0 0 rfl rfl 0 (by decide) m_X0_add_f49 rfl dX0_add_15 ?_
  refine J_iload_n X dX0_add_18 2 rfl ?_
  obtain ⟨hk2, hT⟩ := ckn_e hT
  refine J_iast (ws' := (w_X0_add cI cJ cZ h_this q_this this_count this_near this_times this_ties this_end (upd this_hand this_count.toNatClampNeg x1) (upd this_match this_count.toNatClampNeg x2) this_minute this_sum)) X 3 rfl rfl hk2 rfl dX0_add_19 ?_
  refine J_aload_n X dX0_add_20 0 rfl ?_
  refine J_get (C := RX0) (T := TX0) (N := 13) (ci := 0) (v := .ref (q_this 6)) X in_X0_add_X0 0 rfl rfl 6 (by decide) m_X0_add_f28 rfl dX0_add_21 ?_
  refine J_aload_n X dX0_add_24 0 rfl ?_
  refine J_get (C := RX0) (T := TX0) (N := 13) (ci := 0) (v := .int this_count) X in_X0_add_X0 0 rfl rfl 0 (by decide) m_X0_add_f49 rfl dX0_add_25 ?_
  refine J_iload_n X dX0_add_28 3 rfl ?_
  obtain ⟨hk3, hT⟩ := ckn_e hT
  refine J_iast (ws' := (w_X0_add cI cJ cZ h_this q_this this_count this_near this_times this_ties (upd this_end this_count.toNatClampNeg x3) (upd this_hand this_count.toNatClampNeg x1) (upd this_match this_count.toNatClampNeg x2) this_minute this_sum)) X 1 rfl rfl hk3 rfl dX0_add_29 ?_
  refine J_aload_n X dX0_add_30 0 rfl ?_
  refine J_get (C := RX0) (T := TX0) (N := 13) (ci := 0) (v := .ref (q_this 7)) X in_X0_add_X0 0 rfl rfl 7 (by decide) m_X0_add_f31 rfl dX0_add_31 ?_
  refine J_aload_n X dX0_add_34 0 rfl ?_
  refine J_get (C := RX0) (T := TX0) (N := 13) (ci := 0) (v := .int this_count) X in_X0_add_X0 0 rfl rfl 0 (by decide) m_X0_add_f49 rfl dX0_add_35 ?_
  refine J_iload X dX0_add_38 4 rfl ?_
  obtain ⟨hk4, hT⟩ := ckn_e hT
  refine J_iast (ws' := (w_X0_add cI cJ cZ h_this q_this this_count this_near this_times this_ties (upd this_end this_count.toNatClampNeg x3) (upd this_hand this_count.toNatClampNeg x1) (upd this_match this_count.toNatClampNeg x2) (upd this_minute this_count.toNatClampNeg x4) this_sum)) X 4 rfl rfl hk4 rfl dX0_add_40 ?_
  refine J_aload_n X dX0_add_41 0 rfl ?_
  refine J_get (C := RX0) (T := TX0) (N := 13) (ci := 0) (v := .ref (q_this 8)) X in_X0_add_X0 0 rfl rfl 8 (by decide) m_X0_add_f34 rfl dX0_add_42 ?_
  refine J_aload_n X dX0_add_45 0 rfl ?_
  refine J_get (C := RX0) (T := TX0) (N := 13) (ci := 0) (v := .int this_count) X in_X0_add_X0 0 rfl rfl 0 (by decide) m_X0_add_f49 rfl dX0_add_46 ?_
  refine J_iload X dX0_add_49 5 rfl ?_
  obtain ⟨hk5, hT⟩ := ckn_e hT
  refine J_iast (ws' := (w_X0_add cI cJ cZ h_this q_this this_count this_near this_times this_ties (upd this_end this_count.toNatClampNeg x3) (upd this_hand this_count.toNatClampNeg x1) (upd this_match this_count.toNatClampNeg x2) (upd this_minute this_count.toNatClampNeg x4) (upd this_sum this_count.toNatClampNeg x5))) X 5 rfl rfl hk5 rfl dX0_add_51 ?_
  refine J_aload_n X dX0_add_52 0 rfl ?_
  refine J_dup X dX0_add_53 rfl ?_
  refine J_get (C := RX0) (T := TX0) (N := 13) (ci := 0) (v := .int this_count) X in_X0_add_X0 0 rfl rfl 0 (by decide) m_X0_add_f49 rfl dX0_add_54 ?_
  refine J_iconst (v := 1) X dX0_add_57 (by decide) ?_
  refine J_iadd X dX0_add_58 ?_
  refine J_put (host := "") (C := RX0) (T := TX0) (N := 13) (ci := 0) (ws' := (w_X0_add cI cJ cZ h_this q_this (this_count + (1 : Int32)) this_near this_times this_ties (upd this_end this_count.toNatClampNeg x3) (upd this_hand this_count.toNatClampNeg x1) (upd this_match this_count.toNatClampNeg x2) (upd this_minute this_count.toNatClampNeg x4) (upd this_sum this_count.toNatClampNeg x5))) X in_X0_add_X0 0 rfl rfl 0 (by decide) tyX0 tyX0_ok nmX0 m_X0_add_f49 rfl rfl rfl (Nat.le_of_ble_eq_true rfl) rfl dX0_add_59 ?_
  refine J_aload_n X dX0_add_62 0 rfl ?_
  refine J_get (C := RX0) (T := TX0) (N := 13) (ci := 0) (v := .int (this_count + (1 : Int32))) X in_X0_add_X0 0 rfl rfl 0 (by decide) m_X0_add_f49 rfl dX0_add_63 ?_
  refine J_iconst (v := 1) X dX0_add_66 (by decide) ?_
  refine J_isub X dX0_add_67 ?_
  cases hT
  exact J_iret X dX0_add_68
-- ===== SoldMatches$Games.goalsAhead(III)I
abbrev rmX2_goalsAhead : Room := { frames := 0, cells := 0, slots := 0, locals := 0 }
def w_X2_goalsAhead (cI cJ cZ : ClassId) (h_this : Nat) (q_this : Nat → Nat) (this_count : Int32) (this_base : Int32) (this_topLean : Int32) (this_topSpot : Int32) (this_goals : Nat → Int32) : va_W := [(h_this, .inr (2, oFX2 q_this this_count this_base this_topLean this_topSpot)), ((q_this 8), .inl (cI, 72, .inl this_goals))]
theorem m_X2_goalsAhead_f34 : Cond.fieldLink RX2 34 "SoldMatches$Games" "goals" "[I" ∈ wsX2_goalsAhead := List.mem_of_getElem? (i := 1) rfl
theorem in_X2_goalsAhead_X2 : ∀ w ∈ wsX20, w ∈ wsX2_goalsAhead := fun w h => List.mem_cons_of_mem _ (List.mem_append_right _ h)
def t_X2_goalsAhead_31  (k_6 : (Nat → Int32) → Int32 → Int32 → Int32 → Int32 → Int32 → Option (Int32)) (this_goals : Nat → Int32) (x1 : Int32) (x2 : Int32) (x3 : Int32) (x4 : Int32) (x5 : Int32) : Option (Int32) := k_6 this_goals x1 x2 x3 x4 (x5 + (1 : Int32))
def t_X2_goalsAhead_6_b  (k_6 : (Nat → Int32) → Int32 → Int32 → Int32 → Int32 → Int32 → Option (Int32)) (this_goals : Nat → Int32) (x1 : Int32) (x2 : Int32) (x3 : Int32) (x4 : Int32) (x5 : Int32) : Option (Int32) := if x2 ≤ x5 then (some (x4)) else (ckn (((x1 * (6 : Int32)) + x5) < 0 ∨ 72 ≤ ((x1 * (6 : Int32)) + x5).toNatClampNeg) (if (this_goals ((x1 * (6 : Int32)) + x5).toNatClampNeg) = x3 then (t_X2_goalsAhead_31  k_6 this_goals x1 x2 x3 (x4 + (1 : Int32)) x5) else (t_X2_goalsAhead_31  k_6 this_goals x1 x2 x3 x4 x5)))
def t_X2_goalsAhead_6   (n : Nat) : (Nat → Int32) → Int32 → Int32 → Int32 → Int32 → Int32 → Option (Int32) := Nat.rec (fun _ _ _ _ _ _ => none) (fun _ ih => t_X2_goalsAhead_6_b   ih) n
def t_X2_goalsAhead  (this_goals : Nat → Int32) (x1 : Int32) (x2 : Int32) (x3 : Int32) : Option (Int32) := t_X2_goalsAhead_6   lfuel this_goals x1 x2 x3 (0 : Int32) (0 : Int32)
set_option maxHeartbeats 4000000 in
set_option maxRecDepth 100000 in
theorem b_X2_goalsAhead_31 {p : Program} {l : Launch} {e : Env} {s : State} {m : MethodId} {args : Array Value} {below : List Frame} {meth : Method} {c : Code} {D : va_G} {A : Nat → Prop} {cI cJ cZ : ClassId} (X : Cx p m c cX2_goalsAhead 6 s args wsX2_goalsAhead RX2 D (tys3 cI cJ cZ) meth (some .int)) (_ _ _ : ClassId)  (h_this : Nat) (q_this : Nat → Nat) (this_count : Int32) (this_base : Int32) (this_topLean : Int32) (this_topSpot : Int32) (r : Int32) (k_6 : (Nat → Int32) → Int32 → Int32 → Int32 → Int32 → Int32 → Option (Int32)) (hk_6 : ∀ (this_goals : Nat → Int32) (x1 : Int32) (x2 : Int32) (x3 : Int32) (x4 : Int32) (x5 : Int32), k_6 this_goals x1 x2 x3 x4 x5 = some r → J p l e rmX2_goalsAhead s m args below meth c D A 6 (QI D below args s A r (w_X2_goalsAhead cI cJ cZ h_this q_this this_count this_base this_topLean this_topSpot this_goals)) 0 0 (w_X2_goalsAhead cI cJ cZ h_this q_this this_count this_base this_topLean this_topSpot this_goals) [(0, .ref h_this), (1, .int x1), (2, .int x2), (3, .int x3), (4, .int x4), (5, .int x5)] [] 6) (this_goals : Nat → Int32) (x1 : Int32) (x2 : Int32) (x3 : Int32) (x4 : Int32) (x5 : Int32) (hT : t_X2_goalsAhead_31  k_6 this_goals x1 x2 x3 x4 x5 = some r) : J p l e rmX2_goalsAhead s m args below meth c D A 6 (QI D below args s A r (w_X2_goalsAhead cI cJ cZ h_this q_this this_count this_base this_topLean this_topSpot this_goals)) 0 0 (w_X2_goalsAhead cI cJ cZ h_this q_this this_count this_base this_topLean this_topSpot this_goals) [(0, .ref h_this), (1, .int x1), (2, .int x2), (3, .int x3), (4, .int x4), (5, .int x5)] [] 31 := by
  unfold t_X2_goalsAhead_31 at hT
  refine J_iinc (lv' := [(5, .int (x5 + (1 : Int32))), (0, .ref h_this), (1, .int x1), (2, .int x2), (3, .int x3), (4, .int x4)]) (j := 5) X dX2_goalsAhead_31 rfl rfl (by decide) rfl ?_
  refine J_goto (tgt := 6) X dX2_goalsAhead_34 (by decide) ?_
  refine J_lv (lv' := [(0, .ref h_this), (1, .int x1), (2, .int x2), (3, .int x3), (4, .int x4), (5, .int (x5 + (1 : Int32)))]) [1, 2, 3, 4, 5, 0] rfl ?_
  exact hk_6 this_goals x1 x2 x3 x4 (x5 + (1 : Int32)) hT
set_option maxHeartbeats 4000000 in
set_option maxRecDepth 100000 in
theorem b_X2_goalsAhead_6_b {p : Program} {l : Launch} {e : Env} {s : State} {m : MethodId} {args : Array Value} {below : List Frame} {meth : Method} {c : Code} {D : va_G} {A : Nat → Prop} {cI cJ cZ : ClassId} (X : Cx p m c cX2_goalsAhead 6 s args wsX2_goalsAhead RX2 D (tys3 cI cJ cZ) meth (some .int)) (_ _ _ : ClassId)  (h_this : Nat) (q_this : Nat → Nat) (this_count : Int32) (this_base : Int32) (this_topLean : Int32) (this_topSpot : Int32) (r : Int32) (k_6 : (Nat → Int32) → Int32 → Int32 → Int32 → Int32 → Int32 → Option (Int32)) (hk_6 : ∀ (this_goals : Nat → Int32) (x1 : Int32) (x2 : Int32) (x3 : Int32) (x4 : Int32) (x5 : Int32), k_6 this_goals x1 x2 x3 x4 x5 = some r → J p l e rmX2_goalsAhead s m args below meth c D A 6 (QI D below args s A r (w_X2_goalsAhead cI cJ cZ h_this q_this this_count this_base this_topLean this_topSpot this_goals)) 0 0 (w_X2_goalsAhead cI cJ cZ h_this q_this this_count this_base this_topLean this_topSpot this_goals) [(0, .ref h_this), (1, .int x1), (2, .int x2), (3, .int x3), (4, .int x4), (5, .int x5)] [] 6) (this_goals : Nat → Int32) (x1 : Int32) (x2 : Int32) (x3 : Int32) (x4 : Int32) (x5 : Int32) (hT : t_X2_goalsAhead_6_b  k_6 this_goals x1 x2 x3 x4 x5 = some r) : J p l e rmX2_goalsAhead s m args below meth c D A 6 (QI D below args s A r (w_X2_goalsAhead cI cJ cZ h_this q_this this_count this_base this_topLean this_topSpot this_goals)) 0 0 (w_X2_goalsAhead cI cJ cZ h_this q_this this_count this_base this_topLean this_topSpot this_goals) [(0, .ref h_this), (1, .int x1), (2, .int x2), (3, .int x3), (4, .int x4), (5, .int x5)] [] 6 := by
  unfold t_X2_goalsAhead_6_b at hT
  refine J_iload X dX2_goalsAhead_6 5 rfl ?_
  refine J_iload_n X dX2_goalsAhead_8 2 rfl ?_
  refine J_icmp_ge (tgt := 37) X dX2_goalsAhead_9 (by decide) (fun hc1 => ?_) (fun hc1 => ?_)
  · have hT := ift hT hc1
    refine J_iload X dX2_goalsAhead_37 4 rfl ?_
    cases hT
    exact J_iret X dX2_goalsAhead_39
  · have hT := iff_ hT hc1
    refine J_aload_n X dX2_goalsAhead_12 0 rfl ?_
    refine J_get (C := RX2) (T := TX2) (N := 13) (ci := 2) (v := .ref (q_this 8)) X in_X2_goalsAhead_X2 0 rfl rfl 8 (by decide) m_X2_goalsAhead_f34 rfl dX2_goalsAhead_13 ?_
    refine J_iload_n X dX2_goalsAhead_16 1 rfl ?_
    refine J_bipush (v := 6) X dX2_goalsAhead_17 (by decide) ?_
    refine J_imul X dX2_goalsAhead_19 ?_
    refine J_iload X dX2_goalsAhead_20 5 rfl ?_
    refine J_iadd X dX2_goalsAhead_22 ?_
    obtain ⟨hk2, hT⟩ := ckn_e hT
    refine J_iald X 1 rfl rfl hk2 dX2_goalsAhead_23 ?_
    refine J_iload_n X dX2_goalsAhead_24 3 rfl ?_
    refine J_icmp_ne (tgt := 31) X dX2_goalsAhead_25 (by decide) (fun hc3 => ?_) (fun hc3 => ?_)
    · have hT := iff_ hT hc3
      exact b_X2_goalsAhead_31 X cI cJ cZ h_this q_this this_count this_base this_topLean this_topSpot r k_6 hk_6 this_goals x1 x2 x3 x4 x5 hT
    · have hT := ift hT hc3
      refine J_iinc (lv' := [(4, .int (x4 + (1 : Int32))), (0, .ref h_this), (1, .int x1), (2, .int x2), (3, .int x3), (5, .int x5)]) (j := 4) X dX2_goalsAhead_28 rfl rfl (by decide) rfl ?_
      refine J_lv (lv' := [(0, .ref h_this), (1, .int x1), (2, .int x2), (3, .int x3), (4, .int (x4 + (1 : Int32))), (5, .int x5)]) [1, 2, 3, 4, 0, 5] rfl ?_
      exact b_X2_goalsAhead_31 X cI cJ cZ h_this q_this this_count this_base this_topLean this_topSpot r k_6 hk_6 this_goals x1 x2 x3 (x4 + (1 : Int32)) x5 hT
set_option maxHeartbeats 4000000 in
set_option maxRecDepth 100000 in
theorem b_X2_goalsAhead_6 {p : Program} {l : Launch} {e : Env} {s : State} {m : MethodId} {args : Array Value} {below : List Frame} {meth : Method} {c : Code} {D : va_G} {A : Nat → Prop} {cI cJ cZ : ClassId} (X : Cx p m c cX2_goalsAhead 6 s args wsX2_goalsAhead RX2 D (tys3 cI cJ cZ) meth (some .int)) (_ _ _ : ClassId)  (h_this : Nat) (q_this : Nat → Nat) (this_count : Int32) (this_base : Int32) (this_topLean : Int32) (this_topSpot : Int32) (r : Int32)  : ∀ (n : Nat) (this_goals : Nat → Int32) (x1 : Int32) (x2 : Int32) (x3 : Int32) (x4 : Int32) (x5 : Int32) (hT : t_X2_goalsAhead_6   n this_goals x1 x2 x3 x4 x5 = some r), J p l e rmX2_goalsAhead s m args below meth c D A 6 (QI D below args s A r (w_X2_goalsAhead cI cJ cZ h_this q_this this_count this_base this_topLean this_topSpot this_goals)) 0 0 (w_X2_goalsAhead cI cJ cZ h_this q_this this_count this_base this_topLean this_topSpot this_goals) [(0, .ref h_this), (1, .int x1), (2, .int x2), (3, .int x3), (4, .int x4), (5, .int x5)] [] 6 := by
  intro n
  induction n with
  | zero => intro this_goals x1 x2 x3 x4 x5 hT; cases hT
  | succ n ih =>
    intro this_goals x1 x2 x3 x4 x5 hT
    exact b_X2_goalsAhead_6_b X cI cJ cZ h_this q_this this_count this_base this_topLean this_topSpot r  (t_X2_goalsAhead_6   n) ih this_goals x1 x2 x3 x4 x5 hT
set_option maxHeartbeats 4000000 in
set_option maxRecDepth 100000 in
theorem c_X2_goalsAhead (l : Launch) (D : va_G) (cI cJ cZ : ClassId) (h_this : Nat) (q_this : Nat → Nat) (this_count : Int32) (this_base : Int32) (this_topLean : Int32) (this_topSpot : Int32) (this_goals : Nat → Int32) (x1 : Int32) (x2 : Int32) (x3 : Int32) (r : Int32) (hT : t_X2_goalsAhead  this_goals x1 x2 x3 = some r) : Ci l yX2_goalsAhead wsX2_goalsAhead rmX2_goalsAhead D (tys3 cI cJ cZ) [.ref h_this, .int x1, .int x2, .int x3] (w_X2_goalsAhead cI cJ cZ h_this q_this this_count this_base this_topLean this_topSpot this_goals) r (w_X2_goalsAhead cI cJ cZ h_this q_this this_count this_base this_topLean this_topSpot this_goals) := by
  refine Ci.ofJ (cc := cX2_goalsAhead) (nL := 6) (rt := (some .int)) (own := RX2) (by decide) rfl rfl (Nat.le_of_ble_eq_true rfl) ?_
  intro p e s m below meth c A X
  unfold t_X2_goalsAhead at hT
  refine J_lv (lv' := [(0, .ref h_this), (1, .int x1), (2, .int x2), (3, .int x3)]) [0, 1, 2, 3] rfl ?_
  refine J_iconst (v := 0) X dX2_goalsAhead_0 (by decide) ?_
  refine J_istore (lv' := [(4, .int (0 : Int32)), (0, .ref h_this), (1, .int x1), (2, .int x2), (3, .int x3)]) X dX2_goalsAhead_1 (by decide) rfl ?_
  refine J_iconst (v := 0) X dX2_goalsAhead_3 (by decide) ?_
  refine J_istore (lv' := [(5, .int (0 : Int32)), (4, .int (0 : Int32)), (0, .ref h_this), (1, .int x1), (2, .int x2), (3, .int x3)]) X dX2_goalsAhead_4 (by decide) rfl ?_
  refine J_lv (lv' := [(0, .ref h_this), (1, .int x1), (2, .int x2), (3, .int x3), (4, .int (0 : Int32)), (5, .int (0 : Int32))]) [2, 3, 4, 5, 1, 0] rfl ?_
  exact b_X2_goalsAhead_6 X cI cJ cZ h_this q_this this_count this_base this_topLean this_topSpot r  lfuel this_goals x1 x2 x3 (0 : Int32) (0 : Int32) hT
-- ===== SoldMatches$Games.leadAhead(II)I
abbrev rmX2_leadAhead : Room := { frames := 1, cells := 0, slots := 0, locals := 25 }
def w_X2_leadAhead (cI cJ cZ : ClassId) (h_this : Nat) (q_this : Nat → Nat) (this_count : Int32) (this_base : Int32) (this_topLean : Int32) (this_topSpot : Int32) (this_goals : Nat → Int32) : va_W := [(h_this, .inr (2, oFX2 q_this this_count this_base this_topLean this_topSpot)), ((q_this 8), .inl (cI, 72, .inl this_goals))]
theorem cw_X2_leadAhead_X2_goalsAhead_56 {s : State} {args : Array Value} (hts : ∀ w ∈ wsX2_leadAhead, w.before args s = true) : CallW rmX2_leadAhead s args RX2 RX2 56 yX2_goalsAhead cX2_goalsAhead 6 (some .int) wsX2_goalsAhead rmX2_goalsAhead 0 0 3 := cwV 3 hts gX2_leadAhead_X2_goalsAhead rfl rfl rfl (by decide +kernel) ⟨by decide, by decide⟩
def t_X2_leadAhead  (this_goals : Nat → Int32) (x1 : Int32) (x2 : Int32) : Option (Int32) := bd1 (t_X2_goalsAhead this_goals x1 x2 (1 : Int32)) (fun v1 => bd1 (t_X2_goalsAhead this_goals x1 x2 (2 : Int32)) (fun v2 => some (v1 - v2)))
set_option maxHeartbeats 4000000 in
set_option maxRecDepth 100000 in
theorem c_X2_leadAhead (l : Launch) (D : va_G) (cI cJ cZ : ClassId) (h_this : Nat) (q_this : Nat → Nat) (this_count : Int32) (this_base : Int32) (this_topLean : Int32) (this_topSpot : Int32) (this_goals : Nat → Int32) (x1 : Int32) (x2 : Int32) (r : Int32) (hT : t_X2_leadAhead  this_goals x1 x2 = some r) : Ci l yX2_leadAhead wsX2_leadAhead rmX2_leadAhead D (tys3 cI cJ cZ) [.ref h_this, .int x1, .int x2] (w_X2_leadAhead cI cJ cZ h_this q_this this_count this_base this_topLean this_topSpot this_goals) r (w_X2_leadAhead cI cJ cZ h_this q_this this_count this_base this_topLean this_topSpot this_goals) := by
  refine Ci.ofJ (cc := cX2_leadAhead) (nL := 3) (rt := (some .int)) (own := RX2) (by decide) rfl rfl (Nat.le_of_ble_eq_true rfl) ?_
  intro p e s m below meth c A X
  unfold t_X2_leadAhead at hT
  refine J_lv (lv' := [(0, .ref h_this), (1, .int x1), (2, .int x2)]) [0, 1, 2] rfl ?_
  refine J_aload_n X dX2_leadAhead_0 0 rfl ?_
  refine J_iload_n X dX2_leadAhead_1 1 rfl ?_
  refine J_iload_n X dX2_leadAhead_2 2 rfl ?_
  refine J_iconst (v := 1) X dX2_leadAhead_3 (by decide) ?_
  obtain ⟨v1, hq1, hT⟩ := bd1_e hT
  refine J_ci (wc := (w_X2_goalsAhead cI cJ cZ h_this q_this this_count this_base this_topLean this_topSpot this_goals)) (wc' := (w_X2_goalsAhead cI cJ cZ h_this q_this this_count this_base this_topLean this_topSpot this_goals)) (ws' := (w_X2_leadAhead cI cJ cZ h_this q_this this_count this_base this_topLean this_topSpot this_goals)) [0, 1] [] 2 rfl rfl rfl rfl rfl rfl rfl rfl (run_V (As := [.int x1, .int x2, .int (1 : Int32)]) (rest := []) X (c_X2_goalsAhead l D cI cJ cZ h_this q_this this_count this_base this_topLean this_topSpot this_goals x1 x2 (1 : Int32) v1 hq1) (cw_X2_leadAhead_X2_goalsAhead_56 X.1.2.2.2.2) 0 rfl rfl rfl rfl (Nat.le_of_ble_eq_true rfl) dX2_leadAhead_4 ⟨Nat.zero_le _, Nat.zero_le _⟩) ?_
  refine J_aload_n X dX2_leadAhead_7 0 rfl ?_
  refine J_iload_n X dX2_leadAhead_8 1 rfl ?_
  refine J_iload_n X dX2_leadAhead_9 2 rfl ?_
  refine J_iconst (v := 2) X dX2_leadAhead_10 (by decide) ?_
  obtain ⟨v2, hq2, hT⟩ := bd1_e hT
  refine J_ci (wc := (w_X2_goalsAhead cI cJ cZ h_this q_this this_count this_base this_topLean this_topSpot this_goals)) (wc' := (w_X2_goalsAhead cI cJ cZ h_this q_this this_count this_base this_topLean this_topSpot this_goals)) (ws' := (w_X2_leadAhead cI cJ cZ h_this q_this this_count this_base this_topLean this_topSpot this_goals)) [0, 1] [] 2 rfl rfl rfl rfl rfl rfl rfl rfl (run_V (As := [.int x1, .int x2, .int (2 : Int32)]) (rest := [.int v1]) X (c_X2_goalsAhead l D cI cJ cZ h_this q_this this_count this_base this_topLean this_topSpot this_goals x1 x2 (2 : Int32) v2 hq2) (cw_X2_leadAhead_X2_goalsAhead_56 X.1.2.2.2.2) 0 rfl rfl rfl rfl (Nat.le_of_ble_eq_true rfl) dX2_leadAhead_11 ⟨Nat.zero_le _, Nat.zero_le _⟩) ?_
  refine J_isub X dX2_leadAhead_14 ?_
  cases hT
  exact J_iret X dX2_leadAhead_15
-- ===== SoldMatches$Odds.endByLead(I)I
abbrev rmX4_endByLead : Room := { frames := 0, cells := 0, slots := 0, locals := 0 }
def w_X4_endByLead (cI cJ cZ : ClassId)  : va_W := []
def t_X4_endByLead_17    (s0 : Int32) : Option (Int32) := some (s0)
def t_X4_endByLead   (x0 : Int32) : Option (Int32) := if x0 ≤ 0 then (if x0 = 0 then (t_X4_endByLead_17   (1 : Int32)) else (t_X4_endByLead_17   (2 : Int32))) else (t_X4_endByLead_17   (0 : Int32))
set_option maxHeartbeats 4000000 in
set_option maxRecDepth 100000 in
theorem b_X4_endByLead_17 {p : Program} {l : Launch} {e : Env} {s : State} {m : MethodId} {args : Array Value} {below : List Frame} {meth : Method} {c : Code} {D : va_G} {A : Nat → Prop} {cI cJ cZ : ClassId} (X : Cx p m c cX4_endByLead 1 s args wsX4_endByLead RX4 D (tys3 cI cJ cZ) meth (some .int)) (_ _ _ : ClassId)   (r : Int32)   (s0 : Int32) (hT : t_X4_endByLead_17    s0 = some r) : J p l e rmX4_endByLead s m args below meth c D A 1 (QI D below args s A r (w_X4_endByLead cI cJ cZ )) 0 0 (w_X4_endByLead cI cJ cZ ) [] [.int s0] 17 := by
  unfold t_X4_endByLead_17 at hT
  cases hT
  exact J_iret X dX4_endByLead_17
set_option maxHeartbeats 4000000 in
set_option maxRecDepth 100000 in
theorem c_X4_endByLead (l : Launch) (D : va_G) (cI cJ cZ : ClassId)  (x0 : Int32) (r : Int32) (hT : t_X4_endByLead   x0 = some r) : Ci l yX4_endByLead wsX4_endByLead rmX4_endByLead D (tys3 cI cJ cZ) [.int x0] (w_X4_endByLead cI cJ cZ ) r (w_X4_endByLead cI cJ cZ ) := by
  refine Ci.ofJ (cc := cX4_endByLead) (nL := 1) (rt := (some .int)) (own := RX4) (by decide) rfl rfl (Nat.le_of_ble_eq_true rfl) ?_
  intro p e s m below meth c A X
  unfold t_X4_endByLead at hT
  refine J_lv (lv' := [(0, .int x0)]) [0] rfl ?_
  refine J_iload_n X dX4_endByLead_0 0 rfl ?_
  refine J_if_le (tgt := 8) X dX4_endByLead_1 (by decide) (fun hc1 => ?_) (fun hc1 => ?_)
  · have hT := ift hT hc1
    refine J_iload_n X dX4_endByLead_8 0 rfl ?_
    refine J_if_ne (tgt := 16) X dX4_endByLead_9 (by decide) (fun hc2 => ?_) (fun hc2 => ?_)
    · have hT := iff_ hT hc2
      refine J_iconst (v := 2) X dX4_endByLead_16 (by decide) ?_
      refine J_lv (lv' := []) [] rfl ?_
      exact b_X4_endByLead_17 X cI cJ cZ  r  (2 : Int32) hT
    · have hT := ift hT hc2
      refine J_iconst (v := 1) X dX4_endByLead_12 (by decide) ?_
      refine J_goto (tgt := 17) X dX4_endByLead_13 (by decide) ?_
      refine J_lv (lv' := []) [] rfl ?_
      exact b_X4_endByLead_17 X cI cJ cZ  r  (1 : Int32) hT
  · have hT := iff_ hT hc1
    refine J_iconst (v := 0) X dX4_endByLead_4 (by decide) ?_
    refine J_goto (tgt := 17) X dX4_endByLead_5 (by decide) ?_
    refine J_lv (lv' := []) [] rfl ?_
    exact b_X4_endByLead_17 X cI cJ cZ  r  (0 : Int32) hT
-- ===== SoldMatches$Games.endOf(I)I
abbrev rmX2_endOf : Room := { frames := 2, cells := 0, slots := 0, locals := 47 }
def w_X2_endOf (cI cJ cZ : ClassId) (h_this : Nat) (q_this : Nat → Nat) (this_count : Int32) (this_base : Int32) (this_topLean : Int32) (this_topSpot : Int32) (this_goals : Nat → Int32) : va_W := [(h_this, .inr (2, oFX2 q_this this_count this_base this_topLean this_topSpot)), ((q_this 8), .inl (cI, 72, .inl this_goals))]
theorem cw_X2_endOf_X2_leadAhead_60 {s : State} {args : Array Value} (hts : ∀ w ∈ wsX2_endOf, w.before args s = true) : CallW rmX2_endOf s args RX2 RX2 60 yX2_leadAhead cX2_leadAhead 3 (some .int) wsX2_leadAhead rmX2_leadAhead 0 0 2 := cwV 2 hts gX2_endOf_X2_leadAhead rfl rfl rfl (by decide +kernel) ⟨by decide, by decide⟩
theorem cw_X2_endOf_X4_endByLead_64 {s : State} {args : Array Value} (hts : ∀ w ∈ wsX2_endOf, w.before args s = true) : CallB rmX2_endOf s args RX2 64 yX4_endByLead cX4_endByLead 1 (some .int) wsX4_endByLead rmX4_endByLead 0 0 1 ∧ (Cond.static yX4_endByLead).before args s = true := va_cwS 1 hts gX2_endOf_X4_endByLead rfl rfl rfl (by decide +kernel) ⟨by decide, by decide⟩
def t_X2_endOf  (this_goals : Nat → Int32) (x1 : Int32) : Option (Int32) := bd1 (t_X2_leadAhead this_goals x1 (6 : Int32)) (fun v1 => bd1 (t_X4_endByLead v1) (fun v2 => some (v2)))
set_option maxHeartbeats 4000000 in
set_option maxRecDepth 100000 in
theorem c_X2_endOf (l : Launch) (D : va_G) (cI cJ cZ : ClassId) (h_this : Nat) (q_this : Nat → Nat) (this_count : Int32) (this_base : Int32) (this_topLean : Int32) (this_topSpot : Int32) (this_goals : Nat → Int32) (x1 : Int32) (r : Int32) (hT : t_X2_endOf  this_goals x1 = some r) : Ci l yX2_endOf wsX2_endOf rmX2_endOf D (tys3 cI cJ cZ) [.ref h_this, .int x1] (w_X2_endOf cI cJ cZ h_this q_this this_count this_base this_topLean this_topSpot this_goals) r (w_X2_endOf cI cJ cZ h_this q_this this_count this_base this_topLean this_topSpot this_goals) := by
  refine Ci.ofJ (cc := cX2_endOf) (nL := 2) (rt := (some .int)) (own := RX2) (by decide) rfl rfl (Nat.le_of_ble_eq_true rfl) ?_
  intro p e s m below meth c A X
  unfold t_X2_endOf at hT
  refine J_lv (lv' := [(0, .ref h_this), (1, .int x1)]) [0, 1] rfl ?_
  refine J_aload_n X dX2_endOf_0 0 rfl ?_
  refine J_iload_n X dX2_endOf_1 1 rfl ?_
  refine J_bipush (v := 6) X dX2_endOf_2 (by decide) ?_
  obtain ⟨v1, hq1, hT⟩ := bd1_e hT
  refine J_ci (wc := (w_X2_leadAhead cI cJ cZ h_this q_this this_count this_base this_topLean this_topSpot this_goals)) (wc' := (w_X2_leadAhead cI cJ cZ h_this q_this this_count this_base this_topLean this_topSpot this_goals)) (ws' := (w_X2_endOf cI cJ cZ h_this q_this this_count this_base this_topLean this_topSpot this_goals)) [0, 1] [] 2 rfl rfl rfl rfl rfl rfl rfl rfl (run_V (As := [.int x1, .int (6 : Int32)]) (rest := []) X (c_X2_leadAhead l D cI cJ cZ h_this q_this this_count this_base this_topLean this_topSpot this_goals x1 (6 : Int32) v1 hq1) (cw_X2_endOf_X2_leadAhead_60 X.1.2.2.2.2) 0 rfl rfl rfl rfl (Nat.le_of_ble_eq_true rfl) dX2_endOf_4 ⟨Nat.zero_le _, Nat.zero_le _⟩) ?_
  obtain ⟨v2, hq2, hT⟩ := bd1_e hT
  refine J_ci (wc := (w_X4_endByLead cI cJ cZ )) (wc' := (w_X4_endByLead cI cJ cZ )) (ws' := (w_X2_endOf cI cJ cZ h_this q_this this_count this_base this_topLean this_topSpot this_goals)) [] [0, 1] 2 rfl rfl rfl rfl rfl rfl rfl rfl (run_S (As := [.int v1]) (rest := []) X (c_X4_endByLead l D cI cJ cZ  v1 v2 hq2) (cw_X2_endOf_X4_endByLead_64 X.1.2.2.2.2) rfl rfl (Nat.le_of_ble_eq_true rfl) dX2_endOf_7 ⟨Nat.zero_le _, Nat.zero_le _⟩) ?_
  cases hT
  exact J_iret X dX2_endOf_10
-- ===== SoldMatches$Bets.gainBy(ILSoldMatches$Games;)I
abbrev rmX0_gainBy : Room := { frames := 3, cells := 0, slots := 0, locals := 68 }
def w_X0_gainBy (cI cJ cZ : ClassId) (h_this : Nat) (h_p2 : Nat) (q_this : Nat → Nat) (q_p2 : Nat → Nat) (this_count : Int32) (this_near : Int32) (this_times : Int32) (this_ties : Int32) (p2_count : Int32) (p2_base : Int32) (p2_topLean : Int32) (p2_topSpot : Int32) (this_end : Nat → Int32) (this_match : Nat → Int32) (this_minute : Nat → Int32) (this_sum : Nat → Int32) (p2_goals : Nat → Int32) (p2_prices : Nat → Int32) : va_W := [(h_this, .inr (0, oFX0 q_this this_count this_near this_times this_ties)), (h_p2, .inr (2, oFX2 q_p2 p2_count p2_base p2_topLean p2_topSpot)), ((q_this 6), .inl (cI, 40, .inl this_end)), ((q_this 5), .inl (cI, 40, .inl this_match)), ((q_this 7), .inl (cI, 40, .inl this_minute)), ((q_this 8), .inl (cI, 40, .inl this_sum)), ((q_p2 8), .inl (cI, 72, .inl p2_goals)), ((q_p2 9), .inl (cI, 216, .inl p2_prices))]
theorem m_X0_gainBy_f34 : Cond.fieldLink RX0 34 "SoldMatches$Bets" "sum" "[I" ∈ wsX0_gainBy := List.mem_of_getElem? (i := 4) rfl
theorem in_X0_gainBy_X0 : ∀ w ∈ wsX00, w ∈ wsX0_gainBy := fun w h => List.mem_cons_of_mem _ (List.mem_append_left _ (List.mem_append_right _ h))
theorem m_X0_gainBy_f31 : Cond.fieldLink RX0 31 "SoldMatches$Bets" "minute" "[I" ∈ wsX0_gainBy := List.mem_of_getElem? (i := 1) rfl
theorem m_X0_gainBy_f28 : Cond.fieldLink RX0 28 "SoldMatches$Bets" "end" "[I" ∈ wsX0_gainBy := List.mem_of_getElem? (i := 2) rfl
theorem in_X0_gainBy_X2 : ∀ w ∈ wsX20, w ∈ wsX0_gainBy := fun w h => List.mem_cons_of_mem _ (List.mem_append_right _ h)
theorem m_X0_gainBy_f25 : Cond.fieldLink RX0 25 "SoldMatches$Bets" "match" "[I" ∈ wsX0_gainBy := List.mem_of_getElem? (i := 3) rfl
theorem cw_X0_gainBy_X2_endOf_61 {s : State} {args : Array Value} (hts : ∀ w ∈ wsX0_gainBy, w.before args s = true) : CallW rmX0_gainBy s args RX0 RX2 61 yX2_endOf cX2_endOf 2 (some .int) wsX2_endOf rmX2_endOf 0 0 1 := cwV 1 hts gX0_gainBy_X2_endOf rfl rfl rfl (by decide +kernel) ⟨by decide, by decide⟩
def t_X0_gainBy_79   (this_end : Nat → Int32) (this_match : Nat → Int32) (this_minute : Nat → Int32) (this_sum : Nat → Int32) (p2_goals : Nat → Int32) (p2_prices : Nat → Int32) (x1 : Int32) (s0 : Int32) : Option (Int32) := ckn (x1 < 0 ∨ 40 ≤ x1.toNatClampNeg) (some (s0 - (this_sum x1.toNatClampNeg)))
def t_X0_gainBy  (this_end : Nat → Int32) (this_match : Nat → Int32) (this_minute : Nat → Int32) (this_sum : Nat → Int32) (p2_goals : Nat → Int32) (p2_prices : Nat → Int32) (x1 : Int32) : Option (Int32) := ckn (x1 < 0 ∨ 40 ≤ x1.toNatClampNeg) (ckn (x1 < 0 ∨ 40 ≤ x1.toNatClampNeg) (ckn (x1 < 0 ∨ 40 ≤ x1.toNatClampNeg) (ckn ((((this_match x1.toNatClampNeg) * (18 : Int32)) + ((((this_minute x1.toNatClampNeg) / (15 : Int32)) * (3 : Int32)) + (this_end x1.toNatClampNeg))) < 0 ∨ 216 ≤ (((this_match x1.toNatClampNeg) * (18 : Int32)) + ((((this_minute x1.toNatClampNeg) / (15 : Int32)) * (3 : Int32)) + (this_end x1.toNatClampNeg))).toNatClampNeg) (if (p2_prices (((this_match x1.toNatClampNeg) * (18 : Int32)) + ((((this_minute x1.toNatClampNeg) / (15 : Int32)) * (3 : Int32)) + (this_end x1.toNatClampNeg))).toNatClampNeg) = 0 then (some ((0 : Int32))) else (ckn (x1 < 0 ∨ 40 ≤ x1.toNatClampNeg) (bd1 (t_X2_endOf p2_goals (this_match x1.toNatClampNeg)) (fun v8 => ckn (x1 < 0 ∨ 40 ≤ x1.toNatClampNeg) (if v8 = (this_end x1.toNatClampNeg) then (ckn (x1 < 0 ∨ 40 ≤ x1.toNatClampNeg) (t_X0_gainBy_79   this_end this_match this_minute this_sum p2_goals p2_prices x1 (((this_sum x1.toNatClampNeg) * (p2_prices (((this_match x1.toNatClampNeg) * (18 : Int32)) + ((((this_minute x1.toNatClampNeg) / (15 : Int32)) * (3 : Int32)) + (this_end x1.toNatClampNeg))).toNatClampNeg)) / (100 : Int32)))) else (t_X0_gainBy_79   this_end this_match this_minute this_sum p2_goals p2_prices x1 (0 : Int32))))))))))
set_option maxHeartbeats 4000000 in
set_option maxRecDepth 100000 in
theorem b_X0_gainBy_79 {p : Program} {l : Launch} {e : Env} {s : State} {m : MethodId} {args : Array Value} {below : List Frame} {meth : Method} {c : Code} {D : va_G} {A : Nat → Prop} {cI cJ cZ : ClassId} (X : Cx p m c cX0_gainBy 6 s args wsX0_gainBy RX0 D (tys3 cI cJ cZ) meth (some .int)) (_ _ _ : ClassId)  (h_this : Nat) (h_p2 : Nat) (q_this : Nat → Nat) (q_p2 : Nat → Nat) (this_count : Int32) (this_near : Int32) (this_times : Int32) (this_ties : Int32) (p2_count : Int32) (p2_base : Int32) (p2_topLean : Int32) (p2_topSpot : Int32) (r : Int32)  (this_end : Nat → Int32) (this_match : Nat → Int32) (this_minute : Nat → Int32) (this_sum : Nat → Int32) (p2_goals : Nat → Int32) (p2_prices : Nat → Int32) (x1 : Int32) (s0 : Int32) (hT : t_X0_gainBy_79   this_end this_match this_minute this_sum p2_goals p2_prices x1 s0 = some r) : J p l e rmX0_gainBy s m args below meth c D A 6 (QI D below args s A r (w_X0_gainBy cI cJ cZ h_this h_p2 q_this q_p2 this_count this_near this_times this_ties p2_count p2_base p2_topLean p2_topSpot this_end this_match this_minute this_sum p2_goals p2_prices)) 0 0 (w_X0_gainBy cI cJ cZ h_this h_p2 q_this q_p2 this_count this_near this_times this_ties p2_count p2_base p2_topLean p2_topSpot this_end this_match this_minute this_sum p2_goals p2_prices) [(0, .ref h_this), (1, .int x1), (2, .ref h_p2)] [.int s0] 79 := by
  unfold t_X0_gainBy_79 at hT
  refine J_istore (lv' := [(5, .int s0), (0, .ref h_this), (1, .int x1), (2, .ref h_p2)]) X dX0_gainBy_79 (by decide) rfl ?_
  refine J_iload X dX0_gainBy_81 0 rfl ?_
  refine J_aload_n X dX0_gainBy_83 1 rfl ?_
  refine J_get (C := RX0) (T := TX0) (N := 13) (ci := 0) (v := .ref (q_this 8)) X in_X0_gainBy_X0 0 rfl rfl 8 (by decide) m_X0_gainBy_f34 rfl dX0_gainBy_84 ?_
  refine J_iload_n X dX0_gainBy_87 2 rfl ?_
  obtain ⟨hk1, hT⟩ := ckn_e hT
  refine J_iald X 5 rfl rfl hk1 dX0_gainBy_88 ?_
  refine J_isub X dX0_gainBy_89 ?_
  cases hT
  exact J_iret X dX0_gainBy_90
set_option maxHeartbeats 4000000 in
set_option maxRecDepth 100000 in
theorem c_X0_gainBy (l : Launch) (D : va_G) (cI cJ cZ : ClassId) (h_this : Nat) (h_p2 : Nat) (q_this : Nat → Nat) (q_p2 : Nat → Nat) (this_count : Int32) (this_near : Int32) (this_times : Int32) (this_ties : Int32) (p2_count : Int32) (p2_base : Int32) (p2_topLean : Int32) (p2_topSpot : Int32) (this_end : Nat → Int32) (this_match : Nat → Int32) (this_minute : Nat → Int32) (this_sum : Nat → Int32) (p2_goals : Nat → Int32) (p2_prices : Nat → Int32) (x1 : Int32) (r : Int32) (hT : t_X0_gainBy  this_end this_match this_minute this_sum p2_goals p2_prices x1 = some r) : Ci l yX0_gainBy wsX0_gainBy rmX0_gainBy D (tys3 cI cJ cZ) [.ref h_this, .int x1, .ref h_p2] (w_X0_gainBy cI cJ cZ h_this h_p2 q_this q_p2 this_count this_near this_times this_ties p2_count p2_base p2_topLean p2_topSpot this_end this_match this_minute this_sum p2_goals p2_prices) r (w_X0_gainBy cI cJ cZ h_this h_p2 q_this q_p2 this_count this_near this_times this_ties p2_count p2_base p2_topLean p2_topSpot this_end this_match this_minute this_sum p2_goals p2_prices) := by
  refine Ci.ofJ (cc := cX0_gainBy) (nL := 6) (rt := (some .int)) (own := RX0) (by decide) rfl rfl (Nat.le_of_ble_eq_true rfl) ?_
  intro p e s m below meth c A X
  unfold t_X0_gainBy at hT
  refine J_lv (lv' := [(0, .ref h_this), (1, .int x1), (2, .ref h_p2)]) [0, 1, 2] rfl ?_
  refine J_aload_n X dX0_gainBy_0 0 rfl ?_
  refine J_get (C := RX0) (T := TX0) (N := 13) (ci := 0) (v := .ref (q_this 7)) X in_X0_gainBy_X0 0 rfl rfl 7 (by decide) m_X0_gainBy_f31 rfl dX0_gainBy_1 ?_
  refine J_iload_n X dX0_gainBy_4 1 rfl ?_
  obtain ⟨hk2, hT⟩ := ckn_e hT
  refine J_iald X 4 rfl rfl hk2 dX0_gainBy_5 ?_
  refine J_bipush (v := 15) X dX0_gainBy_6 (by decide) ?_
  refine J_idiv X dX0_gainBy_8 (by decide) ?_
  refine J_iconst (v := 3) X dX0_gainBy_9 (by decide) ?_
  refine J_imul X dX0_gainBy_10 ?_
  refine J_aload_n X dX0_gainBy_11 0 rfl ?_
  refine J_get (C := RX0) (T := TX0) (N := 13) (ci := 0) (v := .ref (q_this 6)) X in_X0_gainBy_X0 0 rfl rfl 6 (by decide) m_X0_gainBy_f28 rfl dX0_gainBy_12 ?_
  refine J_iload_n X dX0_gainBy_15 1 rfl ?_
  obtain ⟨hk3, hT⟩ := ckn_e hT
  refine J_iald X 2 rfl rfl hk3 dX0_gainBy_16 ?_
  refine J_iadd X dX0_gainBy_17 ?_
  refine J_istore_n (lv' := [(3, .int ((((this_minute x1.toNatClampNeg) / (15 : Int32)) * (3 : Int32)) + (this_end x1.toNatClampNeg))), (0, .ref h_this), (1, .int x1), (2, .ref h_p2)]) X dX0_gainBy_18 (by decide) rfl ?_
  refine J_aload_n X dX0_gainBy_19 3 rfl ?_
  refine J_getN (host := "SoldMatches") (C := RX2) (T := TX2) (N := 13) (ci := 2) (v := .ref (q_p2 9)) X in_X0_gainBy_X2 1 rfl rfl 9 (by decide) (List.mem_of_getElem? (i := 16) rfl) rfl dX0_gainBy_20 ?_
  refine J_aload_n X dX0_gainBy_23 1 rfl ?_
  refine J_get (C := RX0) (T := TX0) (N := 13) (ci := 0) (v := .ref (q_this 5)) X in_X0_gainBy_X0 0 rfl rfl 5 (by decide) m_X0_gainBy_f25 rfl dX0_gainBy_24 ?_
  refine J_iload_n X dX0_gainBy_27 2 rfl ?_
  obtain ⟨hk4, hT⟩ := ckn_e hT
  refine J_iald X 3 rfl rfl hk4 dX0_gainBy_28 ?_
  refine J_bipush (v := 18) X dX0_gainBy_29 (by decide) ?_
  refine J_imul X dX0_gainBy_31 ?_
  refine J_iload_n X dX0_gainBy_32 0 rfl ?_
  refine J_iadd X dX0_gainBy_33 ?_
  obtain ⟨hk5, hT⟩ := ckn_e hT
  refine J_iald X 7 rfl rfl hk5 dX0_gainBy_34 ?_
  refine J_istore (lv' := [(4, .int (p2_prices (((this_match x1.toNatClampNeg) * (18 : Int32)) + ((((this_minute x1.toNatClampNeg) / (15 : Int32)) * (3 : Int32)) + (this_end x1.toNatClampNeg))).toNatClampNeg)), (3, .int ((((this_minute x1.toNatClampNeg) / (15 : Int32)) * (3 : Int32)) + (this_end x1.toNatClampNeg))), (0, .ref h_this), (1, .int x1), (2, .ref h_p2)]) X dX0_gainBy_35 (by decide) rfl ?_
  refine J_iload X dX0_gainBy_37 0 rfl ?_
  refine J_if_ne (tgt := 44) X dX0_gainBy_39 (by decide) (fun hc6 => ?_) (fun hc6 => ?_)
  · have hT := iff_ hT hc6
    refine J_aload_n X dX0_gainBy_44 4 rfl ?_
    refine J_aload_n X dX0_gainBy_45 2 rfl ?_
    refine J_get (C := RX0) (T := TX0) (N := 13) (ci := 0) (v := .ref (q_this 5)) X in_X0_gainBy_X0 0 rfl rfl 5 (by decide) m_X0_gainBy_f25 rfl dX0_gainBy_46 ?_
    refine J_iload_n X dX0_gainBy_49 3 rfl ?_
    obtain ⟨hk7, hT⟩ := ckn_e hT
    refine J_iald X 3 rfl rfl hk7 dX0_gainBy_50 ?_
    obtain ⟨v8, hq8, hT⟩ := bd1_e hT
    refine J_ci (wc := (w_X2_endOf cI cJ cZ h_p2 q_p2 p2_count p2_base p2_topLean p2_topSpot p2_goals)) (wc' := (w_X2_endOf cI cJ cZ h_p2 q_p2 p2_count p2_base p2_topLean p2_topSpot p2_goals)) (ws' := (w_X0_gainBy cI cJ cZ h_this h_p2 q_this q_p2 this_count this_near this_times this_ties p2_count p2_base p2_topLean p2_topSpot this_end this_match this_minute this_sum p2_goals p2_prices)) (idxs [false, true, false, false, false, false, true, false] 0) (idxs [true, false, true, true, true, true, false, true] 0) 8 rfl rfl rfl (pick_C _ rfl rfl) rfl (pick_C _ rfl rfl) rfl (pick_R _ rfl rfl rfl) (run_V (As := [.int (this_match x1.toNatClampNeg)]) (rest := []) X (c_X2_endOf l D cI cJ cZ h_p2 q_p2 p2_count p2_base p2_topLean p2_topSpot p2_goals (this_match x1.toNatClampNeg) v8 hq8) (cw_X0_gainBy_X2_endOf_61 X.1.2.2.2.2) 0 rfl rfl rfl rfl (Nat.le_of_ble_eq_true rfl) dX0_gainBy_51 ⟨Nat.zero_le _, Nat.zero_le _⟩) ?_
    refine J_aload_n X dX0_gainBy_54 2 rfl ?_
    refine J_get (C := RX0) (T := TX0) (N := 13) (ci := 0) (v := .ref (q_this 6)) X in_X0_gainBy_X0 0 rfl rfl 6 (by decide) m_X0_gainBy_f28 rfl dX0_gainBy_55 ?_
    refine J_iload_n X dX0_gainBy_58 3 rfl ?_
    obtain ⟨hk9, hT⟩ := ckn_e hT
    refine J_iald X 2 rfl rfl hk9 dX0_gainBy_59 ?_
    refine J_icmp_ne (tgt := 78) X dX0_gainBy_60 (by decide) (fun hc10 => ?_) (fun hc10 => ?_)
    · have hT := iff_ hT hc10
      refine J_iconst (v := 0) X dX0_gainBy_78 (by decide) ?_
      refine J_lv (lv' := [(0, .ref h_this), (1, .int x1), (2, .ref h_p2)]) [2, 3, 4] rfl ?_
      exact b_X0_gainBy_79 X cI cJ cZ h_this h_p2 q_this q_p2 this_count this_near this_times this_ties p2_count p2_base p2_topLean p2_topSpot r  this_end this_match this_minute this_sum p2_goals p2_prices x1 (0 : Int32) hT
    · have hT := ift hT hc10
      refine J_aload_n X dX0_gainBy_63 2 rfl ?_
      refine J_get (C := RX0) (T := TX0) (N := 13) (ci := 0) (v := .ref (q_this 8)) X in_X0_gainBy_X0 0 rfl rfl 8 (by decide) m_X0_gainBy_f34 rfl dX0_gainBy_64 ?_
      refine J_iload_n X dX0_gainBy_67 3 rfl ?_
      obtain ⟨hk11, hT⟩ := ckn_e hT
      refine J_iald X 5 rfl rfl hk11 dX0_gainBy_68 ?_
      refine J_iload X dX0_gainBy_69 0 rfl ?_
      refine J_imul X dX0_gainBy_71 ?_
      refine J_bipush (v := 100) X dX0_gainBy_72 (by decide) ?_
      refine J_idiv X dX0_gainBy_74 (by decide) ?_
      refine J_goto (tgt := 79) X dX0_gainBy_75 (by decide) ?_
      refine J_lv (lv' := [(0, .ref h_this), (1, .int x1), (2, .ref h_p2)]) [2, 3, 4] rfl ?_
      exact b_X0_gainBy_79 X cI cJ cZ h_this h_p2 q_this q_p2 this_count this_near this_times this_ties p2_count p2_base p2_topLean p2_topSpot r  this_end this_match this_minute this_sum p2_goals p2_prices x1 (((this_sum x1.toNatClampNeg) * (p2_prices (((this_match x1.toNatClampNeg) * (18 : Int32)) + ((((this_minute x1.toNatClampNeg) / (15 : Int32)) * (3 : Int32)) + (this_end x1.toNatClampNeg))).toNatClampNeg)) / (100 : Int32)) hT
  · have hT := ift hT hc6
    refine J_iconst (v := 0) X dX0_gainBy_42 (by decide) ?_
    cases hT
    exact J_iret X dX0_gainBy_43
-- ===== SoldMatches$Bets.gainOf(ILSoldMatches$Games;)I
abbrev rmX0_gainOf : Room := { frames := 4, cells := 0, slots := 0, locals := 93 }
def w_X0_gainOf (cI cJ cZ : ClassId) (h_this : Nat) (h_p2 : Nat) (q_this : Nat → Nat) (q_p2 : Nat → Nat) (this_count : Int32) (this_near : Int32) (this_times : Int32) (this_ties : Int32) (p2_count : Int32) (p2_base : Int32) (p2_topLean : Int32) (p2_topSpot : Int32) (this_end : Nat → Int32) (this_hand : Nat → Int32) (this_match : Nat → Int32) (this_minute : Nat → Int32) (this_sum : Nat → Int32) (p2_goals : Nat → Int32) (p2_prices : Nat → Int32) : va_W := [(h_this, .inr (0, oFX0 q_this this_count this_near this_times this_ties)), (h_p2, .inr (2, oFX2 q_p2 p2_count p2_base p2_topLean p2_topSpot)), ((q_this 6), .inl (cI, 40, .inl this_end)), ((q_this 4), .inl (cI, 40, .inl this_hand)), ((q_this 5), .inl (cI, 40, .inl this_match)), ((q_this 7), .inl (cI, 40, .inl this_minute)), ((q_this 8), .inl (cI, 40, .inl this_sum)), ((q_p2 8), .inl (cI, 72, .inl p2_goals)), ((q_p2 9), .inl (cI, 216, .inl p2_prices))]
theorem m_X0_gainOf_f49 : Cond.fieldLink RX0 49 "SoldMatches$Bets" "count" "I" ∈ wsX0_gainOf := List.mem_of_getElem? (i := 1) rfl
theorem in_X0_gainOf_X0 : ∀ w ∈ wsX00, w ∈ wsX0_gainOf := fun w h => List.mem_cons_of_mem _ (List.mem_append_left _ (List.mem_append_right _ h))
theorem m_X0_gainOf_f21 : Cond.fieldLink RX0 21 "SoldMatches$Bets" "hand" "[I" ∈ wsX0_gainOf := List.mem_of_getElem? (i := 2) rfl
theorem cw_X0_gainOf_X0_gainBy_52 {s : State} {args : Array Value} (hts : ∀ w ∈ wsX0_gainOf, w.before args s = true) : CallW rmX0_gainOf s args RX0 RX0 52 yX0_gainBy cX0_gainBy 6 (some .int) wsX0_gainBy rmX0_gainBy 0 0 2 := cwV 2 hts gX0_gainOf_X0_gainBy rfl rfl rfl (by decide +kernel) ⟨by decide, by decide⟩
def t_X0_gainOf_35  (k_5 : Int32 → (Nat → Int32) → (Nat → Int32) → (Nat → Int32) → (Nat → Int32) → (Nat → Int32) → (Nat → Int32) → (Nat → Int32) → Int32 → Int32 → Int32 → Option (Int32)) (this_count : Int32) (this_end : Nat → Int32) (this_hand : Nat → Int32) (this_match : Nat → Int32) (this_minute : Nat → Int32) (this_sum : Nat → Int32) (p2_goals : Nat → Int32) (p2_prices : Nat → Int32) (x1 : Int32) (x3 : Int32) (x4 : Int32) : Option (Int32) := k_5 this_count this_end this_hand this_match this_minute this_sum p2_goals p2_prices x1 x3 (x4 + (1 : Int32))
def t_X0_gainOf_5_b  (k_5 : Int32 → (Nat → Int32) → (Nat → Int32) → (Nat → Int32) → (Nat → Int32) → (Nat → Int32) → (Nat → Int32) → (Nat → Int32) → Int32 → Int32 → Int32 → Option (Int32)) (this_count : Int32) (this_end : Nat → Int32) (this_hand : Nat → Int32) (this_match : Nat → Int32) (this_minute : Nat → Int32) (this_sum : Nat → Int32) (p2_goals : Nat → Int32) (p2_prices : Nat → Int32) (x1 : Int32) (x3 : Int32) (x4 : Int32) : Option (Int32) := if this_count ≤ x4 then (some (x3)) else (ckn (x4 < 0 ∨ 40 ≤ x4.toNatClampNeg) (if (this_hand x4.toNatClampNeg) = x1 then (bd1 (t_X0_gainBy this_end this_match this_minute this_sum p2_goals p2_prices x4) (fun v4 => t_X0_gainOf_35  k_5 this_count this_end this_hand this_match this_minute this_sum p2_goals p2_prices x1 (x3 + v4) x4)) else (t_X0_gainOf_35  k_5 this_count this_end this_hand this_match this_minute this_sum p2_goals p2_prices x1 x3 x4)))
def t_X0_gainOf_5   (n : Nat) : Int32 → (Nat → Int32) → (Nat → Int32) → (Nat → Int32) → (Nat → Int32) → (Nat → Int32) → (Nat → Int32) → (Nat → Int32) → Int32 → Int32 → Int32 → Option (Int32) := Nat.rec (fun _ _ _ _ _ _ _ _ _ _ _ => none) (fun _ ih => t_X0_gainOf_5_b   ih) n
def t_X0_gainOf  (this_count : Int32) (this_end : Nat → Int32) (this_hand : Nat → Int32) (this_match : Nat → Int32) (this_minute : Nat → Int32) (this_sum : Nat → Int32) (p2_goals : Nat → Int32) (p2_prices : Nat → Int32) (x1 : Int32) : Option (Int32) := t_X0_gainOf_5   lfuel this_count this_end this_hand this_match this_minute this_sum p2_goals p2_prices x1 (0 : Int32) (0 : Int32)
set_option maxHeartbeats 4000000 in
set_option maxRecDepth 100000 in
theorem b_X0_gainOf_35 {p : Program} {l : Launch} {e : Env} {s : State} {m : MethodId} {args : Array Value} {below : List Frame} {meth : Method} {c : Code} {D : va_G} {A : Nat → Prop} {cI cJ cZ : ClassId} (X : Cx p m c cX0_gainOf 5 s args wsX0_gainOf RX0 D (tys3 cI cJ cZ) meth (some .int)) (_ _ _ : ClassId)  (h_this : Nat) (h_p2 : Nat) (q_this : Nat → Nat) (q_p2 : Nat → Nat) (this_near : Int32) (this_times : Int32) (this_ties : Int32) (p2_count : Int32) (p2_base : Int32) (p2_topLean : Int32) (p2_topSpot : Int32) (r : Int32) (k_5 : Int32 → (Nat → Int32) → (Nat → Int32) → (Nat → Int32) → (Nat → Int32) → (Nat → Int32) → (Nat → Int32) → (Nat → Int32) → Int32 → Int32 → Int32 → Option (Int32)) (hk_5 : ∀ (this_count : Int32) (this_end : Nat → Int32) (this_hand : Nat → Int32) (this_match : Nat → Int32) (this_minute : Nat → Int32) (this_sum : Nat → Int32) (p2_goals : Nat → Int32) (p2_prices : Nat → Int32) (x1 : Int32) (x3 : Int32) (x4 : Int32), k_5 this_count this_end this_hand this_match this_minute this_sum p2_goals p2_prices x1 x3 x4 = some r → J p l e rmX0_gainOf s m args below meth c D A 5 (QI D below args s A r (w_X0_gainOf cI cJ cZ h_this h_p2 q_this q_p2 this_count this_near this_times this_ties p2_count p2_base p2_topLean p2_topSpot this_end this_hand this_match this_minute this_sum p2_goals p2_prices)) 0 0 (w_X0_gainOf cI cJ cZ h_this h_p2 q_this q_p2 this_count this_near this_times this_ties p2_count p2_base p2_topLean p2_topSpot this_end this_hand this_match this_minute this_sum p2_goals p2_prices) [(0, .ref h_this), (1, .int x1), (2, .ref h_p2), (3, .int x3), (4, .int x4)] [] 5) (this_count : Int32) (this_end : Nat → Int32) (this_hand : Nat → Int32) (this_match : Nat → Int32) (this_minute : Nat → Int32) (this_sum : Nat → Int32) (p2_goals : Nat → Int32) (p2_prices : Nat → Int32) (x1 : Int32) (x3 : Int32) (x4 : Int32) (hT : t_X0_gainOf_35  k_5 this_count this_end this_hand this_match this_minute this_sum p2_goals p2_prices x1 x3 x4 = some r) : J p l e rmX0_gainOf s m args below meth c D A 5 (QI D below args s A r (w_X0_gainOf cI cJ cZ h_this h_p2 q_this q_p2 this_count this_near this_times this_ties p2_count p2_base p2_topLean p2_topSpot this_end this_hand this_match this_minute this_sum p2_goals p2_prices)) 0 0 (w_X0_gainOf cI cJ cZ h_this h_p2 q_this q_p2 this_count this_near this_times this_ties p2_count p2_base p2_topLean p2_topSpot this_end this_hand this_match this_minute this_sum p2_goals p2_prices) [(0, .ref h_this), (1, .int x1), (2, .ref h_p2), (3, .int x3), (4, .int x4)] [] 35 := by
  unfold t_X0_gainOf_35 at hT
  refine J_iinc (lv' := [(4, .int (x4 + (1 : Int32))), (0, .ref h_this), (1, .int x1), (2, .ref h_p2), (3, .int x3)]) (j := 4) X dX0_gainOf_35 rfl rfl (by decide) rfl ?_
  refine J_goto (tgt := 5) X dX0_gainOf_38 (by decide) ?_
  refine J_lv (lv' := [(0, .ref h_this), (1, .int x1), (2, .ref h_p2), (3, .int x3), (4, .int (x4 + (1 : Int32)))]) [1, 2, 3, 4, 0] rfl ?_
  exact hk_5 this_count this_end this_hand this_match this_minute this_sum p2_goals p2_prices x1 x3 (x4 + (1 : Int32)) hT
set_option maxHeartbeats 4000000 in
set_option maxRecDepth 100000 in
theorem b_X0_gainOf_5_b {p : Program} {l : Launch} {e : Env} {s : State} {m : MethodId} {args : Array Value} {below : List Frame} {meth : Method} {c : Code} {D : va_G} {A : Nat → Prop} {cI cJ cZ : ClassId} (X : Cx p m c cX0_gainOf 5 s args wsX0_gainOf RX0 D (tys3 cI cJ cZ) meth (some .int)) (_ _ _ : ClassId)  (h_this : Nat) (h_p2 : Nat) (q_this : Nat → Nat) (q_p2 : Nat → Nat) (this_near : Int32) (this_times : Int32) (this_ties : Int32) (p2_count : Int32) (p2_base : Int32) (p2_topLean : Int32) (p2_topSpot : Int32) (r : Int32) (k_5 : Int32 → (Nat → Int32) → (Nat → Int32) → (Nat → Int32) → (Nat → Int32) → (Nat → Int32) → (Nat → Int32) → (Nat → Int32) → Int32 → Int32 → Int32 → Option (Int32)) (hk_5 : ∀ (this_count : Int32) (this_end : Nat → Int32) (this_hand : Nat → Int32) (this_match : Nat → Int32) (this_minute : Nat → Int32) (this_sum : Nat → Int32) (p2_goals : Nat → Int32) (p2_prices : Nat → Int32) (x1 : Int32) (x3 : Int32) (x4 : Int32), k_5 this_count this_end this_hand this_match this_minute this_sum p2_goals p2_prices x1 x3 x4 = some r → J p l e rmX0_gainOf s m args below meth c D A 5 (QI D below args s A r (w_X0_gainOf cI cJ cZ h_this h_p2 q_this q_p2 this_count this_near this_times this_ties p2_count p2_base p2_topLean p2_topSpot this_end this_hand this_match this_minute this_sum p2_goals p2_prices)) 0 0 (w_X0_gainOf cI cJ cZ h_this h_p2 q_this q_p2 this_count this_near this_times this_ties p2_count p2_base p2_topLean p2_topSpot this_end this_hand this_match this_minute this_sum p2_goals p2_prices) [(0, .ref h_this), (1, .int x1), (2, .ref h_p2), (3, .int x3), (4, .int x4)] [] 5) (this_count : Int32) (this_end : Nat → Int32) (this_hand : Nat → Int32) (this_match : Nat → Int32) (this_minute : Nat → Int32) (this_sum : Nat → Int32) (p2_goals : Nat → Int32) (p2_prices : Nat → Int32) (x1 : Int32) (x3 : Int32) (x4 : Int32) (hT : t_X0_gainOf_5_b  k_5 this_count this_end this_hand this_match this_minute this_sum p2_goals p2_prices x1 x3 x4 = some r) : J p l e rmX0_gainOf s m args below meth c D A 5 (QI D below args s A r (w_X0_gainOf cI cJ cZ h_this h_p2 q_this q_p2 this_count this_near this_times this_ties p2_count p2_base p2_topLean p2_topSpot this_end this_hand this_match this_minute this_sum p2_goals p2_prices)) 0 0 (w_X0_gainOf cI cJ cZ h_this h_p2 q_this q_p2 this_count this_near this_times this_ties p2_count p2_base p2_topLean p2_topSpot this_end this_hand this_match this_minute this_sum p2_goals p2_prices) [(0, .ref h_this), (1, .int x1), (2, .ref h_p2), (3, .int x3), (4, .int x4)] [] 5 := by
  unfold t_X0_gainOf_5_b at hT
  refine J_iload X dX0_gainOf_5 4 rfl ?_
  refine J_aload_n X dX0_gainOf_7 0 rfl ?_
  refine J_get (C := RX0) (T := TX0) (N := 13) (ci := 0) (v := .int this_count) X in_X0_gainOf_X0 0 rfl rfl 0 (by decide) m_X0_gainOf_f49 rfl dX0_gainOf_8 ?_
  refine J_icmp_ge (tgt := 41) X dX0_gainOf_11 (by decide) (fun hc1 => ?_) (fun hc1 => ?_)
  · have hT := ift hT hc1
    refine J_iload_n X dX0_gainOf_41 3 rfl ?_
    cases hT
    exact J_iret X dX0_gainOf_42
  · have hT := iff_ hT hc1
    refine J_aload_n X dX0_gainOf_14 0 rfl ?_
    refine J_get (C := RX0) (T := TX0) (N := 13) (ci := 0) (v := .ref (q_this 4)) X in_X0_gainOf_X0 0 rfl rfl 4 (by decide) m_X0_gainOf_f21 rfl dX0_gainOf_15 ?_
    refine J_iload X dX0_gainOf_18 4 rfl ?_
    obtain ⟨hk2, hT⟩ := ckn_e hT
    refine J_iald X 3 rfl rfl hk2 dX0_gainOf_20 ?_
    refine J_iload_n X dX0_gainOf_21 1 rfl ?_
    refine J_icmp_ne (tgt := 35) X dX0_gainOf_22 (by decide) (fun hc3 => ?_) (fun hc3 => ?_)
    · have hT := iff_ hT hc3
      exact b_X0_gainOf_35 X cI cJ cZ h_this h_p2 q_this q_p2 this_near this_times this_ties p2_count p2_base p2_topLean p2_topSpot r k_5 hk_5 this_count this_end this_hand this_match this_minute this_sum p2_goals p2_prices x1 x3 x4 hT
    · have hT := ift hT hc3
      refine J_iload_n X dX0_gainOf_25 3 rfl ?_
      refine J_aload_n X dX0_gainOf_26 0 rfl ?_
      refine J_iload X dX0_gainOf_27 4 rfl ?_
      refine J_aload_n X dX0_gainOf_29 2 rfl ?_
      obtain ⟨v4, hq4, hT⟩ := bd1_e hT
      refine J_ci (wc := (w_X0_gainBy cI cJ cZ h_this h_p2 q_this q_p2 this_count this_near this_times this_ties p2_count p2_base p2_topLean p2_topSpot this_end this_match this_minute this_sum p2_goals p2_prices)) (wc' := (w_X0_gainBy cI cJ cZ h_this h_p2 q_this q_p2 this_count this_near this_times this_ties p2_count p2_base p2_topLean p2_topSpot this_end this_match this_minute this_sum p2_goals p2_prices)) (ws' := (w_X0_gainOf cI cJ cZ h_this h_p2 q_this q_p2 this_count this_near this_times this_ties p2_count p2_base p2_topLean p2_topSpot this_end this_hand this_match this_minute this_sum p2_goals p2_prices)) (idxs [true, true, true, false, true, true, true, true, true] 0) (idxs [false, false, false, true, false, false, false, false, false] 0) 9 rfl rfl rfl (pick_C _ rfl rfl) rfl (pick_C _ rfl rfl) rfl (pick_R _ rfl rfl rfl) (run_V (As := [.int x4, .ref h_p2]) (rest := [.int x3]) X (c_X0_gainBy l D cI cJ cZ h_this h_p2 q_this q_p2 this_count this_near this_times this_ties p2_count p2_base p2_topLean p2_topSpot this_end this_match this_minute this_sum p2_goals p2_prices x4 v4 hq4) (cw_X0_gainOf_X0_gainBy_52 X.1.2.2.2.2) 0 rfl rfl rfl rfl (Nat.le_of_ble_eq_true rfl) dX0_gainOf_30 ⟨Nat.zero_le _, Nat.zero_le _⟩) ?_
      refine J_iadd X dX0_gainOf_33 ?_
      refine J_istore_n (lv' := [(3, .int (x3 + v4)), (0, .ref h_this), (1, .int x1), (2, .ref h_p2), (4, .int x4)]) X dX0_gainOf_34 (by decide) rfl ?_
      refine J_lv (lv' := [(0, .ref h_this), (1, .int x1), (2, .ref h_p2), (3, .int (x3 + v4)), (4, .int x4)]) [1, 2, 3, 0, 4] rfl ?_
      exact b_X0_gainOf_35 X cI cJ cZ h_this h_p2 q_this q_p2 this_near this_times this_ties p2_count p2_base p2_topLean p2_topSpot r k_5 hk_5 this_count this_end this_hand this_match this_minute this_sum p2_goals p2_prices x1 (x3 + v4) x4 hT
set_option maxHeartbeats 4000000 in
set_option maxRecDepth 100000 in
theorem b_X0_gainOf_5 {p : Program} {l : Launch} {e : Env} {s : State} {m : MethodId} {args : Array Value} {below : List Frame} {meth : Method} {c : Code} {D : va_G} {A : Nat → Prop} {cI cJ cZ : ClassId} (X : Cx p m c cX0_gainOf 5 s args wsX0_gainOf RX0 D (tys3 cI cJ cZ) meth (some .int)) (_ _ _ : ClassId)  (h_this : Nat) (h_p2 : Nat) (q_this : Nat → Nat) (q_p2 : Nat → Nat) (this_near : Int32) (this_times : Int32) (this_ties : Int32) (p2_count : Int32) (p2_base : Int32) (p2_topLean : Int32) (p2_topSpot : Int32) (r : Int32)  : ∀ (n : Nat) (this_count : Int32) (this_end : Nat → Int32) (this_hand : Nat → Int32) (this_match : Nat → Int32) (this_minute : Nat → Int32) (this_sum : Nat → Int32) (p2_goals : Nat → Int32) (p2_prices : Nat → Int32) (x1 : Int32) (x3 : Int32) (x4 : Int32) (hT : t_X0_gainOf_5   n this_count this_end this_hand this_match this_minute this_sum p2_goals p2_prices x1 x3 x4 = some r), J p l e rmX0_gainOf s m args below meth c D A 5 (QI D below args s A r (w_X0_gainOf cI cJ cZ h_this h_p2 q_this q_p2 this_count this_near this_times this_ties p2_count p2_base p2_topLean p2_topSpot this_end this_hand this_match this_minute this_sum p2_goals p2_prices)) 0 0 (w_X0_gainOf cI cJ cZ h_this h_p2 q_this q_p2 this_count this_near this_times this_ties p2_count p2_base p2_topLean p2_topSpot this_end this_hand this_match this_minute this_sum p2_goals p2_prices) [(0, .ref h_this), (1, .int x1), (2, .ref h_p2), (3, .int x3), (4, .int x4)] [] 5 := by
  intro n
  induction n with
  | zero => intro this_count this_end this_hand this_match this_minute this_sum p2_goals p2_prices x1 x3 x4 hT; cases hT
  | succ n ih =>
    intro this_count this_end this_hand this_match this_minute this_sum p2_goals p2_prices x1 x3 x4 hT
    exact b_X0_gainOf_5_b X cI cJ cZ h_this h_p2 q_this q_p2 this_near this_times this_ties p2_count p2_base p2_topLean p2_topSpot r  (t_X0_gainOf_5   n) ih this_count this_end this_hand this_match this_minute this_sum p2_goals p2_prices x1 x3 x4 hT
set_option maxHeartbeats 4000000 in
set_option maxRecDepth 100000 in
theorem c_X0_gainOf (l : Launch) (D : va_G) (cI cJ cZ : ClassId) (h_this : Nat) (h_p2 : Nat) (q_this : Nat → Nat) (q_p2 : Nat → Nat) (this_count : Int32) (this_near : Int32) (this_times : Int32) (this_ties : Int32) (p2_count : Int32) (p2_base : Int32) (p2_topLean : Int32) (p2_topSpot : Int32) (this_end : Nat → Int32) (this_hand : Nat → Int32) (this_match : Nat → Int32) (this_minute : Nat → Int32) (this_sum : Nat → Int32) (p2_goals : Nat → Int32) (p2_prices : Nat → Int32) (x1 : Int32) (r : Int32) (hT : t_X0_gainOf  this_count this_end this_hand this_match this_minute this_sum p2_goals p2_prices x1 = some r) : Ci l yX0_gainOf wsX0_gainOf rmX0_gainOf D (tys3 cI cJ cZ) [.ref h_this, .int x1, .ref h_p2] (w_X0_gainOf cI cJ cZ h_this h_p2 q_this q_p2 this_count this_near this_times this_ties p2_count p2_base p2_topLean p2_topSpot this_end this_hand this_match this_minute this_sum p2_goals p2_prices) r (w_X0_gainOf cI cJ cZ h_this h_p2 q_this q_p2 this_count this_near this_times this_ties p2_count p2_base p2_topLean p2_topSpot this_end this_hand this_match this_minute this_sum p2_goals p2_prices) := by
  refine Ci.ofJ (cc := cX0_gainOf) (nL := 5) (rt := (some .int)) (own := RX0) (by decide) rfl rfl (Nat.le_of_ble_eq_true rfl) ?_
  intro p e s m below meth c A X
  unfold t_X0_gainOf at hT
  refine J_lv (lv' := [(0, .ref h_this), (1, .int x1), (2, .ref h_p2)]) [0, 1, 2] rfl ?_
  refine J_iconst (v := 0) X dX0_gainOf_0 (by decide) ?_
  refine J_istore_n (lv' := [(3, .int (0 : Int32)), (0, .ref h_this), (1, .int x1), (2, .ref h_p2)]) X dX0_gainOf_1 (by decide) rfl ?_
  refine J_iconst (v := 0) X dX0_gainOf_2 (by decide) ?_
  refine J_istore (lv' := [(4, .int (0 : Int32)), (3, .int (0 : Int32)), (0, .ref h_this), (1, .int x1), (2, .ref h_p2)]) X dX0_gainOf_3 (by decide) rfl ?_
  refine J_lv (lv' := [(0, .ref h_this), (1, .int x1), (2, .ref h_p2), (3, .int (0 : Int32)), (4, .int (0 : Int32))]) [2, 3, 4, 1, 0] rfl ?_
  exact b_X0_gainOf_5 X cI cJ cZ h_this h_p2 q_this q_p2 this_near this_times this_ties p2_count p2_base p2_topLean p2_topSpot r  lfuel this_count this_end this_hand this_match this_minute this_sum p2_goals p2_prices x1 (0 : Int32) (0 : Int32) hT
-- ===== SoldMatches$Bets.countOn(I)I
abbrev rmX0_countOn : Room := { frames := 0, cells := 0, slots := 0, locals := 0 }
def w_X0_countOn (cI cJ cZ : ClassId) (h_this : Nat) (q_this : Nat → Nat) (this_count : Int32) (this_near : Int32) (this_times : Int32) (this_ties : Int32) (this_match : Nat → Int32) : va_W := [(h_this, .inr (0, oFX0 q_this this_count this_near this_times this_ties)), ((q_this 5), .inl (cI, 40, .inl this_match))]
theorem m_X0_countOn_f49 : Cond.fieldLink RX0 49 "SoldMatches$Bets" "count" "I" ∈ wsX0_countOn := List.mem_of_getElem? (i := 1) rfl
theorem in_X0_countOn_X0 : ∀ w ∈ wsX00, w ∈ wsX0_countOn := fun w h => List.mem_cons_of_mem _ (List.mem_append_right _ h)
theorem m_X0_countOn_f25 : Cond.fieldLink RX0 25 "SoldMatches$Bets" "match" "[I" ∈ wsX0_countOn := List.mem_of_getElem? (i := 2) rfl
def t_X0_countOn_25  (k_4 : Int32 → (Nat → Int32) → Int32 → Int32 → Int32 → Option (Int32)) (this_count : Int32) (this_match : Nat → Int32) (x1 : Int32) (x2 : Int32) (x3 : Int32) : Option (Int32) := k_4 this_count this_match x1 x2 (x3 + (1 : Int32))
def t_X0_countOn_4_b  (k_4 : Int32 → (Nat → Int32) → Int32 → Int32 → Int32 → Option (Int32)) (this_count : Int32) (this_match : Nat → Int32) (x1 : Int32) (x2 : Int32) (x3 : Int32) : Option (Int32) := if this_count ≤ x3 then (some (x2)) else (ckn (x3 < 0 ∨ 40 ≤ x3.toNatClampNeg) (if (this_match x3.toNatClampNeg) = x1 then (t_X0_countOn_25  k_4 this_count this_match x1 (x2 + (1 : Int32)) x3) else (t_X0_countOn_25  k_4 this_count this_match x1 x2 x3)))
def t_X0_countOn_4   (n : Nat) : Int32 → (Nat → Int32) → Int32 → Int32 → Int32 → Option (Int32) := Nat.rec (fun _ _ _ _ _ => none) (fun _ ih => t_X0_countOn_4_b   ih) n
def t_X0_countOn  (this_count : Int32) (this_match : Nat → Int32) (x1 : Int32) : Option (Int32) := t_X0_countOn_4   lfuel this_count this_match x1 (0 : Int32) (0 : Int32)
set_option maxHeartbeats 4000000 in
set_option maxRecDepth 100000 in
theorem b_X0_countOn_25 {p : Program} {l : Launch} {e : Env} {s : State} {m : MethodId} {args : Array Value} {below : List Frame} {meth : Method} {c : Code} {D : va_G} {A : Nat → Prop} {cI cJ cZ : ClassId} (X : Cx p m c cX0_countOn 4 s args wsX0_countOn RX0 D (tys3 cI cJ cZ) meth (some .int)) (_ _ _ : ClassId)  (h_this : Nat) (q_this : Nat → Nat) (this_near : Int32) (this_times : Int32) (this_ties : Int32) (r : Int32) (k_4 : Int32 → (Nat → Int32) → Int32 → Int32 → Int32 → Option (Int32)) (hk_4 : ∀ (this_count : Int32) (this_match : Nat → Int32) (x1 : Int32) (x2 : Int32) (x3 : Int32), k_4 this_count this_match x1 x2 x3 = some r → J p l e rmX0_countOn s m args below meth c D A 4 (QI D below args s A r (w_X0_countOn cI cJ cZ h_this q_this this_count this_near this_times this_ties this_match)) 0 0 (w_X0_countOn cI cJ cZ h_this q_this this_count this_near this_times this_ties this_match) [(0, .ref h_this), (1, .int x1), (2, .int x2), (3, .int x3)] [] 4) (this_count : Int32) (this_match : Nat → Int32) (x1 : Int32) (x2 : Int32) (x3 : Int32) (hT : t_X0_countOn_25  k_4 this_count this_match x1 x2 x3 = some r) : J p l e rmX0_countOn s m args below meth c D A 4 (QI D below args s A r (w_X0_countOn cI cJ cZ h_this q_this this_count this_near this_times this_ties this_match)) 0 0 (w_X0_countOn cI cJ cZ h_this q_this this_count this_near this_times this_ties this_match) [(0, .ref h_this), (1, .int x1), (2, .int x2), (3, .int x3)] [] 25 := by
  unfold t_X0_countOn_25 at hT
  refine J_iinc (lv' := [(3, .int (x3 + (1 : Int32))), (0, .ref h_this), (1, .int x1), (2, .int x2)]) (j := 3) X dX0_countOn_25 rfl rfl (by decide) rfl ?_
  refine J_goto (tgt := 4) X dX0_countOn_28 (by decide) ?_
  refine J_lv (lv' := [(0, .ref h_this), (1, .int x1), (2, .int x2), (3, .int (x3 + (1 : Int32)))]) [1, 2, 3, 0] rfl ?_
  exact hk_4 this_count this_match x1 x2 (x3 + (1 : Int32)) hT
set_option maxHeartbeats 4000000 in
set_option maxRecDepth 100000 in
theorem b_X0_countOn_4_b {p : Program} {l : Launch} {e : Env} {s : State} {m : MethodId} {args : Array Value} {below : List Frame} {meth : Method} {c : Code} {D : va_G} {A : Nat → Prop} {cI cJ cZ : ClassId} (X : Cx p m c cX0_countOn 4 s args wsX0_countOn RX0 D (tys3 cI cJ cZ) meth (some .int)) (_ _ _ : ClassId)  (h_this : Nat) (q_this : Nat → Nat) (this_near : Int32) (this_times : Int32) (this_ties : Int32) (r : Int32) (k_4 : Int32 → (Nat → Int32) → Int32 → Int32 → Int32 → Option (Int32)) (hk_4 : ∀ (this_count : Int32) (this_match : Nat → Int32) (x1 : Int32) (x2 : Int32) (x3 : Int32), k_4 this_count this_match x1 x2 x3 = some r → J p l e rmX0_countOn s m args below meth c D A 4 (QI D below args s A r (w_X0_countOn cI cJ cZ h_this q_this this_count this_near this_times this_ties this_match)) 0 0 (w_X0_countOn cI cJ cZ h_this q_this this_count this_near this_times this_ties this_match) [(0, .ref h_this), (1, .int x1), (2, .int x2), (3, .int x3)] [] 4) (this_count : Int32) (this_match : Nat → Int32) (x1 : Int32) (x2 : Int32) (x3 : Int32) (hT : t_X0_countOn_4_b  k_4 this_count this_match x1 x2 x3 = some r) : J p l e rmX0_countOn s m args below meth c D A 4 (QI D below args s A r (w_X0_countOn cI cJ cZ h_this q_this this_count this_near this_times this_ties this_match)) 0 0 (w_X0_countOn cI cJ cZ h_this q_this this_count this_near this_times this_ties this_match) [(0, .ref h_this), (1, .int x1), (2, .int x2), (3, .int x3)] [] 4 := by
  unfold t_X0_countOn_4_b at hT
  refine J_iload_n X dX0_countOn_4 3 rfl ?_
  refine J_aload_n X dX0_countOn_5 0 rfl ?_
  refine J_get (C := RX0) (T := TX0) (N := 13) (ci := 0) (v := .int this_count) X in_X0_countOn_X0 0 rfl rfl 0 (by decide) m_X0_countOn_f49 rfl dX0_countOn_6 ?_
  refine J_icmp_ge (tgt := 31) X dX0_countOn_9 (by decide) (fun hc1 => ?_) (fun hc1 => ?_)
  · have hT := ift hT hc1
    refine J_iload_n X dX0_countOn_31 2 rfl ?_
    cases hT
    exact J_iret X dX0_countOn_32
  · have hT := iff_ hT hc1
    refine J_aload_n X dX0_countOn_12 0 rfl ?_
    refine J_get (C := RX0) (T := TX0) (N := 13) (ci := 0) (v := .ref (q_this 5)) X in_X0_countOn_X0 0 rfl rfl 5 (by decide) m_X0_countOn_f25 rfl dX0_countOn_13 ?_
    refine J_iload_n X dX0_countOn_16 3 rfl ?_
    obtain ⟨hk2, hT⟩ := ckn_e hT
    refine J_iald X 1 rfl rfl hk2 dX0_countOn_17 ?_
    refine J_iload_n X dX0_countOn_18 1 rfl ?_
    refine J_icmp_ne (tgt := 25) X dX0_countOn_19 (by decide) (fun hc3 => ?_) (fun hc3 => ?_)
    · have hT := iff_ hT hc3
      exact b_X0_countOn_25 X cI cJ cZ h_this q_this this_near this_times this_ties r k_4 hk_4 this_count this_match x1 x2 x3 hT
    · have hT := ift hT hc3
      refine J_iinc (lv' := [(2, .int (x2 + (1 : Int32))), (0, .ref h_this), (1, .int x1), (3, .int x3)]) (j := 2) X dX0_countOn_22 rfl rfl (by decide) rfl ?_
      refine J_lv (lv' := [(0, .ref h_this), (1, .int x1), (2, .int (x2 + (1 : Int32))), (3, .int x3)]) [1, 2, 0, 3] rfl ?_
      exact b_X0_countOn_25 X cI cJ cZ h_this q_this this_near this_times this_ties r k_4 hk_4 this_count this_match x1 (x2 + (1 : Int32)) x3 hT
set_option maxHeartbeats 4000000 in
set_option maxRecDepth 100000 in
theorem b_X0_countOn_4 {p : Program} {l : Launch} {e : Env} {s : State} {m : MethodId} {args : Array Value} {below : List Frame} {meth : Method} {c : Code} {D : va_G} {A : Nat → Prop} {cI cJ cZ : ClassId} (X : Cx p m c cX0_countOn 4 s args wsX0_countOn RX0 D (tys3 cI cJ cZ) meth (some .int)) (_ _ _ : ClassId)  (h_this : Nat) (q_this : Nat → Nat) (this_near : Int32) (this_times : Int32) (this_ties : Int32) (r : Int32)  : ∀ (n : Nat) (this_count : Int32) (this_match : Nat → Int32) (x1 : Int32) (x2 : Int32) (x3 : Int32) (hT : t_X0_countOn_4   n this_count this_match x1 x2 x3 = some r), J p l e rmX0_countOn s m args below meth c D A 4 (QI D below args s A r (w_X0_countOn cI cJ cZ h_this q_this this_count this_near this_times this_ties this_match)) 0 0 (w_X0_countOn cI cJ cZ h_this q_this this_count this_near this_times this_ties this_match) [(0, .ref h_this), (1, .int x1), (2, .int x2), (3, .int x3)] [] 4 := by
  intro n
  induction n with
  | zero => intro this_count this_match x1 x2 x3 hT; cases hT
  | succ n ih =>
    intro this_count this_match x1 x2 x3 hT
    exact b_X0_countOn_4_b X cI cJ cZ h_this q_this this_near this_times this_ties r  (t_X0_countOn_4   n) ih this_count this_match x1 x2 x3 hT
set_option maxHeartbeats 4000000 in
set_option maxRecDepth 100000 in
theorem c_X0_countOn (l : Launch) (D : va_G) (cI cJ cZ : ClassId) (h_this : Nat) (q_this : Nat → Nat) (this_count : Int32) (this_near : Int32) (this_times : Int32) (this_ties : Int32) (this_match : Nat → Int32) (x1 : Int32) (r : Int32) (hT : t_X0_countOn  this_count this_match x1 = some r) : Ci l yX0_countOn wsX0_countOn rmX0_countOn D (tys3 cI cJ cZ) [.ref h_this, .int x1] (w_X0_countOn cI cJ cZ h_this q_this this_count this_near this_times this_ties this_match) r (w_X0_countOn cI cJ cZ h_this q_this this_count this_near this_times this_ties this_match) := by
  refine Ci.ofJ (cc := cX0_countOn) (nL := 4) (rt := (some .int)) (own := RX0) (by decide) rfl rfl (Nat.le_of_ble_eq_true rfl) ?_
  intro p e s m below meth c A X
  unfold t_X0_countOn at hT
  refine J_lv (lv' := [(0, .ref h_this), (1, .int x1)]) [0, 1] rfl ?_
  refine J_iconst (v := 0) X dX0_countOn_0 (by decide) ?_
  refine J_istore_n (lv' := [(2, .int (0 : Int32)), (0, .ref h_this), (1, .int x1)]) X dX0_countOn_1 (by decide) rfl ?_
  refine J_iconst (v := 0) X dX0_countOn_2 (by decide) ?_
  refine J_istore_n (lv' := [(3, .int (0 : Int32)), (2, .int (0 : Int32)), (0, .ref h_this), (1, .int x1)]) X dX0_countOn_3 (by decide) rfl ?_
  refine J_lv (lv' := [(0, .ref h_this), (1, .int x1), (2, .int (0 : Int32)), (3, .int (0 : Int32))]) [2, 3, 1, 0] rfl ?_
  exact b_X0_countOn_4 X cI cJ cZ h_this q_this this_near this_times this_ties r  lfuel this_count this_match x1 (0 : Int32) (0 : Int32) hT
-- ===== SoldMatches$Bets.handsOn(I)I
abbrev rmX0_handsOn : Room := { frames := 0, cells := 0, slots := 0, locals := 0 }
def w_X0_handsOn (cI cJ cZ : ClassId) (h_this : Nat) (q_this : Nat → Nat) (this_count : Int32) (this_near : Int32) (this_times : Int32) (this_ties : Int32) (this_hand : Nat → Int32) (this_match : Nat → Int32) : va_W := [(h_this, .inr (0, oFX0 q_this this_count this_near this_times this_ties)), ((q_this 4), .inl (cI, 40, .inl this_hand)), ((q_this 5), .inl (cI, 40, .inl this_match))]
theorem m_X0_handsOn_f49 : Cond.fieldLink RX0 49 "SoldMatches$Bets" "count" "I" ∈ wsX0_handsOn := List.mem_of_getElem? (i := 1) rfl
theorem in_X0_handsOn_X0 : ∀ w ∈ wsX00, w ∈ wsX0_handsOn := fun w h => List.mem_cons_of_mem _ (List.mem_append_right _ h)
theorem m_X0_handsOn_f25 : Cond.fieldLink RX0 25 "SoldMatches$Bets" "match" "[I" ∈ wsX0_handsOn := List.mem_of_getElem? (i := 2) rfl
theorem m_X0_handsOn_f21 : Cond.fieldLink RX0 21 "SoldMatches$Bets" "hand" "[I" ∈ wsX0_handsOn := List.mem_of_getElem? (i := 3) rfl
def t_X0_handsOn_33  (k_4 : Int32 → (Nat → Int32) → (Nat → Int32) → Int32 → Int32 → Int32 → Option (Int32)) (this_count : Int32) (this_hand : Nat → Int32) (this_match : Nat → Int32) (x1 : Int32) (x2 : Int32) (x3 : Int32) : Option (Int32) := k_4 this_count this_hand this_match x1 x2 (x3 + (1 : Int32))
def t_X0_handsOn_4_b  (k_4 : Int32 → (Nat → Int32) → (Nat → Int32) → Int32 → Int32 → Int32 → Option (Int32)) (this_count : Int32) (this_hand : Nat → Int32) (this_match : Nat → Int32) (x1 : Int32) (x2 : Int32) (x3 : Int32) : Option (Int32) := if this_count ≤ x3 then (some (x2)) else (ckn (x3 < 0 ∨ 40 ≤ x3.toNatClampNeg) (if (this_match x3.toNatClampNeg) = x1 then (ckn (x3 < 0 ∨ 40 ≤ x3.toNatClampNeg) (t_X0_handsOn_33  k_4 this_count this_hand this_match x1 (x2 ||| ((1 : Int32) <<< ((this_hand x3.toNatClampNeg) &&& 31))) x3)) else (t_X0_handsOn_33  k_4 this_count this_hand this_match x1 x2 x3)))
def t_X0_handsOn_4   (n : Nat) : Int32 → (Nat → Int32) → (Nat → Int32) → Int32 → Int32 → Int32 → Option (Int32) := Nat.rec (fun _ _ _ _ _ _ => none) (fun _ ih => t_X0_handsOn_4_b   ih) n
def t_X0_handsOn  (this_count : Int32) (this_hand : Nat → Int32) (this_match : Nat → Int32) (x1 : Int32) : Option (Int32) := t_X0_handsOn_4   lfuel this_count this_hand this_match x1 (0 : Int32) (0 : Int32)
set_option maxHeartbeats 4000000 in
set_option maxRecDepth 100000 in
theorem b_X0_handsOn_33 {p : Program} {l : Launch} {e : Env} {s : State} {m : MethodId} {args : Array Value} {below : List Frame} {meth : Method} {c : Code} {D : va_G} {A : Nat → Prop} {cI cJ cZ : ClassId} (X : Cx p m c cX0_handsOn 4 s args wsX0_handsOn RX0 D (tys3 cI cJ cZ) meth (some .int)) (_ _ _ : ClassId)  (h_this : Nat) (q_this : Nat → Nat) (this_near : Int32) (this_times : Int32) (this_ties : Int32) (r : Int32) (k_4 : Int32 → (Nat → Int32) → (Nat → Int32) → Int32 → Int32 → Int32 → Option (Int32)) (hk_4 : ∀ (this_count : Int32) (this_hand : Nat → Int32) (this_match : Nat → Int32) (x1 : Int32) (x2 : Int32) (x3 : Int32), k_4 this_count this_hand this_match x1 x2 x3 = some r → J p l e rmX0_handsOn s m args below meth c D A 4 (QI D below args s A r (w_X0_handsOn cI cJ cZ h_this q_this this_count this_near this_times this_ties this_hand this_match)) 0 0 (w_X0_handsOn cI cJ cZ h_this q_this this_count this_near this_times this_ties this_hand this_match) [(0, .ref h_this), (1, .int x1), (2, .int x2), (3, .int x3)] [] 4) (this_count : Int32) (this_hand : Nat → Int32) (this_match : Nat → Int32) (x1 : Int32) (x2 : Int32) (x3 : Int32) (hT : t_X0_handsOn_33  k_4 this_count this_hand this_match x1 x2 x3 = some r) : J p l e rmX0_handsOn s m args below meth c D A 4 (QI D below args s A r (w_X0_handsOn cI cJ cZ h_this q_this this_count this_near this_times this_ties this_hand this_match)) 0 0 (w_X0_handsOn cI cJ cZ h_this q_this this_count this_near this_times this_ties this_hand this_match) [(0, .ref h_this), (1, .int x1), (2, .int x2), (3, .int x3)] [] 33 := by
  unfold t_X0_handsOn_33 at hT
  refine J_iinc (lv' := [(3, .int (x3 + (1 : Int32))), (0, .ref h_this), (1, .int x1), (2, .int x2)]) (j := 3) X dX0_handsOn_33 rfl rfl (by decide) rfl ?_
  refine J_goto (tgt := 4) X dX0_handsOn_36 (by decide) ?_
  refine J_lv (lv' := [(0, .ref h_this), (1, .int x1), (2, .int x2), (3, .int (x3 + (1 : Int32)))]) [1, 2, 3, 0] rfl ?_
  exact hk_4 this_count this_hand this_match x1 x2 (x3 + (1 : Int32)) hT
set_option maxHeartbeats 4000000 in
set_option maxRecDepth 100000 in
theorem b_X0_handsOn_4_b {p : Program} {l : Launch} {e : Env} {s : State} {m : MethodId} {args : Array Value} {below : List Frame} {meth : Method} {c : Code} {D : va_G} {A : Nat → Prop} {cI cJ cZ : ClassId} (X : Cx p m c cX0_handsOn 4 s args wsX0_handsOn RX0 D (tys3 cI cJ cZ) meth (some .int)) (_ _ _ : ClassId)  (h_this : Nat) (q_this : Nat → Nat) (this_near : Int32) (this_times : Int32) (this_ties : Int32) (r : Int32) (k_4 : Int32 → (Nat → Int32) → (Nat → Int32) → Int32 → Int32 → Int32 → Option (Int32)) (hk_4 : ∀ (this_count : Int32) (this_hand : Nat → Int32) (this_match : Nat → Int32) (x1 : Int32) (x2 : Int32) (x3 : Int32), k_4 this_count this_hand this_match x1 x2 x3 = some r → J p l e rmX0_handsOn s m args below meth c D A 4 (QI D below args s A r (w_X0_handsOn cI cJ cZ h_this q_this this_count this_near this_times this_ties this_hand this_match)) 0 0 (w_X0_handsOn cI cJ cZ h_this q_this this_count this_near this_times this_ties this_hand this_match) [(0, .ref h_this), (1, .int x1), (2, .int x2), (3, .int x3)] [] 4) (this_count : Int32) (this_hand : Nat → Int32) (this_match : Nat → Int32) (x1 : Int32) (x2 : Int32) (x3 : Int32) (hT : t_X0_handsOn_4_b  k_4 this_count this_hand this_match x1 x2 x3 = some r) : J p l e rmX0_handsOn s m args below meth c D A 4 (QI D below args s A r (w_X0_handsOn cI cJ cZ h_this q_this this_count this_near this_times this_ties this_hand this_match)) 0 0 (w_X0_handsOn cI cJ cZ h_this q_this this_count this_near this_times this_ties this_hand this_match) [(0, .ref h_this), (1, .int x1), (2, .int x2), (3, .int x3)] [] 4 := by
  unfold t_X0_handsOn_4_b at hT
  refine J_iload_n X dX0_handsOn_4 3 rfl ?_
  refine J_aload_n X dX0_handsOn_5 0 rfl ?_
  refine J_get (C := RX0) (T := TX0) (N := 13) (ci := 0) (v := .int this_count) X in_X0_handsOn_X0 0 rfl rfl 0 (by decide) m_X0_handsOn_f49 rfl dX0_handsOn_6 ?_
  refine J_icmp_ge (tgt := 39) X dX0_handsOn_9 (by decide) (fun hc1 => ?_) (fun hc1 => ?_)
  · have hT := ift hT hc1
    refine J_iload_n X dX0_handsOn_39 2 rfl ?_
    cases hT
    exact J_iret X dX0_handsOn_40
  · have hT := iff_ hT hc1
    refine J_aload_n X dX0_handsOn_12 0 rfl ?_
    refine J_get (C := RX0) (T := TX0) (N := 13) (ci := 0) (v := .ref (q_this 5)) X in_X0_handsOn_X0 0 rfl rfl 5 (by decide) m_X0_handsOn_f25 rfl dX0_handsOn_13 ?_
    refine J_iload_n X dX0_handsOn_16 3 rfl ?_
    obtain ⟨hk2, hT⟩ := ckn_e hT
    refine J_iald X 2 rfl rfl hk2 dX0_handsOn_17 ?_
    refine J_iload_n X dX0_handsOn_18 1 rfl ?_
    refine J_icmp_ne (tgt := 33) X dX0_handsOn_19 (by decide) (fun hc3 => ?_) (fun hc3 => ?_)
    · have hT := iff_ hT hc3
      exact b_X0_handsOn_33 X cI cJ cZ h_this q_this this_near this_times this_ties r k_4 hk_4 this_count this_hand this_match x1 x2 x3 hT
    · have hT := ift hT hc3
      refine J_iload_n X dX0_handsOn_22 2 rfl ?_
      refine J_iconst (v := 1) X dX0_handsOn_23 (by decide) ?_
      refine J_aload_n X dX0_handsOn_24 0 rfl ?_
      refine J_get (C := RX0) (T := TX0) (N := 13) (ci := 0) (v := .ref (q_this 4)) X in_X0_handsOn_X0 0 rfl rfl 4 (by decide) m_X0_handsOn_f21 rfl dX0_handsOn_25 ?_
      refine J_iload_n X dX0_handsOn_28 3 rfl ?_
      obtain ⟨hk4, hT⟩ := ckn_e hT
      refine J_iald X 1 rfl rfl hk4 dX0_handsOn_29 ?_
      refine J_ishl X dX0_handsOn_30 ?_
      refine J_ior X dX0_handsOn_31 ?_
      refine J_istore_n (lv' := [(2, .int (x2 ||| ((1 : Int32) <<< ((this_hand x3.toNatClampNeg) &&& 31)))), (0, .ref h_this), (1, .int x1), (3, .int x3)]) X dX0_handsOn_32 (by decide) rfl ?_
      refine J_lv (lv' := [(0, .ref h_this), (1, .int x1), (2, .int (x2 ||| ((1 : Int32) <<< ((this_hand x3.toNatClampNeg) &&& 31)))), (3, .int x3)]) [1, 2, 0, 3] rfl ?_
      exact b_X0_handsOn_33 X cI cJ cZ h_this q_this this_near this_times this_ties r k_4 hk_4 this_count this_hand this_match x1 (x2 ||| ((1 : Int32) <<< ((this_hand x3.toNatClampNeg) &&& 31))) x3 hT
set_option maxHeartbeats 4000000 in
set_option maxRecDepth 100000 in
theorem b_X0_handsOn_4 {p : Program} {l : Launch} {e : Env} {s : State} {m : MethodId} {args : Array Value} {below : List Frame} {meth : Method} {c : Code} {D : va_G} {A : Nat → Prop} {cI cJ cZ : ClassId} (X : Cx p m c cX0_handsOn 4 s args wsX0_handsOn RX0 D (tys3 cI cJ cZ) meth (some .int)) (_ _ _ : ClassId)  (h_this : Nat) (q_this : Nat → Nat) (this_near : Int32) (this_times : Int32) (this_ties : Int32) (r : Int32)  : ∀ (n : Nat) (this_count : Int32) (this_hand : Nat → Int32) (this_match : Nat → Int32) (x1 : Int32) (x2 : Int32) (x3 : Int32) (hT : t_X0_handsOn_4   n this_count this_hand this_match x1 x2 x3 = some r), J p l e rmX0_handsOn s m args below meth c D A 4 (QI D below args s A r (w_X0_handsOn cI cJ cZ h_this q_this this_count this_near this_times this_ties this_hand this_match)) 0 0 (w_X0_handsOn cI cJ cZ h_this q_this this_count this_near this_times this_ties this_hand this_match) [(0, .ref h_this), (1, .int x1), (2, .int x2), (3, .int x3)] [] 4 := by
  intro n
  induction n with
  | zero => intro this_count this_hand this_match x1 x2 x3 hT; cases hT
  | succ n ih =>
    intro this_count this_hand this_match x1 x2 x3 hT
    exact b_X0_handsOn_4_b X cI cJ cZ h_this q_this this_near this_times this_ties r  (t_X0_handsOn_4   n) ih this_count this_hand this_match x1 x2 x3 hT
set_option maxHeartbeats 4000000 in
set_option maxRecDepth 100000 in
theorem c_X0_handsOn (l : Launch) (D : va_G) (cI cJ cZ : ClassId) (h_this : Nat) (q_this : Nat → Nat) (this_count : Int32) (this_near : Int32) (this_times : Int32) (this_ties : Int32) (this_hand : Nat → Int32) (this_match : Nat → Int32) (x1 : Int32) (r : Int32) (hT : t_X0_handsOn  this_count this_hand this_match x1 = some r) : Ci l yX0_handsOn wsX0_handsOn rmX0_handsOn D (tys3 cI cJ cZ) [.ref h_this, .int x1] (w_X0_handsOn cI cJ cZ h_this q_this this_count this_near this_times this_ties this_hand this_match) r (w_X0_handsOn cI cJ cZ h_this q_this this_count this_near this_times this_ties this_hand this_match) := by
  refine Ci.ofJ (cc := cX0_handsOn) (nL := 4) (rt := (some .int)) (own := RX0) (by decide) rfl rfl (Nat.le_of_ble_eq_true rfl) ?_
  intro p e s m below meth c A X
  unfold t_X0_handsOn at hT
  refine J_lv (lv' := [(0, .ref h_this), (1, .int x1)]) [0, 1] rfl ?_
  refine J_iconst (v := 0) X dX0_handsOn_0 (by decide) ?_
  refine J_istore_n (lv' := [(2, .int (0 : Int32)), (0, .ref h_this), (1, .int x1)]) X dX0_handsOn_1 (by decide) rfl ?_
  refine J_iconst (v := 0) X dX0_handsOn_2 (by decide) ?_
  refine J_istore_n (lv' := [(3, .int (0 : Int32)), (2, .int (0 : Int32)), (0, .ref h_this), (1, .int x1)]) X dX0_handsOn_3 (by decide) rfl ?_
  refine J_lv (lv' := [(0, .ref h_this), (1, .int x1), (2, .int (0 : Int32)), (3, .int (0 : Int32))]) [2, 3, 1, 0] rfl ?_
  exact b_X0_handsOn_4 X cI cJ cZ h_this q_this this_near this_times this_ties r  lfuel this_count this_hand this_match x1 (0 : Int32) (0 : Int32) hT
-- ===== SoldMatches$Bets.areAlike(II)Z
abbrev rmX0_areAlike : Room := { frames := 0, cells := 0, slots := 0, locals := 0 }
def w_X0_areAlike (cI cJ cZ : ClassId) (h_this : Nat) (q_this : Nat → Nat) (this_count : Int32) (this_near : Int32) (this_times : Int32) (this_ties : Int32) (this_end : Nat → Int32) (this_match : Nat → Int32) (this_minute : Nat → Int32) (this_sum : Nat → Int32) : va_W := [(h_this, .inr (0, oFX0 q_this this_count this_near this_times this_ties)), ((q_this 6), .inl (cI, 40, .inl this_end)), ((q_this 5), .inl (cI, 40, .inl this_match)), ((q_this 7), .inl (cI, 40, .inl this_minute)), ((q_this 8), .inl (cI, 40, .inl this_sum))]
theorem m_X0_areAlike_f9 : Cond.fieldLink RX0 9 "SoldMatches$Bets" "near" "I" ∈ wsX0_areAlike := List.mem_of_getElem? (i := 5) rfl
theorem in_X0_areAlike_X0 : ∀ w ∈ wsX00, w ∈ wsX0_areAlike := fun w h => List.mem_cons_of_mem _ (List.mem_append_right _ h)
theorem m_X0_areAlike_f15 : Cond.fieldLink RX0 15 "SoldMatches$Bets" "times" "I" ∈ wsX0_areAlike := List.mem_of_getElem? (i := 6) rfl
theorem m_X0_areAlike_f34 : Cond.fieldLink RX0 34 "SoldMatches$Bets" "sum" "[I" ∈ wsX0_areAlike := List.mem_of_getElem? (i := 4) rfl
theorem m_X0_areAlike_f25 : Cond.fieldLink RX0 25 "SoldMatches$Bets" "match" "[I" ∈ wsX0_areAlike := List.mem_of_getElem? (i := 1) rfl
theorem m_X0_areAlike_f28 : Cond.fieldLink RX0 28 "SoldMatches$Bets" "end" "[I" ∈ wsX0_areAlike := List.mem_of_getElem? (i := 2) rfl
theorem m_X0_areAlike_f31 : Cond.fieldLink RX0 31 "SoldMatches$Bets" "minute" "[I" ∈ wsX0_areAlike := List.mem_of_getElem? (i := 3) rfl
def t_X0_areAlike_166   (this_near : Int32) (this_times : Int32) (this_end : Nat → Int32) (this_match : Nat → Int32) (this_minute : Nat → Int32) (this_sum : Nat → Int32) (s0 : Int32) : Option (Int32) := ckn (¬ (s0 = 0 ∨ s0 = 1)) (some (s0))
def t_X0_areAlike_139   (this_near : Int32) (this_times : Int32) (this_end : Nat → Int32) (this_match : Nat → Int32) (this_minute : Nat → Int32) (this_sum : Nat → Int32) (x3 : Int32) (x4 : Int32) (s0 : Int32) : Option (Int32) := if this_near < x3 then (t_X0_areAlike_166   this_near this_times this_end this_match this_minute this_sum (0 : Int32)) else (if (this_times * s0) < x4 then (t_X0_areAlike_166   this_near this_times this_end this_match this_minute this_sum (0 : Int32)) else (t_X0_areAlike_166   this_near this_times this_end this_match this_minute this_sum (1 : Int32)))
def t_X0_areAlike_107   (this_near : Int32) (this_times : Int32) (this_end : Nat → Int32) (this_match : Nat → Int32) (this_minute : Nat → Int32) (this_sum : Nat → Int32) (x1 : Int32) (x2 : Int32) (x3 : Int32) (s0 : Int32) : Option (Int32) := ckn (x1 < 0 ∨ 40 ≤ x1.toNatClampNeg) (ckn (x2 < 0 ∨ 40 ≤ x2.toNatClampNeg) (if (this_sum x1.toNatClampNeg) ≤ (this_sum x2.toNatClampNeg) then (ckn (x1 < 0 ∨ 40 ≤ x1.toNatClampNeg) (t_X0_areAlike_139   this_near this_times this_end this_match this_minute this_sum x3 s0 (this_sum x1.toNatClampNeg))) else (ckn (x2 < 0 ∨ 40 ≤ x2.toNatClampNeg) (t_X0_areAlike_139   this_near this_times this_end this_match this_minute this_sum x3 s0 (this_sum x2.toNatClampNeg)))))
def t_X0_areAlike_76   (this_near : Int32) (this_times : Int32) (this_end : Nat → Int32) (this_match : Nat → Int32) (this_minute : Nat → Int32) (this_sum : Nat → Int32) (x1 : Int32) (x2 : Int32) (s0 : Int32) : Option (Int32) := ckn (x1 < 0 ∨ 40 ≤ x1.toNatClampNeg) (ckn (x2 < 0 ∨ 40 ≤ x2.toNatClampNeg) (if (this_sum x1.toNatClampNeg) ≤ (this_sum x2.toNatClampNeg) then (ckn (x2 < 0 ∨ 40 ≤ x2.toNatClampNeg) (t_X0_areAlike_107   this_near this_times this_end this_match this_minute this_sum x1 x2 s0 (this_sum x2.toNatClampNeg))) else (ckn (x1 < 0 ∨ 40 ≤ x1.toNatClampNeg) (t_X0_areAlike_107   this_near this_times this_end this_match this_minute this_sum x1 x2 s0 (this_sum x1.toNatClampNeg)))))
def t_X0_areAlike  (this_near : Int32) (this_times : Int32) (this_end : Nat → Int32) (this_match : Nat → Int32) (this_minute : Nat → Int32) (this_sum : Nat → Int32) (x1 : Int32) (x2 : Int32) : Option (Int32) := ckn (x1 < 0 ∨ 40 ≤ x1.toNatClampNeg) (ckn (x2 < 0 ∨ 40 ≤ x2.toNatClampNeg) (if (this_match x1.toNatClampNeg) = (this_match x2.toNatClampNeg) then (ckn (x1 < 0 ∨ 40 ≤ x1.toNatClampNeg) (ckn (x2 < 0 ∨ 40 ≤ x2.toNatClampNeg) (if (this_end x1.toNatClampNeg) = (this_end x2.toNatClampNeg) then (ckn (x1 < 0 ∨ 40 ≤ x1.toNatClampNeg) (ckn (x2 < 0 ∨ 40 ≤ x2.toNatClampNeg) (if (this_minute x2.toNatClampNeg) ≤ (this_minute x1.toNatClampNeg) then (ckn (x1 < 0 ∨ 40 ≤ x1.toNatClampNeg) (ckn (x2 < 0 ∨ 40 ≤ x2.toNatClampNeg) (t_X0_areAlike_76   this_near this_times this_end this_match this_minute this_sum x1 x2 ((this_minute x1.toNatClampNeg) - (this_minute x2.toNatClampNeg))))) else (ckn (x2 < 0 ∨ 40 ≤ x2.toNatClampNeg) (ckn (x1 < 0 ∨ 40 ≤ x1.toNatClampNeg) (t_X0_areAlike_76   this_near this_times this_end this_match this_minute this_sum x1 x2 ((this_minute x2.toNatClampNeg) - (this_minute x1.toNatClampNeg)))))))) else (some ((0 : Int32)))))) else (some ((0 : Int32)))))
set_option maxHeartbeats 4000000 in
set_option maxRecDepth 100000 in
theorem b_X0_areAlike_166 {p : Program} {l : Launch} {e : Env} {s : State} {m : MethodId} {args : Array Value} {below : List Frame} {meth : Method} {c : Code} {D : va_G} {A : Nat → Prop} {cI cJ cZ : ClassId} (X : Cx p m c cX0_areAlike 6 s args wsX0_areAlike RX0 D (tys3 cI cJ cZ) meth (some .boolean)) (_ _ _ : ClassId)  (h_this : Nat) (q_this : Nat → Nat) (this_count : Int32) (this_ties : Int32) (r : Int32)  (this_near : Int32) (this_times : Int32) (this_end : Nat → Int32) (this_match : Nat → Int32) (this_minute : Nat → Int32) (this_sum : Nat → Int32) (s0 : Int32) (hT : t_X0_areAlike_166   this_near this_times this_end this_match this_minute this_sum s0 = some r) : J p l e rmX0_areAlike s m args below meth c D A 6 (QI D below args s A r (w_X0_areAlike cI cJ cZ h_this q_this this_count this_near this_times this_ties this_end this_match this_minute this_sum)) 0 0 (w_X0_areAlike cI cJ cZ h_this q_this this_count this_near this_times this_ties this_end this_match this_minute this_sum) [(0, .ref h_this)] [.int s0] 166 := by
  unfold t_X0_areAlike_166 at hT
  obtain ⟨hk1, hT⟩ := ckn_e hT
  cases hT
  exact J_zret X (Decidable.not_not.mp hk1) dX0_areAlike_166
set_option maxHeartbeats 4000000 in
set_option maxRecDepth 100000 in
theorem b_X0_areAlike_139 {p : Program} {l : Launch} {e : Env} {s : State} {m : MethodId} {args : Array Value} {below : List Frame} {meth : Method} {c : Code} {D : va_G} {A : Nat → Prop} {cI cJ cZ : ClassId} (X : Cx p m c cX0_areAlike 6 s args wsX0_areAlike RX0 D (tys3 cI cJ cZ) meth (some .boolean)) (_ _ _ : ClassId)  (h_this : Nat) (q_this : Nat → Nat) (this_count : Int32) (this_ties : Int32) (r : Int32)  (this_near : Int32) (this_times : Int32) (this_end : Nat → Int32) (this_match : Nat → Int32) (this_minute : Nat → Int32) (this_sum : Nat → Int32) (x3 : Int32) (x4 : Int32) (s0 : Int32) (hT : t_X0_areAlike_139   this_near this_times this_end this_match this_minute this_sum x3 x4 s0 = some r) : J p l e rmX0_areAlike s m args below meth c D A 6 (QI D below args s A r (w_X0_areAlike cI cJ cZ h_this q_this this_count this_near this_times this_ties this_end this_match this_minute this_sum)) 0 0 (w_X0_areAlike cI cJ cZ h_this q_this this_count this_near this_times this_ties this_end this_match this_minute this_sum) [(0, .ref h_this), (3, .int x3), (4, .int x4)] [.int s0] 139 := by
  unfold t_X0_areAlike_139 at hT
  refine J_istore (lv' := [(5, .int s0), (0, .ref h_this), (3, .int x3), (4, .int x4)]) X dX0_areAlike_139 (by decide) rfl ?_
  refine J_iload_n X dX0_areAlike_141 2 rfl ?_
  refine J_aload_n X dX0_areAlike_142 1 rfl ?_
  refine J_get (C := RX0) (T := TX0) (N := 13) (ci := 0) (v := .int this_near) X in_X0_areAlike_X0 0 rfl rfl 1 (by decide) m_X0_areAlike_f9 rfl dX0_areAlike_143 ?_
  refine J_icmp_gt (tgt := 165) X dX0_areAlike_146 (by decide) (fun hc2 => ?_) (fun hc2 => ?_)
  · have hT := ift hT hc2
    refine J_iconst (v := 0) X dX0_areAlike_165 (by decide) ?_
    refine J_lv (lv' := [(0, .ref h_this)]) [1] rfl ?_
    exact b_X0_areAlike_166 X cI cJ cZ h_this q_this this_count this_ties r  this_near this_times this_end this_match this_minute this_sum (0 : Int32) hT
  · have hT := iff_ hT hc2
    refine J_iload X dX0_areAlike_149 3 rfl ?_
    refine J_aload_n X dX0_areAlike_151 1 rfl ?_
    refine J_get (C := RX0) (T := TX0) (N := 13) (ci := 0) (v := .int this_times) X in_X0_areAlike_X0 0 rfl rfl 2 (by decide) m_X0_areAlike_f15 rfl dX0_areAlike_152 ?_
    refine J_iload X dX0_areAlike_155 0 rfl ?_
    refine J_imul X dX0_areAlike_157 ?_
    refine J_icmp_gt (tgt := 165) X dX0_areAlike_158 (by decide) (fun hc3 => ?_) (fun hc3 => ?_)
    · have hT := ift hT hc3
      refine J_iconst (v := 0) X dX0_areAlike_165 (by decide) ?_
      refine J_lv (lv' := [(0, .ref h_this)]) [1] rfl ?_
      exact b_X0_areAlike_166 X cI cJ cZ h_this q_this this_count this_ties r  this_near this_times this_end this_match this_minute this_sum (0 : Int32) hT
    · have hT := iff_ hT hc3
      refine J_iconst (v := 1) X dX0_areAlike_161 (by decide) ?_
      refine J_goto (tgt := 166) X dX0_areAlike_162 (by decide) ?_
      refine J_lv (lv' := [(0, .ref h_this)]) [1] rfl ?_
      exact b_X0_areAlike_166 X cI cJ cZ h_this q_this this_count this_ties r  this_near this_times this_end this_match this_minute this_sum (1 : Int32) hT
set_option maxHeartbeats 4000000 in
set_option maxRecDepth 100000 in
theorem b_X0_areAlike_107 {p : Program} {l : Launch} {e : Env} {s : State} {m : MethodId} {args : Array Value} {below : List Frame} {meth : Method} {c : Code} {D : va_G} {A : Nat → Prop} {cI cJ cZ : ClassId} (X : Cx p m c cX0_areAlike 6 s args wsX0_areAlike RX0 D (tys3 cI cJ cZ) meth (some .boolean)) (_ _ _ : ClassId)  (h_this : Nat) (q_this : Nat → Nat) (this_count : Int32) (this_ties : Int32) (r : Int32)  (this_near : Int32) (this_times : Int32) (this_end : Nat → Int32) (this_match : Nat → Int32) (this_minute : Nat → Int32) (this_sum : Nat → Int32) (x1 : Int32) (x2 : Int32) (x3 : Int32) (s0 : Int32) (hT : t_X0_areAlike_107   this_near this_times this_end this_match this_minute this_sum x1 x2 x3 s0 = some r) : J p l e rmX0_areAlike s m args below meth c D A 6 (QI D below args s A r (w_X0_areAlike cI cJ cZ h_this q_this this_count this_near this_times this_ties this_end this_match this_minute this_sum)) 0 0 (w_X0_areAlike cI cJ cZ h_this q_this this_count this_near this_times this_ties this_end this_match this_minute this_sum) [(0, .ref h_this), (1, .int x1), (2, .int x2), (3, .int x3)] [.int s0] 107 := by
  unfold t_X0_areAlike_107 at hT
  refine J_istore (lv' := [(4, .int s0), (0, .ref h_this), (1, .int x1), (2, .int x2), (3, .int x3)]) X dX0_areAlike_107 (by decide) rfl ?_
  refine J_aload_n X dX0_areAlike_109 1 rfl ?_
  refine J_get (C := RX0) (T := TX0) (N := 13) (ci := 0) (v := .ref (q_this 8)) X in_X0_areAlike_X0 0 rfl rfl 8 (by decide) m_X0_areAlike_f34 rfl dX0_areAlike_110 ?_
  refine J_iload_n X dX0_areAlike_113 2 rfl ?_
  obtain ⟨hk4, hT⟩ := ckn_e hT
  refine J_iald X 4 rfl rfl hk4 dX0_areAlike_114 ?_
  refine J_aload_n X dX0_areAlike_115 1 rfl ?_
  refine J_get (C := RX0) (T := TX0) (N := 13) (ci := 0) (v := .ref (q_this 8)) X in_X0_areAlike_X0 0 rfl rfl 8 (by decide) m_X0_areAlike_f34 rfl dX0_areAlike_116 ?_
  refine J_iload_n X dX0_areAlike_119 3 rfl ?_
  obtain ⟨hk5, hT⟩ := ckn_e hT
  refine J_iald X 4 rfl rfl hk5 dX0_areAlike_120 ?_
  refine J_icmp_le (tgt := 133) X dX0_areAlike_121 (by decide) (fun hc6 => ?_) (fun hc6 => ?_)
  · have hT := ift hT hc6
    refine J_aload_n X dX0_areAlike_133 1 rfl ?_
    refine J_get (C := RX0) (T := TX0) (N := 13) (ci := 0) (v := .ref (q_this 8)) X in_X0_areAlike_X0 0 rfl rfl 8 (by decide) m_X0_areAlike_f34 rfl dX0_areAlike_134 ?_
    refine J_iload_n X dX0_areAlike_137 2 rfl ?_
    obtain ⟨hk7, hT⟩ := ckn_e hT
    refine J_iald X 4 rfl rfl hk7 dX0_areAlike_138 ?_
    refine J_lv (lv' := [(0, .ref h_this), (3, .int x3), (4, .int s0)]) [1, 4, 0] rfl ?_
    exact b_X0_areAlike_139 X cI cJ cZ h_this q_this this_count this_ties r  this_near this_times this_end this_match this_minute this_sum x3 s0 (this_sum x1.toNatClampNeg) hT
  · have hT := iff_ hT hc6
    refine J_aload_n X dX0_areAlike_124 1 rfl ?_
    refine J_get (C := RX0) (T := TX0) (N := 13) (ci := 0) (v := .ref (q_this 8)) X in_X0_areAlike_X0 0 rfl rfl 8 (by decide) m_X0_areAlike_f34 rfl dX0_areAlike_125 ?_
    refine J_iload_n X dX0_areAlike_128 3 rfl ?_
    obtain ⟨hk8, hT⟩ := ckn_e hT
    refine J_iald X 4 rfl rfl hk8 dX0_areAlike_129 ?_
    refine J_goto (tgt := 139) X dX0_areAlike_130 (by decide) ?_
    refine J_lv (lv' := [(0, .ref h_this), (3, .int x3), (4, .int s0)]) [1, 4, 0] rfl ?_
    exact b_X0_areAlike_139 X cI cJ cZ h_this q_this this_count this_ties r  this_near this_times this_end this_match this_minute this_sum x3 s0 (this_sum x2.toNatClampNeg) hT
set_option maxHeartbeats 4000000 in
set_option maxRecDepth 100000 in
theorem b_X0_areAlike_76 {p : Program} {l : Launch} {e : Env} {s : State} {m : MethodId} {args : Array Value} {below : List Frame} {meth : Method} {c : Code} {D : va_G} {A : Nat → Prop} {cI cJ cZ : ClassId} (X : Cx p m c cX0_areAlike 6 s args wsX0_areAlike RX0 D (tys3 cI cJ cZ) meth (some .boolean)) (_ _ _ : ClassId)  (h_this : Nat) (q_this : Nat → Nat) (this_count : Int32) (this_ties : Int32) (r : Int32)  (this_near : Int32) (this_times : Int32) (this_end : Nat → Int32) (this_match : Nat → Int32) (this_minute : Nat → Int32) (this_sum : Nat → Int32) (x1 : Int32) (x2 : Int32) (s0 : Int32) (hT : t_X0_areAlike_76   this_near this_times this_end this_match this_minute this_sum x1 x2 s0 = some r) : J p l e rmX0_areAlike s m args below meth c D A 6 (QI D below args s A r (w_X0_areAlike cI cJ cZ h_this q_this this_count this_near this_times this_ties this_end this_match this_minute this_sum)) 0 0 (w_X0_areAlike cI cJ cZ h_this q_this this_count this_near this_times this_ties this_end this_match this_minute this_sum) [(0, .ref h_this), (1, .int x1), (2, .int x2)] [.int s0] 76 := by
  unfold t_X0_areAlike_76 at hT
  refine J_istore_n (lv' := [(3, .int s0), (0, .ref h_this), (1, .int x1), (2, .int x2)]) X dX0_areAlike_76 (by decide) rfl ?_
  refine J_aload_n X dX0_areAlike_77 1 rfl ?_
  refine J_get (C := RX0) (T := TX0) (N := 13) (ci := 0) (v := .ref (q_this 8)) X in_X0_areAlike_X0 0 rfl rfl 8 (by decide) m_X0_areAlike_f34 rfl dX0_areAlike_78 ?_
  refine J_iload_n X dX0_areAlike_81 2 rfl ?_
  obtain ⟨hk9, hT⟩ := ckn_e hT
  refine J_iald X 4 rfl rfl hk9 dX0_areAlike_82 ?_
  refine J_aload_n X dX0_areAlike_83 1 rfl ?_
  refine J_get (C := RX0) (T := TX0) (N := 13) (ci := 0) (v := .ref (q_this 8)) X in_X0_areAlike_X0 0 rfl rfl 8 (by decide) m_X0_areAlike_f34 rfl dX0_areAlike_84 ?_
  refine J_iload_n X dX0_areAlike_87 3 rfl ?_
  obtain ⟨hk10, hT⟩ := ckn_e hT
  refine J_iald X 4 rfl rfl hk10 dX0_areAlike_88 ?_
  refine J_icmp_le (tgt := 101) X dX0_areAlike_89 (by decide) (fun hc11 => ?_) (fun hc11 => ?_)
  · have hT := ift hT hc11
    refine J_aload_n X dX0_areAlike_101 1 rfl ?_
    refine J_get (C := RX0) (T := TX0) (N := 13) (ci := 0) (v := .ref (q_this 8)) X in_X0_areAlike_X0 0 rfl rfl 8 (by decide) m_X0_areAlike_f34 rfl dX0_areAlike_102 ?_
    refine J_iload_n X dX0_areAlike_105 3 rfl ?_
    obtain ⟨hk12, hT⟩ := ckn_e hT
    refine J_iald X 4 rfl rfl hk12 dX0_areAlike_106 ?_
    refine J_lv (lv' := [(0, .ref h_this), (1, .int x1), (2, .int x2), (3, .int s0)]) [1, 2, 3, 0] rfl ?_
    exact b_X0_areAlike_107 X cI cJ cZ h_this q_this this_count this_ties r  this_near this_times this_end this_match this_minute this_sum x1 x2 s0 (this_sum x2.toNatClampNeg) hT
  · have hT := iff_ hT hc11
    refine J_aload_n X dX0_areAlike_92 1 rfl ?_
    refine J_get (C := RX0) (T := TX0) (N := 13) (ci := 0) (v := .ref (q_this 8)) X in_X0_areAlike_X0 0 rfl rfl 8 (by decide) m_X0_areAlike_f34 rfl dX0_areAlike_93 ?_
    refine J_iload_n X dX0_areAlike_96 2 rfl ?_
    obtain ⟨hk13, hT⟩ := ckn_e hT
    refine J_iald X 4 rfl rfl hk13 dX0_areAlike_97 ?_
    refine J_goto (tgt := 107) X dX0_areAlike_98 (by decide) ?_
    refine J_lv (lv' := [(0, .ref h_this), (1, .int x1), (2, .int x2), (3, .int s0)]) [1, 2, 3, 0] rfl ?_
    exact b_X0_areAlike_107 X cI cJ cZ h_this q_this this_count this_ties r  this_near this_times this_end this_match this_minute this_sum x1 x2 s0 (this_sum x1.toNatClampNeg) hT
set_option maxHeartbeats 4000000 in
set_option maxRecDepth 100000 in
theorem c_X0_areAlike (l : Launch) (D : va_G) (cI cJ cZ : ClassId) (h_this : Nat) (q_this : Nat → Nat) (this_count : Int32) (this_near : Int32) (this_times : Int32) (this_ties : Int32) (this_end : Nat → Int32) (this_match : Nat → Int32) (this_minute : Nat → Int32) (this_sum : Nat → Int32) (x1 : Int32) (x2 : Int32) (r : Int32) (hT : t_X0_areAlike  this_near this_times this_end this_match this_minute this_sum x1 x2 = some r) : Ci l yX0_areAlike wsX0_areAlike rmX0_areAlike D (tys3 cI cJ cZ) [.ref h_this, .int x1, .int x2] (w_X0_areAlike cI cJ cZ h_this q_this this_count this_near this_times this_ties this_end this_match this_minute this_sum) r (w_X0_areAlike cI cJ cZ h_this q_this this_count this_near this_times this_ties this_end this_match this_minute this_sum) := by
  refine Ci.ofJ (cc := cX0_areAlike) (nL := 6) (rt := (some .boolean)) (own := RX0) (by decide) rfl rfl (Nat.le_of_ble_eq_true rfl) ?_
  intro p e s m below meth c A X
  unfold t_X0_areAlike at hT
  refine J_lv (lv' := [(0, .ref h_this), (1, .int x1), (2, .int x2)]) [0, 1, 2] rfl ?_
  refine J_aload_n X dX0_areAlike_0 0 rfl ?_
  refine J_get (C := RX0) (T := TX0) (N := 13) (ci := 0) (v := .ref (q_this 5)) X in_X0_areAlike_X0 0 rfl rfl 5 (by decide) m_X0_areAlike_f25 rfl dX0_areAlike_1 ?_
  refine J_iload_n X dX0_areAlike_4 1 rfl ?_
  obtain ⟨hk14, hT⟩ := ckn_e hT
  refine J_iald X 2 rfl rfl hk14 dX0_areAlike_5 ?_
  refine J_aload_n X dX0_areAlike_6 0 rfl ?_
  refine J_get (C := RX0) (T := TX0) (N := 13) (ci := 0) (v := .ref (q_this 5)) X in_X0_areAlike_X0 0 rfl rfl 5 (by decide) m_X0_areAlike_f25 rfl dX0_areAlike_7 ?_
  refine J_iload_n X dX0_areAlike_10 2 rfl ?_
  obtain ⟨hk15, hT⟩ := ckn_e hT
  refine J_iald X 2 rfl rfl hk15 dX0_areAlike_11 ?_
  refine J_icmp_ne (tgt := 30) X dX0_areAlike_12 (by decide) (fun hc16 => ?_) (fun hc16 => ?_)
  · have hT := iff_ hT hc16
    refine J_iconst (v := 0) X dX0_areAlike_30 (by decide) ?_
    cases hT
    exact J_zret X (by decide) dX0_areAlike_31
  · have hT := ift hT hc16
    refine J_aload_n X dX0_areAlike_15 0 rfl ?_
    refine J_get (C := RX0) (T := TX0) (N := 13) (ci := 0) (v := .ref (q_this 6)) X in_X0_areAlike_X0 0 rfl rfl 6 (by decide) m_X0_areAlike_f28 rfl dX0_areAlike_16 ?_
    refine J_iload_n X dX0_areAlike_19 1 rfl ?_
    obtain ⟨hk17, hT⟩ := ckn_e hT
    refine J_iald X 1 rfl rfl hk17 dX0_areAlike_20 ?_
    refine J_aload_n X dX0_areAlike_21 0 rfl ?_
    refine J_get (C := RX0) (T := TX0) (N := 13) (ci := 0) (v := .ref (q_this 6)) X in_X0_areAlike_X0 0 rfl rfl 6 (by decide) m_X0_areAlike_f28 rfl dX0_areAlike_22 ?_
    refine J_iload_n X dX0_areAlike_25 2 rfl ?_
    obtain ⟨hk18, hT⟩ := ckn_e hT
    refine J_iald X 1 rfl rfl hk18 dX0_areAlike_26 ?_
    refine J_icmp_eq (tgt := 32) X dX0_areAlike_27 (by decide) (fun hc19 => ?_) (fun hc19 => ?_)
    · have hT := ift hT hc19
      refine J_aload_n X dX0_areAlike_32 0 rfl ?_
      refine J_get (C := RX0) (T := TX0) (N := 13) (ci := 0) (v := .ref (q_this 7)) X in_X0_areAlike_X0 0 rfl rfl 7 (by decide) m_X0_areAlike_f31 rfl dX0_areAlike_33 ?_
      refine J_iload_n X dX0_areAlike_36 1 rfl ?_
      obtain ⟨hk20, hT⟩ := ckn_e hT
      refine J_iald X 3 rfl rfl hk20 dX0_areAlike_37 ?_
      refine J_aload_n X dX0_areAlike_38 0 rfl ?_
      refine J_get (C := RX0) (T := TX0) (N := 13) (ci := 0) (v := .ref (q_this 7)) X in_X0_areAlike_X0 0 rfl rfl 7 (by decide) m_X0_areAlike_f31 rfl dX0_areAlike_39 ?_
      refine J_iload_n X dX0_areAlike_42 2 rfl ?_
      obtain ⟨hk21, hT⟩ := ckn_e hT
      refine J_iald X 3 rfl rfl hk21 dX0_areAlike_43 ?_
      refine J_icmp_ge (tgt := 63) X dX0_areAlike_44 (by decide) (fun hc22 => ?_) (fun hc22 => ?_)
      · have hT := ift hT hc22
        refine J_aload_n X dX0_areAlike_63 0 rfl ?_
        refine J_get (C := RX0) (T := TX0) (N := 13) (ci := 0) (v := .ref (q_this 7)) X in_X0_areAlike_X0 0 rfl rfl 7 (by decide) m_X0_areAlike_f31 rfl dX0_areAlike_64 ?_
        refine J_iload_n X dX0_areAlike_67 1 rfl ?_
        obtain ⟨hk23, hT⟩ := ckn_e hT
        refine J_iald X 3 rfl rfl hk23 dX0_areAlike_68 ?_
        refine J_aload_n X dX0_areAlike_69 0 rfl ?_
        refine J_get (C := RX0) (T := TX0) (N := 13) (ci := 0) (v := .ref (q_this 7)) X in_X0_areAlike_X0 0 rfl rfl 7 (by decide) m_X0_areAlike_f31 rfl dX0_areAlike_70 ?_
        refine J_iload_n X dX0_areAlike_73 2 rfl ?_
        obtain ⟨hk24, hT⟩ := ckn_e hT
        refine J_iald X 3 rfl rfl hk24 dX0_areAlike_74 ?_
        refine J_isub X dX0_areAlike_75 ?_
        exact b_X0_areAlike_76 X cI cJ cZ h_this q_this this_count this_ties r  this_near this_times this_end this_match this_minute this_sum x1 x2 ((this_minute x1.toNatClampNeg) - (this_minute x2.toNatClampNeg)) hT
      · have hT := iff_ hT hc22
        refine J_aload_n X dX0_areAlike_47 0 rfl ?_
        refine J_get (C := RX0) (T := TX0) (N := 13) (ci := 0) (v := .ref (q_this 7)) X in_X0_areAlike_X0 0 rfl rfl 7 (by decide) m_X0_areAlike_f31 rfl dX0_areAlike_48 ?_
        refine J_iload_n X dX0_areAlike_51 2 rfl ?_
        obtain ⟨hk25, hT⟩ := ckn_e hT
        refine J_iald X 3 rfl rfl hk25 dX0_areAlike_52 ?_
        refine J_aload_n X dX0_areAlike_53 0 rfl ?_
        refine J_get (C := RX0) (T := TX0) (N := 13) (ci := 0) (v := .ref (q_this 7)) X in_X0_areAlike_X0 0 rfl rfl 7 (by decide) m_X0_areAlike_f31 rfl dX0_areAlike_54 ?_
        refine J_iload_n X dX0_areAlike_57 1 rfl ?_
        obtain ⟨hk26, hT⟩ := ckn_e hT
        refine J_iald X 3 rfl rfl hk26 dX0_areAlike_58 ?_
        refine J_isub X dX0_areAlike_59 ?_
        refine J_goto (tgt := 76) X dX0_areAlike_60 (by decide) ?_
        exact b_X0_areAlike_76 X cI cJ cZ h_this q_this this_count this_ties r  this_near this_times this_end this_match this_minute this_sum x1 x2 ((this_minute x2.toNatClampNeg) - (this_minute x1.toNatClampNeg)) hT
    · have hT := iff_ hT hc19
      refine J_iconst (v := 0) X dX0_areAlike_30 (by decide) ?_
      cases hT
      exact J_zret X (by decide) dX0_areAlike_31
-- ===== java/util/Arrays.fill([II)V
abbrev rmJ7_fill_53178 : Room := { frames := 0, cells := 0, slots := 0, locals := 0 }
def w_J7_fill_53178 (cI cJ cZ : ClassId) (h_p0 : Nat) (p0_n : Nat) (p0 : Nat → Int32) : va_W := [(h_p0, .inl (cI, p0_n, .inl p0))]
def t_J7_fill_53178_5_b (p0_n : Nat) (k_5 : (Nat → Int32) → Int32 → Int32 → Int32 → (Option ((Nat → Int32)))) (p0 : Nat → Int32) (x1 : Int32) (x2 : Int32) (x3 : Int32) : Option ((Nat → Int32)) := if x3 ≤ x2 then (some (p0)) else (ckn (x2 < 0 ∨ p0_n ≤ x2.toNatClampNeg) (k_5 (upd p0 x2.toNatClampNeg x1) x1 (x2 + (1 : Int32)) x3))
def t_J7_fill_53178_5 (p0_n : Nat)  (n : Nat) : (Nat → Int32) → Int32 → Int32 → Int32 → (Option ((Nat → Int32))) := Nat.rec (fun _ _ _ _ => none) (fun _ ih => t_J7_fill_53178_5_b p0_n  ih) n
def t_J7_fill_53178 (p0_n : Nat) (p0 : Nat → Int32) (x1 : Int32) : Option ((Nat → Int32)) := t_J7_fill_53178_5 p0_n  lfuel p0 x1 (0 : Int32) (Int32.ofNat p0_n)
set_option maxHeartbeats 4000000 in
set_option maxRecDepth 100000 in
theorem b_J7_fill_53178_5_b {p : Program} {l : Launch} {e : Env} {s : State} {m : MethodId} {args : Array Value} {below : List Frame} {meth : Method} {c : Code} {D : va_G} {A : Nat → Prop} {cI cJ cZ : ClassId} (X : Cx p m c cJ7_fill_53178 4 s args wsJ7_fill_53178 RJ7 D (tys3 cI cJ cZ) meth none) (_ _ _ : ClassId)  (h_p0 : Nat) (p0_n : Nat)  (z0 : Nat → Int32) (k_5 : (Nat → Int32) → Int32 → Int32 → Int32 → (Option ((Nat → Int32)))) (hk_5 : ∀ (p0 : Nat → Int32) (x1 : Int32) (x2 : Int32) (x3 : Int32), k_5 p0 x1 x2 x3 = some z0 → J p l e rmJ7_fill_53178 s m args below meth c D A 4 (QV D below args s A (w_J7_fill_53178 cI cJ cZ h_p0 p0_n z0)) 0 0 (w_J7_fill_53178 cI cJ cZ h_p0 p0_n p0) [(0, .ref h_p0), (1, .int x1), (2, .int x2), (3, .int x3)] [] 5) (p0 : Nat → Int32) (x1 : Int32) (x2 : Int32) (x3 : Int32) (hT : t_J7_fill_53178_5_b p0_n k_5 p0 x1 x2 x3 = some z0) : J p l e rmJ7_fill_53178 s m args below meth c D A 4 (QV D below args s A (w_J7_fill_53178 cI cJ cZ h_p0 p0_n z0)) 0 0 (w_J7_fill_53178 cI cJ cZ h_p0 p0_n p0) [(0, .ref h_p0), (1, .int x1), (2, .int x2), (3, .int x3)] [] 5 := by
  unfold t_J7_fill_53178_5_b at hT
  refine J_iload_n X dJ7_fill_53178_5 2 rfl ?_
  refine J_iload_n X dJ7_fill_53178_6 3 rfl ?_
  refine J_icmp_ge (tgt := 20) X dJ7_fill_53178_7 (by decide) (fun hc1 => ?_) (fun hc1 => ?_)
  · have hT := ift hT hc1
    cases hT
    exact J_vret X dJ7_fill_53178_20
  · have hT := iff_ hT hc1
    refine J_aload_n X dJ7_fill_53178_10 0 rfl ?_
    refine J_iload_n X dJ7_fill_53178_11 2 rfl ?_
    refine J_iload_n X dJ7_fill_53178_12 1 rfl ?_
    obtain ⟨hk2, hT⟩ := ckn_e hT
    refine J_iast (ws' := (w_J7_fill_53178 cI cJ cZ h_p0 p0_n (upd p0 x2.toNatClampNeg x1))) X 0 rfl rfl hk2 rfl dJ7_fill_53178_13 ?_
    refine J_iinc (lv' := [(2, .int (x2 + (1 : Int32))), (0, .ref h_p0), (1, .int x1), (3, .int x3)]) (j := 2) X dJ7_fill_53178_14 rfl rfl (by decide) rfl ?_
    refine J_goto (tgt := 5) X dJ7_fill_53178_17 (by decide) ?_
    refine J_lv (lv' := [(0, .ref h_p0), (1, .int x1), (2, .int (x2 + (1 : Int32))), (3, .int x3)]) [1, 2, 0, 3] rfl ?_
    exact hk_5 (upd p0 x2.toNatClampNeg x1) x1 (x2 + (1 : Int32)) x3 hT
set_option maxHeartbeats 4000000 in
set_option maxRecDepth 100000 in
theorem b_J7_fill_53178_5 {p : Program} {l : Launch} {e : Env} {s : State} {m : MethodId} {args : Array Value} {below : List Frame} {meth : Method} {c : Code} {D : va_G} {A : Nat → Prop} {cI cJ cZ : ClassId} (X : Cx p m c cJ7_fill_53178 4 s args wsJ7_fill_53178 RJ7 D (tys3 cI cJ cZ) meth none) (_ _ _ : ClassId)  (h_p0 : Nat) (p0_n : Nat)  (z0 : Nat → Int32)  : ∀ (n : Nat) (p0 : Nat → Int32) (x1 : Int32) (x2 : Int32) (x3 : Int32) (hT : t_J7_fill_53178_5 p0_n  n p0 x1 x2 x3 = some z0), J p l e rmJ7_fill_53178 s m args below meth c D A 4 (QV D below args s A (w_J7_fill_53178 cI cJ cZ h_p0 p0_n z0)) 0 0 (w_J7_fill_53178 cI cJ cZ h_p0 p0_n p0) [(0, .ref h_p0), (1, .int x1), (2, .int x2), (3, .int x3)] [] 5 := by
  intro n
  induction n with
  | zero => intro p0 x1 x2 x3 hT; cases hT
  | succ n ih =>
    intro p0 x1 x2 x3 hT
    exact b_J7_fill_53178_5_b X cI cJ cZ h_p0 p0_n  z0  (t_J7_fill_53178_5 p0_n  n) ih p0 x1 x2 x3 hT
set_option maxHeartbeats 4000000 in
set_option maxRecDepth 100000 in
theorem c_J7_fill_53178 (l : Launch) (D : va_G) (cI cJ cZ : ClassId) (h_p0 : Nat) (p0_n : Nat) (p0 : Nat → Int32) (x1 : Int32) (z0 : Nat → Int32) (hT : t_J7_fill_53178 p0_n p0 x1 = some z0) : Cv l yJ7_fill_53178 wsJ7_fill_53178 rmJ7_fill_53178 D (tys3 cI cJ cZ) [.ref h_p0, .int x1] (w_J7_fill_53178 cI cJ cZ h_p0 p0_n p0) (w_J7_fill_53178 cI cJ cZ h_p0 p0_n z0) := by
  refine Cv.ofJ (cc := cJ7_fill_53178) (nL := 4) (rt := none) (own := RJ7) (by decide) rfl rfl (Nat.le_of_ble_eq_true rfl) ?_
  intro p e s m below meth c A X
  unfold t_J7_fill_53178 at hT
  refine J_lv (lv' := [(0, .ref h_p0), (1, .int x1)]) [0, 1] rfl ?_
  refine J_iconst (v := 0) X dJ7_fill_53178_0 (by decide) ?_
  refine J_istore_n (lv' := [(2, .int (0 : Int32)), (0, .ref h_p0), (1, .int x1)]) X dJ7_fill_53178_1 (by decide) rfl ?_
  refine J_aload_n X dJ7_fill_53178_2 1 rfl ?_
  refine J_alen (v := Int32.ofNat p0_n) X 0 0 rfl rfl rfl dJ7_fill_53178_3 ?_
  refine J_istore_n (lv' := [(3, .int (Int32.ofNat p0_n)), (2, .int (0 : Int32)), (0, .ref h_p0), (1, .int x1)]) X dJ7_fill_53178_4 (by decide) rfl ?_
  refine J_lv (lv' := [(0, .ref h_p0), (1, .int x1), (2, .int (0 : Int32)), (3, .int (Int32.ofNat p0_n))]) [2, 3, 1, 0] rfl ?_
  exact b_J7_fill_53178_5 X cI cJ cZ h_p0 p0_n  z0  lfuel p0 x1 (0 : Int32) (Int32.ofNat p0_n) hT
-- ===== SoldMatches$Bets.seekFree(II)I
abbrev rmX0_seekFree : Room := { frames := 1, cells := 0, slots := 0, locals := 25 }
def w_X0_seekFree (cI cJ cZ : ClassId) (h_this : Nat) (q_this : Nat → Nat) (this_count : Int32) (this_near : Int32) (this_times : Int32) (this_ties : Int32) (this_end : Nat → Int32) (this_hand : Nat → Int32) (this_match : Nat → Int32) (this_minute : Nat → Int32) (this_partner : Nat → Int32) (this_reachedFrom : Nat → Int32) (this_sum : Nat → Int32) (this_waiting : Nat → Int32) : va_W := [(h_this, .inr (0, oFX0 q_this this_count this_near this_times this_ties)), ((q_this 6), .inl (cI, 40, .inl this_end)), ((q_this 4), .inl (cI, 40, .inl this_hand)), ((q_this 5), .inl (cI, 40, .inl this_match)), ((q_this 7), .inl (cI, 40, .inl this_minute)), ((q_this 9), .inl (cI, 40, .inl this_partner)), ((q_this 10), .inl (cI, 40, .inl this_reachedFrom)), ((q_this 8), .inl (cI, 40, .inl this_sum)), ((q_this 11), .inl (cI, 40, .inl this_waiting))]
theorem m_X0_seekFree_f49 : Cond.fieldLink RX0 49 "SoldMatches$Bets" "count" "I" ∈ wsX0_seekFree := List.mem_of_getElem? (i := 3) rfl
theorem in_X0_seekFree_X0 : ∀ w ∈ wsX00, w ∈ wsX0_seekFree := fun w h => List.mem_cons_of_mem _ (List.mem_append_right _ h)
theorem m_X0_seekFree_f21 : Cond.fieldLink RX0 21 "SoldMatches$Bets" "hand" "[I" ∈ wsX0_seekFree := List.mem_of_getElem? (i := 4) rfl
theorem m_X0_seekFree_f40 : Cond.fieldLink RX0 40 "SoldMatches$Bets" "reachedFrom" "[I" ∈ wsX0_seekFree := List.mem_of_getElem? (i := 1) rfl
theorem cw_X0_seekFree_X0_areAlike_79 {s : State} {args : Array Value} (hts : ∀ w ∈ wsX0_seekFree, w.before args s = true) : CallW rmX0_seekFree s args RX0 RX0 79 yX0_areAlike cX0_areAlike 6 (some .boolean) wsX0_areAlike rmX0_areAlike 0 0 2 := cwV 2 hts gX0_seekFree_X0_areAlike rfl rfl rfl (by decide +kernel) ⟨by decide, by decide⟩
theorem m_X0_seekFree_f37 : Cond.fieldLink RX0 37 "SoldMatches$Bets" "partner" "[I" ∈ wsX0_seekFree := List.mem_of_getElem? (i := 5) rfl
theorem m_X0_seekFree_f43 : Cond.fieldLink RX0 43 "SoldMatches$Bets" "waiting" "[I" ∈ wsX0_seekFree := List.mem_of_getElem? (i := 2) rfl
theorem cw_X0_seekFree_J7_fill_53178_65 {s : State} {args : Array Value} (hts : ∀ w ∈ wsX0_seekFree, w.before args s = true) : CallB rmX0_seekFree s args RX0 65 yJ7_fill_53178 cJ7_fill_53178 4 none wsJ7_fill_53178 rmJ7_fill_53178 0 0 2 ∧ (Cond.static yJ7_fill_53178).before args s = true := va_cwS 2 hts gX0_seekFree_J7_fill_53178 rfl rfl rfl (by decide +kernel) ⟨by decide, by decide⟩
def t_X0_seekFree_134  (k_20 : Int32 → Int32 → Int32 → (Nat → Int32) → (Nat → Int32) → (Nat → Int32) → (Nat → Int32) → (Nat → Int32) → (Nat → Int32) → (Nat → Int32) → (Nat → Int32) → Int32 → Int32 → Int32 → (Option (Int32 × (Nat → Int32) × (Nat → Int32)))) (this_count : Int32) (this_near : Int32) (this_times : Int32) (this_end : Nat → Int32) (this_hand : Nat → Int32) (this_match : Nat → Int32) (this_minute : Nat → Int32) (this_partner : Nat → Int32) (this_reachedFrom : Nat → Int32) (this_sum : Nat → Int32) (this_waiting : Nat → Int32) (x2 : Int32) (x3 : Int32) (x4 : Int32) : Option (Int32 × (Nat → Int32) × (Nat → Int32)) := k_20 this_count this_near this_times this_end this_hand this_match this_minute this_partner this_reachedFrom this_sum this_waiting x2 x3 (x4 + (1 : Int32))
def t_X0_seekFree_128  (k_20 : Int32 → Int32 → Int32 → (Nat → Int32) → (Nat → Int32) → (Nat → Int32) → (Nat → Int32) → (Nat → Int32) → (Nat → Int32) → (Nat → Int32) → (Nat → Int32) → Int32 → Int32 → Int32 → (Option (Int32 × (Nat → Int32) × (Nat → Int32)))) (k_38 : Int32 → Int32 → Int32 → (Nat → Int32) → (Nat → Int32) → (Nat → Int32) → (Nat → Int32) → (Nat → Int32) → (Nat → Int32) → (Nat → Int32) → (Nat → Int32) → Int32 → Int32 → Int32 → Int32 → Int32 → (Option (Int32 × (Nat → Int32) × (Nat → Int32)))) (this_count : Int32) (this_near : Int32) (this_times : Int32) (this_end : Nat → Int32) (this_hand : Nat → Int32) (this_match : Nat → Int32) (this_minute : Nat → Int32) (this_partner : Nat → Int32) (this_reachedFrom : Nat → Int32) (this_sum : Nat → Int32) (this_waiting : Nat → Int32) (x2 : Int32) (x3 : Int32) (x4 : Int32) (x5 : Int32) (x6 : Int32) : Option (Int32 × (Nat → Int32) × (Nat → Int32)) := k_38 this_count this_near this_times this_end this_hand this_match this_minute this_partner this_reachedFrom this_sum this_waiting x2 x3 x4 x5 (x6 + (1 : Int32))
def t_X0_seekFree_38_b  (k_20 : Int32 → Int32 → Int32 → (Nat → Int32) → (Nat → Int32) → (Nat → Int32) → (Nat → Int32) → (Nat → Int32) → (Nat → Int32) → (Nat → Int32) → (Nat → Int32) → Int32 → Int32 → Int32 → (Option (Int32 × (Nat → Int32) × (Nat → Int32)))) (k_38 : Int32 → Int32 → Int32 → (Nat → Int32) → (Nat → Int32) → (Nat → Int32) → (Nat → Int32) → (Nat → Int32) → (Nat → Int32) → (Nat → Int32) → (Nat → Int32) → Int32 → Int32 → Int32 → Int32 → Int32 → (Option (Int32 × (Nat → Int32) × (Nat → Int32)))) (this_count : Int32) (this_near : Int32) (this_times : Int32) (this_end : Nat → Int32) (this_hand : Nat → Int32) (this_match : Nat → Int32) (this_minute : Nat → Int32) (this_partner : Nat → Int32) (this_reachedFrom : Nat → Int32) (this_sum : Nat → Int32) (this_waiting : Nat → Int32) (x2 : Int32) (x3 : Int32) (x4 : Int32) (x5 : Int32) (x6 : Int32) : Option (Int32 × (Nat → Int32) × (Nat → Int32)) := if this_count ≤ x6 then (t_X0_seekFree_134  k_20 this_count this_near this_times this_end this_hand this_match this_minute this_partner this_reachedFrom this_sum this_waiting x2 x3 x4) else (ckn (x6 < 0 ∨ 40 ≤ x6.toNatClampNeg) (if (this_hand x6.toNatClampNeg) = x2 then (ckn (x6 < 0 ∨ 40 ≤ x6.toNatClampNeg) (if (this_reachedFrom x6.toNatClampNeg) = (-1 : Int32) then (bd1 (t_X0_areAlike this_near this_times this_end this_match this_minute this_sum x5 x6) (fun v6 => if v6 = 0 then (t_X0_seekFree_128  k_20 k_38 this_count this_near this_times this_end this_hand this_match this_minute this_partner this_reachedFrom this_sum this_waiting x2 x3 x4 x5 x6) else (ckn (x6 < 0 ∨ 40 ≤ x6.toNatClampNeg) (ckn (x6 < 0 ∨ 40 ≤ x6.toNatClampNeg) (if (this_partner x6.toNatClampNeg) = (-1 : Int32) then (some (x6, upd this_reachedFrom x6.toNatClampNeg x5, this_waiting)) else (if (40 : Int32) ≤ x3 then (t_X0_seekFree_128  k_20 k_38 this_count this_near this_times this_end this_hand this_match this_minute this_partner (upd this_reachedFrom x6.toNatClampNeg x5) this_sum this_waiting x2 x3 x4 x5 x6) else (ckn (x6 < 0 ∨ 40 ≤ x6.toNatClampNeg) (ckn (x3 < 0 ∨ 40 ≤ x3.toNatClampNeg) (t_X0_seekFree_128  k_20 k_38 this_count this_near this_times this_end this_hand this_match this_minute this_partner (upd this_reachedFrom x6.toNatClampNeg x5) this_sum (upd this_waiting x3.toNatClampNeg (this_partner x6.toNatClampNeg)) x2 (x3 + (1 : Int32)) x4 x5 x6))))))))) else (t_X0_seekFree_128  k_20 k_38 this_count this_near this_times this_end this_hand this_match this_minute this_partner this_reachedFrom this_sum this_waiting x2 x3 x4 x5 x6))) else (t_X0_seekFree_128  k_20 k_38 this_count this_near this_times this_end this_hand this_match this_minute this_partner this_reachedFrom this_sum this_waiting x2 x3 x4 x5 x6)))
def t_X0_seekFree_38  (k_20 : Int32 → Int32 → Int32 → (Nat → Int32) → (Nat → Int32) → (Nat → Int32) → (Nat → Int32) → (Nat → Int32) → (Nat → Int32) → (Nat → Int32) → (Nat → Int32) → Int32 → Int32 → Int32 → (Option (Int32 × (Nat → Int32) × (Nat → Int32)))) (n : Nat) : Int32 → Int32 → Int32 → (Nat → Int32) → (Nat → Int32) → (Nat → Int32) → (Nat → Int32) → (Nat → Int32) → (Nat → Int32) → (Nat → Int32) → (Nat → Int32) → Int32 → Int32 → Int32 → Int32 → Int32 → (Option (Int32 × (Nat → Int32) × (Nat → Int32))) := Nat.rec (fun _ _ _ _ _ _ _ _ _ _ _ _ _ _ _ _ => none) (fun _ ih => t_X0_seekFree_38_b  k_20 ih) n
def t_X0_seekFree_20_b  (k_20 : Int32 → Int32 → Int32 → (Nat → Int32) → (Nat → Int32) → (Nat → Int32) → (Nat → Int32) → (Nat → Int32) → (Nat → Int32) → (Nat → Int32) → (Nat → Int32) → Int32 → Int32 → Int32 → (Option (Int32 × (Nat → Int32) × (Nat → Int32)))) (this_count : Int32) (this_near : Int32) (this_times : Int32) (this_end : Nat → Int32) (this_hand : Nat → Int32) (this_match : Nat → Int32) (this_minute : Nat → Int32) (this_partner : Nat → Int32) (this_reachedFrom : Nat → Int32) (this_sum : Nat → Int32) (this_waiting : Nat → Int32) (x2 : Int32) (x3 : Int32) (x4 : Int32) : Option (Int32 × (Nat → Int32) × (Nat → Int32)) := if x3 ≤ x4 then (some ((-1 : Int32), this_reachedFrom, this_waiting)) else (ckn (x4 < 0 ∨ 40 ≤ x4.toNatClampNeg) (t_X0_seekFree_38  k_20 lfuel this_count this_near this_times this_end this_hand this_match this_minute this_partner this_reachedFrom this_sum this_waiting x2 x3 x4 (this_waiting x4.toNatClampNeg) (0 : Int32)))
def t_X0_seekFree_20   (n : Nat) : Int32 → Int32 → Int32 → (Nat → Int32) → (Nat → Int32) → (Nat → Int32) → (Nat → Int32) → (Nat → Int32) → (Nat → Int32) → (Nat → Int32) → (Nat → Int32) → Int32 → Int32 → Int32 → (Option (Int32 × (Nat → Int32) × (Nat → Int32))) := Nat.rec (fun _ _ _ _ _ _ _ _ _ _ _ _ _ _ => none) (fun _ ih => t_X0_seekFree_20_b   ih) n
def t_X0_seekFree  (this_count : Int32) (this_near : Int32) (this_times : Int32) (this_end : Nat → Int32) (this_hand : Nat → Int32) (this_match : Nat → Int32) (this_minute : Nat → Int32) (this_partner : Nat → Int32) (this_reachedFrom : Nat → Int32) (this_sum : Nat → Int32) (this_waiting : Nat → Int32) (x1 : Int32) (x2 : Int32) : Option (Int32 × (Nat → Int32) × (Nat → Int32)) := bd1 (t_J7_fill_53178 40 this_reachedFrom (-1 : Int32)) (fun u16_0 => ckn ((0 : Int32) < 0 ∨ 40 ≤ (0 : Int32).toNatClampNeg) (t_X0_seekFree_20   lfuel this_count this_near this_times this_end this_hand this_match this_minute this_partner u16_0 this_sum (upd this_waiting (0 : Int32).toNatClampNeg x1) x2 (1 : Int32) (0 : Int32)))
set_option maxHeartbeats 4000000 in
set_option maxRecDepth 100000 in
theorem b_X0_seekFree_134 {p : Program} {l : Launch} {e : Env} {s : State} {m : MethodId} {args : Array Value} {below : List Frame} {meth : Method} {c : Code} {D : va_G} {A : Nat → Prop} {cI cJ cZ : ClassId} (X : Cx p m c cX0_seekFree 7 s args wsX0_seekFree RX0 D (tys3 cI cJ cZ) meth (some .int)) (_ _ _ : ClassId)  (h_this : Nat) (q_this : Nat → Nat) (this_ties : Int32) (r : Int32) (z0 : Nat → Int32) (z1 : Nat → Int32) (k_20 : Int32 → Int32 → Int32 → (Nat → Int32) → (Nat → Int32) → (Nat → Int32) → (Nat → Int32) → (Nat → Int32) → (Nat → Int32) → (Nat → Int32) → (Nat → Int32) → Int32 → Int32 → Int32 → (Option (Int32 × (Nat → Int32) × (Nat → Int32)))) (hk_20 : ∀ (this_count : Int32) (this_near : Int32) (this_times : Int32) (this_end : Nat → Int32) (this_hand : Nat → Int32) (this_match : Nat → Int32) (this_minute : Nat → Int32) (this_partner : Nat → Int32) (this_reachedFrom : Nat → Int32) (this_sum : Nat → Int32) (this_waiting : Nat → Int32) (x2 : Int32) (x3 : Int32) (x4 : Int32), k_20 this_count this_near this_times this_end this_hand this_match this_minute this_partner this_reachedFrom this_sum this_waiting x2 x3 x4 = some (r, z0, z1) → J p l e rmX0_seekFree s m args below meth c D A 7 (QI D below args s A r (w_X0_seekFree cI cJ cZ h_this q_this this_count this_near this_times this_ties this_end this_hand this_match this_minute this_partner z0 this_sum z1)) 0 0 (w_X0_seekFree cI cJ cZ h_this q_this this_count this_near this_times this_ties this_end this_hand this_match this_minute this_partner this_reachedFrom this_sum this_waiting) [(0, .ref h_this), (2, .int x2), (3, .int x3), (4, .int x4)] [] 20) (this_count : Int32) (this_near : Int32) (this_times : Int32) (this_end : Nat → Int32) (this_hand : Nat → Int32) (this_match : Nat → Int32) (this_minute : Nat → Int32) (this_partner : Nat → Int32) (this_reachedFrom : Nat → Int32) (this_sum : Nat → Int32) (this_waiting : Nat → Int32) (x2 : Int32) (x3 : Int32) (x4 : Int32) (hT : t_X0_seekFree_134  k_20 this_count this_near this_times this_end this_hand this_match this_minute this_partner this_reachedFrom this_sum this_waiting x2 x3 x4 = some (r, z0, z1)) : J p l e rmX0_seekFree s m args below meth c D A 7 (QI D below args s A r (w_X0_seekFree cI cJ cZ h_this q_this this_count this_near this_times this_ties this_end this_hand this_match this_minute this_partner z0 this_sum z1)) 0 0 (w_X0_seekFree cI cJ cZ h_this q_this this_count this_near this_times this_ties this_end this_hand this_match this_minute this_partner this_reachedFrom this_sum this_waiting) [(0, .ref h_this), (2, .int x2), (3, .int x3), (4, .int x4)] [] 134 := by
  unfold t_X0_seekFree_134 at hT
  refine J_iinc (lv' := [(4, .int (x4 + (1 : Int32))), (0, .ref h_this), (2, .int x2), (3, .int x3)]) (j := 3) X dX0_seekFree_134 rfl rfl (by decide) rfl ?_
  refine J_goto (tgt := 20) X dX0_seekFree_137 (by decide) ?_
  refine J_lv (lv' := [(0, .ref h_this), (2, .int x2), (3, .int x3), (4, .int (x4 + (1 : Int32)))]) [1, 2, 3, 0] rfl ?_
  exact hk_20 this_count this_near this_times this_end this_hand this_match this_minute this_partner this_reachedFrom this_sum this_waiting x2 x3 (x4 + (1 : Int32)) hT
set_option maxHeartbeats 4000000 in
set_option maxRecDepth 100000 in
theorem b_X0_seekFree_128 {p : Program} {l : Launch} {e : Env} {s : State} {m : MethodId} {args : Array Value} {below : List Frame} {meth : Method} {c : Code} {D : va_G} {A : Nat → Prop} {cI cJ cZ : ClassId} (X : Cx p m c cX0_seekFree 7 s args wsX0_seekFree RX0 D (tys3 cI cJ cZ) meth (some .int)) (_ _ _ : ClassId)  (h_this : Nat) (q_this : Nat → Nat) (this_ties : Int32) (r : Int32) (z0 : Nat → Int32) (z1 : Nat → Int32) (k_20 : Int32 → Int32 → Int32 → (Nat → Int32) → (Nat → Int32) → (Nat → Int32) → (Nat → Int32) → (Nat → Int32) → (Nat → Int32) → (Nat → Int32) → (Nat → Int32) → Int32 → Int32 → Int32 → (Option (Int32 × (Nat → Int32) × (Nat → Int32)))) (hk_20 : ∀ (this_count : Int32) (this_near : Int32) (this_times : Int32) (this_end : Nat → Int32) (this_hand : Nat → Int32) (this_match : Nat → Int32) (this_minute : Nat → Int32) (this_partner : Nat → Int32) (this_reachedFrom : Nat → Int32) (this_sum : Nat → Int32) (this_waiting : Nat → Int32) (x2 : Int32) (x3 : Int32) (x4 : Int32), k_20 this_count this_near this_times this_end this_hand this_match this_minute this_partner this_reachedFrom this_sum this_waiting x2 x3 x4 = some (r, z0, z1) → J p l e rmX0_seekFree s m args below meth c D A 7 (QI D below args s A r (w_X0_seekFree cI cJ cZ h_this q_this this_count this_near this_times this_ties this_end this_hand this_match this_minute this_partner z0 this_sum z1)) 0 0 (w_X0_seekFree cI cJ cZ h_this q_this this_count this_near this_times this_ties this_end this_hand this_match this_minute this_partner this_reachedFrom this_sum this_waiting) [(0, .ref h_this), (2, .int x2), (3, .int x3), (4, .int x4)] [] 20) (k_38 : Int32 → Int32 → Int32 → (Nat → Int32) → (Nat → Int32) → (Nat → Int32) → (Nat → Int32) → (Nat → Int32) → (Nat → Int32) → (Nat → Int32) → (Nat → Int32) → Int32 → Int32 → Int32 → Int32 → Int32 → (Option (Int32 × (Nat → Int32) × (Nat → Int32)))) (hk_38 : ∀ (this_count : Int32) (this_near : Int32) (this_times : Int32) (this_end : Nat → Int32) (this_hand : Nat → Int32) (this_match : Nat → Int32) (this_minute : Nat → Int32) (this_partner : Nat → Int32) (this_reachedFrom : Nat → Int32) (this_sum : Nat → Int32) (this_waiting : Nat → Int32) (x2 : Int32) (x3 : Int32) (x4 : Int32) (x5 : Int32) (x6 : Int32), k_38 this_count this_near this_times this_end this_hand this_match this_minute this_partner this_reachedFrom this_sum this_waiting x2 x3 x4 x5 x6 = some (r, z0, z1) → J p l e rmX0_seekFree s m args below meth c D A 7 (QI D below args s A r (w_X0_seekFree cI cJ cZ h_this q_this this_count this_near this_times this_ties this_end this_hand this_match this_minute this_partner z0 this_sum z1)) 0 0 (w_X0_seekFree cI cJ cZ h_this q_this this_count this_near this_times this_ties this_end this_hand this_match this_minute this_partner this_reachedFrom this_sum this_waiting) [(0, .ref h_this), (2, .int x2), (3, .int x3), (4, .int x4), (5, .int x5), (6, .int x6)] [] 38) (this_count : Int32) (this_near : Int32) (this_times : Int32) (this_end : Nat → Int32) (this_hand : Nat → Int32) (this_match : Nat → Int32) (this_minute : Nat → Int32) (this_partner : Nat → Int32) (this_reachedFrom : Nat → Int32) (this_sum : Nat → Int32) (this_waiting : Nat → Int32) (x2 : Int32) (x3 : Int32) (x4 : Int32) (x5 : Int32) (x6 : Int32) (hT : t_X0_seekFree_128  k_20 k_38 this_count this_near this_times this_end this_hand this_match this_minute this_partner this_reachedFrom this_sum this_waiting x2 x3 x4 x5 x6 = some (r, z0, z1)) : J p l e rmX0_seekFree s m args below meth c D A 7 (QI D below args s A r (w_X0_seekFree cI cJ cZ h_this q_this this_count this_near this_times this_ties this_end this_hand this_match this_minute this_partner z0 this_sum z1)) 0 0 (w_X0_seekFree cI cJ cZ h_this q_this this_count this_near this_times this_ties this_end this_hand this_match this_minute this_partner this_reachedFrom this_sum this_waiting) [(0, .ref h_this), (2, .int x2), (3, .int x3), (4, .int x4), (5, .int x5), (6, .int x6)] [] 128 := by
  unfold t_X0_seekFree_128 at hT
  refine J_iinc (lv' := [(6, .int (x6 + (1 : Int32))), (0, .ref h_this), (2, .int x2), (3, .int x3), (4, .int x4), (5, .int x5)]) (j := 5) X dX0_seekFree_128 rfl rfl (by decide) rfl ?_
  refine J_goto (tgt := 38) X dX0_seekFree_131 (by decide) ?_
  refine J_lv (lv' := [(0, .ref h_this), (2, .int x2), (3, .int x3), (4, .int x4), (5, .int x5), (6, .int (x6 + (1 : Int32)))]) [1, 2, 3, 4, 5, 0] rfl ?_
  exact hk_38 this_count this_near this_times this_end this_hand this_match this_minute this_partner this_reachedFrom this_sum this_waiting x2 x3 x4 x5 (x6 + (1 : Int32)) hT
set_option maxHeartbeats 4000000 in
set_option maxRecDepth 100000 in
theorem b_X0_seekFree_38_b {p : Program} {l : Launch} {e : Env} {s : State} {m : MethodId} {args : Array Value} {below : List Frame} {meth : Method} {c : Code} {D : va_G} {A : Nat → Prop} {cI cJ cZ : ClassId} (X : Cx p m c cX0_seekFree 7 s args wsX0_seekFree RX0 D (tys3 cI cJ cZ) meth (some .int)) (_ _ _ : ClassId)  (h_this : Nat) (q_this : Nat → Nat) (this_ties : Int32) (r : Int32) (z0 : Nat → Int32) (z1 : Nat → Int32) (k_20 : Int32 → Int32 → Int32 → (Nat → Int32) → (Nat → Int32) → (Nat → Int32) → (Nat → Int32) → (Nat → Int32) → (Nat → Int32) → (Nat → Int32) → (Nat → Int32) → Int32 → Int32 → Int32 → (Option (Int32 × (Nat → Int32) × (Nat → Int32)))) (hk_20 : ∀ (this_count : Int32) (this_near : Int32) (this_times : Int32) (this_end : Nat → Int32) (this_hand : Nat → Int32) (this_match : Nat → Int32) (this_minute : Nat → Int32) (this_partner : Nat → Int32) (this_reachedFrom : Nat → Int32) (this_sum : Nat → Int32) (this_waiting : Nat → Int32) (x2 : Int32) (x3 : Int32) (x4 : Int32), k_20 this_count this_near this_times this_end this_hand this_match this_minute this_partner this_reachedFrom this_sum this_waiting x2 x3 x4 = some (r, z0, z1) → J p l e rmX0_seekFree s m args below meth c D A 7 (QI D below args s A r (w_X0_seekFree cI cJ cZ h_this q_this this_count this_near this_times this_ties this_end this_hand this_match this_minute this_partner z0 this_sum z1)) 0 0 (w_X0_seekFree cI cJ cZ h_this q_this this_count this_near this_times this_ties this_end this_hand this_match this_minute this_partner this_reachedFrom this_sum this_waiting) [(0, .ref h_this), (2, .int x2), (3, .int x3), (4, .int x4)] [] 20) (k_38 : Int32 → Int32 → Int32 → (Nat → Int32) → (Nat → Int32) → (Nat → Int32) → (Nat → Int32) → (Nat → Int32) → (Nat → Int32) → (Nat → Int32) → (Nat → Int32) → Int32 → Int32 → Int32 → Int32 → Int32 → (Option (Int32 × (Nat → Int32) × (Nat → Int32)))) (hk_38 : ∀ (this_count : Int32) (this_near : Int32) (this_times : Int32) (this_end : Nat → Int32) (this_hand : Nat → Int32) (this_match : Nat → Int32) (this_minute : Nat → Int32) (this_partner : Nat → Int32) (this_reachedFrom : Nat → Int32) (this_sum : Nat → Int32) (this_waiting : Nat → Int32) (x2 : Int32) (x3 : Int32) (x4 : Int32) (x5 : Int32) (x6 : Int32), k_38 this_count this_near this_times this_end this_hand this_match this_minute this_partner this_reachedFrom this_sum this_waiting x2 x3 x4 x5 x6 = some (r, z0, z1) → J p l e rmX0_seekFree s m args below meth c D A 7 (QI D below args s A r (w_X0_seekFree cI cJ cZ h_this q_this this_count this_near this_times this_ties this_end this_hand this_match this_minute this_partner z0 this_sum z1)) 0 0 (w_X0_seekFree cI cJ cZ h_this q_this this_count this_near this_times this_ties this_end this_hand this_match this_minute this_partner this_reachedFrom this_sum this_waiting) [(0, .ref h_this), (2, .int x2), (3, .int x3), (4, .int x4), (5, .int x5), (6, .int x6)] [] 38) (this_count : Int32) (this_near : Int32) (this_times : Int32) (this_end : Nat → Int32) (this_hand : Nat → Int32) (this_match : Nat → Int32) (this_minute : Nat → Int32) (this_partner : Nat → Int32) (this_reachedFrom : Nat → Int32) (this_sum : Nat → Int32) (this_waiting : Nat → Int32) (x2 : Int32) (x3 : Int32) (x4 : Int32) (x5 : Int32) (x6 : Int32) (hT : t_X0_seekFree_38_b  k_20 k_38 this_count this_near this_times this_end this_hand this_match this_minute this_partner this_reachedFrom this_sum this_waiting x2 x3 x4 x5 x6 = some (r, z0, z1)) : J p l e rmX0_seekFree s m args below meth c D A 7 (QI D below args s A r (w_X0_seekFree cI cJ cZ h_this q_this this_count this_near this_times this_ties this_end this_hand this_match this_minute this_partner z0 this_sum z1)) 0 0 (w_X0_seekFree cI cJ cZ h_this q_this this_count this_near this_times this_ties this_end this_hand this_match this_minute this_partner this_reachedFrom this_sum this_waiting) [(0, .ref h_this), (2, .int x2), (3, .int x3), (4, .int x4), (5, .int x5), (6, .int x6)] [] 38 := by
  unfold t_X0_seekFree_38_b at hT
  refine J_iload X dX0_seekFree_38 5 rfl ?_
  refine J_aload_n X dX0_seekFree_40 0 rfl ?_
  refine J_get (C := RX0) (T := TX0) (N := 13) (ci := 0) (v := .int this_count) X in_X0_seekFree_X0 0 rfl rfl 0 (by decide) m_X0_seekFree_f49 rfl dX0_seekFree_41 ?_
  refine J_icmp_ge (tgt := 134) X dX0_seekFree_44 (by decide) (fun hc1 => ?_) (fun hc1 => ?_)
  · have hT := ift hT hc1
    refine J_lv (lv' := [(0, .ref h_this), (2, .int x2), (3, .int x3), (4, .int x4)]) [0, 1, 2, 3] rfl ?_
    exact b_X0_seekFree_134 X cI cJ cZ h_this q_this this_ties r z0 z1 k_20 hk_20 this_count this_near this_times this_end this_hand this_match this_minute this_partner this_reachedFrom this_sum this_waiting x2 x3 x4 hT
  · have hT := iff_ hT hc1
    refine J_aload_n X dX0_seekFree_47 0 rfl ?_
    refine J_get (C := RX0) (T := TX0) (N := 13) (ci := 0) (v := .ref (q_this 4)) X in_X0_seekFree_X0 0 rfl rfl 4 (by decide) m_X0_seekFree_f21 rfl dX0_seekFree_48 ?_
    refine J_iload X dX0_seekFree_51 5 rfl ?_
    obtain ⟨hk2, hT⟩ := ckn_e hT
    refine J_iald X 2 rfl rfl hk2 dX0_seekFree_53 ?_
    refine J_iload_n X dX0_seekFree_54 1 rfl ?_
    refine J_icmp_ne (tgt := 128) X dX0_seekFree_55 (by decide) (fun hc3 => ?_) (fun hc3 => ?_)
    · have hT := iff_ hT hc3
      exact b_X0_seekFree_128 X cI cJ cZ h_this q_this this_ties r z0 z1 k_20 hk_20 k_38 hk_38 this_count this_near this_times this_end this_hand this_match this_minute this_partner this_reachedFrom this_sum this_waiting x2 x3 x4 x5 x6 hT
    · have hT := ift hT hc3
      refine J_aload_n X dX0_seekFree_58 0 rfl ?_
      refine J_get (C := RX0) (T := TX0) (N := 13) (ci := 0) (v := .ref (q_this 10)) X in_X0_seekFree_X0 0 rfl rfl 10 (by decide) m_X0_seekFree_f40 rfl dX0_seekFree_59 ?_
      refine J_iload X dX0_seekFree_62 5 rfl ?_
      obtain ⟨hk4, hT⟩ := ckn_e hT
      refine J_iald X 6 rfl rfl hk4 dX0_seekFree_64 ?_
      refine J_iconst (v := -1) X dX0_seekFree_65 (by decide) ?_
      refine J_icmp_ne (tgt := 128) X dX0_seekFree_66 (by decide) (fun hc5 => ?_) (fun hc5 => ?_)
      · have hT := iff_ hT hc5
        exact b_X0_seekFree_128 X cI cJ cZ h_this q_this this_ties r z0 z1 k_20 hk_20 k_38 hk_38 this_count this_near this_times this_end this_hand this_match this_minute this_partner this_reachedFrom this_sum this_waiting x2 x3 x4 x5 x6 hT
      · have hT := ift hT hc5
        refine J_aload_n X dX0_seekFree_69 0 rfl ?_
        refine J_iload X dX0_seekFree_70 4 rfl ?_
        refine J_iload X dX0_seekFree_72 5 rfl ?_
        obtain ⟨v6, hq6, hT⟩ := bd1_e hT
        refine J_ci (wc := (w_X0_areAlike cI cJ cZ h_this q_this this_count this_near this_times this_ties this_end this_match this_minute this_sum)) (wc' := (w_X0_areAlike cI cJ cZ h_this q_this this_count this_near this_times this_ties this_end this_match this_minute this_sum)) (ws' := (w_X0_seekFree cI cJ cZ h_this q_this this_count this_near this_times this_ties this_end this_hand this_match this_minute this_partner this_reachedFrom this_sum this_waiting)) (idxs [true, true, false, true, true, false, false, true, false] 0) (idxs [false, false, true, false, false, true, true, false, true] 0) 9 rfl rfl rfl (pick_C _ rfl rfl) rfl (pick_C _ rfl rfl) rfl (pick_R _ rfl rfl rfl) (run_V (As := [.int x5, .int x6]) (rest := []) X (c_X0_areAlike l D cI cJ cZ h_this q_this this_count this_near this_times this_ties this_end this_match this_minute this_sum x5 x6 v6 hq6) (cw_X0_seekFree_X0_areAlike_79 X.1.2.2.2.2) 0 rfl rfl rfl rfl (Nat.le_of_ble_eq_true rfl) dX0_seekFree_74 ⟨Nat.zero_le _, Nat.zero_le _⟩) ?_
        refine J_if_ne (tgt := 83) X dX0_seekFree_77 (by decide) (fun hc7 => ?_) (fun hc7 => ?_)
        · have hT := iff_ hT hc7
          refine J_aload_n X dX0_seekFree_83 0 rfl ?_
          refine J_get (C := RX0) (T := TX0) (N := 13) (ci := 0) (v := .ref (q_this 10)) X in_X0_seekFree_X0 0 rfl rfl 10 (by decide) m_X0_seekFree_f40 rfl dX0_seekFree_84 ?_
          refine J_iload X dX0_seekFree_87 5 rfl ?_
          refine J_iload X dX0_seekFree_89 4 rfl ?_
          obtain ⟨hk8, hT⟩ := ckn_e hT
          refine J_iast (ws' := (w_X0_seekFree cI cJ cZ h_this q_this this_count this_near this_times this_ties this_end this_hand this_match this_minute this_partner (upd this_reachedFrom x6.toNatClampNeg x5) this_sum this_waiting)) X 6 rfl rfl hk8 rfl dX0_seekFree_91 ?_
          refine J_aload_n X dX0_seekFree_92 0 rfl ?_
          refine J_get (C := RX0) (T := TX0) (N := 13) (ci := 0) (v := .ref (q_this 9)) X in_X0_seekFree_X0 0 rfl rfl 9 (by decide) m_X0_seekFree_f37 rfl dX0_seekFree_93 ?_
          refine J_iload X dX0_seekFree_96 5 rfl ?_
          obtain ⟨hk9, hT⟩ := ckn_e hT
          refine J_iald X 5 rfl rfl hk9 dX0_seekFree_98 ?_
          refine J_iconst (v := -1) X dX0_seekFree_99 (by decide) ?_
          refine J_icmp_ne (tgt := 106) X dX0_seekFree_100 (by decide) (fun hc10 => ?_) (fun hc10 => ?_)
          · have hT := iff_ hT hc10
            refine J_iload_n X dX0_seekFree_106 2 rfl ?_
            refine J_bipush (v := 40) X dX0_seekFree_107 (by decide) ?_
            refine J_icmp_ge (tgt := 128) X dX0_seekFree_109 (by decide) (fun hc11 => ?_) (fun hc11 => ?_)
            · have hT := ift hT hc11
              exact b_X0_seekFree_128 X cI cJ cZ h_this q_this this_ties r z0 z1 k_20 hk_20 k_38 hk_38 this_count this_near this_times this_end this_hand this_match this_minute this_partner (upd this_reachedFrom x6.toNatClampNeg x5) this_sum this_waiting x2 x3 x4 x5 x6 hT
            · have hT := iff_ hT hc11
              refine J_aload_n X dX0_seekFree_112 0 rfl ?_
              refine J_get (C := RX0) (T := TX0) (N := 13) (ci := 0) (v := .ref (q_this 11)) X in_X0_seekFree_X0 0 rfl rfl 11 (by decide) m_X0_seekFree_f43 rfl dX0_seekFree_113 ?_
              refine J_iload_n X dX0_seekFree_116 2 rfl ?_
              refine J_aload_n X dX0_seekFree_117 0 rfl ?_
              refine J_get (C := RX0) (T := TX0) (N := 13) (ci := 0) (v := .ref (q_this 9)) X in_X0_seekFree_X0 0 rfl rfl 9 (by decide) m_X0_seekFree_f37 rfl dX0_seekFree_118 ?_
              refine J_iload X dX0_seekFree_121 5 rfl ?_
              obtain ⟨hk12, hT⟩ := ckn_e hT
              refine J_iald X 5 rfl rfl hk12 dX0_seekFree_123 ?_
              obtain ⟨hk13, hT⟩ := ckn_e hT
              refine J_iast (ws' := (w_X0_seekFree cI cJ cZ h_this q_this this_count this_near this_times this_ties this_end this_hand this_match this_minute this_partner (upd this_reachedFrom x6.toNatClampNeg x5) this_sum (upd this_waiting x3.toNatClampNeg (this_partner x6.toNatClampNeg)))) X 8 rfl rfl hk13 rfl dX0_seekFree_124 ?_
              refine J_iinc (lv' := [(3, .int (x3 + (1 : Int32))), (0, .ref h_this), (2, .int x2), (4, .int x4), (5, .int x5), (6, .int x6)]) (j := 2) X dX0_seekFree_125 rfl rfl (by decide) rfl ?_
              refine J_lv (lv' := [(0, .ref h_this), (2, .int x2), (3, .int (x3 + (1 : Int32))), (4, .int x4), (5, .int x5), (6, .int x6)]) [1, 2, 0, 3, 4, 5] rfl ?_
              exact b_X0_seekFree_128 X cI cJ cZ h_this q_this this_ties r z0 z1 k_20 hk_20 k_38 hk_38 this_count this_near this_times this_end this_hand this_match this_minute this_partner (upd this_reachedFrom x6.toNatClampNeg x5) this_sum (upd this_waiting x3.toNatClampNeg (this_partner x6.toNatClampNeg)) x2 (x3 + (1 : Int32)) x4 x5 x6 hT
          · have hT := ift hT hc10
            refine J_iload X dX0_seekFree_103 5 rfl ?_
            cases hT
            exact J_iret X dX0_seekFree_105
        · have hT := ift hT hc7
          refine J_goto (tgt := 128) X dX0_seekFree_80 (by decide) ?_
          exact b_X0_seekFree_128 X cI cJ cZ h_this q_this this_ties r z0 z1 k_20 hk_20 k_38 hk_38 this_count this_near this_times this_end this_hand this_match this_minute this_partner this_reachedFrom this_sum this_waiting x2 x3 x4 x5 x6 hT
set_option maxHeartbeats 4000000 in
set_option maxRecDepth 100000 in
theorem b_X0_seekFree_38 {p : Program} {l : Launch} {e : Env} {s : State} {m : MethodId} {args : Array Value} {below : List Frame} {meth : Method} {c : Code} {D : va_G} {A : Nat → Prop} {cI cJ cZ : ClassId} (X : Cx p m c cX0_seekFree 7 s args wsX0_seekFree RX0 D (tys3 cI cJ cZ) meth (some .int)) (_ _ _ : ClassId)  (h_this : Nat) (q_this : Nat → Nat) (this_ties : Int32) (r : Int32) (z0 : Nat → Int32) (z1 : Nat → Int32) (k_20 : Int32 → Int32 → Int32 → (Nat → Int32) → (Nat → Int32) → (Nat → Int32) → (Nat → Int32) → (Nat → Int32) → (Nat → Int32) → (Nat → Int32) → (Nat → Int32) → Int32 → Int32 → Int32 → (Option (Int32 × (Nat → Int32) × (Nat → Int32)))) (hk_20 : ∀ (this_count : Int32) (this_near : Int32) (this_times : Int32) (this_end : Nat → Int32) (this_hand : Nat → Int32) (this_match : Nat → Int32) (this_minute : Nat → Int32) (this_partner : Nat → Int32) (this_reachedFrom : Nat → Int32) (this_sum : Nat → Int32) (this_waiting : Nat → Int32) (x2 : Int32) (x3 : Int32) (x4 : Int32), k_20 this_count this_near this_times this_end this_hand this_match this_minute this_partner this_reachedFrom this_sum this_waiting x2 x3 x4 = some (r, z0, z1) → J p l e rmX0_seekFree s m args below meth c D A 7 (QI D below args s A r (w_X0_seekFree cI cJ cZ h_this q_this this_count this_near this_times this_ties this_end this_hand this_match this_minute this_partner z0 this_sum z1)) 0 0 (w_X0_seekFree cI cJ cZ h_this q_this this_count this_near this_times this_ties this_end this_hand this_match this_minute this_partner this_reachedFrom this_sum this_waiting) [(0, .ref h_this), (2, .int x2), (3, .int x3), (4, .int x4)] [] 20) : ∀ (n : Nat) (this_count : Int32) (this_near : Int32) (this_times : Int32) (this_end : Nat → Int32) (this_hand : Nat → Int32) (this_match : Nat → Int32) (this_minute : Nat → Int32) (this_partner : Nat → Int32) (this_reachedFrom : Nat → Int32) (this_sum : Nat → Int32) (this_waiting : Nat → Int32) (x2 : Int32) (x3 : Int32) (x4 : Int32) (x5 : Int32) (x6 : Int32) (hT : t_X0_seekFree_38  k_20 n this_count this_near this_times this_end this_hand this_match this_minute this_partner this_reachedFrom this_sum this_waiting x2 x3 x4 x5 x6 = some (r, z0, z1)), J p l e rmX0_seekFree s m args below meth c D A 7 (QI D below args s A r (w_X0_seekFree cI cJ cZ h_this q_this this_count this_near this_times this_ties this_end this_hand this_match this_minute this_partner z0 this_sum z1)) 0 0 (w_X0_seekFree cI cJ cZ h_this q_this this_count this_near this_times this_ties this_end this_hand this_match this_minute this_partner this_reachedFrom this_sum this_waiting) [(0, .ref h_this), (2, .int x2), (3, .int x3), (4, .int x4), (5, .int x5), (6, .int x6)] [] 38 := by
  intro n
  induction n with
  | zero => intro this_count this_near this_times this_end this_hand this_match this_minute this_partner this_reachedFrom this_sum this_waiting x2 x3 x4 x5 x6 hT; cases hT
  | succ n ih =>
    intro this_count this_near this_times this_end this_hand this_match this_minute this_partner this_reachedFrom this_sum this_waiting x2 x3 x4 x5 x6 hT
    exact b_X0_seekFree_38_b X cI cJ cZ h_this q_this this_ties r z0 z1 k_20 hk_20 (t_X0_seekFree_38  k_20 n) ih this_count this_near this_times this_end this_hand this_match this_minute this_partner this_reachedFrom this_sum this_waiting x2 x3 x4 x5 x6 hT
set_option maxHeartbeats 4000000 in
set_option maxRecDepth 100000 in
theorem b_X0_seekFree_20_b {p : Program} {l : Launch} {e : Env} {s : State} {m : MethodId} {args : Array Value} {below : List Frame} {meth : Method} {c : Code} {D : va_G} {A : Nat → Prop} {cI cJ cZ : ClassId} (X : Cx p m c cX0_seekFree 7 s args wsX0_seekFree RX0 D (tys3 cI cJ cZ) meth (some .int)) (_ _ _ : ClassId)  (h_this : Nat) (q_this : Nat → Nat) (this_ties : Int32) (r : Int32) (z0 : Nat → Int32) (z1 : Nat → Int32) (k_20 : Int32 → Int32 → Int32 → (Nat → Int32) → (Nat → Int32) → (Nat → Int32) → (Nat → Int32) → (Nat → Int32) → (Nat → Int32) → (Nat → Int32) → (Nat → Int32) → Int32 → Int32 → Int32 → (Option (Int32 × (Nat → Int32) × (Nat → Int32)))) (hk_20 : ∀ (this_count : Int32) (this_near : Int32) (this_times : Int32) (this_end : Nat → Int32) (this_hand : Nat → Int32) (this_match : Nat → Int32) (this_minute : Nat → Int32) (this_partner : Nat → Int32) (this_reachedFrom : Nat → Int32) (this_sum : Nat → Int32) (this_waiting : Nat → Int32) (x2 : Int32) (x3 : Int32) (x4 : Int32), k_20 this_count this_near this_times this_end this_hand this_match this_minute this_partner this_reachedFrom this_sum this_waiting x2 x3 x4 = some (r, z0, z1) → J p l e rmX0_seekFree s m args below meth c D A 7 (QI D below args s A r (w_X0_seekFree cI cJ cZ h_this q_this this_count this_near this_times this_ties this_end this_hand this_match this_minute this_partner z0 this_sum z1)) 0 0 (w_X0_seekFree cI cJ cZ h_this q_this this_count this_near this_times this_ties this_end this_hand this_match this_minute this_partner this_reachedFrom this_sum this_waiting) [(0, .ref h_this), (2, .int x2), (3, .int x3), (4, .int x4)] [] 20) (this_count : Int32) (this_near : Int32) (this_times : Int32) (this_end : Nat → Int32) (this_hand : Nat → Int32) (this_match : Nat → Int32) (this_minute : Nat → Int32) (this_partner : Nat → Int32) (this_reachedFrom : Nat → Int32) (this_sum : Nat → Int32) (this_waiting : Nat → Int32) (x2 : Int32) (x3 : Int32) (x4 : Int32) (hT : t_X0_seekFree_20_b  k_20 this_count this_near this_times this_end this_hand this_match this_minute this_partner this_reachedFrom this_sum this_waiting x2 x3 x4 = some (r, z0, z1)) : J p l e rmX0_seekFree s m args below meth c D A 7 (QI D below args s A r (w_X0_seekFree cI cJ cZ h_this q_this this_count this_near this_times this_ties this_end this_hand this_match this_minute this_partner z0 this_sum z1)) 0 0 (w_X0_seekFree cI cJ cZ h_this q_this this_count this_near this_times this_ties this_end this_hand this_match this_minute this_partner this_reachedFrom this_sum this_waiting) [(0, .ref h_this), (2, .int x2), (3, .int x3), (4, .int x4)] [] 20 := by
  unfold t_X0_seekFree_20_b at hT
  refine J_iload X dX0_seekFree_20 3 rfl ?_
  refine J_iload_n X dX0_seekFree_22 2 rfl ?_
  refine J_icmp_ge (tgt := 140) X dX0_seekFree_23 (by decide) (fun hc14 => ?_) (fun hc14 => ?_)
  · have hT := ift hT hc14
    refine J_iconst (v := -1) X dX0_seekFree_140 (by decide) ?_
    cases hT
    exact J_iret X dX0_seekFree_141
  · have hT := iff_ hT hc14
    refine J_aload_n X dX0_seekFree_26 0 rfl ?_
    refine J_get (C := RX0) (T := TX0) (N := 13) (ci := 0) (v := .ref (q_this 11)) X in_X0_seekFree_X0 0 rfl rfl 11 (by decide) m_X0_seekFree_f43 rfl dX0_seekFree_27 ?_
    refine J_iload X dX0_seekFree_30 3 rfl ?_
    obtain ⟨hk15, hT⟩ := ckn_e hT
    refine J_iald X 8 rfl rfl hk15 dX0_seekFree_32 ?_
    refine J_istore (lv' := [(5, .int (this_waiting x4.toNatClampNeg)), (0, .ref h_this), (2, .int x2), (3, .int x3), (4, .int x4)]) X dX0_seekFree_33 (by decide) rfl ?_
    refine J_iconst (v := 0) X dX0_seekFree_35 (by decide) ?_
    refine J_istore (lv' := [(6, .int (0 : Int32)), (5, .int (this_waiting x4.toNatClampNeg)), (0, .ref h_this), (2, .int x2), (3, .int x3), (4, .int x4)]) X dX0_seekFree_36 (by decide) rfl ?_
    refine J_lv (lv' := [(0, .ref h_this), (2, .int x2), (3, .int x3), (4, .int x4), (5, .int (this_waiting x4.toNatClampNeg)), (6, .int (0 : Int32))]) [2, 3, 4, 5, 1, 0] rfl ?_
    exact b_X0_seekFree_38 X cI cJ cZ h_this q_this this_ties r z0 z1 k_20 hk_20 lfuel this_count this_near this_times this_end this_hand this_match this_minute this_partner this_reachedFrom this_sum this_waiting x2 x3 x4 (this_waiting x4.toNatClampNeg) (0 : Int32) hT
set_option maxHeartbeats 4000000 in
set_option maxRecDepth 100000 in
theorem b_X0_seekFree_20 {p : Program} {l : Launch} {e : Env} {s : State} {m : MethodId} {args : Array Value} {below : List Frame} {meth : Method} {c : Code} {D : va_G} {A : Nat → Prop} {cI cJ cZ : ClassId} (X : Cx p m c cX0_seekFree 7 s args wsX0_seekFree RX0 D (tys3 cI cJ cZ) meth (some .int)) (_ _ _ : ClassId)  (h_this : Nat) (q_this : Nat → Nat) (this_ties : Int32) (r : Int32) (z0 : Nat → Int32) (z1 : Nat → Int32)  : ∀ (n : Nat) (this_count : Int32) (this_near : Int32) (this_times : Int32) (this_end : Nat → Int32) (this_hand : Nat → Int32) (this_match : Nat → Int32) (this_minute : Nat → Int32) (this_partner : Nat → Int32) (this_reachedFrom : Nat → Int32) (this_sum : Nat → Int32) (this_waiting : Nat → Int32) (x2 : Int32) (x3 : Int32) (x4 : Int32) (hT : t_X0_seekFree_20   n this_count this_near this_times this_end this_hand this_match this_minute this_partner this_reachedFrom this_sum this_waiting x2 x3 x4 = some (r, z0, z1)), J p l e rmX0_seekFree s m args below meth c D A 7 (QI D below args s A r (w_X0_seekFree cI cJ cZ h_this q_this this_count this_near this_times this_ties this_end this_hand this_match this_minute this_partner z0 this_sum z1)) 0 0 (w_X0_seekFree cI cJ cZ h_this q_this this_count this_near this_times this_ties this_end this_hand this_match this_minute this_partner this_reachedFrom this_sum this_waiting) [(0, .ref h_this), (2, .int x2), (3, .int x3), (4, .int x4)] [] 20 := by
  intro n
  induction n with
  | zero => intro this_count this_near this_times this_end this_hand this_match this_minute this_partner this_reachedFrom this_sum this_waiting x2 x3 x4 hT; cases hT
  | succ n ih =>
    intro this_count this_near this_times this_end this_hand this_match this_minute this_partner this_reachedFrom this_sum this_waiting x2 x3 x4 hT
    exact b_X0_seekFree_20_b X cI cJ cZ h_this q_this this_ties r z0 z1  (t_X0_seekFree_20   n) ih this_count this_near this_times this_end this_hand this_match this_minute this_partner this_reachedFrom this_sum this_waiting x2 x3 x4 hT
set_option maxHeartbeats 4000000 in
set_option maxRecDepth 100000 in
theorem c_X0_seekFree (l : Launch) (D : va_G) (cI cJ cZ : ClassId) (h_this : Nat) (q_this : Nat → Nat) (this_count : Int32) (this_near : Int32) (this_times : Int32) (this_ties : Int32) (this_end : Nat → Int32) (this_hand : Nat → Int32) (this_match : Nat → Int32) (this_minute : Nat → Int32) (this_partner : Nat → Int32) (this_reachedFrom : Nat → Int32) (this_sum : Nat → Int32) (this_waiting : Nat → Int32) (x1 : Int32) (x2 : Int32) (r : Int32) (z0 : Nat → Int32) (z1 : Nat → Int32) (hT : t_X0_seekFree  this_count this_near this_times this_end this_hand this_match this_minute this_partner this_reachedFrom this_sum this_waiting x1 x2 = some (r, z0, z1)) : Ci l yX0_seekFree wsX0_seekFree rmX0_seekFree D (tys3 cI cJ cZ) [.ref h_this, .int x1, .int x2] (w_X0_seekFree cI cJ cZ h_this q_this this_count this_near this_times this_ties this_end this_hand this_match this_minute this_partner this_reachedFrom this_sum this_waiting) r (w_X0_seekFree cI cJ cZ h_this q_this this_count this_near this_times this_ties this_end this_hand this_match this_minute this_partner z0 this_sum z1) := by
  refine Ci.ofJ (cc := cX0_seekFree) (nL := 7) (rt := (some .int)) (own := RX0) (by decide) rfl rfl (Nat.le_of_ble_eq_true rfl) ?_
  intro p e s m below meth c A X
  unfold t_X0_seekFree at hT
  refine J_lv (lv' := [(0, .ref h_this), (1, .int x1), (2, .int x2)]) [0, 1, 2] rfl ?_
  refine J_aload_n X dX0_seekFree_0 0 rfl ?_
  refine J_get (C := RX0) (T := TX0) (N := 13) (ci := 0) (v := .ref (q_this 10)) X in_X0_seekFree_X0 0 rfl rfl 10 (by decide) m_X0_seekFree_f40 rfl dX0_seekFree_1 ?_
  refine J_iconst (v := -1) X dX0_seekFree_4 (by decide) ?_
  obtain ⟨u16_0, hq16, hT⟩ := bd1_e hT
  refine J_cv (wc := (w_J7_fill_53178 cI cJ cZ (q_this 10) 40 this_reachedFrom)) (wc' := (w_J7_fill_53178 cI cJ cZ (q_this 10) 40 u16_0)) (ws' := (w_X0_seekFree cI cJ cZ h_this q_this this_count this_near this_times this_ties this_end this_hand this_match this_minute this_partner u16_0 this_sum this_waiting)) (idxs [false, false, false, false, false, false, true, false, false] 0) (idxs [true, true, true, true, true, true, false, true, true] 0) 9 rfl rfl rfl (pick_C _ rfl rfl) rfl (pick_C _ rfl rfl) rfl (pick_R _ rfl rfl rfl) (run_S (As := [.ref (q_this 10), .int (-1 : Int32)]) (rest := []) X (c_J7_fill_53178 l D cI cJ cZ (q_this 10) 40 this_reachedFrom (-1 : Int32) u16_0 hq16) (cw_X0_seekFree_J7_fill_53178_65 X.1.2.2.2.2) rfl rfl (Nat.le_of_ble_eq_true rfl) dX0_seekFree_5 ⟨Nat.zero_le _, Nat.zero_le _⟩) ?_
  refine J_iconst (v := 1) X dX0_seekFree_8 (by decide) ?_
  refine J_istore_n (lv' := [(3, .int (1 : Int32)), (0, .ref h_this), (1, .int x1), (2, .int x2)]) X dX0_seekFree_9 (by decide) rfl ?_
  refine J_aload_n X dX0_seekFree_10 1 rfl ?_
  refine J_get (C := RX0) (T := TX0) (N := 13) (ci := 0) (v := .ref (q_this 11)) X in_X0_seekFree_X0 0 rfl rfl 11 (by decide) m_X0_seekFree_f43 rfl dX0_seekFree_11 ?_
  refine J_iconst (v := 0) X dX0_seekFree_14 (by decide) ?_
  refine J_iload_n X dX0_seekFree_15 2 rfl ?_
  obtain ⟨hk17, hT⟩ := ckn_e hT
  refine J_iast (ws' := (w_X0_seekFree cI cJ cZ h_this q_this this_count this_near this_times this_ties this_end this_hand this_match this_minute this_partner u16_0 this_sum (upd this_waiting (0 : Int32).toNatClampNeg x1))) X 8 rfl rfl hk17 rfl dX0_seekFree_16 ?_
  refine J_iconst (v := 0) X dX0_seekFree_17 (by decide) ?_
  refine J_istore (lv' := [(4, .int (0 : Int32)), (3, .int (1 : Int32)), (0, .ref h_this), (1, .int x1), (2, .int x2)]) X dX0_seekFree_18 (by decide) rfl ?_
  refine J_lv (lv' := [(0, .ref h_this), (2, .int x2), (3, .int (1 : Int32)), (4, .int (0 : Int32))]) [2, 4, 1, 0] rfl ?_
  exact b_X0_seekFree_20 X cI cJ cZ h_this q_this this_ties r z0 z1  lfuel this_count this_near this_times this_end this_hand this_match this_minute this_partner u16_0 this_sum (upd this_waiting (0 : Int32).toNatClampNeg x1) x2 (1 : Int32) (0 : Int32) hT
-- ===== SoldMatches$Bets.pairUpTo(I)V
abbrev rmX0_pairUpTo : Room := { frames := 0, cells := 0, slots := 0, locals := 0 }
def w_X0_pairUpTo (cI cJ cZ : ClassId) (h_this : Nat) (q_this : Nat → Nat) (this_count : Int32) (this_near : Int32) (this_times : Int32) (this_ties : Int32) (this_partner : Nat → Int32) (this_reachedFrom : Nat → Int32) : va_W := [(h_this, .inr (0, oFX0 q_this this_count this_near this_times this_ties)), ((q_this 9), .inl (cI, 40, .inl this_partner)), ((q_this 10), .inl (cI, 40, .inl this_reachedFrom))]
theorem m_X0_pairUpTo_f40 : Cond.fieldLink RX0 40 "SoldMatches$Bets" "reachedFrom" "[I" ∈ wsX0_pairUpTo := List.mem_of_getElem? (i := 1) rfl
theorem in_X0_pairUpTo_X0 : ∀ w ∈ wsX00, w ∈ wsX0_pairUpTo := fun w h => List.mem_cons_of_mem _ (List.mem_append_right _ h)
theorem m_X0_pairUpTo_f37 : Cond.fieldLink RX0 37 "SoldMatches$Bets" "partner" "[I" ∈ wsX0_pairUpTo := List.mem_of_getElem? (i := 2) rfl
def t_X0_pairUpTo_4_b  (k_4 : (Nat → Int32) → (Nat → Int32) → Int32 → Int32 → (Option ((Nat → Int32)))) (this_partner : Nat → Int32) (this_reachedFrom : Nat → Int32) (x2 : Int32) (x3 : Int32) : Option ((Nat → Int32)) := if (40 : Int32) ≤ x3 then (some (this_partner)) else (if x2 = (-1 : Int32) then (some (this_partner)) else (ckn (x2 < 0 ∨ 40 ≤ x2.toNatClampNeg) (if (this_reachedFrom x2.toNatClampNeg) = (-1 : Int32) then (some (this_partner)) else (ckn ((this_reachedFrom x2.toNatClampNeg) < 0 ∨ 40 ≤ (this_reachedFrom x2.toNatClampNeg).toNatClampNeg) (ckn ((this_reachedFrom x2.toNatClampNeg) < 0 ∨ 40 ≤ (this_reachedFrom x2.toNatClampNeg).toNatClampNeg) (ckn (x2 < 0 ∨ 40 ≤ x2.toNatClampNeg) (k_4 (upd (upd this_partner (this_reachedFrom x2.toNatClampNeg).toNatClampNeg x2) x2.toNatClampNeg (this_reachedFrom x2.toNatClampNeg)) this_reachedFrom (this_partner (this_reachedFrom x2.toNatClampNeg).toNatClampNeg) (x3 + (1 : Int32)))))))))
def t_X0_pairUpTo_4   (n : Nat) : (Nat → Int32) → (Nat → Int32) → Int32 → Int32 → (Option ((Nat → Int32))) := Nat.rec (fun _ _ _ _ => none) (fun _ ih => t_X0_pairUpTo_4_b   ih) n
def t_X0_pairUpTo  (this_partner : Nat → Int32) (this_reachedFrom : Nat → Int32) (x1 : Int32) : Option ((Nat → Int32)) := t_X0_pairUpTo_4   lfuel this_partner this_reachedFrom x1 (0 : Int32)
set_option maxHeartbeats 4000000 in
set_option maxRecDepth 100000 in
theorem b_X0_pairUpTo_4_b {p : Program} {l : Launch} {e : Env} {s : State} {m : MethodId} {args : Array Value} {below : List Frame} {meth : Method} {c : Code} {D : va_G} {A : Nat → Prop} {cI cJ cZ : ClassId} (X : Cx p m c cX0_pairUpTo 6 s args wsX0_pairUpTo RX0 D (tys3 cI cJ cZ) meth none) (_ _ _ : ClassId)  (h_this : Nat) (q_this : Nat → Nat) (this_count : Int32) (this_near : Int32) (this_times : Int32) (this_ties : Int32) (z0 : Nat → Int32) (k_4 : (Nat → Int32) → (Nat → Int32) → Int32 → Int32 → (Option ((Nat → Int32)))) (hk_4 : ∀ (this_partner : Nat → Int32) (this_reachedFrom : Nat → Int32) (x2 : Int32) (x3 : Int32), k_4 this_partner this_reachedFrom x2 x3 = some z0 → J p l e rmX0_pairUpTo s m args below meth c D A 6 (QV D below args s A (w_X0_pairUpTo cI cJ cZ h_this q_this this_count this_near this_times this_ties z0 this_reachedFrom)) 0 0 (w_X0_pairUpTo cI cJ cZ h_this q_this this_count this_near this_times this_ties this_partner this_reachedFrom) [(0, .ref h_this), (2, .int x2), (3, .int x3)] [] 4) (this_partner : Nat → Int32) (this_reachedFrom : Nat → Int32) (x2 : Int32) (x3 : Int32) (hT : t_X0_pairUpTo_4_b  k_4 this_partner this_reachedFrom x2 x3 = some z0) : J p l e rmX0_pairUpTo s m args below meth c D A 6 (QV D below args s A (w_X0_pairUpTo cI cJ cZ h_this q_this this_count this_near this_times this_ties z0 this_reachedFrom)) 0 0 (w_X0_pairUpTo cI cJ cZ h_this q_this this_count this_near this_times this_ties this_partner this_reachedFrom) [(0, .ref h_this), (2, .int x2), (3, .int x3)] [] 4 := by
  unfold t_X0_pairUpTo_4_b at hT
  refine J_iload_n X dX0_pairUpTo_4 2 rfl ?_
  refine J_bipush (v := 40) X dX0_pairUpTo_5 (by decide) ?_
  refine J_icmp_ge (tgt := 64) X dX0_pairUpTo_7 (by decide) (fun hc1 => ?_) (fun hc1 => ?_)
  · have hT := ift hT hc1
    cases hT
    exact J_vret X dX0_pairUpTo_64
  · have hT := iff_ hT hc1
    refine J_iload_n X dX0_pairUpTo_10 1 rfl ?_
    refine J_iconst (v := -1) X dX0_pairUpTo_11 (by decide) ?_
    refine J_icmp_eq (tgt := 64) X dX0_pairUpTo_12 (by decide) (fun hc2 => ?_) (fun hc2 => ?_)
    · have hT := ift hT hc2
      cases hT
      exact J_vret X dX0_pairUpTo_64
    · have hT := iff_ hT hc2
      refine J_aload_n X dX0_pairUpTo_15 0 rfl ?_
      refine J_get (C := RX0) (T := TX0) (N := 13) (ci := 0) (v := .ref (q_this 10)) X in_X0_pairUpTo_X0 0 rfl rfl 10 (by decide) m_X0_pairUpTo_f40 rfl dX0_pairUpTo_16 ?_
      refine J_iload_n X dX0_pairUpTo_19 1 rfl ?_
      obtain ⟨hk3, hT⟩ := ckn_e hT
      refine J_iald X 2 rfl rfl hk3 dX0_pairUpTo_20 ?_
      refine J_istore (lv' := [(4, .int (this_reachedFrom x2.toNatClampNeg)), (0, .ref h_this), (2, .int x2), (3, .int x3)]) X dX0_pairUpTo_21 (by decide) rfl ?_
      refine J_iload X dX0_pairUpTo_23 0 rfl ?_
      refine J_iconst (v := -1) X dX0_pairUpTo_25 (by decide) ?_
      refine J_icmp_ne (tgt := 30) X dX0_pairUpTo_26 (by decide) (fun hc4 => ?_) (fun hc4 => ?_)
      · have hT := iff_ hT hc4
        refine J_aload_n X dX0_pairUpTo_30 1 rfl ?_
        refine J_get (C := RX0) (T := TX0) (N := 13) (ci := 0) (v := .ref (q_this 9)) X in_X0_pairUpTo_X0 0 rfl rfl 9 (by decide) m_X0_pairUpTo_f37 rfl dX0_pairUpTo_31 ?_
        refine J_iload X dX0_pairUpTo_34 0 rfl ?_
        obtain ⟨hk5, hT⟩ := ckn_e hT
        refine J_iald X 1 rfl rfl hk5 dX0_pairUpTo_36 ?_
        refine J_istore (lv' := [(5, .int (this_partner (this_reachedFrom x2.toNatClampNeg).toNatClampNeg)), (4, .int (this_reachedFrom x2.toNatClampNeg)), (0, .ref h_this), (2, .int x2), (3, .int x3)]) X dX0_pairUpTo_37 (by decide) rfl ?_
        refine J_aload_n X dX0_pairUpTo_39 2 rfl ?_
        refine J_get (C := RX0) (T := TX0) (N := 13) (ci := 0) (v := .ref (q_this 9)) X in_X0_pairUpTo_X0 0 rfl rfl 9 (by decide) m_X0_pairUpTo_f37 rfl dX0_pairUpTo_40 ?_
        refine J_iload X dX0_pairUpTo_43 1 rfl ?_
        refine J_iload_n X dX0_pairUpTo_45 3 rfl ?_
        obtain ⟨hk6, hT⟩ := ckn_e hT
        refine J_iast (ws' := (w_X0_pairUpTo cI cJ cZ h_this q_this this_count this_near this_times this_ties (upd this_partner (this_reachedFrom x2.toNatClampNeg).toNatClampNeg x2) this_reachedFrom)) X 1 rfl rfl hk6 rfl dX0_pairUpTo_46 ?_
        refine J_aload_n X dX0_pairUpTo_47 2 rfl ?_
        refine J_get (C := RX0) (T := TX0) (N := 13) (ci := 0) (v := .ref (q_this 9)) X in_X0_pairUpTo_X0 0 rfl rfl 9 (by decide) m_X0_pairUpTo_f37 rfl dX0_pairUpTo_48 ?_
        refine J_iload_n X dX0_pairUpTo_51 3 rfl ?_
        refine J_iload X dX0_pairUpTo_52 1 rfl ?_
        obtain ⟨hk7, hT⟩ := ckn_e hT
        refine J_iast (ws' := (w_X0_pairUpTo cI cJ cZ h_this q_this this_count this_near this_times this_ties (upd (upd this_partner (this_reachedFrom x2.toNatClampNeg).toNatClampNeg x2) x2.toNatClampNeg (this_reachedFrom x2.toNatClampNeg)) this_reachedFrom)) X 1 rfl rfl hk7 rfl dX0_pairUpTo_54 ?_
        refine J_iload X dX0_pairUpTo_55 0 rfl ?_
        refine J_istore_n (lv' := [(2, .int (this_partner (this_reachedFrom x2.toNatClampNeg).toNatClampNeg)), (5, .int (this_partner (this_reachedFrom x2.toNatClampNeg).toNatClampNeg)), (4, .int (this_reachedFrom x2.toNatClampNeg)), (0, .ref h_this), (3, .int x3)]) X dX0_pairUpTo_57 (by decide) rfl ?_
        refine J_iinc (lv' := [(3, .int (x3 + (1 : Int32))), (2, .int (this_partner (this_reachedFrom x2.toNatClampNeg).toNatClampNeg)), (5, .int (this_partner (this_reachedFrom x2.toNatClampNeg).toNatClampNeg)), (4, .int (this_reachedFrom x2.toNatClampNeg)), (0, .ref h_this)]) (j := 4) X dX0_pairUpTo_58 rfl rfl (by decide) rfl ?_
        refine J_goto (tgt := 4) X dX0_pairUpTo_61 (by decide) ?_
        refine J_lv (lv' := [(0, .ref h_this), (2, .int (this_partner (this_reachedFrom x2.toNatClampNeg).toNatClampNeg)), (3, .int (x3 + (1 : Int32)))]) [4, 1, 0] rfl ?_
        exact hk_4 (upd (upd this_partner (this_reachedFrom x2.toNatClampNeg).toNatClampNeg x2) x2.toNatClampNeg (this_reachedFrom x2.toNatClampNeg)) this_reachedFrom (this_partner (this_reachedFrom x2.toNatClampNeg).toNatClampNeg) (x3 + (1 : Int32)) hT
      · have hT := ift hT hc4
        cases hT
        exact J_vret X dX0_pairUpTo_29
set_option maxHeartbeats 4000000 in
set_option maxRecDepth 100000 in
theorem b_X0_pairUpTo_4 {p : Program} {l : Launch} {e : Env} {s : State} {m : MethodId} {args : Array Value} {below : List Frame} {meth : Method} {c : Code} {D : va_G} {A : Nat → Prop} {cI cJ cZ : ClassId} (X : Cx p m c cX0_pairUpTo 6 s args wsX0_pairUpTo RX0 D (tys3 cI cJ cZ) meth none) (_ _ _ : ClassId)  (h_this : Nat) (q_this : Nat → Nat) (this_count : Int32) (this_near : Int32) (this_times : Int32) (this_ties : Int32) (z0 : Nat → Int32)  : ∀ (n : Nat) (this_partner : Nat → Int32) (this_reachedFrom : Nat → Int32) (x2 : Int32) (x3 : Int32) (hT : t_X0_pairUpTo_4   n this_partner this_reachedFrom x2 x3 = some z0), J p l e rmX0_pairUpTo s m args below meth c D A 6 (QV D below args s A (w_X0_pairUpTo cI cJ cZ h_this q_this this_count this_near this_times this_ties z0 this_reachedFrom)) 0 0 (w_X0_pairUpTo cI cJ cZ h_this q_this this_count this_near this_times this_ties this_partner this_reachedFrom) [(0, .ref h_this), (2, .int x2), (3, .int x3)] [] 4 := by
  intro n
  induction n with
  | zero => intro this_partner this_reachedFrom x2 x3 hT; cases hT
  | succ n ih =>
    intro this_partner this_reachedFrom x2 x3 hT
    exact b_X0_pairUpTo_4_b X cI cJ cZ h_this q_this this_count this_near this_times this_ties z0  (t_X0_pairUpTo_4   n) ih this_partner this_reachedFrom x2 x3 hT
set_option maxHeartbeats 4000000 in
set_option maxRecDepth 100000 in
theorem c_X0_pairUpTo (l : Launch) (D : va_G) (cI cJ cZ : ClassId) (h_this : Nat) (q_this : Nat → Nat) (this_count : Int32) (this_near : Int32) (this_times : Int32) (this_ties : Int32) (this_partner : Nat → Int32) (this_reachedFrom : Nat → Int32) (x1 : Int32) (z0 : Nat → Int32) (hT : t_X0_pairUpTo  this_partner this_reachedFrom x1 = some z0) : Cv l yX0_pairUpTo wsX0_pairUpTo rmX0_pairUpTo D (tys3 cI cJ cZ) [.ref h_this, .int x1] (w_X0_pairUpTo cI cJ cZ h_this q_this this_count this_near this_times this_ties this_partner this_reachedFrom) (w_X0_pairUpTo cI cJ cZ h_this q_this this_count this_near this_times this_ties z0 this_reachedFrom) := by
  refine Cv.ofJ (cc := cX0_pairUpTo) (nL := 6) (rt := none) (own := RX0) (by decide) rfl rfl (Nat.le_of_ble_eq_true rfl) ?_
  intro p e s m below meth c A X
  unfold t_X0_pairUpTo at hT
  refine J_lv (lv' := [(0, .ref h_this), (1, .int x1)]) [0, 1] rfl ?_
  refine J_iload_n X dX0_pairUpTo_0 1 rfl ?_
  refine J_istore_n (lv' := [(2, .int x1), (0, .ref h_this), (1, .int x1)]) X dX0_pairUpTo_1 (by decide) rfl ?_
  refine J_iconst (v := 0) X dX0_pairUpTo_2 (by decide) ?_
  refine J_istore_n (lv' := [(3, .int (0 : Int32)), (2, .int x1), (0, .ref h_this), (1, .int x1)]) X dX0_pairUpTo_3 (by decide) rfl ?_
  refine J_lv (lv' := [(0, .ref h_this), (2, .int x1), (3, .int (0 : Int32))]) [2, 1, 0] rfl ?_
  exact b_X0_pairUpTo_4 X cI cJ cZ h_this q_this this_count this_near this_times this_ties z0  lfuel this_partner this_reachedFrom x1 (0 : Int32) hT
-- ===== SoldMatches$Bets.countPairs(II)I
abbrev rmX0_countPairs : Room := { frames := 2, cells := 0, slots := 0, locals := 51 }
def w_X0_countPairs (cI cJ cZ : ClassId) (h_this : Nat) (q_this : Nat → Nat) (this_count : Int32) (this_near : Int32) (this_times : Int32) (this_ties : Int32) (this_end : Nat → Int32) (this_hand : Nat → Int32) (this_match : Nat → Int32) (this_minute : Nat → Int32) (this_partner : Nat → Int32) (this_reachedFrom : Nat → Int32) (this_sum : Nat → Int32) (this_waiting : Nat → Int32) : va_W := [(h_this, .inr (0, oFX0 q_this this_count this_near this_times this_ties)), ((q_this 6), .inl (cI, 40, .inl this_end)), ((q_this 4), .inl (cI, 40, .inl this_hand)), ((q_this 5), .inl (cI, 40, .inl this_match)), ((q_this 7), .inl (cI, 40, .inl this_minute)), ((q_this 9), .inl (cI, 40, .inl this_partner)), ((q_this 10), .inl (cI, 40, .inl this_reachedFrom)), ((q_this 8), .inl (cI, 40, .inl this_sum)), ((q_this 11), .inl (cI, 40, .inl this_waiting))]
theorem m_X0_countPairs_f49 : Cond.fieldLink RX0 49 "SoldMatches$Bets" "count" "I" ∈ wsX0_countPairs := List.mem_of_getElem? (i := 2) rfl
theorem in_X0_countPairs_X0 : ∀ w ∈ wsX00, w ∈ wsX0_countPairs := fun w h => List.mem_cons_of_mem _ (List.mem_append_right _ h)
theorem m_X0_countPairs_f21 : Cond.fieldLink RX0 21 "SoldMatches$Bets" "hand" "[I" ∈ wsX0_countPairs := List.mem_of_getElem? (i := 3) rfl
theorem cw_X0_countPairs_X0_seekFree_71 {s : State} {args : Array Value} (hts : ∀ w ∈ wsX0_countPairs, w.before args s = true) : CallW rmX0_countPairs s args RX0 RX0 71 yX0_seekFree cX0_seekFree 7 (some .int) wsX0_seekFree rmX0_seekFree 0 0 2 := cwV 2 hts gX0_countPairs_X0_seekFree rfl rfl rfl (by decide +kernel) ⟨by decide, by decide⟩
theorem cw_X0_countPairs_X0_pairUpTo_75 {s : State} {args : Array Value} (hts : ∀ w ∈ wsX0_countPairs, w.before args s = true) : CallW rmX0_countPairs s args RX0 RX0 75 yX0_pairUpTo cX0_pairUpTo 6 none wsX0_pairUpTo rmX0_pairUpTo 0 0 1 := cwV 1 hts gX0_countPairs_X0_pairUpTo rfl rfl rfl (by decide +kernel) ⟨by decide, by decide⟩
theorem m_X0_countPairs_f37 : Cond.fieldLink RX0 37 "SoldMatches$Bets" "partner" "[I" ∈ wsX0_countPairs := List.mem_of_getElem? (i := 1) rfl
theorem cw_X0_countPairs_J7_fill_53178_65 {s : State} {args : Array Value} (hts : ∀ w ∈ wsX0_countPairs, w.before args s = true) : CallB rmX0_countPairs s args RX0 65 yJ7_fill_53178 cJ7_fill_53178 4 none wsJ7_fill_53178 rmJ7_fill_53178 0 0 2 ∧ (Cond.static yJ7_fill_53178).before args s = true := va_cwS 2 hts gX0_countPairs_J7_fill_53178 rfl rfl rfl (by decide +kernel) ⟨by decide, by decide⟩
def t_X0_countPairs_57  (k_13 : Int32 → Int32 → Int32 → (Nat → Int32) → (Nat → Int32) → (Nat → Int32) → (Nat → Int32) → (Nat → Int32) → (Nat → Int32) → (Nat → Int32) → (Nat → Int32) → Int32 → Int32 → Int32 → Int32 → (Option (Int32 × (Nat → Int32) × (Nat → Int32) × (Nat → Int32)))) (this_count : Int32) (this_near : Int32) (this_times : Int32) (this_end : Nat → Int32) (this_hand : Nat → Int32) (this_match : Nat → Int32) (this_minute : Nat → Int32) (this_partner : Nat → Int32) (this_reachedFrom : Nat → Int32) (this_sum : Nat → Int32) (this_waiting : Nat → Int32) (x1 : Int32) (x2 : Int32) (x3 : Int32) (x4 : Int32) : Option (Int32 × (Nat → Int32) × (Nat → Int32) × (Nat → Int32)) := k_13 this_count this_near this_times this_end this_hand this_match this_minute this_partner this_reachedFrom this_sum this_waiting x1 x2 x3 (x4 + (1 : Int32))
def t_X0_countPairs_13_b  (k_13 : Int32 → Int32 → Int32 → (Nat → Int32) → (Nat → Int32) → (Nat → Int32) → (Nat → Int32) → (Nat → Int32) → (Nat → Int32) → (Nat → Int32) → (Nat → Int32) → Int32 → Int32 → Int32 → Int32 → (Option (Int32 × (Nat → Int32) × (Nat → Int32) × (Nat → Int32)))) (this_count : Int32) (this_near : Int32) (this_times : Int32) (this_end : Nat → Int32) (this_hand : Nat → Int32) (this_match : Nat → Int32) (this_minute : Nat → Int32) (this_partner : Nat → Int32) (this_reachedFrom : Nat → Int32) (this_sum : Nat → Int32) (this_waiting : Nat → Int32) (x1 : Int32) (x2 : Int32) (x3 : Int32) (x4 : Int32) : Option (Int32 × (Nat → Int32) × (Nat → Int32) × (Nat → Int32)) := if this_count ≤ x4 then (some (x3, this_partner, this_reachedFrom, this_waiting)) else (ckn (x4 < 0 ∨ 40 ≤ x4.toNatClampNeg) (if (this_hand x4.toNatClampNeg) = x1 then (bd3 (t_X0_seekFree this_count this_near this_times this_end this_hand this_match this_minute this_partner this_reachedFrom this_sum this_waiting x4 x2) (fun v4 u4_0 u4_1 => if v4 = (-1 : Int32) then (t_X0_countPairs_57  k_13 this_count this_near this_times this_end this_hand this_match this_minute this_partner u4_0 this_sum u4_1 x1 x2 x3 x4) else (bd1 (t_X0_pairUpTo this_partner u4_0 v4) (fun u6_0 => t_X0_countPairs_57  k_13 this_count this_near this_times this_end this_hand this_match this_minute u6_0 u4_0 this_sum u4_1 x1 x2 (x3 + (1 : Int32)) x4)))) else (t_X0_countPairs_57  k_13 this_count this_near this_times this_end this_hand this_match this_minute this_partner this_reachedFrom this_sum this_waiting x1 x2 x3 x4)))
def t_X0_countPairs_13   (n : Nat) : Int32 → Int32 → Int32 → (Nat → Int32) → (Nat → Int32) → (Nat → Int32) → (Nat → Int32) → (Nat → Int32) → (Nat → Int32) → (Nat → Int32) → (Nat → Int32) → Int32 → Int32 → Int32 → Int32 → (Option (Int32 × (Nat → Int32) × (Nat → Int32) × (Nat → Int32))) := Nat.rec (fun _ _ _ _ _ _ _ _ _ _ _ _ _ _ _ => none) (fun _ ih => t_X0_countPairs_13_b   ih) n
def t_X0_countPairs  (this_count : Int32) (this_near : Int32) (this_times : Int32) (this_end : Nat → Int32) (this_hand : Nat → Int32) (this_match : Nat → Int32) (this_minute : Nat → Int32) (this_partner : Nat → Int32) (this_reachedFrom : Nat → Int32) (this_sum : Nat → Int32) (this_waiting : Nat → Int32) (x1 : Int32) (x2 : Int32) : Option (Int32 × (Nat → Int32) × (Nat → Int32) × (Nat → Int32)) := bd1 (t_J7_fill_53178 40 this_partner (-1 : Int32)) (fun u7_0 => t_X0_countPairs_13   lfuel this_count this_near this_times this_end this_hand this_match this_minute u7_0 this_reachedFrom this_sum this_waiting x1 x2 (0 : Int32) (0 : Int32))
set_option maxHeartbeats 4000000 in
set_option maxRecDepth 100000 in
theorem b_X0_countPairs_57 {p : Program} {l : Launch} {e : Env} {s : State} {m : MethodId} {args : Array Value} {below : List Frame} {meth : Method} {c : Code} {D : va_G} {A : Nat → Prop} {cI cJ cZ : ClassId} (X : Cx p m c cX0_countPairs 6 s args wsX0_countPairs RX0 D (tys3 cI cJ cZ) meth (some .int)) (_ _ _ : ClassId)  (h_this : Nat) (q_this : Nat → Nat) (this_ties : Int32) (r : Int32) (z0 : Nat → Int32) (z1 : Nat → Int32) (z2 : Nat → Int32) (k_13 : Int32 → Int32 → Int32 → (Nat → Int32) → (Nat → Int32) → (Nat → Int32) → (Nat → Int32) → (Nat → Int32) → (Nat → Int32) → (Nat → Int32) → (Nat → Int32) → Int32 → Int32 → Int32 → Int32 → (Option (Int32 × (Nat → Int32) × (Nat → Int32) × (Nat → Int32)))) (hk_13 : ∀ (this_count : Int32) (this_near : Int32) (this_times : Int32) (this_end : Nat → Int32) (this_hand : Nat → Int32) (this_match : Nat → Int32) (this_minute : Nat → Int32) (this_partner : Nat → Int32) (this_reachedFrom : Nat → Int32) (this_sum : Nat → Int32) (this_waiting : Nat → Int32) (x1 : Int32) (x2 : Int32) (x3 : Int32) (x4 : Int32), k_13 this_count this_near this_times this_end this_hand this_match this_minute this_partner this_reachedFrom this_sum this_waiting x1 x2 x3 x4 = some (r, z0, z1, z2) → J p l e rmX0_countPairs s m args below meth c D A 6 (QI D below args s A r (w_X0_countPairs cI cJ cZ h_this q_this this_count this_near this_times this_ties this_end this_hand this_match this_minute z0 z1 this_sum z2)) 0 0 (w_X0_countPairs cI cJ cZ h_this q_this this_count this_near this_times this_ties this_end this_hand this_match this_minute this_partner this_reachedFrom this_sum this_waiting) [(0, .ref h_this), (1, .int x1), (2, .int x2), (3, .int x3), (4, .int x4)] [] 13) (this_count : Int32) (this_near : Int32) (this_times : Int32) (this_end : Nat → Int32) (this_hand : Nat → Int32) (this_match : Nat → Int32) (this_minute : Nat → Int32) (this_partner : Nat → Int32) (this_reachedFrom : Nat → Int32) (this_sum : Nat → Int32) (this_waiting : Nat → Int32) (x1 : Int32) (x2 : Int32) (x3 : Int32) (x4 : Int32) (hT : t_X0_countPairs_57  k_13 this_count this_near this_times this_end this_hand this_match this_minute this_partner this_reachedFrom this_sum this_waiting x1 x2 x3 x4 = some (r, z0, z1, z2)) : J p l e rmX0_countPairs s m args below meth c D A 6 (QI D below args s A r (w_X0_countPairs cI cJ cZ h_this q_this this_count this_near this_times this_ties this_end this_hand this_match this_minute z0 z1 this_sum z2)) 0 0 (w_X0_countPairs cI cJ cZ h_this q_this this_count this_near this_times this_ties this_end this_hand this_match this_minute this_partner this_reachedFrom this_sum this_waiting) [(0, .ref h_this), (1, .int x1), (2, .int x2), (3, .int x3), (4, .int x4)] [] 57 := by
  unfold t_X0_countPairs_57 at hT
  refine J_iinc (lv' := [(4, .int (x4 + (1 : Int32))), (0, .ref h_this), (1, .int x1), (2, .int x2), (3, .int x3)]) (j := 4) X dX0_countPairs_57 rfl rfl (by decide) rfl ?_
  refine J_goto (tgt := 13) X dX0_countPairs_60 (by decide) ?_
  refine J_lv (lv' := [(0, .ref h_this), (1, .int x1), (2, .int x2), (3, .int x3), (4, .int (x4 + (1 : Int32)))]) [1, 2, 3, 4, 0] rfl ?_
  exact hk_13 this_count this_near this_times this_end this_hand this_match this_minute this_partner this_reachedFrom this_sum this_waiting x1 x2 x3 (x4 + (1 : Int32)) hT
set_option maxHeartbeats 4000000 in
set_option maxRecDepth 100000 in
theorem b_X0_countPairs_13_b {p : Program} {l : Launch} {e : Env} {s : State} {m : MethodId} {args : Array Value} {below : List Frame} {meth : Method} {c : Code} {D : va_G} {A : Nat → Prop} {cI cJ cZ : ClassId} (X : Cx p m c cX0_countPairs 6 s args wsX0_countPairs RX0 D (tys3 cI cJ cZ) meth (some .int)) (_ _ _ : ClassId)  (h_this : Nat) (q_this : Nat → Nat) (this_ties : Int32) (r : Int32) (z0 : Nat → Int32) (z1 : Nat → Int32) (z2 : Nat → Int32) (k_13 : Int32 → Int32 → Int32 → (Nat → Int32) → (Nat → Int32) → (Nat → Int32) → (Nat → Int32) → (Nat → Int32) → (Nat → Int32) → (Nat → Int32) → (Nat → Int32) → Int32 → Int32 → Int32 → Int32 → (Option (Int32 × (Nat → Int32) × (Nat → Int32) × (Nat → Int32)))) (hk_13 : ∀ (this_count : Int32) (this_near : Int32) (this_times : Int32) (this_end : Nat → Int32) (this_hand : Nat → Int32) (this_match : Nat → Int32) (this_minute : Nat → Int32) (this_partner : Nat → Int32) (this_reachedFrom : Nat → Int32) (this_sum : Nat → Int32) (this_waiting : Nat → Int32) (x1 : Int32) (x2 : Int32) (x3 : Int32) (x4 : Int32), k_13 this_count this_near this_times this_end this_hand this_match this_minute this_partner this_reachedFrom this_sum this_waiting x1 x2 x3 x4 = some (r, z0, z1, z2) → J p l e rmX0_countPairs s m args below meth c D A 6 (QI D below args s A r (w_X0_countPairs cI cJ cZ h_this q_this this_count this_near this_times this_ties this_end this_hand this_match this_minute z0 z1 this_sum z2)) 0 0 (w_X0_countPairs cI cJ cZ h_this q_this this_count this_near this_times this_ties this_end this_hand this_match this_minute this_partner this_reachedFrom this_sum this_waiting) [(0, .ref h_this), (1, .int x1), (2, .int x2), (3, .int x3), (4, .int x4)] [] 13) (this_count : Int32) (this_near : Int32) (this_times : Int32) (this_end : Nat → Int32) (this_hand : Nat → Int32) (this_match : Nat → Int32) (this_minute : Nat → Int32) (this_partner : Nat → Int32) (this_reachedFrom : Nat → Int32) (this_sum : Nat → Int32) (this_waiting : Nat → Int32) (x1 : Int32) (x2 : Int32) (x3 : Int32) (x4 : Int32) (hT : t_X0_countPairs_13_b  k_13 this_count this_near this_times this_end this_hand this_match this_minute this_partner this_reachedFrom this_sum this_waiting x1 x2 x3 x4 = some (r, z0, z1, z2)) : J p l e rmX0_countPairs s m args below meth c D A 6 (QI D below args s A r (w_X0_countPairs cI cJ cZ h_this q_this this_count this_near this_times this_ties this_end this_hand this_match this_minute z0 z1 this_sum z2)) 0 0 (w_X0_countPairs cI cJ cZ h_this q_this this_count this_near this_times this_ties this_end this_hand this_match this_minute this_partner this_reachedFrom this_sum this_waiting) [(0, .ref h_this), (1, .int x1), (2, .int x2), (3, .int x3), (4, .int x4)] [] 13 := by
  unfold t_X0_countPairs_13_b at hT
  refine J_iload X dX0_countPairs_13 4 rfl ?_
  refine J_aload_n X dX0_countPairs_15 0 rfl ?_
  refine J_get (C := RX0) (T := TX0) (N := 13) (ci := 0) (v := .int this_count) X in_X0_countPairs_X0 0 rfl rfl 0 (by decide) m_X0_countPairs_f49 rfl dX0_countPairs_16 ?_
  refine J_icmp_ge (tgt := 63) X dX0_countPairs_19 (by decide) (fun hc1 => ?_) (fun hc1 => ?_)
  · have hT := ift hT hc1
    refine J_iload_n X dX0_countPairs_63 3 rfl ?_
    cases hT
    exact J_iret X dX0_countPairs_64
  · have hT := iff_ hT hc1
    refine J_aload_n X dX0_countPairs_22 0 rfl ?_
    refine J_get (C := RX0) (T := TX0) (N := 13) (ci := 0) (v := .ref (q_this 4)) X in_X0_countPairs_X0 0 rfl rfl 4 (by decide) m_X0_countPairs_f21 rfl dX0_countPairs_23 ?_
    refine J_iload X dX0_countPairs_26 4 rfl ?_
    obtain ⟨hk2, hT⟩ := ckn_e hT
    refine J_iald X 2 rfl rfl hk2 dX0_countPairs_28 ?_
    refine J_iload_n X dX0_countPairs_29 1 rfl ?_
    refine J_icmp_ne (tgt := 57) X dX0_countPairs_30 (by decide) (fun hc3 => ?_) (fun hc3 => ?_)
    · have hT := iff_ hT hc3
      exact b_X0_countPairs_57 X cI cJ cZ h_this q_this this_ties r z0 z1 z2 k_13 hk_13 this_count this_near this_times this_end this_hand this_match this_minute this_partner this_reachedFrom this_sum this_waiting x1 x2 x3 x4 hT
    · have hT := ift hT hc3
      refine J_aload_n X dX0_countPairs_33 0 rfl ?_
      refine J_iload X dX0_countPairs_34 4 rfl ?_
      refine J_iload_n X dX0_countPairs_36 2 rfl ?_
      obtain ⟨v4, u4_0, u4_1, hq4, hT⟩ := bd3_e hT
      refine J_ci (wc := (w_X0_seekFree cI cJ cZ h_this q_this this_count this_near this_times this_ties this_end this_hand this_match this_minute this_partner this_reachedFrom this_sum this_waiting)) (wc' := (w_X0_seekFree cI cJ cZ h_this q_this this_count this_near this_times this_ties this_end this_hand this_match this_minute this_partner u4_0 this_sum u4_1)) (ws' := (w_X0_countPairs cI cJ cZ h_this q_this this_count this_near this_times this_ties this_end this_hand this_match this_minute this_partner u4_0 this_sum u4_1)) (idxs [true, true, true, true, true, true, true, true, true] 0) (idxs [false, false, false, false, false, false, false, false, false] 0) 9 rfl rfl rfl (pick_C _ rfl rfl) rfl (pick_C _ rfl rfl) rfl (pick_R _ rfl rfl rfl) (run_V (As := [.int x4, .int x2]) (rest := []) X (c_X0_seekFree l D cI cJ cZ h_this q_this this_count this_near this_times this_ties this_end this_hand this_match this_minute this_partner this_reachedFrom this_sum this_waiting x4 x2 v4 u4_0 u4_1 hq4) (cw_X0_countPairs_X0_seekFree_71 X.1.2.2.2.2) 0 rfl rfl rfl rfl (Nat.le_of_ble_eq_true rfl) dX0_countPairs_37 ⟨Nat.zero_le _, Nat.zero_le _⟩) ?_
      refine J_istore (lv' := [(5, .int v4), (0, .ref h_this), (1, .int x1), (2, .int x2), (3, .int x3), (4, .int x4)]) X dX0_countPairs_40 (by decide) rfl ?_
      refine J_iload X dX0_countPairs_42 0 rfl ?_
      refine J_iconst (v := -1) X dX0_countPairs_44 (by decide) ?_
      refine J_icmp_eq (tgt := 57) X dX0_countPairs_45 (by decide) (fun hc5 => ?_) (fun hc5 => ?_)
      · have hT := ift hT hc5
        refine J_lv (lv' := [(0, .ref h_this), (1, .int x1), (2, .int x2), (3, .int x3), (4, .int x4)]) [1, 2, 3, 4, 5] rfl ?_
        exact b_X0_countPairs_57 X cI cJ cZ h_this q_this this_ties r z0 z1 z2 k_13 hk_13 this_count this_near this_times this_end this_hand this_match this_minute this_partner u4_0 this_sum u4_1 x1 x2 x3 x4 hT
      · have hT := iff_ hT hc5
        refine J_aload_n X dX0_countPairs_48 1 rfl ?_
        refine J_iload X dX0_countPairs_49 0 rfl ?_
        obtain ⟨u6_0, hq6, hT⟩ := bd1_e hT
        refine J_cv (wc := (w_X0_pairUpTo cI cJ cZ h_this q_this this_count this_near this_times this_ties this_partner u4_0)) (wc' := (w_X0_pairUpTo cI cJ cZ h_this q_this this_count this_near this_times this_ties u6_0 u4_0)) (ws' := (w_X0_countPairs cI cJ cZ h_this q_this this_count this_near this_times this_ties this_end this_hand this_match this_minute u6_0 u4_0 this_sum u4_1)) (idxs [true, false, false, false, false, true, true, false, false] 0) (idxs [false, true, true, true, true, false, false, true, true] 0) 9 rfl rfl rfl (pick_C _ rfl rfl) rfl (pick_C _ rfl rfl) rfl (pick_R _ rfl rfl rfl) (run_V (As := [.int v4]) (rest := []) X (c_X0_pairUpTo l D cI cJ cZ h_this q_this this_count this_near this_times this_ties this_partner u4_0 v4 u6_0 hq6) (cw_X0_countPairs_X0_pairUpTo_75 X.1.2.2.2.2) 0 rfl rfl rfl rfl (Nat.le_of_ble_eq_true rfl) dX0_countPairs_51 ⟨Nat.zero_le _, Nat.zero_le _⟩) ?_
        refine J_iinc (lv' := [(3, .int (x3 + (1 : Int32))), (5, .int v4), (0, .ref h_this), (1, .int x1), (2, .int x2), (4, .int x4)]) (j := 4) X dX0_countPairs_54 rfl rfl (by decide) rfl ?_
        refine J_lv (lv' := [(0, .ref h_this), (1, .int x1), (2, .int x2), (3, .int (x3 + (1 : Int32))), (4, .int x4)]) [2, 3, 4, 0, 5] rfl ?_
        exact b_X0_countPairs_57 X cI cJ cZ h_this q_this this_ties r z0 z1 z2 k_13 hk_13 this_count this_near this_times this_end this_hand this_match this_minute u6_0 u4_0 this_sum u4_1 x1 x2 (x3 + (1 : Int32)) x4 hT
set_option maxHeartbeats 4000000 in
set_option maxRecDepth 100000 in
theorem b_X0_countPairs_13 {p : Program} {l : Launch} {e : Env} {s : State} {m : MethodId} {args : Array Value} {below : List Frame} {meth : Method} {c : Code} {D : va_G} {A : Nat → Prop} {cI cJ cZ : ClassId} (X : Cx p m c cX0_countPairs 6 s args wsX0_countPairs RX0 D (tys3 cI cJ cZ) meth (some .int)) (_ _ _ : ClassId)  (h_this : Nat) (q_this : Nat → Nat) (this_ties : Int32) (r : Int32) (z0 : Nat → Int32) (z1 : Nat → Int32) (z2 : Nat → Int32)  : ∀ (n : Nat) (this_count : Int32) (this_near : Int32) (this_times : Int32) (this_end : Nat → Int32) (this_hand : Nat → Int32) (this_match : Nat → Int32) (this_minute : Nat → Int32) (this_partner : Nat → Int32) (this_reachedFrom : Nat → Int32) (this_sum : Nat → Int32) (this_waiting : Nat → Int32) (x1 : Int32) (x2 : Int32) (x3 : Int32) (x4 : Int32) (hT : t_X0_countPairs_13   n this_count this_near this_times this_end this_hand this_match this_minute this_partner this_reachedFrom this_sum this_waiting x1 x2 x3 x4 = some (r, z0, z1, z2)), J p l e rmX0_countPairs s m args below meth c D A 6 (QI D below args s A r (w_X0_countPairs cI cJ cZ h_this q_this this_count this_near this_times this_ties this_end this_hand this_match this_minute z0 z1 this_sum z2)) 0 0 (w_X0_countPairs cI cJ cZ h_this q_this this_count this_near this_times this_ties this_end this_hand this_match this_minute this_partner this_reachedFrom this_sum this_waiting) [(0, .ref h_this), (1, .int x1), (2, .int x2), (3, .int x3), (4, .int x4)] [] 13 := by
  intro n
  induction n with
  | zero => intro this_count this_near this_times this_end this_hand this_match this_minute this_partner this_reachedFrom this_sum this_waiting x1 x2 x3 x4 hT; cases hT
  | succ n ih =>
    intro this_count this_near this_times this_end this_hand this_match this_minute this_partner this_reachedFrom this_sum this_waiting x1 x2 x3 x4 hT
    exact b_X0_countPairs_13_b X cI cJ cZ h_this q_this this_ties r z0 z1 z2  (t_X0_countPairs_13   n) ih this_count this_near this_times this_end this_hand this_match this_minute this_partner this_reachedFrom this_sum this_waiting x1 x2 x3 x4 hT
set_option maxHeartbeats 4000000 in
set_option maxRecDepth 100000 in
theorem c_X0_countPairs (l : Launch) (D : va_G) (cI cJ cZ : ClassId) (h_this : Nat) (q_this : Nat → Nat) (this_count : Int32) (this_near : Int32) (this_times : Int32) (this_ties : Int32) (this_end : Nat → Int32) (this_hand : Nat → Int32) (this_match : Nat → Int32) (this_minute : Nat → Int32) (this_partner : Nat → Int32) (this_reachedFrom : Nat → Int32) (this_sum : Nat → Int32) (this_waiting : Nat → Int32) (x1 : Int32) (x2 : Int32) (r : Int32) (z0 : Nat → Int32) (z1 : Nat → Int32) (z2 : Nat → Int32) (hT : t_X0_countPairs  this_count this_near this_times this_end this_hand this_match this_minute this_partner this_reachedFrom this_sum this_waiting x1 x2 = some (r, z0, z1, z2)) : Ci l yX0_countPairs wsX0_countPairs rmX0_countPairs D (tys3 cI cJ cZ) [.ref h_this, .int x1, .int x2] (w_X0_countPairs cI cJ cZ h_this q_this this_count this_near this_times this_ties this_end this_hand this_match this_minute this_partner this_reachedFrom this_sum this_waiting) r (w_X0_countPairs cI cJ cZ h_this q_this this_count this_near this_times this_ties this_end this_hand this_match this_minute z0 z1 this_sum z2) := by
  refine Ci.ofJ (cc := cX0_countPairs) (nL := 6) (rt := (some .int)) (own := RX0) (by decide) rfl rfl (Nat.le_of_ble_eq_true rfl) ?_
  intro p e s m below meth c A X
  unfold t_X0_countPairs at hT
  refine J_lv (lv' := [(0, .ref h_this), (1, .int x1), (2, .int x2)]) [0, 1, 2] rfl ?_
  refine J_aload_n X dX0_countPairs_0 0 rfl ?_
  refine J_get (C := RX0) (T := TX0) (N := 13) (ci := 0) (v := .ref (q_this 9)) X in_X0_countPairs_X0 0 rfl rfl 9 (by decide) m_X0_countPairs_f37 rfl dX0_countPairs_1 ?_
  refine J_iconst (v := -1) X dX0_countPairs_4 (by decide) ?_
  obtain ⟨u7_0, hq7, hT⟩ := bd1_e hT
  refine J_cv (wc := (w_J7_fill_53178 cI cJ cZ (q_this 9) 40 this_partner)) (wc' := (w_J7_fill_53178 cI cJ cZ (q_this 9) 40 u7_0)) (ws' := (w_X0_countPairs cI cJ cZ h_this q_this this_count this_near this_times this_ties this_end this_hand this_match this_minute u7_0 this_reachedFrom this_sum this_waiting)) (idxs [false, false, false, false, false, true, false, false, false] 0) (idxs [true, true, true, true, true, false, true, true, true] 0) 9 rfl rfl rfl (pick_C _ rfl rfl) rfl (pick_C _ rfl rfl) rfl (pick_R _ rfl rfl rfl) (run_S (As := [.ref (q_this 9), .int (-1 : Int32)]) (rest := []) X (c_J7_fill_53178 l D cI cJ cZ (q_this 9) 40 this_partner (-1 : Int32) u7_0 hq7) (cw_X0_countPairs_J7_fill_53178_65 X.1.2.2.2.2) rfl rfl (Nat.le_of_ble_eq_true rfl) dX0_countPairs_5 ⟨Nat.zero_le _, Nat.zero_le _⟩) ?_
  refine J_iconst (v := 0) X dX0_countPairs_8 (by decide) ?_
  refine J_istore_n (lv' := [(3, .int (0 : Int32)), (0, .ref h_this), (1, .int x1), (2, .int x2)]) X dX0_countPairs_9 (by decide) rfl ?_
  refine J_iconst (v := 0) X dX0_countPairs_10 (by decide) ?_
  refine J_istore (lv' := [(4, .int (0 : Int32)), (3, .int (0 : Int32)), (0, .ref h_this), (1, .int x1), (2, .int x2)]) X dX0_countPairs_11 (by decide) rfl ?_
  refine J_lv (lv' := [(0, .ref h_this), (1, .int x1), (2, .int x2), (3, .int (0 : Int32)), (4, .int (0 : Int32))]) [2, 3, 4, 1, 0] rfl ?_
  exact b_X0_countPairs_13 X cI cJ cZ h_this q_this this_ties r z0 z1 z2  lfuel this_count this_near this_times this_end this_hand this_match this_minute u7_0 this_reachedFrom this_sum this_waiting x1 x2 (0 : Int32) (0 : Int32) hT
-- ===== SoldMatches.closeOver([II)V
abbrev rmX10_closeOver : Room := { frames := 0, cells := 0, slots := 0, locals := 0 }
def w_X10_closeOver (cI cJ cZ : ClassId) (h_p0 : Nat) (p0_n : Nat) (p0 : Nat → Int32) : va_W := [(h_p0, .inl (cI, p0_n, .inl p0))]
def t_X10_closeOver_40 (p0_n : Nat) (k_2 : (Nat → Int32) → Int32 → Int32 → (Option ((Nat → Int32)))) (p0 : Nat → Int32) (x1 : Int32) (x2 : Int32) : Option ((Nat → Int32)) := k_2 p0 x1 (x2 + (1 : Int32))
def t_X10_closeOver_34 (p0_n : Nat) (k_2 : (Nat → Int32) → Int32 → Int32 → (Option ((Nat → Int32)))) (k_9 : (Nat → Int32) → Int32 → Int32 → Int32 → (Option ((Nat → Int32)))) (p0 : Nat → Int32) (x1 : Int32) (x2 : Int32) (x3 : Int32) : Option ((Nat → Int32)) := k_9 p0 x1 x2 (x3 + (1 : Int32))
def t_X10_closeOver_9_b (p0_n : Nat) (k_2 : (Nat → Int32) → Int32 → Int32 → (Option ((Nat → Int32)))) (k_9 : (Nat → Int32) → Int32 → Int32 → Int32 → (Option ((Nat → Int32)))) (p0 : Nat → Int32) (x1 : Int32) (x2 : Int32) (x3 : Int32) : Option ((Nat → Int32)) := if x1 ≤ x3 then (t_X10_closeOver_40 p0_n k_2 p0 x1 x2) else (ckn (x3 < 0 ∨ p0_n ≤ x3.toNatClampNeg) (if (((p0 x3.toNatClampNeg) >>> (x2 &&& 31)) &&& (1 : Int32)) = (1 : Int32) then (ckn (x3 < 0 ∨ p0_n ≤ x3.toNatClampNeg) (ckn (x2 < 0 ∨ p0_n ≤ x2.toNatClampNeg) (ckn (x3 < 0 ∨ p0_n ≤ x3.toNatClampNeg) (t_X10_closeOver_34 p0_n k_2 k_9 (upd p0 x3.toNatClampNeg ((p0 x3.toNatClampNeg) ||| (p0 x2.toNatClampNeg))) x1 x2 x3)))) else (t_X10_closeOver_34 p0_n k_2 k_9 p0 x1 x2 x3)))
def t_X10_closeOver_9 (p0_n : Nat) (k_2 : (Nat → Int32) → Int32 → Int32 → (Option ((Nat → Int32)))) (n : Nat) : (Nat → Int32) → Int32 → Int32 → Int32 → (Option ((Nat → Int32))) := Nat.rec (fun _ _ _ _ => none) (fun _ ih => t_X10_closeOver_9_b p0_n k_2 ih) n
def t_X10_closeOver_2_b (p0_n : Nat) (k_2 : (Nat → Int32) → Int32 → Int32 → (Option ((Nat → Int32)))) (p0 : Nat → Int32) (x1 : Int32) (x2 : Int32) : Option ((Nat → Int32)) := if x1 ≤ x2 then (some (p0)) else (t_X10_closeOver_9 p0_n k_2 lfuel p0 x1 x2 (0 : Int32))
def t_X10_closeOver_2 (p0_n : Nat)  (n : Nat) : (Nat → Int32) → Int32 → Int32 → (Option ((Nat → Int32))) := Nat.rec (fun _ _ _ => none) (fun _ ih => t_X10_closeOver_2_b p0_n  ih) n
def t_X10_closeOver (p0_n : Nat) (p0 : Nat → Int32) (x1 : Int32) : Option ((Nat → Int32)) := t_X10_closeOver_2 p0_n  lfuel p0 x1 (0 : Int32)
set_option maxHeartbeats 4000000 in
set_option maxRecDepth 100000 in
theorem b_X10_closeOver_40 {p : Program} {l : Launch} {e : Env} {s : State} {m : MethodId} {args : Array Value} {below : List Frame} {meth : Method} {c : Code} {D : va_G} {A : Nat → Prop} {cI cJ cZ : ClassId} (X : Cx p m c cX10_closeOver 4 s args wsX10_closeOver RX10 D (tys3 cI cJ cZ) meth none) (_ _ _ : ClassId)  (h_p0 : Nat) (p0_n : Nat)  (z0 : Nat → Int32) (k_2 : (Nat → Int32) → Int32 → Int32 → (Option ((Nat → Int32)))) (hk_2 : ∀ (p0 : Nat → Int32) (x1 : Int32) (x2 : Int32), k_2 p0 x1 x2 = some z0 → J p l e rmX10_closeOver s m args below meth c D A 4 (QV D below args s A (w_X10_closeOver cI cJ cZ h_p0 p0_n z0)) 0 0 (w_X10_closeOver cI cJ cZ h_p0 p0_n p0) [(0, .ref h_p0), (1, .int x1), (2, .int x2)] [] 2) (p0 : Nat → Int32) (x1 : Int32) (x2 : Int32) (hT : t_X10_closeOver_40 p0_n k_2 p0 x1 x2 = some z0) : J p l e rmX10_closeOver s m args below meth c D A 4 (QV D below args s A (w_X10_closeOver cI cJ cZ h_p0 p0_n z0)) 0 0 (w_X10_closeOver cI cJ cZ h_p0 p0_n p0) [(0, .ref h_p0), (1, .int x1), (2, .int x2)] [] 40 := by
  unfold t_X10_closeOver_40 at hT
  refine J_iinc (lv' := [(2, .int (x2 + (1 : Int32))), (0, .ref h_p0), (1, .int x1)]) (j := 2) X dX10_closeOver_40 rfl rfl (by decide) rfl ?_
  refine J_goto (tgt := 2) X dX10_closeOver_43 (by decide) ?_
  refine J_lv (lv' := [(0, .ref h_p0), (1, .int x1), (2, .int (x2 + (1 : Int32)))]) [1, 2, 0] rfl ?_
  exact hk_2 p0 x1 (x2 + (1 : Int32)) hT
set_option maxHeartbeats 4000000 in
set_option maxRecDepth 100000 in
theorem b_X10_closeOver_34 {p : Program} {l : Launch} {e : Env} {s : State} {m : MethodId} {args : Array Value} {below : List Frame} {meth : Method} {c : Code} {D : va_G} {A : Nat → Prop} {cI cJ cZ : ClassId} (X : Cx p m c cX10_closeOver 4 s args wsX10_closeOver RX10 D (tys3 cI cJ cZ) meth none) (_ _ _ : ClassId)  (h_p0 : Nat) (p0_n : Nat)  (z0 : Nat → Int32) (k_2 : (Nat → Int32) → Int32 → Int32 → (Option ((Nat → Int32)))) (hk_2 : ∀ (p0 : Nat → Int32) (x1 : Int32) (x2 : Int32), k_2 p0 x1 x2 = some z0 → J p l e rmX10_closeOver s m args below meth c D A 4 (QV D below args s A (w_X10_closeOver cI cJ cZ h_p0 p0_n z0)) 0 0 (w_X10_closeOver cI cJ cZ h_p0 p0_n p0) [(0, .ref h_p0), (1, .int x1), (2, .int x2)] [] 2) (k_9 : (Nat → Int32) → Int32 → Int32 → Int32 → (Option ((Nat → Int32)))) (hk_9 : ∀ (p0 : Nat → Int32) (x1 : Int32) (x2 : Int32) (x3 : Int32), k_9 p0 x1 x2 x3 = some z0 → J p l e rmX10_closeOver s m args below meth c D A 4 (QV D below args s A (w_X10_closeOver cI cJ cZ h_p0 p0_n z0)) 0 0 (w_X10_closeOver cI cJ cZ h_p0 p0_n p0) [(0, .ref h_p0), (1, .int x1), (2, .int x2), (3, .int x3)] [] 9) (p0 : Nat → Int32) (x1 : Int32) (x2 : Int32) (x3 : Int32) (hT : t_X10_closeOver_34 p0_n k_2 k_9 p0 x1 x2 x3 = some z0) : J p l e rmX10_closeOver s m args below meth c D A 4 (QV D below args s A (w_X10_closeOver cI cJ cZ h_p0 p0_n z0)) 0 0 (w_X10_closeOver cI cJ cZ h_p0 p0_n p0) [(0, .ref h_p0), (1, .int x1), (2, .int x2), (3, .int x3)] [] 34 := by
  unfold t_X10_closeOver_34 at hT
  refine J_iinc (lv' := [(3, .int (x3 + (1 : Int32))), (0, .ref h_p0), (1, .int x1), (2, .int x2)]) (j := 3) X dX10_closeOver_34 rfl rfl (by decide) rfl ?_
  refine J_goto (tgt := 9) X dX10_closeOver_37 (by decide) ?_
  refine J_lv (lv' := [(0, .ref h_p0), (1, .int x1), (2, .int x2), (3, .int (x3 + (1 : Int32)))]) [1, 2, 3, 0] rfl ?_
  exact hk_9 p0 x1 x2 (x3 + (1 : Int32)) hT
set_option maxHeartbeats 4000000 in
set_option maxRecDepth 100000 in
theorem b_X10_closeOver_9_b {p : Program} {l : Launch} {e : Env} {s : State} {m : MethodId} {args : Array Value} {below : List Frame} {meth : Method} {c : Code} {D : va_G} {A : Nat → Prop} {cI cJ cZ : ClassId} (X : Cx p m c cX10_closeOver 4 s args wsX10_closeOver RX10 D (tys3 cI cJ cZ) meth none) (_ _ _ : ClassId)  (h_p0 : Nat) (p0_n : Nat)  (z0 : Nat → Int32) (k_2 : (Nat → Int32) → Int32 → Int32 → (Option ((Nat → Int32)))) (hk_2 : ∀ (p0 : Nat → Int32) (x1 : Int32) (x2 : Int32), k_2 p0 x1 x2 = some z0 → J p l e rmX10_closeOver s m args below meth c D A 4 (QV D below args s A (w_X10_closeOver cI cJ cZ h_p0 p0_n z0)) 0 0 (w_X10_closeOver cI cJ cZ h_p0 p0_n p0) [(0, .ref h_p0), (1, .int x1), (2, .int x2)] [] 2) (k_9 : (Nat → Int32) → Int32 → Int32 → Int32 → (Option ((Nat → Int32)))) (hk_9 : ∀ (p0 : Nat → Int32) (x1 : Int32) (x2 : Int32) (x3 : Int32), k_9 p0 x1 x2 x3 = some z0 → J p l e rmX10_closeOver s m args below meth c D A 4 (QV D below args s A (w_X10_closeOver cI cJ cZ h_p0 p0_n z0)) 0 0 (w_X10_closeOver cI cJ cZ h_p0 p0_n p0) [(0, .ref h_p0), (1, .int x1), (2, .int x2), (3, .int x3)] [] 9) (p0 : Nat → Int32) (x1 : Int32) (x2 : Int32) (x3 : Int32) (hT : t_X10_closeOver_9_b p0_n k_2 k_9 p0 x1 x2 x3 = some z0) : J p l e rmX10_closeOver s m args below meth c D A 4 (QV D below args s A (w_X10_closeOver cI cJ cZ h_p0 p0_n z0)) 0 0 (w_X10_closeOver cI cJ cZ h_p0 p0_n p0) [(0, .ref h_p0), (1, .int x1), (2, .int x2), (3, .int x3)] [] 9 := by
  unfold t_X10_closeOver_9_b at hT
  refine J_iload_n X dX10_closeOver_9 3 rfl ?_
  refine J_iload_n X dX10_closeOver_10 1 rfl ?_
  refine J_icmp_ge (tgt := 40) X dX10_closeOver_11 (by decide) (fun hc1 => ?_) (fun hc1 => ?_)
  · have hT := ift hT hc1
    refine J_lv (lv' := [(0, .ref h_p0), (1, .int x1), (2, .int x2)]) [0, 1, 2] rfl ?_
    exact b_X10_closeOver_40 X cI cJ cZ h_p0 p0_n  z0 k_2 hk_2 p0 x1 x2 hT
  · have hT := iff_ hT hc1
    refine J_aload_n X dX10_closeOver_14 0 rfl ?_
    refine J_iload_n X dX10_closeOver_15 3 rfl ?_
    obtain ⟨hk2, hT⟩ := ckn_e hT
    refine J_iald X 0 rfl rfl hk2 dX10_closeOver_16 ?_
    refine J_iload_n X dX10_closeOver_17 2 rfl ?_
    refine J_ishr X dX10_closeOver_18 ?_
    refine J_iconst (v := 1) X dX10_closeOver_19 (by decide) ?_
    refine J_iand X dX10_closeOver_20 ?_
    refine J_iconst (v := 1) X dX10_closeOver_21 (by decide) ?_
    refine J_icmp_ne (tgt := 34) X dX10_closeOver_22 (by decide) (fun hc3 => ?_) (fun hc3 => ?_)
    · have hT := iff_ hT hc3
      exact b_X10_closeOver_34 X cI cJ cZ h_p0 p0_n  z0 k_2 hk_2 k_9 hk_9 p0 x1 x2 x3 hT
    · have hT := ift hT hc3
      refine J_aload_n X dX10_closeOver_25 0 rfl ?_
      refine J_iload_n X dX10_closeOver_26 3 rfl ?_
      refine J_dup2 X dX10_closeOver_27 rfl rfl ?_
      obtain ⟨hk4, hT⟩ := ckn_e hT
      refine J_iald X 0 rfl rfl hk4 dX10_closeOver_28 ?_
      refine J_aload_n X dX10_closeOver_29 0 rfl ?_
      refine J_iload_n X dX10_closeOver_30 2 rfl ?_
      obtain ⟨hk5, hT⟩ := ckn_e hT
      refine J_iald X 0 rfl rfl hk5 dX10_closeOver_31 ?_
      refine J_ior X dX10_closeOver_32 ?_
      obtain ⟨hk6, hT⟩ := ckn_e hT
      refine J_iast (ws' := (w_X10_closeOver cI cJ cZ h_p0 p0_n (upd p0 x3.toNatClampNeg ((p0 x3.toNatClampNeg) ||| (p0 x2.toNatClampNeg))))) X 0 rfl rfl hk6 rfl dX10_closeOver_33 ?_
      exact b_X10_closeOver_34 X cI cJ cZ h_p0 p0_n  z0 k_2 hk_2 k_9 hk_9 (upd p0 x3.toNatClampNeg ((p0 x3.toNatClampNeg) ||| (p0 x2.toNatClampNeg))) x1 x2 x3 hT
set_option maxHeartbeats 4000000 in
set_option maxRecDepth 100000 in
theorem b_X10_closeOver_9 {p : Program} {l : Launch} {e : Env} {s : State} {m : MethodId} {args : Array Value} {below : List Frame} {meth : Method} {c : Code} {D : va_G} {A : Nat → Prop} {cI cJ cZ : ClassId} (X : Cx p m c cX10_closeOver 4 s args wsX10_closeOver RX10 D (tys3 cI cJ cZ) meth none) (_ _ _ : ClassId)  (h_p0 : Nat) (p0_n : Nat)  (z0 : Nat → Int32) (k_2 : (Nat → Int32) → Int32 → Int32 → (Option ((Nat → Int32)))) (hk_2 : ∀ (p0 : Nat → Int32) (x1 : Int32) (x2 : Int32), k_2 p0 x1 x2 = some z0 → J p l e rmX10_closeOver s m args below meth c D A 4 (QV D below args s A (w_X10_closeOver cI cJ cZ h_p0 p0_n z0)) 0 0 (w_X10_closeOver cI cJ cZ h_p0 p0_n p0) [(0, .ref h_p0), (1, .int x1), (2, .int x2)] [] 2) : ∀ (n : Nat) (p0 : Nat → Int32) (x1 : Int32) (x2 : Int32) (x3 : Int32) (hT : t_X10_closeOver_9 p0_n k_2 n p0 x1 x2 x3 = some z0), J p l e rmX10_closeOver s m args below meth c D A 4 (QV D below args s A (w_X10_closeOver cI cJ cZ h_p0 p0_n z0)) 0 0 (w_X10_closeOver cI cJ cZ h_p0 p0_n p0) [(0, .ref h_p0), (1, .int x1), (2, .int x2), (3, .int x3)] [] 9 := by
  intro n
  induction n with
  | zero => intro p0 x1 x2 x3 hT; cases hT
  | succ n ih =>
    intro p0 x1 x2 x3 hT
    exact b_X10_closeOver_9_b X cI cJ cZ h_p0 p0_n  z0 k_2 hk_2 (t_X10_closeOver_9 p0_n k_2 n) ih p0 x1 x2 x3 hT
set_option maxHeartbeats 4000000 in
set_option maxRecDepth 100000 in
theorem b_X10_closeOver_2_b {p : Program} {l : Launch} {e : Env} {s : State} {m : MethodId} {args : Array Value} {below : List Frame} {meth : Method} {c : Code} {D : va_G} {A : Nat → Prop} {cI cJ cZ : ClassId} (X : Cx p m c cX10_closeOver 4 s args wsX10_closeOver RX10 D (tys3 cI cJ cZ) meth none) (_ _ _ : ClassId)  (h_p0 : Nat) (p0_n : Nat)  (z0 : Nat → Int32) (k_2 : (Nat → Int32) → Int32 → Int32 → (Option ((Nat → Int32)))) (hk_2 : ∀ (p0 : Nat → Int32) (x1 : Int32) (x2 : Int32), k_2 p0 x1 x2 = some z0 → J p l e rmX10_closeOver s m args below meth c D A 4 (QV D below args s A (w_X10_closeOver cI cJ cZ h_p0 p0_n z0)) 0 0 (w_X10_closeOver cI cJ cZ h_p0 p0_n p0) [(0, .ref h_p0), (1, .int x1), (2, .int x2)] [] 2) (p0 : Nat → Int32) (x1 : Int32) (x2 : Int32) (hT : t_X10_closeOver_2_b p0_n k_2 p0 x1 x2 = some z0) : J p l e rmX10_closeOver s m args below meth c D A 4 (QV D below args s A (w_X10_closeOver cI cJ cZ h_p0 p0_n z0)) 0 0 (w_X10_closeOver cI cJ cZ h_p0 p0_n p0) [(0, .ref h_p0), (1, .int x1), (2, .int x2)] [] 2 := by
  unfold t_X10_closeOver_2_b at hT
  refine J_iload_n X dX10_closeOver_2 2 rfl ?_
  refine J_iload_n X dX10_closeOver_3 1 rfl ?_
  refine J_icmp_ge (tgt := 46) X dX10_closeOver_4 (by decide) (fun hc7 => ?_) (fun hc7 => ?_)
  · have hT := ift hT hc7
    cases hT
    exact J_vret X dX10_closeOver_46
  · have hT := iff_ hT hc7
    refine J_iconst (v := 0) X dX10_closeOver_7 (by decide) ?_
    refine J_istore_n (lv' := [(3, .int (0 : Int32)), (0, .ref h_p0), (1, .int x1), (2, .int x2)]) X dX10_closeOver_8 (by decide) rfl ?_
    refine J_lv (lv' := [(0, .ref h_p0), (1, .int x1), (2, .int x2), (3, .int (0 : Int32))]) [1, 2, 3, 0] rfl ?_
    exact b_X10_closeOver_9 X cI cJ cZ h_p0 p0_n  z0 k_2 hk_2 lfuel p0 x1 x2 (0 : Int32) hT
set_option maxHeartbeats 4000000 in
set_option maxRecDepth 100000 in
theorem b_X10_closeOver_2 {p : Program} {l : Launch} {e : Env} {s : State} {m : MethodId} {args : Array Value} {below : List Frame} {meth : Method} {c : Code} {D : va_G} {A : Nat → Prop} {cI cJ cZ : ClassId} (X : Cx p m c cX10_closeOver 4 s args wsX10_closeOver RX10 D (tys3 cI cJ cZ) meth none) (_ _ _ : ClassId)  (h_p0 : Nat) (p0_n : Nat)  (z0 : Nat → Int32)  : ∀ (n : Nat) (p0 : Nat → Int32) (x1 : Int32) (x2 : Int32) (hT : t_X10_closeOver_2 p0_n  n p0 x1 x2 = some z0), J p l e rmX10_closeOver s m args below meth c D A 4 (QV D below args s A (w_X10_closeOver cI cJ cZ h_p0 p0_n z0)) 0 0 (w_X10_closeOver cI cJ cZ h_p0 p0_n p0) [(0, .ref h_p0), (1, .int x1), (2, .int x2)] [] 2 := by
  intro n
  induction n with
  | zero => intro p0 x1 x2 hT; cases hT
  | succ n ih =>
    intro p0 x1 x2 hT
    exact b_X10_closeOver_2_b X cI cJ cZ h_p0 p0_n  z0  (t_X10_closeOver_2 p0_n  n) ih p0 x1 x2 hT
set_option maxHeartbeats 4000000 in
set_option maxRecDepth 100000 in
theorem c_X10_closeOver (l : Launch) (D : va_G) (cI cJ cZ : ClassId) (h_p0 : Nat) (p0_n : Nat) (p0 : Nat → Int32) (x1 : Int32) (z0 : Nat → Int32) (hT : t_X10_closeOver p0_n p0 x1 = some z0) : Cv l yX10_closeOver wsX10_closeOver rmX10_closeOver D (tys3 cI cJ cZ) [.ref h_p0, .int x1] (w_X10_closeOver cI cJ cZ h_p0 p0_n p0) (w_X10_closeOver cI cJ cZ h_p0 p0_n z0) := by
  refine Cv.ofJ (cc := cX10_closeOver) (nL := 4) (rt := none) (own := RX10) (by decide) rfl rfl (Nat.le_of_ble_eq_true rfl) ?_
  intro p e s m below meth c A X
  unfold t_X10_closeOver at hT
  refine J_lv (lv' := [(0, .ref h_p0), (1, .int x1)]) [0, 1] rfl ?_
  refine J_iconst (v := 0) X dX10_closeOver_0 (by decide) ?_
  refine J_istore_n (lv' := [(2, .int (0 : Int32)), (0, .ref h_p0), (1, .int x1)]) X dX10_closeOver_1 (by decide) rfl ?_
  refine J_lv (lv' := [(0, .ref h_p0), (1, .int x1), (2, .int (0 : Int32))]) [1, 2, 0] rfl ?_
  exact b_X10_closeOver_2 X cI cJ cZ h_p0 p0_n  z0  lfuel p0 x1 (0 : Int32) hT
-- ===== SoldMatches$Bets.groupHands()V
abbrev rmX0_groupHands : Room := { frames := 3, cells := 0, slots := 0, locals := 76 }
def w_X0_groupHands (cI cJ cZ : ClassId) (h_this : Nat) (q_this : Nat → Nat) (this_count : Int32) (this_near : Int32) (this_times : Int32) (this_ties : Int32) (this_end : Nat → Int32) (this_groups : Nat → Int32) (this_hand : Nat → Int32) (this_match : Nat → Int32) (this_minute : Nat → Int32) (this_partner : Nat → Int32) (this_reachedFrom : Nat → Int32) (this_sum : Nat → Int32) (this_waiting : Nat → Int32) : va_W := [(h_this, .inr (0, oFX0 q_this this_count this_near this_times this_ties)), ((q_this 6), .inl (cI, 40, .inl this_end)), ((q_this 12), .inl (cI, 10, .inl this_groups)), ((q_this 4), .inl (cI, 40, .inl this_hand)), ((q_this 5), .inl (cI, 40, .inl this_match)), ((q_this 7), .inl (cI, 40, .inl this_minute)), ((q_this 9), .inl (cI, 40, .inl this_partner)), ((q_this 10), .inl (cI, 40, .inl this_reachedFrom)), ((q_this 8), .inl (cI, 40, .inl this_sum)), ((q_this 11), .inl (cI, 40, .inl this_waiting))]
theorem m_X0_groupHands_f46 : Cond.fieldLink RX0 46 "SoldMatches$Bets" "groups" "[I" ∈ wsX0_groupHands := List.mem_of_getElem? (i := 1) rfl
theorem in_X0_groupHands_X0 : ∀ w ∈ wsX00, w ∈ wsX0_groupHands := fun w h => List.mem_cons_of_mem _ (List.mem_append_right _ h)
theorem m_X0_groupHands_st_X10_closeOver : Cond.static yX10_closeOver ∈ wsX0_groupHands := List.mem_of_getElem? (i := 35) rfl
theorem m_X0_groupHands_ini_X10 : Cond.initialized RX10 ∈ wsX0_groupHands := List.mem_of_getElem? (i := 36) rfl
theorem cw_X0_groupHands_X10_closeOver_86 {s : State} {args : Array Value} (hts : ∀ w ∈ wsX0_groupHands, w.before args s = true) (hN : NW s) : va_CN rmX0_groupHands s args RX0 86 yX10_closeOver "SoldMatches" cX10_closeOver 4 none wsX10_closeOver rmX10_closeOver 0 0 2 ∧ (Cond.static yX10_closeOver).before args s = true ∧ True := ⟨va_cnB 2 hts gX0_groupHands_X10_closeOver_n86 rfl rfl rfl (hN _ (List.mem_of_getElem? (i := 64) rfl)) (hts _ m_X0_groupHands_ini_X10) (by decide +kernel) ⟨by decide, by decide⟩, hts _ m_X0_groupHands_st_X10_closeOver, trivial⟩
theorem cw_X0_groupHands_X0_countPairs_83 {s : State} {args : Array Value} (hts : ∀ w ∈ wsX0_groupHands, w.before args s = true) : CallW rmX0_groupHands s args RX0 RX0 83 yX0_countPairs cX0_countPairs 6 (some .int) wsX0_countPairs rmX0_countPairs 0 0 2 := cwV 2 hts gX0_groupHands_X0_countPairs rfl rfl rfl (by decide +kernel) ⟨by decide, by decide⟩
theorem m_X0_groupHands_f18 : Cond.fieldLink RX0 18 "SoldMatches$Bets" "ties" "I" ∈ wsX0_groupHands := List.mem_of_getElem? (i := 2) rfl
def t_X0_groupHands_90   (this_count : Int32) (this_near : Int32) (this_times : Int32) (this_ties : Int32) (this_end : Nat → Int32) (this_groups : Nat → Int32) (this_hand : Nat → Int32) (this_match : Nat → Int32) (this_minute : Nat → Int32) (this_partner : Nat → Int32) (this_reachedFrom : Nat → Int32) (this_sum : Nat → Int32) (this_waiting : Nat → Int32)  : Option ((Nat → Int32) × (Nat → Int32) × (Nat → Int32) × (Nat → Int32)) := bd1 (t_X10_closeOver 10 this_groups (10 : Int32)) (fun u1_0 => some (u1_0, this_partner, this_reachedFrom, this_waiting))
def t_X0_groupHands_84  (k_25 : Int32 → Int32 → Int32 → Int32 → (Nat → Int32) → (Nat → Int32) → (Nat → Int32) → (Nat → Int32) → (Nat → Int32) → (Nat → Int32) → (Nat → Int32) → (Nat → Int32) → (Nat → Int32) → Int32 → (Option ((Nat → Int32) × (Nat → Int32) × (Nat → Int32) × (Nat → Int32)))) (this_count : Int32) (this_near : Int32) (this_times : Int32) (this_ties : Int32) (this_end : Nat → Int32) (this_groups : Nat → Int32) (this_hand : Nat → Int32) (this_match : Nat → Int32) (this_minute : Nat → Int32) (this_partner : Nat → Int32) (this_reachedFrom : Nat → Int32) (this_sum : Nat → Int32) (this_waiting : Nat → Int32) (x1 : Int32) : Option ((Nat → Int32) × (Nat → Int32) × (Nat → Int32) × (Nat → Int32)) := k_25 this_count this_near this_times this_ties this_end this_groups this_hand this_match this_minute this_partner this_reachedFrom this_sum this_waiting (x1 + (1 : Int32))
def t_X0_groupHands_78  (k_25 : Int32 → Int32 → Int32 → Int32 → (Nat → Int32) → (Nat → Int32) → (Nat → Int32) → (Nat → Int32) → (Nat → Int32) → (Nat → Int32) → (Nat → Int32) → (Nat → Int32) → (Nat → Int32) → Int32 → (Option ((Nat → Int32) × (Nat → Int32) × (Nat → Int32) × (Nat → Int32)))) (k_35 : Int32 → Int32 → Int32 → Int32 → (Nat → Int32) → (Nat → Int32) → (Nat → Int32) → (Nat → Int32) → (Nat → Int32) → (Nat → Int32) → (Nat → Int32) → (Nat → Int32) → (Nat → Int32) → Int32 → Int32 → (Option ((Nat → Int32) × (Nat → Int32) × (Nat → Int32) × (Nat → Int32)))) (this_count : Int32) (this_near : Int32) (this_times : Int32) (this_ties : Int32) (this_end : Nat → Int32) (this_groups : Nat → Int32) (this_hand : Nat → Int32) (this_match : Nat → Int32) (this_minute : Nat → Int32) (this_partner : Nat → Int32) (this_reachedFrom : Nat → Int32) (this_sum : Nat → Int32) (this_waiting : Nat → Int32) (x1 : Int32) (x2 : Int32) : Option ((Nat → Int32) × (Nat → Int32) × (Nat → Int32) × (Nat → Int32)) := k_35 this_count this_near this_times this_ties this_end this_groups this_hand this_match this_minute this_partner this_reachedFrom this_sum this_waiting x1 (x2 + (1 : Int32))
def t_X0_groupHands_35_b  (k_25 : Int32 → Int32 → Int32 → Int32 → (Nat → Int32) → (Nat → Int32) → (Nat → Int32) → (Nat → Int32) → (Nat → Int32) → (Nat → Int32) → (Nat → Int32) → (Nat → Int32) → (Nat → Int32) → Int32 → (Option ((Nat → Int32) × (Nat → Int32) × (Nat → Int32) × (Nat → Int32)))) (k_35 : Int32 → Int32 → Int32 → Int32 → (Nat → Int32) → (Nat → Int32) → (Nat → Int32) → (Nat → Int32) → (Nat → Int32) → (Nat → Int32) → (Nat → Int32) → (Nat → Int32) → (Nat → Int32) → Int32 → Int32 → (Option ((Nat → Int32) × (Nat → Int32) × (Nat → Int32) × (Nat → Int32)))) (this_count : Int32) (this_near : Int32) (this_times : Int32) (this_ties : Int32) (this_end : Nat → Int32) (this_groups : Nat → Int32) (this_hand : Nat → Int32) (this_match : Nat → Int32) (this_minute : Nat → Int32) (this_partner : Nat → Int32) (this_reachedFrom : Nat → Int32) (this_sum : Nat → Int32) (this_waiting : Nat → Int32) (x1 : Int32) (x2 : Int32) : Option ((Nat → Int32) × (Nat → Int32) × (Nat → Int32) × (Nat → Int32)) := if (10 : Int32) ≤ x2 then (t_X0_groupHands_84  k_25 this_count this_near this_times this_ties this_end this_groups this_hand this_match this_minute this_partner this_reachedFrom this_sum this_waiting x1) else (bd4 (t_X0_countPairs this_count this_near this_times this_end this_hand this_match this_minute this_partner this_reachedFrom this_sum this_waiting x1 x2) (fun v3 u3_0 u3_1 u3_2 => if v3 < this_ties then (t_X0_groupHands_78  k_25 k_35 this_count this_near this_times this_ties this_end this_groups this_hand this_match this_minute u3_0 u3_1 this_sum u3_2 x1 x2) else (ckn (x1 < 0 ∨ 10 ≤ x1.toNatClampNeg) (ckn (x1 < 0 ∨ 10 ≤ x1.toNatClampNeg) (ckn (x2 < 0 ∨ 10 ≤ x2.toNatClampNeg) (ckn (x2 < 0 ∨ 10 ≤ x2.toNatClampNeg) (t_X0_groupHands_78  k_25 k_35 this_count this_near this_times this_ties this_end (upd (upd this_groups x1.toNatClampNeg ((this_groups x1.toNatClampNeg) ||| ((1 : Int32) <<< (x2 &&& 31)))) x2.toNatClampNeg (((upd this_groups x1.toNatClampNeg ((this_groups x1.toNatClampNeg) ||| ((1 : Int32) <<< (x2 &&& 31)))) x2.toNatClampNeg) ||| ((1 : Int32) <<< (x1 &&& 31)))) this_hand this_match this_minute u3_0 u3_1 this_sum u3_2 x1 x2)))))))
def t_X0_groupHands_35  (k_25 : Int32 → Int32 → Int32 → Int32 → (Nat → Int32) → (Nat → Int32) → (Nat → Int32) → (Nat → Int32) → (Nat → Int32) → (Nat → Int32) → (Nat → Int32) → (Nat → Int32) → (Nat → Int32) → Int32 → (Option ((Nat → Int32) × (Nat → Int32) × (Nat → Int32) × (Nat → Int32)))) (n : Nat) : Int32 → Int32 → Int32 → Int32 → (Nat → Int32) → (Nat → Int32) → (Nat → Int32) → (Nat → Int32) → (Nat → Int32) → (Nat → Int32) → (Nat → Int32) → (Nat → Int32) → (Nat → Int32) → Int32 → Int32 → (Option ((Nat → Int32) × (Nat → Int32) × (Nat → Int32) × (Nat → Int32))) := Nat.rec (fun _ _ _ _ _ _ _ _ _ _ _ _ _ _ _ => none) (fun _ ih => t_X0_groupHands_35_b  k_25 ih) n
def t_X0_groupHands_25_b  (k_25 : Int32 → Int32 → Int32 → Int32 → (Nat → Int32) → (Nat → Int32) → (Nat → Int32) → (Nat → Int32) → (Nat → Int32) → (Nat → Int32) → (Nat → Int32) → (Nat → Int32) → (Nat → Int32) → Int32 → (Option ((Nat → Int32) × (Nat → Int32) × (Nat → Int32) × (Nat → Int32)))) (this_count : Int32) (this_near : Int32) (this_times : Int32) (this_ties : Int32) (this_end : Nat → Int32) (this_groups : Nat → Int32) (this_hand : Nat → Int32) (this_match : Nat → Int32) (this_minute : Nat → Int32) (this_partner : Nat → Int32) (this_reachedFrom : Nat → Int32) (this_sum : Nat → Int32) (this_waiting : Nat → Int32) (x1 : Int32) : Option ((Nat → Int32) × (Nat → Int32) × (Nat → Int32) × (Nat → Int32)) := if (10 : Int32) ≤ x1 then (t_X0_groupHands_90   this_count this_near this_times this_ties this_end this_groups this_hand this_match this_minute this_partner this_reachedFrom this_sum this_waiting) else (t_X0_groupHands_35  k_25 lfuel this_count this_near this_times this_ties this_end this_groups this_hand this_match this_minute this_partner this_reachedFrom this_sum this_waiting x1 (x1 + (1 : Int32)))
def t_X0_groupHands_25   (n : Nat) : Int32 → Int32 → Int32 → Int32 → (Nat → Int32) → (Nat → Int32) → (Nat → Int32) → (Nat → Int32) → (Nat → Int32) → (Nat → Int32) → (Nat → Int32) → (Nat → Int32) → (Nat → Int32) → Int32 → (Option ((Nat → Int32) × (Nat → Int32) × (Nat → Int32) × (Nat → Int32))) := Nat.rec (fun _ _ _ _ _ _ _ _ _ _ _ _ _ _ => none) (fun _ ih => t_X0_groupHands_25_b   ih) n
def t_X0_groupHands_23   (this_count : Int32) (this_near : Int32) (this_times : Int32) (this_ties : Int32) (this_end : Nat → Int32) (this_groups : Nat → Int32) (this_hand : Nat → Int32) (this_match : Nat → Int32) (this_minute : Nat → Int32) (this_partner : Nat → Int32) (this_reachedFrom : Nat → Int32) (this_sum : Nat → Int32) (this_waiting : Nat → Int32)  : Option ((Nat → Int32) × (Nat → Int32) × (Nat → Int32) × (Nat → Int32)) := t_X0_groupHands_25   lfuel this_count this_near this_times this_ties this_end this_groups this_hand this_match this_minute this_partner this_reachedFrom this_sum this_waiting (0 : Int32)
def t_X0_groupHands_2_b  (k_2 : Int32 → Int32 → Int32 → Int32 → (Nat → Int32) → (Nat → Int32) → (Nat → Int32) → (Nat → Int32) → (Nat → Int32) → (Nat → Int32) → (Nat → Int32) → (Nat → Int32) → (Nat → Int32) → Int32 → (Option ((Nat → Int32) × (Nat → Int32) × (Nat → Int32) × (Nat → Int32)))) (this_count : Int32) (this_near : Int32) (this_times : Int32) (this_ties : Int32) (this_end : Nat → Int32) (this_groups : Nat → Int32) (this_hand : Nat → Int32) (this_match : Nat → Int32) (this_minute : Nat → Int32) (this_partner : Nat → Int32) (this_reachedFrom : Nat → Int32) (this_sum : Nat → Int32) (this_waiting : Nat → Int32) (x1 : Int32) : Option ((Nat → Int32) × (Nat → Int32) × (Nat → Int32) × (Nat → Int32)) := if (10 : Int32) ≤ x1 then (t_X0_groupHands_23   this_count this_near this_times this_ties this_end this_groups this_hand this_match this_minute this_partner this_reachedFrom this_sum this_waiting) else (ckn (x1 < 0 ∨ 10 ≤ x1.toNatClampNeg) (k_2 this_count this_near this_times this_ties this_end (upd this_groups x1.toNatClampNeg ((1 : Int32) <<< (x1 &&& 31))) this_hand this_match this_minute this_partner this_reachedFrom this_sum this_waiting (x1 + (1 : Int32))))
def t_X0_groupHands_2   (n : Nat) : Int32 → Int32 → Int32 → Int32 → (Nat → Int32) → (Nat → Int32) → (Nat → Int32) → (Nat → Int32) → (Nat → Int32) → (Nat → Int32) → (Nat → Int32) → (Nat → Int32) → (Nat → Int32) → Int32 → (Option ((Nat → Int32) × (Nat → Int32) × (Nat → Int32) × (Nat → Int32))) := Nat.rec (fun _ _ _ _ _ _ _ _ _ _ _ _ _ _ => none) (fun _ ih => t_X0_groupHands_2_b   ih) n
def t_X0_groupHands  (this_count : Int32) (this_near : Int32) (this_times : Int32) (this_ties : Int32) (this_end : Nat → Int32) (this_groups : Nat → Int32) (this_hand : Nat → Int32) (this_match : Nat → Int32) (this_minute : Nat → Int32) (this_partner : Nat → Int32) (this_reachedFrom : Nat → Int32) (this_sum : Nat → Int32) (this_waiting : Nat → Int32)  : Option ((Nat → Int32) × (Nat → Int32) × (Nat → Int32) × (Nat → Int32)) := t_X0_groupHands_2   lfuel this_count this_near this_times this_ties this_end this_groups this_hand this_match this_minute this_partner this_reachedFrom this_sum this_waiting (0 : Int32)
set_option maxHeartbeats 4000000 in
set_option maxRecDepth 100000 in
theorem b_X0_groupHands_90 {p : Program} {l : Launch} {e : Env} {s : State} {m : MethodId} {args : Array Value} {below : List Frame} {meth : Method} {c : Code} {D : va_G} {A : Nat → Prop} {cI cJ cZ : ClassId} (X : Cx p m c cX0_groupHands 3 s args wsX0_groupHands RX0 D (tys3 cI cJ cZ) meth none) (_ _ _ : ClassId)  (h_this : Nat) (q_this : Nat → Nat)  (z0 : Nat → Int32) (z1 : Nat → Int32) (z2 : Nat → Int32) (z3 : Nat → Int32)  (this_count : Int32) (this_near : Int32) (this_times : Int32) (this_ties : Int32) (this_end : Nat → Int32) (this_groups : Nat → Int32) (this_hand : Nat → Int32) (this_match : Nat → Int32) (this_minute : Nat → Int32) (this_partner : Nat → Int32) (this_reachedFrom : Nat → Int32) (this_sum : Nat → Int32) (this_waiting : Nat → Int32)  (hT : t_X0_groupHands_90   this_count this_near this_times this_ties this_end this_groups this_hand this_match this_minute this_partner this_reachedFrom this_sum this_waiting  = some (z0, z1, z2, z3)) : J p l e rmX0_groupHands s m args below meth c D A 3 (QV D below args s A (w_X0_groupHands cI cJ cZ h_this q_this this_count this_near this_times this_ties this_end z0 this_hand this_match this_minute z1 z2 this_sum z3)) 0 0 (w_X0_groupHands cI cJ cZ h_this q_this this_count this_near this_times this_ties this_end this_groups this_hand this_match this_minute this_partner this_reachedFrom this_sum this_waiting) [(0, .ref h_this)] [] 90 := by
  unfold t_X0_groupHands_90 at hT
  refine J_aload_n X dX0_groupHands_90 0 rfl ?_
  refine J_get (C := RX0) (T := TX0) (N := 13) (ci := 0) (v := .ref (q_this 12)) X in_X0_groupHands_X0 0 rfl rfl 12 (by decide) m_X0_groupHands_f46 rfl dX0_groupHands_91 ?_
  refine J_bipush (v := 10) X dX0_groupHands_94 (by decide) ?_
  obtain ⟨u1_0, hq1, hT⟩ := bd1_e hT
  refine J_cv (wc := (w_X10_closeOver cI cJ cZ (q_this 12) 10 this_groups)) (wc' := (w_X10_closeOver cI cJ cZ (q_this 12) 10 u1_0)) (ws' := (w_X0_groupHands cI cJ cZ h_this q_this this_count this_near this_times this_ties this_end u1_0 this_hand this_match this_minute this_partner this_reachedFrom this_sum this_waiting)) (idxs [false, false, true, false, false, false, false, false, false, false] 0) (idxs [true, true, false, true, true, true, true, true, true, true] 0) 10 rfl rfl rfl (pick_C _ rfl rfl) rfl (pick_C _ rfl rfl) rfl (pick_R _ rfl rfl rfl) (run_SN (As := [.ref (q_this 12), .int (10 : Int32)]) (rest := []) X (c_X10_closeOver l D cI cJ cZ (q_this 12) 10 this_groups (10 : Int32) u1_0 hq1) (cw_X0_groupHands_X10_closeOver_86 X.1.2.2.2.2 X.2.1.2) rfl rfl (Nat.le_of_ble_eq_true rfl) dX0_groupHands_96 ⟨Nat.zero_le _, Nat.zero_le _⟩) ?_
  cases hT
  exact J_vret X dX0_groupHands_99
set_option maxHeartbeats 4000000 in
set_option maxRecDepth 100000 in
theorem b_X0_groupHands_84 {p : Program} {l : Launch} {e : Env} {s : State} {m : MethodId} {args : Array Value} {below : List Frame} {meth : Method} {c : Code} {D : va_G} {A : Nat → Prop} {cI cJ cZ : ClassId} (X : Cx p m c cX0_groupHands 3 s args wsX0_groupHands RX0 D (tys3 cI cJ cZ) meth none) (_ _ _ : ClassId)  (h_this : Nat) (q_this : Nat → Nat)  (z0 : Nat → Int32) (z1 : Nat → Int32) (z2 : Nat → Int32) (z3 : Nat → Int32) (k_25 : Int32 → Int32 → Int32 → Int32 → (Nat → Int32) → (Nat → Int32) → (Nat → Int32) → (Nat → Int32) → (Nat → Int32) → (Nat → Int32) → (Nat → Int32) → (Nat → Int32) → (Nat → Int32) → Int32 → (Option ((Nat → Int32) × (Nat → Int32) × (Nat → Int32) × (Nat → Int32)))) (hk_25 : ∀ (this_count : Int32) (this_near : Int32) (this_times : Int32) (this_ties : Int32) (this_end : Nat → Int32) (this_groups : Nat → Int32) (this_hand : Nat → Int32) (this_match : Nat → Int32) (this_minute : Nat → Int32) (this_partner : Nat → Int32) (this_reachedFrom : Nat → Int32) (this_sum : Nat → Int32) (this_waiting : Nat → Int32) (x1 : Int32), k_25 this_count this_near this_times this_ties this_end this_groups this_hand this_match this_minute this_partner this_reachedFrom this_sum this_waiting x1 = some (z0, z1, z2, z3) → J p l e rmX0_groupHands s m args below meth c D A 3 (QV D below args s A (w_X0_groupHands cI cJ cZ h_this q_this this_count this_near this_times this_ties this_end z0 this_hand this_match this_minute z1 z2 this_sum z3)) 0 0 (w_X0_groupHands cI cJ cZ h_this q_this this_count this_near this_times this_ties this_end this_groups this_hand this_match this_minute this_partner this_reachedFrom this_sum this_waiting) [(0, .ref h_this), (1, .int x1)] [] 25) (this_count : Int32) (this_near : Int32) (this_times : Int32) (this_ties : Int32) (this_end : Nat → Int32) (this_groups : Nat → Int32) (this_hand : Nat → Int32) (this_match : Nat → Int32) (this_minute : Nat → Int32) (this_partner : Nat → Int32) (this_reachedFrom : Nat → Int32) (this_sum : Nat → Int32) (this_waiting : Nat → Int32) (x1 : Int32) (hT : t_X0_groupHands_84  k_25 this_count this_near this_times this_ties this_end this_groups this_hand this_match this_minute this_partner this_reachedFrom this_sum this_waiting x1 = some (z0, z1, z2, z3)) : J p l e rmX0_groupHands s m args below meth c D A 3 (QV D below args s A (w_X0_groupHands cI cJ cZ h_this q_this this_count this_near this_times this_ties this_end z0 this_hand this_match this_minute z1 z2 this_sum z3)) 0 0 (w_X0_groupHands cI cJ cZ h_this q_this this_count this_near this_times this_ties this_end this_groups this_hand this_match this_minute this_partner this_reachedFrom this_sum this_waiting) [(0, .ref h_this), (1, .int x1)] [] 84 := by
  unfold t_X0_groupHands_84 at hT
  refine J_iinc (lv' := [(1, .int (x1 + (1 : Int32))), (0, .ref h_this)]) (j := 1) X dX0_groupHands_84 rfl rfl (by decide) rfl ?_
  refine J_goto (tgt := 25) X dX0_groupHands_87 (by decide) ?_
  refine J_lv (lv' := [(0, .ref h_this), (1, .int (x1 + (1 : Int32)))]) [1, 0] rfl ?_
  exact hk_25 this_count this_near this_times this_ties this_end this_groups this_hand this_match this_minute this_partner this_reachedFrom this_sum this_waiting (x1 + (1 : Int32)) hT
set_option maxHeartbeats 4000000 in
set_option maxRecDepth 100000 in
theorem b_X0_groupHands_78 {p : Program} {l : Launch} {e : Env} {s : State} {m : MethodId} {args : Array Value} {below : List Frame} {meth : Method} {c : Code} {D : va_G} {A : Nat → Prop} {cI cJ cZ : ClassId} (X : Cx p m c cX0_groupHands 3 s args wsX0_groupHands RX0 D (tys3 cI cJ cZ) meth none) (_ _ _ : ClassId)  (h_this : Nat) (q_this : Nat → Nat)  (z0 : Nat → Int32) (z1 : Nat → Int32) (z2 : Nat → Int32) (z3 : Nat → Int32) (k_25 : Int32 → Int32 → Int32 → Int32 → (Nat → Int32) → (Nat → Int32) → (Nat → Int32) → (Nat → Int32) → (Nat → Int32) → (Nat → Int32) → (Nat → Int32) → (Nat → Int32) → (Nat → Int32) → Int32 → (Option ((Nat → Int32) × (Nat → Int32) × (Nat → Int32) × (Nat → Int32)))) (hk_25 : ∀ (this_count : Int32) (this_near : Int32) (this_times : Int32) (this_ties : Int32) (this_end : Nat → Int32) (this_groups : Nat → Int32) (this_hand : Nat → Int32) (this_match : Nat → Int32) (this_minute : Nat → Int32) (this_partner : Nat → Int32) (this_reachedFrom : Nat → Int32) (this_sum : Nat → Int32) (this_waiting : Nat → Int32) (x1 : Int32), k_25 this_count this_near this_times this_ties this_end this_groups this_hand this_match this_minute this_partner this_reachedFrom this_sum this_waiting x1 = some (z0, z1, z2, z3) → J p l e rmX0_groupHands s m args below meth c D A 3 (QV D below args s A (w_X0_groupHands cI cJ cZ h_this q_this this_count this_near this_times this_ties this_end z0 this_hand this_match this_minute z1 z2 this_sum z3)) 0 0 (w_X0_groupHands cI cJ cZ h_this q_this this_count this_near this_times this_ties this_end this_groups this_hand this_match this_minute this_partner this_reachedFrom this_sum this_waiting) [(0, .ref h_this), (1, .int x1)] [] 25) (k_35 : Int32 → Int32 → Int32 → Int32 → (Nat → Int32) → (Nat → Int32) → (Nat → Int32) → (Nat → Int32) → (Nat → Int32) → (Nat → Int32) → (Nat → Int32) → (Nat → Int32) → (Nat → Int32) → Int32 → Int32 → (Option ((Nat → Int32) × (Nat → Int32) × (Nat → Int32) × (Nat → Int32)))) (hk_35 : ∀ (this_count : Int32) (this_near : Int32) (this_times : Int32) (this_ties : Int32) (this_end : Nat → Int32) (this_groups : Nat → Int32) (this_hand : Nat → Int32) (this_match : Nat → Int32) (this_minute : Nat → Int32) (this_partner : Nat → Int32) (this_reachedFrom : Nat → Int32) (this_sum : Nat → Int32) (this_waiting : Nat → Int32) (x1 : Int32) (x2 : Int32), k_35 this_count this_near this_times this_ties this_end this_groups this_hand this_match this_minute this_partner this_reachedFrom this_sum this_waiting x1 x2 = some (z0, z1, z2, z3) → J p l e rmX0_groupHands s m args below meth c D A 3 (QV D below args s A (w_X0_groupHands cI cJ cZ h_this q_this this_count this_near this_times this_ties this_end z0 this_hand this_match this_minute z1 z2 this_sum z3)) 0 0 (w_X0_groupHands cI cJ cZ h_this q_this this_count this_near this_times this_ties this_end this_groups this_hand this_match this_minute this_partner this_reachedFrom this_sum this_waiting) [(0, .ref h_this), (1, .int x1), (2, .int x2)] [] 35) (this_count : Int32) (this_near : Int32) (this_times : Int32) (this_ties : Int32) (this_end : Nat → Int32) (this_groups : Nat → Int32) (this_hand : Nat → Int32) (this_match : Nat → Int32) (this_minute : Nat → Int32) (this_partner : Nat → Int32) (this_reachedFrom : Nat → Int32) (this_sum : Nat → Int32) (this_waiting : Nat → Int32) (x1 : Int32) (x2 : Int32) (hT : t_X0_groupHands_78  k_25 k_35 this_count this_near this_times this_ties this_end this_groups this_hand this_match this_minute this_partner this_reachedFrom this_sum this_waiting x1 x2 = some (z0, z1, z2, z3)) : J p l e rmX0_groupHands s m args below meth c D A 3 (QV D below args s A (w_X0_groupHands cI cJ cZ h_this q_this this_count this_near this_times this_ties this_end z0 this_hand this_match this_minute z1 z2 this_sum z3)) 0 0 (w_X0_groupHands cI cJ cZ h_this q_this this_count this_near this_times this_ties this_end this_groups this_hand this_match this_minute this_partner this_reachedFrom this_sum this_waiting) [(0, .ref h_this), (1, .int x1), (2, .int x2)] [] 78 := by
  unfold t_X0_groupHands_78 at hT
  refine J_iinc (lv' := [(2, .int (x2 + (1 : Int32))), (0, .ref h_this), (1, .int x1)]) (j := 2) X dX0_groupHands_78 rfl rfl (by decide) rfl ?_
  refine J_goto (tgt := 35) X dX0_groupHands_81 (by decide) ?_
  refine J_lv (lv' := [(0, .ref h_this), (1, .int x1), (2, .int (x2 + (1 : Int32)))]) [1, 2, 0] rfl ?_
  exact hk_35 this_count this_near this_times this_ties this_end this_groups this_hand this_match this_minute this_partner this_reachedFrom this_sum this_waiting x1 (x2 + (1 : Int32)) hT
set_option maxHeartbeats 4000000 in
set_option maxRecDepth 100000 in
theorem b_X0_groupHands_35_b {p : Program} {l : Launch} {e : Env} {s : State} {m : MethodId} {args : Array Value} {below : List Frame} {meth : Method} {c : Code} {D : va_G} {A : Nat → Prop} {cI cJ cZ : ClassId} (X : Cx p m c cX0_groupHands 3 s args wsX0_groupHands RX0 D (tys3 cI cJ cZ) meth none) (_ _ _ : ClassId)  (h_this : Nat) (q_this : Nat → Nat)  (z0 : Nat → Int32) (z1 : Nat → Int32) (z2 : Nat → Int32) (z3 : Nat → Int32) (k_25 : Int32 → Int32 → Int32 → Int32 → (Nat → Int32) → (Nat → Int32) → (Nat → Int32) → (Nat → Int32) → (Nat → Int32) → (Nat → Int32) → (Nat → Int32) → (Nat → Int32) → (Nat → Int32) → Int32 → (Option ((Nat → Int32) × (Nat → Int32) × (Nat → Int32) × (Nat → Int32)))) (hk_25 : ∀ (this_count : Int32) (this_near : Int32) (this_times : Int32) (this_ties : Int32) (this_end : Nat → Int32) (this_groups : Nat → Int32) (this_hand : Nat → Int32) (this_match : Nat → Int32) (this_minute : Nat → Int32) (this_partner : Nat → Int32) (this_reachedFrom : Nat → Int32) (this_sum : Nat → Int32) (this_waiting : Nat → Int32) (x1 : Int32), k_25 this_count this_near this_times this_ties this_end this_groups this_hand this_match this_minute this_partner this_reachedFrom this_sum this_waiting x1 = some (z0, z1, z2, z3) → J p l e rmX0_groupHands s m args below meth c D A 3 (QV D below args s A (w_X0_groupHands cI cJ cZ h_this q_this this_count this_near this_times this_ties this_end z0 this_hand this_match this_minute z1 z2 this_sum z3)) 0 0 (w_X0_groupHands cI cJ cZ h_this q_this this_count this_near this_times this_ties this_end this_groups this_hand this_match this_minute this_partner this_reachedFrom this_sum this_waiting) [(0, .ref h_this), (1, .int x1)] [] 25) (k_35 : Int32 → Int32 → Int32 → Int32 → (Nat → Int32) → (Nat → Int32) → (Nat → Int32) → (Nat → Int32) → (Nat → Int32) → (Nat → Int32) → (Nat → Int32) → (Nat → Int32) → (Nat → Int32) → Int32 → Int32 → (Option ((Nat → Int32) × (Nat → Int32) × (Nat → Int32) × (Nat → Int32)))) (hk_35 : ∀ (this_count : Int32) (this_near : Int32) (this_times : Int32) (this_ties : Int32) (this_end : Nat → Int32) (this_groups : Nat → Int32) (this_hand : Nat → Int32) (this_match : Nat → Int32) (this_minute : Nat → Int32) (this_partner : Nat → Int32) (this_reachedFrom : Nat → Int32) (this_sum : Nat → Int32) (this_waiting : Nat → Int32) (x1 : Int32) (x2 : Int32), k_35 this_count this_near this_times this_ties this_end this_groups this_hand this_match this_minute this_partner this_reachedFrom this_sum this_waiting x1 x2 = some (z0, z1, z2, z3) → J p l e rmX0_groupHands s m args below meth c D A 3 (QV D below args s A (w_X0_groupHands cI cJ cZ h_this q_this this_count this_near this_times this_ties this_end z0 this_hand this_match this_minute z1 z2 this_sum z3)) 0 0 (w_X0_groupHands cI cJ cZ h_this q_this this_count this_near this_times this_ties this_end this_groups this_hand this_match this_minute this_partner this_reachedFrom this_sum this_waiting) [(0, .ref h_this), (1, .int x1), (2, .int x2)] [] 35) (this_count : Int32) (this_near : Int32) (this_times : Int32) (this_ties : Int32) (this_end : Nat → Int32) (this_groups : Nat → Int32) (this_hand : Nat → Int32) (this_match : Nat → Int32) (this_minute : Nat → Int32) (this_partner : Nat → Int32) (this_reachedFrom : Nat → Int32) (this_sum : Nat → Int32) (this_waiting : Nat → Int32) (x1 : Int32) (x2 : Int32) (hT : t_X0_groupHands_35_b  k_25 k_35 this_count this_near this_times this_ties this_end this_groups this_hand this_match this_minute this_partner this_reachedFrom this_sum this_waiting x1 x2 = some (z0, z1, z2, z3)) : J p l e rmX0_groupHands s m args below meth c D A 3 (QV D below args s A (w_X0_groupHands cI cJ cZ h_this q_this this_count this_near this_times this_ties this_end z0 this_hand this_match this_minute z1 z2 this_sum z3)) 0 0 (w_X0_groupHands cI cJ cZ h_this q_this this_count this_near this_times this_ties this_end this_groups this_hand this_match this_minute this_partner this_reachedFrom this_sum this_waiting) [(0, .ref h_this), (1, .int x1), (2, .int x2)] [] 35 := by
  unfold t_X0_groupHands_35_b at hT
  refine J_iload_n X dX0_groupHands_35 2 rfl ?_
  refine J_bipush (v := 10) X dX0_groupHands_36 (by decide) ?_
  refine J_icmp_ge (tgt := 84) X dX0_groupHands_38 (by decide) (fun hc2 => ?_) (fun hc2 => ?_)
  · have hT := ift hT hc2
    refine J_lv (lv' := [(0, .ref h_this), (1, .int x1)]) [0, 1] rfl ?_
    exact b_X0_groupHands_84 X cI cJ cZ h_this q_this  z0 z1 z2 z3 k_25 hk_25 this_count this_near this_times this_ties this_end this_groups this_hand this_match this_minute this_partner this_reachedFrom this_sum this_waiting x1 hT
  · have hT := iff_ hT hc2
    refine J_aload_n X dX0_groupHands_41 0 rfl ?_
    refine J_iload_n X dX0_groupHands_42 1 rfl ?_
    refine J_iload_n X dX0_groupHands_43 2 rfl ?_
    obtain ⟨v3, u3_0, u3_1, u3_2, hq3, hT⟩ := bd4_e hT
    refine J_ci (wc := (w_X0_countPairs cI cJ cZ h_this q_this this_count this_near this_times this_ties this_end this_hand this_match this_minute this_partner this_reachedFrom this_sum this_waiting)) (wc' := (w_X0_countPairs cI cJ cZ h_this q_this this_count this_near this_times this_ties this_end this_hand this_match this_minute u3_0 u3_1 this_sum u3_2)) (ws' := (w_X0_groupHands cI cJ cZ h_this q_this this_count this_near this_times this_ties this_end this_groups this_hand this_match this_minute u3_0 u3_1 this_sum u3_2)) (idxs [true, true, false, true, true, true, true, true, true, true] 0) (idxs [false, false, true, false, false, false, false, false, false, false] 0) 10 rfl rfl rfl (pick_C _ rfl rfl) rfl (pick_C _ rfl rfl) rfl (pick_R _ rfl rfl rfl) (run_V (As := [.int x1, .int x2]) (rest := []) X (c_X0_countPairs l D cI cJ cZ h_this q_this this_count this_near this_times this_ties this_end this_hand this_match this_minute this_partner this_reachedFrom this_sum this_waiting x1 x2 v3 u3_0 u3_1 u3_2 hq3) (cw_X0_groupHands_X0_countPairs_83 X.1.2.2.2.2) 0 rfl rfl rfl rfl (Nat.le_of_ble_eq_true rfl) dX0_groupHands_44 ⟨Nat.zero_le _, Nat.zero_le _⟩) ?_
    refine J_aload_n X dX0_groupHands_47 0 rfl ?_
    refine J_get (C := RX0) (T := TX0) (N := 13) (ci := 0) (v := .int this_ties) X in_X0_groupHands_X0 0 rfl rfl 3 (by decide) m_X0_groupHands_f18 rfl dX0_groupHands_48 ?_
    refine J_icmp_lt (tgt := 78) X dX0_groupHands_51 (by decide) (fun hc4 => ?_) (fun hc4 => ?_)
    · have hT := ift hT hc4
      exact b_X0_groupHands_78 X cI cJ cZ h_this q_this  z0 z1 z2 z3 k_25 hk_25 k_35 hk_35 this_count this_near this_times this_ties this_end this_groups this_hand this_match this_minute u3_0 u3_1 this_sum u3_2 x1 x2 hT
    · have hT := iff_ hT hc4
      refine J_aload_n X dX0_groupHands_54 0 rfl ?_
      refine J_get (C := RX0) (T := TX0) (N := 13) (ci := 0) (v := .ref (q_this 12)) X in_X0_groupHands_X0 0 rfl rfl 12 (by decide) m_X0_groupHands_f46 rfl dX0_groupHands_55 ?_
      refine J_iload_n X dX0_groupHands_58 1 rfl ?_
      refine J_dup2 X dX0_groupHands_59 rfl rfl ?_
      obtain ⟨hk5, hT⟩ := ckn_e hT
      refine J_iald X 2 rfl rfl hk5 dX0_groupHands_60 ?_
      refine J_iconst (v := 1) X dX0_groupHands_61 (by decide) ?_
      refine J_iload_n X dX0_groupHands_62 2 rfl ?_
      refine J_ishl X dX0_groupHands_63 ?_
      refine J_ior X dX0_groupHands_64 ?_
      obtain ⟨hk6, hT⟩ := ckn_e hT
      refine J_iast (ws' := (w_X0_groupHands cI cJ cZ h_this q_this this_count this_near this_times this_ties this_end (upd this_groups x1.toNatClampNeg ((this_groups x1.toNatClampNeg) ||| ((1 : Int32) <<< (x2 &&& 31)))) this_hand this_match this_minute u3_0 u3_1 this_sum u3_2)) X 2 rfl rfl hk6 rfl dX0_groupHands_65 ?_
      refine J_aload_n X dX0_groupHands_66 0 rfl ?_
      refine J_get (C := RX0) (T := TX0) (N := 13) (ci := 0) (v := .ref (q_this 12)) X in_X0_groupHands_X0 0 rfl rfl 12 (by decide) m_X0_groupHands_f46 rfl dX0_groupHands_67 ?_
      refine J_iload_n X dX0_groupHands_70 2 rfl ?_
      refine J_dup2 X dX0_groupHands_71 rfl rfl ?_
      obtain ⟨hk7, hT⟩ := ckn_e hT
      refine J_iald X 2 rfl rfl hk7 dX0_groupHands_72 ?_
      refine J_iconst (v := 1) X dX0_groupHands_73 (by decide) ?_
      refine J_iload_n X dX0_groupHands_74 1 rfl ?_
      refine J_ishl X dX0_groupHands_75 ?_
      refine J_ior X dX0_groupHands_76 ?_
      obtain ⟨hk8, hT⟩ := ckn_e hT
      refine J_iast (ws' := (w_X0_groupHands cI cJ cZ h_this q_this this_count this_near this_times this_ties this_end (upd (upd this_groups x1.toNatClampNeg ((this_groups x1.toNatClampNeg) ||| ((1 : Int32) <<< (x2 &&& 31)))) x2.toNatClampNeg (((upd this_groups x1.toNatClampNeg ((this_groups x1.toNatClampNeg) ||| ((1 : Int32) <<< (x2 &&& 31)))) x2.toNatClampNeg) ||| ((1 : Int32) <<< (x1 &&& 31)))) this_hand this_match this_minute u3_0 u3_1 this_sum u3_2)) X 2 rfl rfl hk8 rfl dX0_groupHands_77 ?_
      exact b_X0_groupHands_78 X cI cJ cZ h_this q_this  z0 z1 z2 z3 k_25 hk_25 k_35 hk_35 this_count this_near this_times this_ties this_end (upd (upd this_groups x1.toNatClampNeg ((this_groups x1.toNatClampNeg) ||| ((1 : Int32) <<< (x2 &&& 31)))) x2.toNatClampNeg (((upd this_groups x1.toNatClampNeg ((this_groups x1.toNatClampNeg) ||| ((1 : Int32) <<< (x2 &&& 31)))) x2.toNatClampNeg) ||| ((1 : Int32) <<< (x1 &&& 31)))) this_hand this_match this_minute u3_0 u3_1 this_sum u3_2 x1 x2 hT
set_option maxHeartbeats 4000000 in
set_option maxRecDepth 100000 in
theorem b_X0_groupHands_35 {p : Program} {l : Launch} {e : Env} {s : State} {m : MethodId} {args : Array Value} {below : List Frame} {meth : Method} {c : Code} {D : va_G} {A : Nat → Prop} {cI cJ cZ : ClassId} (X : Cx p m c cX0_groupHands 3 s args wsX0_groupHands RX0 D (tys3 cI cJ cZ) meth none) (_ _ _ : ClassId)  (h_this : Nat) (q_this : Nat → Nat)  (z0 : Nat → Int32) (z1 : Nat → Int32) (z2 : Nat → Int32) (z3 : Nat → Int32) (k_25 : Int32 → Int32 → Int32 → Int32 → (Nat → Int32) → (Nat → Int32) → (Nat → Int32) → (Nat → Int32) → (Nat → Int32) → (Nat → Int32) → (Nat → Int32) → (Nat → Int32) → (Nat → Int32) → Int32 → (Option ((Nat → Int32) × (Nat → Int32) × (Nat → Int32) × (Nat → Int32)))) (hk_25 : ∀ (this_count : Int32) (this_near : Int32) (this_times : Int32) (this_ties : Int32) (this_end : Nat → Int32) (this_groups : Nat → Int32) (this_hand : Nat → Int32) (this_match : Nat → Int32) (this_minute : Nat → Int32) (this_partner : Nat → Int32) (this_reachedFrom : Nat → Int32) (this_sum : Nat → Int32) (this_waiting : Nat → Int32) (x1 : Int32), k_25 this_count this_near this_times this_ties this_end this_groups this_hand this_match this_minute this_partner this_reachedFrom this_sum this_waiting x1 = some (z0, z1, z2, z3) → J p l e rmX0_groupHands s m args below meth c D A 3 (QV D below args s A (w_X0_groupHands cI cJ cZ h_this q_this this_count this_near this_times this_ties this_end z0 this_hand this_match this_minute z1 z2 this_sum z3)) 0 0 (w_X0_groupHands cI cJ cZ h_this q_this this_count this_near this_times this_ties this_end this_groups this_hand this_match this_minute this_partner this_reachedFrom this_sum this_waiting) [(0, .ref h_this), (1, .int x1)] [] 25) : ∀ (n : Nat) (this_count : Int32) (this_near : Int32) (this_times : Int32) (this_ties : Int32) (this_end : Nat → Int32) (this_groups : Nat → Int32) (this_hand : Nat → Int32) (this_match : Nat → Int32) (this_minute : Nat → Int32) (this_partner : Nat → Int32) (this_reachedFrom : Nat → Int32) (this_sum : Nat → Int32) (this_waiting : Nat → Int32) (x1 : Int32) (x2 : Int32) (hT : t_X0_groupHands_35  k_25 n this_count this_near this_times this_ties this_end this_groups this_hand this_match this_minute this_partner this_reachedFrom this_sum this_waiting x1 x2 = some (z0, z1, z2, z3)), J p l e rmX0_groupHands s m args below meth c D A 3 (QV D below args s A (w_X0_groupHands cI cJ cZ h_this q_this this_count this_near this_times this_ties this_end z0 this_hand this_match this_minute z1 z2 this_sum z3)) 0 0 (w_X0_groupHands cI cJ cZ h_this q_this this_count this_near this_times this_ties this_end this_groups this_hand this_match this_minute this_partner this_reachedFrom this_sum this_waiting) [(0, .ref h_this), (1, .int x1), (2, .int x2)] [] 35 := by
  intro n
  induction n with
  | zero => intro this_count this_near this_times this_ties this_end this_groups this_hand this_match this_minute this_partner this_reachedFrom this_sum this_waiting x1 x2 hT; cases hT
  | succ n ih =>
    intro this_count this_near this_times this_ties this_end this_groups this_hand this_match this_minute this_partner this_reachedFrom this_sum this_waiting x1 x2 hT
    exact b_X0_groupHands_35_b X cI cJ cZ h_this q_this  z0 z1 z2 z3 k_25 hk_25 (t_X0_groupHands_35  k_25 n) ih this_count this_near this_times this_ties this_end this_groups this_hand this_match this_minute this_partner this_reachedFrom this_sum this_waiting x1 x2 hT
set_option maxHeartbeats 4000000 in
set_option maxRecDepth 100000 in
theorem b_X0_groupHands_25_b {p : Program} {l : Launch} {e : Env} {s : State} {m : MethodId} {args : Array Value} {below : List Frame} {meth : Method} {c : Code} {D : va_G} {A : Nat → Prop} {cI cJ cZ : ClassId} (X : Cx p m c cX0_groupHands 3 s args wsX0_groupHands RX0 D (tys3 cI cJ cZ) meth none) (_ _ _ : ClassId)  (h_this : Nat) (q_this : Nat → Nat)  (z0 : Nat → Int32) (z1 : Nat → Int32) (z2 : Nat → Int32) (z3 : Nat → Int32) (k_25 : Int32 → Int32 → Int32 → Int32 → (Nat → Int32) → (Nat → Int32) → (Nat → Int32) → (Nat → Int32) → (Nat → Int32) → (Nat → Int32) → (Nat → Int32) → (Nat → Int32) → (Nat → Int32) → Int32 → (Option ((Nat → Int32) × (Nat → Int32) × (Nat → Int32) × (Nat → Int32)))) (hk_25 : ∀ (this_count : Int32) (this_near : Int32) (this_times : Int32) (this_ties : Int32) (this_end : Nat → Int32) (this_groups : Nat → Int32) (this_hand : Nat → Int32) (this_match : Nat → Int32) (this_minute : Nat → Int32) (this_partner : Nat → Int32) (this_reachedFrom : Nat → Int32) (this_sum : Nat → Int32) (this_waiting : Nat → Int32) (x1 : Int32), k_25 this_count this_near this_times this_ties this_end this_groups this_hand this_match this_minute this_partner this_reachedFrom this_sum this_waiting x1 = some (z0, z1, z2, z3) → J p l e rmX0_groupHands s m args below meth c D A 3 (QV D below args s A (w_X0_groupHands cI cJ cZ h_this q_this this_count this_near this_times this_ties this_end z0 this_hand this_match this_minute z1 z2 this_sum z3)) 0 0 (w_X0_groupHands cI cJ cZ h_this q_this this_count this_near this_times this_ties this_end this_groups this_hand this_match this_minute this_partner this_reachedFrom this_sum this_waiting) [(0, .ref h_this), (1, .int x1)] [] 25) (this_count : Int32) (this_near : Int32) (this_times : Int32) (this_ties : Int32) (this_end : Nat → Int32) (this_groups : Nat → Int32) (this_hand : Nat → Int32) (this_match : Nat → Int32) (this_minute : Nat → Int32) (this_partner : Nat → Int32) (this_reachedFrom : Nat → Int32) (this_sum : Nat → Int32) (this_waiting : Nat → Int32) (x1 : Int32) (hT : t_X0_groupHands_25_b  k_25 this_count this_near this_times this_ties this_end this_groups this_hand this_match this_minute this_partner this_reachedFrom this_sum this_waiting x1 = some (z0, z1, z2, z3)) : J p l e rmX0_groupHands s m args below meth c D A 3 (QV D below args s A (w_X0_groupHands cI cJ cZ h_this q_this this_count this_near this_times this_ties this_end z0 this_hand this_match this_minute z1 z2 this_sum z3)) 0 0 (w_X0_groupHands cI cJ cZ h_this q_this this_count this_near this_times this_ties this_end this_groups this_hand this_match this_minute this_partner this_reachedFrom this_sum this_waiting) [(0, .ref h_this), (1, .int x1)] [] 25 := by
  unfold t_X0_groupHands_25_b at hT
  refine J_iload_n X dX0_groupHands_25 1 rfl ?_
  refine J_bipush (v := 10) X dX0_groupHands_26 (by decide) ?_
  refine J_icmp_ge (tgt := 90) X dX0_groupHands_28 (by decide) (fun hc9 => ?_) (fun hc9 => ?_)
  · have hT := ift hT hc9
    refine J_lv (lv' := [(0, .ref h_this)]) [0] rfl ?_
    exact b_X0_groupHands_90 X cI cJ cZ h_this q_this  z0 z1 z2 z3  this_count this_near this_times this_ties this_end this_groups this_hand this_match this_minute this_partner this_reachedFrom this_sum this_waiting hT
  · have hT := iff_ hT hc9
    refine J_iload_n X dX0_groupHands_31 1 rfl ?_
    refine J_iconst (v := 1) X dX0_groupHands_32 (by decide) ?_
    refine J_iadd X dX0_groupHands_33 ?_
    refine J_istore_n (lv' := [(2, .int (x1 + (1 : Int32))), (0, .ref h_this), (1, .int x1)]) X dX0_groupHands_34 (by decide) rfl ?_
    refine J_lv (lv' := [(0, .ref h_this), (1, .int x1), (2, .int (x1 + (1 : Int32)))]) [1, 2, 0] rfl ?_
    exact b_X0_groupHands_35 X cI cJ cZ h_this q_this  z0 z1 z2 z3 k_25 hk_25 lfuel this_count this_near this_times this_ties this_end this_groups this_hand this_match this_minute this_partner this_reachedFrom this_sum this_waiting x1 (x1 + (1 : Int32)) hT
set_option maxHeartbeats 4000000 in
set_option maxRecDepth 100000 in
theorem b_X0_groupHands_25 {p : Program} {l : Launch} {e : Env} {s : State} {m : MethodId} {args : Array Value} {below : List Frame} {meth : Method} {c : Code} {D : va_G} {A : Nat → Prop} {cI cJ cZ : ClassId} (X : Cx p m c cX0_groupHands 3 s args wsX0_groupHands RX0 D (tys3 cI cJ cZ) meth none) (_ _ _ : ClassId)  (h_this : Nat) (q_this : Nat → Nat)  (z0 : Nat → Int32) (z1 : Nat → Int32) (z2 : Nat → Int32) (z3 : Nat → Int32)  : ∀ (n : Nat) (this_count : Int32) (this_near : Int32) (this_times : Int32) (this_ties : Int32) (this_end : Nat → Int32) (this_groups : Nat → Int32) (this_hand : Nat → Int32) (this_match : Nat → Int32) (this_minute : Nat → Int32) (this_partner : Nat → Int32) (this_reachedFrom : Nat → Int32) (this_sum : Nat → Int32) (this_waiting : Nat → Int32) (x1 : Int32) (hT : t_X0_groupHands_25   n this_count this_near this_times this_ties this_end this_groups this_hand this_match this_minute this_partner this_reachedFrom this_sum this_waiting x1 = some (z0, z1, z2, z3)), J p l e rmX0_groupHands s m args below meth c D A 3 (QV D below args s A (w_X0_groupHands cI cJ cZ h_this q_this this_count this_near this_times this_ties this_end z0 this_hand this_match this_minute z1 z2 this_sum z3)) 0 0 (w_X0_groupHands cI cJ cZ h_this q_this this_count this_near this_times this_ties this_end this_groups this_hand this_match this_minute this_partner this_reachedFrom this_sum this_waiting) [(0, .ref h_this), (1, .int x1)] [] 25 := by
  intro n
  induction n with
  | zero => intro this_count this_near this_times this_ties this_end this_groups this_hand this_match this_minute this_partner this_reachedFrom this_sum this_waiting x1 hT; cases hT
  | succ n ih =>
    intro this_count this_near this_times this_ties this_end this_groups this_hand this_match this_minute this_partner this_reachedFrom this_sum this_waiting x1 hT
    exact b_X0_groupHands_25_b X cI cJ cZ h_this q_this  z0 z1 z2 z3  (t_X0_groupHands_25   n) ih this_count this_near this_times this_ties this_end this_groups this_hand this_match this_minute this_partner this_reachedFrom this_sum this_waiting x1 hT
set_option maxHeartbeats 4000000 in
set_option maxRecDepth 100000 in
theorem b_X0_groupHands_23 {p : Program} {l : Launch} {e : Env} {s : State} {m : MethodId} {args : Array Value} {below : List Frame} {meth : Method} {c : Code} {D : va_G} {A : Nat → Prop} {cI cJ cZ : ClassId} (X : Cx p m c cX0_groupHands 3 s args wsX0_groupHands RX0 D (tys3 cI cJ cZ) meth none) (_ _ _ : ClassId)  (h_this : Nat) (q_this : Nat → Nat)  (z0 : Nat → Int32) (z1 : Nat → Int32) (z2 : Nat → Int32) (z3 : Nat → Int32)  (this_count : Int32) (this_near : Int32) (this_times : Int32) (this_ties : Int32) (this_end : Nat → Int32) (this_groups : Nat → Int32) (this_hand : Nat → Int32) (this_match : Nat → Int32) (this_minute : Nat → Int32) (this_partner : Nat → Int32) (this_reachedFrom : Nat → Int32) (this_sum : Nat → Int32) (this_waiting : Nat → Int32)  (hT : t_X0_groupHands_23   this_count this_near this_times this_ties this_end this_groups this_hand this_match this_minute this_partner this_reachedFrom this_sum this_waiting  = some (z0, z1, z2, z3)) : J p l e rmX0_groupHands s m args below meth c D A 3 (QV D below args s A (w_X0_groupHands cI cJ cZ h_this q_this this_count this_near this_times this_ties this_end z0 this_hand this_match this_minute z1 z2 this_sum z3)) 0 0 (w_X0_groupHands cI cJ cZ h_this q_this this_count this_near this_times this_ties this_end this_groups this_hand this_match this_minute this_partner this_reachedFrom this_sum this_waiting) [(0, .ref h_this)] [] 23 := by
  unfold t_X0_groupHands_23 at hT
  refine J_iconst (v := 0) X dX0_groupHands_23 (by decide) ?_
  refine J_istore_n (lv' := [(1, .int (0 : Int32)), (0, .ref h_this)]) X dX0_groupHands_24 (by decide) rfl ?_
  refine J_lv (lv' := [(0, .ref h_this), (1, .int (0 : Int32))]) [1, 0] rfl ?_
  exact b_X0_groupHands_25 X cI cJ cZ h_this q_this  z0 z1 z2 z3  lfuel this_count this_near this_times this_ties this_end this_groups this_hand this_match this_minute this_partner this_reachedFrom this_sum this_waiting (0 : Int32) hT
set_option maxHeartbeats 4000000 in
set_option maxRecDepth 100000 in
theorem b_X0_groupHands_2_b {p : Program} {l : Launch} {e : Env} {s : State} {m : MethodId} {args : Array Value} {below : List Frame} {meth : Method} {c : Code} {D : va_G} {A : Nat → Prop} {cI cJ cZ : ClassId} (X : Cx p m c cX0_groupHands 3 s args wsX0_groupHands RX0 D (tys3 cI cJ cZ) meth none) (_ _ _ : ClassId)  (h_this : Nat) (q_this : Nat → Nat)  (z0 : Nat → Int32) (z1 : Nat → Int32) (z2 : Nat → Int32) (z3 : Nat → Int32) (k_2 : Int32 → Int32 → Int32 → Int32 → (Nat → Int32) → (Nat → Int32) → (Nat → Int32) → (Nat → Int32) → (Nat → Int32) → (Nat → Int32) → (Nat → Int32) → (Nat → Int32) → (Nat → Int32) → Int32 → (Option ((Nat → Int32) × (Nat → Int32) × (Nat → Int32) × (Nat → Int32)))) (hk_2 : ∀ (this_count : Int32) (this_near : Int32) (this_times : Int32) (this_ties : Int32) (this_end : Nat → Int32) (this_groups : Nat → Int32) (this_hand : Nat → Int32) (this_match : Nat → Int32) (this_minute : Nat → Int32) (this_partner : Nat → Int32) (this_reachedFrom : Nat → Int32) (this_sum : Nat → Int32) (this_waiting : Nat → Int32) (x1 : Int32), k_2 this_count this_near this_times this_ties this_end this_groups this_hand this_match this_minute this_partner this_reachedFrom this_sum this_waiting x1 = some (z0, z1, z2, z3) → J p l e rmX0_groupHands s m args below meth c D A 3 (QV D below args s A (w_X0_groupHands cI cJ cZ h_this q_this this_count this_near this_times this_ties this_end z0 this_hand this_match this_minute z1 z2 this_sum z3)) 0 0 (w_X0_groupHands cI cJ cZ h_this q_this this_count this_near this_times this_ties this_end this_groups this_hand this_match this_minute this_partner this_reachedFrom this_sum this_waiting) [(0, .ref h_this), (1, .int x1)] [] 2) (this_count : Int32) (this_near : Int32) (this_times : Int32) (this_ties : Int32) (this_end : Nat → Int32) (this_groups : Nat → Int32) (this_hand : Nat → Int32) (this_match : Nat → Int32) (this_minute : Nat → Int32) (this_partner : Nat → Int32) (this_reachedFrom : Nat → Int32) (this_sum : Nat → Int32) (this_waiting : Nat → Int32) (x1 : Int32) (hT : t_X0_groupHands_2_b  k_2 this_count this_near this_times this_ties this_end this_groups this_hand this_match this_minute this_partner this_reachedFrom this_sum this_waiting x1 = some (z0, z1, z2, z3)) : J p l e rmX0_groupHands s m args below meth c D A 3 (QV D below args s A (w_X0_groupHands cI cJ cZ h_this q_this this_count this_near this_times this_ties this_end z0 this_hand this_match this_minute z1 z2 this_sum z3)) 0 0 (w_X0_groupHands cI cJ cZ h_this q_this this_count this_near this_times this_ties this_end this_groups this_hand this_match this_minute this_partner this_reachedFrom this_sum this_waiting) [(0, .ref h_this), (1, .int x1)] [] 2 := by
  unfold t_X0_groupHands_2_b at hT
  refine J_iload_n X dX0_groupHands_2 1 rfl ?_
  refine J_bipush (v := 10) X dX0_groupHands_3 (by decide) ?_
  refine J_icmp_ge (tgt := 23) X dX0_groupHands_5 (by decide) (fun hc10 => ?_) (fun hc10 => ?_)
  · have hT := ift hT hc10
    refine J_lv (lv' := [(0, .ref h_this)]) [0] rfl ?_
    exact b_X0_groupHands_23 X cI cJ cZ h_this q_this  z0 z1 z2 z3  this_count this_near this_times this_ties this_end this_groups this_hand this_match this_minute this_partner this_reachedFrom this_sum this_waiting hT
  · have hT := iff_ hT hc10
    refine J_aload_n X dX0_groupHands_8 0 rfl ?_
    refine J_get (C := RX0) (T := TX0) (N := 13) (ci := 0) (v := .ref (q_this 12)) X in_X0_groupHands_X0 0 rfl rfl 12 (by decide) m_X0_groupHands_f46 rfl dX0_groupHands_9 ?_
    refine J_iload_n X dX0_groupHands_12 1 rfl ?_
    refine J_iconst (v := 1) X dX0_groupHands_13 (by decide) ?_
    refine J_iload_n X dX0_groupHands_14 1 rfl ?_
    refine J_ishl X dX0_groupHands_15 ?_
    obtain ⟨hk11, hT⟩ := ckn_e hT
    refine J_iast (ws' := (w_X0_groupHands cI cJ cZ h_this q_this this_count this_near this_times this_ties this_end (upd this_groups x1.toNatClampNeg ((1 : Int32) <<< (x1 &&& 31))) this_hand this_match this_minute this_partner this_reachedFrom this_sum this_waiting)) X 2 rfl rfl hk11 rfl dX0_groupHands_16 ?_
    refine J_iinc (lv' := [(1, .int (x1 + (1 : Int32))), (0, .ref h_this)]) (j := 1) X dX0_groupHands_17 rfl rfl (by decide) rfl ?_
    refine J_goto (tgt := 2) X dX0_groupHands_20 (by decide) ?_
    refine J_lv (lv' := [(0, .ref h_this), (1, .int (x1 + (1 : Int32)))]) [1, 0] rfl ?_
    exact hk_2 this_count this_near this_times this_ties this_end (upd this_groups x1.toNatClampNeg ((1 : Int32) <<< (x1 &&& 31))) this_hand this_match this_minute this_partner this_reachedFrom this_sum this_waiting (x1 + (1 : Int32)) hT
set_option maxHeartbeats 4000000 in
set_option maxRecDepth 100000 in
theorem b_X0_groupHands_2 {p : Program} {l : Launch} {e : Env} {s : State} {m : MethodId} {args : Array Value} {below : List Frame} {meth : Method} {c : Code} {D : va_G} {A : Nat → Prop} {cI cJ cZ : ClassId} (X : Cx p m c cX0_groupHands 3 s args wsX0_groupHands RX0 D (tys3 cI cJ cZ) meth none) (_ _ _ : ClassId)  (h_this : Nat) (q_this : Nat → Nat)  (z0 : Nat → Int32) (z1 : Nat → Int32) (z2 : Nat → Int32) (z3 : Nat → Int32)  : ∀ (n : Nat) (this_count : Int32) (this_near : Int32) (this_times : Int32) (this_ties : Int32) (this_end : Nat → Int32) (this_groups : Nat → Int32) (this_hand : Nat → Int32) (this_match : Nat → Int32) (this_minute : Nat → Int32) (this_partner : Nat → Int32) (this_reachedFrom : Nat → Int32) (this_sum : Nat → Int32) (this_waiting : Nat → Int32) (x1 : Int32) (hT : t_X0_groupHands_2   n this_count this_near this_times this_ties this_end this_groups this_hand this_match this_minute this_partner this_reachedFrom this_sum this_waiting x1 = some (z0, z1, z2, z3)), J p l e rmX0_groupHands s m args below meth c D A 3 (QV D below args s A (w_X0_groupHands cI cJ cZ h_this q_this this_count this_near this_times this_ties this_end z0 this_hand this_match this_minute z1 z2 this_sum z3)) 0 0 (w_X0_groupHands cI cJ cZ h_this q_this this_count this_near this_times this_ties this_end this_groups this_hand this_match this_minute this_partner this_reachedFrom this_sum this_waiting) [(0, .ref h_this), (1, .int x1)] [] 2 := by
  intro n
  induction n with
  | zero => intro this_count this_near this_times this_ties this_end this_groups this_hand this_match this_minute this_partner this_reachedFrom this_sum this_waiting x1 hT; cases hT
  | succ n ih =>
    intro this_count this_near this_times this_ties this_end this_groups this_hand this_match this_minute this_partner this_reachedFrom this_sum this_waiting x1 hT
    exact b_X0_groupHands_2_b X cI cJ cZ h_this q_this  z0 z1 z2 z3  (t_X0_groupHands_2   n) ih this_count this_near this_times this_ties this_end this_groups this_hand this_match this_minute this_partner this_reachedFrom this_sum this_waiting x1 hT
set_option maxHeartbeats 4000000 in
set_option maxRecDepth 100000 in
theorem c_X0_groupHands (l : Launch) (D : va_G) (cI cJ cZ : ClassId) (h_this : Nat) (q_this : Nat → Nat) (this_count : Int32) (this_near : Int32) (this_times : Int32) (this_ties : Int32) (this_end : Nat → Int32) (this_groups : Nat → Int32) (this_hand : Nat → Int32) (this_match : Nat → Int32) (this_minute : Nat → Int32) (this_partner : Nat → Int32) (this_reachedFrom : Nat → Int32) (this_sum : Nat → Int32) (this_waiting : Nat → Int32)  (z0 : Nat → Int32) (z1 : Nat → Int32) (z2 : Nat → Int32) (z3 : Nat → Int32) (hT : t_X0_groupHands  this_count this_near this_times this_ties this_end this_groups this_hand this_match this_minute this_partner this_reachedFrom this_sum this_waiting  = some (z0, z1, z2, z3)) : Cv l yX0_groupHands wsX0_groupHands rmX0_groupHands D (tys3 cI cJ cZ) [.ref h_this] (w_X0_groupHands cI cJ cZ h_this q_this this_count this_near this_times this_ties this_end this_groups this_hand this_match this_minute this_partner this_reachedFrom this_sum this_waiting) (w_X0_groupHands cI cJ cZ h_this q_this this_count this_near this_times this_ties this_end z0 this_hand this_match this_minute z1 z2 this_sum z3) := by
  refine Cv.ofJ (cc := cX0_groupHands) (nL := 3) (rt := none) (own := RX0) (by decide) rfl rfl (Nat.le_of_ble_eq_true rfl) ?_
  intro p e s m below meth c A X
  unfold t_X0_groupHands at hT
  refine J_lv (lv' := [(0, .ref h_this)]) [0] rfl ?_
  refine J_iconst (v := 0) X dX0_groupHands_0 (by decide) ?_
  refine J_istore_n (lv' := [(1, .int (0 : Int32)), (0, .ref h_this)]) X dX0_groupHands_1 (by decide) rfl ?_
  refine J_lv (lv' := [(0, .ref h_this), (1, .int (0 : Int32))]) [1, 0] rfl ?_
  exact b_X0_groupHands_2 X cI cJ cZ h_this q_this  z0 z1 z2 z3  lfuel this_count this_near this_times this_ties this_end this_groups this_hand this_match this_minute this_partner this_reachedFrom this_sum this_waiting (0 : Int32) hT
-- ===== SoldMatches$Bets.countGrouped(I)I
abbrev rmX0_countGrouped : Room := { frames := 4, cells := 0, slots := 0, locals := 98 }
def w_X0_countGrouped (cI cJ cZ : ClassId) (h_this : Nat) (q_this : Nat → Nat) (this_count : Int32) (this_near : Int32) (this_times : Int32) (this_ties : Int32) (this_end : Nat → Int32) (this_groups : Nat → Int32) (this_hand : Nat → Int32) (this_match : Nat → Int32) (this_minute : Nat → Int32) (this_partner : Nat → Int32) (this_reachedFrom : Nat → Int32) (this_sum : Nat → Int32) (this_waiting : Nat → Int32) : va_W := [(h_this, .inr (0, oFX0 q_this this_count this_near this_times this_ties)), ((q_this 6), .inl (cI, 40, .inl this_end)), ((q_this 12), .inl (cI, 10, .inl this_groups)), ((q_this 4), .inl (cI, 40, .inl this_hand)), ((q_this 5), .inl (cI, 40, .inl this_match)), ((q_this 7), .inl (cI, 40, .inl this_minute)), ((q_this 9), .inl (cI, 40, .inl this_partner)), ((q_this 10), .inl (cI, 40, .inl this_reachedFrom)), ((q_this 8), .inl (cI, 40, .inl this_sum)), ((q_this 11), .inl (cI, 40, .inl this_waiting))]
theorem m_X0_countGrouped_f46 : Cond.fieldLink RX0 46 "SoldMatches$Bets" "groups" "[I" ∈ wsX0_countGrouped := List.mem_of_getElem? (i := 1) rfl
theorem in_X0_countGrouped_X0 : ∀ w ∈ wsX00, w ∈ wsX0_countGrouped := fun w h => List.mem_cons_of_mem _ (List.mem_append_right _ h)
theorem cw_X0_countGrouped_X0_groupHands_89 {s : State} {args : Array Value} (hts : ∀ w ∈ wsX0_countGrouped, w.before args s = true) : CallW rmX0_countGrouped s args RX0 RX0 89 yX0_groupHands cX0_groupHands 3 none wsX0_groupHands rmX0_groupHands 0 0 0 := cwV 0 hts gX0_countGrouped_X0_groupHands rfl rfl rfl (by decide +kernel) ⟨by decide, by decide⟩
theorem cw_X0_countGrouped_X0_handsOn_92 {s : State} {args : Array Value} (hts : ∀ w ∈ wsX0_countGrouped, w.before args s = true) : CallW rmX0_countGrouped s args RX0 RX0 92 yX0_handsOn cX0_handsOn 4 (some .int) wsX0_handsOn rmX0_handsOn 0 0 1 := cwV 1 hts gX0_countGrouped_X0_handsOn rfl rfl rfl (by decide +kernel) ⟨by decide, by decide⟩
def t_X0_countGrouped_49  (k_15 : Int32 → Int32 → Int32 → Int32 → (Nat → Int32) → (Nat → Int32) → (Nat → Int32) → (Nat → Int32) → (Nat → Int32) → (Nat → Int32) → (Nat → Int32) → (Nat → Int32) → (Nat → Int32) → Int32 → Int32 → Int32 → (Option (Int32 × (Nat → Int32) × (Nat → Int32) × (Nat → Int32) × (Nat → Int32)))) (this_count : Int32) (this_near : Int32) (this_times : Int32) (this_ties : Int32) (this_end : Nat → Int32) (this_groups : Nat → Int32) (this_hand : Nat → Int32) (this_match : Nat → Int32) (this_minute : Nat → Int32) (this_partner : Nat → Int32) (this_reachedFrom : Nat → Int32) (this_sum : Nat → Int32) (this_waiting : Nat → Int32) (x2 : Int32) (x3 : Int32) (x4 : Int32) : Option (Int32 × (Nat → Int32) × (Nat → Int32) × (Nat → Int32) × (Nat → Int32)) := k_15 this_count this_near this_times this_ties this_end this_groups this_hand this_match this_minute this_partner this_reachedFrom this_sum this_waiting x2 x3 (x4 + (1 : Int32))
def t_X0_countGrouped_15_b  (k_15 : Int32 → Int32 → Int32 → Int32 → (Nat → Int32) → (Nat → Int32) → (Nat → Int32) → (Nat → Int32) → (Nat → Int32) → (Nat → Int32) → (Nat → Int32) → (Nat → Int32) → (Nat → Int32) → Int32 → Int32 → Int32 → (Option (Int32 × (Nat → Int32) × (Nat → Int32) × (Nat → Int32) × (Nat → Int32)))) (this_count : Int32) (this_near : Int32) (this_times : Int32) (this_ties : Int32) (this_end : Nat → Int32) (this_groups : Nat → Int32) (this_hand : Nat → Int32) (this_match : Nat → Int32) (this_minute : Nat → Int32) (this_partner : Nat → Int32) (this_reachedFrom : Nat → Int32) (this_sum : Nat → Int32) (this_waiting : Nat → Int32) (x2 : Int32) (x3 : Int32) (x4 : Int32) : Option (Int32 × (Nat → Int32) × (Nat → Int32) × (Nat → Int32) × (Nat → Int32)) := if (10 : Int32) ≤ x4 then (some (x3, this_groups, this_partner, this_reachedFrom, this_waiting)) else (if ((x2 >>> (x4 &&& 31)) &&& (1 : Int32)) = (1 : Int32) then (ckn (x4 < 0 ∨ 10 ≤ x4.toNatClampNeg) (if (this_groups x4.toNatClampNeg) = ((1 : Int32) <<< (x4 &&& 31)) then (t_X0_countGrouped_49  k_15 this_count this_near this_times this_ties this_end this_groups this_hand this_match this_minute this_partner this_reachedFrom this_sum this_waiting x2 x3 x4) else (t_X0_countGrouped_49  k_15 this_count this_near this_times this_ties this_end this_groups this_hand this_match this_minute this_partner this_reachedFrom this_sum this_waiting x2 (x3 + (1 : Int32)) x4))) else (t_X0_countGrouped_49  k_15 this_count this_near this_times this_ties this_end this_groups this_hand this_match this_minute this_partner this_reachedFrom this_sum this_waiting x2 x3 x4))
def t_X0_countGrouped_15   (n : Nat) : Int32 → Int32 → Int32 → Int32 → (Nat → Int32) → (Nat → Int32) → (Nat → Int32) → (Nat → Int32) → (Nat → Int32) → (Nat → Int32) → (Nat → Int32) → (Nat → Int32) → (Nat → Int32) → Int32 → Int32 → Int32 → (Option (Int32 × (Nat → Int32) × (Nat → Int32) × (Nat → Int32) × (Nat → Int32))) := Nat.rec (fun _ _ _ _ _ _ _ _ _ _ _ _ _ _ _ _ => none) (fun _ ih => t_X0_countGrouped_15_b   ih) n
def t_X0_countGrouped  (this_count : Int32) (this_near : Int32) (this_times : Int32) (this_ties : Int32) (this_end : Nat → Int32) (this_groups : Nat → Int32) (this_hand : Nat → Int32) (this_match : Nat → Int32) (this_minute : Nat → Int32) (this_partner : Nat → Int32) (this_reachedFrom : Nat → Int32) (this_sum : Nat → Int32) (this_waiting : Nat → Int32) (x1 : Int32) : Option (Int32 × (Nat → Int32) × (Nat → Int32) × (Nat → Int32) × (Nat → Int32)) := bd4 (t_X0_groupHands this_count this_near this_times this_ties this_end this_groups this_hand this_match this_minute this_partner this_reachedFrom this_sum this_waiting) (fun u5_0 u5_1 u5_2 u5_3 => bd1 (t_X0_handsOn this_count this_hand this_match x1) (fun v6 => t_X0_countGrouped_15   lfuel this_count this_near this_times this_ties this_end u5_0 this_hand this_match this_minute u5_1 u5_2 this_sum u5_3 v6 (0 : Int32) (0 : Int32)))
set_option maxHeartbeats 4000000 in
set_option maxRecDepth 100000 in
theorem b_X0_countGrouped_49 {p : Program} {l : Launch} {e : Env} {s : State} {m : MethodId} {args : Array Value} {below : List Frame} {meth : Method} {c : Code} {D : va_G} {A : Nat → Prop} {cI cJ cZ : ClassId} (X : Cx p m c cX0_countGrouped 5 s args wsX0_countGrouped RX0 D (tys3 cI cJ cZ) meth (some .int)) (_ _ _ : ClassId)  (h_this : Nat) (q_this : Nat → Nat)  (r : Int32) (z0 : Nat → Int32) (z1 : Nat → Int32) (z2 : Nat → Int32) (z3 : Nat → Int32) (k_15 : Int32 → Int32 → Int32 → Int32 → (Nat → Int32) → (Nat → Int32) → (Nat → Int32) → (Nat → Int32) → (Nat → Int32) → (Nat → Int32) → (Nat → Int32) → (Nat → Int32) → (Nat → Int32) → Int32 → Int32 → Int32 → (Option (Int32 × (Nat → Int32) × (Nat → Int32) × (Nat → Int32) × (Nat → Int32)))) (hk_15 : ∀ (this_count : Int32) (this_near : Int32) (this_times : Int32) (this_ties : Int32) (this_end : Nat → Int32) (this_groups : Nat → Int32) (this_hand : Nat → Int32) (this_match : Nat → Int32) (this_minute : Nat → Int32) (this_partner : Nat → Int32) (this_reachedFrom : Nat → Int32) (this_sum : Nat → Int32) (this_waiting : Nat → Int32) (x2 : Int32) (x3 : Int32) (x4 : Int32), k_15 this_count this_near this_times this_ties this_end this_groups this_hand this_match this_minute this_partner this_reachedFrom this_sum this_waiting x2 x3 x4 = some (r, z0, z1, z2, z3) → J p l e rmX0_countGrouped s m args below meth c D A 5 (QI D below args s A r (w_X0_countGrouped cI cJ cZ h_this q_this this_count this_near this_times this_ties this_end z0 this_hand this_match this_minute z1 z2 this_sum z3)) 0 0 (w_X0_countGrouped cI cJ cZ h_this q_this this_count this_near this_times this_ties this_end this_groups this_hand this_match this_minute this_partner this_reachedFrom this_sum this_waiting) [(0, .ref h_this), (2, .int x2), (3, .int x3), (4, .int x4)] [] 15) (this_count : Int32) (this_near : Int32) (this_times : Int32) (this_ties : Int32) (this_end : Nat → Int32) (this_groups : Nat → Int32) (this_hand : Nat → Int32) (this_match : Nat → Int32) (this_minute : Nat → Int32) (this_partner : Nat → Int32) (this_reachedFrom : Nat → Int32) (this_sum : Nat → Int32) (this_waiting : Nat → Int32) (x2 : Int32) (x3 : Int32) (x4 : Int32) (hT : t_X0_countGrouped_49  k_15 this_count this_near this_times this_ties this_end this_groups this_hand this_match this_minute this_partner this_reachedFrom this_sum this_waiting x2 x3 x4 = some (r, z0, z1, z2, z3)) : J p l e rmX0_countGrouped s m args below meth c D A 5 (QI D below args s A r (w_X0_countGrouped cI cJ cZ h_this q_this this_count this_near this_times this_ties this_end z0 this_hand this_match this_minute z1 z2 this_sum z3)) 0 0 (w_X0_countGrouped cI cJ cZ h_this q_this this_count this_near this_times this_ties this_end this_groups this_hand this_match this_minute this_partner this_reachedFrom this_sum this_waiting) [(0, .ref h_this), (2, .int x2), (3, .int x3), (4, .int x4)] [] 49 := by
  unfold t_X0_countGrouped_49 at hT
  refine J_iinc (lv' := [(4, .int (x4 + (1 : Int32))), (0, .ref h_this), (2, .int x2), (3, .int x3)]) (j := 3) X dX0_countGrouped_49 rfl rfl (by decide) rfl ?_
  refine J_goto (tgt := 15) X dX0_countGrouped_52 (by decide) ?_
  refine J_lv (lv' := [(0, .ref h_this), (2, .int x2), (3, .int x3), (4, .int (x4 + (1 : Int32)))]) [1, 2, 3, 0] rfl ?_
  exact hk_15 this_count this_near this_times this_ties this_end this_groups this_hand this_match this_minute this_partner this_reachedFrom this_sum this_waiting x2 x3 (x4 + (1 : Int32)) hT
set_option maxHeartbeats 4000000 in
set_option maxRecDepth 100000 in
theorem b_X0_countGrouped_15_b {p : Program} {l : Launch} {e : Env} {s : State} {m : MethodId} {args : Array Value} {below : List Frame} {meth : Method} {c : Code} {D : va_G} {A : Nat → Prop} {cI cJ cZ : ClassId} (X : Cx p m c cX0_countGrouped 5 s args wsX0_countGrouped RX0 D (tys3 cI cJ cZ) meth (some .int)) (_ _ _ : ClassId)  (h_this : Nat) (q_this : Nat → Nat)  (r : Int32) (z0 : Nat → Int32) (z1 : Nat → Int32) (z2 : Nat → Int32) (z3 : Nat → Int32) (k_15 : Int32 → Int32 → Int32 → Int32 → (Nat → Int32) → (Nat → Int32) → (Nat → Int32) → (Nat → Int32) → (Nat → Int32) → (Nat → Int32) → (Nat → Int32) → (Nat → Int32) → (Nat → Int32) → Int32 → Int32 → Int32 → (Option (Int32 × (Nat → Int32) × (Nat → Int32) × (Nat → Int32) × (Nat → Int32)))) (hk_15 : ∀ (this_count : Int32) (this_near : Int32) (this_times : Int32) (this_ties : Int32) (this_end : Nat → Int32) (this_groups : Nat → Int32) (this_hand : Nat → Int32) (this_match : Nat → Int32) (this_minute : Nat → Int32) (this_partner : Nat → Int32) (this_reachedFrom : Nat → Int32) (this_sum : Nat → Int32) (this_waiting : Nat → Int32) (x2 : Int32) (x3 : Int32) (x4 : Int32), k_15 this_count this_near this_times this_ties this_end this_groups this_hand this_match this_minute this_partner this_reachedFrom this_sum this_waiting x2 x3 x4 = some (r, z0, z1, z2, z3) → J p l e rmX0_countGrouped s m args below meth c D A 5 (QI D below args s A r (w_X0_countGrouped cI cJ cZ h_this q_this this_count this_near this_times this_ties this_end z0 this_hand this_match this_minute z1 z2 this_sum z3)) 0 0 (w_X0_countGrouped cI cJ cZ h_this q_this this_count this_near this_times this_ties this_end this_groups this_hand this_match this_minute this_partner this_reachedFrom this_sum this_waiting) [(0, .ref h_this), (2, .int x2), (3, .int x3), (4, .int x4)] [] 15) (this_count : Int32) (this_near : Int32) (this_times : Int32) (this_ties : Int32) (this_end : Nat → Int32) (this_groups : Nat → Int32) (this_hand : Nat → Int32) (this_match : Nat → Int32) (this_minute : Nat → Int32) (this_partner : Nat → Int32) (this_reachedFrom : Nat → Int32) (this_sum : Nat → Int32) (this_waiting : Nat → Int32) (x2 : Int32) (x3 : Int32) (x4 : Int32) (hT : t_X0_countGrouped_15_b  k_15 this_count this_near this_times this_ties this_end this_groups this_hand this_match this_minute this_partner this_reachedFrom this_sum this_waiting x2 x3 x4 = some (r, z0, z1, z2, z3)) : J p l e rmX0_countGrouped s m args below meth c D A 5 (QI D below args s A r (w_X0_countGrouped cI cJ cZ h_this q_this this_count this_near this_times this_ties this_end z0 this_hand this_match this_minute z1 z2 this_sum z3)) 0 0 (w_X0_countGrouped cI cJ cZ h_this q_this this_count this_near this_times this_ties this_end this_groups this_hand this_match this_minute this_partner this_reachedFrom this_sum this_waiting) [(0, .ref h_this), (2, .int x2), (3, .int x3), (4, .int x4)] [] 15 := by
  unfold t_X0_countGrouped_15_b at hT
  refine J_iload X dX0_countGrouped_15 3 rfl ?_
  refine J_bipush (v := 10) X dX0_countGrouped_17 (by decide) ?_
  refine J_icmp_ge (tgt := 55) X dX0_countGrouped_19 (by decide) (fun hc1 => ?_) (fun hc1 => ?_)
  · have hT := ift hT hc1
    refine J_iload_n X dX0_countGrouped_55 2 rfl ?_
    cases hT
    exact J_iret X dX0_countGrouped_56
  · have hT := iff_ hT hc1
    refine J_iload_n X dX0_countGrouped_22 1 rfl ?_
    refine J_iload X dX0_countGrouped_23 3 rfl ?_
    refine J_ishr X dX0_countGrouped_25 ?_
    refine J_iconst (v := 1) X dX0_countGrouped_26 (by decide) ?_
    refine J_iand X dX0_countGrouped_27 ?_
    refine J_iconst (v := 1) X dX0_countGrouped_28 (by decide) ?_
    refine J_icmp_ne (tgt := 49) X dX0_countGrouped_29 (by decide) (fun hc2 => ?_) (fun hc2 => ?_)
    · have hT := iff_ hT hc2
      exact b_X0_countGrouped_49 X cI cJ cZ h_this q_this  r z0 z1 z2 z3 k_15 hk_15 this_count this_near this_times this_ties this_end this_groups this_hand this_match this_minute this_partner this_reachedFrom this_sum this_waiting x2 x3 x4 hT
    · have hT := ift hT hc2
      refine J_aload_n X dX0_countGrouped_32 0 rfl ?_
      refine J_get (C := RX0) (T := TX0) (N := 13) (ci := 0) (v := .ref (q_this 12)) X in_X0_countGrouped_X0 0 rfl rfl 12 (by decide) m_X0_countGrouped_f46 rfl dX0_countGrouped_33 ?_
      refine J_iload X dX0_countGrouped_36 3 rfl ?_
      obtain ⟨hk3, hT⟩ := ckn_e hT
      refine J_iald X 2 rfl rfl hk3 dX0_countGrouped_38 ?_
      refine J_iconst (v := 1) X dX0_countGrouped_39 (by decide) ?_
      refine J_iload X dX0_countGrouped_40 3 rfl ?_
      refine J_ishl X dX0_countGrouped_42 ?_
      refine J_icmp_eq (tgt := 49) X dX0_countGrouped_43 (by decide) (fun hc4 => ?_) (fun hc4 => ?_)
      · have hT := ift hT hc4
        exact b_X0_countGrouped_49 X cI cJ cZ h_this q_this  r z0 z1 z2 z3 k_15 hk_15 this_count this_near this_times this_ties this_end this_groups this_hand this_match this_minute this_partner this_reachedFrom this_sum this_waiting x2 x3 x4 hT
      · have hT := iff_ hT hc4
        refine J_iinc (lv' := [(3, .int (x3 + (1 : Int32))), (0, .ref h_this), (2, .int x2), (4, .int x4)]) (j := 2) X dX0_countGrouped_46 rfl rfl (by decide) rfl ?_
        refine J_lv (lv' := [(0, .ref h_this), (2, .int x2), (3, .int (x3 + (1 : Int32))), (4, .int x4)]) [1, 2, 0, 3] rfl ?_
        exact b_X0_countGrouped_49 X cI cJ cZ h_this q_this  r z0 z1 z2 z3 k_15 hk_15 this_count this_near this_times this_ties this_end this_groups this_hand this_match this_minute this_partner this_reachedFrom this_sum this_waiting x2 (x3 + (1 : Int32)) x4 hT
set_option maxHeartbeats 4000000 in
set_option maxRecDepth 100000 in
theorem b_X0_countGrouped_15 {p : Program} {l : Launch} {e : Env} {s : State} {m : MethodId} {args : Array Value} {below : List Frame} {meth : Method} {c : Code} {D : va_G} {A : Nat → Prop} {cI cJ cZ : ClassId} (X : Cx p m c cX0_countGrouped 5 s args wsX0_countGrouped RX0 D (tys3 cI cJ cZ) meth (some .int)) (_ _ _ : ClassId)  (h_this : Nat) (q_this : Nat → Nat)  (r : Int32) (z0 : Nat → Int32) (z1 : Nat → Int32) (z2 : Nat → Int32) (z3 : Nat → Int32)  : ∀ (n : Nat) (this_count : Int32) (this_near : Int32) (this_times : Int32) (this_ties : Int32) (this_end : Nat → Int32) (this_groups : Nat → Int32) (this_hand : Nat → Int32) (this_match : Nat → Int32) (this_minute : Nat → Int32) (this_partner : Nat → Int32) (this_reachedFrom : Nat → Int32) (this_sum : Nat → Int32) (this_waiting : Nat → Int32) (x2 : Int32) (x3 : Int32) (x4 : Int32) (hT : t_X0_countGrouped_15   n this_count this_near this_times this_ties this_end this_groups this_hand this_match this_minute this_partner this_reachedFrom this_sum this_waiting x2 x3 x4 = some (r, z0, z1, z2, z3)), J p l e rmX0_countGrouped s m args below meth c D A 5 (QI D below args s A r (w_X0_countGrouped cI cJ cZ h_this q_this this_count this_near this_times this_ties this_end z0 this_hand this_match this_minute z1 z2 this_sum z3)) 0 0 (w_X0_countGrouped cI cJ cZ h_this q_this this_count this_near this_times this_ties this_end this_groups this_hand this_match this_minute this_partner this_reachedFrom this_sum this_waiting) [(0, .ref h_this), (2, .int x2), (3, .int x3), (4, .int x4)] [] 15 := by
  intro n
  induction n with
  | zero => intro this_count this_near this_times this_ties this_end this_groups this_hand this_match this_minute this_partner this_reachedFrom this_sum this_waiting x2 x3 x4 hT; cases hT
  | succ n ih =>
    intro this_count this_near this_times this_ties this_end this_groups this_hand this_match this_minute this_partner this_reachedFrom this_sum this_waiting x2 x3 x4 hT
    exact b_X0_countGrouped_15_b X cI cJ cZ h_this q_this  r z0 z1 z2 z3  (t_X0_countGrouped_15   n) ih this_count this_near this_times this_ties this_end this_groups this_hand this_match this_minute this_partner this_reachedFrom this_sum this_waiting x2 x3 x4 hT
set_option maxHeartbeats 4000000 in
set_option maxRecDepth 100000 in
theorem c_X0_countGrouped (l : Launch) (D : va_G) (cI cJ cZ : ClassId) (h_this : Nat) (q_this : Nat → Nat) (this_count : Int32) (this_near : Int32) (this_times : Int32) (this_ties : Int32) (this_end : Nat → Int32) (this_groups : Nat → Int32) (this_hand : Nat → Int32) (this_match : Nat → Int32) (this_minute : Nat → Int32) (this_partner : Nat → Int32) (this_reachedFrom : Nat → Int32) (this_sum : Nat → Int32) (this_waiting : Nat → Int32) (x1 : Int32) (r : Int32) (z0 : Nat → Int32) (z1 : Nat → Int32) (z2 : Nat → Int32) (z3 : Nat → Int32) (hT : t_X0_countGrouped  this_count this_near this_times this_ties this_end this_groups this_hand this_match this_minute this_partner this_reachedFrom this_sum this_waiting x1 = some (r, z0, z1, z2, z3)) : Ci l yX0_countGrouped wsX0_countGrouped rmX0_countGrouped D (tys3 cI cJ cZ) [.ref h_this, .int x1] (w_X0_countGrouped cI cJ cZ h_this q_this this_count this_near this_times this_ties this_end this_groups this_hand this_match this_minute this_partner this_reachedFrom this_sum this_waiting) r (w_X0_countGrouped cI cJ cZ h_this q_this this_count this_near this_times this_ties this_end z0 this_hand this_match this_minute z1 z2 this_sum z3) := by
  refine Ci.ofJ (cc := cX0_countGrouped) (nL := 5) (rt := (some .int)) (own := RX0) (by decide) rfl rfl (Nat.le_of_ble_eq_true rfl) ?_
  intro p e s m below meth c A X
  unfold t_X0_countGrouped at hT
  refine J_lv (lv' := [(0, .ref h_this), (1, .int x1)]) [0, 1] rfl ?_
  refine J_aload_n X dX0_countGrouped_0 0 rfl ?_
  obtain ⟨u5_0, u5_1, u5_2, u5_3, hq5, hT⟩ := bd4_e hT
  refine J_cv (wc := (w_X0_groupHands cI cJ cZ h_this q_this this_count this_near this_times this_ties this_end this_groups this_hand this_match this_minute this_partner this_reachedFrom this_sum this_waiting)) (wc' := (w_X0_groupHands cI cJ cZ h_this q_this this_count this_near this_times this_ties this_end u5_0 this_hand this_match this_minute u5_1 u5_2 this_sum u5_3)) (ws' := (w_X0_countGrouped cI cJ cZ h_this q_this this_count this_near this_times this_ties this_end u5_0 this_hand this_match this_minute u5_1 u5_2 this_sum u5_3)) (idxs [true, true, true, true, true, true, true, true, true, true] 0) (idxs [false, false, false, false, false, false, false, false, false, false] 0) 10 rfl rfl rfl (pick_C _ rfl rfl) rfl (pick_C _ rfl rfl) rfl (pick_R _ rfl rfl rfl) (run_V (As := []) (rest := []) X (c_X0_groupHands l D cI cJ cZ h_this q_this this_count this_near this_times this_ties this_end this_groups this_hand this_match this_minute this_partner this_reachedFrom this_sum this_waiting  u5_0 u5_1 u5_2 u5_3 hq5) (cw_X0_countGrouped_X0_groupHands_89 X.1.2.2.2.2) 0 rfl rfl rfl rfl (Nat.le_of_ble_eq_true rfl) dX0_countGrouped_1 ⟨Nat.zero_le _, Nat.zero_le _⟩) ?_
  refine J_aload_n X dX0_countGrouped_4 0 rfl ?_
  refine J_iload_n X dX0_countGrouped_5 1 rfl ?_
  obtain ⟨v6, hq6, hT⟩ := bd1_e hT
  refine J_ci (wc := (w_X0_handsOn cI cJ cZ h_this q_this this_count this_near this_times this_ties this_hand this_match)) (wc' := (w_X0_handsOn cI cJ cZ h_this q_this this_count this_near this_times this_ties this_hand this_match)) (ws' := (w_X0_countGrouped cI cJ cZ h_this q_this this_count this_near this_times this_ties this_end u5_0 this_hand this_match this_minute u5_1 u5_2 this_sum u5_3)) (idxs [true, false, false, true, true, false, false, false, false, false] 0) (idxs [false, true, true, false, false, true, true, true, true, true] 0) 10 rfl rfl rfl (pick_C _ rfl rfl) rfl (pick_C _ rfl rfl) rfl (pick_R _ rfl rfl rfl) (run_V (As := [.int x1]) (rest := []) X (c_X0_handsOn l D cI cJ cZ h_this q_this this_count this_near this_times this_ties this_hand this_match x1 v6 hq6) (cw_X0_countGrouped_X0_handsOn_92 X.1.2.2.2.2) 0 rfl rfl rfl rfl (Nat.le_of_ble_eq_true rfl) dX0_countGrouped_6 ⟨Nat.zero_le _, Nat.zero_le _⟩) ?_
  refine J_istore_n (lv' := [(2, .int v6), (0, .ref h_this), (1, .int x1)]) X dX0_countGrouped_9 (by decide) rfl ?_
  refine J_iconst (v := 0) X dX0_countGrouped_10 (by decide) ?_
  refine J_istore_n (lv' := [(3, .int (0 : Int32)), (2, .int v6), (0, .ref h_this), (1, .int x1)]) X dX0_countGrouped_11 (by decide) rfl ?_
  refine J_iconst (v := 0) X dX0_countGrouped_12 (by decide) ?_
  refine J_istore (lv' := [(4, .int (0 : Int32)), (3, .int (0 : Int32)), (2, .int v6), (0, .ref h_this), (1, .int x1)]) X dX0_countGrouped_13 (by decide) rfl ?_
  refine J_lv (lv' := [(0, .ref h_this), (2, .int v6), (3, .int (0 : Int32)), (4, .int (0 : Int32))]) [3, 2, 1, 0] rfl ?_
  exact b_X0_countGrouped_15 X cI cJ cZ h_this q_this  r z0 z1 z2 z3  lfuel this_count this_near this_times this_ties this_end u5_0 this_hand this_match this_minute u5_1 u5_2 this_sum u5_3 v6 (0 : Int32) (0 : Int32) hT
-- ===== SoldMatches$Clause.add(I)I
abbrev rmX1_add : Room := { frames := 0, cells := 0, slots := 0, locals := 0 }
def w_X1_add (cI cJ cZ : ClassId) (h_this : Nat) (q_this : Nat → Nat) (this_count : Int32) (this_heldCount : Int32) (this_signs : Nat → Int32) : va_W := [(h_this, .inr (1, oFX1 q_this this_count this_heldCount)), ((q_this 1), .inl (cI, 40, .inl this_signs))]
theorem m_X1_add_f9 : Cond.fieldLink RX1 9 "SoldMatches$Clause" "signs" "[I" ∈ wsX1_add := List.mem_of_getElem? (i := 1) rfl
theorem in_X1_add_X1 : ∀ w ∈ wsX10, w ∈ wsX1_add := fun w h => List.mem_cons_of_mem _ (List.mem_append_right _ h)
theorem m_X1_add_f18 : Cond.fieldLink RX1 18 "SoldMatches$Clause" "count" "I" ∈ wsX1_add := List.mem_of_getElem? (i := 2) rfl
def t_X1_add  (this_count : Int32) (this_signs : Nat → Int32) (x1 : Int32) : Option (Int32 × Int32 × (Nat → Int32)) := ckn (this_count < 0 ∨ 40 ≤ this_count.toNatClampNeg) (some (this_count + (1 : Int32), this_count + (1 : Int32), upd this_signs this_count.toNatClampNeg x1))
set_option maxHeartbeats 4000000 in
set_option maxRecDepth 100000 in
theorem c_X1_add (l : Launch) (D : va_G) (cI cJ cZ : ClassId) (h_this : Nat) (q_this : Nat → Nat) (this_count : Int32) (this_heldCount : Int32) (this_signs : Nat → Int32) (x1 : Int32) (r : Int32) (z0 : Int32) (z1 : Nat → Int32) (hT : t_X1_add  this_count this_signs x1 = some (r, z0, z1)) : Ci l yX1_add wsX1_add rmX1_add D (tys3 cI cJ cZ) [.ref h_this, .int x1] (w_X1_add cI cJ cZ h_this q_this this_count this_heldCount this_signs) r (w_X1_add cI cJ cZ h_this q_this z0 this_heldCount z1) := by
  refine Ci.ofJ (cc := cX1_add) (nL := 2) (rt := (some .int)) (own := RX1) (by decide) rfl rfl (Nat.le_of_ble_eq_true rfl) ?_
  intro p e s m below meth c A X
  unfold t_X1_add at hT
  refine J_lv (lv' := [(0, .ref h_this), (1, .int x1)]) [0, 1] rfl ?_
  refine J_aload_n X dX1_add_0 0 rfl ?_
  refine J_get (C := RX1) (T := TX1) (N := 4) (ci := 1) (v := .ref (q_this 1)) X in_X1_add_X1 0 rfl rfl 1 (by decide) m_X1_add_f9 rfl dX1_add_1 ?_
  refine J_aload_n X dX1_add_4 0 rfl ?_
  refine J_get (C := RX1) (T := TX1) (N := 4) (ci := 1) (v := .int this_count) X in_X1_add_X1 0 rfl rfl 0 (by decide) m_X1_add_f18 rfl dX1_add_5 ?_
  refine J_iload_n X dX1_add_8 1 rfl ?_
  obtain ⟨hk1, hT⟩ := ckn_e hT
  refine J_iast (ws' := (w_X1_add cI cJ cZ h_this q_this this_count this_heldCount (upd this_signs this_count.toNatClampNeg x1))) X 1 rfl rfl hk1 rfl dX1_add_9 ?_
  refine J_aload_n X dX1_add_10 0 rfl ?_
  refine J_dup X dX1_add_11 rfl ?_
  refine J_get (C := RX1) (T := TX1) (N := 4) (ci := 1) (v := .int this_count) X in_X1_add_X1 0 rfl rfl 0 (by decide) m_X1_add_f18 rfl dX1_add_12 ?_
  refine J_iconst (v := 1) X dX1_add_15 (by decide) ?_
  refine J_iadd X dX1_add_16 ?_
  refine J_put (host := "") (C := RX1) (T := TX1) (N := 4) (ci := 1) (ws' := (w_X1_add cI cJ cZ h_this q_this (this_count + (1 : Int32)) this_heldCount (upd this_signs this_count.toNatClampNeg x1))) X in_X1_add_X1 0 rfl rfl 0 (by decide) tyX1 tyX1_ok nmX1 m_X1_add_f18 rfl rfl rfl (Nat.le_of_ble_eq_true rfl) rfl dX1_add_17 ?_
  refine J_aload_n X dX1_add_20 0 rfl ?_
  refine J_get (C := RX1) (T := TX1) (N := 4) (ci := 1) (v := .int (this_count + (1 : Int32))) X in_X1_add_X1 0 rfl rfl 0 (by decide) m_X1_add_f18 rfl dX1_add_21 ?_
  cases hT
  exact J_iret X dX1_add_24
-- ===== SoldMatches$Clause.factBy(I)I
abbrev rmX1_factBy : Room := { frames := 0, cells := 0, slots := 0, locals := 0 }
def w_X1_factBy (cI cJ cZ : ClassId)  : va_W := []
def t_X1_factBy   (x0 : Int32) : Option (Int32) := if x0 = 103 then (some ((0 : Int32))) else (if x0 = 104 then (some ((1 : Int32))) else (if x0 = 110 then (some ((4 : Int32))) else (if x0 = 114 then (some ((3 : Int32))) else (if x0 = 120 then (some ((2 : Int32))) else (some ((-1 : Int32)))))))
set_option maxHeartbeats 4000000 in
set_option maxRecDepth 100000 in
theorem c_X1_factBy (l : Launch) (D : va_G) (cI cJ cZ : ClassId)  (x0 : Int32) (r : Int32) (hT : t_X1_factBy   x0 = some r) : Ci l yX1_factBy wsX1_factBy rmX1_factBy D (tys3 cI cJ cZ) [.int x0] (w_X1_factBy cI cJ cZ ) r (w_X1_factBy cI cJ cZ ) := by
  refine Ci.ofJ (cc := cX1_factBy) (nL := 1) (rt := (some .int)) (own := RX1) (by decide) rfl rfl (Nat.le_of_ble_eq_true rfl) ?_
  intro p e s m below meth c A X
  unfold t_X1_factBy at hT
  refine J_lv (lv' := [(0, .int x0)]) [0] rfl ?_
  refine J_iload_n X dX1_factBy_0 0 rfl ?_
  refine J_if (x0 = 103) (fun hc1 => ?_) (fun hc1 => ?_)
  · have hT := ift hT hc1
    refine J_lk (tgt := 52) (off := 51) X dX1_factBy_1 (by decide) (by rw [hc1]; decide) (by decide) ?_
    refine J_iconst (v := 0) X dX1_factBy_52 (by decide) ?_
    cases hT
    exact J_iret X dX1_factBy_53
  · have hT := iff_ hT hc1
    refine J_if (x0 = 104) (fun hc2 => ?_) (fun hc2 => ?_)
    · have hT := ift hT hc2
      refine J_lk (tgt := 54) (off := 53) X dX1_factBy_1 (by decide) (by rw [hc2]; decide) (by decide) ?_
      refine J_iconst (v := 1) X dX1_factBy_54 (by decide) ?_
      cases hT
      exact J_iret X dX1_factBy_55
    · have hT := iff_ hT hc2
      refine J_if (x0 = 110) (fun hc3 => ?_) (fun hc3 => ?_)
      · have hT := ift hT hc3
        refine J_lk (tgt := 60) (off := 59) X dX1_factBy_1 (by decide) (by rw [hc3]; decide) (by decide) ?_
        refine J_iconst (v := 4) X dX1_factBy_60 (by decide) ?_
        cases hT
        exact J_iret X dX1_factBy_61
      · have hT := iff_ hT hc3
        refine J_if (x0 = 114) (fun hc4 => ?_) (fun hc4 => ?_)
        · have hT := ift hT hc4
          refine J_lk (tgt := 58) (off := 57) X dX1_factBy_1 (by decide) (by rw [hc4]; decide) (by decide) ?_
          refine J_iconst (v := 3) X dX1_factBy_58 (by decide) ?_
          cases hT
          exact J_iret X dX1_factBy_59
        · have hT := iff_ hT hc4
          refine J_if (x0 = 120) (fun hc5 => ?_) (fun hc5 => ?_)
          · have hT := ift hT hc5
            refine J_lk (tgt := 56) (off := 55) X dX1_factBy_1 (by decide) (by rw [hc5]; decide) (by decide) ?_
            refine J_iconst (v := 2) X dX1_factBy_56 (by decide) ?_
            cases hT
            exact J_iret X dX1_factBy_57
          · have hT := iff_ hT hc5
            refine J_lk (tgt := 62) (off := 61) X dX1_factBy_1 (by decide) (by show Op.lookupswitch.offset [(103, 51), (104, 53), (110, 59), (114, 57), (120, 55)] _ _ = _; rw [lv_osw hc1 (by decide), lv_osw hc2 (by decide), lv_osw hc3 (by decide), lv_osw hc4 (by decide), lv_osw hc5 (by decide)]; rfl) (by decide) ?_
            refine J_iconst (v := -1) X dX1_factBy_62 (by decide) ?_
            cases hT
            exact J_iret X dX1_factBy_63
-- ===== SoldMatches$Clause.isDigit(I)Z
abbrev rmX1_isDigit : Room := { frames := 0, cells := 0, slots := 0, locals := 0 }
def w_X1_isDigit (cI cJ cZ : ClassId)  : va_W := []
def t_X1_isDigit_17    (s0 : Int32) : Option (Int32) := ckn (¬ (s0 = 0 ∨ s0 = 1)) (some (s0))
def t_X1_isDigit   (x0 : Int32) : Option (Int32) := if x0 < (48 : Int32) then (t_X1_isDigit_17   (0 : Int32)) else (if (57 : Int32) < x0 then (t_X1_isDigit_17   (0 : Int32)) else (t_X1_isDigit_17   (1 : Int32)))
set_option maxHeartbeats 4000000 in
set_option maxRecDepth 100000 in
theorem b_X1_isDigit_17 {p : Program} {l : Launch} {e : Env} {s : State} {m : MethodId} {args : Array Value} {below : List Frame} {meth : Method} {c : Code} {D : va_G} {A : Nat → Prop} {cI cJ cZ : ClassId} (X : Cx p m c cX1_isDigit 1 s args wsX1_isDigit RX1 D (tys3 cI cJ cZ) meth (some .boolean)) (_ _ _ : ClassId)   (r : Int32)   (s0 : Int32) (hT : t_X1_isDigit_17    s0 = some r) : J p l e rmX1_isDigit s m args below meth c D A 1 (QI D below args s A r (w_X1_isDigit cI cJ cZ )) 0 0 (w_X1_isDigit cI cJ cZ ) [] [.int s0] 17 := by
  unfold t_X1_isDigit_17 at hT
  obtain ⟨hk1, hT⟩ := ckn_e hT
  cases hT
  exact J_zret X (Decidable.not_not.mp hk1) dX1_isDigit_17
set_option maxHeartbeats 4000000 in
set_option maxRecDepth 100000 in
theorem c_X1_isDigit (l : Launch) (D : va_G) (cI cJ cZ : ClassId)  (x0 : Int32) (r : Int32) (hT : t_X1_isDigit   x0 = some r) : Ci l yX1_isDigit wsX1_isDigit rmX1_isDigit D (tys3 cI cJ cZ) [.int x0] (w_X1_isDigit cI cJ cZ ) r (w_X1_isDigit cI cJ cZ ) := by
  refine Ci.ofJ (cc := cX1_isDigit) (nL := 1) (rt := (some .boolean)) (own := RX1) (by decide) rfl rfl (Nat.le_of_ble_eq_true rfl) ?_
  intro p e s m below meth c A X
  unfold t_X1_isDigit at hT
  refine J_lv (lv' := [(0, .int x0)]) [0] rfl ?_
  refine J_iload_n X dX1_isDigit_0 0 rfl ?_
  refine J_bipush (v := 48) X dX1_isDigit_1 (by decide) ?_
  refine J_icmp_lt (tgt := 16) X dX1_isDigit_3 (by decide) (fun hc2 => ?_) (fun hc2 => ?_)
  · have hT := ift hT hc2
    refine J_iconst (v := 0) X dX1_isDigit_16 (by decide) ?_
    refine J_lv (lv' := []) [] rfl ?_
    exact b_X1_isDigit_17 X cI cJ cZ  r  (0 : Int32) hT
  · have hT := iff_ hT hc2
    refine J_iload_n X dX1_isDigit_6 0 rfl ?_
    refine J_bipush (v := 57) X dX1_isDigit_7 (by decide) ?_
    refine J_icmp_gt (tgt := 16) X dX1_isDigit_9 (by decide) (fun hc3 => ?_) (fun hc3 => ?_)
    · have hT := ift hT hc3
      refine J_iconst (v := 0) X dX1_isDigit_16 (by decide) ?_
      refine J_lv (lv' := []) [] rfl ?_
      exact b_X1_isDigit_17 X cI cJ cZ  r  (0 : Int32) hT
    · have hT := iff_ hT hc3
      refine J_iconst (v := 1) X dX1_isDigit_12 (by decide) ?_
      refine J_goto (tgt := 17) X dX1_isDigit_13 (by decide) ?_
      refine J_lv (lv' := []) [] rfl ?_
      exact b_X1_isDigit_17 X cI cJ cZ  r  (1 : Int32) hT
-- ===== SoldMatches$Clause.goOn(II)I
abbrev rmX1_goOn : Room := { frames := 1, cells := 0, slots := 0, locals := 20 }
def w_X1_goOn (cI cJ cZ : ClassId)  : va_W := []
theorem cw_X1_goOn_X1_isDigit_30 {s : State} {args : Array Value} (hts : ∀ w ∈ wsX1_goOn, w.before args s = true) : CallB rmX1_goOn s args RX1 30 yX1_isDigit cX1_isDigit 1 (some .boolean) wsX1_isDigit rmX1_isDigit 0 0 1 ∧ (Cond.static yX1_isDigit).before args s = true := va_cwS 1 hts gX1_goOn_X1_isDigit rfl rfl rfl (by decide +kernel) ⟨by decide, by decide⟩
theorem cw_X1_goOn_X1_factBy_26 {s : State} {args : Array Value} (hts : ∀ w ∈ wsX1_goOn, w.before args s = true) : CallB rmX1_goOn s args RX1 26 yX1_factBy cX1_factBy 1 (some .int) wsX1_factBy rmX1_factBy 0 0 1 ∧ (Cond.static yX1_factBy).before args s = true := va_cwS 1 hts gX1_goOn_X1_factBy rfl rfl rfl (by decide +kernel) ⟨by decide, by decide⟩
def t_X1_goOn_82    (s0 : Int32) : Option (Int32) := some (s0)
def t_X1_goOn_77     : Option (Int32) := t_X1_goOn_82   (0 : Int32)
def t_X1_goOn_59    (s0 : Int32) : Option (Int32) := some (s0)
def t_X1_goOn_39    (s0 : Int32) : Option (Int32) := some (s0)
def t_X1_goOn_34     : Option (Int32) := t_X1_goOn_39   (2 : Int32)
def t_X1_goOn_16    (s0 : Int32) : Option (Int32) := some (s0)
def t_X1_goOn   (x0 : Int32) (x1 : Int32) : Option (Int32) := if x0 = 0 then (bd1 (t_X1_factBy x1) (fun v11 => if v11 < 0 then (t_X1_goOn_16   (-1 : Int32)) else (t_X1_goOn_16   (1 : Int32)))) else (if x0 = (1 : Int32) then (if x1 = (60 : Int32) then (t_X1_goOn_34   ) else (if x1 = (62 : Int32) then (t_X1_goOn_34   ) else (t_X1_goOn_39   (-1 : Int32)))) else (bd1 (t_X1_isDigit x1) (fun v3 => if v3 = 0 then (if x0 < (3 : Int32) then (t_X1_goOn_82   (-1 : Int32)) else (if x1 = (38 : Int32) then (t_X1_goOn_77   ) else (if x1 = (124 : Int32) then (t_X1_goOn_77   ) else (t_X1_goOn_82   (-1 : Int32))))) else (if (5 : Int32) ≤ x0 then (t_X1_goOn_59   (-1 : Int32)) else (t_X1_goOn_59   (x0 + (1 : Int32)))))))
set_option maxHeartbeats 4000000 in
set_option maxRecDepth 100000 in
theorem b_X1_goOn_82 {p : Program} {l : Launch} {e : Env} {s : State} {m : MethodId} {args : Array Value} {below : List Frame} {meth : Method} {c : Code} {D : va_G} {A : Nat → Prop} {cI cJ cZ : ClassId} (X : Cx p m c cX1_goOn 2 s args wsX1_goOn RX1 D (tys3 cI cJ cZ) meth (some .int)) (_ _ _ : ClassId)   (r : Int32)   (s0 : Int32) (hT : t_X1_goOn_82    s0 = some r) : J p l e rmX1_goOn s m args below meth c D A 2 (QI D below args s A r (w_X1_goOn cI cJ cZ )) 0 0 (w_X1_goOn cI cJ cZ ) [] [.int s0] 82 := by
  unfold t_X1_goOn_82 at hT
  cases hT
  exact J_iret X dX1_goOn_82
set_option maxHeartbeats 4000000 in
set_option maxRecDepth 100000 in
theorem b_X1_goOn_77 {p : Program} {l : Launch} {e : Env} {s : State} {m : MethodId} {args : Array Value} {below : List Frame} {meth : Method} {c : Code} {D : va_G} {A : Nat → Prop} {cI cJ cZ : ClassId} (X : Cx p m c cX1_goOn 2 s args wsX1_goOn RX1 D (tys3 cI cJ cZ) meth (some .int)) (_ _ _ : ClassId)   (r : Int32)    (hT : t_X1_goOn_77     = some r) : J p l e rmX1_goOn s m args below meth c D A 2 (QI D below args s A r (w_X1_goOn cI cJ cZ )) 0 0 (w_X1_goOn cI cJ cZ ) [] [] 77 := by
  unfold t_X1_goOn_77 at hT
  refine J_iconst (v := 0) X dX1_goOn_77 (by decide) ?_
  refine J_goto (tgt := 82) X dX1_goOn_78 (by decide) ?_
  exact b_X1_goOn_82 X cI cJ cZ  r  (0 : Int32) hT
set_option maxHeartbeats 4000000 in
set_option maxRecDepth 100000 in
theorem b_X1_goOn_59 {p : Program} {l : Launch} {e : Env} {s : State} {m : MethodId} {args : Array Value} {below : List Frame} {meth : Method} {c : Code} {D : va_G} {A : Nat → Prop} {cI cJ cZ : ClassId} (X : Cx p m c cX1_goOn 2 s args wsX1_goOn RX1 D (tys3 cI cJ cZ) meth (some .int)) (_ _ _ : ClassId)   (r : Int32)   (s0 : Int32) (hT : t_X1_goOn_59    s0 = some r) : J p l e rmX1_goOn s m args below meth c D A 2 (QI D below args s A r (w_X1_goOn cI cJ cZ )) 0 0 (w_X1_goOn cI cJ cZ ) [] [.int s0] 59 := by
  unfold t_X1_goOn_59 at hT
  cases hT
  exact J_iret X dX1_goOn_59
set_option maxHeartbeats 4000000 in
set_option maxRecDepth 100000 in
theorem b_X1_goOn_39 {p : Program} {l : Launch} {e : Env} {s : State} {m : MethodId} {args : Array Value} {below : List Frame} {meth : Method} {c : Code} {D : va_G} {A : Nat → Prop} {cI cJ cZ : ClassId} (X : Cx p m c cX1_goOn 2 s args wsX1_goOn RX1 D (tys3 cI cJ cZ) meth (some .int)) (_ _ _ : ClassId)   (r : Int32)   (s0 : Int32) (hT : t_X1_goOn_39    s0 = some r) : J p l e rmX1_goOn s m args below meth c D A 2 (QI D below args s A r (w_X1_goOn cI cJ cZ )) 0 0 (w_X1_goOn cI cJ cZ ) [] [.int s0] 39 := by
  unfold t_X1_goOn_39 at hT
  cases hT
  exact J_iret X dX1_goOn_39
set_option maxHeartbeats 4000000 in
set_option maxRecDepth 100000 in
theorem b_X1_goOn_34 {p : Program} {l : Launch} {e : Env} {s : State} {m : MethodId} {args : Array Value} {below : List Frame} {meth : Method} {c : Code} {D : va_G} {A : Nat → Prop} {cI cJ cZ : ClassId} (X : Cx p m c cX1_goOn 2 s args wsX1_goOn RX1 D (tys3 cI cJ cZ) meth (some .int)) (_ _ _ : ClassId)   (r : Int32)    (hT : t_X1_goOn_34     = some r) : J p l e rmX1_goOn s m args below meth c D A 2 (QI D below args s A r (w_X1_goOn cI cJ cZ )) 0 0 (w_X1_goOn cI cJ cZ ) [] [] 34 := by
  unfold t_X1_goOn_34 at hT
  refine J_iconst (v := 2) X dX1_goOn_34 (by decide) ?_
  refine J_goto (tgt := 39) X dX1_goOn_35 (by decide) ?_
  exact b_X1_goOn_39 X cI cJ cZ  r  (2 : Int32) hT
set_option maxHeartbeats 4000000 in
set_option maxRecDepth 100000 in
theorem b_X1_goOn_16 {p : Program} {l : Launch} {e : Env} {s : State} {m : MethodId} {args : Array Value} {below : List Frame} {meth : Method} {c : Code} {D : va_G} {A : Nat → Prop} {cI cJ cZ : ClassId} (X : Cx p m c cX1_goOn 2 s args wsX1_goOn RX1 D (tys3 cI cJ cZ) meth (some .int)) (_ _ _ : ClassId)   (r : Int32)   (s0 : Int32) (hT : t_X1_goOn_16    s0 = some r) : J p l e rmX1_goOn s m args below meth c D A 2 (QI D below args s A r (w_X1_goOn cI cJ cZ )) 0 0 (w_X1_goOn cI cJ cZ ) [] [.int s0] 16 := by
  unfold t_X1_goOn_16 at hT
  cases hT
  exact J_iret X dX1_goOn_16
set_option maxHeartbeats 4000000 in
set_option maxRecDepth 100000 in
theorem c_X1_goOn (l : Launch) (D : va_G) (cI cJ cZ : ClassId)  (x0 : Int32) (x1 : Int32) (r : Int32) (hT : t_X1_goOn   x0 x1 = some r) : Ci l yX1_goOn wsX1_goOn rmX1_goOn D (tys3 cI cJ cZ) [.int x0, .int x1] (w_X1_goOn cI cJ cZ ) r (w_X1_goOn cI cJ cZ ) := by
  refine Ci.ofJ (cc := cX1_goOn) (nL := 2) (rt := (some .int)) (own := RX1) (by decide) rfl rfl (Nat.le_of_ble_eq_true rfl) ?_
  intro p e s m below meth c A X
  unfold t_X1_goOn at hT
  refine J_lv (lv' := [(0, .int x0), (1, .int x1)]) [0, 1] rfl ?_
  refine J_iload_n X dX1_goOn_0 0 rfl ?_
  refine J_if_ne (tgt := 17) X dX1_goOn_1 (by decide) (fun hc1 => ?_) (fun hc1 => ?_)
  · have hT := iff_ hT hc1
    refine J_iload_n X dX1_goOn_17 0 rfl ?_
    refine J_iconst (v := 1) X dX1_goOn_18 (by decide) ?_
    refine J_icmp_ne (tgt := 40) X dX1_goOn_19 (by decide) (fun hc2 => ?_) (fun hc2 => ?_)
    · have hT := iff_ hT hc2
      refine J_iload_n X dX1_goOn_40 1 rfl ?_
      obtain ⟨v3, hq3, hT⟩ := bd1_e hT
      refine J_ci (wc := (w_X1_isDigit cI cJ cZ )) (wc' := (w_X1_isDigit cI cJ cZ )) (ws' := (w_X1_goOn cI cJ cZ )) [] [] 0 rfl rfl rfl rfl rfl rfl rfl rfl (run_S (As := [.int x1]) (rest := []) X (c_X1_isDigit l D cI cJ cZ  x1 v3 hq3) (cw_X1_goOn_X1_isDigit_30 X.1.2.2.2.2) rfl rfl (Nat.le_of_ble_eq_true rfl) dX1_goOn_41 ⟨Nat.zero_le _, Nat.zero_le _⟩) ?_
      refine J_if_eq (tgt := 60) X dX1_goOn_44 (by decide) (fun hc4 => ?_) (fun hc4 => ?_)
      · have hT := ift hT hc4
        refine J_iload_n X dX1_goOn_60 0 rfl ?_
        refine J_iconst (v := 3) X dX1_goOn_61 (by decide) ?_
        refine J_icmp_lt (tgt := 81) X dX1_goOn_62 (by decide) (fun hc5 => ?_) (fun hc5 => ?_)
        · have hT := ift hT hc5
          refine J_iconst (v := -1) X dX1_goOn_81 (by decide) ?_
          refine J_lv (lv' := []) [] rfl ?_
          exact b_X1_goOn_82 X cI cJ cZ  r  (-1 : Int32) hT
        · have hT := iff_ hT hc5
          refine J_iload_n X dX1_goOn_65 1 rfl ?_
          refine J_bipush (v := 38) X dX1_goOn_66 (by decide) ?_
          refine J_icmp_eq (tgt := 77) X dX1_goOn_68 (by decide) (fun hc6 => ?_) (fun hc6 => ?_)
          · have hT := ift hT hc6
            refine J_lv (lv' := []) [] rfl ?_
            exact b_X1_goOn_77 X cI cJ cZ  r   hT
          · have hT := iff_ hT hc6
            refine J_iload_n X dX1_goOn_71 1 rfl ?_
            refine J_bipush (v := 124) X dX1_goOn_72 (by decide) ?_
            refine J_icmp_ne (tgt := 81) X dX1_goOn_74 (by decide) (fun hc7 => ?_) (fun hc7 => ?_)
            · have hT := iff_ hT hc7
              refine J_iconst (v := -1) X dX1_goOn_81 (by decide) ?_
              refine J_lv (lv' := []) [] rfl ?_
              exact b_X1_goOn_82 X cI cJ cZ  r  (-1 : Int32) hT
            · have hT := ift hT hc7
              refine J_lv (lv' := []) [] rfl ?_
              exact b_X1_goOn_77 X cI cJ cZ  r   hT
      · have hT := iff_ hT hc4
        refine J_iload_n X dX1_goOn_47 0 rfl ?_
        refine J_iconst (v := 5) X dX1_goOn_48 (by decide) ?_
        refine J_icmp_ge (tgt := 58) X dX1_goOn_49 (by decide) (fun hc8 => ?_) (fun hc8 => ?_)
        · have hT := ift hT hc8
          refine J_iconst (v := -1) X dX1_goOn_58 (by decide) ?_
          refine J_lv (lv' := []) [] rfl ?_
          exact b_X1_goOn_59 X cI cJ cZ  r  (-1 : Int32) hT
        · have hT := iff_ hT hc8
          refine J_iload_n X dX1_goOn_52 0 rfl ?_
          refine J_iconst (v := 1) X dX1_goOn_53 (by decide) ?_
          refine J_iadd X dX1_goOn_54 ?_
          refine J_goto (tgt := 59) X dX1_goOn_55 (by decide) ?_
          refine J_lv (lv' := []) [] rfl ?_
          exact b_X1_goOn_59 X cI cJ cZ  r  (x0 + (1 : Int32)) hT
    · have hT := ift hT hc2
      refine J_iload_n X dX1_goOn_22 1 rfl ?_
      refine J_bipush (v := 60) X dX1_goOn_23 (by decide) ?_
      refine J_icmp_eq (tgt := 34) X dX1_goOn_25 (by decide) (fun hc9 => ?_) (fun hc9 => ?_)
      · have hT := ift hT hc9
        refine J_lv (lv' := []) [] rfl ?_
        exact b_X1_goOn_34 X cI cJ cZ  r   hT
      · have hT := iff_ hT hc9
        refine J_iload_n X dX1_goOn_28 1 rfl ?_
        refine J_bipush (v := 62) X dX1_goOn_29 (by decide) ?_
        refine J_icmp_ne (tgt := 38) X dX1_goOn_31 (by decide) (fun hc10 => ?_) (fun hc10 => ?_)
        · have hT := iff_ hT hc10
          refine J_iconst (v := -1) X dX1_goOn_38 (by decide) ?_
          refine J_lv (lv' := []) [] rfl ?_
          exact b_X1_goOn_39 X cI cJ cZ  r  (-1 : Int32) hT
        · have hT := ift hT hc10
          refine J_lv (lv' := []) [] rfl ?_
          exact b_X1_goOn_34 X cI cJ cZ  r   hT
  · have hT := ift hT hc1
    refine J_iload_n X dX1_goOn_4 1 rfl ?_
    obtain ⟨v11, hq11, hT⟩ := bd1_e hT
    refine J_ci (wc := (w_X1_factBy cI cJ cZ )) (wc' := (w_X1_factBy cI cJ cZ )) (ws' := (w_X1_goOn cI cJ cZ )) [] [] 0 rfl rfl rfl rfl rfl rfl rfl rfl (run_S (As := [.int x1]) (rest := []) X (c_X1_factBy l D cI cJ cZ  x1 v11 hq11) (cw_X1_goOn_X1_factBy_26 X.1.2.2.2.2) rfl rfl (Nat.le_of_ble_eq_true rfl) dX1_goOn_5 ⟨Nat.zero_le _, Nat.zero_le _⟩) ?_
    refine J_if_lt (tgt := 15) X dX1_goOn_8 (by decide) (fun hc12 => ?_) (fun hc12 => ?_)
    · have hT := ift hT hc12
      refine J_iconst (v := -1) X dX1_goOn_15 (by decide) ?_
      refine J_lv (lv' := []) [] rfl ?_
      exact b_X1_goOn_16 X cI cJ cZ  r  (-1 : Int32) hT
    · have hT := iff_ hT hc12
      refine J_iconst (v := 1) X dX1_goOn_11 (by decide) ?_
      refine J_goto (tgt := 16) X dX1_goOn_12 (by decide) ?_
      refine J_lv (lv' := []) [] rfl ?_
      exact b_X1_goOn_16 X cI cJ cZ  r  (1 : Int32) hT
-- ===== SoldMatches$Clause.firstFault()I
abbrev rmX1_firstFault : Room := { frames := 2, cells := 0, slots := 0, locals := 41 }
def w_X1_firstFault (cI cJ cZ : ClassId) (h_this : Nat) (q_this : Nat → Nat) (this_count : Int32) (this_heldCount : Int32) (this_signs : Nat → Int32) : va_W := [(h_this, .inr (1, oFX1 q_this this_count this_heldCount)), ((q_this 1), .inl (cI, 40, .inl this_signs))]
theorem m_X1_firstFault_f18 : Cond.fieldLink RX1 18 "SoldMatches$Clause" "count" "I" ∈ wsX1_firstFault := List.mem_of_getElem? (i := 1) rfl
theorem in_X1_firstFault_X1 : ∀ w ∈ wsX10, w ∈ wsX1_firstFault := fun w h => List.mem_cons_of_mem _ (List.mem_append_right _ h)
theorem m_X1_firstFault_f9 : Cond.fieldLink RX1 9 "SoldMatches$Clause" "signs" "[I" ∈ wsX1_firstFault := List.mem_of_getElem? (i := 2) rfl
theorem cw_X1_firstFault_X1_goOn_22 {s : State} {args : Array Value} (hts : ∀ w ∈ wsX1_firstFault, w.before args s = true) : CallB rmX1_firstFault s args RX1 22 yX1_goOn cX1_goOn 2 (some .int) wsX1_goOn rmX1_goOn 0 0 2 ∧ (Cond.static yX1_goOn).before args s = true := va_cwS 2 hts gX1_firstFault_X1_goOn rfl rfl rfl (by decide +kernel) ⟨by decide, by decide⟩
def t_X1_firstFault_50   (this_count : Int32) (this_signs : Nat → Int32) (s0 : Int32) : Option (Int32) := some (s0)
def t_X1_firstFault_36   (this_count : Int32) (this_signs : Nat → Int32) (x1 : Int32) : Option (Int32) := if x1 < (3 : Int32) then (t_X1_firstFault_50   this_count this_signs this_count) else (t_X1_firstFault_50   this_count this_signs (-6 : Int32))
def t_X1_firstFault_4_b  (k_4 : Int32 → (Nat → Int32) → Int32 → Int32 → Option (Int32)) (this_count : Int32) (this_signs : Nat → Int32) (x1 : Int32) (x2 : Int32) : Option (Int32) := if this_count ≤ x2 then (t_X1_firstFault_36   this_count this_signs x1) else (ckn (x2 < 0 ∨ 40 ≤ x2.toNatClampNeg) (bd1 (t_X1_goOn x1 (this_signs x2.toNatClampNeg)) (fun v4 => if v4 = (-1 : Int32) then (some (x2)) else (k_4 this_count this_signs v4 (x2 + (1 : Int32))))))
def t_X1_firstFault_4   (n : Nat) : Int32 → (Nat → Int32) → Int32 → Int32 → Option (Int32) := Nat.rec (fun _ _ _ _ => none) (fun _ ih => t_X1_firstFault_4_b   ih) n
def t_X1_firstFault  (this_count : Int32) (this_signs : Nat → Int32)  : Option (Int32) := t_X1_firstFault_4   lfuel this_count this_signs (0 : Int32) (0 : Int32)
set_option maxHeartbeats 4000000 in
set_option maxRecDepth 100000 in
theorem b_X1_firstFault_50 {p : Program} {l : Launch} {e : Env} {s : State} {m : MethodId} {args : Array Value} {below : List Frame} {meth : Method} {c : Code} {D : va_G} {A : Nat → Prop} {cI cJ cZ : ClassId} (X : Cx p m c cX1_firstFault 3 s args wsX1_firstFault RX1 D (tys3 cI cJ cZ) meth (some .int)) (_ _ _ : ClassId)  (h_this : Nat) (q_this : Nat → Nat) (this_heldCount : Int32) (r : Int32)  (this_count : Int32) (this_signs : Nat → Int32) (s0 : Int32) (hT : t_X1_firstFault_50   this_count this_signs s0 = some r) : J p l e rmX1_firstFault s m args below meth c D A 3 (QI D below args s A r (w_X1_firstFault cI cJ cZ h_this q_this this_count this_heldCount this_signs)) 0 0 (w_X1_firstFault cI cJ cZ h_this q_this this_count this_heldCount this_signs) [(0, .ref h_this)] [.int s0] 50 := by
  unfold t_X1_firstFault_50 at hT
  cases hT
  exact J_iret X dX1_firstFault_50
set_option maxHeartbeats 4000000 in
set_option maxRecDepth 100000 in
theorem b_X1_firstFault_36 {p : Program} {l : Launch} {e : Env} {s : State} {m : MethodId} {args : Array Value} {below : List Frame} {meth : Method} {c : Code} {D : va_G} {A : Nat → Prop} {cI cJ cZ : ClassId} (X : Cx p m c cX1_firstFault 3 s args wsX1_firstFault RX1 D (tys3 cI cJ cZ) meth (some .int)) (_ _ _ : ClassId)  (h_this : Nat) (q_this : Nat → Nat) (this_heldCount : Int32) (r : Int32)  (this_count : Int32) (this_signs : Nat → Int32) (x1 : Int32) (hT : t_X1_firstFault_36   this_count this_signs x1 = some r) : J p l e rmX1_firstFault s m args below meth c D A 3 (QI D below args s A r (w_X1_firstFault cI cJ cZ h_this q_this this_count this_heldCount this_signs)) 0 0 (w_X1_firstFault cI cJ cZ h_this q_this this_count this_heldCount this_signs) [(0, .ref h_this), (1, .int x1)] [] 36 := by
  unfold t_X1_firstFault_36 at hT
  refine J_iload_n X dX1_firstFault_36 1 rfl ?_
  refine J_iconst (v := 3) X dX1_firstFault_37 (by decide) ?_
  refine J_icmp_lt (tgt := 46) X dX1_firstFault_38 (by decide) (fun hc1 => ?_) (fun hc1 => ?_)
  · have hT := ift hT hc1
    refine J_aload_n X dX1_firstFault_46 0 rfl ?_
    refine J_get (C := RX1) (T := TX1) (N := 4) (ci := 1) (v := .int this_count) X in_X1_firstFault_X1 0 rfl rfl 0 (by decide) m_X1_firstFault_f18 rfl dX1_firstFault_47 ?_
    refine J_lv (lv' := [(0, .ref h_this)]) [0] rfl ?_
    exact b_X1_firstFault_50 X cI cJ cZ h_this q_this this_heldCount r  this_count this_signs this_count hT
  · have hT := iff_ hT hc1
    refine J_bipush (v := -6) X dX1_firstFault_41 (by decide) ?_
    refine J_goto (tgt := 50) X dX1_firstFault_43 (by decide) ?_
    refine J_lv (lv' := [(0, .ref h_this)]) [0] rfl ?_
    exact b_X1_firstFault_50 X cI cJ cZ h_this q_this this_heldCount r  this_count this_signs (-6 : Int32) hT
set_option maxHeartbeats 4000000 in
set_option maxRecDepth 100000 in
theorem b_X1_firstFault_4_b {p : Program} {l : Launch} {e : Env} {s : State} {m : MethodId} {args : Array Value} {below : List Frame} {meth : Method} {c : Code} {D : va_G} {A : Nat → Prop} {cI cJ cZ : ClassId} (X : Cx p m c cX1_firstFault 3 s args wsX1_firstFault RX1 D (tys3 cI cJ cZ) meth (some .int)) (_ _ _ : ClassId)  (h_this : Nat) (q_this : Nat → Nat) (this_heldCount : Int32) (r : Int32) (k_4 : Int32 → (Nat → Int32) → Int32 → Int32 → Option (Int32)) (hk_4 : ∀ (this_count : Int32) (this_signs : Nat → Int32) (x1 : Int32) (x2 : Int32), k_4 this_count this_signs x1 x2 = some r → J p l e rmX1_firstFault s m args below meth c D A 3 (QI D below args s A r (w_X1_firstFault cI cJ cZ h_this q_this this_count this_heldCount this_signs)) 0 0 (w_X1_firstFault cI cJ cZ h_this q_this this_count this_heldCount this_signs) [(0, .ref h_this), (1, .int x1), (2, .int x2)] [] 4) (this_count : Int32) (this_signs : Nat → Int32) (x1 : Int32) (x2 : Int32) (hT : t_X1_firstFault_4_b  k_4 this_count this_signs x1 x2 = some r) : J p l e rmX1_firstFault s m args below meth c D A 3 (QI D below args s A r (w_X1_firstFault cI cJ cZ h_this q_this this_count this_heldCount this_signs)) 0 0 (w_X1_firstFault cI cJ cZ h_this q_this this_count this_heldCount this_signs) [(0, .ref h_this), (1, .int x1), (2, .int x2)] [] 4 := by
  unfold t_X1_firstFault_4_b at hT
  refine J_iload_n X dX1_firstFault_4 2 rfl ?_
  refine J_aload_n X dX1_firstFault_5 0 rfl ?_
  refine J_get (C := RX1) (T := TX1) (N := 4) (ci := 1) (v := .int this_count) X in_X1_firstFault_X1 0 rfl rfl 0 (by decide) m_X1_firstFault_f18 rfl dX1_firstFault_6 ?_
  refine J_icmp_ge (tgt := 36) X dX1_firstFault_9 (by decide) (fun hc2 => ?_) (fun hc2 => ?_)
  · have hT := ift hT hc2
    refine J_lv (lv' := [(0, .ref h_this), (1, .int x1)]) [0, 1] rfl ?_
    exact b_X1_firstFault_36 X cI cJ cZ h_this q_this this_heldCount r  this_count this_signs x1 hT
  · have hT := iff_ hT hc2
    refine J_iload_n X dX1_firstFault_12 1 rfl ?_
    refine J_aload_n X dX1_firstFault_13 0 rfl ?_
    refine J_get (C := RX1) (T := TX1) (N := 4) (ci := 1) (v := .ref (q_this 1)) X in_X1_firstFault_X1 0 rfl rfl 1 (by decide) m_X1_firstFault_f9 rfl dX1_firstFault_14 ?_
    refine J_iload_n X dX1_firstFault_17 2 rfl ?_
    obtain ⟨hk3, hT⟩ := ckn_e hT
    refine J_iald X 1 rfl rfl hk3 dX1_firstFault_18 ?_
    obtain ⟨v4, hq4, hT⟩ := bd1_e hT
    refine J_ci (wc := (w_X1_goOn cI cJ cZ )) (wc' := (w_X1_goOn cI cJ cZ )) (ws' := (w_X1_firstFault cI cJ cZ h_this q_this this_count this_heldCount this_signs)) [] [0, 1] 2 rfl rfl rfl rfl rfl rfl rfl rfl (run_S (As := [.int x1, .int (this_signs x2.toNatClampNeg)]) (rest := []) X (c_X1_goOn l D cI cJ cZ  x1 (this_signs x2.toNatClampNeg) v4 hq4) (cw_X1_firstFault_X1_goOn_22 X.1.2.2.2.2) rfl rfl (Nat.le_of_ble_eq_true rfl) dX1_firstFault_19 ⟨Nat.zero_le _, Nat.zero_le _⟩) ?_
    refine J_istore_n (lv' := [(1, .int v4), (0, .ref h_this), (2, .int x2)]) X dX1_firstFault_22 (by decide) rfl ?_
    refine J_iload_n X dX1_firstFault_23 0 rfl ?_
    refine J_iconst (v := -1) X dX1_firstFault_24 (by decide) ?_
    refine J_icmp_ne (tgt := 30) X dX1_firstFault_25 (by decide) (fun hc5 => ?_) (fun hc5 => ?_)
    · have hT := iff_ hT hc5
      refine J_iinc (lv' := [(2, .int (x2 + (1 : Int32))), (1, .int v4), (0, .ref h_this)]) (j := 2) X dX1_firstFault_30 rfl rfl (by decide) rfl ?_
      refine J_goto (tgt := 4) X dX1_firstFault_33 (by decide) ?_
      refine J_lv (lv' := [(0, .ref h_this), (1, .int v4), (2, .int (x2 + (1 : Int32)))]) [2, 1, 0] rfl ?_
      exact hk_4 this_count this_signs v4 (x2 + (1 : Int32)) hT
    · have hT := ift hT hc5
      refine J_iload_n X dX1_firstFault_28 2 rfl ?_
      cases hT
      exact J_iret X dX1_firstFault_29
set_option maxHeartbeats 4000000 in
set_option maxRecDepth 100000 in
theorem b_X1_firstFault_4 {p : Program} {l : Launch} {e : Env} {s : State} {m : MethodId} {args : Array Value} {below : List Frame} {meth : Method} {c : Code} {D : va_G} {A : Nat → Prop} {cI cJ cZ : ClassId} (X : Cx p m c cX1_firstFault 3 s args wsX1_firstFault RX1 D (tys3 cI cJ cZ) meth (some .int)) (_ _ _ : ClassId)  (h_this : Nat) (q_this : Nat → Nat) (this_heldCount : Int32) (r : Int32)  : ∀ (n : Nat) (this_count : Int32) (this_signs : Nat → Int32) (x1 : Int32) (x2 : Int32) (hT : t_X1_firstFault_4   n this_count this_signs x1 x2 = some r), J p l e rmX1_firstFault s m args below meth c D A 3 (QI D below args s A r (w_X1_firstFault cI cJ cZ h_this q_this this_count this_heldCount this_signs)) 0 0 (w_X1_firstFault cI cJ cZ h_this q_this this_count this_heldCount this_signs) [(0, .ref h_this), (1, .int x1), (2, .int x2)] [] 4 := by
  intro n
  induction n with
  | zero => intro this_count this_signs x1 x2 hT; cases hT
  | succ n ih =>
    intro this_count this_signs x1 x2 hT
    exact b_X1_firstFault_4_b X cI cJ cZ h_this q_this this_heldCount r  (t_X1_firstFault_4   n) ih this_count this_signs x1 x2 hT
set_option maxHeartbeats 4000000 in
set_option maxRecDepth 100000 in
theorem c_X1_firstFault (l : Launch) (D : va_G) (cI cJ cZ : ClassId) (h_this : Nat) (q_this : Nat → Nat) (this_count : Int32) (this_heldCount : Int32) (this_signs : Nat → Int32)  (r : Int32) (hT : t_X1_firstFault  this_count this_signs  = some r) : Ci l yX1_firstFault wsX1_firstFault rmX1_firstFault D (tys3 cI cJ cZ) [.ref h_this] (w_X1_firstFault cI cJ cZ h_this q_this this_count this_heldCount this_signs) r (w_X1_firstFault cI cJ cZ h_this q_this this_count this_heldCount this_signs) := by
  refine Ci.ofJ (cc := cX1_firstFault) (nL := 3) (rt := (some .int)) (own := RX1) (by decide) rfl rfl (Nat.le_of_ble_eq_true rfl) ?_
  intro p e s m below meth c A X
  unfold t_X1_firstFault at hT
  refine J_lv (lv' := [(0, .ref h_this)]) [0] rfl ?_
  refine J_iconst (v := 0) X dX1_firstFault_0 (by decide) ?_
  refine J_istore_n (lv' := [(1, .int (0 : Int32)), (0, .ref h_this)]) X dX1_firstFault_1 (by decide) rfl ?_
  refine J_iconst (v := 0) X dX1_firstFault_2 (by decide) ?_
  refine J_istore_n (lv' := [(2, .int (0 : Int32)), (1, .int (0 : Int32)), (0, .ref h_this)]) X dX1_firstFault_3 (by decide) rfl ?_
  refine J_lv (lv' := [(0, .ref h_this), (1, .int (0 : Int32)), (2, .int (0 : Int32))]) [2, 1, 0] rfl ?_
  exact b_X1_firstFault_4 X cI cJ cZ h_this q_this this_heldCount r  lfuel this_count this_signs (0 : Int32) (0 : Int32) hT
-- ===== SoldMatches$Clause.hold()V
abbrev rmX1_hold : Room := { frames := 0, cells := 0, slots := 0, locals := 0 }
def w_X1_hold (cI cJ cZ : ClassId) (h_this : Nat) (q_this : Nat → Nat) (this_count : Int32) (this_heldCount : Int32) (this_held : Nat → Int32) (this_signs : Nat → Int32) : va_W := [(h_this, .inr (1, oFX1 q_this this_count this_heldCount)), ((q_this 3), .inl (cI, 40, .inl this_held)), ((q_this 1), .inl (cI, 40, .inl this_signs))]
theorem m_X1_hold_f18 : Cond.fieldLink RX1 18 "SoldMatches$Clause" "count" "I" ∈ wsX1_hold := List.mem_of_getElem? (i := 1) rfl
theorem in_X1_hold_X1 : ∀ w ∈ wsX10, w ∈ wsX1_hold := fun w h => List.mem_cons_of_mem _ (List.mem_append_right _ h)
theorem m_X1_hold_f34 : Cond.fieldLink RX1 34 "SoldMatches$Clause" "heldCount" "I" ∈ wsX1_hold := List.mem_of_getElem? (i := 4) rfl
theorem m_X1_hold_f15 : Cond.fieldLink RX1 15 "SoldMatches$Clause" "held" "[I" ∈ wsX1_hold := List.mem_of_getElem? (i := 2) rfl
theorem m_X1_hold_f9 : Cond.fieldLink RX1 9 "SoldMatches$Clause" "signs" "[I" ∈ wsX1_hold := List.mem_of_getElem? (i := 3) rfl
def t_X1_hold_28   (this_count : Int32) (this_heldCount : Int32) (this_held : Nat → Int32) (this_signs : Nat → Int32)  : Option (Int32 × Int32 × (Nat → Int32)) := some ((0 : Int32), this_count, this_held)
def t_X1_hold_2_b  (k_2 : Int32 → Int32 → (Nat → Int32) → (Nat → Int32) → Int32 → (Option (Int32 × Int32 × (Nat → Int32)))) (this_count : Int32) (this_heldCount : Int32) (this_held : Nat → Int32) (this_signs : Nat → Int32) (x1 : Int32) : Option (Int32 × Int32 × (Nat → Int32)) := if this_count ≤ x1 then (t_X1_hold_28   this_count this_heldCount this_held this_signs) else (ckn (x1 < 0 ∨ 40 ≤ x1.toNatClampNeg) (ckn (x1 < 0 ∨ 40 ≤ x1.toNatClampNeg) (k_2 this_count this_heldCount (upd this_held x1.toNatClampNeg (this_signs x1.toNatClampNeg)) this_signs (x1 + (1 : Int32)))))
def t_X1_hold_2   (n : Nat) : Int32 → Int32 → (Nat → Int32) → (Nat → Int32) → Int32 → (Option (Int32 × Int32 × (Nat → Int32))) := Nat.rec (fun _ _ _ _ _ => none) (fun _ ih => t_X1_hold_2_b   ih) n
def t_X1_hold  (this_count : Int32) (this_heldCount : Int32) (this_held : Nat → Int32) (this_signs : Nat → Int32)  : Option (Int32 × Int32 × (Nat → Int32)) := t_X1_hold_2   lfuel this_count this_heldCount this_held this_signs (0 : Int32)
set_option maxHeartbeats 4000000 in
set_option maxRecDepth 100000 in
theorem b_X1_hold_28 {p : Program} {l : Launch} {e : Env} {s : State} {m : MethodId} {args : Array Value} {below : List Frame} {meth : Method} {c : Code} {D : va_G} {A : Nat → Prop} {cI cJ cZ : ClassId} (X : Cx p m c cX1_hold 2 s args wsX1_hold RX1 D (tys3 cI cJ cZ) meth none) (_ _ _ : ClassId)  (h_this : Nat) (q_this : Nat → Nat)  (z0 : Int32) (z1 : Int32) (z2 : Nat → Int32)  (this_count : Int32) (this_heldCount : Int32) (this_held : Nat → Int32) (this_signs : Nat → Int32)  (hT : t_X1_hold_28   this_count this_heldCount this_held this_signs  = some (z0, z1, z2)) : J p l e rmX1_hold s m args below meth c D A 2 (QV D below args s A (w_X1_hold cI cJ cZ h_this q_this z0 z1 z2 this_signs)) 0 0 (w_X1_hold cI cJ cZ h_this q_this this_count this_heldCount this_held this_signs) [(0, .ref h_this)] [] 28 := by
  unfold t_X1_hold_28 at hT
  refine J_aload_n X dX1_hold_28 0 rfl ?_
  refine J_aload_n X dX1_hold_29 0 rfl ?_
  refine J_get (C := RX1) (T := TX1) (N := 4) (ci := 1) (v := .int this_count) X in_X1_hold_X1 0 rfl rfl 0 (by decide) m_X1_hold_f18 rfl dX1_hold_30 ?_
  refine J_put (host := "") (C := RX1) (T := TX1) (N := 4) (ci := 1) (ws' := (w_X1_hold cI cJ cZ h_this q_this this_count this_count this_held this_signs)) X in_X1_hold_X1 0 rfl rfl 2 (by decide) tyX1 tyX1_ok nmX1 m_X1_hold_f34 rfl rfl rfl (Nat.le_of_ble_eq_true rfl) rfl dX1_hold_33 ?_
  refine J_aload_n X dX1_hold_36 0 rfl ?_
  refine J_iconst (v := 0) X dX1_hold_37 (by decide) ?_
  refine J_put (host := "") (C := RX1) (T := TX1) (N := 4) (ci := 1) (ws' := (w_X1_hold cI cJ cZ h_this q_this (0 : Int32) this_count this_held this_signs)) X in_X1_hold_X1 0 rfl rfl 0 (by decide) tyX1 tyX1_ok nmX1 m_X1_hold_f18 rfl rfl rfl (Nat.le_of_ble_eq_true rfl) rfl dX1_hold_38 ?_
  cases hT
  exact J_vret X dX1_hold_41
set_option maxHeartbeats 4000000 in
set_option maxRecDepth 100000 in
theorem b_X1_hold_2_b {p : Program} {l : Launch} {e : Env} {s : State} {m : MethodId} {args : Array Value} {below : List Frame} {meth : Method} {c : Code} {D : va_G} {A : Nat → Prop} {cI cJ cZ : ClassId} (X : Cx p m c cX1_hold 2 s args wsX1_hold RX1 D (tys3 cI cJ cZ) meth none) (_ _ _ : ClassId)  (h_this : Nat) (q_this : Nat → Nat)  (z0 : Int32) (z1 : Int32) (z2 : Nat → Int32) (k_2 : Int32 → Int32 → (Nat → Int32) → (Nat → Int32) → Int32 → (Option (Int32 × Int32 × (Nat → Int32)))) (hk_2 : ∀ (this_count : Int32) (this_heldCount : Int32) (this_held : Nat → Int32) (this_signs : Nat → Int32) (x1 : Int32), k_2 this_count this_heldCount this_held this_signs x1 = some (z0, z1, z2) → J p l e rmX1_hold s m args below meth c D A 2 (QV D below args s A (w_X1_hold cI cJ cZ h_this q_this z0 z1 z2 this_signs)) 0 0 (w_X1_hold cI cJ cZ h_this q_this this_count this_heldCount this_held this_signs) [(0, .ref h_this), (1, .int x1)] [] 2) (this_count : Int32) (this_heldCount : Int32) (this_held : Nat → Int32) (this_signs : Nat → Int32) (x1 : Int32) (hT : t_X1_hold_2_b  k_2 this_count this_heldCount this_held this_signs x1 = some (z0, z1, z2)) : J p l e rmX1_hold s m args below meth c D A 2 (QV D below args s A (w_X1_hold cI cJ cZ h_this q_this z0 z1 z2 this_signs)) 0 0 (w_X1_hold cI cJ cZ h_this q_this this_count this_heldCount this_held this_signs) [(0, .ref h_this), (1, .int x1)] [] 2 := by
  unfold t_X1_hold_2_b at hT
  refine J_iload_n X dX1_hold_2 1 rfl ?_
  refine J_aload_n X dX1_hold_3 0 rfl ?_
  refine J_get (C := RX1) (T := TX1) (N := 4) (ci := 1) (v := .int this_count) X in_X1_hold_X1 0 rfl rfl 0 (by decide) m_X1_hold_f18 rfl dX1_hold_4 ?_
  refine J_icmp_ge (tgt := 28) X dX1_hold_7 (by decide) (fun hc1 => ?_) (fun hc1 => ?_)
  · have hT := ift hT hc1
    refine J_lv (lv' := [(0, .ref h_this)]) [0] rfl ?_
    exact b_X1_hold_28 X cI cJ cZ h_this q_this  z0 z1 z2  this_count this_heldCount this_held this_signs hT
  · have hT := iff_ hT hc1
    refine J_aload_n X dX1_hold_10 0 rfl ?_
    refine J_get (C := RX1) (T := TX1) (N := 4) (ci := 1) (v := .ref (q_this 3)) X in_X1_hold_X1 0 rfl rfl 3 (by decide) m_X1_hold_f15 rfl dX1_hold_11 ?_
    refine J_iload_n X dX1_hold_14 1 rfl ?_
    refine J_aload_n X dX1_hold_15 0 rfl ?_
    refine J_get (C := RX1) (T := TX1) (N := 4) (ci := 1) (v := .ref (q_this 1)) X in_X1_hold_X1 0 rfl rfl 1 (by decide) m_X1_hold_f9 rfl dX1_hold_16 ?_
    refine J_iload_n X dX1_hold_19 1 rfl ?_
    obtain ⟨hk2, hT⟩ := ckn_e hT
    refine J_iald X 2 rfl rfl hk2 dX1_hold_20 ?_
    obtain ⟨hk3, hT⟩ := ckn_e hT
    refine J_iast (ws' := (w_X1_hold cI cJ cZ h_this q_this this_count this_heldCount (upd this_held x1.toNatClampNeg (this_signs x1.toNatClampNeg)) this_signs)) X 1 rfl rfl hk3 rfl dX1_hold_21 ?_
    refine J_iinc (lv' := [(1, .int (x1 + (1 : Int32))), (0, .ref h_this)]) (j := 1) X dX1_hold_22 rfl rfl (by decide) rfl ?_
    refine J_goto (tgt := 2) X dX1_hold_25 (by decide) ?_
    refine J_lv (lv' := [(0, .ref h_this), (1, .int (x1 + (1 : Int32)))]) [1, 0] rfl ?_
    exact hk_2 this_count this_heldCount (upd this_held x1.toNatClampNeg (this_signs x1.toNatClampNeg)) this_signs (x1 + (1 : Int32)) hT
set_option maxHeartbeats 4000000 in
set_option maxRecDepth 100000 in
theorem b_X1_hold_2 {p : Program} {l : Launch} {e : Env} {s : State} {m : MethodId} {args : Array Value} {below : List Frame} {meth : Method} {c : Code} {D : va_G} {A : Nat → Prop} {cI cJ cZ : ClassId} (X : Cx p m c cX1_hold 2 s args wsX1_hold RX1 D (tys3 cI cJ cZ) meth none) (_ _ _ : ClassId)  (h_this : Nat) (q_this : Nat → Nat)  (z0 : Int32) (z1 : Int32) (z2 : Nat → Int32)  : ∀ (n : Nat) (this_count : Int32) (this_heldCount : Int32) (this_held : Nat → Int32) (this_signs : Nat → Int32) (x1 : Int32) (hT : t_X1_hold_2   n this_count this_heldCount this_held this_signs x1 = some (z0, z1, z2)), J p l e rmX1_hold s m args below meth c D A 2 (QV D below args s A (w_X1_hold cI cJ cZ h_this q_this z0 z1 z2 this_signs)) 0 0 (w_X1_hold cI cJ cZ h_this q_this this_count this_heldCount this_held this_signs) [(0, .ref h_this), (1, .int x1)] [] 2 := by
  intro n
  induction n with
  | zero => intro this_count this_heldCount this_held this_signs x1 hT; cases hT
  | succ n ih =>
    intro this_count this_heldCount this_held this_signs x1 hT
    exact b_X1_hold_2_b X cI cJ cZ h_this q_this  z0 z1 z2  (t_X1_hold_2   n) ih this_count this_heldCount this_held this_signs x1 hT
set_option maxHeartbeats 4000000 in
set_option maxRecDepth 100000 in
theorem c_X1_hold (l : Launch) (D : va_G) (cI cJ cZ : ClassId) (h_this : Nat) (q_this : Nat → Nat) (this_count : Int32) (this_heldCount : Int32) (this_held : Nat → Int32) (this_signs : Nat → Int32)  (z0 : Int32) (z1 : Int32) (z2 : Nat → Int32) (hT : t_X1_hold  this_count this_heldCount this_held this_signs  = some (z0, z1, z2)) : Cv l yX1_hold wsX1_hold rmX1_hold D (tys3 cI cJ cZ) [.ref h_this] (w_X1_hold cI cJ cZ h_this q_this this_count this_heldCount this_held this_signs) (w_X1_hold cI cJ cZ h_this q_this z0 z1 z2 this_signs) := by
  refine Cv.ofJ (cc := cX1_hold) (nL := 2) (rt := none) (own := RX1) (by decide) rfl rfl (Nat.le_of_ble_eq_true rfl) ?_
  intro p e s m below meth c A X
  unfold t_X1_hold at hT
  refine J_lv (lv' := [(0, .ref h_this)]) [0] rfl ?_
  refine J_iconst (v := 0) X dX1_hold_0 (by decide) ?_
  refine J_istore_n (lv' := [(1, .int (0 : Int32)), (0, .ref h_this)]) X dX1_hold_1 (by decide) rfl ?_
  refine J_lv (lv' := [(0, .ref h_this), (1, .int (0 : Int32))]) [1, 0] rfl ?_
  exact b_X1_hold_2 X cI cJ cZ h_this q_this  z0 z1 z2  lfuel this_count this_heldCount this_held this_signs (0 : Int32) hT
-- ===== SoldMatches$Clause.fits(II)Z
abbrev rmX1_fits : Room := { frames := 1, cells := 0, slots := 0, locals := 20 }
def w_X1_fits (cI cJ cZ : ClassId) (h_this : Nat) (q_this : Nat → Nat) (this_count : Int32) (this_heldCount : Int32) (this_held : Nat → Int32) : va_W := [(h_this, .inr (1, oFX1 q_this this_count this_heldCount)), ((q_this 3), .inl (cI, 40, .inl this_held))]
theorem m_X1_fits_f15 : Cond.fieldLink RX1 15 "SoldMatches$Clause" "held" "[I" ∈ wsX1_fits := List.mem_of_getElem? (i := 2) rfl
theorem in_X1_fits_X1 : ∀ w ∈ wsX10, w ∈ wsX1_fits := fun w h => List.mem_cons_of_mem _ (List.mem_append_right _ h)
theorem m_X1_fits_f34 : Cond.fieldLink RX1 34 "SoldMatches$Clause" "heldCount" "I" ∈ wsX1_fits := List.mem_of_getElem? (i := 1) rfl
theorem cw_X1_fits_X1_isDigit_30 {s : State} {args : Array Value} (hts : ∀ w ∈ wsX1_fits, w.before args s = true) : CallB rmX1_fits s args RX1 30 yX1_isDigit cX1_isDigit 1 (some .boolean) wsX1_isDigit rmX1_isDigit 0 0 1 ∧ (Cond.static yX1_isDigit).before args s = true := va_cwS 1 hts gX1_fits_X1_isDigit rfl rfl rfl (by decide +kernel) ⟨by decide, by decide⟩
def t_X1_fits_95   (this_heldCount : Int32) (this_held : Nat → Int32) (s0 : Int32) : Option (Int32) := ckn (¬ (s0 = 0 ∨ s0 = 1)) (some (s0))
def t_X1_fits_61   (this_heldCount : Int32) (this_held : Nat → Int32) (x1 : Int32) (x2 : Int32) (x3 : Int32) : Option (Int32) := ckn (x2 < 0 ∨ 40 ≤ x2.toNatClampNeg) (if (this_held x2.toNatClampNeg) = (60 : Int32) then (if x3 ≤ x1 then (t_X1_fits_95   this_heldCount this_held (0 : Int32)) else (t_X1_fits_95   this_heldCount this_held (1 : Int32))) else (if x1 ≤ x3 then (t_X1_fits_95   this_heldCount this_held (0 : Int32)) else (t_X1_fits_95   this_heldCount this_held (1 : Int32))))
def t_X1_fits_17_b  (k_17 : Int32 → (Nat → Int32) → Int32 → Int32 → Int32 → Int32 → Option (Int32)) (this_heldCount : Int32) (this_held : Nat → Int32) (x1 : Int32) (x2 : Int32) (x3 : Int32) (x4 : Int32) : Option (Int32) := if this_heldCount ≤ x4 then (t_X1_fits_61   this_heldCount this_held x1 x2 x3) else (ckn (x4 < 0 ∨ 40 ≤ x4.toNatClampNeg) (bd1 (t_X1_isDigit (this_held x4.toNatClampNeg)) (fun v8 => if v8 = 0 then (t_X1_fits_61   this_heldCount this_held x1 x2 x3) else (ckn (x4 < 0 ∨ 40 ≤ x4.toNatClampNeg) (k_17 this_heldCount this_held x1 x2 (((x3 * (10 : Int32)) + (this_held x4.toNatClampNeg)) - (48 : Int32)) (x4 + (1 : Int32)))))))
def t_X1_fits_17   (n : Nat) : Int32 → (Nat → Int32) → Int32 → Int32 → Int32 → Int32 → Option (Int32) := Nat.rec (fun _ _ _ _ _ _ => none) (fun _ ih => t_X1_fits_17_b   ih) n
def t_X1_fits  (this_heldCount : Int32) (this_held : Nat → Int32) (x1 : Int32) (x2 : Int32) : Option (Int32) := if x2 < this_heldCount then (t_X1_fits_17   lfuel this_heldCount this_held x1 x2 (0 : Int32) (x2 + (1 : Int32))) else (some ((0 : Int32)))
set_option maxHeartbeats 4000000 in
set_option maxRecDepth 100000 in
theorem b_X1_fits_95 {p : Program} {l : Launch} {e : Env} {s : State} {m : MethodId} {args : Array Value} {below : List Frame} {meth : Method} {c : Code} {D : va_G} {A : Nat → Prop} {cI cJ cZ : ClassId} (X : Cx p m c cX1_fits 5 s args wsX1_fits RX1 D (tys3 cI cJ cZ) meth (some .boolean)) (_ _ _ : ClassId)  (h_this : Nat) (q_this : Nat → Nat) (this_count : Int32) (r : Int32)  (this_heldCount : Int32) (this_held : Nat → Int32) (s0 : Int32) (hT : t_X1_fits_95   this_heldCount this_held s0 = some r) : J p l e rmX1_fits s m args below meth c D A 5 (QI D below args s A r (w_X1_fits cI cJ cZ h_this q_this this_count this_heldCount this_held)) 0 0 (w_X1_fits cI cJ cZ h_this q_this this_count this_heldCount this_held) [(0, .ref h_this)] [.int s0] 95 := by
  unfold t_X1_fits_95 at hT
  obtain ⟨hk1, hT⟩ := ckn_e hT
  cases hT
  exact J_zret X (Decidable.not_not.mp hk1) dX1_fits_95
set_option maxHeartbeats 4000000 in
set_option maxRecDepth 100000 in
theorem b_X1_fits_61 {p : Program} {l : Launch} {e : Env} {s : State} {m : MethodId} {args : Array Value} {below : List Frame} {meth : Method} {c : Code} {D : va_G} {A : Nat → Prop} {cI cJ cZ : ClassId} (X : Cx p m c cX1_fits 5 s args wsX1_fits RX1 D (tys3 cI cJ cZ) meth (some .boolean)) (_ _ _ : ClassId)  (h_this : Nat) (q_this : Nat → Nat) (this_count : Int32) (r : Int32)  (this_heldCount : Int32) (this_held : Nat → Int32) (x1 : Int32) (x2 : Int32) (x3 : Int32) (hT : t_X1_fits_61   this_heldCount this_held x1 x2 x3 = some r) : J p l e rmX1_fits s m args below meth c D A 5 (QI D below args s A r (w_X1_fits cI cJ cZ h_this q_this this_count this_heldCount this_held)) 0 0 (w_X1_fits cI cJ cZ h_this q_this this_count this_heldCount this_held) [(0, .ref h_this), (1, .int x1), (2, .int x2), (3, .int x3)] [] 61 := by
  unfold t_X1_fits_61 at hT
  refine J_aload_n X dX1_fits_61 0 rfl ?_
  refine J_get (C := RX1) (T := TX1) (N := 4) (ci := 1) (v := .ref (q_this 3)) X in_X1_fits_X1 0 rfl rfl 3 (by decide) m_X1_fits_f15 rfl dX1_fits_62 ?_
  refine J_iload_n X dX1_fits_65 2 rfl ?_
  obtain ⟨hk2, hT⟩ := ckn_e hT
  refine J_iald X 1 rfl rfl hk2 dX1_fits_66 ?_
  refine J_bipush (v := 60) X dX1_fits_67 (by decide) ?_
  refine J_icmp_ne (tgt := 85) X dX1_fits_69 (by decide) (fun hc3 => ?_) (fun hc3 => ?_)
  · have hT := iff_ hT hc3
    refine J_iload_n X dX1_fits_85 1 rfl ?_
    refine J_iload_n X dX1_fits_86 3 rfl ?_
    refine J_icmp_le (tgt := 94) X dX1_fits_87 (by decide) (fun hc4 => ?_) (fun hc4 => ?_)
    · have hT := ift hT hc4
      refine J_iconst (v := 0) X dX1_fits_94 (by decide) ?_
      refine J_lv (lv' := [(0, .ref h_this)]) [0] rfl ?_
      exact b_X1_fits_95 X cI cJ cZ h_this q_this this_count r  this_heldCount this_held (0 : Int32) hT
    · have hT := iff_ hT hc4
      refine J_iconst (v := 1) X dX1_fits_90 (by decide) ?_
      refine J_goto (tgt := 95) X dX1_fits_91 (by decide) ?_
      refine J_lv (lv' := [(0, .ref h_this)]) [0] rfl ?_
      exact b_X1_fits_95 X cI cJ cZ h_this q_this this_count r  this_heldCount this_held (1 : Int32) hT
  · have hT := ift hT hc3
    refine J_iload_n X dX1_fits_72 1 rfl ?_
    refine J_iload_n X dX1_fits_73 3 rfl ?_
    refine J_icmp_ge (tgt := 81) X dX1_fits_74 (by decide) (fun hc5 => ?_) (fun hc5 => ?_)
    · have hT := ift hT hc5
      refine J_iconst (v := 0) X dX1_fits_81 (by decide) ?_
      refine J_goto (tgt := 95) X dX1_fits_82 (by decide) ?_
      refine J_lv (lv' := [(0, .ref h_this)]) [0] rfl ?_
      exact b_X1_fits_95 X cI cJ cZ h_this q_this this_count r  this_heldCount this_held (0 : Int32) hT
    · have hT := iff_ hT hc5
      refine J_iconst (v := 1) X dX1_fits_77 (by decide) ?_
      refine J_goto (tgt := 95) X dX1_fits_78 (by decide) ?_
      refine J_lv (lv' := [(0, .ref h_this)]) [0] rfl ?_
      exact b_X1_fits_95 X cI cJ cZ h_this q_this this_count r  this_heldCount this_held (1 : Int32) hT
set_option maxHeartbeats 4000000 in
set_option maxRecDepth 100000 in
theorem b_X1_fits_17_b {p : Program} {l : Launch} {e : Env} {s : State} {m : MethodId} {args : Array Value} {below : List Frame} {meth : Method} {c : Code} {D : va_G} {A : Nat → Prop} {cI cJ cZ : ClassId} (X : Cx p m c cX1_fits 5 s args wsX1_fits RX1 D (tys3 cI cJ cZ) meth (some .boolean)) (_ _ _ : ClassId)  (h_this : Nat) (q_this : Nat → Nat) (this_count : Int32) (r : Int32) (k_17 : Int32 → (Nat → Int32) → Int32 → Int32 → Int32 → Int32 → Option (Int32)) (hk_17 : ∀ (this_heldCount : Int32) (this_held : Nat → Int32) (x1 : Int32) (x2 : Int32) (x3 : Int32) (x4 : Int32), k_17 this_heldCount this_held x1 x2 x3 x4 = some r → J p l e rmX1_fits s m args below meth c D A 5 (QI D below args s A r (w_X1_fits cI cJ cZ h_this q_this this_count this_heldCount this_held)) 0 0 (w_X1_fits cI cJ cZ h_this q_this this_count this_heldCount this_held) [(0, .ref h_this), (1, .int x1), (2, .int x2), (3, .int x3), (4, .int x4)] [] 17) (this_heldCount : Int32) (this_held : Nat → Int32) (x1 : Int32) (x2 : Int32) (x3 : Int32) (x4 : Int32) (hT : t_X1_fits_17_b  k_17 this_heldCount this_held x1 x2 x3 x4 = some r) : J p l e rmX1_fits s m args below meth c D A 5 (QI D below args s A r (w_X1_fits cI cJ cZ h_this q_this this_count this_heldCount this_held)) 0 0 (w_X1_fits cI cJ cZ h_this q_this this_count this_heldCount this_held) [(0, .ref h_this), (1, .int x1), (2, .int x2), (3, .int x3), (4, .int x4)] [] 17 := by
  unfold t_X1_fits_17_b at hT
  refine J_iload X dX1_fits_17 4 rfl ?_
  refine J_aload_n X dX1_fits_19 0 rfl ?_
  refine J_get (C := RX1) (T := TX1) (N := 4) (ci := 1) (v := .int this_heldCount) X in_X1_fits_X1 0 rfl rfl 2 (by decide) m_X1_fits_f34 rfl dX1_fits_20 ?_
  refine J_icmp_ge (tgt := 61) X dX1_fits_23 (by decide) (fun hc6 => ?_) (fun hc6 => ?_)
  · have hT := ift hT hc6
    refine J_lv (lv' := [(0, .ref h_this), (1, .int x1), (2, .int x2), (3, .int x3)]) [0, 1, 2, 3] rfl ?_
    exact b_X1_fits_61 X cI cJ cZ h_this q_this this_count r  this_heldCount this_held x1 x2 x3 hT
  · have hT := iff_ hT hc6
    refine J_aload_n X dX1_fits_26 0 rfl ?_
    refine J_get (C := RX1) (T := TX1) (N := 4) (ci := 1) (v := .ref (q_this 3)) X in_X1_fits_X1 0 rfl rfl 3 (by decide) m_X1_fits_f15 rfl dX1_fits_27 ?_
    refine J_iload X dX1_fits_30 4 rfl ?_
    obtain ⟨hk7, hT⟩ := ckn_e hT
    refine J_iald X 1 rfl rfl hk7 dX1_fits_32 ?_
    obtain ⟨v8, hq8, hT⟩ := bd1_e hT
    refine J_ci (wc := (w_X1_isDigit cI cJ cZ )) (wc' := (w_X1_isDigit cI cJ cZ )) (ws' := (w_X1_fits cI cJ cZ h_this q_this this_count this_heldCount this_held)) [] [0, 1] 2 rfl rfl rfl rfl rfl rfl rfl rfl (run_S (As := [.int (this_held x4.toNatClampNeg)]) (rest := []) X (c_X1_isDigit l D cI cJ cZ  (this_held x4.toNatClampNeg) v8 hq8) (cw_X1_fits_X1_isDigit_30 X.1.2.2.2.2) rfl rfl (Nat.le_of_ble_eq_true rfl) dX1_fits_33 ⟨Nat.zero_le _, Nat.zero_le _⟩) ?_
    refine J_if_eq (tgt := 61) X dX1_fits_36 (by decide) (fun hc9 => ?_) (fun hc9 => ?_)
    · have hT := ift hT hc9
      refine J_lv (lv' := [(0, .ref h_this), (1, .int x1), (2, .int x2), (3, .int x3)]) [0, 1, 2, 3] rfl ?_
      exact b_X1_fits_61 X cI cJ cZ h_this q_this this_count r  this_heldCount this_held x1 x2 x3 hT
    · have hT := iff_ hT hc9
      refine J_iload_n X dX1_fits_39 3 rfl ?_
      refine J_bipush (v := 10) X dX1_fits_40 (by decide) ?_
      refine J_imul X dX1_fits_42 ?_
      refine J_aload_n X dX1_fits_43 0 rfl ?_
      refine J_get (C := RX1) (T := TX1) (N := 4) (ci := 1) (v := .ref (q_this 3)) X in_X1_fits_X1 0 rfl rfl 3 (by decide) m_X1_fits_f15 rfl dX1_fits_44 ?_
      refine J_iload X dX1_fits_47 4 rfl ?_
      obtain ⟨hk10, hT⟩ := ckn_e hT
      refine J_iald X 1 rfl rfl hk10 dX1_fits_49 ?_
      refine J_iadd X dX1_fits_50 ?_
      refine J_bipush (v := 48) X dX1_fits_51 (by decide) ?_
      refine J_isub X dX1_fits_53 ?_
      refine J_istore_n (lv' := [(3, .int (((x3 * (10 : Int32)) + (this_held x4.toNatClampNeg)) - (48 : Int32))), (0, .ref h_this), (1, .int x1), (2, .int x2), (4, .int x4)]) X dX1_fits_54 (by decide) rfl ?_
      refine J_iinc (lv' := [(4, .int (x4 + (1 : Int32))), (3, .int (((x3 * (10 : Int32)) + (this_held x4.toNatClampNeg)) - (48 : Int32))), (0, .ref h_this), (1, .int x1), (2, .int x2)]) (j := 4) X dX1_fits_55 rfl rfl (by decide) rfl ?_
      refine J_goto (tgt := 17) X dX1_fits_58 (by decide) ?_
      refine J_lv (lv' := [(0, .ref h_this), (1, .int x1), (2, .int x2), (3, .int (((x3 * (10 : Int32)) + (this_held x4.toNatClampNeg)) - (48 : Int32))), (4, .int (x4 + (1 : Int32)))]) [2, 3, 4, 1, 0] rfl ?_
      exact hk_17 this_heldCount this_held x1 x2 (((x3 * (10 : Int32)) + (this_held x4.toNatClampNeg)) - (48 : Int32)) (x4 + (1 : Int32)) hT
set_option maxHeartbeats 4000000 in
set_option maxRecDepth 100000 in
theorem b_X1_fits_17 {p : Program} {l : Launch} {e : Env} {s : State} {m : MethodId} {args : Array Value} {below : List Frame} {meth : Method} {c : Code} {D : va_G} {A : Nat → Prop} {cI cJ cZ : ClassId} (X : Cx p m c cX1_fits 5 s args wsX1_fits RX1 D (tys3 cI cJ cZ) meth (some .boolean)) (_ _ _ : ClassId)  (h_this : Nat) (q_this : Nat → Nat) (this_count : Int32) (r : Int32)  : ∀ (n : Nat) (this_heldCount : Int32) (this_held : Nat → Int32) (x1 : Int32) (x2 : Int32) (x3 : Int32) (x4 : Int32) (hT : t_X1_fits_17   n this_heldCount this_held x1 x2 x3 x4 = some r), J p l e rmX1_fits s m args below meth c D A 5 (QI D below args s A r (w_X1_fits cI cJ cZ h_this q_this this_count this_heldCount this_held)) 0 0 (w_X1_fits cI cJ cZ h_this q_this this_count this_heldCount this_held) [(0, .ref h_this), (1, .int x1), (2, .int x2), (3, .int x3), (4, .int x4)] [] 17 := by
  intro n
  induction n with
  | zero => intro this_heldCount this_held x1 x2 x3 x4 hT; cases hT
  | succ n ih =>
    intro this_heldCount this_held x1 x2 x3 x4 hT
    exact b_X1_fits_17_b X cI cJ cZ h_this q_this this_count r  (t_X1_fits_17   n) ih this_heldCount this_held x1 x2 x3 x4 hT
set_option maxHeartbeats 4000000 in
set_option maxRecDepth 100000 in
theorem c_X1_fits (l : Launch) (D : va_G) (cI cJ cZ : ClassId) (h_this : Nat) (q_this : Nat → Nat) (this_count : Int32) (this_heldCount : Int32) (this_held : Nat → Int32) (x1 : Int32) (x2 : Int32) (r : Int32) (hT : t_X1_fits  this_heldCount this_held x1 x2 = some r) : Ci l yX1_fits wsX1_fits rmX1_fits D (tys3 cI cJ cZ) [.ref h_this, .int x1, .int x2] (w_X1_fits cI cJ cZ h_this q_this this_count this_heldCount this_held) r (w_X1_fits cI cJ cZ h_this q_this this_count this_heldCount this_held) := by
  refine Ci.ofJ (cc := cX1_fits) (nL := 5) (rt := (some .boolean)) (own := RX1) (by decide) rfl rfl (Nat.le_of_ble_eq_true rfl) ?_
  intro p e s m below meth c A X
  unfold t_X1_fits at hT
  refine J_lv (lv' := [(0, .ref h_this), (1, .int x1), (2, .int x2)]) [0, 1, 2] rfl ?_
  refine J_iload_n X dX1_fits_0 2 rfl ?_
  refine J_aload_n X dX1_fits_1 0 rfl ?_
  refine J_get (C := RX1) (T := TX1) (N := 4) (ci := 1) (v := .int this_heldCount) X in_X1_fits_X1 0 rfl rfl 2 (by decide) m_X1_fits_f34 rfl dX1_fits_2 ?_
  refine J_icmp_lt (tgt := 10) X dX1_fits_5 (by decide) (fun hc11 => ?_) (fun hc11 => ?_)
  · have hT := ift hT hc11
    refine J_iconst (v := 0) X dX1_fits_10 (by decide) ?_
    refine J_istore_n (lv' := [(3, .int (0 : Int32)), (0, .ref h_this), (1, .int x1), (2, .int x2)]) X dX1_fits_11 (by decide) rfl ?_
    refine J_iload_n X dX1_fits_12 3 rfl ?_
    refine J_iconst (v := 1) X dX1_fits_13 (by decide) ?_
    refine J_iadd X dX1_fits_14 ?_
    refine J_istore (lv' := [(4, .int (x2 + (1 : Int32))), (3, .int (0 : Int32)), (0, .ref h_this), (1, .int x1), (2, .int x2)]) X dX1_fits_15 (by decide) rfl ?_
    refine J_lv (lv' := [(0, .ref h_this), (1, .int x1), (2, .int x2), (3, .int (0 : Int32)), (4, .int (x2 + (1 : Int32)))]) [2, 3, 4, 1, 0] rfl ?_
    exact b_X1_fits_17 X cI cJ cZ h_this q_this this_count r  lfuel this_heldCount this_held x1 x2 (0 : Int32) (x2 + (1 : Int32)) hT
  · have hT := iff_ hT hc11
    refine J_iconst (v := 0) X dX1_fits_8 (by decide) ?_
    cases hT
    exact J_zret X (by decide) dX1_fits_9
-- ===== SoldMatches$Clause.grants([I)Z
abbrev rmX1_grants : Room := { frames := 2, cells := 0, slots := 0, locals := 44 }
def w_X1_grants (cI cJ cZ : ClassId) (h_this : Nat) (h_p1 : Nat) (p1_n : Nat) (q_this : Nat → Nat) (this_count : Int32) (this_heldCount : Int32) (p1 : Nat → Int32) (this_held : Nat → Int32) : va_W := [(h_this, .inr (1, oFX1 q_this this_count this_heldCount)), (h_p1, .inl (cI, p1_n, .inl p1)), ((q_this 3), .inl (cI, 40, .inl this_held))]
theorem m_X1_grants_f15 : Cond.fieldLink RX1 15 "SoldMatches$Clause" "held" "[I" ∈ wsX1_grants := List.mem_of_getElem? (i := 2) rfl
theorem in_X1_grants_X1 : ∀ w ∈ wsX10, w ∈ wsX1_grants := fun w h => List.mem_cons_of_mem _ (List.mem_append_right _ h)
theorem m_X1_grants_f34 : Cond.fieldLink RX1 34 "SoldMatches$Clause" "heldCount" "I" ∈ wsX1_grants := List.mem_of_getElem? (i := 1) rfl
theorem cw_X1_grants_X1_factBy_26 {s : State} {args : Array Value} (hts : ∀ w ∈ wsX1_grants, w.before args s = true) : CallB rmX1_grants s args RX1 26 yX1_factBy cX1_factBy 1 (some .int) wsX1_factBy rmX1_factBy 0 0 1 ∧ (Cond.static yX1_factBy).before args s = true := va_cwS 1 hts gX1_grants_X1_factBy rfl rfl rfl (by decide +kernel) ⟨by decide, by decide⟩
theorem cw_X1_grants_X1_fits_37 {s : State} {args : Array Value} (hts : ∀ w ∈ wsX1_grants, w.before args s = true) : CallW rmX1_grants s args RX1 RX1 37 yX1_fits cX1_fits 5 (some .boolean) wsX1_fits rmX1_fits 0 0 2 := cwV 2 hts gX1_grants_X1_fits rfl rfl rfl (by decide +kernel) ⟨by decide, by decide⟩
def t_X1_grants_92 (p1_n : Nat) (k_15 : Int32 → (Nat → Int32) → (Nat → Int32) → Int32 → Int32 → Option (Int32)) (this_heldCount : Int32) (p1 : Nat → Int32) (this_held : Nat → Int32) (x2 : Int32) (x3 : Int32) : Option (Int32) := k_15 this_heldCount p1 this_held x2 (x3 + (1 : Int32))
def t_X1_grants_73 (p1_n : Nat) (k_15 : Int32 → (Nat → Int32) → (Nat → Int32) → Int32 → Int32 → Option (Int32)) (this_heldCount : Int32) (p1 : Nat → Int32) (this_held : Nat → Int32) (x2 : Int32) (x3 : Int32) : Option (Int32) := ckn (x3 < 0 ∨ 40 ≤ x3.toNatClampNeg) (if (this_held x3.toNatClampNeg) = (124 : Int32) then (if x2 = 0 then (t_X1_grants_92 p1_n k_15 this_heldCount p1 this_held (1 : Int32) x3) else (some ((1 : Int32)))) else (t_X1_grants_92 p1_n k_15 this_heldCount p1 this_held x2 x3))
def t_X1_grants_69 (p1_n : Nat) (k_15 : Int32 → (Nat → Int32) → (Nat → Int32) → Int32 → Int32 → Option (Int32)) (this_heldCount : Int32) (p1 : Nat → Int32) (this_held : Nat → Int32) (x3 : Int32) (s0 : Int32) : Option (Int32) := t_X1_grants_92 p1_n k_15 this_heldCount p1 this_held s0 x3
def t_X1_grants_68 (p1_n : Nat) (k_15 : Int32 → (Nat → Int32) → (Nat → Int32) → Int32 → Int32 → Option (Int32)) (this_heldCount : Int32) (p1 : Nat → Int32) (this_held : Nat → Int32) (x3 : Int32) : Option (Int32) := t_X1_grants_69 p1_n k_15 this_heldCount p1 this_held x3 (0 : Int32)
def t_X1_grants_15_b (p1_n : Nat) (k_15 : Int32 → (Nat → Int32) → (Nat → Int32) → Int32 → Int32 → Option (Int32)) (this_heldCount : Int32) (p1 : Nat → Int32) (this_held : Nat → Int32) (x2 : Int32) (x3 : Int32) : Option (Int32) := if this_heldCount ≤ x3 then (ckn (¬ (x2 = 0 ∨ x2 = 1)) (some (x2))) else (ckn (x3 < 0 ∨ 40 ≤ x3.toNatClampNeg) (bd1 (t_X1_factBy (this_held x3.toNatClampNeg)) (fun v7 => if v7 < 0 then (t_X1_grants_73 p1_n k_15 this_heldCount p1 this_held x2 x3) else (if (Int32.ofNat p1_n) ≤ v7 then (t_X1_grants_73 p1_n k_15 this_heldCount p1 this_held x2 x3) else (if x2 = 0 then (t_X1_grants_68 p1_n k_15 this_heldCount p1 this_held x3) else (ckn (v7 < 0 ∨ p1_n ≤ v7.toNatClampNeg) (bd1 (t_X1_fits this_heldCount this_held (p1 v7.toNatClampNeg) (x3 + (1 : Int32))) (fun v12 => if v12 = 0 then (t_X1_grants_68 p1_n k_15 this_heldCount p1 this_held x3) else (t_X1_grants_69 p1_n k_15 this_heldCount p1 this_held x3 (1 : Int32))))))))))
def t_X1_grants_15 (p1_n : Nat)  (n : Nat) : Int32 → (Nat → Int32) → (Nat → Int32) → Int32 → Int32 → Option (Int32) := Nat.rec (fun _ _ _ _ _ => none) (fun _ ih => t_X1_grants_15_b p1_n  ih) n
def t_X1_grants_12 (p1_n : Nat)  (this_heldCount : Int32) (p1 : Nat → Int32) (this_held : Nat → Int32) (s0 : Int32) : Option (Int32) := t_X1_grants_15 p1_n  lfuel this_heldCount p1 this_held s0 (0 : Int32)
def t_X1_grants (p1_n : Nat) (this_heldCount : Int32) (p1 : Nat → Int32) (this_held : Nat → Int32)  : Option (Int32) := if this_heldCount ≤ 0 then (t_X1_grants_12 p1_n  this_heldCount p1 this_held (0 : Int32)) else (t_X1_grants_12 p1_n  this_heldCount p1 this_held (1 : Int32))
set_option maxHeartbeats 4000000 in
set_option maxRecDepth 100000 in
theorem b_X1_grants_92 {p : Program} {l : Launch} {e : Env} {s : State} {m : MethodId} {args : Array Value} {below : List Frame} {meth : Method} {c : Code} {D : va_G} {A : Nat → Prop} {cI cJ cZ : ClassId} (X : Cx p m c cX1_grants 5 s args wsX1_grants RX1 D (tys3 cI cJ cZ) meth (some .boolean)) (_ _ _ : ClassId)  (h_this : Nat) (h_p1 : Nat) (p1_n : Nat) (q_this : Nat → Nat) (this_count : Int32) (r : Int32) (k_15 : Int32 → (Nat → Int32) → (Nat → Int32) → Int32 → Int32 → Option (Int32)) (hk_15 : ∀ (this_heldCount : Int32) (p1 : Nat → Int32) (this_held : Nat → Int32) (x2 : Int32) (x3 : Int32), k_15 this_heldCount p1 this_held x2 x3 = some r → J p l e rmX1_grants s m args below meth c D A 5 (QI D below args s A r (w_X1_grants cI cJ cZ h_this h_p1 p1_n q_this this_count this_heldCount p1 this_held)) 0 0 (w_X1_grants cI cJ cZ h_this h_p1 p1_n q_this this_count this_heldCount p1 this_held) [(0, .ref h_this), (1, .ref h_p1), (2, .int x2), (3, .int x3)] [] 15) (this_heldCount : Int32) (p1 : Nat → Int32) (this_held : Nat → Int32) (x2 : Int32) (x3 : Int32) (hT : t_X1_grants_92 p1_n k_15 this_heldCount p1 this_held x2 x3 = some r) : J p l e rmX1_grants s m args below meth c D A 5 (QI D below args s A r (w_X1_grants cI cJ cZ h_this h_p1 p1_n q_this this_count this_heldCount p1 this_held)) 0 0 (w_X1_grants cI cJ cZ h_this h_p1 p1_n q_this this_count this_heldCount p1 this_held) [(0, .ref h_this), (1, .ref h_p1), (2, .int x2), (3, .int x3)] [] 92 := by
  unfold t_X1_grants_92 at hT
  refine J_iinc (lv' := [(3, .int (x3 + (1 : Int32))), (0, .ref h_this), (1, .ref h_p1), (2, .int x2)]) (j := 3) X dX1_grants_92 rfl rfl (by decide) rfl ?_
  refine J_goto (tgt := 15) X dX1_grants_95 (by decide) ?_
  refine J_lv (lv' := [(0, .ref h_this), (1, .ref h_p1), (2, .int x2), (3, .int (x3 + (1 : Int32)))]) [1, 2, 3, 0] rfl ?_
  exact hk_15 this_heldCount p1 this_held x2 (x3 + (1 : Int32)) hT
set_option maxHeartbeats 4000000 in
set_option maxRecDepth 100000 in
theorem b_X1_grants_73 {p : Program} {l : Launch} {e : Env} {s : State} {m : MethodId} {args : Array Value} {below : List Frame} {meth : Method} {c : Code} {D : va_G} {A : Nat → Prop} {cI cJ cZ : ClassId} (X : Cx p m c cX1_grants 5 s args wsX1_grants RX1 D (tys3 cI cJ cZ) meth (some .boolean)) (_ _ _ : ClassId)  (h_this : Nat) (h_p1 : Nat) (p1_n : Nat) (q_this : Nat → Nat) (this_count : Int32) (r : Int32) (k_15 : Int32 → (Nat → Int32) → (Nat → Int32) → Int32 → Int32 → Option (Int32)) (hk_15 : ∀ (this_heldCount : Int32) (p1 : Nat → Int32) (this_held : Nat → Int32) (x2 : Int32) (x3 : Int32), k_15 this_heldCount p1 this_held x2 x3 = some r → J p l e rmX1_grants s m args below meth c D A 5 (QI D below args s A r (w_X1_grants cI cJ cZ h_this h_p1 p1_n q_this this_count this_heldCount p1 this_held)) 0 0 (w_X1_grants cI cJ cZ h_this h_p1 p1_n q_this this_count this_heldCount p1 this_held) [(0, .ref h_this), (1, .ref h_p1), (2, .int x2), (3, .int x3)] [] 15) (this_heldCount : Int32) (p1 : Nat → Int32) (this_held : Nat → Int32) (x2 : Int32) (x3 : Int32) (hT : t_X1_grants_73 p1_n k_15 this_heldCount p1 this_held x2 x3 = some r) : J p l e rmX1_grants s m args below meth c D A 5 (QI D below args s A r (w_X1_grants cI cJ cZ h_this h_p1 p1_n q_this this_count this_heldCount p1 this_held)) 0 0 (w_X1_grants cI cJ cZ h_this h_p1 p1_n q_this this_count this_heldCount p1 this_held) [(0, .ref h_this), (1, .ref h_p1), (2, .int x2), (3, .int x3)] [] 73 := by
  unfold t_X1_grants_73 at hT
  refine J_aload_n X dX1_grants_73 0 rfl ?_
  refine J_get (C := RX1) (T := TX1) (N := 4) (ci := 1) (v := .ref (q_this 3)) X in_X1_grants_X1 0 rfl rfl 3 (by decide) m_X1_grants_f15 rfl dX1_grants_74 ?_
  refine J_iload_n X dX1_grants_77 3 rfl ?_
  obtain ⟨hk1, hT⟩ := ckn_e hT
  refine J_iald X 2 rfl rfl hk1 dX1_grants_78 ?_
  refine J_bipush (v := 124) X dX1_grants_79 (by decide) ?_
  refine J_icmp_ne (tgt := 92) X dX1_grants_81 (by decide) (fun hc2 => ?_) (fun hc2 => ?_)
  · have hT := iff_ hT hc2
    exact b_X1_grants_92 X cI cJ cZ h_this h_p1 p1_n q_this this_count r k_15 hk_15 this_heldCount p1 this_held x2 x3 hT
  · have hT := ift hT hc2
    refine J_iload_n X dX1_grants_84 2 rfl ?_
    refine J_if_eq (tgt := 90) X dX1_grants_85 (by decide) (fun hc3 => ?_) (fun hc3 => ?_)
    · have hT := ift hT hc3
      refine J_iconst (v := 1) X dX1_grants_90 (by decide) ?_
      refine J_istore_n (lv' := [(2, .int (1 : Int32)), (0, .ref h_this), (1, .ref h_p1), (3, .int x3)]) X dX1_grants_91 (by decide) rfl ?_
      refine J_lv (lv' := [(0, .ref h_this), (1, .ref h_p1), (2, .int (1 : Int32)), (3, .int x3)]) [1, 2, 0, 3] rfl ?_
      exact b_X1_grants_92 X cI cJ cZ h_this h_p1 p1_n q_this this_count r k_15 hk_15 this_heldCount p1 this_held (1 : Int32) x3 hT
    · have hT := iff_ hT hc3
      refine J_iconst (v := 1) X dX1_grants_88 (by decide) ?_
      cases hT
      exact J_zret X (by decide) dX1_grants_89
set_option maxHeartbeats 4000000 in
set_option maxRecDepth 100000 in
theorem b_X1_grants_69 {p : Program} {l : Launch} {e : Env} {s : State} {m : MethodId} {args : Array Value} {below : List Frame} {meth : Method} {c : Code} {D : va_G} {A : Nat → Prop} {cI cJ cZ : ClassId} (X : Cx p m c cX1_grants 5 s args wsX1_grants RX1 D (tys3 cI cJ cZ) meth (some .boolean)) (_ _ _ : ClassId)  (h_this : Nat) (h_p1 : Nat) (p1_n : Nat) (q_this : Nat → Nat) (this_count : Int32) (r : Int32) (k_15 : Int32 → (Nat → Int32) → (Nat → Int32) → Int32 → Int32 → Option (Int32)) (hk_15 : ∀ (this_heldCount : Int32) (p1 : Nat → Int32) (this_held : Nat → Int32) (x2 : Int32) (x3 : Int32), k_15 this_heldCount p1 this_held x2 x3 = some r → J p l e rmX1_grants s m args below meth c D A 5 (QI D below args s A r (w_X1_grants cI cJ cZ h_this h_p1 p1_n q_this this_count this_heldCount p1 this_held)) 0 0 (w_X1_grants cI cJ cZ h_this h_p1 p1_n q_this this_count this_heldCount p1 this_held) [(0, .ref h_this), (1, .ref h_p1), (2, .int x2), (3, .int x3)] [] 15) (this_heldCount : Int32) (p1 : Nat → Int32) (this_held : Nat → Int32) (x3 : Int32) (s0 : Int32) (hT : t_X1_grants_69 p1_n k_15 this_heldCount p1 this_held x3 s0 = some r) : J p l e rmX1_grants s m args below meth c D A 5 (QI D below args s A r (w_X1_grants cI cJ cZ h_this h_p1 p1_n q_this this_count this_heldCount p1 this_held)) 0 0 (w_X1_grants cI cJ cZ h_this h_p1 p1_n q_this this_count this_heldCount p1 this_held) [(0, .ref h_this), (1, .ref h_p1), (3, .int x3)] [.int s0] 69 := by
  unfold t_X1_grants_69 at hT
  refine J_istore_n (lv' := [(2, .int s0), (0, .ref h_this), (1, .ref h_p1), (3, .int x3)]) X dX1_grants_69 (by decide) rfl ?_
  refine J_goto (tgt := 92) X dX1_grants_70 (by decide) ?_
  refine J_lv (lv' := [(0, .ref h_this), (1, .ref h_p1), (2, .int s0), (3, .int x3)]) [1, 2, 0, 3] rfl ?_
  exact b_X1_grants_92 X cI cJ cZ h_this h_p1 p1_n q_this this_count r k_15 hk_15 this_heldCount p1 this_held s0 x3 hT
set_option maxHeartbeats 4000000 in
set_option maxRecDepth 100000 in
theorem b_X1_grants_68 {p : Program} {l : Launch} {e : Env} {s : State} {m : MethodId} {args : Array Value} {below : List Frame} {meth : Method} {c : Code} {D : va_G} {A : Nat → Prop} {cI cJ cZ : ClassId} (X : Cx p m c cX1_grants 5 s args wsX1_grants RX1 D (tys3 cI cJ cZ) meth (some .boolean)) (_ _ _ : ClassId)  (h_this : Nat) (h_p1 : Nat) (p1_n : Nat) (q_this : Nat → Nat) (this_count : Int32) (r : Int32) (k_15 : Int32 → (Nat → Int32) → (Nat → Int32) → Int32 → Int32 → Option (Int32)) (hk_15 : ∀ (this_heldCount : Int32) (p1 : Nat → Int32) (this_held : Nat → Int32) (x2 : Int32) (x3 : Int32), k_15 this_heldCount p1 this_held x2 x3 = some r → J p l e rmX1_grants s m args below meth c D A 5 (QI D below args s A r (w_X1_grants cI cJ cZ h_this h_p1 p1_n q_this this_count this_heldCount p1 this_held)) 0 0 (w_X1_grants cI cJ cZ h_this h_p1 p1_n q_this this_count this_heldCount p1 this_held) [(0, .ref h_this), (1, .ref h_p1), (2, .int x2), (3, .int x3)] [] 15) (this_heldCount : Int32) (p1 : Nat → Int32) (this_held : Nat → Int32) (x3 : Int32) (hT : t_X1_grants_68 p1_n k_15 this_heldCount p1 this_held x3 = some r) : J p l e rmX1_grants s m args below meth c D A 5 (QI D below args s A r (w_X1_grants cI cJ cZ h_this h_p1 p1_n q_this this_count this_heldCount p1 this_held)) 0 0 (w_X1_grants cI cJ cZ h_this h_p1 p1_n q_this this_count this_heldCount p1 this_held) [(0, .ref h_this), (1, .ref h_p1), (3, .int x3)] [] 68 := by
  unfold t_X1_grants_68 at hT
  refine J_iconst (v := 0) X dX1_grants_68 (by decide) ?_
  exact b_X1_grants_69 X cI cJ cZ h_this h_p1 p1_n q_this this_count r k_15 hk_15 this_heldCount p1 this_held x3 (0 : Int32) hT
set_option maxHeartbeats 4000000 in
set_option maxRecDepth 100000 in
theorem b_X1_grants_15_b {p : Program} {l : Launch} {e : Env} {s : State} {m : MethodId} {args : Array Value} {below : List Frame} {meth : Method} {c : Code} {D : va_G} {A : Nat → Prop} {cI cJ cZ : ClassId} (X : Cx p m c cX1_grants 5 s args wsX1_grants RX1 D (tys3 cI cJ cZ) meth (some .boolean)) (_ _ _ : ClassId)  (h_this : Nat) (h_p1 : Nat) (p1_n : Nat) (q_this : Nat → Nat) (this_count : Int32) (r : Int32) (k_15 : Int32 → (Nat → Int32) → (Nat → Int32) → Int32 → Int32 → Option (Int32)) (hk_15 : ∀ (this_heldCount : Int32) (p1 : Nat → Int32) (this_held : Nat → Int32) (x2 : Int32) (x3 : Int32), k_15 this_heldCount p1 this_held x2 x3 = some r → J p l e rmX1_grants s m args below meth c D A 5 (QI D below args s A r (w_X1_grants cI cJ cZ h_this h_p1 p1_n q_this this_count this_heldCount p1 this_held)) 0 0 (w_X1_grants cI cJ cZ h_this h_p1 p1_n q_this this_count this_heldCount p1 this_held) [(0, .ref h_this), (1, .ref h_p1), (2, .int x2), (3, .int x3)] [] 15) (this_heldCount : Int32) (p1 : Nat → Int32) (this_held : Nat → Int32) (x2 : Int32) (x3 : Int32) (hT : t_X1_grants_15_b p1_n k_15 this_heldCount p1 this_held x2 x3 = some r) : J p l e rmX1_grants s m args below meth c D A 5 (QI D below args s A r (w_X1_grants cI cJ cZ h_this h_p1 p1_n q_this this_count this_heldCount p1 this_held)) 0 0 (w_X1_grants cI cJ cZ h_this h_p1 p1_n q_this this_count this_heldCount p1 this_held) [(0, .ref h_this), (1, .ref h_p1), (2, .int x2), (3, .int x3)] [] 15 := by
  unfold t_X1_grants_15_b at hT
  refine J_iload_n X dX1_grants_15 3 rfl ?_
  refine J_aload_n X dX1_grants_16 0 rfl ?_
  refine J_get (C := RX1) (T := TX1) (N := 4) (ci := 1) (v := .int this_heldCount) X in_X1_grants_X1 0 rfl rfl 2 (by decide) m_X1_grants_f34 rfl dX1_grants_17 ?_
  refine J_icmp_ge (tgt := 98) X dX1_grants_20 (by decide) (fun hc4 => ?_) (fun hc4 => ?_)
  · have hT := ift hT hc4
    refine J_iload_n X dX1_grants_98 2 rfl ?_
    obtain ⟨hk5, hT⟩ := ckn_e hT
    cases hT
    exact J_zret X (Decidable.not_not.mp hk5) dX1_grants_99
  · have hT := iff_ hT hc4
    refine J_aload_n X dX1_grants_23 0 rfl ?_
    refine J_get (C := RX1) (T := TX1) (N := 4) (ci := 1) (v := .ref (q_this 3)) X in_X1_grants_X1 0 rfl rfl 3 (by decide) m_X1_grants_f15 rfl dX1_grants_24 ?_
    refine J_iload_n X dX1_grants_27 3 rfl ?_
    obtain ⟨hk6, hT⟩ := ckn_e hT
    refine J_iald X 2 rfl rfl hk6 dX1_grants_28 ?_
    obtain ⟨v7, hq7, hT⟩ := bd1_e hT
    refine J_ci (wc := (w_X1_factBy cI cJ cZ )) (wc' := (w_X1_factBy cI cJ cZ )) (ws' := (w_X1_grants cI cJ cZ h_this h_p1 p1_n q_this this_count this_heldCount p1 this_held)) [] [0, 1, 2] 3 rfl rfl rfl rfl rfl rfl rfl rfl (run_S (As := [.int (this_held x3.toNatClampNeg)]) (rest := []) X (c_X1_factBy l D cI cJ cZ  (this_held x3.toNatClampNeg) v7 hq7) (cw_X1_grants_X1_factBy_26 X.1.2.2.2.2) rfl rfl (Nat.le_of_ble_eq_true rfl) dX1_grants_29 ⟨Nat.zero_le _, Nat.zero_le _⟩) ?_
    refine J_istore (lv' := [(4, .int v7), (0, .ref h_this), (1, .ref h_p1), (2, .int x2), (3, .int x3)]) X dX1_grants_32 (by decide) rfl ?_
    refine J_iload X dX1_grants_34 0 rfl ?_
    refine J_if_lt (tgt := 73) X dX1_grants_36 (by decide) (fun hc8 => ?_) (fun hc8 => ?_)
    · have hT := ift hT hc8
      refine J_lv (lv' := [(0, .ref h_this), (1, .ref h_p1), (2, .int x2), (3, .int x3)]) [1, 2, 3, 4] rfl ?_
      exact b_X1_grants_73 X cI cJ cZ h_this h_p1 p1_n q_this this_count r k_15 hk_15 this_heldCount p1 this_held x2 x3 hT
    · have hT := iff_ hT hc8
      refine J_iload X dX1_grants_39 0 rfl ?_
      refine J_aload_n X dX1_grants_41 2 rfl ?_
      refine J_alen (v := Int32.ofNat p1_n) X 1 0 rfl rfl rfl dX1_grants_42 ?_
      refine J_icmp_ge (tgt := 73) X dX1_grants_43 (by decide) (fun hc9 => ?_) (fun hc9 => ?_)
      · have hT := ift hT hc9
        refine J_lv (lv' := [(0, .ref h_this), (1, .ref h_p1), (2, .int x2), (3, .int x3)]) [1, 2, 3, 4] rfl ?_
        exact b_X1_grants_73 X cI cJ cZ h_this h_p1 p1_n q_this this_count r k_15 hk_15 this_heldCount p1 this_held x2 x3 hT
      · have hT := iff_ hT hc9
        refine J_iload_n X dX1_grants_46 3 rfl ?_
        refine J_if_eq (tgt := 68) X dX1_grants_47 (by decide) (fun hc10 => ?_) (fun hc10 => ?_)
        · have hT := ift hT hc10
          refine J_lv (lv' := [(0, .ref h_this), (1, .ref h_p1), (3, .int x3)]) [1, 2, 4] rfl ?_
          exact b_X1_grants_68 X cI cJ cZ h_this h_p1 p1_n q_this this_count r k_15 hk_15 this_heldCount p1 this_held x3 hT
        · have hT := iff_ hT hc10
          refine J_aload_n X dX1_grants_50 1 rfl ?_
          refine J_aload_n X dX1_grants_51 2 rfl ?_
          refine J_iload X dX1_grants_52 0 rfl ?_
          obtain ⟨hk11, hT⟩ := ckn_e hT
          refine J_iald X 1 rfl rfl hk11 dX1_grants_54 ?_
          refine J_iload_n X dX1_grants_55 4 rfl ?_
          refine J_iconst (v := 1) X dX1_grants_56 (by decide) ?_
          refine J_iadd X dX1_grants_57 ?_
          obtain ⟨v12, hq12, hT⟩ := bd1_e hT
          refine J_ci (wc := (w_X1_fits cI cJ cZ h_this q_this this_count this_heldCount this_held)) (wc' := (w_X1_fits cI cJ cZ h_this q_this this_count this_heldCount this_held)) (ws' := (w_X1_grants cI cJ cZ h_this h_p1 p1_n q_this this_count this_heldCount p1 this_held)) [0, 2] [1] 3 rfl rfl rfl rfl rfl rfl rfl rfl (run_V (As := [.int (p1 v7.toNatClampNeg), .int (x3 + (1 : Int32))]) (rest := []) X (c_X1_fits l D cI cJ cZ h_this q_this this_count this_heldCount this_held (p1 v7.toNatClampNeg) (x3 + (1 : Int32)) v12 hq12) (cw_X1_grants_X1_fits_37 X.1.2.2.2.2) 0 rfl rfl rfl rfl (Nat.le_of_ble_eq_true rfl) dX1_grants_58 ⟨Nat.zero_le _, Nat.zero_le _⟩) ?_
          refine J_if_eq (tgt := 68) X dX1_grants_61 (by decide) (fun hc13 => ?_) (fun hc13 => ?_)
          · have hT := ift hT hc13
            refine J_lv (lv' := [(0, .ref h_this), (1, .ref h_p1), (3, .int x3)]) [1, 2, 4] rfl ?_
            exact b_X1_grants_68 X cI cJ cZ h_this h_p1 p1_n q_this this_count r k_15 hk_15 this_heldCount p1 this_held x3 hT
          · have hT := iff_ hT hc13
            refine J_iconst (v := 1) X dX1_grants_64 (by decide) ?_
            refine J_goto (tgt := 69) X dX1_grants_65 (by decide) ?_
            refine J_lv (lv' := [(0, .ref h_this), (1, .ref h_p1), (3, .int x3)]) [1, 2, 4] rfl ?_
            exact b_X1_grants_69 X cI cJ cZ h_this h_p1 p1_n q_this this_count r k_15 hk_15 this_heldCount p1 this_held x3 (1 : Int32) hT
set_option maxHeartbeats 4000000 in
set_option maxRecDepth 100000 in
theorem b_X1_grants_15 {p : Program} {l : Launch} {e : Env} {s : State} {m : MethodId} {args : Array Value} {below : List Frame} {meth : Method} {c : Code} {D : va_G} {A : Nat → Prop} {cI cJ cZ : ClassId} (X : Cx p m c cX1_grants 5 s args wsX1_grants RX1 D (tys3 cI cJ cZ) meth (some .boolean)) (_ _ _ : ClassId)  (h_this : Nat) (h_p1 : Nat) (p1_n : Nat) (q_this : Nat → Nat) (this_count : Int32) (r : Int32)  : ∀ (n : Nat) (this_heldCount : Int32) (p1 : Nat → Int32) (this_held : Nat → Int32) (x2 : Int32) (x3 : Int32) (hT : t_X1_grants_15 p1_n  n this_heldCount p1 this_held x2 x3 = some r), J p l e rmX1_grants s m args below meth c D A 5 (QI D below args s A r (w_X1_grants cI cJ cZ h_this h_p1 p1_n q_this this_count this_heldCount p1 this_held)) 0 0 (w_X1_grants cI cJ cZ h_this h_p1 p1_n q_this this_count this_heldCount p1 this_held) [(0, .ref h_this), (1, .ref h_p1), (2, .int x2), (3, .int x3)] [] 15 := by
  intro n
  induction n with
  | zero => intro this_heldCount p1 this_held x2 x3 hT; cases hT
  | succ n ih =>
    intro this_heldCount p1 this_held x2 x3 hT
    exact b_X1_grants_15_b X cI cJ cZ h_this h_p1 p1_n q_this this_count r  (t_X1_grants_15 p1_n  n) ih this_heldCount p1 this_held x2 x3 hT
set_option maxHeartbeats 4000000 in
set_option maxRecDepth 100000 in
theorem b_X1_grants_12 {p : Program} {l : Launch} {e : Env} {s : State} {m : MethodId} {args : Array Value} {below : List Frame} {meth : Method} {c : Code} {D : va_G} {A : Nat → Prop} {cI cJ cZ : ClassId} (X : Cx p m c cX1_grants 5 s args wsX1_grants RX1 D (tys3 cI cJ cZ) meth (some .boolean)) (_ _ _ : ClassId)  (h_this : Nat) (h_p1 : Nat) (p1_n : Nat) (q_this : Nat → Nat) (this_count : Int32) (r : Int32)  (this_heldCount : Int32) (p1 : Nat → Int32) (this_held : Nat → Int32) (s0 : Int32) (hT : t_X1_grants_12 p1_n  this_heldCount p1 this_held s0 = some r) : J p l e rmX1_grants s m args below meth c D A 5 (QI D below args s A r (w_X1_grants cI cJ cZ h_this h_p1 p1_n q_this this_count this_heldCount p1 this_held)) 0 0 (w_X1_grants cI cJ cZ h_this h_p1 p1_n q_this this_count this_heldCount p1 this_held) [(0, .ref h_this), (1, .ref h_p1)] [.int s0] 12 := by
  unfold t_X1_grants_12 at hT
  refine J_istore_n (lv' := [(2, .int s0), (0, .ref h_this), (1, .ref h_p1)]) X dX1_grants_12 (by decide) rfl ?_
  refine J_iconst (v := 0) X dX1_grants_13 (by decide) ?_
  refine J_istore_n (lv' := [(3, .int (0 : Int32)), (2, .int s0), (0, .ref h_this), (1, .ref h_p1)]) X dX1_grants_14 (by decide) rfl ?_
  refine J_lv (lv' := [(0, .ref h_this), (1, .ref h_p1), (2, .int s0), (3, .int (0 : Int32))]) [2, 3, 1, 0] rfl ?_
  exact b_X1_grants_15 X cI cJ cZ h_this h_p1 p1_n q_this this_count r  lfuel this_heldCount p1 this_held s0 (0 : Int32) hT
set_option maxHeartbeats 4000000 in
set_option maxRecDepth 100000 in
theorem c_X1_grants (l : Launch) (D : va_G) (cI cJ cZ : ClassId) (h_this : Nat) (h_p1 : Nat) (p1_n : Nat) (q_this : Nat → Nat) (this_count : Int32) (this_heldCount : Int32) (p1 : Nat → Int32) (this_held : Nat → Int32)  (r : Int32) (hT : t_X1_grants p1_n this_heldCount p1 this_held  = some r) : Ci l yX1_grants wsX1_grants rmX1_grants D (tys3 cI cJ cZ) [.ref h_this, .ref h_p1] (w_X1_grants cI cJ cZ h_this h_p1 p1_n q_this this_count this_heldCount p1 this_held) r (w_X1_grants cI cJ cZ h_this h_p1 p1_n q_this this_count this_heldCount p1 this_held) := by
  refine Ci.ofJ (cc := cX1_grants) (nL := 5) (rt := (some .boolean)) (own := RX1) (by decide) rfl rfl (Nat.le_of_ble_eq_true rfl) ?_
  intro p e s m below meth c A X
  unfold t_X1_grants at hT
  refine J_lv (lv' := [(0, .ref h_this), (1, .ref h_p1)]) [0, 1] rfl ?_
  refine J_aload_n X dX1_grants_0 0 rfl ?_
  refine J_get (C := RX1) (T := TX1) (N := 4) (ci := 1) (v := .int this_heldCount) X in_X1_grants_X1 0 rfl rfl 2 (by decide) m_X1_grants_f34 rfl dX1_grants_1 ?_
  refine J_if_le (tgt := 11) X dX1_grants_4 (by decide) (fun hc14 => ?_) (fun hc14 => ?_)
  · have hT := ift hT hc14
    refine J_iconst (v := 0) X dX1_grants_11 (by decide) ?_
    exact b_X1_grants_12 X cI cJ cZ h_this h_p1 p1_n q_this this_count r  this_heldCount p1 this_held (0 : Int32) hT
  · have hT := iff_ hT hc14
    refine J_iconst (v := 1) X dX1_grants_7 (by decide) ?_
    refine J_goto (tgt := 12) X dX1_grants_8 (by decide) ?_
    exact b_X1_grants_12 X cI cJ cZ h_this h_p1 p1_n q_this this_count r  this_heldCount p1 this_held (1 : Int32) hT
-- ===== SoldMatches$Games.has(I)Z
abbrev rmX2_has : Room := { frames := 0, cells := 0, slots := 0, locals := 0 }
def w_X2_has (cI cJ cZ : ClassId) (h_this : Nat) (q_this : Nat → Nat) (this_count : Int32) (this_base : Int32) (this_topLean : Int32) (this_topSpot : Int32) : va_W := [(h_this, .inr (2, oFX2 q_this this_count this_base this_topLean this_topSpot))]
theorem m_X2_has_f53 : Cond.fieldLink RX2 53 "SoldMatches$Games" "count" "I" ∈ wsX2_has := List.mem_of_getElem? (i := 1) rfl
theorem in_X2_has_X2 : ∀ w ∈ wsX20, w ∈ wsX2_has := fun w h => List.mem_cons_of_mem _ (List.mem_append_right _ h)
def t_X2_has_17   (this_count : Int32) (s0 : Int32) : Option (Int32) := ckn (¬ (s0 = 0 ∨ s0 = 1)) (some (s0))
def t_X2_has  (this_count : Int32) (x1 : Int32) : Option (Int32) := if x1 < 0 then (t_X2_has_17   this_count (0 : Int32)) else (if this_count ≤ x1 then (t_X2_has_17   this_count (0 : Int32)) else (t_X2_has_17   this_count (1 : Int32)))
set_option maxHeartbeats 4000000 in
set_option maxRecDepth 100000 in
theorem b_X2_has_17 {p : Program} {l : Launch} {e : Env} {s : State} {m : MethodId} {args : Array Value} {below : List Frame} {meth : Method} {c : Code} {D : va_G} {A : Nat → Prop} {cI cJ cZ : ClassId} (X : Cx p m c cX2_has 2 s args wsX2_has RX2 D (tys3 cI cJ cZ) meth (some .boolean)) (_ _ _ : ClassId)  (h_this : Nat) (q_this : Nat → Nat) (this_base : Int32) (this_topLean : Int32) (this_topSpot : Int32) (r : Int32)  (this_count : Int32) (s0 : Int32) (hT : t_X2_has_17   this_count s0 = some r) : J p l e rmX2_has s m args below meth c D A 2 (QI D below args s A r (w_X2_has cI cJ cZ h_this q_this this_count this_base this_topLean this_topSpot)) 0 0 (w_X2_has cI cJ cZ h_this q_this this_count this_base this_topLean this_topSpot) [(0, .ref h_this)] [.int s0] 17 := by
  unfold t_X2_has_17 at hT
  obtain ⟨hk1, hT⟩ := ckn_e hT
  cases hT
  exact J_zret X (Decidable.not_not.mp hk1) dX2_has_17
set_option maxHeartbeats 4000000 in
set_option maxRecDepth 100000 in
theorem c_X2_has (l : Launch) (D : va_G) (cI cJ cZ : ClassId) (h_this : Nat) (q_this : Nat → Nat) (this_count : Int32) (this_base : Int32) (this_topLean : Int32) (this_topSpot : Int32) (x1 : Int32) (r : Int32) (hT : t_X2_has  this_count x1 = some r) : Ci l yX2_has wsX2_has rmX2_has D (tys3 cI cJ cZ) [.ref h_this, .int x1] (w_X2_has cI cJ cZ h_this q_this this_count this_base this_topLean this_topSpot) r (w_X2_has cI cJ cZ h_this q_this this_count this_base this_topLean this_topSpot) := by
  refine Ci.ofJ (cc := cX2_has) (nL := 2) (rt := (some .boolean)) (own := RX2) (by decide) rfl rfl (Nat.le_of_ble_eq_true rfl) ?_
  intro p e s m below meth c A X
  unfold t_X2_has at hT
  refine J_lv (lv' := [(0, .ref h_this), (1, .int x1)]) [0, 1] rfl ?_
  refine J_iload_n X dX2_has_0 1 rfl ?_
  refine J_if_lt (tgt := 16) X dX2_has_1 (by decide) (fun hc2 => ?_) (fun hc2 => ?_)
  · have hT := ift hT hc2
    refine J_iconst (v := 0) X dX2_has_16 (by decide) ?_
    refine J_lv (lv' := [(0, .ref h_this)]) [0] rfl ?_
    exact b_X2_has_17 X cI cJ cZ h_this q_this this_base this_topLean this_topSpot r  this_count (0 : Int32) hT
  · have hT := iff_ hT hc2
    refine J_iload_n X dX2_has_4 1 rfl ?_
    refine J_aload_n X dX2_has_5 0 rfl ?_
    refine J_get (C := RX2) (T := TX2) (N := 13) (ci := 2) (v := .int this_count) X in_X2_has_X2 0 rfl rfl 0 (by decide) m_X2_has_f53 rfl dX2_has_6 ?_
    refine J_icmp_ge (tgt := 16) X dX2_has_9 (by decide) (fun hc3 => ?_) (fun hc3 => ?_)
    · have hT := ift hT hc3
      refine J_iconst (v := 0) X dX2_has_16 (by decide) ?_
      refine J_lv (lv' := [(0, .ref h_this)]) [0] rfl ?_
      exact b_X2_has_17 X cI cJ cZ h_this q_this this_base this_topLean this_topSpot r  this_count (0 : Int32) hT
    · have hT := iff_ hT hc3
      refine J_iconst (v := 1) X dX2_has_12 (by decide) ?_
      refine J_goto (tgt := 17) X dX2_has_13 (by decide) ?_
      refine J_lv (lv' := [(0, .ref h_this)]) [0] rfl ?_
      exact b_X2_has_17 X cI cJ cZ h_this q_this this_base this_topLean this_topSpot r  this_count (1 : Int32) hT
-- ===== SoldMatches$Games.add(III)I
abbrev rmX2_add : Room := { frames := 0, cells := 0, slots := 0, locals := 0 }
def w_X2_add (cI cJ cZ : ClassId) (h_this : Nat) (q_this : Nat → Nat) (this_count : Int32) (this_base : Int32) (this_topLean : Int32) (this_topSpot : Int32) (this_guest : Nat → Int32) (this_home : Nat → Int32) (this_referee : Nat → Int32) : va_W := [(h_this, .inr (2, oFX2 q_this this_count this_base this_topLean this_topSpot)), ((q_this 4), .inl (cI, 12, .inl this_guest)), ((q_this 3), .inl (cI, 12, .inl this_home)), ((q_this 5), .inl (cI, 12, .inl this_referee))]
theorem m_X2_add_f19 : Cond.fieldLink RX2 19 "SoldMatches$Games" "home" "[I" ∈ wsX2_add := List.mem_of_getElem? (i := 1) rfl
theorem in_X2_add_X2 : ∀ w ∈ wsX20, w ∈ wsX2_add := fun w h => List.mem_cons_of_mem _ (List.mem_append_right _ h)
theorem m_X2_add_f53 : Cond.fieldLink RX2 53 "SoldMatches$Games" "count" "I" ∈ wsX2_add := List.mem_of_getElem? (i := 2) rfl
theorem m_X2_add_f22 : Cond.fieldLink RX2 22 "SoldMatches$Games" "guest" "[I" ∈ wsX2_add := List.mem_of_getElem? (i := 3) rfl
theorem m_X2_add_f25 : Cond.fieldLink RX2 25 "SoldMatches$Games" "referee" "[I" ∈ wsX2_add := List.mem_of_getElem? (i := 4) rfl
def t_X2_add  (this_count : Int32) (this_guest : Nat → Int32) (this_home : Nat → Int32) (this_referee : Nat → Int32) (x1 : Int32) (x2 : Int32) (x3 : Int32) : Option (Int32 × Int32 × (Nat → Int32) × (Nat → Int32) × (Nat → Int32)) := ckn (this_count < 0 ∨ 12 ≤ this_count.toNatClampNeg) (ckn (this_count < 0 ∨ 12 ≤ this_count.toNatClampNeg) (ckn (this_count < 0 ∨ 12 ≤ this_count.toNatClampNeg) (some ((this_count + (1 : Int32)) - (1 : Int32), this_count + (1 : Int32), upd this_guest this_count.toNatClampNeg x2, upd this_home this_count.toNatClampNeg x1, upd this_referee this_count.toNatClampNeg x3))))
set_option maxHeartbeats 4000000 in
set_option maxRecDepth 100000 in
theorem c_X2_add (l : Launch) (D : va_G) (cI cJ cZ : ClassId) (h_this : Nat) (q_this : Nat → Nat) (this_count : Int32) (this_base : Int32) (this_topLean : Int32) (this_topSpot : Int32) (this_guest : Nat → Int32) (this_home : Nat → Int32) (this_referee : Nat → Int32) (x1 : Int32) (x2 : Int32) (x3 : Int32) (r : Int32) (z0 : Int32) (z1 : Nat → Int32) (z2 : Nat → Int32) (z3 : Nat → Int32) (hT : t_X2_add  this_count this_guest this_home this_referee x1 x2 x3 = some (r, z0, z1, z2, z3)) : Ci l yX2_add wsX2_add rmX2_add D (tys3 cI cJ cZ) [.ref h_this, .int x1, .int x2, .int x3] (w_X2_add cI cJ cZ h_this q_this this_count this_base this_topLean this_topSpot this_guest this_home this_referee) r (w_X2_add cI cJ cZ h_this q_this z0 this_base this_topLean this_topSpot z1 z2 z3) := by
  refine Ci.ofJ (cc := cX2_add) (nL := 4) (rt := (some .int)) (own := RX2) (by decide) rfl rfl (Nat.le_of_ble_eq_true rfl) ?_
  intro p e s m below meth c A X
  unfold t_X2_add at hT
  refine J_lv (lv' := [(0, .ref h_this), (1, .int x1), (2, .int x2), (3, .int x3)]) [0, 1, 2, 3] rfl ?_
  refine J_aload_n X dX2_add_0 0 rfl ?_
  refine J_get (C := RX2) (T := TX2) (N := 13) (ci := 2) (v := .ref (q_this 3)) X in_X2_add_X2 0 rfl rfl 3 (by decide) m_X2_add_f19 rfl dX2_add_1 ?_
  refine J_aload_n X dX2_add_4 0 rfl ?_
  refine J_get (C := RX2) (T := TX2) (N := 13) (ci := 2) (v := .int this_count) X in_X2_add_X2 0 rfl rfl 0 (by decide) m_X2_add_f53 rfl dX2_add_5 ?_
  refine J_iload_n X dX2_add_8 1 rfl ?_
  obtain ⟨hk1, hT⟩ := ckn_e hT
  refine J_iast (ws' := (w_X2_add cI cJ cZ h_this q_this this_count this_base this_topLean this_topSpot this_guest (upd this_home this_count.toNatClampNeg x1) this_referee)) X 2 rfl rfl hk1 rfl dX2_add_9 ?_
  refine J_aload_n X dX2_add_10 0 rfl ?_
  refine J_get (C := RX2) (T := TX2) (N := 13) (ci := 2) (v := .ref (q_this 4)) X in_X2_add_X2 0 rfl rfl 4 (by decide) m_X2_add_f22 rfl dX2_add_11 ?_
  refine J_aload_n X dX2_add_14 0 rfl ?_
  refine J_get (C := RX2) (T := TX2) (N := 13) (ci := 2) (v := .int this_count) X in_X2_add_X2 0 rfl rfl 0 (by decide) m_X2_add_f53 rfl dX2_add_15 ?_
  refine J_iload_n X dX2_add_18 2 rfl ?_
  obtain ⟨hk2, hT⟩ := ckn_e hT
  refine J_iast (ws' := (w_X2_add cI cJ cZ h_this q_this this_count this_base this_topLean this_topSpot (upd this_guest this_count.toNatClampNeg x2) (upd this_home this_count.toNatClampNeg x1) this_referee)) X 1 rfl rfl hk2 rfl dX2_add_19 ?_
  refine J_aload_n X dX2_add_20 0 rfl ?_
  refine J_get (C := RX2) (T := TX2) (N := 13) (ci := 2) (v := .ref (q_this 5)) X in_X2_add_X2 0 rfl rfl 5 (by decide) m_X2_add_f25 rfl dX2_add_21 ?_
  refine J_aload_n X dX2_add_24 0 rfl ?_
  refine J_get (C := RX2) (T := TX2) (N := 13) (ci := 2) (v := .int this_count) X in_X2_add_X2 0 rfl rfl 0 (by decide) m_X2_add_f53 rfl dX2_add_25 ?_
  refine J_iload_n X dX2_add_28 3 rfl ?_
  obtain ⟨hk3, hT⟩ := ckn_e hT
  refine J_iast (ws' := (w_X2_add cI cJ cZ h_this q_this this_count this_base this_topLean this_topSpot (upd this_guest this_count.toNatClampNeg x2) (upd this_home this_count.toNatClampNeg x1) (upd this_referee this_count.toNatClampNeg x3))) X 3 rfl rfl hk3 rfl dX2_add_29 ?_
  refine J_aload_n X dX2_add_30 0 rfl ?_
  refine J_dup X dX2_add_31 rfl ?_
  refine J_get (C := RX2) (T := TX2) (N := 13) (ci := 2) (v := .int this_count) X in_X2_add_X2 0 rfl rfl 0 (by decide) m_X2_add_f53 rfl dX2_add_32 ?_
  refine J_iconst (v := 1) X dX2_add_35 (by decide) ?_
  refine J_iadd X dX2_add_36 ?_
  refine J_put (host := "") (C := RX2) (T := TX2) (N := 13) (ci := 2) (ws' := (w_X2_add cI cJ cZ h_this q_this (this_count + (1 : Int32)) this_base this_topLean this_topSpot (upd this_guest this_count.toNatClampNeg x2) (upd this_home this_count.toNatClampNeg x1) (upd this_referee this_count.toNatClampNeg x3))) X in_X2_add_X2 0 rfl rfl 0 (by decide) tyX2 tyX2_ok nmX2 m_X2_add_f53 rfl rfl rfl (Nat.le_of_ble_eq_true rfl) rfl dX2_add_37 ?_
  refine J_aload_n X dX2_add_40 0 rfl ?_
  refine J_get (C := RX2) (T := TX2) (N := 13) (ci := 2) (v := .int (this_count + (1 : Int32))) X in_X2_add_X2 0 rfl rfl 0 (by decide) m_X2_add_f53 rfl dX2_add_41 ?_
  refine J_iconst (v := 1) X dX2_add_44 (by decide) ?_
  refine J_isub X dX2_add_45 ?_
  cases hT
  exact J_iret X dX2_add_46
-- ===== SoldMatches$Games.chanceOf(II)I
abbrev rmX2_chanceOf : Room := { frames := 1, cells := 0, slots := 0, locals := 21 }
def w_X2_chanceOf (cI cJ cZ : ClassId) (h_this : Nat) (q_this : Nat → Nat) (this_count : Int32) (this_base : Int32) (this_topLean : Int32) (this_topSpot : Int32) (this_skills : Nat → Int32) : va_W := [(h_this, .inr (2, oFX2 q_this this_count this_base this_topLean this_topSpot)), ((q_this 2), .inl (cI, 8, .inl this_skills))]
theorem m_X2_chanceOf_f9 : Cond.fieldLink RX2 9 "SoldMatches$Games" "base" "I" ∈ wsX2_chanceOf := List.mem_of_getElem? (i := 1) rfl
theorem in_X2_chanceOf_X2 : ∀ w ∈ wsX20, w ∈ wsX2_chanceOf := fun w h => List.mem_cons_of_mem _ (List.mem_append_right _ h)
theorem m_X2_chanceOf_f15 : Cond.fieldLink RX2 15 "SoldMatches$Games" "skills" "[I" ∈ wsX2_chanceOf := List.mem_of_getElem? (i := 2) rfl
theorem m_X2_chanceOf_l68 : Cond.methodLink RX2 68 Lib.Math.min.name ∈ wsX2_chanceOf := List.mem_of_getElem? (i := 3) rfl
theorem m_X2_chanceOf_smin : Cond.static Lib.Math.min.name ∈ wsX2_chanceOf := List.mem_of_getElem? (i := 4) rfl
theorem m_X2_chanceOf_iniM : Cond.initialized "java/lang/Math" ∈ wsX2_chanceOf := List.mem_of_getElem? (i := 5) rfl
theorem m_X2_chanceOf_comin : Cond.code Lib.Math.min.name Lib.Math.min.code 2 (some .int) ∈ wsX2_chanceOf := List.mem_of_getElem? (i := 6) rfl
theorem m_X2_chanceOf_l73 : Cond.methodLink RX2 73 Lib.Math.max.name ∈ wsX2_chanceOf := List.mem_of_getElem? (i := 7) rfl
theorem m_X2_chanceOf_smax : Cond.static Lib.Math.max.name ∈ wsX2_chanceOf := List.mem_of_getElem? (i := 8) rfl
theorem m_X2_chanceOf_comax : Cond.code Lib.Math.max.name Lib.Math.max.code 2 (some .int) ∈ wsX2_chanceOf := List.mem_of_getElem? (i := 9) rfl
def t_X2_chanceOf  (this_base : Int32) (this_skills : Nat → Int32) (x1 : Int32) (x2 : Int32) : Option (Int32) := ckn (x1 < 0 ∨ 8 ≤ x1.toNatClampNeg) (ckn (x2 < 0 ∨ 8 ≤ x2.toNatClampNeg) (some (if (1 : Int32) < (if (this_base + (((this_skills x1.toNatClampNeg) - (this_skills x2.toNatClampNeg)) / (4 : Int32))) < (45 : Int32) then (this_base + (((this_skills x1.toNatClampNeg) - (this_skills x2.toNatClampNeg)) / (4 : Int32))) else (45 : Int32)) then (if (this_base + (((this_skills x1.toNatClampNeg) - (this_skills x2.toNatClampNeg)) / (4 : Int32))) < (45 : Int32) then (this_base + (((this_skills x1.toNatClampNeg) - (this_skills x2.toNatClampNeg)) / (4 : Int32))) else (45 : Int32)) else (1 : Int32))))
set_option maxHeartbeats 4000000 in
set_option maxRecDepth 100000 in
theorem c_X2_chanceOf (l : Launch) (D : va_G) (cI cJ cZ : ClassId) (h_this : Nat) (q_this : Nat → Nat) (this_count : Int32) (this_base : Int32) (this_topLean : Int32) (this_topSpot : Int32) (this_skills : Nat → Int32) (x1 : Int32) (x2 : Int32) (r : Int32) (hT : t_X2_chanceOf  this_base this_skills x1 x2 = some r) : Ci l yX2_chanceOf wsX2_chanceOf rmX2_chanceOf D (tys3 cI cJ cZ) [.ref h_this, .int x1, .int x2] (w_X2_chanceOf cI cJ cZ h_this q_this this_count this_base this_topLean this_topSpot this_skills) r (w_X2_chanceOf cI cJ cZ h_this q_this this_count this_base this_topLean this_topSpot this_skills) := by
  refine Ci.ofJ (cc := cX2_chanceOf) (nL := 4) (rt := (some .int)) (own := RX2) (by decide) rfl rfl (Nat.le_of_ble_eq_true rfl) ?_
  intro p e s m below meth c A X
  unfold t_X2_chanceOf at hT
  refine J_lv (lv' := [(0, .ref h_this), (1, .int x1), (2, .int x2)]) [0, 1, 2] rfl ?_
  refine J_aload_n X dX2_chanceOf_0 0 rfl ?_
  refine J_get (C := RX2) (T := TX2) (N := 13) (ci := 2) (v := .int this_base) X in_X2_chanceOf_X2 0 rfl rfl 1 (by decide) m_X2_chanceOf_f9 rfl dX2_chanceOf_1 ?_
  refine J_aload_n X dX2_chanceOf_4 0 rfl ?_
  refine J_get (C := RX2) (T := TX2) (N := 13) (ci := 2) (v := .ref (q_this 2)) X in_X2_chanceOf_X2 0 rfl rfl 2 (by decide) m_X2_chanceOf_f15 rfl dX2_chanceOf_5 ?_
  refine J_iload_n X dX2_chanceOf_8 1 rfl ?_
  obtain ⟨hk1, hT⟩ := ckn_e hT
  refine J_iald X 1 rfl rfl hk1 dX2_chanceOf_9 ?_
  refine J_aload_n X dX2_chanceOf_10 0 rfl ?_
  refine J_get (C := RX2) (T := TX2) (N := 13) (ci := 2) (v := .ref (q_this 2)) X in_X2_chanceOf_X2 0 rfl rfl 2 (by decide) m_X2_chanceOf_f15 rfl dX2_chanceOf_11 ?_
  refine J_iload_n X dX2_chanceOf_14 2 rfl ?_
  obtain ⟨hk2, hT⟩ := ckn_e hT
  refine J_iald X 1 rfl rfl hk2 dX2_chanceOf_15 ?_
  refine J_isub X dX2_chanceOf_16 ?_
  refine J_iconst (v := 4) X dX2_chanceOf_17 (by decide) ?_
  refine J_idiv X dX2_chanceOf_18 (by decide) ?_
  refine J_iadd X dX2_chanceOf_19 ?_
  refine J_istore_n (lv' := [(3, .int (this_base + (((this_skills x1.toNatClampNeg) - (this_skills x2.toNatClampNeg)) / (4 : Int32)))), (0, .ref h_this), (1, .int x1), (2, .int x2)]) X dX2_chanceOf_20 (by decide) rfl ?_
  refine J_iconst (v := 1) X dX2_chanceOf_21 (by decide) ?_
  refine J_bipush (v := 45) X dX2_chanceOf_22 (by decide) ?_
  refine J_iload_n X dX2_chanceOf_24 0 rfl ?_
  refine J_mmin X m_X2_chanceOf_l68 m_X2_chanceOf_smin m_X2_chanceOf_iniM m_X2_chanceOf_comin (by decide) (Nat.le_of_ble_eq_true rfl) (by decide) (by decide) dX2_chanceOf_25 ?_
  refine J_mmax X m_X2_chanceOf_l73 m_X2_chanceOf_smax m_X2_chanceOf_iniM m_X2_chanceOf_comax (by decide) (Nat.le_of_ble_eq_true rfl) (by decide) (by decide) dX2_chanceOf_28 ?_
  cases hT
  exact J_iret X dX2_chanceOf_31
-- ===== java/util/Arrays.fill([JJ)V
abbrev rmJ7_fill_d0a16 : Room := { frames := 0, cells := 0, slots := 0, locals := 0 }
def w_J7_fill_d0a16 (cI cJ cZ : ClassId) (h_p0 : Nat) (p0_n : Nat) (p0 : Nat → Int64) : va_W := [(h_p0, .inl (cJ, p0_n, .inr (.inl p0)))]
def t_J7_fill_d0a16_6_b (p0_n : Nat) (k_6 : (Nat → Int64) → Int64 → Int32 → Int32 → (Option ((Nat → Int64)))) (p0 : Nat → Int64) (x1 : Int64) (x3 : Int32) (x4 : Int32) : Option ((Nat → Int64)) := if x4 ≤ x3 then (some (p0)) else (ckn (x3 < 0 ∨ p0_n ≤ x3.toNatClampNeg) (k_6 (vp_updL p0 x3.toNatClampNeg x1) x1 (x3 + (1 : Int32)) x4))
def t_J7_fill_d0a16_6 (p0_n : Nat)  (n : Nat) : (Nat → Int64) → Int64 → Int32 → Int32 → (Option ((Nat → Int64))) := Nat.rec (fun _ _ _ _ => none) (fun _ ih => t_J7_fill_d0a16_6_b p0_n  ih) n
def t_J7_fill_d0a16 (p0_n : Nat) (p0 : Nat → Int64) (x1 : Int64) : Option ((Nat → Int64)) := t_J7_fill_d0a16_6 p0_n  lfuel p0 x1 (0 : Int32) (Int32.ofNat p0_n)
set_option maxHeartbeats 4000000 in
set_option maxRecDepth 100000 in
theorem b_J7_fill_d0a16_6_b {p : Program} {l : Launch} {e : Env} {s : State} {m : MethodId} {args : Array Value} {below : List Frame} {meth : Method} {c : Code} {D : va_G} {A : Nat → Prop} {cI cJ cZ : ClassId} (X : Cx p m c cJ7_fill_d0a16 5 s args wsJ7_fill_d0a16 RJ7 D (tys3 cI cJ cZ) meth none) (_ _ _ : ClassId)  (h_p0 : Nat) (p0_n : Nat)  (z0 : Nat → Int64) (k_6 : (Nat → Int64) → Int64 → Int32 → Int32 → (Option ((Nat → Int64)))) (hk_6 : ∀ (p0 : Nat → Int64) (x1 : Int64) (x3 : Int32) (x4 : Int32), k_6 p0 x1 x3 x4 = some z0 → J p l e rmJ7_fill_d0a16 s m args below meth c D A 5 (QV D below args s A (w_J7_fill_d0a16 cI cJ cZ h_p0 p0_n z0)) 0 0 (w_J7_fill_d0a16 cI cJ cZ h_p0 p0_n p0) [(0, .ref h_p0), (1, .long x1), (3, .int x3), (4, .int x4)] [] 6) (p0 : Nat → Int64) (x1 : Int64) (x3 : Int32) (x4 : Int32) (hT : t_J7_fill_d0a16_6_b p0_n k_6 p0 x1 x3 x4 = some z0) : J p l e rmJ7_fill_d0a16 s m args below meth c D A 5 (QV D below args s A (w_J7_fill_d0a16 cI cJ cZ h_p0 p0_n z0)) 0 0 (w_J7_fill_d0a16 cI cJ cZ h_p0 p0_n p0) [(0, .ref h_p0), (1, .long x1), (3, .int x3), (4, .int x4)] [] 6 := by
  unfold t_J7_fill_d0a16_6_b at hT
  refine J_iload_n X dJ7_fill_d0a16_6 2 rfl ?_
  refine J_iload X dJ7_fill_d0a16_7 3 rfl ?_
  refine J_icmp_ge (tgt := 22) X dJ7_fill_d0a16_9 (by decide) (fun hc1 => ?_) (fun hc1 => ?_)
  · have hT := ift hT hc1
    cases hT
    exact J_vret X dJ7_fill_d0a16_22
  · have hT := iff_ hT hc1
    refine J_aload_n X dJ7_fill_d0a16_12 0 rfl ?_
    refine J_iload_n X dJ7_fill_d0a16_13 2 rfl ?_
    refine J_lload_n X dJ7_fill_d0a16_14 1 rfl ?_
    obtain ⟨hk2, hT⟩ := ckn_e hT
    refine J_last (ws' := (w_J7_fill_d0a16 cI cJ cZ h_p0 p0_n (vp_updL p0 x3.toNatClampNeg x1))) X 0 rfl rfl hk2 rfl dJ7_fill_d0a16_15 ?_
    refine J_iinc (lv' := [(3, .int (x3 + (1 : Int32))), (0, .ref h_p0), (1, .long x1), (4, .int x4)]) (j := 2) X dJ7_fill_d0a16_16 rfl rfl (by decide) rfl ?_
    refine J_goto (tgt := 6) X dJ7_fill_d0a16_19 (by decide) ?_
    refine J_lv (lv' := [(0, .ref h_p0), (1, .long x1), (3, .int (x3 + (1 : Int32))), (4, .int x4)]) [1, 2, 0, 3] rfl ?_
    exact hk_6 (vp_updL p0 x3.toNatClampNeg x1) x1 (x3 + (1 : Int32)) x4 hT
set_option maxHeartbeats 4000000 in
set_option maxRecDepth 100000 in
theorem b_J7_fill_d0a16_6 {p : Program} {l : Launch} {e : Env} {s : State} {m : MethodId} {args : Array Value} {below : List Frame} {meth : Method} {c : Code} {D : va_G} {A : Nat → Prop} {cI cJ cZ : ClassId} (X : Cx p m c cJ7_fill_d0a16 5 s args wsJ7_fill_d0a16 RJ7 D (tys3 cI cJ cZ) meth none) (_ _ _ : ClassId)  (h_p0 : Nat) (p0_n : Nat)  (z0 : Nat → Int64)  : ∀ (n : Nat) (p0 : Nat → Int64) (x1 : Int64) (x3 : Int32) (x4 : Int32) (hT : t_J7_fill_d0a16_6 p0_n  n p0 x1 x3 x4 = some z0), J p l e rmJ7_fill_d0a16 s m args below meth c D A 5 (QV D below args s A (w_J7_fill_d0a16 cI cJ cZ h_p0 p0_n z0)) 0 0 (w_J7_fill_d0a16 cI cJ cZ h_p0 p0_n p0) [(0, .ref h_p0), (1, .long x1), (3, .int x3), (4, .int x4)] [] 6 := by
  intro n
  induction n with
  | zero => intro p0 x1 x3 x4 hT; cases hT
  | succ n ih =>
    intro p0 x1 x3 x4 hT
    exact b_J7_fill_d0a16_6_b X cI cJ cZ h_p0 p0_n  z0  (t_J7_fill_d0a16_6 p0_n  n) ih p0 x1 x3 x4 hT
set_option maxHeartbeats 4000000 in
set_option maxRecDepth 100000 in
theorem c_J7_fill_d0a16 (l : Launch) (D : va_G) (cI cJ cZ : ClassId) (h_p0 : Nat) (p0_n : Nat) (p0 : Nat → Int64) (x1 : Int64) (z0 : Nat → Int64) (hT : t_J7_fill_d0a16 p0_n p0 x1 = some z0) : Cv l yJ7_fill_d0a16 wsJ7_fill_d0a16 rmJ7_fill_d0a16 D (tys3 cI cJ cZ) [.ref h_p0, .long x1] (w_J7_fill_d0a16 cI cJ cZ h_p0 p0_n p0) (w_J7_fill_d0a16 cI cJ cZ h_p0 p0_n z0) := by
  refine Cv.ofJ (cc := cJ7_fill_d0a16) (nL := 5) (rt := none) (own := RJ7) (by decide) rfl rfl (Nat.le_of_ble_eq_true rfl) ?_
  intro p e s m below meth c A X
  unfold t_J7_fill_d0a16 at hT
  refine J_lv (lv' := [(0, .ref h_p0), (1, .long x1)]) [0, 1] rfl ?_
  refine J_iconst (v := 0) X dJ7_fill_d0a16_0 (by decide) ?_
  refine J_istore_n (lv' := [(3, .int (0 : Int32)), (0, .ref h_p0), (1, .long x1)]) X dJ7_fill_d0a16_1 (by decide) rfl ?_
  refine J_aload_n X dJ7_fill_d0a16_2 1 rfl ?_
  refine J_alen (v := Int32.ofNat p0_n) X 0 1 rfl rfl rfl dJ7_fill_d0a16_3 ?_
  refine J_istore (lv' := [(4, .int (Int32.ofNat p0_n)), (3, .int (0 : Int32)), (0, .ref h_p0), (1, .long x1)]) X dJ7_fill_d0a16_4 (by decide) rfl ?_
  refine J_lv (lv' := [(0, .ref h_p0), (1, .long x1), (3, .int (0 : Int32)), (4, .int (Int32.ofNat p0_n))]) [2, 3, 1, 0] rfl ?_
  exact b_J7_fill_d0a16_6 X cI cJ cZ h_p0 p0_n  z0  lfuel p0 x1 (0 : Int32) (Int32.ofNat p0_n) hT
