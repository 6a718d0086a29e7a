def oFX0 (q : Nat → Nat) (count_ : Int32) (near_ : Int32) (times_ : Int32) (ties_ : Int32) : List Value := [.int count_, .int near_, .int times_, .int ties_, .ref (q 4), .ref (q 5), .ref (q 6), .ref (q 7), .ref (q 8), .ref (q 9), .ref (q 10), .ref (q 11), .ref (q 12)]
def oFX1 (q : Nat → Nat) (count_ : Int32) (heldCount_ : Int32) : List Value := [.int count_, .ref (q 1), .int heldCount_, .ref (q 3)]
def oFX2 (q : Nat → Nat) (count_ : Int32) (base_ : Int32) (topLean_ : Int32) (topSpot_ : Int32) : List Value := [.int count_, .int base_, .ref (q 2), .ref (q 3), .ref (q 4), .ref (q 5), .ref (q 6), .ref (q 7), .ref (q 8), .ref (q 9), .ref (q 10), .int topLean_, .int topSpot_]
def oFX3 (q : Nat → Nat) (size_ : Int32) : List Value := [.int size_, .ref (q 1), .ref (q 2)]
def oFX4 (q : Nat → Nat) (upper_ : Int64) (lower_ : Int64) : List Value := [.ref (q 0), .long upper_, .long lower_]
def oFX5 (q : Nat → Nat) (bestSet_ : Int32) (bestSum_ : Int32) (sum_ : Int32) (cost_ : Int32) : List Value := [.ref (q 0), .int bestSet_, .int bestSum_, .int sum_, .int cost_]
def oFX6 (q : Nat → Nat) (down_ : Int32) (size_ : Int32) : List Value := [.int down_, .int size_, .ref (q 2), .ref (q 3), .ref (q 4), .ref (q 5)]
def oFX7 (q : Nat → Nat) (count_ : Int32) (first_ : Int32) (since_ : Int32) : List Value := [.int count_, .ref (q 1), .ref (q 2), .ref (q 3), .ref (q 4), .ref (q 5), .int first_, .int since_]
def oFX8 (q : Nat → Nat) (acts_ : Int32) : List Value := [.ref (q 0), .ref (q 1), .ref (q 2), .int acts_, .ref (q 4), .ref (q 5), .ref (q 6)]
def oFX9 (q : Nat → Nat) (count_ : Int32) (fewest_ : Int32) (sure_ : Int32) : List Value := [.int count_, .ref (q 1), .ref (q 2), .ref (q 3), .ref (q 4), .ref (q 5), .int fewest_, .int sure_]
def oFX10 (q : Nat → Nat)  : List Value := [.ref (q 0), .ref (q 1), .ref (q 2), .ref (q 3), .ref (q 4), .ref (q 5), .ref (q 6), .ref (q 7), .ref (q 8), .ref (q 9)]
def oFX11 (q : Nat → Nat) (matches_ : Int32) (stakes_ : Int32) (meetings_ : Int32) (newsFirst_ : Int32) (newsHour_ : Int32) (acts_ : Int32) (stories_ : Int32) (signs_ : Int32) (ruleMany_ : Int32) (upper_ : Int64) (lower_ : Int64) (greatAt_ : Int32) (sides_ : Int32) : List Value := [.ref (q 0), .ref (q 1), .int matches_, .ref (q 3), .ref (q 4), .ref (q 5), .ref (q 6), .ref (q 7), .ref (q 8), .ref (q 9), .ref (q 10), .int stakes_, .ref (q 12), .ref (q 13), .ref (q 14), .ref (q 15), .ref (q 16), .int meetings_, .ref (q 18), .ref (q 19), .ref (q 20), .ref (q 21), .int newsFirst_, .int newsHour_, .ref (q 24), .ref (q 25), .ref (q 26), .int acts_, .ref (q 28), .ref (q 29), .int stories_, .ref (q 31), .ref (q 32), .ref (q 33), .ref (q 34), .int signs_, .ref (q 36), .int ruleMany_, .ref (q 38), .ref (q 39), .ref (q 40), .long upper_, .long lower_, .int greatAt_, .ref (q 44), .ref (q 45), .ref (q 46), .ref (q 47), .ref (q 48), .ref (q 49), .ref (q 50), .int sides_, .ref (q 52), .ref (q 53)]
-- ===== SoldMatches.within(III)Z
abbrev rmX10_within : Room := { frames := 0, cells := 0, slots := 0, locals := 0 }
def w_X10_within (cI cJ cZ : ClassId)  : va_W := []
def t_X10_within_15    (s0 : Int32) : Option (Int32) := ckn (¬ (s0 = 0 ∨ s0 = 1)) (some (s0))
def t_X10_within   (x0 : Int32) (x1 : Int32) (x2 : Int32) : Option (Int32) := if x0 < x1 then (t_X10_within_15   (0 : Int32)) else (if x2 < x0 then (t_X10_within_15   (0 : Int32)) else (t_X10_within_15   (1 : Int32)))
set_option maxHeartbeats 4000000 in
set_option maxRecDepth 100000 in
theorem b_X10_within_15 {p : Program} {l : Launch} {e : Env} {s : State} {m : MethodId} {args : Array Value} {below : List Frame} {meth : Method} {c : Code} {D : va_G} {A : Nat → Prop} {cI cJ cZ : ClassId} (X : Cx p m c cX10_within 3 s args wsX10_within RX10 D (tys3 cI cJ cZ) meth (some .boolean)) (_ _ _ : ClassId)   (r : Int32)   (s0 : Int32) (hT : t_X10_within_15    s0 = some r) : J p l e rmX10_within s m args below meth c D A 3 (QI D below args s A r (w_X10_within cI cJ cZ )) 0 0 (w_X10_within cI cJ cZ ) [] [.int s0] 15 := by
  unfold t_X10_within_15 at hT
  obtain ⟨hk1, hT⟩ := ckn_e hT
  cases hT
  exact J_zret X (Decidable.not_not.mp hk1) dX10_within_15
set_option maxHeartbeats 4000000 in
set_option maxRecDepth 100000 in
theorem c_X10_within (l : Launch) (D : va_G) (cI cJ cZ : ClassId)  (x0 : Int32) (x1 : Int32) (x2 : Int32) (r : Int32) (hT : t_X10_within   x0 x1 x2 = some r) : Ci l yX10_within wsX10_within rmX10_within D (tys3 cI cJ cZ) [.int x0, .int x1, .int x2] (w_X10_within cI cJ cZ ) r (w_X10_within cI cJ cZ ) := by
  refine Ci.ofJ (cc := cX10_within) (nL := 3) (rt := (some .boolean)) (own := RX10) (by decide) rfl rfl (by decide) ?_
  intro p e s m below meth c A X
  unfold t_X10_within at hT
  refine J_lv (lv' := [(0, .int x0), (1, .int x1), (2, .int x2)]) [0, 1, 2] rfl ?_
  refine J_iload_n X dX10_within_0 0 rfl ?_
  refine J_iload_n X dX10_within_1 1 rfl ?_
  refine J_icmp_lt (tgt := 14) X dX10_within_2 (by decide) (fun hc2 => ?_) (fun hc2 => ?_)
  · have hT := ift hT hc2
    refine J_iconst (v := 0) X dX10_within_14 (by decide) ?_
    refine J_lv (lv' := []) [] rfl ?_
    exact b_X10_within_15 X cI cJ cZ  r  (0 : Int32) hT
  · have hT := iff_ hT hc2
    refine J_iload_n X dX10_within_5 0 rfl ?_
    refine J_iload_n X dX10_within_6 2 rfl ?_
    refine J_icmp_gt (tgt := 14) X dX10_within_7 (by decide) (fun hc3 => ?_) (fun hc3 => ?_)
    · have hT := ift hT hc3
      refine J_iconst (v := 0) X dX10_within_14 (by decide) ?_
      refine J_lv (lv' := []) [] rfl ?_
      exact b_X10_within_15 X cI cJ cZ  r  (0 : Int32) hT
    · have hT := iff_ hT hc3
      refine J_iconst (v := 1) X dX10_within_10 (by decide) ?_
      refine J_goto (tgt := 15) X dX10_within_11 (by decide) ?_
      refine J_lv (lv' := []) [] rfl ?_
      exact b_X10_within_15 X cI cJ cZ  r  (1 : Int32) hT
-- ===== SoldMatches$Bets.areAlike(II)Z
abbrev rmX0_areAlike : Room := { frames := 0, cells := 0, slots := 0, locals := 0 }
def w_X0_areAlike (cI cJ cZ : ClassId) (h_this : Nat) (q_this : Nat → Nat) (this_count : Int32) (this_near : Int32) (this_times : Int32) (this_ties : Int32) (this_end : Nat → Int32) (this_match : Nat → Int32) (this_minute : Nat → Int32) (this_sum : Nat → Int32) : va_W := [(h_this, .inr (0, oFX0 q_this this_count this_near this_times this_ties)), ((q_this 6), .inl (cI, 40, .inl this_end)), ((q_this 5), .inl (cI, 40, .inl this_match)), ((q_this 7), .inl (cI, 40, .inl this_minute)), ((q_this 8), .inl (cI, 40, .inl this_sum))]
theorem m_X0_areAlike_f9 : Cond.fieldLink RX0 9 "SoldMatches$Bets" "near" "I" ∈ wsX0_areAlike := List.mem_of_getElem? (i := 5) rfl
theorem in_X0_areAlike_X0 : ∀ w ∈ wsX00, w ∈ wsX0_areAlike := fun w h => List.mem_cons_of_mem _ (List.mem_append_right _ h)
theorem m_X0_areAlike_f15 : Cond.fieldLink RX0 15 "SoldMatches$Bets" "times" "I" ∈ wsX0_areAlike := List.mem_of_getElem? (i := 6) rfl
theorem m_X0_areAlike_f34 : Cond.fieldLink RX0 34 "SoldMatches$Bets" "sum" "[I" ∈ wsX0_areAlike := List.mem_of_getElem? (i := 4) rfl
theorem m_X0_areAlike_f25 : Cond.fieldLink RX0 25 "SoldMatches$Bets" "match" "[I" ∈ wsX0_areAlike := List.mem_of_getElem? (i := 1) rfl
theorem m_X0_areAlike_f28 : Cond.fieldLink RX0 28 "SoldMatches$Bets" "end" "[I" ∈ wsX0_areAlike := List.mem_of_getElem? (i := 2) rfl
theorem m_X0_areAlike_f31 : Cond.fieldLink RX0 31 "SoldMatches$Bets" "minute" "[I" ∈ wsX0_areAlike := List.mem_of_getElem? (i := 3) rfl
def t_X0_areAlike_166   (this_near : Int32) (this_times : Int32) (this_end : Nat → Int32) (this_match : Nat → Int32) (this_minute : Nat → Int32) (this_sum : Nat → Int32) (s0 : Int32) : Option (Int32) := ckn (¬ (s0 = 0 ∨ s0 = 1)) (some (s0))
def t_X0_areAlike_139   (this_near : Int32) (this_times : Int32) (this_end : Nat → Int32) (this_match : Nat → Int32) (this_minute : Nat → Int32) (this_sum : Nat → Int32) (x3 : Int32) (x4 : Int32) (s0 : Int32) : Option (Int32) := if this_near < x3 then (t_X0_areAlike_166   this_near this_times this_end this_match this_minute this_sum (0 : Int32)) else (if (this_times * s0) < x4 then (t_X0_areAlike_166   this_near this_times this_end this_match this_minute this_sum (0 : Int32)) else (t_X0_areAlike_166   this_near this_times this_end this_match this_minute this_sum (1 : Int32)))
def t_X0_areAlike_107   (this_near : Int32) (this_times : Int32) (this_end : Nat → Int32) (this_match : Nat → Int32) (this_minute : Nat → Int32) (this_sum : Nat → Int32) (x1 : Int32) (x2 : Int32) (x3 : Int32) (s0 : Int32) : Option (Int32) := ckn (x1 < 0 ∨ 40 ≤ x1.toNatClampNeg) (ckn (x2 < 0 ∨ 40 ≤ x2.toNatClampNeg) (if (this_sum x1.toNatClampNeg) ≤ (this_sum x2.toNatClampNeg) then (ckn (x1 < 0 ∨ 40 ≤ x1.toNatClampNeg) (t_X0_areAlike_139   this_near this_times this_end this_match this_minute this_sum x3 s0 (this_sum x1.toNatClampNeg))) else (ckn (x2 < 0 ∨ 40 ≤ x2.toNatClampNeg) (t_X0_areAlike_139   this_near this_times this_end this_match this_minute this_sum x3 s0 (this_sum x2.toNatClampNeg)))))
def t_X0_areAlike_76   (this_near : Int32) (this_times : Int32) (this_end : Nat → Int32) (this_match : Nat → Int32) (this_minute : Nat → Int32) (this_sum : Nat → Int32) (x1 : Int32) (x2 : Int32) (s0 : Int32) : Option (Int32) := ckn (x1 < 0 ∨ 40 ≤ x1.toNatClampNeg) (ckn (x2 < 0 ∨ 40 ≤ x2.toNatClampNeg) (if (this_sum x1.toNatClampNeg) ≤ (this_sum x2.toNatClampNeg) then (ckn (x2 < 0 ∨ 40 ≤ x2.toNatClampNeg) (t_X0_areAlike_107   this_near this_times this_end this_match this_minute this_sum x1 x2 s0 (this_sum x2.toNatClampNeg))) else (ckn (x1 < 0 ∨ 40 ≤ x1.toNatClampNeg) (t_X0_areAlike_107   this_near this_times this_end this_match this_minute this_sum x1 x2 s0 (this_sum x1.toNatClampNeg)))))
def t_X0_areAlike  (this_near : Int32) (this_times : Int32) (this_end : Nat → Int32) (this_match : Nat → Int32) (this_minute : Nat → Int32) (this_sum : Nat → Int32) (x1 : Int32) (x2 : Int32) : Option (Int32) := ckn (x1 < 0 ∨ 40 ≤ x1.toNatClampNeg) (ckn (x2 < 0 ∨ 40 ≤ x2.toNatClampNeg) (if (this_match x1.toNatClampNeg) = (this_match x2.toNatClampNeg) then (ckn (x1 < 0 ∨ 40 ≤ x1.toNatClampNeg) (ckn (x2 < 0 ∨ 40 ≤ x2.toNatClampNeg) (if (this_end x1.toNatClampNeg) = (this_end x2.toNatClampNeg) then (ckn (x1 < 0 ∨ 40 ≤ x1.toNatClampNeg) (ckn (x2 < 0 ∨ 40 ≤ x2.toNatClampNeg) (if (this_minute x2.toNatClampNeg) ≤ (this_minute x1.toNatClampNeg) then (ckn (x1 < 0 ∨ 40 ≤ x1.toNatClampNeg) (ckn (x2 < 0 ∨ 40 ≤ x2.toNatClampNeg) (t_X0_areAlike_76   this_near this_times this_end this_match this_minute this_sum x1 x2 ((this_minute x1.toNatClampNeg) - (this_minute x2.toNatClampNeg))))) else (ckn (x2 < 0 ∨ 40 ≤ x2.toNatClampNeg) (ckn (x1 < 0 ∨ 40 ≤ x1.toNatClampNeg) (t_X0_areAlike_76   this_near this_times this_end this_match this_minute this_sum x1 x2 ((this_minute x2.toNatClampNeg) - (this_minute x1.toNatClampNeg)))))))) else (some ((0 : Int32)))))) else (some ((0 : Int32)))))
set_option maxHeartbeats 4000000 in
set_option maxRecDepth 100000 in
theorem b_X0_areAlike_166 {p : Program} {l : Launch} {e : Env} {s : State} {m : MethodId} {args : Array Value} {below : List Frame} {meth : Method} {c : Code} {D : va_G} {A : Nat → Prop} {cI cJ cZ : ClassId} (X : Cx p m c cX0_areAlike 6 s args wsX0_areAlike RX0 D (tys3 cI cJ cZ) meth (some .boolean)) (_ _ _ : ClassId)  (h_this : Nat) (q_this : Nat → Nat) (this_count : Int32) (this_ties : Int32) (r : Int32)  (this_near : Int32) (this_times : Int32) (this_end : Nat → Int32) (this_match : Nat → Int32) (this_minute : Nat → Int32) (this_sum : Nat → Int32) (s0 : Int32) (hT : t_X0_areAlike_166   this_near this_times this_end this_match this_minute this_sum s0 = some r) : J p l e rmX0_areAlike s m args below meth c D A 6 (QI D below args s A r (w_X0_areAlike cI cJ cZ h_this q_this this_count this_near this_times this_ties this_end this_match this_minute this_sum)) 0 0 (w_X0_areAlike cI cJ cZ h_this q_this this_count this_near this_times this_ties this_end this_match this_minute this_sum) [(0, .ref h_this)] [.int s0] 166 := by
  unfold t_X0_areAlike_166 at hT
  obtain ⟨hk1, hT⟩ := ckn_e hT
  cases hT
  exact J_zret X (Decidable.not_not.mp hk1) dX0_areAlike_166
set_option maxHeartbeats 4000000 in
set_option maxRecDepth 100000 in
theorem b_X0_areAlike_139 {p : Program} {l : Launch} {e : Env} {s : State} {m : MethodId} {args : Array Value} {below : List Frame} {meth : Method} {c : Code} {D : va_G} {A : Nat → Prop} {cI cJ cZ : ClassId} (X : Cx p m c cX0_areAlike 6 s args wsX0_areAlike RX0 D (tys3 cI cJ cZ) meth (some .boolean)) (_ _ _ : ClassId)  (h_this : Nat) (q_this : Nat → Nat) (this_count : Int32) (this_ties : Int32) (r : Int32)  (this_near : Int32) (this_times : Int32) (this_end : Nat → Int32) (this_match : Nat → Int32) (this_minute : Nat → Int32) (this_sum : Nat → Int32) (x3 : Int32) (x4 : Int32) (s0 : Int32) (hT : t_X0_areAlike_139   this_near this_times this_end this_match this_minute this_sum x3 x4 s0 = some r) : J p l e rmX0_areAlike s m args below meth c D A 6 (QI D below args s A r (w_X0_areAlike cI cJ cZ h_this q_this this_count this_near this_times this_ties this_end this_match this_minute this_sum)) 0 0 (w_X0_areAlike cI cJ cZ h_this q_this this_count this_near this_times this_ties this_end this_match this_minute this_sum) [(0, .ref h_this), (3, .int x3), (4, .int x4)] [.int s0] 139 := by
  unfold t_X0_areAlike_139 at hT
  refine J_istore (lv' := [(5, .int s0), (0, .ref h_this), (3, .int x3), (4, .int x4)]) X dX0_areAlike_139 (by decide) rfl ?_
  refine J_iload_n X dX0_areAlike_141 2 rfl ?_
  refine J_aload_n X dX0_areAlike_142 1 rfl ?_
  refine J_get (C := RX0) (T := TX0) (N := 13) (ci := 0) (v := .int this_near) X in_X0_areAlike_X0 0 rfl rfl 1 (by decide) m_X0_areAlike_f9 rfl dX0_areAlike_143 ?_
  refine J_icmp_gt (tgt := 165) X dX0_areAlike_146 (by decide) (fun hc2 => ?_) (fun hc2 => ?_)
  · have hT := ift hT hc2
    refine J_iconst (v := 0) X dX0_areAlike_165 (by decide) ?_
    refine J_lv (lv' := [(0, .ref h_this)]) [1] rfl ?_
    exact b_X0_areAlike_166 X cI cJ cZ h_this q_this this_count this_ties r  this_near this_times this_end this_match this_minute this_sum (0 : Int32) hT
  · have hT := iff_ hT hc2
    refine J_iload X dX0_areAlike_149 3 rfl ?_
    refine J_aload_n X dX0_areAlike_151 1 rfl ?_
    refine J_get (C := RX0) (T := TX0) (N := 13) (ci := 0) (v := .int this_times) X in_X0_areAlike_X0 0 rfl rfl 2 (by decide) m_X0_areAlike_f15 rfl dX0_areAlike_152 ?_
    refine J_iload X dX0_areAlike_155 0 rfl ?_
    refine J_imul X dX0_areAlike_157 ?_
    refine J_icmp_gt (tgt := 165) X dX0_areAlike_158 (by decide) (fun hc3 => ?_) (fun hc3 => ?_)
    · have hT := ift hT hc3
      refine J_iconst (v := 0) X dX0_areAlike_165 (by decide) ?_
      refine J_lv (lv' := [(0, .ref h_this)]) [1] rfl ?_
      exact b_X0_areAlike_166 X cI cJ cZ h_this q_this this_count this_ties r  this_near this_times this_end this_match this_minute this_sum (0 : Int32) hT
    · have hT := iff_ hT hc3
      refine J_iconst (v := 1) X dX0_areAlike_161 (by decide) ?_
      refine J_goto (tgt := 166) X dX0_areAlike_162 (by decide) ?_
      refine J_lv (lv' := [(0, .ref h_this)]) [1] rfl ?_
      exact b_X0_areAlike_166 X cI cJ cZ h_this q_this this_count this_ties r  this_near this_times this_end this_match this_minute this_sum (1 : Int32) hT
set_option maxHeartbeats 4000000 in
set_option maxRecDepth 100000 in
theorem b_X0_areAlike_107 {p : Program} {l : Launch} {e : Env} {s : State} {m : MethodId} {args : Array Value} {below : List Frame} {meth : Method} {c : Code} {D : va_G} {A : Nat → Prop} {cI cJ cZ : ClassId} (X : Cx p m c cX0_areAlike 6 s args wsX0_areAlike RX0 D (tys3 cI cJ cZ) meth (some .boolean)) (_ _ _ : ClassId)  (h_this : Nat) (q_this : Nat → Nat) (this_count : Int32) (this_ties : Int32) (r : Int32)  (this_near : Int32) (this_times : Int32) (this_end : Nat → Int32) (this_match : Nat → Int32) (this_minute : Nat → Int32) (this_sum : Nat → Int32) (x1 : Int32) (x2 : Int32) (x3 : Int32) (s0 : Int32) (hT : t_X0_areAlike_107   this_near this_times this_end this_match this_minute this_sum x1 x2 x3 s0 = some r) : J p l e rmX0_areAlike s m args below meth c D A 6 (QI D below args s A r (w_X0_areAlike cI cJ cZ h_this q_this this_count this_near this_times this_ties this_end this_match this_minute this_sum)) 0 0 (w_X0_areAlike cI cJ cZ h_this q_this this_count this_near this_times this_ties this_end this_match this_minute this_sum) [(0, .ref h_this), (1, .int x1), (2, .int x2), (3, .int x3)] [.int s0] 107 := by
  unfold t_X0_areAlike_107 at hT
  refine J_istore (lv' := [(4, .int s0), (0, .ref h_this), (1, .int x1), (2, .int x2), (3, .int x3)]) X dX0_areAlike_107 (by decide) rfl ?_
  refine J_aload_n X dX0_areAlike_109 1 rfl ?_
  refine J_get (C := RX0) (T := TX0) (N := 13) (ci := 0) (v := .ref (q_this 8)) X in_X0_areAlike_X0 0 rfl rfl 8 (by decide) m_X0_areAlike_f34 rfl dX0_areAlike_110 ?_
  refine J_iload_n X dX0_areAlike_113 2 rfl ?_
  obtain ⟨hk4, hT⟩ := ckn_e hT
  refine J_iald X 4 rfl rfl hk4 dX0_areAlike_114 ?_
  refine J_aload_n X dX0_areAlike_115 1 rfl ?_
  refine J_get (C := RX0) (T := TX0) (N := 13) (ci := 0) (v := .ref (q_this 8)) X in_X0_areAlike_X0 0 rfl rfl 8 (by decide) m_X0_areAlike_f34 rfl dX0_areAlike_116 ?_
  refine J_iload_n X dX0_areAlike_119 3 rfl ?_
  obtain ⟨hk5, hT⟩ := ckn_e hT
  refine J_iald X 4 rfl rfl hk5 dX0_areAlike_120 ?_
  refine J_icmp_le (tgt := 133) X dX0_areAlike_121 (by decide) (fun hc6 => ?_) (fun hc6 => ?_)
  · have hT := ift hT hc6
    refine J_aload_n X dX0_areAlike_133 1 rfl ?_
    refine J_get (C := RX0) (T := TX0) (N := 13) (ci := 0) (v := .ref (q_this 8)) X in_X0_areAlike_X0 0 rfl rfl 8 (by decide) m_X0_areAlike_f34 rfl dX0_areAlike_134 ?_
    refine J_iload_n X dX0_areAlike_137 2 rfl ?_
    obtain ⟨hk7, hT⟩ := ckn_e hT
    refine J_iald X 4 rfl rfl hk7 dX0_areAlike_138 ?_
    refine J_lv (lv' := [(0, .ref h_this), (3, .int x3), (4, .int s0)]) [1, 4, 0] rfl ?_
    exact b_X0_areAlike_139 X cI cJ cZ h_this q_this this_count this_ties r  this_near this_times this_end this_match this_minute this_sum x3 s0 (this_sum x1.toNatClampNeg) hT
  · have hT := iff_ hT hc6
    refine J_aload_n X dX0_areAlike_124 1 rfl ?_
    refine J_get (C := RX0) (T := TX0) (N := 13) (ci := 0) (v := .ref (q_this 8)) X in_X0_areAlike_X0 0 rfl rfl 8 (by decide) m_X0_areAlike_f34 rfl dX0_areAlike_125 ?_
    refine J_iload_n X dX0_areAlike_128 3 rfl ?_
    obtain ⟨hk8, hT⟩ := ckn_e hT
    refine J_iald X 4 rfl rfl hk8 dX0_areAlike_129 ?_
    refine J_goto (tgt := 139) X dX0_areAlike_130 (by decide) ?_
    refine J_lv (lv' := [(0, .ref h_this), (3, .int x3), (4, .int s0)]) [1, 4, 0] rfl ?_
    exact b_X0_areAlike_139 X cI cJ cZ h_this q_this this_count this_ties r  this_near this_times this_end this_match this_minute this_sum x3 s0 (this_sum x2.toNatClampNeg) hT
set_option maxHeartbeats 4000000 in
set_option maxRecDepth 100000 in
theorem b_X0_areAlike_76 {p : Program} {l : Launch} {e : Env} {s : State} {m : MethodId} {args : Array Value} {below : List Frame} {meth : Method} {c : Code} {D : va_G} {A : Nat → Prop} {cI cJ cZ : ClassId} (X : Cx p m c cX0_areAlike 6 s args wsX0_areAlike RX0 D (tys3 cI cJ cZ) meth (some .boolean)) (_ _ _ : ClassId)  (h_this : Nat) (q_this : Nat → Nat) (this_count : Int32) (this_ties : Int32) (r : Int32)  (this_near : Int32) (this_times : Int32) (this_end : Nat → Int32) (this_match : Nat → Int32) (this_minute : Nat → Int32) (this_sum : Nat → Int32) (x1 : Int32) (x2 : Int32) (s0 : Int32) (hT : t_X0_areAlike_76   this_near this_times this_end this_match this_minute this_sum x1 x2 s0 = some r) : J p l e rmX0_areAlike s m args below meth c D A 6 (QI D below args s A r (w_X0_areAlike cI cJ cZ h_this q_this this_count this_near this_times this_ties this_end this_match this_minute this_sum)) 0 0 (w_X0_areAlike cI cJ cZ h_this q_this this_count this_near this_times this_ties this_end this_match this_minute this_sum) [(0, .ref h_this), (1, .int x1), (2, .int x2)] [.int s0] 76 := by
  unfold t_X0_areAlike_76 at hT
  refine J_istore_n (lv' := [(3, .int s0), (0, .ref h_this), (1, .int x1), (2, .int x2)]) X dX0_areAlike_76 (by decide) rfl ?_
  refine J_aload_n X dX0_areAlike_77 1 rfl ?_
  refine J_get (C := RX0) (T := TX0) (N := 13) (ci := 0) (v := .ref (q_this 8)) X in_X0_areAlike_X0 0 rfl rfl 8 (by decide) m_X0_areAlike_f34 rfl dX0_areAlike_78 ?_
  refine J_iload_n X dX0_areAlike_81 2 rfl ?_
  obtain ⟨hk9, hT⟩ := ckn_e hT
  refine J_iald X 4 rfl rfl hk9 dX0_areAlike_82 ?_
  refine J_aload_n X dX0_areAlike_83 1 rfl ?_
  refine J_get (C := RX0) (T := TX0) (N := 13) (ci := 0) (v := .ref (q_this 8)) X in_X0_areAlike_X0 0 rfl rfl 8 (by decide) m_X0_areAlike_f34 rfl dX0_areAlike_84 ?_
  refine J_iload_n X dX0_areAlike_87 3 rfl ?_
  obtain ⟨hk10, hT⟩ := ckn_e hT
  refine J_iald X 4 rfl rfl hk10 dX0_areAlike_88 ?_
  refine J_icmp_le (tgt := 101) X dX0_areAlike_89 (by decide) (fun hc11 => ?_) (fun hc11 => ?_)
  · have hT := ift hT hc11
    refine J_aload_n X dX0_areAlike_101 1 rfl ?_
    refine J_get (C := RX0) (T := TX0) (N := 13) (ci := 0) (v := .ref (q_this 8)) X in_X0_areAlike_X0 0 rfl rfl 8 (by decide) m_X0_areAlike_f34 rfl dX0_areAlike_102 ?_
    refine J_iload_n X dX0_areAlike_105 3 rfl ?_
    obtain ⟨hk12, hT⟩ := ckn_e hT
    refine J_iald X 4 rfl rfl hk12 dX0_areAlike_106 ?_
    refine J_lv (lv' := [(0, .ref h_this), (1, .int x1), (2, .int x2), (3, .int s0)]) [1, 2, 3, 0] rfl ?_
    exact b_X0_areAlike_107 X cI cJ cZ h_this q_this this_count this_ties r  this_near this_times this_end this_match this_minute this_sum x1 x2 s0 (this_sum x2.toNatClampNeg) hT
  · have hT := iff_ hT hc11
    refine J_aload_n X dX0_areAlike_92 1 rfl ?_
    refine J_get (C := RX0) (T := TX0) (N := 13) (ci := 0) (v := .ref (q_this 8)) X in_X0_areAlike_X0 0 rfl rfl 8 (by decide) m_X0_areAlike_f34 rfl dX0_areAlike_93 ?_
    refine J_iload_n X dX0_areAlike_96 2 rfl ?_
    obtain ⟨hk13, hT⟩ := ckn_e hT
    refine J_iald X 4 rfl rfl hk13 dX0_areAlike_97 ?_
    refine J_goto (tgt := 107) X dX0_areAlike_98 (by decide) ?_
    refine J_lv (lv' := [(0, .ref h_this), (1, .int x1), (2, .int x2), (3, .int s0)]) [1, 2, 3, 0] rfl ?_
    exact b_X0_areAlike_107 X cI cJ cZ h_this q_this this_count this_ties r  this_near this_times this_end this_match this_minute this_sum x1 x2 s0 (this_sum x1.toNatClampNeg) hT
set_option maxHeartbeats 4000000 in
set_option maxRecDepth 100000 in
theorem c_X0_areAlike (l : Launch) (D : va_G) (cI cJ cZ : ClassId) (h_this : Nat) (q_this : Nat → Nat) (this_count : Int32) (this_near : Int32) (this_times : Int32) (this_ties : Int32) (this_end : Nat → Int32) (this_match : Nat → Int32) (this_minute : Nat → Int32) (this_sum : Nat → Int32) (x1 : Int32) (x2 : Int32) (r : Int32) (hT : t_X0_areAlike  this_near this_times this_end this_match this_minute this_sum x1 x2 = some r) : Ci l yX0_areAlike wsX0_areAlike rmX0_areAlike D (tys3 cI cJ cZ) [.ref h_this, .int x1, .int x2] (w_X0_areAlike cI cJ cZ h_this q_this this_count this_near this_times this_ties this_end this_match this_minute this_sum) r (w_X0_areAlike cI cJ cZ h_this q_this this_count this_near this_times this_ties this_end this_match this_minute this_sum) := by
  refine Ci.ofJ (cc := cX0_areAlike) (nL := 6) (rt := (some .boolean)) (own := RX0) (by decide) rfl rfl (by decide) ?_
  intro p e s m below meth c A X
  unfold t_X0_areAlike at hT
  refine J_lv (lv' := [(0, .ref h_this), (1, .int x1), (2, .int x2)]) [0, 1, 2] rfl ?_
  refine J_aload_n X dX0_areAlike_0 0 rfl ?_
  refine J_get (C := RX0) (T := TX0) (N := 13) (ci := 0) (v := .ref (q_this 5)) X in_X0_areAlike_X0 0 rfl rfl 5 (by decide) m_X0_areAlike_f25 rfl dX0_areAlike_1 ?_
  refine J_iload_n X dX0_areAlike_4 1 rfl ?_
  obtain ⟨hk14, hT⟩ := ckn_e hT
  refine J_iald X 2 rfl rfl hk14 dX0_areAlike_5 ?_
  refine J_aload_n X dX0_areAlike_6 0 rfl ?_
  refine J_get (C := RX0) (T := TX0) (N := 13) (ci := 0) (v := .ref (q_this 5)) X in_X0_areAlike_X0 0 rfl rfl 5 (by decide) m_X0_areAlike_f25 rfl dX0_areAlike_7 ?_
  refine J_iload_n X dX0_areAlike_10 2 rfl ?_
  obtain ⟨hk15, hT⟩ := ckn_e hT
  refine J_iald X 2 rfl rfl hk15 dX0_areAlike_11 ?_
  refine J_icmp_ne (tgt := 30) X dX0_areAlike_12 (by decide) (fun hc16 => ?_) (fun hc16 => ?_)
  · have hT := iff_ hT hc16
    refine J_iconst (v := 0) X dX0_areAlike_30 (by decide) ?_
    cases hT
    exact J_zret X (by decide) dX0_areAlike_31
  · have hT := ift hT hc16
    refine J_aload_n X dX0_areAlike_15 0 rfl ?_
    refine J_get (C := RX0) (T := TX0) (N := 13) (ci := 0) (v := .ref (q_this 6)) X in_X0_areAlike_X0 0 rfl rfl 6 (by decide) m_X0_areAlike_f28 rfl dX0_areAlike_16 ?_
    refine J_iload_n X dX0_areAlike_19 1 rfl ?_
    obtain ⟨hk17, hT⟩ := ckn_e hT
    refine J_iald X 1 rfl rfl hk17 dX0_areAlike_20 ?_
    refine J_aload_n X dX0_areAlike_21 0 rfl ?_
    refine J_get (C := RX0) (T := TX0) (N := 13) (ci := 0) (v := .ref (q_this 6)) X in_X0_areAlike_X0 0 rfl rfl 6 (by decide) m_X0_areAlike_f28 rfl dX0_areAlike_22 ?_
    refine J_iload_n X dX0_areAlike_25 2 rfl ?_
    obtain ⟨hk18, hT⟩ := ckn_e hT
    refine J_iald X 1 rfl rfl hk18 dX0_areAlike_26 ?_
    refine J_icmp_eq (tgt := 32) X dX0_areAlike_27 (by decide) (fun hc19 => ?_) (fun hc19 => ?_)
    · have hT := ift hT hc19
      refine J_aload_n X dX0_areAlike_32 0 rfl ?_
      refine J_get (C := RX0) (T := TX0) (N := 13) (ci := 0) (v := .ref (q_this 7)) X in_X0_areAlike_X0 0 rfl rfl 7 (by decide) m_X0_areAlike_f31 rfl dX0_areAlike_33 ?_
      refine J_iload_n X dX0_areAlike_36 1 rfl ?_
      obtain ⟨hk20, hT⟩ := ckn_e hT
      refine J_iald X 3 rfl rfl hk20 dX0_areAlike_37 ?_
      refine J_aload_n X dX0_areAlike_38 0 rfl ?_
      refine J_get (C := RX0) (T := TX0) (N := 13) (ci := 0) (v := .ref (q_this 7)) X in_X0_areAlike_X0 0 rfl rfl 7 (by decide) m_X0_areAlike_f31 rfl dX0_areAlike_39 ?_
      refine J_iload_n X dX0_areAlike_42 2 rfl ?_
      obtain ⟨hk21, hT⟩ := ckn_e hT
      refine J_iald X 3 rfl rfl hk21 dX0_areAlike_43 ?_
      refine J_icmp_ge (tgt := 63) X dX0_areAlike_44 (by decide) (fun hc22 => ?_) (fun hc22 => ?_)
      · have hT := ift hT hc22
        refine J_aload_n X dX0_areAlike_63 0 rfl ?_
        refine J_get (C := RX0) (T := TX0) (N := 13) (ci := 0) (v := .ref (q_this 7)) X in_X0_areAlike_X0 0 rfl rfl 7 (by decide) m_X0_areAlike_f31 rfl dX0_areAlike_64 ?_
        refine J_iload_n X dX0_areAlike_67 1 rfl ?_
        obtain ⟨hk23, hT⟩ := ckn_e hT
        refine J_iald X 3 rfl rfl hk23 dX0_areAlike_68 ?_
        refine J_aload_n X dX0_areAlike_69 0 rfl ?_
        refine J_get (C := RX0) (T := TX0) (N := 13) (ci := 0) (v := .ref (q_this 7)) X in_X0_areAlike_X0 0 rfl rfl 7 (by decide) m_X0_areAlike_f31 rfl dX0_areAlike_70 ?_
        refine J_iload_n X dX0_areAlike_73 2 rfl ?_
        obtain ⟨hk24, hT⟩ := ckn_e hT
        refine J_iald X 3 rfl rfl hk24 dX0_areAlike_74 ?_
        refine J_isub X dX0_areAlike_75 ?_
        exact b_X0_areAlike_76 X cI cJ cZ h_this q_this this_count this_ties r  this_near this_times this_end this_match this_minute this_sum x1 x2 ((this_minute x1.toNatClampNeg) - (this_minute x2.toNatClampNeg)) hT
      · have hT := iff_ hT hc22
        refine J_aload_n X dX0_areAlike_47 0 rfl ?_
        refine J_get (C := RX0) (T := TX0) (N := 13) (ci := 0) (v := .ref (q_this 7)) X in_X0_areAlike_X0 0 rfl rfl 7 (by decide) m_X0_areAlike_f31 rfl dX0_areAlike_48 ?_
        refine J_iload_n X dX0_areAlike_51 2 rfl ?_
        obtain ⟨hk25, hT⟩ := ckn_e hT
        refine J_iald X 3 rfl rfl hk25 dX0_areAlike_52 ?_
        refine J_aload_n X dX0_areAlike_53 0 rfl ?_
        refine J_get (C := RX0) (T := TX0) (N := 13) (ci := 0) (v := .ref (q_this 7)) X in_X0_areAlike_X0 0 rfl rfl 7 (by decide) m_X0_areAlike_f31 rfl dX0_areAlike_54 ?_
        refine J_iload_n X dX0_areAlike_57 1 rfl ?_
        obtain ⟨hk26, hT⟩ := ckn_e hT
        refine J_iald X 3 rfl rfl hk26 dX0_areAlike_58 ?_
        refine J_isub X dX0_areAlike_59 ?_
        refine J_goto (tgt := 76) X dX0_areAlike_60 (by decide) ?_
        exact b_X0_areAlike_76 X cI cJ cZ h_this q_this this_count this_ties r  this_near this_times this_end this_match this_minute this_sum x1 x2 ((this_minute x2.toNatClampNeg) - (this_minute x1.toNatClampNeg)) hT
    · have hT := iff_ hT hc19
      refine J_iconst (v := 0) X dX0_areAlike_30 (by decide) ?_
      cases hT
      exact J_zret X (by decide) dX0_areAlike_31
-- ===== java/util/Arrays.fill([JJ)V
abbrev rmJ7_fill_d0a16 : Room := { frames := 0, cells := 0, slots := 0, locals := 0 }
def w_J7_fill_d0a16 (cI cJ cZ : ClassId) (h_p0 : Nat) (p0_n : Nat) (p0 : Nat → Int64) : va_W := [(h_p0, .inl (cJ, p0_n, .inr (.inl p0)))]
def t_J7_fill_d0a16_6_b (p0_n : Nat) (k_6 : (Nat → Int64) → Int64 → Int32 → Int32 → (Option ((Nat → Int64)))) (p0 : Nat → Int64) (x1 : Int64) (x3 : Int32) (x4 : Int32) : Option ((Nat → Int64)) := if x4 ≤ x3 then (some (p0)) else (ckn (x3 < 0 ∨ p0_n ≤ x3.toNatClampNeg) (k_6 (vp_updL p0 x3.toNatClampNeg x1) x1 (x3 + (1 : Int32)) x4))
def t_J7_fill_d0a16_6 (p0_n : Nat)  (n : Nat) : (Nat → Int64) → Int64 → Int32 → Int32 → (Option ((Nat → Int64))) := Nat.rec (fun _ _ _ _ => none) (fun _ ih => t_J7_fill_d0a16_6_b p0_n  ih) n
def t_J7_fill_d0a16 (p0_n : Nat) (p0 : Nat → Int64) (x1 : Int64) : Option ((Nat → Int64)) := t_J7_fill_d0a16_6 p0_n  lfuel p0 x1 (0 : Int32) (Int32.ofNat p0_n)
set_option maxHeartbeats 4000000 in
set_option maxRecDepth 100000 in
theorem b_J7_fill_d0a16_6_b {p : Program} {l : Launch} {e : Env} {s : State} {m : MethodId} {args : Array Value} {below : List Frame} {meth : Method} {c : Code} {D : va_G} {A : Nat → Prop} {cI cJ cZ : ClassId} (X : Cx p m c cJ7_fill_d0a16 5 s args wsJ7_fill_d0a16 RJ7 D (tys3 cI cJ cZ) meth none) (_ _ _ : ClassId)  (h_p0 : Nat) (p0_n : Nat)  (z0 : Nat → Int64) (k_6 : (Nat → Int64) → Int64 → Int32 → Int32 → (Option ((Nat → Int64)))) (hk_6 : ∀ (p0 : Nat → Int64) (x1 : Int64) (x3 : Int32) (x4 : Int32), k_6 p0 x1 x3 x4 = some z0 → J p l e rmJ7_fill_d0a16 s m args below meth c D A 5 (QV D below args s A (w_J7_fill_d0a16 cI cJ cZ h_p0 p0_n z0)) 0 0 (w_J7_fill_d0a16 cI cJ cZ h_p0 p0_n p0) [(0, .ref h_p0), (1, .long x1), (3, .int x3), (4, .int x4)] [] 6) (p0 : Nat → Int64) (x1 : Int64) (x3 : Int32) (x4 : Int32) (hT : t_J7_fill_d0a16_6_b p0_n k_6 p0 x1 x3 x4 = some z0) : J p l e rmJ7_fill_d0a16 s m args below meth c D A 5 (QV D below args s A (w_J7_fill_d0a16 cI cJ cZ h_p0 p0_n z0)) 0 0 (w_J7_fill_d0a16 cI cJ cZ h_p0 p0_n p0) [(0, .ref h_p0), (1, .long x1), (3, .int x3), (4, .int x4)] [] 6 := by
  unfold t_J7_fill_d0a16_6_b at hT
  refine J_iload_n X dJ7_fill_d0a16_6 2 rfl ?_
  refine J_iload X dJ7_fill_d0a16_7 3 rfl ?_
  refine J_icmp_ge (tgt := 22) X dJ7_fill_d0a16_9 (by decide) (fun hc1 => ?_) (fun hc1 => ?_)
  · have hT := ift hT hc1
    cases hT
    exact J_vret X dJ7_fill_d0a16_22
  · have hT := iff_ hT hc1
    refine J_aload_n X dJ7_fill_d0a16_12 0 rfl ?_
    refine J_iload_n X dJ7_fill_d0a16_13 2 rfl ?_
    refine J_lload_n X dJ7_fill_d0a16_14 1 rfl ?_
    obtain ⟨hk2, hT⟩ := ckn_e hT
    refine J_last (ws' := (w_J7_fill_d0a16 cI cJ cZ h_p0 p0_n (vp_updL p0 x3.toNatClampNeg x1))) X 0 rfl rfl hk2 rfl dJ7_fill_d0a16_15 ?_
    refine J_iinc (lv' := [(3, .int (x3 + (1 : Int32))), (0, .ref h_p0), (1, .long x1), (4, .int x4)]) (j := 2) X dJ7_fill_d0a16_16 rfl rfl (by decide) rfl ?_
    refine J_goto (tgt := 6) X dJ7_fill_d0a16_19 (by decide) ?_
    refine J_lv (lv' := [(0, .ref h_p0), (1, .long x1), (3, .int (x3 + (1 : Int32))), (4, .int x4)]) [1, 2, 0, 3] rfl ?_
    exact hk_6 (vp_updL p0 x3.toNatClampNeg x1) x1 (x3 + (1 : Int32)) x4 hT
set_option maxHeartbeats 4000000 in
set_option maxRecDepth 100000 in
theorem b_J7_fill_d0a16_6 {p : Program} {l : Launch} {e : Env} {s : State} {m : MethodId} {args : Array Value} {below : List Frame} {meth : Method} {c : Code} {D : va_G} {A : Nat → Prop} {cI cJ cZ : ClassId} (X : Cx p m c cJ7_fill_d0a16 5 s args wsJ7_fill_d0a16 RJ7 D (tys3 cI cJ cZ) meth none) (_ _ _ : ClassId)  (h_p0 : Nat) (p0_n : Nat)  (z0 : Nat → Int64)  : ∀ (n : Nat) (p0 : Nat → Int64) (x1 : Int64) (x3 : Int32) (x4 : Int32) (hT : t_J7_fill_d0a16_6 p0_n  n p0 x1 x3 x4 = some z0), J p l e rmJ7_fill_d0a16 s m args below meth c D A 5 (QV D below args s A (w_J7_fill_d0a16 cI cJ cZ h_p0 p0_n z0)) 0 0 (w_J7_fill_d0a16 cI cJ cZ h_p0 p0_n p0) [(0, .ref h_p0), (1, .long x1), (3, .int x3), (4, .int x4)] [] 6 := by
  intro n
  induction n with
  | zero => intro p0 x1 x3 x4 hT; cases hT
  | succ n ih =>
    intro p0 x1 x3 x4 hT
    exact b_J7_fill_d0a16_6_b X cI cJ cZ h_p0 p0_n  z0  (t_J7_fill_d0a16_6 p0_n  n) ih p0 x1 x3 x4 hT
set_option maxHeartbeats 4000000 in
set_option maxRecDepth 100000 in
theorem c_J7_fill_d0a16 (l : Launch) (D : va_G) (cI cJ cZ : ClassId) (h_p0 : Nat) (p0_n : Nat) (p0 : Nat → Int64) (x1 : Int64) (z0 : Nat → Int64) (hT : t_J7_fill_d0a16 p0_n p0 x1 = some z0) : Cv l yJ7_fill_d0a16 wsJ7_fill_d0a16 rmJ7_fill_d0a16 D (tys3 cI cJ cZ) [.ref h_p0, .long x1] (w_J7_fill_d0a16 cI cJ cZ h_p0 p0_n p0) (w_J7_fill_d0a16 cI cJ cZ h_p0 p0_n z0) := by
  refine Cv.ofJ (cc := cJ7_fill_d0a16) (nL := 5) (rt := none) (own := RJ7) (by decide) rfl rfl (by decide) ?_
  intro p e s m below meth c A X
  unfold t_J7_fill_d0a16 at hT
  refine J_lv (lv' := [(0, .ref h_p0), (1, .long x1)]) [0, 1] rfl ?_
  refine J_iconst (v := 0) X dJ7_fill_d0a16_0 (by decide) ?_
  refine J_istore_n (lv' := [(3, .int (0 : Int32)), (0, .ref h_p0), (1, .long x1)]) X dJ7_fill_d0a16_1 (by decide) rfl ?_
  refine J_aload_n X dJ7_fill_d0a16_2 1 rfl ?_
  refine J_alen (v := Int32.ofNat p0_n) X 0 1 rfl rfl rfl dJ7_fill_d0a16_3 ?_
  refine J_istore (lv' := [(4, .int (Int32.ofNat p0_n)), (3, .int (0 : Int32)), (0, .ref h_p0), (1, .long x1)]) X dJ7_fill_d0a16_4 (by decide) rfl ?_
  refine J_lv (lv' := [(0, .ref h_p0), (1, .long x1), (3, .int (0 : Int32)), (4, .int (Int32.ofNat p0_n))]) [2, 3, 1, 0] rfl ?_
  exact b_J7_fill_d0a16_6 X cI cJ cZ h_p0 p0_n  z0  lfuel p0 x1 (0 : Int32) (Int32.ofNat p0_n) hT
-- ===== java/util/Arrays.fill([II)V
abbrev rmJ7_fill_53178 : Room := { frames := 0, cells := 0, slots := 0, locals := 0 }
def w_J7_fill_53178 (cI cJ cZ : ClassId) (h_p0 : Nat) (p0_n : Nat) (p0 : Nat → Int32) : va_W := [(h_p0, .inl (cI, p0_n, .inl p0))]
def t_J7_fill_53178_5_b (p0_n : Nat) (k_5 : (Nat → Int32) → Int32 → Int32 → Int32 → (Option ((Nat → Int32)))) (p0 : Nat → Int32) (x1 : Int32) (x2 : Int32) (x3 : Int32) : Option ((Nat → Int32)) := if x3 ≤ x2 then (some (p0)) else (ckn (x2 < 0 ∨ p0_n ≤ x2.toNatClampNeg) (k_5 (upd p0 x2.toNatClampNeg x1) x1 (x2 + (1 : Int32)) x3))
def t_J7_fill_53178_5 (p0_n : Nat)  (n : Nat) : (Nat → Int32) → Int32 → Int32 → Int32 → (Option ((Nat → Int32))) := Nat.rec (fun _ _ _ _ => none) (fun _ ih => t_J7_fill_53178_5_b p0_n  ih) n
def t_J7_fill_53178 (p0_n : Nat) (p0 : Nat → Int32) (x1 : Int32) : Option ((Nat → Int32)) := t_J7_fill_53178_5 p0_n  lfuel p0 x1 (0 : Int32) (Int32.ofNat p0_n)
set_option maxHeartbeats 4000000 in
set_option maxRecDepth 100000 in
theorem b_J7_fill_53178_5_b {p : Program} {l : Launch} {e : Env} {s : State} {m : MethodId} {args : Array Value} {below : List Frame} {meth : Method} {c : Code} {D : va_G} {A : Nat → Prop} {cI cJ cZ : ClassId} (X : Cx p m c cJ7_fill_53178 4 s args wsJ7_fill_53178 RJ7 D (tys3 cI cJ cZ) meth none) (_ _ _ : ClassId)  (h_p0 : Nat) (p0_n : Nat)  (z0 : Nat → Int32) (k_5 : (Nat → Int32) → Int32 → Int32 → Int32 → (Option ((Nat → Int32)))) (hk_5 : ∀ (p0 : Nat → Int32) (x1 : Int32) (x2 : Int32) (x3 : Int32), k_5 p0 x1 x2 x3 = some z0 → J p l e rmJ7_fill_53178 s m args below meth c D A 4 (QV D below args s A (w_J7_fill_53178 cI cJ cZ h_p0 p0_n z0)) 0 0 (w_J7_fill_53178 cI cJ cZ h_p0 p0_n p0) [(0, .ref h_p0), (1, .int x1), (2, .int x2), (3, .int x3)] [] 5) (p0 : Nat → Int32) (x1 : Int32) (x2 : Int32) (x3 : Int32) (hT : t_J7_fill_53178_5_b p0_n k_5 p0 x1 x2 x3 = some z0) : J p l e rmJ7_fill_53178 s m args below meth c D A 4 (QV D below args s A (w_J7_fill_53178 cI cJ cZ h_p0 p0_n z0)) 0 0 (w_J7_fill_53178 cI cJ cZ h_p0 p0_n p0) [(0, .ref h_p0), (1, .int x1), (2, .int x2), (3, .int x3)] [] 5 := by
  unfold t_J7_fill_53178_5_b at hT
  refine J_iload_n X dJ7_fill_53178_5 2 rfl ?_
  refine J_iload_n X dJ7_fill_53178_6 3 rfl ?_
  refine J_icmp_ge (tgt := 20) X dJ7_fill_53178_7 (by decide) (fun hc1 => ?_) (fun hc1 => ?_)
  · have hT := ift hT hc1
    cases hT
    exact J_vret X dJ7_fill_53178_20
  · have hT := iff_ hT hc1
    refine J_aload_n X dJ7_fill_53178_10 0 rfl ?_
    refine J_iload_n X dJ7_fill_53178_11 2 rfl ?_
    refine J_iload_n X dJ7_fill_53178_12 1 rfl ?_
    obtain ⟨hk2, hT⟩ := ckn_e hT
    refine J_iast (ws' := (w_J7_fill_53178 cI cJ cZ h_p0 p0_n (upd p0 x2.toNatClampNeg x1))) X 0 rfl rfl hk2 rfl dJ7_fill_53178_13 ?_
    refine J_iinc (lv' := [(2, .int (x2 + (1 : Int32))), (0, .ref h_p0), (1, .int x1), (3, .int x3)]) (j := 2) X dJ7_fill_53178_14 rfl rfl (by decide) rfl ?_
    refine J_goto (tgt := 5) X dJ7_fill_53178_17 (by decide) ?_
    refine J_lv (lv' := [(0, .ref h_p0), (1, .int x1), (2, .int (x2 + (1 : Int32))), (3, .int x3)]) [1, 2, 0, 3] rfl ?_
    exact hk_5 (upd p0 x2.toNatClampNeg x1) x1 (x2 + (1 : Int32)) x3 hT
set_option maxHeartbeats 4000000 in
set_option maxRecDepth 100000 in
theorem b_J7_fill_53178_5 {p : Program} {l : Launch} {e : Env} {s : State} {m : MethodId} {args : Array Value} {below : List Frame} {meth : Method} {c : Code} {D : va_G} {A : Nat → Prop} {cI cJ cZ : ClassId} (X : Cx p m c cJ7_fill_53178 4 s args wsJ7_fill_53178 RJ7 D (tys3 cI cJ cZ) meth none) (_ _ _ : ClassId)  (h_p0 : Nat) (p0_n : Nat)  (z0 : Nat → Int32)  : ∀ (n : Nat) (p0 : Nat → Int32) (x1 : Int32) (x2 : Int32) (x3 : Int32) (hT : t_J7_fill_53178_5 p0_n  n p0 x1 x2 x3 = some z0), J p l e rmJ7_fill_53178 s m args below meth c D A 4 (QV D below args s A (w_J7_fill_53178 cI cJ cZ h_p0 p0_n z0)) 0 0 (w_J7_fill_53178 cI cJ cZ h_p0 p0_n p0) [(0, .ref h_p0), (1, .int x1), (2, .int x2), (3, .int x3)] [] 5 := by
  intro n
  induction n with
  | zero => intro p0 x1 x2 x3 hT; cases hT
  | succ n ih =>
    intro p0 x1 x2 x3 hT
    exact b_J7_fill_53178_5_b X cI cJ cZ h_p0 p0_n  z0  (t_J7_fill_53178_5 p0_n  n) ih p0 x1 x2 x3 hT
set_option maxHeartbeats 4000000 in
set_option maxRecDepth 100000 in
theorem c_J7_fill_53178 (l : Launch) (D : va_G) (cI cJ cZ : ClassId) (h_p0 : Nat) (p0_n : Nat) (p0 : Nat → Int32) (x1 : Int32) (z0 : Nat → Int32) (hT : t_J7_fill_53178 p0_n p0 x1 = some z0) : Cv l yJ7_fill_53178 wsJ7_fill_53178 rmJ7_fill_53178 D (tys3 cI cJ cZ) [.ref h_p0, .int x1] (w_J7_fill_53178 cI cJ cZ h_p0 p0_n p0) (w_J7_fill_53178 cI cJ cZ h_p0 p0_n z0) := by
  refine Cv.ofJ (cc := cJ7_fill_53178) (nL := 4) (rt := none) (own := RJ7) (by decide) rfl rfl (by decide) ?_
  intro p e s m below meth c A X
  unfold t_J7_fill_53178 at hT
  refine J_lv (lv' := [(0, .ref h_p0), (1, .int x1)]) [0, 1] rfl ?_
  refine J_iconst (v := 0) X dJ7_fill_53178_0 (by decide) ?_
  refine J_istore_n (lv' := [(2, .int (0 : Int32)), (0, .ref h_p0), (1, .int x1)]) X dJ7_fill_53178_1 (by decide) rfl ?_
  refine J_aload_n X dJ7_fill_53178_2 1 rfl ?_
  refine J_alen (v := Int32.ofNat p0_n) X 0 0 rfl rfl rfl dJ7_fill_53178_3 ?_
  refine J_istore_n (lv' := [(3, .int (Int32.ofNat p0_n)), (2, .int (0 : Int32)), (0, .ref h_p0), (1, .int x1)]) X dJ7_fill_53178_4 (by decide) rfl ?_
  refine J_lv (lv' := [(0, .ref h_p0), (1, .int x1), (2, .int (0 : Int32)), (3, .int (Int32.ofNat p0_n))]) [2, 3, 1, 0] rfl ?_
  exact b_J7_fill_53178_5 X cI cJ cZ h_p0 p0_n  z0  lfuel p0 x1 (0 : Int32) (Int32.ofNat p0_n) hT
-- ===== SoldMatches$Odds.playQuarter(II)V
abbrev rmX4_playQuarter : Room := { frames := 0, cells := 0, slots := 0, locals := 0 }
def w_X4_playQuarter (cI cJ cZ : ClassId) (h_this : Nat) (q_this : Nat → Nat) (this_upper : Int64) (this_lower : Int64) (this_cases : Nat → Int64) : va_W := [(h_this, .inr (4, oFX4 q_this this_upper this_lower)), ((q_this 0), .inl (cJ, 13, .inr (.inl this_cases)))]
theorem m_X4_playQuarter_f9 : Cond.fieldLink RX4 9 "SoldMatches$Odds" "cases" "[J" ∈ wsX4_playQuarter := List.mem_of_getElem? (i := 1) rfl
theorem in_X4_playQuarter_X4 : ∀ w ∈ wsX40, w ∈ wsX4_playQuarter := fun w h => List.mem_cons_of_mem _ (List.mem_append_right _ h)
def t_X4_playQuarter_57  (k_13 : (Nat → Int64) → Int32 → Int32 → Int32 → Int64 → Int32 → (Option ((Nat → Int64)))) (this_cases : Nat → Int64) (x1 : Int32) (x2 : Int32) (x3 : Int32) (x4 : Int64) (x6 : Int32) (x7 : Int64) (s0 : Int64) : Option ((Nat → Int64)) := ckn (x6 < 0 ∨ 13 ≤ x6.toNatClampNeg) (k_13 (vp_updL this_cases x6.toNatClampNeg (((x4 * (x1.toInt64)) + (x7 * (x3.toInt64))) + (s0 * (x2.toInt64)))) x1 x2 x3 x7 (x6 + (1 : Int32)))
def t_X4_playQuarter_13_b  (k_13 : (Nat → Int64) → Int32 → Int32 → Int32 → Int64 → Int32 → (Option ((Nat → Int64)))) (this_cases : Nat → Int64) (x1 : Int32) (x2 : Int32) (x3 : Int32) (x4 : Int64) (x6 : Int32) : Option ((Nat → Int64)) := if (13 : Int32) ≤ x6 then (some (this_cases)) else (ckn (x6 < 0 ∨ 13 ≤ x6.toNatClampNeg) (if (13 : Int32) ≤ (x6 + (1 : Int32)) then (t_X4_playQuarter_57  k_13 this_cases x1 x2 x3 x4 x6 (this_cases x6.toNatClampNeg) (0 : Int64)) else (ckn ((x6 + (1 : Int32)) < 0 ∨ 13 ≤ (x6 + (1 : Int32)).toNatClampNeg) (t_X4_playQuarter_57  k_13 this_cases x1 x2 x3 x4 x6 (this_cases x6.toNatClampNeg) (this_cases (x6 + (1 : Int32)).toNatClampNeg)))))
def t_X4_playQuarter_13   (n : Nat) : (Nat → Int64) → Int32 → Int32 → Int32 → Int64 → Int32 → (Option ((Nat → Int64))) := Nat.rec (fun _ _ _ _ _ _ => none) (fun _ ih => t_X4_playQuarter_13_b   ih) n
def t_X4_playQuarter  (this_cases : Nat → Int64) (x1 : Int32) (x2 : Int32) : Option ((Nat → Int64)) := t_X4_playQuarter_13   lfuel this_cases x1 x2 (((100 : Int32) - x1) - x2) (0 : Int64) (0 : Int32)
set_option maxHeartbeats 4000000 in
set_option maxRecDepth 100000 in
theorem b_X4_playQuarter_57 {p : Program} {l : Launch} {e : Env} {s : State} {m : MethodId} {args : Array Value} {below : List Frame} {meth : Method} {c : Code} {D : va_G} {A : Nat → Prop} {cI cJ cZ : ClassId} (X : Cx p m c cX4_playQuarter 11 s args wsX4_playQuarter RX4 D (tys3 cI cJ cZ) meth none) (_ _ _ : ClassId)  (h_this : Nat) (q_this : Nat → Nat) (this_upper : Int64) (this_lower : Int64) (z0 : Nat → Int64) (k_13 : (Nat → Int64) → Int32 → Int32 → Int32 → Int64 → Int32 → (Option ((Nat → Int64)))) (hk_13 : ∀ (this_cases : Nat → Int64) (x1 : Int32) (x2 : Int32) (x3 : Int32) (x4 : Int64) (x6 : Int32), k_13 this_cases x1 x2 x3 x4 x6 = some z0 → J p l e rmX4_playQuarter s m args below meth c D A 11 (QV D below args s A (w_X4_playQuarter cI cJ cZ h_this q_this this_upper this_lower z0)) 0 0 (w_X4_playQuarter cI cJ cZ h_this q_this this_upper this_lower this_cases) [(0, .ref h_this), (1, .int x1), (2, .int x2), (3, .int x3), (4, .long x4), (6, .int x6)] [] 13) (this_cases : Nat → Int64) (x1 : Int32) (x2 : Int32) (x3 : Int32) (x4 : Int64) (x6 : Int32) (x7 : Int64) (s0 : Int64) (hT : t_X4_playQuarter_57  k_13 this_cases x1 x2 x3 x4 x6 x7 s0 = some z0) : J p l e rmX4_playQuarter s m args below meth c D A 11 (QV D below args s A (w_X4_playQuarter cI cJ cZ h_this q_this this_upper this_lower z0)) 0 0 (w_X4_playQuarter cI cJ cZ h_this q_this this_upper this_lower this_cases) [(0, .ref h_this), (1, .int x1), (2, .int x2), (3, .int x3), (4, .long x4), (6, .int x6), (7, .long x7)] [.long s0] 57 := by
  unfold t_X4_playQuarter_57 at hT
  refine J_lstore (lv' := [(9, .long s0), (0, .ref h_this), (1, .int x1), (2, .int x2), (3, .int x3), (4, .long x4), (6, .int x6), (7, .long x7)]) X dX4_playQuarter_57 (by decide) rfl ?_
  refine J_aload_n X dX4_playQuarter_59 1 rfl ?_
  refine J_get (C := RX4) (T := TX4) (N := 3) (ci := 4) (v := .ref (q_this 0)) X in_X4_playQuarter_X4 0 rfl rfl 0 (by decide) m_X4_playQuarter_f9 rfl dX4_playQuarter_60 ?_
  refine J_iload X dX4_playQuarter_63 6 rfl ?_
  refine J_lload X dX4_playQuarter_65 5 rfl ?_
  refine J_iload_n X dX4_playQuarter_67 2 rfl ?_
  refine J_i2l X dX4_playQuarter_68 ?_
  refine J_lmul X dX4_playQuarter_69 ?_
  refine J_lload X dX4_playQuarter_70 7 rfl ?_
  refine J_iload_n X dX4_playQuarter_72 4 rfl ?_
  refine J_i2l X dX4_playQuarter_73 ?_
  refine J_lmul X dX4_playQuarter_74 ?_
  refine J_ladd X dX4_playQuarter_75 ?_
  refine J_lload X dX4_playQuarter_76 0 rfl ?_
  refine J_iload_n X dX4_playQuarter_78 3 rfl ?_
  refine J_i2l X dX4_playQuarter_79 ?_
  refine J_lmul X dX4_playQuarter_80 ?_
  refine J_ladd X dX4_playQuarter_81 ?_
  obtain ⟨hk1, hT⟩ := ckn_e hT
  refine J_last (ws' := (w_X4_playQuarter cI cJ cZ h_this q_this this_upper this_lower (vp_updL this_cases x6.toNatClampNeg (((x4 * (x1.toInt64)) + (x7 * (x3.toInt64))) + (s0 * (x2.toInt64)))))) X 1 rfl rfl hk1 rfl dX4_playQuarter_82 ?_
  refine J_lload X dX4_playQuarter_83 7 rfl ?_
  refine J_lstore (lv' := [(4, .long x7), (9, .long s0), (0, .ref h_this), (1, .int x1), (2, .int x2), (3, .int x3), (6, .int x6), (7, .long x7)]) X dX4_playQuarter_85 (by decide) rfl ?_
  refine J_iinc (lv' := [(6, .int (x6 + (1 : Int32))), (4, .long x7), (9, .long s0), (0, .ref h_this), (1, .int x1), (2, .int x2), (3, .int x3), (7, .long x7)]) (j := 6) X dX4_playQuarter_87 rfl rfl (by decide) rfl ?_
  refine J_goto (tgt := 13) X dX4_playQuarter_90 (by decide) ?_
  refine J_lv (lv' := [(0, .ref h_this), (1, .int x1), (2, .int x2), (3, .int x3), (4, .long x7), (6, .int (x6 + (1 : Int32)))]) [3, 4, 5, 6, 1, 0] rfl ?_
  exact hk_13 (vp_updL this_cases x6.toNatClampNeg (((x4 * (x1.toInt64)) + (x7 * (x3.toInt64))) + (s0 * (x2.toInt64)))) x1 x2 x3 x7 (x6 + (1 : Int32)) hT
set_option maxHeartbeats 4000000 in
set_option maxRecDepth 100000 in
theorem b_X4_playQuarter_13_b {p : Program} {l : Launch} {e : Env} {s : State} {m : MethodId} {args : Array Value} {below : List Frame} {meth : Method} {c : Code} {D : va_G} {A : Nat → Prop} {cI cJ cZ : ClassId} (X : Cx p m c cX4_playQuarter 11 s args wsX4_playQuarter RX4 D (tys3 cI cJ cZ) meth none) (_ _ _ : ClassId)  (h_this : Nat) (q_this : Nat → Nat) (this_upper : Int64) (this_lower : Int64) (z0 : Nat → Int64) (k_13 : (Nat → Int64) → Int32 → Int32 → Int32 → Int64 → Int32 → (Option ((Nat → Int64)))) (hk_13 : ∀ (this_cases : Nat → Int64) (x1 : Int32) (x2 : Int32) (x3 : Int32) (x4 : Int64) (x6 : Int32), k_13 this_cases x1 x2 x3 x4 x6 = some z0 → J p l e rmX4_playQuarter s m args below meth c D A 11 (QV D below args s A (w_X4_playQuarter cI cJ cZ h_this q_this this_upper this_lower z0)) 0 0 (w_X4_playQuarter cI cJ cZ h_this q_this this_upper this_lower this_cases) [(0, .ref h_this), (1, .int x1), (2, .int x2), (3, .int x3), (4, .long x4), (6, .int x6)] [] 13) (this_cases : Nat → Int64) (x1 : Int32) (x2 : Int32) (x3 : Int32) (x4 : Int64) (x6 : Int32) (hT : t_X4_playQuarter_13_b  k_13 this_cases x1 x2 x3 x4 x6 = some z0) : J p l e rmX4_playQuarter s m args below meth c D A 11 (QV D below args s A (w_X4_playQuarter cI cJ cZ h_this q_this this_upper this_lower z0)) 0 0 (w_X4_playQuarter cI cJ cZ h_this q_this this_upper this_lower this_cases) [(0, .ref h_this), (1, .int x1), (2, .int x2), (3, .int x3), (4, .long x4), (6, .int x6)] [] 13 := by
  unfold t_X4_playQuarter_13_b at hT
  refine J_iload X dX4_playQuarter_13 5 rfl ?_
  refine J_aload_n X dX4_playQuarter_15 0 rfl ?_
  refine J_get (C := RX4) (T := TX4) (N := 3) (ci := 4) (v := .ref (q_this 0)) X in_X4_playQuarter_X4 0 rfl rfl 0 (by decide) m_X4_playQuarter_f9 rfl dX4_playQuarter_16 ?_
  refine J_alen (v := 13) X 1 1 rfl rfl (by decide) dX4_playQuarter_19 ?_
  refine J_icmp_ge (tgt := 93) X dX4_playQuarter_20 (by decide) (fun hc2 => ?_) (fun hc2 => ?_)
  · have hT := ift hT hc2
    cases hT
    exact J_vret X dX4_playQuarter_93
  · have hT := iff_ hT hc2
    refine J_aload_n X dX4_playQuarter_23 0 rfl ?_
    refine J_get (C := RX4) (T := TX4) (N := 3) (ci := 4) (v := .ref (q_this 0)) X in_X4_playQuarter_X4 0 rfl rfl 0 (by decide) m_X4_playQuarter_f9 rfl dX4_playQuarter_24 ?_
    refine J_iload X dX4_playQuarter_27 5 rfl ?_
    obtain ⟨hk3, hT⟩ := ckn_e hT
    refine J_lald X 1 rfl rfl hk3 dX4_playQuarter_29 ?_
    refine J_lstore (lv' := [(7, .long (this_cases x6.toNatClampNeg)), (0, .ref h_this), (1, .int x1), (2, .int x2), (3, .int x3), (4, .long x4), (6, .int x6)]) X dX4_playQuarter_30 (by decide) rfl ?_
    refine J_iload X dX4_playQuarter_32 6 rfl ?_
    refine J_iconst (v := 1) X dX4_playQuarter_34 (by decide) ?_
    refine J_iadd X dX4_playQuarter_35 ?_
    refine J_aload_n X dX4_playQuarter_36 1 rfl ?_
    refine J_get (C := RX4) (T := TX4) (N := 3) (ci := 4) (v := .ref (q_this 0)) X in_X4_playQuarter_X4 0 rfl rfl 0 (by decide) m_X4_playQuarter_f9 rfl dX4_playQuarter_37 ?_
    refine J_alen (v := 13) X 1 1 rfl rfl (by decide) dX4_playQuarter_40 ?_
    refine J_icmp_ge (tgt := 56) X dX4_playQuarter_41 (by decide) (fun hc4 => ?_) (fun hc4 => ?_)
    · have hT := ift hT hc4
      refine J_lconst (v := 0) X dX4_playQuarter_56 (by decide) ?_
      refine J_lv (lv' := [(0, .ref h_this), (1, .int x1), (2, .int x2), (3, .int x3), (4, .long x4), (6, .int x6), (7, .long (this_cases x6.toNatClampNeg))]) [1, 2, 3, 4, 5, 6, 0] rfl ?_
      exact b_X4_playQuarter_57 X cI cJ cZ h_this q_this this_upper this_lower z0 k_13 hk_13 this_cases x1 x2 x3 x4 x6 (this_cases x6.toNatClampNeg) (0 : Int64) hT
    · have hT := iff_ hT hc4
      refine J_aload_n X dX4_playQuarter_44 1 rfl ?_
      refine J_get (C := RX4) (T := TX4) (N := 3) (ci := 4) (v := .ref (q_this 0)) X in_X4_playQuarter_X4 0 rfl rfl 0 (by decide) m_X4_playQuarter_f9 rfl dX4_playQuarter_45 ?_
      refine J_iload X dX4_playQuarter_48 6 rfl ?_
      refine J_iconst (v := 1) X dX4_playQuarter_50 (by decide) ?_
      refine J_iadd X dX4_playQuarter_51 ?_
      obtain ⟨hk5, hT⟩ := ckn_e hT
      refine J_lald X 1 rfl rfl hk5 dX4_playQuarter_52 ?_
      refine J_goto (tgt := 57) X dX4_playQuarter_53 (by decide) ?_
      refine J_lv (lv' := [(0, .ref h_this), (1, .int x1), (2, .int x2), (3, .int x3), (4, .long x4), (6, .int x6), (7, .long (this_cases x6.toNatClampNeg))]) [1, 2, 3, 4, 5, 6, 0] rfl ?_
      exact b_X4_playQuarter_57 X cI cJ cZ h_this q_this this_upper this_lower z0 k_13 hk_13 this_cases x1 x2 x3 x4 x6 (this_cases x6.toNatClampNeg) (this_cases (x6 + (1 : Int32)).toNatClampNeg) hT
set_option maxHeartbeats 4000000 in
set_option maxRecDepth 100000 in
theorem b_X4_playQuarter_13 {p : Program} {l : Launch} {e : Env} {s : State} {m : MethodId} {args : Array Value} {below : List Frame} {meth : Method} {c : Code} {D : va_G} {A : Nat → Prop} {cI cJ cZ : ClassId} (X : Cx p m c cX4_playQuarter 11 s args wsX4_playQuarter RX4 D (tys3 cI cJ cZ) meth none) (_ _ _ : ClassId)  (h_this : Nat) (q_this : Nat → Nat) (this_upper : Int64) (this_lower : Int64) (z0 : Nat → Int64)  : ∀ (n : Nat) (this_cases : Nat → Int64) (x1 : Int32) (x2 : Int32) (x3 : Int32) (x4 : Int64) (x6 : Int32) (hT : t_X4_playQuarter_13   n this_cases x1 x2 x3 x4 x6 = some z0), J p l e rmX4_playQuarter s m args below meth c D A 11 (QV D below args s A (w_X4_playQuarter cI cJ cZ h_this q_this this_upper this_lower z0)) 0 0 (w_X4_playQuarter cI cJ cZ h_this q_this this_upper this_lower this_cases) [(0, .ref h_this), (1, .int x1), (2, .int x2), (3, .int x3), (4, .long x4), (6, .int x6)] [] 13 := by
  intro n
  induction n with
  | zero => intro this_cases x1 x2 x3 x4 x6 hT; cases hT
  | succ n ih =>
    intro this_cases x1 x2 x3 x4 x6 hT
    exact b_X4_playQuarter_13_b X cI cJ cZ h_this q_this this_upper this_lower z0  (t_X4_playQuarter_13   n) ih this_cases x1 x2 x3 x4 x6 hT
set_option maxHeartbeats 4000000 in
set_option maxRecDepth 100000 in
theorem c_X4_playQuarter (l : Launch) (D : va_G) (cI cJ cZ : ClassId) (h_this : Nat) (q_this : Nat → Nat) (this_upper : Int64) (this_lower : Int64) (this_cases : Nat → Int64) (x1 : Int32) (x2 : Int32) (z0 : Nat → Int64) (hT : t_X4_playQuarter  this_cases x1 x2 = some z0) : Cv l yX4_playQuarter wsX4_playQuarter rmX4_playQuarter D (tys3 cI cJ cZ) [.ref h_this, .int x1, .int x2] (w_X4_playQuarter cI cJ cZ h_this q_this this_upper this_lower this_cases) (w_X4_playQuarter cI cJ cZ h_this q_this this_upper this_lower z0) := by
  refine Cv.ofJ (cc := cX4_playQuarter) (nL := 11) (rt := none) (own := RX4) (by decide) rfl rfl (by decide) ?_
  intro p e s m below meth c A X
  unfold t_X4_playQuarter at hT
  refine J_lv (lv' := [(0, .ref h_this), (1, .int x1), (2, .int x2)]) [0, 1, 2] rfl ?_
  refine J_bipush (v := 100) X dX4_playQuarter_0 (by decide) ?_
  refine J_iload_n X dX4_playQuarter_2 1 rfl ?_
  refine J_isub X dX4_playQuarter_3 ?_
  refine J_iload_n X dX4_playQuarter_4 2 rfl ?_
  refine J_isub X dX4_playQuarter_5 ?_
  refine J_istore_n (lv' := [(3, .int (((100 : Int32) - x1) - x2)), (0, .ref h_this), (1, .int x1), (2, .int x2)]) X dX4_playQuarter_6 (by decide) rfl ?_
  refine J_lconst (v := 0) X dX4_playQuarter_7 (by decide) ?_
  refine J_lstore (lv' := [(4, .long (0 : Int64)), (3, .int (((100 : Int32) - x1) - x2)), (0, .ref h_this), (1, .int x1), (2, .int x2)]) X dX4_playQuarter_8 (by decide) rfl ?_
  refine J_iconst (v := 0) X dX4_playQuarter_10 (by decide) ?_
  refine J_istore (lv' := [(6, .int (0 : Int32)), (4, .long (0 : Int64)), (3, .int (((100 : Int32) - x1) - x2)), (0, .ref h_this), (1, .int x1), (2, .int x2)]) X dX4_playQuarter_11 (by decide) rfl ?_
  refine J_lv (lv' := [(0, .ref h_this), (1, .int x1), (2, .int x2), (3, .int (((100 : Int32) - x1) - x2)), (4, .long (0 : Int64)), (6, .int (0 : Int32))]) [3, 4, 5, 2, 1, 0] rfl ?_
  exact b_X4_playQuarter_13 X cI cJ cZ h_this q_this this_upper this_lower z0  lfuel this_cases x1 x2 (((100 : Int32) - x1) - x2) (0 : Int64) (0 : Int32) hT
-- ===== SoldMatches$Odds.playQuarters(III)V
abbrev rmX4_playQuarters : Room := { frames := 1, cells := 0, slots := 0, locals := 30 }
def w_X4_playQuarters (cI cJ cZ : ClassId) (h_this : Nat) (q_this : Nat → Nat) (this_upper : Int64) (this_lower : Int64) (this_cases : Nat → Int64) : va_W := [(h_this, .inr (4, oFX4 q_this this_upper this_lower)), ((q_this 0), .inl (cJ, 13, .inr (.inl this_cases)))]
theorem cw_X4_playQuarters_X4_playQuarter_25 {s : State} {args : Array Value} (hts : ∀ w ∈ wsX4_playQuarters, w.before args s = true) : CallW rmX4_playQuarters s args RX4 RX4 25 yX4_playQuarter cX4_playQuarter 11 none wsX4_playQuarter rmX4_playQuarter 0 0 2 := cwV 2 hts gX4_playQuarters_X4_playQuarter rfl rfl rfl (by decide +kernel) ⟨by decide, by decide⟩
theorem m_X4_playQuarters_f15 : Cond.fieldLink RX4 15 "SoldMatches$Odds" "lower" "J" ∈ wsX4_playQuarters := List.mem_of_getElem? (i := 2) rfl
theorem in_X4_playQuarters_X4 : ∀ w ∈ wsX40, w ∈ wsX4_playQuarters := fun w h => List.mem_cons_of_mem _ (List.mem_append_right _ h)
theorem m_X4_playQuarters_c29 : Cond.constantLong RX4 29 (100) ∈ wsX4_playQuarters := List.mem_of_getElem? (i := 3) rfl
theorem m_X4_playQuarters_f9 : Cond.fieldLink RX4 9 "SoldMatches$Odds" "cases" "[J" ∈ wsX4_playQuarters := List.mem_of_getElem? (i := 1) rfl
theorem cw_X4_playQuarters_J7_fill_d0a16_19 {s : State} {args : Array Value} (hts : ∀ w ∈ wsX4_playQuarters, w.before args s = true) : CallB rmX4_playQuarters s args RX4 19 yJ7_fill_d0a16 cJ7_fill_d0a16 5 none wsJ7_fill_d0a16 rmJ7_fill_d0a16 0 0 2 ∧ (Cond.static yJ7_fill_d0a16).before args s = true := va_cwS 2 hts gX4_playQuarters_J7_fill_d0a16 rfl rfl rfl (by decide +kernel) ⟨by decide, by decide⟩
def t_X4_playQuarters_24_b  (k_24 : Int64 → (Nat → Int64) → Int32 → Int32 → Int32 → Int32 → (Option (Int64 × (Nat → Int64)))) (this_lower : Int64) (this_cases : Nat → Int64) (x1 : Int32) (x2 : Int32) (x3 : Int32) (x4 : Int32) : Option (Int64 × (Nat → Int64)) := if x1 ≤ x4 then (some (this_lower, this_cases)) else (bd1 (t_X4_playQuarter this_cases x2 x3) (fun u2_0 => k_24 (this_lower * (100 : Int64)) u2_0 x1 x2 x3 (x4 + (1 : Int32))))
def t_X4_playQuarters_24   (n : Nat) : Int64 → (Nat → Int64) → Int32 → Int32 → Int32 → Int32 → (Option (Int64 × (Nat → Int64))) := Nat.rec (fun _ _ _ _ _ _ => none) (fun _ ih => t_X4_playQuarters_24_b   ih) n
def t_X4_playQuarters  (this_lower : Int64) (this_cases : Nat → Int64) (x1 : Int32) (x2 : Int32) (x3 : Int32) : Option (Int64 × (Nat → Int64)) := bd1 (t_J7_fill_d0a16 13 this_cases (0 : Int64)) (fun u3_0 => ckn ((6 : Int32) < 0 ∨ 13 ≤ (6 : Int32).toNatClampNeg) (t_X4_playQuarters_24   lfuel (1 : Int64) (vp_updL u3_0 (6 : Int32).toNatClampNeg (1 : Int64)) x1 x2 x3 (0 : Int32)))
set_option maxHeartbeats 4000000 in
set_option maxRecDepth 100000 in
theorem b_X4_playQuarters_24_b {p : Program} {l : Launch} {e : Env} {s : State} {m : MethodId} {args : Array Value} {below : List Frame} {meth : Method} {c : Code} {D : va_G} {A : Nat → Prop} {cI cJ cZ : ClassId} (X : Cx p m c cX4_playQuarters 5 s args wsX4_playQuarters RX4 D (tys3 cI cJ cZ) meth none) (_ _ _ : ClassId)  (h_this : Nat) (q_this : Nat → Nat) (this_upper : Int64) (z0 : Int64) (z1 : Nat → Int64) (k_24 : Int64 → (Nat → Int64) → Int32 → Int32 → Int32 → Int32 → (Option (Int64 × (Nat → Int64)))) (hk_24 : ∀ (this_lower : Int64) (this_cases : Nat → Int64) (x1 : Int32) (x2 : Int32) (x3 : Int32) (x4 : Int32), k_24 this_lower this_cases x1 x2 x3 x4 = some (z0, z1) → J p l e rmX4_playQuarters s m args below meth c D A 5 (QV D below args s A (w_X4_playQuarters cI cJ cZ h_this q_this this_upper z0 z1)) 0 0 (w_X4_playQuarters cI cJ cZ h_this q_this this_upper this_lower this_cases) [(0, .ref h_this), (1, .int x1), (2, .int x2), (3, .int x3), (4, .int x4)] [] 24) (this_lower : Int64) (this_cases : Nat → Int64) (x1 : Int32) (x2 : Int32) (x3 : Int32) (x4 : Int32) (hT : t_X4_playQuarters_24_b  k_24 this_lower this_cases x1 x2 x3 x4 = some (z0, z1)) : J p l e rmX4_playQuarters s m args below meth c D A 5 (QV D below args s A (w_X4_playQuarters cI cJ cZ h_this q_this this_upper z0 z1)) 0 0 (w_X4_playQuarters cI cJ cZ h_this q_this this_upper this_lower this_cases) [(0, .ref h_this), (1, .int x1), (2, .int x2), (3, .int x3), (4, .int x4)] [] 24 := by
  unfold t_X4_playQuarters_24_b at hT
  refine J_iload X dX4_playQuarters_24 4 rfl ?_
  refine J_iload_n X dX4_playQuarters_26 1 rfl ?_
  refine J_icmp_ge (tgt := 54) X dX4_playQuarters_27 (by decide) (fun hc1 => ?_) (fun hc1 => ?_)
  · have hT := ift hT hc1
    cases hT
    exact J_vret X dX4_playQuarters_54
  · have hT := iff_ hT hc1
    refine J_aload_n X dX4_playQuarters_30 0 rfl ?_
    refine J_iload_n X dX4_playQuarters_31 2 rfl ?_
    refine J_iload_n X dX4_playQuarters_32 3 rfl ?_
    obtain ⟨u2_0, hq2, hT⟩ := bd1_e hT
    refine J_cv (wc := (w_X4_playQuarter cI cJ cZ h_this q_this this_upper this_lower this_cases)) (wc' := (w_X4_playQuarter cI cJ cZ h_this q_this this_upper this_lower u2_0)) (ws' := (w_X4_playQuarters cI cJ cZ h_this q_this this_upper this_lower u2_0)) [0, 1] rfl rfl rfl rfl (run_V (As := [.int x2, .int x3]) (rest := []) X (c_X4_playQuarter l D cI cJ cZ h_this q_this this_upper this_lower this_cases x2 x3 u2_0 hq2) (cw_X4_playQuarters_X4_playQuarter_25 X.1.2.2.2.2) 0 rfl rfl rfl rfl (by decide) dX4_playQuarters_33 ⟨Nat.zero_le _, Nat.zero_le _⟩) ?_
    refine J_aload_n X dX4_playQuarters_36 0 rfl ?_
    refine J_dup X dX4_playQuarters_37 rfl ?_
    refine J_get (C := RX4) (T := TX4) (N := 3) (ci := 4) (v := .long this_lower) X in_X4_playQuarters_X4 0 rfl rfl 2 (by decide) m_X4_playQuarters_f15 rfl dX4_playQuarters_38 ?_
    refine J_ldc2 X dX4_playQuarters_41 m_X4_playQuarters_c29 ?_
    refine J_lmul X dX4_playQuarters_44 ?_
    refine J_put (host := "") (C := RX4) (T := TX4) (N := 3) (ci := 4) (ws' := (w_X4_playQuarters cI cJ cZ h_this q_this this_upper (this_lower * (100 : Int64)) u2_0)) X in_X4_playQuarters_X4 0 rfl rfl 2 (by decide) tyX4 tyX4_ok nmX4 m_X4_playQuarters_f15 rfl rfl rfl (by decide) rfl dX4_playQuarters_45 ?_
    refine J_iinc (lv' := [(4, .int (x4 + (1 : Int32))), (0, .ref h_this), (1, .int x1), (2, .int x2), (3, .int x3)]) (j := 4) X dX4_playQuarters_48 rfl rfl (by decide) rfl ?_
    refine J_goto (tgt := 24) X dX4_playQuarters_51 (by decide) ?_
    refine J_lv (lv' := [(0, .ref h_this), (1, .int x1), (2, .int x2), (3, .int x3), (4, .int (x4 + (1 : Int32)))]) [1, 2, 3, 4, 0] rfl ?_
    exact hk_24 (this_lower * (100 : Int64)) u2_0 x1 x2 x3 (x4 + (1 : Int32)) hT
set_option maxHeartbeats 4000000 in
set_option maxRecDepth 100000 in
theorem b_X4_playQuarters_24 {p : Program} {l : Launch} {e : Env} {s : State} {m : MethodId} {args : Array Value} {below : List Frame} {meth : Method} {c : Code} {D : va_G} {A : Nat → Prop} {cI cJ cZ : ClassId} (X : Cx p m c cX4_playQuarters 5 s args wsX4_playQuarters RX4 D (tys3 cI cJ cZ) meth none) (_ _ _ : ClassId)  (h_this : Nat) (q_this : Nat → Nat) (this_upper : Int64) (z0 : Int64) (z1 : Nat → Int64)  : ∀ (n : Nat) (this_lower : Int64) (this_cases : Nat → Int64) (x1 : Int32) (x2 : Int32) (x3 : Int32) (x4 : Int32) (hT : t_X4_playQuarters_24   n this_lower this_cases x1 x2 x3 x4 = some (z0, z1)), J p l e rmX4_playQuarters s m args below meth c D A 5 (QV D below args s A (w_X4_playQuarters cI cJ cZ h_this q_this this_upper z0 z1)) 0 0 (w_X4_playQuarters cI cJ cZ h_this q_this this_upper this_lower this_cases) [(0, .ref h_this), (1, .int x1), (2, .int x2), (3, .int x3), (4, .int x4)] [] 24 := by
  intro n
  induction n with
  | zero => intro this_lower this_cases x1 x2 x3 x4 hT; cases hT
  | succ n ih =>
    intro this_lower this_cases x1 x2 x3 x4 hT
    exact b_X4_playQuarters_24_b X cI cJ cZ h_this q_this this_upper z0 z1  (t_X4_playQuarters_24   n) ih this_lower this_cases x1 x2 x3 x4 hT
set_option maxHeartbeats 4000000 in
set_option maxRecDepth 100000 in
theorem c_X4_playQuarters (l : Launch) (D : va_G) (cI cJ cZ : ClassId) (h_this : Nat) (q_this : Nat → Nat) (this_upper : Int64) (this_lower : Int64) (this_cases : Nat → Int64) (x1 : Int32) (x2 : Int32) (x3 : Int32) (z0 : Int64) (z1 : Nat → Int64) (hT : t_X4_playQuarters  this_lower this_cases x1 x2 x3 = some (z0, z1)) : Cv l yX4_playQuarters wsX4_playQuarters rmX4_playQuarters D (tys3 cI cJ cZ) [.ref h_this, .int x1, .int x2, .int x3] (w_X4_playQuarters cI cJ cZ h_this q_this this_upper this_lower this_cases) (w_X4_playQuarters cI cJ cZ h_this q_this this_upper z0 z1) := by
  refine Cv.ofJ (cc := cX4_playQuarters) (nL := 5) (rt := none) (own := RX4) (by decide) rfl rfl (by decide) ?_
  intro p e s m below meth c A X
  unfold t_X4_playQuarters at hT
  refine J_lv (lv' := [(0, .ref h_this), (1, .int x1), (2, .int x2), (3, .int x3)]) [0, 1, 2, 3] rfl ?_
  refine J_aload_n X dX4_playQuarters_0 0 rfl ?_
  refine J_get (C := RX4) (T := TX4) (N := 3) (ci := 4) (v := .ref (q_this 0)) X in_X4_playQuarters_X4 0 rfl rfl 0 (by decide) m_X4_playQuarters_f9 rfl dX4_playQuarters_1 ?_
  refine J_lconst (v := 0) X dX4_playQuarters_4 (by decide) ?_
  obtain ⟨u3_0, hq3, hT⟩ := bd1_e hT
  refine J_cv (wc := (w_J7_fill_d0a16 cI cJ cZ (q_this 0) 13 this_cases)) (wc' := (w_J7_fill_d0a16 cI cJ cZ (q_this 0) 13 u3_0)) (ws' := (w_X4_playQuarters cI cJ cZ h_this q_this this_upper this_lower u3_0)) [1] rfl rfl rfl rfl (run_S (As := [.ref (q_this 0), .long (0 : Int64)]) (rest := []) X (c_J7_fill_d0a16 l D cI cJ cZ (q_this 0) 13 this_cases (0 : Int64) u3_0 hq3) (cw_X4_playQuarters_J7_fill_d0a16_19 X.1.2.2.2.2) rfl rfl (by decide) dX4_playQuarters_5 ⟨Nat.zero_le _, Nat.zero_le _⟩) ?_
  refine J_aload_n X dX4_playQuarters_8 0 rfl ?_
  refine J_get (C := RX4) (T := TX4) (N := 3) (ci := 4) (v := .ref (q_this 0)) X in_X4_playQuarters_X4 0 rfl rfl 0 (by decide) m_X4_playQuarters_f9 rfl dX4_playQuarters_9 ?_
  refine J_bipush (v := 6) X dX4_playQuarters_12 (by decide) ?_
  refine J_lconst (v := 1) X dX4_playQuarters_14 (by decide) ?_
  obtain ⟨hk4, hT⟩ := ckn_e hT
  refine J_last (ws' := (w_X4_playQuarters cI cJ cZ h_this q_this this_upper this_lower (vp_updL u3_0 (6 : Int32).toNatClampNeg (1 : Int64)))) X 1 rfl rfl hk4 rfl dX4_playQuarters_15 ?_
  refine J_aload_n X dX4_playQuarters_16 0 rfl ?_
  refine J_lconst (v := 1) X dX4_playQuarters_17 (by decide) ?_
  refine J_put (host := "") (C := RX4) (T := TX4) (N := 3) (ci := 4) (ws' := (w_X4_playQuarters cI cJ cZ h_this q_this this_upper (1 : Int64) (vp_updL u3_0 (6 : Int32).toNatClampNeg (1 : Int64)))) X in_X4_playQuarters_X4 0 rfl rfl 2 (by decide) tyX4 tyX4_ok nmX4 m_X4_playQuarters_f15 rfl rfl rfl (by decide) rfl dX4_playQuarters_18 ?_
  refine J_iconst (v := 0) X dX4_playQuarters_21 (by decide) ?_
  refine J_istore (lv' := [(4, .int (0 : Int32)), (0, .ref h_this), (1, .int x1), (2, .int x2), (3, .int x3)]) X dX4_playQuarters_22 (by decide) rfl ?_
  refine J_lv (lv' := [(0, .ref h_this), (1, .int x1), (2, .int x2), (3, .int x3), (4, .int (0 : Int32))]) [1, 2, 3, 4, 0] rfl ?_
  exact b_X4_playQuarters_24 X cI cJ cZ h_this q_this this_upper z0 z1  lfuel (1 : Int64) (vp_updL u3_0 (6 : Int32).toNatClampNeg (1 : Int64)) x1 x2 x3 (0 : Int32) hT
