-- ===== SoldMatches$Ranks.sideAt(I)I
abbrev rmX6_sideAt : Room := { frames := 2, cells := 0, slots := 0, locals := 45 }
def w_X6_sideAt (cI cJ cZ : ClassId) (h_this : Nat) (q_this : Nat → Nat) (this_down : Int32) (this_size : Int32) (this_balance : Nat → Int32) (this_plays : Nat → Int32) (this_points : Nat → Int32) : va_W := [(h_this, .inr (6, oFX6 q_this this_down this_size)), ((q_this 4), .inl (cI, 8, .inl this_balance)), ((q_this 5), .inl (cZ, 8, .inl this_plays)), ((q_this 3), .inl (cI, 8, .inl this_points))]
theorem m_X6_sideAt_f25 : Cond.fieldLink RX6 25 "SoldMatches$Ranks" "plays" "[Z" ∈ wsX6_sideAt := List.mem_of_getElem? (i := 1) rfl
theorem in_X6_sideAt_X6 : ∀ w ∈ wsX60, w ∈ wsX6_sideAt := fun w h => List.mem_cons_of_mem _ (List.mem_append_right _ h)
theorem cw_X6_sideAt_X6_placeOf_59 {s : State} {args : Array Value} (hts : ∀ w ∈ wsX6_sideAt, w.before args s = true) : CallW rmX6_sideAt s args RX6 RX6 59 yX6_placeOf cX6_placeOf 4 (some .int) wsX6_placeOf rmX6_placeOf 0 0 1 := cwV 1 hts gX6_sideAt_X6_placeOf rfl rfl rfl (by decide +kernel) ⟨by decide, by decide⟩
def t_X6_sideAt_28  (k_2 : (Nat → Int32) → (Nat → Int32) → (Nat → Int32) → Int32 → Int32 → Option (Int32)) (this_balance : Nat → Int32) (this_plays : Nat → Int32) (this_points : Nat → Int32) (x1 : Int32) (x2 : Int32) : Option (Int32) := k_2 this_balance this_plays this_points x1 (x2 + (1 : Int32))
def t_X6_sideAt_2_b  (k_2 : (Nat → Int32) → (Nat → Int32) → (Nat → Int32) → Int32 → Int32 → Option (Int32)) (this_balance : Nat → Int32) (this_plays : Nat → Int32) (this_points : Nat → Int32) (x1 : Int32) (x2 : Int32) : Option (Int32) := if (8 : Int32) ≤ x2 then (some ((-6 : Int32))) else (ckn (x2 < 0 ∨ 8 ≤ x2.toNatClampNeg) (if (this_plays x2.toNatClampNeg) = 0 then (t_X6_sideAt_28  k_2 this_balance this_plays this_points x1 x2) else (bd1 (t_X6_placeOf this_balance this_plays this_points x2) (fun v4 => if v4 = x1 then (some (x2)) else (t_X6_sideAt_28  k_2 this_balance this_plays this_points x1 x2)))))
def t_X6_sideAt_2   (n : Nat) : (Nat → Int32) → (Nat → Int32) → (Nat → Int32) → Int32 → Int32 → Option (Int32) := Nat.rec (fun _ _ _ _ _ => none) (fun _ ih => t_X6_sideAt_2_b   ih) n
def t_X6_sideAt  (this_balance : Nat → Int32) (this_plays : Nat → Int32) (this_points : Nat → Int32) (x1 : Int32) : Option (Int32) := t_X6_sideAt_2   lfuel this_balance this_plays this_points x1 (0 : Int32)
set_option maxHeartbeats 4000000 in
set_option maxRecDepth 100000 in
theorem b_X6_sideAt_28 {p : Program} {l : Launch} {e : Env} {s : State} {m : MethodId} {args : Array Value} {below : List Frame} {meth : Method} {c : Code} {D : va_G} {A : Nat → Prop} {cI cJ cZ : ClassId} (X : Cx p m c cX6_sideAt 3 s args wsX6_sideAt RX6 D (tys3 cI cJ cZ) meth (some .int)) (_ _ _ : ClassId)  (h_this : Nat) (q_this : Nat → Nat) (this_down : Int32) (this_size : Int32) (r : Int32) (k_2 : (Nat → Int32) → (Nat → Int32) → (Nat → Int32) → Int32 → Int32 → Option (Int32)) (hk_2 : ∀ (this_balance : Nat → Int32) (this_plays : Nat → Int32) (this_points : Nat → Int32) (x1 : Int32) (x2 : Int32), k_2 this_balance this_plays this_points x1 x2 = some r → J p l e rmX6_sideAt s m args below meth c D A 3 (QI D below args s A r (w_X6_sideAt cI cJ cZ h_this q_this this_down this_size this_balance this_plays this_points)) 0 0 (w_X6_sideAt cI cJ cZ h_this q_this this_down this_size this_balance this_plays this_points) [(0, .ref h_this), (1, .int x1), (2, .int x2)] [] 2) (this_balance : Nat → Int32) (this_plays : Nat → Int32) (this_points : Nat → Int32) (x1 : Int32) (x2 : Int32) (hT : t_X6_sideAt_28  k_2 this_balance this_plays this_points x1 x2 = some r) : J p l e rmX6_sideAt s m args below meth c D A 3 (QI D below args s A r (w_X6_sideAt cI cJ cZ h_this q_this this_down this_size this_balance this_plays this_points)) 0 0 (w_X6_sideAt cI cJ cZ h_this q_this this_down this_size this_balance this_plays this_points) [(0, .ref h_this), (1, .int x1), (2, .int x2)] [] 28 := by
  unfold t_X6_sideAt_28 at hT
  refine J_iinc (lv' := [(2, .int (x2 + (1 : Int32))), (0, .ref h_this), (1, .int x1)]) (j := 2) X dX6_sideAt_28 rfl rfl (by decide) rfl ?_
  refine J_goto (tgt := 2) X dX6_sideAt_31 (by decide) ?_
  refine J_lv (lv' := [(0, .ref h_this), (1, .int x1), (2, .int (x2 + (1 : Int32)))]) [1, 2, 0] rfl ?_
  exact hk_2 this_balance this_plays this_points x1 (x2 + (1 : Int32)) hT
set_option maxHeartbeats 4000000 in
set_option maxRecDepth 100000 in
theorem b_X6_sideAt_2_b {p : Program} {l : Launch} {e : Env} {s : State} {m : MethodId} {args : Array Value} {below : List Frame} {meth : Method} {c : Code} {D : va_G} {A : Nat → Prop} {cI cJ cZ : ClassId} (X : Cx p m c cX6_sideAt 3 s args wsX6_sideAt RX6 D (tys3 cI cJ cZ) meth (some .int)) (_ _ _ : ClassId)  (h_this : Nat) (q_this : Nat → Nat) (this_down : Int32) (this_size : Int32) (r : Int32) (k_2 : (Nat → Int32) → (Nat → Int32) → (Nat → Int32) → Int32 → Int32 → Option (Int32)) (hk_2 : ∀ (this_balance : Nat → Int32) (this_plays : Nat → Int32) (this_points : Nat → Int32) (x1 : Int32) (x2 : Int32), k_2 this_balance this_plays this_points x1 x2 = some r → J p l e rmX6_sideAt s m args below meth c D A 3 (QI D below args s A r (w_X6_sideAt cI cJ cZ h_this q_this this_down this_size this_balance this_plays this_points)) 0 0 (w_X6_sideAt cI cJ cZ h_this q_this this_down this_size this_balance this_plays this_points) [(0, .ref h_this), (1, .int x1), (2, .int x2)] [] 2) (this_balance : Nat → Int32) (this_plays : Nat → Int32) (this_points : Nat → Int32) (x1 : Int32) (x2 : Int32) (hT : t_X6_sideAt_2_b  k_2 this_balance this_plays this_points x1 x2 = some r) : J p l e rmX6_sideAt s m args below meth c D A 3 (QI D below args s A r (w_X6_sideAt cI cJ cZ h_this q_this this_down this_size this_balance this_plays this_points)) 0 0 (w_X6_sideAt cI cJ cZ h_this q_this this_down this_size this_balance this_plays this_points) [(0, .ref h_this), (1, .int x1), (2, .int x2)] [] 2 := by
  unfold t_X6_sideAt_2_b at hT
  refine J_iload_n X dX6_sideAt_2 2 rfl ?_
  refine J_bipush (v := 8) X dX6_sideAt_3 (by decide) ?_
  refine J_icmp_ge (tgt := 34) X dX6_sideAt_5 (by decide) (fun hc1 => ?_) (fun hc1 => ?_)
  · have hT := ift hT hc1
    refine J_bipush (v := -6) X dX6_sideAt_34 (by decide) ?_
    cases hT
    exact J_iret X dX6_sideAt_36
  · have hT := iff_ hT hc1
    refine J_aload_n X dX6_sideAt_8 0 rfl ?_
    refine J_get (C := RX6) (T := TX6) (N := 6) (ci := 6) (v := .ref (q_this 5)) X in_X6_sideAt_X6 0 rfl rfl 5 (by decide) m_X6_sideAt_f25 rfl dX6_sideAt_9 ?_
    refine J_iload_n X dX6_sideAt_12 2 rfl ?_
    obtain ⟨hk2, hT⟩ := ckn_e hT
    refine J_zald X 2 rfl rfl hk2 dX6_sideAt_13 ?_
    refine J_if_eq (tgt := 28) X dX6_sideAt_14 (by decide) (fun hc3 => ?_) (fun hc3 => ?_)
    · have hT := ift hT hc3
      exact b_X6_sideAt_28 X cI cJ cZ h_this q_this this_down this_size r k_2 hk_2 this_balance this_plays this_points x1 x2 hT
    · have hT := iff_ hT hc3
      refine J_aload_n X dX6_sideAt_17 0 rfl ?_
      refine J_iload_n X dX6_sideAt_18 2 rfl ?_
      obtain ⟨v4, hq4, hT⟩ := bd1_e hT
      refine J_ci (wc := (w_X6_placeOf cI cJ cZ h_this q_this this_down this_size this_balance this_plays this_points)) (wc' := (w_X6_placeOf cI cJ cZ h_this q_this this_down this_size this_balance this_plays this_points)) (ws' := (w_X6_sideAt cI cJ cZ h_this q_this this_down this_size this_balance this_plays this_points)) [0, 1, 2, 3] [] 4 rfl rfl rfl rfl rfl rfl rfl rfl (run_V (As := [.int x2]) (rest := []) X (c_X6_placeOf l D cI cJ cZ h_this q_this this_down this_size this_balance this_plays this_points x2 v4 hq4) (cw_X6_sideAt_X6_placeOf_59 X.1.2.2.2.2) 0 rfl rfl rfl rfl (Nat.le_of_ble_eq_true rfl) dX6_sideAt_19 ⟨Nat.zero_le _, Nat.zero_le _⟩) ?_
      refine J_iload_n X dX6_sideAt_22 1 rfl ?_
      refine J_icmp_ne (tgt := 28) X dX6_sideAt_23 (by decide) (fun hc5 => ?_) (fun hc5 => ?_)
      · have hT := iff_ hT hc5
        exact b_X6_sideAt_28 X cI cJ cZ h_this q_this this_down this_size r k_2 hk_2 this_balance this_plays this_points x1 x2 hT
      · have hT := ift hT hc5
        refine J_iload_n X dX6_sideAt_26 2 rfl ?_
        cases hT
        exact J_iret X dX6_sideAt_27
set_option maxHeartbeats 4000000 in
set_option maxRecDepth 100000 in
theorem b_X6_sideAt_2 {p : Program} {l : Launch} {e : Env} {s : State} {m : MethodId} {args : Array Value} {below : List Frame} {meth : Method} {c : Code} {D : va_G} {A : Nat → Prop} {cI cJ cZ : ClassId} (X : Cx p m c cX6_sideAt 3 s args wsX6_sideAt RX6 D (tys3 cI cJ cZ) meth (some .int)) (_ _ _ : ClassId)  (h_this : Nat) (q_this : Nat → Nat) (this_down : Int32) (this_size : Int32) (r : Int32)  : ∀ (n : Nat) (this_balance : Nat → Int32) (this_plays : Nat → Int32) (this_points : Nat → Int32) (x1 : Int32) (x2 : Int32) (hT : t_X6_sideAt_2   n this_balance this_plays this_points x1 x2 = some r), J p l e rmX6_sideAt s m args below meth c D A 3 (QI D below args s A r (w_X6_sideAt cI cJ cZ h_this q_this this_down this_size this_balance this_plays this_points)) 0 0 (w_X6_sideAt cI cJ cZ h_this q_this this_down this_size this_balance this_plays this_points) [(0, .ref h_this), (1, .int x1), (2, .int x2)] [] 2 := by
  intro n
  induction n with
  | zero => intro this_balance this_plays this_points x1 x2 hT; cases hT
  | succ n ih =>
    intro this_balance this_plays this_points x1 x2 hT
    exact b_X6_sideAt_2_b X cI cJ cZ h_this q_this this_down this_size r  (t_X6_sideAt_2   n) ih this_balance this_plays this_points x1 x2 hT
set_option maxHeartbeats 4000000 in
set_option maxRecDepth 100000 in
theorem c_X6_sideAt (l : Launch) (D : va_G) (cI cJ cZ : ClassId) (h_this : Nat) (q_this : Nat → Nat) (this_down : Int32) (this_size : Int32) (this_balance : Nat → Int32) (this_plays : Nat → Int32) (this_points : Nat → Int32) (x1 : Int32) (r : Int32) (hT : t_X6_sideAt  this_balance this_plays this_points x1 = some r) : Ci l yX6_sideAt wsX6_sideAt rmX6_sideAt D (tys3 cI cJ cZ) [.ref h_this, .int x1] (w_X6_sideAt cI cJ cZ h_this q_this this_down this_size this_balance this_plays this_points) r (w_X6_sideAt cI cJ cZ h_this q_this this_down this_size this_balance this_plays this_points) := by
  refine Ci.ofJ (cc := cX6_sideAt) (nL := 3) (rt := (some .int)) (own := RX6) (by decide) rfl rfl (Nat.le_of_ble_eq_true rfl) ?_
  intro p e s m below meth c A X
  unfold t_X6_sideAt at hT
  refine J_lv (lv' := [(0, .ref h_this), (1, .int x1)]) [0, 1] rfl ?_
  refine J_iconst (v := 0) X dX6_sideAt_0 (by decide) ?_
  refine J_istore_n (lv' := [(2, .int (0 : Int32)), (0, .ref h_this), (1, .int x1)]) X dX6_sideAt_1 (by decide) rfl ?_
  refine J_lv (lv' := [(0, .ref h_this), (1, .int x1), (2, .int (0 : Int32))]) [1, 2, 0] rfl ?_
  exact b_X6_sideAt_2 X cI cJ cZ h_this q_this this_down this_size r  lfuel this_balance this_plays this_points x1 (0 : Int32) hT
-- ===== SoldMatches$Ranks.isDown(I)Z
abbrev rmX6_isDown : Room := { frames := 2, cells := 0, slots := 0, locals := 45 }
def w_X6_isDown (cI cJ cZ : ClassId) (h_this : Nat) (q_this : Nat → Nat) (this_down : Int32) (this_size : Int32) (this_balance : Nat → Int32) (this_plays : Nat → Int32) (this_points : Nat → Int32) : va_W := [(h_this, .inr (6, oFX6 q_this this_down this_size)), ((q_this 4), .inl (cI, 8, .inl this_balance)), ((q_this 5), .inl (cZ, 8, .inl this_plays)), ((q_this 3), .inl (cI, 8, .inl this_points))]
theorem cw_X6_isDown_X6_placeOf_59 {s : State} {args : Array Value} (hts : ∀ w ∈ wsX6_isDown, w.before args s = true) : CallW rmX6_isDown s args RX6 RX6 59 yX6_placeOf cX6_placeOf 4 (some .int) wsX6_placeOf rmX6_placeOf 0 0 1 := cwV 1 hts gX6_isDown_X6_placeOf rfl rfl rfl (by decide +kernel) ⟨by decide, by decide⟩
theorem m_X6_isDown_f48 : Cond.fieldLink RX6 48 "SoldMatches$Ranks" "size" "I" ∈ wsX6_isDown := List.mem_of_getElem? (i := 1) rfl
theorem in_X6_isDown_X6 : ∀ w ∈ wsX60, w ∈ wsX6_isDown := fun w h => List.mem_cons_of_mem _ (List.mem_append_right _ h)
theorem m_X6_isDown_f9 : Cond.fieldLink RX6 9 "SoldMatches$Ranks" "down" "I" ∈ wsX6_isDown := List.mem_of_getElem? (i := 2) rfl
def t_X6_isDown_22   (this_down : Int32) (this_size : Int32) (this_balance : Nat → Int32) (this_plays : Nat → Int32) (this_points : Nat → Int32) (s0 : Int32) : Option (Int32) := ckn (¬ (s0 = 0 ∨ s0 = 1)) (some (s0))
def t_X6_isDown  (this_down : Int32) (this_size : Int32) (this_balance : Nat → Int32) (this_plays : Nat → Int32) (this_points : Nat → Int32) (x1 : Int32) : Option (Int32) := bd1 (t_X6_placeOf this_balance this_plays this_points x1) (fun v2 => if v2 < (this_size - this_down) then (t_X6_isDown_22   this_down this_size this_balance this_plays this_points (0 : Int32)) else (t_X6_isDown_22   this_down this_size this_balance this_plays this_points (1 : Int32)))
set_option maxHeartbeats 4000000 in
set_option maxRecDepth 100000 in
theorem b_X6_isDown_22 {p : Program} {l : Launch} {e : Env} {s : State} {m : MethodId} {args : Array Value} {below : List Frame} {meth : Method} {c : Code} {D : va_G} {A : Nat → Prop} {cI cJ cZ : ClassId} (X : Cx p m c cX6_isDown 2 s args wsX6_isDown RX6 D (tys3 cI cJ cZ) meth (some .boolean)) (_ _ _ : ClassId)  (h_this : Nat) (q_this : Nat → Nat)  (r : Int32)  (this_down : Int32) (this_size : Int32) (this_balance : Nat → Int32) (this_plays : Nat → Int32) (this_points : Nat → Int32) (s0 : Int32) (hT : t_X6_isDown_22   this_down this_size this_balance this_plays this_points s0 = some r) : J p l e rmX6_isDown s m args below meth c D A 2 (QI D below args s A r (w_X6_isDown cI cJ cZ h_this q_this this_down this_size this_balance this_plays this_points)) 0 0 (w_X6_isDown cI cJ cZ h_this q_this this_down this_size this_balance this_plays this_points) [(0, .ref h_this)] [.int s0] 22 := by
  unfold t_X6_isDown_22 at hT
  obtain ⟨hk1, hT⟩ := ckn_e hT
  cases hT
  exact J_zret X (Decidable.not_not.mp hk1) dX6_isDown_22
set_option maxHeartbeats 4000000 in
set_option maxRecDepth 100000 in
theorem c_X6_isDown (l : Launch) (D : va_G) (cI cJ cZ : ClassId) (h_this : Nat) (q_this : Nat → Nat) (this_down : Int32) (this_size : Int32) (this_balance : Nat → Int32) (this_plays : Nat → Int32) (this_points : Nat → Int32) (x1 : Int32) (r : Int32) (hT : t_X6_isDown  this_down this_size this_balance this_plays this_points x1 = some r) : Ci l yX6_isDown wsX6_isDown rmX6_isDown D (tys3 cI cJ cZ) [.ref h_this, .int x1] (w_X6_isDown cI cJ cZ h_this q_this this_down this_size this_balance this_plays this_points) r (w_X6_isDown cI cJ cZ h_this q_this this_down this_size this_balance this_plays this_points) := by
  refine Ci.ofJ (cc := cX6_isDown) (nL := 2) (rt := (some .boolean)) (own := RX6) (by decide) rfl rfl (Nat.le_of_ble_eq_true rfl) ?_
  intro p e s m below meth c A X
  unfold t_X6_isDown at hT
  refine J_lv (lv' := [(0, .ref h_this), (1, .int x1)]) [0, 1] rfl ?_
  refine J_aload_n X dX6_isDown_0 0 rfl ?_
  refine J_iload_n X dX6_isDown_1 1 rfl ?_
  obtain ⟨v2, hq2, hT⟩ := bd1_e hT
  refine J_ci (wc := (w_X6_placeOf cI cJ cZ h_this q_this this_down this_size this_balance this_plays this_points)) (wc' := (w_X6_placeOf cI cJ cZ h_this q_this this_down this_size this_balance this_plays this_points)) (ws' := (w_X6_isDown cI cJ cZ h_this q_this this_down this_size this_balance this_plays this_points)) [0, 1, 2, 3] [] 4 rfl rfl rfl rfl rfl rfl rfl rfl (run_V (As := [.int x1]) (rest := []) X (c_X6_placeOf l D cI cJ cZ h_this q_this this_down this_size this_balance this_plays this_points x1 v2 hq2) (cw_X6_isDown_X6_placeOf_59 X.1.2.2.2.2) 0 rfl rfl rfl rfl (Nat.le_of_ble_eq_true rfl) dX6_isDown_2 ⟨Nat.zero_le _, Nat.zero_le _⟩) ?_
  refine J_aload_n X dX6_isDown_5 0 rfl ?_
  refine J_get (C := RX6) (T := TX6) (N := 6) (ci := 6) (v := .int this_size) X in_X6_isDown_X6 0 rfl rfl 1 (by decide) m_X6_isDown_f48 rfl dX6_isDown_6 ?_
  refine J_aload_n X dX6_isDown_9 0 rfl ?_
  refine J_get (C := RX6) (T := TX6) (N := 6) (ci := 6) (v := .int this_down) X in_X6_isDown_X6 0 rfl rfl 0 (by decide) m_X6_isDown_f9 rfl dX6_isDown_10 ?_
  refine J_isub X dX6_isDown_13 ?_
  refine J_icmp_lt (tgt := 21) X dX6_isDown_14 (by decide) (fun hc3 => ?_) (fun hc3 => ?_)
  · have hT := ift hT hc3
    refine J_iconst (v := 0) X dX6_isDown_21 (by decide) ?_
    refine J_lv (lv' := [(0, .ref h_this)]) [0] rfl ?_
    exact b_X6_isDown_22 X cI cJ cZ h_this q_this  r  this_down this_size this_balance this_plays this_points (0 : Int32) hT
  · have hT := iff_ hT hc3
    refine J_iconst (v := 1) X dX6_isDown_17 (by decide) ?_
    refine J_goto (tgt := 22) X dX6_isDown_18 (by decide) ?_
    refine J_lv (lv' := [(0, .ref h_this)]) [0] rfl ?_
    exact b_X6_isDown_22 X cI cJ cZ h_this q_this  r  this_down this_size this_balance this_plays this_points (1 : Int32) hT
-- ===== SoldMatches$Ranks.takingToGoDown(I)I
abbrev rmX6_takingToGoDown : Room := { frames := 3, cells := 0, slots := 0, locals := 66 }
def w_X6_takingToGoDown (cI cJ cZ : ClassId) (h_this : Nat) (q_this : Nat → Nat) (this_down : Int32) (this_size : Int32) (this_balance : Nat → Int32) (this_plays : Nat → Int32) (this_points : Nat → Int32) : va_W := [(h_this, .inr (6, oFX6 q_this this_down this_size)), ((q_this 4), .inl (cI, 8, .inl this_balance)), ((q_this 5), .inl (cZ, 8, .inl this_plays)), ((q_this 3), .inl (cI, 8, .inl this_points))]
theorem m_X6_takingToGoDown_f19 : Cond.fieldLink RX6 19 "SoldMatches$Ranks" "points" "[I" ∈ wsX6_takingToGoDown := List.mem_of_getElem? (i := 1) rfl
theorem in_X6_takingToGoDown_X6 : ∀ w ∈ wsX60, w ∈ wsX6_takingToGoDown := fun w h => List.mem_cons_of_mem _ (List.mem_append_right _ h)
theorem cw_X6_takingToGoDown_X6_isDown_63 {s : State} {args : Array Value} (hts : ∀ w ∈ wsX6_takingToGoDown, w.before args s = true) : CallW rmX6_takingToGoDown s args RX6 RX6 63 yX6_isDown cX6_isDown 2 (some .boolean) wsX6_isDown rmX6_isDown 0 0 1 := cwV 1 hts gX6_takingToGoDown_X6_isDown rfl rfl rfl (by decide +kernel) ⟨by decide, by decide⟩
def t_X6_takingToGoDown_54   (this_down : Int32) (this_size : Int32) (this_balance : Nat → Int32) (this_plays : Nat → Int32) (this_points : Nat → Int32) (x1 : Int32) (x2 : Int32) (x3 : Int32) : Option (Int32 × (Nat → Int32)) := ckn (x1 < 0 ∨ 8 ≤ x1.toNatClampNeg) (some (x3, upd this_points x1.toNatClampNeg x2))
def t_X6_takingToGoDown_48  (k_13 : Int32 → Int32 → (Nat → Int32) → (Nat → Int32) → (Nat → Int32) → Int32 → Int32 → Int32 → Int32 → (Option (Int32 × (Nat → Int32)))) (this_down : Int32) (this_size : Int32) (this_balance : Nat → Int32) (this_plays : Nat → Int32) (this_points : Nat → Int32) (x1 : Int32) (x2 : Int32) (x3 : Int32) (x4 : Int32) : Option (Int32 × (Nat → Int32)) := k_13 this_down this_size this_balance this_plays this_points x1 x2 x3 (x4 + (1 : Int32))
def t_X6_takingToGoDown_13_b  (k_13 : Int32 → Int32 → (Nat → Int32) → (Nat → Int32) → (Nat → Int32) → Int32 → Int32 → Int32 → Int32 → (Option (Int32 × (Nat → Int32)))) (this_down : Int32) (this_size : Int32) (this_balance : Nat → Int32) (this_plays : Nat → Int32) (this_points : Nat → Int32) (x1 : Int32) (x2 : Int32) (x3 : Int32) (x4 : Int32) : Option (Int32 × (Nat → Int32)) := if (200 : Int32) < x4 then (t_X6_takingToGoDown_54   this_down this_size this_balance this_plays this_points x1 x2 x3) else (if x3 = (-6 : Int32) then (ckn (x1 < 0 ∨ 8 ≤ x1.toNatClampNeg) (bd1 (t_X6_isDown this_down this_size this_balance this_plays (upd this_points x1.toNatClampNeg (x2 - x4)) x1) (fun v5 => if v5 = 0 then (t_X6_takingToGoDown_48  k_13 this_down this_size this_balance this_plays (upd this_points x1.toNatClampNeg (x2 - x4)) x1 x2 x3 x4) else (t_X6_takingToGoDown_48  k_13 this_down this_size this_balance this_plays (upd this_points x1.toNatClampNeg (x2 - x4)) x1 x2 x4 x4)))) else (t_X6_takingToGoDown_54   this_down this_size this_balance this_plays this_points x1 x2 x3))
def t_X6_takingToGoDown_13   (n : Nat) : Int32 → Int32 → (Nat → Int32) → (Nat → Int32) → (Nat → Int32) → Int32 → Int32 → Int32 → Int32 → (Option (Int32 × (Nat → Int32))) := Nat.rec (fun _ _ _ _ _ _ _ _ _ => none) (fun _ ih => t_X6_takingToGoDown_13_b   ih) n
def t_X6_takingToGoDown  (this_down : Int32) (this_size : Int32) (this_balance : Nat → Int32) (this_plays : Nat → Int32) (this_points : Nat → Int32) (x1 : Int32) : Option (Int32 × (Nat → Int32)) := ckn (x1 < 0 ∨ 8 ≤ x1.toNatClampNeg) (t_X6_takingToGoDown_13   lfuel this_down this_size this_balance this_plays this_points x1 (this_points x1.toNatClampNeg) (-6 : Int32) (0 : Int32))
set_option maxHeartbeats 4000000 in
set_option maxRecDepth 100000 in
theorem b_X6_takingToGoDown_54 {p : Program} {l : Launch} {e : Env} {s : State} {m : MethodId} {args : Array Value} {below : List Frame} {meth : Method} {c : Code} {D : va_G} {A : Nat → Prop} {cI cJ cZ : ClassId} (X : Cx p m c cX6_takingToGoDown 5 s args wsX6_takingToGoDown RX6 D (tys3 cI cJ cZ) meth (some .int)) (_ _ _ : ClassId)  (h_this : Nat) (q_this : Nat → Nat)  (r : Int32) (z0 : Nat → Int32)  (this_down : Int32) (this_size : Int32) (this_balance : Nat → Int32) (this_plays : Nat → Int32) (this_points : Nat → Int32) (x1 : Int32) (x2 : Int32) (x3 : Int32) (hT : t_X6_takingToGoDown_54   this_down this_size this_balance this_plays this_points x1 x2 x3 = some (r, z0)) : J p l e rmX6_takingToGoDown s m args below meth c D A 5 (QI D below args s A r (w_X6_takingToGoDown cI cJ cZ h_this q_this this_down this_size this_balance this_plays z0)) 0 0 (w_X6_takingToGoDown cI cJ cZ h_this q_this this_down this_size this_balance this_plays this_points) [(0, .ref h_this), (1, .int x1), (2, .int x2), (3, .int x3)] [] 54 := by
  unfold t_X6_takingToGoDown_54 at hT
  refine J_aload_n X dX6_takingToGoDown_54 0 rfl ?_
  refine J_get (C := RX6) (T := TX6) (N := 6) (ci := 6) (v := .ref (q_this 3)) X in_X6_takingToGoDown_X6 0 rfl rfl 3 (by decide) m_X6_takingToGoDown_f19 rfl dX6_takingToGoDown_55 ?_
  refine J_iload_n X dX6_takingToGoDown_58 1 rfl ?_
  refine J_iload_n X dX6_takingToGoDown_59 2 rfl ?_
  obtain ⟨hk1, hT⟩ := ckn_e hT
  refine J_iast (ws' := (w_X6_takingToGoDown cI cJ cZ h_this q_this this_down this_size this_balance this_plays (upd this_points x1.toNatClampNeg x2))) X 3 rfl rfl hk1 rfl dX6_takingToGoDown_60 ?_
  refine J_iload_n X dX6_takingToGoDown_61 3 rfl ?_
  cases hT
  exact J_iret X dX6_takingToGoDown_62
set_option maxHeartbeats 4000000 in
set_option maxRecDepth 100000 in
theorem b_X6_takingToGoDown_48 {p : Program} {l : Launch} {e : Env} {s : State} {m : MethodId} {args : Array Value} {below : List Frame} {meth : Method} {c : Code} {D : va_G} {A : Nat → Prop} {cI cJ cZ : ClassId} (X : Cx p m c cX6_takingToGoDown 5 s args wsX6_takingToGoDown RX6 D (tys3 cI cJ cZ) meth (some .int)) (_ _ _ : ClassId)  (h_this : Nat) (q_this : Nat → Nat)  (r : Int32) (z0 : Nat → Int32) (k_13 : Int32 → Int32 → (Nat → Int32) → (Nat → Int32) → (Nat → Int32) → Int32 → Int32 → Int32 → Int32 → (Option (Int32 × (Nat → Int32)))) (hk_13 : ∀ (this_down : Int32) (this_size : Int32) (this_balance : Nat → Int32) (this_plays : Nat → Int32) (this_points : Nat → Int32) (x1 : Int32) (x2 : Int32) (x3 : Int32) (x4 : Int32), k_13 this_down this_size this_balance this_plays this_points x1 x2 x3 x4 = some (r, z0) → J p l e rmX6_takingToGoDown s m args below meth c D A 5 (QI D below args s A r (w_X6_takingToGoDown cI cJ cZ h_this q_this this_down this_size this_balance this_plays z0)) 0 0 (w_X6_takingToGoDown cI cJ cZ h_this q_this this_down this_size this_balance this_plays this_points) [(0, .ref h_this), (1, .int x1), (2, .int x2), (3, .int x3), (4, .int x4)] [] 13) (this_down : Int32) (this_size : Int32) (this_balance : Nat → Int32) (this_plays : Nat → Int32) (this_points : Nat → Int32) (x1 : Int32) (x2 : Int32) (x3 : Int32) (x4 : Int32) (hT : t_X6_takingToGoDown_48  k_13 this_down this_size this_balance this_plays this_points x1 x2 x3 x4 = some (r, z0)) : J p l e rmX6_takingToGoDown s m args below meth c D A 5 (QI D below args s A r (w_X6_takingToGoDown cI cJ cZ h_this q_this this_down this_size this_balance this_plays z0)) 0 0 (w_X6_takingToGoDown cI cJ cZ h_this q_this this_down this_size this_balance this_plays this_points) [(0, .ref h_this), (1, .int x1), (2, .int x2), (3, .int x3), (4, .int x4)] [] 48 := by
  unfold t_X6_takingToGoDown_48 at hT
  refine J_iinc (lv' := [(4, .int (x4 + (1 : Int32))), (0, .ref h_this), (1, .int x1), (2, .int x2), (3, .int x3)]) (j := 4) X dX6_takingToGoDown_48 rfl rfl (by decide) rfl ?_
  refine J_goto (tgt := 13) X dX6_takingToGoDown_51 (by decide) ?_
  refine J_lv (lv' := [(0, .ref h_this), (1, .int x1), (2, .int x2), (3, .int x3), (4, .int (x4 + (1 : Int32)))]) [1, 2, 3, 4, 0] rfl ?_
  exact hk_13 this_down this_size this_balance this_plays this_points x1 x2 x3 (x4 + (1 : Int32)) hT
set_option maxHeartbeats 4000000 in
set_option maxRecDepth 100000 in
theorem b_X6_takingToGoDown_13_b {p : Program} {l : Launch} {e : Env} {s : State} {m : MethodId} {args : Array Value} {below : List Frame} {meth : Method} {c : Code} {D : va_G} {A : Nat → Prop} {cI cJ cZ : ClassId} (X : Cx p m c cX6_takingToGoDown 5 s args wsX6_takingToGoDown RX6 D (tys3 cI cJ cZ) meth (some .int)) (_ _ _ : ClassId)  (h_this : Nat) (q_this : Nat → Nat)  (r : Int32) (z0 : Nat → Int32) (k_13 : Int32 → Int32 → (Nat → Int32) → (Nat → Int32) → (Nat → Int32) → Int32 → Int32 → Int32 → Int32 → (Option (Int32 × (Nat → Int32)))) (hk_13 : ∀ (this_down : Int32) (this_size : Int32) (this_balance : Nat → Int32) (this_plays : Nat → Int32) (this_points : Nat → Int32) (x1 : Int32) (x2 : Int32) (x3 : Int32) (x4 : Int32), k_13 this_down this_size this_balance this_plays this_points x1 x2 x3 x4 = some (r, z0) → J p l e rmX6_takingToGoDown s m args below meth c D A 5 (QI D below args s A r (w_X6_takingToGoDown cI cJ cZ h_this q_this this_down this_size this_balance this_plays z0)) 0 0 (w_X6_takingToGoDown cI cJ cZ h_this q_this this_down this_size this_balance this_plays this_points) [(0, .ref h_this), (1, .int x1), (2, .int x2), (3, .int x3), (4, .int x4)] [] 13) (this_down : Int32) (this_size : Int32) (this_balance : Nat → Int32) (this_plays : Nat → Int32) (this_points : Nat → Int32) (x1 : Int32) (x2 : Int32) (x3 : Int32) (x4 : Int32) (hT : t_X6_takingToGoDown_13_b  k_13 this_down this_size this_balance this_plays this_points x1 x2 x3 x4 = some (r, z0)) : J p l e rmX6_takingToGoDown s m args below meth c D A 5 (QI D below args s A r (w_X6_takingToGoDown cI cJ cZ h_this q_this this_down this_size this_balance this_plays z0)) 0 0 (w_X6_takingToGoDown cI cJ cZ h_this q_this this_down this_size this_balance this_plays this_points) [(0, .ref h_this), (1, .int x1), (2, .int x2), (3, .int x3), (4, .int x4)] [] 13 := by
  unfold t_X6_takingToGoDown_13_b at hT
  refine J_iload X dX6_takingToGoDown_13 4 rfl ?_
  refine J_sipush (v := 200) X dX6_takingToGoDown_15 (by decide) ?_
  refine J_icmp_gt (tgt := 54) X dX6_takingToGoDown_18 (by decide) (fun hc2 => ?_) (fun hc2 => ?_)
  · have hT := ift hT hc2
    refine J_lv (lv' := [(0, .ref h_this), (1, .int x1), (2, .int x2), (3, .int x3)]) [0, 1, 2, 3] rfl ?_
    exact b_X6_takingToGoDown_54 X cI cJ cZ h_this q_this  r z0  this_down this_size this_balance this_plays this_points x1 x2 x3 hT
  · have hT := iff_ hT hc2
    refine J_iload_n X dX6_takingToGoDown_21 3 rfl ?_
    refine J_bipush (v := -6) X dX6_takingToGoDown_22 (by decide) ?_
    refine J_icmp_ne (tgt := 54) X dX6_takingToGoDown_24 (by decide) (fun hc3 => ?_) (fun hc3 => ?_)
    · have hT := iff_ hT hc3
      refine J_lv (lv' := [(0, .ref h_this), (1, .int x1), (2, .int x2), (3, .int x3)]) [0, 1, 2, 3] rfl ?_
      exact b_X6_takingToGoDown_54 X cI cJ cZ h_this q_this  r z0  this_down this_size this_balance this_plays this_points x1 x2 x3 hT
    · have hT := ift hT hc3
      refine J_aload_n X dX6_takingToGoDown_27 0 rfl ?_
      refine J_get (C := RX6) (T := TX6) (N := 6) (ci := 6) (v := .ref (q_this 3)) X in_X6_takingToGoDown_X6 0 rfl rfl 3 (by decide) m_X6_takingToGoDown_f19 rfl dX6_takingToGoDown_28 ?_
      refine J_iload_n X dX6_takingToGoDown_31 1 rfl ?_
      refine J_iload_n X dX6_takingToGoDown_32 2 rfl ?_
      refine J_iload X dX6_takingToGoDown_33 4 rfl ?_
      refine J_isub X dX6_takingToGoDown_35 ?_
      obtain ⟨hk4, hT⟩ := ckn_e hT
      refine J_iast (ws' := (w_X6_takingToGoDown cI cJ cZ h_this q_this this_down this_size this_balance this_plays (upd this_points x1.toNatClampNeg (x2 - x4)))) X 3 rfl rfl hk4 rfl dX6_takingToGoDown_36 ?_
      refine J_aload_n X dX6_takingToGoDown_37 0 rfl ?_
      refine J_iload_n X dX6_takingToGoDown_38 1 rfl ?_
      obtain ⟨v5, hq5, hT⟩ := bd1_e hT
      refine J_ci (wc := (w_X6_isDown cI cJ cZ h_this q_this this_down this_size this_balance this_plays (upd this_points x1.toNatClampNeg (x2 - x4)))) (wc' := (w_X6_isDown cI cJ cZ h_this q_this this_down this_size this_balance this_plays (upd this_points x1.toNatClampNeg (x2 - x4)))) (ws' := (w_X6_takingToGoDown cI cJ cZ h_this q_this this_down this_size this_balance this_plays (upd this_points x1.toNatClampNeg (x2 - x4)))) [0, 1, 2, 3] [] 4 rfl rfl rfl rfl rfl rfl rfl rfl (run_V (As := [.int x1]) (rest := []) X (c_X6_isDown l D cI cJ cZ h_this q_this this_down this_size this_balance this_plays (upd this_points x1.toNatClampNeg (x2 - x4)) x1 v5 hq5) (cw_X6_takingToGoDown_X6_isDown_63 X.1.2.2.2.2) 0 rfl rfl rfl rfl (Nat.le_of_ble_eq_true rfl) dX6_takingToGoDown_39 ⟨Nat.zero_le _, Nat.zero_le _⟩) ?_
      refine J_if_eq (tgt := 48) X dX6_takingToGoDown_42 (by decide) (fun hc6 => ?_) (fun hc6 => ?_)
      · have hT := ift hT hc6
        exact b_X6_takingToGoDown_48 X cI cJ cZ h_this q_this  r z0 k_13 hk_13 this_down this_size this_balance this_plays (upd this_points x1.toNatClampNeg (x2 - x4)) x1 x2 x3 x4 hT
      · have hT := iff_ hT hc6
        refine J_iload X dX6_takingToGoDown_45 4 rfl ?_
        refine J_istore_n (lv' := [(3, .int x4), (0, .ref h_this), (1, .int x1), (2, .int x2), (4, .int x4)]) X dX6_takingToGoDown_47 (by decide) rfl ?_
        refine J_lv (lv' := [(0, .ref h_this), (1, .int x1), (2, .int x2), (3, .int x4), (4, .int x4)]) [1, 2, 3, 0, 4] rfl ?_
        exact b_X6_takingToGoDown_48 X cI cJ cZ h_this q_this  r z0 k_13 hk_13 this_down this_size this_balance this_plays (upd this_points x1.toNatClampNeg (x2 - x4)) x1 x2 x4 x4 hT
set_option maxHeartbeats 4000000 in
set_option maxRecDepth 100000 in
theorem b_X6_takingToGoDown_13 {p : Program} {l : Launch} {e : Env} {s : State} {m : MethodId} {args : Array Value} {below : List Frame} {meth : Method} {c : Code} {D : va_G} {A : Nat → Prop} {cI cJ cZ : ClassId} (X : Cx p m c cX6_takingToGoDown 5 s args wsX6_takingToGoDown RX6 D (tys3 cI cJ cZ) meth (some .int)) (_ _ _ : ClassId)  (h_this : Nat) (q_this : Nat → Nat)  (r : Int32) (z0 : Nat → Int32)  : ∀ (n : Nat) (this_down : Int32) (this_size : Int32) (this_balance : Nat → Int32) (this_plays : Nat → Int32) (this_points : Nat → Int32) (x1 : Int32) (x2 : Int32) (x3 : Int32) (x4 : Int32) (hT : t_X6_takingToGoDown_13   n this_down this_size this_balance this_plays this_points x1 x2 x3 x4 = some (r, z0)), J p l e rmX6_takingToGoDown s m args below meth c D A 5 (QI D below args s A r (w_X6_takingToGoDown cI cJ cZ h_this q_this this_down this_size this_balance this_plays z0)) 0 0 (w_X6_takingToGoDown cI cJ cZ h_this q_this this_down this_size this_balance this_plays this_points) [(0, .ref h_this), (1, .int x1), (2, .int x2), (3, .int x3), (4, .int x4)] [] 13 := by
  intro n
  induction n with
  | zero => intro this_down this_size this_balance this_plays this_points x1 x2 x3 x4 hT; cases hT
  | succ n ih =>
    intro this_down this_size this_balance this_plays this_points x1 x2 x3 x4 hT
    exact b_X6_takingToGoDown_13_b X cI cJ cZ h_this q_this  r z0  (t_X6_takingToGoDown_13   n) ih this_down this_size this_balance this_plays this_points x1 x2 x3 x4 hT
set_option maxHeartbeats 4000000 in
set_option maxRecDepth 100000 in
theorem c_X6_takingToGoDown (l : Launch) (D : va_G) (cI cJ cZ : ClassId) (h_this : Nat) (q_this : Nat → Nat) (this_down : Int32) (this_size : Int32) (this_balance : Nat → Int32) (this_plays : Nat → Int32) (this_points : Nat → Int32) (x1 : Int32) (r : Int32) (z0 : Nat → Int32) (hT : t_X6_takingToGoDown  this_down this_size this_balance this_plays this_points x1 = some (r, z0)) : Ci l yX6_takingToGoDown wsX6_takingToGoDown rmX6_takingToGoDown D (tys3 cI cJ cZ) [.ref h_this, .int x1] (w_X6_takingToGoDown cI cJ cZ h_this q_this this_down this_size this_balance this_plays this_points) r (w_X6_takingToGoDown cI cJ cZ h_this q_this this_down this_size this_balance this_plays z0) := by
  refine Ci.ofJ (cc := cX6_takingToGoDown) (nL := 5) (rt := (some .int)) (own := RX6) (by decide) rfl rfl (Nat.le_of_ble_eq_true rfl) ?_
  intro p e s m below meth c A X
  unfold t_X6_takingToGoDown at hT
  refine J_lv (lv' := [(0, .ref h_this), (1, .int x1)]) [0, 1] rfl ?_
  refine J_aload_n X dX6_takingToGoDown_0 0 rfl ?_
  refine J_get (C := RX6) (T := TX6) (N := 6) (ci := 6) (v := .ref (q_this 3)) X in_X6_takingToGoDown_X6 0 rfl rfl 3 (by decide) m_X6_takingToGoDown_f19 rfl dX6_takingToGoDown_1 ?_
  refine J_iload_n X dX6_takingToGoDown_4 1 rfl ?_
  obtain ⟨hk7, hT⟩ := ckn_e hT
  refine J_iald X 3 rfl rfl hk7 dX6_takingToGoDown_5 ?_
  refine J_istore_n (lv' := [(2, .int (this_points x1.toNatClampNeg)), (0, .ref h_this), (1, .int x1)]) X dX6_takingToGoDown_6 (by decide) rfl ?_
  refine J_bipush (v := -6) X dX6_takingToGoDown_7 (by decide) ?_
  refine J_istore_n (lv' := [(3, .int (-6 : Int32)), (2, .int (this_points x1.toNatClampNeg)), (0, .ref h_this), (1, .int x1)]) X dX6_takingToGoDown_9 (by decide) rfl ?_
  refine J_iconst (v := 0) X dX6_takingToGoDown_10 (by decide) ?_
  refine J_istore (lv' := [(4, .int (0 : Int32)), (3, .int (-6 : Int32)), (2, .int (this_points x1.toNatClampNeg)), (0, .ref h_this), (1, .int x1)]) X dX6_takingToGoDown_11 (by decide) rfl ?_
  refine J_lv (lv' := [(0, .ref h_this), (1, .int x1), (2, .int (this_points x1.toNatClampNeg)), (3, .int (-6 : Int32)), (4, .int (0 : Int32))]) [3, 4, 2, 1, 0] rfl ?_
  exact b_X6_takingToGoDown_13 X cI cJ cZ h_this q_this  r z0  lfuel this_down this_size this_balance this_plays this_points x1 (this_points x1.toNatClampNeg) (-6 : Int32) (0 : Int32) hT
-- ===== SoldMatches$Rumour.add(III)I
abbrev rmX7_add : Room := { frames := 0, cells := 0, slots := 0, locals := 0 }
def w_X7_add (cI cJ cZ : ClassId) (h_this : Nat) (q_this : Nat → Nat) (this_count : Int32) (this_first : Int32) (this_since : Int32) (this_hour : Nat → Int32) (this_one : Nat → Int32) (this_other : Nat → Int32) : va_W := [(h_this, .inr (7, oFX7 q_this this_count this_first this_since)), ((q_this 3), .inl (cI, 30, .inl this_hour)), ((q_this 1), .inl (cI, 30, .inl this_one)), ((q_this 2), .inl (cI, 30, .inl this_other))]
theorem m_X7_add_f9 : Cond.fieldLink RX7 9 "SoldMatches$Rumour" "one" "[I" ∈ wsX7_add := List.mem_of_getElem? (i := 3) rfl
theorem in_X7_add_X7 : ∀ w ∈ wsX70, w ∈ wsX7_add := fun w h => List.mem_cons_of_mem _ (List.mem_append_right _ h)
theorem m_X7_add_f15 : Cond.fieldLink RX7 15 "SoldMatches$Rumour" "other" "[I" ∈ wsX7_add := List.mem_of_getElem? (i := 4) rfl
theorem m_X7_add_f18 : Cond.fieldLink RX7 18 "SoldMatches$Rumour" "hour" "[I" ∈ wsX7_add := List.mem_of_getElem? (i := 2) rfl
theorem m_X7_add_f31 : Cond.fieldLink RX7 31 "SoldMatches$Rumour" "count" "I" ∈ wsX7_add := List.mem_of_getElem? (i := 1) rfl
def t_X7_add_78   (this_count : Int32) (this_hour : Nat → Int32) (this_one : Nat → Int32) (this_other : Nat → Int32) (x1 : Int32) (x2 : Int32) (x3 : Int32) (x4 : Int32) : Option (Int32 × Int32 × (Nat → Int32) × (Nat → Int32) × (Nat → Int32)) := ckn (x4 < 0 ∨ 30 ≤ x4.toNatClampNeg) (ckn (x4 < 0 ∨ 30 ≤ x4.toNatClampNeg) (ckn (x4 < 0 ∨ 30 ≤ x4.toNatClampNeg) (some (this_count + (1 : Int32), this_count + (1 : Int32), upd this_hour x4.toNatClampNeg x3, upd this_one x4.toNatClampNeg x1, upd this_other x4.toNatClampNeg x2))))
def t_X7_add_6_b  (k_6 : Int32 → (Nat → Int32) → (Nat → Int32) → (Nat → Int32) → Int32 → Int32 → Int32 → Int32 → (Option (Int32 × Int32 × (Nat → Int32) × (Nat → Int32) × (Nat → Int32)))) (this_count : Int32) (this_hour : Nat → Int32) (this_one : Nat → Int32) (this_other : Nat → Int32) (x1 : Int32) (x2 : Int32) (x3 : Int32) (x4 : Int32) : Option (Int32 × Int32 × (Nat → Int32) × (Nat → Int32) × (Nat → Int32)) := if x4 ≤ 0 then (t_X7_add_78   this_count this_hour this_one this_other x1 x2 x3 x4) else (ckn ((x4 - (1 : Int32)) < 0 ∨ 30 ≤ (x4 - (1 : Int32)).toNatClampNeg) (if (this_hour (x4 - (1 : Int32)).toNatClampNeg) ≤ x3 then (t_X7_add_78   this_count this_hour this_one this_other x1 x2 x3 x4) else (ckn ((x4 - (1 : Int32)) < 0 ∨ 30 ≤ (x4 - (1 : Int32)).toNatClampNeg) (ckn (x4 < 0 ∨ 30 ≤ x4.toNatClampNeg) (ckn ((x4 - (1 : Int32)) < 0 ∨ 30 ≤ (x4 - (1 : Int32)).toNatClampNeg) (ckn (x4 < 0 ∨ 30 ≤ x4.toNatClampNeg) (ckn ((x4 - (1 : Int32)) < 0 ∨ 30 ≤ (x4 - (1 : Int32)).toNatClampNeg) (ckn (x4 < 0 ∨ 30 ≤ x4.toNatClampNeg) (k_6 this_count (upd this_hour x4.toNatClampNeg (this_hour (x4 - (1 : Int32)).toNatClampNeg)) (upd this_one x4.toNatClampNeg (this_one (x4 - (1 : Int32)).toNatClampNeg)) (upd this_other x4.toNatClampNeg (this_other (x4 - (1 : Int32)).toNatClampNeg)) x1 x2 x3 (x4 + (-1 : Int32)))))))))))
def t_X7_add_6   (n : Nat) : Int32 → (Nat → Int32) → (Nat → Int32) → (Nat → Int32) → Int32 → Int32 → Int32 → Int32 → (Option (Int32 × Int32 × (Nat → Int32) × (Nat → Int32) × (Nat → Int32))) := Nat.rec (fun _ _ _ _ _ _ _ _ => none) (fun _ ih => t_X7_add_6_b   ih) n
def t_X7_add  (this_count : Int32) (this_hour : Nat → Int32) (this_one : Nat → Int32) (this_other : Nat → Int32) (x1 : Int32) (x2 : Int32) (x3 : Int32) : Option (Int32 × Int32 × (Nat → Int32) × (Nat → Int32) × (Nat → Int32)) := t_X7_add_6   lfuel this_count this_hour this_one this_other x1 x2 x3 this_count
set_option maxHeartbeats 4000000 in
set_option maxRecDepth 100000 in
theorem b_X7_add_78 {p : Program} {l : Launch} {e : Env} {s : State} {m : MethodId} {args : Array Value} {below : List Frame} {meth : Method} {c : Code} {D : va_G} {A : Nat → Prop} {cI cJ cZ : ClassId} (X : Cx p m c cX7_add 5 s args wsX7_add RX7 D (tys3 cI cJ cZ) meth (some .int)) (_ _ _ : ClassId)  (h_this : Nat) (q_this : Nat → Nat) (this_first : Int32) (this_since : Int32) (r : Int32) (z0 : Int32) (z1 : Nat → Int32) (z2 : Nat → Int32) (z3 : Nat → Int32)  (this_count : Int32) (this_hour : Nat → Int32) (this_one : Nat → Int32) (this_other : Nat → Int32) (x1 : Int32) (x2 : Int32) (x3 : Int32) (x4 : Int32) (hT : t_X7_add_78   this_count this_hour this_one this_other x1 x2 x3 x4 = some (r, z0, z1, z2, z3)) : J p l e rmX7_add s m args below meth c D A 5 (QI D below args s A r (w_X7_add cI cJ cZ h_this q_this z0 this_first this_since z1 z2 z3)) 0 0 (w_X7_add cI cJ cZ h_this q_this this_count this_first this_since this_hour this_one this_other) [(0, .ref h_this), (1, .int x1), (2, .int x2), (3, .int x3), (4, .int x4)] [] 78 := by
  unfold t_X7_add_78 at hT
  refine J_aload_n X dX7_add_78 0 rfl ?_
  refine J_get (C := RX7) (T := TX7) (N := 8) (ci := 7) (v := .ref (q_this 1)) X in_X7_add_X7 0 rfl rfl 1 (by decide) m_X7_add_f9 rfl dX7_add_79 ?_
  refine J_iload X dX7_add_82 4 rfl ?_
  refine J_iload_n X dX7_add_84 1 rfl ?_
  obtain ⟨hk1, hT⟩ := ckn_e hT
  refine J_iast (ws' := (w_X7_add cI cJ cZ h_this q_this this_count this_first this_since this_hour (upd this_one x4.toNatClampNeg x1) this_other)) X 2 rfl rfl hk1 rfl dX7_add_85 ?_
  refine J_aload_n X dX7_add_86 0 rfl ?_
  refine J_get (C := RX7) (T := TX7) (N := 8) (ci := 7) (v := .ref (q_this 2)) X in_X7_add_X7 0 rfl rfl 2 (by decide) m_X7_add_f15 rfl dX7_add_87 ?_
  refine J_iload X dX7_add_90 4 rfl ?_
  refine J_iload_n X dX7_add_92 2 rfl ?_
  obtain ⟨hk2, hT⟩ := ckn_e hT
  refine J_iast (ws' := (w_X7_add cI cJ cZ h_this q_this this_count this_first this_since this_hour (upd this_one x4.toNatClampNeg x1) (upd this_other x4.toNatClampNeg x2))) X 3 rfl rfl hk2 rfl dX7_add_93 ?_
  refine J_aload_n X dX7_add_94 0 rfl ?_
  refine J_get (C := RX7) (T := TX7) (N := 8) (ci := 7) (v := .ref (q_this 3)) X in_X7_add_X7 0 rfl rfl 3 (by decide) m_X7_add_f18 rfl dX7_add_95 ?_
  refine J_iload X dX7_add_98 4 rfl ?_
  refine J_iload_n X dX7_add_100 3 rfl ?_
  obtain ⟨hk3, hT⟩ := ckn_e hT
  refine J_iast (ws' := (w_X7_add cI cJ cZ h_this q_this this_count this_first this_since (upd this_hour x4.toNatClampNeg x3) (upd this_one x4.toNatClampNeg x1) (upd this_other x4.toNatClampNeg x2))) X 1 rfl rfl hk3 rfl dX7_add_101 ?_
  refine J_aload_n X dX7_add_102 0 rfl ?_
  refine J_dup X dX7_add_103 rfl ?_
  refine J_get (C := RX7) (T := TX7) (N := 8) (ci := 7) (v := .int this_count) X in_X7_add_X7 0 rfl rfl 0 (by decide) m_X7_add_f31 rfl dX7_add_104 ?_
  refine J_iconst (v := 1) X dX7_add_107 (by decide) ?_
  refine J_iadd X dX7_add_108 ?_
  refine J_put (host := "") (C := RX7) (T := TX7) (N := 8) (ci := 7) (ws' := (w_X7_add cI cJ cZ h_this q_this (this_count + (1 : Int32)) this_first this_since (upd this_hour x4.toNatClampNeg x3) (upd this_one x4.toNatClampNeg x1) (upd this_other x4.toNatClampNeg x2))) X in_X7_add_X7 0 rfl rfl 0 (by decide) tyX7 tyX7_ok nmX7 m_X7_add_f31 rfl rfl rfl (Nat.le_of_ble_eq_true rfl) rfl dX7_add_109 ?_
  refine J_aload_n X dX7_add_112 0 rfl ?_
  refine J_get (C := RX7) (T := TX7) (N := 8) (ci := 7) (v := .int (this_count + (1 : Int32))) X in_X7_add_X7 0 rfl rfl 0 (by decide) m_X7_add_f31 rfl dX7_add_113 ?_
  cases hT
  exact J_iret X dX7_add_116
set_option maxHeartbeats 4000000 in
set_option maxRecDepth 100000 in
theorem b_X7_add_6_b {p : Program} {l : Launch} {e : Env} {s : State} {m : MethodId} {args : Array Value} {below : List Frame} {meth : Method} {c : Code} {D : va_G} {A : Nat → Prop} {cI cJ cZ : ClassId} (X : Cx p m c cX7_add 5 s args wsX7_add RX7 D (tys3 cI cJ cZ) meth (some .int)) (_ _ _ : ClassId)  (h_this : Nat) (q_this : Nat → Nat) (this_first : Int32) (this_since : Int32) (r : Int32) (z0 : Int32) (z1 : Nat → Int32) (z2 : Nat → Int32) (z3 : Nat → Int32) (k_6 : Int32 → (Nat → Int32) → (Nat → Int32) → (Nat → Int32) → Int32 → Int32 → Int32 → Int32 → (Option (Int32 × Int32 × (Nat → Int32) × (Nat → Int32) × (Nat → Int32)))) (hk_6 : ∀ (this_count : Int32) (this_hour : Nat → Int32) (this_one : Nat → Int32) (this_other : Nat → Int32) (x1 : Int32) (x2 : Int32) (x3 : Int32) (x4 : Int32), k_6 this_count this_hour this_one this_other x1 x2 x3 x4 = some (r, z0, z1, z2, z3) → J p l e rmX7_add s m args below meth c D A 5 (QI D below args s A r (w_X7_add cI cJ cZ h_this q_this z0 this_first this_since z1 z2 z3)) 0 0 (w_X7_add cI cJ cZ h_this q_this this_count this_first this_since this_hour this_one this_other) [(0, .ref h_this), (1, .int x1), (2, .int x2), (3, .int x3), (4, .int x4)] [] 6) (this_count : Int32) (this_hour : Nat → Int32) (this_one : Nat → Int32) (this_other : Nat → Int32) (x1 : Int32) (x2 : Int32) (x3 : Int32) (x4 : Int32) (hT : t_X7_add_6_b  k_6 this_count this_hour this_one this_other x1 x2 x3 x4 = some (r, z0, z1, z2, z3)) : J p l e rmX7_add s m args below meth c D A 5 (QI D below args s A r (w_X7_add cI cJ cZ h_this q_this z0 this_first this_since z1 z2 z3)) 0 0 (w_X7_add cI cJ cZ h_this q_this this_count this_first this_since this_hour this_one this_other) [(0, .ref h_this), (1, .int x1), (2, .int x2), (3, .int x3), (4, .int x4)] [] 6 := by
  unfold t_X7_add_6_b at hT
  refine J_iload X dX7_add_6 4 rfl ?_
  refine J_if_le (tgt := 78) X dX7_add_8 (by decide) (fun hc4 => ?_) (fun hc4 => ?_)
  · have hT := ift hT hc4
    exact b_X7_add_78 X cI cJ cZ h_this q_this this_first this_since r z0 z1 z2 z3  this_count this_hour this_one this_other x1 x2 x3 x4 hT
  · have hT := iff_ hT hc4
    refine J_aload_n X dX7_add_11 0 rfl ?_
    refine J_get (C := RX7) (T := TX7) (N := 8) (ci := 7) (v := .ref (q_this 3)) X in_X7_add_X7 0 rfl rfl 3 (by decide) m_X7_add_f18 rfl dX7_add_12 ?_
    refine J_iload X dX7_add_15 4 rfl ?_
    refine J_iconst (v := 1) X dX7_add_17 (by decide) ?_
    refine J_isub X dX7_add_18 ?_
    obtain ⟨hk5, hT⟩ := ckn_e hT
    refine J_iald X 1 rfl rfl hk5 dX7_add_19 ?_
    refine J_iload_n X dX7_add_20 3 rfl ?_
    refine J_icmp_le (tgt := 78) X dX7_add_21 (by decide) (fun hc6 => ?_) (fun hc6 => ?_)
    · have hT := ift hT hc6
      exact b_X7_add_78 X cI cJ cZ h_this q_this this_first this_since r z0 z1 z2 z3  this_count this_hour this_one this_other x1 x2 x3 x4 hT
    · have hT := iff_ hT hc6
      refine J_aload_n X dX7_add_24 0 rfl ?_
      refine J_get (C := RX7) (T := TX7) (N := 8) (ci := 7) (v := .ref (q_this 1)) X in_X7_add_X7 0 rfl rfl 1 (by decide) m_X7_add_f9 rfl dX7_add_25 ?_
      refine J_iload X dX7_add_28 4 rfl ?_
      refine J_aload_n X dX7_add_30 0 rfl ?_
      refine J_get (C := RX7) (T := TX7) (N := 8) (ci := 7) (v := .ref (q_this 1)) X in_X7_add_X7 0 rfl rfl 1 (by decide) m_X7_add_f9 rfl dX7_add_31 ?_
      refine J_iload X dX7_add_34 4 rfl ?_
      refine J_iconst (v := 1) X dX7_add_36 (by decide) ?_
      refine J_isub X dX7_add_37 ?_
      obtain ⟨hk7, hT⟩ := ckn_e hT
      refine J_iald X 2 rfl rfl hk7 dX7_add_38 ?_
      obtain ⟨hk8, hT⟩ := ckn_e hT
      refine J_iast (ws' := (w_X7_add cI cJ cZ h_this q_this this_count this_first this_since this_hour (upd this_one x4.toNatClampNeg (this_one (x4 - (1 : Int32)).toNatClampNeg)) this_other)) X 2 rfl rfl hk8 rfl dX7_add_39 ?_
      refine J_aload_n X dX7_add_40 0 rfl ?_
      refine J_get (C := RX7) (T := TX7) (N := 8) (ci := 7) (v := .ref (q_this 2)) X in_X7_add_X7 0 rfl rfl 2 (by decide) m_X7_add_f15 rfl dX7_add_41 ?_
      refine J_iload X dX7_add_44 4 rfl ?_
      refine J_aload_n X dX7_add_46 0 rfl ?_
      refine J_get (C := RX7) (T := TX7) (N := 8) (ci := 7) (v := .ref (q_this 2)) X in_X7_add_X7 0 rfl rfl 2 (by decide) m_X7_add_f15 rfl dX7_add_47 ?_
      refine J_iload X dX7_add_50 4 rfl ?_
      refine J_iconst (v := 1) X dX7_add_52 (by decide) ?_
      refine J_isub X dX7_add_53 ?_
      obtain ⟨hk9, hT⟩ := ckn_e hT
      refine J_iald X 3 rfl rfl hk9 dX7_add_54 ?_
      obtain ⟨hk10, hT⟩ := ckn_e hT
      refine J_iast (ws' := (w_X7_add cI cJ cZ h_this q_this this_count this_first this_since this_hour (upd this_one x4.toNatClampNeg (this_one (x4 - (1 : Int32)).toNatClampNeg)) (upd this_other x4.toNatClampNeg (this_other (x4 - (1 : Int32)).toNatClampNeg)))) X 3 rfl rfl hk10 rfl dX7_add_55 ?_
      refine J_aload_n X dX7_add_56 0 rfl ?_
      refine J_get (C := RX7) (T := TX7) (N := 8) (ci := 7) (v := .ref (q_this 3)) X in_X7_add_X7 0 rfl rfl 3 (by decide) m_X7_add_f18 rfl dX7_add_57 ?_
      refine J_iload X dX7_add_60 4 rfl ?_
      refine J_aload_n X dX7_add_62 0 rfl ?_
      refine J_get (C := RX7) (T := TX7) (N := 8) (ci := 7) (v := .ref (q_this 3)) X in_X7_add_X7 0 rfl rfl 3 (by decide) m_X7_add_f18 rfl dX7_add_63 ?_
      refine J_iload X dX7_add_66 4 rfl ?_
      refine J_iconst (v := 1) X dX7_add_68 (by decide) ?_
      refine J_isub X dX7_add_69 ?_
      obtain ⟨hk11, hT⟩ := ckn_e hT
      refine J_iald X 1 rfl rfl hk11 dX7_add_70 ?_
      obtain ⟨hk12, hT⟩ := ckn_e hT
      refine J_iast (ws' := (w_X7_add cI cJ cZ h_this q_this this_count this_first this_since (upd this_hour x4.toNatClampNeg (this_hour (x4 - (1 : Int32)).toNatClampNeg)) (upd this_one x4.toNatClampNeg (this_one (x4 - (1 : Int32)).toNatClampNeg)) (upd this_other x4.toNatClampNeg (this_other (x4 - (1 : Int32)).toNatClampNeg)))) X 1 rfl rfl hk12 rfl dX7_add_71 ?_
      refine J_iinc (lv' := [(4, .int (x4 + (-1 : Int32))), (0, .ref h_this), (1, .int x1), (2, .int x2), (3, .int x3)]) (j := 4) X dX7_add_72 rfl rfl (by decide) rfl ?_
      refine J_goto (tgt := 6) X dX7_add_75 (by decide) ?_
      refine J_lv (lv' := [(0, .ref h_this), (1, .int x1), (2, .int x2), (3, .int x3), (4, .int (x4 + (-1 : Int32)))]) [1, 2, 3, 4, 0] rfl ?_
      exact hk_6 this_count (upd this_hour x4.toNatClampNeg (this_hour (x4 - (1 : Int32)).toNatClampNeg)) (upd this_one x4.toNatClampNeg (this_one (x4 - (1 : Int32)).toNatClampNeg)) (upd this_other x4.toNatClampNeg (this_other (x4 - (1 : Int32)).toNatClampNeg)) x1 x2 x3 (x4 + (-1 : Int32)) hT
set_option maxHeartbeats 4000000 in
set_option maxRecDepth 100000 in
theorem b_X7_add_6 {p : Program} {l : Launch} {e : Env} {s : State} {m : MethodId} {args : Array Value} {below : List Frame} {meth : Method} {c : Code} {D : va_G} {A : Nat → Prop} {cI cJ cZ : ClassId} (X : Cx p m c cX7_add 5 s args wsX7_add RX7 D (tys3 cI cJ cZ) meth (some .int)) (_ _ _ : ClassId)  (h_this : Nat) (q_this : Nat → Nat) (this_first : Int32) (this_since : Int32) (r : Int32) (z0 : Int32) (z1 : Nat → Int32) (z2 : Nat → Int32) (z3 : Nat → Int32)  : ∀ (n : Nat) (this_count : Int32) (this_hour : Nat → Int32) (this_one : Nat → Int32) (this_other : Nat → Int32) (x1 : Int32) (x2 : Int32) (x3 : Int32) (x4 : Int32) (hT : t_X7_add_6   n this_count this_hour this_one this_other x1 x2 x3 x4 = some (r, z0, z1, z2, z3)), J p l e rmX7_add s m args below meth c D A 5 (QI D below args s A r (w_X7_add cI cJ cZ h_this q_this z0 this_first this_since z1 z2 z3)) 0 0 (w_X7_add cI cJ cZ h_this q_this this_count this_first this_since this_hour this_one this_other) [(0, .ref h_this), (1, .int x1), (2, .int x2), (3, .int x3), (4, .int x4)] [] 6 := by
  intro n
  induction n with
  | zero => intro this_count this_hour this_one this_other x1 x2 x3 x4 hT; cases hT
  | succ n ih =>
    intro this_count this_hour this_one this_other x1 x2 x3 x4 hT
    exact b_X7_add_6_b X cI cJ cZ h_this q_this this_first this_since r z0 z1 z2 z3  (t_X7_add_6   n) ih this_count this_hour this_one this_other x1 x2 x3 x4 hT
set_option maxHeartbeats 4000000 in
set_option maxRecDepth 100000 in
theorem c_X7_add (l : Launch) (D : va_G) (cI cJ cZ : ClassId) (h_this : Nat) (q_this : Nat → Nat) (this_count : Int32) (this_first : Int32) (this_since : Int32) (this_hour : Nat → Int32) (this_one : Nat → Int32) (this_other : Nat → Int32) (x1 : Int32) (x2 : Int32) (x3 : Int32) (r : Int32) (z0 : Int32) (z1 : Nat → Int32) (z2 : Nat → Int32) (z3 : Nat → Int32) (hT : t_X7_add  this_count this_hour this_one this_other x1 x2 x3 = some (r, z0, z1, z2, z3)) : Ci l yX7_add wsX7_add rmX7_add D (tys3 cI cJ cZ) [.ref h_this, .int x1, .int x2, .int x3] (w_X7_add cI cJ cZ h_this q_this this_count this_first this_since this_hour this_one this_other) r (w_X7_add cI cJ cZ h_this q_this z0 this_first this_since z1 z2 z3) := by
  refine Ci.ofJ (cc := cX7_add) (nL := 5) (rt := (some .int)) (own := RX7) (by decide) rfl rfl (Nat.le_of_ble_eq_true rfl) ?_
  intro p e s m below meth c A X
  unfold t_X7_add at hT
  refine J_lv (lv' := [(0, .ref h_this), (1, .int x1), (2, .int x2), (3, .int x3)]) [0, 1, 2, 3] rfl ?_
  refine J_aload_n X dX7_add_0 0 rfl ?_
  refine J_get (C := RX7) (T := TX7) (N := 8) (ci := 7) (v := .int this_count) X in_X7_add_X7 0 rfl rfl 0 (by decide) m_X7_add_f31 rfl dX7_add_1 ?_
  refine J_istore (lv' := [(4, .int this_count), (0, .ref h_this), (1, .int x1), (2, .int x2), (3, .int x3)]) X dX7_add_4 (by decide) rfl ?_
  refine J_lv (lv' := [(0, .ref h_this), (1, .int x1), (2, .int x2), (3, .int x3), (4, .int this_count)]) [1, 2, 3, 4, 0] rfl ?_
  exact b_X7_add_6 X cI cJ cZ h_this q_this this_first this_since r z0 z1 z2 z3  lfuel this_count this_hour this_one this_other x1 x2 x3 this_count hT
-- ===== SoldMatches$Rumour.tell(III)V
abbrev rmX7_tell : Room := { frames := 0, cells := 0, slots := 0, locals := 0 }
def w_X7_tell (cI cJ cZ : ClassId) (h_this : Nat) (q_this : Nat → Nat) (this_count : Int32) (this_first : Int32) (this_since : Int32) (this_known : Nat → Int32) : va_W := [(h_this, .inr (7, oFX7 q_this this_count this_first this_since)), ((q_this 4), .inl (cI, 10, .inl this_known))]
theorem m_X7_tell_f21 : Cond.fieldLink RX7 21 "SoldMatches$Rumour" "known" "[I" ∈ wsX7_tell := List.mem_of_getElem? (i := 1) rfl
theorem in_X7_tell_X7 : ∀ w ∈ wsX70, w ∈ wsX7_tell := fun w h => List.mem_cons_of_mem _ (List.mem_append_right _ h)
def t_X7_tell  (this_known : Nat → Int32) (x1 : Int32) (x2 : Int32) (x3 : Int32) : Option ((Nat → Int32)) := ckn (x1 < 0 ∨ 10 ≤ x1.toNatClampNeg) (if (this_known x1.toNatClampNeg) = (-6 : Int32) then (some (this_known)) else (ckn (x2 < 0 ∨ 10 ≤ x2.toNatClampNeg) (if (this_known x2.toNatClampNeg) = (-6 : Int32) then (ckn (x2 < 0 ∨ 10 ≤ x2.toNatClampNeg) (some (upd this_known x2.toNatClampNeg x3))) else (some (this_known)))))
set_option maxHeartbeats 4000000 in
set_option maxRecDepth 100000 in
theorem c_X7_tell (l : Launch) (D : va_G) (cI cJ cZ : ClassId) (h_this : Nat) (q_this : Nat → Nat) (this_count : Int32) (this_first : Int32) (this_since : Int32) (this_known : Nat → Int32) (x1 : Int32) (x2 : Int32) (x3 : Int32) (z0 : Nat → Int32) (hT : t_X7_tell  this_known x1 x2 x3 = some z0) : Cv l yX7_tell wsX7_tell rmX7_tell D (tys3 cI cJ cZ) [.ref h_this, .int x1, .int x2, .int x3] (w_X7_tell cI cJ cZ h_this q_this this_count this_first this_since this_known) (w_X7_tell cI cJ cZ h_this q_this this_count this_first this_since z0) := by
  refine Cv.ofJ (cc := cX7_tell) (nL := 4) (rt := none) (own := RX7) (by decide) rfl rfl (Nat.le_of_ble_eq_true rfl) ?_
  intro p e s m below meth c A X
  unfold t_X7_tell at hT
  refine J_lv (lv' := [(0, .ref h_this), (1, .int x1), (2, .int x2), (3, .int x3)]) [0, 1, 2, 3] rfl ?_
  refine J_aload_n X dX7_tell_0 0 rfl ?_
  refine J_get (C := RX7) (T := TX7) (N := 8) (ci := 7) (v := .ref (q_this 4)) X in_X7_tell_X7 0 rfl rfl 4 (by decide) m_X7_tell_f21 rfl dX7_tell_1 ?_
  refine J_iload_n X dX7_tell_4 1 rfl ?_
  obtain ⟨hk1, hT⟩ := ckn_e hT
  refine J_iald X 1 rfl rfl hk1 dX7_tell_5 ?_
  refine J_bipush (v := -6) X dX7_tell_6 (by decide) ?_
  refine J_icmp_eq (tgt := 29) X dX7_tell_8 (by decide) (fun hc2 => ?_) (fun hc2 => ?_)
  · have hT := ift hT hc2
    cases hT
    exact J_vret X dX7_tell_29
  · have hT := iff_ hT hc2
    refine J_aload_n X dX7_tell_11 0 rfl ?_
    refine J_get (C := RX7) (T := TX7) (N := 8) (ci := 7) (v := .ref (q_this 4)) X in_X7_tell_X7 0 rfl rfl 4 (by decide) m_X7_tell_f21 rfl dX7_tell_12 ?_
    refine J_iload_n X dX7_tell_15 2 rfl ?_
    obtain ⟨hk3, hT⟩ := ckn_e hT
    refine J_iald X 1 rfl rfl hk3 dX7_tell_16 ?_
    refine J_bipush (v := -6) X dX7_tell_17 (by decide) ?_
    refine J_icmp_ne (tgt := 29) X dX7_tell_19 (by decide) (fun hc4 => ?_) (fun hc4 => ?_)
    · have hT := iff_ hT hc4
      cases hT
      exact J_vret X dX7_tell_29
    · have hT := ift hT hc4
      refine J_aload_n X dX7_tell_22 0 rfl ?_
      refine J_get (C := RX7) (T := TX7) (N := 8) (ci := 7) (v := .ref (q_this 4)) X in_X7_tell_X7 0 rfl rfl 4 (by decide) m_X7_tell_f21 rfl dX7_tell_23 ?_
      refine J_iload_n X dX7_tell_26 2 rfl ?_
      refine J_iload_n X dX7_tell_27 3 rfl ?_
      obtain ⟨hk5, hT⟩ := ckn_e hT
      refine J_iast (ws' := (w_X7_tell cI cJ cZ h_this q_this this_count this_first this_since (upd this_known x2.toNatClampNeg x3))) X 1 rfl rfl hk5 rfl dX7_tell_28 ?_
      cases hT
      exact J_vret X dX7_tell_29
-- ===== SoldMatches$Rumour.spread(II)V
abbrev rmX7_spread : Room := { frames := 1, cells := 0, slots := 0, locals := 23 }
def w_X7_spread (cI cJ cZ : ClassId) (h_this : Nat) (q_this : Nat → Nat) (this_count : Int32) (this_first : Int32) (this_since : Int32) (this_hour : Nat → Int32) (this_known : Nat → Int32) (this_one : Nat → Int32) (this_other : Nat → Int32) : va_W := [(h_this, .inr (7, oFX7 q_this this_count this_first this_since)), ((q_this 3), .inl (cI, 30, .inl this_hour)), ((q_this 4), .inl (cI, 10, .inl this_known)), ((q_this 1), .inl (cI, 30, .inl this_one)), ((q_this 2), .inl (cI, 30, .inl this_other))]
theorem m_X7_spread_f31 : Cond.fieldLink RX7 31 "SoldMatches$Rumour" "count" "I" ∈ wsX7_spread := List.mem_of_getElem? (i := 2) rfl
theorem in_X7_spread_X7 : ∀ w ∈ wsX70, w ∈ wsX7_spread := fun w h => List.mem_cons_of_mem _ (List.mem_append_right _ h)
theorem m_X7_spread_f18 : Cond.fieldLink RX7 18 "SoldMatches$Rumour" "hour" "[I" ∈ wsX7_spread := List.mem_of_getElem? (i := 3) rfl
theorem m_X7_spread_f9 : Cond.fieldLink RX7 9 "SoldMatches$Rumour" "one" "[I" ∈ wsX7_spread := List.mem_of_getElem? (i := 4) rfl
theorem m_X7_spread_f15 : Cond.fieldLink RX7 15 "SoldMatches$Rumour" "other" "[I" ∈ wsX7_spread := List.mem_of_getElem? (i := 5) rfl
theorem cw_X7_spread_X7_tell_40 {s : State} {args : Array Value} (hts : ∀ w ∈ wsX7_spread, w.before args s = true) : CallW rmX7_spread s args RX7 RX7 40 yX7_tell cX7_tell 4 none wsX7_tell rmX7_tell 0 0 3 := cwV 3 hts gX7_spread_X7_tell rfl rfl rfl (by decide +kernel) ⟨by decide, by decide⟩
theorem m_X7_spread_f21 : Cond.fieldLink RX7 21 "SoldMatches$Rumour" "known" "[I" ∈ wsX7_spread := List.mem_of_getElem? (i := 1) rfl
theorem cw_X7_spread_J7_fill_53178_34 {s : State} {args : Array Value} (hts : ∀ w ∈ wsX7_spread, w.before args s = true) : CallB rmX7_spread s args RX7 34 yJ7_fill_53178 cJ7_fill_53178 4 none wsJ7_fill_53178 rmJ7_fill_53178 0 0 2 ∧ (Cond.static yJ7_fill_53178).before args s = true := va_cwS 2 hts gX7_spread_J7_fill_53178 rfl rfl rfl (by decide +kernel) ⟨by decide, by decide⟩
def t_X7_spread_80  (k_18 : Int32 → (Nat → Int32) → (Nat → Int32) → (Nat → Int32) → (Nat → Int32) → Int32 → Int32 → (Option ((Nat → Int32)))) (this_count : Int32) (this_hour : Nat → Int32) (this_known : Nat → Int32) (this_one : Nat → Int32) (this_other : Nat → Int32) (x2 : Int32) (x3 : Int32) : Option ((Nat → Int32)) := k_18 this_count this_hour this_known this_one this_other x2 (x3 + (1 : Int32))
def t_X7_spread_18_b  (k_18 : Int32 → (Nat → Int32) → (Nat → Int32) → (Nat → Int32) → (Nat → Int32) → Int32 → Int32 → (Option ((Nat → Int32)))) (this_count : Int32) (this_hour : Nat → Int32) (this_known : Nat → Int32) (this_one : Nat → Int32) (this_other : Nat → Int32) (x2 : Int32) (x3 : Int32) : Option ((Nat → Int32)) := if this_count ≤ x3 then (some (this_known)) else (ckn (x3 < 0 ∨ 30 ≤ x3.toNatClampNeg) (if (this_hour x3.toNatClampNeg) < x2 then (t_X7_spread_80  k_18 this_count this_hour this_known this_one this_other x2 x3) else (ckn (x3 < 0 ∨ 30 ≤ x3.toNatClampNeg) (ckn (x3 < 0 ∨ 30 ≤ x3.toNatClampNeg) (ckn (x3 < 0 ∨ 30 ≤ x3.toNatClampNeg) (bd1 (t_X7_tell this_known (this_one x3.toNatClampNeg) (this_other x3.toNatClampNeg) (this_hour x3.toNatClampNeg)) (fun u7_0 => ckn (x3 < 0 ∨ 30 ≤ x3.toNatClampNeg) (ckn (x3 < 0 ∨ 30 ≤ x3.toNatClampNeg) (ckn (x3 < 0 ∨ 30 ≤ x3.toNatClampNeg) (bd1 (t_X7_tell u7_0 (this_other x3.toNatClampNeg) (this_one x3.toNatClampNeg) (this_hour x3.toNatClampNeg)) (fun u11_0 => t_X7_spread_80  k_18 this_count this_hour u11_0 this_one this_other x2 x3)))))))))))
def t_X7_spread_18   (n : Nat) : Int32 → (Nat → Int32) → (Nat → Int32) → (Nat → Int32) → (Nat → Int32) → Int32 → Int32 → (Option ((Nat → Int32))) := Nat.rec (fun _ _ _ _ _ _ _ => none) (fun _ ih => t_X7_spread_18_b   ih) n
def t_X7_spread  (this_count : Int32) (this_hour : Nat → Int32) (this_known : Nat → Int32) (this_one : Nat → Int32) (this_other : Nat → Int32) (x1 : Int32) (x2 : Int32) : Option ((Nat → Int32)) := bd1 (t_J7_fill_53178 10 this_known (-6 : Int32)) (fun u12_0 => ckn (x1 < 0 ∨ 10 ≤ x1.toNatClampNeg) (t_X7_spread_18   lfuel this_count this_hour (upd u12_0 x1.toNatClampNeg x2) this_one this_other x2 (0 : Int32)))
set_option maxHeartbeats 4000000 in
set_option maxRecDepth 100000 in
theorem b_X7_spread_80 {p : Program} {l : Launch} {e : Env} {s : State} {m : MethodId} {args : Array Value} {below : List Frame} {meth : Method} {c : Code} {D : va_G} {A : Nat → Prop} {cI cJ cZ : ClassId} (X : Cx p m c cX7_spread 4 s args wsX7_spread RX7 D (tys3 cI cJ cZ) meth none) (_ _ _ : ClassId)  (h_this : Nat) (q_this : Nat → Nat) (this_first : Int32) (this_since : Int32) (z0 : Nat → Int32) (k_18 : Int32 → (Nat → Int32) → (Nat → Int32) → (Nat → Int32) → (Nat → Int32) → Int32 → Int32 → (Option ((Nat → Int32)))) (hk_18 : ∀ (this_count : Int32) (this_hour : Nat → Int32) (this_known : Nat → Int32) (this_one : Nat → Int32) (this_other : Nat → Int32) (x2 : Int32) (x3 : Int32), k_18 this_count this_hour this_known this_one this_other x2 x3 = some z0 → J p l e rmX7_spread s m args below meth c D A 4 (QV D below args s A (w_X7_spread cI cJ cZ h_this q_this this_count this_first this_since this_hour z0 this_one this_other)) 0 0 (w_X7_spread cI cJ cZ h_this q_this this_count this_first this_since this_hour this_known this_one this_other) [(0, .ref h_this), (2, .int x2), (3, .int x3)] [] 18) (this_count : Int32) (this_hour : Nat → Int32) (this_known : Nat → Int32) (this_one : Nat → Int32) (this_other : Nat → Int32) (x2 : Int32) (x3 : Int32) (hT : t_X7_spread_80  k_18 this_count this_hour this_known this_one this_other x2 x3 = some z0) : J p l e rmX7_spread s m args below meth c D A 4 (QV D below args s A (w_X7_spread cI cJ cZ h_this q_this this_count this_first this_since this_hour z0 this_one this_other)) 0 0 (w_X7_spread cI cJ cZ h_this q_this this_count this_first this_since this_hour this_known this_one this_other) [(0, .ref h_this), (2, .int x2), (3, .int x3)] [] 80 := by
  unfold t_X7_spread_80 at hT
  refine J_iinc (lv' := [(3, .int (x3 + (1 : Int32))), (0, .ref h_this), (2, .int x2)]) (j := 2) X dX7_spread_80 rfl rfl (by decide) rfl ?_
  refine J_goto (tgt := 18) X dX7_spread_83 (by decide) ?_
  refine J_lv (lv' := [(0, .ref h_this), (2, .int x2), (3, .int (x3 + (1 : Int32)))]) [1, 2, 0] rfl ?_
  exact hk_18 this_count this_hour this_known this_one this_other x2 (x3 + (1 : Int32)) hT
set_option maxHeartbeats 4000000 in
set_option maxRecDepth 100000 in
theorem b_X7_spread_18_b {p : Program} {l : Launch} {e : Env} {s : State} {m : MethodId} {args : Array Value} {below : List Frame} {meth : Method} {c : Code} {D : va_G} {A : Nat → Prop} {cI cJ cZ : ClassId} (X : Cx p m c cX7_spread 4 s args wsX7_spread RX7 D (tys3 cI cJ cZ) meth none) (_ _ _ : ClassId)  (h_this : Nat) (q_this : Nat → Nat) (this_first : Int32) (this_since : Int32) (z0 : Nat → Int32) (k_18 : Int32 → (Nat → Int32) → (Nat → Int32) → (Nat → Int32) → (Nat → Int32) → Int32 → Int32 → (Option ((Nat → Int32)))) (hk_18 : ∀ (this_count : Int32) (this_hour : Nat → Int32) (this_known : Nat → Int32) (this_one : Nat → Int32) (this_other : Nat → Int32) (x2 : Int32) (x3 : Int32), k_18 this_count this_hour this_known this_one this_other x2 x3 = some z0 → J p l e rmX7_spread s m args below meth c D A 4 (QV D below args s A (w_X7_spread cI cJ cZ h_this q_this this_count this_first this_since this_hour z0 this_one this_other)) 0 0 (w_X7_spread cI cJ cZ h_this q_this this_count this_first this_since this_hour this_known this_one this_other) [(0, .ref h_this), (2, .int x2), (3, .int x3)] [] 18) (this_count : Int32) (this_hour : Nat → Int32) (this_known : Nat → Int32) (this_one : Nat → Int32) (this_other : Nat → Int32) (x2 : Int32) (x3 : Int32) (hT : t_X7_spread_18_b  k_18 this_count this_hour this_known this_one this_other x2 x3 = some z0) : J p l e rmX7_spread s m args below meth c D A 4 (QV D below args s A (w_X7_spread cI cJ cZ h_this q_this this_count this_first this_since this_hour z0 this_one this_other)) 0 0 (w_X7_spread cI cJ cZ h_this q_this this_count this_first this_since this_hour this_known this_one this_other) [(0, .ref h_this), (2, .int x2), (3, .int x3)] [] 18 := by
  unfold t_X7_spread_18_b at hT
  refine J_iload_n X dX7_spread_18 2 rfl ?_
  refine J_aload_n X dX7_spread_19 0 rfl ?_
  refine J_get (C := RX7) (T := TX7) (N := 8) (ci := 7) (v := .int this_count) X in_X7_spread_X7 0 rfl rfl 0 (by decide) m_X7_spread_f31 rfl dX7_spread_20 ?_
  refine J_icmp_ge (tgt := 86) X dX7_spread_23 (by decide) (fun hc1 => ?_) (fun hc1 => ?_)
  · have hT := ift hT hc1
    cases hT
    exact J_vret X dX7_spread_86
  · have hT := iff_ hT hc1
    refine J_aload_n X dX7_spread_26 0 rfl ?_
    refine J_get (C := RX7) (T := TX7) (N := 8) (ci := 7) (v := .ref (q_this 3)) X in_X7_spread_X7 0 rfl rfl 3 (by decide) m_X7_spread_f18 rfl dX7_spread_27 ?_
    refine J_iload_n X dX7_spread_30 2 rfl ?_
    obtain ⟨hk2, hT⟩ := ckn_e hT
    refine J_iald X 1 rfl rfl hk2 dX7_spread_31 ?_
    refine J_iload_n X dX7_spread_32 1 rfl ?_
    refine J_icmp_lt (tgt := 80) X dX7_spread_33 (by decide) (fun hc3 => ?_) (fun hc3 => ?_)
    · have hT := ift hT hc3
      exact b_X7_spread_80 X cI cJ cZ h_this q_this this_first this_since z0 k_18 hk_18 this_count this_hour this_known this_one this_other x2 x3 hT
    · have hT := iff_ hT hc3
      refine J_aload_n X dX7_spread_36 0 rfl ?_
      refine J_aload_n X dX7_spread_37 0 rfl ?_
      refine J_get (C := RX7) (T := TX7) (N := 8) (ci := 7) (v := .ref (q_this 1)) X in_X7_spread_X7 0 rfl rfl 1 (by decide) m_X7_spread_f9 rfl dX7_spread_38 ?_
      refine J_iload_n X dX7_spread_41 2 rfl ?_
      obtain ⟨hk4, hT⟩ := ckn_e hT
      refine J_iald X 3 rfl rfl hk4 dX7_spread_42 ?_
      refine J_aload_n X dX7_spread_43 0 rfl ?_
      refine J_get (C := RX7) (T := TX7) (N := 8) (ci := 7) (v := .ref (q_this 2)) X in_X7_spread_X7 0 rfl rfl 2 (by decide) m_X7_spread_f15 rfl dX7_spread_44 ?_
      refine J_iload_n X dX7_spread_47 2 rfl ?_
      obtain ⟨hk5, hT⟩ := ckn_e hT
      refine J_iald X 4 rfl rfl hk5 dX7_spread_48 ?_
      refine J_aload_n X dX7_spread_49 0 rfl ?_
      refine J_get (C := RX7) (T := TX7) (N := 8) (ci := 7) (v := .ref (q_this 3)) X in_X7_spread_X7 0 rfl rfl 3 (by decide) m_X7_spread_f18 rfl dX7_spread_50 ?_
      refine J_iload_n X dX7_spread_53 2 rfl ?_
      obtain ⟨hk6, hT⟩ := ckn_e hT
      refine J_iald X 1 rfl rfl hk6 dX7_spread_54 ?_
      obtain ⟨u7_0, hq7, hT⟩ := bd1_e hT
      refine J_cv (wc := (w_X7_tell cI cJ cZ h_this q_this this_count this_first this_since this_known)) (wc' := (w_X7_tell cI cJ cZ h_this q_this this_count this_first this_since u7_0)) (ws' := (w_X7_spread cI cJ cZ h_this q_this this_count this_first this_since this_hour u7_0 this_one this_other)) [0, 2] [1, 3, 4] 5 rfl rfl rfl rfl rfl rfl rfl rfl (run_V (As := [.int (this_one x3.toNatClampNeg), .int (this_other x3.toNatClampNeg), .int (this_hour x3.toNatClampNeg)]) (rest := []) X (c_X7_tell l D cI cJ cZ h_this q_this this_count this_first this_since this_known (this_one x3.toNatClampNeg) (this_other x3.toNatClampNeg) (this_hour x3.toNatClampNeg) u7_0 hq7) (cw_X7_spread_X7_tell_40 X.1.2.2.2.2) 0 rfl rfl rfl rfl (Nat.le_of_ble_eq_true rfl) dX7_spread_55 ⟨Nat.zero_le _, Nat.zero_le _⟩) ?_
      refine J_aload_n X dX7_spread_58 0 rfl ?_
      refine J_aload_n X dX7_spread_59 0 rfl ?_
      refine J_get (C := RX7) (T := TX7) (N := 8) (ci := 7) (v := .ref (q_this 2)) X in_X7_spread_X7 0 rfl rfl 2 (by decide) m_X7_spread_f15 rfl dX7_spread_60 ?_
      refine J_iload_n X dX7_spread_63 2 rfl ?_
      obtain ⟨hk8, hT⟩ := ckn_e hT
      refine J_iald X 4 rfl rfl hk8 dX7_spread_64 ?_
      refine J_aload_n X dX7_spread_65 0 rfl ?_
      refine J_get (C := RX7) (T := TX7) (N := 8) (ci := 7) (v := .ref (q_this 1)) X in_X7_spread_X7 0 rfl rfl 1 (by decide) m_X7_spread_f9 rfl dX7_spread_66 ?_
      refine J_iload_n X dX7_spread_69 2 rfl ?_
      obtain ⟨hk9, hT⟩ := ckn_e hT
      refine J_iald X 3 rfl rfl hk9 dX7_spread_70 ?_
      refine J_aload_n X dX7_spread_71 0 rfl ?_
      refine J_get (C := RX7) (T := TX7) (N := 8) (ci := 7) (v := .ref (q_this 3)) X in_X7_spread_X7 0 rfl rfl 3 (by decide) m_X7_spread_f18 rfl dX7_spread_72 ?_
      refine J_iload_n X dX7_spread_75 2 rfl ?_
      obtain ⟨hk10, hT⟩ := ckn_e hT
      refine J_iald X 1 rfl rfl hk10 dX7_spread_76 ?_
      obtain ⟨u11_0, hq11, hT⟩ := bd1_e hT
      refine J_cv (wc := (w_X7_tell cI cJ cZ h_this q_this this_count this_first this_since u7_0)) (wc' := (w_X7_tell cI cJ cZ h_this q_this this_count this_first this_since u11_0)) (ws' := (w_X7_spread cI cJ cZ h_this q_this this_count this_first this_since this_hour u11_0 this_one this_other)) [0, 2] [1, 3, 4] 5 rfl rfl rfl rfl rfl rfl rfl rfl (run_V (As := [.int (this_other x3.toNatClampNeg), .int (this_one x3.toNatClampNeg), .int (this_hour x3.toNatClampNeg)]) (rest := []) X (c_X7_tell l D cI cJ cZ h_this q_this this_count this_first this_since u7_0 (this_other x3.toNatClampNeg) (this_one x3.toNatClampNeg) (this_hour x3.toNatClampNeg) u11_0 hq11) (cw_X7_spread_X7_tell_40 X.1.2.2.2.2) 0 rfl rfl rfl rfl (Nat.le_of_ble_eq_true rfl) dX7_spread_77 ⟨Nat.zero_le _, Nat.zero_le _⟩) ?_
      exact b_X7_spread_80 X cI cJ cZ h_this q_this this_first this_since z0 k_18 hk_18 this_count this_hour u11_0 this_one this_other x2 x3 hT
set_option maxHeartbeats 4000000 in
set_option maxRecDepth 100000 in
theorem b_X7_spread_18 {p : Program} {l : Launch} {e : Env} {s : State} {m : MethodId} {args : Array Value} {below : List Frame} {meth : Method} {c : Code} {D : va_G} {A : Nat → Prop} {cI cJ cZ : ClassId} (X : Cx p m c cX7_spread 4 s args wsX7_spread RX7 D (tys3 cI cJ cZ) meth none) (_ _ _ : ClassId)  (h_this : Nat) (q_this : Nat → Nat) (this_first : Int32) (this_since : Int32) (z0 : Nat → Int32)  : ∀ (n : Nat) (this_count : Int32) (this_hour : Nat → Int32) (this_known : Nat → Int32) (this_one : Nat → Int32) (this_other : Nat → Int32) (x2 : Int32) (x3 : Int32) (hT : t_X7_spread_18   n this_count this_hour this_known this_one this_other x2 x3 = some z0), J p l e rmX7_spread s m args below meth c D A 4 (QV D below args s A (w_X7_spread cI cJ cZ h_this q_this this_count this_first this_since this_hour z0 this_one this_other)) 0 0 (w_X7_spread cI cJ cZ h_this q_this this_count this_first this_since this_hour this_known this_one this_other) [(0, .ref h_this), (2, .int x2), (3, .int x3)] [] 18 := by
  intro n
  induction n with
  | zero => intro this_count this_hour this_known this_one this_other x2 x3 hT; cases hT
  | succ n ih =>
    intro this_count this_hour this_known this_one this_other x2 x3 hT
    exact b_X7_spread_18_b X cI cJ cZ h_this q_this this_first this_since z0  (t_X7_spread_18   n) ih this_count this_hour this_known this_one this_other x2 x3 hT
set_option maxHeartbeats 4000000 in
set_option maxRecDepth 100000 in
theorem c_X7_spread (l : Launch) (D : va_G) (cI cJ cZ : ClassId) (h_this : Nat) (q_this : Nat → Nat) (this_count : Int32) (this_first : Int32) (this_since : Int32) (this_hour : Nat → Int32) (this_known : Nat → Int32) (this_one : Nat → Int32) (this_other : Nat → Int32) (x1 : Int32) (x2 : Int32) (z0 : Nat → Int32) (hT : t_X7_spread  this_count this_hour this_known this_one this_other x1 x2 = some z0) : Cv l yX7_spread wsX7_spread rmX7_spread D (tys3 cI cJ cZ) [.ref h_this, .int x1, .int x2] (w_X7_spread cI cJ cZ h_this q_this this_count this_first this_since this_hour this_known this_one this_other) (w_X7_spread cI cJ cZ h_this q_this this_count this_first this_since this_hour z0 this_one this_other) := by
  refine Cv.ofJ (cc := cX7_spread) (nL := 4) (rt := none) (own := RX7) (by decide) rfl rfl (Nat.le_of_ble_eq_true rfl) ?_
  intro p e s m below meth c A X
  unfold t_X7_spread at hT
  refine J_lv (lv' := [(0, .ref h_this), (1, .int x1), (2, .int x2)]) [0, 1, 2] rfl ?_
  refine J_aload_n X dX7_spread_0 0 rfl ?_
  refine J_get (C := RX7) (T := TX7) (N := 8) (ci := 7) (v := .ref (q_this 4)) X in_X7_spread_X7 0 rfl rfl 4 (by decide) m_X7_spread_f21 rfl dX7_spread_1 ?_
  refine J_bipush (v := -6) X dX7_spread_4 (by decide) ?_
  obtain ⟨u12_0, hq12, hT⟩ := bd1_e hT
  refine J_cv (wc := (w_J7_fill_53178 cI cJ cZ (q_this 4) 10 this_known)) (wc' := (w_J7_fill_53178 cI cJ cZ (q_this 4) 10 u12_0)) (ws' := (w_X7_spread cI cJ cZ h_this q_this this_count this_first this_since this_hour u12_0 this_one this_other)) [2] [0, 1, 3, 4] 5 rfl rfl rfl rfl rfl rfl rfl rfl (run_S (As := [.ref (q_this 4), .int (-6 : Int32)]) (rest := []) X (c_J7_fill_53178 l D cI cJ cZ (q_this 4) 10 this_known (-6 : Int32) u12_0 hq12) (cw_X7_spread_J7_fill_53178_34 X.1.2.2.2.2) rfl rfl (Nat.le_of_ble_eq_true rfl) dX7_spread_6 ⟨Nat.zero_le _, Nat.zero_le _⟩) ?_
  refine J_aload_n X dX7_spread_9 0 rfl ?_
  refine J_get (C := RX7) (T := TX7) (N := 8) (ci := 7) (v := .ref (q_this 4)) X in_X7_spread_X7 0 rfl rfl 4 (by decide) m_X7_spread_f21 rfl dX7_spread_10 ?_
  refine J_iload_n X dX7_spread_13 1 rfl ?_
  refine J_iload_n X dX7_spread_14 2 rfl ?_
  obtain ⟨hk13, hT⟩ := ckn_e hT
  refine J_iast (ws' := (w_X7_spread cI cJ cZ h_this q_this this_count this_first this_since this_hour (upd u12_0 x1.toNatClampNeg x2) this_one this_other)) X 2 rfl rfl hk13 rfl dX7_spread_15 ?_
  refine J_iconst (v := 0) X dX7_spread_16 (by decide) ?_
  refine J_istore_n (lv' := [(3, .int (0 : Int32)), (0, .ref h_this), (1, .int x1), (2, .int x2)]) X dX7_spread_17 (by decide) rfl ?_
  refine J_lv (lv' := [(0, .ref h_this), (2, .int x2), (3, .int (0 : Int32))]) [1, 3, 0] rfl ?_
  exact b_X7_spread_18 X cI cJ cZ h_this q_this this_first this_since z0  lfuel this_count this_hour (upd u12_0 x1.toNatClampNeg x2) this_one this_other x2 (0 : Int32) hT
-- ===== SoldMatches$Rumour.countExplained(IILSoldMatches$Bets;)I
abbrev rmX7_countExplained : Room := { frames := 2, cells := 0, slots := 0, locals := 46 }
def w_X7_countExplained (cI cJ cZ : ClassId) (h_p3 : Nat) (h_this : Nat) (q_p3 : Nat → Nat) (q_this : Nat → Nat) (p3_count : Int32) (p3_near : Int32) (p3_times : Int32) (p3_ties : Int32) (this_count : Int32) (this_first : Int32) (this_since : Int32) (p3_hand : Nat → Int32) (p3_match : Nat → Int32) (p3_minute : Nat → Int32) (this_hour : Nat → Int32) (this_known : Nat → Int32) (this_one : Nat → Int32) (this_other : Nat → Int32) (this_owner : Nat → Int32) : va_W := [(h_p3, .inr (0, oFX0 q_p3 p3_count p3_near p3_times p3_ties)), (h_this, .inr (7, oFX7 q_this this_count this_first this_since)), ((q_p3 4), .inl (cI, 40, .inl p3_hand)), ((q_p3 5), .inl (cI, 40, .inl p3_match)), ((q_p3 7), .inl (cI, 40, .inl p3_minute)), ((q_this 3), .inl (cI, 30, .inl this_hour)), ((q_this 4), .inl (cI, 10, .inl this_known)), ((q_this 1), .inl (cI, 30, .inl this_one)), ((q_this 2), .inl (cI, 30, .inl this_other)), ((q_this 5), .inl (cI, 10, .inl this_owner))]
theorem in_X7_countExplained_X0 : ∀ w ∈ wsX00, w ∈ wsX7_countExplained := fun w h => List.mem_cons_of_mem _ (List.mem_append_right _ h)
theorem m_X7_countExplained_f21 : Cond.fieldLink RX7 21 "SoldMatches$Rumour" "known" "[I" ∈ wsX7_countExplained := List.mem_of_getElem? (i := 3) rfl
theorem in_X7_countExplained_X7 : ∀ w ∈ wsX70, w ∈ wsX7_countExplained := fun w h => List.mem_cons_of_mem _ (List.mem_append_left _ (List.mem_append_right _ h))
theorem m_X7_countExplained_f24 : Cond.fieldLink RX7 24 "SoldMatches$Rumour" "owner" "[I" ∈ wsX7_countExplained := List.mem_of_getElem? (i := 4) rfl
theorem m_X7_countExplained_f27 : Cond.fieldLink RX7 27 "SoldMatches$Rumour" "first" "I" ∈ wsX7_countExplained := List.mem_of_getElem? (i := 1) rfl
theorem m_X7_countExplained_f44 : Cond.fieldLink RX7 44 "SoldMatches$Rumour" "since" "I" ∈ wsX7_countExplained := List.mem_of_getElem? (i := 2) rfl
theorem cw_X7_countExplained_X7_spread_47 {s : State} {args : Array Value} (hts : ∀ w ∈ wsX7_countExplained, w.before args s = true) : CallW rmX7_countExplained s args RX7 RX7 47 yX7_spread cX7_spread 4 none wsX7_spread rmX7_spread 0 0 2 := cwV 2 hts gX7_countExplained_X7_spread rfl rfl rfl (by decide +kernel) ⟨by decide, by decide⟩
def t_X7_countExplained_99  (k_29 : Int32 → Int32 → Int32 → Int32 → (Nat → Int32) → (Nat → Int32) → (Nat → Int32) → (Nat → Int32) → (Nat → Int32) → (Nat → Int32) → (Nat → Int32) → (Nat → Int32) → Int32 → Int32 → Int32 → Int32 → (Option (Int32 × (Nat → Int32)))) (p3_count : Int32) (this_count : Int32) (this_first : Int32) (this_since : Int32) (p3_hand : Nat → Int32) (p3_match : Nat → Int32) (p3_minute : Nat → Int32) (this_hour : Nat → Int32) (this_known : Nat → Int32) (this_one : Nat → Int32) (this_other : Nat → Int32) (this_owner : Nat → Int32) (x1 : Int32) (x2 : Int32) (x4 : Int32) (x5 : Int32) : Option (Int32 × (Nat → Int32)) := k_29 p3_count this_count this_first this_since p3_hand p3_match p3_minute this_hour this_known this_one this_other this_owner x1 x2 x4 (x5 + (1 : Int32))
def t_X7_countExplained_29_b  (k_29 : Int32 → Int32 → Int32 → Int32 → (Nat → Int32) → (Nat → Int32) → (Nat → Int32) → (Nat → Int32) → (Nat → Int32) → (Nat → Int32) → (Nat → Int32) → (Nat → Int32) → Int32 → Int32 → Int32 → Int32 → (Option (Int32 × (Nat → Int32)))) (p3_count : Int32) (this_count : Int32) (this_first : Int32) (this_since : Int32) (p3_hand : Nat → Int32) (p3_match : Nat → Int32) (p3_minute : Nat → Int32) (this_hour : Nat → Int32) (this_known : Nat → Int32) (this_one : Nat → Int32) (this_other : Nat → Int32) (this_owner : Nat → Int32) (x1 : Int32) (x2 : Int32) (x4 : Int32) (x5 : Int32) : Option (Int32 × (Nat → Int32)) := if p3_count ≤ x5 then (some (x4, this_known)) else (ckn (x5 < 0 ∨ 40 ≤ x5.toNatClampNeg) (ckn ((p3_hand x5.toNatClampNeg) < 0 ∨ 10 ≤ (p3_hand x5.toNatClampNeg).toNatClampNeg) (ckn ((this_owner (p3_hand x5.toNatClampNeg).toNatClampNeg) < 0 ∨ 10 ≤ (this_owner (p3_hand x5.toNatClampNeg).toNatClampNeg).toNatClampNeg) (ckn (x5 < 0 ∨ 40 ≤ x5.toNatClampNeg) (ckn (x5 < 0 ∨ 40 ≤ x5.toNatClampNeg) (if (p3_match x5.toNatClampNeg) = x1 then (if (this_known (this_owner (p3_hand x5.toNatClampNeg).toNatClampNeg).toNatClampNeg) = (-6 : Int32) then (t_X7_countExplained_99  k_29 p3_count this_count this_first this_since p3_hand p3_match p3_minute this_hour this_known this_one this_other this_owner x1 x2 x4 x5) else (if (x2 + ((p3_minute x5.toNatClampNeg) / (60 : Int32))) < (this_known (this_owner (p3_hand x5.toNatClampNeg).toNatClampNeg).toNatClampNeg) then (t_X7_countExplained_99  k_29 p3_count this_count this_first this_since p3_hand p3_match p3_minute this_hour this_known this_one this_other this_owner x1 x2 x4 x5) else (t_X7_countExplained_99  k_29 p3_count this_count this_first this_since p3_hand p3_match p3_minute this_hour this_known this_one this_other this_owner x1 x2 (x4 + (1 : Int32)) x5))) else (t_X7_countExplained_99  k_29 p3_count this_count this_first this_since p3_hand p3_match p3_minute this_hour this_known this_one this_other this_owner x1 x2 x4 x5)))))))
def t_X7_countExplained_29   (n : Nat) : Int32 → Int32 → Int32 → Int32 → (Nat → Int32) → (Nat → Int32) → (Nat → Int32) → (Nat → Int32) → (Nat → Int32) → (Nat → Int32) → (Nat → Int32) → (Nat → Int32) → Int32 → Int32 → Int32 → Int32 → (Option (Int32 × (Nat → Int32))) := Nat.rec (fun _ _ _ _ _ _ _ _ _ _ _ _ _ _ _ _ => none) (fun _ ih => t_X7_countExplained_29_b   ih) n
def t_X7_countExplained  (p3_count : Int32) (this_count : Int32) (this_first : Int32) (this_since : Int32) (p3_hand : Nat → Int32) (p3_match : Nat → Int32) (p3_minute : Nat → Int32) (this_hour : Nat → Int32) (this_known : Nat → Int32) (this_one : Nat → Int32) (this_other : Nat → Int32) (this_owner : Nat → Int32) (x1 : Int32) (x2 : Int32) : Option (Int32 × (Nat → Int32)) := if this_first = (-6 : Int32) then (some ((0 : Int32), this_known)) else (bd1 (t_X7_spread this_count this_hour this_known this_one this_other this_first this_since) (fun u11_0 => t_X7_countExplained_29   lfuel p3_count this_count this_first this_since p3_hand p3_match p3_minute this_hour u11_0 this_one this_other this_owner x1 x2 (0 : Int32) (0 : Int32)))
set_option maxHeartbeats 4000000 in
set_option maxRecDepth 100000 in
theorem b_X7_countExplained_99 {p : Program} {l : Launch} {e : Env} {s : State} {m : MethodId} {args : Array Value} {below : List Frame} {meth : Method} {c : Code} {D : va_G} {A : Nat → Prop} {cI cJ cZ : ClassId} (X : Cx p m c cX7_countExplained 8 s args wsX7_countExplained RX7 D (tys3 cI cJ cZ) meth (some .int)) (_ _ _ : ClassId)  (h_p3 : Nat) (h_this : Nat) (q_p3 : Nat → Nat) (q_this : Nat → Nat) (p3_near : Int32) (p3_times : Int32) (p3_ties : Int32) (r : Int32) (z0 : Nat → Int32) (k_29 : Int32 → Int32 → Int32 → Int32 → (Nat → Int32) → (Nat → Int32) → (Nat → Int32) → (Nat → Int32) → (Nat → Int32) → (Nat → Int32) → (Nat → Int32) → (Nat → Int32) → Int32 → Int32 → Int32 → Int32 → (Option (Int32 × (Nat → Int32)))) (hk_29 : ∀ (p3_count : Int32) (this_count : Int32) (this_first : Int32) (this_since : Int32) (p3_hand : Nat → Int32) (p3_match : Nat → Int32) (p3_minute : Nat → Int32) (this_hour : Nat → Int32) (this_known : Nat → Int32) (this_one : Nat → Int32) (this_other : Nat → Int32) (this_owner : Nat → Int32) (x1 : Int32) (x2 : Int32) (x4 : Int32) (x5 : Int32), k_29 p3_count this_count this_first this_since p3_hand p3_match p3_minute this_hour this_known this_one this_other this_owner x1 x2 x4 x5 = some (r, z0) → J p l e rmX7_countExplained s m args below meth c D A 8 (QI D below args s A r (w_X7_countExplained cI cJ cZ h_p3 h_this q_p3 q_this p3_count p3_near p3_times p3_ties this_count this_first this_since p3_hand p3_match p3_minute this_hour z0 this_one this_other this_owner)) 0 0 (w_X7_countExplained cI cJ cZ h_p3 h_this q_p3 q_this p3_count p3_near p3_times p3_ties this_count this_first this_since p3_hand p3_match p3_minute this_hour this_known this_one this_other this_owner) [(0, .ref h_this), (1, .int x1), (2, .int x2), (3, .ref h_p3), (4, .int x4), (5, .int x5)] [] 29) (p3_count : Int32) (this_count : Int32) (this_first : Int32) (this_since : Int32) (p3_hand : Nat → Int32) (p3_match : Nat → Int32) (p3_minute : Nat → Int32) (this_hour : Nat → Int32) (this_known : Nat → Int32) (this_one : Nat → Int32) (this_other : Nat → Int32) (this_owner : Nat → Int32) (x1 : Int32) (x2 : Int32) (x4 : Int32) (x5 : Int32) (hT : t_X7_countExplained_99  k_29 p3_count this_count this_first this_since p3_hand p3_match p3_minute this_hour this_known this_one this_other this_owner x1 x2 x4 x5 = some (r, z0)) : J p l e rmX7_countExplained s m args below meth c D A 8 (QI D below args s A r (w_X7_countExplained cI cJ cZ h_p3 h_this q_p3 q_this p3_count p3_near p3_times p3_ties this_count this_first this_since p3_hand p3_match p3_minute this_hour z0 this_one this_other this_owner)) 0 0 (w_X7_countExplained cI cJ cZ h_p3 h_this q_p3 q_this p3_count p3_near p3_times p3_ties this_count this_first this_since p3_hand p3_match p3_minute this_hour this_known this_one this_other this_owner) [(0, .ref h_this), (1, .int x1), (2, .int x2), (3, .ref h_p3), (4, .int x4), (5, .int x5)] [] 99 := by
  unfold t_X7_countExplained_99 at hT
  refine J_iinc (lv' := [(5, .int (x5 + (1 : Int32))), (0, .ref h_this), (1, .int x1), (2, .int x2), (3, .ref h_p3), (4, .int x4)]) (j := 5) X dX7_countExplained_99 rfl rfl (by decide) rfl ?_
  refine J_goto (tgt := 29) X dX7_countExplained_102 (by decide) ?_
  refine J_lv (lv' := [(0, .ref h_this), (1, .int x1), (2, .int x2), (3, .ref h_p3), (4, .int x4), (5, .int (x5 + (1 : Int32)))]) [1, 2, 3, 4, 5, 0] rfl ?_
  exact hk_29 p3_count this_count this_first this_since p3_hand p3_match p3_minute this_hour this_known this_one this_other this_owner x1 x2 x4 (x5 + (1 : Int32)) hT
set_option maxHeartbeats 4000000 in
set_option maxRecDepth 100000 in
theorem b_X7_countExplained_29_b {p : Program} {l : Launch} {e : Env} {s : State} {m : MethodId} {args : Array Value} {below : List Frame} {meth : Method} {c : Code} {D : va_G} {A : Nat → Prop} {cI cJ cZ : ClassId} (X : Cx p m c cX7_countExplained 8 s args wsX7_countExplained RX7 D (tys3 cI cJ cZ) meth (some .int)) (_ _ _ : ClassId)  (h_p3 : Nat) (h_this : Nat) (q_p3 : Nat → Nat) (q_this : Nat → Nat) (p3_near : Int32) (p3_times : Int32) (p3_ties : Int32) (r : Int32) (z0 : Nat → Int32) (k_29 : Int32 → Int32 → Int32 → Int32 → (Nat → Int32) → (Nat → Int32) → (Nat → Int32) → (Nat → Int32) → (Nat → Int32) → (Nat → Int32) → (Nat → Int32) → (Nat → Int32) → Int32 → Int32 → Int32 → Int32 → (Option (Int32 × (Nat → Int32)))) (hk_29 : ∀ (p3_count : Int32) (this_count : Int32) (this_first : Int32) (this_since : Int32) (p3_hand : Nat → Int32) (p3_match : Nat → Int32) (p3_minute : Nat → Int32) (this_hour : Nat → Int32) (this_known : Nat → Int32) (this_one : Nat → Int32) (this_other : Nat → Int32) (this_owner : Nat → Int32) (x1 : Int32) (x2 : Int32) (x4 : Int32) (x5 : Int32), k_29 p3_count this_count this_first this_since p3_hand p3_match p3_minute this_hour this_known this_one this_other this_owner x1 x2 x4 x5 = some (r, z0) → J p l e rmX7_countExplained s m args below meth c D A 8 (QI D below args s A r (w_X7_countExplained cI cJ cZ h_p3 h_this q_p3 q_this p3_count p3_near p3_times p3_ties this_count this_first this_since p3_hand p3_match p3_minute this_hour z0 this_one this_other this_owner)) 0 0 (w_X7_countExplained cI cJ cZ h_p3 h_this q_p3 q_this p3_count p3_near p3_times p3_ties this_count this_first this_since p3_hand p3_match p3_minute this_hour this_known this_one this_other this_owner) [(0, .ref h_this), (1, .int x1), (2, .int x2), (3, .ref h_p3), (4, .int x4), (5, .int x5)] [] 29) (p3_count : Int32) (this_count : Int32) (this_first : Int32) (this_since : Int32) (p3_hand : Nat → Int32) (p3_match : Nat → Int32) (p3_minute : Nat → Int32) (this_hour : Nat → Int32) (this_known : Nat → Int32) (this_one : Nat → Int32) (this_other : Nat → Int32) (this_owner : Nat → Int32) (x1 : Int32) (x2 : Int32) (x4 : Int32) (x5 : Int32) (hT : t_X7_countExplained_29_b  k_29 p3_count this_count this_first this_since p3_hand p3_match p3_minute this_hour this_known this_one this_other this_owner x1 x2 x4 x5 = some (r, z0)) : J p l e rmX7_countExplained s m args below meth c D A 8 (QI D below args s A r (w_X7_countExplained cI cJ cZ h_p3 h_this q_p3 q_this p3_count p3_near p3_times p3_ties this_count this_first this_since p3_hand p3_match p3_minute this_hour z0 this_one this_other this_owner)) 0 0 (w_X7_countExplained cI cJ cZ h_p3 h_this q_p3 q_this p3_count p3_near p3_times p3_ties this_count this_first this_since p3_hand p3_match p3_minute this_hour this_known this_one this_other this_owner) [(0, .ref h_this), (1, .int x1), (2, .int x2), (3, .ref h_p3), (4, .int x4), (5, .int x5)] [] 29 := by
  unfold t_X7_countExplained_29_b at hT
  refine J_iload X dX7_countExplained_29 5 rfl ?_
  refine J_aload_n X dX7_countExplained_31 3 rfl ?_
  refine J_getN (host := "SoldMatches") (C := RX0) (T := TX0) (N := 13) (ci := 0) (v := .int p3_count) X in_X7_countExplained_X0 0 rfl rfl 0 (by decide) (List.mem_of_getElem? (i := 22) rfl) rfl dX7_countExplained_32 ?_
  refine J_icmp_ge (tgt := 105) X dX7_countExplained_35 (by decide) (fun hc1 => ?_) (fun hc1 => ?_)
  · have hT := ift hT hc1
    refine J_iload X dX7_countExplained_105 4 rfl ?_
    cases hT
    exact J_iret X dX7_countExplained_107
  · have hT := iff_ hT hc1
    refine J_aload_n X dX7_countExplained_38 0 rfl ?_
    refine J_get (C := RX7) (T := TX7) (N := 8) (ci := 7) (v := .ref (q_this 4)) X in_X7_countExplained_X7 1 rfl rfl 4 (by decide) m_X7_countExplained_f21 rfl dX7_countExplained_39 ?_
    refine J_aload_n X dX7_countExplained_42 0 rfl ?_
    refine J_get (C := RX7) (T := TX7) (N := 8) (ci := 7) (v := .ref (q_this 5)) X in_X7_countExplained_X7 1 rfl rfl 5 (by decide) m_X7_countExplained_f24 rfl dX7_countExplained_43 ?_
    refine J_aload_n X dX7_countExplained_46 3 rfl ?_
    refine J_getN (host := "SoldMatches") (C := RX0) (T := TX0) (N := 13) (ci := 0) (v := .ref (q_p3 4)) X in_X7_countExplained_X0 0 rfl rfl 4 (by decide) (List.mem_of_getElem? (i := 27) rfl) rfl dX7_countExplained_47 ?_
    refine J_iload X dX7_countExplained_50 5 rfl ?_
    obtain ⟨hk2, hT⟩ := ckn_e hT
    refine J_iald X 2 rfl rfl hk2 dX7_countExplained_52 ?_
    obtain ⟨hk3, hT⟩ := ckn_e hT
    refine J_iald X 9 rfl rfl hk3 dX7_countExplained_53 ?_
    obtain ⟨hk4, hT⟩ := ckn_e hT
    refine J_iald X 6 rfl rfl hk4 dX7_countExplained_54 ?_
    refine J_istore (lv' := [(6, .int (this_known (this_owner (p3_hand x5.toNatClampNeg).toNatClampNeg).toNatClampNeg)), (0, .ref h_this), (1, .int x1), (2, .int x2), (3, .ref h_p3), (4, .int x4), (5, .int x5)]) X dX7_countExplained_55 (by decide) rfl ?_
    refine J_iload_n X dX7_countExplained_57 3 rfl ?_
    refine J_aload_n X dX7_countExplained_58 4 rfl ?_
    refine J_getN (host := "SoldMatches") (C := RX0) (T := TX0) (N := 13) (ci := 0) (v := .ref (q_p3 7)) X in_X7_countExplained_X0 0 rfl rfl 7 (by decide) (List.mem_of_getElem? (i := 29) rfl) rfl dX7_countExplained_59 ?_
    refine J_iload X dX7_countExplained_62 6 rfl ?_
    obtain ⟨hk5, hT⟩ := ckn_e hT
    refine J_iald X 4 rfl rfl hk5 dX7_countExplained_64 ?_
    refine J_bipush (v := 60) X dX7_countExplained_65 (by decide) ?_
    refine J_idiv X dX7_countExplained_67 (by decide) ?_
    refine J_iadd X dX7_countExplained_68 ?_
    refine J_istore (lv' := [(7, .int (x2 + ((p3_minute x5.toNatClampNeg) / (60 : Int32)))), (6, .int (this_known (this_owner (p3_hand x5.toNatClampNeg).toNatClampNeg).toNatClampNeg)), (0, .ref h_this), (1, .int x1), (2, .int x2), (3, .ref h_p3), (4, .int x4), (5, .int x5)]) X dX7_countExplained_69 (by decide) rfl ?_
    refine J_aload_n X dX7_countExplained_71 5 rfl ?_
    refine J_getN (host := "SoldMatches") (C := RX0) (T := TX0) (N := 13) (ci := 0) (v := .ref (q_p3 5)) X in_X7_countExplained_X0 0 rfl rfl 5 (by decide) (List.mem_of_getElem? (i := 28) rfl) rfl dX7_countExplained_72 ?_
    refine J_iload X dX7_countExplained_75 7 rfl ?_
    obtain ⟨hk6, hT⟩ := ckn_e hT
    refine J_iald X 3 rfl rfl hk6 dX7_countExplained_77 ?_
    refine J_iload_n X dX7_countExplained_78 3 rfl ?_
    refine J_icmp_ne (tgt := 99) X dX7_countExplained_79 (by decide) (fun hc7 => ?_) (fun hc7 => ?_)
    · have hT := iff_ hT hc7
      refine J_lv (lv' := [(0, .ref h_this), (1, .int x1), (2, .int x2), (3, .ref h_p3), (4, .int x4), (5, .int x5)]) [2, 3, 4, 5, 6, 7] rfl ?_
      exact b_X7_countExplained_99 X cI cJ cZ h_p3 h_this q_p3 q_this p3_near p3_times p3_ties r z0 k_29 hk_29 p3_count this_count this_first this_since p3_hand p3_match p3_minute this_hour this_known this_one this_other this_owner x1 x2 x4 x5 hT
    · have hT := ift hT hc7
      refine J_iload X dX7_countExplained_82 1 rfl ?_
      refine J_bipush (v := -6) X dX7_countExplained_84 (by decide) ?_
      refine J_icmp_eq (tgt := 99) X dX7_countExplained_86 (by decide) (fun hc8 => ?_) (fun hc8 => ?_)
      · have hT := ift hT hc8
        refine J_lv (lv' := [(0, .ref h_this), (1, .int x1), (2, .int x2), (3, .ref h_p3), (4, .int x4), (5, .int x5)]) [2, 3, 4, 5, 6, 7] rfl ?_
        exact b_X7_countExplained_99 X cI cJ cZ h_p3 h_this q_p3 q_this p3_near p3_times p3_ties r z0 k_29 hk_29 p3_count this_count this_first this_since p3_hand p3_match p3_minute this_hour this_known this_one this_other this_owner x1 x2 x4 x5 hT
      · have hT := iff_ hT hc8
        refine J_iload X dX7_countExplained_89 1 rfl ?_
        refine J_iload X dX7_countExplained_91 0 rfl ?_
        refine J_icmp_gt (tgt := 99) X dX7_countExplained_93 (by decide) (fun hc9 => ?_) (fun hc9 => ?_)
        · have hT := ift hT hc9
          refine J_lv (lv' := [(0, .ref h_this), (1, .int x1), (2, .int x2), (3, .ref h_p3), (4, .int x4), (5, .int x5)]) [2, 3, 4, 5, 6, 7] rfl ?_
          exact b_X7_countExplained_99 X cI cJ cZ h_p3 h_this q_p3 q_this p3_near p3_times p3_ties r z0 k_29 hk_29 p3_count this_count this_first this_since p3_hand p3_match p3_minute this_hour this_known this_one this_other this_owner x1 x2 x4 x5 hT
        · have hT := iff_ hT hc9
          refine J_iinc (lv' := [(4, .int (x4 + (1 : Int32))), (7, .int (x2 + ((p3_minute x5.toNatClampNeg) / (60 : Int32)))), (6, .int (this_known (this_owner (p3_hand x5.toNatClampNeg).toNatClampNeg).toNatClampNeg)), (0, .ref h_this), (1, .int x1), (2, .int x2), (3, .ref h_p3), (5, .int x5)]) (j := 6) X dX7_countExplained_96 rfl rfl (by decide) rfl ?_
          refine J_lv (lv' := [(0, .ref h_this), (1, .int x1), (2, .int x2), (3, .ref h_p3), (4, .int (x4 + (1 : Int32))), (5, .int x5)]) [3, 4, 5, 6, 0, 7] rfl ?_
          exact b_X7_countExplained_99 X cI cJ cZ h_p3 h_this q_p3 q_this p3_near p3_times p3_ties r z0 k_29 hk_29 p3_count this_count this_first this_since p3_hand p3_match p3_minute this_hour this_known this_one this_other this_owner x1 x2 (x4 + (1 : Int32)) x5 hT
set_option maxHeartbeats 4000000 in
set_option maxRecDepth 100000 in
theorem b_X7_countExplained_29 {p : Program} {l : Launch} {e : Env} {s : State} {m : MethodId} {args : Array Value} {below : List Frame} {meth : Method} {c : Code} {D : va_G} {A : Nat → Prop} {cI cJ cZ : ClassId} (X : Cx p m c cX7_countExplained 8 s args wsX7_countExplained RX7 D (tys3 cI cJ cZ) meth (some .int)) (_ _ _ : ClassId)  (h_p3 : Nat) (h_this : Nat) (q_p3 : Nat → Nat) (q_this : Nat → Nat) (p3_near : Int32) (p3_times : Int32) (p3_ties : Int32) (r : Int32) (z0 : Nat → Int32)  : ∀ (n : Nat) (p3_count : Int32) (this_count : Int32) (this_first : Int32) (this_since : Int32) (p3_hand : Nat → Int32) (p3_match : Nat → Int32) (p3_minute : Nat → Int32) (this_hour : Nat → Int32) (this_known : Nat → Int32) (this_one : Nat → Int32) (this_other : Nat → Int32) (this_owner : Nat → Int32) (x1 : Int32) (x2 : Int32) (x4 : Int32) (x5 : Int32) (hT : t_X7_countExplained_29   n p3_count this_count this_first this_since p3_hand p3_match p3_minute this_hour this_known this_one this_other this_owner x1 x2 x4 x5 = some (r, z0)), J p l e rmX7_countExplained s m args below meth c D A 8 (QI D below args s A r (w_X7_countExplained cI cJ cZ h_p3 h_this q_p3 q_this p3_count p3_near p3_times p3_ties this_count this_first this_since p3_hand p3_match p3_minute this_hour z0 this_one this_other this_owner)) 0 0 (w_X7_countExplained cI cJ cZ h_p3 h_this q_p3 q_this p3_count p3_near p3_times p3_ties this_count this_first this_since p3_hand p3_match p3_minute this_hour this_known this_one this_other this_owner) [(0, .ref h_this), (1, .int x1), (2, .int x2), (3, .ref h_p3), (4, .int x4), (5, .int x5)] [] 29 := by
  intro n
  induction n with
  | zero => intro p3_count this_count this_first this_since p3_hand p3_match p3_minute this_hour this_known this_one this_other this_owner x1 x2 x4 x5 hT; cases hT
  | succ n ih =>
    intro p3_count this_count this_first this_since p3_hand p3_match p3_minute this_hour this_known this_one this_other this_owner x1 x2 x4 x5 hT
    exact b_X7_countExplained_29_b X cI cJ cZ h_p3 h_this q_p3 q_this p3_near p3_times p3_ties r z0  (t_X7_countExplained_29   n) ih p3_count this_count this_first this_since p3_hand p3_match p3_minute this_hour this_known this_one this_other this_owner x1 x2 x4 x5 hT
set_option maxHeartbeats 4000000 in
set_option maxRecDepth 100000 in
theorem c_X7_countExplained (l : Launch) (D : va_G) (cI cJ cZ : ClassId) (h_p3 : Nat) (h_this : Nat) (q_p3 : Nat → Nat) (q_this : Nat → Nat) (p3_count : Int32) (p3_near : Int32) (p3_times : Int32) (p3_ties : Int32) (this_count : Int32) (this_first : Int32) (this_since : Int32) (p3_hand : Nat → Int32) (p3_match : Nat → Int32) (p3_minute : Nat → Int32) (this_hour : Nat → Int32) (this_known : Nat → Int32) (this_one : Nat → Int32) (this_other : Nat → Int32) (this_owner : Nat → Int32) (x1 : Int32) (x2 : Int32) (r : Int32) (z0 : Nat → Int32) (hT : t_X7_countExplained  p3_count this_count this_first this_since p3_hand p3_match p3_minute this_hour this_known this_one this_other this_owner x1 x2 = some (r, z0)) : Ci l yX7_countExplained wsX7_countExplained rmX7_countExplained D (tys3 cI cJ cZ) [.ref h_this, .int x1, .int x2, .ref h_p3] (w_X7_countExplained cI cJ cZ h_p3 h_this q_p3 q_this p3_count p3_near p3_times p3_ties this_count this_first this_since p3_hand p3_match p3_minute this_hour this_known this_one this_other this_owner) r (w_X7_countExplained cI cJ cZ h_p3 h_this q_p3 q_this p3_count p3_near p3_times p3_ties this_count this_first this_since p3_hand p3_match p3_minute this_hour z0 this_one this_other this_owner) := by
  refine Ci.ofJ (cc := cX7_countExplained) (nL := 8) (rt := (some .int)) (own := RX7) (by decide) rfl rfl (Nat.le_of_ble_eq_true rfl) ?_
  intro p e s m below meth c A X
  unfold t_X7_countExplained at hT
  refine J_lv (lv' := [(0, .ref h_this), (1, .int x1), (2, .int x2), (3, .ref h_p3)]) [0, 1, 2, 3] rfl ?_
  refine J_aload_n X dX7_countExplained_0 0 rfl ?_
  refine J_get (C := RX7) (T := TX7) (N := 8) (ci := 7) (v := .int this_first) X in_X7_countExplained_X7 1 rfl rfl 6 (by decide) m_X7_countExplained_f27 rfl dX7_countExplained_1 ?_
  refine J_bipush (v := -6) X dX7_countExplained_4 (by decide) ?_
  refine J_icmp_ne (tgt := 11) X dX7_countExplained_6 (by decide) (fun hc10 => ?_) (fun hc10 => ?_)
  · have hT := iff_ hT hc10
    refine J_aload_n X dX7_countExplained_11 0 rfl ?_
    refine J_aload_n X dX7_countExplained_12 0 rfl ?_
    refine J_get (C := RX7) (T := TX7) (N := 8) (ci := 7) (v := .int this_first) X in_X7_countExplained_X7 1 rfl rfl 6 (by decide) m_X7_countExplained_f27 rfl dX7_countExplained_13 ?_
    refine J_aload_n X dX7_countExplained_16 0 rfl ?_
    refine J_get (C := RX7) (T := TX7) (N := 8) (ci := 7) (v := .int this_since) X in_X7_countExplained_X7 1 rfl rfl 7 (by decide) m_X7_countExplained_f44 rfl dX7_countExplained_17 ?_
    obtain ⟨u11_0, hq11, hT⟩ := bd1_e hT
    refine J_cv (wc := (w_X7_spread cI cJ cZ h_this q_this this_count this_first this_since this_hour this_known this_one this_other)) (wc' := (w_X7_spread cI cJ cZ h_this q_this this_count this_first this_since this_hour u11_0 this_one this_other)) (ws' := (w_X7_countExplained cI cJ cZ h_p3 h_this q_p3 q_this p3_count p3_near p3_times p3_ties this_count this_first this_since p3_hand p3_match p3_minute this_hour u11_0 this_one this_other this_owner)) (idxs [false, true, false, false, false, true, true, true, true, false] 0) (idxs [true, false, true, true, true, false, false, false, false, true] 0) 10 rfl rfl rfl (pick_C _ rfl rfl) rfl (pick_C _ rfl rfl) rfl (pick_R _ rfl rfl rfl) (run_V (As := [.int this_first, .int this_since]) (rest := []) X (c_X7_spread l D cI cJ cZ h_this q_this this_count this_first this_since this_hour this_known this_one this_other this_first this_since u11_0 hq11) (cw_X7_countExplained_X7_spread_47 X.1.2.2.2.2) 0 rfl rfl rfl rfl (Nat.le_of_ble_eq_true rfl) dX7_countExplained_20 ⟨Nat.zero_le _, Nat.zero_le _⟩) ?_
    refine J_iconst (v := 0) X dX7_countExplained_23 (by decide) ?_
    refine J_istore (lv' := [(4, .int (0 : Int32)), (0, .ref h_this), (1, .int x1), (2, .int x2), (3, .ref h_p3)]) X dX7_countExplained_24 (by decide) rfl ?_
    refine J_iconst (v := 0) X dX7_countExplained_26 (by decide) ?_
    refine J_istore (lv' := [(5, .int (0 : Int32)), (4, .int (0 : Int32)), (0, .ref h_this), (1, .int x1), (2, .int x2), (3, .ref h_p3)]) X dX7_countExplained_27 (by decide) rfl ?_
    refine J_lv (lv' := [(0, .ref h_this), (1, .int x1), (2, .int x2), (3, .ref h_p3), (4, .int (0 : Int32)), (5, .int (0 : Int32))]) [2, 3, 4, 5, 1, 0] rfl ?_
    exact b_X7_countExplained_29 X cI cJ cZ h_p3 h_this q_p3 q_this p3_near p3_times p3_ties r z0  lfuel p3_count this_count this_first this_since p3_hand p3_match p3_minute this_hour u11_0 this_one this_other this_owner x1 x2 (0 : Int32) (0 : Int32) hT
  · have hT := ift hT hc10
    refine J_iconst (v := 0) X dX7_countExplained_9 (by decide) ?_
    cases hT
    exact J_iret X dX7_countExplained_10
-- ===== SoldMatches$Squad.weighLate(II)V
abbrev rmX8_weighLate : Room := { frames := 2, cells := 0, slots := 0, locals := 49 }
def w_X8_weighLate (cI cJ cZ : ClassId) (h_this : Nat) (q_this : Nat → Nat) (q_this_odds : Nat → Nat) (this_acts : Int32) (this_odds_upper : Int64) (this_odds_lower : Int64) (this_lateMoves : Nat → Int32) (this_moves : Nat → Int32) (this_odds_cases : Nat → Int64) : va_W := [(h_this, .inr (8, oFX8 q_this this_acts)), ((q_this 6), .inr (4, oFX4 q_this_odds this_odds_upper this_odds_lower)), ((q_this 1), .inl (cI, 10, .inl this_lateMoves)), ((q_this 0), .inl (cI, 10, .inl this_moves)), ((q_this_odds 0), .inl (cJ, 13, .inr (.inl this_odds_cases)))]
theorem m_X8_weighLate_f30 : Cond.fieldLink RX8 30 "SoldMatches$Squad" "odds" "LSoldMatches$Odds;" ∈ wsX8_weighLate := List.mem_of_getElem? (i := 3) rfl
theorem in_X8_weighLate_X8 : ∀ w ∈ wsX80, w ∈ wsX8_weighLate := fun w h => List.mem_cons_of_mem _ (List.mem_append_left _ (List.mem_append_right _ h))
theorem cw_X8_weighLate_X4_countLate_34 {s : State} {args : Array Value} (hts : ∀ w ∈ wsX8_weighLate, w.before args s = true) : CallW rmX8_weighLate s args RX8 RX4 34 yX4_countLate cX4_countLate 6 none wsX4_countLate rmX4_countLate 0 0 3 := cwV 3 hts gX8_weighLate_X4_countLate rfl rfl rfl (by decide +kernel) ⟨by decide, by decide⟩
theorem m_X8_weighLate_f9 : Cond.fieldLink RX8 9 "SoldMatches$Squad" "moves" "[I" ∈ wsX8_weighLate := List.mem_of_getElem? (i := 1) rfl
theorem m_X8_weighLate_f15 : Cond.fieldLink RX8 15 "SoldMatches$Squad" "lateMoves" "[I" ∈ wsX8_weighLate := List.mem_of_getElem? (i := 2) rfl
def t_X8_weighLate_33   (this_odds_upper : Int64) (this_odds_lower : Int64) (this_lateMoves : Nat → Int32) (this_moves : Nat → Int32) (this_odds_cases : Nat → Int64) (x2 : Int32) (x3 : Int32) (x4 : Int32) : Option (Int64 × Int64 × (Nat → Int64)) := bd3 (t_X4_countLate this_odds_upper this_odds_lower this_odds_cases x3 x4 x2) (fun u1_0 u1_1 u1_2 => some (u1_0, u1_1, u1_2))
def t_X8_weighLate  (this_odds_upper : Int64) (this_odds_lower : Int64) (this_lateMoves : Nat → Int32) (this_moves : Nat → Int32) (this_odds_cases : Nat → Int64) (x1 : Int32) (x2 : Int32) : Option (Int64 × Int64 × (Nat → Int64)) := ckn (x1 < 0 ∨ 10 ≤ x1.toNatClampNeg) (ckn (x1 < 0 ∨ 10 ≤ x1.toNatClampNeg) (if (this_moves x1.toNatClampNeg) ≤ (12 : Int32) then (t_X8_weighLate_33   this_odds_upper this_odds_lower this_lateMoves this_moves this_odds_cases x2 (this_moves x1.toNatClampNeg) (this_lateMoves x1.toNatClampNeg)) else (ckn ((this_moves x1.toNatClampNeg) = 0) (t_X8_weighLate_33   this_odds_upper this_odds_lower this_lateMoves this_moves this_odds_cases x2 (12 : Int32) (((this_lateMoves x1.toNatClampNeg) * (12 : Int32)) / (this_moves x1.toNatClampNeg))))))
set_option maxHeartbeats 4000000 in
set_option maxRecDepth 100000 in
theorem b_X8_weighLate_33 {p : Program} {l : Launch} {e : Env} {s : State} {m : MethodId} {args : Array Value} {below : List Frame} {meth : Method} {c : Code} {D : va_G} {A : Nat → Prop} {cI cJ cZ : ClassId} (X : Cx p m c cX8_weighLate 5 s args wsX8_weighLate RX8 D (tys3 cI cJ cZ) meth none) (_ _ _ : ClassId)  (h_this : Nat) (q_this : Nat → Nat) (q_this_odds : Nat → Nat) (this_acts : Int32) (z0 : Int64) (z1 : Int64) (z2 : Nat → Int64)  (this_odds_upper : Int64) (this_odds_lower : Int64) (this_lateMoves : Nat → Int32) (this_moves : Nat → Int32) (this_odds_cases : Nat → Int64) (x2 : Int32) (x3 : Int32) (x4 : Int32) (hT : t_X8_weighLate_33   this_odds_upper this_odds_lower this_lateMoves this_moves this_odds_cases x2 x3 x4 = some (z0, z1, z2)) : J p l e rmX8_weighLate s m args below meth c D A 5 (QV D below args s A (w_X8_weighLate cI cJ cZ h_this q_this q_this_odds this_acts z0 z1 this_lateMoves this_moves z2)) 0 0 (w_X8_weighLate cI cJ cZ h_this q_this q_this_odds this_acts this_odds_upper this_odds_lower this_lateMoves this_moves this_odds_cases) [(0, .ref h_this), (2, .int x2), (3, .int x3), (4, .int x4)] [] 33 := by
  unfold t_X8_weighLate_33 at hT
  refine J_aload_n X dX8_weighLate_33 0 rfl ?_
  refine J_get (C := RX8) (T := TX8) (N := 7) (ci := 8) (v := .ref (q_this 6)) X in_X8_weighLate_X8 0 rfl rfl 6 (by decide) m_X8_weighLate_f30 rfl dX8_weighLate_34 ?_
  refine J_iload_n X dX8_weighLate_37 2 rfl ?_
  refine J_iload X dX8_weighLate_38 3 rfl ?_
  refine J_iload_n X dX8_weighLate_40 1 rfl ?_
  obtain ⟨u1_0, u1_1, u1_2, hq1, hT⟩ := bd3_e hT
  refine J_cv (wc := (w_X4_countLate cI cJ cZ (q_this 6) q_this_odds this_odds_upper this_odds_lower this_odds_cases)) (wc' := (w_X4_countLate cI cJ cZ (q_this 6) q_this_odds u1_0 u1_1 u1_2)) (ws' := (w_X8_weighLate cI cJ cZ h_this q_this q_this_odds this_acts u1_0 u1_1 this_lateMoves this_moves u1_2)) [1, 4] [0, 2, 3] 5 rfl rfl rfl rfl rfl rfl rfl rfl (run_V (As := [.int x3, .int x4, .int x2]) (rest := []) X (c_X4_countLate l D cI cJ cZ (q_this 6) q_this_odds this_odds_upper this_odds_lower this_odds_cases x3 x4 x2 u1_0 u1_1 u1_2 hq1) (cw_X8_weighLate_X4_countLate_34 X.1.2.2.2.2) 0 rfl rfl rfl rfl (Nat.le_of_ble_eq_true rfl) dX8_weighLate_41 ⟨Nat.zero_le _, Nat.zero_le _⟩) ?_
  cases hT
  exact J_vret X dX8_weighLate_44
set_option maxHeartbeats 4000000 in
set_option maxRecDepth 100000 in
theorem c_X8_weighLate (l : Launch) (D : va_G) (cI cJ cZ : ClassId) (h_this : Nat) (q_this : Nat → Nat) (q_this_odds : Nat → Nat) (this_acts : Int32) (this_odds_upper : Int64) (this_odds_lower : Int64) (this_lateMoves : Nat → Int32) (this_moves : Nat → Int32) (this_odds_cases : Nat → Int64) (x1 : Int32) (x2 : Int32) (z0 : Int64) (z1 : Int64) (z2 : Nat → Int64) (hT : t_X8_weighLate  this_odds_upper this_odds_lower this_lateMoves this_moves this_odds_cases x1 x2 = some (z0, z1, z2)) : Cv l yX8_weighLate wsX8_weighLate rmX8_weighLate D (tys3 cI cJ cZ) [.ref h_this, .int x1, .int x2] (w_X8_weighLate cI cJ cZ h_this q_this q_this_odds this_acts this_odds_upper this_odds_lower this_lateMoves this_moves this_odds_cases) (w_X8_weighLate cI cJ cZ h_this q_this q_this_odds this_acts z0 z1 this_lateMoves this_moves z2) := by
  refine Cv.ofJ (cc := cX8_weighLate) (nL := 5) (rt := none) (own := RX8) (by decide) rfl rfl (Nat.le_of_ble_eq_true rfl) ?_
  intro p e s m below meth c A X
  unfold t_X8_weighLate at hT
  refine J_lv (lv' := [(0, .ref h_this), (1, .int x1), (2, .int x2)]) [0, 1, 2] rfl ?_
  refine J_aload_n X dX8_weighLate_0 0 rfl ?_
  refine J_get (C := RX8) (T := TX8) (N := 7) (ci := 8) (v := .ref (q_this 0)) X in_X8_weighLate_X8 0 rfl rfl 0 (by decide) m_X8_weighLate_f9 rfl dX8_weighLate_1 ?_
  refine J_iload_n X dX8_weighLate_4 1 rfl ?_
  obtain ⟨hk2, hT⟩ := ckn_e hT
  refine J_iald X 3 rfl rfl hk2 dX8_weighLate_5 ?_
  refine J_istore_n (lv' := [(3, .int (this_moves x1.toNatClampNeg)), (0, .ref h_this), (1, .int x1), (2, .int x2)]) X dX8_weighLate_6 (by decide) rfl ?_
  refine J_aload_n X dX8_weighLate_7 1 rfl ?_
  refine J_get (C := RX8) (T := TX8) (N := 7) (ci := 8) (v := .ref (q_this 1)) X in_X8_weighLate_X8 0 rfl rfl 1 (by decide) m_X8_weighLate_f15 rfl dX8_weighLate_8 ?_
  refine J_iload_n X dX8_weighLate_11 2 rfl ?_
  obtain ⟨hk3, hT⟩ := ckn_e hT
  refine J_iald X 2 rfl rfl hk3 dX8_weighLate_12 ?_
  refine J_istore (lv' := [(4, .int (this_lateMoves x1.toNatClampNeg)), (3, .int (this_moves x1.toNatClampNeg)), (0, .ref h_this), (1, .int x1), (2, .int x2)]) X dX8_weighLate_13 (by decide) rfl ?_
  refine J_iload_n X dX8_weighLate_15 1 rfl ?_
  refine J_bipush (v := 12) X dX8_weighLate_16 (by decide) ?_
  refine J_icmp_le (tgt := 33) X dX8_weighLate_18 (by decide) (fun hc4 => ?_) (fun hc4 => ?_)
  · have hT := ift hT hc4
    refine J_lv (lv' := [(0, .ref h_this), (2, .int x2), (3, .int (this_moves x1.toNatClampNeg)), (4, .int (this_lateMoves x1.toNatClampNeg))]) [2, 4, 1, 0] rfl ?_
    exact b_X8_weighLate_33 X cI cJ cZ h_this q_this q_this_odds this_acts z0 z1 z2  this_odds_upper this_odds_lower this_lateMoves this_moves this_odds_cases x2 (this_moves x1.toNatClampNeg) (this_lateMoves x1.toNatClampNeg) hT
  · have hT := iff_ hT hc4
    refine J_iload X dX8_weighLate_21 0 rfl ?_
    refine J_bipush (v := 12) X dX8_weighLate_23 (by decide) ?_
    refine J_imul X dX8_weighLate_25 ?_
    refine J_iload_n X dX8_weighLate_26 1 rfl ?_
    obtain ⟨hk5, hT⟩ := ckn_e hT
    refine J_idiv X dX8_weighLate_27 hk5 ?_
    refine J_istore (lv' := [(4, .int (((this_lateMoves x1.toNatClampNeg) * (12 : Int32)) / (this_moves x1.toNatClampNeg))), (3, .int (this_moves x1.toNatClampNeg)), (0, .ref h_this), (1, .int x1), (2, .int x2)]) X dX8_weighLate_28 (by decide) rfl ?_
    refine J_bipush (v := 12) X dX8_weighLate_30 (by decide) ?_
    refine J_istore_n (lv' := [(3, .int (12 : Int32)), (4, .int (((this_lateMoves x1.toNatClampNeg) * (12 : Int32)) / (this_moves x1.toNatClampNeg))), (0, .ref h_this), (1, .int x1), (2, .int x2)]) X dX8_weighLate_32 (by decide) rfl ?_
    refine J_lv (lv' := [(0, .ref h_this), (2, .int x2), (3, .int (12 : Int32)), (4, .int (((this_lateMoves x1.toNatClampNeg) * (12 : Int32)) / (this_moves x1.toNatClampNeg)))]) [2, 4, 0, 1] rfl ?_
    exact b_X8_weighLate_33 X cI cJ cZ h_this q_this q_this_odds this_acts z0 z1 z2  this_odds_upper this_odds_lower this_lateMoves this_moves this_odds_cases x2 (12 : Int32) (((this_lateMoves x1.toNatClampNeg) * (12 : Int32)) / (this_moves x1.toNatClampNeg)) hT
-- ===== SoldMatches$Squad.addAct(II)I
abbrev rmX8_addAct : Room := { frames := 0, cells := 0, slots := 0, locals := 0 }
def w_X8_addAct (cI cJ cZ : ClassId) (h_this : Nat) (q_this : Nat → Nat) (this_acts : Int32) (this_actMatch : Nat → Int32) (this_actPlayers : Nat → Int32) : va_W := [(h_this, .inr (8, oFX8 q_this this_acts)), ((q_this 4), .inl (cI, 12, .inl this_actMatch)), ((q_this 5), .inl (cI, 12, .inl this_actPlayers))]
theorem m_X8_addAct_f21 : Cond.fieldLink RX8 21 "SoldMatches$Squad" "actMatch" "[I" ∈ wsX8_addAct := List.mem_of_getElem? (i := 1) rfl
theorem in_X8_addAct_X8 : ∀ w ∈ wsX80, w ∈ wsX8_addAct := fun w h => List.mem_cons_of_mem _ (List.mem_append_right _ h)
theorem m_X8_addAct_f38 : Cond.fieldLink RX8 38 "SoldMatches$Squad" "acts" "I" ∈ wsX8_addAct := List.mem_of_getElem? (i := 2) rfl
theorem m_X8_addAct_f24 : Cond.fieldLink RX8 24 "SoldMatches$Squad" "actPlayers" "[I" ∈ wsX8_addAct := List.mem_of_getElem? (i := 3) rfl
def t_X8_addAct  (this_acts : Int32) (this_actMatch : Nat → Int32) (this_actPlayers : Nat → Int32) (x1 : Int32) (x2 : Int32) : Option (Int32 × Int32 × (Nat → Int32) × (Nat → Int32)) := ckn (this_acts < 0 ∨ 12 ≤ this_acts.toNatClampNeg) (ckn (this_acts < 0 ∨ 12 ≤ this_acts.toNatClampNeg) (some ((this_acts + (1 : Int32)) - (1 : Int32), this_acts + (1 : Int32), upd this_actMatch this_acts.toNatClampNeg x1, upd this_actPlayers this_acts.toNatClampNeg x2)))
set_option maxHeartbeats 4000000 in
set_option maxRecDepth 100000 in
theorem c_X8_addAct (l : Launch) (D : va_G) (cI cJ cZ : ClassId) (h_this : Nat) (q_this : Nat → Nat) (this_acts : Int32) (this_actMatch : Nat → Int32) (this_actPlayers : Nat → Int32) (x1 : Int32) (x2 : Int32) (r : Int32) (z0 : Int32) (z1 : Nat → Int32) (z2 : Nat → Int32) (hT : t_X8_addAct  this_acts this_actMatch this_actPlayers x1 x2 = some (r, z0, z1, z2)) : Ci l yX8_addAct wsX8_addAct rmX8_addAct D (tys3 cI cJ cZ) [.ref h_this, .int x1, .int x2] (w_X8_addAct cI cJ cZ h_this q_this this_acts this_actMatch this_actPlayers) r (w_X8_addAct cI cJ cZ h_this q_this z0 z1 z2) := by
  refine Ci.ofJ (cc := cX8_addAct) (nL := 3) (rt := (some .int)) (own := RX8) (by decide) rfl rfl (Nat.le_of_ble_eq_true rfl) ?_
  intro p e s m below meth c A X
  unfold t_X8_addAct at hT
  refine J_lv (lv' := [(0, .ref h_this), (1, .int x1), (2, .int x2)]) [0, 1, 2] rfl ?_
  refine J_aload_n X dX8_addAct_0 0 rfl ?_
  refine J_get (C := RX8) (T := TX8) (N := 7) (ci := 8) (v := .ref (q_this 4)) X in_X8_addAct_X8 0 rfl rfl 4 (by decide) m_X8_addAct_f21 rfl dX8_addAct_1 ?_
  refine J_aload_n X dX8_addAct_4 0 rfl ?_
  refine J_get (C := RX8) (T := TX8) (N := 7) (ci := 8) (v := .int this_acts) X in_X8_addAct_X8 0 rfl rfl 3 (by decide) m_X8_addAct_f38 rfl dX8_addAct_5 ?_
  refine J_iload_n X dX8_addAct_8 1 rfl ?_
  obtain ⟨hk1, hT⟩ := ckn_e hT
  refine J_iast (ws' := (w_X8_addAct cI cJ cZ h_this q_this this_acts (upd this_actMatch this_acts.toNatClampNeg x1) this_actPlayers)) X 1 rfl rfl hk1 rfl dX8_addAct_9 ?_
  refine J_aload_n X dX8_addAct_10 0 rfl ?_
  refine J_get (C := RX8) (T := TX8) (N := 7) (ci := 8) (v := .ref (q_this 5)) X in_X8_addAct_X8 0 rfl rfl 5 (by decide) m_X8_addAct_f24 rfl dX8_addAct_11 ?_
  refine J_aload_n X dX8_addAct_14 0 rfl ?_
  refine J_get (C := RX8) (T := TX8) (N := 7) (ci := 8) (v := .int this_acts) X in_X8_addAct_X8 0 rfl rfl 3 (by decide) m_X8_addAct_f38 rfl dX8_addAct_15 ?_
  refine J_iload_n X dX8_addAct_18 2 rfl ?_
  obtain ⟨hk2, hT⟩ := ckn_e hT
  refine J_iast (ws' := (w_X8_addAct cI cJ cZ h_this q_this this_acts (upd this_actMatch this_acts.toNatClampNeg x1) (upd this_actPlayers this_acts.toNatClampNeg x2))) X 2 rfl rfl hk2 rfl dX8_addAct_19 ?_
  refine J_aload_n X dX8_addAct_20 0 rfl ?_
  refine J_dup X dX8_addAct_21 rfl ?_
  refine J_get (C := RX8) (T := TX8) (N := 7) (ci := 8) (v := .int this_acts) X in_X8_addAct_X8 0 rfl rfl 3 (by decide) m_X8_addAct_f38 rfl dX8_addAct_22 ?_
  refine J_iconst (v := 1) X dX8_addAct_25 (by decide) ?_
  refine J_iadd X dX8_addAct_26 ?_
  refine J_put (host := "") (C := RX8) (T := TX8) (N := 7) (ci := 8) (ws' := (w_X8_addAct cI cJ cZ h_this q_this (this_acts + (1 : Int32)) (upd this_actMatch this_acts.toNatClampNeg x1) (upd this_actPlayers this_acts.toNatClampNeg x2))) X in_X8_addAct_X8 0 rfl rfl 3 (by decide) tyX8 tyX8_ok nmX8 m_X8_addAct_f38 rfl rfl rfl (Nat.le_of_ble_eq_true rfl) rfl dX8_addAct_27 ?_
  refine J_aload_n X dX8_addAct_30 0 rfl ?_
  refine J_get (C := RX8) (T := TX8) (N := 7) (ci := 8) (v := .int (this_acts + (1 : Int32))) X in_X8_addAct_X8 0 rfl rfl 3 (by decide) m_X8_addAct_f38 rfl dX8_addAct_31 ?_
  refine J_iconst (v := 1) X dX8_addAct_34 (by decide) ?_
  refine J_isub X dX8_addAct_35 ?_
  cases hT
  exact J_iret X dX8_addAct_36
-- ===== SoldMatches$Squad.canDoAll(II)Z
abbrev rmX8_canDoAll : Room := { frames := 0, cells := 0, slots := 0, locals := 0 }
def w_X8_canDoAll (cI cJ cZ : ClassId) (h_this : Nat) (q_this : Nat → Nat) (this_acts : Int32) (this_actMatch : Nat → Int32) (this_actPlayers : Nat → Int32) : va_W := [(h_this, .inr (8, oFX8 q_this this_acts)), ((q_this 4), .inl (cI, 12, .inl this_actMatch)), ((q_this 5), .inl (cI, 12, .inl this_actPlayers))]
theorem m_X8_canDoAll_f38 : Cond.fieldLink RX8 38 "SoldMatches$Squad" "acts" "I" ∈ wsX8_canDoAll := List.mem_of_getElem? (i := 1) rfl
theorem in_X8_canDoAll_X8 : ∀ w ∈ wsX80, w ∈ wsX8_canDoAll := fun w h => List.mem_cons_of_mem _ (List.mem_append_right _ h)
theorem m_X8_canDoAll_f21 : Cond.fieldLink RX8 21 "SoldMatches$Squad" "actMatch" "[I" ∈ wsX8_canDoAll := List.mem_of_getElem? (i := 2) rfl
theorem m_X8_canDoAll_f24 : Cond.fieldLink RX8 24 "SoldMatches$Squad" "actPlayers" "[I" ∈ wsX8_canDoAll := List.mem_of_getElem? (i := 3) rfl
def t_X8_canDoAll_33  (k_2 : Int32 → (Nat → Int32) → (Nat → Int32) → Int32 → Int32 → Int32 → Option (Int32)) (this_acts : Int32) (this_actMatch : Nat → Int32) (this_actPlayers : Nat → Int32) (x1 : Int32) (x2 : Int32) (x3 : Int32) : Option (Int32) := k_2 this_acts this_actMatch this_actPlayers x1 x2 (x3 + (1 : Int32))
def t_X8_canDoAll_2_b  (k_2 : Int32 → (Nat → Int32) → (Nat → Int32) → Int32 → Int32 → Int32 → Option (Int32)) (this_acts : Int32) (this_actMatch : Nat → Int32) (this_actPlayers : Nat → Int32) (x1 : Int32) (x2 : Int32) (x3 : Int32) : Option (Int32) := if this_acts ≤ x3 then (some ((1 : Int32))) else (ckn (x3 < 0 ∨ 12 ≤ x3.toNatClampNeg) (if (this_actMatch x3.toNatClampNeg) = x1 then (ckn (x3 < 0 ∨ 12 ≤ x3.toNatClampNeg) (if ((this_actPlayers x3.toNatClampNeg) &&& x2) = 0 then (some ((0 : Int32))) else (t_X8_canDoAll_33  k_2 this_acts this_actMatch this_actPlayers x1 x2 x3))) else (t_X8_canDoAll_33  k_2 this_acts this_actMatch this_actPlayers x1 x2 x3)))
def t_X8_canDoAll_2   (n : Nat) : Int32 → (Nat → Int32) → (Nat → Int32) → Int32 → Int32 → Int32 → Option (Int32) := Nat.rec (fun _ _ _ _ _ _ => none) (fun _ ih => t_X8_canDoAll_2_b   ih) n
def t_X8_canDoAll  (this_acts : Int32) (this_actMatch : Nat → Int32) (this_actPlayers : Nat → Int32) (x1 : Int32) (x2 : Int32) : Option (Int32) := t_X8_canDoAll_2   lfuel this_acts this_actMatch this_actPlayers x1 x2 (0 : Int32)
set_option maxHeartbeats 4000000 in
set_option maxRecDepth 100000 in
theorem b_X8_canDoAll_33 {p : Program} {l : Launch} {e : Env} {s : State} {m : MethodId} {args : Array Value} {below : List Frame} {meth : Method} {c : Code} {D : va_G} {A : Nat → Prop} {cI cJ cZ : ClassId} (X : Cx p m c cX8_canDoAll 4 s args wsX8_canDoAll RX8 D (tys3 cI cJ cZ) meth (some .boolean)) (_ _ _ : ClassId)  (h_this : Nat) (q_this : Nat → Nat)  (r : Int32) (k_2 : Int32 → (Nat → Int32) → (Nat → Int32) → Int32 → Int32 → Int32 → Option (Int32)) (hk_2 : ∀ (this_acts : Int32) (this_actMatch : Nat → Int32) (this_actPlayers : Nat → Int32) (x1 : Int32) (x2 : Int32) (x3 : Int32), k_2 this_acts this_actMatch this_actPlayers x1 x2 x3 = some r → J p l e rmX8_canDoAll s m args below meth c D A 4 (QI D below args s A r (w_X8_canDoAll cI cJ cZ h_this q_this this_acts this_actMatch this_actPlayers)) 0 0 (w_X8_canDoAll cI cJ cZ h_this q_this this_acts this_actMatch this_actPlayers) [(0, .ref h_this), (1, .int x1), (2, .int x2), (3, .int x3)] [] 2) (this_acts : Int32) (this_actMatch : Nat → Int32) (this_actPlayers : Nat → Int32) (x1 : Int32) (x2 : Int32) (x3 : Int32) (hT : t_X8_canDoAll_33  k_2 this_acts this_actMatch this_actPlayers x1 x2 x3 = some r) : J p l e rmX8_canDoAll s m args below meth c D A 4 (QI D below args s A r (w_X8_canDoAll cI cJ cZ h_this q_this this_acts this_actMatch this_actPlayers)) 0 0 (w_X8_canDoAll cI cJ cZ h_this q_this this_acts this_actMatch this_actPlayers) [(0, .ref h_this), (1, .int x1), (2, .int x2), (3, .int x3)] [] 33 := by
  unfold t_X8_canDoAll_33 at hT
  refine J_iinc (lv' := [(3, .int (x3 + (1 : Int32))), (0, .ref h_this), (1, .int x1), (2, .int x2)]) (j := 3) X dX8_canDoAll_33 rfl rfl (by decide) rfl ?_
  refine J_goto (tgt := 2) X dX8_canDoAll_36 (by decide) ?_
  refine J_lv (lv' := [(0, .ref h_this), (1, .int x1), (2, .int x2), (3, .int (x3 + (1 : Int32)))]) [1, 2, 3, 0] rfl ?_
  exact hk_2 this_acts this_actMatch this_actPlayers x1 x2 (x3 + (1 : Int32)) hT
set_option maxHeartbeats 4000000 in
set_option maxRecDepth 100000 in
theorem b_X8_canDoAll_2_b {p : Program} {l : Launch} {e : Env} {s : State} {m : MethodId} {args : Array Value} {below : List Frame} {meth : Method} {c : Code} {D : va_G} {A : Nat → Prop} {cI cJ cZ : ClassId} (X : Cx p m c cX8_canDoAll 4 s args wsX8_canDoAll RX8 D (tys3 cI cJ cZ) meth (some .boolean)) (_ _ _ : ClassId)  (h_this : Nat) (q_this : Nat → Nat)  (r : Int32) (k_2 : Int32 → (Nat → Int32) → (Nat → Int32) → Int32 → Int32 → Int32 → Option (Int32)) (hk_2 : ∀ (this_acts : Int32) (this_actMatch : Nat → Int32) (this_actPlayers : Nat → Int32) (x1 : Int32) (x2 : Int32) (x3 : Int32), k_2 this_acts this_actMatch this_actPlayers x1 x2 x3 = some r → J p l e rmX8_canDoAll s m args below meth c D A 4 (QI D below args s A r (w_X8_canDoAll cI cJ cZ h_this q_this this_acts this_actMatch this_actPlayers)) 0 0 (w_X8_canDoAll cI cJ cZ h_this q_this this_acts this_actMatch this_actPlayers) [(0, .ref h_this), (1, .int x1), (2, .int x2), (3, .int x3)] [] 2) (this_acts : Int32) (this_actMatch : Nat → Int32) (this_actPlayers : Nat → Int32) (x1 : Int32) (x2 : Int32) (x3 : Int32) (hT : t_X8_canDoAll_2_b  k_2 this_acts this_actMatch this_actPlayers x1 x2 x3 = some r) : J p l e rmX8_canDoAll s m args below meth c D A 4 (QI D below args s A r (w_X8_canDoAll cI cJ cZ h_this q_this this_acts this_actMatch this_actPlayers)) 0 0 (w_X8_canDoAll cI cJ cZ h_this q_this this_acts this_actMatch this_actPlayers) [(0, .ref h_this), (1, .int x1), (2, .int x2), (3, .int x3)] [] 2 := by
  unfold t_X8_canDoAll_2_b at hT
  refine J_iload_n X dX8_canDoAll_2 3 rfl ?_
  refine J_aload_n X dX8_canDoAll_3 0 rfl ?_
  refine J_get (C := RX8) (T := TX8) (N := 7) (ci := 8) (v := .int this_acts) X in_X8_canDoAll_X8 0 rfl rfl 3 (by decide) m_X8_canDoAll_f38 rfl dX8_canDoAll_4 ?_
  refine J_icmp_ge (tgt := 39) X dX8_canDoAll_7 (by decide) (fun hc1 => ?_) (fun hc1 => ?_)
  · have hT := ift hT hc1
    refine J_iconst (v := 1) X dX8_canDoAll_39 (by decide) ?_
    cases hT
    exact J_zret X (by decide) dX8_canDoAll_40
  · have hT := iff_ hT hc1
    refine J_aload_n X dX8_canDoAll_10 0 rfl ?_
    refine J_get (C := RX8) (T := TX8) (N := 7) (ci := 8) (v := .ref (q_this 4)) X in_X8_canDoAll_X8 0 rfl rfl 4 (by decide) m_X8_canDoAll_f21 rfl dX8_canDoAll_11 ?_
    refine J_iload_n X dX8_canDoAll_14 3 rfl ?_
    obtain ⟨hk2, hT⟩ := ckn_e hT
    refine J_iald X 1 rfl rfl hk2 dX8_canDoAll_15 ?_
    refine J_iload_n X dX8_canDoAll_16 1 rfl ?_
    refine J_icmp_ne (tgt := 33) X dX8_canDoAll_17 (by decide) (fun hc3 => ?_) (fun hc3 => ?_)
    · have hT := iff_ hT hc3
      exact b_X8_canDoAll_33 X cI cJ cZ h_this q_this  r k_2 hk_2 this_acts this_actMatch this_actPlayers x1 x2 x3 hT
    · have hT := ift hT hc3
      refine J_aload_n X dX8_canDoAll_20 0 rfl ?_
      refine J_get (C := RX8) (T := TX8) (N := 7) (ci := 8) (v := .ref (q_this 5)) X in_X8_canDoAll_X8 0 rfl rfl 5 (by decide) m_X8_canDoAll_f24 rfl dX8_canDoAll_21 ?_
      refine J_iload_n X dX8_canDoAll_24 3 rfl ?_
      obtain ⟨hk4, hT⟩ := ckn_e hT
      refine J_iald X 2 rfl rfl hk4 dX8_canDoAll_25 ?_
      refine J_iload_n X dX8_canDoAll_26 2 rfl ?_
      refine J_iand X dX8_canDoAll_27 ?_
      refine J_if_ne (tgt := 33) X dX8_canDoAll_28 (by decide) (fun hc5 => ?_) (fun hc5 => ?_)
      · have hT := iff_ hT hc5
        exact b_X8_canDoAll_33 X cI cJ cZ h_this q_this  r k_2 hk_2 this_acts this_actMatch this_actPlayers x1 x2 x3 hT
      · have hT := ift hT hc5
        refine J_iconst (v := 0) X dX8_canDoAll_31 (by decide) ?_
        cases hT
        exact J_zret X (by decide) dX8_canDoAll_32
set_option maxHeartbeats 4000000 in
set_option maxRecDepth 100000 in
theorem b_X8_canDoAll_2 {p : Program} {l : Launch} {e : Env} {s : State} {m : MethodId} {args : Array Value} {below : List Frame} {meth : Method} {c : Code} {D : va_G} {A : Nat → Prop} {cI cJ cZ : ClassId} (X : Cx p m c cX8_canDoAll 4 s args wsX8_canDoAll RX8 D (tys3 cI cJ cZ) meth (some .boolean)) (_ _ _ : ClassId)  (h_this : Nat) (q_this : Nat → Nat)  (r : Int32)  : ∀ (n : Nat) (this_acts : Int32) (this_actMatch : Nat → Int32) (this_actPlayers : Nat → Int32) (x1 : Int32) (x2 : Int32) (x3 : Int32) (hT : t_X8_canDoAll_2   n this_acts this_actMatch this_actPlayers x1 x2 x3 = some r), J p l e rmX8_canDoAll s m args below meth c D A 4 (QI D below args s A r (w_X8_canDoAll cI cJ cZ h_this q_this this_acts this_actMatch this_actPlayers)) 0 0 (w_X8_canDoAll cI cJ cZ h_this q_this this_acts this_actMatch this_actPlayers) [(0, .ref h_this), (1, .int x1), (2, .int x2), (3, .int x3)] [] 2 := by
  intro n
  induction n with
  | zero => intro this_acts this_actMatch this_actPlayers x1 x2 x3 hT; cases hT
  | succ n ih =>
    intro this_acts this_actMatch this_actPlayers x1 x2 x3 hT
    exact b_X8_canDoAll_2_b X cI cJ cZ h_this q_this  r  (t_X8_canDoAll_2   n) ih this_acts this_actMatch this_actPlayers x1 x2 x3 hT
set_option maxHeartbeats 4000000 in
set_option maxRecDepth 100000 in
theorem c_X8_canDoAll (l : Launch) (D : va_G) (cI cJ cZ : ClassId) (h_this : Nat) (q_this : Nat → Nat) (this_acts : Int32) (this_actMatch : Nat → Int32) (this_actPlayers : Nat → Int32) (x1 : Int32) (x2 : Int32) (r : Int32) (hT : t_X8_canDoAll  this_acts this_actMatch this_actPlayers x1 x2 = some r) : Ci l yX8_canDoAll wsX8_canDoAll rmX8_canDoAll D (tys3 cI cJ cZ) [.ref h_this, .int x1, .int x2] (w_X8_canDoAll cI cJ cZ h_this q_this this_acts this_actMatch this_actPlayers) r (w_X8_canDoAll cI cJ cZ h_this q_this this_acts this_actMatch this_actPlayers) := by
  refine Ci.ofJ (cc := cX8_canDoAll) (nL := 4) (rt := (some .boolean)) (own := RX8) (by decide) rfl rfl (Nat.le_of_ble_eq_true rfl) ?_
  intro p e s m below meth c A X
  unfold t_X8_canDoAll at hT
  refine J_lv (lv' := [(0, .ref h_this), (1, .int x1), (2, .int x2)]) [0, 1, 2] rfl ?_
  refine J_iconst (v := 0) X dX8_canDoAll_0 (by decide) ?_
  refine J_istore_n (lv' := [(3, .int (0 : Int32)), (0, .ref h_this), (1, .int x1), (2, .int x2)]) X dX8_canDoAll_1 (by decide) rfl ?_
  refine J_lv (lv' := [(0, .ref h_this), (1, .int x1), (2, .int x2), (3, .int (0 : Int32))]) [1, 2, 3, 0] rfl ?_
  exact b_X8_canDoAll_2 X cI cJ cZ h_this q_this  r  lfuel this_acts this_actMatch this_actPlayers x1 x2 (0 : Int32) hT
-- ===== SoldMatches$Squad.priceOf(I)I
abbrev rmX8_priceOf : Room := { frames := 0, cells := 0, slots := 0, locals := 0 }
def w_X8_priceOf (cI cJ cZ : ClassId) (h_this : Nat) (q_this : Nat → Nat) (this_acts : Int32) (this_debts : Nat → Int32) : va_W := [(h_this, .inr (8, oFX8 q_this this_acts)), ((q_this 2), .inl (cI, 10, .inl this_debts))]
theorem m_X8_priceOf_f18 : Cond.fieldLink RX8 18 "SoldMatches$Squad" "debts" "[I" ∈ wsX8_priceOf := List.mem_of_getElem? (i := 1) rfl
theorem in_X8_priceOf_X8 : ∀ w ∈ wsX80, w ∈ wsX8_priceOf := fun w h => List.mem_cons_of_mem _ (List.mem_append_right _ h)
def t_X8_priceOf_32  (k_4 : (Nat → Int32) → Int32 → Int32 → Int32 → Option (Int32)) (this_debts : Nat → Int32) (x1 : Int32) (x2 : Int32) (x3 : Int32) : Option (Int32) := k_4 this_debts x1 x2 (x3 + (1 : Int32))
def t_X8_priceOf_4_b  (k_4 : (Nat → Int32) → Int32 → Int32 → Int32 → Option (Int32)) (this_debts : Nat → Int32) (x1 : Int32) (x2 : Int32) (x3 : Int32) : Option (Int32) := if (10 : Int32) ≤ x3 then (some (x2)) else (if ((x1 >>> (x3 &&& 31)) &&& (1 : Int32)) = (1 : Int32) then (ckn (x3 < 0 ∨ 10 ≤ x3.toNatClampNeg) (t_X8_priceOf_32  k_4 this_debts x1 (x2 + ((1000 : Int32) - (this_debts x3.toNatClampNeg))) x3)) else (t_X8_priceOf_32  k_4 this_debts x1 x2 x3))
def t_X8_priceOf_4   (n : Nat) : (Nat → Int32) → Int32 → Int32 → Int32 → Option (Int32) := Nat.rec (fun _ _ _ _ => none) (fun _ ih => t_X8_priceOf_4_b   ih) n
def t_X8_priceOf  (this_debts : Nat → Int32) (x1 : Int32) : Option (Int32) := t_X8_priceOf_4   lfuel this_debts x1 (0 : Int32) (0 : Int32)
set_option maxHeartbeats 4000000 in
set_option maxRecDepth 100000 in
theorem b_X8_priceOf_32 {p : Program} {l : Launch} {e : Env} {s : State} {m : MethodId} {args : Array Value} {below : List Frame} {meth : Method} {c : Code} {D : va_G} {A : Nat → Prop} {cI cJ cZ : ClassId} (X : Cx p m c cX8_priceOf 4 s args wsX8_priceOf RX8 D (tys3 cI cJ cZ) meth (some .int)) (_ _ _ : ClassId)  (h_this : Nat) (q_this : Nat → Nat) (this_acts : Int32) (r : Int32) (k_4 : (Nat → Int32) → Int32 → Int32 → Int32 → Option (Int32)) (hk_4 : ∀ (this_debts : Nat → Int32) (x1 : Int32) (x2 : Int32) (x3 : Int32), k_4 this_debts x1 x2 x3 = some r → J p l e rmX8_priceOf s m args below meth c D A 4 (QI D below args s A r (w_X8_priceOf cI cJ cZ h_this q_this this_acts this_debts)) 0 0 (w_X8_priceOf cI cJ cZ h_this q_this this_acts this_debts) [(0, .ref h_this), (1, .int x1), (2, .int x2), (3, .int x3)] [] 4) (this_debts : Nat → Int32) (x1 : Int32) (x2 : Int32) (x3 : Int32) (hT : t_X8_priceOf_32  k_4 this_debts x1 x2 x3 = some r) : J p l e rmX8_priceOf s m args below meth c D A 4 (QI D below args s A r (w_X8_priceOf cI cJ cZ h_this q_this this_acts this_debts)) 0 0 (w_X8_priceOf cI cJ cZ h_this q_this this_acts this_debts) [(0, .ref h_this), (1, .int x1), (2, .int x2), (3, .int x3)] [] 32 := by
  unfold t_X8_priceOf_32 at hT
  refine J_iinc (lv' := [(3, .int (x3 + (1 : Int32))), (0, .ref h_this), (1, .int x1), (2, .int x2)]) (j := 3) X dX8_priceOf_32 rfl rfl (by decide) rfl ?_
  refine J_goto (tgt := 4) X dX8_priceOf_35 (by decide) ?_
  refine J_lv (lv' := [(0, .ref h_this), (1, .int x1), (2, .int x2), (3, .int (x3 + (1 : Int32)))]) [1, 2, 3, 0] rfl ?_
  exact hk_4 this_debts x1 x2 (x3 + (1 : Int32)) hT
set_option maxHeartbeats 4000000 in
set_option maxRecDepth 100000 in
theorem b_X8_priceOf_4_b {p : Program} {l : Launch} {e : Env} {s : State} {m : MethodId} {args : Array Value} {below : List Frame} {meth : Method} {c : Code} {D : va_G} {A : Nat → Prop} {cI cJ cZ : ClassId} (X : Cx p m c cX8_priceOf 4 s args wsX8_priceOf RX8 D (tys3 cI cJ cZ) meth (some .int)) (_ _ _ : ClassId)  (h_this : Nat) (q_this : Nat → Nat) (this_acts : Int32) (r : Int32) (k_4 : (Nat → Int32) → Int32 → Int32 → Int32 → Option (Int32)) (hk_4 : ∀ (this_debts : Nat → Int32) (x1 : Int32) (x2 : Int32) (x3 : Int32), k_4 this_debts x1 x2 x3 = some r → J p l e rmX8_priceOf s m args below meth c D A 4 (QI D below args s A r (w_X8_priceOf cI cJ cZ h_this q_this this_acts this_debts)) 0 0 (w_X8_priceOf cI cJ cZ h_this q_this this_acts this_debts) [(0, .ref h_this), (1, .int x1), (2, .int x2), (3, .int x3)] [] 4) (this_debts : Nat → Int32) (x1 : Int32) (x2 : Int32) (x3 : Int32) (hT : t_X8_priceOf_4_b  k_4 this_debts x1 x2 x3 = some r) : J p l e rmX8_priceOf s m args below meth c D A 4 (QI D below args s A r (w_X8_priceOf cI cJ cZ h_this q_this this_acts this_debts)) 0 0 (w_X8_priceOf cI cJ cZ h_this q_this this_acts this_debts) [(0, .ref h_this), (1, .int x1), (2, .int x2), (3, .int x3)] [] 4 := by
  unfold t_X8_priceOf_4_b at hT
  refine J_iload_n X dX8_priceOf_4 3 rfl ?_
  refine J_bipush (v := 10) X dX8_priceOf_5 (by decide) ?_
  refine J_icmp_ge (tgt := 38) X dX8_priceOf_7 (by decide) (fun hc1 => ?_) (fun hc1 => ?_)
  · have hT := ift hT hc1
    refine J_iload_n X dX8_priceOf_38 2 rfl ?_
    cases hT
    exact J_iret X dX8_priceOf_39
  · have hT := iff_ hT hc1
    refine J_iload_n X dX8_priceOf_10 1 rfl ?_
    refine J_iload_n X dX8_priceOf_11 3 rfl ?_
    refine J_ishr X dX8_priceOf_12 ?_
    refine J_iconst (v := 1) X dX8_priceOf_13 (by decide) ?_
    refine J_iand X dX8_priceOf_14 ?_
    refine J_iconst (v := 1) X dX8_priceOf_15 (by decide) ?_
    refine J_icmp_ne (tgt := 32) X dX8_priceOf_16 (by decide) (fun hc2 => ?_) (fun hc2 => ?_)
    · have hT := iff_ hT hc2
      exact b_X8_priceOf_32 X cI cJ cZ h_this q_this this_acts r k_4 hk_4 this_debts x1 x2 x3 hT
    · have hT := ift hT hc2
      refine J_iload_n X dX8_priceOf_19 2 rfl ?_
      refine J_sipush (v := 1000) X dX8_priceOf_20 (by decide) ?_
      refine J_aload_n X dX8_priceOf_23 0 rfl ?_
      refine J_get (C := RX8) (T := TX8) (N := 7) (ci := 8) (v := .ref (q_this 2)) X in_X8_priceOf_X8 0 rfl rfl 2 (by decide) m_X8_priceOf_f18 rfl dX8_priceOf_24 ?_
      refine J_iload_n X dX8_priceOf_27 3 rfl ?_
      obtain ⟨hk3, hT⟩ := ckn_e hT
      refine J_iald X 1 rfl rfl hk3 dX8_priceOf_28 ?_
      refine J_isub X dX8_priceOf_29 ?_
      refine J_iadd X dX8_priceOf_30 ?_
      refine J_istore_n (lv' := [(2, .int (x2 + ((1000 : Int32) - (this_debts x3.toNatClampNeg)))), (0, .ref h_this), (1, .int x1), (3, .int x3)]) X dX8_priceOf_31 (by decide) rfl ?_
      refine J_lv (lv' := [(0, .ref h_this), (1, .int x1), (2, .int (x2 + ((1000 : Int32) - (this_debts x3.toNatClampNeg)))), (3, .int x3)]) [1, 2, 0, 3] rfl ?_
      exact b_X8_priceOf_32 X cI cJ cZ h_this q_this this_acts r k_4 hk_4 this_debts x1 (x2 + ((1000 : Int32) - (this_debts x3.toNatClampNeg))) x3 hT
set_option maxHeartbeats 4000000 in
set_option maxRecDepth 100000 in
theorem b_X8_priceOf_4 {p : Program} {l : Launch} {e : Env} {s : State} {m : MethodId} {args : Array Value} {below : List Frame} {meth : Method} {c : Code} {D : va_G} {A : Nat → Prop} {cI cJ cZ : ClassId} (X : Cx p m c cX8_priceOf 4 s args wsX8_priceOf RX8 D (tys3 cI cJ cZ) meth (some .int)) (_ _ _ : ClassId)  (h_this : Nat) (q_this : Nat → Nat) (this_acts : Int32) (r : Int32)  : ∀ (n : Nat) (this_debts : Nat → Int32) (x1 : Int32) (x2 : Int32) (x3 : Int32) (hT : t_X8_priceOf_4   n this_debts x1 x2 x3 = some r), J p l e rmX8_priceOf s m args below meth c D A 4 (QI D below args s A r (w_X8_priceOf cI cJ cZ h_this q_this this_acts this_debts)) 0 0 (w_X8_priceOf cI cJ cZ h_this q_this this_acts this_debts) [(0, .ref h_this), (1, .int x1), (2, .int x2), (3, .int x3)] [] 4 := by
  intro n
  induction n with
  | zero => intro this_debts x1 x2 x3 hT; cases hT
  | succ n ih =>
    intro this_debts x1 x2 x3 hT
    exact b_X8_priceOf_4_b X cI cJ cZ h_this q_this this_acts r  (t_X8_priceOf_4   n) ih this_debts x1 x2 x3 hT
set_option maxHeartbeats 4000000 in
set_option maxRecDepth 100000 in
theorem c_X8_priceOf (l : Launch) (D : va_G) (cI cJ cZ : ClassId) (h_this : Nat) (q_this : Nat → Nat) (this_acts : Int32) (this_debts : Nat → Int32) (x1 : Int32) (r : Int32) (hT : t_X8_priceOf  this_debts x1 = some r) : Ci l yX8_priceOf wsX8_priceOf rmX8_priceOf D (tys3 cI cJ cZ) [.ref h_this, .int x1] (w_X8_priceOf cI cJ cZ h_this q_this this_acts this_debts) r (w_X8_priceOf cI cJ cZ h_this q_this this_acts this_debts) := by
  refine Ci.ofJ (cc := cX8_priceOf) (nL := 4) (rt := (some .int)) (own := RX8) (by decide) rfl rfl (Nat.le_of_ble_eq_true rfl) ?_
  intro p e s m below meth c A X
  unfold t_X8_priceOf at hT
  refine J_lv (lv' := [(0, .ref h_this), (1, .int x1)]) [0, 1] rfl ?_
  refine J_iconst (v := 0) X dX8_priceOf_0 (by decide) ?_
  refine J_istore_n (lv' := [(2, .int (0 : Int32)), (0, .ref h_this), (1, .int x1)]) X dX8_priceOf_1 (by decide) rfl ?_
  refine J_iconst (v := 0) X dX8_priceOf_2 (by decide) ?_
  refine J_istore_n (lv' := [(3, .int (0 : Int32)), (2, .int (0 : Int32)), (0, .ref h_this), (1, .int x1)]) X dX8_priceOf_3 (by decide) rfl ?_
  refine J_lv (lv' := [(0, .ref h_this), (1, .int x1), (2, .int (0 : Int32)), (3, .int (0 : Int32))]) [2, 3, 1, 0] rfl ?_
  exact b_X8_priceOf_4 X cI cJ cZ h_this q_this this_acts r  lfuel this_debts x1 (0 : Int32) (0 : Int32) hT
-- ===== SoldMatches$Squad.fewestFor(I)I
abbrev rmX8_fewestFor : Room := { frames := 1, cells := 0, slots := 0, locals := 23 }
def w_X8_fewestFor (cI cJ cZ : ClassId) (h_this : Nat) (q_this : Nat → Nat) (this_acts : Int32) (this_actMatch : Nat → Int32) (this_actPlayers : Nat → Int32) (this_debts : Nat → Int32) : va_W := [(h_this, .inr (8, oFX8 q_this this_acts)), ((q_this 4), .inl (cI, 12, .inl this_actMatch)), ((q_this 5), .inl (cI, 12, .inl this_actPlayers)), ((q_this 2), .inl (cI, 10, .inl this_debts))]
theorem cw_X8_fewestFor_J6_bitCount_0f7a4_46 {s : State} {args : Array Value} (hts : ∀ w ∈ wsX8_fewestFor, w.before args s = true) : CallB rmX8_fewestFor s args RX8 46 yJ6_bitCount_0f7a4 cJ6_bitCount_0f7a4 1 (some .int) wsJ6_bitCount_0f7a4 rmJ6_bitCount_0f7a4 0 0 1 ∧ (Cond.static yJ6_bitCount_0f7a4).before args s = true := va_cwS 1 hts gX8_fewestFor_J6_bitCount_0f7a4 rfl rfl rfl (by decide +kernel) ⟨by decide, by decide⟩
theorem cw_X8_fewestFor_X8_canDoAll_51 {s : State} {args : Array Value} (hts : ∀ w ∈ wsX8_fewestFor, w.before args s = true) : CallW rmX8_fewestFor s args RX8 RX8 51 yX8_canDoAll cX8_canDoAll 4 (some .boolean) wsX8_canDoAll rmX8_canDoAll 0 0 2 := cwV 2 hts gX8_fewestFor_X8_canDoAll rfl rfl rfl (by decide +kernel) ⟨by decide, by decide⟩
theorem cw_X8_fewestFor_X8_priceOf_42 {s : State} {args : Array Value} (hts : ∀ w ∈ wsX8_fewestFor, w.before args s = true) : CallW rmX8_fewestFor s args RX8 RX8 42 yX8_priceOf cX8_priceOf 4 (some .int) wsX8_priceOf rmX8_priceOf 0 0 1 := cwV 1 hts gX8_fewestFor_X8_priceOf rfl rfl rfl (by decide +kernel) ⟨by decide, by decide⟩
def t_X8_fewestFor_82  (k_17 : Int32 → (Nat → Int32) → (Nat → Int32) → (Nat → Int32) → Int32 → Int32 → Int32 → Int32 → Int32 → Option (Int32)) (this_acts : Int32) (this_actMatch : Nat → Int32) (this_actPlayers : Nat → Int32) (this_debts : Nat → Int32) (x1 : Int32) (x2 : Int32) (x3 : Int32) (x4 : Int32) (x5 : Int32) : Option (Int32) := k_17 this_acts this_actMatch this_actPlayers this_debts x1 x2 x3 x4 (x5 + (1 : Int32))
def t_X8_fewestFor_72  (k_17 : Int32 → (Nat → Int32) → (Nat → Int32) → (Nat → Int32) → Int32 → Int32 → Int32 → Int32 → Int32 → Option (Int32)) (this_acts : Int32) (this_actMatch : Nat → Int32) (this_actPlayers : Nat → Int32) (this_debts : Nat → Int32) (x1 : Int32) (x5 : Int32) (x6 : Int32) (x7 : Int32) : Option (Int32) := t_X8_fewestFor_82  k_17 this_acts this_actMatch this_actPlayers this_debts x1 x5 x6 x7 x5
def t_X8_fewestFor_17_b  (k_17 : Int32 → (Nat → Int32) → (Nat → Int32) → (Nat → Int32) → Int32 → Int32 → Int32 → Int32 → Int32 → Option (Int32)) (this_acts : Int32) (this_actMatch : Nat → Int32) (this_actPlayers : Nat → Int32) (this_debts : Nat → Int32) (x1 : Int32) (x2 : Int32) (x3 : Int32) (x4 : Int32) (x5 : Int32) : Option (Int32) := if (1024 : Int32) ≤ x5 then (some (x2)) else (bd1 (t_J6_bitCount_0f7a4 x5) (fun v2 => if x3 < v2 then (t_X8_fewestFor_82  k_17 this_acts this_actMatch this_actPlayers this_debts x1 x2 x3 x4 x5) else (bd1 (t_X8_canDoAll this_acts this_actMatch this_actPlayers x1 x5) (fun v4 => if v4 = 0 then (t_X8_fewestFor_82  k_17 this_acts this_actMatch this_actPlayers this_debts x1 x2 x3 x4 x5) else (bd1 (t_X8_priceOf this_debts x5) (fun v6 => if v2 < x3 then (t_X8_fewestFor_72  k_17 this_acts this_actMatch this_actPlayers this_debts x1 x5 v2 v6) else (if x4 ≤ v6 then (t_X8_fewestFor_82  k_17 this_acts this_actMatch this_actPlayers this_debts x1 x2 x3 x4 x5) else (t_X8_fewestFor_72  k_17 this_acts this_actMatch this_actPlayers this_debts x1 x5 v2 v6))))))))
def t_X8_fewestFor_17   (n : Nat) : Int32 → (Nat → Int32) → (Nat → Int32) → (Nat → Int32) → Int32 → Int32 → Int32 → Int32 → Int32 → Option (Int32) := Nat.rec (fun _ _ _ _ _ _ _ _ _ => none) (fun _ ih => t_X8_fewestFor_17_b   ih) n
def t_X8_fewestFor  (this_acts : Int32) (this_actMatch : Nat → Int32) (this_actPlayers : Nat → Int32) (this_debts : Nat → Int32) (x1 : Int32) : Option (Int32) := bd1 (t_X8_priceOf this_debts (1023 : Int32)) (fun v9 => t_X8_fewestFor_17   lfuel this_acts this_actMatch this_actPlayers this_debts x1 (1023 : Int32) (10 : Int32) v9 (0 : Int32))
set_option maxHeartbeats 4000000 in
set_option maxRecDepth 100000 in
theorem b_X8_fewestFor_82 {p : Program} {l : Launch} {e : Env} {s : State} {m : MethodId} {args : Array Value} {below : List Frame} {meth : Method} {c : Code} {D : va_G} {A : Nat → Prop} {cI cJ cZ : ClassId} (X : Cx p m c cX8_fewestFor 8 s args wsX8_fewestFor RX8 D (tys3 cI cJ cZ) meth (some .int)) (_ _ _ : ClassId)  (h_this : Nat) (q_this : Nat → Nat)  (r : Int32) (k_17 : Int32 → (Nat → Int32) → (Nat → Int32) → (Nat → Int32) → Int32 → Int32 → Int32 → Int32 → Int32 → Option (Int32)) (hk_17 : ∀ (this_acts : Int32) (this_actMatch : Nat → Int32) (this_actPlayers : Nat → Int32) (this_debts : Nat → Int32) (x1 : Int32) (x2 : Int32) (x3 : Int32) (x4 : Int32) (x5 : Int32), k_17 this_acts this_actMatch this_actPlayers this_debts x1 x2 x3 x4 x5 = some r → J p l e rmX8_fewestFor s m args below meth c D A 8 (QI D below args s A r (w_X8_fewestFor cI cJ cZ h_this q_this this_acts this_actMatch this_actPlayers this_debts)) 0 0 (w_X8_fewestFor cI cJ cZ h_this q_this this_acts this_actMatch this_actPlayers this_debts) [(0, .ref h_this), (1, .int x1), (2, .int x2), (3, .int x3), (4, .int x4), (5, .int x5)] [] 17) (this_acts : Int32) (this_actMatch : Nat → Int32) (this_actPlayers : Nat → Int32) (this_debts : Nat → Int32) (x1 : Int32) (x2 : Int32) (x3 : Int32) (x4 : Int32) (x5 : Int32) (hT : t_X8_fewestFor_82  k_17 this_acts this_actMatch this_actPlayers this_debts x1 x2 x3 x4 x5 = some r) : J p l e rmX8_fewestFor s m args below meth c D A 8 (QI D below args s A r (w_X8_fewestFor cI cJ cZ h_this q_this this_acts this_actMatch this_actPlayers this_debts)) 0 0 (w_X8_fewestFor cI cJ cZ h_this q_this this_acts this_actMatch this_actPlayers this_debts) [(0, .ref h_this), (1, .int x1), (2, .int x2), (3, .int x3), (4, .int x4), (5, .int x5)] [] 82 := by
  unfold t_X8_fewestFor_82 at hT
  refine J_iinc (lv' := [(5, .int (x5 + (1 : Int32))), (0, .ref h_this), (1, .int x1), (2, .int x2), (3, .int x3), (4, .int x4)]) (j := 5) X dX8_fewestFor_82 rfl rfl (by decide) rfl ?_
  refine J_goto (tgt := 17) X dX8_fewestFor_85 (by decide) ?_
  refine J_lv (lv' := [(0, .ref h_this), (1, .int x1), (2, .int x2), (3, .int x3), (4, .int x4), (5, .int (x5 + (1 : Int32)))]) [1, 2, 3, 4, 5, 0] rfl ?_
  exact hk_17 this_acts this_actMatch this_actPlayers this_debts x1 x2 x3 x4 (x5 + (1 : Int32)) hT
set_option maxHeartbeats 4000000 in
set_option maxRecDepth 100000 in
theorem b_X8_fewestFor_72 {p : Program} {l : Launch} {e : Env} {s : State} {m : MethodId} {args : Array Value} {below : List Frame} {meth : Method} {c : Code} {D : va_G} {A : Nat → Prop} {cI cJ cZ : ClassId} (X : Cx p m c cX8_fewestFor 8 s args wsX8_fewestFor RX8 D (tys3 cI cJ cZ) meth (some .int)) (_ _ _ : ClassId)  (h_this : Nat) (q_this : Nat → Nat)  (r : Int32) (k_17 : Int32 → (Nat → Int32) → (Nat → Int32) → (Nat → Int32) → Int32 → Int32 → Int32 → Int32 → Int32 → Option (Int32)) (hk_17 : ∀ (this_acts : Int32) (this_actMatch : Nat → Int32) (this_actPlayers : Nat → Int32) (this_debts : Nat → Int32) (x1 : Int32) (x2 : Int32) (x3 : Int32) (x4 : Int32) (x5 : Int32), k_17 this_acts this_actMatch this_actPlayers this_debts x1 x2 x3 x4 x5 = some r → J p l e rmX8_fewestFor s m args below meth c D A 8 (QI D below args s A r (w_X8_fewestFor cI cJ cZ h_this q_this this_acts this_actMatch this_actPlayers this_debts)) 0 0 (w_X8_fewestFor cI cJ cZ h_this q_this this_acts this_actMatch this_actPlayers this_debts) [(0, .ref h_this), (1, .int x1), (2, .int x2), (3, .int x3), (4, .int x4), (5, .int x5)] [] 17) (this_acts : Int32) (this_actMatch : Nat → Int32) (this_actPlayers : Nat → Int32) (this_debts : Nat → Int32) (x1 : Int32) (x5 : Int32) (x6 : Int32) (x7 : Int32) (hT : t_X8_fewestFor_72  k_17 this_acts this_actMatch this_actPlayers this_debts x1 x5 x6 x7 = some r) : J p l e rmX8_fewestFor s m args below meth c D A 8 (QI D below args s A r (w_X8_fewestFor cI cJ cZ h_this q_this this_acts this_actMatch this_actPlayers this_debts)) 0 0 (w_X8_fewestFor cI cJ cZ h_this q_this this_acts this_actMatch this_actPlayers this_debts) [(0, .ref h_this), (1, .int x1), (5, .int x5), (6, .int x6), (7, .int x7)] [] 72 := by
  unfold t_X8_fewestFor_72 at hT
  refine J_iload X dX8_fewestFor_72 2 rfl ?_
  refine J_istore_n (lv' := [(2, .int x5), (0, .ref h_this), (1, .int x1), (5, .int x5), (6, .int x6), (7, .int x7)]) X dX8_fewestFor_74 (by decide) rfl ?_
  refine J_iload X dX8_fewestFor_75 4 rfl ?_
  refine J_istore_n (lv' := [(3, .int x6), (2, .int x5), (0, .ref h_this), (1, .int x1), (5, .int x5), (6, .int x6), (7, .int x7)]) X dX8_fewestFor_77 (by decide) rfl ?_
  refine J_iload X dX8_fewestFor_78 6 rfl ?_
  refine J_istore (lv' := [(4, .int x7), (3, .int x6), (2, .int x5), (0, .ref h_this), (1, .int x1), (5, .int x5), (6, .int x6), (7, .int x7)]) X dX8_fewestFor_80 (by decide) rfl ?_
  refine J_lv (lv' := [(0, .ref h_this), (1, .int x1), (2, .int x5), (3, .int x6), (4, .int x7), (5, .int x5)]) [3, 4, 2, 1, 0, 5] rfl ?_
  exact b_X8_fewestFor_82 X cI cJ cZ h_this q_this  r k_17 hk_17 this_acts this_actMatch this_actPlayers this_debts x1 x5 x6 x7 x5 hT
set_option maxHeartbeats 4000000 in
set_option maxRecDepth 100000 in
theorem b_X8_fewestFor_17_b {p : Program} {l : Launch} {e : Env} {s : State} {m : MethodId} {args : Array Value} {below : List Frame} {meth : Method} {c : Code} {D : va_G} {A : Nat → Prop} {cI cJ cZ : ClassId} (X : Cx p m c cX8_fewestFor 8 s args wsX8_fewestFor RX8 D (tys3 cI cJ cZ) meth (some .int)) (_ _ _ : ClassId)  (h_this : Nat) (q_this : Nat → Nat)  (r : Int32) (k_17 : Int32 → (Nat → Int32) → (Nat → Int32) → (Nat → Int32) → Int32 → Int32 → Int32 → Int32 → Int32 → Option (Int32)) (hk_17 : ∀ (this_acts : Int32) (this_actMatch : Nat → Int32) (this_actPlayers : Nat → Int32) (this_debts : Nat → Int32) (x1 : Int32) (x2 : Int32) (x3 : Int32) (x4 : Int32) (x5 : Int32), k_17 this_acts this_actMatch this_actPlayers this_debts x1 x2 x3 x4 x5 = some r → J p l e rmX8_fewestFor s m args below meth c D A 8 (QI D below args s A r (w_X8_fewestFor cI cJ cZ h_this q_this this_acts this_actMatch this_actPlayers this_debts)) 0 0 (w_X8_fewestFor cI cJ cZ h_this q_this this_acts this_actMatch this_actPlayers this_debts) [(0, .ref h_this), (1, .int x1), (2, .int x2), (3, .int x3), (4, .int x4), (5, .int x5)] [] 17) (this_acts : Int32) (this_actMatch : Nat → Int32) (this_actPlayers : Nat → Int32) (this_debts : Nat → Int32) (x1 : Int32) (x2 : Int32) (x3 : Int32) (x4 : Int32) (x5 : Int32) (hT : t_X8_fewestFor_17_b  k_17 this_acts this_actMatch this_actPlayers this_debts x1 x2 x3 x4 x5 = some r) : J p l e rmX8_fewestFor s m args below meth c D A 8 (QI D below args s A r (w_X8_fewestFor cI cJ cZ h_this q_this this_acts this_actMatch this_actPlayers this_debts)) 0 0 (w_X8_fewestFor cI cJ cZ h_this q_this this_acts this_actMatch this_actPlayers this_debts) [(0, .ref h_this), (1, .int x1), (2, .int x2), (3, .int x3), (4, .int x4), (5, .int x5)] [] 17 := by
  unfold t_X8_fewestFor_17_b at hT
  refine J_iload X dX8_fewestFor_17 5 rfl ?_
  refine J_sipush (v := 1024) X dX8_fewestFor_19 (by decide) ?_
  refine J_icmp_ge (tgt := 88) X dX8_fewestFor_22 (by decide) (fun hc1 => ?_) (fun hc1 => ?_)
  · have hT := ift hT hc1
    refine J_iload_n X dX8_fewestFor_88 2 rfl ?_
    cases hT
    exact J_iret X dX8_fewestFor_89
  · have hT := iff_ hT hc1
    refine J_iload X dX8_fewestFor_25 5 rfl ?_
    obtain ⟨v2, hq2, hT⟩ := bd1_e hT
    refine J_ci (wc := (w_J6_bitCount_0f7a4 cI cJ cZ )) (wc' := (w_J6_bitCount_0f7a4 cI cJ cZ )) (ws' := (w_X8_fewestFor cI cJ cZ h_this q_this this_acts this_actMatch this_actPlayers this_debts)) [] [0, 1, 2, 3] 4 rfl rfl rfl rfl rfl rfl rfl rfl (run_S (As := [.int x5]) (rest := []) X (c_J6_bitCount_0f7a4 l D cI cJ cZ  x5 v2 hq2) (cw_X8_fewestFor_J6_bitCount_0f7a4_46 X.1.2.2.2.2) rfl rfl (Nat.le_of_ble_eq_true rfl) dX8_fewestFor_27 ⟨Nat.zero_le _, Nat.zero_le _⟩) ?_
    refine J_istore (lv' := [(6, .int v2), (0, .ref h_this), (1, .int x1), (2, .int x2), (3, .int x3), (4, .int x4), (5, .int x5)]) X dX8_fewestFor_30 (by decide) rfl ?_
    refine J_iload X dX8_fewestFor_32 0 rfl ?_
    refine J_iload_n X dX8_fewestFor_34 4 rfl ?_
    refine J_icmp_gt (tgt := 82) X dX8_fewestFor_35 (by decide) (fun hc3 => ?_) (fun hc3 => ?_)
    · have hT := ift hT hc3
      refine J_lv (lv' := [(0, .ref h_this), (1, .int x1), (2, .int x2), (3, .int x3), (4, .int x4), (5, .int x5)]) [1, 2, 3, 4, 5, 6] rfl ?_
      exact b_X8_fewestFor_82 X cI cJ cZ h_this q_this  r k_17 hk_17 this_acts this_actMatch this_actPlayers this_debts x1 x2 x3 x4 x5 hT
    · have hT := iff_ hT hc3
      refine J_aload_n X dX8_fewestFor_38 1 rfl ?_
      refine J_iload_n X dX8_fewestFor_39 2 rfl ?_
      refine J_iload X dX8_fewestFor_40 6 rfl ?_
      obtain ⟨v4, hq4, hT⟩ := bd1_e hT
      refine J_ci (wc := (w_X8_canDoAll cI cJ cZ h_this q_this this_acts this_actMatch this_actPlayers)) (wc' := (w_X8_canDoAll cI cJ cZ h_this q_this this_acts this_actMatch this_actPlayers)) (ws' := (w_X8_fewestFor cI cJ cZ h_this q_this this_acts this_actMatch this_actPlayers this_debts)) [0, 1, 2] [3] 4 rfl rfl rfl rfl rfl rfl rfl rfl (run_V (As := [.int x1, .int x5]) (rest := []) X (c_X8_canDoAll l D cI cJ cZ h_this q_this this_acts this_actMatch this_actPlayers x1 x5 v4 hq4) (cw_X8_fewestFor_X8_canDoAll_51 X.1.2.2.2.2) 0 rfl rfl rfl rfl (Nat.le_of_ble_eq_true rfl) dX8_fewestFor_42 ⟨Nat.zero_le _, Nat.zero_le _⟩) ?_
      refine J_if_ne (tgt := 51) X dX8_fewestFor_45 (by decide) (fun hc5 => ?_) (fun hc5 => ?_)
      · have hT := iff_ hT hc5
        refine J_aload_n X dX8_fewestFor_51 1 rfl ?_
        refine J_iload X dX8_fewestFor_52 6 rfl ?_
        obtain ⟨v6, hq6, hT⟩ := bd1_e hT
        refine J_ci (wc := (w_X8_priceOf cI cJ cZ h_this q_this this_acts this_debts)) (wc' := (w_X8_priceOf cI cJ cZ h_this q_this this_acts this_debts)) (ws' := (w_X8_fewestFor cI cJ cZ h_this q_this this_acts this_actMatch this_actPlayers this_debts)) [0, 3] [1, 2] 4 rfl rfl rfl rfl rfl rfl rfl rfl (run_V (As := [.int x5]) (rest := []) X (c_X8_priceOf l D cI cJ cZ h_this q_this this_acts this_debts x5 v6 hq6) (cw_X8_fewestFor_X8_priceOf_42 X.1.2.2.2.2) 0 rfl rfl rfl rfl (Nat.le_of_ble_eq_true rfl) dX8_fewestFor_54 ⟨Nat.zero_le _, Nat.zero_le _⟩) ?_
        refine J_istore (lv' := [(7, .int v6), (6, .int v2), (0, .ref h_this), (1, .int x1), (2, .int x2), (3, .int x3), (4, .int x4), (5, .int x5)]) X dX8_fewestFor_57 (by decide) rfl ?_
        refine J_iload X dX8_fewestFor_59 1 rfl ?_
        refine J_iload_n X dX8_fewestFor_61 5 rfl ?_
        refine J_icmp_lt (tgt := 72) X dX8_fewestFor_62 (by decide) (fun hc7 => ?_) (fun hc7 => ?_)
        · have hT := ift hT hc7
          refine J_lv (lv' := [(0, .ref h_this), (1, .int x1), (5, .int x5), (6, .int v2), (7, .int v6)]) [2, 3, 7, 1, 0] rfl ?_
          exact b_X8_fewestFor_72 X cI cJ cZ h_this q_this  r k_17 hk_17 this_acts this_actMatch this_actPlayers this_debts x1 x5 v2 v6 hT
        · have hT := iff_ hT hc7
          refine J_iload X dX8_fewestFor_65 0 rfl ?_
          refine J_iload X dX8_fewestFor_67 6 rfl ?_
          refine J_icmp_ge (tgt := 82) X dX8_fewestFor_69 (by decide) (fun hc8 => ?_) (fun hc8 => ?_)
          · have hT := ift hT hc8
            refine J_lv (lv' := [(0, .ref h_this), (1, .int x1), (2, .int x2), (3, .int x3), (4, .int x4), (5, .int x5)]) [2, 3, 4, 5, 6, 7] rfl ?_
            exact b_X8_fewestFor_82 X cI cJ cZ h_this q_this  r k_17 hk_17 this_acts this_actMatch this_actPlayers this_debts x1 x2 x3 x4 x5 hT
          · have hT := iff_ hT hc8
            refine J_lv (lv' := [(0, .ref h_this), (1, .int x1), (5, .int x5), (6, .int v2), (7, .int v6)]) [2, 3, 7, 1, 0] rfl ?_
            exact b_X8_fewestFor_72 X cI cJ cZ h_this q_this  r k_17 hk_17 this_acts this_actMatch this_actPlayers this_debts x1 x5 v2 v6 hT
      · have hT := ift hT hc5
        refine J_goto (tgt := 82) X dX8_fewestFor_48 (by decide) ?_
        refine J_lv (lv' := [(0, .ref h_this), (1, .int x1), (2, .int x2), (3, .int x3), (4, .int x4), (5, .int x5)]) [1, 2, 3, 4, 5, 6] rfl ?_
        exact b_X8_fewestFor_82 X cI cJ cZ h_this q_this  r k_17 hk_17 this_acts this_actMatch this_actPlayers this_debts x1 x2 x3 x4 x5 hT
set_option maxHeartbeats 4000000 in
set_option maxRecDepth 100000 in
theorem b_X8_fewestFor_17 {p : Program} {l : Launch} {e : Env} {s : State} {m : MethodId} {args : Array Value} {below : List Frame} {meth : Method} {c : Code} {D : va_G} {A : Nat → Prop} {cI cJ cZ : ClassId} (X : Cx p m c cX8_fewestFor 8 s args wsX8_fewestFor RX8 D (tys3 cI cJ cZ) meth (some .int)) (_ _ _ : ClassId)  (h_this : Nat) (q_this : Nat → Nat)  (r : Int32)  : ∀ (n : Nat) (this_acts : Int32) (this_actMatch : Nat → Int32) (this_actPlayers : Nat → Int32) (this_debts : Nat → Int32) (x1 : Int32) (x2 : Int32) (x3 : Int32) (x4 : Int32) (x5 : Int32) (hT : t_X8_fewestFor_17   n this_acts this_actMatch this_actPlayers this_debts x1 x2 x3 x4 x5 = some r), J p l e rmX8_fewestFor s m args below meth c D A 8 (QI D below args s A r (w_X8_fewestFor cI cJ cZ h_this q_this this_acts this_actMatch this_actPlayers this_debts)) 0 0 (w_X8_fewestFor cI cJ cZ h_this q_this this_acts this_actMatch this_actPlayers this_debts) [(0, .ref h_this), (1, .int x1), (2, .int x2), (3, .int x3), (4, .int x4), (5, .int x5)] [] 17 := by
  intro n
  induction n with
  | zero => intro this_acts this_actMatch this_actPlayers this_debts x1 x2 x3 x4 x5 hT; cases hT
  | succ n ih =>
    intro this_acts this_actMatch this_actPlayers this_debts x1 x2 x3 x4 x5 hT
    exact b_X8_fewestFor_17_b X cI cJ cZ h_this q_this  r  (t_X8_fewestFor_17   n) ih this_acts this_actMatch this_actPlayers this_debts x1 x2 x3 x4 x5 hT
set_option maxHeartbeats 4000000 in
set_option maxRecDepth 100000 in
theorem c_X8_fewestFor (l : Launch) (D : va_G) (cI cJ cZ : ClassId) (h_this : Nat) (q_this : Nat → Nat) (this_acts : Int32) (this_actMatch : Nat → Int32) (this_actPlayers : Nat → Int32) (this_debts : Nat → Int32) (x1 : Int32) (r : Int32) (hT : t_X8_fewestFor  this_acts this_actMatch this_actPlayers this_debts x1 = some r) : Ci l yX8_fewestFor wsX8_fewestFor rmX8_fewestFor D (tys3 cI cJ cZ) [.ref h_this, .int x1] (w_X8_fewestFor cI cJ cZ h_this q_this this_acts this_actMatch this_actPlayers this_debts) r (w_X8_fewestFor cI cJ cZ h_this q_this this_acts this_actMatch this_actPlayers this_debts) := by
  refine Ci.ofJ (cc := cX8_fewestFor) (nL := 8) (rt := (some .int)) (own := RX8) (by decide) rfl rfl (Nat.le_of_ble_eq_true rfl) ?_
  intro p e s m below meth c A X
  unfold t_X8_fewestFor at hT
  refine J_lv (lv' := [(0, .ref h_this), (1, .int x1)]) [0, 1] rfl ?_
  refine J_sipush (v := 1023) X dX8_fewestFor_0 (by decide) ?_
  refine J_istore_n (lv' := [(2, .int (1023 : Int32)), (0, .ref h_this), (1, .int x1)]) X dX8_fewestFor_3 (by decide) rfl ?_
  refine J_bipush (v := 10) X dX8_fewestFor_4 (by decide) ?_
  refine J_istore_n (lv' := [(3, .int (10 : Int32)), (2, .int (1023 : Int32)), (0, .ref h_this), (1, .int x1)]) X dX8_fewestFor_6 (by decide) rfl ?_
  refine J_aload_n X dX8_fewestFor_7 2 rfl ?_
  refine J_iload_n X dX8_fewestFor_8 1 rfl ?_
  obtain ⟨v9, hq9, hT⟩ := bd1_e hT
  refine J_ci (wc := (w_X8_priceOf cI cJ cZ h_this q_this this_acts this_debts)) (wc' := (w_X8_priceOf cI cJ cZ h_this q_this this_acts this_debts)) (ws' := (w_X8_fewestFor cI cJ cZ h_this q_this this_acts this_actMatch this_actPlayers this_debts)) [0, 3] [1, 2] 4 rfl rfl rfl rfl rfl rfl rfl rfl (run_V (As := [.int (1023 : Int32)]) (rest := []) X (c_X8_priceOf l D cI cJ cZ h_this q_this this_acts this_debts (1023 : Int32) v9 hq9) (cw_X8_fewestFor_X8_priceOf_42 X.1.2.2.2.2) 0 rfl rfl rfl rfl (Nat.le_of_ble_eq_true rfl) dX8_fewestFor_9 ⟨Nat.zero_le _, Nat.zero_le _⟩) ?_
  refine J_istore (lv' := [(4, .int v9), (3, .int (10 : Int32)), (2, .int (1023 : Int32)), (0, .ref h_this), (1, .int x1)]) X dX8_fewestFor_12 (by decide) rfl ?_
  refine J_iconst (v := 0) X dX8_fewestFor_14 (by decide) ?_
  refine J_istore (lv' := [(5, .int (0 : Int32)), (4, .int v9), (3, .int (10 : Int32)), (2, .int (1023 : Int32)), (0, .ref h_this), (1, .int x1)]) X dX8_fewestFor_15 (by decide) rfl ?_
  refine J_lv (lv' := [(0, .ref h_this), (1, .int x1), (2, .int (1023 : Int32)), (3, .int (10 : Int32)), (4, .int v9), (5, .int (0 : Int32))]) [4, 5, 3, 2, 1, 0] rfl ?_
  exact b_X8_fewestFor_17 X cI cJ cZ h_this q_this  r  lfuel this_acts this_actMatch this_actPlayers this_debts x1 (1023 : Int32) (10 : Int32) v9 (0 : Int32) hT
-- ===== SoldMatches$Squad.mustFor(I)I
abbrev rmX8_mustFor : Room := { frames := 1, cells := 0, slots := 0, locals := 20 }
def w_X8_mustFor (cI cJ cZ : ClassId) (h_this : Nat) (q_this : Nat → Nat) (this_acts : Int32) (this_actMatch : Nat → Int32) (this_actPlayers : Nat → Int32) : va_W := [(h_this, .inr (8, oFX8 q_this this_acts)), ((q_this 4), .inl (cI, 12, .inl this_actMatch)), ((q_this 5), .inl (cI, 12, .inl this_actPlayers))]
theorem m_X8_mustFor_f38 : Cond.fieldLink RX8 38 "SoldMatches$Squad" "acts" "I" ∈ wsX8_mustFor := List.mem_of_getElem? (i := 1) rfl
theorem in_X8_mustFor_X8 : ∀ w ∈ wsX80, w ∈ wsX8_mustFor := fun w h => List.mem_cons_of_mem _ (List.mem_append_right _ h)
theorem m_X8_mustFor_f21 : Cond.fieldLink RX8 21 "SoldMatches$Squad" "actMatch" "[I" ∈ wsX8_mustFor := List.mem_of_getElem? (i := 2) rfl
theorem m_X8_mustFor_f24 : Cond.fieldLink RX8 24 "SoldMatches$Squad" "actPlayers" "[I" ∈ wsX8_mustFor := List.mem_of_getElem? (i := 3) rfl
theorem cw_X8_mustFor_J6_bitCount_0f7a4_46 {s : State} {args : Array Value} (hts : ∀ w ∈ wsX8_mustFor, w.before args s = true) : CallB rmX8_mustFor s args RX8 46 yJ6_bitCount_0f7a4 cJ6_bitCount_0f7a4 1 (some .int) wsJ6_bitCount_0f7a4 rmJ6_bitCount_0f7a4 0 0 1 ∧ (Cond.static yJ6_bitCount_0f7a4).before args s = true := va_cwS 1 hts gX8_mustFor_J6_bitCount_0f7a4 rfl rfl rfl (by decide +kernel) ⟨by decide, by decide⟩
def t_X8_mustFor_44  (k_4 : Int32 → (Nat → Int32) → (Nat → Int32) → Int32 → Int32 → Int32 → Option (Int32)) (this_acts : Int32) (this_actMatch : Nat → Int32) (this_actPlayers : Nat → Int32) (x1 : Int32) (x2 : Int32) (x3 : Int32) : Option (Int32) := k_4 this_acts this_actMatch this_actPlayers x1 x2 (x3 + (1 : Int32))
def t_X8_mustFor_4_b  (k_4 : Int32 → (Nat → Int32) → (Nat → Int32) → Int32 → Int32 → Int32 → Option (Int32)) (this_acts : Int32) (this_actMatch : Nat → Int32) (this_actPlayers : Nat → Int32) (x1 : Int32) (x2 : Int32) (x3 : Int32) : Option (Int32) := if this_acts ≤ x3 then (some (x2)) else (ckn (x3 < 0 ∨ 12 ≤ x3.toNatClampNeg) (if (this_actMatch x3.toNatClampNeg) = x1 then (ckn (x3 < 0 ∨ 12 ≤ x3.toNatClampNeg) (bd1 (t_J6_bitCount_0f7a4 (this_actPlayers x3.toNatClampNeg)) (fun v5 => if v5 = (1 : Int32) then (ckn (x3 < 0 ∨ 12 ≤ x3.toNatClampNeg) (t_X8_mustFor_44  k_4 this_acts this_actMatch this_actPlayers x1 (x2 ||| (this_actPlayers x3.toNatClampNeg)) x3)) else (t_X8_mustFor_44  k_4 this_acts this_actMatch this_actPlayers x1 x2 x3)))) else (t_X8_mustFor_44  k_4 this_acts this_actMatch this_actPlayers x1 x2 x3)))
def t_X8_mustFor_4   (n : Nat) : Int32 → (Nat → Int32) → (Nat → Int32) → Int32 → Int32 → Int32 → Option (Int32) := Nat.rec (fun _ _ _ _ _ _ => none) (fun _ ih => t_X8_mustFor_4_b   ih) n
def t_X8_mustFor  (this_acts : Int32) (this_actMatch : Nat → Int32) (this_actPlayers : Nat → Int32) (x1 : Int32) : Option (Int32) := t_X8_mustFor_4   lfuel this_acts this_actMatch this_actPlayers x1 (0 : Int32) (0 : Int32)
set_option maxHeartbeats 4000000 in
set_option maxRecDepth 100000 in
theorem b_X8_mustFor_44 {p : Program} {l : Launch} {e : Env} {s : State} {m : MethodId} {args : Array Value} {below : List Frame} {meth : Method} {c : Code} {D : va_G} {A : Nat → Prop} {cI cJ cZ : ClassId} (X : Cx p m c cX8_mustFor 4 s args wsX8_mustFor RX8 D (tys3 cI cJ cZ) meth (some .int)) (_ _ _ : ClassId)  (h_this : Nat) (q_this : Nat → Nat)  (r : Int32) (k_4 : Int32 → (Nat → Int32) → (Nat → Int32) → Int32 → Int32 → Int32 → Option (Int32)) (hk_4 : ∀ (this_acts : Int32) (this_actMatch : Nat → Int32) (this_actPlayers : Nat → Int32) (x1 : Int32) (x2 : Int32) (x3 : Int32), k_4 this_acts this_actMatch this_actPlayers x1 x2 x3 = some r → J p l e rmX8_mustFor s m args below meth c D A 4 (QI D below args s A r (w_X8_mustFor cI cJ cZ h_this q_this this_acts this_actMatch this_actPlayers)) 0 0 (w_X8_mustFor cI cJ cZ h_this q_this this_acts this_actMatch this_actPlayers) [(0, .ref h_this), (1, .int x1), (2, .int x2), (3, .int x3)] [] 4) (this_acts : Int32) (this_actMatch : Nat → Int32) (this_actPlayers : Nat → Int32) (x1 : Int32) (x2 : Int32) (x3 : Int32) (hT : t_X8_mustFor_44  k_4 this_acts this_actMatch this_actPlayers x1 x2 x3 = some r) : J p l e rmX8_mustFor s m args below meth c D A 4 (QI D below args s A r (w_X8_mustFor cI cJ cZ h_this q_this this_acts this_actMatch this_actPlayers)) 0 0 (w_X8_mustFor cI cJ cZ h_this q_this this_acts this_actMatch this_actPlayers) [(0, .ref h_this), (1, .int x1), (2, .int x2), (3, .int x3)] [] 44 := by
  unfold t_X8_mustFor_44 at hT
  refine J_iinc (lv' := [(3, .int (x3 + (1 : Int32))), (0, .ref h_this), (1, .int x1), (2, .int x2)]) (j := 3) X dX8_mustFor_44 rfl rfl (by decide) rfl ?_
  refine J_goto (tgt := 4) X dX8_mustFor_47 (by decide) ?_
  refine J_lv (lv' := [(0, .ref h_this), (1, .int x1), (2, .int x2), (3, .int (x3 + (1 : Int32)))]) [1, 2, 3, 0] rfl ?_
  exact hk_4 this_acts this_actMatch this_actPlayers x1 x2 (x3 + (1 : Int32)) hT
set_option maxHeartbeats 4000000 in
set_option maxRecDepth 100000 in
theorem b_X8_mustFor_4_b {p : Program} {l : Launch} {e : Env} {s : State} {m : MethodId} {args : Array Value} {below : List Frame} {meth : Method} {c : Code} {D : va_G} {A : Nat → Prop} {cI cJ cZ : ClassId} (X : Cx p m c cX8_mustFor 4 s args wsX8_mustFor RX8 D (tys3 cI cJ cZ) meth (some .int)) (_ _ _ : ClassId)  (h_this : Nat) (q_this : Nat → Nat)  (r : Int32) (k_4 : Int32 → (Nat → Int32) → (Nat → Int32) → Int32 → Int32 → Int32 → Option (Int32)) (hk_4 : ∀ (this_acts : Int32) (this_actMatch : Nat → Int32) (this_actPlayers : Nat → Int32) (x1 : Int32) (x2 : Int32) (x3 : Int32), k_4 this_acts this_actMatch this_actPlayers x1 x2 x3 = some r → J p l e rmX8_mustFor s m args below meth c D A 4 (QI D below args s A r (w_X8_mustFor cI cJ cZ h_this q_this this_acts this_actMatch this_actPlayers)) 0 0 (w_X8_mustFor cI cJ cZ h_this q_this this_acts this_actMatch this_actPlayers) [(0, .ref h_this), (1, .int x1), (2, .int x2), (3, .int x3)] [] 4) (this_acts : Int32) (this_actMatch : Nat → Int32) (this_actPlayers : Nat → Int32) (x1 : Int32) (x2 : Int32) (x3 : Int32) (hT : t_X8_mustFor_4_b  k_4 this_acts this_actMatch this_actPlayers x1 x2 x3 = some r) : J p l e rmX8_mustFor s m args below meth c D A 4 (QI D below args s A r (w_X8_mustFor cI cJ cZ h_this q_this this_acts this_actMatch this_actPlayers)) 0 0 (w_X8_mustFor cI cJ cZ h_this q_this this_acts this_actMatch this_actPlayers) [(0, .ref h_this), (1, .int x1), (2, .int x2), (3, .int x3)] [] 4 := by
  unfold t_X8_mustFor_4_b at hT
  refine J_iload_n X dX8_mustFor_4 3 rfl ?_
  refine J_aload_n X dX8_mustFor_5 0 rfl ?_
  refine J_get (C := RX8) (T := TX8) (N := 7) (ci := 8) (v := .int this_acts) X in_X8_mustFor_X8 0 rfl rfl 3 (by decide) m_X8_mustFor_f38 rfl dX8_mustFor_6 ?_
  refine J_icmp_ge (tgt := 50) X dX8_mustFor_9 (by decide) (fun hc1 => ?_) (fun hc1 => ?_)
  · have hT := ift hT hc1
    refine J_iload_n X dX8_mustFor_50 2 rfl ?_
    cases hT
    exact J_iret X dX8_mustFor_51
  · have hT := iff_ hT hc1
    refine J_aload_n X dX8_mustFor_12 0 rfl ?_
    refine J_get (C := RX8) (T := TX8) (N := 7) (ci := 8) (v := .ref (q_this 4)) X in_X8_mustFor_X8 0 rfl rfl 4 (by decide) m_X8_mustFor_f21 rfl dX8_mustFor_13 ?_
    refine J_iload_n X dX8_mustFor_16 3 rfl ?_
    obtain ⟨hk2, hT⟩ := ckn_e hT
    refine J_iald X 1 rfl rfl hk2 dX8_mustFor_17 ?_
    refine J_iload_n X dX8_mustFor_18 1 rfl ?_
    refine J_icmp_ne (tgt := 44) X dX8_mustFor_19 (by decide) (fun hc3 => ?_) (fun hc3 => ?_)
    · have hT := iff_ hT hc3
      exact b_X8_mustFor_44 X cI cJ cZ h_this q_this  r k_4 hk_4 this_acts this_actMatch this_actPlayers x1 x2 x3 hT
    · have hT := ift hT hc3
      refine J_aload_n X dX8_mustFor_22 0 rfl ?_
      refine J_get (C := RX8) (T := TX8) (N := 7) (ci := 8) (v := .ref (q_this 5)) X in_X8_mustFor_X8 0 rfl rfl 5 (by decide) m_X8_mustFor_f24 rfl dX8_mustFor_23 ?_
      refine J_iload_n X dX8_mustFor_26 3 rfl ?_
      obtain ⟨hk4, hT⟩ := ckn_e hT
      refine J_iald X 2 rfl rfl hk4 dX8_mustFor_27 ?_
      obtain ⟨v5, hq5, hT⟩ := bd1_e hT
      refine J_ci (wc := (w_J6_bitCount_0f7a4 cI cJ cZ )) (wc' := (w_J6_bitCount_0f7a4 cI cJ cZ )) (ws' := (w_X8_mustFor cI cJ cZ h_this q_this this_acts this_actMatch this_actPlayers)) [] [0, 1, 2] 3 rfl rfl rfl rfl rfl rfl rfl rfl (run_S (As := [.int (this_actPlayers x3.toNatClampNeg)]) (rest := []) X (c_J6_bitCount_0f7a4 l D cI cJ cZ  (this_actPlayers x3.toNatClampNeg) v5 hq5) (cw_X8_mustFor_J6_bitCount_0f7a4_46 X.1.2.2.2.2) rfl rfl (Nat.le_of_ble_eq_true rfl) dX8_mustFor_28 ⟨Nat.zero_le _, Nat.zero_le _⟩) ?_
      refine J_iconst (v := 1) X dX8_mustFor_31 (by decide) ?_
      refine J_icmp_ne (tgt := 44) X dX8_mustFor_32 (by decide) (fun hc6 => ?_) (fun hc6 => ?_)
      · have hT := iff_ hT hc6
        exact b_X8_mustFor_44 X cI cJ cZ h_this q_this  r k_4 hk_4 this_acts this_actMatch this_actPlayers x1 x2 x3 hT
      · have hT := ift hT hc6
        refine J_iload_n X dX8_mustFor_35 2 rfl ?_
        refine J_aload_n X dX8_mustFor_36 0 rfl ?_
        refine J_get (C := RX8) (T := TX8) (N := 7) (ci := 8) (v := .ref (q_this 5)) X in_X8_mustFor_X8 0 rfl rfl 5 (by decide) m_X8_mustFor_f24 rfl dX8_mustFor_37 ?_
        refine J_iload_n X dX8_mustFor_40 3 rfl ?_
        obtain ⟨hk7, hT⟩ := ckn_e hT
        refine J_iald X 2 rfl rfl hk7 dX8_mustFor_41 ?_
        refine J_ior X dX8_mustFor_42 ?_
        refine J_istore_n (lv' := [(2, .int (x2 ||| (this_actPlayers x3.toNatClampNeg))), (0, .ref h_this), (1, .int x1), (3, .int x3)]) X dX8_mustFor_43 (by decide) rfl ?_
        refine J_lv (lv' := [(0, .ref h_this), (1, .int x1), (2, .int (x2 ||| (this_actPlayers x3.toNatClampNeg))), (3, .int x3)]) [1, 2, 0, 3] rfl ?_
        exact b_X8_mustFor_44 X cI cJ cZ h_this q_this  r k_4 hk_4 this_acts this_actMatch this_actPlayers x1 (x2 ||| (this_actPlayers x3.toNatClampNeg)) x3 hT
set_option maxHeartbeats 4000000 in
set_option maxRecDepth 100000 in
theorem b_X8_mustFor_4 {p : Program} {l : Launch} {e : Env} {s : State} {m : MethodId} {args : Array Value} {below : List Frame} {meth : Method} {c : Code} {D : va_G} {A : Nat → Prop} {cI cJ cZ : ClassId} (X : Cx p m c cX8_mustFor 4 s args wsX8_mustFor RX8 D (tys3 cI cJ cZ) meth (some .int)) (_ _ _ : ClassId)  (h_this : Nat) (q_this : Nat → Nat)  (r : Int32)  : ∀ (n : Nat) (this_acts : Int32) (this_actMatch : Nat → Int32) (this_actPlayers : Nat → Int32) (x1 : Int32) (x2 : Int32) (x3 : Int32) (hT : t_X8_mustFor_4   n this_acts this_actMatch this_actPlayers x1 x2 x3 = some r), J p l e rmX8_mustFor s m args below meth c D A 4 (QI D below args s A r (w_X8_mustFor cI cJ cZ h_this q_this this_acts this_actMatch this_actPlayers)) 0 0 (w_X8_mustFor cI cJ cZ h_this q_this this_acts this_actMatch this_actPlayers) [(0, .ref h_this), (1, .int x1), (2, .int x2), (3, .int x3)] [] 4 := by
  intro n
  induction n with
  | zero => intro this_acts this_actMatch this_actPlayers x1 x2 x3 hT; cases hT
  | succ n ih =>
    intro this_acts this_actMatch this_actPlayers x1 x2 x3 hT
    exact b_X8_mustFor_4_b X cI cJ cZ h_this q_this  r  (t_X8_mustFor_4   n) ih this_acts this_actMatch this_actPlayers x1 x2 x3 hT
set_option maxHeartbeats 4000000 in
set_option maxRecDepth 100000 in
theorem c_X8_mustFor (l : Launch) (D : va_G) (cI cJ cZ : ClassId) (h_this : Nat) (q_this : Nat → Nat) (this_acts : Int32) (this_actMatch : Nat → Int32) (this_actPlayers : Nat → Int32) (x1 : Int32) (r : Int32) (hT : t_X8_mustFor  this_acts this_actMatch this_actPlayers x1 = some r) : Ci l yX8_mustFor wsX8_mustFor rmX8_mustFor D (tys3 cI cJ cZ) [.ref h_this, .int x1] (w_X8_mustFor cI cJ cZ h_this q_this this_acts this_actMatch this_actPlayers) r (w_X8_mustFor cI cJ cZ h_this q_this this_acts this_actMatch this_actPlayers) := by
  refine Ci.ofJ (cc := cX8_mustFor) (nL := 4) (rt := (some .int)) (own := RX8) (by decide) rfl rfl (Nat.le_of_ble_eq_true rfl) ?_
  intro p e s m below meth c A X
  unfold t_X8_mustFor at hT
  refine J_lv (lv' := [(0, .ref h_this), (1, .int x1)]) [0, 1] rfl ?_
  refine J_iconst (v := 0) X dX8_mustFor_0 (by decide) ?_
  refine J_istore_n (lv' := [(2, .int (0 : Int32)), (0, .ref h_this), (1, .int x1)]) X dX8_mustFor_1 (by decide) rfl ?_
  refine J_iconst (v := 0) X dX8_mustFor_2 (by decide) ?_
  refine J_istore_n (lv' := [(3, .int (0 : Int32)), (2, .int (0 : Int32)), (0, .ref h_this), (1, .int x1)]) X dX8_mustFor_3 (by decide) rfl ?_
  refine J_lv (lv' := [(0, .ref h_this), (1, .int x1), (2, .int (0 : Int32)), (3, .int (0 : Int32))]) [2, 3, 1, 0] rfl ?_
  exact b_X8_mustFor_4 X cI cJ cZ h_this q_this  r  lfuel this_acts this_actMatch this_actPlayers x1 (0 : Int32) (0 : Int32) hT
-- ===== SoldMatches$Tales.clash(II)Z
abbrev rmX9_clash : Room := { frames := 0, cells := 0, slots := 0, locals := 0 }
def w_X9_clash (cI cJ cZ : ClassId) (h_this : Nat) (q_this : Nat → Nat) (this_count : Int32) (this_fewest : Int32) (this_sure : Int32) (this_from : Nat → Int32) (this_person : Nat → Int32) (this_place : Nat → Int32) (this_to : Nat → Int32) : va_W := [(h_this, .inr (9, oFX9 q_this this_count this_fewest this_sure)), ((q_this 3), .inl (cI, 10, .inl this_from)), ((q_this 1), .inl (cI, 10, .inl this_person)), ((q_this 2), .inl (cI, 10, .inl this_place)), ((q_this 4), .inl (cI, 10, .inl this_to))]
theorem m_X9_clash_f9 : Cond.fieldLink RX9 9 "SoldMatches$Tales" "person" "[I" ∈ wsX9_clash := List.mem_of_getElem? (i := 1) rfl
theorem in_X9_clash_X9 : ∀ w ∈ wsX90, w ∈ wsX9_clash := fun w h => List.mem_cons_of_mem _ (List.mem_append_right _ h)
theorem m_X9_clash_f15 : Cond.fieldLink RX9 15 "SoldMatches$Tales" "place" "[I" ∈ wsX9_clash := List.mem_of_getElem? (i := 2) rfl
theorem m_X9_clash_f18 : Cond.fieldLink RX9 18 "SoldMatches$Tales" "from" "[I" ∈ wsX9_clash := List.mem_of_getElem? (i := 3) rfl
theorem m_X9_clash_f21 : Cond.fieldLink RX9 21 "SoldMatches$Tales" "to" "[I" ∈ wsX9_clash := List.mem_of_getElem? (i := 4) rfl
def t_X9_clash_65   (this_from : Nat → Int32) (this_person : Nat → Int32) (this_place : Nat → Int32) (this_to : Nat → Int32) (s0 : Int32) : Option (Int32) := ckn (¬ (s0 = 0 ∨ s0 = 1)) (some (s0))
def t_X9_clash  (this_from : Nat → Int32) (this_person : Nat → Int32) (this_place : Nat → Int32) (this_to : Nat → Int32) (x1 : Int32) (x2 : Int32) : Option (Int32) := ckn (x1 < 0 ∨ 10 ≤ x1.toNatClampNeg) (ckn (x2 < 0 ∨ 10 ≤ x2.toNatClampNeg) (if (this_person x1.toNatClampNeg) = (this_person x2.toNatClampNeg) then (ckn (x1 < 0 ∨ 10 ≤ x1.toNatClampNeg) (ckn (x2 < 0 ∨ 10 ≤ x2.toNatClampNeg) (if (this_place x1.toNatClampNeg) = (this_place x2.toNatClampNeg) then (t_X9_clash_65   this_from this_person this_place this_to (0 : Int32)) else (ckn (x1 < 0 ∨ 10 ≤ x1.toNatClampNeg) (ckn (x2 < 0 ∨ 10 ≤ x2.toNatClampNeg) (if (this_to x2.toNatClampNeg) < (this_from x1.toNatClampNeg) then (t_X9_clash_65   this_from this_person this_place this_to (0 : Int32)) else (ckn (x2 < 0 ∨ 10 ≤ x2.toNatClampNeg) (ckn (x1 < 0 ∨ 10 ≤ x1.toNatClampNeg) (if (this_to x1.toNatClampNeg) < (this_from x2.toNatClampNeg) then (t_X9_clash_65   this_from this_person this_place this_to (0 : Int32)) else (t_X9_clash_65   this_from this_person this_place this_to (1 : Int32))))))))))) else (t_X9_clash_65   this_from this_person this_place this_to (0 : Int32))))
set_option maxHeartbeats 4000000 in
set_option maxRecDepth 100000 in
theorem b_X9_clash_65 {p : Program} {l : Launch} {e : Env} {s : State} {m : MethodId} {args : Array Value} {below : List Frame} {meth : Method} {c : Code} {D : va_G} {A : Nat → Prop} {cI cJ cZ : ClassId} (X : Cx p m c cX9_clash 3 s args wsX9_clash RX9 D (tys3 cI cJ cZ) meth (some .boolean)) (_ _ _ : ClassId)  (h_this : Nat) (q_this : Nat → Nat) (this_count : Int32) (this_fewest : Int32) (this_sure : Int32) (r : Int32)  (this_from : Nat → Int32) (this_person : Nat → Int32) (this_place : Nat → Int32) (this_to : Nat → Int32) (s0 : Int32) (hT : t_X9_clash_65   this_from this_person this_place this_to s0 = some r) : J p l e rmX9_clash s m args below meth c D A 3 (QI D below args s A r (w_X9_clash cI cJ cZ h_this q_this this_count this_fewest this_sure this_from this_person this_place this_to)) 0 0 (w_X9_clash cI cJ cZ h_this q_this this_count this_fewest this_sure this_from this_person this_place this_to) [(0, .ref h_this)] [.int s0] 65 := by
  unfold t_X9_clash_65 at hT
  obtain ⟨hk1, hT⟩ := ckn_e hT
  cases hT
  exact J_zret X (Decidable.not_not.mp hk1) dX9_clash_65
set_option maxHeartbeats 4000000 in
set_option maxRecDepth 100000 in
theorem c_X9_clash (l : Launch) (D : va_G) (cI cJ cZ : ClassId) (h_this : Nat) (q_this : Nat → Nat) (this_count : Int32) (this_fewest : Int32) (this_sure : Int32) (this_from : Nat → Int32) (this_person : Nat → Int32) (this_place : Nat → Int32) (this_to : Nat → Int32) (x1 : Int32) (x2 : Int32) (r : Int32) (hT : t_X9_clash  this_from this_person this_place this_to x1 x2 = some r) : Ci l yX9_clash wsX9_clash rmX9_clash D (tys3 cI cJ cZ) [.ref h_this, .int x1, .int x2] (w_X9_clash cI cJ cZ h_this q_this this_count this_fewest this_sure this_from this_person this_place this_to) r (w_X9_clash cI cJ cZ h_this q_this this_count this_fewest this_sure this_from this_person this_place this_to) := by
  refine Ci.ofJ (cc := cX9_clash) (nL := 3) (rt := (some .boolean)) (own := RX9) (by decide) rfl rfl (Nat.le_of_ble_eq_true rfl) ?_
  intro p e s m below meth c A X
  unfold t_X9_clash at hT
  refine J_lv (lv' := [(0, .ref h_this), (1, .int x1), (2, .int x2)]) [0, 1, 2] rfl ?_
  refine J_aload_n X dX9_clash_0 0 rfl ?_
  refine J_get (C := RX9) (T := TX9) (N := 8) (ci := 9) (v := .ref (q_this 1)) X in_X9_clash_X9 0 rfl rfl 1 (by decide) m_X9_clash_f9 rfl dX9_clash_1 ?_
  refine J_iload_n X dX9_clash_4 1 rfl ?_
  obtain ⟨hk2, hT⟩ := ckn_e hT
  refine J_iald X 2 rfl rfl hk2 dX9_clash_5 ?_
  refine J_aload_n X dX9_clash_6 0 rfl ?_
  refine J_get (C := RX9) (T := TX9) (N := 8) (ci := 9) (v := .ref (q_this 1)) X in_X9_clash_X9 0 rfl rfl 1 (by decide) m_X9_clash_f9 rfl dX9_clash_7 ?_
  refine J_iload_n X dX9_clash_10 2 rfl ?_
  obtain ⟨hk3, hT⟩ := ckn_e hT
  refine J_iald X 2 rfl rfl hk3 dX9_clash_11 ?_
  refine J_icmp_ne (tgt := 64) X dX9_clash_12 (by decide) (fun hc4 => ?_) (fun hc4 => ?_)
  · have hT := iff_ hT hc4
    refine J_iconst (v := 0) X dX9_clash_64 (by decide) ?_
    refine J_lv (lv' := [(0, .ref h_this)]) [0] rfl ?_
    exact b_X9_clash_65 X cI cJ cZ h_this q_this this_count this_fewest this_sure r  this_from this_person this_place this_to (0 : Int32) hT
  · have hT := ift hT hc4
    refine J_aload_n X dX9_clash_15 0 rfl ?_
    refine J_get (C := RX9) (T := TX9) (N := 8) (ci := 9) (v := .ref (q_this 2)) X in_X9_clash_X9 0 rfl rfl 2 (by decide) m_X9_clash_f15 rfl dX9_clash_16 ?_
    refine J_iload_n X dX9_clash_19 1 rfl ?_
    obtain ⟨hk5, hT⟩ := ckn_e hT
    refine J_iald X 3 rfl rfl hk5 dX9_clash_20 ?_
    refine J_aload_n X dX9_clash_21 0 rfl ?_
    refine J_get (C := RX9) (T := TX9) (N := 8) (ci := 9) (v := .ref (q_this 2)) X in_X9_clash_X9 0 rfl rfl 2 (by decide) m_X9_clash_f15 rfl dX9_clash_22 ?_
    refine J_iload_n X dX9_clash_25 2 rfl ?_
    obtain ⟨hk6, hT⟩ := ckn_e hT
    refine J_iald X 3 rfl rfl hk6 dX9_clash_26 ?_
    refine J_icmp_eq (tgt := 64) X dX9_clash_27 (by decide) (fun hc7 => ?_) (fun hc7 => ?_)
    · have hT := ift hT hc7
      refine J_iconst (v := 0) X dX9_clash_64 (by decide) ?_
      refine J_lv (lv' := [(0, .ref h_this)]) [0] rfl ?_
      exact b_X9_clash_65 X cI cJ cZ h_this q_this this_count this_fewest this_sure r  this_from this_person this_place this_to (0 : Int32) hT
    · have hT := iff_ hT hc7
      refine J_aload_n X dX9_clash_30 0 rfl ?_
      refine J_get (C := RX9) (T := TX9) (N := 8) (ci := 9) (v := .ref (q_this 3)) X in_X9_clash_X9 0 rfl rfl 3 (by decide) m_X9_clash_f18 rfl dX9_clash_31 ?_
      refine J_iload_n X dX9_clash_34 1 rfl ?_
      obtain ⟨hk8, hT⟩ := ckn_e hT
      refine J_iald X 1 rfl rfl hk8 dX9_clash_35 ?_
      refine J_aload_n X dX9_clash_36 0 rfl ?_
      refine J_get (C := RX9) (T := TX9) (N := 8) (ci := 9) (v := .ref (q_this 4)) X in_X9_clash_X9 0 rfl rfl 4 (by decide) m_X9_clash_f21 rfl dX9_clash_37 ?_
      refine J_iload_n X dX9_clash_40 2 rfl ?_
      obtain ⟨hk9, hT⟩ := ckn_e hT
      refine J_iald X 4 rfl rfl hk9 dX9_clash_41 ?_
      refine J_icmp_gt (tgt := 64) X dX9_clash_42 (by decide) (fun hc10 => ?_) (fun hc10 => ?_)
      · have hT := ift hT hc10
        refine J_iconst (v := 0) X dX9_clash_64 (by decide) ?_
        refine J_lv (lv' := [(0, .ref h_this)]) [0] rfl ?_
        exact b_X9_clash_65 X cI cJ cZ h_this q_this this_count this_fewest this_sure r  this_from this_person this_place this_to (0 : Int32) hT
      · have hT := iff_ hT hc10
        refine J_aload_n X dX9_clash_45 0 rfl ?_
        refine J_get (C := RX9) (T := TX9) (N := 8) (ci := 9) (v := .ref (q_this 3)) X in_X9_clash_X9 0 rfl rfl 3 (by decide) m_X9_clash_f18 rfl dX9_clash_46 ?_
        refine J_iload_n X dX9_clash_49 2 rfl ?_
        obtain ⟨hk11, hT⟩ := ckn_e hT
        refine J_iald X 1 rfl rfl hk11 dX9_clash_50 ?_
        refine J_aload_n X dX9_clash_51 0 rfl ?_
        refine J_get (C := RX9) (T := TX9) (N := 8) (ci := 9) (v := .ref (q_this 4)) X in_X9_clash_X9 0 rfl rfl 4 (by decide) m_X9_clash_f21 rfl dX9_clash_52 ?_
        refine J_iload_n X dX9_clash_55 1 rfl ?_
        obtain ⟨hk12, hT⟩ := ckn_e hT
        refine J_iald X 4 rfl rfl hk12 dX9_clash_56 ?_
        refine J_icmp_gt (tgt := 64) X dX9_clash_57 (by decide) (fun hc13 => ?_) (fun hc13 => ?_)
        · have hT := ift hT hc13
          refine J_iconst (v := 0) X dX9_clash_64 (by decide) ?_
          refine J_lv (lv' := [(0, .ref h_this)]) [0] rfl ?_
          exact b_X9_clash_65 X cI cJ cZ h_this q_this this_count this_fewest this_sure r  this_from this_person this_place this_to (0 : Int32) hT
        · have hT := iff_ hT hc13
          refine J_iconst (v := 1) X dX9_clash_60 (by decide) ?_
          refine J_goto (tgt := 65) X dX9_clash_61 (by decide) ?_
          refine J_lv (lv' := [(0, .ref h_this)]) [0] rfl ?_
          exact b_X9_clash_65 X cI cJ cZ h_this q_this this_count this_fewest this_sure r  this_from this_person this_place this_to (1 : Int32) hT
-- ===== SoldMatches$Tales.add(IIII)I
abbrev rmX9_add : Room := { frames := 1, cells := 0, slots := 0, locals := 22 }
def w_X9_add (cI cJ cZ : ClassId) (h_this : Nat) (q_this : Nat → Nat) (this_count : Int32) (this_fewest : Int32) (this_sure : Int32) (this_against : Nat → Int32) (this_from : Nat → Int32) (this_person : Nat → Int32) (this_place : Nat → Int32) (this_to : Nat → Int32) : va_W := [(h_this, .inr (9, oFX9 q_this this_count this_fewest this_sure)), ((q_this 5), .inl (cI, 10, .inl this_against)), ((q_this 3), .inl (cI, 10, .inl this_from)), ((q_this 1), .inl (cI, 10, .inl this_person)), ((q_this 2), .inl (cI, 10, .inl this_place)), ((q_this 4), .inl (cI, 10, .inl this_to))]
theorem m_X9_add_f27 : Cond.fieldLink RX9 27 "SoldMatches$Tales" "count" "I" ∈ wsX9_add := List.mem_of_getElem? (i := 2) rfl
theorem in_X9_add_X9 : ∀ w ∈ wsX90, w ∈ wsX9_add := fun w h => List.mem_cons_of_mem _ (List.mem_append_right _ h)
theorem cw_X9_add_X9_clash_31 {s : State} {args : Array Value} (hts : ∀ w ∈ wsX9_add, w.before args s = true) : CallW rmX9_add s args RX9 RX9 31 yX9_clash cX9_clash 3 (some .boolean) wsX9_clash rmX9_clash 0 0 2 := cwV 2 hts gX9_add_X9_clash rfl rfl rfl (by decide +kernel) ⟨by decide, by decide⟩
theorem m_X9_add_f24 : Cond.fieldLink RX9 24 "SoldMatches$Tales" "against" "[I" ∈ wsX9_add := List.mem_of_getElem? (i := 6) rfl
theorem m_X9_add_f9 : Cond.fieldLink RX9 9 "SoldMatches$Tales" "person" "[I" ∈ wsX9_add := List.mem_of_getElem? (i := 1) rfl
theorem m_X9_add_f15 : Cond.fieldLink RX9 15 "SoldMatches$Tales" "place" "[I" ∈ wsX9_add := List.mem_of_getElem? (i := 3) rfl
theorem m_X9_add_f18 : Cond.fieldLink RX9 18 "SoldMatches$Tales" "from" "[I" ∈ wsX9_add := List.mem_of_getElem? (i := 4) rfl
theorem m_X9_add_f21 : Cond.fieldLink RX9 21 "SoldMatches$Tales" "to" "[I" ∈ wsX9_add := List.mem_of_getElem? (i := 5) rfl
def t_X9_add_114   (this_count : Int32) (this_against : Nat → Int32) (this_from : Nat → Int32) (this_person : Nat → Int32) (this_place : Nat → Int32) (this_to : Nat → Int32)  : Option (Int32 × Int32 × (Nat → Int32) × (Nat → Int32) × (Nat → Int32) × (Nat → Int32) × (Nat → Int32)) := some ((this_count + (1 : Int32)) - (1 : Int32), this_count + (1 : Int32), this_against, this_from, this_person, this_place, this_to)
def t_X9_add_108  (k_54 : Int32 → (Nat → Int32) → (Nat → Int32) → (Nat → Int32) → (Nat → Int32) → (Nat → Int32) → Int32 → (Option (Int32 × Int32 × (Nat → Int32) × (Nat → Int32) × (Nat → Int32) × (Nat → Int32) × (Nat → Int32)))) (this_count : Int32) (this_against : Nat → Int32) (this_from : Nat → Int32) (this_person : Nat → Int32) (this_place : Nat → Int32) (this_to : Nat → Int32) (x5 : Int32) : Option (Int32 × Int32 × (Nat → Int32) × (Nat → Int32) × (Nat → Int32) × (Nat → Int32) × (Nat → Int32)) := k_54 this_count this_against this_from this_person this_place this_to (x5 + (1 : Int32))
def t_X9_add_54_b  (k_54 : Int32 → (Nat → Int32) → (Nat → Int32) → (Nat → Int32) → (Nat → Int32) → (Nat → Int32) → Int32 → (Option (Int32 × Int32 × (Nat → Int32) × (Nat → Int32) × (Nat → Int32) × (Nat → Int32) × (Nat → Int32)))) (this_count : Int32) (this_against : Nat → Int32) (this_from : Nat → Int32) (this_person : Nat → Int32) (this_place : Nat → Int32) (this_to : Nat → Int32) (x5 : Int32) : Option (Int32 × Int32 × (Nat → Int32) × (Nat → Int32) × (Nat → Int32) × (Nat → Int32) × (Nat → Int32)) := if this_count ≤ x5 then (t_X9_add_114   this_count this_against this_from this_person this_place this_to) else (bd1 (t_X9_clash this_from this_person this_place this_to x5 this_count) (fun v2 => if v2 = 0 then (t_X9_add_108  k_54 this_count this_against this_from this_person this_place this_to x5) else (ckn (x5 < 0 ∨ 10 ≤ x5.toNatClampNeg) (ckn (x5 < 0 ∨ 10 ≤ x5.toNatClampNeg) (ckn (this_count < 0 ∨ 10 ≤ this_count.toNatClampNeg) (ckn (this_count < 0 ∨ 10 ≤ this_count.toNatClampNeg) (t_X9_add_108  k_54 this_count (upd (upd this_against x5.toNatClampNeg ((this_against x5.toNatClampNeg) ||| ((1 : Int32) <<< (this_count &&& 31)))) this_count.toNatClampNeg (((upd this_against x5.toNatClampNeg ((this_against x5.toNatClampNeg) ||| ((1 : Int32) <<< (this_count &&& 31)))) this_count.toNatClampNeg) ||| ((1 : Int32) <<< (x5 &&& 31)))) this_from this_person this_place this_to x5)))))))
def t_X9_add_54   (n : Nat) : Int32 → (Nat → Int32) → (Nat → Int32) → (Nat → Int32) → (Nat → Int32) → (Nat → Int32) → Int32 → (Option (Int32 × Int32 × (Nat → Int32) × (Nat → Int32) × (Nat → Int32) × (Nat → Int32) × (Nat → Int32))) := Nat.rec (fun _ _ _ _ _ _ _ => none) (fun _ ih => t_X9_add_54_b   ih) n
def t_X9_add  (this_count : Int32) (this_against : Nat → Int32) (this_from : Nat → Int32) (this_person : Nat → Int32) (this_place : Nat → Int32) (this_to : Nat → Int32) (x1 : Int32) (x2 : Int32) (x3 : Int32) (x4 : Int32) : Option (Int32 × Int32 × (Nat → Int32) × (Nat → Int32) × (Nat → Int32) × (Nat → Int32) × (Nat → Int32)) := ckn (this_count < 0 ∨ 10 ≤ this_count.toNatClampNeg) (ckn (this_count < 0 ∨ 10 ≤ this_count.toNatClampNeg) (ckn (this_count < 0 ∨ 10 ≤ this_count.toNatClampNeg) (ckn (this_count < 0 ∨ 10 ≤ this_count.toNatClampNeg) (ckn (this_count < 0 ∨ 10 ≤ this_count.toNatClampNeg) (t_X9_add_54   lfuel this_count (upd this_against this_count.toNatClampNeg (0 : Int32)) (upd this_from this_count.toNatClampNeg x3) (upd this_person this_count.toNatClampNeg x1) (upd this_place this_count.toNatClampNeg x2) (upd this_to this_count.toNatClampNeg x4) (0 : Int32))))))
set_option maxHeartbeats 4000000 in
set_option maxRecDepth 100000 in
theorem b_X9_add_114 {p : Program} {l : Launch} {e : Env} {s : State} {m : MethodId} {args : Array Value} {below : List Frame} {meth : Method} {c : Code} {D : va_G} {A : Nat → Prop} {cI cJ cZ : ClassId} (X : Cx p m c cX9_add 6 s args wsX9_add RX9 D (tys3 cI cJ cZ) meth (some .int)) (_ _ _ : ClassId)  (h_this : Nat) (q_this : Nat → Nat) (this_fewest : Int32) (this_sure : Int32) (r : Int32) (z0 : Int32) (z1 : Nat → Int32) (z2 : Nat → Int32) (z3 : Nat → Int32) (z4 : Nat → Int32) (z5 : Nat → Int32)  (this_count : Int32) (this_against : Nat → Int32) (this_from : Nat → Int32) (this_person : Nat → Int32) (this_place : Nat → Int32) (this_to : Nat → Int32)  (hT : t_X9_add_114   this_count this_against this_from this_person this_place this_to  = some (r, z0, z1, z2, z3, z4, z5)) : J p l e rmX9_add s m args below meth c D A 6 (QI D below args s A r (w_X9_add cI cJ cZ h_this q_this z0 this_fewest this_sure z1 z2 z3 z4 z5)) 0 0 (w_X9_add cI cJ cZ h_this q_this this_count this_fewest this_sure this_against this_from this_person this_place this_to) [(0, .ref h_this)] [] 114 := by
  unfold t_X9_add_114 at hT
  refine J_aload_n X dX9_add_114 0 rfl ?_
  refine J_dup X dX9_add_115 rfl ?_
  refine J_get (C := RX9) (T := TX9) (N := 8) (ci := 9) (v := .int this_count) X in_X9_add_X9 0 rfl rfl 0 (by decide) m_X9_add_f27 rfl dX9_add_116 ?_
  refine J_iconst (v := 1) X dX9_add_119 (by decide) ?_
  refine J_iadd X dX9_add_120 ?_
  refine J_put (host := "") (C := RX9) (T := TX9) (N := 8) (ci := 9) (ws' := (w_X9_add cI cJ cZ h_this q_this (this_count + (1 : Int32)) this_fewest this_sure this_against this_from this_person this_place this_to)) X in_X9_add_X9 0 rfl rfl 0 (by decide) tyX9 tyX9_ok nmX9 m_X9_add_f27 rfl rfl rfl (Nat.le_of_ble_eq_true rfl) rfl dX9_add_121 ?_
  refine J_aload_n X dX9_add_124 0 rfl ?_
  refine J_get (C := RX9) (T := TX9) (N := 8) (ci := 9) (v := .int (this_count + (1 : Int32))) X in_X9_add_X9 0 rfl rfl 0 (by decide) m_X9_add_f27 rfl dX9_add_125 ?_
  refine J_iconst (v := 1) X dX9_add_128 (by decide) ?_
  refine J_isub X dX9_add_129 ?_
  cases hT
  exact J_iret X dX9_add_130
set_option maxHeartbeats 4000000 in
set_option maxRecDepth 100000 in
theorem b_X9_add_108 {p : Program} {l : Launch} {e : Env} {s : State} {m : MethodId} {args : Array Value} {below : List Frame} {meth : Method} {c : Code} {D : va_G} {A : Nat → Prop} {cI cJ cZ : ClassId} (X : Cx p m c cX9_add 6 s args wsX9_add RX9 D (tys3 cI cJ cZ) meth (some .int)) (_ _ _ : ClassId)  (h_this : Nat) (q_this : Nat → Nat) (this_fewest : Int32) (this_sure : Int32) (r : Int32) (z0 : Int32) (z1 : Nat → Int32) (z2 : Nat → Int32) (z3 : Nat → Int32) (z4 : Nat → Int32) (z5 : Nat → Int32) (k_54 : Int32 → (Nat → Int32) → (Nat → Int32) → (Nat → Int32) → (Nat → Int32) → (Nat → Int32) → Int32 → (Option (Int32 × Int32 × (Nat → Int32) × (Nat → Int32) × (Nat → Int32) × (Nat → Int32) × (Nat → Int32)))) (hk_54 : ∀ (this_count : Int32) (this_against : Nat → Int32) (this_from : Nat → Int32) (this_person : Nat → Int32) (this_place : Nat → Int32) (this_to : Nat → Int32) (x5 : Int32), k_54 this_count this_against this_from this_person this_place this_to x5 = some (r, z0, z1, z2, z3, z4, z5) → J p l e rmX9_add s m args below meth c D A 6 (QI D below args s A r (w_X9_add cI cJ cZ h_this q_this z0 this_fewest this_sure z1 z2 z3 z4 z5)) 0 0 (w_X9_add cI cJ cZ h_this q_this this_count this_fewest this_sure this_against this_from this_person this_place this_to) [(0, .ref h_this), (5, .int x5)] [] 54) (this_count : Int32) (this_against : Nat → Int32) (this_from : Nat → Int32) (this_person : Nat → Int32) (this_place : Nat → Int32) (this_to : Nat → Int32) (x5 : Int32) (hT : t_X9_add_108  k_54 this_count this_against this_from this_person this_place this_to x5 = some (r, z0, z1, z2, z3, z4, z5)) : J p l e rmX9_add s m args below meth c D A 6 (QI D below args s A r (w_X9_add cI cJ cZ h_this q_this z0 this_fewest this_sure z1 z2 z3 z4 z5)) 0 0 (w_X9_add cI cJ cZ h_this q_this this_count this_fewest this_sure this_against this_from this_person this_place this_to) [(0, .ref h_this), (5, .int x5)] [] 108 := by
  unfold t_X9_add_108 at hT
  refine J_iinc (lv' := [(5, .int (x5 + (1 : Int32))), (0, .ref h_this)]) (j := 1) X dX9_add_108 rfl rfl (by decide) rfl ?_
  refine J_goto (tgt := 54) X dX9_add_111 (by decide) ?_
  refine J_lv (lv' := [(0, .ref h_this), (5, .int (x5 + (1 : Int32)))]) [1, 0] rfl ?_
  exact hk_54 this_count this_against this_from this_person this_place this_to (x5 + (1 : Int32)) hT
set_option maxHeartbeats 4000000 in
set_option maxRecDepth 100000 in
theorem b_X9_add_54_b {p : Program} {l : Launch} {e : Env} {s : State} {m : MethodId} {args : Array Value} {below : List Frame} {meth : Method} {c : Code} {D : va_G} {A : Nat → Prop} {cI cJ cZ : ClassId} (X : Cx p m c cX9_add 6 s args wsX9_add RX9 D (tys3 cI cJ cZ) meth (some .int)) (_ _ _ : ClassId)  (h_this : Nat) (q_this : Nat → Nat) (this_fewest : Int32) (this_sure : Int32) (r : Int32) (z0 : Int32) (z1 : Nat → Int32) (z2 : Nat → Int32) (z3 : Nat → Int32) (z4 : Nat → Int32) (z5 : Nat → Int32) (k_54 : Int32 → (Nat → Int32) → (Nat → Int32) → (Nat → Int32) → (Nat → Int32) → (Nat → Int32) → Int32 → (Option (Int32 × Int32 × (Nat → Int32) × (Nat → Int32) × (Nat → Int32) × (Nat → Int32) × (Nat → Int32)))) (hk_54 : ∀ (this_count : Int32) (this_against : Nat → Int32) (this_from : Nat → Int32) (this_person : Nat → Int32) (this_place : Nat → Int32) (this_to : Nat → Int32) (x5 : Int32), k_54 this_count this_against this_from this_person this_place this_to x5 = some (r, z0, z1, z2, z3, z4, z5) → J p l e rmX9_add s m args below meth c D A 6 (QI D below args s A r (w_X9_add cI cJ cZ h_this q_this z0 this_fewest this_sure z1 z2 z3 z4 z5)) 0 0 (w_X9_add cI cJ cZ h_this q_this this_count this_fewest this_sure this_against this_from this_person this_place this_to) [(0, .ref h_this), (5, .int x5)] [] 54) (this_count : Int32) (this_against : Nat → Int32) (this_from : Nat → Int32) (this_person : Nat → Int32) (this_place : Nat → Int32) (this_to : Nat → Int32) (x5 : Int32) (hT : t_X9_add_54_b  k_54 this_count this_against this_from this_person this_place this_to x5 = some (r, z0, z1, z2, z3, z4, z5)) : J p l e rmX9_add s m args below meth c D A 6 (QI D below args s A r (w_X9_add cI cJ cZ h_this q_this z0 this_fewest this_sure z1 z2 z3 z4 z5)) 0 0 (w_X9_add cI cJ cZ h_this q_this this_count this_fewest this_sure this_against this_from this_person this_place this_to) [(0, .ref h_this), (5, .int x5)] [] 54 := by
  unfold t_X9_add_54_b at hT
  refine J_iload X dX9_add_54 1 rfl ?_
  refine J_aload_n X dX9_add_56 0 rfl ?_
  refine J_get (C := RX9) (T := TX9) (N := 8) (ci := 9) (v := .int this_count) X in_X9_add_X9 0 rfl rfl 0 (by decide) m_X9_add_f27 rfl dX9_add_57 ?_
  refine J_icmp_ge (tgt := 114) X dX9_add_60 (by decide) (fun hc1 => ?_) (fun hc1 => ?_)
  · have hT := ift hT hc1
    refine J_lv (lv' := [(0, .ref h_this)]) [0] rfl ?_
    exact b_X9_add_114 X cI cJ cZ h_this q_this this_fewest this_sure r z0 z1 z2 z3 z4 z5  this_count this_against this_from this_person this_place this_to hT
  · have hT := iff_ hT hc1
    refine J_aload_n X dX9_add_63 0 rfl ?_
    refine J_iload X dX9_add_64 1 rfl ?_
    refine J_aload_n X dX9_add_66 0 rfl ?_
    refine J_get (C := RX9) (T := TX9) (N := 8) (ci := 9) (v := .int this_count) X in_X9_add_X9 0 rfl rfl 0 (by decide) m_X9_add_f27 rfl dX9_add_67 ?_
    obtain ⟨v2, hq2, hT⟩ := bd1_e hT
    refine J_ci (wc := (w_X9_clash cI cJ cZ h_this q_this this_count this_fewest this_sure this_from this_person this_place this_to)) (wc' := (w_X9_clash cI cJ cZ h_this q_this this_count this_fewest this_sure this_from this_person this_place this_to)) (ws' := (w_X9_add cI cJ cZ h_this q_this this_count this_fewest this_sure this_against this_from this_person this_place this_to)) [0, 2, 3, 4, 5] [1] 6 rfl rfl rfl rfl rfl rfl rfl rfl (run_V (As := [.int x5, .int this_count]) (rest := []) X (c_X9_clash l D cI cJ cZ h_this q_this this_count this_fewest this_sure this_from this_person this_place this_to x5 this_count v2 hq2) (cw_X9_add_X9_clash_31 X.1.2.2.2.2) 0 rfl rfl rfl rfl (Nat.le_of_ble_eq_true rfl) dX9_add_70 ⟨Nat.zero_le _, Nat.zero_le _⟩) ?_
    refine J_if_eq (tgt := 108) X dX9_add_73 (by decide) (fun hc3 => ?_) (fun hc3 => ?_)
    · have hT := ift hT hc3
      exact b_X9_add_108 X cI cJ cZ h_this q_this this_fewest this_sure r z0 z1 z2 z3 z4 z5 k_54 hk_54 this_count this_against this_from this_person this_place this_to x5 hT
    · have hT := iff_ hT hc3
      refine J_aload_n X dX9_add_76 0 rfl ?_
      refine J_get (C := RX9) (T := TX9) (N := 8) (ci := 9) (v := .ref (q_this 5)) X in_X9_add_X9 0 rfl rfl 5 (by decide) m_X9_add_f24 rfl dX9_add_77 ?_
      refine J_iload X dX9_add_80 1 rfl ?_
      refine J_dup2 X dX9_add_82 rfl rfl ?_
      obtain ⟨hk4, hT⟩ := ckn_e hT
      refine J_iald X 1 rfl rfl hk4 dX9_add_83 ?_
      refine J_iconst (v := 1) X dX9_add_84 (by decide) ?_
      refine J_aload_n X dX9_add_85 0 rfl ?_
      refine J_get (C := RX9) (T := TX9) (N := 8) (ci := 9) (v := .int this_count) X in_X9_add_X9 0 rfl rfl 0 (by decide) m_X9_add_f27 rfl dX9_add_86 ?_
      refine J_ishl X dX9_add_89 ?_
      refine J_ior X dX9_add_90 ?_
      obtain ⟨hk5, hT⟩ := ckn_e hT
      refine J_iast (ws' := (w_X9_add cI cJ cZ h_this q_this this_count this_fewest this_sure (upd this_against x5.toNatClampNeg ((this_against x5.toNatClampNeg) ||| ((1 : Int32) <<< (this_count &&& 31)))) this_from this_person this_place this_to)) X 1 rfl rfl hk5 rfl dX9_add_91 ?_
      refine J_aload_n X dX9_add_92 0 rfl ?_
      refine J_get (C := RX9) (T := TX9) (N := 8) (ci := 9) (v := .ref (q_this 5)) X in_X9_add_X9 0 rfl rfl 5 (by decide) m_X9_add_f24 rfl dX9_add_93 ?_
      refine J_aload_n X dX9_add_96 0 rfl ?_
      refine J_get (C := RX9) (T := TX9) (N := 8) (ci := 9) (v := .int this_count) X in_X9_add_X9 0 rfl rfl 0 (by decide) m_X9_add_f27 rfl dX9_add_97 ?_
      refine J_dup2 X dX9_add_100 rfl rfl ?_
      obtain ⟨hk6, hT⟩ := ckn_e hT
      refine J_iald X 1 rfl rfl hk6 dX9_add_101 ?_
      refine J_iconst (v := 1) X dX9_add_102 (by decide) ?_
      refine J_iload X dX9_add_103 1 rfl ?_
      refine J_ishl X dX9_add_105 ?_
      refine J_ior X dX9_add_106 ?_
      obtain ⟨hk7, hT⟩ := ckn_e hT
      refine J_iast (ws' := (w_X9_add cI cJ cZ h_this q_this this_count this_fewest this_sure (upd (upd this_against x5.toNatClampNeg ((this_against x5.toNatClampNeg) ||| ((1 : Int32) <<< (this_count &&& 31)))) this_count.toNatClampNeg (((upd this_against x5.toNatClampNeg ((this_against x5.toNatClampNeg) ||| ((1 : Int32) <<< (this_count &&& 31)))) this_count.toNatClampNeg) ||| ((1 : Int32) <<< (x5 &&& 31)))) this_from this_person this_place this_to)) X 1 rfl rfl hk7 rfl dX9_add_107 ?_
      exact b_X9_add_108 X cI cJ cZ h_this q_this this_fewest this_sure r z0 z1 z2 z3 z4 z5 k_54 hk_54 this_count (upd (upd this_against x5.toNatClampNeg ((this_against x5.toNatClampNeg) ||| ((1 : Int32) <<< (this_count &&& 31)))) this_count.toNatClampNeg (((upd this_against x5.toNatClampNeg ((this_against x5.toNatClampNeg) ||| ((1 : Int32) <<< (this_count &&& 31)))) this_count.toNatClampNeg) ||| ((1 : Int32) <<< (x5 &&& 31)))) this_from this_person this_place this_to x5 hT
set_option maxHeartbeats 4000000 in
set_option maxRecDepth 100000 in
theorem b_X9_add_54 {p : Program} {l : Launch} {e : Env} {s : State} {m : MethodId} {args : Array Value} {below : List Frame} {meth : Method} {c : Code} {D : va_G} {A : Nat → Prop} {cI cJ cZ : ClassId} (X : Cx p m c cX9_add 6 s args wsX9_add RX9 D (tys3 cI cJ cZ) meth (some .int)) (_ _ _ : ClassId)  (h_this : Nat) (q_this : Nat → Nat) (this_fewest : Int32) (this_sure : Int32) (r : Int32) (z0 : Int32) (z1 : Nat → Int32) (z2 : Nat → Int32) (z3 : Nat → Int32) (z4 : Nat → Int32) (z5 : Nat → Int32)  : ∀ (n : Nat) (this_count : Int32) (this_against : Nat → Int32) (this_from : Nat → Int32) (this_person : Nat → Int32) (this_place : Nat → Int32) (this_to : Nat → Int32) (x5 : Int32) (hT : t_X9_add_54   n this_count this_against this_from this_person this_place this_to x5 = some (r, z0, z1, z2, z3, z4, z5)), J p l e rmX9_add s m args below meth c D A 6 (QI D below args s A r (w_X9_add cI cJ cZ h_this q_this z0 this_fewest this_sure z1 z2 z3 z4 z5)) 0 0 (w_X9_add cI cJ cZ h_this q_this this_count this_fewest this_sure this_against this_from this_person this_place this_to) [(0, .ref h_this), (5, .int x5)] [] 54 := by
  intro n
  induction n with
  | zero => intro this_count this_against this_from this_person this_place this_to x5 hT; cases hT
  | succ n ih =>
    intro this_count this_against this_from this_person this_place this_to x5 hT
    exact b_X9_add_54_b X cI cJ cZ h_this q_this this_fewest this_sure r z0 z1 z2 z3 z4 z5  (t_X9_add_54   n) ih this_count this_against this_from this_person this_place this_to x5 hT
set_option maxHeartbeats 4000000 in
set_option maxRecDepth 100000 in
theorem c_X9_add (l : Launch) (D : va_G) (cI cJ cZ : ClassId) (h_this : Nat) (q_this : Nat → Nat) (this_count : Int32) (this_fewest : Int32) (this_sure : Int32) (this_against : Nat → Int32) (this_from : Nat → Int32) (this_person : Nat → Int32) (this_place : Nat → Int32) (this_to : Nat → Int32) (x1 : Int32) (x2 : Int32) (x3 : Int32) (x4 : Int32) (r : Int32) (z0 : Int32) (z1 : Nat → Int32) (z2 : Nat → Int32) (z3 : Nat → Int32) (z4 : Nat → Int32) (z5 : Nat → Int32) (hT : t_X9_add  this_count this_against this_from this_person this_place this_to x1 x2 x3 x4 = some (r, z0, z1, z2, z3, z4, z5)) : Ci l yX9_add wsX9_add rmX9_add D (tys3 cI cJ cZ) [.ref h_this, .int x1, .int x2, .int x3, .int x4] (w_X9_add cI cJ cZ h_this q_this this_count this_fewest this_sure this_against this_from this_person this_place this_to) r (w_X9_add cI cJ cZ h_this q_this z0 this_fewest this_sure z1 z2 z3 z4 z5) := by
  refine Ci.ofJ (cc := cX9_add) (nL := 6) (rt := (some .int)) (own := RX9) (by decide) rfl rfl (Nat.le_of_ble_eq_true rfl) ?_
  intro p e s m below meth c A X
  unfold t_X9_add at hT
  refine J_lv (lv' := [(0, .ref h_this), (1, .int x1), (2, .int x2), (3, .int x3), (4, .int x4)]) [0, 1, 2, 3, 4] rfl ?_
  refine J_aload_n X dX9_add_0 0 rfl ?_
  refine J_get (C := RX9) (T := TX9) (N := 8) (ci := 9) (v := .ref (q_this 1)) X in_X9_add_X9 0 rfl rfl 1 (by decide) m_X9_add_f9 rfl dX9_add_1 ?_
  refine J_aload_n X dX9_add_4 0 rfl ?_
  refine J_get (C := RX9) (T := TX9) (N := 8) (ci := 9) (v := .int this_count) X in_X9_add_X9 0 rfl rfl 0 (by decide) m_X9_add_f27 rfl dX9_add_5 ?_
  refine J_iload_n X dX9_add_8 1 rfl ?_
  obtain ⟨hk8, hT⟩ := ckn_e hT
  refine J_iast (ws' := (w_X9_add cI cJ cZ h_this q_this this_count this_fewest this_sure this_against this_from (upd this_person this_count.toNatClampNeg x1) this_place this_to)) X 3 rfl rfl hk8 rfl dX9_add_9 ?_
  refine J_aload_n X dX9_add_10 0 rfl ?_
  refine J_get (C := RX9) (T := TX9) (N := 8) (ci := 9) (v := .ref (q_this 2)) X in_X9_add_X9 0 rfl rfl 2 (by decide) m_X9_add_f15 rfl dX9_add_11 ?_
  refine J_aload_n X dX9_add_14 0 rfl ?_
  refine J_get (C := RX9) (T := TX9) (N := 8) (ci := 9) (v := .int this_count) X in_X9_add_X9 0 rfl rfl 0 (by decide) m_X9_add_f27 rfl dX9_add_15 ?_
  refine J_iload_n X dX9_add_18 2 rfl ?_
  obtain ⟨hk9, hT⟩ := ckn_e hT
  refine J_iast (ws' := (w_X9_add cI cJ cZ h_this q_this this_count this_fewest this_sure this_against this_from (upd this_person this_count.toNatClampNeg x1) (upd this_place this_count.toNatClampNeg x2) this_to)) X 4 rfl rfl hk9 rfl dX9_add_19 ?_
  refine J_aload_n X dX9_add_20 0 rfl ?_
  refine J_get (C := RX9) (T := TX9) (N := 8) (ci := 9) (v := .ref (q_this 3)) X in_X9_add_X9 0 rfl rfl 3 (by decide) m_X9_add_f18 rfl dX9_add_21 ?_
  refine J_aload_n X dX9_add_24 0 rfl ?_
  refine J_get (C := RX9) (T := TX9) (N := 8) (ci := 9) (v := .int this_count) X in_X9_add_X9 0 rfl rfl 0 (by decide) m_X9_add_f27 rfl dX9_add_25 ?_
  refine J_iload_n X dX9_add_28 3 rfl ?_
  obtain ⟨hk10, hT⟩ := ckn_e hT
  refine J_iast (ws' := (w_X9_add cI cJ cZ h_this q_this this_count this_fewest this_sure this_against (upd this_from this_count.toNatClampNeg x3) (upd this_person this_count.toNatClampNeg x1) (upd this_place this_count.toNatClampNeg x2) this_to)) X 2 rfl rfl hk10 rfl dX9_add_29 ?_
  refine J_aload_n X dX9_add_30 0 rfl ?_
  refine J_get (C := RX9) (T := TX9) (N := 8) (ci := 9) (v := .ref (q_this 4)) X in_X9_add_X9 0 rfl rfl 4 (by decide) m_X9_add_f21 rfl dX9_add_31 ?_
  refine J_aload_n X dX9_add_34 0 rfl ?_
  refine J_get (C := RX9) (T := TX9) (N := 8) (ci := 9) (v := .int this_count) X in_X9_add_X9 0 rfl rfl 0 (by decide) m_X9_add_f27 rfl dX9_add_35 ?_
  refine J_iload X dX9_add_38 4 rfl ?_
  obtain ⟨hk11, hT⟩ := ckn_e hT
  refine J_iast (ws' := (w_X9_add cI cJ cZ h_this q_this this_count this_fewest this_sure this_against (upd this_from this_count.toNatClampNeg x3) (upd this_person this_count.toNatClampNeg x1) (upd this_place this_count.toNatClampNeg x2) (upd this_to this_count.toNatClampNeg x4))) X 5 rfl rfl hk11 rfl dX9_add_40 ?_
  refine J_aload_n X dX9_add_41 0 rfl ?_
  refine J_get (C := RX9) (T := TX9) (N := 8) (ci := 9) (v := .ref (q_this 5)) X in_X9_add_X9 0 rfl rfl 5 (by decide) m_X9_add_f24 rfl dX9_add_42 ?_
  refine J_aload_n X dX9_add_45 0 rfl ?_
  refine J_get (C := RX9) (T := TX9) (N := 8) (ci := 9) (v := .int this_count) X in_X9_add_X9 0 rfl rfl 0 (by decide) m_X9_add_f27 rfl dX9_add_46 ?_
  refine J_iconst (v := 0) X dX9_add_49 (by decide) ?_
  obtain ⟨hk12, hT⟩ := ckn_e hT
  refine J_iast (ws' := (w_X9_add cI cJ cZ h_this q_this this_count this_fewest this_sure (upd this_against this_count.toNatClampNeg (0 : Int32)) (upd this_from this_count.toNatClampNeg x3) (upd this_person this_count.toNatClampNeg x1) (upd this_place this_count.toNatClampNeg x2) (upd this_to this_count.toNatClampNeg x4))) X 1 rfl rfl hk12 rfl dX9_add_50 ?_
  refine J_iconst (v := 0) X dX9_add_51 (by decide) ?_
  refine J_istore (lv' := [(5, .int (0 : Int32)), (0, .ref h_this), (1, .int x1), (2, .int x2), (3, .int x3), (4, .int x4)]) X dX9_add_52 (by decide) rfl ?_
  refine J_lv (lv' := [(0, .ref h_this), (5, .int (0 : Int32))]) [1, 0] rfl ?_
  exact b_X9_add_54 X cI cJ cZ h_this q_this this_fewest this_sure r z0 z1 z2 z3 z4 z5  lfuel this_count (upd this_against this_count.toNatClampNeg (0 : Int32)) (upd this_from this_count.toNatClampNeg x3) (upd this_person this_count.toNatClampNeg x1) (upd this_place this_count.toNatClampNeg x2) (upd this_to this_count.toNatClampNeg x4) (0 : Int32) hT
-- ===== SoldMatches$Tales.restCanBe(I)Z
abbrev rmX9_restCanBe : Room := { frames := 0, cells := 0, slots := 0, locals := 0 }
def w_X9_restCanBe (cI cJ cZ : ClassId) (h_this : Nat) (q_this : Nat → Nat) (this_count : Int32) (this_fewest : Int32) (this_sure : Int32) (this_against : Nat → Int32) : va_W := [(h_this, .inr (9, oFX9 q_this this_count this_fewest this_sure)), ((q_this 5), .inl (cI, 10, .inl this_against))]
theorem m_X9_restCanBe_f27 : Cond.fieldLink RX9 27 "SoldMatches$Tales" "count" "I" ∈ wsX9_restCanBe := List.mem_of_getElem? (i := 1) rfl
theorem in_X9_restCanBe_X9 : ∀ w ∈ wsX90, w ∈ wsX9_restCanBe := fun w h => List.mem_cons_of_mem _ (List.mem_append_right _ h)
theorem m_X9_restCanBe_f24 : Cond.fieldLink RX9 24 "SoldMatches$Tales" "against" "[I" ∈ wsX9_restCanBe := List.mem_of_getElem? (i := 2) rfl
def t_X9_restCanBe_33  (k_2 : Int32 → (Nat → Int32) → Int32 → Int32 → Option (Int32)) (this_count : Int32) (this_against : Nat → Int32) (x1 : Int32) (x2 : Int32) : Option (Int32) := k_2 this_count this_against x1 (x2 + (1 : Int32))
def t_X9_restCanBe_2_b  (k_2 : Int32 → (Nat → Int32) → Int32 → Int32 → Option (Int32)) (this_count : Int32) (this_against : Nat → Int32) (x1 : Int32) (x2 : Int32) : Option (Int32) := if this_count ≤ x2 then (some ((1 : Int32))) else (if ((x1 >>> (x2 &&& 31)) &&& (1 : Int32)) = 0 then (ckn (x2 < 0 ∨ 10 ≤ x2.toNatClampNeg) (if ((this_against x2.toNatClampNeg) &&& (x1 ^^^ (-1 : Int32))) = 0 then (t_X9_restCanBe_33  k_2 this_count this_against x1 x2) else (some ((0 : Int32))))) else (t_X9_restCanBe_33  k_2 this_count this_against x1 x2))
def t_X9_restCanBe_2   (n : Nat) : Int32 → (Nat → Int32) → Int32 → Int32 → Option (Int32) := Nat.rec (fun _ _ _ _ => none) (fun _ ih => t_X9_restCanBe_2_b   ih) n
def t_X9_restCanBe  (this_count : Int32) (this_against : Nat → Int32) (x1 : Int32) : Option (Int32) := t_X9_restCanBe_2   lfuel this_count this_against x1 (0 : Int32)
set_option maxHeartbeats 4000000 in
set_option maxRecDepth 100000 in
theorem b_X9_restCanBe_33 {p : Program} {l : Launch} {e : Env} {s : State} {m : MethodId} {args : Array Value} {below : List Frame} {meth : Method} {c : Code} {D : va_G} {A : Nat → Prop} {cI cJ cZ : ClassId} (X : Cx p m c cX9_restCanBe 3 s args wsX9_restCanBe RX9 D (tys3 cI cJ cZ) meth (some .boolean)) (_ _ _ : ClassId)  (h_this : Nat) (q_this : Nat → Nat) (this_fewest : Int32) (this_sure : Int32) (r : Int32) (k_2 : Int32 → (Nat → Int32) → Int32 → Int32 → Option (Int32)) (hk_2 : ∀ (this_count : Int32) (this_against : Nat → Int32) (x1 : Int32) (x2 : Int32), k_2 this_count this_against x1 x2 = some r → J p l e rmX9_restCanBe s m args below meth c D A 3 (QI D below args s A r (w_X9_restCanBe cI cJ cZ h_this q_this this_count this_fewest this_sure this_against)) 0 0 (w_X9_restCanBe cI cJ cZ h_this q_this this_count this_fewest this_sure this_against) [(0, .ref h_this), (1, .int x1), (2, .int x2)] [] 2) (this_count : Int32) (this_against : Nat → Int32) (x1 : Int32) (x2 : Int32) (hT : t_X9_restCanBe_33  k_2 this_count this_against x1 x2 = some r) : J p l e rmX9_restCanBe s m args below meth c D A 3 (QI D below args s A r (w_X9_restCanBe cI cJ cZ h_this q_this this_count this_fewest this_sure this_against)) 0 0 (w_X9_restCanBe cI cJ cZ h_this q_this this_count this_fewest this_sure this_against) [(0, .ref h_this), (1, .int x1), (2, .int x2)] [] 33 := by
  unfold t_X9_restCanBe_33 at hT
  refine J_iinc (lv' := [(2, .int (x2 + (1 : Int32))), (0, .ref h_this), (1, .int x1)]) (j := 2) X dX9_restCanBe_33 rfl rfl (by decide) rfl ?_
  refine J_goto (tgt := 2) X dX9_restCanBe_36 (by decide) ?_
  refine J_lv (lv' := [(0, .ref h_this), (1, .int x1), (2, .int (x2 + (1 : Int32)))]) [1, 2, 0] rfl ?_
  exact hk_2 this_count this_against x1 (x2 + (1 : Int32)) hT
set_option maxHeartbeats 4000000 in
set_option maxRecDepth 100000 in
theorem b_X9_restCanBe_2_b {p : Program} {l : Launch} {e : Env} {s : State} {m : MethodId} {args : Array Value} {below : List Frame} {meth : Method} {c : Code} {D : va_G} {A : Nat → Prop} {cI cJ cZ : ClassId} (X : Cx p m c cX9_restCanBe 3 s args wsX9_restCanBe RX9 D (tys3 cI cJ cZ) meth (some .boolean)) (_ _ _ : ClassId)  (h_this : Nat) (q_this : Nat → Nat) (this_fewest : Int32) (this_sure : Int32) (r : Int32) (k_2 : Int32 → (Nat → Int32) → Int32 → Int32 → Option (Int32)) (hk_2 : ∀ (this_count : Int32) (this_against : Nat → Int32) (x1 : Int32) (x2 : Int32), k_2 this_count this_against x1 x2 = some r → J p l e rmX9_restCanBe s m args below meth c D A 3 (QI D below args s A r (w_X9_restCanBe cI cJ cZ h_this q_this this_count this_fewest this_sure this_against)) 0 0 (w_X9_restCanBe cI cJ cZ h_this q_this this_count this_fewest this_sure this_against) [(0, .ref h_this), (1, .int x1), (2, .int x2)] [] 2) (this_count : Int32) (this_against : Nat → Int32) (x1 : Int32) (x2 : Int32) (hT : t_X9_restCanBe_2_b  k_2 this_count this_against x1 x2 = some r) : J p l e rmX9_restCanBe s m args below meth c D A 3 (QI D below args s A r (w_X9_restCanBe cI cJ cZ h_this q_this this_count this_fewest this_sure this_against)) 0 0 (w_X9_restCanBe cI cJ cZ h_this q_this this_count this_fewest this_sure this_against) [(0, .ref h_this), (1, .int x1), (2, .int x2)] [] 2 := by
  unfold t_X9_restCanBe_2_b at hT
  refine J_iload_n X dX9_restCanBe_2 2 rfl ?_
  refine J_aload_n X dX9_restCanBe_3 0 rfl ?_
  refine J_get (C := RX9) (T := TX9) (N := 8) (ci := 9) (v := .int this_count) X in_X9_restCanBe_X9 0 rfl rfl 0 (by decide) m_X9_restCanBe_f27 rfl dX9_restCanBe_4 ?_
  refine J_icmp_ge (tgt := 39) X dX9_restCanBe_7 (by decide) (fun hc1 => ?_) (fun hc1 => ?_)
  · have hT := ift hT hc1
    refine J_iconst (v := 1) X dX9_restCanBe_39 (by decide) ?_
    cases hT
    exact J_zret X (by decide) dX9_restCanBe_40
  · have hT := iff_ hT hc1
    refine J_iload_n X dX9_restCanBe_10 1 rfl ?_
    refine J_iload_n X dX9_restCanBe_11 2 rfl ?_
    refine J_ishr X dX9_restCanBe_12 ?_
    refine J_iconst (v := 1) X dX9_restCanBe_13 (by decide) ?_
    refine J_iand X dX9_restCanBe_14 ?_
    refine J_if_ne (tgt := 33) X dX9_restCanBe_15 (by decide) (fun hc2 => ?_) (fun hc2 => ?_)
    · have hT := iff_ hT hc2
      exact b_X9_restCanBe_33 X cI cJ cZ h_this q_this this_fewest this_sure r k_2 hk_2 this_count this_against x1 x2 hT
    · have hT := ift hT hc2
      refine J_aload_n X dX9_restCanBe_18 0 rfl ?_
      refine J_get (C := RX9) (T := TX9) (N := 8) (ci := 9) (v := .ref (q_this 5)) X in_X9_restCanBe_X9 0 rfl rfl 5 (by decide) m_X9_restCanBe_f24 rfl dX9_restCanBe_19 ?_
      refine J_iload_n X dX9_restCanBe_22 2 rfl ?_
      obtain ⟨hk3, hT⟩ := ckn_e hT
      refine J_iald X 1 rfl rfl hk3 dX9_restCanBe_23 ?_
      refine J_iload_n X dX9_restCanBe_24 1 rfl ?_
      refine J_iconst (v := -1) X dX9_restCanBe_25 (by decide) ?_
      refine J_ixor X dX9_restCanBe_26 ?_
      refine J_iand X dX9_restCanBe_27 ?_
      refine J_if_eq (tgt := 33) X dX9_restCanBe_28 (by decide) (fun hc4 => ?_) (fun hc4 => ?_)
      · have hT := ift hT hc4
        exact b_X9_restCanBe_33 X cI cJ cZ h_this q_this this_fewest this_sure r k_2 hk_2 this_count this_against x1 x2 hT
      · have hT := iff_ hT hc4
        refine J_iconst (v := 0) X dX9_restCanBe_31 (by decide) ?_
        cases hT
        exact J_zret X (by decide) dX9_restCanBe_32
set_option maxHeartbeats 4000000 in
set_option maxRecDepth 100000 in
theorem b_X9_restCanBe_2 {p : Program} {l : Launch} {e : Env} {s : State} {m : MethodId} {args : Array Value} {below : List Frame} {meth : Method} {c : Code} {D : va_G} {A : Nat → Prop} {cI cJ cZ : ClassId} (X : Cx p m c cX9_restCanBe 3 s args wsX9_restCanBe RX9 D (tys3 cI cJ cZ) meth (some .boolean)) (_ _ _ : ClassId)  (h_this : Nat) (q_this : Nat → Nat) (this_fewest : Int32) (this_sure : Int32) (r : Int32)  : ∀ (n : Nat) (this_count : Int32) (this_against : Nat → Int32) (x1 : Int32) (x2 : Int32) (hT : t_X9_restCanBe_2   n this_count this_against x1 x2 = some r), J p l e rmX9_restCanBe s m args below meth c D A 3 (QI D below args s A r (w_X9_restCanBe cI cJ cZ h_this q_this this_count this_fewest this_sure this_against)) 0 0 (w_X9_restCanBe cI cJ cZ h_this q_this this_count this_fewest this_sure this_against) [(0, .ref h_this), (1, .int x1), (2, .int x2)] [] 2 := by
  intro n
  induction n with
  | zero => intro this_count this_against x1 x2 hT; cases hT
  | succ n ih =>
    intro this_count this_against x1 x2 hT
    exact b_X9_restCanBe_2_b X cI cJ cZ h_this q_this this_fewest this_sure r  (t_X9_restCanBe_2   n) ih this_count this_against x1 x2 hT
set_option maxHeartbeats 4000000 in
set_option maxRecDepth 100000 in
theorem c_X9_restCanBe (l : Launch) (D : va_G) (cI cJ cZ : ClassId) (h_this : Nat) (q_this : Nat → Nat) (this_count : Int32) (this_fewest : Int32) (this_sure : Int32) (this_against : Nat → Int32) (x1 : Int32) (r : Int32) (hT : t_X9_restCanBe  this_count this_against x1 = some r) : Ci l yX9_restCanBe wsX9_restCanBe rmX9_restCanBe D (tys3 cI cJ cZ) [.ref h_this, .int x1] (w_X9_restCanBe cI cJ cZ h_this q_this this_count this_fewest this_sure this_against) r (w_X9_restCanBe cI cJ cZ h_this q_this this_count this_fewest this_sure this_against) := by
  refine Ci.ofJ (cc := cX9_restCanBe) (nL := 3) (rt := (some .boolean)) (own := RX9) (by decide) rfl rfl (Nat.le_of_ble_eq_true rfl) ?_
  intro p e s m below meth c A X
  unfold t_X9_restCanBe at hT
  refine J_lv (lv' := [(0, .ref h_this), (1, .int x1)]) [0, 1] rfl ?_
  refine J_iconst (v := 0) X dX9_restCanBe_0 (by decide) ?_
  refine J_istore_n (lv' := [(2, .int (0 : Int32)), (0, .ref h_this), (1, .int x1)]) X dX9_restCanBe_1 (by decide) rfl ?_
  refine J_lv (lv' := [(0, .ref h_this), (1, .int x1), (2, .int (0 : Int32))]) [1, 2, 0] rfl ?_
  exact b_X9_restCanBe_2 X cI cJ cZ h_this q_this this_fewest this_sure r  lfuel this_count this_against x1 (0 : Int32) hT
-- ===== SoldMatches$Tales.sift()V
abbrev rmX9_sift : Room := { frames := 1, cells := 0, slots := 0, locals := 22 }
def w_X9_sift (cI cJ cZ : ClassId) (h_this : Nat) (q_this : Nat → Nat) (this_count : Int32) (this_fewest : Int32) (this_sure : Int32) (this_against : Nat → Int32) : va_W := [(h_this, .inr (9, oFX9 q_this this_count this_fewest this_sure)), ((q_this 5), .inl (cI, 10, .inl this_against))]
theorem m_X9_sift_f38 : Cond.fieldLink RX9 38 "SoldMatches$Tales" "sure" "I" ∈ wsX9_sift := List.mem_of_getElem? (i := 3) rfl
theorem in_X9_sift_X9 : ∀ w ∈ wsX90, w ∈ wsX9_sift := fun w h => List.mem_cons_of_mem _ (List.mem_append_right _ h)
theorem cw_X9_sift_J6_bitCount_0f7a4_41 {s : State} {args : Array Value} (hts : ∀ w ∈ wsX9_sift, w.before args s = true) : CallB rmX9_sift s args RX9 41 yJ6_bitCount_0f7a4 cJ6_bitCount_0f7a4 1 (some .int) wsJ6_bitCount_0f7a4 rmJ6_bitCount_0f7a4 0 0 1 ∧ (Cond.static yJ6_bitCount_0f7a4).before args s = true := va_cwS 1 hts gX9_sift_J6_bitCount_0f7a4 rfl rfl rfl (by decide +kernel) ⟨by decide, by decide⟩
theorem cw_X9_sift_X9_restCanBe_47 {s : State} {args : Array Value} (hts : ∀ w ∈ wsX9_sift, w.before args s = true) : CallW rmX9_sift s args RX9 RX9 47 yX9_restCanBe cX9_restCanBe 3 (some .boolean) wsX9_restCanBe rmX9_restCanBe 0 0 1 := cwV 1 hts gX9_sift_X9_restCanBe rfl rfl rfl (by decide +kernel) ⟨by decide, by decide⟩
theorem m_X9_sift_f35 : Cond.fieldLink RX9 35 "SoldMatches$Tales" "fewest" "I" ∈ wsX9_sift := List.mem_of_getElem? (i := 2) rfl
theorem m_X9_sift_f27 : Cond.fieldLink RX9 27 "SoldMatches$Tales" "count" "I" ∈ wsX9_sift := List.mem_of_getElem? (i := 1) rfl
def t_X9_sift_85  (k_28 : Int32 → Int32 → Int32 → (Nat → Int32) → Int32 → Int32 → Int32 → Option (Int32 × Int32)) (this_count : Int32) (this_fewest : Int32) (this_sure : Int32) (this_against : Nat → Int32) (x1 : Int32) (x2 : Int32) (x3 : Int32) : Option (Int32 × Int32) := k_28 this_count this_fewest this_sure this_against x1 x2 (x3 + (1 : Int32))
def t_X9_sift_75  (k_28 : Int32 → Int32 → Int32 → (Nat → Int32) → Int32 → Int32 → Int32 → Option (Int32 × Int32)) (this_count : Int32) (this_fewest : Int32) (this_sure : Int32) (this_against : Nat → Int32) (x1 : Int32) (x2 : Int32) (x3 : Int32) : Option (Int32 × Int32) := t_X9_sift_85  k_28 this_count this_fewest (this_sure &&& x3) this_against x1 x2 x3
def t_X9_sift_28_b  (k_28 : Int32 → Int32 → Int32 → (Nat → Int32) → Int32 → Int32 → Int32 → Option (Int32 × Int32)) (this_count : Int32) (this_fewest : Int32) (this_sure : Int32) (this_against : Nat → Int32) (x1 : Int32) (x2 : Int32) (x3 : Int32) : Option (Int32 × Int32) := if x1 < x3 then (some (this_fewest, this_sure)) else (bd1 (t_J6_bitCount_0f7a4 x3) (fun v2 => if x2 < v2 then (t_X9_sift_85  k_28 this_count this_fewest this_sure this_against x1 x2 x3) else (bd1 (t_X9_restCanBe this_count this_against x3) (fun v4 => if v4 = 0 then (t_X9_sift_85  k_28 this_count this_fewest this_sure this_against x1 x2 x3) else (if x2 ≤ v2 then (t_X9_sift_75  k_28 this_count this_fewest this_sure this_against x1 x2 x3) else (t_X9_sift_75  k_28 this_count x3 x3 this_against x1 v2 x3))))))
def t_X9_sift_28   (n : Nat) : Int32 → Int32 → Int32 → (Nat → Int32) → Int32 → Int32 → Int32 → Option (Int32 × Int32) := Nat.rec (fun _ _ _ _ _ _ _ => none) (fun _ ih => t_X9_sift_28_b   ih) n
def t_X9_sift  (this_count : Int32) (this_fewest : Int32) (this_sure : Int32) (this_against : Nat → Int32)  : Option (Int32 × Int32) := t_X9_sift_28   lfuel this_count (((1 : Int32) <<< (this_count &&& 31)) - (1 : Int32)) (((1 : Int32) <<< (this_count &&& 31)) - (1 : Int32)) this_against (((1 : Int32) <<< (this_count &&& 31)) - (1 : Int32)) (this_count + (1 : Int32)) (0 : Int32)
set_option maxHeartbeats 4000000 in
set_option maxRecDepth 100000 in
theorem b_X9_sift_85 {p : Program} {l : Launch} {e : Env} {s : State} {m : MethodId} {args : Array Value} {below : List Frame} {meth : Method} {c : Code} {D : va_G} {A : Nat → Prop} {cI cJ cZ : ClassId} (X : Cx p m c cX9_sift 5 s args wsX9_sift RX9 D (tys3 cI cJ cZ) meth none) (_ _ _ : ClassId)  (h_this : Nat) (q_this : Nat → Nat)  (z0 : Int32) (z1 : Int32) (k_28 : Int32 → Int32 → Int32 → (Nat → Int32) → Int32 → Int32 → Int32 → Option (Int32 × Int32)) (hk_28 : ∀ (this_count : Int32) (this_fewest : Int32) (this_sure : Int32) (this_against : Nat → Int32) (x1 : Int32) (x2 : Int32) (x3 : Int32), k_28 this_count this_fewest this_sure this_against x1 x2 x3 = some (z0, z1) → J p l e rmX9_sift s m args below meth c D A 5 (QV D below args s A (w_X9_sift cI cJ cZ h_this q_this this_count z0 z1 this_against)) 0 0 (w_X9_sift cI cJ cZ h_this q_this this_count this_fewest this_sure this_against) [(0, .ref h_this), (1, .int x1), (2, .int x2), (3, .int x3)] [] 28) (this_count : Int32) (this_fewest : Int32) (this_sure : Int32) (this_against : Nat → Int32) (x1 : Int32) (x2 : Int32) (x3 : Int32) (hT : t_X9_sift_85  k_28 this_count this_fewest this_sure this_against x1 x2 x3 = some (z0, z1)) : J p l e rmX9_sift s m args below meth c D A 5 (QV D below args s A (w_X9_sift cI cJ cZ h_this q_this this_count z0 z1 this_against)) 0 0 (w_X9_sift cI cJ cZ h_this q_this this_count this_fewest this_sure this_against) [(0, .ref h_this), (1, .int x1), (2, .int x2), (3, .int x3)] [] 85 := by
  unfold t_X9_sift_85 at hT
  refine J_iinc (lv' := [(3, .int (x3 + (1 : Int32))), (0, .ref h_this), (1, .int x1), (2, .int x2)]) (j := 3) X dX9_sift_85 rfl rfl (by decide) rfl ?_
  refine J_goto (tgt := 28) X dX9_sift_88 (by decide) ?_
  refine J_lv (lv' := [(0, .ref h_this), (1, .int x1), (2, .int x2), (3, .int (x3 + (1 : Int32)))]) [1, 2, 3, 0] rfl ?_
  exact hk_28 this_count this_fewest this_sure this_against x1 x2 (x3 + (1 : Int32)) hT
set_option maxHeartbeats 4000000 in
set_option maxRecDepth 100000 in
theorem b_X9_sift_75 {p : Program} {l : Launch} {e : Env} {s : State} {m : MethodId} {args : Array Value} {below : List Frame} {meth : Method} {c : Code} {D : va_G} {A : Nat → Prop} {cI cJ cZ : ClassId} (X : Cx p m c cX9_sift 5 s args wsX9_sift RX9 D (tys3 cI cJ cZ) meth none) (_ _ _ : ClassId)  (h_this : Nat) (q_this : Nat → Nat)  (z0 : Int32) (z1 : Int32) (k_28 : Int32 → Int32 → Int32 → (Nat → Int32) → Int32 → Int32 → Int32 → Option (Int32 × Int32)) (hk_28 : ∀ (this_count : Int32) (this_fewest : Int32) (this_sure : Int32) (this_against : Nat → Int32) (x1 : Int32) (x2 : Int32) (x3 : Int32), k_28 this_count this_fewest this_sure this_against x1 x2 x3 = some (z0, z1) → J p l e rmX9_sift s m args below meth c D A 5 (QV D below args s A (w_X9_sift cI cJ cZ h_this q_this this_count z0 z1 this_against)) 0 0 (w_X9_sift cI cJ cZ h_this q_this this_count this_fewest this_sure this_against) [(0, .ref h_this), (1, .int x1), (2, .int x2), (3, .int x3)] [] 28) (this_count : Int32) (this_fewest : Int32) (this_sure : Int32) (this_against : Nat → Int32) (x1 : Int32) (x2 : Int32) (x3 : Int32) (hT : t_X9_sift_75  k_28 this_count this_fewest this_sure this_against x1 x2 x3 = some (z0, z1)) : J p l e rmX9_sift s m args below meth c D A 5 (QV D below args s A (w_X9_sift cI cJ cZ h_this q_this this_count z0 z1 this_against)) 0 0 (w_X9_sift cI cJ cZ h_this q_this this_count this_fewest this_sure this_against) [(0, .ref h_this), (1, .int x1), (2, .int x2), (3, .int x3)] [] 75 := by
  unfold t_X9_sift_75 at hT
  refine J_aload_n X dX9_sift_75 0 rfl ?_
  refine J_dup X dX9_sift_76 rfl ?_
  refine J_get (C := RX9) (T := TX9) (N := 8) (ci := 9) (v := .int this_sure) X in_X9_sift_X9 0 rfl rfl 7 (by decide) m_X9_sift_f38 rfl dX9_sift_77 ?_
  refine J_iload_n X dX9_sift_80 3 rfl ?_
  refine J_iand X dX9_sift_81 ?_
  refine J_put (host := "") (C := RX9) (T := TX9) (N := 8) (ci := 9) (ws' := (w_X9_sift cI cJ cZ h_this q_this this_count this_fewest (this_sure &&& x3) this_against)) X in_X9_sift_X9 0 rfl rfl 7 (by decide) tyX9 tyX9_ok nmX9 m_X9_sift_f38 rfl rfl rfl (Nat.le_of_ble_eq_true rfl) rfl dX9_sift_82 ?_
  exact b_X9_sift_85 X cI cJ cZ h_this q_this  z0 z1 k_28 hk_28 this_count this_fewest (this_sure &&& x3) this_against x1 x2 x3 hT
set_option maxHeartbeats 4000000 in
set_option maxRecDepth 100000 in
theorem b_X9_sift_28_b {p : Program} {l : Launch} {e : Env} {s : State} {m : MethodId} {args : Array Value} {below : List Frame} {meth : Method} {c : Code} {D : va_G} {A : Nat → Prop} {cI cJ cZ : ClassId} (X : Cx p m c cX9_sift 5 s args wsX9_sift RX9 D (tys3 cI cJ cZ) meth none) (_ _ _ : ClassId)  (h_this : Nat) (q_this : Nat → Nat)  (z0 : Int32) (z1 : Int32) (k_28 : Int32 → Int32 → Int32 → (Nat → Int32) → Int32 → Int32 → Int32 → Option (Int32 × Int32)) (hk_28 : ∀ (this_count : Int32) (this_fewest : Int32) (this_sure : Int32) (this_against : Nat → Int32) (x1 : Int32) (x2 : Int32) (x3 : Int32), k_28 this_count this_fewest this_sure this_against x1 x2 x3 = some (z0, z1) → J p l e rmX9_sift s m args below meth c D A 5 (QV D below args s A (w_X9_sift cI cJ cZ h_this q_this this_count z0 z1 this_against)) 0 0 (w_X9_sift cI cJ cZ h_this q_this this_count this_fewest this_sure this_against) [(0, .ref h_this), (1, .int x1), (2, .int x2), (3, .int x3)] [] 28) (this_count : Int32) (this_fewest : Int32) (this_sure : Int32) (this_against : Nat → Int32) (x1 : Int32) (x2 : Int32) (x3 : Int32) (hT : t_X9_sift_28_b  k_28 this_count this_fewest this_sure this_against x1 x2 x3 = some (z0, z1)) : J p l e rmX9_sift s m args below meth c D A 5 (QV D below args s A (w_X9_sift cI cJ cZ h_this q_this this_count z0 z1 this_against)) 0 0 (w_X9_sift cI cJ cZ h_this q_this this_count this_fewest this_sure this_against) [(0, .ref h_this), (1, .int x1), (2, .int x2), (3, .int x3)] [] 28 := by
  unfold t_X9_sift_28_b at hT
  refine J_iload_n X dX9_sift_28 3 rfl ?_
  refine J_iload_n X dX9_sift_29 1 rfl ?_
  refine J_icmp_gt (tgt := 91) X dX9_sift_30 (by decide) (fun hc1 => ?_) (fun hc1 => ?_)
  · have hT := ift hT hc1
    cases hT
    exact J_vret X dX9_sift_91
  · have hT := iff_ hT hc1
    refine J_iload_n X dX9_sift_33 3 rfl ?_
    obtain ⟨v2, hq2, hT⟩ := bd1_e hT
    refine J_ci (wc := (w_J6_bitCount_0f7a4 cI cJ cZ )) (wc' := (w_J6_bitCount_0f7a4 cI cJ cZ )) (ws' := (w_X9_sift cI cJ cZ h_this q_this this_count this_fewest this_sure this_against)) [] [0, 1] 2 rfl rfl rfl rfl rfl rfl rfl rfl (run_S (As := [.int x3]) (rest := []) X (c_J6_bitCount_0f7a4 l D cI cJ cZ  x3 v2 hq2) (cw_X9_sift_J6_bitCount_0f7a4_41 X.1.2.2.2.2) rfl rfl (Nat.le_of_ble_eq_true rfl) dX9_sift_34 ⟨Nat.zero_le _, Nat.zero_le _⟩) ?_
    refine J_istore (lv' := [(4, .int v2), (0, .ref h_this), (1, .int x1), (2, .int x2), (3, .int x3)]) X dX9_sift_37 (by decide) rfl ?_
    refine J_iload X dX9_sift_39 0 rfl ?_
    refine J_iload_n X dX9_sift_41 3 rfl ?_
    refine J_icmp_gt (tgt := 85) X dX9_sift_42 (by decide) (fun hc3 => ?_) (fun hc3 => ?_)
    · have hT := ift hT hc3
      refine J_lv (lv' := [(0, .ref h_this), (1, .int x1), (2, .int x2), (3, .int x3)]) [1, 2, 3, 4] rfl ?_
      exact b_X9_sift_85 X cI cJ cZ h_this q_this  z0 z1 k_28 hk_28 this_count this_fewest this_sure this_against x1 x2 x3 hT
    · have hT := iff_ hT hc3
      refine J_aload_n X dX9_sift_45 1 rfl ?_
      refine J_iload_n X dX9_sift_46 4 rfl ?_
      obtain ⟨v4, hq4, hT⟩ := bd1_e hT
      refine J_ci (wc := (w_X9_restCanBe cI cJ cZ h_this q_this this_count this_fewest this_sure this_against)) (wc' := (w_X9_restCanBe cI cJ cZ h_this q_this this_count this_fewest this_sure this_against)) (ws' := (w_X9_sift cI cJ cZ h_this q_this this_count this_fewest this_sure this_against)) [0, 1] [] 2 rfl rfl rfl rfl rfl rfl rfl rfl (run_V (As := [.int x3]) (rest := []) X (c_X9_restCanBe l D cI cJ cZ h_this q_this this_count this_fewest this_sure this_against x3 v4 hq4) (cw_X9_sift_X9_restCanBe_47 X.1.2.2.2.2) 0 rfl rfl rfl rfl (Nat.le_of_ble_eq_true rfl) dX9_sift_47 ⟨Nat.zero_le _, Nat.zero_le _⟩) ?_
      refine J_if_ne (tgt := 56) X dX9_sift_50 (by decide) (fun hc5 => ?_) (fun hc5 => ?_)
      · have hT := iff_ hT hc5
        refine J_iload X dX9_sift_56 0 rfl ?_
        refine J_iload_n X dX9_sift_58 3 rfl ?_
        refine J_icmp_ge (tgt := 75) X dX9_sift_59 (by decide) (fun hc6 => ?_) (fun hc6 => ?_)
        · have hT := ift hT hc6
          refine J_lv (lv' := [(0, .ref h_this), (1, .int x1), (2, .int x2), (3, .int x3)]) [1, 2, 3, 4] rfl ?_
          exact b_X9_sift_75 X cI cJ cZ h_this q_this  z0 z1 k_28 hk_28 this_count this_fewest this_sure this_against x1 x2 x3 hT
        · have hT := iff_ hT hc6
          refine J_iload X dX9_sift_62 0 rfl ?_
          refine J_istore_n (lv' := [(2, .int v2), (4, .int v2), (0, .ref h_this), (1, .int x1), (3, .int x3)]) X dX9_sift_64 (by decide) rfl ?_
          refine J_aload_n X dX9_sift_65 2 rfl ?_
          refine J_iload_n X dX9_sift_66 4 rfl ?_
          refine J_put (host := "") (C := RX9) (T := TX9) (N := 8) (ci := 9) (ws' := (w_X9_sift cI cJ cZ h_this q_this this_count x3 this_sure this_against)) X in_X9_sift_X9 0 rfl rfl 6 (by decide) tyX9 tyX9_ok nmX9 m_X9_sift_f35 rfl rfl rfl (Nat.le_of_ble_eq_true rfl) rfl dX9_sift_67 ?_
          refine J_aload_n X dX9_sift_70 2 rfl ?_
          refine J_iload_n X dX9_sift_71 4 rfl ?_
          refine J_put (host := "") (C := RX9) (T := TX9) (N := 8) (ci := 9) (ws' := (w_X9_sift cI cJ cZ h_this q_this this_count x3 x3 this_against)) X in_X9_sift_X9 0 rfl rfl 7 (by decide) tyX9 tyX9_ok nmX9 m_X9_sift_f38 rfl rfl rfl (Nat.le_of_ble_eq_true rfl) rfl dX9_sift_72 ?_
          refine J_lv (lv' := [(0, .ref h_this), (1, .int x1), (2, .int v2), (3, .int x3)]) [2, 3, 0, 4] rfl ?_
          exact b_X9_sift_75 X cI cJ cZ h_this q_this  z0 z1 k_28 hk_28 this_count x3 x3 this_against x1 v2 x3 hT
      · have hT := ift hT hc5
        refine J_goto (tgt := 85) X dX9_sift_53 (by decide) ?_
        refine J_lv (lv' := [(0, .ref h_this), (1, .int x1), (2, .int x2), (3, .int x3)]) [1, 2, 3, 4] rfl ?_
        exact b_X9_sift_85 X cI cJ cZ h_this q_this  z0 z1 k_28 hk_28 this_count this_fewest this_sure this_against x1 x2 x3 hT
set_option maxHeartbeats 4000000 in
set_option maxRecDepth 100000 in
theorem b_X9_sift_28 {p : Program} {l : Launch} {e : Env} {s : State} {m : MethodId} {args : Array Value} {below : List Frame} {meth : Method} {c : Code} {D : va_G} {A : Nat → Prop} {cI cJ cZ : ClassId} (X : Cx p m c cX9_sift 5 s args wsX9_sift RX9 D (tys3 cI cJ cZ) meth none) (_ _ _ : ClassId)  (h_this : Nat) (q_this : Nat → Nat)  (z0 : Int32) (z1 : Int32)  : ∀ (n : Nat) (this_count : Int32) (this_fewest : Int32) (this_sure : Int32) (this_against : Nat → Int32) (x1 : Int32) (x2 : Int32) (x3 : Int32) (hT : t_X9_sift_28   n this_count this_fewest this_sure this_against x1 x2 x3 = some (z0, z1)), J p l e rmX9_sift s m args below meth c D A 5 (QV D below args s A (w_X9_sift cI cJ cZ h_this q_this this_count z0 z1 this_against)) 0 0 (w_X9_sift cI cJ cZ h_this q_this this_count this_fewest this_sure this_against) [(0, .ref h_this), (1, .int x1), (2, .int x2), (3, .int x3)] [] 28 := by
  intro n
  induction n with
  | zero => intro this_count this_fewest this_sure this_against x1 x2 x3 hT; cases hT
  | succ n ih =>
    intro this_count this_fewest this_sure this_against x1 x2 x3 hT
    exact b_X9_sift_28_b X cI cJ cZ h_this q_this  z0 z1  (t_X9_sift_28   n) ih this_count this_fewest this_sure this_against x1 x2 x3 hT
set_option maxHeartbeats 4000000 in
set_option maxRecDepth 100000 in
theorem c_X9_sift (l : Launch) (D : va_G) (cI cJ cZ : ClassId) (h_this : Nat) (q_this : Nat → Nat) (this_count : Int32) (this_fewest : Int32) (this_sure : Int32) (this_against : Nat → Int32)  (z0 : Int32) (z1 : Int32) (hT : t_X9_sift  this_count this_fewest this_sure this_against  = some (z0, z1)) : Cv l yX9_sift wsX9_sift rmX9_sift D (tys3 cI cJ cZ) [.ref h_this] (w_X9_sift cI cJ cZ h_this q_this this_count this_fewest this_sure this_against) (w_X9_sift cI cJ cZ h_this q_this this_count z0 z1 this_against) := by
  refine Cv.ofJ (cc := cX9_sift) (nL := 5) (rt := none) (own := RX9) (by decide) rfl rfl (Nat.le_of_ble_eq_true rfl) ?_
  intro p e s m below meth c A X
  unfold t_X9_sift at hT
  refine J_lv (lv' := [(0, .ref h_this)]) [0] rfl ?_
  refine J_iconst (v := 1) X dX9_sift_0 (by decide) ?_
  refine J_aload_n X dX9_sift_1 0 rfl ?_
  refine J_get (C := RX9) (T := TX9) (N := 8) (ci := 9) (v := .int this_count) X in_X9_sift_X9 0 rfl rfl 0 (by decide) m_X9_sift_f27 rfl dX9_sift_2 ?_
  refine J_ishl X dX9_sift_5 ?_
  refine J_iconst (v := 1) X dX9_sift_6 (by decide) ?_
  refine J_isub X dX9_sift_7 ?_
  refine J_istore_n (lv' := [(1, .int (((1 : Int32) <<< (this_count &&& 31)) - (1 : Int32))), (0, .ref h_this)]) X dX9_sift_8 (by decide) rfl ?_
  refine J_aload_n X dX9_sift_9 1 rfl ?_
  refine J_iload_n X dX9_sift_10 0 rfl ?_
  refine J_put (host := "") (C := RX9) (T := TX9) (N := 8) (ci := 9) (ws' := (w_X9_sift cI cJ cZ h_this q_this this_count (((1 : Int32) <<< (this_count &&& 31)) - (1 : Int32)) this_sure this_against)) X in_X9_sift_X9 0 rfl rfl 6 (by decide) tyX9 tyX9_ok nmX9 m_X9_sift_f35 rfl rfl rfl (Nat.le_of_ble_eq_true rfl) rfl dX9_sift_11 ?_
  refine J_aload_n X dX9_sift_14 1 rfl ?_
  refine J_iload_n X dX9_sift_15 0 rfl ?_
  refine J_put (host := "") (C := RX9) (T := TX9) (N := 8) (ci := 9) (ws' := (w_X9_sift cI cJ cZ h_this q_this this_count (((1 : Int32) <<< (this_count &&& 31)) - (1 : Int32)) (((1 : Int32) <<< (this_count &&& 31)) - (1 : Int32)) this_against)) X in_X9_sift_X9 0 rfl rfl 7 (by decide) tyX9 tyX9_ok nmX9 m_X9_sift_f38 rfl rfl rfl (Nat.le_of_ble_eq_true rfl) rfl dX9_sift_16 ?_
  refine J_aload_n X dX9_sift_19 1 rfl ?_
  refine J_get (C := RX9) (T := TX9) (N := 8) (ci := 9) (v := .int this_count) X in_X9_sift_X9 0 rfl rfl 0 (by decide) m_X9_sift_f27 rfl dX9_sift_20 ?_
  refine J_iconst (v := 1) X dX9_sift_23 (by decide) ?_
  refine J_iadd X dX9_sift_24 ?_
  refine J_istore_n (lv' := [(2, .int (this_count + (1 : Int32))), (1, .int (((1 : Int32) <<< (this_count &&& 31)) - (1 : Int32))), (0, .ref h_this)]) X dX9_sift_25 (by decide) rfl ?_
  refine J_iconst (v := 0) X dX9_sift_26 (by decide) ?_
  refine J_istore_n (lv' := [(3, .int (0 : Int32)), (2, .int (this_count + (1 : Int32))), (1, .int (((1 : Int32) <<< (this_count &&& 31)) - (1 : Int32))), (0, .ref h_this)]) X dX9_sift_27 (by decide) rfl ?_
  refine J_lv (lv' := [(0, .ref h_this), (1, .int (((1 : Int32) <<< (this_count &&& 31)) - (1 : Int32))), (2, .int (this_count + (1 : Int32))), (3, .int (0 : Int32))]) [3, 2, 1, 0] rfl ?_
  exact b_X9_sift_28 X cI cJ cZ h_this q_this  z0 z1  lfuel this_count (((1 : Int32) <<< (this_count &&& 31)) - (1 : Int32)) (((1 : Int32) <<< (this_count &&& 31)) - (1 : Int32)) this_against (((1 : Int32) <<< (this_count &&& 31)) - (1 : Int32)) (this_count + (1 : Int32)) (0 : Int32) hT
-- ===== SoldMatches.within(III)Z
abbrev rmX10_within : Room := { frames := 0, cells := 0, slots := 0, locals := 0 }
def w_X10_within (cI cJ cZ : ClassId)  : va_W := []
def t_X10_within_15    (s0 : Int32) : Option (Int32) := ckn (¬ (s0 = 0 ∨ s0 = 1)) (some (s0))
def t_X10_within   (x0 : Int32) (x1 : Int32) (x2 : Int32) : Option (Int32) := if x0 < x1 then (t_X10_within_15   (0 : Int32)) else (if x2 < x0 then (t_X10_within_15   (0 : Int32)) else (t_X10_within_15   (1 : Int32)))
set_option maxHeartbeats 4000000 in
set_option maxRecDepth 100000 in
theorem b_X10_within_15 {p : Program} {l : Launch} {e : Env} {s : State} {m : MethodId} {args : Array Value} {below : List Frame} {meth : Method} {c : Code} {D : va_G} {A : Nat → Prop} {cI cJ cZ : ClassId} (X : Cx p m c cX10_within 3 s args wsX10_within RX10 D (tys3 cI cJ cZ) meth (some .boolean)) (_ _ _ : ClassId)   (r : Int32)   (s0 : Int32) (hT : t_X10_within_15    s0 = some r) : J p l e rmX10_within s m args below meth c D A 3 (QI D below args s A r (w_X10_within cI cJ cZ )) 0 0 (w_X10_within cI cJ cZ ) [] [.int s0] 15 := by
  unfold t_X10_within_15 at hT
  obtain ⟨hk1, hT⟩ := ckn_e hT
  cases hT
  exact J_zret X (Decidable.not_not.mp hk1) dX10_within_15
set_option maxHeartbeats 4000000 in
set_option maxRecDepth 100000 in
theorem c_X10_within (l : Launch) (D : va_G) (cI cJ cZ : ClassId)  (x0 : Int32) (x1 : Int32) (x2 : Int32) (r : Int32) (hT : t_X10_within   x0 x1 x2 = some r) : Ci l yX10_within wsX10_within rmX10_within D (tys3 cI cJ cZ) [.int x0, .int x1, .int x2] (w_X10_within cI cJ cZ ) r (w_X10_within cI cJ cZ ) := by
  refine Ci.ofJ (cc := cX10_within) (nL := 3) (rt := (some .boolean)) (own := RX10) (by decide) rfl rfl (Nat.le_of_ble_eq_true rfl) ?_
  intro p e s m below meth c A X
  unfold t_X10_within at hT
  refine J_lv (lv' := [(0, .int x0), (1, .int x1), (2, .int x2)]) [0, 1, 2] rfl ?_
  refine J_iload_n X dX10_within_0 0 rfl ?_
  refine J_iload_n X dX10_within_1 1 rfl ?_
  refine J_icmp_lt (tgt := 14) X dX10_within_2 (by decide) (fun hc2 => ?_) (fun hc2 => ?_)
  · have hT := ift hT hc2
    refine J_iconst (v := 0) X dX10_within_14 (by decide) ?_
    refine J_lv (lv' := []) [] rfl ?_
    exact b_X10_within_15 X cI cJ cZ  r  (0 : Int32) hT
  · have hT := iff_ hT hc2
    refine J_iload_n X dX10_within_5 0 rfl ?_
    refine J_iload_n X dX10_within_6 2 rfl ?_
    refine J_icmp_gt (tgt := 14) X dX10_within_7 (by decide) (fun hc3 => ?_) (fun hc3 => ?_)
    · have hT := ift hT hc3
      refine J_iconst (v := 0) X dX10_within_14 (by decide) ?_
      refine J_lv (lv' := []) [] rfl ?_
      exact b_X10_within_15 X cI cJ cZ  r  (0 : Int32) hT
    · have hT := iff_ hT hc3
      refine J_iconst (v := 1) X dX10_within_10 (by decide) ?_
      refine J_goto (tgt := 15) X dX10_within_11 (by decide) ?_
      refine J_lv (lv' := []) [] rfl ?_
      exact b_X10_within_15 X cI cJ cZ  r  (1 : Int32) hT
-- ===== SoldMatches.exchange([III)I
abbrev rmX10_exchange : Room := { frames := 0, cells := 0, slots := 0, locals := 0 }
def w_X10_exchange (cI cJ cZ : ClassId) (h_p0 : Nat) (p0_n : Nat) (p0 : Nat → Int32) : va_W := [(h_p0, .inl (cI, p0_n, .inl p0))]
def t_X10_exchange (p0_n : Nat) (p0 : Nat → Int32) (x1 : Int32) (x2 : Int32) : Option (Int32 × (Nat → Int32)) := ckn (x1 < 0 ∨ p0_n ≤ x1.toNatClampNeg) (ckn (x1 < 0 ∨ p0_n ≤ x1.toNatClampNeg) (some (p0 x1.toNatClampNeg, upd p0 x1.toNatClampNeg x2)))
set_option maxHeartbeats 4000000 in
set_option maxRecDepth 100000 in
theorem c_X10_exchange (l : Launch) (D : va_G) (cI cJ cZ : ClassId) (h_p0 : Nat) (p0_n : Nat) (p0 : Nat → Int32) (x1 : Int32) (x2 : Int32) (r : Int32) (z0 : Nat → Int32) (hT : t_X10_exchange p0_n p0 x1 x2 = some (r, z0)) : Ci l yX10_exchange wsX10_exchange rmX10_exchange D (tys3 cI cJ cZ) [.ref h_p0, .int x1, .int x2] (w_X10_exchange cI cJ cZ h_p0 p0_n p0) r (w_X10_exchange cI cJ cZ h_p0 p0_n z0) := by
  refine Ci.ofJ (cc := cX10_exchange) (nL := 4) (rt := (some .int)) (own := RX10) (by decide) rfl rfl (Nat.le_of_ble_eq_true rfl) ?_
  intro p e s m below meth c A X
  unfold t_X10_exchange at hT
  refine J_lv (lv' := [(0, .ref h_p0), (1, .int x1), (2, .int x2)]) [0, 1, 2] rfl ?_
  refine J_aload_n X dX10_exchange_0 0 rfl ?_
  refine J_iload_n X dX10_exchange_1 1 rfl ?_
  obtain ⟨hk1, hT⟩ := ckn_e hT
  refine J_iald X 0 rfl rfl hk1 dX10_exchange_2 ?_
  refine J_istore_n (lv' := [(3, .int (p0 x1.toNatClampNeg)), (0, .ref h_p0), (1, .int x1), (2, .int x2)]) X dX10_exchange_3 (by decide) rfl ?_
  refine J_aload_n X dX10_exchange_4 1 rfl ?_
  refine J_iload_n X dX10_exchange_5 2 rfl ?_
  refine J_iload_n X dX10_exchange_6 3 rfl ?_
  obtain ⟨hk2, hT⟩ := ckn_e hT
  refine J_iast (ws' := (w_X10_exchange cI cJ cZ h_p0 p0_n (upd p0 x1.toNatClampNeg x2))) X 0 rfl rfl hk2 rfl dX10_exchange_7 ?_
  refine J_iload_n X dX10_exchange_8 0 rfl ?_
  cases hT
  exact J_iret X dX10_exchange_9
-- ===== SoldMatches.skill(II)I
abbrev rmX10_skill : Room := { frames := 1, cells := 0, slots := 0, locals := 23 }
def w_X10_skill (cI cJ cZ : ClassId) (h_this : Nat) (q_this : Nat → Nat) (q_this_games : Nat → Nat) (this_games_count : Int32) (this_games_base : Int32) (this_games_topLean : Int32) (this_games_topSpot : Int32) (this_games_skills : Nat → Int32) : va_W := [(h_this, .inr (10, oFX10 q_this )), ((q_this 0), .inr (2, oFX2 q_this_games this_games_count this_games_base this_games_topLean this_games_topSpot)), ((q_this_games 2), .inl (cI, 8, .inl this_games_skills))]
theorem cw_X10_skill_X10_within_76 {s : State} {args : Array Value} (hts : ∀ w ∈ wsX10_skill, w.before args s = true) : CallB rmX10_skill s args RX10 76 yX10_within cX10_within 3 (some .boolean) wsX10_within rmX10_within 0 0 3 ∧ (Cond.static yX10_within).before args s = true := va_cwS 3 hts gX10_skill_X10_within rfl rfl rfl (by decide +kernel) ⟨by decide, by decide⟩
theorem m_X10_skill_f12 : Cond.fieldLink RX10 12 "SoldMatches" "games" "LSoldMatches$Games;" ∈ wsX10_skill := List.mem_of_getElem? (i := 1) rfl
theorem in_X10_skill_X10 : ∀ w ∈ wsX100, w ∈ wsX10_skill := fun w h => List.mem_cons_of_mem _ (List.mem_append_left _ (List.mem_append_right _ h))
theorem in_X10_skill_X2 : ∀ w ∈ wsX20, w ∈ wsX10_skill := fun w h => List.mem_cons_of_mem _ (List.mem_append_right _ h)
theorem cw_X10_skill_X10_exchange_83 {s : State} {args : Array Value} (hts : ∀ w ∈ wsX10_skill, w.before args s = true) : CallB rmX10_skill s args RX10 83 yX10_exchange cX10_exchange 4 (some .int) wsX10_exchange rmX10_exchange 0 0 3 ∧ (Cond.static yX10_exchange).before args s = true := va_cwS 3 hts gX10_skill_X10_exchange rfl rfl rfl (by decide +kernel) ⟨by decide, by decide⟩
def t_X10_skill_39   (this_games_skills : Nat → Int32) (s0 : Int32) : Option (Int32 × (Nat → Int32)) := some (s0, this_games_skills)
def t_X10_skill  (this_games_skills : Nat → Int32) (x1 : Int32) (x2 : Int32) : Option (Int32 × (Nat → Int32)) := bd1 (t_X10_within x1 (0 : Int32) (7 : Int32)) (fun v1 => if v1 = 0 then (some ((-1 : Int32), this_games_skills)) else (bd1 (t_X10_within x2 (0 : Int32) (99 : Int32)) (fun v3 => if v3 = 0 then (t_X10_skill_39   this_games_skills (-2 : Int32)) else (bd2 (t_X10_exchange 8 this_games_skills x1 x2) (fun v5 u5_0 => t_X10_skill_39   u5_0 v5)))))
set_option maxHeartbeats 4000000 in
set_option maxRecDepth 100000 in
theorem b_X10_skill_39 {p : Program} {l : Launch} {e : Env} {s : State} {m : MethodId} {args : Array Value} {below : List Frame} {meth : Method} {c : Code} {D : va_G} {A : Nat → Prop} {cI cJ cZ : ClassId} (X : Cx p m c cX10_skill 3 s args wsX10_skill RX10 D (tys3 cI cJ cZ) meth (some .int)) (_ _ _ : ClassId)  (h_this : Nat) (q_this : Nat → Nat) (q_this_games : Nat → Nat) (this_games_count : Int32) (this_games_base : Int32) (this_games_topLean : Int32) (this_games_topSpot : Int32) (r : Int32) (z0 : Nat → Int32)  (this_games_skills : Nat → Int32) (s0 : Int32) (hT : t_X10_skill_39   this_games_skills s0 = some (r, z0)) : J p l e rmX10_skill s m args below meth c D A 3 (QI D below args s A r (w_X10_skill cI cJ cZ h_this q_this q_this_games this_games_count this_games_base this_games_topLean this_games_topSpot z0)) 0 0 (w_X10_skill cI cJ cZ h_this q_this q_this_games this_games_count this_games_base this_games_topLean this_games_topSpot this_games_skills) [(0, .ref h_this)] [.int s0] 39 := by
  unfold t_X10_skill_39 at hT
  cases hT
  exact J_iret X dX10_skill_39
set_option maxHeartbeats 4000000 in
set_option maxRecDepth 100000 in
theorem c_X10_skill (l : Launch) (D : va_G) (cI cJ cZ : ClassId) (h_this : Nat) (q_this : Nat → Nat) (q_this_games : Nat → Nat) (this_games_count : Int32) (this_games_base : Int32) (this_games_topLean : Int32) (this_games_topSpot : Int32) (this_games_skills : Nat → Int32) (x1 : Int32) (x2 : Int32) (r : Int32) (z0 : Nat → Int32) (hT : t_X10_skill  this_games_skills x1 x2 = some (r, z0)) : Ci l yX10_skill wsX10_skill rmX10_skill D (tys3 cI cJ cZ) [.ref h_this, .int x1, .int x2] (w_X10_skill cI cJ cZ h_this q_this q_this_games this_games_count this_games_base this_games_topLean this_games_topSpot this_games_skills) r (w_X10_skill cI cJ cZ h_this q_this q_this_games this_games_count this_games_base this_games_topLean this_games_topSpot z0) := by
  refine Ci.ofJ (cc := cX10_skill) (nL := 3) (rt := (some .int)) (own := RX10) (by decide) rfl rfl (Nat.le_of_ble_eq_true rfl) ?_
  intro p e s m below meth c A X
  unfold t_X10_skill at hT
  refine J_lv (lv' := [(0, .ref h_this), (1, .int x1), (2, .int x2)]) [0, 1, 2] rfl ?_
  refine J_iload_n X dX10_skill_0 1 rfl ?_
  refine J_iconst (v := 0) X dX10_skill_1 (by decide) ?_
  refine J_bipush (v := 7) X dX10_skill_2 (by decide) ?_
  obtain ⟨v1, hq1, hT⟩ := bd1_e hT
  refine J_ci (wc := (w_X10_within cI cJ cZ )) (wc' := (w_X10_within cI cJ cZ )) (ws' := (w_X10_skill cI cJ cZ h_this q_this q_this_games this_games_count this_games_base this_games_topLean this_games_topSpot this_games_skills)) [] [0, 1, 2] 3 rfl rfl rfl rfl rfl rfl rfl rfl (run_S (As := [.int x1, .int (0 : Int32), .int (7 : Int32)]) (rest := []) X (c_X10_within l D cI cJ cZ  x1 (0 : Int32) (7 : Int32) v1 hq1) (cw_X10_skill_X10_within_76 X.1.2.2.2.2) rfl rfl (Nat.le_of_ble_eq_true rfl) dX10_skill_4 ⟨Nat.zero_le _, Nat.zero_le _⟩) ?_
  refine J_if_ne (tgt := 12) X dX10_skill_7 (by decide) (fun hc2 => ?_) (fun hc2 => ?_)
  · have hT := iff_ hT hc2
    refine J_iload_n X dX10_skill_12 2 rfl ?_
    refine J_iconst (v := 0) X dX10_skill_13 (by decide) ?_
    refine J_bipush (v := 99) X dX10_skill_14 (by decide) ?_
    obtain ⟨v3, hq3, hT⟩ := bd1_e hT
    refine J_ci (wc := (w_X10_within cI cJ cZ )) (wc' := (w_X10_within cI cJ cZ )) (ws' := (w_X10_skill cI cJ cZ h_this q_this q_this_games this_games_count this_games_base this_games_topLean this_games_topSpot this_games_skills)) [] [0, 1, 2] 3 rfl rfl rfl rfl rfl rfl rfl rfl (run_S (As := [.int x2, .int (0 : Int32), .int (99 : Int32)]) (rest := []) X (c_X10_within l D cI cJ cZ  x2 (0 : Int32) (99 : Int32) v3 hq3) (cw_X10_skill_X10_within_76 X.1.2.2.2.2) rfl rfl (Nat.le_of_ble_eq_true rfl) dX10_skill_16 ⟨Nat.zero_le _, Nat.zero_le _⟩) ?_
    refine J_if_eq (tgt := 37) X dX10_skill_19 (by decide) (fun hc4 => ?_) (fun hc4 => ?_)
    · have hT := ift hT hc4
      refine J_bipush (v := -2) X dX10_skill_37 (by decide) ?_
      refine J_lv (lv' := [(0, .ref h_this)]) [0] rfl ?_
      exact b_X10_skill_39 X cI cJ cZ h_this q_this q_this_games this_games_count this_games_base this_games_topLean this_games_topSpot r z0  this_games_skills (-2 : Int32) hT
    · have hT := iff_ hT hc4
      refine J_aload_n X dX10_skill_22 0 rfl ?_
      refine J_get (C := RX10) (T := TX10) (N := 10) (ci := 10) (v := .ref (q_this 0)) X in_X10_skill_X10 0 rfl rfl 0 (by decide) m_X10_skill_f12 rfl dX10_skill_23 ?_
      refine J_getN (host := "SoldMatches") (C := RX2) (T := TX2) (N := 13) (ci := 2) (v := .ref (q_this_games 2)) X in_X10_skill_X2 1 rfl rfl 2 (by decide) (List.mem_of_getElem? (i := 5) rfl) rfl dX10_skill_26 ?_
      refine J_iload_n X dX10_skill_29 1 rfl ?_
      refine J_iload_n X dX10_skill_30 2 rfl ?_
      obtain ⟨v5, u5_0, hq5, hT⟩ := bd2_e hT
      refine J_ci (wc := (w_X10_exchange cI cJ cZ (q_this_games 2) 8 this_games_skills)) (wc' := (w_X10_exchange cI cJ cZ (q_this_games 2) 8 u5_0)) (ws' := (w_X10_skill cI cJ cZ h_this q_this q_this_games this_games_count this_games_base this_games_topLean this_games_topSpot u5_0)) [2] [0, 1] 3 rfl rfl rfl rfl rfl rfl rfl rfl (run_S (As := [.ref (q_this_games 2), .int x1, .int x2]) (rest := []) X (c_X10_exchange l D cI cJ cZ (q_this_games 2) 8 this_games_skills x1 x2 v5 u5_0 hq5) (cw_X10_skill_X10_exchange_83 X.1.2.2.2.2) rfl rfl (Nat.le_of_ble_eq_true rfl) dX10_skill_31 ⟨Nat.zero_le _, Nat.zero_le _⟩) ?_
      refine J_goto (tgt := 39) X dX10_skill_34 (by decide) ?_
      refine J_lv (lv' := [(0, .ref h_this)]) [0] rfl ?_
      exact b_X10_skill_39 X cI cJ cZ h_this q_this q_this_games this_games_count this_games_base this_games_topLean this_games_topSpot r z0  u5_0 v5 hT
  · have hT := ift hT hc2
    refine J_iconst (v := -1) X dX10_skill_10 (by decide) ?_
    cases hT
    exact J_iret X dX10_skill_11
-- ===== SoldMatches.match(III)I
abbrev rmX10_match : Room := { frames := 1, cells := 0, slots := 0, locals := 23 }
def w_X10_match (cI cJ cZ : ClassId) (h_this : Nat) (q_this : Nat → Nat) (q_this_games : Nat → Nat) (this_games_count : Int32) (this_games_base : Int32) (this_games_topLean : Int32) (this_games_topSpot : Int32) (this_games_guest : Nat → Int32) (this_games_home : Nat → Int32) (this_games_referee : Nat → Int32) : va_W := [(h_this, .inr (10, oFX10 q_this )), ((q_this 0), .inr (2, oFX2 q_this_games this_games_count this_games_base this_games_topLean this_games_topSpot)), ((q_this_games 4), .inl (cI, 12, .inl this_games_guest)), ((q_this_games 3), .inl (cI, 12, .inl this_games_home)), ((q_this_games 5), .inl (cI, 12, .inl this_games_referee))]
theorem cw_X10_match_X10_within_76 {s : State} {args : Array Value} (hts : ∀ w ∈ wsX10_match, w.before args s = true) : CallB rmX10_match s args RX10 76 yX10_within cX10_within 3 (some .boolean) wsX10_within rmX10_within 0 0 3 ∧ (Cond.static yX10_within).before args s = true := va_cwS 3 hts gX10_match_X10_within rfl rfl rfl (by decide +kernel) ⟨by decide, by decide⟩
theorem m_X10_match_f12 : Cond.fieldLink RX10 12 "SoldMatches" "games" "LSoldMatches$Games;" ∈ wsX10_match := List.mem_of_getElem? (i := 1) rfl
theorem in_X10_match_X10 : ∀ w ∈ wsX100, w ∈ wsX10_match := fun w h => List.mem_cons_of_mem _ (List.mem_append_left _ (List.mem_append_right _ h))
theorem in_X10_match_X2 : ∀ w ∈ wsX20, w ∈ wsX10_match := fun w h => List.mem_cons_of_mem _ (List.mem_append_right _ h)
theorem cw_X10_match_X2_add_91 {s : State} {args : Array Value} (hts : ∀ w ∈ wsX10_match, w.before args s = true) : CallW rmX10_match s args RX10 RX2 91 yX2_add cX2_add 4 (some .int) wsX2_add rmX2_add 0 0 3 := cwV 3 hts gX10_match_X2_add rfl rfl rfl (by decide +kernel) ⟨by decide, by decide⟩
def t_X10_match_66   (this_games_count : Int32) (this_games_guest : Nat → Int32) (this_games_home : Nat → Int32) (this_games_referee : Nat → Int32) (s0 : Int32) : Option (Int32 × Int32 × (Nat → Int32) × (Nat → Int32) × (Nat → Int32)) := some (s0, this_games_count, this_games_guest, this_games_home, this_games_referee)
def t_X10_match  (this_games_count : Int32) (this_games_guest : Nat → Int32) (this_games_home : Nat → Int32) (this_games_referee : Nat → Int32) (x1 : Int32) (x2 : Int32) (x3 : Int32) : Option (Int32 × Int32 × (Nat → Int32) × (Nat → Int32) × (Nat → Int32)) := bd1 (t_X10_within x1 (0 : Int32) (7 : Int32)) (fun v1 => if v1 = 0 then (some ((-1 : Int32), this_games_count, this_games_guest, this_games_home, this_games_referee)) else (bd1 (t_X10_within x2 (0 : Int32) (7 : Int32)) (fun v3 => if v3 = 0 then (some ((-1 : Int32), this_games_count, this_games_guest, this_games_home, this_games_referee)) else (if x1 = x2 then (some ((-1 : Int32), this_games_count, this_games_guest, this_games_home, this_games_referee)) else (bd1 (t_X10_within x3 (0 : Int32) (5 : Int32)) (fun v6 => if v6 = 0 then (some ((-2 : Int32), this_games_count, this_games_guest, this_games_home, this_games_referee)) else (if (12 : Int32) ≤ this_games_count then (t_X10_match_66   this_games_count this_games_guest this_games_home this_games_referee (-4 : Int32)) else (bd5 (t_X2_add this_games_count this_games_guest this_games_home this_games_referee x1 x2 x3) (fun v9 u9_0 u9_1 u9_2 u9_3 => t_X10_match_66   u9_0 u9_1 u9_2 u9_3 v9)))))))))
set_option maxHeartbeats 4000000 in
set_option maxRecDepth 100000 in
theorem b_X10_match_66 {p : Program} {l : Launch} {e : Env} {s : State} {m : MethodId} {args : Array Value} {below : List Frame} {meth : Method} {c : Code} {D : va_G} {A : Nat → Prop} {cI cJ cZ : ClassId} (X : Cx p m c cX10_match 4 s args wsX10_match RX10 D (tys3 cI cJ cZ) meth (some .int)) (_ _ _ : ClassId)  (h_this : Nat) (q_this : Nat → Nat) (q_this_games : Nat → Nat) (this_games_base : Int32) (this_games_topLean : Int32) (this_games_topSpot : Int32) (r : Int32) (z0 : Int32) (z1 : Nat → Int32) (z2 : Nat → Int32) (z3 : Nat → Int32)  (this_games_count : Int32) (this_games_guest : Nat → Int32) (this_games_home : Nat → Int32) (this_games_referee : Nat → Int32) (s0 : Int32) (hT : t_X10_match_66   this_games_count this_games_guest this_games_home this_games_referee s0 = some (r, z0, z1, z2, z3)) : J p l e rmX10_match s m args below meth c D A 4 (QI D below args s A r (w_X10_match cI cJ cZ h_this q_this q_this_games z0 this_games_base this_games_topLean this_games_topSpot z1 z2 z3)) 0 0 (w_X10_match cI cJ cZ h_this q_this q_this_games this_games_count this_games_base this_games_topLean this_games_topSpot this_games_guest this_games_home this_games_referee) [(0, .ref h_this)] [.int s0] 66 := by
  unfold t_X10_match_66 at hT
  cases hT
  exact J_iret X dX10_match_66
set_option maxHeartbeats 4000000 in
set_option maxRecDepth 100000 in
theorem c_X10_match (l : Launch) (D : va_G) (cI cJ cZ : ClassId) (h_this : Nat) (q_this : Nat → Nat) (q_this_games : Nat → Nat) (this_games_count : Int32) (this_games_base : Int32) (this_games_topLean : Int32) (this_games_topSpot : Int32) (this_games_guest : Nat → Int32) (this_games_home : Nat → Int32) (this_games_referee : Nat → Int32) (x1 : Int32) (x2 : Int32) (x3 : Int32) (r : Int32) (z0 : Int32) (z1 : Nat → Int32) (z2 : Nat → Int32) (z3 : Nat → Int32) (hT : t_X10_match  this_games_count this_games_guest this_games_home this_games_referee x1 x2 x3 = some (r, z0, z1, z2, z3)) : Ci l yX10_match wsX10_match rmX10_match D (tys3 cI cJ cZ) [.ref h_this, .int x1, .int x2, .int x3] (w_X10_match cI cJ cZ h_this q_this q_this_games this_games_count this_games_base this_games_topLean this_games_topSpot this_games_guest this_games_home this_games_referee) r (w_X10_match cI cJ cZ h_this q_this q_this_games z0 this_games_base this_games_topLean this_games_topSpot z1 z2 z3) := by
  refine Ci.ofJ (cc := cX10_match) (nL := 4) (rt := (some .int)) (own := RX10) (by decide) rfl rfl (Nat.le_of_ble_eq_true rfl) ?_
  intro p e s m below meth c A X
  unfold t_X10_match at hT
  refine J_lv (lv' := [(0, .ref h_this), (1, .int x1), (2, .int x2), (3, .int x3)]) [0, 1, 2, 3] rfl ?_
  refine J_iload_n X dX10_match_0 1 rfl ?_
  refine J_iconst (v := 0) X dX10_match_1 (by decide) ?_
  refine J_bipush (v := 7) X dX10_match_2 (by decide) ?_
  obtain ⟨v1, hq1, hT⟩ := bd1_e hT
  refine J_ci (wc := (w_X10_within cI cJ cZ )) (wc' := (w_X10_within cI cJ cZ )) (ws' := (w_X10_match cI cJ cZ h_this q_this q_this_games this_games_count this_games_base this_games_topLean this_games_topSpot this_games_guest this_games_home this_games_referee)) [] [0, 1, 2, 3, 4] 5 rfl rfl rfl rfl rfl rfl rfl rfl (run_S (As := [.int x1, .int (0 : Int32), .int (7 : Int32)]) (rest := []) X (c_X10_within l D cI cJ cZ  x1 (0 : Int32) (7 : Int32) v1 hq1) (cw_X10_match_X10_within_76 X.1.2.2.2.2) rfl rfl (Nat.le_of_ble_eq_true rfl) dX10_match_4 ⟨Nat.zero_le _, Nat.zero_le _⟩) ?_
  refine J_if_eq (tgt := 25) X dX10_match_7 (by decide) (fun hc2 => ?_) (fun hc2 => ?_)
  · have hT := ift hT hc2
    refine J_iconst (v := -1) X dX10_match_25 (by decide) ?_
    cases hT
    exact J_iret X dX10_match_26
  · have hT := iff_ hT hc2
    refine J_iload_n X dX10_match_10 2 rfl ?_
    refine J_iconst (v := 0) X dX10_match_11 (by decide) ?_
    refine J_bipush (v := 7) X dX10_match_12 (by decide) ?_
    obtain ⟨v3, hq3, hT⟩ := bd1_e hT
    refine J_ci (wc := (w_X10_within cI cJ cZ )) (wc' := (w_X10_within cI cJ cZ )) (ws' := (w_X10_match cI cJ cZ h_this q_this q_this_games this_games_count this_games_base this_games_topLean this_games_topSpot this_games_guest this_games_home this_games_referee)) [] [0, 1, 2, 3, 4] 5 rfl rfl rfl rfl rfl rfl rfl rfl (run_S (As := [.int x2, .int (0 : Int32), .int (7 : Int32)]) (rest := []) X (c_X10_within l D cI cJ cZ  x2 (0 : Int32) (7 : Int32) v3 hq3) (cw_X10_match_X10_within_76 X.1.2.2.2.2) rfl rfl (Nat.le_of_ble_eq_true rfl) dX10_match_14 ⟨Nat.zero_le _, Nat.zero_le _⟩) ?_
    refine J_if_eq (tgt := 25) X dX10_match_17 (by decide) (fun hc4 => ?_) (fun hc4 => ?_)
    · have hT := ift hT hc4
      refine J_iconst (v := -1) X dX10_match_25 (by decide) ?_
      cases hT
      exact J_iret X dX10_match_26
    · have hT := iff_ hT hc4
      refine J_iload_n X dX10_match_20 1 rfl ?_
      refine J_iload_n X dX10_match_21 2 rfl ?_
      refine J_icmp_ne (tgt := 27) X dX10_match_22 (by decide) (fun hc5 => ?_) (fun hc5 => ?_)
      · have hT := iff_ hT hc5
        refine J_iload_n X dX10_match_27 3 rfl ?_
        refine J_iconst (v := 0) X dX10_match_28 (by decide) ?_
        refine J_iconst (v := 5) X dX10_match_29 (by decide) ?_
        obtain ⟨v6, hq6, hT⟩ := bd1_e hT
        refine J_ci (wc := (w_X10_within cI cJ cZ )) (wc' := (w_X10_within cI cJ cZ )) (ws' := (w_X10_match cI cJ cZ h_this q_this q_this_games this_games_count this_games_base this_games_topLean this_games_topSpot this_games_guest this_games_home this_games_referee)) [] [0, 1, 2, 3, 4] 5 rfl rfl rfl rfl rfl rfl rfl rfl (run_S (As := [.int x3, .int (0 : Int32), .int (5 : Int32)]) (rest := []) X (c_X10_within l D cI cJ cZ  x3 (0 : Int32) (5 : Int32) v6 hq6) (cw_X10_match_X10_within_76 X.1.2.2.2.2) rfl rfl (Nat.le_of_ble_eq_true rfl) dX10_match_30 ⟨Nat.zero_le _, Nat.zero_le _⟩) ?_
        refine J_if_ne (tgt := 39) X dX10_match_33 (by decide) (fun hc7 => ?_) (fun hc7 => ?_)
        · have hT := iff_ hT hc7
          refine J_aload_n X dX10_match_39 0 rfl ?_
          refine J_get (C := RX10) (T := TX10) (N := 10) (ci := 10) (v := .ref (q_this 0)) X in_X10_match_X10 0 rfl rfl 0 (by decide) m_X10_match_f12 rfl dX10_match_40 ?_
          refine J_getN (host := "SoldMatches") (C := RX2) (T := TX2) (N := 13) (ci := 2) (v := .int this_games_count) X in_X10_match_X2 1 rfl rfl 0 (by decide) (List.mem_of_getElem? (i := 3) rfl) rfl dX10_match_43 ?_
          refine J_bipush (v := 12) X dX10_match_46 (by decide) ?_
          refine J_icmp_ge (tgt := 64) X dX10_match_48 (by decide) (fun hc8 => ?_) (fun hc8 => ?_)
          · have hT := ift hT hc8
            refine J_bipush (v := -4) X dX10_match_64 (by decide) ?_
            refine J_lv (lv' := [(0, .ref h_this)]) [0] rfl ?_
            exact b_X10_match_66 X cI cJ cZ h_this q_this q_this_games this_games_base this_games_topLean this_games_topSpot r z0 z1 z2 z3  this_games_count this_games_guest this_games_home this_games_referee (-4 : Int32) hT
          · have hT := iff_ hT hc8
            refine J_aload_n X dX10_match_51 0 rfl ?_
            refine J_get (C := RX10) (T := TX10) (N := 10) (ci := 10) (v := .ref (q_this 0)) X in_X10_match_X10 0 rfl rfl 0 (by decide) m_X10_match_f12 rfl dX10_match_52 ?_
            refine J_iload_n X dX10_match_55 1 rfl ?_
            refine J_iload_n X dX10_match_56 2 rfl ?_
            refine J_iload_n X dX10_match_57 3 rfl ?_
            obtain ⟨v9, u9_0, u9_1, u9_2, u9_3, hq9, hT⟩ := bd5_e hT
            refine J_ci (wc := (w_X2_add cI cJ cZ (q_this 0) q_this_games this_games_count this_games_base this_games_topLean this_games_topSpot this_games_guest this_games_home this_games_referee)) (wc' := (w_X2_add cI cJ cZ (q_this 0) q_this_games u9_0 this_games_base this_games_topLean this_games_topSpot u9_1 u9_2 u9_3)) (ws' := (w_X10_match cI cJ cZ h_this q_this q_this_games u9_0 this_games_base this_games_topLean this_games_topSpot u9_1 u9_2 u9_3)) [1, 2, 3, 4] [0] 5 rfl rfl rfl rfl rfl rfl rfl rfl (run_V (As := [.int x1, .int x2, .int x3]) (rest := []) X (c_X2_add l D cI cJ cZ (q_this 0) q_this_games this_games_count this_games_base this_games_topLean this_games_topSpot this_games_guest this_games_home this_games_referee x1 x2 x3 v9 u9_0 u9_1 u9_2 u9_3 hq9) (cw_X10_match_X2_add_91 X.1.2.2.2.2) 0 rfl rfl rfl rfl (Nat.le_of_ble_eq_true rfl) dX10_match_58 ⟨Nat.zero_le _, Nat.zero_le _⟩) ?_
            refine J_goto (tgt := 66) X dX10_match_61 (by decide) ?_
            refine J_lv (lv' := [(0, .ref h_this)]) [0] rfl ?_
            exact b_X10_match_66 X cI cJ cZ h_this q_this q_this_games this_games_base this_games_topLean this_games_topSpot r z0 z1 z2 z3  u9_0 u9_1 u9_2 u9_3 v9 hT
        · have hT := ift hT hc7
          refine J_bipush (v := -2) X dX10_match_36 (by decide) ?_
          cases hT
          exact J_iret X dX10_match_38
      · have hT := ift hT hc5
        refine J_iconst (v := -1) X dX10_match_25 (by decide) ?_
        cases hT
        exact J_iret X dX10_match_26
-- ===== SoldMatches.goal(III)I
abbrev rmX10_goal : Room := { frames := 1, cells := 0, slots := 0, locals := 23 }
def w_X10_goal (cI cJ cZ : ClassId) (h_this : Nat) (q_this : Nat → Nat) (q_this_games : Nat → Nat) (this_games_count : Int32) (this_games_base : Int32) (this_games_topLean : Int32) (this_games_topSpot : Int32) (this_games_goals : Nat → Int32) : va_W := [(h_this, .inr (10, oFX10 q_this )), ((q_this 0), .inr (2, oFX2 q_this_games this_games_count this_games_base this_games_topLean this_games_topSpot)), ((q_this_games 8), .inl (cI, 72, .inl this_games_goals))]
theorem m_X10_goal_f12 : Cond.fieldLink RX10 12 "SoldMatches" "games" "LSoldMatches$Games;" ∈ wsX10_goal := List.mem_of_getElem? (i := 1) rfl
theorem in_X10_goal_X10 : ∀ w ∈ wsX100, w ∈ wsX10_goal := fun w h => List.mem_cons_of_mem _ (List.mem_append_left _ (List.mem_append_right _ h))
theorem cw_X10_goal_X2_has_95 {s : State} {args : Array Value} (hts : ∀ w ∈ wsX10_goal, w.before args s = true) : CallW rmX10_goal s args RX10 RX2 95 yX2_has cX2_has 2 (some .boolean) wsX2_has rmX2_has 0 0 1 := cwV 1 hts gX10_goal_X2_has rfl rfl rfl (by decide +kernel) ⟨by decide, by decide⟩
theorem cw_X10_goal_X10_within_76 {s : State} {args : Array Value} (hts : ∀ w ∈ wsX10_goal, w.before args s = true) : CallB rmX10_goal s args RX10 76 yX10_within cX10_within 3 (some .boolean) wsX10_within rmX10_within 0 0 3 ∧ (Cond.static yX10_within).before args s = true := va_cwS 3 hts gX10_goal_X10_within rfl rfl rfl (by decide +kernel) ⟨by decide, by decide⟩
theorem in_X10_goal_X2 : ∀ w ∈ wsX20, w ∈ wsX10_goal := fun w h => List.mem_cons_of_mem _ (List.mem_append_right _ h)
theorem cw_X10_goal_X10_exchange_83 {s : State} {args : Array Value} (hts : ∀ w ∈ wsX10_goal, w.before args s = true) : CallB rmX10_goal s args RX10 83 yX10_exchange cX10_exchange 4 (some .int) wsX10_exchange rmX10_exchange 0 0 3 ∧ (Cond.static yX10_exchange).before args s = true := va_cwS 3 hts gX10_goal_X10_exchange rfl rfl rfl (by decide +kernel) ⟨by decide, by decide⟩
def t_X10_goal  (this_games_count : Int32) (this_games_goals : Nat → Int32) (x1 : Int32) (x2 : Int32) (x3 : Int32) : Option (Int32 × (Nat → Int32)) := bd1 (t_X2_has this_games_count x1) (fun v1 => if v1 = 0 then (some ((-1 : Int32), this_games_goals)) else (bd1 (t_X10_within x2 (0 : Int32) (5 : Int32)) (fun v3 => if v3 = 0 then (some ((-2 : Int32), this_games_goals)) else (bd1 (t_X10_within x3 (0 : Int32) (2 : Int32)) (fun v5 => if v5 = 0 then (some ((-2 : Int32), this_games_goals)) else (bd2 (t_X10_exchange 72 this_games_goals ((x1 * (6 : Int32)) + x2) x3) (fun v7 u7_0 => some (v7, u7_0))))))))
set_option maxHeartbeats 4000000 in
set_option maxRecDepth 100000 in
theorem c_X10_goal (l : Launch) (D : va_G) (cI cJ cZ : ClassId) (h_this : Nat) (q_this : Nat → Nat) (q_this_games : Nat → Nat) (this_games_count : Int32) (this_games_base : Int32) (this_games_topLean : Int32) (this_games_topSpot : Int32) (this_games_goals : Nat → Int32) (x1 : Int32) (x2 : Int32) (x3 : Int32) (r : Int32) (z0 : Nat → Int32) (hT : t_X10_goal  this_games_count this_games_goals x1 x2 x3 = some (r, z0)) : Ci l yX10_goal wsX10_goal rmX10_goal D (tys3 cI cJ cZ) [.ref h_this, .int x1, .int x2, .int x3] (w_X10_goal cI cJ cZ h_this q_this q_this_games this_games_count this_games_base this_games_topLean this_games_topSpot this_games_goals) r (w_X10_goal cI cJ cZ h_this q_this q_this_games this_games_count this_games_base this_games_topLean this_games_topSpot z0) := by
  refine Ci.ofJ (cc := cX10_goal) (nL := 4) (rt := (some .int)) (own := RX10) (by decide) rfl rfl (Nat.le_of_ble_eq_true rfl) ?_
  intro p e s m below meth c A X
  unfold t_X10_goal at hT
  refine J_lv (lv' := [(0, .ref h_this), (1, .int x1), (2, .int x2), (3, .int x3)]) [0, 1, 2, 3] rfl ?_
  refine J_aload_n X dX10_goal_0 0 rfl ?_
  refine J_get (C := RX10) (T := TX10) (N := 10) (ci := 10) (v := .ref (q_this 0)) X in_X10_goal_X10 0 rfl rfl 0 (by decide) m_X10_goal_f12 rfl dX10_goal_1 ?_
  refine J_iload_n X dX10_goal_4 1 rfl ?_
  obtain ⟨v1, hq1, hT⟩ := bd1_e hT
  refine J_ci (wc := (w_X2_has cI cJ cZ (q_this 0) q_this_games this_games_count this_games_base this_games_topLean this_games_topSpot)) (wc' := (w_X2_has cI cJ cZ (q_this 0) q_this_games this_games_count this_games_base this_games_topLean this_games_topSpot)) (ws' := (w_X10_goal cI cJ cZ h_this q_this q_this_games this_games_count this_games_base this_games_topLean this_games_topSpot this_games_goals)) [1] [0, 2] 3 rfl rfl rfl rfl rfl rfl rfl rfl (run_V (As := [.int x1]) (rest := []) X (c_X2_has l D cI cJ cZ (q_this 0) q_this_games this_games_count this_games_base this_games_topLean this_games_topSpot x1 v1 hq1) (cw_X10_goal_X2_has_95 X.1.2.2.2.2) 0 rfl rfl rfl rfl (Nat.le_of_ble_eq_true rfl) dX10_goal_5 ⟨Nat.zero_le _, Nat.zero_le _⟩) ?_
  refine J_if_ne (tgt := 13) X dX10_goal_8 (by decide) (fun hc2 => ?_) (fun hc2 => ?_)
  · have hT := iff_ hT hc2
    refine J_iload_n X dX10_goal_13 2 rfl ?_
    refine J_iconst (v := 0) X dX10_goal_14 (by decide) ?_
    refine J_iconst (v := 5) X dX10_goal_15 (by decide) ?_
    obtain ⟨v3, hq3, hT⟩ := bd1_e hT
    refine J_ci (wc := (w_X10_within cI cJ cZ )) (wc' := (w_X10_within cI cJ cZ )) (ws' := (w_X10_goal cI cJ cZ h_this q_this q_this_games this_games_count this_games_base this_games_topLean this_games_topSpot this_games_goals)) [] [0, 1, 2] 3 rfl rfl rfl rfl rfl rfl rfl rfl (run_S (As := [.int x2, .int (0 : Int32), .int (5 : Int32)]) (rest := []) X (c_X10_within l D cI cJ cZ  x2 (0 : Int32) (5 : Int32) v3 hq3) (cw_X10_goal_X10_within_76 X.1.2.2.2.2) rfl rfl (Nat.le_of_ble_eq_true rfl) dX10_goal_16 ⟨Nat.zero_le _, Nat.zero_le _⟩) ?_
    refine J_if_eq (tgt := 31) X dX10_goal_19 (by decide) (fun hc4 => ?_) (fun hc4 => ?_)
    · have hT := ift hT hc4
      refine J_bipush (v := -2) X dX10_goal_31 (by decide) ?_
      cases hT
      exact J_iret X dX10_goal_33
    · have hT := iff_ hT hc4
      refine J_iload_n X dX10_goal_22 3 rfl ?_
      refine J_iconst (v := 0) X dX10_goal_23 (by decide) ?_
      refine J_iconst (v := 2) X dX10_goal_24 (by decide) ?_
      obtain ⟨v5, hq5, hT⟩ := bd1_e hT
      refine J_ci (wc := (w_X10_within cI cJ cZ )) (wc' := (w_X10_within cI cJ cZ )) (ws' := (w_X10_goal cI cJ cZ h_this q_this q_this_games this_games_count this_games_base this_games_topLean this_games_topSpot this_games_goals)) [] [0, 1, 2] 3 rfl rfl rfl rfl rfl rfl rfl rfl (run_S (As := [.int x3, .int (0 : Int32), .int (2 : Int32)]) (rest := []) X (c_X10_within l D cI cJ cZ  x3 (0 : Int32) (2 : Int32) v5 hq5) (cw_X10_goal_X10_within_76 X.1.2.2.2.2) rfl rfl (Nat.le_of_ble_eq_true rfl) dX10_goal_25 ⟨Nat.zero_le _, Nat.zero_le _⟩) ?_
      refine J_if_ne (tgt := 34) X dX10_goal_28 (by decide) (fun hc6 => ?_) (fun hc6 => ?_)
      · have hT := iff_ hT hc6
        refine J_aload_n X dX10_goal_34 0 rfl ?_
        refine J_get (C := RX10) (T := TX10) (N := 10) (ci := 10) (v := .ref (q_this 0)) X in_X10_goal_X10 0 rfl rfl 0 (by decide) m_X10_goal_f12 rfl dX10_goal_35 ?_
        refine J_getN (host := "SoldMatches") (C := RX2) (T := TX2) (N := 13) (ci := 2) (v := .ref (q_this_games 8)) X in_X10_goal_X2 1 rfl rfl 8 (by decide) (List.mem_of_getElem? (i := 15) rfl) rfl dX10_goal_38 ?_
        refine J_iload_n X dX10_goal_41 1 rfl ?_
        refine J_bipush (v := 6) X dX10_goal_42 (by decide) ?_
        refine J_imul X dX10_goal_44 ?_
        refine J_iload_n X dX10_goal_45 2 rfl ?_
        refine J_iadd X dX10_goal_46 ?_
        refine J_iload_n X dX10_goal_47 3 rfl ?_
        obtain ⟨v7, u7_0, hq7, hT⟩ := bd2_e hT
        refine J_ci (wc := (w_X10_exchange cI cJ cZ (q_this_games 8) 72 this_games_goals)) (wc' := (w_X10_exchange cI cJ cZ (q_this_games 8) 72 u7_0)) (ws' := (w_X10_goal cI cJ cZ h_this q_this q_this_games this_games_count this_games_base this_games_topLean this_games_topSpot u7_0)) [2] [0, 1] 3 rfl rfl rfl rfl rfl rfl rfl rfl (run_S (As := [.ref (q_this_games 8), .int ((x1 * (6 : Int32)) + x2), .int x3]) (rest := []) X (c_X10_exchange l D cI cJ cZ (q_this_games 8) 72 this_games_goals ((x1 * (6 : Int32)) + x2) x3 v7 u7_0 hq7) (cw_X10_goal_X10_exchange_83 X.1.2.2.2.2) rfl rfl (Nat.le_of_ble_eq_true rfl) dX10_goal_48 ⟨Nat.zero_le _, Nat.zero_le _⟩) ?_
        cases hT
        exact J_iret X dX10_goal_51
      · have hT := ift hT hc6
        refine J_bipush (v := -2) X dX10_goal_31 (by decide) ?_
        cases hT
        exact J_iret X dX10_goal_33
  · have hT := ift hT hc2
    refine J_iconst (v := -1) X dX10_goal_11 (by decide) ?_
    cases hT
    exact J_iret X dX10_goal_12
-- ===== SoldMatches.ofMatch(II)I
abbrev rmX10_ofMatch : Room := { frames := 3, cells := 0, slots := 0, locals := 68 }
def w_X10_ofMatch (cI cJ cZ : ClassId) (h_this : Nat) (q_this : Nat → Nat) (q_this_games : Nat → Nat) (this_games_count : Int32) (this_games_base : Int32) (this_games_topLean : Int32) (this_games_topSpot : Int32) (this_games_fee : Nat → Int32) (this_games_goals : Nat → Int32) (this_games_guest : Nat → Int32) (this_games_home : Nat → Int32) (this_games_hour : Nat → Int32) (this_games_referee : Nat → Int32) : va_W := [(h_this, .inr (10, oFX10 q_this )), ((q_this 0), .inr (2, oFX2 q_this_games this_games_count this_games_base this_games_topLean this_games_topSpot)), ((q_this_games 7), .inl (cI, 12, .inl this_games_fee)), ((q_this_games 8), .inl (cI, 72, .inl this_games_goals)), ((q_this_games 4), .inl (cI, 12, .inl this_games_guest)), ((q_this_games 3), .inl (cI, 12, .inl this_games_home)), ((q_this_games 6), .inl (cI, 12, .inl this_games_hour)), ((q_this_games 5), .inl (cI, 12, .inl this_games_referee))]
theorem m_X10_ofMatch_f12 : Cond.fieldLink RX10 12 "SoldMatches" "games" "LSoldMatches$Games;" ∈ wsX10_ofMatch := List.mem_of_getElem? (i := 1) rfl
theorem in_X10_ofMatch_X10 : ∀ w ∈ wsX100, w ∈ wsX10_ofMatch := fun w h => List.mem_cons_of_mem _ (List.mem_append_left _ (List.mem_append_right _ h))
theorem cw_X10_ofMatch_X2_has_95 {s : State} {args : Array Value} (hts : ∀ w ∈ wsX10_ofMatch, w.before args s = true) : CallW rmX10_ofMatch s args RX10 RX2 95 yX2_has cX2_has 2 (some .boolean) wsX2_has rmX2_has 0 0 1 := cwV 1 hts gX10_ofMatch_X2_has rfl rfl rfl (by decide +kernel) ⟨by decide, by decide⟩
theorem in_X10_ofMatch_X2 : ∀ w ∈ wsX20, w ∈ wsX10_ofMatch := fun w h => List.mem_cons_of_mem _ (List.mem_append_right _ h)
theorem cw_X10_ofMatch_X2_goalsAhead_111 {s : State} {args : Array Value} (hts : ∀ w ∈ wsX10_ofMatch, w.before args s = true) : CallW rmX10_ofMatch s args RX10 RX2 111 yX2_goalsAhead cX2_goalsAhead 6 (some .int) wsX2_goalsAhead rmX2_goalsAhead 0 0 3 := cwV 3 hts gX10_ofMatch_X2_goalsAhead rfl rfl rfl (by decide +kernel) ⟨by decide, by decide⟩
theorem cw_X10_ofMatch_X2_endOf_114 {s : State} {args : Array Value} (hts : ∀ w ∈ wsX10_ofMatch, w.before args s = true) : CallW rmX10_ofMatch s args RX10 RX2 114 yX2_endOf cX2_endOf 2 (some .int) wsX2_endOf rmX2_endOf 0 0 1 := cwV 1 hts gX10_ofMatch_X2_endOf rfl rfl rfl (by decide +kernel) ⟨by decide, by decide⟩
def t_X10_ofMatch  (this_games_count : Int32) (this_games_fee : Nat → Int32) (this_games_goals : Nat → Int32) (this_games_guest : Nat → Int32) (this_games_home : Nat → Int32) (this_games_hour : Nat → Int32) (this_games_referee : Nat → Int32) (x1 : Int32) (x2 : Int32) : Option (Int32) := bd1 (t_X2_has this_games_count x1) (fun v1 => if v1 = 0 then (some ((-1 : Int32))) else (if x2 = 0 then (ckn (x1 < 0 ∨ 12 ≤ x1.toNatClampNeg) (some (this_games_home x1.toNatClampNeg))) else (if x2 = 1 then (ckn (x1 < 0 ∨ 12 ≤ x1.toNatClampNeg) (some (this_games_guest x1.toNatClampNeg))) else (if x2 = 2 then (ckn (x1 < 0 ∨ 12 ≤ x1.toNatClampNeg) (some (this_games_referee x1.toNatClampNeg))) else (if x2 = 3 then (bd1 (t_X2_goalsAhead this_games_goals x1 (6 : Int32) (1 : Int32)) (fun v10 => some (v10))) else (if x2 = 4 then (bd1 (t_X2_goalsAhead this_games_goals x1 (6 : Int32) (2 : Int32)) (fun v12 => some (v12))) else (if x2 = 5 then (bd1 (t_X2_endOf this_games_goals x1) (fun v14 => some (v14))) else (if x2 = 6 then (ckn (x1 < 0 ∨ 12 ≤ x1.toNatClampNeg) (some (this_games_hour x1.toNatClampNeg))) else (if x2 = 7 then (ckn (x1 < 0 ∨ 12 ≤ x1.toNatClampNeg) (some (this_games_fee x1.toNatClampNeg))) else (some ((-2 : Int32))))))))))))
set_option maxHeartbeats 4000000 in
set_option maxRecDepth 100000 in
theorem c_X10_ofMatch (l : Launch) (D : va_G) (cI cJ cZ : ClassId) (h_this : Nat) (q_this : Nat → Nat) (q_this_games : Nat → Nat) (this_games_count : Int32) (this_games_base : Int32) (this_games_topLean : Int32) (this_games_topSpot : Int32) (this_games_fee : Nat → Int32) (this_games_goals : Nat → Int32) (this_games_guest : Nat → Int32) (this_games_home : Nat → Int32) (this_games_hour : Nat → Int32) (this_games_referee : Nat → Int32) (x1 : Int32) (x2 : Int32) (r : Int32) (hT : t_X10_ofMatch  this_games_count this_games_fee this_games_goals this_games_guest this_games_home this_games_hour this_games_referee x1 x2 = some r) : Ci l yX10_ofMatch wsX10_ofMatch rmX10_ofMatch D (tys3 cI cJ cZ) [.ref h_this, .int x1, .int x2] (w_X10_ofMatch cI cJ cZ h_this q_this q_this_games this_games_count this_games_base this_games_topLean this_games_topSpot this_games_fee this_games_goals this_games_guest this_games_home this_games_hour this_games_referee) r (w_X10_ofMatch cI cJ cZ h_this q_this q_this_games this_games_count this_games_base this_games_topLean this_games_topSpot this_games_fee this_games_goals this_games_guest this_games_home this_games_hour this_games_referee) := by
  refine Ci.ofJ (cc := cX10_ofMatch) (nL := 3) (rt := (some .int)) (own := RX10) (by decide) rfl rfl (Nat.le_of_ble_eq_true rfl) ?_
  intro p e s m below meth c A X
  unfold t_X10_ofMatch at hT
  refine J_lv (lv' := [(0, .ref h_this), (1, .int x1), (2, .int x2)]) [0, 1, 2] rfl ?_
  refine J_aload_n X dX10_ofMatch_0 0 rfl ?_
  refine J_get (C := RX10) (T := TX10) (N := 10) (ci := 10) (v := .ref (q_this 0)) X in_X10_ofMatch_X10 0 rfl rfl 0 (by decide) m_X10_ofMatch_f12 rfl dX10_ofMatch_1 ?_
  refine J_iload_n X dX10_ofMatch_4 1 rfl ?_
  obtain ⟨v1, hq1, hT⟩ := bd1_e hT
  refine J_ci (wc := (w_X2_has cI cJ cZ (q_this 0) q_this_games this_games_count this_games_base this_games_topLean this_games_topSpot)) (wc' := (w_X2_has cI cJ cZ (q_this 0) q_this_games this_games_count this_games_base this_games_topLean this_games_topSpot)) (ws' := (w_X10_ofMatch cI cJ cZ h_this q_this q_this_games this_games_count this_games_base this_games_topLean this_games_topSpot this_games_fee this_games_goals this_games_guest this_games_home this_games_hour this_games_referee)) (idxs [false, true, false, false, false, false, false, false] 0) (idxs [true, false, true, true, true, true, true, true] 0) 8 rfl rfl rfl (pick_C _ rfl rfl) rfl (pick_C _ rfl rfl) rfl (pick_R _ rfl rfl rfl) (run_V (As := [.int x1]) (rest := []) X (c_X2_has l D cI cJ cZ (q_this 0) q_this_games this_games_count this_games_base this_games_topLean this_games_topSpot x1 v1 hq1) (cw_X10_ofMatch_X2_has_95 X.1.2.2.2.2) 0 rfl rfl rfl rfl (Nat.le_of_ble_eq_true rfl) dX10_ofMatch_5 ⟨Nat.zero_le _, Nat.zero_le _⟩) ?_
  refine J_if_ne (tgt := 13) X dX10_ofMatch_8 (by decide) (fun hc2 => ?_) (fun hc2 => ?_)
  · have hT := iff_ hT hc2
    refine J_iload_n X dX10_ofMatch_13 2 rfl ?_
    refine J_if (x2 = 0) (fun hc3 => ?_) (fun hc3 => ?_)
    · have hT := ift hT hc3
      refine J_tsK (tgt := 60) X dX10_ofMatch_14 0 hc3 (by decide) (by decide) rfl (by decide) ?_
      refine J_aload_n X dX10_ofMatch_60 0 rfl ?_
      refine J_get (C := RX10) (T := TX10) (N := 10) (ci := 10) (v := .ref (q_this 0)) X in_X10_ofMatch_X10 0 rfl rfl 0 (by decide) m_X10_ofMatch_f12 rfl dX10_ofMatch_61 ?_
      refine J_getN (host := "SoldMatches") (C := RX2) (T := TX2) (N := 13) (ci := 2) (v := .ref (q_this_games 3)) X in_X10_ofMatch_X2 1 rfl rfl 3 (by decide) (List.mem_of_getElem? (i := 7) rfl) rfl dX10_ofMatch_64 ?_
      refine J_iload_n X dX10_ofMatch_67 1 rfl ?_
      obtain ⟨hk4, hT⟩ := ckn_e hT
      refine J_iald X 5 rfl rfl hk4 dX10_ofMatch_68 ?_
      cases hT
      exact J_iret X dX10_ofMatch_69
    · have hT := iff_ hT hc3
      refine J_if (x2 = 1) (fun hc5 => ?_) (fun hc5 => ?_)
      · have hT := ift hT hc5
        refine J_tsK (tgt := 70) X dX10_ofMatch_14 1 hc5 (by decide) (by decide) rfl (by decide) ?_
        refine J_aload_n X dX10_ofMatch_70 0 rfl ?_
        refine J_get (C := RX10) (T := TX10) (N := 10) (ci := 10) (v := .ref (q_this 0)) X in_X10_ofMatch_X10 0 rfl rfl 0 (by decide) m_X10_ofMatch_f12 rfl dX10_ofMatch_71 ?_
        refine J_getN (host := "SoldMatches") (C := RX2) (T := TX2) (N := 13) (ci := 2) (v := .ref (q_this_games 4)) X in_X10_ofMatch_X2 1 rfl rfl 4 (by decide) (List.mem_of_getElem? (i := 9) rfl) rfl dX10_ofMatch_74 ?_
        refine J_iload_n X dX10_ofMatch_77 1 rfl ?_
        obtain ⟨hk6, hT⟩ := ckn_e hT
        refine J_iald X 4 rfl rfl hk6 dX10_ofMatch_78 ?_
        cases hT
        exact J_iret X dX10_ofMatch_79
      · have hT := iff_ hT hc5
        refine J_if (x2 = 2) (fun hc7 => ?_) (fun hc7 => ?_)
        · have hT := ift hT hc7
          refine J_tsK (tgt := 80) X dX10_ofMatch_14 2 hc7 (by decide) (by decide) rfl (by decide) ?_
          refine J_aload_n X dX10_ofMatch_80 0 rfl ?_
          refine J_get (C := RX10) (T := TX10) (N := 10) (ci := 10) (v := .ref (q_this 0)) X in_X10_ofMatch_X10 0 rfl rfl 0 (by decide) m_X10_ofMatch_f12 rfl dX10_ofMatch_81 ?_
          refine J_getN (host := "SoldMatches") (C := RX2) (T := TX2) (N := 13) (ci := 2) (v := .ref (q_this_games 5)) X in_X10_ofMatch_X2 1 rfl rfl 5 (by decide) (List.mem_of_getElem? (i := 11) rfl) rfl dX10_ofMatch_84 ?_
          refine J_iload_n X dX10_ofMatch_87 1 rfl ?_
          obtain ⟨hk8, hT⟩ := ckn_e hT
          refine J_iald X 7 rfl rfl hk8 dX10_ofMatch_88 ?_
          cases hT
          exact J_iret X dX10_ofMatch_89
        · have hT := iff_ hT hc7
          refine J_if (x2 = 3) (fun hc9 => ?_) (fun hc9 => ?_)
          · have hT := ift hT hc9
            refine J_tsK (tgt := 90) X dX10_ofMatch_14 3 hc9 (by decide) (by decide) rfl (by decide) ?_
            refine J_aload_n X dX10_ofMatch_90 0 rfl ?_
            refine J_get (C := RX10) (T := TX10) (N := 10) (ci := 10) (v := .ref (q_this 0)) X in_X10_ofMatch_X10 0 rfl rfl 0 (by decide) m_X10_ofMatch_f12 rfl dX10_ofMatch_91 ?_
            refine J_iload_n X dX10_ofMatch_94 1 rfl ?_
            refine J_bipush (v := 6) X dX10_ofMatch_95 (by decide) ?_
            refine J_iconst (v := 1) X dX10_ofMatch_97 (by decide) ?_
            obtain ⟨v10, hq10, hT⟩ := bd1_e hT
            refine J_ci (wc := (w_X2_goalsAhead cI cJ cZ (q_this 0) q_this_games this_games_count this_games_base this_games_topLean this_games_topSpot this_games_goals)) (wc' := (w_X2_goalsAhead cI cJ cZ (q_this 0) q_this_games this_games_count this_games_base this_games_topLean this_games_topSpot this_games_goals)) (ws' := (w_X10_ofMatch cI cJ cZ h_this q_this q_this_games this_games_count this_games_base this_games_topLean this_games_topSpot this_games_fee this_games_goals this_games_guest this_games_home this_games_hour this_games_referee)) (idxs [false, true, false, true, false, false, false, false] 0) (idxs [true, false, true, false, true, true, true, true] 0) 8 rfl rfl rfl (pick_C _ rfl rfl) rfl (pick_C _ rfl rfl) rfl (pick_R _ rfl rfl rfl) (run_V (As := [.int x1, .int (6 : Int32), .int (1 : Int32)]) (rest := []) X (c_X2_goalsAhead l D cI cJ cZ (q_this 0) q_this_games this_games_count this_games_base this_games_topLean this_games_topSpot this_games_goals x1 (6 : Int32) (1 : Int32) v10 hq10) (cw_X10_ofMatch_X2_goalsAhead_111 X.1.2.2.2.2) 0 rfl rfl rfl rfl (Nat.le_of_ble_eq_true rfl) dX10_ofMatch_98 ⟨Nat.zero_le _, Nat.zero_le _⟩) ?_
            cases hT
            exact J_iret X dX10_ofMatch_101
          · have hT := iff_ hT hc9
            refine J_if (x2 = 4) (fun hc11 => ?_) (fun hc11 => ?_)
            · have hT := ift hT hc11
              refine J_tsK (tgt := 102) X dX10_ofMatch_14 4 hc11 (by decide) (by decide) rfl (by decide) ?_
              refine J_aload_n X dX10_ofMatch_102 0 rfl ?_
              refine J_get (C := RX10) (T := TX10) (N := 10) (ci := 10) (v := .ref (q_this 0)) X in_X10_ofMatch_X10 0 rfl rfl 0 (by decide) m_X10_ofMatch_f12 rfl dX10_ofMatch_103 ?_
              refine J_iload_n X dX10_ofMatch_106 1 rfl ?_
              refine J_bipush (v := 6) X dX10_ofMatch_107 (by decide) ?_
              refine J_iconst (v := 2) X dX10_ofMatch_109 (by decide) ?_
              obtain ⟨v12, hq12, hT⟩ := bd1_e hT
              refine J_ci (wc := (w_X2_goalsAhead cI cJ cZ (q_this 0) q_this_games this_games_count this_games_base this_games_topLean this_games_topSpot this_games_goals)) (wc' := (w_X2_goalsAhead cI cJ cZ (q_this 0) q_this_games this_games_count this_games_base this_games_topLean this_games_topSpot this_games_goals)) (ws' := (w_X10_ofMatch cI cJ cZ h_this q_this q_this_games this_games_count this_games_base this_games_topLean this_games_topSpot this_games_fee this_games_goals this_games_guest this_games_home this_games_hour this_games_referee)) (idxs [false, true, false, true, false, false, false, false] 0) (idxs [true, false, true, false, true, true, true, true] 0) 8 rfl rfl rfl (pick_C _ rfl rfl) rfl (pick_C _ rfl rfl) rfl (pick_R _ rfl rfl rfl) (run_V (As := [.int x1, .int (6 : Int32), .int (2 : Int32)]) (rest := []) X (c_X2_goalsAhead l D cI cJ cZ (q_this 0) q_this_games this_games_count this_games_base this_games_topLean this_games_topSpot this_games_goals x1 (6 : Int32) (2 : Int32) v12 hq12) (cw_X10_ofMatch_X2_goalsAhead_111 X.1.2.2.2.2) 0 rfl rfl rfl rfl (Nat.le_of_ble_eq_true rfl) dX10_ofMatch_110 ⟨Nat.zero_le _, Nat.zero_le _⟩) ?_
              cases hT
              exact J_iret X dX10_ofMatch_113
            · have hT := iff_ hT hc11
              refine J_if (x2 = 5) (fun hc13 => ?_) (fun hc13 => ?_)
              · have hT := ift hT hc13
                refine J_tsK (tgt := 114) X dX10_ofMatch_14 5 hc13 (by decide) (by decide) rfl (by decide) ?_
                refine J_aload_n X dX10_ofMatch_114 0 rfl ?_
                refine J_get (C := RX10) (T := TX10) (N := 10) (ci := 10) (v := .ref (q_this 0)) X in_X10_ofMatch_X10 0 rfl rfl 0 (by decide) m_X10_ofMatch_f12 rfl dX10_ofMatch_115 ?_
                refine J_iload_n X dX10_ofMatch_118 1 rfl ?_
                obtain ⟨v14, hq14, hT⟩ := bd1_e hT
                refine J_ci (wc := (w_X2_endOf cI cJ cZ (q_this 0) q_this_games this_games_count this_games_base this_games_topLean this_games_topSpot this_games_goals)) (wc' := (w_X2_endOf cI cJ cZ (q_this 0) q_this_games this_games_count this_games_base this_games_topLean this_games_topSpot this_games_goals)) (ws' := (w_X10_ofMatch cI cJ cZ h_this q_this q_this_games this_games_count this_games_base this_games_topLean this_games_topSpot this_games_fee this_games_goals this_games_guest this_games_home this_games_hour this_games_referee)) (idxs [false, true, false, true, false, false, false, false] 0) (idxs [true, false, true, false, true, true, true, true] 0) 8 rfl rfl rfl (pick_C _ rfl rfl) rfl (pick_C _ rfl rfl) rfl (pick_R _ rfl rfl rfl) (run_V (As := [.int x1]) (rest := []) X (c_X2_endOf l D cI cJ cZ (q_this 0) q_this_games this_games_count this_games_base this_games_topLean this_games_topSpot this_games_goals x1 v14 hq14) (cw_X10_ofMatch_X2_endOf_114 X.1.2.2.2.2) 0 rfl rfl rfl rfl (Nat.le_of_ble_eq_true rfl) dX10_ofMatch_119 ⟨Nat.zero_le _, Nat.zero_le _⟩) ?_
                cases hT
                exact J_iret X dX10_ofMatch_122
              · have hT := iff_ hT hc13
                refine J_if (x2 = 6) (fun hc15 => ?_) (fun hc15 => ?_)
                · have hT := ift hT hc15
                  refine J_tsK (tgt := 123) X dX10_ofMatch_14 6 hc15 (by decide) (by decide) rfl (by decide) ?_
                  refine J_aload_n X dX10_ofMatch_123 0 rfl ?_
                  refine J_get (C := RX10) (T := TX10) (N := 10) (ci := 10) (v := .ref (q_this 0)) X in_X10_ofMatch_X10 0 rfl rfl 0 (by decide) m_X10_ofMatch_f12 rfl dX10_ofMatch_124 ?_
                  refine J_getN (host := "SoldMatches") (C := RX2) (T := TX2) (N := 13) (ci := 2) (v := .ref (q_this_games 6)) X in_X10_ofMatch_X2 1 rfl rfl 6 (by decide) (List.mem_of_getElem? (i := 12) rfl) rfl dX10_ofMatch_127 ?_
                  refine J_iload_n X dX10_ofMatch_130 1 rfl ?_
                  obtain ⟨hk16, hT⟩ := ckn_e hT
                  refine J_iald X 6 rfl rfl hk16 dX10_ofMatch_131 ?_
                  cases hT
                  exact J_iret X dX10_ofMatch_132
                · have hT := iff_ hT hc15
                  refine J_if (x2 = 7) (fun hc17 => ?_) (fun hc17 => ?_)
                  · have hT := ift hT hc17
                    refine J_tsK (tgt := 133) X dX10_ofMatch_14 7 hc17 (by decide) (by decide) rfl (by decide) ?_
                    refine J_aload_n X dX10_ofMatch_133 0 rfl ?_
                    refine J_get (C := RX10) (T := TX10) (N := 10) (ci := 10) (v := .ref (q_this 0)) X in_X10_ofMatch_X10 0 rfl rfl 0 (by decide) m_X10_ofMatch_f12 rfl dX10_ofMatch_134 ?_
                    refine J_getN (host := "SoldMatches") (C := RX2) (T := TX2) (N := 13) (ci := 2) (v := .ref (q_this_games 7)) X in_X10_ofMatch_X2 1 rfl rfl 7 (by decide) (List.mem_of_getElem? (i := 14) rfl) rfl dX10_ofMatch_137 ?_
                    refine J_iload_n X dX10_ofMatch_140 1 rfl ?_
                    obtain ⟨hk18, hT⟩ := ckn_e hT
                    refine J_iald X 2 rfl rfl hk18 dX10_ofMatch_141 ?_
                    cases hT
                    exact J_iret X dX10_ofMatch_142
                  · have hT := iff_ hT hc17
                    refine J_tsD (tgt := 143) X dX10_ofMatch_14 (by have e0 := lv_neT (a := 0) hc3 (by decide); have e1 := lv_neT (a := 1) hc5 (by decide); have e2 := lv_neT (a := 2) hc7 (by decide); have e3 := lv_neT (a := 3) hc9 (by decide); have e4 := lv_neT (a := 4) hc11 (by decide); have e5 := lv_neT (a := 5) hc13 (by decide); have e6 := lv_neT (a := 6) hc15 (by decide); have e7 := lv_neT (a := 7) hc17 (by decide); omega) (by decide) ?_
                    refine J_bipush (v := -2) X dX10_ofMatch_143 (by decide) ?_
                    cases hT
                    exact J_iret X dX10_ofMatch_145
  · have hT := ift hT hc2
    refine J_iconst (v := -1) X dX10_ofMatch_11 (by decide) ?_
    cases hT
    exact J_iret X dX10_ofMatch_12
-- ===== SoldMatches.likely(IIIIII)J
abbrev rmX10_likely : Room := { frames := 3, cells := 0, slots := 0, locals := 80 }
def w_X10_likely (cI cJ cZ : ClassId) (h_this : Nat) (q_this : Nat → Nat) (q_this_games : Nat → Nat) (q_this_games_odds : Nat → Nat) (this_games_count : Int32) (this_games_base : Int32) (this_games_topLean : Int32) (this_games_topSpot : Int32) (this_games_odds_upper : Int64) (this_games_odds_lower : Int64) (this_games_guest : Nat → Int32) (this_games_home : Nat → Int32) (this_games_skills : Nat → Int32) (this_games_odds_cases : Nat → Int64) : va_W := [(h_this, .inr (10, oFX10 q_this )), ((q_this 0), .inr (2, oFX2 q_this_games this_games_count this_games_base this_games_topLean this_games_topSpot)), ((q_this_games 10), .inr (4, oFX4 q_this_games_odds this_games_odds_upper this_games_odds_lower)), ((q_this_games 4), .inl (cI, 12, .inl this_games_guest)), ((q_this_games 3), .inl (cI, 12, .inl this_games_home)), ((q_this_games 2), .inl (cI, 8, .inl this_games_skills)), ((q_this_games_odds 0), .inl (cJ, 13, .inr (.inl this_games_odds_cases)))]
theorem m_X10_likely_f12 : Cond.fieldLink RX10 12 "SoldMatches" "games" "LSoldMatches$Games;" ∈ wsX10_likely := List.mem_of_getElem? (i := 1) rfl
theorem in_X10_likely_X10 : ∀ w ∈ wsX100, w ∈ wsX10_likely := fun w h => List.mem_cons_of_mem _ (List.mem_append_left _ (List.mem_append_left _ (List.mem_append_right _ h)))
theorem cw_X10_likely_X2_has_95 {s : State} {args : Array Value} (hts : ∀ w ∈ wsX10_likely, w.before args s = true) : CallW rmX10_likely s args RX10 RX2 95 yX2_has cX2_has 2 (some .boolean) wsX2_has rmX2_has 0 0 1 := cwV 1 hts gX10_likely_X2_has rfl rfl rfl (by decide +kernel) ⟨by decide, by decide⟩
theorem cw_X10_likely_X10_within_76 {s : State} {args : Array Value} (hts : ∀ w ∈ wsX10_likely, w.before args s = true) : CallB rmX10_likely s args RX10 76 yX10_within cX10_within 3 (some .boolean) wsX10_within rmX10_within 0 0 3 ∧ (Cond.static yX10_within).before args s = true := va_cwS 3 hts gX10_likely_X10_within rfl rfl rfl (by decide +kernel) ⟨by decide, by decide⟩
theorem m_X10_likely_c126 : Cond.constantLong RX10 126 (-1000000000000000002) ∈ wsX10_likely := List.mem_of_getElem? (i := 3) rfl
theorem cw_X10_likely_X2_weigh_128 {s : State} {args : Array Value} (hts : ∀ w ∈ wsX10_likely, w.before args s = true) : CallW rmX10_likely s args RX10 RX2 128 yX2_weigh cX2_weigh 7 none wsX2_weigh rmX2_weigh 0 0 4 := cwV 4 hts gX10_likely_X2_weigh rfl rfl rfl (by decide +kernel) ⟨by decide, by decide⟩
theorem in_X10_likely_X2 : ∀ w ∈ wsX20, w ∈ wsX10_likely := fun w h => List.mem_cons_of_mem _ (List.mem_append_left _ (List.mem_append_right _ h))
theorem cw_X10_likely_X4_inLowestTerms_136 {s : State} {args : Array Value} (hts : ∀ w ∈ wsX10_likely, w.before args s = true) : CallW rmX10_likely s args RX10 RX4 136 yX4_inLowestTerms cX4_inLowestTerms 9 (some .long) wsX4_inLowestTerms rmX4_inLowestTerms 0 0 1 := cwV 1 hts gX10_likely_X4_inLowestTerms rfl rfl rfl (by decide +kernel) ⟨by decide, by decide⟩
theorem m_X10_likely_c124 : Cond.constantLong RX10 124 (-1000000000000000001) ∈ wsX10_likely := List.mem_of_getElem? (i := 2) rfl
def t_X10_likely  (this_games_count : Int32) (this_games_base : Int32) (this_games_odds_upper : Int64) (this_games_odds_lower : Int64) (this_games_guest : Nat → Int32) (this_games_home : Nat → Int32) (this_games_skills : Nat → Int32) (this_games_odds_cases : Nat → Int64) (x1 : Int32) (x2 : Int32) (x3 : Int32) (x4 : Int32) (x5 : Int32) (x6 : Int32) : Option (Int64 × Int64 × Int64 × (Nat → Int64)) := bd1 (t_X2_has this_games_count x1) (fun v1 => if v1 = 0 then (some ((-1000000000000000001 : Int64), this_games_odds_upper, this_games_odds_lower, this_games_odds_cases)) else (bd1 (t_X10_within x2 (0 : Int32) (6 : Int32)) (fun v3 => if v3 = 0 then (some ((-1000000000000000002 : Int64), this_games_odds_upper, this_games_odds_lower, this_games_odds_cases)) else (bd1 (t_X10_within x3 (0 : Int32) (6 : Int32)) (fun v5 => if v5 = 0 then (some ((-1000000000000000002 : Int64), this_games_odds_upper, this_games_odds_lower, this_games_odds_cases)) else (bd1 (t_X10_within x4 (0 : Int32) (6 : Int32)) (fun v7 => if v7 = 0 then (some ((-1000000000000000002 : Int64), this_games_odds_upper, this_games_odds_lower, this_games_odds_cases)) else (bd1 (t_X10_within x5 (0 : Int32) (2 : Int32)) (fun v9 => if v9 = 0 then (some ((-1000000000000000002 : Int64), this_games_odds_upper, this_games_odds_lower, this_games_odds_cases)) else (bd1 (t_X10_within x6 (0 : Int32) (1 : Int32)) (fun v11 => if v11 = 0 then (some ((-1000000000000000002 : Int64), this_games_odds_upper, this_games_odds_lower, this_games_odds_cases)) else (bd3 (t_X2_weigh this_games_base this_games_odds_upper this_games_odds_lower this_games_guest this_games_home this_games_skills this_games_odds_cases x1 x2 (x3 - x4) x5) (fun u13_0 u13_1 u13_2 => bd1 (t_X4_inLowestTerms u13_0 u13_1 x6) (fun v14 => some (v14, u13_0, u13_1, u13_2)))))))))))))))
set_option maxHeartbeats 4000000 in
set_option maxRecDepth 100000 in
theorem c_X10_likely (l : Launch) (D : va_G) (cI cJ cZ : ClassId) (h_this : Nat) (q_this : Nat → Nat) (q_this_games : Nat → Nat) (q_this_games_odds : Nat → Nat) (this_games_count : Int32) (this_games_base : Int32) (this_games_topLean : Int32) (this_games_topSpot : Int32) (this_games_odds_upper : Int64) (this_games_odds_lower : Int64) (this_games_guest : Nat → Int32) (this_games_home : Nat → Int32) (this_games_skills : Nat → Int32) (this_games_odds_cases : Nat → Int64) (x1 : Int32) (x2 : Int32) (x3 : Int32) (x4 : Int32) (x5 : Int32) (x6 : Int32) (r : Int64) (z0 : Int64) (z1 : Int64) (z2 : Nat → Int64) (hT : t_X10_likely  this_games_count this_games_base this_games_odds_upper this_games_odds_lower this_games_guest this_games_home this_games_skills this_games_odds_cases x1 x2 x3 x4 x5 x6 = some (r, z0, z1, z2)) : Cl l yX10_likely wsX10_likely rmX10_likely D (tys3 cI cJ cZ) [.ref h_this, .int x1, .int x2, .int x3, .int x4, .int x5, .int x6] (w_X10_likely cI cJ cZ h_this q_this q_this_games q_this_games_odds this_games_count this_games_base this_games_topLean this_games_topSpot this_games_odds_upper this_games_odds_lower this_games_guest this_games_home this_games_skills this_games_odds_cases) r (w_X10_likely cI cJ cZ h_this q_this q_this_games q_this_games_odds this_games_count this_games_base this_games_topLean this_games_topSpot z0 z1 this_games_guest this_games_home this_games_skills z2) := by
  refine Cl.ofJ (cc := cX10_likely) (nL := 7) (rt := (some .long)) (own := RX10) (by decide) rfl rfl (Nat.le_of_ble_eq_true rfl) ?_
  intro p e s m below meth c A X
  unfold t_X10_likely at hT
  refine J_lv (lv' := [(0, .ref h_this), (1, .int x1), (2, .int x2), (3, .int x3), (4, .int x4), (5, .int x5), (6, .int x6)]) [0, 1, 2, 3, 4, 5, 6] rfl ?_
  refine J_aload_n X dX10_likely_0 0 rfl ?_
  refine J_get (C := RX10) (T := TX10) (N := 10) (ci := 10) (v := .ref (q_this 0)) X in_X10_likely_X10 0 rfl rfl 0 (by decide) m_X10_likely_f12 rfl dX10_likely_1 ?_
  refine J_iload_n X dX10_likely_4 1 rfl ?_
  obtain ⟨v1, hq1, hT⟩ := bd1_e hT
  refine J_ci (wc := (w_X2_has cI cJ cZ (q_this 0) q_this_games this_games_count this_games_base this_games_topLean this_games_topSpot)) (wc' := (w_X2_has cI cJ cZ (q_this 0) q_this_games this_games_count this_games_base this_games_topLean this_games_topSpot)) (ws' := (w_X10_likely cI cJ cZ h_this q_this q_this_games q_this_games_odds this_games_count this_games_base this_games_topLean this_games_topSpot this_games_odds_upper this_games_odds_lower this_games_guest this_games_home this_games_skills this_games_odds_cases)) (idxs [false, true, false, false, false, false, false] 0) (idxs [true, false, true, true, true, true, true] 0) 7 rfl rfl rfl (pick_C _ rfl rfl) rfl (pick_C _ rfl rfl) rfl (pick_R _ rfl rfl rfl) (run_V (As := [.int x1]) (rest := []) X (c_X2_has l D cI cJ cZ (q_this 0) q_this_games this_games_count this_games_base this_games_topLean this_games_topSpot x1 v1 hq1) (cw_X10_likely_X2_has_95 X.1.2.2.2.2) 0 rfl rfl rfl rfl (Nat.le_of_ble_eq_true rfl) dX10_likely_5 ⟨Nat.zero_le _, Nat.zero_le _⟩) ?_
  refine J_if_ne (tgt := 15) X dX10_likely_8 (by decide) (fun hc2 => ?_) (fun hc2 => ?_)
  · have hT := iff_ hT hc2
    refine J_iload_n X dX10_likely_15 2 rfl ?_
    refine J_iconst (v := 0) X dX10_likely_16 (by decide) ?_
    refine J_bipush (v := 6) X dX10_likely_17 (by decide) ?_
    obtain ⟨v3, hq3, hT⟩ := bd1_e hT
    refine J_ci (wc := (w_X10_within cI cJ cZ )) (wc' := (w_X10_within cI cJ cZ )) (ws' := (w_X10_likely cI cJ cZ h_this q_this q_this_games q_this_games_odds this_games_count this_games_base this_games_topLean this_games_topSpot this_games_odds_upper this_games_odds_lower this_games_guest this_games_home this_games_skills this_games_odds_cases)) (idxs [false, false, false, false, false, false, false] 0) (idxs [true, true, true, true, true, true, true] 0) 7 rfl rfl rfl (pick_C _ rfl rfl) rfl (pick_C _ rfl rfl) rfl (pick_R _ rfl rfl rfl) (run_S (As := [.int x2, .int (0 : Int32), .int (6 : Int32)]) (rest := []) X (c_X10_within l D cI cJ cZ  x2 (0 : Int32) (6 : Int32) v3 hq3) (cw_X10_likely_X10_within_76 X.1.2.2.2.2) rfl rfl (Nat.le_of_ble_eq_true rfl) dX10_likely_19 ⟨Nat.zero_le _, Nat.zero_le _⟩) ?_
    refine J_if_eq (tgt := 66) X dX10_likely_22 (by decide) (fun hc4 => ?_) (fun hc4 => ?_)
    · have hT := ift hT hc4
      refine J_ldc2 X dX10_likely_66 m_X10_likely_c126 ?_
      cases hT
      exact J_lret X dX10_likely_69
    · have hT := iff_ hT hc4
      refine J_iload_n X dX10_likely_25 3 rfl ?_
      refine J_iconst (v := 0) X dX10_likely_26 (by decide) ?_
      refine J_bipush (v := 6) X dX10_likely_27 (by decide) ?_
      obtain ⟨v5, hq5, hT⟩ := bd1_e hT
      refine J_ci (wc := (w_X10_within cI cJ cZ )) (wc' := (w_X10_within cI cJ cZ )) (ws' := (w_X10_likely cI cJ cZ h_this q_this q_this_games q_this_games_odds this_games_count this_games_base this_games_topLean this_games_topSpot this_games_odds_upper this_games_odds_lower this_games_guest this_games_home this_games_skills this_games_odds_cases)) (idxs [false, false, false, false, false, false, false] 0) (idxs [true, true, true, true, true, true, true] 0) 7 rfl rfl rfl (pick_C _ rfl rfl) rfl (pick_C _ rfl rfl) rfl (pick_R _ rfl rfl rfl) (run_S (As := [.int x3, .int (0 : Int32), .int (6 : Int32)]) (rest := []) X (c_X10_within l D cI cJ cZ  x3 (0 : Int32) (6 : Int32) v5 hq5) (cw_X10_likely_X10_within_76 X.1.2.2.2.2) rfl rfl (Nat.le_of_ble_eq_true rfl) dX10_likely_29 ⟨Nat.zero_le _, Nat.zero_le _⟩) ?_
      refine J_if_eq (tgt := 66) X dX10_likely_32 (by decide) (fun hc6 => ?_) (fun hc6 => ?_)
      · have hT := ift hT hc6
        refine J_ldc2 X dX10_likely_66 m_X10_likely_c126 ?_
        cases hT
        exact J_lret X dX10_likely_69
      · have hT := iff_ hT hc6
        refine J_iload X dX10_likely_35 4 rfl ?_
        refine J_iconst (v := 0) X dX10_likely_37 (by decide) ?_
        refine J_bipush (v := 6) X dX10_likely_38 (by decide) ?_
        obtain ⟨v7, hq7, hT⟩ := bd1_e hT
        refine J_ci (wc := (w_X10_within cI cJ cZ )) (wc' := (w_X10_within cI cJ cZ )) (ws' := (w_X10_likely cI cJ cZ h_this q_this q_this_games q_this_games_odds this_games_count this_games_base this_games_topLean this_games_topSpot this_games_odds_upper this_games_odds_lower this_games_guest this_games_home this_games_skills this_games_odds_cases)) (idxs [false, false, false, false, false, false, false] 0) (idxs [true, true, true, true, true, true, true] 0) 7 rfl rfl rfl (pick_C _ rfl rfl) rfl (pick_C _ rfl rfl) rfl (pick_R _ rfl rfl rfl) (run_S (As := [.int x4, .int (0 : Int32), .int (6 : Int32)]) (rest := []) X (c_X10_within l D cI cJ cZ  x4 (0 : Int32) (6 : Int32) v7 hq7) (cw_X10_likely_X10_within_76 X.1.2.2.2.2) rfl rfl (Nat.le_of_ble_eq_true rfl) dX10_likely_40 ⟨Nat.zero_le _, Nat.zero_le _⟩) ?_
        refine J_if_eq (tgt := 66) X dX10_likely_43 (by decide) (fun hc8 => ?_) (fun hc8 => ?_)
        · have hT := ift hT hc8
          refine J_ldc2 X dX10_likely_66 m_X10_likely_c126 ?_
          cases hT
          exact J_lret X dX10_likely_69
        · have hT := iff_ hT hc8
          refine J_iload X dX10_likely_46 5 rfl ?_
          refine J_iconst (v := 0) X dX10_likely_48 (by decide) ?_
          refine J_iconst (v := 2) X dX10_likely_49 (by decide) ?_
          obtain ⟨v9, hq9, hT⟩ := bd1_e hT
          refine J_ci (wc := (w_X10_within cI cJ cZ )) (wc' := (w_X10_within cI cJ cZ )) (ws' := (w_X10_likely cI cJ cZ h_this q_this q_this_games q_this_games_odds this_games_count this_games_base this_games_topLean this_games_topSpot this_games_odds_upper this_games_odds_lower this_games_guest this_games_home this_games_skills this_games_odds_cases)) (idxs [false, false, false, false, false, false, false] 0) (idxs [true, true, true, true, true, true, true] 0) 7 rfl rfl rfl (pick_C _ rfl rfl) rfl (pick_C _ rfl rfl) rfl (pick_R _ rfl rfl rfl) (run_S (As := [.int x5, .int (0 : Int32), .int (2 : Int32)]) (rest := []) X (c_X10_within l D cI cJ cZ  x5 (0 : Int32) (2 : Int32) v9 hq9) (cw_X10_likely_X10_within_76 X.1.2.2.2.2) rfl rfl (Nat.le_of_ble_eq_true rfl) dX10_likely_50 ⟨Nat.zero_le _, Nat.zero_le _⟩) ?_
          refine J_if_eq (tgt := 66) X dX10_likely_53 (by decide) (fun hc10 => ?_) (fun hc10 => ?_)
          · have hT := ift hT hc10
            refine J_ldc2 X dX10_likely_66 m_X10_likely_c126 ?_
            cases hT
            exact J_lret X dX10_likely_69
          · have hT := iff_ hT hc10
            refine J_iload X dX10_likely_56 6 rfl ?_
            refine J_iconst (v := 0) X dX10_likely_58 (by decide) ?_
            refine J_iconst (v := 1) X dX10_likely_59 (by decide) ?_
            obtain ⟨v11, hq11, hT⟩ := bd1_e hT
            refine J_ci (wc := (w_X10_within cI cJ cZ )) (wc' := (w_X10_within cI cJ cZ )) (ws' := (w_X10_likely cI cJ cZ h_this q_this q_this_games q_this_games_odds this_games_count this_games_base this_games_topLean this_games_topSpot this_games_odds_upper this_games_odds_lower this_games_guest this_games_home this_games_skills this_games_odds_cases)) (idxs [false, false, false, false, false, false, false] 0) (idxs [true, true, true, true, true, true, true] 0) 7 rfl rfl rfl (pick_C _ rfl rfl) rfl (pick_C _ rfl rfl) rfl (pick_R _ rfl rfl rfl) (run_S (As := [.int x6, .int (0 : Int32), .int (1 : Int32)]) (rest := []) X (c_X10_within l D cI cJ cZ  x6 (0 : Int32) (1 : Int32) v11 hq11) (cw_X10_likely_X10_within_76 X.1.2.2.2.2) rfl rfl (Nat.le_of_ble_eq_true rfl) dX10_likely_60 ⟨Nat.zero_le _, Nat.zero_le _⟩) ?_
            refine J_if_ne (tgt := 70) X dX10_likely_63 (by decide) (fun hc12 => ?_) (fun hc12 => ?_)
            · have hT := iff_ hT hc12
              refine J_aload_n X dX10_likely_70 0 rfl ?_
              refine J_get (C := RX10) (T := TX10) (N := 10) (ci := 10) (v := .ref (q_this 0)) X in_X10_likely_X10 0 rfl rfl 0 (by decide) m_X10_likely_f12 rfl dX10_likely_71 ?_
              refine J_iload_n X dX10_likely_74 1 rfl ?_
              refine J_iload_n X dX10_likely_75 2 rfl ?_
              refine J_iload_n X dX10_likely_76 3 rfl ?_
              refine J_iload X dX10_likely_77 4 rfl ?_
              refine J_isub X dX10_likely_79 ?_
              refine J_iload X dX10_likely_80 5 rfl ?_
              obtain ⟨u13_0, u13_1, u13_2, hq13, hT⟩ := bd3_e hT
              refine J_cv (wc := (w_X2_weigh cI cJ cZ (q_this 0) q_this_games q_this_games_odds this_games_count this_games_base this_games_topLean this_games_topSpot this_games_odds_upper this_games_odds_lower this_games_guest this_games_home this_games_skills this_games_odds_cases)) (wc' := (w_X2_weigh cI cJ cZ (q_this 0) q_this_games q_this_games_odds this_games_count this_games_base this_games_topLean this_games_topSpot u13_0 u13_1 this_games_guest this_games_home this_games_skills u13_2)) (ws' := (w_X10_likely cI cJ cZ h_this q_this q_this_games q_this_games_odds this_games_count this_games_base this_games_topLean this_games_topSpot u13_0 u13_1 this_games_guest this_games_home this_games_skills u13_2)) (idxs [false, true, true, true, true, true, true] 0) (idxs [true, false, false, false, false, false, false] 0) 7 rfl rfl rfl (pick_C _ rfl rfl) rfl (pick_C _ rfl rfl) rfl (pick_R _ rfl rfl rfl) (run_V (As := [.int x1, .int x2, .int (x3 - x4), .int x5]) (rest := []) X (c_X2_weigh l D cI cJ cZ (q_this 0) q_this_games q_this_games_odds this_games_count this_games_base this_games_topLean this_games_topSpot this_games_odds_upper this_games_odds_lower this_games_guest this_games_home this_games_skills this_games_odds_cases x1 x2 (x3 - x4) x5 u13_0 u13_1 u13_2 hq13) (cw_X10_likely_X2_weigh_128 X.1.2.2.2.2) 0 rfl rfl rfl rfl (Nat.le_of_ble_eq_true rfl) dX10_likely_82 ⟨Nat.zero_le _, Nat.zero_le _⟩) ?_
              refine J_aload_n X dX10_likely_85 0 rfl ?_
              refine J_get (C := RX10) (T := TX10) (N := 10) (ci := 10) (v := .ref (q_this 0)) X in_X10_likely_X10 0 rfl rfl 0 (by decide) m_X10_likely_f12 rfl dX10_likely_86 ?_
              refine J_getN (host := "SoldMatches") (C := RX2) (T := TX2) (N := 13) (ci := 2) (v := .ref (q_this_games 10)) X in_X10_likely_X2 1 rfl rfl 10 (by decide) (List.mem_of_getElem? (i := 18) rfl) rfl dX10_likely_89 ?_
              refine J_iload X dX10_likely_92 6 rfl ?_
              obtain ⟨v14, hq14, hT⟩ := bd1_e hT
              refine J_cl (wc := (w_X4_inLowestTerms cI cJ cZ (q_this_games 10) q_this_games_odds u13_0 u13_1)) (wc' := (w_X4_inLowestTerms cI cJ cZ (q_this_games 10) q_this_games_odds u13_0 u13_1)) (ws' := (w_X10_likely cI cJ cZ h_this q_this q_this_games q_this_games_odds this_games_count this_games_base this_games_topLean this_games_topSpot u13_0 u13_1 this_games_guest this_games_home this_games_skills u13_2)) (idxs [false, false, true, false, false, false, false] 0) (idxs [true, true, false, true, true, true, true] 0) 7 rfl rfl rfl (pick_C _ rfl rfl) rfl (pick_C _ rfl rfl) rfl (pick_R _ rfl rfl rfl) (run_V (As := [.int x6]) (rest := []) X (c_X4_inLowestTerms l D cI cJ cZ (q_this_games 10) q_this_games_odds u13_0 u13_1 x6 v14 hq14) (cw_X10_likely_X4_inLowestTerms_136 X.1.2.2.2.2) 0 rfl rfl rfl rfl (Nat.le_of_ble_eq_true rfl) dX10_likely_94 ⟨Nat.zero_le _, Nat.zero_le _⟩) ?_
              cases hT
              exact J_lret X dX10_likely_97
            · have hT := ift hT hc12
              refine J_ldc2 X dX10_likely_66 m_X10_likely_c126 ?_
              cases hT
              exact J_lret X dX10_likely_69
  · have hT := ift hT hc2
    refine J_ldc2 X dX10_likely_11 m_X10_likely_c124 ?_
    cases hT
    exact J_lret X dX10_likely_14
-- ===== SoldMatches.isSpot(II)Z
abbrev rmX10_isSpot : Room := { frames := 1, cells := 0, slots := 0, locals := 22 }
def w_X10_isSpot (cI cJ cZ : ClassId)  : va_W := []
theorem cw_X10_isSpot_X10_within_76 {s : State} {args : Array Value} (hts : ∀ w ∈ wsX10_isSpot, w.before args s = true) : CallB rmX10_isSpot s args RX10 76 yX10_within cX10_within 3 (some .boolean) wsX10_within rmX10_within 0 0 3 ∧ (Cond.static yX10_within).before args s = true := va_cwS 3 hts gX10_isSpot_X10_within rfl rfl rfl (by decide +kernel) ⟨by decide, by decide⟩
def t_X10_isSpot_23    (s0 : Int32) : Option (Int32) := ckn (¬ (s0 = 0 ∨ s0 = 1)) (some (s0))
def t_X10_isSpot   (x0 : Int32) (x1 : Int32) : Option (Int32) := bd1 (t_X10_within x0 (0 : Int32) (5 : Int32)) (fun v2 => if v2 = 0 then (t_X10_isSpot_23   (0 : Int32)) else (bd1 (t_X10_within x1 (0 : Int32) (2 : Int32)) (fun v4 => if v4 = 0 then (t_X10_isSpot_23   (0 : Int32)) else (t_X10_isSpot_23   (1 : Int32)))))
set_option maxHeartbeats 4000000 in
set_option maxRecDepth 100000 in
theorem b_X10_isSpot_23 {p : Program} {l : Launch} {e : Env} {s : State} {m : MethodId} {args : Array Value} {below : List Frame} {meth : Method} {c : Code} {D : va_G} {A : Nat → Prop} {cI cJ cZ : ClassId} (X : Cx p m c cX10_isSpot 2 s args wsX10_isSpot RX10 D (tys3 cI cJ cZ) meth (some .boolean)) (_ _ _ : ClassId)   (r : Int32)   (s0 : Int32) (hT : t_X10_isSpot_23    s0 = some r) : J p l e rmX10_isSpot s m args below meth c D A 2 (QI D below args s A r (w_X10_isSpot cI cJ cZ )) 0 0 (w_X10_isSpot cI cJ cZ ) [] [.int s0] 23 := by
  unfold t_X10_isSpot_23 at hT
  obtain ⟨hk1, hT⟩ := ckn_e hT
  cases hT
  exact J_zret X (Decidable.not_not.mp hk1) dX10_isSpot_23
set_option maxHeartbeats 4000000 in
set_option maxRecDepth 100000 in
theorem c_X10_isSpot (l : Launch) (D : va_G) (cI cJ cZ : ClassId)  (x0 : Int32) (x1 : Int32) (r : Int32) (hT : t_X10_isSpot   x0 x1 = some r) : Ci l yX10_isSpot wsX10_isSpot rmX10_isSpot D (tys3 cI cJ cZ) [.int x0, .int x1] (w_X10_isSpot cI cJ cZ ) r (w_X10_isSpot cI cJ cZ ) := by
  refine Ci.ofJ (cc := cX10_isSpot) (nL := 2) (rt := (some .boolean)) (own := RX10) (by decide) rfl rfl (Nat.le_of_ble_eq_true rfl) ?_
  intro p e s m below meth c A X
  unfold t_X10_isSpot at hT
  refine J_lv (lv' := [(0, .int x0), (1, .int x1)]) [0, 1] rfl ?_
  refine J_iload_n X dX10_isSpot_0 0 rfl ?_
  refine J_iconst (v := 0) X dX10_isSpot_1 (by decide) ?_
  refine J_iconst (v := 5) X dX10_isSpot_2 (by decide) ?_
  obtain ⟨v2, hq2, hT⟩ := bd1_e hT
  refine J_ci (wc := (w_X10_within cI cJ cZ )) (wc' := (w_X10_within cI cJ cZ )) (ws' := (w_X10_isSpot cI cJ cZ )) [] [] 0 rfl rfl rfl rfl rfl rfl rfl rfl (run_S (As := [.int x0, .int (0 : Int32), .int (5 : Int32)]) (rest := []) X (c_X10_within l D cI cJ cZ  x0 (0 : Int32) (5 : Int32) v2 hq2) (cw_X10_isSpot_X10_within_76 X.1.2.2.2.2) rfl rfl (Nat.le_of_ble_eq_true rfl) dX10_isSpot_3 ⟨Nat.zero_le _, Nat.zero_le _⟩) ?_
  refine J_if_eq (tgt := 22) X dX10_isSpot_6 (by decide) (fun hc3 => ?_) (fun hc3 => ?_)
  · have hT := ift hT hc3
    refine J_iconst (v := 0) X dX10_isSpot_22 (by decide) ?_
    refine J_lv (lv' := []) [] rfl ?_
    exact b_X10_isSpot_23 X cI cJ cZ  r  (0 : Int32) hT
  · have hT := iff_ hT hc3
    refine J_iload_n X dX10_isSpot_9 1 rfl ?_
    refine J_iconst (v := 0) X dX10_isSpot_10 (by decide) ?_
    refine J_iconst (v := 2) X dX10_isSpot_11 (by decide) ?_
    obtain ⟨v4, hq4, hT⟩ := bd1_e hT
    refine J_ci (wc := (w_X10_within cI cJ cZ )) (wc' := (w_X10_within cI cJ cZ )) (ws' := (w_X10_isSpot cI cJ cZ )) [] [] 0 rfl rfl rfl rfl rfl rfl rfl rfl (run_S (As := [.int x1, .int (0 : Int32), .int (2 : Int32)]) (rest := []) X (c_X10_within l D cI cJ cZ  x1 (0 : Int32) (2 : Int32) v4 hq4) (cw_X10_isSpot_X10_within_76 X.1.2.2.2.2) rfl rfl (Nat.le_of_ble_eq_true rfl) dX10_isSpot_12 ⟨Nat.zero_le _, Nat.zero_le _⟩) ?_
    refine J_if_eq (tgt := 22) X dX10_isSpot_15 (by decide) (fun hc5 => ?_) (fun hc5 => ?_)
    · have hT := ift hT hc5
      refine J_iconst (v := 0) X dX10_isSpot_22 (by decide) ?_
      refine J_lv (lv' := []) [] rfl ?_
      exact b_X10_isSpot_23 X cI cJ cZ  r  (0 : Int32) hT
    · have hT := iff_ hT hc5
      refine J_iconst (v := 1) X dX10_isSpot_18 (by decide) ?_
      refine J_goto (tgt := 23) X dX10_isSpot_19 (by decide) ?_
      refine J_lv (lv' := []) [] rfl ?_
      exact b_X10_isSpot_23 X cI cJ cZ  r  (1 : Int32) hT
-- ===== SoldMatches.price(IIII)I
abbrev rmX10_price : Room := { frames := 2, cells := 0, slots := 0, locals := 43 }
def w_X10_price (cI cJ cZ : ClassId) (h_this : Nat) (q_this : Nat → Nat) (q_this_games : Nat → Nat) (this_games_count : Int32) (this_games_base : Int32) (this_games_topLean : Int32) (this_games_topSpot : Int32) (this_games_prices : Nat → Int32) : va_W := [(h_this, .inr (10, oFX10 q_this )), ((q_this 0), .inr (2, oFX2 q_this_games this_games_count this_games_base this_games_topLean this_games_topSpot)), ((q_this_games 9), .inl (cI, 216, .inl this_games_prices))]
theorem m_X10_price_f12 : Cond.fieldLink RX10 12 "SoldMatches" "games" "LSoldMatches$Games;" ∈ wsX10_price := List.mem_of_getElem? (i := 1) rfl
theorem in_X10_price_X10 : ∀ w ∈ wsX100, w ∈ wsX10_price := fun w h => List.mem_cons_of_mem _ (List.mem_append_left _ (List.mem_append_right _ h))
theorem in_X10_price_X2 : ∀ w ∈ wsX20, w ∈ wsX10_price := fun w h => List.mem_cons_of_mem _ (List.mem_append_right _ h)
theorem cw_X10_price_X10_exchange_83 {s : State} {args : Array Value} (hts : ∀ w ∈ wsX10_price, w.before args s = true) : CallB rmX10_price s args RX10 83 yX10_exchange cX10_exchange 4 (some .int) wsX10_exchange rmX10_exchange 0 0 3 ∧ (Cond.static yX10_exchange).before args s = true := va_cwS 3 hts gX10_price_X10_exchange rfl rfl rfl (by decide +kernel) ⟨by decide, by decide⟩
theorem cw_X10_price_X2_has_95 {s : State} {args : Array Value} (hts : ∀ w ∈ wsX10_price, w.before args s = true) : CallW rmX10_price s args RX10 RX2 95 yX2_has cX2_has 2 (some .boolean) wsX2_has rmX2_has 0 0 1 := cwV 1 hts gX10_price_X2_has rfl rfl rfl (by decide +kernel) ⟨by decide, by decide⟩
theorem cw_X10_price_X10_isSpot_163 {s : State} {args : Array Value} (hts : ∀ w ∈ wsX10_price, w.before args s = true) : CallB rmX10_price s args RX10 163 yX10_isSpot cX10_isSpot 2 (some .boolean) wsX10_isSpot rmX10_isSpot 0 0 2 ∧ (Cond.static yX10_isSpot).before args s = true := va_cwS 2 hts gX10_price_X10_isSpot rfl rfl rfl (by decide +kernel) ⟨by decide, by decide⟩
theorem cw_X10_price_X10_within_76 {s : State} {args : Array Value} (hts : ∀ w ∈ wsX10_price, w.before args s = true) : CallB rmX10_price s args RX10 76 yX10_within cX10_within 3 (some .boolean) wsX10_within rmX10_within 0 0 3 ∧ (Cond.static yX10_within).before args s = true := va_cwS 3 hts gX10_price_X10_within rfl rfl rfl (by decide +kernel) ⟨by decide, by decide⟩
def t_X10_price_42   (this_games_count : Int32) (this_games_prices : Nat → Int32) (x1 : Int32) (x2 : Int32) (x3 : Int32) (x4 : Int32) : Option (Int32 × (Nat → Int32)) := bd2 (t_X10_exchange 216 this_games_prices (((x1 * (18 : Int32)) + (x2 * (3 : Int32))) + x3) x4) (fun v1 u1_0 => some (v1, u1_0))
def t_X10_price  (this_games_count : Int32) (this_games_prices : Nat → Int32) (x1 : Int32) (x2 : Int32) (x3 : Int32) (x4 : Int32) : Option (Int32 × (Nat → Int32)) := bd1 (t_X2_has this_games_count x1) (fun v2 => if v2 = 0 then (some ((-1 : Int32), this_games_prices)) else (bd1 (t_X10_isSpot x2 x3) (fun v4 => if v4 = 0 then (some ((-2 : Int32), this_games_prices)) else (if x4 = 0 then (t_X10_price_42   this_games_count this_games_prices x1 x2 x3 x4) else (bd1 (t_X10_within x4 (100 : Int32) (10000 : Int32)) (fun v7 => if v7 = 0 then (some ((-2 : Int32), this_games_prices)) else (t_X10_price_42   this_games_count this_games_prices x1 x2 x3 x4)))))))
set_option maxHeartbeats 4000000 in
set_option maxRecDepth 100000 in
theorem b_X10_price_42 {p : Program} {l : Launch} {e : Env} {s : State} {m : MethodId} {args : Array Value} {below : List Frame} {meth : Method} {c : Code} {D : va_G} {A : Nat → Prop} {cI cJ cZ : ClassId} (X : Cx p m c cX10_price 5 s args wsX10_price RX10 D (tys3 cI cJ cZ) meth (some .int)) (_ _ _ : ClassId)  (h_this : Nat) (q_this : Nat → Nat) (q_this_games : Nat → Nat) (this_games_base : Int32) (this_games_topLean : Int32) (this_games_topSpot : Int32) (r : Int32) (z0 : Nat → Int32)  (this_games_count : Int32) (this_games_prices : Nat → Int32) (x1 : Int32) (x2 : Int32) (x3 : Int32) (x4 : Int32) (hT : t_X10_price_42   this_games_count this_games_prices x1 x2 x3 x4 = some (r, z0)) : J p l e rmX10_price s m args below meth c D A 5 (QI D below args s A r (w_X10_price cI cJ cZ h_this q_this q_this_games this_games_count this_games_base this_games_topLean this_games_topSpot z0)) 0 0 (w_X10_price cI cJ cZ h_this q_this q_this_games this_games_count this_games_base this_games_topLean this_games_topSpot this_games_prices) [(0, .ref h_this), (1, .int x1), (2, .int x2), (3, .int x3), (4, .int x4)] [] 42 := by
  unfold t_X10_price_42 at hT
  refine J_aload_n X dX10_price_42 0 rfl ?_
  refine J_get (C := RX10) (T := TX10) (N := 10) (ci := 10) (v := .ref (q_this 0)) X in_X10_price_X10 0 rfl rfl 0 (by decide) m_X10_price_f12 rfl dX10_price_43 ?_
  refine J_getN (host := "SoldMatches") (C := RX2) (T := TX2) (N := 13) (ci := 2) (v := .ref (q_this_games 9)) X in_X10_price_X2 1 rfl rfl 9 (by decide) (List.mem_of_getElem? (i := 17) rfl) rfl dX10_price_46 ?_
  refine J_iload_n X dX10_price_49 1 rfl ?_
  refine J_bipush (v := 18) X dX10_price_50 (by decide) ?_
  refine J_imul X dX10_price_52 ?_
  refine J_iload_n X dX10_price_53 2 rfl ?_
  refine J_iconst (v := 3) X dX10_price_54 (by decide) ?_
  refine J_imul X dX10_price_55 ?_
  refine J_iadd X dX10_price_56 ?_
  refine J_iload_n X dX10_price_57 3 rfl ?_
  refine J_iadd X dX10_price_58 ?_
  refine J_iload X dX10_price_59 4 rfl ?_
  obtain ⟨v1, u1_0, hq1, hT⟩ := bd2_e hT
  refine J_ci (wc := (w_X10_exchange cI cJ cZ (q_this_games 9) 216 this_games_prices)) (wc' := (w_X10_exchange cI cJ cZ (q_this_games 9) 216 u1_0)) (ws' := (w_X10_price cI cJ cZ h_this q_this q_this_games this_games_count this_games_base this_games_topLean this_games_topSpot u1_0)) [2] [0, 1] 3 rfl rfl rfl rfl rfl rfl rfl rfl (run_S (As := [.ref (q_this_games 9), .int (((x1 * (18 : Int32)) + (x2 * (3 : Int32))) + x3), .int x4]) (rest := []) X (c_X10_exchange l D cI cJ cZ (q_this_games 9) 216 this_games_prices (((x1 * (18 : Int32)) + (x2 * (3 : Int32))) + x3) x4 v1 u1_0 hq1) (cw_X10_price_X10_exchange_83 X.1.2.2.2.2) rfl rfl (Nat.le_of_ble_eq_true rfl) dX10_price_61 ⟨Nat.zero_le _, Nat.zero_le _⟩) ?_
  cases hT
  exact J_iret X dX10_price_64
set_option maxHeartbeats 4000000 in
set_option maxRecDepth 100000 in
theorem c_X10_price (l : Launch) (D : va_G) (cI cJ cZ : ClassId) (h_this : Nat) (q_this : Nat → Nat) (q_this_games : Nat → Nat) (this_games_count : Int32) (this_games_base : Int32) (this_games_topLean : Int32) (this_games_topSpot : Int32) (this_games_prices : Nat → Int32) (x1 : Int32) (x2 : Int32) (x3 : Int32) (x4 : Int32) (r : Int32) (z0 : Nat → Int32) (hT : t_X10_price  this_games_count this_games_prices x1 x2 x3 x4 = some (r, z0)) : Ci l yX10_price wsX10_price rmX10_price D (tys3 cI cJ cZ) [.ref h_this, .int x1, .int x2, .int x3, .int x4] (w_X10_price cI cJ cZ h_this q_this q_this_games this_games_count this_games_base this_games_topLean this_games_topSpot this_games_prices) r (w_X10_price cI cJ cZ h_this q_this q_this_games this_games_count this_games_base this_games_topLean this_games_topSpot z0) := by
  refine Ci.ofJ (cc := cX10_price) (nL := 5) (rt := (some .int)) (own := RX10) (by decide) rfl rfl (Nat.le_of_ble_eq_true rfl) ?_
  intro p e s m below meth c A X
  unfold t_X10_price at hT
  refine J_lv (lv' := [(0, .ref h_this), (1, .int x1), (2, .int x2), (3, .int x3), (4, .int x4)]) [0, 1, 2, 3, 4] rfl ?_
  refine J_aload_n X dX10_price_0 0 rfl ?_
  refine J_get (C := RX10) (T := TX10) (N := 10) (ci := 10) (v := .ref (q_this 0)) X in_X10_price_X10 0 rfl rfl 0 (by decide) m_X10_price_f12 rfl dX10_price_1 ?_
  refine J_iload_n X dX10_price_4 1 rfl ?_
  obtain ⟨v2, hq2, hT⟩ := bd1_e hT
  refine J_ci (wc := (w_X2_has cI cJ cZ (q_this 0) q_this_games this_games_count this_games_base this_games_topLean this_games_topSpot)) (wc' := (w_X2_has cI cJ cZ (q_this 0) q_this_games this_games_count this_games_base this_games_topLean this_games_topSpot)) (ws' := (w_X10_price cI cJ cZ h_this q_this q_this_games this_games_count this_games_base this_games_topLean this_games_topSpot this_games_prices)) [1] [0, 2] 3 rfl rfl rfl rfl rfl rfl rfl rfl (run_V (As := [.int x1]) (rest := []) X (c_X2_has l D cI cJ cZ (q_this 0) q_this_games this_games_count this_games_base this_games_topLean this_games_topSpot x1 v2 hq2) (cw_X10_price_X2_has_95 X.1.2.2.2.2) 0 rfl rfl rfl rfl (Nat.le_of_ble_eq_true rfl) dX10_price_5 ⟨Nat.zero_le _, Nat.zero_le _⟩) ?_
  refine J_if_ne (tgt := 13) X dX10_price_8 (by decide) (fun hc3 => ?_) (fun hc3 => ?_)
  · have hT := iff_ hT hc3
    refine J_iload_n X dX10_price_13 2 rfl ?_
    refine J_iload_n X dX10_price_14 3 rfl ?_
    obtain ⟨v4, hq4, hT⟩ := bd1_e hT
    refine J_ci (wc := (w_X10_isSpot cI cJ cZ )) (wc' := (w_X10_isSpot cI cJ cZ )) (ws' := (w_X10_price cI cJ cZ h_this q_this q_this_games this_games_count this_games_base this_games_topLean this_games_topSpot this_games_prices)) [] [0, 1, 2] 3 rfl rfl rfl rfl rfl rfl rfl rfl (run_S (As := [.int x2, .int x3]) (rest := []) X (c_X10_isSpot l D cI cJ cZ  x2 x3 v4 hq4) (cw_X10_price_X10_isSpot_163 X.1.2.2.2.2) rfl rfl (Nat.le_of_ble_eq_true rfl) dX10_price_15 ⟨Nat.zero_le _, Nat.zero_le _⟩) ?_
    refine J_if_eq (tgt := 39) X dX10_price_18 (by decide) (fun hc5 => ?_) (fun hc5 => ?_)
    · have hT := ift hT hc5
      refine J_bipush (v := -2) X dX10_price_39 (by decide) ?_
      cases hT
      exact J_iret X dX10_price_41
    · have hT := iff_ hT hc5
      refine J_iload X dX10_price_21 4 rfl ?_
      refine J_if_eq (tgt := 42) X dX10_price_23 (by decide) (fun hc6 => ?_) (fun hc6 => ?_)
      · have hT := ift hT hc6
        exact b_X10_price_42 X cI cJ cZ h_this q_this q_this_games this_games_base this_games_topLean this_games_topSpot r z0  this_games_count this_games_prices x1 x2 x3 x4 hT
      · have hT := iff_ hT hc6
        refine J_iload X dX10_price_26 4 rfl ?_
        refine J_bipush (v := 100) X dX10_price_28 (by decide) ?_
        refine J_sipush (v := 10000) X dX10_price_30 (by decide) ?_
        obtain ⟨v7, hq7, hT⟩ := bd1_e hT
        refine J_ci (wc := (w_X10_within cI cJ cZ )) (wc' := (w_X10_within cI cJ cZ )) (ws' := (w_X10_price cI cJ cZ h_this q_this q_this_games this_games_count this_games_base this_games_topLean this_games_topSpot this_games_prices)) [] [0, 1, 2] 3 rfl rfl rfl rfl rfl rfl rfl rfl (run_S (As := [.int x4, .int (100 : Int32), .int (10000 : Int32)]) (rest := []) X (c_X10_within l D cI cJ cZ  x4 (100 : Int32) (10000 : Int32) v7 hq7) (cw_X10_price_X10_within_76 X.1.2.2.2.2) rfl rfl (Nat.le_of_ble_eq_true rfl) dX10_price_33 ⟨Nat.zero_le _, Nat.zero_le _⟩) ?_
        refine J_if_ne (tgt := 42) X dX10_price_36 (by decide) (fun hc8 => ?_) (fun hc8 => ?_)
        · have hT := iff_ hT hc8
          exact b_X10_price_42 X cI cJ cZ h_this q_this q_this_games this_games_base this_games_topLean this_games_topSpot r z0  this_games_count this_games_prices x1 x2 x3 x4 hT
        · have hT := ift hT hc8
          refine J_bipush (v := -2) X dX10_price_39 (by decide) ?_
          cases hT
          exact J_iret X dX10_price_41
  · have hT := ift hT hc3
    refine J_iconst (v := -1) X dX10_price_11 (by decide) ?_
    cases hT
    exact J_iret X dX10_price_12
-- ===== SoldMatches.lean(III)I
abbrev rmX10_lean : Room := { frames := 4, cells := 0, slots := 0, locals := 104 }
def w_X10_lean (cI cJ cZ : ClassId) (h_this : Nat) (q_this : Nat → Nat) (q_this_games : Nat → Nat) (q_this_games_odds : Nat → Nat) (this_games_count : Int32) (this_games_base : Int32) (this_games_topLean : Int32) (this_games_topSpot : Int32) (this_games_odds_upper : Int64) (this_games_odds_lower : Int64) (this_games_goals : Nat → Int32) (this_games_guest : Nat → Int32) (this_games_home : Nat → Int32) (this_games_prices : Nat → Int32) (this_games_skills : Nat → Int32) (this_games_odds_cases : Nat → Int64) : va_W := [(h_this, .inr (10, oFX10 q_this )), ((q_this 0), .inr (2, oFX2 q_this_games this_games_count this_games_base this_games_topLean this_games_topSpot)), ((q_this_games 10), .inr (4, oFX4 q_this_games_odds this_games_odds_upper this_games_odds_lower)), ((q_this_games 8), .inl (cI, 72, .inl this_games_goals)), ((q_this_games 4), .inl (cI, 12, .inl this_games_guest)), ((q_this_games 3), .inl (cI, 12, .inl this_games_home)), ((q_this_games 9), .inl (cI, 216, .inl this_games_prices)), ((q_this_games 2), .inl (cI, 8, .inl this_games_skills)), ((q_this_games_odds 0), .inl (cJ, 13, .inr (.inl this_games_odds_cases)))]
theorem m_X10_lean_f12 : Cond.fieldLink RX10 12 "SoldMatches" "games" "LSoldMatches$Games;" ∈ wsX10_lean := List.mem_of_getElem? (i := 1) rfl
theorem in_X10_lean_X10 : ∀ w ∈ wsX100, w ∈ wsX10_lean := fun w h => List.mem_cons_of_mem _ (List.mem_append_left _ (List.mem_append_left _ (List.mem_append_right _ h)))
theorem cw_X10_lean_X2_has_95 {s : State} {args : Array Value} (hts : ∀ w ∈ wsX10_lean, w.before args s = true) : CallW rmX10_lean s args RX10 RX2 95 yX2_has cX2_has 2 (some .boolean) wsX2_has rmX2_has 0 0 1 := cwV 1 hts gX10_lean_X2_has rfl rfl rfl (by decide +kernel) ⟨by decide, by decide⟩
theorem m_X10_lean_c173 : Cond.constant RX10 173 (-2000000000) ∈ wsX10_lean := List.mem_of_getElem? (i := 2) rfl
theorem cw_X10_lean_X10_isSpot_163 {s : State} {args : Array Value} (hts : ∀ w ∈ wsX10_lean, w.before args s = true) : CallB rmX10_lean s args RX10 163 yX10_isSpot cX10_isSpot 2 (some .boolean) wsX10_isSpot rmX10_isSpot 0 0 2 ∧ (Cond.static yX10_isSpot).before args s = true := va_cwS 2 hts gX10_lean_X10_isSpot rfl rfl rfl (by decide +kernel) ⟨by decide, by decide⟩
theorem cw_X10_lean_X2_leanAt_170 {s : State} {args : Array Value} (hts : ∀ w ∈ wsX10_lean, w.before args s = true) : CallW rmX10_lean s args RX10 RX2 170 yX2_leanAt cX2_leanAt 5 (some .int) wsX2_leanAt rmX2_leanAt 0 0 3 := cwV 3 hts gX10_lean_X2_leanAt rfl rfl rfl (by decide +kernel) ⟨by decide, by decide⟩
def t_X10_lean_34   (this_games_count : Int32) (this_games_base : Int32) (this_games_odds_upper : Int64) (this_games_odds_lower : Int64) (this_games_goals : Nat → Int32) (this_games_guest : Nat → Int32) (this_games_home : Nat → Int32) (this_games_prices : Nat → Int32) (this_games_skills : Nat → Int32) (this_games_odds_cases : Nat → Int64) (s0 : Int32) : Option (Int32 × Int64 × Int64 × (Nat → Int64)) := some (s0, this_games_odds_upper, this_games_odds_lower, this_games_odds_cases)
def t_X10_lean  (this_games_count : Int32) (this_games_base : Int32) (this_games_odds_upper : Int64) (this_games_odds_lower : Int64) (this_games_goals : Nat → Int32) (this_games_guest : Nat → Int32) (this_games_home : Nat → Int32) (this_games_prices : Nat → Int32) (this_games_skills : Nat → Int32) (this_games_odds_cases : Nat → Int64) (x1 : Int32) (x2 : Int32) (x3 : Int32) : Option (Int32 × Int64 × Int64 × (Nat → Int64)) := bd1 (t_X2_has this_games_count x1) (fun v1 => if v1 = 0 then (t_X10_lean_34   this_games_count this_games_base this_games_odds_upper this_games_odds_lower this_games_goals this_games_guest this_games_home this_games_prices this_games_skills this_games_odds_cases (-2000000000 : Int32)) else (bd1 (t_X10_isSpot x2 x3) (fun v3 => if v3 = 0 then (t_X10_lean_34   this_games_count this_games_base this_games_odds_upper this_games_odds_lower this_games_goals this_games_guest this_games_home this_games_prices this_games_skills this_games_odds_cases (-2000000000 : Int32)) else (bd4 (t_X2_leanAt this_games_base this_games_odds_upper this_games_odds_lower this_games_goals this_games_guest this_games_home this_games_prices this_games_skills this_games_odds_cases x1 x2 x3) (fun v5 u5_0 u5_1 u5_2 => t_X10_lean_34   this_games_count this_games_base u5_0 u5_1 this_games_goals this_games_guest this_games_home this_games_prices this_games_skills u5_2 v5)))))
set_option maxHeartbeats 4000000 in
set_option maxRecDepth 100000 in
theorem b_X10_lean_34 {p : Program} {l : Launch} {e : Env} {s : State} {m : MethodId} {args : Array Value} {below : List Frame} {meth : Method} {c : Code} {D : va_G} {A : Nat → Prop} {cI cJ cZ : ClassId} (X : Cx p m c cX10_lean 4 s args wsX10_lean RX10 D (tys3 cI cJ cZ) meth (some .int)) (_ _ _ : ClassId)  (h_this : Nat) (q_this : Nat → Nat) (q_this_games : Nat → Nat) (q_this_games_odds : Nat → Nat) (this_games_topLean : Int32) (this_games_topSpot : Int32) (r : Int32) (z0 : Int64) (z1 : Int64) (z2 : Nat → Int64)  (this_games_count : Int32) (this_games_base : Int32) (this_games_odds_upper : Int64) (this_games_odds_lower : Int64) (this_games_goals : Nat → Int32) (this_games_guest : Nat → Int32) (this_games_home : Nat → Int32) (this_games_prices : Nat → Int32) (this_games_skills : Nat → Int32) (this_games_odds_cases : Nat → Int64) (s0 : Int32) (hT : t_X10_lean_34   this_games_count this_games_base this_games_odds_upper this_games_odds_lower this_games_goals this_games_guest this_games_home this_games_prices this_games_skills this_games_odds_cases s0 = some (r, z0, z1, z2)) : J p l e rmX10_lean s m args below meth c D A 4 (QI D below args s A r (w_X10_lean cI cJ cZ h_this q_this q_this_games q_this_games_odds this_games_count this_games_base this_games_topLean this_games_topSpot z0 z1 this_games_goals this_games_guest this_games_home this_games_prices this_games_skills z2)) 0 0 (w_X10_lean cI cJ cZ h_this q_this q_this_games q_this_games_odds this_games_count this_games_base this_games_topLean this_games_topSpot this_games_odds_upper this_games_odds_lower this_games_goals this_games_guest this_games_home this_games_prices this_games_skills this_games_odds_cases) [(0, .ref h_this)] [.int s0] 34 := by
  unfold t_X10_lean_34 at hT
  cases hT
  exact J_iret X dX10_lean_34
set_option maxHeartbeats 4000000 in
set_option maxRecDepth 100000 in
theorem c_X10_lean (l : Launch) (D : va_G) (cI cJ cZ : ClassId) (h_this : Nat) (q_this : Nat → Nat) (q_this_games : Nat → Nat) (q_this_games_odds : Nat → Nat) (this_games_count : Int32) (this_games_base : Int32) (this_games_topLean : Int32) (this_games_topSpot : Int32) (this_games_odds_upper : Int64) (this_games_odds_lower : Int64) (this_games_goals : Nat → Int32) (this_games_guest : Nat → Int32) (this_games_home : Nat → Int32) (this_games_prices : Nat → Int32) (this_games_skills : Nat → Int32) (this_games_odds_cases : Nat → Int64) (x1 : Int32) (x2 : Int32) (x3 : Int32) (r : Int32) (z0 : Int64) (z1 : Int64) (z2 : Nat → Int64) (hT : t_X10_lean  this_games_count this_games_base this_games_odds_upper this_games_odds_lower this_games_goals this_games_guest this_games_home this_games_prices this_games_skills this_games_odds_cases x1 x2 x3 = some (r, z0, z1, z2)) : Ci l yX10_lean wsX10_lean rmX10_lean D (tys3 cI cJ cZ) [.ref h_this, .int x1, .int x2, .int x3] (w_X10_lean cI cJ cZ h_this q_this q_this_games q_this_games_odds this_games_count this_games_base this_games_topLean this_games_topSpot this_games_odds_upper this_games_odds_lower this_games_goals this_games_guest this_games_home this_games_prices this_games_skills this_games_odds_cases) r (w_X10_lean cI cJ cZ h_this q_this q_this_games q_this_games_odds this_games_count this_games_base this_games_topLean this_games_topSpot z0 z1 this_games_goals this_games_guest this_games_home this_games_prices this_games_skills z2) := by
  refine Ci.ofJ (cc := cX10_lean) (nL := 4) (rt := (some .int)) (own := RX10) (by decide) rfl rfl (Nat.le_of_ble_eq_true rfl) ?_
  intro p e s m below meth c A X
  unfold t_X10_lean at hT
  refine J_lv (lv' := [(0, .ref h_this), (1, .int x1), (2, .int x2), (3, .int x3)]) [0, 1, 2, 3] rfl ?_
  refine J_aload_n X dX10_lean_0 0 rfl ?_
  refine J_get (C := RX10) (T := TX10) (N := 10) (ci := 10) (v := .ref (q_this 0)) X in_X10_lean_X10 0 rfl rfl 0 (by decide) m_X10_lean_f12 rfl dX10_lean_1 ?_
  refine J_iload_n X dX10_lean_4 1 rfl ?_
  obtain ⟨v1, hq1, hT⟩ := bd1_e hT
  refine J_ci (wc := (w_X2_has cI cJ cZ (q_this 0) q_this_games this_games_count this_games_base this_games_topLean this_games_topSpot)) (wc' := (w_X2_has cI cJ cZ (q_this 0) q_this_games this_games_count this_games_base this_games_topLean this_games_topSpot)) (ws' := (w_X10_lean cI cJ cZ h_this q_this q_this_games q_this_games_odds this_games_count this_games_base this_games_topLean this_games_topSpot this_games_odds_upper this_games_odds_lower this_games_goals this_games_guest this_games_home this_games_prices this_games_skills this_games_odds_cases)) (idxs [false, true, false, false, false, false, false, false, false] 0) (idxs [true, false, true, true, true, true, true, true, true] 0) 9 rfl rfl rfl (pick_C _ rfl rfl) rfl (pick_C _ rfl rfl) rfl (pick_R _ rfl rfl rfl) (run_V (As := [.int x1]) (rest := []) X (c_X2_has l D cI cJ cZ (q_this 0) q_this_games this_games_count this_games_base this_games_topLean this_games_topSpot x1 v1 hq1) (cw_X10_lean_X2_has_95 X.1.2.2.2.2) 0 rfl rfl rfl rfl (Nat.le_of_ble_eq_true rfl) dX10_lean_5 ⟨Nat.zero_le _, Nat.zero_le _⟩) ?_
  refine J_if_eq (tgt := 32) X dX10_lean_8 (by decide) (fun hc2 => ?_) (fun hc2 => ?_)
  · have hT := ift hT hc2
    refine J_ldc X dX10_lean_32 m_X10_lean_c173 ?_
    refine J_lv (lv' := [(0, .ref h_this)]) [0] rfl ?_
    exact b_X10_lean_34 X cI cJ cZ h_this q_this q_this_games q_this_games_odds this_games_topLean this_games_topSpot r z0 z1 z2  this_games_count this_games_base this_games_odds_upper this_games_odds_lower this_games_goals this_games_guest this_games_home this_games_prices this_games_skills this_games_odds_cases (-2000000000 : Int32) hT
  · have hT := iff_ hT hc2
    refine J_iload_n X dX10_lean_11 2 rfl ?_
    refine J_iload_n X dX10_lean_12 3 rfl ?_
    obtain ⟨v3, hq3, hT⟩ := bd1_e hT
    refine J_ci (wc := (w_X10_isSpot cI cJ cZ )) (wc' := (w_X10_isSpot cI cJ cZ )) (ws' := (w_X10_lean cI cJ cZ h_this q_this q_this_games q_this_games_odds this_games_count this_games_base this_games_topLean this_games_topSpot this_games_odds_upper this_games_odds_lower this_games_goals this_games_guest this_games_home this_games_prices this_games_skills this_games_odds_cases)) (idxs [false, false, false, false, false, false, false, false, false] 0) (idxs [true, true, true, true, true, true, true, true, true] 0) 9 rfl rfl rfl (pick_C _ rfl rfl) rfl (pick_C _ rfl rfl) rfl (pick_R _ rfl rfl rfl) (run_S (As := [.int x2, .int x3]) (rest := []) X (c_X10_isSpot l D cI cJ cZ  x2 x3 v3 hq3) (cw_X10_lean_X10_isSpot_163 X.1.2.2.2.2) rfl rfl (Nat.le_of_ble_eq_true rfl) dX10_lean_13 ⟨Nat.zero_le _, Nat.zero_le _⟩) ?_
    refine J_if_eq (tgt := 32) X dX10_lean_16 (by decide) (fun hc4 => ?_) (fun hc4 => ?_)
    · have hT := ift hT hc4
      refine J_ldc X dX10_lean_32 m_X10_lean_c173 ?_
      refine J_lv (lv' := [(0, .ref h_this)]) [0] rfl ?_
      exact b_X10_lean_34 X cI cJ cZ h_this q_this q_this_games q_this_games_odds this_games_topLean this_games_topSpot r z0 z1 z2  this_games_count this_games_base this_games_odds_upper this_games_odds_lower this_games_goals this_games_guest this_games_home this_games_prices this_games_skills this_games_odds_cases (-2000000000 : Int32) hT
    · have hT := iff_ hT hc4
      refine J_aload_n X dX10_lean_19 0 rfl ?_
      refine J_get (C := RX10) (T := TX10) (N := 10) (ci := 10) (v := .ref (q_this 0)) X in_X10_lean_X10 0 rfl rfl 0 (by decide) m_X10_lean_f12 rfl dX10_lean_20 ?_
      refine J_iload_n X dX10_lean_23 1 rfl ?_
      refine J_iload_n X dX10_lean_24 2 rfl ?_
      refine J_iload_n X dX10_lean_25 3 rfl ?_
      obtain ⟨v5, u5_0, u5_1, u5_2, hq5, hT⟩ := bd4_e hT
      refine J_ci (wc := (w_X2_leanAt cI cJ cZ (q_this 0) q_this_games q_this_games_odds this_games_count this_games_base this_games_topLean this_games_topSpot this_games_odds_upper this_games_odds_lower this_games_goals this_games_guest this_games_home this_games_prices this_games_skills this_games_odds_cases)) (wc' := (w_X2_leanAt cI cJ cZ (q_this 0) q_this_games q_this_games_odds this_games_count this_games_base this_games_topLean this_games_topSpot u5_0 u5_1 this_games_goals this_games_guest this_games_home this_games_prices this_games_skills u5_2)) (ws' := (w_X10_lean cI cJ cZ h_this q_this q_this_games q_this_games_odds this_games_count this_games_base this_games_topLean this_games_topSpot u5_0 u5_1 this_games_goals this_games_guest this_games_home this_games_prices this_games_skills u5_2)) (idxs [false, true, true, true, true, true, true, true, true] 0) (idxs [true, false, false, false, false, false, false, false, false] 0) 9 rfl rfl rfl (pick_C _ rfl rfl) rfl (pick_C _ rfl rfl) rfl (pick_R _ rfl rfl rfl) (run_V (As := [.int x1, .int x2, .int x3]) (rest := []) X (c_X2_leanAt l D cI cJ cZ (q_this 0) q_this_games q_this_games_odds this_games_count this_games_base this_games_topLean this_games_topSpot this_games_odds_upper this_games_odds_lower this_games_goals this_games_guest this_games_home this_games_prices this_games_skills this_games_odds_cases x1 x2 x3 v5 u5_0 u5_1 u5_2 hq5) (cw_X10_lean_X2_leanAt_170 X.1.2.2.2.2) 0 rfl rfl rfl rfl (Nat.le_of_ble_eq_true rfl) dX10_lean_26 ⟨Nat.zero_le _, Nat.zero_le _⟩) ?_
      refine J_goto (tgt := 34) X dX10_lean_29 (by decide) ?_
      refine J_lv (lv' := [(0, .ref h_this)]) [0] rfl ?_
      exact b_X10_lean_34 X cI cJ cZ h_this q_this q_this_games q_this_games_odds this_games_topLean this_games_topSpot r z0 z1 z2  this_games_count this_games_base u5_0 u5_1 this_games_goals this_games_guest this_games_home this_games_prices this_games_skills u5_2 v5 hT
-- ===== SoldMatches.greatest(II)I
abbrev rmX10_greatest : Room := { frames := 5, cells := 0, slots := 0, locals := 127 }
def w_X10_greatest (cI cJ cZ : ClassId) (h_this : Nat) (q_this : Nat → Nat) (q_this_games : Nat → Nat) (q_this_games_odds : Nat → Nat) (this_games_count : Int32) (this_games_base : Int32) (this_games_topLean : Int32) (this_games_topSpot : Int32) (this_games_odds_upper : Int64) (this_games_odds_lower : Int64) (this_games_goals : Nat → Int32) (this_games_guest : Nat → Int32) (this_games_home : Nat → Int32) (this_games_prices : Nat → Int32) (this_games_skills : Nat → Int32) (this_games_odds_cases : Nat → Int64) : va_W := [(h_this, .inr (10, oFX10 q_this )), ((q_this 0), .inr (2, oFX2 q_this_games this_games_count this_games_base this_games_topLean this_games_topSpot)), ((q_this_games 10), .inr (4, oFX4 q_this_games_odds this_games_odds_upper this_games_odds_lower)), ((q_this_games 8), .inl (cI, 72, .inl this_games_goals)), ((q_this_games 4), .inl (cI, 12, .inl this_games_guest)), ((q_this_games 3), .inl (cI, 12, .inl this_games_home)), ((q_this_games 9), .inl (cI, 216, .inl this_games_prices)), ((q_this_games 2), .inl (cI, 8, .inl this_games_skills)), ((q_this_games_odds 0), .inl (cJ, 13, .inr (.inl this_games_odds_cases)))]
theorem m_X10_greatest_f12 : Cond.fieldLink RX10 12 "SoldMatches" "games" "LSoldMatches$Games;" ∈ wsX10_greatest := List.mem_of_getElem? (i := 1) rfl
theorem in_X10_greatest_X10 : ∀ w ∈ wsX100, w ∈ wsX10_greatest := fun w h => List.mem_cons_of_mem _ (List.mem_append_left _ (List.mem_append_left _ (List.mem_append_right _ h)))
theorem cw_X10_greatest_X2_has_95 {s : State} {args : Array Value} (hts : ∀ w ∈ wsX10_greatest, w.before args s = true) : CallW rmX10_greatest s args RX10 RX2 95 yX2_has cX2_has 2 (some .boolean) wsX2_has rmX2_has 0 0 1 := cwV 1 hts gX10_greatest_X2_has rfl rfl rfl (by decide +kernel) ⟨by decide, by decide⟩
theorem m_X10_greatest_c173 : Cond.constant RX10 173 (-2000000000) ∈ wsX10_greatest := List.mem_of_getElem? (i := 2) rfl
theorem cw_X10_greatest_X10_within_76 {s : State} {args : Array Value} (hts : ∀ w ∈ wsX10_greatest, w.before args s = true) : CallB rmX10_greatest s args RX10 76 yX10_within cX10_within 3 (some .boolean) wsX10_within rmX10_within 0 0 3 ∧ (Cond.static yX10_within).before args s = true := va_cwS 3 hts gX10_greatest_X10_within rfl rfl rfl (by decide +kernel) ⟨by decide, by decide⟩
theorem cw_X10_greatest_X2_seekTop_174 {s : State} {args : Array Value} (hts : ∀ w ∈ wsX10_greatest, w.before args s = true) : CallW rmX10_greatest s args RX10 RX2 174 yX2_seekTop cX2_seekTop 4 none wsX2_seekTop rmX2_seekTop 0 0 1 := cwV 1 hts gX10_greatest_X2_seekTop rfl rfl rfl (by decide +kernel) ⟨by decide, by decide⟩
theorem in_X10_greatest_X2 : ∀ w ∈ wsX20, w ∈ wsX10_greatest := fun w h => List.mem_cons_of_mem _ (List.mem_append_left _ (List.mem_append_right _ h))
def t_X10_greatest_52   (this_games_count : Int32) (this_games_base : Int32) (this_games_topLean : Int32) (this_games_topSpot : Int32) (this_games_odds_upper : Int64) (this_games_odds_lower : Int64) (this_games_goals : Nat → Int32) (this_games_guest : Nat → Int32) (this_games_home : Nat → Int32) (this_games_prices : Nat → Int32) (this_games_skills : Nat → Int32) (this_games_odds_cases : Nat → Int64) (s0 : Int32) : Option (Int32 × Int32 × Int32 × Int64 × Int64 × (Nat → Int64)) := some (s0, this_games_topLean, this_games_topSpot, this_games_odds_upper, this_games_odds_lower, this_games_odds_cases)
def t_X10_greatest  (this_games_count : Int32) (this_games_base : Int32) (this_games_topLean : Int32) (this_games_topSpot : Int32) (this_games_odds_upper : Int64) (this_games_odds_lower : Int64) (this_games_goals : Nat → Int32) (this_games_guest : Nat → Int32) (this_games_home : Nat → Int32) (this_games_prices : Nat → Int32) (this_games_skills : Nat → Int32) (this_games_odds_cases : Nat → Int64) (x1 : Int32) (x2 : Int32) : Option (Int32 × Int32 × Int32 × Int64 × Int64 × (Nat → Int64)) := bd1 (t_X2_has this_games_count x1) (fun v1 => if v1 = 0 then (some ((-2000000000 : Int32), this_games_topLean, this_games_topSpot, this_games_odds_upper, this_games_odds_lower, this_games_odds_cases)) else (bd1 (t_X10_within x2 (0 : Int32) (1 : Int32)) (fun v3 => if v3 = 0 then (some ((-2000000000 : Int32), this_games_topLean, this_games_topSpot, this_games_odds_upper, this_games_odds_lower, this_games_odds_cases)) else (bd5 (t_X2_seekTop this_games_base this_games_topLean this_games_topSpot this_games_odds_upper this_games_odds_lower this_games_goals this_games_guest this_games_home this_games_prices this_games_skills this_games_odds_cases x1) (fun u5_0 u5_1 u5_2 u5_3 u5_4 => if x2 = 0 then (t_X10_greatest_52   this_games_count this_games_base u5_0 u5_1 u5_2 u5_3 this_games_goals this_games_guest this_games_home this_games_prices this_games_skills u5_4 u5_0) else (t_X10_greatest_52   this_games_count this_games_base u5_0 u5_1 u5_2 u5_3 this_games_goals this_games_guest this_games_home this_games_prices this_games_skills u5_4 u5_1))))))
set_option maxHeartbeats 4000000 in
set_option maxRecDepth 100000 in
theorem b_X10_greatest_52 {p : Program} {l : Launch} {e : Env} {s : State} {m : MethodId} {args : Array Value} {below : List Frame} {meth : Method} {c : Code} {D : va_G} {A : Nat → Prop} {cI cJ cZ : ClassId} (X : Cx p m c cX10_greatest 3 s args wsX10_greatest RX10 D (tys3 cI cJ cZ) meth (some .int)) (_ _ _ : ClassId)  (h_this : Nat) (q_this : Nat → Nat) (q_this_games : Nat → Nat) (q_this_games_odds : Nat → Nat)  (r : Int32) (z0 : Int32) (z1 : Int32) (z2 : Int64) (z3 : Int64) (z4 : Nat → Int64)  (this_games_count : Int32) (this_games_base : Int32) (this_games_topLean : Int32) (this_games_topSpot : Int32) (this_games_odds_upper : Int64) (this_games_odds_lower : Int64) (this_games_goals : Nat → Int32) (this_games_guest : Nat → Int32) (this_games_home : Nat → Int32) (this_games_prices : Nat → Int32) (this_games_skills : Nat → Int32) (this_games_odds_cases : Nat → Int64) (s0 : Int32) (hT : t_X10_greatest_52   this_games_count this_games_base this_games_topLean this_games_topSpot this_games_odds_upper this_games_odds_lower this_games_goals this_games_guest this_games_home this_games_prices this_games_skills this_games_odds_cases s0 = some (r, z0, z1, z2, z3, z4)) : J p l e rmX10_greatest s m args below meth c D A 3 (QI D below args s A r (w_X10_greatest cI cJ cZ h_this q_this q_this_games q_this_games_odds this_games_count this_games_base z0 z1 z2 z3 this_games_goals this_games_guest this_games_home this_games_prices this_games_skills z4)) 0 0 (w_X10_greatest cI cJ cZ h_this q_this q_this_games q_this_games_odds this_games_count this_games_base this_games_topLean this_games_topSpot this_games_odds_upper this_games_odds_lower this_games_goals this_games_guest this_games_home this_games_prices this_games_skills this_games_odds_cases) [(0, .ref h_this)] [.int s0] 52 := by
  unfold t_X10_greatest_52 at hT
  cases hT
  exact J_iret X dX10_greatest_52
set_option maxHeartbeats 4000000 in
set_option maxRecDepth 100000 in
theorem c_X10_greatest (l : Launch) (D : va_G) (cI cJ cZ : ClassId) (h_this : Nat) (q_this : Nat → Nat) (q_this_games : Nat → Nat) (q_this_games_odds : Nat → Nat) (this_games_count : Int32) (this_games_base : Int32) (this_games_topLean : Int32) (this_games_topSpot : Int32) (this_games_odds_upper : Int64) (this_games_odds_lower : Int64) (this_games_goals : Nat → Int32) (this_games_guest : Nat → Int32) (this_games_home : Nat → Int32) (this_games_prices : Nat → Int32) (this_games_skills : Nat → Int32) (this_games_odds_cases : Nat → Int64) (x1 : Int32) (x2 : Int32) (r : Int32) (z0 : Int32) (z1 : Int32) (z2 : Int64) (z3 : Int64) (z4 : Nat → Int64) (hT : t_X10_greatest  this_games_count this_games_base this_games_topLean this_games_topSpot this_games_odds_upper this_games_odds_lower this_games_goals this_games_guest this_games_home this_games_prices this_games_skills this_games_odds_cases x1 x2 = some (r, z0, z1, z2, z3, z4)) : Ci l yX10_greatest wsX10_greatest rmX10_greatest D (tys3 cI cJ cZ) [.ref h_this, .int x1, .int x2] (w_X10_greatest cI cJ cZ h_this q_this q_this_games q_this_games_odds this_games_count this_games_base this_games_topLean this_games_topSpot this_games_odds_upper this_games_odds_lower this_games_goals this_games_guest this_games_home this_games_prices this_games_skills this_games_odds_cases) r (w_X10_greatest cI cJ cZ h_this q_this q_this_games q_this_games_odds this_games_count this_games_base z0 z1 z2 z3 this_games_goals this_games_guest this_games_home this_games_prices this_games_skills z4) := by
  refine Ci.ofJ (cc := cX10_greatest) (nL := 3) (rt := (some .int)) (own := RX10) (by decide) rfl rfl (Nat.le_of_ble_eq_true rfl) ?_
  intro p e s m below meth c A X
  unfold t_X10_greatest at hT
  refine J_lv (lv' := [(0, .ref h_this), (1, .int x1), (2, .int x2)]) [0, 1, 2] rfl ?_
  refine J_aload_n X dX10_greatest_0 0 rfl ?_
  refine J_get (C := RX10) (T := TX10) (N := 10) (ci := 10) (v := .ref (q_this 0)) X in_X10_greatest_X10 0 rfl rfl 0 (by decide) m_X10_greatest_f12 rfl dX10_greatest_1 ?_
  refine J_iload_n X dX10_greatest_4 1 rfl ?_
  obtain ⟨v1, hq1, hT⟩ := bd1_e hT
  refine J_ci (wc := (w_X2_has cI cJ cZ (q_this 0) q_this_games this_games_count this_games_base this_games_topLean this_games_topSpot)) (wc' := (w_X2_has cI cJ cZ (q_this 0) q_this_games this_games_count this_games_base this_games_topLean this_games_topSpot)) (ws' := (w_X10_greatest cI cJ cZ h_this q_this q_this_games q_this_games_odds this_games_count this_games_base this_games_topLean this_games_topSpot this_games_odds_upper this_games_odds_lower this_games_goals this_games_guest this_games_home this_games_prices this_games_skills this_games_odds_cases)) (idxs [false, true, false, false, false, false, false, false, false] 0) (idxs [true, false, true, true, true, true, true, true, true] 0) 9 rfl rfl rfl (pick_C _ rfl rfl) rfl (pick_C _ rfl rfl) rfl (pick_R _ rfl rfl rfl) (run_V (As := [.int x1]) (rest := []) X (c_X2_has l D cI cJ cZ (q_this 0) q_this_games this_games_count this_games_base this_games_topLean this_games_topSpot x1 v1 hq1) (cw_X10_greatest_X2_has_95 X.1.2.2.2.2) 0 rfl rfl rfl rfl (Nat.le_of_ble_eq_true rfl) dX10_greatest_5 ⟨Nat.zero_le _, Nat.zero_le _⟩) ?_
  refine J_if_eq (tgt := 20) X dX10_greatest_8 (by decide) (fun hc2 => ?_) (fun hc2 => ?_)
  · have hT := ift hT hc2
    refine J_ldc X dX10_greatest_20 m_X10_greatest_c173 ?_
    cases hT
    exact J_iret X dX10_greatest_22
  · have hT := iff_ hT hc2
    refine J_iload_n X dX10_greatest_11 2 rfl ?_
    refine J_iconst (v := 0) X dX10_greatest_12 (by decide) ?_
    refine J_iconst (v := 1) X dX10_greatest_13 (by decide) ?_
    obtain ⟨v3, hq3, hT⟩ := bd1_e hT
    refine J_ci (wc := (w_X10_within cI cJ cZ )) (wc' := (w_X10_within cI cJ cZ )) (ws' := (w_X10_greatest cI cJ cZ h_this q_this q_this_games q_this_games_odds this_games_count this_games_base this_games_topLean this_games_topSpot this_games_odds_upper this_games_odds_lower this_games_goals this_games_guest this_games_home this_games_prices this_games_skills this_games_odds_cases)) (idxs [false, false, false, false, false, false, false, false, false] 0) (idxs [true, true, true, true, true, true, true, true, true] 0) 9 rfl rfl rfl (pick_C _ rfl rfl) rfl (pick_C _ rfl rfl) rfl (pick_R _ rfl rfl rfl) (run_S (As := [.int x2, .int (0 : Int32), .int (1 : Int32)]) (rest := []) X (c_X10_within l D cI cJ cZ  x2 (0 : Int32) (1 : Int32) v3 hq3) (cw_X10_greatest_X10_within_76 X.1.2.2.2.2) rfl rfl (Nat.le_of_ble_eq_true rfl) dX10_greatest_14 ⟨Nat.zero_le _, Nat.zero_le _⟩) ?_
    refine J_if_ne (tgt := 23) X dX10_greatest_17 (by decide) (fun hc4 => ?_) (fun hc4 => ?_)
    · have hT := iff_ hT hc4
      refine J_aload_n X dX10_greatest_23 0 rfl ?_
      refine J_get (C := RX10) (T := TX10) (N := 10) (ci := 10) (v := .ref (q_this 0)) X in_X10_greatest_X10 0 rfl rfl 0 (by decide) m_X10_greatest_f12 rfl dX10_greatest_24 ?_
      refine J_iload_n X dX10_greatest_27 1 rfl ?_
      obtain ⟨u5_0, u5_1, u5_2, u5_3, u5_4, hq5, hT⟩ := bd5_e hT
      refine J_cv (wc := (w_X2_seekTop cI cJ cZ (q_this 0) q_this_games q_this_games_odds this_games_count this_games_base this_games_topLean this_games_topSpot this_games_odds_upper this_games_odds_lower this_games_goals this_games_guest this_games_home this_games_prices this_games_skills this_games_odds_cases)) (wc' := (w_X2_seekTop cI cJ cZ (q_this 0) q_this_games q_this_games_odds this_games_count this_games_base u5_0 u5_1 u5_2 u5_3 this_games_goals this_games_guest this_games_home this_games_prices this_games_skills u5_4)) (ws' := (w_X10_greatest cI cJ cZ h_this q_this q_this_games q_this_games_odds this_games_count this_games_base u5_0 u5_1 u5_2 u5_3 this_games_goals this_games_guest this_games_home this_games_prices this_games_skills u5_4)) (idxs [false, true, true, true, true, true, true, true, true] 0) (idxs [true, false, false, false, false, false, false, false, false] 0) 9 rfl rfl rfl (pick_C _ rfl rfl) rfl (pick_C _ rfl rfl) rfl (pick_R _ rfl rfl rfl) (run_V (As := [.int x1]) (rest := []) X (c_X2_seekTop l D cI cJ cZ (q_this 0) q_this_games q_this_games_odds this_games_count this_games_base this_games_topLean this_games_topSpot this_games_odds_upper this_games_odds_lower this_games_goals this_games_guest this_games_home this_games_prices this_games_skills this_games_odds_cases x1 u5_0 u5_1 u5_2 u5_3 u5_4 hq5) (cw_X10_greatest_X2_seekTop_174 X.1.2.2.2.2) 0 rfl rfl rfl rfl (Nat.le_of_ble_eq_true rfl) dX10_greatest_28 ⟨Nat.zero_le _, Nat.zero_le _⟩) ?_
      refine J_iload_n X dX10_greatest_31 2 rfl ?_
      refine J_if_ne (tgt := 45) X dX10_greatest_32 (by decide) (fun hc6 => ?_) (fun hc6 => ?_)
      · have hT := iff_ hT hc6
        refine J_aload_n X dX10_greatest_45 0 rfl ?_
        refine J_get (C := RX10) (T := TX10) (N := 10) (ci := 10) (v := .ref (q_this 0)) X in_X10_greatest_X10 0 rfl rfl 0 (by decide) m_X10_greatest_f12 rfl dX10_greatest_46 ?_
        refine J_getN (host := "SoldMatches") (C := RX2) (T := TX2) (N := 13) (ci := 2) (v := .int u5_1) X in_X10_greatest_X2 1 rfl rfl 12 (by decide) (List.mem_of_getElem? (i := 21) rfl) rfl dX10_greatest_49 ?_
        refine J_lv (lv' := [(0, .ref h_this)]) [0] rfl ?_
        exact b_X10_greatest_52 X cI cJ cZ h_this q_this q_this_games q_this_games_odds  r z0 z1 z2 z3 z4  this_games_count this_games_base u5_0 u5_1 u5_2 u5_3 this_games_goals this_games_guest this_games_home this_games_prices this_games_skills u5_4 u5_1 hT
      · have hT := ift hT hc6
        refine J_aload_n X dX10_greatest_35 0 rfl ?_
        refine J_get (C := RX10) (T := TX10) (N := 10) (ci := 10) (v := .ref (q_this 0)) X in_X10_greatest_X10 0 rfl rfl 0 (by decide) m_X10_greatest_f12 rfl dX10_greatest_36 ?_
        refine J_getN (host := "SoldMatches") (C := RX2) (T := TX2) (N := 13) (ci := 2) (v := .int u5_0) X in_X10_greatest_X2 1 rfl rfl 11 (by decide) (List.mem_of_getElem? (i := 20) rfl) rfl dX10_greatest_39 ?_
        refine J_goto (tgt := 52) X dX10_greatest_42 (by decide) ?_
        refine J_lv (lv' := [(0, .ref h_this)]) [0] rfl ?_
        exact b_X10_greatest_52 X cI cJ cZ h_this q_this q_this_games q_this_games_odds  r z0 z1 z2 z3 z4  this_games_count this_games_base u5_0 u5_1 u5_2 u5_3 this_games_goals this_games_guest this_games_home this_games_prices this_games_skills u5_4 u5_0 hT
    · have hT := ift hT hc4
      refine J_ldc X dX10_greatest_20 m_X10_greatest_c173 ?_
      cases hT
      exact J_iret X dX10_greatest_22
-- ===== SoldMatches.isHand(I)Z
abbrev rmX10_isHand : Room := { frames := 0, cells := 0, slots := 0, locals := 0 }
def w_X10_isHand (cI cJ cZ : ClassId)  : va_W := []
def t_X10_isHand_15    (s0 : Int32) : Option (Int32) := ckn (¬ (s0 = 0 ∨ s0 = 1)) (some (s0))
def t_X10_isHand   (x0 : Int32) : Option (Int32) := if x0 < 0 then (t_X10_isHand_15   (0 : Int32)) else (if (10 : Int32) ≤ x0 then (t_X10_isHand_15   (0 : Int32)) else (t_X10_isHand_15   (1 : Int32)))
set_option maxHeartbeats 4000000 in
set_option maxRecDepth 100000 in
theorem b_X10_isHand_15 {p : Program} {l : Launch} {e : Env} {s : State} {m : MethodId} {args : Array Value} {below : List Frame} {meth : Method} {c : Code} {D : va_G} {A : Nat → Prop} {cI cJ cZ : ClassId} (X : Cx p m c cX10_isHand 1 s args wsX10_isHand RX10 D (tys3 cI cJ cZ) meth (some .boolean)) (_ _ _ : ClassId)   (r : Int32)   (s0 : Int32) (hT : t_X10_isHand_15    s0 = some r) : J p l e rmX10_isHand s m args below meth c D A 1 (QI D below args s A r (w_X10_isHand cI cJ cZ )) 0 0 (w_X10_isHand cI cJ cZ ) [] [.int s0] 15 := by
  unfold t_X10_isHand_15 at hT
  obtain ⟨hk1, hT⟩ := ckn_e hT
  cases hT
  exact J_zret X (Decidable.not_not.mp hk1) dX10_isHand_15
set_option maxHeartbeats 4000000 in
set_option maxRecDepth 100000 in
theorem c_X10_isHand (l : Launch) (D : va_G) (cI cJ cZ : ClassId)  (x0 : Int32) (r : Int32) (hT : t_X10_isHand   x0 = some r) : Ci l yX10_isHand wsX10_isHand rmX10_isHand D (tys3 cI cJ cZ) [.int x0] (w_X10_isHand cI cJ cZ ) r (w_X10_isHand cI cJ cZ ) := by
  refine Ci.ofJ (cc := cX10_isHand) (nL := 1) (rt := (some .boolean)) (own := RX10) (by decide) rfl rfl (Nat.le_of_ble_eq_true rfl) ?_
  intro p e s m below meth c A X
  unfold t_X10_isHand at hT
  refine J_lv (lv' := [(0, .int x0)]) [0] rfl ?_
  refine J_iload_n X dX10_isHand_0 0 rfl ?_
  refine J_if_lt (tgt := 14) X dX10_isHand_1 (by decide) (fun hc2 => ?_) (fun hc2 => ?_)
  · have hT := ift hT hc2
    refine J_iconst (v := 0) X dX10_isHand_14 (by decide) ?_
    refine J_lv (lv' := []) [] rfl ?_
    exact b_X10_isHand_15 X cI cJ cZ  r  (0 : Int32) hT
  · have hT := iff_ hT hc2
    refine J_iload_n X dX10_isHand_4 0 rfl ?_
    refine J_bipush (v := 10) X dX10_isHand_5 (by decide) ?_
    refine J_icmp_ge (tgt := 14) X dX10_isHand_7 (by decide) (fun hc3 => ?_) (fun hc3 => ?_)
    · have hT := ift hT hc3
      refine J_iconst (v := 0) X dX10_isHand_14 (by decide) ?_
      refine J_lv (lv' := []) [] rfl ?_
      exact b_X10_isHand_15 X cI cJ cZ  r  (0 : Int32) hT
    · have hT := iff_ hT hc3
      refine J_iconst (v := 1) X dX10_isHand_10 (by decide) ?_
      refine J_goto (tgt := 15) X dX10_isHand_11 (by decide) ?_
      refine J_lv (lv' := []) [] rfl ?_
      exact b_X10_isHand_15 X cI cJ cZ  r  (1 : Int32) hT
-- ===== SoldMatches.stake(IIIII)I
abbrev rmX10_stake : Room := { frames := 1, cells := 0, slots := 0, locals := 25 }
def w_X10_stake (cI cJ cZ : ClassId) (h_this : Nat) (q_this : Nat → Nat) (q_this_bets : Nat → Nat) (q_this_games : Nat → Nat) (this_bets_count : Int32) (this_bets_near : Int32) (this_bets_times : Int32) (this_bets_ties : Int32) (this_games_count : Int32) (this_games_base : Int32) (this_games_topLean : Int32) (this_games_topSpot : Int32) (this_bets_end : Nat → Int32) (this_bets_hand : Nat → Int32) (this_bets_match : Nat → Int32) (this_bets_minute : Nat → Int32) (this_bets_sum : Nat → Int32) : va_W := [(h_this, .inr (10, oFX10 q_this )), ((q_this 1), .inr (0, oFX0 q_this_bets this_bets_count this_bets_near this_bets_times this_bets_ties)), ((q_this 0), .inr (2, oFX2 q_this_games this_games_count this_games_base this_games_topLean this_games_topSpot)), ((q_this_bets 6), .inl (cI, 40, .inl this_bets_end)), ((q_this_bets 4), .inl (cI, 40, .inl this_bets_hand)), ((q_this_bets 5), .inl (cI, 40, .inl this_bets_match)), ((q_this_bets 7), .inl (cI, 40, .inl this_bets_minute)), ((q_this_bets 8), .inl (cI, 40, .inl this_bets_sum))]
theorem cw_X10_stake_X10_isHand_184 {s : State} {args : Array Value} (hts : ∀ w ∈ wsX10_stake, w.before args s = true) : CallB rmX10_stake s args RX10 184 yX10_isHand cX10_isHand 1 (some .boolean) wsX10_isHand rmX10_isHand 0 0 1 ∧ (Cond.static yX10_isHand).before args s = true := va_cwS 1 hts gX10_stake_X10_isHand rfl rfl rfl (by decide +kernel) ⟨by decide, by decide⟩
theorem m_X10_stake_f12 : Cond.fieldLink RX10 12 "SoldMatches" "games" "LSoldMatches$Games;" ∈ wsX10_stake := List.mem_of_getElem? (i := 1) rfl
theorem in_X10_stake_X10 : ∀ w ∈ wsX100, w ∈ wsX10_stake := fun w h => List.mem_cons_of_mem _ (List.mem_append_left _ (List.mem_append_left _ (List.mem_append_right _ h)))
theorem cw_X10_stake_X2_has_95 {s : State} {args : Array Value} (hts : ∀ w ∈ wsX10_stake, w.before args s = true) : CallW rmX10_stake s args RX10 RX2 95 yX2_has cX2_has 2 (some .boolean) wsX2_has rmX2_has 0 0 1 := cwV 1 hts gX10_stake_X2_has rfl rfl rfl (by decide +kernel) ⟨by decide, by decide⟩
theorem cw_X10_stake_X10_within_76 {s : State} {args : Array Value} (hts : ∀ w ∈ wsX10_stake, w.before args s = true) : CallB rmX10_stake s args RX10 76 yX10_within cX10_within 3 (some .boolean) wsX10_within rmX10_within 0 0 3 ∧ (Cond.static yX10_within).before args s = true := va_cwS 3 hts gX10_stake_X10_within rfl rfl rfl (by decide +kernel) ⟨by decide, by decide⟩
theorem m_X10_stake_f19 : Cond.fieldLink RX10 19 "SoldMatches" "bets" "LSoldMatches$Bets;" ∈ wsX10_stake := List.mem_of_getElem? (i := 2) rfl
theorem in_X10_stake_X0 : ∀ w ∈ wsX00, w ∈ wsX10_stake := fun w h => List.mem_cons_of_mem _ (List.mem_append_left _ (List.mem_append_right _ h))
theorem cw_X10_stake_X0_add_188 {s : State} {args : Array Value} (hts : ∀ w ∈ wsX10_stake, w.before args s = true) : CallW rmX10_stake s args RX10 RX0 188 yX0_add cX0_add 6 (some .int) wsX0_add rmX0_add 0 0 5 := cwV 5 hts gX10_stake_X0_add rfl rfl rfl (by decide +kernel) ⟨by decide, by decide⟩
def t_X10_stake_86   (this_bets_count : Int32) (this_games_count : Int32) (this_bets_end : Nat → Int32) (this_bets_hand : Nat → Int32) (this_bets_match : Nat → Int32) (this_bets_minute : Nat → Int32) (this_bets_sum : Nat → Int32) (s0 : Int32) : Option (Int32 × Int32 × (Nat → Int32) × (Nat → Int32) × (Nat → Int32) × (Nat → Int32) × (Nat → Int32)) := some (s0, this_bets_count, this_bets_end, this_bets_hand, this_bets_match, this_bets_minute, this_bets_sum)
def t_X10_stake  (this_bets_count : Int32) (this_games_count : Int32) (this_bets_end : Nat → Int32) (this_bets_hand : Nat → Int32) (this_bets_match : Nat → Int32) (this_bets_minute : Nat → Int32) (this_bets_sum : Nat → Int32) (x1 : Int32) (x2 : Int32) (x3 : Int32) (x4 : Int32) (x5 : Int32) : Option (Int32 × Int32 × (Nat → Int32) × (Nat → Int32) × (Nat → Int32) × (Nat → Int32) × (Nat → Int32)) := bd1 (t_X10_isHand x1) (fun v1 => if v1 = 0 then (some ((-1 : Int32), this_bets_count, this_bets_end, this_bets_hand, this_bets_match, this_bets_minute, this_bets_sum)) else (bd1 (t_X2_has this_games_count x2) (fun v3 => if v3 = 0 then (some ((-1 : Int32), this_bets_count, this_bets_end, this_bets_hand, this_bets_match, this_bets_minute, this_bets_sum)) else (bd1 (t_X10_within x3 (0 : Int32) (2 : Int32)) (fun v5 => if v5 = 0 then (some ((-2 : Int32), this_bets_count, this_bets_end, this_bets_hand, this_bets_match, this_bets_minute, this_bets_sum)) else (bd1 (t_X10_within x4 (0 : Int32) (89 : Int32)) (fun v7 => if v7 = 0 then (some ((-2 : Int32), this_bets_count, this_bets_end, this_bets_hand, this_bets_match, this_bets_minute, this_bets_sum)) else (bd1 (t_X10_within x5 (1 : Int32) (10000 : Int32)) (fun v9 => if v9 = 0 then (some ((-2 : Int32), this_bets_count, this_bets_end, this_bets_hand, this_bets_match, this_bets_minute, this_bets_sum)) else (if (40 : Int32) ≤ this_bets_count then (t_X10_stake_86   this_bets_count this_games_count this_bets_end this_bets_hand this_bets_match this_bets_minute this_bets_sum (-4 : Int32)) else (bd7 (t_X0_add this_bets_count this_bets_end this_bets_hand this_bets_match this_bets_minute this_bets_sum x1 x2 x3 x4 x5) (fun v12 u12_0 u12_1 u12_2 u12_3 u12_4 u12_5 => t_X10_stake_86   u12_0 this_games_count u12_1 u12_2 u12_3 u12_4 u12_5 v12))))))))))))
set_option maxHeartbeats 4000000 in
set_option maxRecDepth 100000 in
theorem b_X10_stake_86 {p : Program} {l : Launch} {e : Env} {s : State} {m : MethodId} {args : Array Value} {below : List Frame} {meth : Method} {c : Code} {D : va_G} {A : Nat → Prop} {cI cJ cZ : ClassId} (X : Cx p m c cX10_stake 6 s args wsX10_stake RX10 D (tys3 cI cJ cZ) meth (some .int)) (_ _ _ : ClassId)  (h_this : Nat) (q_this : Nat → Nat) (q_this_bets : Nat → Nat) (q_this_games : Nat → Nat) (this_bets_near : Int32) (this_bets_times : Int32) (this_bets_ties : Int32) (this_games_base : Int32) (this_games_topLean : Int32) (this_games_topSpot : Int32) (r : Int32) (z0 : Int32) (z1 : Nat → Int32) (z2 : Nat → Int32) (z3 : Nat → Int32) (z4 : Nat → Int32) (z5 : Nat → Int32)  (this_bets_count : Int32) (this_games_count : Int32) (this_bets_end : Nat → Int32) (this_bets_hand : Nat → Int32) (this_bets_match : Nat → Int32) (this_bets_minute : Nat → Int32) (this_bets_sum : Nat → Int32) (s0 : Int32) (hT : t_X10_stake_86   this_bets_count this_games_count this_bets_end this_bets_hand this_bets_match this_bets_minute this_bets_sum s0 = some (r, z0, z1, z2, z3, z4, z5)) : J p l e rmX10_stake s m args below meth c D A 6 (QI D below args s A r (w_X10_stake cI cJ cZ h_this q_this q_this_bets q_this_games z0 this_bets_near this_bets_times this_bets_ties this_games_count this_games_base this_games_topLean this_games_topSpot z1 z2 z3 z4 z5)) 0 0 (w_X10_stake cI cJ cZ h_this q_this q_this_bets q_this_games this_bets_count this_bets_near this_bets_times this_bets_ties this_games_count this_games_base this_games_topLean this_games_topSpot this_bets_end this_bets_hand this_bets_match this_bets_minute this_bets_sum) [(0, .ref h_this)] [.int s0] 86 := by
  unfold t_X10_stake_86 at hT
  cases hT
  exact J_iret X dX10_stake_86
set_option maxHeartbeats 4000000 in
set_option maxRecDepth 100000 in
theorem c_X10_stake (l : Launch) (D : va_G) (cI cJ cZ : ClassId) (h_this : Nat) (q_this : Nat → Nat) (q_this_bets : Nat → Nat) (q_this_games : Nat → Nat) (this_bets_count : Int32) (this_bets_near : Int32) (this_bets_times : Int32) (this_bets_ties : Int32) (this_games_count : Int32) (this_games_base : Int32) (this_games_topLean : Int32) (this_games_topSpot : Int32) (this_bets_end : Nat → Int32) (this_bets_hand : Nat → Int32) (this_bets_match : Nat → Int32) (this_bets_minute : Nat → Int32) (this_bets_sum : Nat → Int32) (x1 : Int32) (x2 : Int32) (x3 : Int32) (x4 : Int32) (x5 : Int32) (r : Int32) (z0 : Int32) (z1 : Nat → Int32) (z2 : Nat → Int32) (z3 : Nat → Int32) (z4 : Nat → Int32) (z5 : Nat → Int32) (hT : t_X10_stake  this_bets_count this_games_count this_bets_end this_bets_hand this_bets_match this_bets_minute this_bets_sum x1 x2 x3 x4 x5 = some (r, z0, z1, z2, z3, z4, z5)) : Ci l yX10_stake wsX10_stake rmX10_stake D (tys3 cI cJ cZ) [.ref h_this, .int x1, .int x2, .int x3, .int x4, .int x5] (w_X10_stake cI cJ cZ h_this q_this q_this_bets q_this_games this_bets_count this_bets_near this_bets_times this_bets_ties this_games_count this_games_base this_games_topLean this_games_topSpot this_bets_end this_bets_hand this_bets_match this_bets_minute this_bets_sum) r (w_X10_stake cI cJ cZ h_this q_this q_this_bets q_this_games z0 this_bets_near this_bets_times this_bets_ties this_games_count this_games_base this_games_topLean this_games_topSpot z1 z2 z3 z4 z5) := by
  refine Ci.ofJ (cc := cX10_stake) (nL := 6) (rt := (some .int)) (own := RX10) (by decide) rfl rfl (Nat.le_of_ble_eq_true rfl) ?_
  intro p e s m below meth c A X
  unfold t_X10_stake at hT
  refine J_lv (lv' := [(0, .ref h_this), (1, .int x1), (2, .int x2), (3, .int x3), (4, .int x4), (5, .int x5)]) [0, 1, 2, 3, 4, 5] rfl ?_
  refine J_iload_n X dX10_stake_0 1 rfl ?_
  obtain ⟨v1, hq1, hT⟩ := bd1_e hT
  refine J_ci (wc := (w_X10_isHand cI cJ cZ )) (wc' := (w_X10_isHand cI cJ cZ )) (ws' := (w_X10_stake cI cJ cZ h_this q_this q_this_bets q_this_games this_bets_count this_bets_near this_bets_times this_bets_ties this_games_count this_games_base this_games_topLean this_games_topSpot this_bets_end this_bets_hand this_bets_match this_bets_minute this_bets_sum)) (idxs [false, false, false, false, false, false, false, false] 0) (idxs [true, true, true, true, true, true, true, true] 0) 8 rfl rfl rfl (pick_C _ rfl rfl) rfl (pick_C _ rfl rfl) rfl (pick_R _ rfl rfl rfl) (run_S (As := [.int x1]) (rest := []) X (c_X10_isHand l D cI cJ cZ  x1 v1 hq1) (cw_X10_stake_X10_isHand_184 X.1.2.2.2.2) rfl rfl (Nat.le_of_ble_eq_true rfl) dX10_stake_1 ⟨Nat.zero_le _, Nat.zero_le _⟩) ?_
  refine J_if_eq (tgt := 18) X dX10_stake_4 (by decide) (fun hc2 => ?_) (fun hc2 => ?_)
  · have hT := ift hT hc2
    refine J_iconst (v := -1) X dX10_stake_18 (by decide) ?_
    cases hT
    exact J_iret X dX10_stake_19
  · have hT := iff_ hT hc2
    refine J_aload_n X dX10_stake_7 0 rfl ?_
    refine J_get (C := RX10) (T := TX10) (N := 10) (ci := 10) (v := .ref (q_this 0)) X in_X10_stake_X10 0 rfl rfl 0 (by decide) m_X10_stake_f12 rfl dX10_stake_8 ?_
    refine J_iload_n X dX10_stake_11 2 rfl ?_
    obtain ⟨v3, hq3, hT⟩ := bd1_e hT
    refine J_ci (wc := (w_X2_has cI cJ cZ (q_this 0) q_this_games this_games_count this_games_base this_games_topLean this_games_topSpot)) (wc' := (w_X2_has cI cJ cZ (q_this 0) q_this_games this_games_count this_games_base this_games_topLean this_games_topSpot)) (ws' := (w_X10_stake cI cJ cZ h_this q_this q_this_bets q_this_games this_bets_count this_bets_near this_bets_times this_bets_ties this_games_count this_games_base this_games_topLean this_games_topSpot this_bets_end this_bets_hand this_bets_match this_bets_minute this_bets_sum)) (idxs [false, false, true, false, false, false, false, false] 0) (idxs [true, true, false, true, true, true, true, true] 0) 8 rfl rfl rfl (pick_C _ rfl rfl) rfl (pick_C _ rfl rfl) rfl (pick_R _ rfl rfl rfl) (run_V (As := [.int x2]) (rest := []) X (c_X2_has l D cI cJ cZ (q_this 0) q_this_games this_games_count this_games_base this_games_topLean this_games_topSpot x2 v3 hq3) (cw_X10_stake_X2_has_95 X.1.2.2.2.2) 0 rfl rfl rfl rfl (Nat.le_of_ble_eq_true rfl) dX10_stake_12 ⟨Nat.zero_le _, Nat.zero_le _⟩) ?_
    refine J_if_ne (tgt := 20) X dX10_stake_15 (by decide) (fun hc4 => ?_) (fun hc4 => ?_)
    · have hT := iff_ hT hc4
      refine J_iload_n X dX10_stake_20 3 rfl ?_
      refine J_iconst (v := 0) X dX10_stake_21 (by decide) ?_
      refine J_iconst (v := 2) X dX10_stake_22 (by decide) ?_
      obtain ⟨v5, hq5, hT⟩ := bd1_e hT
      refine J_ci (wc := (w_X10_within cI cJ cZ )) (wc' := (w_X10_within cI cJ cZ )) (ws' := (w_X10_stake cI cJ cZ h_this q_this q_this_bets q_this_games this_bets_count this_bets_near this_bets_times this_bets_ties this_games_count this_games_base this_games_topLean this_games_topSpot this_bets_end this_bets_hand this_bets_match this_bets_minute this_bets_sum)) (idxs [false, false, false, false, false, false, false, false] 0) (idxs [true, true, true, true, true, true, true, true] 0) 8 rfl rfl rfl (pick_C _ rfl rfl) rfl (pick_C _ rfl rfl) rfl (pick_R _ rfl rfl rfl) (run_S (As := [.int x3, .int (0 : Int32), .int (2 : Int32)]) (rest := []) X (c_X10_within l D cI cJ cZ  x3 (0 : Int32) (2 : Int32) v5 hq5) (cw_X10_stake_X10_within_76 X.1.2.2.2.2) rfl rfl (Nat.le_of_ble_eq_true rfl) dX10_stake_23 ⟨Nat.zero_le _, Nat.zero_le _⟩) ?_
      refine J_if_eq (tgt := 52) X dX10_stake_26 (by decide) (fun hc6 => ?_) (fun hc6 => ?_)
      · have hT := ift hT hc6
        refine J_bipush (v := -2) X dX10_stake_52 (by decide) ?_
        cases hT
        exact J_iret X dX10_stake_54
      · have hT := iff_ hT hc6
        refine J_iload X dX10_stake_29 4 rfl ?_
        refine J_iconst (v := 0) X dX10_stake_31 (by decide) ?_
        refine J_bipush (v := 89) X dX10_stake_32 (by decide) ?_
        obtain ⟨v7, hq7, hT⟩ := bd1_e hT
        refine J_ci (wc := (w_X10_within cI cJ cZ )) (wc' := (w_X10_within cI cJ cZ )) (ws' := (w_X10_stake cI cJ cZ h_this q_this q_this_bets q_this_games this_bets_count this_bets_near this_bets_times this_bets_ties this_games_count this_games_base this_games_topLean this_games_topSpot this_bets_end this_bets_hand this_bets_match this_bets_minute this_bets_sum)) (idxs [false, false, false, false, false, false, false, false] 0) (idxs [true, true, true, true, true, true, true, true] 0) 8 rfl rfl rfl (pick_C _ rfl rfl) rfl (pick_C _ rfl rfl) rfl (pick_R _ rfl rfl rfl) (run_S (As := [.int x4, .int (0 : Int32), .int (89 : Int32)]) (rest := []) X (c_X10_within l D cI cJ cZ  x4 (0 : Int32) (89 : Int32) v7 hq7) (cw_X10_stake_X10_within_76 X.1.2.2.2.2) rfl rfl (Nat.le_of_ble_eq_true rfl) dX10_stake_34 ⟨Nat.zero_le _, Nat.zero_le _⟩) ?_
        refine J_if_eq (tgt := 52) X dX10_stake_37 (by decide) (fun hc8 => ?_) (fun hc8 => ?_)
        · have hT := ift hT hc8
          refine J_bipush (v := -2) X dX10_stake_52 (by decide) ?_
          cases hT
          exact J_iret X dX10_stake_54
        · have hT := iff_ hT hc8
          refine J_iload X dX10_stake_40 5 rfl ?_
          refine J_iconst (v := 1) X dX10_stake_42 (by decide) ?_
          refine J_sipush (v := 10000) X dX10_stake_43 (by decide) ?_
          obtain ⟨v9, hq9, hT⟩ := bd1_e hT
          refine J_ci (wc := (w_X10_within cI cJ cZ )) (wc' := (w_X10_within cI cJ cZ )) (ws' := (w_X10_stake cI cJ cZ h_this q_this q_this_bets q_this_games this_bets_count this_bets_near this_bets_times this_bets_ties this_games_count this_games_base this_games_topLean this_games_topSpot this_bets_end this_bets_hand this_bets_match this_bets_minute this_bets_sum)) (idxs [false, false, false, false, false, false, false, false] 0) (idxs [true, true, true, true, true, true, true, true] 0) 8 rfl rfl rfl (pick_C _ rfl rfl) rfl (pick_C _ rfl rfl) rfl (pick_R _ rfl rfl rfl) (run_S (As := [.int x5, .int (1 : Int32), .int (10000 : Int32)]) (rest := []) X (c_X10_within l D cI cJ cZ  x5 (1 : Int32) (10000 : Int32) v9 hq9) (cw_X10_stake_X10_within_76 X.1.2.2.2.2) rfl rfl (Nat.le_of_ble_eq_true rfl) dX10_stake_46 ⟨Nat.zero_le _, Nat.zero_le _⟩) ?_
          refine J_if_ne (tgt := 55) X dX10_stake_49 (by decide) (fun hc10 => ?_) (fun hc10 => ?_)
          · have hT := iff_ hT hc10
            refine J_aload_n X dX10_stake_55 0 rfl ?_
            refine J_get (C := RX10) (T := TX10) (N := 10) (ci := 10) (v := .ref (q_this 1)) X in_X10_stake_X10 0 rfl rfl 1 (by decide) m_X10_stake_f19 rfl dX10_stake_56 ?_
            refine J_getN (host := "SoldMatches") (C := RX0) (T := TX0) (N := 13) (ci := 0) (v := .int this_bets_count) X in_X10_stake_X0 1 rfl rfl 0 (by decide) (List.mem_of_getElem? (i := 23) rfl) rfl dX10_stake_59 ?_
            refine J_bipush (v := 40) X dX10_stake_62 (by decide) ?_
            refine J_icmp_ge (tgt := 84) X dX10_stake_64 (by decide) (fun hc11 => ?_) (fun hc11 => ?_)
            · have hT := ift hT hc11
              refine J_bipush (v := -4) X dX10_stake_84 (by decide) ?_
              refine J_lv (lv' := [(0, .ref h_this)]) [0] rfl ?_
              exact b_X10_stake_86 X cI cJ cZ h_this q_this q_this_bets q_this_games this_bets_near this_bets_times this_bets_ties this_games_base this_games_topLean this_games_topSpot r z0 z1 z2 z3 z4 z5  this_bets_count this_games_count this_bets_end this_bets_hand this_bets_match this_bets_minute this_bets_sum (-4 : Int32) hT
            · have hT := iff_ hT hc11
              refine J_aload_n X dX10_stake_67 0 rfl ?_
              refine J_get (C := RX10) (T := TX10) (N := 10) (ci := 10) (v := .ref (q_this 1)) X in_X10_stake_X10 0 rfl rfl 1 (by decide) m_X10_stake_f19 rfl dX10_stake_68 ?_
              refine J_iload_n X dX10_stake_71 1 rfl ?_
              refine J_iload_n X dX10_stake_72 2 rfl ?_
              refine J_iload_n X dX10_stake_73 3 rfl ?_
              refine J_iload X dX10_stake_74 4 rfl ?_
              refine J_iload X dX10_stake_76 5 rfl ?_
              obtain ⟨v12, u12_0, u12_1, u12_2, u12_3, u12_4, u12_5, hq12, hT⟩ := bd7_e hT
              refine J_ci (wc := (w_X0_add cI cJ cZ (q_this 1) q_this_bets this_bets_count this_bets_near this_bets_times this_bets_ties this_bets_end this_bets_hand this_bets_match this_bets_minute this_bets_sum)) (wc' := (w_X0_add cI cJ cZ (q_this 1) q_this_bets u12_0 this_bets_near this_bets_times this_bets_ties u12_1 u12_2 u12_3 u12_4 u12_5)) (ws' := (w_X10_stake cI cJ cZ h_this q_this q_this_bets q_this_games u12_0 this_bets_near this_bets_times this_bets_ties this_games_count this_games_base this_games_topLean this_games_topSpot u12_1 u12_2 u12_3 u12_4 u12_5)) (idxs [false, true, false, true, true, true, true, true] 0) (idxs [true, false, true, false, false, false, false, false] 0) 8 rfl rfl rfl (pick_C _ rfl rfl) rfl (pick_C _ rfl rfl) rfl (pick_R _ rfl rfl rfl) (run_V (As := [.int x1, .int x2, .int x3, .int x4, .int x5]) (rest := []) X (c_X0_add l D cI cJ cZ (q_this 1) q_this_bets this_bets_count this_bets_near this_bets_times this_bets_ties this_bets_end this_bets_hand this_bets_match this_bets_minute this_bets_sum x1 x2 x3 x4 x5 v12 u12_0 u12_1 u12_2 u12_3 u12_4 u12_5 hq12) (cw_X10_stake_X0_add_188 X.1.2.2.2.2) 0 rfl rfl rfl rfl (Nat.le_of_ble_eq_true rfl) dX10_stake_78 ⟨Nat.zero_le _, Nat.zero_le _⟩) ?_
              refine J_goto (tgt := 86) X dX10_stake_81 (by decide) ?_
              refine J_lv (lv' := [(0, .ref h_this)]) [0] rfl ?_
              exact b_X10_stake_86 X cI cJ cZ h_this q_this q_this_bets q_this_games this_bets_near this_bets_times this_bets_ties this_games_base this_games_topLean this_games_topSpot r z0 z1 z2 z3 z4 z5  u12_0 this_games_count u12_1 u12_2 u12_3 u12_4 u12_5 v12 hT
          · have hT := ift hT hc10
            refine J_bipush (v := -2) X dX10_stake_52 (by decide) ?_
            cases hT
            exact J_iret X dX10_stake_54
    · have hT := ift hT hc4
      refine J_iconst (v := -1) X dX10_stake_18 (by decide) ?_
      cases hT
      exact J_iret X dX10_stake_19
-- ===== SoldMatches.gain(I)I
abbrev rmX10_gain : Room := { frames := 5, cells := 0, slots := 0, locals := 117 }
def w_X10_gain (cI cJ cZ : ClassId) (h_this : Nat) (q_this : Nat → Nat) (q_this_bets : Nat → Nat) (q_this_games : Nat → Nat) (this_bets_count : Int32) (this_bets_near : Int32) (this_bets_times : Int32) (this_bets_ties : Int32) (this_games_count : Int32) (this_games_base : Int32) (this_games_topLean : Int32) (this_games_topSpot : Int32) (this_bets_end : Nat → Int32) (this_bets_hand : Nat → Int32) (this_bets_match : Nat → Int32) (this_bets_minute : Nat → Int32) (this_bets_sum : Nat → Int32) (this_games_goals : Nat → Int32) (this_games_prices : Nat → Int32) : va_W := [(h_this, .inr (10, oFX10 q_this )), ((q_this 1), .inr (0, oFX0 q_this_bets this_bets_count this_bets_near this_bets_times this_bets_ties)), ((q_this 0), .inr (2, oFX2 q_this_games this_games_count this_games_base this_games_topLean this_games_topSpot)), ((q_this_bets 6), .inl (cI, 40, .inl this_bets_end)), ((q_this_bets 4), .inl (cI, 40, .inl this_bets_hand)), ((q_this_bets 5), .inl (cI, 40, .inl this_bets_match)), ((q_this_bets 7), .inl (cI, 40, .inl this_bets_minute)), ((q_this_bets 8), .inl (cI, 40, .inl this_bets_sum)), ((q_this_games 8), .inl (cI, 72, .inl this_games_goals)), ((q_this_games 9), .inl (cI, 216, .inl this_games_prices))]
theorem cw_X10_gain_X10_isHand_184 {s : State} {args : Array Value} (hts : ∀ w ∈ wsX10_gain, w.before args s = true) : CallB rmX10_gain s args RX10 184 yX10_isHand cX10_isHand 1 (some .boolean) wsX10_isHand rmX10_isHand 0 0 1 ∧ (Cond.static yX10_isHand).before args s = true := va_cwS 1 hts gX10_gain_X10_isHand rfl rfl rfl (by decide +kernel) ⟨by decide, by decide⟩
theorem m_X10_gain_c173 : Cond.constant RX10 173 (-2000000000) ∈ wsX10_gain := List.mem_of_getElem? (i := 3) rfl
theorem m_X10_gain_f19 : Cond.fieldLink RX10 19 "SoldMatches" "bets" "LSoldMatches$Bets;" ∈ wsX10_gain := List.mem_of_getElem? (i := 1) rfl
theorem in_X10_gain_X10 : ∀ w ∈ wsX100, w ∈ wsX10_gain := fun w h => List.mem_cons_of_mem _ (List.mem_append_left _ (List.mem_append_left _ (List.mem_append_right _ h)))
theorem m_X10_gain_f12 : Cond.fieldLink RX10 12 "SoldMatches" "games" "LSoldMatches$Games;" ∈ wsX10_gain := List.mem_of_getElem? (i := 2) rfl
theorem cw_X10_gain_X0_gainOf_191 {s : State} {args : Array Value} (hts : ∀ w ∈ wsX10_gain, w.before args s = true) : CallW rmX10_gain s args RX10 RX0 191 yX0_gainOf cX0_gainOf 5 (some .int) wsX0_gainOf rmX0_gainOf 0 0 2 := cwV 2 hts gX10_gain_X0_gainOf rfl rfl rfl (by decide +kernel) ⟨by decide, by decide⟩
def t_X10_gain_24   (this_bets_count : Int32) (this_bets_end : Nat → Int32) (this_bets_hand : Nat → Int32) (this_bets_match : Nat → Int32) (this_bets_minute : Nat → Int32) (this_bets_sum : Nat → Int32) (this_games_goals : Nat → Int32) (this_games_prices : Nat → Int32) (s0 : Int32) : Option (Int32) := some (s0)
def t_X10_gain  (this_bets_count : Int32) (this_bets_end : Nat → Int32) (this_bets_hand : Nat → Int32) (this_bets_match : Nat → Int32) (this_bets_minute : Nat → Int32) (this_bets_sum : Nat → Int32) (this_games_goals : Nat → Int32) (this_games_prices : Nat → Int32) (x1 : Int32) : Option (Int32) := bd1 (t_X10_isHand x1) (fun v1 => if v1 = 0 then (t_X10_gain_24   this_bets_count this_bets_end this_bets_hand this_bets_match this_bets_minute this_bets_sum this_games_goals this_games_prices (-2000000000 : Int32)) else (bd1 (t_X0_gainOf this_bets_count this_bets_end this_bets_hand this_bets_match this_bets_minute this_bets_sum this_games_goals this_games_prices x1) (fun v3 => t_X10_gain_24   this_bets_count this_bets_end this_bets_hand this_bets_match this_bets_minute this_bets_sum this_games_goals this_games_prices v3)))
set_option maxHeartbeats 4000000 in
set_option maxRecDepth 100000 in
theorem b_X10_gain_24 {p : Program} {l : Launch} {e : Env} {s : State} {m : MethodId} {args : Array Value} {below : List Frame} {meth : Method} {c : Code} {D : va_G} {A : Nat → Prop} {cI cJ cZ : ClassId} (X : Cx p m c cX10_gain 2 s args wsX10_gain RX10 D (tys3 cI cJ cZ) meth (some .int)) (_ _ _ : ClassId)  (h_this : Nat) (q_this : Nat → Nat) (q_this_bets : Nat → Nat) (q_this_games : Nat → Nat) (this_bets_near : Int32) (this_bets_times : Int32) (this_bets_ties : Int32) (this_games_count : Int32) (this_games_base : Int32) (this_games_topLean : Int32) (this_games_topSpot : Int32) (r : Int32)  (this_bets_count : Int32) (this_bets_end : Nat → Int32) (this_bets_hand : Nat → Int32) (this_bets_match : Nat → Int32) (this_bets_minute : Nat → Int32) (this_bets_sum : Nat → Int32) (this_games_goals : Nat → Int32) (this_games_prices : Nat → Int32) (s0 : Int32) (hT : t_X10_gain_24   this_bets_count this_bets_end this_bets_hand this_bets_match this_bets_minute this_bets_sum this_games_goals this_games_prices s0 = some r) : J p l e rmX10_gain s m args below meth c D A 2 (QI D below args s A r (w_X10_gain cI cJ cZ h_this q_this q_this_bets q_this_games this_bets_count this_bets_near this_bets_times this_bets_ties this_games_count this_games_base this_games_topLean this_games_topSpot this_bets_end this_bets_hand this_bets_match this_bets_minute this_bets_sum this_games_goals this_games_prices)) 0 0 (w_X10_gain cI cJ cZ h_this q_this q_this_bets q_this_games this_bets_count this_bets_near this_bets_times this_bets_ties this_games_count this_games_base this_games_topLean this_games_topSpot this_bets_end this_bets_hand this_bets_match this_bets_minute this_bets_sum this_games_goals this_games_prices) [(0, .ref h_this)] [.int s0] 24 := by
  unfold t_X10_gain_24 at hT
  cases hT
  exact J_iret X dX10_gain_24
set_option maxHeartbeats 4000000 in
set_option maxRecDepth 100000 in
theorem c_X10_gain (l : Launch) (D : va_G) (cI cJ cZ : ClassId) (h_this : Nat) (q_this : Nat → Nat) (q_this_bets : Nat → Nat) (q_this_games : Nat → Nat) (this_bets_count : Int32) (this_bets_near : Int32) (this_bets_times : Int32) (this_bets_ties : Int32) (this_games_count : Int32) (this_games_base : Int32) (this_games_topLean : Int32) (this_games_topSpot : Int32) (this_bets_end : Nat → Int32) (this_bets_hand : Nat → Int32) (this_bets_match : Nat → Int32) (this_bets_minute : Nat → Int32) (this_bets_sum : Nat → Int32) (this_games_goals : Nat → Int32) (this_games_prices : Nat → Int32) (x1 : Int32) (r : Int32) (hT : t_X10_gain  this_bets_count this_bets_end this_bets_hand this_bets_match this_bets_minute this_bets_sum this_games_goals this_games_prices x1 = some r) : Ci l yX10_gain wsX10_gain rmX10_gain D (tys3 cI cJ cZ) [.ref h_this, .int x1] (w_X10_gain cI cJ cZ h_this q_this q_this_bets q_this_games this_bets_count this_bets_near this_bets_times this_bets_ties this_games_count this_games_base this_games_topLean this_games_topSpot this_bets_end this_bets_hand this_bets_match this_bets_minute this_bets_sum this_games_goals this_games_prices) r (w_X10_gain cI cJ cZ h_this q_this q_this_bets q_this_games this_bets_count this_bets_near this_bets_times this_bets_ties this_games_count this_games_base this_games_topLean this_games_topSpot this_bets_end this_bets_hand this_bets_match this_bets_minute this_bets_sum this_games_goals this_games_prices) := by
  refine Ci.ofJ (cc := cX10_gain) (nL := 2) (rt := (some .int)) (own := RX10) (by decide) rfl rfl (Nat.le_of_ble_eq_true rfl) ?_
  intro p e s m below meth c A X
  unfold t_X10_gain at hT
  refine J_lv (lv' := [(0, .ref h_this), (1, .int x1)]) [0, 1] rfl ?_
  refine J_iload_n X dX10_gain_0 1 rfl ?_
  obtain ⟨v1, hq1, hT⟩ := bd1_e hT
  refine J_ci (wc := (w_X10_isHand cI cJ cZ )) (wc' := (w_X10_isHand cI cJ cZ )) (ws' := (w_X10_gain cI cJ cZ h_this q_this q_this_bets q_this_games this_bets_count this_bets_near this_bets_times this_bets_ties this_games_count this_games_base this_games_topLean this_games_topSpot this_bets_end this_bets_hand this_bets_match this_bets_minute this_bets_sum this_games_goals this_games_prices)) (idxs [false, false, false, false, false, false, false, false, false, false] 0) (idxs [true, true, true, true, true, true, true, true, true, true] 0) 10 rfl rfl rfl (pick_C _ rfl rfl) rfl (pick_C _ rfl rfl) rfl (pick_R _ rfl rfl rfl) (run_S (As := [.int x1]) (rest := []) X (c_X10_isHand l D cI cJ cZ  x1 v1 hq1) (cw_X10_gain_X10_isHand_184 X.1.2.2.2.2) rfl rfl (Nat.le_of_ble_eq_true rfl) dX10_gain_1 ⟨Nat.zero_le _, Nat.zero_le _⟩) ?_
  refine J_if_eq (tgt := 22) X dX10_gain_4 (by decide) (fun hc2 => ?_) (fun hc2 => ?_)
  · have hT := ift hT hc2
    refine J_ldc X dX10_gain_22 m_X10_gain_c173 ?_
    refine J_lv (lv' := [(0, .ref h_this)]) [0] rfl ?_
    exact b_X10_gain_24 X cI cJ cZ h_this q_this q_this_bets q_this_games this_bets_near this_bets_times this_bets_ties this_games_count this_games_base this_games_topLean this_games_topSpot r  this_bets_count this_bets_end this_bets_hand this_bets_match this_bets_minute this_bets_sum this_games_goals this_games_prices (-2000000000 : Int32) hT
  · have hT := iff_ hT hc2
    refine J_aload_n X dX10_gain_7 0 rfl ?_
    refine J_get (C := RX10) (T := TX10) (N := 10) (ci := 10) (v := .ref (q_this 1)) X in_X10_gain_X10 0 rfl rfl 1 (by decide) m_X10_gain_f19 rfl dX10_gain_8 ?_
    refine J_iload_n X dX10_gain_11 1 rfl ?_
    refine J_aload_n X dX10_gain_12 0 rfl ?_
    refine J_get (C := RX10) (T := TX10) (N := 10) (ci := 10) (v := .ref (q_this 0)) X in_X10_gain_X10 0 rfl rfl 0 (by decide) m_X10_gain_f12 rfl dX10_gain_13 ?_
    obtain ⟨v3, hq3, hT⟩ := bd1_e hT
    refine J_ci (wc := (w_X0_gainOf cI cJ cZ (q_this 1) (q_this 0) q_this_bets q_this_games this_bets_count this_bets_near this_bets_times this_bets_ties this_games_count this_games_base this_games_topLean this_games_topSpot this_bets_end this_bets_hand this_bets_match this_bets_minute this_bets_sum this_games_goals this_games_prices)) (wc' := (w_X0_gainOf cI cJ cZ (q_this 1) (q_this 0) q_this_bets q_this_games this_bets_count this_bets_near this_bets_times this_bets_ties this_games_count this_games_base this_games_topLean this_games_topSpot this_bets_end this_bets_hand this_bets_match this_bets_minute this_bets_sum this_games_goals this_games_prices)) (ws' := (w_X10_gain cI cJ cZ h_this q_this q_this_bets q_this_games this_bets_count this_bets_near this_bets_times this_bets_ties this_games_count this_games_base this_games_topLean this_games_topSpot this_bets_end this_bets_hand this_bets_match this_bets_minute this_bets_sum this_games_goals this_games_prices)) (idxs [false, true, true, true, true, true, true, true, true, true] 0) (idxs [true, false, false, false, false, false, false, false, false, false] 0) 10 rfl rfl rfl (pick_C _ rfl rfl) rfl (pick_C _ rfl rfl) rfl (pick_R _ rfl rfl rfl) (run_V (As := [.int x1, .ref (q_this 0)]) (rest := []) X (c_X0_gainOf l D cI cJ cZ (q_this 1) (q_this 0) q_this_bets q_this_games this_bets_count this_bets_near this_bets_times this_bets_ties this_games_count this_games_base this_games_topLean this_games_topSpot this_bets_end this_bets_hand this_bets_match this_bets_minute this_bets_sum this_games_goals this_games_prices x1 v3 hq3) (cw_X10_gain_X0_gainOf_191 X.1.2.2.2.2) 0 rfl rfl rfl rfl (Nat.le_of_ble_eq_true rfl) dX10_gain_16 ⟨Nat.zero_le _, Nat.zero_le _⟩) ?_
    refine J_goto (tgt := 24) X dX10_gain_19 (by decide) ?_
    refine J_lv (lv' := [(0, .ref h_this)]) [0] rfl ?_
    exact b_X10_gain_24 X cI cJ cZ h_this q_this q_this_bets q_this_games this_bets_near this_bets_times this_bets_ties this_games_count this_games_base this_games_topLean this_games_topSpot r  this_bets_count this_bets_end this_bets_hand this_bets_match this_bets_minute this_bets_sum this_games_goals this_games_prices v3 hT
