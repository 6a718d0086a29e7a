-- ===== SoldMatches$Odds.playQuarter(II)V
abbrev rmX4_playQuarter : Room := { frames := 0, cells := 0, slots := 0, locals := 0 }
def w_X4_playQuarter (cI cJ cZ : ClassId) (h_this : Nat) (q_this : Nat → Nat) (this_upper : Int64) (this_lower : Int64) (this_cases : Nat → Int64) : va_W := [(h_this, .inr (4, oFX4 q_this this_upper this_lower)), ((q_this 0), .inl (cJ, 13, .inr (.inl this_cases)))]
theorem m_X4_playQuarter_f9 : Cond.fieldLink RX4 9 "SoldMatches$Odds" "cases" "[J" ∈ wsX4_playQuarter := List.mem_of_getElem? (i := 1) rfl
theorem in_X4_playQuarter_X4 : ∀ w ∈ wsX40, w ∈ wsX4_playQuarter := fun w h => List.mem_cons_of_mem _ (List.mem_append_right _ h)
def t_X4_playQuarter_57  (k_13 : (Nat → Int64) → Int32 → Int32 → Int32 → Int64 → Int32 → (Option ((Nat → Int64)))) (this_cases : Nat → Int64) (x1 : Int32) (x2 : Int32) (x3 : Int32) (x4 : Int64) (x6 : Int32) (x7 : Int64) (s0 : Int64) : Option ((Nat → Int64)) := ckn (x6 < 0 ∨ 13 ≤ x6.toNatClampNeg) (k_13 (vp_updL this_cases x6.toNatClampNeg (((x4 * (x1.toInt64)) + (x7 * (x3.toInt64))) + (s0 * (x2.toInt64)))) x1 x2 x3 x7 (x6 + (1 : Int32)))
def t_X4_playQuarter_13_b  (k_13 : (Nat → Int64) → Int32 → Int32 → Int32 → Int64 → Int32 → (Option ((Nat → Int64)))) (this_cases : Nat → Int64) (x1 : Int32) (x2 : Int32) (x3 : Int32) (x4 : Int64) (x6 : Int32) : Option ((Nat → Int64)) := if (13 : Int32) ≤ x6 then (some (this_cases)) else (ckn (x6 < 0 ∨ 13 ≤ x6.toNatClampNeg) (if (13 : Int32) ≤ (x6 + (1 : Int32)) then (t_X4_playQuarter_57  k_13 this_cases x1 x2 x3 x4 x6 (this_cases x6.toNatClampNeg) (0 : Int64)) else (ckn ((x6 + (1 : Int32)) < 0 ∨ 13 ≤ (x6 + (1 : Int32)).toNatClampNeg) (t_X4_playQuarter_57  k_13 this_cases x1 x2 x3 x4 x6 (this_cases x6.toNatClampNeg) (this_cases (x6 + (1 : Int32)).toNatClampNeg)))))
def t_X4_playQuarter_13   (n : Nat) : (Nat → Int64) → Int32 → Int32 → Int32 → Int64 → Int32 → (Option ((Nat → Int64))) := Nat.rec (fun _ _ _ _ _ _ => none) (fun _ ih => t_X4_playQuarter_13_b   ih) n
def t_X4_playQuarter  (this_cases : Nat → Int64) (x1 : Int32) (x2 : Int32) : Option ((Nat → Int64)) := t_X4_playQuarter_13   lfuel this_cases x1 x2 (((100 : Int32) - x1) - x2) (0 : Int64) (0 : Int32)
set_option maxHeartbeats 4000000 in
set_option maxRecDepth 100000 in
theorem b_X4_playQuarter_57 {p : Program} {l : Launch} {e : Env} {s : State} {m : MethodId} {args : Array Value} {below : List Frame} {meth : Method} {c : Code} {D : va_G} {A : Nat → Prop} {cI cJ cZ : ClassId} (X : Cx p m c cX4_playQuarter 11 s args wsX4_playQuarter RX4 D (tys3 cI cJ cZ) meth none) (_ _ _ : ClassId)  (h_this : Nat) (q_this : Nat → Nat) (this_upper : Int64) (this_lower : Int64) (z0 : Nat → Int64) (k_13 : (Nat → Int64) → Int32 → Int32 → Int32 → Int64 → Int32 → (Option ((Nat → Int64)))) (hk_13 : ∀ (this_cases : Nat → Int64) (x1 : Int32) (x2 : Int32) (x3 : Int32) (x4 : Int64) (x6 : Int32), k_13 this_cases x1 x2 x3 x4 x6 = some z0 → J p l e rmX4_playQuarter s m args below meth c D A 11 (QV D below args s A (w_X4_playQuarter cI cJ cZ h_this q_this this_upper this_lower z0)) 0 0 (w_X4_playQuarter cI cJ cZ h_this q_this this_upper this_lower this_cases) [(0, .ref h_this), (1, .int x1), (2, .int x2), (3, .int x3), (4, .long x4), (6, .int x6)] [] 13) (this_cases : Nat → Int64) (x1 : Int32) (x2 : Int32) (x3 : Int32) (x4 : Int64) (x6 : Int32) (x7 : Int64) (s0 : Int64) (hT : t_X4_playQuarter_57  k_13 this_cases x1 x2 x3 x4 x6 x7 s0 = some z0) : J p l e rmX4_playQuarter s m args below meth c D A 11 (QV D below args s A (w_X4_playQuarter cI cJ cZ h_this q_this this_upper this_lower z0)) 0 0 (w_X4_playQuarter cI cJ cZ h_this q_this this_upper this_lower this_cases) [(0, .ref h_this), (1, .int x1), (2, .int x2), (3, .int x3), (4, .long x4), (6, .int x6), (7, .long x7)] [.long s0] 57 := by
  unfold t_X4_playQuarter_57 at hT
  refine J_lstore (lv' := [(9, .long s0), (0, .ref h_this), (1, .int x1), (2, .int x2), (3, .int x3), (4, .long x4), (6, .int x6), (7, .long x7)]) X dX4_playQuarter_57 (by decide) rfl ?_
  refine J_aload_n X dX4_playQuarter_59 1 rfl ?_
  refine J_get (C := RX4) (T := TX4) (N := 3) (ci := 4) (v := .ref (q_this 0)) X in_X4_playQuarter_X4 0 rfl rfl 0 (by decide) m_X4_playQuarter_f9 rfl dX4_playQuarter_60 ?_
  refine J_iload X dX4_playQuarter_63 6 rfl ?_
  refine J_lload X dX4_playQuarter_65 5 rfl ?_
  refine J_iload_n X dX4_playQuarter_67 2 rfl ?_
  refine J_i2l X dX4_playQuarter_68 ?_
  refine J_lmul X dX4_playQuarter_69 ?_
  refine J_lload X dX4_playQuarter_70 7 rfl ?_
  refine J_iload_n X dX4_playQuarter_72 4 rfl ?_
  refine J_i2l X dX4_playQuarter_73 ?_
  refine J_lmul X dX4_playQuarter_74 ?_
  refine J_ladd X dX4_playQuarter_75 ?_
  refine J_lload X dX4_playQuarter_76 0 rfl ?_
  refine J_iload_n X dX4_playQuarter_78 3 rfl ?_
  refine J_i2l X dX4_playQuarter_79 ?_
  refine J_lmul X dX4_playQuarter_80 ?_
  refine J_ladd X dX4_playQuarter_81 ?_
  obtain ⟨hk1, hT⟩ := ckn_e hT
  refine J_last (ws' := (w_X4_playQuarter cI cJ cZ h_this q_this this_upper this_lower (vp_updL this_cases x6.toNatClampNeg (((x4 * (x1.toInt64)) + (x7 * (x3.toInt64))) + (s0 * (x2.toInt64)))))) X 1 rfl rfl hk1 rfl dX4_playQuarter_82 ?_
  refine J_lload X dX4_playQuarter_83 7 rfl ?_
  refine J_lstore (lv' := [(4, .long x7), (9, .long s0), (0, .ref h_this), (1, .int x1), (2, .int x2), (3, .int x3), (6, .int x6), (7, .long x7)]) X dX4_playQuarter_85 (by decide) rfl ?_
  refine J_iinc (lv' := [(6, .int (x6 + (1 : Int32))), (4, .long x7), (9, .long s0), (0, .ref h_this), (1, .int x1), (2, .int x2), (3, .int x3), (7, .long x7)]) (j := 6) X dX4_playQuarter_87 rfl rfl (by decide) rfl ?_
  refine J_goto (tgt := 13) X dX4_playQuarter_90 (by decide) ?_
  refine J_lv (lv' := [(0, .ref h_this), (1, .int x1), (2, .int x2), (3, .int x3), (4, .long x7), (6, .int (x6 + (1 : Int32)))]) [3, 4, 5, 6, 1, 0] rfl ?_
  exact hk_13 (vp_updL this_cases x6.toNatClampNeg (((x4 * (x1.toInt64)) + (x7 * (x3.toInt64))) + (s0 * (x2.toInt64)))) x1 x2 x3 x7 (x6 + (1 : Int32)) hT
set_option maxHeartbeats 4000000 in
set_option maxRecDepth 100000 in
theorem b_X4_playQuarter_13_b {p : Program} {l : Launch} {e : Env} {s : State} {m : MethodId} {args : Array Value} {below : List Frame} {meth : Method} {c : Code} {D : va_G} {A : Nat → Prop} {cI cJ cZ : ClassId} (X : Cx p m c cX4_playQuarter 11 s args wsX4_playQuarter RX4 D (tys3 cI cJ cZ) meth none) (_ _ _ : ClassId)  (h_this : Nat) (q_this : Nat → Nat) (this_upper : Int64) (this_lower : Int64) (z0 : Nat → Int64) (k_13 : (Nat → Int64) → Int32 → Int32 → Int32 → Int64 → Int32 → (Option ((Nat → Int64)))) (hk_13 : ∀ (this_cases : Nat → Int64) (x1 : Int32) (x2 : Int32) (x3 : Int32) (x4 : Int64) (x6 : Int32), k_13 this_cases x1 x2 x3 x4 x6 = some z0 → J p l e rmX4_playQuarter s m args below meth c D A 11 (QV D below args s A (w_X4_playQuarter cI cJ cZ h_this q_this this_upper this_lower z0)) 0 0 (w_X4_playQuarter cI cJ cZ h_this q_this this_upper this_lower this_cases) [(0, .ref h_this), (1, .int x1), (2, .int x2), (3, .int x3), (4, .long x4), (6, .int x6)] [] 13) (this_cases : Nat → Int64) (x1 : Int32) (x2 : Int32) (x3 : Int32) (x4 : Int64) (x6 : Int32) (hT : t_X4_playQuarter_13_b  k_13 this_cases x1 x2 x3 x4 x6 = some z0) : J p l e rmX4_playQuarter s m args below meth c D A 11 (QV D below args s A (w_X4_playQuarter cI cJ cZ h_this q_this this_upper this_lower z0)) 0 0 (w_X4_playQuarter cI cJ cZ h_this q_this this_upper this_lower this_cases) [(0, .ref h_this), (1, .int x1), (2, .int x2), (3, .int x3), (4, .long x4), (6, .int x6)] [] 13 := by
  unfold t_X4_playQuarter_13_b at hT
  refine J_iload X dX4_playQuarter_13 5 rfl ?_
  refine J_aload_n X dX4_playQuarter_15 0 rfl ?_
  refine J_get (C := RX4) (T := TX4) (N := 3) (ci := 4) (v := .ref (q_this 0)) X in_X4_playQuarter_X4 0 rfl rfl 0 (by decide) m_X4_playQuarter_f9 rfl dX4_playQuarter_16 ?_
  refine J_alen (v := 13) X 1 1 rfl rfl rfl dX4_playQuarter_19 ?_
  refine J_icmp_ge (tgt := 93) X dX4_playQuarter_20 (by decide) (fun hc2 => ?_) (fun hc2 => ?_)
  · have hT := ift hT hc2
    cases hT
    exact J_vret X dX4_playQuarter_93
  · have hT := iff_ hT hc2
    refine J_aload_n X dX4_playQuarter_23 0 rfl ?_
    refine J_get (C := RX4) (T := TX4) (N := 3) (ci := 4) (v := .ref (q_this 0)) X in_X4_playQuarter_X4 0 rfl rfl 0 (by decide) m_X4_playQuarter_f9 rfl dX4_playQuarter_24 ?_
    refine J_iload X dX4_playQuarter_27 5 rfl ?_
    obtain ⟨hk3, hT⟩ := ckn_e hT
    refine J_lald X 1 rfl rfl hk3 dX4_playQuarter_29 ?_
    refine J_lstore (lv' := [(7, .long (this_cases x6.toNatClampNeg)), (0, .ref h_this), (1, .int x1), (2, .int x2), (3, .int x3), (4, .long x4), (6, .int x6)]) X dX4_playQuarter_30 (by decide) rfl ?_
    refine J_iload X dX4_playQuarter_32 6 rfl ?_
    refine J_iconst (v := 1) X dX4_playQuarter_34 (by decide) ?_
    refine J_iadd X dX4_playQuarter_35 ?_
    refine J_aload_n X dX4_playQuarter_36 1 rfl ?_
    refine J_get (C := RX4) (T := TX4) (N := 3) (ci := 4) (v := .ref (q_this 0)) X in_X4_playQuarter_X4 0 rfl rfl 0 (by decide) m_X4_playQuarter_f9 rfl dX4_playQuarter_37 ?_
    refine J_alen (v := 13) X 1 1 rfl rfl rfl dX4_playQuarter_40 ?_
    refine J_icmp_ge (tgt := 56) X dX4_playQuarter_41 (by decide) (fun hc4 => ?_) (fun hc4 => ?_)
    · have hT := ift hT hc4
      refine J_lconst (v := 0) X dX4_playQuarter_56 (by decide) ?_
      refine J_lv (lv' := [(0, .ref h_this), (1, .int x1), (2, .int x2), (3, .int x3), (4, .long x4), (6, .int x6), (7, .long (this_cases x6.toNatClampNeg))]) [1, 2, 3, 4, 5, 6, 0] rfl ?_
      exact b_X4_playQuarter_57 X cI cJ cZ h_this q_this this_upper this_lower z0 k_13 hk_13 this_cases x1 x2 x3 x4 x6 (this_cases x6.toNatClampNeg) (0 : Int64) hT
    · have hT := iff_ hT hc4
      refine J_aload_n X dX4_playQuarter_44 1 rfl ?_
      refine J_get (C := RX4) (T := TX4) (N := 3) (ci := 4) (v := .ref (q_this 0)) X in_X4_playQuarter_X4 0 rfl rfl 0 (by decide) m_X4_playQuarter_f9 rfl dX4_playQuarter_45 ?_
      refine J_iload X dX4_playQuarter_48 6 rfl ?_
      refine J_iconst (v := 1) X dX4_playQuarter_50 (by decide) ?_
      refine J_iadd X dX4_playQuarter_51 ?_
      obtain ⟨hk5, hT⟩ := ckn_e hT
      refine J_lald X 1 rfl rfl hk5 dX4_playQuarter_52 ?_
      refine J_goto (tgt := 57) X dX4_playQuarter_53 (by decide) ?_
      refine J_lv (lv' := [(0, .ref h_this), (1, .int x1), (2, .int x2), (3, .int x3), (4, .long x4), (6, .int x6), (7, .long (this_cases x6.toNatClampNeg))]) [1, 2, 3, 4, 5, 6, 0] rfl ?_
      exact b_X4_playQuarter_57 X cI cJ cZ h_this q_this this_upper this_lower z0 k_13 hk_13 this_cases x1 x2 x3 x4 x6 (this_cases x6.toNatClampNeg) (this_cases (x6 + (1 : Int32)).toNatClampNeg) hT
set_option maxHeartbeats 4000000 in
set_option maxRecDepth 100000 in
theorem b_X4_playQuarter_13 {p : Program} {l : Launch} {e : Env} {s : State} {m : MethodId} {args : Array Value} {below : List Frame} {meth : Method} {c : Code} {D : va_G} {A : Nat → Prop} {cI cJ cZ : ClassId} (X : Cx p m c cX4_playQuarter 11 s args wsX4_playQuarter RX4 D (tys3 cI cJ cZ) meth none) (_ _ _ : ClassId)  (h_this : Nat) (q_this : Nat → Nat) (this_upper : Int64) (this_lower : Int64) (z0 : Nat → Int64)  : ∀ (n : Nat) (this_cases : Nat → Int64) (x1 : Int32) (x2 : Int32) (x3 : Int32) (x4 : Int64) (x6 : Int32) (hT : t_X4_playQuarter_13   n this_cases x1 x2 x3 x4 x6 = some z0), J p l e rmX4_playQuarter s m args below meth c D A 11 (QV D below args s A (w_X4_playQuarter cI cJ cZ h_this q_this this_upper this_lower z0)) 0 0 (w_X4_playQuarter cI cJ cZ h_this q_this this_upper this_lower this_cases) [(0, .ref h_this), (1, .int x1), (2, .int x2), (3, .int x3), (4, .long x4), (6, .int x6)] [] 13 := by
  intro n
  induction n with
  | zero => intro this_cases x1 x2 x3 x4 x6 hT; cases hT
  | succ n ih =>
    intro this_cases x1 x2 x3 x4 x6 hT
    exact b_X4_playQuarter_13_b X cI cJ cZ h_this q_this this_upper this_lower z0  (t_X4_playQuarter_13   n) ih this_cases x1 x2 x3 x4 x6 hT
set_option maxHeartbeats 4000000 in
set_option maxRecDepth 100000 in
theorem c_X4_playQuarter (l : Launch) (D : va_G) (cI cJ cZ : ClassId) (h_this : Nat) (q_this : Nat → Nat) (this_upper : Int64) (this_lower : Int64) (this_cases : Nat → Int64) (x1 : Int32) (x2 : Int32) (z0 : Nat → Int64) (hT : t_X4_playQuarter  this_cases x1 x2 = some z0) : Cv l yX4_playQuarter wsX4_playQuarter rmX4_playQuarter D (tys3 cI cJ cZ) [.ref h_this, .int x1, .int x2] (w_X4_playQuarter cI cJ cZ h_this q_this this_upper this_lower this_cases) (w_X4_playQuarter cI cJ cZ h_this q_this this_upper this_lower z0) := by
  refine Cv.ofJ (cc := cX4_playQuarter) (nL := 11) (rt := none) (own := RX4) (by decide) rfl rfl (Nat.le_of_ble_eq_true rfl) ?_
  intro p e s m below meth c A X
  unfold t_X4_playQuarter at hT
  refine J_lv (lv' := [(0, .ref h_this), (1, .int x1), (2, .int x2)]) [0, 1, 2] rfl ?_
  refine J_bipush (v := 100) X dX4_playQuarter_0 (by decide) ?_
  refine J_iload_n X dX4_playQuarter_2 1 rfl ?_
  refine J_isub X dX4_playQuarter_3 ?_
  refine J_iload_n X dX4_playQuarter_4 2 rfl ?_
  refine J_isub X dX4_playQuarter_5 ?_
  refine J_istore_n (lv' := [(3, .int (((100 : Int32) - x1) - x2)), (0, .ref h_this), (1, .int x1), (2, .int x2)]) X dX4_playQuarter_6 (by decide) rfl ?_
  refine J_lconst (v := 0) X dX4_playQuarter_7 (by decide) ?_
  refine J_lstore (lv' := [(4, .long (0 : Int64)), (3, .int (((100 : Int32) - x1) - x2)), (0, .ref h_this), (1, .int x1), (2, .int x2)]) X dX4_playQuarter_8 (by decide) rfl ?_
  refine J_iconst (v := 0) X dX4_playQuarter_10 (by decide) ?_
  refine J_istore (lv' := [(6, .int (0 : Int32)), (4, .long (0 : Int64)), (3, .int (((100 : Int32) - x1) - x2)), (0, .ref h_this), (1, .int x1), (2, .int x2)]) X dX4_playQuarter_11 (by decide) rfl ?_
  refine J_lv (lv' := [(0, .ref h_this), (1, .int x1), (2, .int x2), (3, .int (((100 : Int32) - x1) - x2)), (4, .long (0 : Int64)), (6, .int (0 : Int32))]) [3, 4, 5, 2, 1, 0] rfl ?_
  exact b_X4_playQuarter_13 X cI cJ cZ h_this q_this this_upper this_lower z0  lfuel this_cases x1 x2 (((100 : Int32) - x1) - x2) (0 : Int64) (0 : Int32) hT
-- ===== SoldMatches$Odds.playQuarters(III)V
abbrev rmX4_playQuarters : Room := { frames := 1, cells := 0, slots := 0, locals := 30 }
def w_X4_playQuarters (cI cJ cZ : ClassId) (h_this : Nat) (q_this : Nat → Nat) (this_upper : Int64) (this_lower : Int64) (this_cases : Nat → Int64) : va_W := [(h_this, .inr (4, oFX4 q_this this_upper this_lower)), ((q_this 0), .inl (cJ, 13, .inr (.inl this_cases)))]
theorem cw_X4_playQuarters_X4_playQuarter_25 {s : State} {args : Array Value} (hts : ∀ w ∈ wsX4_playQuarters, w.before args s = true) : CallW rmX4_playQuarters s args RX4 RX4 25 yX4_playQuarter cX4_playQuarter 11 none wsX4_playQuarter rmX4_playQuarter 0 0 2 := cwV 2 hts gX4_playQuarters_X4_playQuarter rfl rfl rfl (by decide +kernel) ⟨by decide, by decide⟩
theorem m_X4_playQuarters_f15 : Cond.fieldLink RX4 15 "SoldMatches$Odds" "lower" "J" ∈ wsX4_playQuarters := List.mem_of_getElem? (i := 2) rfl
theorem in_X4_playQuarters_X4 : ∀ w ∈ wsX40, w ∈ wsX4_playQuarters := fun w h => List.mem_cons_of_mem _ (List.mem_append_right _ h)
theorem m_X4_playQuarters_c29 : Cond.constantLong RX4 29 (100) ∈ wsX4_playQuarters := List.mem_of_getElem? (i := 3) rfl
theorem m_X4_playQuarters_f9 : Cond.fieldLink RX4 9 "SoldMatches$Odds" "cases" "[J" ∈ wsX4_playQuarters := List.mem_of_getElem? (i := 1) rfl
theorem cw_X4_playQuarters_J7_fill_d0a16_19 {s : State} {args : Array Value} (hts : ∀ w ∈ wsX4_playQuarters, w.before args s = true) : CallB rmX4_playQuarters s args RX4 19 yJ7_fill_d0a16 cJ7_fill_d0a16 5 none wsJ7_fill_d0a16 rmJ7_fill_d0a16 0 0 2 ∧ (Cond.static yJ7_fill_d0a16).before args s = true := va_cwS 2 hts gX4_playQuarters_J7_fill_d0a16 rfl rfl rfl (by decide +kernel) ⟨by decide, by decide⟩
def t_X4_playQuarters_24_b  (k_24 : Int64 → (Nat → Int64) → Int32 → Int32 → Int32 → Int32 → (Option (Int64 × (Nat → Int64)))) (this_lower : Int64) (this_cases : Nat → Int64) (x1 : Int32) (x2 : Int32) (x3 : Int32) (x4 : Int32) : Option (Int64 × (Nat → Int64)) := if x1 ≤ x4 then (some (this_lower, this_cases)) else (bd1 (t_X4_playQuarter this_cases x2 x3) (fun u2_0 => k_24 (this_lower * (100 : Int64)) u2_0 x1 x2 x3 (x4 + (1 : Int32))))
def t_X4_playQuarters_24   (n : Nat) : Int64 → (Nat → Int64) → Int32 → Int32 → Int32 → Int32 → (Option (Int64 × (Nat → Int64))) := Nat.rec (fun _ _ _ _ _ _ => none) (fun _ ih => t_X4_playQuarters_24_b   ih) n
def t_X4_playQuarters  (this_lower : Int64) (this_cases : Nat → Int64) (x1 : Int32) (x2 : Int32) (x3 : Int32) : Option (Int64 × (Nat → Int64)) := bd1 (t_J7_fill_d0a16 13 this_cases (0 : Int64)) (fun u3_0 => ckn ((6 : Int32) < 0 ∨ 13 ≤ (6 : Int32).toNatClampNeg) (t_X4_playQuarters_24   lfuel (1 : Int64) (vp_updL u3_0 (6 : Int32).toNatClampNeg (1 : Int64)) x1 x2 x3 (0 : Int32)))
set_option maxHeartbeats 4000000 in
set_option maxRecDepth 100000 in
theorem b_X4_playQuarters_24_b {p : Program} {l : Launch} {e : Env} {s : State} {m : MethodId} {args : Array Value} {below : List Frame} {meth : Method} {c : Code} {D : va_G} {A : Nat → Prop} {cI cJ cZ : ClassId} (X : Cx p m c cX4_playQuarters 5 s args wsX4_playQuarters RX4 D (tys3 cI cJ cZ) meth none) (_ _ _ : ClassId)  (h_this : Nat) (q_this : Nat → Nat) (this_upper : Int64) (z0 : Int64) (z1 : Nat → Int64) (k_24 : Int64 → (Nat → Int64) → Int32 → Int32 → Int32 → Int32 → (Option (Int64 × (Nat → Int64)))) (hk_24 : ∀ (this_lower : Int64) (this_cases : Nat → Int64) (x1 : Int32) (x2 : Int32) (x3 : Int32) (x4 : Int32), k_24 this_lower this_cases x1 x2 x3 x4 = some (z0, z1) → J p l e rmX4_playQuarters s m args below meth c D A 5 (QV D below args s A (w_X4_playQuarters cI cJ cZ h_this q_this this_upper z0 z1)) 0 0 (w_X4_playQuarters cI cJ cZ h_this q_this this_upper this_lower this_cases) [(0, .ref h_this), (1, .int x1), (2, .int x2), (3, .int x3), (4, .int x4)] [] 24) (this_lower : Int64) (this_cases : Nat → Int64) (x1 : Int32) (x2 : Int32) (x3 : Int32) (x4 : Int32) (hT : t_X4_playQuarters_24_b  k_24 this_lower this_cases x1 x2 x3 x4 = some (z0, z1)) : J p l e rmX4_playQuarters s m args below meth c D A 5 (QV D below args s A (w_X4_playQuarters cI cJ cZ h_this q_this this_upper z0 z1)) 0 0 (w_X4_playQuarters cI cJ cZ h_this q_this this_upper this_lower this_cases) [(0, .ref h_this), (1, .int x1), (2, .int x2), (3, .int x3), (4, .int x4)] [] 24 := by
  unfold t_X4_playQuarters_24_b at hT
  refine J_iload X dX4_playQuarters_24 4 rfl ?_
  refine J_iload_n X dX4_playQuarters_26 1 rfl ?_
  refine J_icmp_ge (tgt := 54) X dX4_playQuarters_27 (by decide) (fun hc1 => ?_) (fun hc1 => ?_)
  · have hT := ift hT hc1
    cases hT
    exact J_vret X dX4_playQuarters_54
  · have hT := iff_ hT hc1
    refine J_aload_n X dX4_playQuarters_30 0 rfl ?_
    refine J_iload_n X dX4_playQuarters_31 2 rfl ?_
    refine J_iload_n X dX4_playQuarters_32 3 rfl ?_
    obtain ⟨u2_0, hq2, hT⟩ := bd1_e hT
    refine J_cv (wc := (w_X4_playQuarter cI cJ cZ h_this q_this this_upper this_lower this_cases)) (wc' := (w_X4_playQuarter cI cJ cZ h_this q_this this_upper this_lower u2_0)) (ws' := (w_X4_playQuarters cI cJ cZ h_this q_this this_upper this_lower u2_0)) [0, 1] [] 2 rfl rfl rfl rfl rfl rfl rfl rfl (run_V (As := [.int x2, .int x3]) (rest := []) X (c_X4_playQuarter l D cI cJ cZ h_this q_this this_upper this_lower this_cases x2 x3 u2_0 hq2) (cw_X4_playQuarters_X4_playQuarter_25 X.1.2.2.2.2) 0 rfl rfl rfl rfl (Nat.le_of_ble_eq_true rfl) dX4_playQuarters_33 ⟨Nat.zero_le _, Nat.zero_le _⟩) ?_
    refine J_aload_n X dX4_playQuarters_36 0 rfl ?_
    refine J_dup X dX4_playQuarters_37 rfl ?_
    refine J_get (C := RX4) (T := TX4) (N := 3) (ci := 4) (v := .long this_lower) X in_X4_playQuarters_X4 0 rfl rfl 2 (by decide) m_X4_playQuarters_f15 rfl dX4_playQuarters_38 ?_
    refine J_ldc2 X dX4_playQuarters_41 m_X4_playQuarters_c29 ?_
    refine J_lmul X dX4_playQuarters_44 ?_
    refine J_put (host := "") (C := RX4) (T := TX4) (N := 3) (ci := 4) (ws' := (w_X4_playQuarters cI cJ cZ h_this q_this this_upper (this_lower * (100 : Int64)) u2_0)) X in_X4_playQuarters_X4 0 rfl rfl 2 (by decide) tyX4 tyX4_ok nmX4 m_X4_playQuarters_f15 rfl rfl rfl (Nat.le_of_ble_eq_true rfl) rfl dX4_playQuarters_45 ?_
    refine J_iinc (lv' := [(4, .int (x4 + (1 : Int32))), (0, .ref h_this), (1, .int x1), (2, .int x2), (3, .int x3)]) (j := 4) X dX4_playQuarters_48 rfl rfl (by decide) rfl ?_
    refine J_goto (tgt := 24) X dX4_playQuarters_51 (by decide) ?_
    refine J_lv (lv' := [(0, .ref h_this), (1, .int x1), (2, .int x2), (3, .int x3), (4, .int (x4 + (1 : Int32)))]) [1, 2, 3, 4, 0] rfl ?_
    exact hk_24 (this_lower * (100 : Int64)) u2_0 x1 x2 x3 (x4 + (1 : Int32)) hT
set_option maxHeartbeats 4000000 in
set_option maxRecDepth 100000 in
theorem b_X4_playQuarters_24 {p : Program} {l : Launch} {e : Env} {s : State} {m : MethodId} {args : Array Value} {below : List Frame} {meth : Method} {c : Code} {D : va_G} {A : Nat → Prop} {cI cJ cZ : ClassId} (X : Cx p m c cX4_playQuarters 5 s args wsX4_playQuarters RX4 D (tys3 cI cJ cZ) meth none) (_ _ _ : ClassId)  (h_this : Nat) (q_this : Nat → Nat) (this_upper : Int64) (z0 : Int64) (z1 : Nat → Int64)  : ∀ (n : Nat) (this_lower : Int64) (this_cases : Nat → Int64) (x1 : Int32) (x2 : Int32) (x3 : Int32) (x4 : Int32) (hT : t_X4_playQuarters_24   n this_lower this_cases x1 x2 x3 x4 = some (z0, z1)), J p l e rmX4_playQuarters s m args below meth c D A 5 (QV D below args s A (w_X4_playQuarters cI cJ cZ h_this q_this this_upper z0 z1)) 0 0 (w_X4_playQuarters cI cJ cZ h_this q_this this_upper this_lower this_cases) [(0, .ref h_this), (1, .int x1), (2, .int x2), (3, .int x3), (4, .int x4)] [] 24 := by
  intro n
  induction n with
  | zero => intro this_lower this_cases x1 x2 x3 x4 hT; cases hT
  | succ n ih =>
    intro this_lower this_cases x1 x2 x3 x4 hT
    exact b_X4_playQuarters_24_b X cI cJ cZ h_this q_this this_upper z0 z1  (t_X4_playQuarters_24   n) ih this_lower this_cases x1 x2 x3 x4 hT
set_option maxHeartbeats 4000000 in
set_option maxRecDepth 100000 in
theorem c_X4_playQuarters (l : Launch) (D : va_G) (cI cJ cZ : ClassId) (h_this : Nat) (q_this : Nat → Nat) (this_upper : Int64) (this_lower : Int64) (this_cases : Nat → Int64) (x1 : Int32) (x2 : Int32) (x3 : Int32) (z0 : Int64) (z1 : Nat → Int64) (hT : t_X4_playQuarters  this_lower this_cases x1 x2 x3 = some (z0, z1)) : Cv l yX4_playQuarters wsX4_playQuarters rmX4_playQuarters D (tys3 cI cJ cZ) [.ref h_this, .int x1, .int x2, .int x3] (w_X4_playQuarters cI cJ cZ h_this q_this this_upper this_lower this_cases) (w_X4_playQuarters cI cJ cZ h_this q_this this_upper z0 z1) := by
  refine Cv.ofJ (cc := cX4_playQuarters) (nL := 5) (rt := none) (own := RX4) (by decide) rfl rfl (Nat.le_of_ble_eq_true rfl) ?_
  intro p e s m below meth c A X
  unfold t_X4_playQuarters at hT
  refine J_lv (lv' := [(0, .ref h_this), (1, .int x1), (2, .int x2), (3, .int x3)]) [0, 1, 2, 3] rfl ?_
  refine J_aload_n X dX4_playQuarters_0 0 rfl ?_
  refine J_get (C := RX4) (T := TX4) (N := 3) (ci := 4) (v := .ref (q_this 0)) X in_X4_playQuarters_X4 0 rfl rfl 0 (by decide) m_X4_playQuarters_f9 rfl dX4_playQuarters_1 ?_
  refine J_lconst (v := 0) X dX4_playQuarters_4 (by decide) ?_
  obtain ⟨u3_0, hq3, hT⟩ := bd1_e hT
  refine J_cv (wc := (w_J7_fill_d0a16 cI cJ cZ (q_this 0) 13 this_cases)) (wc' := (w_J7_fill_d0a16 cI cJ cZ (q_this 0) 13 u3_0)) (ws' := (w_X4_playQuarters cI cJ cZ h_this q_this this_upper this_lower u3_0)) [1] [0] 2 rfl rfl rfl rfl rfl rfl rfl rfl (run_S (As := [.ref (q_this 0), .long (0 : Int64)]) (rest := []) X (c_J7_fill_d0a16 l D cI cJ cZ (q_this 0) 13 this_cases (0 : Int64) u3_0 hq3) (cw_X4_playQuarters_J7_fill_d0a16_19 X.1.2.2.2.2) rfl rfl (Nat.le_of_ble_eq_true rfl) dX4_playQuarters_5 ⟨Nat.zero_le _, Nat.zero_le _⟩) ?_
  refine J_aload_n X dX4_playQuarters_8 0 rfl ?_
  refine J_get (C := RX4) (T := TX4) (N := 3) (ci := 4) (v := .ref (q_this 0)) X in_X4_playQuarters_X4 0 rfl rfl 0 (by decide) m_X4_playQuarters_f9 rfl dX4_playQuarters_9 ?_
  refine J_bipush (v := 6) X dX4_playQuarters_12 (by decide) ?_
  refine J_lconst (v := 1) X dX4_playQuarters_14 (by decide) ?_
  obtain ⟨hk4, hT⟩ := ckn_e hT
  refine J_last (ws' := (w_X4_playQuarters cI cJ cZ h_this q_this this_upper this_lower (vp_updL u3_0 (6 : Int32).toNatClampNeg (1 : Int64)))) X 1 rfl rfl hk4 rfl dX4_playQuarters_15 ?_
  refine J_aload_n X dX4_playQuarters_16 0 rfl ?_
  refine J_lconst (v := 1) X dX4_playQuarters_17 (by decide) ?_
  refine J_put (host := "") (C := RX4) (T := TX4) (N := 3) (ci := 4) (ws' := (w_X4_playQuarters cI cJ cZ h_this q_this this_upper (1 : Int64) (vp_updL u3_0 (6 : Int32).toNatClampNeg (1 : Int64)))) X in_X4_playQuarters_X4 0 rfl rfl 2 (by decide) tyX4 tyX4_ok nmX4 m_X4_playQuarters_f15 rfl rfl rfl (Nat.le_of_ble_eq_true rfl) rfl dX4_playQuarters_18 ?_
  refine J_iconst (v := 0) X dX4_playQuarters_21 (by decide) ?_
  refine J_istore (lv' := [(4, .int (0 : Int32)), (0, .ref h_this), (1, .int x1), (2, .int x2), (3, .int x3)]) X dX4_playQuarters_22 (by decide) rfl ?_
  refine J_lv (lv' := [(0, .ref h_this), (1, .int x1), (2, .int x2), (3, .int x3), (4, .int (0 : Int32))]) [1, 2, 3, 4, 0] rfl ?_
  exact b_X4_playQuarters_24 X cI cJ cZ h_this q_this this_upper z0 z1  lfuel (1 : Int64) (vp_updL u3_0 (6 : Int32).toNatClampNeg (1 : Int64)) x1 x2 x3 (0 : Int32) hT
-- ===== SoldMatches$Odds.sumEnd(II)V
abbrev rmX4_sumEnd : Room := { frames := 1, cells := 0, slots := 0, locals := 20 }
def w_X4_sumEnd (cI cJ cZ : ClassId) (h_this : Nat) (q_this : Nat → Nat) (this_upper : Int64) (this_lower : Int64) (this_cases : Nat → Int64) : va_W := [(h_this, .inr (4, oFX4 q_this this_upper this_lower)), ((q_this 0), .inl (cJ, 13, .inr (.inl this_cases)))]
theorem m_X4_sumEnd_f9 : Cond.fieldLink RX4 9 "SoldMatches$Odds" "cases" "[J" ∈ wsX4_sumEnd := List.mem_of_getElem? (i := 2) rfl
theorem in_X4_sumEnd_X4 : ∀ w ∈ wsX40, w ∈ wsX4_sumEnd := fun w h => List.mem_cons_of_mem _ (List.mem_append_right _ h)
theorem cw_X4_sumEnd_X4_endByLead_34 {s : State} {args : Array Value} (hts : ∀ w ∈ wsX4_sumEnd, w.before args s = true) : CallB rmX4_sumEnd s args RX4 34 yX4_endByLead cX4_endByLead 1 (some .int) wsX4_endByLead rmX4_endByLead 0 0 1 ∧ (Cond.static yX4_endByLead).before args s = true := va_cwS 1 hts gX4_sumEnd_X4_endByLead rfl rfl rfl (by decide +kernel) ⟨by decide, by decide⟩
theorem m_X4_sumEnd_f31 : Cond.fieldLink RX4 31 "SoldMatches$Odds" "upper" "J" ∈ wsX4_sumEnd := List.mem_of_getElem? (i := 1) rfl
def t_X4_sumEnd_44  (k_7 : Int64 → (Nat → Int64) → Int32 → Int32 → Int32 → Option (Int64)) (this_upper : Int64) (this_cases : Nat → Int64) (x1 : Int32) (x2 : Int32) (x3 : Int32) : Option (Int64) := k_7 this_upper this_cases x1 x2 (x3 + (1 : Int32))
def t_X4_sumEnd_7_b  (k_7 : Int64 → (Nat → Int64) → Int32 → Int32 → Int32 → Option (Int64)) (this_upper : Int64) (this_cases : Nat → Int64) (x1 : Int32) (x2 : Int32) (x3 : Int32) : Option (Int64) := if (13 : Int32) ≤ x3 then (some (this_upper)) else (bd1 (t_X4_endByLead ((x1 + x3) - (6 : Int32))) (fun v2 => if v2 = x2 then (ckn (x3 < 0 ∨ 13 ≤ x3.toNatClampNeg) (t_X4_sumEnd_44  k_7 (this_upper + (this_cases x3.toNatClampNeg)) this_cases x1 x2 x3)) else (t_X4_sumEnd_44  k_7 this_upper this_cases x1 x2 x3)))
def t_X4_sumEnd_7   (n : Nat) : Int64 → (Nat → Int64) → Int32 → Int32 → Int32 → Option (Int64) := Nat.rec (fun _ _ _ _ _ => none) (fun _ ih => t_X4_sumEnd_7_b   ih) n
def t_X4_sumEnd  (this_upper : Int64) (this_cases : Nat → Int64) (x1 : Int32) (x2 : Int32) : Option (Int64) := t_X4_sumEnd_7   lfuel (0 : Int64) this_cases x1 x2 (0 : Int32)
set_option maxHeartbeats 4000000 in
set_option maxRecDepth 100000 in
theorem b_X4_sumEnd_44 {p : Program} {l : Launch} {e : Env} {s : State} {m : MethodId} {args : Array Value} {below : List Frame} {meth : Method} {c : Code} {D : va_G} {A : Nat → Prop} {cI cJ cZ : ClassId} (X : Cx p m c cX4_sumEnd 4 s args wsX4_sumEnd RX4 D (tys3 cI cJ cZ) meth none) (_ _ _ : ClassId)  (h_this : Nat) (q_this : Nat → Nat) (this_lower : Int64) (z0 : Int64) (k_7 : Int64 → (Nat → Int64) → Int32 → Int32 → Int32 → Option (Int64)) (hk_7 : ∀ (this_upper : Int64) (this_cases : Nat → Int64) (x1 : Int32) (x2 : Int32) (x3 : Int32), k_7 this_upper this_cases x1 x2 x3 = some z0 → J p l e rmX4_sumEnd s m args below meth c D A 4 (QV D below args s A (w_X4_sumEnd cI cJ cZ h_this q_this z0 this_lower this_cases)) 0 0 (w_X4_sumEnd cI cJ cZ h_this q_this this_upper this_lower this_cases) [(0, .ref h_this), (1, .int x1), (2, .int x2), (3, .int x3)] [] 7) (this_upper : Int64) (this_cases : Nat → Int64) (x1 : Int32) (x2 : Int32) (x3 : Int32) (hT : t_X4_sumEnd_44  k_7 this_upper this_cases x1 x2 x3 = some z0) : J p l e rmX4_sumEnd s m args below meth c D A 4 (QV D below args s A (w_X4_sumEnd cI cJ cZ h_this q_this z0 this_lower this_cases)) 0 0 (w_X4_sumEnd cI cJ cZ h_this q_this this_upper this_lower this_cases) [(0, .ref h_this), (1, .int x1), (2, .int x2), (3, .int x3)] [] 44 := by
  unfold t_X4_sumEnd_44 at hT
  refine J_iinc (lv' := [(3, .int (x3 + (1 : Int32))), (0, .ref h_this), (1, .int x1), (2, .int x2)]) (j := 3) X dX4_sumEnd_44 rfl rfl (by decide) rfl ?_
  refine J_goto (tgt := 7) X dX4_sumEnd_47 (by decide) ?_
  refine J_lv (lv' := [(0, .ref h_this), (1, .int x1), (2, .int x2), (3, .int (x3 + (1 : Int32)))]) [1, 2, 3, 0] rfl ?_
  exact hk_7 this_upper this_cases x1 x2 (x3 + (1 : Int32)) hT
set_option maxHeartbeats 4000000 in
set_option maxRecDepth 100000 in
theorem b_X4_sumEnd_7_b {p : Program} {l : Launch} {e : Env} {s : State} {m : MethodId} {args : Array Value} {below : List Frame} {meth : Method} {c : Code} {D : va_G} {A : Nat → Prop} {cI cJ cZ : ClassId} (X : Cx p m c cX4_sumEnd 4 s args wsX4_sumEnd RX4 D (tys3 cI cJ cZ) meth none) (_ _ _ : ClassId)  (h_this : Nat) (q_this : Nat → Nat) (this_lower : Int64) (z0 : Int64) (k_7 : Int64 → (Nat → Int64) → Int32 → Int32 → Int32 → Option (Int64)) (hk_7 : ∀ (this_upper : Int64) (this_cases : Nat → Int64) (x1 : Int32) (x2 : Int32) (x3 : Int32), k_7 this_upper this_cases x1 x2 x3 = some z0 → J p l e rmX4_sumEnd s m args below meth c D A 4 (QV D below args s A (w_X4_sumEnd cI cJ cZ h_this q_this z0 this_lower this_cases)) 0 0 (w_X4_sumEnd cI cJ cZ h_this q_this this_upper this_lower this_cases) [(0, .ref h_this), (1, .int x1), (2, .int x2), (3, .int x3)] [] 7) (this_upper : Int64) (this_cases : Nat → Int64) (x1 : Int32) (x2 : Int32) (x3 : Int32) (hT : t_X4_sumEnd_7_b  k_7 this_upper this_cases x1 x2 x3 = some z0) : J p l e rmX4_sumEnd s m args below meth c D A 4 (QV D below args s A (w_X4_sumEnd cI cJ cZ h_this q_this z0 this_lower this_cases)) 0 0 (w_X4_sumEnd cI cJ cZ h_this q_this this_upper this_lower this_cases) [(0, .ref h_this), (1, .int x1), (2, .int x2), (3, .int x3)] [] 7 := by
  unfold t_X4_sumEnd_7_b at hT
  refine J_iload_n X dX4_sumEnd_7 3 rfl ?_
  refine J_aload_n X dX4_sumEnd_8 0 rfl ?_
  refine J_get (C := RX4) (T := TX4) (N := 3) (ci := 4) (v := .ref (q_this 0)) X in_X4_sumEnd_X4 0 rfl rfl 0 (by decide) m_X4_sumEnd_f9 rfl dX4_sumEnd_9 ?_
  refine J_alen (v := 13) X 1 1 rfl rfl rfl dX4_sumEnd_12 ?_
  refine J_icmp_ge (tgt := 50) X dX4_sumEnd_13 (by decide) (fun hc1 => ?_) (fun hc1 => ?_)
  · have hT := ift hT hc1
    cases hT
    exact J_vret X dX4_sumEnd_50
  · have hT := iff_ hT hc1
    refine J_iload_n X dX4_sumEnd_16 1 rfl ?_
    refine J_iload_n X dX4_sumEnd_17 3 rfl ?_
    refine J_iadd X dX4_sumEnd_18 ?_
    refine J_bipush (v := 6) X dX4_sumEnd_19 (by decide) ?_
    refine J_isub X dX4_sumEnd_21 ?_
    obtain ⟨v2, hq2, hT⟩ := bd1_e hT
    refine J_ci (wc := (w_X4_endByLead cI cJ cZ )) (wc' := (w_X4_endByLead cI cJ cZ )) (ws' := (w_X4_sumEnd cI cJ cZ h_this q_this this_upper this_lower this_cases)) [] [0, 1] 2 rfl rfl rfl rfl rfl rfl rfl rfl (run_S (As := [.int ((x1 + x3) - (6 : Int32))]) (rest := []) X (c_X4_endByLead l D cI cJ cZ  ((x1 + x3) - (6 : Int32)) v2 hq2) (cw_X4_sumEnd_X4_endByLead_34 X.1.2.2.2.2) rfl rfl (Nat.le_of_ble_eq_true rfl) dX4_sumEnd_22 ⟨Nat.zero_le _, Nat.zero_le _⟩) ?_
    refine J_iload_n X dX4_sumEnd_25 2 rfl ?_
    refine J_icmp_ne (tgt := 44) X dX4_sumEnd_26 (by decide) (fun hc3 => ?_) (fun hc3 => ?_)
    · have hT := iff_ hT hc3
      exact b_X4_sumEnd_44 X cI cJ cZ h_this q_this this_lower z0 k_7 hk_7 this_upper this_cases x1 x2 x3 hT
    · have hT := ift hT hc3
      refine J_aload_n X dX4_sumEnd_29 0 rfl ?_
      refine J_dup X dX4_sumEnd_30 rfl ?_
      refine J_get (C := RX4) (T := TX4) (N := 3) (ci := 4) (v := .long this_upper) X in_X4_sumEnd_X4 0 rfl rfl 1 (by decide) m_X4_sumEnd_f31 rfl dX4_sumEnd_31 ?_
      refine J_aload_n X dX4_sumEnd_34 0 rfl ?_
      refine J_get (C := RX4) (T := TX4) (N := 3) (ci := 4) (v := .ref (q_this 0)) X in_X4_sumEnd_X4 0 rfl rfl 0 (by decide) m_X4_sumEnd_f9 rfl dX4_sumEnd_35 ?_
      refine J_iload_n X dX4_sumEnd_38 3 rfl ?_
      obtain ⟨hk4, hT⟩ := ckn_e hT
      refine J_lald X 1 rfl rfl hk4 dX4_sumEnd_39 ?_
      refine J_ladd X dX4_sumEnd_40 ?_
      refine J_put (host := "") (C := RX4) (T := TX4) (N := 3) (ci := 4) (ws' := (w_X4_sumEnd cI cJ cZ h_this q_this (this_upper + (this_cases x3.toNatClampNeg)) this_lower this_cases)) X in_X4_sumEnd_X4 0 rfl rfl 1 (by decide) tyX4 tyX4_ok nmX4 m_X4_sumEnd_f31 rfl rfl rfl (Nat.le_of_ble_eq_true rfl) rfl dX4_sumEnd_41 ?_
      exact b_X4_sumEnd_44 X cI cJ cZ h_this q_this this_lower z0 k_7 hk_7 (this_upper + (this_cases x3.toNatClampNeg)) this_cases x1 x2 x3 hT
set_option maxHeartbeats 4000000 in
set_option maxRecDepth 100000 in
theorem b_X4_sumEnd_7 {p : Program} {l : Launch} {e : Env} {s : State} {m : MethodId} {args : Array Value} {below : List Frame} {meth : Method} {c : Code} {D : va_G} {A : Nat → Prop} {cI cJ cZ : ClassId} (X : Cx p m c cX4_sumEnd 4 s args wsX4_sumEnd RX4 D (tys3 cI cJ cZ) meth none) (_ _ _ : ClassId)  (h_this : Nat) (q_this : Nat → Nat) (this_lower : Int64) (z0 : Int64)  : ∀ (n : Nat) (this_upper : Int64) (this_cases : Nat → Int64) (x1 : Int32) (x2 : Int32) (x3 : Int32) (hT : t_X4_sumEnd_7   n this_upper this_cases x1 x2 x3 = some z0), J p l e rmX4_sumEnd s m args below meth c D A 4 (QV D below args s A (w_X4_sumEnd cI cJ cZ h_this q_this z0 this_lower this_cases)) 0 0 (w_X4_sumEnd cI cJ cZ h_this q_this this_upper this_lower this_cases) [(0, .ref h_this), (1, .int x1), (2, .int x2), (3, .int x3)] [] 7 := by
  intro n
  induction n with
  | zero => intro this_upper this_cases x1 x2 x3 hT; cases hT
  | succ n ih =>
    intro this_upper this_cases x1 x2 x3 hT
    exact b_X4_sumEnd_7_b X cI cJ cZ h_this q_this this_lower z0  (t_X4_sumEnd_7   n) ih this_upper this_cases x1 x2 x3 hT
set_option maxHeartbeats 4000000 in
set_option maxRecDepth 100000 in
theorem c_X4_sumEnd (l : Launch) (D : va_G) (cI cJ cZ : ClassId) (h_this : Nat) (q_this : Nat → Nat) (this_upper : Int64) (this_lower : Int64) (this_cases : Nat → Int64) (x1 : Int32) (x2 : Int32) (z0 : Int64) (hT : t_X4_sumEnd  this_upper this_cases x1 x2 = some z0) : Cv l yX4_sumEnd wsX4_sumEnd rmX4_sumEnd D (tys3 cI cJ cZ) [.ref h_this, .int x1, .int x2] (w_X4_sumEnd cI cJ cZ h_this q_this this_upper this_lower this_cases) (w_X4_sumEnd cI cJ cZ h_this q_this z0 this_lower this_cases) := by
  refine Cv.ofJ (cc := cX4_sumEnd) (nL := 4) (rt := none) (own := RX4) (by decide) rfl rfl (Nat.le_of_ble_eq_true rfl) ?_
  intro p e s m below meth c A X
  unfold t_X4_sumEnd at hT
  refine J_lv (lv' := [(0, .ref h_this), (1, .int x1), (2, .int x2)]) [0, 1, 2] rfl ?_
  refine J_aload_n X dX4_sumEnd_0 0 rfl ?_
  refine J_lconst (v := 0) X dX4_sumEnd_1 (by decide) ?_
  refine J_put (host := "") (C := RX4) (T := TX4) (N := 3) (ci := 4) (ws' := (w_X4_sumEnd cI cJ cZ h_this q_this (0 : Int64) this_lower this_cases)) X in_X4_sumEnd_X4 0 rfl rfl 1 (by decide) tyX4 tyX4_ok nmX4 m_X4_sumEnd_f31 rfl rfl rfl (Nat.le_of_ble_eq_true rfl) rfl dX4_sumEnd_2 ?_
  refine J_iconst (v := 0) X dX4_sumEnd_5 (by decide) ?_
  refine J_istore_n (lv' := [(3, .int (0 : Int32)), (0, .ref h_this), (1, .int x1), (2, .int x2)]) X dX4_sumEnd_6 (by decide) rfl ?_
  refine J_lv (lv' := [(0, .ref h_this), (1, .int x1), (2, .int x2), (3, .int (0 : Int32))]) [1, 2, 3, 0] rfl ?_
  exact b_X4_sumEnd_7 X cI cJ cZ h_this q_this this_lower z0  lfuel (0 : Int64) this_cases x1 x2 (0 : Int32) hT
-- ===== SoldMatches$Games.weigh(IIII)V
abbrev rmX2_weigh : Room := { frames := 2, cells := 0, slots := 0, locals := 54 }
def w_X2_weigh (cI cJ cZ : ClassId) (h_this : Nat) (q_this : Nat → Nat) (q_this_odds : Nat → Nat) (this_count : Int32) (this_base : Int32) (this_topLean : Int32) (this_topSpot : Int32) (this_odds_upper : Int64) (this_odds_lower : Int64) (this_guest : Nat → Int32) (this_home : Nat → Int32) (this_skills : Nat → Int32) (this_odds_cases : Nat → Int64) : va_W := [(h_this, .inr (2, oFX2 q_this this_count this_base this_topLean this_topSpot)), ((q_this 10), .inr (4, oFX4 q_this_odds this_odds_upper this_odds_lower)), ((q_this 4), .inl (cI, 12, .inl this_guest)), ((q_this 3), .inl (cI, 12, .inl this_home)), ((q_this 2), .inl (cI, 8, .inl this_skills)), ((q_this_odds 0), .inl (cJ, 13, .inr (.inl this_odds_cases)))]
theorem m_X2_weigh_f19 : Cond.fieldLink RX2 19 "SoldMatches$Games" "home" "[I" ∈ wsX2_weigh := List.mem_of_getElem? (i := 1) rfl
theorem in_X2_weigh_X2 : ∀ w ∈ wsX20, w ∈ wsX2_weigh := fun w h => List.mem_cons_of_mem _ (List.mem_append_left _ (List.mem_append_right _ h))
theorem m_X2_weigh_f22 : Cond.fieldLink RX2 22 "SoldMatches$Games" "guest" "[I" ∈ wsX2_weigh := List.mem_of_getElem? (i := 2) rfl
theorem cw_X2_weigh_X2_chanceOf_76 {s : State} {args : Array Value} (hts : ∀ w ∈ wsX2_weigh, w.before args s = true) : CallW rmX2_weigh s args RX2 RX2 76 yX2_chanceOf cX2_chanceOf 4 (some .int) wsX2_chanceOf rmX2_chanceOf 0 0 2 := cwV 2 hts gX2_weigh_X2_chanceOf rfl rfl rfl (by decide +kernel) ⟨by decide, by decide⟩
theorem m_X2_weigh_f43 : Cond.fieldLink RX2 43 "SoldMatches$Games" "odds" "LSoldMatches$Odds;" ∈ wsX2_weigh := List.mem_of_getElem? (i := 3) rfl
theorem cw_X2_weigh_X4_playQuarters_79 {s : State} {args : Array Value} (hts : ∀ w ∈ wsX2_weigh, w.before args s = true) : CallW rmX2_weigh s args RX2 RX4 79 yX4_playQuarters cX4_playQuarters 5 none wsX4_playQuarters rmX4_playQuarters 0 0 3 := cwV 3 hts gX2_weigh_X4_playQuarters rfl rfl rfl (by decide +kernel) ⟨by decide, by decide⟩
theorem cw_X2_weigh_X4_sumEnd_83 {s : State} {args : Array Value} (hts : ∀ w ∈ wsX2_weigh, w.before args s = true) : CallW rmX2_weigh s args RX2 RX4 83 yX4_sumEnd cX4_sumEnd 4 none wsX4_sumEnd rmX4_sumEnd 0 0 2 := cwV 2 hts gX2_weigh_X4_sumEnd rfl rfl rfl (by decide +kernel) ⟨by decide, by decide⟩
def t_X2_weigh  (this_base : Int32) (this_odds_upper : Int64) (this_odds_lower : Int64) (this_guest : Nat → Int32) (this_home : Nat → Int32) (this_skills : Nat → Int32) (this_odds_cases : Nat → Int64) (x1 : Int32) (x2 : Int32) (x3 : Int32) (x4 : Int32) : Option (Int64 × Int64 × (Nat → Int64)) := ckn (x1 < 0 ∨ 12 ≤ x1.toNatClampNeg) (ckn (x1 < 0 ∨ 12 ≤ x1.toNatClampNeg) (bd1 (t_X2_chanceOf this_base this_skills (this_home x1.toNatClampNeg) (this_guest x1.toNatClampNeg)) (fun v3 => ckn (x1 < 0 ∨ 12 ≤ x1.toNatClampNeg) (ckn (x1 < 0 ∨ 12 ≤ x1.toNatClampNeg) (bd1 (t_X2_chanceOf this_base this_skills (this_guest x1.toNatClampNeg) (this_home x1.toNatClampNeg)) (fun v6 => bd2 (t_X4_playQuarters this_odds_lower this_odds_cases ((6 : Int32) - x2) v3 v6) (fun u7_0 u7_1 => bd1 (t_X4_sumEnd this_odds_upper u7_1 x3 x4) (fun u8_0 => some (u8_0, u7_0, u7_1)))))))))
set_option maxHeartbeats 4000000 in
set_option maxRecDepth 100000 in
theorem c_X2_weigh (l : Launch) (D : va_G) (cI cJ cZ : ClassId) (h_this : Nat) (q_this : Nat → Nat) (q_this_odds : Nat → Nat) (this_count : Int32) (this_base : Int32) (this_topLean : Int32) (this_topSpot : Int32) (this_odds_upper : Int64) (this_odds_lower : Int64) (this_guest : Nat → Int32) (this_home : Nat → Int32) (this_skills : Nat → Int32) (this_odds_cases : Nat → Int64) (x1 : Int32) (x2 : Int32) (x3 : Int32) (x4 : Int32) (z0 : Int64) (z1 : Int64) (z2 : Nat → Int64) (hT : t_X2_weigh  this_base this_odds_upper this_odds_lower this_guest this_home this_skills this_odds_cases x1 x2 x3 x4 = some (z0, z1, z2)) : Cv l yX2_weigh wsX2_weigh rmX2_weigh D (tys3 cI cJ cZ) [.ref h_this, .int x1, .int x2, .int x3, .int x4] (w_X2_weigh cI cJ cZ h_this q_this q_this_odds this_count this_base this_topLean this_topSpot this_odds_upper this_odds_lower this_guest this_home this_skills this_odds_cases) (w_X2_weigh cI cJ cZ h_this q_this q_this_odds this_count this_base this_topLean this_topSpot z0 z1 this_guest this_home this_skills z2) := by
  refine Cv.ofJ (cc := cX2_weigh) (nL := 7) (rt := none) (own := RX2) (by decide) rfl rfl (Nat.le_of_ble_eq_true rfl) ?_
  intro p e s m below meth c A X
  unfold t_X2_weigh at hT
  refine J_lv (lv' := [(0, .ref h_this), (1, .int x1), (2, .int x2), (3, .int x3), (4, .int x4)]) [0, 1, 2, 3, 4] rfl ?_
  refine J_aload_n X dX2_weigh_0 0 rfl ?_
  refine J_aload_n X dX2_weigh_1 0 rfl ?_
  refine J_get (C := RX2) (T := TX2) (N := 13) (ci := 2) (v := .ref (q_this 3)) X in_X2_weigh_X2 0 rfl rfl 3 (by decide) m_X2_weigh_f19 rfl dX2_weigh_2 ?_
  refine J_iload_n X dX2_weigh_5 1 rfl ?_
  obtain ⟨hk1, hT⟩ := ckn_e hT
  refine J_iald X 3 rfl rfl hk1 dX2_weigh_6 ?_
  refine J_aload_n X dX2_weigh_7 0 rfl ?_
  refine J_get (C := RX2) (T := TX2) (N := 13) (ci := 2) (v := .ref (q_this 4)) X in_X2_weigh_X2 0 rfl rfl 4 (by decide) m_X2_weigh_f22 rfl dX2_weigh_8 ?_
  refine J_iload_n X dX2_weigh_11 1 rfl ?_
  obtain ⟨hk2, hT⟩ := ckn_e hT
  refine J_iald X 2 rfl rfl hk2 dX2_weigh_12 ?_
  obtain ⟨v3, hq3, hT⟩ := bd1_e hT
  refine J_ci (wc := (w_X2_chanceOf cI cJ cZ h_this q_this this_count this_base this_topLean this_topSpot this_skills)) (wc' := (w_X2_chanceOf cI cJ cZ h_this q_this this_count this_base this_topLean this_topSpot this_skills)) (ws' := (w_X2_weigh cI cJ cZ h_this q_this q_this_odds this_count this_base this_topLean this_topSpot this_odds_upper this_odds_lower this_guest this_home this_skills this_odds_cases)) [0, 4] [1, 2, 3, 5] 6 rfl rfl rfl rfl rfl rfl rfl rfl (run_V (As := [.int (this_home x1.toNatClampNeg), .int (this_guest x1.toNatClampNeg)]) (rest := []) X (c_X2_chanceOf l D cI cJ cZ h_this q_this this_count this_base this_topLean this_topSpot this_skills (this_home x1.toNatClampNeg) (this_guest x1.toNatClampNeg) v3 hq3) (cw_X2_weigh_X2_chanceOf_76 X.1.2.2.2.2) 0 rfl rfl rfl rfl (Nat.le_of_ble_eq_true rfl) dX2_weigh_13 ⟨Nat.zero_le _, Nat.zero_le _⟩) ?_
  refine J_istore (lv' := [(5, .int v3), (0, .ref h_this), (1, .int x1), (2, .int x2), (3, .int x3), (4, .int x4)]) X dX2_weigh_16 (by decide) rfl ?_
  refine J_aload_n X dX2_weigh_18 1 rfl ?_
  refine J_aload_n X dX2_weigh_19 1 rfl ?_
  refine J_get (C := RX2) (T := TX2) (N := 13) (ci := 2) (v := .ref (q_this 4)) X in_X2_weigh_X2 0 rfl rfl 4 (by decide) m_X2_weigh_f22 rfl dX2_weigh_20 ?_
  refine J_iload_n X dX2_weigh_23 2 rfl ?_
  obtain ⟨hk4, hT⟩ := ckn_e hT
  refine J_iald X 2 rfl rfl hk4 dX2_weigh_24 ?_
  refine J_aload_n X dX2_weigh_25 1 rfl ?_
  refine J_get (C := RX2) (T := TX2) (N := 13) (ci := 2) (v := .ref (q_this 3)) X in_X2_weigh_X2 0 rfl rfl 3 (by decide) m_X2_weigh_f19 rfl dX2_weigh_26 ?_
  refine J_iload_n X dX2_weigh_29 2 rfl ?_
  obtain ⟨hk5, hT⟩ := ckn_e hT
  refine J_iald X 3 rfl rfl hk5 dX2_weigh_30 ?_
  obtain ⟨v6, hq6, hT⟩ := bd1_e hT
  refine J_ci (wc := (w_X2_chanceOf cI cJ cZ h_this q_this this_count this_base this_topLean this_topSpot this_skills)) (wc' := (w_X2_chanceOf cI cJ cZ h_this q_this this_count this_base this_topLean this_topSpot this_skills)) (ws' := (w_X2_weigh cI cJ cZ h_this q_this q_this_odds this_count this_base this_topLean this_topSpot this_odds_upper this_odds_lower this_guest this_home this_skills this_odds_cases)) [0, 4] [1, 2, 3, 5] 6 rfl rfl rfl rfl rfl rfl rfl rfl (run_V (As := [.int (this_guest x1.toNatClampNeg), .int (this_home x1.toNatClampNeg)]) (rest := []) X (c_X2_chanceOf l D cI cJ cZ h_this q_this this_count this_base this_topLean this_topSpot this_skills (this_guest x1.toNatClampNeg) (this_home x1.toNatClampNeg) v6 hq6) (cw_X2_weigh_X2_chanceOf_76 X.1.2.2.2.2) 0 rfl rfl rfl rfl (Nat.le_of_ble_eq_true rfl) dX2_weigh_31 ⟨Nat.zero_le _, Nat.zero_le _⟩) ?_
  refine J_istore (lv' := [(6, .int v6), (5, .int v3), (0, .ref h_this), (1, .int x1), (2, .int x2), (3, .int x3), (4, .int x4)]) X dX2_weigh_34 (by decide) rfl ?_
  refine J_aload_n X dX2_weigh_36 2 rfl ?_
  refine J_get (C := RX2) (T := TX2) (N := 13) (ci := 2) (v := .ref (q_this 10)) X in_X2_weigh_X2 0 rfl rfl 10 (by decide) m_X2_weigh_f43 rfl dX2_weigh_37 ?_
  refine J_bipush (v := 6) X dX2_weigh_40 (by decide) ?_
  refine J_iload_n X dX2_weigh_42 4 rfl ?_
  refine J_isub X dX2_weigh_43 ?_
  refine J_iload X dX2_weigh_44 1 rfl ?_
  refine J_iload X dX2_weigh_46 0 rfl ?_
  obtain ⟨u7_0, u7_1, hq7, hT⟩ := bd2_e hT
  refine J_cv (wc := (w_X4_playQuarters cI cJ cZ (q_this 10) q_this_odds this_odds_upper this_odds_lower this_odds_cases)) (wc' := (w_X4_playQuarters cI cJ cZ (q_this 10) q_this_odds this_odds_upper u7_0 u7_1)) (ws' := (w_X2_weigh cI cJ cZ h_this q_this q_this_odds this_count this_base this_topLean this_topSpot this_odds_upper u7_0 this_guest this_home this_skills u7_1)) [1, 5] [0, 2, 3, 4] 6 rfl rfl rfl rfl rfl rfl rfl rfl (run_V (As := [.int ((6 : Int32) - x2), .int v3, .int v6]) (rest := []) X (c_X4_playQuarters l D cI cJ cZ (q_this 10) q_this_odds this_odds_upper this_odds_lower this_odds_cases ((6 : Int32) - x2) v3 v6 u7_0 u7_1 hq7) (cw_X2_weigh_X4_playQuarters_79 X.1.2.2.2.2) 0 rfl rfl rfl rfl (Nat.le_of_ble_eq_true rfl) dX2_weigh_48 ⟨Nat.zero_le _, Nat.zero_le _⟩) ?_
  refine J_aload_n X dX2_weigh_51 2 rfl ?_
  refine J_get (C := RX2) (T := TX2) (N := 13) (ci := 2) (v := .ref (q_this 10)) X in_X2_weigh_X2 0 rfl rfl 10 (by decide) m_X2_weigh_f43 rfl dX2_weigh_52 ?_
  refine J_iload_n X dX2_weigh_55 5 rfl ?_
  refine J_iload X dX2_weigh_56 6 rfl ?_
  obtain ⟨u8_0, hq8, hT⟩ := bd1_e hT
  refine J_cv (wc := (w_X4_sumEnd cI cJ cZ (q_this 10) q_this_odds this_odds_upper u7_0 u7_1)) (wc' := (w_X4_sumEnd cI cJ cZ (q_this 10) q_this_odds u8_0 u7_0 u7_1)) (ws' := (w_X2_weigh cI cJ cZ h_this q_this q_this_odds this_count this_base this_topLean this_topSpot u8_0 u7_0 this_guest this_home this_skills u7_1)) [1, 5] [0, 2, 3, 4] 6 rfl rfl rfl rfl rfl rfl rfl rfl (run_V (As := [.int x3, .int x4]) (rest := []) X (c_X4_sumEnd l D cI cJ cZ (q_this 10) q_this_odds this_odds_upper u7_0 u7_1 x3 x4 u8_0 hq8) (cw_X2_weigh_X4_sumEnd_83 X.1.2.2.2.2) 0 rfl rfl rfl rfl (Nat.le_of_ble_eq_true rfl) dX2_weigh_58 ⟨Nat.zero_le _, Nat.zero_le _⟩) ?_
  cases hT
  exact J_vret X dX2_weigh_61
-- ===== SoldMatches$Odds.thousandths()I
abbrev rmX4_thousandths : Room := { frames := 0, cells := 0, slots := 0, locals := 0 }
def w_X4_thousandths (cI cJ cZ : ClassId) (h_this : Nat) (q_this : Nat → Nat) (this_upper : Int64) (this_lower : Int64) : va_W := [(h_this, .inr (4, oFX4 q_this this_upper this_lower))]
theorem m_X4_thousandths_f15 : Cond.fieldLink RX4 15 "SoldMatches$Odds" "lower" "J" ∈ wsX4_thousandths := List.mem_of_getElem? (i := 1) rfl
theorem in_X4_thousandths_X4 : ∀ w ∈ wsX40, w ∈ wsX4_thousandths := fun w h => List.mem_cons_of_mem _ (List.mem_append_right _ h)
theorem m_X4_thousandths_c40 : Cond.constantLong RX4 40 (1000) ∈ wsX4_thousandths := List.mem_of_getElem? (i := 2) rfl
theorem m_X4_thousandths_f31 : Cond.fieldLink RX4 31 "SoldMatches$Odds" "upper" "J" ∈ wsX4_thousandths := List.mem_of_getElem? (i := 3) rfl
def t_X4_thousandths_27   (this_upper : Int64) (this_lower : Int64) (s0 : Int32) : Option (Int32) := some (s0)
def t_X4_thousandths  (this_upper : Int64) (this_lower : Int64)  : Option (Int32) := if (lg_cmp this_lower (0 : Int64)) ≤ 0 then (t_X4_thousandths_27   this_upper this_lower (0 : Int32)) else (ckn (this_lower = 0) (t_X4_thousandths_27   this_upper this_lower ((((1000 : Int64) * this_upper) / this_lower).toInt32)))
set_option maxHeartbeats 4000000 in
set_option maxRecDepth 100000 in
theorem b_X4_thousandths_27 {p : Program} {l : Launch} {e : Env} {s : State} {m : MethodId} {args : Array Value} {below : List Frame} {meth : Method} {c : Code} {D : va_G} {A : Nat → Prop} {cI cJ cZ : ClassId} (X : Cx p m c cX4_thousandths 1 s args wsX4_thousandths RX4 D (tys3 cI cJ cZ) meth (some .int)) (_ _ _ : ClassId)  (h_this : Nat) (q_this : Nat → Nat)  (r : Int32)  (this_upper : Int64) (this_lower : Int64) (s0 : Int32) (hT : t_X4_thousandths_27   this_upper this_lower s0 = some r) : J p l e rmX4_thousandths s m args below meth c D A 1 (QI D below args s A r (w_X4_thousandths cI cJ cZ h_this q_this this_upper this_lower)) 0 0 (w_X4_thousandths cI cJ cZ h_this q_this this_upper this_lower) [(0, .ref h_this)] [.int s0] 27 := by
  unfold t_X4_thousandths_27 at hT
  cases hT
  exact J_iret X dX4_thousandths_27
set_option maxHeartbeats 4000000 in
set_option maxRecDepth 100000 in
theorem c_X4_thousandths (l : Launch) (D : va_G) (cI cJ cZ : ClassId) (h_this : Nat) (q_this : Nat → Nat) (this_upper : Int64) (this_lower : Int64)  (r : Int32) (hT : t_X4_thousandths  this_upper this_lower  = some r) : Ci l yX4_thousandths wsX4_thousandths rmX4_thousandths D (tys3 cI cJ cZ) [.ref h_this] (w_X4_thousandths cI cJ cZ h_this q_this this_upper this_lower) r (w_X4_thousandths cI cJ cZ h_this q_this this_upper this_lower) := by
  refine Ci.ofJ (cc := cX4_thousandths) (nL := 1) (rt := (some .int)) (own := RX4) (by decide) rfl rfl (Nat.le_of_ble_eq_true rfl) ?_
  intro p e s m below meth c A X
  unfold t_X4_thousandths at hT
  refine J_lv (lv' := [(0, .ref h_this)]) [0] rfl ?_
  refine J_aload_n X dX4_thousandths_0 0 rfl ?_
  refine J_get (C := RX4) (T := TX4) (N := 3) (ci := 4) (v := .long this_lower) X in_X4_thousandths_X4 0 rfl rfl 2 (by decide) m_X4_thousandths_f15 rfl dX4_thousandths_1 ?_
  refine J_lconst (v := 0) X dX4_thousandths_4 (by decide) ?_
  refine J_lcmp X dX4_thousandths_5 ?_
  refine J_if_le (tgt := 26) X dX4_thousandths_6 (by decide) (fun hc1 => ?_) (fun hc1 => ?_)
  · have hT := ift hT hc1
    refine J_iconst (v := 0) X dX4_thousandths_26 (by decide) ?_
    exact b_X4_thousandths_27 X cI cJ cZ h_this q_this  r  this_upper this_lower (0 : Int32) hT
  · have hT := iff_ hT hc1
    refine J_ldc2 X dX4_thousandths_9 m_X4_thousandths_c40 ?_
    refine J_aload_n X dX4_thousandths_12 0 rfl ?_
    refine J_get (C := RX4) (T := TX4) (N := 3) (ci := 4) (v := .long this_upper) X in_X4_thousandths_X4 0 rfl rfl 1 (by decide) m_X4_thousandths_f31 rfl dX4_thousandths_13 ?_
    refine J_lmul X dX4_thousandths_16 ?_
    refine J_aload_n X dX4_thousandths_17 0 rfl ?_
    refine J_get (C := RX4) (T := TX4) (N := 3) (ci := 4) (v := .long this_lower) X in_X4_thousandths_X4 0 rfl rfl 2 (by decide) m_X4_thousandths_f15 rfl dX4_thousandths_18 ?_
    obtain ⟨hk2, hT⟩ := ckn_e hT
    refine J_ldiv X dX4_thousandths_21 hk2 ?_
    refine J_l2i X dX4_thousandths_22 ?_
    refine J_goto (tgt := 27) X dX4_thousandths_23 (by decide) ?_
    exact b_X4_thousandths_27 X cI cJ cZ h_this q_this  r  this_upper this_lower ((((1000 : Int64) * this_upper) / this_lower).toInt32) hT
-- ===== SoldMatches$Games.leanAt(III)I
abbrev rmX2_leanAt : Room := { frames := 3, cells := 0, slots := 0, locals := 80 }
def w_X2_leanAt (cI cJ cZ : ClassId) (h_this : Nat) (q_this : Nat → Nat) (q_this_odds : Nat → Nat) (this_count : Int32) (this_base : Int32) (this_topLean : Int32) (this_topSpot : Int32) (this_odds_upper : Int64) (this_odds_lower : Int64) (this_goals : Nat → Int32) (this_guest : Nat → Int32) (this_home : Nat → Int32) (this_prices : Nat → Int32) (this_skills : Nat → Int32) (this_odds_cases : Nat → Int64) : va_W := [(h_this, .inr (2, oFX2 q_this this_count this_base this_topLean this_topSpot)), ((q_this 10), .inr (4, oFX4 q_this_odds this_odds_upper this_odds_lower)), ((q_this 8), .inl (cI, 72, .inl this_goals)), ((q_this 4), .inl (cI, 12, .inl this_guest)), ((q_this 3), .inl (cI, 12, .inl this_home)), ((q_this 9), .inl (cI, 216, .inl this_prices)), ((q_this 2), .inl (cI, 8, .inl this_skills)), ((q_this_odds 0), .inl (cJ, 13, .inr (.inl this_odds_cases)))]
theorem m_X2_leanAt_f37 : Cond.fieldLink RX2 37 "SoldMatches$Games" "prices" "[I" ∈ wsX2_leanAt := List.mem_of_getElem? (i := 1) rfl
theorem in_X2_leanAt_X2 : ∀ w ∈ wsX20, w ∈ wsX2_leanAt := fun w h => List.mem_cons_of_mem _ (List.mem_append_left _ (List.mem_append_right _ h))
theorem cw_X2_leanAt_X2_leadAhead_60 {s : State} {args : Array Value} (hts : ∀ w ∈ wsX2_leanAt, w.before args s = true) : CallW rmX2_leanAt s args RX2 RX2 60 yX2_leadAhead cX2_leadAhead 3 (some .int) wsX2_leadAhead rmX2_leadAhead 0 0 2 := cwV 2 hts gX2_leanAt_X2_leadAhead rfl rfl rfl (by decide +kernel) ⟨by decide, by decide⟩
theorem cw_X2_leanAt_X2_weigh_87 {s : State} {args : Array Value} (hts : ∀ w ∈ wsX2_leanAt, w.before args s = true) : CallW rmX2_leanAt s args RX2 RX2 87 yX2_weigh cX2_weigh 7 none wsX2_weigh rmX2_weigh 0 0 4 := cwV 4 hts gX2_leanAt_X2_weigh rfl rfl rfl (by decide +kernel) ⟨by decide, by decide⟩
theorem m_X2_leanAt_c91 : Cond.constant RX2 91 (100000) ∈ wsX2_leanAt := List.mem_of_getElem? (i := 2) rfl
theorem m_X2_leanAt_f43 : Cond.fieldLink RX2 43 "SoldMatches$Games" "odds" "LSoldMatches$Odds;" ∈ wsX2_leanAt := List.mem_of_getElem? (i := 3) rfl
theorem cw_X2_leanAt_X4_thousandths_92 {s : State} {args : Array Value} (hts : ∀ w ∈ wsX2_leanAt, w.before args s = true) : CallW rmX2_leanAt s args RX2 RX4 92 yX4_thousandths cX4_thousandths 1 (some .int) wsX4_thousandths rmX4_thousandths 0 0 0 := cwV 0 hts gX2_leanAt_X4_thousandths rfl rfl rfl (by decide +kernel) ⟨by decide, by decide⟩
def t_X2_leanAt  (this_base : Int32) (this_odds_upper : Int64) (this_odds_lower : Int64) (this_goals : Nat → Int32) (this_guest : Nat → Int32) (this_home : Nat → Int32) (this_prices : Nat → Int32) (this_skills : Nat → Int32) (this_odds_cases : Nat → Int64) (x1 : Int32) (x2 : Int32) (x3 : Int32) : Option (Int32 × Int64 × Int64 × (Nat → Int64)) := ckn ((((x1 * (18 : Int32)) + (x2 * (3 : Int32))) + x3) < 0 ∨ 216 ≤ (((x1 * (18 : Int32)) + (x2 * (3 : Int32))) + x3).toNatClampNeg) (if 0 < (this_prices (((x1 * (18 : Int32)) + (x2 * (3 : Int32))) + x3).toNatClampNeg) then (bd1 (t_X2_leadAhead this_goals x1 x2) (fun v3 => bd3 (t_X2_weigh this_base this_odds_upper this_odds_lower this_guest this_home this_skills this_odds_cases x1 x2 v3 x3) (fun u4_0 u4_1 u4_2 => ckn ((this_prices (((x1 * (18 : Int32)) + (x2 * (3 : Int32))) + x3).toNatClampNeg) = 0) (bd1 (t_X4_thousandths u4_0 u4_1) (fun v6 => some (((100000 : Int32) / (this_prices (((x1 * (18 : Int32)) + (x2 * (3 : Int32))) + x3).toNatClampNeg)) - v6, u4_0, u4_1, u4_2)))))) else (some ((0 : Int32), this_odds_upper, this_odds_lower, this_odds_cases)))
set_option maxHeartbeats 4000000 in
set_option maxRecDepth 100000 in
theorem c_X2_leanAt (l : Launch) (D : va_G) (cI cJ cZ : ClassId) (h_this : Nat) (q_this : Nat → Nat) (q_this_odds : Nat → Nat) (this_count : Int32) (this_base : Int32) (this_topLean : Int32) (this_topSpot : Int32) (this_odds_upper : Int64) (this_odds_lower : Int64) (this_goals : Nat → Int32) (this_guest : Nat → Int32) (this_home : Nat → Int32) (this_prices : Nat → Int32) (this_skills : Nat → Int32) (this_odds_cases : Nat → Int64) (x1 : Int32) (x2 : Int32) (x3 : Int32) (r : Int32) (z0 : Int64) (z1 : Int64) (z2 : Nat → Int64) (hT : t_X2_leanAt  this_base this_odds_upper this_odds_lower this_goals this_guest this_home this_prices this_skills this_odds_cases x1 x2 x3 = some (r, z0, z1, z2)) : Ci l yX2_leanAt wsX2_leanAt rmX2_leanAt D (tys3 cI cJ cZ) [.ref h_this, .int x1, .int x2, .int x3] (w_X2_leanAt cI cJ cZ h_this q_this q_this_odds this_count this_base this_topLean this_topSpot this_odds_upper this_odds_lower this_goals this_guest this_home this_prices this_skills this_odds_cases) r (w_X2_leanAt cI cJ cZ h_this q_this q_this_odds this_count this_base this_topLean this_topSpot z0 z1 this_goals this_guest this_home this_prices this_skills z2) := by
  refine Ci.ofJ (cc := cX2_leanAt) (nL := 5) (rt := (some .int)) (own := RX2) (by decide) rfl rfl (Nat.le_of_ble_eq_true rfl) ?_
  intro p e s m below meth c A X
  unfold t_X2_leanAt at hT
  refine J_lv (lv' := [(0, .ref h_this), (1, .int x1), (2, .int x2), (3, .int x3)]) [0, 1, 2, 3] rfl ?_
  refine J_aload_n X dX2_leanAt_0 0 rfl ?_
  refine J_get (C := RX2) (T := TX2) (N := 13) (ci := 2) (v := .ref (q_this 9)) X in_X2_leanAt_X2 0 rfl rfl 9 (by decide) m_X2_leanAt_f37 rfl dX2_leanAt_1 ?_
  refine J_iload_n X dX2_leanAt_4 1 rfl ?_
  refine J_bipush (v := 18) X dX2_leanAt_5 (by decide) ?_
  refine J_imul X dX2_leanAt_7 ?_
  refine J_iload_n X dX2_leanAt_8 2 rfl ?_
  refine J_iconst (v := 3) X dX2_leanAt_9 (by decide) ?_
  refine J_imul X dX2_leanAt_10 ?_
  refine J_iadd X dX2_leanAt_11 ?_
  refine J_iload_n X dX2_leanAt_12 3 rfl ?_
  refine J_iadd X dX2_leanAt_13 ?_
  obtain ⟨hk1, hT⟩ := ckn_e hT
  refine J_iald X 5 rfl rfl hk1 dX2_leanAt_14 ?_
  refine J_istore (lv' := [(4, .int (this_prices (((x1 * (18 : Int32)) + (x2 * (3 : Int32))) + x3).toNatClampNeg)), (0, .ref h_this), (1, .int x1), (2, .int x2), (3, .int x3)]) X dX2_leanAt_15 (by decide) rfl ?_
  refine J_iload X dX2_leanAt_17 0 rfl ?_
  refine J_if_gt (tgt := 24) X dX2_leanAt_19 (by decide) (fun hc2 => ?_) (fun hc2 => ?_)
  · have hT := ift hT hc2
    refine J_aload_n X dX2_leanAt_24 1 rfl ?_
    refine J_iload_n X dX2_leanAt_25 2 rfl ?_
    refine J_iload_n X dX2_leanAt_26 3 rfl ?_
    refine J_aload_n X dX2_leanAt_27 1 rfl ?_
    refine J_iload_n X dX2_leanAt_28 2 rfl ?_
    refine J_iload_n X dX2_leanAt_29 3 rfl ?_
    obtain ⟨v3, hq3, hT⟩ := bd1_e hT
    refine J_ci (wc := (w_X2_leadAhead cI cJ cZ h_this q_this this_count this_base this_topLean this_topSpot this_goals)) (wc' := (w_X2_leadAhead cI cJ cZ h_this q_this this_count this_base this_topLean this_topSpot this_goals)) (ws' := (w_X2_leanAt cI cJ cZ h_this q_this q_this_odds this_count this_base this_topLean this_topSpot this_odds_upper this_odds_lower this_goals this_guest this_home this_prices this_skills this_odds_cases)) (idxs [true, false, true, false, false, false, false, false] 0) (idxs [false, true, false, true, true, true, true, true] 0) 8 rfl rfl rfl (pick_C _ rfl rfl) rfl (pick_C _ rfl rfl) rfl (pick_R _ rfl rfl rfl) (run_V (As := [.int x1, .int x2]) (rest := [.int x2, .int x1, .ref h_this]) X (c_X2_leadAhead l D cI cJ cZ h_this q_this this_count this_base this_topLean this_topSpot this_goals x1 x2 v3 hq3) (cw_X2_leanAt_X2_leadAhead_60 X.1.2.2.2.2) 0 rfl rfl rfl rfl (Nat.le_of_ble_eq_true rfl) dX2_leanAt_30 ⟨Nat.zero_le _, Nat.zero_le _⟩) ?_
    refine J_iload_n X dX2_leanAt_33 4 rfl ?_
    obtain ⟨u4_0, u4_1, u4_2, hq4, hT⟩ := bd3_e hT
    refine J_cv (wc := (w_X2_weigh cI cJ cZ h_this q_this q_this_odds this_count this_base this_topLean this_topSpot this_odds_upper this_odds_lower this_guest this_home this_skills this_odds_cases)) (wc' := (w_X2_weigh cI cJ cZ h_this q_this q_this_odds this_count this_base this_topLean this_topSpot u4_0 u4_1 this_guest this_home this_skills u4_2)) (ws' := (w_X2_leanAt cI cJ cZ h_this q_this q_this_odds this_count this_base this_topLean this_topSpot u4_0 u4_1 this_goals this_guest this_home this_prices this_skills u4_2)) (idxs [true, true, false, true, true, false, true, true] 0) (idxs [false, false, true, false, false, true, false, false] 0) 8 rfl rfl rfl (pick_C _ rfl rfl) rfl (pick_C _ rfl rfl) rfl (pick_R _ rfl rfl rfl) (run_V (As := [.int x1, .int x2, .int v3, .int x3]) (rest := []) X (c_X2_weigh l D cI cJ cZ h_this q_this q_this_odds this_count this_base this_topLean this_topSpot this_odds_upper this_odds_lower this_guest this_home this_skills this_odds_cases x1 x2 v3 x3 u4_0 u4_1 u4_2 hq4) (cw_X2_leanAt_X2_weigh_87 X.1.2.2.2.2) 0 rfl rfl rfl rfl (Nat.le_of_ble_eq_true rfl) dX2_leanAt_34 ⟨Nat.zero_le _, Nat.zero_le _⟩) ?_
    refine J_ldc X dX2_leanAt_37 m_X2_leanAt_c91 ?_
    refine J_iload X dX2_leanAt_39 0 rfl ?_
    obtain ⟨hk5, hT⟩ := ckn_e hT
    refine J_idiv X dX2_leanAt_41 hk5 ?_
    refine J_aload_n X dX2_leanAt_42 1 rfl ?_
    refine J_get (C := RX2) (T := TX2) (N := 13) (ci := 2) (v := .ref (q_this 10)) X in_X2_leanAt_X2 0 rfl rfl 10 (by decide) m_X2_leanAt_f43 rfl dX2_leanAt_43 ?_
    obtain ⟨v6, hq6, hT⟩ := bd1_e hT
    refine J_ci (wc := (w_X4_thousandths cI cJ cZ (q_this 10) q_this_odds u4_0 u4_1)) (wc' := (w_X4_thousandths cI cJ cZ (q_this 10) q_this_odds u4_0 u4_1)) (ws' := (w_X2_leanAt cI cJ cZ h_this q_this q_this_odds this_count this_base this_topLean this_topSpot u4_0 u4_1 this_goals this_guest this_home this_prices this_skills u4_2)) (idxs [false, true, false, false, false, false, false, false] 0) (idxs [true, false, true, true, true, true, true, true] 0) 8 rfl rfl rfl (pick_C _ rfl rfl) rfl (pick_C _ rfl rfl) rfl (pick_R _ rfl rfl rfl) (run_V (As := []) (rest := [.int ((100000 : Int32) / (this_prices (((x1 * (18 : Int32)) + (x2 * (3 : Int32))) + x3).toNatClampNeg))]) X (c_X4_thousandths l D cI cJ cZ (q_this 10) q_this_odds u4_0 u4_1  v6 hq6) (cw_X2_leanAt_X4_thousandths_92 X.1.2.2.2.2) 0 rfl rfl rfl rfl (Nat.le_of_ble_eq_true rfl) dX2_leanAt_46 ⟨Nat.zero_le _, Nat.zero_le _⟩) ?_
    refine J_isub X dX2_leanAt_49 ?_
    cases hT
    exact J_iret X dX2_leanAt_50
  · have hT := iff_ hT hc2
    refine J_iconst (v := 0) X dX2_leanAt_22 (by decide) ?_
    cases hT
    exact J_iret X dX2_leanAt_23
-- ===== SoldMatches$Games.seekTop(I)V
abbrev rmX2_seekTop : Room := { frames := 4, cells := 0, slots := 0, locals := 104 }
def w_X2_seekTop (cI cJ cZ : ClassId) (h_this : Nat) (q_this : Nat → Nat) (q_this_odds : Nat → Nat) (this_count : Int32) (this_base : Int32) (this_topLean : Int32) (this_topSpot : Int32) (this_odds_upper : Int64) (this_odds_lower : Int64) (this_goals : Nat → Int32) (this_guest : Nat → Int32) (this_home : Nat → Int32) (this_prices : Nat → Int32) (this_skills : Nat → Int32) (this_odds_cases : Nat → Int64) : va_W := [(h_this, .inr (2, oFX2 q_this this_count this_base this_topLean this_topSpot)), ((q_this 10), .inr (4, oFX4 q_this_odds this_odds_upper this_odds_lower)), ((q_this 8), .inl (cI, 72, .inl this_goals)), ((q_this 4), .inl (cI, 12, .inl this_guest)), ((q_this 3), .inl (cI, 12, .inl this_home)), ((q_this 9), .inl (cI, 216, .inl this_prices)), ((q_this 2), .inl (cI, 8, .inl this_skills)), ((q_this_odds 0), .inl (cJ, 13, .inr (.inl this_odds_cases)))]
theorem cw_X2_seekTop_X2_leanAt_96 {s : State} {args : Array Value} (hts : ∀ w ∈ wsX2_seekTop, w.before args s = true) : CallW rmX2_seekTop s args RX2 RX2 96 yX2_leanAt cX2_leanAt 5 (some .int) wsX2_leanAt rmX2_leanAt 0 0 3 := cwV 3 hts gX2_seekTop_X2_leanAt rfl rfl rfl (by decide +kernel) ⟨by decide, by decide⟩
theorem m_X2_seekTop_f99 : Cond.fieldLink RX2 99 "SoldMatches$Games" "topLean" "I" ∈ wsX2_seekTop := List.mem_of_getElem? (i := 1) rfl
theorem in_X2_seekTop_X2 : ∀ w ∈ wsX20, w ∈ wsX2_seekTop := fun w h => List.mem_cons_of_mem _ (List.mem_append_left _ (List.mem_append_right _ h))
theorem m_X2_seekTop_f102 : Cond.fieldLink RX2 102 "SoldMatches$Games" "topSpot" "I" ∈ wsX2_seekTop := List.mem_of_getElem? (i := 2) rfl
def t_X2_seekTop_63  (k_18 : Int32 → Int32 → Int32 → Int64 → Int64 → (Nat → Int32) → (Nat → Int32) → (Nat → Int32) → (Nat → Int32) → (Nat → Int32) → (Nat → Int64) → Int32 → Int32 → (Option (Int32 × Int32 × Int64 × Int64 × (Nat → Int64)))) (this_base : Int32) (this_topLean : Int32) (this_topSpot : Int32) (this_odds_upper : Int64) (this_odds_lower : Int64) (this_goals : Nat → Int32) (this_guest : Nat → Int32) (this_home : Nat → Int32) (this_prices : Nat → Int32) (this_skills : Nat → Int32) (this_odds_cases : Nat → Int64) (x1 : Int32) (x2 : Int32) : Option (Int32 × Int32 × Int64 × Int64 × (Nat → Int64)) := k_18 this_base this_topLean this_topSpot this_odds_upper this_odds_lower this_goals this_guest this_home this_prices this_skills this_odds_cases x1 (x2 + (1 : Int32))
def t_X2_seekTop_18_b  (k_18 : Int32 → Int32 → Int32 → Int64 → Int64 → (Nat → Int32) → (Nat → Int32) → (Nat → Int32) → (Nat → Int32) → (Nat → Int32) → (Nat → Int64) → Int32 → Int32 → (Option (Int32 × Int32 × Int64 × Int64 × (Nat → Int64)))) (this_base : Int32) (this_topLean : Int32) (this_topSpot : Int32) (this_odds_upper : Int64) (this_odds_lower : Int64) (this_goals : Nat → Int32) (this_guest : Nat → Int32) (this_home : Nat → Int32) (this_prices : Nat → Int32) (this_skills : Nat → Int32) (this_odds_cases : Nat → Int64) (x1 : Int32) (x2 : Int32) : Option (Int32 × Int32 × Int64 × Int64 × (Nat → Int64)) := if (18 : Int32) ≤ x2 then (some (this_topLean, this_topSpot, this_odds_upper, this_odds_lower, this_odds_cases)) else (bd4 (t_X2_leanAt this_base this_odds_upper this_odds_lower this_goals this_guest this_home this_prices this_skills this_odds_cases x1 (x2 / (3 : Int32)) (x2 - x2 / (3 : Int32) * (3 : Int32))) (fun v2 u2_0 u2_1 u2_2 => if v2 ≤ this_topLean then (t_X2_seekTop_63  k_18 this_base this_topLean this_topSpot u2_0 u2_1 this_goals this_guest this_home this_prices this_skills u2_2 x1 x2) else (t_X2_seekTop_63  k_18 this_base v2 (((10 : Int32) * (x2 / (3 : Int32))) + (x2 - x2 / (3 : Int32) * (3 : Int32))) u2_0 u2_1 this_goals this_guest this_home this_prices this_skills u2_2 x1 x2)))
def t_X2_seekTop_18   (n : Nat) : Int32 → Int32 → Int32 → Int64 → Int64 → (Nat → Int32) → (Nat → Int32) → (Nat → Int32) → (Nat → Int32) → (Nat → Int32) → (Nat → Int64) → Int32 → Int32 → (Option (Int32 × Int32 × Int64 × Int64 × (Nat → Int64))) := Nat.rec (fun _ _ _ _ _ _ _ _ _ _ _ _ _ => none) (fun _ ih => t_X2_seekTop_18_b   ih) n
def t_X2_seekTop  (this_base : Int32) (this_topLean : Int32) (this_topSpot : Int32) (this_odds_upper : Int64) (this_odds_lower : Int64) (this_goals : Nat → Int32) (this_guest : Nat → Int32) (this_home : Nat → Int32) (this_prices : Nat → Int32) (this_skills : Nat → Int32) (this_odds_cases : Nat → Int64) (x1 : Int32) : Option (Int32 × Int32 × Int64 × Int64 × (Nat → Int64)) := bd4 (t_X2_leanAt this_base this_odds_upper this_odds_lower this_goals this_guest this_home this_prices this_skills this_odds_cases x1 (0 : Int32) (0 : Int32)) (fun v4 u4_0 u4_1 u4_2 => t_X2_seekTop_18   lfuel this_base v4 (0 : Int32) u4_0 u4_1 this_goals this_guest this_home this_prices this_skills u4_2 x1 (1 : Int32))
set_option maxHeartbeats 4000000 in
set_option maxRecDepth 100000 in
theorem b_X2_seekTop_63 {p : Program} {l : Launch} {e : Env} {s : State} {m : MethodId} {args : Array Value} {below : List Frame} {meth : Method} {c : Code} {D : va_G} {A : Nat → Prop} {cI cJ cZ : ClassId} (X : Cx p m c cX2_seekTop 4 s args wsX2_seekTop RX2 D (tys3 cI cJ cZ) meth none) (_ _ _ : ClassId)  (h_this : Nat) (q_this : Nat → Nat) (q_this_odds : Nat → Nat) (this_count : Int32) (z0 : Int32) (z1 : Int32) (z2 : Int64) (z3 : Int64) (z4 : Nat → Int64) (k_18 : Int32 → Int32 → Int32 → Int64 → Int64 → (Nat → Int32) → (Nat → Int32) → (Nat → Int32) → (Nat → Int32) → (Nat → Int32) → (Nat → Int64) → Int32 → Int32 → (Option (Int32 × Int32 × Int64 × Int64 × (Nat → Int64)))) (hk_18 : ∀ (this_base : Int32) (this_topLean : Int32) (this_topSpot : Int32) (this_odds_upper : Int64) (this_odds_lower : Int64) (this_goals : Nat → Int32) (this_guest : Nat → Int32) (this_home : Nat → Int32) (this_prices : Nat → Int32) (this_skills : Nat → Int32) (this_odds_cases : Nat → Int64) (x1 : Int32) (x2 : Int32), k_18 this_base this_topLean this_topSpot this_odds_upper this_odds_lower this_goals this_guest this_home this_prices this_skills this_odds_cases x1 x2 = some (z0, z1, z2, z3, z4) → J p l e rmX2_seekTop s m args below meth c D A 4 (QV D below args s A (w_X2_seekTop cI cJ cZ h_this q_this q_this_odds this_count this_base z0 z1 z2 z3 this_goals this_guest this_home this_prices this_skills z4)) 0 0 (w_X2_seekTop cI cJ cZ h_this q_this q_this_odds this_count this_base this_topLean this_topSpot this_odds_upper this_odds_lower this_goals this_guest this_home this_prices this_skills this_odds_cases) [(0, .ref h_this), (1, .int x1), (2, .int x2)] [] 18) (this_base : Int32) (this_topLean : Int32) (this_topSpot : Int32) (this_odds_upper : Int64) (this_odds_lower : Int64) (this_goals : Nat → Int32) (this_guest : Nat → Int32) (this_home : Nat → Int32) (this_prices : Nat → Int32) (this_skills : Nat → Int32) (this_odds_cases : Nat → Int64) (x1 : Int32) (x2 : Int32) (hT : t_X2_seekTop_63  k_18 this_base this_topLean this_topSpot this_odds_upper this_odds_lower this_goals this_guest this_home this_prices this_skills this_odds_cases x1 x2 = some (z0, z1, z2, z3, z4)) : J p l e rmX2_seekTop s m args below meth c D A 4 (QV D below args s A (w_X2_seekTop cI cJ cZ h_this q_this q_this_odds this_count this_base z0 z1 z2 z3 this_goals this_guest this_home this_prices this_skills z4)) 0 0 (w_X2_seekTop cI cJ cZ h_this q_this q_this_odds this_count this_base this_topLean this_topSpot this_odds_upper this_odds_lower this_goals this_guest this_home this_prices this_skills this_odds_cases) [(0, .ref h_this), (1, .int x1), (2, .int x2)] [] 63 := by
  unfold t_X2_seekTop_63 at hT
  refine J_iinc (lv' := [(2, .int (x2 + (1 : Int32))), (0, .ref h_this), (1, .int x1)]) (j := 2) X dX2_seekTop_63 rfl rfl (by decide) rfl ?_
  refine J_goto (tgt := 18) X dX2_seekTop_66 (by decide) ?_
  refine J_lv (lv' := [(0, .ref h_this), (1, .int x1), (2, .int (x2 + (1 : Int32)))]) [1, 2, 0] rfl ?_
  exact hk_18 this_base this_topLean this_topSpot this_odds_upper this_odds_lower this_goals this_guest this_home this_prices this_skills this_odds_cases x1 (x2 + (1 : Int32)) hT
set_option maxHeartbeats 4000000 in
set_option maxRecDepth 100000 in
theorem b_X2_seekTop_18_b {p : Program} {l : Launch} {e : Env} {s : State} {m : MethodId} {args : Array Value} {below : List Frame} {meth : Method} {c : Code} {D : va_G} {A : Nat → Prop} {cI cJ cZ : ClassId} (X : Cx p m c cX2_seekTop 4 s args wsX2_seekTop RX2 D (tys3 cI cJ cZ) meth none) (_ _ _ : ClassId)  (h_this : Nat) (q_this : Nat → Nat) (q_this_odds : Nat → Nat) (this_count : Int32) (z0 : Int32) (z1 : Int32) (z2 : Int64) (z3 : Int64) (z4 : Nat → Int64) (k_18 : Int32 → Int32 → Int32 → Int64 → Int64 → (Nat → Int32) → (Nat → Int32) → (Nat → Int32) → (Nat → Int32) → (Nat → Int32) → (Nat → Int64) → Int32 → Int32 → (Option (Int32 × Int32 × Int64 × Int64 × (Nat → Int64)))) (hk_18 : ∀ (this_base : Int32) (this_topLean : Int32) (this_topSpot : Int32) (this_odds_upper : Int64) (this_odds_lower : Int64) (this_goals : Nat → Int32) (this_guest : Nat → Int32) (this_home : Nat → Int32) (this_prices : Nat → Int32) (this_skills : Nat → Int32) (this_odds_cases : Nat → Int64) (x1 : Int32) (x2 : Int32), k_18 this_base this_topLean this_topSpot this_odds_upper this_odds_lower this_goals this_guest this_home this_prices this_skills this_odds_cases x1 x2 = some (z0, z1, z2, z3, z4) → J p l e rmX2_seekTop s m args below meth c D A 4 (QV D below args s A (w_X2_seekTop cI cJ cZ h_this q_this q_this_odds this_count this_base z0 z1 z2 z3 this_goals this_guest this_home this_prices this_skills z4)) 0 0 (w_X2_seekTop cI cJ cZ h_this q_this q_this_odds this_count this_base this_topLean this_topSpot this_odds_upper this_odds_lower this_goals this_guest this_home this_prices this_skills this_odds_cases) [(0, .ref h_this), (1, .int x1), (2, .int x2)] [] 18) (this_base : Int32) (this_topLean : Int32) (this_topSpot : Int32) (this_odds_upper : Int64) (this_odds_lower : Int64) (this_goals : Nat → Int32) (this_guest : Nat → Int32) (this_home : Nat → Int32) (this_prices : Nat → Int32) (this_skills : Nat → Int32) (this_odds_cases : Nat → Int64) (x1 : Int32) (x2 : Int32) (hT : t_X2_seekTop_18_b  k_18 this_base this_topLean this_topSpot this_odds_upper this_odds_lower this_goals this_guest this_home this_prices this_skills this_odds_cases x1 x2 = some (z0, z1, z2, z3, z4)) : J p l e rmX2_seekTop s m args below meth c D A 4 (QV D below args s A (w_X2_seekTop cI cJ cZ h_this q_this q_this_odds this_count this_base z0 z1 z2 z3 this_goals this_guest this_home this_prices this_skills z4)) 0 0 (w_X2_seekTop cI cJ cZ h_this q_this q_this_odds this_count this_base this_topLean this_topSpot this_odds_upper this_odds_lower this_goals this_guest this_home this_prices this_skills this_odds_cases) [(0, .ref h_this), (1, .int x1), (2, .int x2)] [] 18 := by
  unfold t_X2_seekTop_18_b at hT
  refine J_iload_n X dX2_seekTop_18 2 rfl ?_
  refine J_bipush (v := 18) X dX2_seekTop_19 (by decide) ?_
  refine J_icmp_ge (tgt := 69) X dX2_seekTop_21 (by decide) (fun hc1 => ?_) (fun hc1 => ?_)
  · have hT := ift hT hc1
    cases hT
    exact J_vret X dX2_seekTop_69
  · have hT := iff_ hT hc1
    refine J_aload_n X dX2_seekTop_24 0 rfl ?_
    refine J_iload_n X dX2_seekTop_25 1 rfl ?_
    refine J_iload_n X dX2_seekTop_26 2 rfl ?_
    refine J_iconst (v := 3) X dX2_seekTop_27 (by decide) ?_
    refine J_idiv X dX2_seekTop_28 (by decide) ?_
    refine J_iload_n X dX2_seekTop_29 2 rfl ?_
    refine J_iconst (v := 3) X dX2_seekTop_30 (by decide) ?_
    refine J_irem X dX2_seekTop_31 (by decide) ?_
    obtain ⟨v2, u2_0, u2_1, u2_2, hq2, hT⟩ := bd4_e hT
    refine J_ci (wc := (w_X2_leanAt cI cJ cZ h_this q_this q_this_odds this_count this_base this_topLean this_topSpot this_odds_upper this_odds_lower this_goals this_guest this_home this_prices this_skills this_odds_cases)) (wc' := (w_X2_leanAt cI cJ cZ h_this q_this q_this_odds this_count this_base this_topLean this_topSpot u2_0 u2_1 this_goals this_guest this_home this_prices this_skills u2_2)) (ws' := (w_X2_seekTop cI cJ cZ h_this q_this q_this_odds this_count this_base this_topLean this_topSpot u2_0 u2_1 this_goals this_guest this_home this_prices this_skills u2_2)) (idxs [true, true, true, true, true, true, true, true] 0) (idxs [false, false, false, false, false, false, false, false] 0) 8 rfl rfl rfl (pick_C _ rfl rfl) rfl (pick_C _ rfl rfl) rfl (pick_R _ rfl rfl rfl) (run_V (As := [.int x1, .int (x2 / (3 : Int32)), .int (x2 - x2 / (3 : Int32) * (3 : Int32))]) (rest := []) X (c_X2_leanAt l D cI cJ cZ h_this q_this q_this_odds this_count this_base this_topLean this_topSpot this_odds_upper this_odds_lower this_goals this_guest this_home this_prices this_skills this_odds_cases x1 (x2 / (3 : Int32)) (x2 - x2 / (3 : Int32) * (3 : Int32)) v2 u2_0 u2_1 u2_2 hq2) (cw_X2_seekTop_X2_leanAt_96 X.1.2.2.2.2) 0 rfl rfl rfl rfl (Nat.le_of_ble_eq_true rfl) dX2_seekTop_32 ⟨Nat.zero_le _, Nat.zero_le _⟩) ?_
    refine J_istore_n (lv' := [(3, .int v2), (0, .ref h_this), (1, .int x1), (2, .int x2)]) X dX2_seekTop_35 (by decide) rfl ?_
    refine J_iload_n X dX2_seekTop_36 0 rfl ?_
    refine J_aload_n X dX2_seekTop_37 1 rfl ?_
    refine J_get (C := RX2) (T := TX2) (N := 13) (ci := 2) (v := .int this_topLean) X in_X2_seekTop_X2 0 rfl rfl 11 (by decide) m_X2_seekTop_f99 rfl dX2_seekTop_38 ?_
    refine J_icmp_le (tgt := 63) X dX2_seekTop_41 (by decide) (fun hc3 => ?_) (fun hc3 => ?_)
    · have hT := ift hT hc3
      refine J_lv (lv' := [(0, .ref h_this), (1, .int x1), (2, .int x2)]) [1, 2, 3] rfl ?_
      exact b_X2_seekTop_63 X cI cJ cZ h_this q_this q_this_odds this_count z0 z1 z2 z3 z4 k_18 hk_18 this_base this_topLean this_topSpot u2_0 u2_1 this_goals this_guest this_home this_prices this_skills u2_2 x1 x2 hT
    · have hT := iff_ hT hc3
      refine J_aload_n X dX2_seekTop_44 1 rfl ?_
      refine J_iload_n X dX2_seekTop_45 0 rfl ?_
      refine J_put (host := "") (C := RX2) (T := TX2) (N := 13) (ci := 2) (ws' := (w_X2_seekTop cI cJ cZ h_this q_this q_this_odds this_count this_base v2 this_topSpot u2_0 u2_1 this_goals this_guest this_home this_prices this_skills u2_2)) X in_X2_seekTop_X2 0 rfl rfl 11 (by decide) tyX2 tyX2_ok nmX2 m_X2_seekTop_f99 rfl rfl rfl (Nat.le_of_ble_eq_true rfl) rfl dX2_seekTop_46 ?_
      refine J_aload_n X dX2_seekTop_49 1 rfl ?_
      refine J_bipush (v := 10) X dX2_seekTop_50 (by decide) ?_
      refine J_iload_n X dX2_seekTop_52 3 rfl ?_
      refine J_iconst (v := 3) X dX2_seekTop_53 (by decide) ?_
      refine J_idiv X dX2_seekTop_54 (by decide) ?_
      refine J_imul X dX2_seekTop_55 ?_
      refine J_iload_n X dX2_seekTop_56 3 rfl ?_
      refine J_iconst (v := 3) X dX2_seekTop_57 (by decide) ?_
      refine J_irem X dX2_seekTop_58 (by decide) ?_
      refine J_iadd X dX2_seekTop_59 ?_
      refine J_put (host := "") (C := RX2) (T := TX2) (N := 13) (ci := 2) (ws' := (w_X2_seekTop cI cJ cZ h_this q_this q_this_odds this_count this_base v2 (((10 : Int32) * (x2 / (3 : Int32))) + (x2 - x2 / (3 : Int32) * (3 : Int32))) u2_0 u2_1 this_goals this_guest this_home this_prices this_skills u2_2)) X in_X2_seekTop_X2 0 rfl rfl 12 (by decide) tyX2 tyX2_ok nmX2 m_X2_seekTop_f102 rfl rfl rfl (Nat.le_of_ble_eq_true rfl) rfl dX2_seekTop_60 ?_
      refine J_lv (lv' := [(0, .ref h_this), (1, .int x1), (2, .int x2)]) [1, 2, 3] rfl ?_
      exact b_X2_seekTop_63 X cI cJ cZ h_this q_this q_this_odds this_count z0 z1 z2 z3 z4 k_18 hk_18 this_base v2 (((10 : Int32) * (x2 / (3 : Int32))) + (x2 - x2 / (3 : Int32) * (3 : Int32))) u2_0 u2_1 this_goals this_guest this_home this_prices this_skills u2_2 x1 x2 hT
set_option maxHeartbeats 4000000 in
set_option maxRecDepth 100000 in
theorem b_X2_seekTop_18 {p : Program} {l : Launch} {e : Env} {s : State} {m : MethodId} {args : Array Value} {below : List Frame} {meth : Method} {c : Code} {D : va_G} {A : Nat → Prop} {cI cJ cZ : ClassId} (X : Cx p m c cX2_seekTop 4 s args wsX2_seekTop RX2 D (tys3 cI cJ cZ) meth none) (_ _ _ : ClassId)  (h_this : Nat) (q_this : Nat → Nat) (q_this_odds : Nat → Nat) (this_count : Int32) (z0 : Int32) (z1 : Int32) (z2 : Int64) (z3 : Int64) (z4 : Nat → Int64)  : ∀ (n : Nat) (this_base : Int32) (this_topLean : Int32) (this_topSpot : Int32) (this_odds_upper : Int64) (this_odds_lower : Int64) (this_goals : Nat → Int32) (this_guest : Nat → Int32) (this_home : Nat → Int32) (this_prices : Nat → Int32) (this_skills : Nat → Int32) (this_odds_cases : Nat → Int64) (x1 : Int32) (x2 : Int32) (hT : t_X2_seekTop_18   n this_base this_topLean this_topSpot this_odds_upper this_odds_lower this_goals this_guest this_home this_prices this_skills this_odds_cases x1 x2 = some (z0, z1, z2, z3, z4)), J p l e rmX2_seekTop s m args below meth c D A 4 (QV D below args s A (w_X2_seekTop cI cJ cZ h_this q_this q_this_odds this_count this_base z0 z1 z2 z3 this_goals this_guest this_home this_prices this_skills z4)) 0 0 (w_X2_seekTop cI cJ cZ h_this q_this q_this_odds this_count this_base this_topLean this_topSpot this_odds_upper this_odds_lower this_goals this_guest this_home this_prices this_skills this_odds_cases) [(0, .ref h_this), (1, .int x1), (2, .int x2)] [] 18 := by
  intro n
  induction n with
  | zero => intro this_base this_topLean this_topSpot this_odds_upper this_odds_lower this_goals this_guest this_home this_prices this_skills this_odds_cases x1 x2 hT; cases hT
  | succ n ih =>
    intro this_base this_topLean this_topSpot this_odds_upper this_odds_lower this_goals this_guest this_home this_prices this_skills this_odds_cases x1 x2 hT
    exact b_X2_seekTop_18_b X cI cJ cZ h_this q_this q_this_odds this_count z0 z1 z2 z3 z4  (t_X2_seekTop_18   n) ih this_base this_topLean this_topSpot this_odds_upper this_odds_lower this_goals this_guest this_home this_prices this_skills this_odds_cases x1 x2 hT
set_option maxHeartbeats 4000000 in
set_option maxRecDepth 100000 in
theorem c_X2_seekTop (l : Launch) (D : va_G) (cI cJ cZ : ClassId) (h_this : Nat) (q_this : Nat → Nat) (q_this_odds : Nat → Nat) (this_count : Int32) (this_base : Int32) (this_topLean : Int32) (this_topSpot : Int32) (this_odds_upper : Int64) (this_odds_lower : Int64) (this_goals : Nat → Int32) (this_guest : Nat → Int32) (this_home : Nat → Int32) (this_prices : Nat → Int32) (this_skills : Nat → Int32) (this_odds_cases : Nat → Int64) (x1 : Int32) (z0 : Int32) (z1 : Int32) (z2 : Int64) (z3 : Int64) (z4 : Nat → Int64) (hT : t_X2_seekTop  this_base this_topLean this_topSpot this_odds_upper this_odds_lower this_goals this_guest this_home this_prices this_skills this_odds_cases x1 = some (z0, z1, z2, z3, z4)) : Cv l yX2_seekTop wsX2_seekTop rmX2_seekTop D (tys3 cI cJ cZ) [.ref h_this, .int x1] (w_X2_seekTop cI cJ cZ h_this q_this q_this_odds this_count this_base this_topLean this_topSpot this_odds_upper this_odds_lower this_goals this_guest this_home this_prices this_skills this_odds_cases) (w_X2_seekTop cI cJ cZ h_this q_this q_this_odds this_count this_base z0 z1 z2 z3 this_goals this_guest this_home this_prices this_skills z4) := by
  refine Cv.ofJ (cc := cX2_seekTop) (nL := 4) (rt := none) (own := RX2) (by decide) rfl rfl (Nat.le_of_ble_eq_true rfl) ?_
  intro p e s m below meth c A X
  unfold t_X2_seekTop at hT
  refine J_lv (lv' := [(0, .ref h_this), (1, .int x1)]) [0, 1] rfl ?_
  refine J_aload_n X dX2_seekTop_0 0 rfl ?_
  refine J_aload_n X dX2_seekTop_1 0 rfl ?_
  refine J_iload_n X dX2_seekTop_2 1 rfl ?_
  refine J_iconst (v := 0) X dX2_seekTop_3 (by decide) ?_
  refine J_iconst (v := 0) X dX2_seekTop_4 (by decide) ?_
  obtain ⟨v4, u4_0, u4_1, u4_2, hq4, hT⟩ := bd4_e hT
  refine J_ci (wc := (w_X2_leanAt cI cJ cZ h_this q_this q_this_odds this_count this_base this_topLean this_topSpot this_odds_upper this_odds_lower this_goals this_guest this_home this_prices this_skills this_odds_cases)) (wc' := (w_X2_leanAt cI cJ cZ h_this q_this q_this_odds this_count this_base this_topLean this_topSpot u4_0 u4_1 this_goals this_guest this_home this_prices this_skills u4_2)) (ws' := (w_X2_seekTop cI cJ cZ h_this q_this q_this_odds this_count this_base this_topLean this_topSpot u4_0 u4_1 this_goals this_guest this_home this_prices this_skills u4_2)) (idxs [true, true, true, true, true, true, true, true] 0) (idxs [false, false, false, false, false, false, false, false] 0) 8 rfl rfl rfl (pick_C _ rfl rfl) rfl (pick_C _ rfl rfl) rfl (pick_R _ rfl rfl rfl) (run_V (As := [.int x1, .int (0 : Int32), .int (0 : Int32)]) (rest := [.ref h_this]) X (c_X2_leanAt l D cI cJ cZ h_this q_this q_this_odds this_count this_base this_topLean this_topSpot this_odds_upper this_odds_lower this_goals this_guest this_home this_prices this_skills this_odds_cases x1 (0 : Int32) (0 : Int32) v4 u4_0 u4_1 u4_2 hq4) (cw_X2_seekTop_X2_leanAt_96 X.1.2.2.2.2) 0 rfl rfl rfl rfl (Nat.le_of_ble_eq_true rfl) dX2_seekTop_5 ⟨Nat.zero_le _, Nat.zero_le _⟩) ?_
  refine J_put (host := "") (C := RX2) (T := TX2) (N := 13) (ci := 2) (ws' := (w_X2_seekTop cI cJ cZ h_this q_this q_this_odds this_count this_base v4 this_topSpot u4_0 u4_1 this_goals this_guest this_home this_prices this_skills u4_2)) X in_X2_seekTop_X2 0 rfl rfl 11 (by decide) tyX2 tyX2_ok nmX2 m_X2_seekTop_f99 rfl rfl rfl (Nat.le_of_ble_eq_true rfl) rfl dX2_seekTop_8 ?_
  refine J_aload_n X dX2_seekTop_11 0 rfl ?_
  refine J_iconst (v := 0) X dX2_seekTop_12 (by decide) ?_
  refine J_put (host := "") (C := RX2) (T := TX2) (N := 13) (ci := 2) (ws' := (w_X2_seekTop cI cJ cZ h_this q_this q_this_odds this_count this_base v4 (0 : Int32) u4_0 u4_1 this_goals this_guest this_home this_prices this_skills u4_2)) X in_X2_seekTop_X2 0 rfl rfl 12 (by decide) tyX2 tyX2_ok nmX2 m_X2_seekTop_f102 rfl rfl rfl (Nat.le_of_ble_eq_true rfl) rfl dX2_seekTop_13 ?_
  refine J_iconst (v := 1) X dX2_seekTop_16 (by decide) ?_
  refine J_istore_n (lv' := [(2, .int (1 : Int32)), (0, .ref h_this), (1, .int x1)]) X dX2_seekTop_17 (by decide) rfl ?_
  refine J_lv (lv' := [(0, .ref h_this), (1, .int x1), (2, .int (1 : Int32))]) [1, 2, 0] rfl ?_
  exact b_X2_seekTop_18 X cI cJ cZ h_this q_this q_this_odds this_count z0 z1 z2 z3 z4  lfuel this_base v4 (0 : Int32) u4_0 u4_1 this_goals this_guest this_home this_prices this_skills u4_2 x1 (1 : Int32) hT
-- ===== SoldMatches$Links.reachOf(ILSoldMatches$Bets;)I
abbrev rmX3_reachOf : Room := { frames := 0, cells := 0, slots := 0, locals := 0 }
def w_X3_reachOf (cI cJ cZ : ClassId) (h_p1 : Nat) (q_p1 : Nat → Nat) (p1_count : Int32) (p1_near : Int32) (p1_times : Int32) (p1_ties : Int32) (p1_groups : Nat → Int32) : va_W := [(h_p1, .inr (0, oFX0 q_p1 p1_count p1_near p1_times p1_ties)), ((q_p1 12), .inl (cI, 10, .inl p1_groups))]
theorem in_X3_reachOf_X0 : ∀ w ∈ wsX00, w ∈ wsX3_reachOf := fun w h => List.mem_cons_of_mem _ (List.mem_append_right _ h)
def t_X3_reachOf_28  (k_4 : (Nat → Int32) → Int32 → Int32 → Int32 → Option (Int32)) (p1_groups : Nat → Int32) (x0 : Int32) (x2 : Int32) (x3 : Int32) : Option (Int32) := k_4 p1_groups x0 x2 (x3 + (1 : Int32))
def t_X3_reachOf_4_b  (k_4 : (Nat → Int32) → Int32 → Int32 → Int32 → Option (Int32)) (p1_groups : Nat → Int32) (x0 : Int32) (x2 : Int32) (x3 : Int32) : Option (Int32) := if (10 : Int32) ≤ x3 then (some (x2)) else (if ((x0 >>> (x3 &&& 31)) &&& (1 : Int32)) = (1 : Int32) then (ckn (x3 < 0 ∨ 10 ≤ x3.toNatClampNeg) (t_X3_reachOf_28  k_4 p1_groups x0 (x2 ||| (p1_groups x3.toNatClampNeg)) x3)) else (t_X3_reachOf_28  k_4 p1_groups x0 x2 x3))
def t_X3_reachOf_4   (n : Nat) : (Nat → Int32) → Int32 → Int32 → Int32 → Option (Int32) := Nat.rec (fun _ _ _ _ => none) (fun _ ih => t_X3_reachOf_4_b   ih) n
def t_X3_reachOf  (p1_groups : Nat → Int32) (x0 : Int32) : Option (Int32) := t_X3_reachOf_4   lfuel p1_groups x0 (0 : Int32) (0 : Int32)
set_option maxHeartbeats 4000000 in
set_option maxRecDepth 100000 in
theorem b_X3_reachOf_28 {p : Program} {l : Launch} {e : Env} {s : State} {m : MethodId} {args : Array Value} {below : List Frame} {meth : Method} {c : Code} {D : va_G} {A : Nat → Prop} {cI cJ cZ : ClassId} (X : Cx p m c cX3_reachOf 4 s args wsX3_reachOf RX3 D (tys3 cI cJ cZ) meth (some .int)) (_ _ _ : ClassId)  (h_p1 : Nat) (q_p1 : Nat → Nat) (p1_count : Int32) (p1_near : Int32) (p1_times : Int32) (p1_ties : Int32) (r : Int32) (k_4 : (Nat → Int32) → Int32 → Int32 → Int32 → Option (Int32)) (hk_4 : ∀ (p1_groups : Nat → Int32) (x0 : Int32) (x2 : Int32) (x3 : Int32), k_4 p1_groups x0 x2 x3 = some r → J p l e rmX3_reachOf s m args below meth c D A 4 (QI D below args s A r (w_X3_reachOf cI cJ cZ h_p1 q_p1 p1_count p1_near p1_times p1_ties p1_groups)) 0 0 (w_X3_reachOf cI cJ cZ h_p1 q_p1 p1_count p1_near p1_times p1_ties p1_groups) [(0, .int x0), (1, .ref h_p1), (2, .int x2), (3, .int x3)] [] 4) (p1_groups : Nat → Int32) (x0 : Int32) (x2 : Int32) (x3 : Int32) (hT : t_X3_reachOf_28  k_4 p1_groups x0 x2 x3 = some r) : J p l e rmX3_reachOf s m args below meth c D A 4 (QI D below args s A r (w_X3_reachOf cI cJ cZ h_p1 q_p1 p1_count p1_near p1_times p1_ties p1_groups)) 0 0 (w_X3_reachOf cI cJ cZ h_p1 q_p1 p1_count p1_near p1_times p1_ties p1_groups) [(0, .int x0), (1, .ref h_p1), (2, .int x2), (3, .int x3)] [] 28 := by
  unfold t_X3_reachOf_28 at hT
  refine J_iinc (lv' := [(3, .int (x3 + (1 : Int32))), (0, .int x0), (1, .ref h_p1), (2, .int x2)]) (j := 3) X dX3_reachOf_28 rfl rfl (by decide) rfl ?_
  refine J_goto (tgt := 4) X dX3_reachOf_31 (by decide) ?_
  refine J_lv (lv' := [(0, .int x0), (1, .ref h_p1), (2, .int x2), (3, .int (x3 + (1 : Int32)))]) [1, 2, 3, 0] rfl ?_
  exact hk_4 p1_groups x0 x2 (x3 + (1 : Int32)) hT
set_option maxHeartbeats 4000000 in
set_option maxRecDepth 100000 in
theorem b_X3_reachOf_4_b {p : Program} {l : Launch} {e : Env} {s : State} {m : MethodId} {args : Array Value} {below : List Frame} {meth : Method} {c : Code} {D : va_G} {A : Nat → Prop} {cI cJ cZ : ClassId} (X : Cx p m c cX3_reachOf 4 s args wsX3_reachOf RX3 D (tys3 cI cJ cZ) meth (some .int)) (_ _ _ : ClassId)  (h_p1 : Nat) (q_p1 : Nat → Nat) (p1_count : Int32) (p1_near : Int32) (p1_times : Int32) (p1_ties : Int32) (r : Int32) (k_4 : (Nat → Int32) → Int32 → Int32 → Int32 → Option (Int32)) (hk_4 : ∀ (p1_groups : Nat → Int32) (x0 : Int32) (x2 : Int32) (x3 : Int32), k_4 p1_groups x0 x2 x3 = some r → J p l e rmX3_reachOf s m args below meth c D A 4 (QI D below args s A r (w_X3_reachOf cI cJ cZ h_p1 q_p1 p1_count p1_near p1_times p1_ties p1_groups)) 0 0 (w_X3_reachOf cI cJ cZ h_p1 q_p1 p1_count p1_near p1_times p1_ties p1_groups) [(0, .int x0), (1, .ref h_p1), (2, .int x2), (3, .int x3)] [] 4) (p1_groups : Nat → Int32) (x0 : Int32) (x2 : Int32) (x3 : Int32) (hT : t_X3_reachOf_4_b  k_4 p1_groups x0 x2 x3 = some r) : J p l e rmX3_reachOf s m args below meth c D A 4 (QI D below args s A r (w_X3_reachOf cI cJ cZ h_p1 q_p1 p1_count p1_near p1_times p1_ties p1_groups)) 0 0 (w_X3_reachOf cI cJ cZ h_p1 q_p1 p1_count p1_near p1_times p1_ties p1_groups) [(0, .int x0), (1, .ref h_p1), (2, .int x2), (3, .int x3)] [] 4 := by
  unfold t_X3_reachOf_4_b at hT
  refine J_iload_n X dX3_reachOf_4 3 rfl ?_
  refine J_bipush (v := 10) X dX3_reachOf_5 (by decide) ?_
  refine J_icmp_ge (tgt := 34) X dX3_reachOf_7 (by decide) (fun hc1 => ?_) (fun hc1 => ?_)
  · have hT := ift hT hc1
    refine J_iload_n X dX3_reachOf_34 2 rfl ?_
    cases hT
    exact J_iret X dX3_reachOf_35
  · have hT := iff_ hT hc1
    refine J_iload_n X dX3_reachOf_10 0 rfl ?_
    refine J_iload_n X dX3_reachOf_11 3 rfl ?_
    refine J_ishr X dX3_reachOf_12 ?_
    refine J_iconst (v := 1) X dX3_reachOf_13 (by decide) ?_
    refine J_iand X dX3_reachOf_14 ?_
    refine J_iconst (v := 1) X dX3_reachOf_15 (by decide) ?_
    refine J_icmp_ne (tgt := 28) X dX3_reachOf_16 (by decide) (fun hc2 => ?_) (fun hc2 => ?_)
    · have hT := iff_ hT hc2
      exact b_X3_reachOf_28 X cI cJ cZ h_p1 q_p1 p1_count p1_near p1_times p1_ties r k_4 hk_4 p1_groups x0 x2 x3 hT
    · have hT := ift hT hc2
      refine J_iload_n X dX3_reachOf_19 2 rfl ?_
      refine J_aload_n X dX3_reachOf_20 1 rfl ?_
      refine J_getN (host := "SoldMatches") (C := RX0) (T := TX0) (N := 13) (ci := 0) (v := .ref (q_p1 12)) X in_X3_reachOf_X0 0 rfl rfl 12 (by decide) (List.mem_of_getElem? (i := 30) rfl) rfl dX3_reachOf_21 ?_
      refine J_iload_n X dX3_reachOf_24 3 rfl ?_
      obtain ⟨hk3, hT⟩ := ckn_e hT
      refine J_iald X 1 rfl rfl hk3 dX3_reachOf_25 ?_
      refine J_ior X dX3_reachOf_26 ?_
      refine J_istore_n (lv' := [(2, .int (x2 ||| (p1_groups x3.toNatClampNeg))), (0, .int x0), (1, .ref h_p1), (3, .int x3)]) X dX3_reachOf_27 (by decide) rfl ?_
      refine J_lv (lv' := [(0, .int x0), (1, .ref h_p1), (2, .int (x2 ||| (p1_groups x3.toNatClampNeg))), (3, .int x3)]) [1, 2, 0, 3] rfl ?_
      exact b_X3_reachOf_28 X cI cJ cZ h_p1 q_p1 p1_count p1_near p1_times p1_ties r k_4 hk_4 p1_groups x0 (x2 ||| (p1_groups x3.toNatClampNeg)) x3 hT
set_option maxHeartbeats 4000000 in
set_option maxRecDepth 100000 in
theorem b_X3_reachOf_4 {p : Program} {l : Launch} {e : Env} {s : State} {m : MethodId} {args : Array Value} {below : List Frame} {meth : Method} {c : Code} {D : va_G} {A : Nat → Prop} {cI cJ cZ : ClassId} (X : Cx p m c cX3_reachOf 4 s args wsX3_reachOf RX3 D (tys3 cI cJ cZ) meth (some .int)) (_ _ _ : ClassId)  (h_p1 : Nat) (q_p1 : Nat → Nat) (p1_count : Int32) (p1_near : Int32) (p1_times : Int32) (p1_ties : Int32) (r : Int32)  : ∀ (n : Nat) (p1_groups : Nat → Int32) (x0 : Int32) (x2 : Int32) (x3 : Int32) (hT : t_X3_reachOf_4   n p1_groups x0 x2 x3 = some r), J p l e rmX3_reachOf s m args below meth c D A 4 (QI D below args s A r (w_X3_reachOf cI cJ cZ h_p1 q_p1 p1_count p1_near p1_times p1_ties p1_groups)) 0 0 (w_X3_reachOf cI cJ cZ h_p1 q_p1 p1_count p1_near p1_times p1_ties p1_groups) [(0, .int x0), (1, .ref h_p1), (2, .int x2), (3, .int x3)] [] 4 := by
  intro n
  induction n with
  | zero => intro p1_groups x0 x2 x3 hT; cases hT
  | succ n ih =>
    intro p1_groups x0 x2 x3 hT
    exact b_X3_reachOf_4_b X cI cJ cZ h_p1 q_p1 p1_count p1_near p1_times p1_ties r  (t_X3_reachOf_4   n) ih p1_groups x0 x2 x3 hT
set_option maxHeartbeats 4000000 in
set_option maxRecDepth 100000 in
theorem c_X3_reachOf (l : Launch) (D : va_G) (cI cJ cZ : ClassId) (h_p1 : Nat) (q_p1 : Nat → Nat) (p1_count : Int32) (p1_near : Int32) (p1_times : Int32) (p1_ties : Int32) (p1_groups : Nat → Int32) (x0 : Int32) (r : Int32) (hT : t_X3_reachOf  p1_groups x0 = some r) : Ci l yX3_reachOf wsX3_reachOf rmX3_reachOf D (tys3 cI cJ cZ) [.int x0, .ref h_p1] (w_X3_reachOf cI cJ cZ h_p1 q_p1 p1_count p1_near p1_times p1_ties p1_groups) r (w_X3_reachOf cI cJ cZ h_p1 q_p1 p1_count p1_near p1_times p1_ties p1_groups) := by
  refine Ci.ofJ (cc := cX3_reachOf) (nL := 4) (rt := (some .int)) (own := RX3) (by decide) rfl rfl (Nat.le_of_ble_eq_true rfl) ?_
  intro p e s m below meth c A X
  unfold t_X3_reachOf at hT
  refine J_lv (lv' := [(0, .int x0), (1, .ref h_p1)]) [0, 1] rfl ?_
  refine J_iconst (v := 0) X dX3_reachOf_0 (by decide) ?_
  refine J_istore_n (lv' := [(2, .int (0 : Int32)), (0, .int x0), (1, .ref h_p1)]) X dX3_reachOf_1 (by decide) rfl ?_
  refine J_iconst (v := 0) X dX3_reachOf_2 (by decide) ?_
  refine J_istore_n (lv' := [(3, .int (0 : Int32)), (2, .int (0 : Int32)), (0, .int x0), (1, .ref h_p1)]) X dX3_reachOf_3 (by decide) rfl ?_
  refine J_lv (lv' := [(0, .int x0), (1, .ref h_p1), (2, .int (0 : Int32)), (3, .int (0 : Int32))]) [2, 3, 1, 0] rfl ?_
  exact b_X3_reachOf_4 X cI cJ cZ h_p1 q_p1 p1_count p1_near p1_times p1_ties r  lfuel p1_groups x0 (0 : Int32) (0 : Int32) hT
-- ===== SoldMatches$Links.build(LSoldMatches$Games;LSoldMatches$Bets;)V
abbrev rmX3_build : Room := { frames := 4, cells := 0, slots := 0, locals := 98 }
def w_X3_build (cI cJ cZ : ClassId) (h_p2 : Nat) (h_p1 : Nat) (h_this : Nat) (q_p2 : Nat → Nat) (q_p1 : Nat → Nat) (q_this : Nat → Nat) (p2_count : Int32) (p2_near : Int32) (p2_times : Int32) (p2_ties : Int32) (p1_count : Int32) (p1_base : Int32) (p1_topLean : Int32) (p1_topSpot : Int32) (this_size : Int32) (p2_end : Nat → Int32) (p2_groups : Nat → Int32) (p2_hand : Nat → Int32) (p2_match : Nat → Int32) (p2_minute : Nat → Int32) (p2_partner : Nat → Int32) (p2_reachedFrom : Nat → Int32) (p2_sum : Nat → Int32) (p2_waiting : Nat → Int32) (p1_referee : Nat → Int32) (this_reach : Nat → Int32) (this_rows : Nat → Int32) : va_W := [(h_p2, .inr (0, oFX0 q_p2 p2_count p2_near p2_times p2_ties)), (h_p1, .inr (2, oFX2 q_p1 p1_count p1_base p1_topLean p1_topSpot)), (h_this, .inr (3, oFX3 q_this this_size)), ((q_p2 6), .inl (cI, 40, .inl p2_end)), ((q_p2 12), .inl (cI, 10, .inl p2_groups)), ((q_p2 4), .inl (cI, 40, .inl p2_hand)), ((q_p2 5), .inl (cI, 40, .inl p2_match)), ((q_p2 7), .inl (cI, 40, .inl p2_minute)), ((q_p2 9), .inl (cI, 40, .inl p2_partner)), ((q_p2 10), .inl (cI, 40, .inl p2_reachedFrom)), ((q_p2 8), .inl (cI, 40, .inl p2_sum)), ((q_p2 11), .inl (cI, 40, .inl p2_waiting)), ((q_p1 5), .inl (cI, 12, .inl p1_referee)), ((q_this 2), .inl (cI, 12, .inl this_reach)), ((q_this 1), .inl (cI, 12, .inl this_rows))]
theorem m_X3_build_f9 : Cond.fieldLink RX3 9 "SoldMatches$Links" "rows" "[I" ∈ wsX3_build := List.mem_of_getElem? (i := 2) rfl
theorem in_X3_build_X3 : ∀ w ∈ wsX30, w ∈ wsX3_build := fun w h => List.mem_cons_of_mem _ (List.mem_append_left _ (List.mem_append_right _ h))
theorem m_X3_build_f29 : Cond.fieldLink RX3 29 "SoldMatches$Links" "size" "I" ∈ wsX3_build := List.mem_of_getElem? (i := 1) rfl
theorem in_X3_build_X2 : ∀ w ∈ wsX20, w ∈ wsX3_build := fun w h => List.mem_cons_of_mem _ (List.mem_append_left _ (List.mem_append_left _ (List.mem_append_right _ h)))
theorem m_X3_build_f15 : Cond.fieldLink RX3 15 "SoldMatches$Links" "reach" "[I" ∈ wsX3_build := List.mem_of_getElem? (i := 3) rfl
theorem cw_X3_build_X0_handsOn_32 {s : State} {args : Array Value} (hts : ∀ w ∈ wsX3_build, w.before args s = true) : CallW rmX3_build s args RX3 RX0 32 yX0_handsOn cX0_handsOn 4 (some .int) wsX0_handsOn rmX0_handsOn 0 0 1 := cwV 1 hts gX3_build_X0_handsOn rfl rfl rfl (by decide +kernel) ⟨by decide, by decide⟩
theorem cw_X3_build_X3_reachOf_36 {s : State} {args : Array Value} (hts : ∀ w ∈ wsX3_build, w.before args s = true) : CallB rmX3_build s args RX3 36 yX3_reachOf cX3_reachOf 4 (some .int) wsX3_reachOf rmX3_reachOf 0 0 2 ∧ (Cond.static yX3_reachOf).before args s = true := va_cwS 2 hts gX3_build_X3_reachOf rfl rfl rfl (by decide +kernel) ⟨by decide, by decide⟩
theorem cw_X3_build_X0_groupHands_18 {s : State} {args : Array Value} (hts : ∀ w ∈ wsX3_build, w.before args s = true) : CallW rmX3_build s args RX3 RX0 18 yX0_groupHands cX0_groupHands 3 none wsX0_groupHands rmX0_groupHands 0 0 0 := cwV 0 hts gX3_build_X0_groupHands rfl rfl rfl (by decide +kernel) ⟨by decide, by decide⟩
def t_X3_build_141  (k_54 : Int32 → Int32 → Int32 → Int32 → Int32 → Int32 → (Nat → Int32) → (Nat → Int32) → (Nat → Int32) → (Nat → Int32) → (Nat → Int32) → (Nat → Int32) → (Nat → Int32) → (Nat → Int32) → (Nat → Int32) → (Nat → Int32) → (Nat → Int32) → (Nat → Int32) → Int32 → (Option (Int32 × (Nat → Int32) × (Nat → Int32) × (Nat → Int32) × (Nat → Int32) × (Nat → Int32) × (Nat → Int32)))) (p2_count : Int32) (p2_near : Int32) (p2_times : Int32) (p2_ties : Int32) (p1_count : Int32) (this_size : Int32) (p2_end : Nat → Int32) (p2_groups : Nat → Int32) (p2_hand : Nat → Int32) (p2_match : Nat → Int32) (p2_minute : Nat → Int32) (p2_partner : Nat → Int32) (p2_reachedFrom : Nat → Int32) (p2_sum : Nat → Int32) (p2_waiting : Nat → Int32) (p1_referee : Nat → Int32) (this_reach : Nat → Int32) (this_rows : Nat → Int32) (x3 : Int32) : Option (Int32 × (Nat → Int32) × (Nat → Int32) × (Nat → Int32) × (Nat → Int32) × (Nat → Int32) × (Nat → Int32)) := k_54 p2_count p2_near p2_times p2_ties p1_count this_size p2_end p2_groups p2_hand p2_match p2_minute p2_partner p2_reachedFrom p2_sum p2_waiting p1_referee this_reach this_rows (x3 + (1 : Int32))
def t_X3_build_135  (k_54 : Int32 → Int32 → Int32 → Int32 → Int32 → Int32 → (Nat → Int32) → (Nat → Int32) → (Nat → Int32) → (Nat → Int32) → (Nat → Int32) → (Nat → Int32) → (Nat → Int32) → (Nat → Int32) → (Nat → Int32) → (Nat → Int32) → (Nat → Int32) → (Nat → Int32) → Int32 → (Option (Int32 × (Nat → Int32) × (Nat → Int32) × (Nat → Int32) × (Nat → Int32) × (Nat → Int32) × (Nat → Int32)))) (k_67 : Int32 → Int32 → Int32 → Int32 → Int32 → Int32 → (Nat → Int32) → (Nat → Int32) → (Nat → Int32) → (Nat → Int32) → (Nat → Int32) → (Nat → Int32) → (Nat → Int32) → (Nat → Int32) → (Nat → Int32) → (Nat → Int32) → (Nat → Int32) → (Nat → Int32) → Int32 → Int32 → (Option (Int32 × (Nat → Int32) × (Nat → Int32) × (Nat → Int32) × (Nat → Int32) × (Nat → Int32) × (Nat → Int32)))) (p2_count : Int32) (p2_near : Int32) (p2_times : Int32) (p2_ties : Int32) (p1_count : Int32) (this_size : Int32) (p2_end : Nat → Int32) (p2_groups : Nat → Int32) (p2_hand : Nat → Int32) (p2_match : Nat → Int32) (p2_minute : Nat → Int32) (p2_partner : Nat → Int32) (p2_reachedFrom : Nat → Int32) (p2_sum : Nat → Int32) (p2_waiting : Nat → Int32) (p1_referee : Nat → Int32) (this_reach : Nat → Int32) (this_rows : Nat → Int32) (x3 : Int32) (x4 : Int32) : Option (Int32 × (Nat → Int32) × (Nat → Int32) × (Nat → Int32) × (Nat → Int32) × (Nat → Int32) × (Nat → Int32)) := k_67 p2_count p2_near p2_times p2_ties p1_count this_size p2_end p2_groups p2_hand p2_match p2_minute p2_partner p2_reachedFrom p2_sum p2_waiting p1_referee this_reach this_rows x3 (x4 + (1 : Int32))
def t_X3_build_109  (k_54 : Int32 → Int32 → Int32 → Int32 → Int32 → Int32 → (Nat → Int32) → (Nat → Int32) → (Nat → Int32) → (Nat → Int32) → (Nat → Int32) → (Nat → Int32) → (Nat → Int32) → (Nat → Int32) → (Nat → Int32) → (Nat → Int32) → (Nat → Int32) → (Nat → Int32) → Int32 → (Option (Int32 × (Nat → Int32) × (Nat → Int32) × (Nat → Int32) × (Nat → Int32) × (Nat → Int32) × (Nat → Int32)))) (k_67 : Int32 → Int32 → Int32 → Int32 → Int32 → Int32 → (Nat → Int32) → (Nat → Int32) → (Nat → Int32) → (Nat → Int32) → (Nat → Int32) → (Nat → Int32) → (Nat → Int32) → (Nat → Int32) → (Nat → Int32) → (Nat → Int32) → (Nat → Int32) → (Nat → Int32) → Int32 → Int32 → (Option (Int32 × (Nat → Int32) × (Nat → Int32) × (Nat → Int32) × (Nat → Int32) × (Nat → Int32) × (Nat → Int32)))) (p2_count : Int32) (p2_near : Int32) (p2_times : Int32) (p2_ties : Int32) (p1_count : Int32) (this_size : Int32) (p2_end : Nat → Int32) (p2_groups : Nat → Int32) (p2_hand : Nat → Int32) (p2_match : Nat → Int32) (p2_minute : Nat → Int32) (p2_partner : Nat → Int32) (p2_reachedFrom : Nat → Int32) (p2_sum : Nat → Int32) (p2_waiting : Nat → Int32) (p1_referee : Nat → Int32) (this_reach : Nat → Int32) (this_rows : Nat → Int32) (x3 : Int32) (x4 : Int32) : Option (Int32 × (Nat → Int32) × (Nat → Int32) × (Nat → Int32) × (Nat → Int32) × (Nat → Int32) × (Nat → Int32)) := ckn (x3 < 0 ∨ 12 ≤ x3.toNatClampNeg) (ckn (x3 < 0 ∨ 12 ≤ x3.toNatClampNeg) (ckn (x4 < 0 ∨ 12 ≤ x4.toNatClampNeg) (ckn (x4 < 0 ∨ 12 ≤ x4.toNatClampNeg) (t_X3_build_135  k_54 k_67 p2_count p2_near p2_times p2_ties p1_count this_size p2_end p2_groups p2_hand p2_match p2_minute p2_partner p2_reachedFrom p2_sum p2_waiting p1_referee this_reach (upd (upd this_rows x3.toNatClampNeg ((this_rows x3.toNatClampNeg) ||| ((1 : Int32) <<< (x4 &&& 31)))) x4.toNatClampNeg (((upd this_rows x3.toNatClampNeg ((this_rows x3.toNatClampNeg) ||| ((1 : Int32) <<< (x4 &&& 31)))) x4.toNatClampNeg) ||| ((1 : Int32) <<< (x3 &&& 31)))) x3 x4))))
def t_X3_build_67_b  (k_54 : Int32 → Int32 → Int32 → Int32 → Int32 → Int32 → (Nat → Int32) → (Nat → Int32) → (Nat → Int32) → (Nat → Int32) → (Nat → Int32) → (Nat → Int32) → (Nat → Int32) → (Nat → Int32) → (Nat → Int32) → (Nat → Int32) → (Nat → Int32) → (Nat → Int32) → Int32 → (Option (Int32 × (Nat → Int32) × (Nat → Int32) × (Nat → Int32) × (Nat → Int32) × (Nat → Int32) × (Nat → Int32)))) (k_67 : Int32 → Int32 → Int32 → Int32 → Int32 → Int32 → (Nat → Int32) → (Nat → Int32) → (Nat → Int32) → (Nat → Int32) → (Nat → Int32) → (Nat → Int32) → (Nat → Int32) → (Nat → Int32) → (Nat → Int32) → (Nat → Int32) → (Nat → Int32) → (Nat → Int32) → Int32 → Int32 → (Option (Int32 × (Nat → Int32) × (Nat → Int32) × (Nat → Int32) × (Nat → Int32) × (Nat → Int32) × (Nat → Int32)))) (p2_count : Int32) (p2_near : Int32) (p2_times : Int32) (p2_ties : Int32) (p1_count : Int32) (this_size : Int32) (p2_end : Nat → Int32) (p2_groups : Nat → Int32) (p2_hand : Nat → Int32) (p2_match : Nat → Int32) (p2_minute : Nat → Int32) (p2_partner : Nat → Int32) (p2_reachedFrom : Nat → Int32) (p2_sum : Nat → Int32) (p2_waiting : Nat → Int32) (p1_referee : Nat → Int32) (this_reach : Nat → Int32) (this_rows : Nat → Int32) (x3 : Int32) (x4 : Int32) : Option (Int32 × (Nat → Int32) × (Nat → Int32) × (Nat → Int32) × (Nat → Int32) × (Nat → Int32) × (Nat → Int32)) := if this_size ≤ x4 then (t_X3_build_141  k_54 p2_count p2_near p2_times p2_ties p1_count this_size p2_end p2_groups p2_hand p2_match p2_minute p2_partner p2_reachedFrom p2_sum p2_waiting p1_referee this_reach this_rows x3) else (ckn (x3 < 0 ∨ 12 ≤ x3.toNatClampNeg) (ckn (x4 < 0 ∨ 12 ≤ x4.toNatClampNeg) (if (p1_referee x3.toNatClampNeg) = (p1_referee x4.toNatClampNeg) then (t_X3_build_109  k_54 k_67 p2_count p2_near p2_times p2_ties p1_count this_size p2_end p2_groups p2_hand p2_match p2_minute p2_partner p2_reachedFrom p2_sum p2_waiting p1_referee this_reach this_rows x3 x4) else (ckn (x3 < 0 ∨ 12 ≤ x3.toNatClampNeg) (ckn (x4 < 0 ∨ 12 ≤ x4.toNatClampNeg) (if ((this_reach x3.toNatClampNeg) &&& (this_reach x4.toNatClampNeg)) = 0 then (t_X3_build_135  k_54 k_67 p2_count p2_near p2_times p2_ties p1_count this_size p2_end p2_groups p2_hand p2_match p2_minute p2_partner p2_reachedFrom p2_sum p2_waiting p1_referee this_reach this_rows x3 x4) else (t_X3_build_109  k_54 k_67 p2_count p2_near p2_times p2_ties p1_count this_size p2_end p2_groups p2_hand p2_match p2_minute p2_partner p2_reachedFrom p2_sum p2_waiting p1_referee this_reach this_rows x3 x4)))))))
def t_X3_build_67  (k_54 : Int32 → Int32 → Int32 → Int32 → Int32 → Int32 → (Nat → Int32) → (Nat → Int32) → (Nat → Int32) → (Nat → Int32) → (Nat → Int32) → (Nat → Int32) → (Nat → Int32) → (Nat → Int32) → (Nat → Int32) → (Nat → Int32) → (Nat → Int32) → (Nat → Int32) → Int32 → (Option (Int32 × (Nat → Int32) × (Nat → Int32) × (Nat → Int32) × (Nat → Int32) × (Nat → Int32) × (Nat → Int32)))) (n : Nat) : Int32 → Int32 → Int32 → Int32 → Int32 → Int32 → (Nat → Int32) → (Nat → Int32) → (Nat → Int32) → (Nat → Int32) → (Nat → Int32) → (Nat → Int32) → (Nat → Int32) → (Nat → Int32) → (Nat → Int32) → (Nat → Int32) → (Nat → Int32) → (Nat → Int32) → Int32 → Int32 → (Option (Int32 × (Nat → Int32) × (Nat → Int32) × (Nat → Int32) × (Nat → Int32) × (Nat → Int32) × (Nat → Int32))) := Nat.rec (fun _ _ _ _ _ _ _ _ _ _ _ _ _ _ _ _ _ _ _ _ => none) (fun _ ih => t_X3_build_67_b  k_54 ih) n
def t_X3_build_54_b  (k_54 : Int32 → Int32 → Int32 → Int32 → Int32 → Int32 → (Nat → Int32) → (Nat → Int32) → (Nat → Int32) → (Nat → Int32) → (Nat → Int32) → (Nat → Int32) → (Nat → Int32) → (Nat → Int32) → (Nat → Int32) → (Nat → Int32) → (Nat → Int32) → (Nat → Int32) → Int32 → (Option (Int32 × (Nat → Int32) × (Nat → Int32) × (Nat → Int32) × (Nat → Int32) × (Nat → Int32) × (Nat → Int32)))) (p2_count : Int32) (p2_near : Int32) (p2_times : Int32) (p2_ties : Int32) (p1_count : Int32) (this_size : Int32) (p2_end : Nat → Int32) (p2_groups : Nat → Int32) (p2_hand : Nat → Int32) (p2_match : Nat → Int32) (p2_minute : Nat → Int32) (p2_partner : Nat → Int32) (p2_reachedFrom : Nat → Int32) (p2_sum : Nat → Int32) (p2_waiting : Nat → Int32) (p1_referee : Nat → Int32) (this_reach : Nat → Int32) (this_rows : Nat → Int32) (x3 : Int32) : Option (Int32 × (Nat → Int32) × (Nat → Int32) × (Nat → Int32) × (Nat → Int32) × (Nat → Int32) × (Nat → Int32)) := if this_size ≤ x3 then (some (this_size, p2_groups, p2_partner, p2_reachedFrom, p2_waiting, this_reach, this_rows)) else (t_X3_build_67  k_54 lfuel p2_count p2_near p2_times p2_ties p1_count this_size p2_end p2_groups p2_hand p2_match p2_minute p2_partner p2_reachedFrom p2_sum p2_waiting p1_referee this_reach this_rows x3 (x3 + (1 : Int32)))
def t_X3_build_54   (n : Nat) : Int32 → Int32 → Int32 → Int32 → Int32 → Int32 → (Nat → Int32) → (Nat → Int32) → (Nat → Int32) → (Nat → Int32) → (Nat → Int32) → (Nat → Int32) → (Nat → Int32) → (Nat → Int32) → (Nat → Int32) → (Nat → Int32) → (Nat → Int32) → (Nat → Int32) → Int32 → (Option (Int32 × (Nat → Int32) × (Nat → Int32) × (Nat → Int32) × (Nat → Int32) × (Nat → Int32) × (Nat → Int32))) := Nat.rec (fun _ _ _ _ _ _ _ _ _ _ _ _ _ _ _ _ _ _ _ => none) (fun _ ih => t_X3_build_54_b   ih) n
def t_X3_build_52   (p2_count : Int32) (p2_near : Int32) (p2_times : Int32) (p2_ties : Int32) (p1_count : Int32) (this_size : Int32) (p2_end : Nat → Int32) (p2_groups : Nat → Int32) (p2_hand : Nat → Int32) (p2_match : Nat → Int32) (p2_minute : Nat → Int32) (p2_partner : Nat → Int32) (p2_reachedFrom : Nat → Int32) (p2_sum : Nat → Int32) (p2_waiting : Nat → Int32) (p1_referee : Nat → Int32) (this_reach : Nat → Int32) (this_rows : Nat → Int32)  : Option (Int32 × (Nat → Int32) × (Nat → Int32) × (Nat → Int32) × (Nat → Int32) × (Nat → Int32) × (Nat → Int32)) := t_X3_build_54   lfuel p2_count p2_near p2_times p2_ties p1_count this_size p2_end p2_groups p2_hand p2_match p2_minute p2_partner p2_reachedFrom p2_sum p2_waiting p1_referee this_reach this_rows (0 : Int32)
def t_X3_build_14_b  (k_14 : Int32 → Int32 → Int32 → Int32 → Int32 → Int32 → (Nat → Int32) → (Nat → Int32) → (Nat → Int32) → (Nat → Int32) → (Nat → Int32) → (Nat → Int32) → (Nat → Int32) → (Nat → Int32) → (Nat → Int32) → (Nat → Int32) → (Nat → Int32) → (Nat → Int32) → Int32 → (Option (Int32 × (Nat → Int32) × (Nat → Int32) × (Nat → Int32) × (Nat → Int32) × (Nat → Int32) × (Nat → Int32)))) (p2_count : Int32) (p2_near : Int32) (p2_times : Int32) (p2_ties : Int32) (p1_count : Int32) (this_size : Int32) (p2_end : Nat → Int32) (p2_groups : Nat → Int32) (p2_hand : Nat → Int32) (p2_match : Nat → Int32) (p2_minute : Nat → Int32) (p2_partner : Nat → Int32) (p2_reachedFrom : Nat → Int32) (p2_sum : Nat → Int32) (p2_waiting : Nat → Int32) (p1_referee : Nat → Int32) (this_reach : Nat → Int32) (this_rows : Nat → Int32) (x3 : Int32) : Option (Int32 × (Nat → Int32) × (Nat → Int32) × (Nat → Int32) × (Nat → Int32) × (Nat → Int32) × (Nat → Int32)) := if this_size ≤ x3 then (t_X3_build_52   p2_count p2_near p2_times p2_ties p1_count this_size p2_end p2_groups p2_hand p2_match p2_minute p2_partner p2_reachedFrom p2_sum p2_waiting p1_referee this_reach this_rows) else (ckn (x3 < 0 ∨ 12 ≤ x3.toNatClampNeg) (bd1 (t_X0_handsOn p2_count p2_hand p2_match x3) (fun v15 => bd1 (t_X3_reachOf p2_groups v15) (fun v16 => ckn (x3 < 0 ∨ 12 ≤ x3.toNatClampNeg) (k_14 p2_count p2_near p2_times p2_ties p1_count this_size p2_end p2_groups p2_hand p2_match p2_minute p2_partner p2_reachedFrom p2_sum p2_waiting p1_referee (upd this_reach x3.toNatClampNeg v16) (upd this_rows x3.toNatClampNeg ((1 : Int32) <<< (x3 &&& 31))) (x3 + (1 : Int32)))))))
def t_X3_build_14   (n : Nat) : Int32 → Int32 → Int32 → Int32 → Int32 → Int32 → (Nat → Int32) → (Nat → Int32) → (Nat → Int32) → (Nat → Int32) → (Nat → Int32) → (Nat → Int32) → (Nat → Int32) → (Nat → Int32) → (Nat → Int32) → (Nat → Int32) → (Nat → Int32) → (Nat → Int32) → Int32 → (Option (Int32 × (Nat → Int32) × (Nat → Int32) × (Nat → Int32) × (Nat → Int32) × (Nat → Int32) × (Nat → Int32))) := Nat.rec (fun _ _ _ _ _ _ _ _ _ _ _ _ _ _ _ _ _ _ _ => none) (fun _ ih => t_X3_build_14_b   ih) n
def t_X3_build  (p2_count : Int32) (p2_near : Int32) (p2_times : Int32) (p2_ties : Int32) (p1_count : Int32) (this_size : Int32) (p2_end : Nat → Int32) (p2_groups : Nat → Int32) (p2_hand : Nat → Int32) (p2_match : Nat → Int32) (p2_minute : Nat → Int32) (p2_partner : Nat → Int32) (p2_reachedFrom : Nat → Int32) (p2_sum : Nat → Int32) (p2_waiting : Nat → Int32) (p1_referee : Nat → Int32) (this_reach : Nat → Int32) (this_rows : Nat → Int32)  : Option (Int32 × (Nat → Int32) × (Nat → Int32) × (Nat → Int32) × (Nat → Int32) × (Nat → Int32) × (Nat → Int32)) := bd4 (t_X0_groupHands p2_count p2_near p2_times p2_ties p2_end p2_groups p2_hand p2_match p2_minute p2_partner p2_reachedFrom p2_sum p2_waiting) (fun u18_0 u18_1 u18_2 u18_3 => t_X3_build_14   lfuel p2_count p2_near p2_times p2_ties p1_count p1_count p2_end u18_0 p2_hand p2_match p2_minute u18_1 u18_2 p2_sum u18_3 p1_referee this_reach this_rows (0 : Int32))
set_option maxHeartbeats 4000000 in
set_option maxRecDepth 100000 in
theorem b_X3_build_141 {p : Program} {l : Launch} {e : Env} {s : State} {m : MethodId} {args : Array Value} {below : List Frame} {meth : Method} {c : Code} {D : va_G} {A : Nat → Prop} {cI cJ cZ : ClassId} (X : Cx p m c cX3_build 5 s args wsX3_build RX3 D (tys3 cI cJ cZ) meth none) (_ _ _ : ClassId)  (h_p2 : Nat) (h_p1 : Nat) (h_this : Nat) (q_p2 : Nat → Nat) (q_p1 : Nat → Nat) (q_this : Nat → Nat) (p1_base : Int32) (p1_topLean : Int32) (p1_topSpot : Int32) (z0 : Int32) (z1 : Nat → Int32) (z2 : Nat → Int32) (z3 : Nat → Int32) (z4 : Nat → Int32) (z5 : Nat → Int32) (z6 : Nat → Int32) (k_54 : Int32 → Int32 → Int32 → Int32 → Int32 → Int32 → (Nat → Int32) → (Nat → Int32) → (Nat → Int32) → (Nat → Int32) → (Nat → Int32) → (Nat → Int32) → (Nat → Int32) → (Nat → Int32) → (Nat → Int32) → (Nat → Int32) → (Nat → Int32) → (Nat → Int32) → Int32 → (Option (Int32 × (Nat → Int32) × (Nat → Int32) × (Nat → Int32) × (Nat → Int32) × (Nat → Int32) × (Nat → Int32)))) (hk_54 : ∀ (p2_count : Int32) (p2_near : Int32) (p2_times : Int32) (p2_ties : Int32) (p1_count : Int32) (this_size : Int32) (p2_end : Nat → Int32) (p2_groups : Nat → Int32) (p2_hand : Nat → Int32) (p2_match : Nat → Int32) (p2_minute : Nat → Int32) (p2_partner : Nat → Int32) (p2_reachedFrom : Nat → Int32) (p2_sum : Nat → Int32) (p2_waiting : Nat → Int32) (p1_referee : Nat → Int32) (this_reach : Nat → Int32) (this_rows : Nat → Int32) (x3 : Int32), k_54 p2_count p2_near p2_times p2_ties p1_count this_size p2_end p2_groups p2_hand p2_match p2_minute p2_partner p2_reachedFrom p2_sum p2_waiting p1_referee this_reach this_rows x3 = some (z0, z1, z2, z3, z4, z5, z6) → J p l e rmX3_build s m args below meth c D A 5 (QV D below args s A (w_X3_build cI cJ cZ h_p2 h_p1 h_this q_p2 q_p1 q_this p2_count p2_near p2_times p2_ties p1_count p1_base p1_topLean p1_topSpot z0 p2_end z1 p2_hand p2_match p2_minute z2 z3 p2_sum z4 p1_referee z5 z6)) 0 0 (w_X3_build cI cJ cZ h_p2 h_p1 h_this q_p2 q_p1 q_this p2_count p2_near p2_times p2_ties p1_count p1_base p1_topLean p1_topSpot this_size p2_end p2_groups p2_hand p2_match p2_minute p2_partner p2_reachedFrom p2_sum p2_waiting p1_referee this_reach this_rows) [(0, .ref h_this), (1, .ref h_p1), (2, .ref h_p2), (3, .int x3)] [] 54) (p2_count : Int32) (p2_near : Int32) (p2_times : Int32) (p2_ties : Int32) (p1_count : Int32) (this_size : Int32) (p2_end : Nat → Int32) (p2_groups : Nat → Int32) (p2_hand : Nat → Int32) (p2_match : Nat → Int32) (p2_minute : Nat → Int32) (p2_partner : Nat → Int32) (p2_reachedFrom : Nat → Int32) (p2_sum : Nat → Int32) (p2_waiting : Nat → Int32) (p1_referee : Nat → Int32) (this_reach : Nat → Int32) (this_rows : Nat → Int32) (x3 : Int32) (hT : t_X3_build_141  k_54 p2_count p2_near p2_times p2_ties p1_count this_size p2_end p2_groups p2_hand p2_match p2_minute p2_partner p2_reachedFrom p2_sum p2_waiting p1_referee this_reach this_rows x3 = some (z0, z1, z2, z3, z4, z5, z6)) : J p l e rmX3_build s m args below meth c D A 5 (QV D below args s A (w_X3_build cI cJ cZ h_p2 h_p1 h_this q_p2 q_p1 q_this p2_count p2_near p2_times p2_ties p1_count p1_base p1_topLean p1_topSpot z0 p2_end z1 p2_hand p2_match p2_minute z2 z3 p2_sum z4 p1_referee z5 z6)) 0 0 (w_X3_build cI cJ cZ h_p2 h_p1 h_this q_p2 q_p1 q_this p2_count p2_near p2_times p2_ties p1_count p1_base p1_topLean p1_topSpot this_size p2_end p2_groups p2_hand p2_match p2_minute p2_partner p2_reachedFrom p2_sum p2_waiting p1_referee this_reach this_rows) [(0, .ref h_this), (1, .ref h_p1), (2, .ref h_p2), (3, .int x3)] [] 141 := by
  unfold t_X3_build_141 at hT
  refine J_iinc (lv' := [(3, .int (x3 + (1 : Int32))), (0, .ref h_this), (1, .ref h_p1), (2, .ref h_p2)]) (j := 3) X dX3_build_141 rfl rfl (by decide) rfl ?_
  refine J_goto (tgt := 54) X dX3_build_144 (by decide) ?_
  refine J_lv (lv' := [(0, .ref h_this), (1, .ref h_p1), (2, .ref h_p2), (3, .int (x3 + (1 : Int32)))]) [1, 2, 3, 0] rfl ?_
  exact hk_54 p2_count p2_near p2_times p2_ties p1_count this_size p2_end p2_groups p2_hand p2_match p2_minute p2_partner p2_reachedFrom p2_sum p2_waiting p1_referee this_reach this_rows (x3 + (1 : Int32)) hT
set_option maxHeartbeats 4000000 in
set_option maxRecDepth 100000 in
theorem b_X3_build_135 {p : Program} {l : Launch} {e : Env} {s : State} {m : MethodId} {args : Array Value} {below : List Frame} {meth : Method} {c : Code} {D : va_G} {A : Nat → Prop} {cI cJ cZ : ClassId} (X : Cx p m c cX3_build 5 s args wsX3_build RX3 D (tys3 cI cJ cZ) meth none) (_ _ _ : ClassId)  (h_p2 : Nat) (h_p1 : Nat) (h_this : Nat) (q_p2 : Nat → Nat) (q_p1 : Nat → Nat) (q_this : Nat → Nat) (p1_base : Int32) (p1_topLean : Int32) (p1_topSpot : Int32) (z0 : Int32) (z1 : Nat → Int32) (z2 : Nat → Int32) (z3 : Nat → Int32) (z4 : Nat → Int32) (z5 : Nat → Int32) (z6 : Nat → Int32) (k_54 : Int32 → Int32 → Int32 → Int32 → Int32 → Int32 → (Nat → Int32) → (Nat → Int32) → (Nat → Int32) → (Nat → Int32) → (Nat → Int32) → (Nat → Int32) → (Nat → Int32) → (Nat → Int32) → (Nat → Int32) → (Nat → Int32) → (Nat → Int32) → (Nat → Int32) → Int32 → (Option (Int32 × (Nat → Int32) × (Nat → Int32) × (Nat → Int32) × (Nat → Int32) × (Nat → Int32) × (Nat → Int32)))) (hk_54 : ∀ (p2_count : Int32) (p2_near : Int32) (p2_times : Int32) (p2_ties : Int32) (p1_count : Int32) (this_size : Int32) (p2_end : Nat → Int32) (p2_groups : Nat → Int32) (p2_hand : Nat → Int32) (p2_match : Nat → Int32) (p2_minute : Nat → Int32) (p2_partner : Nat → Int32) (p2_reachedFrom : Nat → Int32) (p2_sum : Nat → Int32) (p2_waiting : Nat → Int32) (p1_referee : Nat → Int32) (this_reach : Nat → Int32) (this_rows : Nat → Int32) (x3 : Int32), k_54 p2_count p2_near p2_times p2_ties p1_count this_size p2_end p2_groups p2_hand p2_match p2_minute p2_partner p2_reachedFrom p2_sum p2_waiting p1_referee this_reach this_rows x3 = some (z0, z1, z2, z3, z4, z5, z6) → J p l e rmX3_build s m args below meth c D A 5 (QV D below args s A (w_X3_build cI cJ cZ h_p2 h_p1 h_this q_p2 q_p1 q_this p2_count p2_near p2_times p2_ties p1_count p1_base p1_topLean p1_topSpot z0 p2_end z1 p2_hand p2_match p2_minute z2 z3 p2_sum z4 p1_referee z5 z6)) 0 0 (w_X3_build cI cJ cZ h_p2 h_p1 h_this q_p2 q_p1 q_this p2_count p2_near p2_times p2_ties p1_count p1_base p1_topLean p1_topSpot this_size p2_end p2_groups p2_hand p2_match p2_minute p2_partner p2_reachedFrom p2_sum p2_waiting p1_referee this_reach this_rows) [(0, .ref h_this), (1, .ref h_p1), (2, .ref h_p2), (3, .int x3)] [] 54) (k_67 : Int32 → Int32 → Int32 → Int32 → Int32 → Int32 → (Nat → Int32) → (Nat → Int32) → (Nat → Int32) → (Nat → Int32) → (Nat → Int32) → (Nat → Int32) → (Nat → Int32) → (Nat → Int32) → (Nat → Int32) → (Nat → Int32) → (Nat → Int32) → (Nat → Int32) → Int32 → Int32 → (Option (Int32 × (Nat → Int32) × (Nat → Int32) × (Nat → Int32) × (Nat → Int32) × (Nat → Int32) × (Nat → Int32)))) (hk_67 : ∀ (p2_count : Int32) (p2_near : Int32) (p2_times : Int32) (p2_ties : Int32) (p1_count : Int32) (this_size : Int32) (p2_end : Nat → Int32) (p2_groups : Nat → Int32) (p2_hand : Nat → Int32) (p2_match : Nat → Int32) (p2_minute : Nat → Int32) (p2_partner : Nat → Int32) (p2_reachedFrom : Nat → Int32) (p2_sum : Nat → Int32) (p2_waiting : Nat → Int32) (p1_referee : Nat → Int32) (this_reach : Nat → Int32) (this_rows : Nat → Int32) (x3 : Int32) (x4 : Int32), k_67 p2_count p2_near p2_times p2_ties p1_count this_size p2_end p2_groups p2_hand p2_match p2_minute p2_partner p2_reachedFrom p2_sum p2_waiting p1_referee this_reach this_rows x3 x4 = some (z0, z1, z2, z3, z4, z5, z6) → J p l e rmX3_build s m args below meth c D A 5 (QV D below args s A (w_X3_build cI cJ cZ h_p2 h_p1 h_this q_p2 q_p1 q_this p2_count p2_near p2_times p2_ties p1_count p1_base p1_topLean p1_topSpot z0 p2_end z1 p2_hand p2_match p2_minute z2 z3 p2_sum z4 p1_referee z5 z6)) 0 0 (w_X3_build cI cJ cZ h_p2 h_p1 h_this q_p2 q_p1 q_this p2_count p2_near p2_times p2_ties p1_count p1_base p1_topLean p1_topSpot this_size p2_end p2_groups p2_hand p2_match p2_minute p2_partner p2_reachedFrom p2_sum p2_waiting p1_referee this_reach this_rows) [(0, .ref h_this), (1, .ref h_p1), (2, .ref h_p2), (3, .int x3), (4, .int x4)] [] 67) (p2_count : Int32) (p2_near : Int32) (p2_times : Int32) (p2_ties : Int32) (p1_count : Int32) (this_size : Int32) (p2_end : Nat → Int32) (p2_groups : Nat → Int32) (p2_hand : Nat → Int32) (p2_match : Nat → Int32) (p2_minute : Nat → Int32) (p2_partner : Nat → Int32) (p2_reachedFrom : Nat → Int32) (p2_sum : Nat → Int32) (p2_waiting : Nat → Int32) (p1_referee : Nat → Int32) (this_reach : Nat → Int32) (this_rows : Nat → Int32) (x3 : Int32) (x4 : Int32) (hT : t_X3_build_135  k_54 k_67 p2_count p2_near p2_times p2_ties p1_count this_size p2_end p2_groups p2_hand p2_match p2_minute p2_partner p2_reachedFrom p2_sum p2_waiting p1_referee this_reach this_rows x3 x4 = some (z0, z1, z2, z3, z4, z5, z6)) : J p l e rmX3_build s m args below meth c D A 5 (QV D below args s A (w_X3_build cI cJ cZ h_p2 h_p1 h_this q_p2 q_p1 q_this p2_count p2_near p2_times p2_ties p1_count p1_base p1_topLean p1_topSpot z0 p2_end z1 p2_hand p2_match p2_minute z2 z3 p2_sum z4 p1_referee z5 z6)) 0 0 (w_X3_build cI cJ cZ h_p2 h_p1 h_this q_p2 q_p1 q_this p2_count p2_near p2_times p2_ties p1_count p1_base p1_topLean p1_topSpot this_size p2_end p2_groups p2_hand p2_match p2_minute p2_partner p2_reachedFrom p2_sum p2_waiting p1_referee this_reach this_rows) [(0, .ref h_this), (1, .ref h_p1), (2, .ref h_p2), (3, .int x3), (4, .int x4)] [] 135 := by
  unfold t_X3_build_135 at hT
  refine J_iinc (lv' := [(4, .int (x4 + (1 : Int32))), (0, .ref h_this), (1, .ref h_p1), (2, .ref h_p2), (3, .int x3)]) (j := 4) X dX3_build_135 rfl rfl (by decide) rfl ?_
  refine J_goto (tgt := 67) X dX3_build_138 (by decide) ?_
  refine J_lv (lv' := [(0, .ref h_this), (1, .ref h_p1), (2, .ref h_p2), (3, .int x3), (4, .int (x4 + (1 : Int32)))]) [1, 2, 3, 4, 0] rfl ?_
  exact hk_67 p2_count p2_near p2_times p2_ties p1_count this_size p2_end p2_groups p2_hand p2_match p2_minute p2_partner p2_reachedFrom p2_sum p2_waiting p1_referee this_reach this_rows x3 (x4 + (1 : Int32)) hT
set_option maxHeartbeats 4000000 in
set_option maxRecDepth 100000 in
theorem b_X3_build_109 {p : Program} {l : Launch} {e : Env} {s : State} {m : MethodId} {args : Array Value} {below : List Frame} {meth : Method} {c : Code} {D : va_G} {A : Nat → Prop} {cI cJ cZ : ClassId} (X : Cx p m c cX3_build 5 s args wsX3_build RX3 D (tys3 cI cJ cZ) meth none) (_ _ _ : ClassId)  (h_p2 : Nat) (h_p1 : Nat) (h_this : Nat) (q_p2 : Nat → Nat) (q_p1 : Nat → Nat) (q_this : Nat → Nat) (p1_base : Int32) (p1_topLean : Int32) (p1_topSpot : Int32) (z0 : Int32) (z1 : Nat → Int32) (z2 : Nat → Int32) (z3 : Nat → Int32) (z4 : Nat → Int32) (z5 : Nat → Int32) (z6 : Nat → Int32) (k_54 : Int32 → Int32 → Int32 → Int32 → Int32 → Int32 → (Nat → Int32) → (Nat → Int32) → (Nat → Int32) → (Nat → Int32) → (Nat → Int32) → (Nat → Int32) → (Nat → Int32) → (Nat → Int32) → (Nat → Int32) → (Nat → Int32) → (Nat → Int32) → (Nat → Int32) → Int32 → (Option (Int32 × (Nat → Int32) × (Nat → Int32) × (Nat → Int32) × (Nat → Int32) × (Nat → Int32) × (Nat → Int32)))) (hk_54 : ∀ (p2_count : Int32) (p2_near : Int32) (p2_times : Int32) (p2_ties : Int32) (p1_count : Int32) (this_size : Int32) (p2_end : Nat → Int32) (p2_groups : Nat → Int32) (p2_hand : Nat → Int32) (p2_match : Nat → Int32) (p2_minute : Nat → Int32) (p2_partner : Nat → Int32) (p2_reachedFrom : Nat → Int32) (p2_sum : Nat → Int32) (p2_waiting : Nat → Int32) (p1_referee : Nat → Int32) (this_reach : Nat → Int32) (this_rows : Nat → Int32) (x3 : Int32), k_54 p2_count p2_near p2_times p2_ties p1_count this_size p2_end p2_groups p2_hand p2_match p2_minute p2_partner p2_reachedFrom p2_sum p2_waiting p1_referee this_reach this_rows x3 = some (z0, z1, z2, z3, z4, z5, z6) → J p l e rmX3_build s m args below meth c D A 5 (QV D below args s A (w_X3_build cI cJ cZ h_p2 h_p1 h_this q_p2 q_p1 q_this p2_count p2_near p2_times p2_ties p1_count p1_base p1_topLean p1_topSpot z0 p2_end z1 p2_hand p2_match p2_minute z2 z3 p2_sum z4 p1_referee z5 z6)) 0 0 (w_X3_build cI cJ cZ h_p2 h_p1 h_this q_p2 q_p1 q_this p2_count p2_near p2_times p2_ties p1_count p1_base p1_topLean p1_topSpot this_size p2_end p2_groups p2_hand p2_match p2_minute p2_partner p2_reachedFrom p2_sum p2_waiting p1_referee this_reach this_rows) [(0, .ref h_this), (1, .ref h_p1), (2, .ref h_p2), (3, .int x3)] [] 54) (k_67 : Int32 → Int32 → Int32 → Int32 → Int32 → Int32 → (Nat → Int32) → (Nat → Int32) → (Nat → Int32) → (Nat → Int32) → (Nat → Int32) → (Nat → Int32) → (Nat → Int32) → (Nat → Int32) → (Nat → Int32) → (Nat → Int32) → (Nat → Int32) → (Nat → Int32) → Int32 → Int32 → (Option (Int32 × (Nat → Int32) × (Nat → Int32) × (Nat → Int32) × (Nat → Int32) × (Nat → Int32) × (Nat → Int32)))) (hk_67 : ∀ (p2_count : Int32) (p2_near : Int32) (p2_times : Int32) (p2_ties : Int32) (p1_count : Int32) (this_size : Int32) (p2_end : Nat → Int32) (p2_groups : Nat → Int32) (p2_hand : Nat → Int32) (p2_match : Nat → Int32) (p2_minute : Nat → Int32) (p2_partner : Nat → Int32) (p2_reachedFrom : Nat → Int32) (p2_sum : Nat → Int32) (p2_waiting : Nat → Int32) (p1_referee : Nat → Int32) (this_reach : Nat → Int32) (this_rows : Nat → Int32) (x3 : Int32) (x4 : Int32), k_67 p2_count p2_near p2_times p2_ties p1_count this_size p2_end p2_groups p2_hand p2_match p2_minute p2_partner p2_reachedFrom p2_sum p2_waiting p1_referee this_reach this_rows x3 x4 = some (z0, z1, z2, z3, z4, z5, z6) → J p l e rmX3_build s m args below meth c D A 5 (QV D below args s A (w_X3_build cI cJ cZ h_p2 h_p1 h_this q_p2 q_p1 q_this p2_count p2_near p2_times p2_ties p1_count p1_base p1_topLean p1_topSpot z0 p2_end z1 p2_hand p2_match p2_minute z2 z3 p2_sum z4 p1_referee z5 z6)) 0 0 (w_X3_build cI cJ cZ h_p2 h_p1 h_this q_p2 q_p1 q_this p2_count p2_near p2_times p2_ties p1_count p1_base p1_topLean p1_topSpot this_size p2_end p2_groups p2_hand p2_match p2_minute p2_partner p2_reachedFrom p2_sum p2_waiting p1_referee this_reach this_rows) [(0, .ref h_this), (1, .ref h_p1), (2, .ref h_p2), (3, .int x3), (4, .int x4)] [] 67) (p2_count : Int32) (p2_near : Int32) (p2_times : Int32) (p2_ties : Int32) (p1_count : Int32) (this_size : Int32) (p2_end : Nat → Int32) (p2_groups : Nat → Int32) (p2_hand : Nat → Int32) (p2_match : Nat → Int32) (p2_minute : Nat → Int32) (p2_partner : Nat → Int32) (p2_reachedFrom : Nat → Int32) (p2_sum : Nat → Int32) (p2_waiting : Nat → Int32) (p1_referee : Nat → Int32) (this_reach : Nat → Int32) (this_rows : Nat → Int32) (x3 : Int32) (x4 : Int32) (hT : t_X3_build_109  k_54 k_67 p2_count p2_near p2_times p2_ties p1_count this_size p2_end p2_groups p2_hand p2_match p2_minute p2_partner p2_reachedFrom p2_sum p2_waiting p1_referee this_reach this_rows x3 x4 = some (z0, z1, z2, z3, z4, z5, z6)) : J p l e rmX3_build s m args below meth c D A 5 (QV D below args s A (w_X3_build cI cJ cZ h_p2 h_p1 h_this q_p2 q_p1 q_this p2_count p2_near p2_times p2_ties p1_count p1_base p1_topLean p1_topSpot z0 p2_end z1 p2_hand p2_match p2_minute z2 z3 p2_sum z4 p1_referee z5 z6)) 0 0 (w_X3_build cI cJ cZ h_p2 h_p1 h_this q_p2 q_p1 q_this p2_count p2_near p2_times p2_ties p1_count p1_base p1_topLean p1_topSpot this_size p2_end p2_groups p2_hand p2_match p2_minute p2_partner p2_reachedFrom p2_sum p2_waiting p1_referee this_reach this_rows) [(0, .ref h_this), (1, .ref h_p1), (2, .ref h_p2), (3, .int x3), (4, .int x4)] [] 109 := by
  unfold t_X3_build_109 at hT
  refine J_aload_n X dX3_build_109 0 rfl ?_
  refine J_get (C := RX3) (T := TX3) (N := 3) (ci := 3) (v := .ref (q_this 1)) X in_X3_build_X3 2 rfl rfl 1 (by decide) m_X3_build_f9 rfl dX3_build_110 ?_
  refine J_iload_n X dX3_build_113 3 rfl ?_
  refine J_dup2 X dX3_build_114 rfl rfl ?_
  obtain ⟨hk1, hT⟩ := ckn_e hT
  refine J_iald X 14 rfl rfl hk1 dX3_build_115 ?_
  refine J_iconst (v := 1) X dX3_build_116 (by decide) ?_
  refine J_iload X dX3_build_117 4 rfl ?_
  refine J_ishl X dX3_build_119 ?_
  refine J_ior X dX3_build_120 ?_
  obtain ⟨hk2, hT⟩ := ckn_e hT
  refine J_iast (ws' := (w_X3_build cI cJ cZ h_p2 h_p1 h_this q_p2 q_p1 q_this p2_count p2_near p2_times p2_ties p1_count p1_base p1_topLean p1_topSpot this_size p2_end p2_groups p2_hand p2_match p2_minute p2_partner p2_reachedFrom p2_sum p2_waiting p1_referee this_reach (upd this_rows x3.toNatClampNeg ((this_rows x3.toNatClampNeg) ||| ((1 : Int32) <<< (x4 &&& 31)))))) X 14 rfl rfl hk2 rfl dX3_build_121 ?_
  refine J_aload_n X dX3_build_122 0 rfl ?_
  refine J_get (C := RX3) (T := TX3) (N := 3) (ci := 3) (v := .ref (q_this 1)) X in_X3_build_X3 2 rfl rfl 1 (by decide) m_X3_build_f9 rfl dX3_build_123 ?_
  refine J_iload X dX3_build_126 4 rfl ?_
  refine J_dup2 X dX3_build_128 rfl rfl ?_
  obtain ⟨hk3, hT⟩ := ckn_e hT
  refine J_iald X 14 rfl rfl hk3 dX3_build_129 ?_
  refine J_iconst (v := 1) X dX3_build_130 (by decide) ?_
  refine J_iload_n X dX3_build_131 3 rfl ?_
  refine J_ishl X dX3_build_132 ?_
  refine J_ior X dX3_build_133 ?_
  obtain ⟨hk4, hT⟩ := ckn_e hT
  refine J_iast (ws' := (w_X3_build cI cJ cZ h_p2 h_p1 h_this q_p2 q_p1 q_this p2_count p2_near p2_times p2_ties p1_count p1_base p1_topLean p1_topSpot this_size p2_end p2_groups p2_hand p2_match p2_minute p2_partner p2_reachedFrom p2_sum p2_waiting p1_referee this_reach (upd (upd this_rows x3.toNatClampNeg ((this_rows x3.toNatClampNeg) ||| ((1 : Int32) <<< (x4 &&& 31)))) x4.toNatClampNeg (((upd this_rows x3.toNatClampNeg ((this_rows x3.toNatClampNeg) ||| ((1 : Int32) <<< (x4 &&& 31)))) x4.toNatClampNeg) ||| ((1 : Int32) <<< (x3 &&& 31)))))) X 14 rfl rfl hk4 rfl dX3_build_134 ?_
  exact b_X3_build_135 X cI cJ cZ h_p2 h_p1 h_this q_p2 q_p1 q_this p1_base p1_topLean p1_topSpot z0 z1 z2 z3 z4 z5 z6 k_54 hk_54 k_67 hk_67 p2_count p2_near p2_times p2_ties p1_count this_size p2_end p2_groups p2_hand p2_match p2_minute p2_partner p2_reachedFrom p2_sum p2_waiting p1_referee this_reach (upd (upd this_rows x3.toNatClampNeg ((this_rows x3.toNatClampNeg) ||| ((1 : Int32) <<< (x4 &&& 31)))) x4.toNatClampNeg (((upd this_rows x3.toNatClampNeg ((this_rows x3.toNatClampNeg) ||| ((1 : Int32) <<< (x4 &&& 31)))) x4.toNatClampNeg) ||| ((1 : Int32) <<< (x3 &&& 31)))) x3 x4 hT
set_option maxHeartbeats 4000000 in
set_option maxRecDepth 100000 in
theorem b_X3_build_67_b {p : Program} {l : Launch} {e : Env} {s : State} {m : MethodId} {args : Array Value} {below : List Frame} {meth : Method} {c : Code} {D : va_G} {A : Nat → Prop} {cI cJ cZ : ClassId} (X : Cx p m c cX3_build 5 s args wsX3_build RX3 D (tys3 cI cJ cZ) meth none) (_ _ _ : ClassId)  (h_p2 : Nat) (h_p1 : Nat) (h_this : Nat) (q_p2 : Nat → Nat) (q_p1 : Nat → Nat) (q_this : Nat → Nat) (p1_base : Int32) (p1_topLean : Int32) (p1_topSpot : Int32) (z0 : Int32) (z1 : Nat → Int32) (z2 : Nat → Int32) (z3 : Nat → Int32) (z4 : Nat → Int32) (z5 : Nat → Int32) (z6 : Nat → Int32) (k_54 : Int32 → Int32 → Int32 → Int32 → Int32 → Int32 → (Nat → Int32) → (Nat → Int32) → (Nat → Int32) → (Nat → Int32) → (Nat → Int32) → (Nat → Int32) → (Nat → Int32) → (Nat → Int32) → (Nat → Int32) → (Nat → Int32) → (Nat → Int32) → (Nat → Int32) → Int32 → (Option (Int32 × (Nat → Int32) × (Nat → Int32) × (Nat → Int32) × (Nat → Int32) × (Nat → Int32) × (Nat → Int32)))) (hk_54 : ∀ (p2_count : Int32) (p2_near : Int32) (p2_times : Int32) (p2_ties : Int32) (p1_count : Int32) (this_size : Int32) (p2_end : Nat → Int32) (p2_groups : Nat → Int32) (p2_hand : Nat → Int32) (p2_match : Nat → Int32) (p2_minute : Nat → Int32) (p2_partner : Nat → Int32) (p2_reachedFrom : Nat → Int32) (p2_sum : Nat → Int32) (p2_waiting : Nat → Int32) (p1_referee : Nat → Int32) (this_reach : Nat → Int32) (this_rows : Nat → Int32) (x3 : Int32), k_54 p2_count p2_near p2_times p2_ties p1_count this_size p2_end p2_groups p2_hand p2_match p2_minute p2_partner p2_reachedFrom p2_sum p2_waiting p1_referee this_reach this_rows x3 = some (z0, z1, z2, z3, z4, z5, z6) → J p l e rmX3_build s m args below meth c D A 5 (QV D below args s A (w_X3_build cI cJ cZ h_p2 h_p1 h_this q_p2 q_p1 q_this p2_count p2_near p2_times p2_ties p1_count p1_base p1_topLean p1_topSpot z0 p2_end z1 p2_hand p2_match p2_minute z2 z3 p2_sum z4 p1_referee z5 z6)) 0 0 (w_X3_build cI cJ cZ h_p2 h_p1 h_this q_p2 q_p1 q_this p2_count p2_near p2_times p2_ties p1_count p1_base p1_topLean p1_topSpot this_size p2_end p2_groups p2_hand p2_match p2_minute p2_partner p2_reachedFrom p2_sum p2_waiting p1_referee this_reach this_rows) [(0, .ref h_this), (1, .ref h_p1), (2, .ref h_p2), (3, .int x3)] [] 54) (k_67 : Int32 → Int32 → Int32 → Int32 → Int32 → Int32 → (Nat → Int32) → (Nat → Int32) → (Nat → Int32) → (Nat → Int32) → (Nat → Int32) → (Nat → Int32) → (Nat → Int32) → (Nat → Int32) → (Nat → Int32) → (Nat → Int32) → (Nat → Int32) → (Nat → Int32) → Int32 → Int32 → (Option (Int32 × (Nat → Int32) × (Nat → Int32) × (Nat → Int32) × (Nat → Int32) × (Nat → Int32) × (Nat → Int32)))) (hk_67 : ∀ (p2_count : Int32) (p2_near : Int32) (p2_times : Int32) (p2_ties : Int32) (p1_count : Int32) (this_size : Int32) (p2_end : Nat → Int32) (p2_groups : Nat → Int32) (p2_hand : Nat → Int32) (p2_match : Nat → Int32) (p2_minute : Nat → Int32) (p2_partner : Nat → Int32) (p2_reachedFrom : Nat → Int32) (p2_sum : Nat → Int32) (p2_waiting : Nat → Int32) (p1_referee : Nat → Int32) (this_reach : Nat → Int32) (this_rows : Nat → Int32) (x3 : Int32) (x4 : Int32), k_67 p2_count p2_near p2_times p2_ties p1_count this_size p2_end p2_groups p2_hand p2_match p2_minute p2_partner p2_reachedFrom p2_sum p2_waiting p1_referee this_reach this_rows x3 x4 = some (z0, z1, z2, z3, z4, z5, z6) → J p l e rmX3_build s m args below meth c D A 5 (QV D below args s A (w_X3_build cI cJ cZ h_p2 h_p1 h_this q_p2 q_p1 q_this p2_count p2_near p2_times p2_ties p1_count p1_base p1_topLean p1_topSpot z0 p2_end z1 p2_hand p2_match p2_minute z2 z3 p2_sum z4 p1_referee z5 z6)) 0 0 (w_X3_build cI cJ cZ h_p2 h_p1 h_this q_p2 q_p1 q_this p2_count p2_near p2_times p2_ties p1_count p1_base p1_topLean p1_topSpot this_size p2_end p2_groups p2_hand p2_match p2_minute p2_partner p2_reachedFrom p2_sum p2_waiting p1_referee this_reach this_rows) [(0, .ref h_this), (1, .ref h_p1), (2, .ref h_p2), (3, .int x3), (4, .int x4)] [] 67) (p2_count : Int32) (p2_near : Int32) (p2_times : Int32) (p2_ties : Int32) (p1_count : Int32) (this_size : Int32) (p2_end : Nat → Int32) (p2_groups : Nat → Int32) (p2_hand : Nat → Int32) (p2_match : Nat → Int32) (p2_minute : Nat → Int32) (p2_partner : Nat → Int32) (p2_reachedFrom : Nat → Int32) (p2_sum : Nat → Int32) (p2_waiting : Nat → Int32) (p1_referee : Nat → Int32) (this_reach : Nat → Int32) (this_rows : Nat → Int32) (x3 : Int32) (x4 : Int32) (hT : t_X3_build_67_b  k_54 k_67 p2_count p2_near p2_times p2_ties p1_count this_size p2_end p2_groups p2_hand p2_match p2_minute p2_partner p2_reachedFrom p2_sum p2_waiting p1_referee this_reach this_rows x3 x4 = some (z0, z1, z2, z3, z4, z5, z6)) : J p l e rmX3_build s m args below meth c D A 5 (QV D below args s A (w_X3_build cI cJ cZ h_p2 h_p1 h_this q_p2 q_p1 q_this p2_count p2_near p2_times p2_ties p1_count p1_base p1_topLean p1_topSpot z0 p2_end z1 p2_hand p2_match p2_minute z2 z3 p2_sum z4 p1_referee z5 z6)) 0 0 (w_X3_build cI cJ cZ h_p2 h_p1 h_this q_p2 q_p1 q_this p2_count p2_near p2_times p2_ties p1_count p1_base p1_topLean p1_topSpot this_size p2_end p2_groups p2_hand p2_match p2_minute p2_partner p2_reachedFrom p2_sum p2_waiting p1_referee this_reach this_rows) [(0, .ref h_this), (1, .ref h_p1), (2, .ref h_p2), (3, .int x3), (4, .int x4)] [] 67 := by
  unfold t_X3_build_67_b at hT
  refine J_iload X dX3_build_67 4 rfl ?_
  refine J_aload_n X dX3_build_69 0 rfl ?_
  refine J_get (C := RX3) (T := TX3) (N := 3) (ci := 3) (v := .int this_size) X in_X3_build_X3 2 rfl rfl 0 (by decide) m_X3_build_f29 rfl dX3_build_70 ?_
  refine J_icmp_ge (tgt := 141) X dX3_build_73 (by decide) (fun hc5 => ?_) (fun hc5 => ?_)
  · have hT := ift hT hc5
    refine J_lv (lv' := [(0, .ref h_this), (1, .ref h_p1), (2, .ref h_p2), (3, .int x3)]) [0, 1, 2, 3] rfl ?_
    exact b_X3_build_141 X cI cJ cZ h_p2 h_p1 h_this q_p2 q_p1 q_this p1_base p1_topLean p1_topSpot z0 z1 z2 z3 z4 z5 z6 k_54 hk_54 p2_count p2_near p2_times p2_ties p1_count this_size p2_end p2_groups p2_hand p2_match p2_minute p2_partner p2_reachedFrom p2_sum p2_waiting p1_referee this_reach this_rows x3 hT
  · have hT := iff_ hT hc5
    refine J_aload_n X dX3_build_76 1 rfl ?_
    refine J_getN (host := "SoldMatches") (C := RX2) (T := TX2) (N := 13) (ci := 2) (v := .ref (q_p1 5)) X in_X3_build_X2 1 rfl rfl 5 (by decide) (List.mem_of_getElem? (i := 10) rfl) rfl dX3_build_77 ?_
    refine J_iload_n X dX3_build_80 3 rfl ?_
    obtain ⟨hk6, hT⟩ := ckn_e hT
    refine J_iald X 12 rfl rfl hk6 dX3_build_81 ?_
    refine J_aload_n X dX3_build_82 1 rfl ?_
    refine J_getN (host := "SoldMatches") (C := RX2) (T := TX2) (N := 13) (ci := 2) (v := .ref (q_p1 5)) X in_X3_build_X2 1 rfl rfl 5 (by decide) (List.mem_of_getElem? (i := 10) rfl) rfl dX3_build_83 ?_
    refine J_iload X dX3_build_86 4 rfl ?_
    obtain ⟨hk7, hT⟩ := ckn_e hT
    refine J_iald X 12 rfl rfl hk7 dX3_build_88 ?_
    refine J_icmp_eq (tgt := 109) X dX3_build_89 (by decide) (fun hc8 => ?_) (fun hc8 => ?_)
    · have hT := ift hT hc8
      exact b_X3_build_109 X cI cJ cZ h_p2 h_p1 h_this q_p2 q_p1 q_this p1_base p1_topLean p1_topSpot z0 z1 z2 z3 z4 z5 z6 k_54 hk_54 k_67 hk_67 p2_count p2_near p2_times p2_ties p1_count this_size p2_end p2_groups p2_hand p2_match p2_minute p2_partner p2_reachedFrom p2_sum p2_waiting p1_referee this_reach this_rows x3 x4 hT
    · have hT := iff_ hT hc8
      refine J_aload_n X dX3_build_92 0 rfl ?_
      refine J_get (C := RX3) (T := TX3) (N := 3) (ci := 3) (v := .ref (q_this 2)) X in_X3_build_X3 2 rfl rfl 2 (by decide) m_X3_build_f15 rfl dX3_build_93 ?_
      refine J_iload_n X dX3_build_96 3 rfl ?_
      obtain ⟨hk9, hT⟩ := ckn_e hT
      refine J_iald X 13 rfl rfl hk9 dX3_build_97 ?_
      refine J_aload_n X dX3_build_98 0 rfl ?_
      refine J_get (C := RX3) (T := TX3) (N := 3) (ci := 3) (v := .ref (q_this 2)) X in_X3_build_X3 2 rfl rfl 2 (by decide) m_X3_build_f15 rfl dX3_build_99 ?_
      refine J_iload X dX3_build_102 4 rfl ?_
      obtain ⟨hk10, hT⟩ := ckn_e hT
      refine J_iald X 13 rfl rfl hk10 dX3_build_104 ?_
      refine J_iand X dX3_build_105 ?_
      refine J_if_eq (tgt := 135) X dX3_build_106 (by decide) (fun hc11 => ?_) (fun hc11 => ?_)
      · have hT := ift hT hc11
        exact b_X3_build_135 X cI cJ cZ h_p2 h_p1 h_this q_p2 q_p1 q_this p1_base p1_topLean p1_topSpot z0 z1 z2 z3 z4 z5 z6 k_54 hk_54 k_67 hk_67 p2_count p2_near p2_times p2_ties p1_count this_size p2_end p2_groups p2_hand p2_match p2_minute p2_partner p2_reachedFrom p2_sum p2_waiting p1_referee this_reach this_rows x3 x4 hT
      · have hT := iff_ hT hc11
        exact b_X3_build_109 X cI cJ cZ h_p2 h_p1 h_this q_p2 q_p1 q_this p1_base p1_topLean p1_topSpot z0 z1 z2 z3 z4 z5 z6 k_54 hk_54 k_67 hk_67 p2_count p2_near p2_times p2_ties p1_count this_size p2_end p2_groups p2_hand p2_match p2_minute p2_partner p2_reachedFrom p2_sum p2_waiting p1_referee this_reach this_rows x3 x4 hT
set_option maxHeartbeats 4000000 in
set_option maxRecDepth 100000 in
theorem b_X3_build_67 {p : Program} {l : Launch} {e : Env} {s : State} {m : MethodId} {args : Array Value} {below : List Frame} {meth : Method} {c : Code} {D : va_G} {A : Nat → Prop} {cI cJ cZ : ClassId} (X : Cx p m c cX3_build 5 s args wsX3_build RX3 D (tys3 cI cJ cZ) meth none) (_ _ _ : ClassId)  (h_p2 : Nat) (h_p1 : Nat) (h_this : Nat) (q_p2 : Nat → Nat) (q_p1 : Nat → Nat) (q_this : Nat → Nat) (p1_base : Int32) (p1_topLean : Int32) (p1_topSpot : Int32) (z0 : Int32) (z1 : Nat → Int32) (z2 : Nat → Int32) (z3 : Nat → Int32) (z4 : Nat → Int32) (z5 : Nat → Int32) (z6 : Nat → Int32) (k_54 : Int32 → Int32 → Int32 → Int32 → Int32 → Int32 → (Nat → Int32) → (Nat → Int32) → (Nat → Int32) → (Nat → Int32) → (Nat → Int32) → (Nat → Int32) → (Nat → Int32) → (Nat → Int32) → (Nat → Int32) → (Nat → Int32) → (Nat → Int32) → (Nat → Int32) → Int32 → (Option (Int32 × (Nat → Int32) × (Nat → Int32) × (Nat → Int32) × (Nat → Int32) × (Nat → Int32) × (Nat → Int32)))) (hk_54 : ∀ (p2_count : Int32) (p2_near : Int32) (p2_times : Int32) (p2_ties : Int32) (p1_count : Int32) (this_size : Int32) (p2_end : Nat → Int32) (p2_groups : Nat → Int32) (p2_hand : Nat → Int32) (p2_match : Nat → Int32) (p2_minute : Nat → Int32) (p2_partner : Nat → Int32) (p2_reachedFrom : Nat → Int32) (p2_sum : Nat → Int32) (p2_waiting : Nat → Int32) (p1_referee : Nat → Int32) (this_reach : Nat → Int32) (this_rows : Nat → Int32) (x3 : Int32), k_54 p2_count p2_near p2_times p2_ties p1_count this_size p2_end p2_groups p2_hand p2_match p2_minute p2_partner p2_reachedFrom p2_sum p2_waiting p1_referee this_reach this_rows x3 = some (z0, z1, z2, z3, z4, z5, z6) → J p l e rmX3_build s m args below meth c D A 5 (QV D below args s A (w_X3_build cI cJ cZ h_p2 h_p1 h_this q_p2 q_p1 q_this p2_count p2_near p2_times p2_ties p1_count p1_base p1_topLean p1_topSpot z0 p2_end z1 p2_hand p2_match p2_minute z2 z3 p2_sum z4 p1_referee z5 z6)) 0 0 (w_X3_build cI cJ cZ h_p2 h_p1 h_this q_p2 q_p1 q_this p2_count p2_near p2_times p2_ties p1_count p1_base p1_topLean p1_topSpot this_size p2_end p2_groups p2_hand p2_match p2_minute p2_partner p2_reachedFrom p2_sum p2_waiting p1_referee this_reach this_rows) [(0, .ref h_this), (1, .ref h_p1), (2, .ref h_p2), (3, .int x3)] [] 54) : ∀ (n : Nat) (p2_count : Int32) (p2_near : Int32) (p2_times : Int32) (p2_ties : Int32) (p1_count : Int32) (this_size : Int32) (p2_end : Nat → Int32) (p2_groups : Nat → Int32) (p2_hand : Nat → Int32) (p2_match : Nat → Int32) (p2_minute : Nat → Int32) (p2_partner : Nat → Int32) (p2_reachedFrom : Nat → Int32) (p2_sum : Nat → Int32) (p2_waiting : Nat → Int32) (p1_referee : Nat → Int32) (this_reach : Nat → Int32) (this_rows : Nat → Int32) (x3 : Int32) (x4 : Int32) (hT : t_X3_build_67  k_54 n p2_count p2_near p2_times p2_ties p1_count this_size p2_end p2_groups p2_hand p2_match p2_minute p2_partner p2_reachedFrom p2_sum p2_waiting p1_referee this_reach this_rows x3 x4 = some (z0, z1, z2, z3, z4, z5, z6)), J p l e rmX3_build s m args below meth c D A 5 (QV D below args s A (w_X3_build cI cJ cZ h_p2 h_p1 h_this q_p2 q_p1 q_this p2_count p2_near p2_times p2_ties p1_count p1_base p1_topLean p1_topSpot z0 p2_end z1 p2_hand p2_match p2_minute z2 z3 p2_sum z4 p1_referee z5 z6)) 0 0 (w_X3_build cI cJ cZ h_p2 h_p1 h_this q_p2 q_p1 q_this p2_count p2_near p2_times p2_ties p1_count p1_base p1_topLean p1_topSpot this_size p2_end p2_groups p2_hand p2_match p2_minute p2_partner p2_reachedFrom p2_sum p2_waiting p1_referee this_reach this_rows) [(0, .ref h_this), (1, .ref h_p1), (2, .ref h_p2), (3, .int x3), (4, .int x4)] [] 67 := by
  intro n
  induction n with
  | zero => intro p2_count p2_near p2_times p2_ties p1_count this_size p2_end p2_groups p2_hand p2_match p2_minute p2_partner p2_reachedFrom p2_sum p2_waiting p1_referee this_reach this_rows x3 x4 hT; cases hT
  | succ n ih =>
    intro p2_count p2_near p2_times p2_ties p1_count this_size p2_end p2_groups p2_hand p2_match p2_minute p2_partner p2_reachedFrom p2_sum p2_waiting p1_referee this_reach this_rows x3 x4 hT
    exact b_X3_build_67_b X cI cJ cZ h_p2 h_p1 h_this q_p2 q_p1 q_this p1_base p1_topLean p1_topSpot z0 z1 z2 z3 z4 z5 z6 k_54 hk_54 (t_X3_build_67  k_54 n) ih p2_count p2_near p2_times p2_ties p1_count this_size p2_end p2_groups p2_hand p2_match p2_minute p2_partner p2_reachedFrom p2_sum p2_waiting p1_referee this_reach this_rows x3 x4 hT
set_option maxHeartbeats 4000000 in
set_option maxRecDepth 100000 in
theorem b_X3_build_54_b {p : Program} {l : Launch} {e : Env} {s : State} {m : MethodId} {args : Array Value} {below : List Frame} {meth : Method} {c : Code} {D : va_G} {A : Nat → Prop} {cI cJ cZ : ClassId} (X : Cx p m c cX3_build 5 s args wsX3_build RX3 D (tys3 cI cJ cZ) meth none) (_ _ _ : ClassId)  (h_p2 : Nat) (h_p1 : Nat) (h_this : Nat) (q_p2 : Nat → Nat) (q_p1 : Nat → Nat) (q_this : Nat → Nat) (p1_base : Int32) (p1_topLean : Int32) (p1_topSpot : Int32) (z0 : Int32) (z1 : Nat → Int32) (z2 : Nat → Int32) (z3 : Nat → Int32) (z4 : Nat → Int32) (z5 : Nat → Int32) (z6 : Nat → Int32) (k_54 : Int32 → Int32 → Int32 → Int32 → Int32 → Int32 → (Nat → Int32) → (Nat → Int32) → (Nat → Int32) → (Nat → Int32) → (Nat → Int32) → (Nat → Int32) → (Nat → Int32) → (Nat → Int32) → (Nat → Int32) → (Nat → Int32) → (Nat → Int32) → (Nat → Int32) → Int32 → (Option (Int32 × (Nat → Int32) × (Nat → Int32) × (Nat → Int32) × (Nat → Int32) × (Nat → Int32) × (Nat → Int32)))) (hk_54 : ∀ (p2_count : Int32) (p2_near : Int32) (p2_times : Int32) (p2_ties : Int32) (p1_count : Int32) (this_size : Int32) (p2_end : Nat → Int32) (p2_groups : Nat → Int32) (p2_hand : Nat → Int32) (p2_match : Nat → Int32) (p2_minute : Nat → Int32) (p2_partner : Nat → Int32) (p2_reachedFrom : Nat → Int32) (p2_sum : Nat → Int32) (p2_waiting : Nat → Int32) (p1_referee : Nat → Int32) (this_reach : Nat → Int32) (this_rows : Nat → Int32) (x3 : Int32), k_54 p2_count p2_near p2_times p2_ties p1_count this_size p2_end p2_groups p2_hand p2_match p2_minute p2_partner p2_reachedFrom p2_sum p2_waiting p1_referee this_reach this_rows x3 = some (z0, z1, z2, z3, z4, z5, z6) → J p l e rmX3_build s m args below meth c D A 5 (QV D below args s A (w_X3_build cI cJ cZ h_p2 h_p1 h_this q_p2 q_p1 q_this p2_count p2_near p2_times p2_ties p1_count p1_base p1_topLean p1_topSpot z0 p2_end z1 p2_hand p2_match p2_minute z2 z3 p2_sum z4 p1_referee z5 z6)) 0 0 (w_X3_build cI cJ cZ h_p2 h_p1 h_this q_p2 q_p1 q_this p2_count p2_near p2_times p2_ties p1_count p1_base p1_topLean p1_topSpot this_size p2_end p2_groups p2_hand p2_match p2_minute p2_partner p2_reachedFrom p2_sum p2_waiting p1_referee this_reach this_rows) [(0, .ref h_this), (1, .ref h_p1), (2, .ref h_p2), (3, .int x3)] [] 54) (p2_count : Int32) (p2_near : Int32) (p2_times : Int32) (p2_ties : Int32) (p1_count : Int32) (this_size : Int32) (p2_end : Nat → Int32) (p2_groups : Nat → Int32) (p2_hand : Nat → Int32) (p2_match : Nat → Int32) (p2_minute : Nat → Int32) (p2_partner : Nat → Int32) (p2_reachedFrom : Nat → Int32) (p2_sum : Nat → Int32) (p2_waiting : Nat → Int32) (p1_referee : Nat → Int32) (this_reach : Nat → Int32) (this_rows : Nat → Int32) (x3 : Int32) (hT : t_X3_build_54_b  k_54 p2_count p2_near p2_times p2_ties p1_count this_size p2_end p2_groups p2_hand p2_match p2_minute p2_partner p2_reachedFrom p2_sum p2_waiting p1_referee this_reach this_rows x3 = some (z0, z1, z2, z3, z4, z5, z6)) : J p l e rmX3_build s m args below meth c D A 5 (QV D below args s A (w_X3_build cI cJ cZ h_p2 h_p1 h_this q_p2 q_p1 q_this p2_count p2_near p2_times p2_ties p1_count p1_base p1_topLean p1_topSpot z0 p2_end z1 p2_hand p2_match p2_minute z2 z3 p2_sum z4 p1_referee z5 z6)) 0 0 (w_X3_build cI cJ cZ h_p2 h_p1 h_this q_p2 q_p1 q_this p2_count p2_near p2_times p2_ties p1_count p1_base p1_topLean p1_topSpot this_size p2_end p2_groups p2_hand p2_match p2_minute p2_partner p2_reachedFrom p2_sum p2_waiting p1_referee this_reach this_rows) [(0, .ref h_this), (1, .ref h_p1), (2, .ref h_p2), (3, .int x3)] [] 54 := by
  unfold t_X3_build_54_b at hT
  refine J_iload_n X dX3_build_54 3 rfl ?_
  refine J_aload_n X dX3_build_55 0 rfl ?_
  refine J_get (C := RX3) (T := TX3) (N := 3) (ci := 3) (v := .int this_size) X in_X3_build_X3 2 rfl rfl 0 (by decide) m_X3_build_f29 rfl dX3_build_56 ?_
  refine J_icmp_ge (tgt := 147) X dX3_build_59 (by decide) (fun hc12 => ?_) (fun hc12 => ?_)
  · have hT := ift hT hc12
    cases hT
    exact J_vret X dX3_build_147
  · have hT := iff_ hT hc12
    refine J_iload_n X dX3_build_62 3 rfl ?_
    refine J_iconst (v := 1) X dX3_build_63 (by decide) ?_
    refine J_iadd X dX3_build_64 ?_
    refine J_istore (lv' := [(4, .int (x3 + (1 : Int32))), (0, .ref h_this), (1, .ref h_p1), (2, .ref h_p2), (3, .int x3)]) X dX3_build_65 (by decide) rfl ?_
    refine J_lv (lv' := [(0, .ref h_this), (1, .ref h_p1), (2, .ref h_p2), (3, .int x3), (4, .int (x3 + (1 : Int32)))]) [1, 2, 3, 4, 0] rfl ?_
    exact b_X3_build_67 X cI cJ cZ h_p2 h_p1 h_this q_p2 q_p1 q_this p1_base p1_topLean p1_topSpot z0 z1 z2 z3 z4 z5 z6 k_54 hk_54 lfuel p2_count p2_near p2_times p2_ties p1_count this_size p2_end p2_groups p2_hand p2_match p2_minute p2_partner p2_reachedFrom p2_sum p2_waiting p1_referee this_reach this_rows x3 (x3 + (1 : Int32)) hT
set_option maxHeartbeats 4000000 in
set_option maxRecDepth 100000 in
theorem b_X3_build_54 {p : Program} {l : Launch} {e : Env} {s : State} {m : MethodId} {args : Array Value} {below : List Frame} {meth : Method} {c : Code} {D : va_G} {A : Nat → Prop} {cI cJ cZ : ClassId} (X : Cx p m c cX3_build 5 s args wsX3_build RX3 D (tys3 cI cJ cZ) meth none) (_ _ _ : ClassId)  (h_p2 : Nat) (h_p1 : Nat) (h_this : Nat) (q_p2 : Nat → Nat) (q_p1 : Nat → Nat) (q_this : Nat → Nat) (p1_base : Int32) (p1_topLean : Int32) (p1_topSpot : Int32) (z0 : Int32) (z1 : Nat → Int32) (z2 : Nat → Int32) (z3 : Nat → Int32) (z4 : Nat → Int32) (z5 : Nat → Int32) (z6 : Nat → Int32)  : ∀ (n : Nat) (p2_count : Int32) (p2_near : Int32) (p2_times : Int32) (p2_ties : Int32) (p1_count : Int32) (this_size : Int32) (p2_end : Nat → Int32) (p2_groups : Nat → Int32) (p2_hand : Nat → Int32) (p2_match : Nat → Int32) (p2_minute : Nat → Int32) (p2_partner : Nat → Int32) (p2_reachedFrom : Nat → Int32) (p2_sum : Nat → Int32) (p2_waiting : Nat → Int32) (p1_referee : Nat → Int32) (this_reach : Nat → Int32) (this_rows : Nat → Int32) (x3 : Int32) (hT : t_X3_build_54   n p2_count p2_near p2_times p2_ties p1_count this_size p2_end p2_groups p2_hand p2_match p2_minute p2_partner p2_reachedFrom p2_sum p2_waiting p1_referee this_reach this_rows x3 = some (z0, z1, z2, z3, z4, z5, z6)), J p l e rmX3_build s m args below meth c D A 5 (QV D below args s A (w_X3_build cI cJ cZ h_p2 h_p1 h_this q_p2 q_p1 q_this p2_count p2_near p2_times p2_ties p1_count p1_base p1_topLean p1_topSpot z0 p2_end z1 p2_hand p2_match p2_minute z2 z3 p2_sum z4 p1_referee z5 z6)) 0 0 (w_X3_build cI cJ cZ h_p2 h_p1 h_this q_p2 q_p1 q_this p2_count p2_near p2_times p2_ties p1_count p1_base p1_topLean p1_topSpot this_size p2_end p2_groups p2_hand p2_match p2_minute p2_partner p2_reachedFrom p2_sum p2_waiting p1_referee this_reach this_rows) [(0, .ref h_this), (1, .ref h_p1), (2, .ref h_p2), (3, .int x3)] [] 54 := by
  intro n
  induction n with
  | zero => intro p2_count p2_near p2_times p2_ties p1_count this_size p2_end p2_groups p2_hand p2_match p2_minute p2_partner p2_reachedFrom p2_sum p2_waiting p1_referee this_reach this_rows x3 hT; cases hT
  | succ n ih =>
    intro p2_count p2_near p2_times p2_ties p1_count this_size p2_end p2_groups p2_hand p2_match p2_minute p2_partner p2_reachedFrom p2_sum p2_waiting p1_referee this_reach this_rows x3 hT
    exact b_X3_build_54_b X cI cJ cZ h_p2 h_p1 h_this q_p2 q_p1 q_this p1_base p1_topLean p1_topSpot z0 z1 z2 z3 z4 z5 z6  (t_X3_build_54   n) ih p2_count p2_near p2_times p2_ties p1_count this_size p2_end p2_groups p2_hand p2_match p2_minute p2_partner p2_reachedFrom p2_sum p2_waiting p1_referee this_reach this_rows x3 hT
set_option maxHeartbeats 4000000 in
set_option maxRecDepth 100000 in
theorem b_X3_build_52 {p : Program} {l : Launch} {e : Env} {s : State} {m : MethodId} {args : Array Value} {below : List Frame} {meth : Method} {c : Code} {D : va_G} {A : Nat → Prop} {cI cJ cZ : ClassId} (X : Cx p m c cX3_build 5 s args wsX3_build RX3 D (tys3 cI cJ cZ) meth none) (_ _ _ : ClassId)  (h_p2 : Nat) (h_p1 : Nat) (h_this : Nat) (q_p2 : Nat → Nat) (q_p1 : Nat → Nat) (q_this : Nat → Nat) (p1_base : Int32) (p1_topLean : Int32) (p1_topSpot : Int32) (z0 : Int32) (z1 : Nat → Int32) (z2 : Nat → Int32) (z3 : Nat → Int32) (z4 : Nat → Int32) (z5 : Nat → Int32) (z6 : Nat → Int32)  (p2_count : Int32) (p2_near : Int32) (p2_times : Int32) (p2_ties : Int32) (p1_count : Int32) (this_size : Int32) (p2_end : Nat → Int32) (p2_groups : Nat → Int32) (p2_hand : Nat → Int32) (p2_match : Nat → Int32) (p2_minute : Nat → Int32) (p2_partner : Nat → Int32) (p2_reachedFrom : Nat → Int32) (p2_sum : Nat → Int32) (p2_waiting : Nat → Int32) (p1_referee : Nat → Int32) (this_reach : Nat → Int32) (this_rows : Nat → Int32)  (hT : t_X3_build_52   p2_count p2_near p2_times p2_ties p1_count this_size p2_end p2_groups p2_hand p2_match p2_minute p2_partner p2_reachedFrom p2_sum p2_waiting p1_referee this_reach this_rows  = some (z0, z1, z2, z3, z4, z5, z6)) : J p l e rmX3_build s m args below meth c D A 5 (QV D below args s A (w_X3_build cI cJ cZ h_p2 h_p1 h_this q_p2 q_p1 q_this p2_count p2_near p2_times p2_ties p1_count p1_base p1_topLean p1_topSpot z0 p2_end z1 p2_hand p2_match p2_minute z2 z3 p2_sum z4 p1_referee z5 z6)) 0 0 (w_X3_build cI cJ cZ h_p2 h_p1 h_this q_p2 q_p1 q_this p2_count p2_near p2_times p2_ties p1_count p1_base p1_topLean p1_topSpot this_size p2_end p2_groups p2_hand p2_match p2_minute p2_partner p2_reachedFrom p2_sum p2_waiting p1_referee this_reach this_rows) [(0, .ref h_this), (1, .ref h_p1), (2, .ref h_p2)] [] 52 := by
  unfold t_X3_build_52 at hT
  refine J_iconst (v := 0) X dX3_build_52 (by decide) ?_
  refine J_istore_n (lv' := [(3, .int (0 : Int32)), (0, .ref h_this), (1, .ref h_p1), (2, .ref h_p2)]) X dX3_build_53 (by decide) rfl ?_
  refine J_lv (lv' := [(0, .ref h_this), (1, .ref h_p1), (2, .ref h_p2), (3, .int (0 : Int32))]) [1, 2, 3, 0] rfl ?_
  exact b_X3_build_54 X cI cJ cZ h_p2 h_p1 h_this q_p2 q_p1 q_this p1_base p1_topLean p1_topSpot z0 z1 z2 z3 z4 z5 z6  lfuel p2_count p2_near p2_times p2_ties p1_count this_size p2_end p2_groups p2_hand p2_match p2_minute p2_partner p2_reachedFrom p2_sum p2_waiting p1_referee this_reach this_rows (0 : Int32) hT
set_option maxHeartbeats 4000000 in
set_option maxRecDepth 100000 in
theorem b_X3_build_14_b {p : Program} {l : Launch} {e : Env} {s : State} {m : MethodId} {args : Array Value} {below : List Frame} {meth : Method} {c : Code} {D : va_G} {A : Nat → Prop} {cI cJ cZ : ClassId} (X : Cx p m c cX3_build 5 s args wsX3_build RX3 D (tys3 cI cJ cZ) meth none) (_ _ _ : ClassId)  (h_p2 : Nat) (h_p1 : Nat) (h_this : Nat) (q_p2 : Nat → Nat) (q_p1 : Nat → Nat) (q_this : Nat → Nat) (p1_base : Int32) (p1_topLean : Int32) (p1_topSpot : Int32) (z0 : Int32) (z1 : Nat → Int32) (z2 : Nat → Int32) (z3 : Nat → Int32) (z4 : Nat → Int32) (z5 : Nat → Int32) (z6 : Nat → Int32) (k_14 : Int32 → Int32 → Int32 → Int32 → Int32 → Int32 → (Nat → Int32) → (Nat → Int32) → (Nat → Int32) → (Nat → Int32) → (Nat → Int32) → (Nat → Int32) → (Nat → Int32) → (Nat → Int32) → (Nat → Int32) → (Nat → Int32) → (Nat → Int32) → (Nat → Int32) → Int32 → (Option (Int32 × (Nat → Int32) × (Nat → Int32) × (Nat → Int32) × (Nat → Int32) × (Nat → Int32) × (Nat → Int32)))) (hk_14 : ∀ (p2_count : Int32) (p2_near : Int32) (p2_times : Int32) (p2_ties : Int32) (p1_count : Int32) (this_size : Int32) (p2_end : Nat → Int32) (p2_groups : Nat → Int32) (p2_hand : Nat → Int32) (p2_match : Nat → Int32) (p2_minute : Nat → Int32) (p2_partner : Nat → Int32) (p2_reachedFrom : Nat → Int32) (p2_sum : Nat → Int32) (p2_waiting : Nat → Int32) (p1_referee : Nat → Int32) (this_reach : Nat → Int32) (this_rows : Nat → Int32) (x3 : Int32), k_14 p2_count p2_near p2_times p2_ties p1_count this_size p2_end p2_groups p2_hand p2_match p2_minute p2_partner p2_reachedFrom p2_sum p2_waiting p1_referee this_reach this_rows x3 = some (z0, z1, z2, z3, z4, z5, z6) → J p l e rmX3_build s m args below meth c D A 5 (QV D below args s A (w_X3_build cI cJ cZ h_p2 h_p1 h_this q_p2 q_p1 q_this p2_count p2_near p2_times p2_ties p1_count p1_base p1_topLean p1_topSpot z0 p2_end z1 p2_hand p2_match p2_minute z2 z3 p2_sum z4 p1_referee z5 z6)) 0 0 (w_X3_build cI cJ cZ h_p2 h_p1 h_this q_p2 q_p1 q_this p2_count p2_near p2_times p2_ties p1_count p1_base p1_topLean p1_topSpot this_size p2_end p2_groups p2_hand p2_match p2_minute p2_partner p2_reachedFrom p2_sum p2_waiting p1_referee this_reach this_rows) [(0, .ref h_this), (1, .ref h_p1), (2, .ref h_p2), (3, .int x3)] [] 14) (p2_count : Int32) (p2_near : Int32) (p2_times : Int32) (p2_ties : Int32) (p1_count : Int32) (this_size : Int32) (p2_end : Nat → Int32) (p2_groups : Nat → Int32) (p2_hand : Nat → Int32) (p2_match : Nat → Int32) (p2_minute : Nat → Int32) (p2_partner : Nat → Int32) (p2_reachedFrom : Nat → Int32) (p2_sum : Nat → Int32) (p2_waiting : Nat → Int32) (p1_referee : Nat → Int32) (this_reach : Nat → Int32) (this_rows : Nat → Int32) (x3 : Int32) (hT : t_X3_build_14_b  k_14 p2_count p2_near p2_times p2_ties p1_count this_size p2_end p2_groups p2_hand p2_match p2_minute p2_partner p2_reachedFrom p2_sum p2_waiting p1_referee this_reach this_rows x3 = some (z0, z1, z2, z3, z4, z5, z6)) : J p l e rmX3_build s m args below meth c D A 5 (QV D below args s A (w_X3_build cI cJ cZ h_p2 h_p1 h_this q_p2 q_p1 q_this p2_count p2_near p2_times p2_ties p1_count p1_base p1_topLean p1_topSpot z0 p2_end z1 p2_hand p2_match p2_minute z2 z3 p2_sum z4 p1_referee z5 z6)) 0 0 (w_X3_build cI cJ cZ h_p2 h_p1 h_this q_p2 q_p1 q_this p2_count p2_near p2_times p2_ties p1_count p1_base p1_topLean p1_topSpot this_size p2_end p2_groups p2_hand p2_match p2_minute p2_partner p2_reachedFrom p2_sum p2_waiting p1_referee this_reach this_rows) [(0, .ref h_this), (1, .ref h_p1), (2, .ref h_p2), (3, .int x3)] [] 14 := by
  unfold t_X3_build_14_b at hT
  refine J_iload_n X dX3_build_14 3 rfl ?_
  refine J_aload_n X dX3_build_15 0 rfl ?_
  refine J_get (C := RX3) (T := TX3) (N := 3) (ci := 3) (v := .int this_size) X in_X3_build_X3 2 rfl rfl 0 (by decide) m_X3_build_f29 rfl dX3_build_16 ?_
  refine J_icmp_ge (tgt := 52) X dX3_build_19 (by decide) (fun hc13 => ?_) (fun hc13 => ?_)
  · have hT := ift hT hc13
    refine J_lv (lv' := [(0, .ref h_this), (1, .ref h_p1), (2, .ref h_p2)]) [0, 1, 2] rfl ?_
    exact b_X3_build_52 X cI cJ cZ h_p2 h_p1 h_this q_p2 q_p1 q_this p1_base p1_topLean p1_topSpot z0 z1 z2 z3 z4 z5 z6  p2_count p2_near p2_times p2_ties p1_count this_size p2_end p2_groups p2_hand p2_match p2_minute p2_partner p2_reachedFrom p2_sum p2_waiting p1_referee this_reach this_rows hT
  · have hT := iff_ hT hc13
    refine J_aload_n X dX3_build_22 0 rfl ?_
    refine J_get (C := RX3) (T := TX3) (N := 3) (ci := 3) (v := .ref (q_this 1)) X in_X3_build_X3 2 rfl rfl 1 (by decide) m_X3_build_f9 rfl dX3_build_23 ?_
    refine J_iload_n X dX3_build_26 3 rfl ?_
    refine J_iconst (v := 1) X dX3_build_27 (by decide) ?_
    refine J_iload_n X dX3_build_28 3 rfl ?_
    refine J_ishl X dX3_build_29 ?_
    obtain ⟨hk14, hT⟩ := ckn_e hT
    refine J_iast (ws' := (w_X3_build cI cJ cZ h_p2 h_p1 h_this q_p2 q_p1 q_this p2_count p2_near p2_times p2_ties p1_count p1_base p1_topLean p1_topSpot this_size p2_end p2_groups p2_hand p2_match p2_minute p2_partner p2_reachedFrom p2_sum p2_waiting p1_referee this_reach (upd this_rows x3.toNatClampNeg ((1 : Int32) <<< (x3 &&& 31))))) X 14 rfl rfl hk14 rfl dX3_build_30 ?_
    refine J_aload_n X dX3_build_31 0 rfl ?_
    refine J_get (C := RX3) (T := TX3) (N := 3) (ci := 3) (v := .ref (q_this 2)) X in_X3_build_X3 2 rfl rfl 2 (by decide) m_X3_build_f15 rfl dX3_build_32 ?_
    refine J_iload_n X dX3_build_35 3 rfl ?_
    refine J_aload_n X dX3_build_36 2 rfl ?_
    refine J_iload_n X dX3_build_37 3 rfl ?_
    obtain ⟨v15, hq15, hT⟩ := bd1_e hT
    refine J_ci (wc := (w_X0_handsOn cI cJ cZ h_p2 q_p2 p2_count p2_near p2_times p2_ties p2_hand p2_match)) (wc' := (w_X0_handsOn cI cJ cZ h_p2 q_p2 p2_count p2_near p2_times p2_ties p2_hand p2_match)) (ws' := (w_X3_build cI cJ cZ h_p2 h_p1 h_this q_p2 q_p1 q_this p2_count p2_near p2_times p2_ties p1_count p1_base p1_topLean p1_topSpot this_size p2_end p2_groups p2_hand p2_match p2_minute p2_partner p2_reachedFrom p2_sum p2_waiting p1_referee this_reach (upd this_rows x3.toNatClampNeg ((1 : Int32) <<< (x3 &&& 31))))) (idxs [true, false, false, false, false, true, true, false, false, false, false, false, false, false, false] 0) (idxs [false, true, true, true, true, false, false, true, true, true, true, true, true, true, true] 0) 15 rfl rfl rfl (pick_C _ rfl rfl) rfl (pick_C _ rfl rfl) rfl (pick_R _ rfl rfl rfl) (run_V (As := [.int x3]) (rest := [.int x3, .ref (q_this 2)]) X (c_X0_handsOn l D cI cJ cZ h_p2 q_p2 p2_count p2_near p2_times p2_ties p2_hand p2_match x3 v15 hq15) (cw_X3_build_X0_handsOn_32 X.1.2.2.2.2) 0 rfl rfl rfl rfl (Nat.le_of_ble_eq_true rfl) dX3_build_38 ⟨Nat.zero_le _, Nat.zero_le _⟩) ?_
    refine J_aload_n X dX3_build_41 2 rfl ?_
    obtain ⟨v16, hq16, hT⟩ := bd1_e hT
    refine J_ci (wc := (w_X3_reachOf cI cJ cZ h_p2 q_p2 p2_count p2_near p2_times p2_ties p2_groups)) (wc' := (w_X3_reachOf cI cJ cZ h_p2 q_p2 p2_count p2_near p2_times p2_ties p2_groups)) (ws' := (w_X3_build cI cJ cZ h_p2 h_p1 h_this q_p2 q_p1 q_this p2_count p2_near p2_times p2_ties p1_count p1_base p1_topLean p1_topSpot this_size p2_end p2_groups p2_hand p2_match p2_minute p2_partner p2_reachedFrom p2_sum p2_waiting p1_referee this_reach (upd this_rows x3.toNatClampNeg ((1 : Int32) <<< (x3 &&& 31))))) (idxs [true, false, false, false, true, false, false, false, false, false, false, false, false, false, false] 0) (idxs [false, true, true, true, false, true, true, true, true, true, true, true, true, true, true] 0) 15 rfl rfl rfl (pick_C _ rfl rfl) rfl (pick_C _ rfl rfl) rfl (pick_R _ rfl rfl rfl) (run_S (As := [.int v15, .ref h_p2]) (rest := [.int x3, .ref (q_this 2)]) X (c_X3_reachOf l D cI cJ cZ h_p2 q_p2 p2_count p2_near p2_times p2_ties p2_groups v15 v16 hq16) (cw_X3_build_X3_reachOf_36 X.1.2.2.2.2) rfl rfl (Nat.le_of_ble_eq_true rfl) dX3_build_42 ⟨Nat.zero_le _, Nat.zero_le _⟩) ?_
    obtain ⟨hk17, hT⟩ := ckn_e hT
    refine J_iast (ws' := (w_X3_build cI cJ cZ h_p2 h_p1 h_this q_p2 q_p1 q_this p2_count p2_near p2_times p2_ties p1_count p1_base p1_topLean p1_topSpot this_size p2_end p2_groups p2_hand p2_match p2_minute p2_partner p2_reachedFrom p2_sum p2_waiting p1_referee (upd this_reach x3.toNatClampNeg v16) (upd this_rows x3.toNatClampNeg ((1 : Int32) <<< (x3 &&& 31))))) X 13 rfl rfl hk17 rfl dX3_build_45 ?_
    refine J_iinc (lv' := [(3, .int (x3 + (1 : Int32))), (0, .ref h_this), (1, .ref h_p1), (2, .ref h_p2)]) (j := 3) X dX3_build_46 rfl rfl (by decide) rfl ?_
    refine J_goto (tgt := 14) X dX3_build_49 (by decide) ?_
    refine J_lv (lv' := [(0, .ref h_this), (1, .ref h_p1), (2, .ref h_p2), (3, .int (x3 + (1 : Int32)))]) [1, 2, 3, 0] rfl ?_
    exact hk_14 p2_count p2_near p2_times p2_ties p1_count this_size p2_end p2_groups p2_hand p2_match p2_minute p2_partner p2_reachedFrom p2_sum p2_waiting p1_referee (upd this_reach x3.toNatClampNeg v16) (upd this_rows x3.toNatClampNeg ((1 : Int32) <<< (x3 &&& 31))) (x3 + (1 : Int32)) hT
set_option maxHeartbeats 4000000 in
set_option maxRecDepth 100000 in
theorem b_X3_build_14 {p : Program} {l : Launch} {e : Env} {s : State} {m : MethodId} {args : Array Value} {below : List Frame} {meth : Method} {c : Code} {D : va_G} {A : Nat → Prop} {cI cJ cZ : ClassId} (X : Cx p m c cX3_build 5 s args wsX3_build RX3 D (tys3 cI cJ cZ) meth none) (_ _ _ : ClassId)  (h_p2 : Nat) (h_p1 : Nat) (h_this : Nat) (q_p2 : Nat → Nat) (q_p1 : Nat → Nat) (q_this : Nat → Nat) (p1_base : Int32) (p1_topLean : Int32) (p1_topSpot : Int32) (z0 : Int32) (z1 : Nat → Int32) (z2 : Nat → Int32) (z3 : Nat → Int32) (z4 : Nat → Int32) (z5 : Nat → Int32) (z6 : Nat → Int32)  : ∀ (n : Nat) (p2_count : Int32) (p2_near : Int32) (p2_times : Int32) (p2_ties : Int32) (p1_count : Int32) (this_size : Int32) (p2_end : Nat → Int32) (p2_groups : Nat → Int32) (p2_hand : Nat → Int32) (p2_match : Nat → Int32) (p2_minute : Nat → Int32) (p2_partner : Nat → Int32) (p2_reachedFrom : Nat → Int32) (p2_sum : Nat → Int32) (p2_waiting : Nat → Int32) (p1_referee : Nat → Int32) (this_reach : Nat → Int32) (this_rows : Nat → Int32) (x3 : Int32) (hT : t_X3_build_14   n p2_count p2_near p2_times p2_ties p1_count this_size p2_end p2_groups p2_hand p2_match p2_minute p2_partner p2_reachedFrom p2_sum p2_waiting p1_referee this_reach this_rows x3 = some (z0, z1, z2, z3, z4, z5, z6)), J p l e rmX3_build s m args below meth c D A 5 (QV D below args s A (w_X3_build cI cJ cZ h_p2 h_p1 h_this q_p2 q_p1 q_this p2_count p2_near p2_times p2_ties p1_count p1_base p1_topLean p1_topSpot z0 p2_end z1 p2_hand p2_match p2_minute z2 z3 p2_sum z4 p1_referee z5 z6)) 0 0 (w_X3_build cI cJ cZ h_p2 h_p1 h_this q_p2 q_p1 q_this p2_count p2_near p2_times p2_ties p1_count p1_base p1_topLean p1_topSpot this_size p2_end p2_groups p2_hand p2_match p2_minute p2_partner p2_reachedFrom p2_sum p2_waiting p1_referee this_reach this_rows) [(0, .ref h_this), (1, .ref h_p1), (2, .ref h_p2), (3, .int x3)] [] 14 := by
  intro n
  induction n with
  | zero => intro p2_count p2_near p2_times p2_ties p1_count this_size p2_end p2_groups p2_hand p2_match p2_minute p2_partner p2_reachedFrom p2_sum p2_waiting p1_referee this_reach this_rows x3 hT; cases hT
  | succ n ih =>
    intro p2_count p2_near p2_times p2_ties p1_count this_size p2_end p2_groups p2_hand p2_match p2_minute p2_partner p2_reachedFrom p2_sum p2_waiting p1_referee this_reach this_rows x3 hT
    exact b_X3_build_14_b X cI cJ cZ h_p2 h_p1 h_this q_p2 q_p1 q_this p1_base p1_topLean p1_topSpot z0 z1 z2 z3 z4 z5 z6  (t_X3_build_14   n) ih p2_count p2_near p2_times p2_ties p1_count this_size p2_end p2_groups p2_hand p2_match p2_minute p2_partner p2_reachedFrom p2_sum p2_waiting p1_referee this_reach this_rows x3 hT
set_option maxHeartbeats 4000000 in
set_option maxRecDepth 100000 in
theorem c_X3_build (l : Launch) (D : va_G) (cI cJ cZ : ClassId) (h_p2 : Nat) (h_p1 : Nat) (h_this : Nat) (q_p2 : Nat → Nat) (q_p1 : Nat → Nat) (q_this : Nat → Nat) (p2_count : Int32) (p2_near : Int32) (p2_times : Int32) (p2_ties : Int32) (p1_count : Int32) (p1_base : Int32) (p1_topLean : Int32) (p1_topSpot : Int32) (this_size : Int32) (p2_end : Nat → Int32) (p2_groups : Nat → Int32) (p2_hand : Nat → Int32) (p2_match : Nat → Int32) (p2_minute : Nat → Int32) (p2_partner : Nat → Int32) (p2_reachedFrom : Nat → Int32) (p2_sum : Nat → Int32) (p2_waiting : Nat → Int32) (p1_referee : Nat → Int32) (this_reach : Nat → Int32) (this_rows : Nat → Int32)  (z0 : Int32) (z1 : Nat → Int32) (z2 : Nat → Int32) (z3 : Nat → Int32) (z4 : Nat → Int32) (z5 : Nat → Int32) (z6 : Nat → Int32) (hT : t_X3_build  p2_count p2_near p2_times p2_ties p1_count this_size p2_end p2_groups p2_hand p2_match p2_minute p2_partner p2_reachedFrom p2_sum p2_waiting p1_referee this_reach this_rows  = some (z0, z1, z2, z3, z4, z5, z6)) : Cv l yX3_build wsX3_build rmX3_build D (tys3 cI cJ cZ) [.ref h_this, .ref h_p1, .ref h_p2] (w_X3_build cI cJ cZ h_p2 h_p1 h_this q_p2 q_p1 q_this p2_count p2_near p2_times p2_ties p1_count p1_base p1_topLean p1_topSpot this_size p2_end p2_groups p2_hand p2_match p2_minute p2_partner p2_reachedFrom p2_sum p2_waiting p1_referee this_reach this_rows) (w_X3_build cI cJ cZ h_p2 h_p1 h_this q_p2 q_p1 q_this p2_count p2_near p2_times p2_ties p1_count p1_base p1_topLean p1_topSpot z0 p2_end z1 p2_hand p2_match p2_minute z2 z3 p2_sum z4 p1_referee z5 z6) := by
  refine Cv.ofJ (cc := cX3_build) (nL := 5) (rt := none) (own := RX3) (by decide) rfl rfl (Nat.le_of_ble_eq_true rfl) ?_
  intro p e s m below meth c A X
  unfold t_X3_build at hT
  refine J_lv (lv' := [(0, .ref h_this), (1, .ref h_p1), (2, .ref h_p2)]) [0, 1, 2] rfl ?_
  refine J_aload_n X dX3_build_0 2 rfl ?_
  obtain ⟨u18_0, u18_1, u18_2, u18_3, hq18, hT⟩ := bd4_e hT
  refine J_cv (wc := (w_X0_groupHands cI cJ cZ h_p2 q_p2 p2_count p2_near p2_times p2_ties p2_end p2_groups p2_hand p2_match p2_minute p2_partner p2_reachedFrom p2_sum p2_waiting)) (wc' := (w_X0_groupHands cI cJ cZ h_p2 q_p2 p2_count p2_near p2_times p2_ties p2_end u18_0 p2_hand p2_match p2_minute u18_1 u18_2 p2_sum u18_3)) (ws' := (w_X3_build cI cJ cZ h_p2 h_p1 h_this q_p2 q_p1 q_this p2_count p2_near p2_times p2_ties p1_count p1_base p1_topLean p1_topSpot this_size p2_end u18_0 p2_hand p2_match p2_minute u18_1 u18_2 p2_sum u18_3 p1_referee this_reach this_rows)) (idxs [true, false, false, true, true, true, true, true, true, true, true, true, false, false, false] 0) (idxs [false, true, true, false, false, false, false, false, false, false, false, false, true, true, true] 0) 15 rfl rfl rfl (pick_C _ rfl rfl) rfl (pick_C _ rfl rfl) rfl (pick_R _ rfl rfl rfl) (run_V (As := []) (rest := []) X (c_X0_groupHands l D cI cJ cZ h_p2 q_p2 p2_count p2_near p2_times p2_ties p2_end p2_groups p2_hand p2_match p2_minute p2_partner p2_reachedFrom p2_sum p2_waiting  u18_0 u18_1 u18_2 u18_3 hq18) (cw_X3_build_X0_groupHands_18 X.1.2.2.2.2) 0 rfl rfl rfl rfl (Nat.le_of_ble_eq_true rfl) dX3_build_1 ⟨Nat.zero_le _, Nat.zero_le _⟩) ?_
  refine J_aload_n X dX3_build_4 0 rfl ?_
  refine J_aload_n X dX3_build_5 1 rfl ?_
  refine J_getN (host := "SoldMatches") (C := RX2) (T := TX2) (N := 13) (ci := 2) (v := .int p1_count) X in_X3_build_X2 1 rfl rfl 0 (by decide) (List.mem_of_getElem? (i := 0) rfl) rfl dX3_build_6 ?_
  refine J_put (host := "") (C := RX3) (T := TX3) (N := 3) (ci := 3) (ws' := (w_X3_build cI cJ cZ h_p2 h_p1 h_this q_p2 q_p1 q_this p2_count p2_near p2_times p2_ties p1_count p1_base p1_topLean p1_topSpot p1_count p2_end u18_0 p2_hand p2_match p2_minute u18_1 u18_2 p2_sum u18_3 p1_referee this_reach this_rows)) X in_X3_build_X3 2 rfl rfl 0 (by decide) tyX3 tyX3_ok nmX3 m_X3_build_f29 rfl rfl rfl (Nat.le_of_ble_eq_true rfl) rfl dX3_build_9 ?_
  refine J_iconst (v := 0) X dX3_build_12 (by decide) ?_
  refine J_istore_n (lv' := [(3, .int (0 : Int32)), (0, .ref h_this), (1, .ref h_p1), (2, .ref h_p2)]) X dX3_build_13 (by decide) rfl ?_
  refine J_lv (lv' := [(0, .ref h_this), (1, .ref h_p1), (2, .ref h_p2), (3, .int (0 : Int32))]) [1, 2, 3, 0] rfl ?_
  exact b_X3_build_14 X cI cJ cZ h_p2 h_p1 h_this q_p2 q_p1 q_this p1_base p1_topLean p1_topSpot z0 z1 z2 z3 z4 z5 z6  lfuel p2_count p2_near p2_times p2_ties p1_count p1_count p2_end u18_0 p2_hand p2_match p2_minute u18_1 u18_2 p2_sum u18_3 p1_referee this_reach this_rows (0 : Int32) hT
-- ===== SoldMatches$Links.areLinked(II)Z
abbrev rmX3_areLinked : Room := { frames := 0, cells := 0, slots := 0, locals := 0 }
def w_X3_areLinked (cI cJ cZ : ClassId) (h_this : Nat) (q_this : Nat → Nat) (this_size : Int32) (this_rows : Nat → Int32) : va_W := [(h_this, .inr (3, oFX3 q_this this_size)), ((q_this 1), .inl (cI, 12, .inl this_rows))]
theorem m_X3_areLinked_f9 : Cond.fieldLink RX3 9 "SoldMatches$Links" "rows" "[I" ∈ wsX3_areLinked := List.mem_of_getElem? (i := 1) rfl
theorem in_X3_areLinked_X3 : ∀ w ∈ wsX30, w ∈ wsX3_areLinked := fun w h => List.mem_cons_of_mem _ (List.mem_append_right _ h)
def t_X3_areLinked_19   (this_rows : Nat → Int32) (s0 : Int32) : Option (Int32) := ckn (¬ (s0 = 0 ∨ s0 = 1)) (some (s0))
def t_X3_areLinked  (this_rows : Nat → Int32) (x1 : Int32) (x2 : Int32) : Option (Int32) := ckn (x1 < 0 ∨ 12 ≤ x1.toNatClampNeg) (if (((this_rows x1.toNatClampNeg) >>> (x2 &&& 31)) &&& (1 : Int32)) = (1 : Int32) then (t_X3_areLinked_19   this_rows (1 : Int32)) else (t_X3_areLinked_19   this_rows (0 : Int32)))
set_option maxHeartbeats 4000000 in
set_option maxRecDepth 100000 in
theorem b_X3_areLinked_19 {p : Program} {l : Launch} {e : Env} {s : State} {m : MethodId} {args : Array Value} {below : List Frame} {meth : Method} {c : Code} {D : va_G} {A : Nat → Prop} {cI cJ cZ : ClassId} (X : Cx p m c cX3_areLinked 3 s args wsX3_areLinked RX3 D (tys3 cI cJ cZ) meth (some .boolean)) (_ _ _ : ClassId)  (h_this : Nat) (q_this : Nat → Nat) (this_size : Int32) (r : Int32)  (this_rows : Nat → Int32) (s0 : Int32) (hT : t_X3_areLinked_19   this_rows s0 = some r) : J p l e rmX3_areLinked s m args below meth c D A 3 (QI D below args s A r (w_X3_areLinked cI cJ cZ h_this q_this this_size this_rows)) 0 0 (w_X3_areLinked cI cJ cZ h_this q_this this_size this_rows) [(0, .ref h_this)] [.int s0] 19 := by
  unfold t_X3_areLinked_19 at hT
  obtain ⟨hk1, hT⟩ := ckn_e hT
  cases hT
  exact J_zret X (Decidable.not_not.mp hk1) dX3_areLinked_19
set_option maxHeartbeats 4000000 in
set_option maxRecDepth 100000 in
theorem c_X3_areLinked (l : Launch) (D : va_G) (cI cJ cZ : ClassId) (h_this : Nat) (q_this : Nat → Nat) (this_size : Int32) (this_rows : Nat → Int32) (x1 : Int32) (x2 : Int32) (r : Int32) (hT : t_X3_areLinked  this_rows x1 x2 = some r) : Ci l yX3_areLinked wsX3_areLinked rmX3_areLinked D (tys3 cI cJ cZ) [.ref h_this, .int x1, .int x2] (w_X3_areLinked cI cJ cZ h_this q_this this_size this_rows) r (w_X3_areLinked cI cJ cZ h_this q_this this_size this_rows) := by
  refine Ci.ofJ (cc := cX3_areLinked) (nL := 3) (rt := (some .boolean)) (own := RX3) (by decide) rfl rfl (Nat.le_of_ble_eq_true rfl) ?_
  intro p e s m below meth c A X
  unfold t_X3_areLinked at hT
  refine J_lv (lv' := [(0, .ref h_this), (1, .int x1), (2, .int x2)]) [0, 1, 2] rfl ?_
  refine J_aload_n X dX3_areLinked_0 0 rfl ?_
  refine J_get (C := RX3) (T := TX3) (N := 3) (ci := 3) (v := .ref (q_this 1)) X in_X3_areLinked_X3 0 rfl rfl 1 (by decide) m_X3_areLinked_f9 rfl dX3_areLinked_1 ?_
  refine J_iload_n X dX3_areLinked_4 1 rfl ?_
  obtain ⟨hk2, hT⟩ := ckn_e hT
  refine J_iald X 1 rfl rfl hk2 dX3_areLinked_5 ?_
  refine J_iload_n X dX3_areLinked_6 2 rfl ?_
  refine J_ishr X dX3_areLinked_7 ?_
  refine J_iconst (v := 1) X dX3_areLinked_8 (by decide) ?_
  refine J_iand X dX3_areLinked_9 ?_
  refine J_iconst (v := 1) X dX3_areLinked_10 (by decide) ?_
  refine J_icmp_ne (tgt := 18) X dX3_areLinked_11 (by decide) (fun hc3 => ?_) (fun hc3 => ?_)
  · have hT := iff_ hT hc3
    refine J_iconst (v := 0) X dX3_areLinked_18 (by decide) ?_
    refine J_lv (lv' := [(0, .ref h_this)]) [0] rfl ?_
    exact b_X3_areLinked_19 X cI cJ cZ h_this q_this this_size r  this_rows (0 : Int32) hT
  · have hT := ift hT hc3
    refine J_iconst (v := 1) X dX3_areLinked_14 (by decide) ?_
    refine J_goto (tgt := 19) X dX3_areLinked_15 (by decide) ?_
    refine J_lv (lv' := [(0, .ref h_this)]) [0] rfl ?_
    exact b_X3_areLinked_19 X cI cJ cZ h_this q_this this_size r  this_rows (1 : Int32) hT
-- ===== SoldMatches$Links.cut(II)V
abbrev rmX3_cut : Room := { frames := 0, cells := 0, slots := 0, locals := 0 }
def w_X3_cut (cI cJ cZ : ClassId) (h_this : Nat) (q_this : Nat → Nat) (this_size : Int32) (this_rows : Nat → Int32) : va_W := [(h_this, .inr (3, oFX3 q_this this_size)), ((q_this 1), .inl (cI, 12, .inl this_rows))]
theorem m_X3_cut_f9 : Cond.fieldLink RX3 9 "SoldMatches$Links" "rows" "[I" ∈ wsX3_cut := List.mem_of_getElem? (i := 1) rfl
theorem in_X3_cut_X3 : ∀ w ∈ wsX30, w ∈ wsX3_cut := fun w h => List.mem_cons_of_mem _ (List.mem_append_right _ h)
def t_X3_cut  (this_rows : Nat → Int32) (x1 : Int32) (x2 : Int32) : Option ((Nat → Int32)) := ckn (x1 < 0 ∨ 12 ≤ x1.toNatClampNeg) (ckn (x1 < 0 ∨ 12 ≤ x1.toNatClampNeg) (ckn (x2 < 0 ∨ 12 ≤ x2.toNatClampNeg) (ckn (x2 < 0 ∨ 12 ≤ x2.toNatClampNeg) (some (upd (upd this_rows x1.toNatClampNeg ((this_rows x1.toNatClampNeg) &&& (((1 : Int32) <<< (x2 &&& 31)) ^^^ (-1 : Int32)))) x2.toNatClampNeg (((upd this_rows x1.toNatClampNeg ((this_rows x1.toNatClampNeg) &&& (((1 : Int32) <<< (x2 &&& 31)) ^^^ (-1 : Int32)))) x2.toNatClampNeg) &&& (((1 : Int32) <<< (x1 &&& 31)) ^^^ (-1 : Int32))))))))
set_option maxHeartbeats 4000000 in
set_option maxRecDepth 100000 in
theorem c_X3_cut (l : Launch) (D : va_G) (cI cJ cZ : ClassId) (h_this : Nat) (q_this : Nat → Nat) (this_size : Int32) (this_rows : Nat → Int32) (x1 : Int32) (x2 : Int32) (z0 : Nat → Int32) (hT : t_X3_cut  this_rows x1 x2 = some z0) : Cv l yX3_cut wsX3_cut rmX3_cut D (tys3 cI cJ cZ) [.ref h_this, .int x1, .int x2] (w_X3_cut cI cJ cZ h_this q_this this_size this_rows) (w_X3_cut cI cJ cZ h_this q_this this_size z0) := by
  refine Cv.ofJ (cc := cX3_cut) (nL := 3) (rt := none) (own := RX3) (by decide) rfl rfl (Nat.le_of_ble_eq_true rfl) ?_
  intro p e s m below meth c A X
  unfold t_X3_cut at hT
  refine J_lv (lv' := [(0, .ref h_this), (1, .int x1), (2, .int x2)]) [0, 1, 2] rfl ?_
  refine J_aload_n X dX3_cut_0 0 rfl ?_
  refine J_get (C := RX3) (T := TX3) (N := 3) (ci := 3) (v := .ref (q_this 1)) X in_X3_cut_X3 0 rfl rfl 1 (by decide) m_X3_cut_f9 rfl dX3_cut_1 ?_
  refine J_iload_n X dX3_cut_4 1 rfl ?_
  refine J_dup2 X dX3_cut_5 rfl rfl ?_
  obtain ⟨hk1, hT⟩ := ckn_e hT
  refine J_iald X 1 rfl rfl hk1 dX3_cut_6 ?_
  refine J_iconst (v := 1) X dX3_cut_7 (by decide) ?_
  refine J_iload_n X dX3_cut_8 2 rfl ?_
  refine J_ishl X dX3_cut_9 ?_
  refine J_iconst (v := -1) X dX3_cut_10 (by decide) ?_
  refine J_ixor X dX3_cut_11 ?_
  refine J_iand X dX3_cut_12 ?_
  obtain ⟨hk2, hT⟩ := ckn_e hT
  refine J_iast (ws' := (w_X3_cut cI cJ cZ h_this q_this this_size (upd this_rows x1.toNatClampNeg ((this_rows x1.toNatClampNeg) &&& (((1 : Int32) <<< (x2 &&& 31)) ^^^ (-1 : Int32)))))) X 1 rfl rfl hk2 rfl dX3_cut_13 ?_
  refine J_aload_n X dX3_cut_14 0 rfl ?_
  refine J_get (C := RX3) (T := TX3) (N := 3) (ci := 3) (v := .ref (q_this 1)) X in_X3_cut_X3 0 rfl rfl 1 (by decide) m_X3_cut_f9 rfl dX3_cut_15 ?_
  refine J_iload_n X dX3_cut_18 2 rfl ?_
  refine J_dup2 X dX3_cut_19 rfl rfl ?_
  obtain ⟨hk3, hT⟩ := ckn_e hT
  refine J_iald X 1 rfl rfl hk3 dX3_cut_20 ?_
  refine J_iconst (v := 1) X dX3_cut_21 (by decide) ?_
  refine J_iload_n X dX3_cut_22 1 rfl ?_
  refine J_ishl X dX3_cut_23 ?_
  refine J_iconst (v := -1) X dX3_cut_24 (by decide) ?_
  refine J_ixor X dX3_cut_25 ?_
  refine J_iand X dX3_cut_26 ?_
  obtain ⟨hk4, hT⟩ := ckn_e hT
  refine J_iast (ws' := (w_X3_cut cI cJ cZ h_this q_this this_size (upd (upd this_rows x1.toNatClampNeg ((this_rows x1.toNatClampNeg) &&& (((1 : Int32) <<< (x2 &&& 31)) ^^^ (-1 : Int32)))) x2.toNatClampNeg (((upd this_rows x1.toNatClampNeg ((this_rows x1.toNatClampNeg) &&& (((1 : Int32) <<< (x2 &&& 31)) ^^^ (-1 : Int32)))) x2.toNatClampNeg) &&& (((1 : Int32) <<< (x1 &&& 31)) ^^^ (-1 : Int32)))))) X 1 rfl rfl hk4 rfl dX3_cut_27 ?_
  cases hT
  exact J_vret X dX3_cut_28
-- ===== SoldMatches$Links.close()V
abbrev rmX3_close : Room := { frames := 1, cells := 0, slots := 0, locals := 23 }
def w_X3_close (cI cJ cZ : ClassId) (h_this : Nat) (q_this : Nat → Nat) (this_size : Int32) (this_rows : Nat → Int32) : va_W := [(h_this, .inr (3, oFX3 q_this this_size)), ((q_this 1), .inl (cI, 12, .inl this_rows))]
theorem m_X3_close_f9 : Cond.fieldLink RX3 9 "SoldMatches$Links" "rows" "[I" ∈ wsX3_close := List.mem_of_getElem? (i := 1) rfl
theorem in_X3_close_X3 : ∀ w ∈ wsX30, w ∈ wsX3_close := fun w h => List.mem_cons_of_mem _ (List.mem_append_right _ h)
theorem m_X3_close_f29 : Cond.fieldLink RX3 29 "SoldMatches$Links" "size" "I" ∈ wsX3_close := List.mem_of_getElem? (i := 2) rfl
theorem m_X3_close_st_X10_closeOver : Cond.static yX10_closeOver ∈ wsX3_close := List.mem_of_getElem? (i := 3) rfl
theorem m_X3_close_ini_X10 : Cond.initialized RX10 ∈ wsX3_close := List.mem_of_getElem? (i := 4) rfl
theorem cw_X3_close_X10_closeOver_46 {s : State} {args : Array Value} (hts : ∀ w ∈ wsX3_close, w.before args s = true) (hN : NW s) : va_CN rmX3_close s args RX3 46 yX10_closeOver "SoldMatches" cX10_closeOver 4 none wsX10_closeOver rmX10_closeOver 0 0 2 ∧ (Cond.static yX10_closeOver).before args s = true ∧ True := ⟨va_cnB 2 hts gX3_close_X10_closeOver_n46 rfl rfl rfl (hN _ (List.mem_of_getElem? (i := 65) rfl)) (hts _ m_X3_close_ini_X10) (by decide +kernel) ⟨by decide, by decide⟩, hts _ m_X3_close_st_X10_closeOver, trivial⟩
def t_X3_close  (this_size : Int32) (this_rows : Nat → Int32)  : Option ((Nat → Int32)) := bd1 (t_X10_closeOver 12 this_rows this_size) (fun u1_0 => some (u1_0))
set_option maxHeartbeats 4000000 in
set_option maxRecDepth 100000 in
theorem c_X3_close (l : Launch) (D : va_G) (cI cJ cZ : ClassId) (h_this : Nat) (q_this : Nat → Nat) (this_size : Int32) (this_rows : Nat → Int32)  (z0 : Nat → Int32) (hT : t_X3_close  this_size this_rows  = some z0) : Cv l yX3_close wsX3_close rmX3_close D (tys3 cI cJ cZ) [.ref h_this] (w_X3_close cI cJ cZ h_this q_this this_size this_rows) (w_X3_close cI cJ cZ h_this q_this this_size z0) := by
  refine Cv.ofJ (cc := cX3_close) (nL := 1) (rt := none) (own := RX3) (by decide) rfl rfl (Nat.le_of_ble_eq_true rfl) ?_
  intro p e s m below meth c A X
  unfold t_X3_close at hT
  refine J_lv (lv' := [(0, .ref h_this)]) [0] rfl ?_
  refine J_aload_n X dX3_close_0 0 rfl ?_
  refine J_get (C := RX3) (T := TX3) (N := 3) (ci := 3) (v := .ref (q_this 1)) X in_X3_close_X3 0 rfl rfl 1 (by decide) m_X3_close_f9 rfl dX3_close_1 ?_
  refine J_aload_n X dX3_close_4 0 rfl ?_
  refine J_get (C := RX3) (T := TX3) (N := 3) (ci := 3) (v := .int this_size) X in_X3_close_X3 0 rfl rfl 0 (by decide) m_X3_close_f29 rfl dX3_close_5 ?_
  obtain ⟨u1_0, hq1, hT⟩ := bd1_e hT
  refine J_cv (wc := (w_X10_closeOver cI cJ cZ (q_this 1) 12 this_rows)) (wc' := (w_X10_closeOver cI cJ cZ (q_this 1) 12 u1_0)) (ws' := (w_X3_close cI cJ cZ h_this q_this this_size u1_0)) [1] [0] 2 rfl rfl rfl rfl rfl rfl rfl rfl (run_SN (As := [.ref (q_this 1), .int this_size]) (rest := []) X (c_X10_closeOver l D cI cJ cZ (q_this 1) 12 this_rows this_size u1_0 hq1) (cw_X3_close_X10_closeOver_46 X.1.2.2.2.2 X.2.1.2) rfl rfl (Nat.le_of_ble_eq_true rfl) dX3_close_8 ⟨Nat.zero_le _, Nat.zero_le _⟩) ?_
  cases hT
  exact J_vret X dX3_close_11
-- ===== SoldMatches$Odds.countLate(III)V
abbrev rmX4_countLate : Room := { frames := 1, cells := 0, slots := 0, locals := 24 }
def w_X4_countLate (cI cJ cZ : ClassId) (h_this : Nat) (q_this : Nat → Nat) (this_upper : Int64) (this_lower : Int64) (this_cases : Nat → Int64) : va_W := [(h_this, .inr (4, oFX4 q_this this_upper this_lower)), ((q_this 0), .inl (cJ, 13, .inr (.inl this_cases)))]
theorem m_X4_countLate_f9 : Cond.fieldLink RX4 9 "SoldMatches$Odds" "cases" "[J" ∈ wsX4_countLate := List.mem_of_getElem? (i := 1) rfl
theorem in_X4_countLate_X4 : ∀ w ∈ wsX40, w ∈ wsX4_countLate := fun w h => List.mem_cons_of_mem _ (List.mem_append_right _ h)
theorem m_X4_countLate_f31 : Cond.fieldLink RX4 31 "SoldMatches$Odds" "upper" "J" ∈ wsX4_countLate := List.mem_of_getElem? (i := 4) rfl
theorem m_X4_countLate_f15 : Cond.fieldLink RX4 15 "SoldMatches$Odds" "lower" "J" ∈ wsX4_countLate := List.mem_of_getElem? (i := 2) rfl
theorem m_X4_countLate_c38 : Cond.constantLong RX4 38 (20) ∈ wsX4_countLate := List.mem_of_getElem? (i := 3) rfl
theorem cw_X4_countLate_J7_fill_d0a16_19 {s : State} {args : Array Value} (hts : ∀ w ∈ wsX4_countLate, w.before args s = true) : CallB rmX4_countLate s args RX4 19 yJ7_fill_d0a16 cJ7_fill_d0a16 5 none wsJ7_fill_d0a16 rmJ7_fill_d0a16 0 0 2 ∧ (Cond.static yJ7_fill_d0a16).before args s = true := va_cwS 2 hts gX4_countLate_J7_fill_d0a16 rfl rfl rfl (by decide +kernel) ⟨by decide, by decide⟩
def t_X4_countLate_122_b  (k_122 : Int64 → Int64 → (Nat → Int64) → Int32 → (Option (Int64 × Int64 × (Nat → Int64)))) (this_upper : Int64) (this_lower : Int64) (this_cases : Nat → Int64) (x4 : Int32) : Option (Int64 × Int64 × (Nat → Int64)) := if x4 < 0 then (some (this_upper, this_lower, this_cases)) else (if (13 : Int32) ≤ x4 then (some (this_upper, this_lower, this_cases)) else (ckn (x4 < 0 ∨ 13 ≤ x4.toNatClampNeg) (k_122 (this_upper + (this_cases x4.toNatClampNeg)) this_lower this_cases (x4 + (1 : Int32)))))
def t_X4_countLate_122   (n : Nat) : Int64 → Int64 → (Nat → Int64) → Int32 → (Option (Int64 × Int64 × (Nat → Int64))) := Nat.rec (fun _ _ _ _ => none) (fun _ ih => t_X4_countLate_122_b   ih) n
def t_X4_countLate_114   (this_upper : Int64) (this_lower : Int64) (this_cases : Nat → Int64) (x2 : Int32) : Option (Int64 × Int64 × (Nat → Int64)) := t_X4_countLate_122   lfuel (0 : Int64) this_lower this_cases x2
def t_X4_countLate_82  (k_23 : Int64 → Int64 → (Nat → Int64) → Int32 → Int32 → Int32 → Int32 → (Option (Int64 × Int64 × (Nat → Int64)))) (this_upper : Int64) (this_lower : Int64) (this_cases : Nat → Int64) (x1 : Int32) (x2 : Int32) (x3 : Int32) (x4 : Int32) : Option (Int64 × Int64 × (Nat → Int64)) := ckn ((0 : Int32) < 0 ∨ 13 ≤ (0 : Int32).toNatClampNeg) (ckn ((0 : Int32) < 0 ∨ 13 ≤ (0 : Int32).toNatClampNeg) (k_23 this_upper (this_lower * (20 : Int64)) (vp_updL this_cases (0 : Int32).toNatClampNeg ((this_cases (0 : Int32).toNatClampNeg) * (((20 : Int32) - x3).toInt64))) x1 x2 x3 (x4 + (1 : Int32))))
def t_X4_countLate_38_b  (k_23 : Int64 → Int64 → (Nat → Int64) → Int32 → Int32 → Int32 → Int32 → (Option (Int64 × Int64 × (Nat → Int64)))) (k_38 : Int64 → Int64 → (Nat → Int64) → Int32 → Int32 → Int32 → Int32 → Int32 → (Option (Int64 × Int64 × (Nat → Int64)))) (this_upper : Int64) (this_lower : Int64) (this_cases : Nat → Int64) (x1 : Int32) (x2 : Int32) (x3 : Int32) (x4 : Int32) (x5 : Int32) : Option (Int64 × Int64 × (Nat → Int64)) := if x5 ≤ 0 then (t_X4_countLate_82  k_23 this_upper this_lower this_cases x1 x2 x3 x4) else (ckn (x5 < 0 ∨ 13 ≤ x5.toNatClampNeg) (ckn ((x5 - (1 : Int32)) < 0 ∨ 13 ≤ (x5 - (1 : Int32)).toNatClampNeg) (ckn (x5 < 0 ∨ 13 ≤ x5.toNatClampNeg) (k_38 this_upper this_lower (vp_updL this_cases x5.toNatClampNeg (((this_cases x5.toNatClampNeg) * (((20 : Int32) - x3).toInt64)) + ((this_cases (x5 - (1 : Int32)).toNatClampNeg) * (x3.toInt64)))) x1 x2 x3 x4 (x5 + (-1 : Int32))))))
def t_X4_countLate_38  (k_23 : Int64 → Int64 → (Nat → Int64) → Int32 → Int32 → Int32 → Int32 → (Option (Int64 × Int64 × (Nat → Int64)))) (n : Nat) : Int64 → Int64 → (Nat → Int64) → Int32 → Int32 → Int32 → Int32 → Int32 → (Option (Int64 × Int64 × (Nat → Int64))) := Nat.rec (fun _ _ _ _ _ _ _ _ => none) (fun _ ih => t_X4_countLate_38_b  k_23 ih) n
def t_X4_countLate_23_b  (k_23 : Int64 → Int64 → (Nat → Int64) → Int32 → Int32 → Int32 → Int32 → (Option (Int64 × Int64 × (Nat → Int64)))) (this_upper : Int64) (this_lower : Int64) (this_cases : Nat → Int64) (x1 : Int32) (x2 : Int32) (x3 : Int32) (x4 : Int32) : Option (Int64 × Int64 × (Nat → Int64)) := if x1 ≤ x4 then (t_X4_countLate_114   this_upper this_lower this_cases x2) else (t_X4_countLate_38  k_23 lfuel this_upper this_lower this_cases x1 x2 x3 x4 ((13 : Int32) - (1 : Int32)))
def t_X4_countLate_23   (n : Nat) : Int64 → Int64 → (Nat → Int64) → Int32 → Int32 → Int32 → Int32 → (Option (Int64 × Int64 × (Nat → Int64))) := Nat.rec (fun _ _ _ _ _ _ _ => none) (fun _ ih => t_X4_countLate_23_b   ih) n
def t_X4_countLate  (this_upper : Int64) (this_lower : Int64) (this_cases : Nat → Int64) (x1 : Int32) (x2 : Int32) (x3 : Int32) : Option (Int64 × Int64 × (Nat → Int64)) := bd1 (t_J7_fill_d0a16 13 this_cases (0 : Int64)) (fun u11_0 => ckn ((0 : Int32) < 0 ∨ 13 ≤ (0 : Int32).toNatClampNeg) (t_X4_countLate_23   lfuel this_upper (1 : Int64) (vp_updL u11_0 (0 : Int32).toNatClampNeg (1 : Int64)) x1 x2 x3 (0 : Int32)))
set_option maxHeartbeats 4000000 in
set_option maxRecDepth 100000 in
theorem b_X4_countLate_122_b {p : Program} {l : Launch} {e : Env} {s : State} {m : MethodId} {args : Array Value} {below : List Frame} {meth : Method} {c : Code} {D : va_G} {A : Nat → Prop} {cI cJ cZ : ClassId} (X : Cx p m c cX4_countLate 6 s args wsX4_countLate RX4 D (tys3 cI cJ cZ) meth none) (_ _ _ : ClassId)  (h_this : Nat) (q_this : Nat → Nat)  (z0 : Int64) (z1 : Int64) (z2 : Nat → Int64) (k_122 : Int64 → Int64 → (Nat → Int64) → Int32 → (Option (Int64 × Int64 × (Nat → Int64)))) (hk_122 : ∀ (this_upper : Int64) (this_lower : Int64) (this_cases : Nat → Int64) (x4 : Int32), k_122 this_upper this_lower this_cases x4 = some (z0, z1, z2) → J p l e rmX4_countLate s m args below meth c D A 6 (QV D below args s A (w_X4_countLate cI cJ cZ h_this q_this z0 z1 z2)) 0 0 (w_X4_countLate cI cJ cZ h_this q_this this_upper this_lower this_cases) [(0, .ref h_this), (4, .int x4)] [] 122) (this_upper : Int64) (this_lower : Int64) (this_cases : Nat → Int64) (x4 : Int32) (hT : t_X4_countLate_122_b  k_122 this_upper this_lower this_cases x4 = some (z0, z1, z2)) : J p l e rmX4_countLate s m args below meth c D A 6 (QV D below args s A (w_X4_countLate cI cJ cZ h_this q_this z0 z1 z2)) 0 0 (w_X4_countLate cI cJ cZ h_this q_this this_upper this_lower this_cases) [(0, .ref h_this), (4, .int x4)] [] 122 := by
  unfold t_X4_countLate_122_b at hT
  refine J_iload X dX4_countLate_122 1 rfl ?_
  refine J_if_lt (tgt := 159) X dX4_countLate_124 (by decide) (fun hc1 => ?_) (fun hc1 => ?_)
  · have hT := ift hT hc1
    cases hT
    exact J_vret X dX4_countLate_159
  · have hT := iff_ hT hc1
    refine J_iload X dX4_countLate_127 1 rfl ?_
    refine J_aload_n X dX4_countLate_129 0 rfl ?_
    refine J_get (C := RX4) (T := TX4) (N := 3) (ci := 4) (v := .ref (q_this 0)) X in_X4_countLate_X4 0 rfl rfl 0 (by decide) m_X4_countLate_f9 rfl dX4_countLate_130 ?_
    refine J_alen (v := 13) X 1 1 rfl rfl rfl dX4_countLate_133 ?_
    refine J_icmp_ge (tgt := 159) X dX4_countLate_134 (by decide) (fun hc2 => ?_) (fun hc2 => ?_)
    · have hT := ift hT hc2
      cases hT
      exact J_vret X dX4_countLate_159
    · have hT := iff_ hT hc2
      refine J_aload_n X dX4_countLate_137 0 rfl ?_
      refine J_dup X dX4_countLate_138 rfl ?_
      refine J_get (C := RX4) (T := TX4) (N := 3) (ci := 4) (v := .long this_upper) X in_X4_countLate_X4 0 rfl rfl 1 (by decide) m_X4_countLate_f31 rfl dX4_countLate_139 ?_
      refine J_aload_n X dX4_countLate_142 0 rfl ?_
      refine J_get (C := RX4) (T := TX4) (N := 3) (ci := 4) (v := .ref (q_this 0)) X in_X4_countLate_X4 0 rfl rfl 0 (by decide) m_X4_countLate_f9 rfl dX4_countLate_143 ?_
      refine J_iload X dX4_countLate_146 1 rfl ?_
      obtain ⟨hk3, hT⟩ := ckn_e hT
      refine J_lald X 1 rfl rfl hk3 dX4_countLate_148 ?_
      refine J_ladd X dX4_countLate_149 ?_
      refine J_put (host := "") (C := RX4) (T := TX4) (N := 3) (ci := 4) (ws' := (w_X4_countLate cI cJ cZ h_this q_this (this_upper + (this_cases x4.toNatClampNeg)) this_lower this_cases)) X in_X4_countLate_X4 0 rfl rfl 1 (by decide) tyX4 tyX4_ok nmX4 m_X4_countLate_f31 rfl rfl rfl (Nat.le_of_ble_eq_true rfl) rfl dX4_countLate_150 ?_
      refine J_iinc (lv' := [(4, .int (x4 + (1 : Int32))), (0, .ref h_this)]) (j := 1) X dX4_countLate_153 rfl rfl (by decide) rfl ?_
      refine J_goto (tgt := 122) X dX4_countLate_156 (by decide) ?_
      refine J_lv (lv' := [(0, .ref h_this), (4, .int (x4 + (1 : Int32)))]) [1, 0] rfl ?_
      exact hk_122 (this_upper + (this_cases x4.toNatClampNeg)) this_lower this_cases (x4 + (1 : Int32)) hT
set_option maxHeartbeats 4000000 in
set_option maxRecDepth 100000 in
theorem b_X4_countLate_122 {p : Program} {l : Launch} {e : Env} {s : State} {m : MethodId} {args : Array Value} {below : List Frame} {meth : Method} {c : Code} {D : va_G} {A : Nat → Prop} {cI cJ cZ : ClassId} (X : Cx p m c cX4_countLate 6 s args wsX4_countLate RX4 D (tys3 cI cJ cZ) meth none) (_ _ _ : ClassId)  (h_this : Nat) (q_this : Nat → Nat)  (z0 : Int64) (z1 : Int64) (z2 : Nat → Int64)  : ∀ (n : Nat) (this_upper : Int64) (this_lower : Int64) (this_cases : Nat → Int64) (x4 : Int32) (hT : t_X4_countLate_122   n this_upper this_lower this_cases x4 = some (z0, z1, z2)), J p l e rmX4_countLate s m args below meth c D A 6 (QV D below args s A (w_X4_countLate cI cJ cZ h_this q_this z0 z1 z2)) 0 0 (w_X4_countLate cI cJ cZ h_this q_this this_upper this_lower this_cases) [(0, .ref h_this), (4, .int x4)] [] 122 := by
  intro n
  induction n with
  | zero => intro this_upper this_lower this_cases x4 hT; cases hT
  | succ n ih =>
    intro this_upper this_lower this_cases x4 hT
    exact b_X4_countLate_122_b X cI cJ cZ h_this q_this  z0 z1 z2  (t_X4_countLate_122   n) ih this_upper this_lower this_cases x4 hT
set_option maxHeartbeats 4000000 in
set_option maxRecDepth 100000 in
theorem b_X4_countLate_114 {p : Program} {l : Launch} {e : Env} {s : State} {m : MethodId} {args : Array Value} {below : List Frame} {meth : Method} {c : Code} {D : va_G} {A : Nat → Prop} {cI cJ cZ : ClassId} (X : Cx p m c cX4_countLate 6 s args wsX4_countLate RX4 D (tys3 cI cJ cZ) meth none) (_ _ _ : ClassId)  (h_this : Nat) (q_this : Nat → Nat)  (z0 : Int64) (z1 : Int64) (z2 : Nat → Int64)  (this_upper : Int64) (this_lower : Int64) (this_cases : Nat → Int64) (x2 : Int32) (hT : t_X4_countLate_114   this_upper this_lower this_cases x2 = some (z0, z1, z2)) : J p l e rmX4_countLate s m args below meth c D A 6 (QV D below args s A (w_X4_countLate cI cJ cZ h_this q_this z0 z1 z2)) 0 0 (w_X4_countLate cI cJ cZ h_this q_this this_upper this_lower this_cases) [(0, .ref h_this), (2, .int x2)] [] 114 := by
  unfold t_X4_countLate_114 at hT
  refine J_aload_n X dX4_countLate_114 0 rfl ?_
  refine J_lconst (v := 0) X dX4_countLate_115 (by decide) ?_
  refine J_put (host := "") (C := RX4) (T := TX4) (N := 3) (ci := 4) (ws' := (w_X4_countLate cI cJ cZ h_this q_this (0 : Int64) this_lower this_cases)) X in_X4_countLate_X4 0 rfl rfl 1 (by decide) tyX4 tyX4_ok nmX4 m_X4_countLate_f31 rfl rfl rfl (Nat.le_of_ble_eq_true rfl) rfl dX4_countLate_116 ?_
  refine J_iload_n X dX4_countLate_119 1 rfl ?_
  refine J_istore (lv' := [(4, .int x2), (0, .ref h_this), (2, .int x2)]) X dX4_countLate_120 (by decide) rfl ?_
  refine J_lv (lv' := [(0, .ref h_this), (4, .int x2)]) [1, 0] rfl ?_
  exact b_X4_countLate_122 X cI cJ cZ h_this q_this  z0 z1 z2  lfuel (0 : Int64) this_lower this_cases x2 hT
set_option maxHeartbeats 4000000 in
set_option maxRecDepth 100000 in
theorem b_X4_countLate_82 {p : Program} {l : Launch} {e : Env} {s : State} {m : MethodId} {args : Array Value} {below : List Frame} {meth : Method} {c : Code} {D : va_G} {A : Nat → Prop} {cI cJ cZ : ClassId} (X : Cx p m c cX4_countLate 6 s args wsX4_countLate RX4 D (tys3 cI cJ cZ) meth none) (_ _ _ : ClassId)  (h_this : Nat) (q_this : Nat → Nat)  (z0 : Int64) (z1 : Int64) (z2 : Nat → Int64) (k_23 : Int64 → Int64 → (Nat → Int64) → Int32 → Int32 → Int32 → Int32 → (Option (Int64 × Int64 × (Nat → Int64)))) (hk_23 : ∀ (this_upper : Int64) (this_lower : Int64) (this_cases : Nat → Int64) (x1 : Int32) (x2 : Int32) (x3 : Int32) (x4 : Int32), k_23 this_upper this_lower this_cases x1 x2 x3 x4 = some (z0, z1, z2) → J p l e rmX4_countLate s m args below meth c D A 6 (QV D below args s A (w_X4_countLate cI cJ cZ h_this q_this z0 z1 z2)) 0 0 (w_X4_countLate cI cJ cZ h_this q_this this_upper this_lower this_cases) [(0, .ref h_this), (1, .int x1), (2, .int x2), (3, .int x3), (4, .int x4)] [] 23) (this_upper : Int64) (this_lower : Int64) (this_cases : Nat → Int64) (x1 : Int32) (x2 : Int32) (x3 : Int32) (x4 : Int32) (hT : t_X4_countLate_82  k_23 this_upper this_lower this_cases x1 x2 x3 x4 = some (z0, z1, z2)) : J p l e rmX4_countLate s m args below meth c D A 6 (QV D below args s A (w_X4_countLate cI cJ cZ h_this q_this z0 z1 z2)) 0 0 (w_X4_countLate cI cJ cZ h_this q_this this_upper this_lower this_cases) [(0, .ref h_this), (1, .int x1), (2, .int x2), (3, .int x3), (4, .int x4)] [] 82 := by
  unfold t_X4_countLate_82 at hT
  refine J_aload_n X dX4_countLate_82 0 rfl ?_
  refine J_get (C := RX4) (T := TX4) (N := 3) (ci := 4) (v := .ref (q_this 0)) X in_X4_countLate_X4 0 rfl rfl 0 (by decide) m_X4_countLate_f9 rfl dX4_countLate_83 ?_
  refine J_iconst (v := 0) X dX4_countLate_86 (by decide) ?_
  refine J_dup2 X dX4_countLate_87 rfl rfl ?_
  obtain ⟨hk4, hT⟩ := ckn_e hT
  refine J_lald X 1 rfl rfl hk4 dX4_countLate_88 ?_
  refine J_bipush (v := 20) X dX4_countLate_89 (by decide) ?_
  refine J_iload_n X dX4_countLate_91 3 rfl ?_
  refine J_isub X dX4_countLate_92 ?_
  refine J_i2l X dX4_countLate_93 ?_
  refine J_lmul X dX4_countLate_94 ?_
  obtain ⟨hk5, hT⟩ := ckn_e hT
  refine J_last (ws' := (w_X4_countLate cI cJ cZ h_this q_this this_upper this_lower (vp_updL this_cases (0 : Int32).toNatClampNeg ((this_cases (0 : Int32).toNatClampNeg) * (((20 : Int32) - x3).toInt64))))) X 1 rfl rfl hk5 rfl dX4_countLate_95 ?_
  refine J_aload_n X dX4_countLate_96 0 rfl ?_
  refine J_dup X dX4_countLate_97 rfl ?_
  refine J_get (C := RX4) (T := TX4) (N := 3) (ci := 4) (v := .long this_lower) X in_X4_countLate_X4 0 rfl rfl 2 (by decide) m_X4_countLate_f15 rfl dX4_countLate_98 ?_
  refine J_ldc2 X dX4_countLate_101 m_X4_countLate_c38 ?_
  refine J_lmul X dX4_countLate_104 ?_
  refine J_put (host := "") (C := RX4) (T := TX4) (N := 3) (ci := 4) (ws' := (w_X4_countLate cI cJ cZ h_this q_this this_upper (this_lower * (20 : Int64)) (vp_updL this_cases (0 : Int32).toNatClampNeg ((this_cases (0 : Int32).toNatClampNeg) * (((20 : Int32) - x3).toInt64))))) X in_X4_countLate_X4 0 rfl rfl 2 (by decide) tyX4 tyX4_ok nmX4 m_X4_countLate_f15 rfl rfl rfl (Nat.le_of_ble_eq_true rfl) rfl dX4_countLate_105 ?_
  refine J_iinc (lv' := [(4, .int (x4 + (1 : Int32))), (0, .ref h_this), (1, .int x1), (2, .int x2), (3, .int x3)]) (j := 4) X dX4_countLate_108 rfl rfl (by decide) rfl ?_
  refine J_goto (tgt := 23) X dX4_countLate_111 (by decide) ?_
  refine J_lv (lv' := [(0, .ref h_this), (1, .int x1), (2, .int x2), (3, .int x3), (4, .int (x4 + (1 : Int32)))]) [1, 2, 3, 4, 0] rfl ?_
  exact hk_23 this_upper (this_lower * (20 : Int64)) (vp_updL this_cases (0 : Int32).toNatClampNeg ((this_cases (0 : Int32).toNatClampNeg) * (((20 : Int32) - x3).toInt64))) x1 x2 x3 (x4 + (1 : Int32)) hT
set_option maxHeartbeats 4000000 in
set_option maxRecDepth 100000 in
theorem b_X4_countLate_38_b {p : Program} {l : Launch} {e : Env} {s : State} {m : MethodId} {args : Array Value} {below : List Frame} {meth : Method} {c : Code} {D : va_G} {A : Nat → Prop} {cI cJ cZ : ClassId} (X : Cx p m c cX4_countLate 6 s args wsX4_countLate RX4 D (tys3 cI cJ cZ) meth none) (_ _ _ : ClassId)  (h_this : Nat) (q_this : Nat → Nat)  (z0 : Int64) (z1 : Int64) (z2 : Nat → Int64) (k_23 : Int64 → Int64 → (Nat → Int64) → Int32 → Int32 → Int32 → Int32 → (Option (Int64 × Int64 × (Nat → Int64)))) (hk_23 : ∀ (this_upper : Int64) (this_lower : Int64) (this_cases : Nat → Int64) (x1 : Int32) (x2 : Int32) (x3 : Int32) (x4 : Int32), k_23 this_upper this_lower this_cases x1 x2 x3 x4 = some (z0, z1, z2) → J p l e rmX4_countLate s m args below meth c D A 6 (QV D below args s A (w_X4_countLate cI cJ cZ h_this q_this z0 z1 z2)) 0 0 (w_X4_countLate cI cJ cZ h_this q_this this_upper this_lower this_cases) [(0, .ref h_this), (1, .int x1), (2, .int x2), (3, .int x3), (4, .int x4)] [] 23) (k_38 : Int64 → Int64 → (Nat → Int64) → Int32 → Int32 → Int32 → Int32 → Int32 → (Option (Int64 × Int64 × (Nat → Int64)))) (hk_38 : ∀ (this_upper : Int64) (this_lower : Int64) (this_cases : Nat → Int64) (x1 : Int32) (x2 : Int32) (x3 : Int32) (x4 : Int32) (x5 : Int32), k_38 this_upper this_lower this_cases x1 x2 x3 x4 x5 = some (z0, z1, z2) → J p l e rmX4_countLate s m args below meth c D A 6 (QV D below args s A (w_X4_countLate cI cJ cZ h_this q_this z0 z1 z2)) 0 0 (w_X4_countLate cI cJ cZ h_this q_this this_upper this_lower this_cases) [(0, .ref h_this), (1, .int x1), (2, .int x2), (3, .int x3), (4, .int x4), (5, .int x5)] [] 38) (this_upper : Int64) (this_lower : Int64) (this_cases : Nat → Int64) (x1 : Int32) (x2 : Int32) (x3 : Int32) (x4 : Int32) (x5 : Int32) (hT : t_X4_countLate_38_b  k_23 k_38 this_upper this_lower this_cases x1 x2 x3 x4 x5 = some (z0, z1, z2)) : J p l e rmX4_countLate s m args below meth c D A 6 (QV D below args s A (w_X4_countLate cI cJ cZ h_this q_this z0 z1 z2)) 0 0 (w_X4_countLate cI cJ cZ h_this q_this this_upper this_lower this_cases) [(0, .ref h_this), (1, .int x1), (2, .int x2), (3, .int x3), (4, .int x4), (5, .int x5)] [] 38 := by
  unfold t_X4_countLate_38_b at hT
  refine J_iload X dX4_countLate_38 5 rfl ?_
  refine J_if_le (tgt := 82) X dX4_countLate_40 (by decide) (fun hc6 => ?_) (fun hc6 => ?_)
  · have hT := ift hT hc6
    refine J_lv (lv' := [(0, .ref h_this), (1, .int x1), (2, .int x2), (3, .int x3), (4, .int x4)]) [0, 1, 2, 3, 4] rfl ?_
    exact b_X4_countLate_82 X cI cJ cZ h_this q_this  z0 z1 z2 k_23 hk_23 this_upper this_lower this_cases x1 x2 x3 x4 hT
  · have hT := iff_ hT hc6
    refine J_aload_n X dX4_countLate_43 0 rfl ?_
    refine J_get (C := RX4) (T := TX4) (N := 3) (ci := 4) (v := .ref (q_this 0)) X in_X4_countLate_X4 0 rfl rfl 0 (by decide) m_X4_countLate_f9 rfl dX4_countLate_44 ?_
    refine J_iload X dX4_countLate_47 5 rfl ?_
    refine J_aload_n X dX4_countLate_49 0 rfl ?_
    refine J_get (C := RX4) (T := TX4) (N := 3) (ci := 4) (v := .ref (q_this 0)) X in_X4_countLate_X4 0 rfl rfl 0 (by decide) m_X4_countLate_f9 rfl dX4_countLate_50 ?_
    refine J_iload X dX4_countLate_53 5 rfl ?_
    obtain ⟨hk7, hT⟩ := ckn_e hT
    refine J_lald X 1 rfl rfl hk7 dX4_countLate_55 ?_
    refine J_bipush (v := 20) X dX4_countLate_56 (by decide) ?_
    refine J_iload_n X dX4_countLate_58 3 rfl ?_
    refine J_isub X dX4_countLate_59 ?_
    refine J_i2l X dX4_countLate_60 ?_
    refine J_lmul X dX4_countLate_61 ?_
    refine J_aload_n X dX4_countLate_62 0 rfl ?_
    refine J_get (C := RX4) (T := TX4) (N := 3) (ci := 4) (v := .ref (q_this 0)) X in_X4_countLate_X4 0 rfl rfl 0 (by decide) m_X4_countLate_f9 rfl dX4_countLate_63 ?_
    refine J_iload X dX4_countLate_66 5 rfl ?_
    refine J_iconst (v := 1) X dX4_countLate_68 (by decide) ?_
    refine J_isub X dX4_countLate_69 ?_
    obtain ⟨hk8, hT⟩ := ckn_e hT
    refine J_lald X 1 rfl rfl hk8 dX4_countLate_70 ?_
    refine J_iload_n X dX4_countLate_71 3 rfl ?_
    refine J_i2l X dX4_countLate_72 ?_
    refine J_lmul X dX4_countLate_73 ?_
    refine J_ladd X dX4_countLate_74 ?_
    obtain ⟨hk9, hT⟩ := ckn_e hT
    refine J_last (ws' := (w_X4_countLate cI cJ cZ h_this q_this this_upper this_lower (vp_updL this_cases x5.toNatClampNeg (((this_cases x5.toNatClampNeg) * (((20 : Int32) - x3).toInt64)) + ((this_cases (x5 - (1 : Int32)).toNatClampNeg) * (x3.toInt64)))))) X 1 rfl rfl hk9 rfl dX4_countLate_75 ?_
    refine J_iinc (lv' := [(5, .int (x5 + (-1 : Int32))), (0, .ref h_this), (1, .int x1), (2, .int x2), (3, .int x3), (4, .int x4)]) (j := 5) X dX4_countLate_76 rfl rfl (by decide) rfl ?_
    refine J_goto (tgt := 38) X dX4_countLate_79 (by decide) ?_
    refine J_lv (lv' := [(0, .ref h_this), (1, .int x1), (2, .int x2), (3, .int x3), (4, .int x4), (5, .int (x5 + (-1 : Int32)))]) [1, 2, 3, 4, 5, 0] rfl ?_
    exact hk_38 this_upper this_lower (vp_updL this_cases x5.toNatClampNeg (((this_cases x5.toNatClampNeg) * (((20 : Int32) - x3).toInt64)) + ((this_cases (x5 - (1 : Int32)).toNatClampNeg) * (x3.toInt64)))) x1 x2 x3 x4 (x5 + (-1 : Int32)) hT
set_option maxHeartbeats 4000000 in
set_option maxRecDepth 100000 in
theorem b_X4_countLate_38 {p : Program} {l : Launch} {e : Env} {s : State} {m : MethodId} {args : Array Value} {below : List Frame} {meth : Method} {c : Code} {D : va_G} {A : Nat → Prop} {cI cJ cZ : ClassId} (X : Cx p m c cX4_countLate 6 s args wsX4_countLate RX4 D (tys3 cI cJ cZ) meth none) (_ _ _ : ClassId)  (h_this : Nat) (q_this : Nat → Nat)  (z0 : Int64) (z1 : Int64) (z2 : Nat → Int64) (k_23 : Int64 → Int64 → (Nat → Int64) → Int32 → Int32 → Int32 → Int32 → (Option (Int64 × Int64 × (Nat → Int64)))) (hk_23 : ∀ (this_upper : Int64) (this_lower : Int64) (this_cases : Nat → Int64) (x1 : Int32) (x2 : Int32) (x3 : Int32) (x4 : Int32), k_23 this_upper this_lower this_cases x1 x2 x3 x4 = some (z0, z1, z2) → J p l e rmX4_countLate s m args below meth c D A 6 (QV D below args s A (w_X4_countLate cI cJ cZ h_this q_this z0 z1 z2)) 0 0 (w_X4_countLate cI cJ cZ h_this q_this this_upper this_lower this_cases) [(0, .ref h_this), (1, .int x1), (2, .int x2), (3, .int x3), (4, .int x4)] [] 23) : ∀ (n : Nat) (this_upper : Int64) (this_lower : Int64) (this_cases : Nat → Int64) (x1 : Int32) (x2 : Int32) (x3 : Int32) (x4 : Int32) (x5 : Int32) (hT : t_X4_countLate_38  k_23 n this_upper this_lower this_cases x1 x2 x3 x4 x5 = some (z0, z1, z2)), J p l e rmX4_countLate s m args below meth c D A 6 (QV D below args s A (w_X4_countLate cI cJ cZ h_this q_this z0 z1 z2)) 0 0 (w_X4_countLate cI cJ cZ h_this q_this this_upper this_lower this_cases) [(0, .ref h_this), (1, .int x1), (2, .int x2), (3, .int x3), (4, .int x4), (5, .int x5)] [] 38 := by
  intro n
  induction n with
  | zero => intro this_upper this_lower this_cases x1 x2 x3 x4 x5 hT; cases hT
  | succ n ih =>
    intro this_upper this_lower this_cases x1 x2 x3 x4 x5 hT
    exact b_X4_countLate_38_b X cI cJ cZ h_this q_this  z0 z1 z2 k_23 hk_23 (t_X4_countLate_38  k_23 n) ih this_upper this_lower this_cases x1 x2 x3 x4 x5 hT
set_option maxHeartbeats 4000000 in
set_option maxRecDepth 100000 in
theorem b_X4_countLate_23_b {p : Program} {l : Launch} {e : Env} {s : State} {m : MethodId} {args : Array Value} {below : List Frame} {meth : Method} {c : Code} {D : va_G} {A : Nat → Prop} {cI cJ cZ : ClassId} (X : Cx p m c cX4_countLate 6 s args wsX4_countLate RX4 D (tys3 cI cJ cZ) meth none) (_ _ _ : ClassId)  (h_this : Nat) (q_this : Nat → Nat)  (z0 : Int64) (z1 : Int64) (z2 : Nat → Int64) (k_23 : Int64 → Int64 → (Nat → Int64) → Int32 → Int32 → Int32 → Int32 → (Option (Int64 × Int64 × (Nat → Int64)))) (hk_23 : ∀ (this_upper : Int64) (this_lower : Int64) (this_cases : Nat → Int64) (x1 : Int32) (x2 : Int32) (x3 : Int32) (x4 : Int32), k_23 this_upper this_lower this_cases x1 x2 x3 x4 = some (z0, z1, z2) → J p l e rmX4_countLate s m args below meth c D A 6 (QV D below args s A (w_X4_countLate cI cJ cZ h_this q_this z0 z1 z2)) 0 0 (w_X4_countLate cI cJ cZ h_this q_this this_upper this_lower this_cases) [(0, .ref h_this), (1, .int x1), (2, .int x2), (3, .int x3), (4, .int x4)] [] 23) (this_upper : Int64) (this_lower : Int64) (this_cases : Nat → Int64) (x1 : Int32) (x2 : Int32) (x3 : Int32) (x4 : Int32) (hT : t_X4_countLate_23_b  k_23 this_upper this_lower this_cases x1 x2 x3 x4 = some (z0, z1, z2)) : J p l e rmX4_countLate s m args below meth c D A 6 (QV D below args s A (w_X4_countLate cI cJ cZ h_this q_this z0 z1 z2)) 0 0 (w_X4_countLate cI cJ cZ h_this q_this this_upper this_lower this_cases) [(0, .ref h_this), (1, .int x1), (2, .int x2), (3, .int x3), (4, .int x4)] [] 23 := by
  unfold t_X4_countLate_23_b at hT
  refine J_iload X dX4_countLate_23 4 rfl ?_
  refine J_iload_n X dX4_countLate_25 1 rfl ?_
  refine J_icmp_ge (tgt := 114) X dX4_countLate_26 (by decide) (fun hc10 => ?_) (fun hc10 => ?_)
  · have hT := ift hT hc10
    refine J_lv (lv' := [(0, .ref h_this), (2, .int x2)]) [0, 2] rfl ?_
    exact b_X4_countLate_114 X cI cJ cZ h_this q_this  z0 z1 z2  this_upper this_lower this_cases x2 hT
  · have hT := iff_ hT hc10
    refine J_aload_n X dX4_countLate_29 0 rfl ?_
    refine J_get (C := RX4) (T := TX4) (N := 3) (ci := 4) (v := .ref (q_this 0)) X in_X4_countLate_X4 0 rfl rfl 0 (by decide) m_X4_countLate_f9 rfl dX4_countLate_30 ?_
    refine J_alen (v := 13) X 1 1 rfl rfl rfl dX4_countLate_33 ?_
    refine J_iconst (v := 1) X dX4_countLate_34 (by decide) ?_
    refine J_isub X dX4_countLate_35 ?_
    refine J_istore (lv' := [(5, .int ((13 : Int32) - (1 : Int32))), (0, .ref h_this), (1, .int x1), (2, .int x2), (3, .int x3), (4, .int x4)]) X dX4_countLate_36 (by decide) rfl ?_
    refine J_lv (lv' := [(0, .ref h_this), (1, .int x1), (2, .int x2), (3, .int x3), (4, .int x4), (5, .int ((13 : Int32) - (1 : Int32)))]) [1, 2, 3, 4, 5, 0] rfl ?_
    exact b_X4_countLate_38 X cI cJ cZ h_this q_this  z0 z1 z2 k_23 hk_23 lfuel this_upper this_lower this_cases x1 x2 x3 x4 ((13 : Int32) - (1 : Int32)) hT
set_option maxHeartbeats 4000000 in
set_option maxRecDepth 100000 in
theorem b_X4_countLate_23 {p : Program} {l : Launch} {e : Env} {s : State} {m : MethodId} {args : Array Value} {below : List Frame} {meth : Method} {c : Code} {D : va_G} {A : Nat → Prop} {cI cJ cZ : ClassId} (X : Cx p m c cX4_countLate 6 s args wsX4_countLate RX4 D (tys3 cI cJ cZ) meth none) (_ _ _ : ClassId)  (h_this : Nat) (q_this : Nat → Nat)  (z0 : Int64) (z1 : Int64) (z2 : Nat → Int64)  : ∀ (n : Nat) (this_upper : Int64) (this_lower : Int64) (this_cases : Nat → Int64) (x1 : Int32) (x2 : Int32) (x3 : Int32) (x4 : Int32) (hT : t_X4_countLate_23   n this_upper this_lower this_cases x1 x2 x3 x4 = some (z0, z1, z2)), J p l e rmX4_countLate s m args below meth c D A 6 (QV D below args s A (w_X4_countLate cI cJ cZ h_this q_this z0 z1 z2)) 0 0 (w_X4_countLate cI cJ cZ h_this q_this this_upper this_lower this_cases) [(0, .ref h_this), (1, .int x1), (2, .int x2), (3, .int x3), (4, .int x4)] [] 23 := by
  intro n
  induction n with
  | zero => intro this_upper this_lower this_cases x1 x2 x3 x4 hT; cases hT
  | succ n ih =>
    intro this_upper this_lower this_cases x1 x2 x3 x4 hT
    exact b_X4_countLate_23_b X cI cJ cZ h_this q_this  z0 z1 z2  (t_X4_countLate_23   n) ih this_upper this_lower this_cases x1 x2 x3 x4 hT
set_option maxHeartbeats 4000000 in
set_option maxRecDepth 100000 in
theorem c_X4_countLate (l : Launch) (D : va_G) (cI cJ cZ : ClassId) (h_this : Nat) (q_this : Nat → Nat) (this_upper : Int64) (this_lower : Int64) (this_cases : Nat → Int64) (x1 : Int32) (x2 : Int32) (x3 : Int32) (z0 : Int64) (z1 : Int64) (z2 : Nat → Int64) (hT : t_X4_countLate  this_upper this_lower this_cases x1 x2 x3 = some (z0, z1, z2)) : Cv l yX4_countLate wsX4_countLate rmX4_countLate D (tys3 cI cJ cZ) [.ref h_this, .int x1, .int x2, .int x3] (w_X4_countLate cI cJ cZ h_this q_this this_upper this_lower this_cases) (w_X4_countLate cI cJ cZ h_this q_this z0 z1 z2) := by
  refine Cv.ofJ (cc := cX4_countLate) (nL := 6) (rt := none) (own := RX4) (by decide) rfl rfl (Nat.le_of_ble_eq_true rfl) ?_
  intro p e s m below meth c A X
  unfold t_X4_countLate at hT
  refine J_lv (lv' := [(0, .ref h_this), (1, .int x1), (2, .int x2), (3, .int x3)]) [0, 1, 2, 3] rfl ?_
  refine J_aload_n X dX4_countLate_0 0 rfl ?_
  refine J_get (C := RX4) (T := TX4) (N := 3) (ci := 4) (v := .ref (q_this 0)) X in_X4_countLate_X4 0 rfl rfl 0 (by decide) m_X4_countLate_f9 rfl dX4_countLate_1 ?_
  refine J_lconst (v := 0) X dX4_countLate_4 (by decide) ?_
  obtain ⟨u11_0, hq11, hT⟩ := bd1_e hT
  refine J_cv (wc := (w_J7_fill_d0a16 cI cJ cZ (q_this 0) 13 this_cases)) (wc' := (w_J7_fill_d0a16 cI cJ cZ (q_this 0) 13 u11_0)) (ws' := (w_X4_countLate cI cJ cZ h_this q_this this_upper this_lower u11_0)) [1] [0] 2 rfl rfl rfl rfl rfl rfl rfl rfl (run_S (As := [.ref (q_this 0), .long (0 : Int64)]) (rest := []) X (c_J7_fill_d0a16 l D cI cJ cZ (q_this 0) 13 this_cases (0 : Int64) u11_0 hq11) (cw_X4_countLate_J7_fill_d0a16_19 X.1.2.2.2.2) rfl rfl (Nat.le_of_ble_eq_true rfl) dX4_countLate_5 ⟨Nat.zero_le _, Nat.zero_le _⟩) ?_
  refine J_aload_n X dX4_countLate_8 0 rfl ?_
  refine J_get (C := RX4) (T := TX4) (N := 3) (ci := 4) (v := .ref (q_this 0)) X in_X4_countLate_X4 0 rfl rfl 0 (by decide) m_X4_countLate_f9 rfl dX4_countLate_9 ?_
  refine J_iconst (v := 0) X dX4_countLate_12 (by decide) ?_
  refine J_lconst (v := 1) X dX4_countLate_13 (by decide) ?_
  obtain ⟨hk12, hT⟩ := ckn_e hT
  refine J_last (ws' := (w_X4_countLate cI cJ cZ h_this q_this this_upper this_lower (vp_updL u11_0 (0 : Int32).toNatClampNeg (1 : Int64)))) X 1 rfl rfl hk12 rfl dX4_countLate_14 ?_
  refine J_aload_n X dX4_countLate_15 0 rfl ?_
  refine J_lconst (v := 1) X dX4_countLate_16 (by decide) ?_
  refine J_put (host := "") (C := RX4) (T := TX4) (N := 3) (ci := 4) (ws' := (w_X4_countLate cI cJ cZ h_this q_this this_upper (1 : Int64) (vp_updL u11_0 (0 : Int32).toNatClampNeg (1 : Int64)))) X in_X4_countLate_X4 0 rfl rfl 2 (by decide) tyX4 tyX4_ok nmX4 m_X4_countLate_f15 rfl rfl rfl (Nat.le_of_ble_eq_true rfl) rfl dX4_countLate_17 ?_
  refine J_iconst (v := 0) X dX4_countLate_20 (by decide) ?_
  refine J_istore (lv' := [(4, .int (0 : Int32)), (0, .ref h_this), (1, .int x1), (2, .int x2), (3, .int x3)]) X dX4_countLate_21 (by decide) rfl ?_
  refine J_lv (lv' := [(0, .ref h_this), (1, .int x1), (2, .int x2), (3, .int x3), (4, .int (0 : Int32))]) [1, 2, 3, 4, 0] rfl ?_
  exact b_X4_countLate_23 X cI cJ cZ h_this q_this  z0 z1 z2  lfuel this_upper (1 : Int64) (vp_updL u11_0 (0 : Int32).toNatClampNeg (1 : Int64)) x1 x2 x3 (0 : Int32) hT
-- ===== SoldMatches$Odds.inLowestTerms(I)J
abbrev rmX4_inLowestTerms : Room := { frames := 0, cells := 0, slots := 0, locals := 0 }
def w_X4_inLowestTerms (cI cJ cZ : ClassId) (h_this : Nat) (q_this : Nat → Nat) (this_upper : Int64) (this_lower : Int64) : va_W := [(h_this, .inr (4, oFX4 q_this this_upper this_lower))]
theorem m_X4_inLowestTerms_f15 : Cond.fieldLink RX4 15 "SoldMatches$Odds" "lower" "J" ∈ wsX4_inLowestTerms := List.mem_of_getElem? (i := 1) rfl
theorem in_X4_inLowestTerms_X4 : ∀ w ∈ wsX40, w ∈ wsX4_inLowestTerms := fun w h => List.mem_cons_of_mem _ (List.mem_append_right _ h)
theorem m_X4_inLowestTerms_f31 : Cond.fieldLink RX4 31 "SoldMatches$Odds" "upper" "J" ∈ wsX4_inLowestTerms := List.mem_of_getElem? (i := 2) rfl
def t_X4_inLowestTerms_72   (this_upper : Int64) (this_lower : Int64) (x2 : Int64) (s0 : Int64) : Option (Int64) := ckn (x2 = 0) (some (s0 / x2))
def t_X4_inLowestTerms_48   (this_upper : Int64) (this_lower : Int64) (x1 : Int32) (x2 : Int64) : Option (Int64) := if 0 < (lg_cmp x2 (0 : Int64)) then (if x1 = 0 then (t_X4_inLowestTerms_72   this_upper this_lower x2 this_upper) else (t_X4_inLowestTerms_72   this_upper this_lower x2 this_lower)) else (some (x1.toInt64))
def t_X4_inLowestTerms_14_b  (k_14 : Int64 → Int64 → Int32 → Int64 → Int64 → Int32 → Option (Int64)) (this_upper : Int64) (this_lower : Int64) (x1 : Int32) (x2 : Int64) (x4 : Int64) (x6 : Int32) : Option (Int64) := if (1000 : Int32) ≤ x6 then (t_X4_inLowestTerms_48   this_upper this_lower x1 x2) else (if (lg_cmp x4 (0 : Int64)) ≤ 0 then (t_X4_inLowestTerms_48   this_upper this_lower x1 x2) else (ckn (x4 = 0) (k_14 this_upper this_lower x1 x4 (x2 - x2 / x4 * x4) (x6 + (1 : Int32)))))
def t_X4_inLowestTerms_14   (n : Nat) : Int64 → Int64 → Int32 → Int64 → Int64 → Int32 → Option (Int64) := Nat.rec (fun _ _ _ _ _ _ => none) (fun _ ih => t_X4_inLowestTerms_14_b   ih) n
def t_X4_inLowestTerms  (this_upper : Int64) (this_lower : Int64) (x1 : Int32) : Option (Int64) := t_X4_inLowestTerms_14   lfuel this_upper this_lower x1 this_lower this_upper (0 : Int32)
set_option maxHeartbeats 4000000 in
set_option maxRecDepth 100000 in
theorem b_X4_inLowestTerms_72 {p : Program} {l : Launch} {e : Env} {s : State} {m : MethodId} {args : Array Value} {below : List Frame} {meth : Method} {c : Code} {D : va_G} {A : Nat → Prop} {cI cJ cZ : ClassId} (X : Cx p m c cX4_inLowestTerms 9 s args wsX4_inLowestTerms RX4 D (tys3 cI cJ cZ) meth (some .long)) (_ _ _ : ClassId)  (h_this : Nat) (q_this : Nat → Nat)  (r : Int64)  (this_upper : Int64) (this_lower : Int64) (x2 : Int64) (s0 : Int64) (hT : t_X4_inLowestTerms_72   this_upper this_lower x2 s0 = some r) : J p l e rmX4_inLowestTerms s m args below meth c D A 9 (QL D below args s A r (w_X4_inLowestTerms cI cJ cZ h_this q_this this_upper this_lower)) 0 0 (w_X4_inLowestTerms cI cJ cZ h_this q_this this_upper this_lower) [(0, .ref h_this), (2, .long x2)] [.long s0] 72 := by
  unfold t_X4_inLowestTerms_72 at hT
  refine J_lload_n X dX4_inLowestTerms_72 1 rfl ?_
  obtain ⟨hk1, hT⟩ := ckn_e hT
  refine J_ldiv X dX4_inLowestTerms_73 hk1 ?_
  cases hT
  exact J_lret X dX4_inLowestTerms_74
set_option maxHeartbeats 4000000 in
set_option maxRecDepth 100000 in
theorem b_X4_inLowestTerms_48 {p : Program} {l : Launch} {e : Env} {s : State} {m : MethodId} {args : Array Value} {below : List Frame} {meth : Method} {c : Code} {D : va_G} {A : Nat → Prop} {cI cJ cZ : ClassId} (X : Cx p m c cX4_inLowestTerms 9 s args wsX4_inLowestTerms RX4 D (tys3 cI cJ cZ) meth (some .long)) (_ _ _ : ClassId)  (h_this : Nat) (q_this : Nat → Nat)  (r : Int64)  (this_upper : Int64) (this_lower : Int64) (x1 : Int32) (x2 : Int64) (hT : t_X4_inLowestTerms_48   this_upper this_lower x1 x2 = some r) : J p l e rmX4_inLowestTerms s m args below meth c D A 9 (QL D below args s A r (w_X4_inLowestTerms cI cJ cZ h_this q_this this_upper this_lower)) 0 0 (w_X4_inLowestTerms cI cJ cZ h_this q_this this_upper this_lower) [(0, .ref h_this), (1, .int x1), (2, .long x2)] [] 48 := by
  unfold t_X4_inLowestTerms_48 at hT
  refine J_lload_n X dX4_inLowestTerms_48 2 rfl ?_
  refine J_lconst (v := 0) X dX4_inLowestTerms_49 (by decide) ?_
  refine J_lcmp X dX4_inLowestTerms_50 ?_
  refine J_if_gt (tgt := 57) X dX4_inLowestTerms_51 (by decide) (fun hc2 => ?_) (fun hc2 => ?_)
  · have hT := ift hT hc2
    refine J_iload_n X dX4_inLowestTerms_57 1 rfl ?_
    refine J_if_ne (tgt := 68) X dX4_inLowestTerms_58 (by decide) (fun hc3 => ?_) (fun hc3 => ?_)
    · have hT := iff_ hT hc3
      refine J_aload_n X dX4_inLowestTerms_68 0 rfl ?_
      refine J_get (C := RX4) (T := TX4) (N := 3) (ci := 4) (v := .long this_lower) X in_X4_inLowestTerms_X4 0 rfl rfl 2 (by decide) m_X4_inLowestTerms_f15 rfl dX4_inLowestTerms_69 ?_
      refine J_lv (lv' := [(0, .ref h_this), (2, .long x2)]) [0, 2] rfl ?_
      exact b_X4_inLowestTerms_72 X cI cJ cZ h_this q_this  r  this_upper this_lower x2 this_lower hT
    · have hT := ift hT hc3
      refine J_aload_n X dX4_inLowestTerms_61 0 rfl ?_
      refine J_get (C := RX4) (T := TX4) (N := 3) (ci := 4) (v := .long this_upper) X in_X4_inLowestTerms_X4 0 rfl rfl 1 (by decide) m_X4_inLowestTerms_f31 rfl dX4_inLowestTerms_62 ?_
      refine J_goto (tgt := 72) X dX4_inLowestTerms_65 (by decide) ?_
      refine J_lv (lv' := [(0, .ref h_this), (2, .long x2)]) [0, 2] rfl ?_
      exact b_X4_inLowestTerms_72 X cI cJ cZ h_this q_this  r  this_upper this_lower x2 this_upper hT
  · have hT := iff_ hT hc2
    refine J_iload_n X dX4_inLowestTerms_54 1 rfl ?_
    refine J_i2l X dX4_inLowestTerms_55 ?_
    cases hT
    exact J_lret X dX4_inLowestTerms_56
set_option maxHeartbeats 4000000 in
set_option maxRecDepth 100000 in
theorem b_X4_inLowestTerms_14_b {p : Program} {l : Launch} {e : Env} {s : State} {m : MethodId} {args : Array Value} {below : List Frame} {meth : Method} {c : Code} {D : va_G} {A : Nat → Prop} {cI cJ cZ : ClassId} (X : Cx p m c cX4_inLowestTerms 9 s args wsX4_inLowestTerms RX4 D (tys3 cI cJ cZ) meth (some .long)) (_ _ _ : ClassId)  (h_this : Nat) (q_this : Nat → Nat)  (r : Int64) (k_14 : Int64 → Int64 → Int32 → Int64 → Int64 → Int32 → Option (Int64)) (hk_14 : ∀ (this_upper : Int64) (this_lower : Int64) (x1 : Int32) (x2 : Int64) (x4 : Int64) (x6 : Int32), k_14 this_upper this_lower x1 x2 x4 x6 = some r → J p l e rmX4_inLowestTerms s m args below meth c D A 9 (QL D below args s A r (w_X4_inLowestTerms cI cJ cZ h_this q_this this_upper this_lower)) 0 0 (w_X4_inLowestTerms cI cJ cZ h_this q_this this_upper this_lower) [(0, .ref h_this), (1, .int x1), (2, .long x2), (4, .long x4), (6, .int x6)] [] 14) (this_upper : Int64) (this_lower : Int64) (x1 : Int32) (x2 : Int64) (x4 : Int64) (x6 : Int32) (hT : t_X4_inLowestTerms_14_b  k_14 this_upper this_lower x1 x2 x4 x6 = some r) : J p l e rmX4_inLowestTerms s m args below meth c D A 9 (QL D below args s A r (w_X4_inLowestTerms cI cJ cZ h_this q_this this_upper this_lower)) 0 0 (w_X4_inLowestTerms cI cJ cZ h_this q_this this_upper this_lower) [(0, .ref h_this), (1, .int x1), (2, .long x2), (4, .long x4), (6, .int x6)] [] 14 := by
  unfold t_X4_inLowestTerms_14_b at hT
  refine J_iload X dX4_inLowestTerms_14 4 rfl ?_
  refine J_sipush (v := 1000) X dX4_inLowestTerms_16 (by decide) ?_
  refine J_icmp_ge (tgt := 48) X dX4_inLowestTerms_19 (by decide) (fun hc4 => ?_) (fun hc4 => ?_)
  · have hT := ift hT hc4
    refine J_lv (lv' := [(0, .ref h_this), (1, .int x1), (2, .long x2)]) [0, 1, 2] rfl ?_
    exact b_X4_inLowestTerms_48 X cI cJ cZ h_this q_this  r  this_upper this_lower x1 x2 hT
  · have hT := iff_ hT hc4
    refine J_lload X dX4_inLowestTerms_22 3 rfl ?_
    refine J_lconst (v := 0) X dX4_inLowestTerms_24 (by decide) ?_
    refine J_lcmp X dX4_inLowestTerms_25 ?_
    refine J_if_le (tgt := 48) X dX4_inLowestTerms_26 (by decide) (fun hc5 => ?_) (fun hc5 => ?_)
    · have hT := ift hT hc5
      refine J_lv (lv' := [(0, .ref h_this), (1, .int x1), (2, .long x2)]) [0, 1, 2] rfl ?_
      exact b_X4_inLowestTerms_48 X cI cJ cZ h_this q_this  r  this_upper this_lower x1 x2 hT
    · have hT := iff_ hT hc5
      refine J_lload_n X dX4_inLowestTerms_29 2 rfl ?_
      refine J_lload X dX4_inLowestTerms_30 3 rfl ?_
      obtain ⟨hk6, hT⟩ := ckn_e hT
      refine J_lrem X dX4_inLowestTerms_32 hk6 ?_
      refine J_lstore (lv' := [(7, .long (x2 - x2 / x4 * x4)), (0, .ref h_this), (1, .int x1), (2, .long x2), (4, .long x4), (6, .int x6)]) X dX4_inLowestTerms_33 (by decide) rfl ?_
      refine J_lload X dX4_inLowestTerms_35 4 rfl ?_
      refine J_lstore_n (lv' := [(2, .long x4), (7, .long (x2 - x2 / x4 * x4)), (0, .ref h_this), (1, .int x1), (4, .long x4), (6, .int x6)]) X dX4_inLowestTerms_37 (by decide) rfl ?_
      refine J_lload X dX4_inLowestTerms_38 1 rfl ?_
      refine J_lstore (lv' := [(4, .long (x2 - x2 / x4 * x4)), (2, .long x4), (7, .long (x2 - x2 / x4 * x4)), (0, .ref h_this), (1, .int x1), (6, .int x6)]) X dX4_inLowestTerms_40 (by decide) rfl ?_
      refine J_iinc (lv' := [(6, .int (x6 + (1 : Int32))), (4, .long (x2 - x2 / x4 * x4)), (2, .long x4), (7, .long (x2 - x2 / x4 * x4)), (0, .ref h_this), (1, .int x1)]) (j := 5) X dX4_inLowestTerms_42 rfl rfl (by decide) rfl ?_
      refine J_goto (tgt := 14) X dX4_inLowestTerms_45 (by decide) ?_
      refine J_lv (lv' := [(0, .ref h_this), (1, .int x1), (2, .long x4), (4, .long (x2 - x2 / x4 * x4)), (6, .int (x6 + (1 : Int32)))]) [4, 5, 2, 1, 0] rfl ?_
      exact hk_14 this_upper this_lower x1 x4 (x2 - x2 / x4 * x4) (x6 + (1 : Int32)) hT
set_option maxHeartbeats 4000000 in
set_option maxRecDepth 100000 in
theorem b_X4_inLowestTerms_14 {p : Program} {l : Launch} {e : Env} {s : State} {m : MethodId} {args : Array Value} {below : List Frame} {meth : Method} {c : Code} {D : va_G} {A : Nat → Prop} {cI cJ cZ : ClassId} (X : Cx p m c cX4_inLowestTerms 9 s args wsX4_inLowestTerms RX4 D (tys3 cI cJ cZ) meth (some .long)) (_ _ _ : ClassId)  (h_this : Nat) (q_this : Nat → Nat)  (r : Int64)  : ∀ (n : Nat) (this_upper : Int64) (this_lower : Int64) (x1 : Int32) (x2 : Int64) (x4 : Int64) (x6 : Int32) (hT : t_X4_inLowestTerms_14   n this_upper this_lower x1 x2 x4 x6 = some r), J p l e rmX4_inLowestTerms s m args below meth c D A 9 (QL D below args s A r (w_X4_inLowestTerms cI cJ cZ h_this q_this this_upper this_lower)) 0 0 (w_X4_inLowestTerms cI cJ cZ h_this q_this this_upper this_lower) [(0, .ref h_this), (1, .int x1), (2, .long x2), (4, .long x4), (6, .int x6)] [] 14 := by
  intro n
  induction n with
  | zero => intro this_upper this_lower x1 x2 x4 x6 hT; cases hT
  | succ n ih =>
    intro this_upper this_lower x1 x2 x4 x6 hT
    exact b_X4_inLowestTerms_14_b X cI cJ cZ h_this q_this  r  (t_X4_inLowestTerms_14   n) ih this_upper this_lower x1 x2 x4 x6 hT
set_option maxHeartbeats 4000000 in
set_option maxRecDepth 100000 in
theorem c_X4_inLowestTerms (l : Launch) (D : va_G) (cI cJ cZ : ClassId) (h_this : Nat) (q_this : Nat → Nat) (this_upper : Int64) (this_lower : Int64) (x1 : Int32) (r : Int64) (hT : t_X4_inLowestTerms  this_upper this_lower x1 = some r) : Cl l yX4_inLowestTerms wsX4_inLowestTerms rmX4_inLowestTerms D (tys3 cI cJ cZ) [.ref h_this, .int x1] (w_X4_inLowestTerms cI cJ cZ h_this q_this this_upper this_lower) r (w_X4_inLowestTerms cI cJ cZ h_this q_this this_upper this_lower) := by
  refine Cl.ofJ (cc := cX4_inLowestTerms) (nL := 9) (rt := (some .long)) (own := RX4) (by decide) rfl rfl (Nat.le_of_ble_eq_true rfl) ?_
  intro p e s m below meth c A X
  unfold t_X4_inLowestTerms at hT
  refine J_lv (lv' := [(0, .ref h_this), (1, .int x1)]) [0, 1] rfl ?_
  refine J_aload_n X dX4_inLowestTerms_0 0 rfl ?_
  refine J_get (C := RX4) (T := TX4) (N := 3) (ci := 4) (v := .long this_lower) X in_X4_inLowestTerms_X4 0 rfl rfl 2 (by decide) m_X4_inLowestTerms_f15 rfl dX4_inLowestTerms_1 ?_
  refine J_lstore_n (lv' := [(2, .long this_lower), (0, .ref h_this), (1, .int x1)]) X dX4_inLowestTerms_4 (by decide) rfl ?_
  refine J_aload_n X dX4_inLowestTerms_5 1 rfl ?_
  refine J_get (C := RX4) (T := TX4) (N := 3) (ci := 4) (v := .long this_upper) X in_X4_inLowestTerms_X4 0 rfl rfl 1 (by decide) m_X4_inLowestTerms_f31 rfl dX4_inLowestTerms_6 ?_
  refine J_lstore (lv' := [(4, .long this_upper), (2, .long this_lower), (0, .ref h_this), (1, .int x1)]) X dX4_inLowestTerms_9 (by decide) rfl ?_
  refine J_iconst (v := 0) X dX4_inLowestTerms_11 (by decide) ?_
  refine J_istore (lv' := [(6, .int (0 : Int32)), (4, .long this_upper), (2, .long this_lower), (0, .ref h_this), (1, .int x1)]) X dX4_inLowestTerms_12 (by decide) rfl ?_
  refine J_lv (lv' := [(0, .ref h_this), (1, .int x1), (2, .long this_lower), (4, .long this_upper), (6, .int (0 : Int32))]) [3, 4, 2, 1, 0] rfl ?_
  exact b_X4_inLowestTerms_14 X cI cJ cZ h_this q_this  r  lfuel this_upper this_lower x1 this_lower this_upper (0 : Int32) hT
-- ===== SoldMatches$Purse.seekWorthy(LSoldMatches$Games;)I
abbrev rmX5_seekWorthy : Room := { frames := 5, cells := 0, slots := 0, locals := 127 }
def w_X5_seekWorthy (cI cJ cZ : ClassId) (h_p1 : Nat) (h_this : Nat) (q_p1 : Nat → Nat) (q_this : Nat → Nat) (q_p1_odds : Nat → Nat) (p1_count : Int32) (p1_base : Int32) (p1_topLean : Int32) (p1_topSpot : Int32) (this_bestSet : Int32) (this_bestSum : Int32) (this_sum : Int32) (this_cost : Int32) (p1_odds_upper : Int64) (p1_odds_lower : Int64) (p1_goals : Nat → Int32) (p1_guest : Nat → Int32) (p1_home : Nat → Int32) (p1_prices : Nat → Int32) (p1_skills : Nat → Int32) (this_leans : Nat → Int32) (p1_odds_cases : Nat → Int64) : va_W := [(h_p1, .inr (2, oFX2 q_p1 p1_count p1_base p1_topLean p1_topSpot)), (h_this, .inr (5, oFX5 q_this this_bestSet this_bestSum this_sum this_cost)), ((q_p1 10), .inr (4, oFX4 q_p1_odds p1_odds_upper p1_odds_lower)), ((q_p1 8), .inl (cI, 72, .inl p1_goals)), ((q_p1 4), .inl (cI, 12, .inl p1_guest)), ((q_p1 3), .inl (cI, 12, .inl p1_home)), ((q_p1 9), .inl (cI, 216, .inl p1_prices)), ((q_p1 2), .inl (cI, 8, .inl p1_skills)), ((q_this 0), .inl (cI, 12, .inl this_leans)), ((q_p1_odds 0), .inl (cJ, 13, .inr (.inl p1_odds_cases)))]
theorem in_X5_seekWorthy_X2 : ∀ w ∈ wsX20, w ∈ wsX5_seekWorthy := fun w h => List.mem_cons_of_mem _ (List.mem_append_left _ (List.mem_append_left _ (List.mem_append_right _ h)))
theorem cw_X5_seekWorthy_X2_seekTop_47 {s : State} {args : Array Value} (hts : ∀ w ∈ wsX5_seekWorthy, w.before args s = true) : CallW rmX5_seekWorthy s args RX5 RX2 47 yX2_seekTop cX2_seekTop 4 none wsX2_seekTop rmX2_seekTop 0 0 1 := cwV 1 hts gX5_seekWorthy_X2_seekTop rfl rfl rfl (by decide +kernel) ⟨by decide, by decide⟩
theorem m_X5_seekWorthy_f9 : Cond.fieldLink RX5 9 "SoldMatches$Purse" "leans" "[I" ∈ wsX5_seekWorthy := List.mem_of_getElem? (i := 1) rfl
theorem in_X5_seekWorthy_X5 : ∀ w ∈ wsX50, w ∈ wsX5_seekWorthy := fun w h => List.mem_cons_of_mem _ (List.mem_append_left _ (List.mem_append_right _ h))
def t_X5_seekWorthy_42  (k_4 : Int32 → Int32 → Int32 → Int32 → Int64 → Int64 → (Nat → Int32) → (Nat → Int32) → (Nat → Int32) → (Nat → Int32) → (Nat → Int32) → (Nat → Int32) → (Nat → Int64) → Int32 → Int32 → (Option (Int32 × Int32 × Int32 × Int64 × Int64 × (Nat → Int32) × (Nat → Int64)))) (p1_count : Int32) (p1_base : Int32) (p1_topLean : Int32) (p1_topSpot : Int32) (p1_odds_upper : Int64) (p1_odds_lower : Int64) (p1_goals : Nat → Int32) (p1_guest : Nat → Int32) (p1_home : Nat → Int32) (p1_prices : Nat → Int32) (p1_skills : Nat → Int32) (this_leans : Nat → Int32) (p1_odds_cases : Nat → Int64) (x2 : Int32) (x3 : Int32) : Option (Int32 × Int32 × Int32 × Int64 × Int64 × (Nat → Int32) × (Nat → Int64)) := k_4 p1_count p1_base p1_topLean p1_topSpot p1_odds_upper p1_odds_lower p1_goals p1_guest p1_home p1_prices p1_skills this_leans p1_odds_cases x2 (x3 + (1 : Int32))
def t_X5_seekWorthy_4_b  (k_4 : Int32 → Int32 → Int32 → Int32 → Int64 → Int64 → (Nat → Int32) → (Nat → Int32) → (Nat → Int32) → (Nat → Int32) → (Nat → Int32) → (Nat → Int32) → (Nat → Int64) → Int32 → Int32 → (Option (Int32 × Int32 × Int32 × Int64 × Int64 × (Nat → Int32) × (Nat → Int64)))) (p1_count : Int32) (p1_base : Int32) (p1_topLean : Int32) (p1_topSpot : Int32) (p1_odds_upper : Int64) (p1_odds_lower : Int64) (p1_goals : Nat → Int32) (p1_guest : Nat → Int32) (p1_home : Nat → Int32) (p1_prices : Nat → Int32) (p1_skills : Nat → Int32) (this_leans : Nat → Int32) (p1_odds_cases : Nat → Int64) (x2 : Int32) (x3 : Int32) : Option (Int32 × Int32 × Int32 × Int64 × Int64 × (Nat → Int32) × (Nat → Int64)) := if p1_count ≤ x3 then (some (x2, p1_topLean, p1_topSpot, p1_odds_upper, p1_odds_lower, this_leans, p1_odds_cases)) else (bd5 (t_X2_seekTop p1_base p1_topLean p1_topSpot p1_odds_upper p1_odds_lower p1_goals p1_guest p1_home p1_prices p1_skills p1_odds_cases x3) (fun u2_0 u2_1 u2_2 u2_3 u2_4 => ckn (x3 < 0 ∨ 12 ≤ x3.toNatClampNeg) (ckn (x3 < 0 ∨ 12 ≤ x3.toNatClampNeg) (if ((upd this_leans x3.toNatClampNeg u2_0) x3.toNatClampNeg) ≤ 0 then (t_X5_seekWorthy_42  k_4 p1_count p1_base u2_0 u2_1 u2_2 u2_3 p1_goals p1_guest p1_home p1_prices p1_skills (upd this_leans x3.toNatClampNeg u2_0) u2_4 x2 x3) else (t_X5_seekWorthy_42  k_4 p1_count p1_base u2_0 u2_1 u2_2 u2_3 p1_goals p1_guest p1_home p1_prices p1_skills (upd this_leans x3.toNatClampNeg u2_0) u2_4 (x2 ||| ((1 : Int32) <<< (x3 &&& 31))) x3)))))
def t_X5_seekWorthy_4   (n : Nat) : Int32 → Int32 → Int32 → Int32 → Int64 → Int64 → (Nat → Int32) → (Nat → Int32) → (Nat → Int32) → (Nat → Int32) → (Nat → Int32) → (Nat → Int32) → (Nat → Int64) → Int32 → Int32 → (Option (Int32 × Int32 × Int32 × Int64 × Int64 × (Nat → Int32) × (Nat → Int64))) := Nat.rec (fun _ _ _ _ _ _ _ _ _ _ _ _ _ _ _ => none) (fun _ ih => t_X5_seekWorthy_4_b   ih) n
def t_X5_seekWorthy  (p1_count : Int32) (p1_base : Int32) (p1_topLean : Int32) (p1_topSpot : Int32) (p1_odds_upper : Int64) (p1_odds_lower : Int64) (p1_goals : Nat → Int32) (p1_guest : Nat → Int32) (p1_home : Nat → Int32) (p1_prices : Nat → Int32) (p1_skills : Nat → Int32) (this_leans : Nat → Int32) (p1_odds_cases : Nat → Int64)  : Option (Int32 × Int32 × Int32 × Int64 × Int64 × (Nat → Int32) × (Nat → Int64)) := t_X5_seekWorthy_4   lfuel p1_count p1_base p1_topLean p1_topSpot p1_odds_upper p1_odds_lower p1_goals p1_guest p1_home p1_prices p1_skills this_leans p1_odds_cases (0 : Int32) (0 : Int32)
set_option maxHeartbeats 4000000 in
set_option maxRecDepth 100000 in
theorem b_X5_seekWorthy_42 {p : Program} {l : Launch} {e : Env} {s : State} {m : MethodId} {args : Array Value} {below : List Frame} {meth : Method} {c : Code} {D : va_G} {A : Nat → Prop} {cI cJ cZ : ClassId} (X : Cx p m c cX5_seekWorthy 4 s args wsX5_seekWorthy RX5 D (tys3 cI cJ cZ) meth (some .int)) (_ _ _ : ClassId)  (h_p1 : Nat) (h_this : Nat) (q_p1 : Nat → Nat) (q_this : Nat → Nat) (q_p1_odds : Nat → Nat) (this_bestSet : Int32) (this_bestSum : Int32) (this_sum : Int32) (this_cost : Int32) (r : Int32) (z0 : Int32) (z1 : Int32) (z2 : Int64) (z3 : Int64) (z4 : Nat → Int32) (z5 : Nat → Int64) (k_4 : Int32 → Int32 → Int32 → Int32 → Int64 → Int64 → (Nat → Int32) → (Nat → Int32) → (Nat → Int32) → (Nat → Int32) → (Nat → Int32) → (Nat → Int32) → (Nat → Int64) → Int32 → Int32 → (Option (Int32 × Int32 × Int32 × Int64 × Int64 × (Nat → Int32) × (Nat → Int64)))) (hk_4 : ∀ (p1_count : Int32) (p1_base : Int32) (p1_topLean : Int32) (p1_topSpot : Int32) (p1_odds_upper : Int64) (p1_odds_lower : Int64) (p1_goals : Nat → Int32) (p1_guest : Nat → Int32) (p1_home : Nat → Int32) (p1_prices : Nat → Int32) (p1_skills : Nat → Int32) (this_leans : Nat → Int32) (p1_odds_cases : Nat → Int64) (x2 : Int32) (x3 : Int32), k_4 p1_count p1_base p1_topLean p1_topSpot p1_odds_upper p1_odds_lower p1_goals p1_guest p1_home p1_prices p1_skills this_leans p1_odds_cases x2 x3 = some (r, z0, z1, z2, z3, z4, z5) → J p l e rmX5_seekWorthy s m args below meth c D A 4 (QI D below args s A r (w_X5_seekWorthy cI cJ cZ h_p1 h_this q_p1 q_this q_p1_odds p1_count p1_base z0 z1 this_bestSet this_bestSum this_sum this_cost z2 z3 p1_goals p1_guest p1_home p1_prices p1_skills z4 z5)) 0 0 (w_X5_seekWorthy cI cJ cZ h_p1 h_this q_p1 q_this q_p1_odds p1_count p1_base p1_topLean p1_topSpot this_bestSet this_bestSum this_sum this_cost p1_odds_upper p1_odds_lower p1_goals p1_guest p1_home p1_prices p1_skills this_leans p1_odds_cases) [(0, .ref h_this), (1, .ref h_p1), (2, .int x2), (3, .int x3)] [] 4) (p1_count : Int32) (p1_base : Int32) (p1_topLean : Int32) (p1_topSpot : Int32) (p1_odds_upper : Int64) (p1_odds_lower : Int64) (p1_goals : Nat → Int32) (p1_guest : Nat → Int32) (p1_home : Nat → Int32) (p1_prices : Nat → Int32) (p1_skills : Nat → Int32) (this_leans : Nat → Int32) (p1_odds_cases : Nat → Int64) (x2 : Int32) (x3 : Int32) (hT : t_X5_seekWorthy_42  k_4 p1_count p1_base p1_topLean p1_topSpot p1_odds_upper p1_odds_lower p1_goals p1_guest p1_home p1_prices p1_skills this_leans p1_odds_cases x2 x3 = some (r, z0, z1, z2, z3, z4, z5)) : J p l e rmX5_seekWorthy s m args below meth c D A 4 (QI D below args s A r (w_X5_seekWorthy cI cJ cZ h_p1 h_this q_p1 q_this q_p1_odds p1_count p1_base z0 z1 this_bestSet this_bestSum this_sum this_cost z2 z3 p1_goals p1_guest p1_home p1_prices p1_skills z4 z5)) 0 0 (w_X5_seekWorthy cI cJ cZ h_p1 h_this q_p1 q_this q_p1_odds p1_count p1_base p1_topLean p1_topSpot this_bestSet this_bestSum this_sum this_cost p1_odds_upper p1_odds_lower p1_goals p1_guest p1_home p1_prices p1_skills this_leans p1_odds_cases) [(0, .ref h_this), (1, .ref h_p1), (2, .int x2), (3, .int x3)] [] 42 := by
  unfold t_X5_seekWorthy_42 at hT
  refine J_iinc (lv' := [(3, .int (x3 + (1 : Int32))), (0, .ref h_this), (1, .ref h_p1), (2, .int x2)]) (j := 3) X dX5_seekWorthy_42 rfl rfl (by decide) rfl ?_
  refine J_goto (tgt := 4) X dX5_seekWorthy_45 (by decide) ?_
  refine J_lv (lv' := [(0, .ref h_this), (1, .ref h_p1), (2, .int x2), (3, .int (x3 + (1 : Int32)))]) [1, 2, 3, 0] rfl ?_
  exact hk_4 p1_count p1_base p1_topLean p1_topSpot p1_odds_upper p1_odds_lower p1_goals p1_guest p1_home p1_prices p1_skills this_leans p1_odds_cases x2 (x3 + (1 : Int32)) hT
set_option maxHeartbeats 4000000 in
set_option maxRecDepth 100000 in
theorem b_X5_seekWorthy_4_b {p : Program} {l : Launch} {e : Env} {s : State} {m : MethodId} {args : Array Value} {below : List Frame} {meth : Method} {c : Code} {D : va_G} {A : Nat → Prop} {cI cJ cZ : ClassId} (X : Cx p m c cX5_seekWorthy 4 s args wsX5_seekWorthy RX5 D (tys3 cI cJ cZ) meth (some .int)) (_ _ _ : ClassId)  (h_p1 : Nat) (h_this : Nat) (q_p1 : Nat → Nat) (q_this : Nat → Nat) (q_p1_odds : Nat → Nat) (this_bestSet : Int32) (this_bestSum : Int32) (this_sum : Int32) (this_cost : Int32) (r : Int32) (z0 : Int32) (z1 : Int32) (z2 : Int64) (z3 : Int64) (z4 : Nat → Int32) (z5 : Nat → Int64) (k_4 : Int32 → Int32 → Int32 → Int32 → Int64 → Int64 → (Nat → Int32) → (Nat → Int32) → (Nat → Int32) → (Nat → Int32) → (Nat → Int32) → (Nat → Int32) → (Nat → Int64) → Int32 → Int32 → (Option (Int32 × Int32 × Int32 × Int64 × Int64 × (Nat → Int32) × (Nat → Int64)))) (hk_4 : ∀ (p1_count : Int32) (p1_base : Int32) (p1_topLean : Int32) (p1_topSpot : Int32) (p1_odds_upper : Int64) (p1_odds_lower : Int64) (p1_goals : Nat → Int32) (p1_guest : Nat → Int32) (p1_home : Nat → Int32) (p1_prices : Nat → Int32) (p1_skills : Nat → Int32) (this_leans : Nat → Int32) (p1_odds_cases : Nat → Int64) (x2 : Int32) (x3 : Int32), k_4 p1_count p1_base p1_topLean p1_topSpot p1_odds_upper p1_odds_lower p1_goals p1_guest p1_home p1_prices p1_skills this_leans p1_odds_cases x2 x3 = some (r, z0, z1, z2, z3, z4, z5) → J p l e rmX5_seekWorthy s m args below meth c D A 4 (QI D below args s A r (w_X5_seekWorthy cI cJ cZ h_p1 h_this q_p1 q_this q_p1_odds p1_count p1_base z0 z1 this_bestSet this_bestSum this_sum this_cost z2 z3 p1_goals p1_guest p1_home p1_prices p1_skills z4 z5)) 0 0 (w_X5_seekWorthy cI cJ cZ h_p1 h_this q_p1 q_this q_p1_odds p1_count p1_base p1_topLean p1_topSpot this_bestSet this_bestSum this_sum this_cost p1_odds_upper p1_odds_lower p1_goals p1_guest p1_home p1_prices p1_skills this_leans p1_odds_cases) [(0, .ref h_this), (1, .ref h_p1), (2, .int x2), (3, .int x3)] [] 4) (p1_count : Int32) (p1_base : Int32) (p1_topLean : Int32) (p1_topSpot : Int32) (p1_odds_upper : Int64) (p1_odds_lower : Int64) (p1_goals : Nat → Int32) (p1_guest : Nat → Int32) (p1_home : Nat → Int32) (p1_prices : Nat → Int32) (p1_skills : Nat → Int32) (this_leans : Nat → Int32) (p1_odds_cases : Nat → Int64) (x2 : Int32) (x3 : Int32) (hT : t_X5_seekWorthy_4_b  k_4 p1_count p1_base p1_topLean p1_topSpot p1_odds_upper p1_odds_lower p1_goals p1_guest p1_home p1_prices p1_skills this_leans p1_odds_cases x2 x3 = some (r, z0, z1, z2, z3, z4, z5)) : J p l e rmX5_seekWorthy s m args below meth c D A 4 (QI D below args s A r (w_X5_seekWorthy cI cJ cZ h_p1 h_this q_p1 q_this q_p1_odds p1_count p1_base z0 z1 this_bestSet this_bestSum this_sum this_cost z2 z3 p1_goals p1_guest p1_home p1_prices p1_skills z4 z5)) 0 0 (w_X5_seekWorthy cI cJ cZ h_p1 h_this q_p1 q_this q_p1_odds p1_count p1_base p1_topLean p1_topSpot this_bestSet this_bestSum this_sum this_cost p1_odds_upper p1_odds_lower p1_goals p1_guest p1_home p1_prices p1_skills this_leans p1_odds_cases) [(0, .ref h_this), (1, .ref h_p1), (2, .int x2), (3, .int x3)] [] 4 := by
  unfold t_X5_seekWorthy_4_b at hT
  refine J_iload_n X dX5_seekWorthy_4 3 rfl ?_
  refine J_aload_n X dX5_seekWorthy_5 1 rfl ?_
  refine J_getN (host := "SoldMatches") (C := RX2) (T := TX2) (N := 13) (ci := 2) (v := .int p1_count) X in_X5_seekWorthy_X2 0 rfl rfl 0 (by decide) (List.mem_of_getElem? (i := 2) rfl) rfl dX5_seekWorthy_6 ?_
  refine J_icmp_ge (tgt := 48) X dX5_seekWorthy_9 (by decide) (fun hc1 => ?_) (fun hc1 => ?_)
  · have hT := ift hT hc1
    refine J_iload_n X dX5_seekWorthy_48 2 rfl ?_
    cases hT
    exact J_iret X dX5_seekWorthy_49
  · have hT := iff_ hT hc1
    refine J_aload_n X dX5_seekWorthy_12 1 rfl ?_
    refine J_iload_n X dX5_seekWorthy_13 3 rfl ?_
    obtain ⟨u2_0, u2_1, u2_2, u2_3, u2_4, hq2, hT⟩ := bd5_e hT
    refine J_cv (wc := (w_X2_seekTop cI cJ cZ h_p1 q_p1 q_p1_odds p1_count p1_base p1_topLean p1_topSpot p1_odds_upper p1_odds_lower p1_goals p1_guest p1_home p1_prices p1_skills p1_odds_cases)) (wc' := (w_X2_seekTop cI cJ cZ h_p1 q_p1 q_p1_odds p1_count p1_base u2_0 u2_1 u2_2 u2_3 p1_goals p1_guest p1_home p1_prices p1_skills u2_4)) (ws' := (w_X5_seekWorthy cI cJ cZ h_p1 h_this q_p1 q_this q_p1_odds p1_count p1_base u2_0 u2_1 this_bestSet this_bestSum this_sum this_cost u2_2 u2_3 p1_goals p1_guest p1_home p1_prices p1_skills this_leans u2_4)) (idxs [true, false, true, true, true, true, true, true, false, true] 0) (idxs [false, true, false, false, false, false, false, false, true, false] 0) 10 rfl rfl rfl (pick_C _ rfl rfl) rfl (pick_C _ rfl rfl) rfl (pick_R _ rfl rfl rfl) (run_V (As := [.int x3]) (rest := []) X (c_X2_seekTop l D cI cJ cZ h_p1 q_p1 q_p1_odds p1_count p1_base p1_topLean p1_topSpot p1_odds_upper p1_odds_lower p1_goals p1_guest p1_home p1_prices p1_skills p1_odds_cases x3 u2_0 u2_1 u2_2 u2_3 u2_4 hq2) (cw_X5_seekWorthy_X2_seekTop_47 X.1.2.2.2.2) 0 rfl rfl rfl rfl (Nat.le_of_ble_eq_true rfl) dX5_seekWorthy_14 ⟨Nat.zero_le _, Nat.zero_le _⟩) ?_
    refine J_aload_n X dX5_seekWorthy_17 0 rfl ?_
    refine J_get (C := RX5) (T := TX5) (N := 5) (ci := 5) (v := .ref (q_this 0)) X in_X5_seekWorthy_X5 1 rfl rfl 0 (by decide) m_X5_seekWorthy_f9 rfl dX5_seekWorthy_18 ?_
    refine J_iload_n X dX5_seekWorthy_21 3 rfl ?_
    refine J_aload_n X dX5_seekWorthy_22 1 rfl ?_
    refine J_getN (host := "SoldMatches") (C := RX2) (T := TX2) (N := 13) (ci := 2) (v := .int u2_0) X in_X5_seekWorthy_X2 0 rfl rfl 11 (by decide) (List.mem_of_getElem? (i := 19) rfl) rfl dX5_seekWorthy_23 ?_
    obtain ⟨hk3, hT⟩ := ckn_e hT
    refine J_iast (ws' := (w_X5_seekWorthy cI cJ cZ h_p1 h_this q_p1 q_this q_p1_odds p1_count p1_base u2_0 u2_1 this_bestSet this_bestSum this_sum this_cost u2_2 u2_3 p1_goals p1_guest p1_home p1_prices p1_skills (upd this_leans x3.toNatClampNeg u2_0) u2_4)) X 8 rfl rfl hk3 rfl dX5_seekWorthy_26 ?_
    refine J_aload_n X dX5_seekWorthy_27 0 rfl ?_
    refine J_get (C := RX5) (T := TX5) (N := 5) (ci := 5) (v := .ref (q_this 0)) X in_X5_seekWorthy_X5 1 rfl rfl 0 (by decide) m_X5_seekWorthy_f9 rfl dX5_seekWorthy_28 ?_
    refine J_iload_n X dX5_seekWorthy_31 3 rfl ?_
    obtain ⟨hk4, hT⟩ := ckn_e hT
    refine J_iald X 8 rfl rfl hk4 dX5_seekWorthy_32 ?_
    refine J_if_le (tgt := 42) X dX5_seekWorthy_33 (by decide) (fun hc5 => ?_) (fun hc5 => ?_)
    · have hT := ift hT hc5
      exact b_X5_seekWorthy_42 X cI cJ cZ h_p1 h_this q_p1 q_this q_p1_odds this_bestSet this_bestSum this_sum this_cost r z0 z1 z2 z3 z4 z5 k_4 hk_4 p1_count p1_base u2_0 u2_1 u2_2 u2_3 p1_goals p1_guest p1_home p1_prices p1_skills (upd this_leans x3.toNatClampNeg u2_0) u2_4 x2 x3 hT
    · have hT := iff_ hT hc5
      refine J_iload_n X dX5_seekWorthy_36 2 rfl ?_
      refine J_iconst (v := 1) X dX5_seekWorthy_37 (by decide) ?_
      refine J_iload_n X dX5_seekWorthy_38 3 rfl ?_
      refine J_ishl X dX5_seekWorthy_39 ?_
      refine J_ior X dX5_seekWorthy_40 ?_
      refine J_istore_n (lv' := [(2, .int (x2 ||| ((1 : Int32) <<< (x3 &&& 31)))), (0, .ref h_this), (1, .ref h_p1), (3, .int x3)]) X dX5_seekWorthy_41 (by decide) rfl ?_
      refine J_lv (lv' := [(0, .ref h_this), (1, .ref h_p1), (2, .int (x2 ||| ((1 : Int32) <<< (x3 &&& 31)))), (3, .int x3)]) [1, 2, 0, 3] rfl ?_
      exact b_X5_seekWorthy_42 X cI cJ cZ h_p1 h_this q_p1 q_this q_p1_odds this_bestSet this_bestSum this_sum this_cost r z0 z1 z2 z3 z4 z5 k_4 hk_4 p1_count p1_base u2_0 u2_1 u2_2 u2_3 p1_goals p1_guest p1_home p1_prices p1_skills (upd this_leans x3.toNatClampNeg u2_0) u2_4 (x2 ||| ((1 : Int32) <<< (x3 &&& 31))) x3 hT
set_option maxHeartbeats 4000000 in
set_option maxRecDepth 100000 in
theorem b_X5_seekWorthy_4 {p : Program} {l : Launch} {e : Env} {s : State} {m : MethodId} {args : Array Value} {below : List Frame} {meth : Method} {c : Code} {D : va_G} {A : Nat → Prop} {cI cJ cZ : ClassId} (X : Cx p m c cX5_seekWorthy 4 s args wsX5_seekWorthy RX5 D (tys3 cI cJ cZ) meth (some .int)) (_ _ _ : ClassId)  (h_p1 : Nat) (h_this : Nat) (q_p1 : Nat → Nat) (q_this : Nat → Nat) (q_p1_odds : Nat → Nat) (this_bestSet : Int32) (this_bestSum : Int32) (this_sum : Int32) (this_cost : Int32) (r : Int32) (z0 : Int32) (z1 : Int32) (z2 : Int64) (z3 : Int64) (z4 : Nat → Int32) (z5 : Nat → Int64)  : ∀ (n : Nat) (p1_count : Int32) (p1_base : Int32) (p1_topLean : Int32) (p1_topSpot : Int32) (p1_odds_upper : Int64) (p1_odds_lower : Int64) (p1_goals : Nat → Int32) (p1_guest : Nat → Int32) (p1_home : Nat → Int32) (p1_prices : Nat → Int32) (p1_skills : Nat → Int32) (this_leans : Nat → Int32) (p1_odds_cases : Nat → Int64) (x2 : Int32) (x3 : Int32) (hT : t_X5_seekWorthy_4   n p1_count p1_base p1_topLean p1_topSpot p1_odds_upper p1_odds_lower p1_goals p1_guest p1_home p1_prices p1_skills this_leans p1_odds_cases x2 x3 = some (r, z0, z1, z2, z3, z4, z5)), J p l e rmX5_seekWorthy s m args below meth c D A 4 (QI D below args s A r (w_X5_seekWorthy cI cJ cZ h_p1 h_this q_p1 q_this q_p1_odds p1_count p1_base z0 z1 this_bestSet this_bestSum this_sum this_cost z2 z3 p1_goals p1_guest p1_home p1_prices p1_skills z4 z5)) 0 0 (w_X5_seekWorthy cI cJ cZ h_p1 h_this q_p1 q_this q_p1_odds p1_count p1_base p1_topLean p1_topSpot this_bestSet this_bestSum this_sum this_cost p1_odds_upper p1_odds_lower p1_goals p1_guest p1_home p1_prices p1_skills this_leans p1_odds_cases) [(0, .ref h_this), (1, .ref h_p1), (2, .int x2), (3, .int x3)] [] 4 := by
  intro n
  induction n with
  | zero => intro p1_count p1_base p1_topLean p1_topSpot p1_odds_upper p1_odds_lower p1_goals p1_guest p1_home p1_prices p1_skills this_leans p1_odds_cases x2 x3 hT; cases hT
  | succ n ih =>
    intro p1_count p1_base p1_topLean p1_topSpot p1_odds_upper p1_odds_lower p1_goals p1_guest p1_home p1_prices p1_skills this_leans p1_odds_cases x2 x3 hT
    exact b_X5_seekWorthy_4_b X cI cJ cZ h_p1 h_this q_p1 q_this q_p1_odds this_bestSet this_bestSum this_sum this_cost r z0 z1 z2 z3 z4 z5  (t_X5_seekWorthy_4   n) ih p1_count p1_base p1_topLean p1_topSpot p1_odds_upper p1_odds_lower p1_goals p1_guest p1_home p1_prices p1_skills this_leans p1_odds_cases x2 x3 hT
set_option maxHeartbeats 4000000 in
set_option maxRecDepth 100000 in
theorem c_X5_seekWorthy (l : Launch) (D : va_G) (cI cJ cZ : ClassId) (h_p1 : Nat) (h_this : Nat) (q_p1 : Nat → Nat) (q_this : Nat → Nat) (q_p1_odds : Nat → Nat) (p1_count : Int32) (p1_base : Int32) (p1_topLean : Int32) (p1_topSpot : Int32) (this_bestSet : Int32) (this_bestSum : Int32) (this_sum : Int32) (this_cost : Int32) (p1_odds_upper : Int64) (p1_odds_lower : Int64) (p1_goals : Nat → Int32) (p1_guest : Nat → Int32) (p1_home : Nat → Int32) (p1_prices : Nat → Int32) (p1_skills : Nat → Int32) (this_leans : Nat → Int32) (p1_odds_cases : Nat → Int64)  (r : Int32) (z0 : Int32) (z1 : Int32) (z2 : Int64) (z3 : Int64) (z4 : Nat → Int32) (z5 : Nat → Int64) (hT : t_X5_seekWorthy  p1_count p1_base p1_topLean p1_topSpot p1_odds_upper p1_odds_lower p1_goals p1_guest p1_home p1_prices p1_skills this_leans p1_odds_cases  = some (r, z0, z1, z2, z3, z4, z5)) : Ci l yX5_seekWorthy wsX5_seekWorthy rmX5_seekWorthy D (tys3 cI cJ cZ) [.ref h_this, .ref h_p1] (w_X5_seekWorthy cI cJ cZ h_p1 h_this q_p1 q_this q_p1_odds p1_count p1_base p1_topLean p1_topSpot this_bestSet this_bestSum this_sum this_cost p1_odds_upper p1_odds_lower p1_goals p1_guest p1_home p1_prices p1_skills this_leans p1_odds_cases) r (w_X5_seekWorthy cI cJ cZ h_p1 h_this q_p1 q_this q_p1_odds p1_count p1_base z0 z1 this_bestSet this_bestSum this_sum this_cost z2 z3 p1_goals p1_guest p1_home p1_prices p1_skills z4 z5) := by
  refine Ci.ofJ (cc := cX5_seekWorthy) (nL := 4) (rt := (some .int)) (own := RX5) (by decide) rfl rfl (Nat.le_of_ble_eq_true rfl) ?_
  intro p e s m below meth c A X
  unfold t_X5_seekWorthy at hT
  refine J_lv (lv' := [(0, .ref h_this), (1, .ref h_p1)]) [0, 1] rfl ?_
  refine J_iconst (v := 0) X dX5_seekWorthy_0 (by decide) ?_
  refine J_istore_n (lv' := [(2, .int (0 : Int32)), (0, .ref h_this), (1, .ref h_p1)]) X dX5_seekWorthy_1 (by decide) rfl ?_
  refine J_iconst (v := 0) X dX5_seekWorthy_2 (by decide) ?_
  refine J_istore_n (lv' := [(3, .int (0 : Int32)), (2, .int (0 : Int32)), (0, .ref h_this), (1, .ref h_p1)]) X dX5_seekWorthy_3 (by decide) rfl ?_
  refine J_lv (lv' := [(0, .ref h_this), (1, .ref h_p1), (2, .int (0 : Int32)), (3, .int (0 : Int32))]) [2, 3, 1, 0] rfl ?_
  exact b_X5_seekWorthy_4 X cI cJ cZ h_p1 h_this q_p1 q_this q_p1_odds this_bestSet this_bestSum this_sum this_cost r z0 z1 z2 z3 z4 z5  lfuel p1_count p1_base p1_topLean p1_topSpot p1_odds_upper p1_odds_lower p1_goals p1_guest p1_home p1_prices p1_skills this_leans p1_odds_cases (0 : Int32) (0 : Int32) hT
-- ===== java/lang/Integer.bitCount(I)I
abbrev rmJ6_bitCount_0f7a4 : Room := { frames := 0, cells := 0, slots := 0, locals := 0 }
def w_J6_bitCount_0f7a4 (cI cJ cZ : ClassId)  : va_W := []
theorem m_J6_bitCount_0f7a4_c265 : Cond.constant RJ6 265 (1431655765) ∈ wsJ6_bitCount_0f7a4 := List.mem_of_getElem? (i := 1) rfl
theorem m_J6_bitCount_0f7a4_c266 : Cond.constant RJ6 266 (858993459) ∈ wsJ6_bitCount_0f7a4 := List.mem_of_getElem? (i := 2) rfl
theorem m_J6_bitCount_0f7a4_c267 : Cond.constant RJ6 267 (252645135) ∈ wsJ6_bitCount_0f7a4 := List.mem_of_getElem? (i := 3) rfl
def t_J6_bitCount_0f7a4   (x0 : Int32) : Option (Int32) := some ((((((((x0 - (((x0.toUInt32 >>> ((1 : Int32).toUInt32 &&& Int32.toUInt32 31)).toInt32) &&& (1431655765 : Int32))) &&& (858993459 : Int32)) + ((((x0 - (((x0.toUInt32 >>> ((1 : Int32).toUInt32 &&& Int32.toUInt32 31)).toInt32) &&& (1431655765 : Int32))).toUInt32 >>> ((2 : Int32).toUInt32 &&& Int32.toUInt32 31)).toInt32) &&& (858993459 : Int32))) + (((((x0 - (((x0.toUInt32 >>> ((1 : Int32).toUInt32 &&& Int32.toUInt32 31)).toInt32) &&& (1431655765 : Int32))) &&& (858993459 : Int32)) + ((((x0 - (((x0.toUInt32 >>> ((1 : Int32).toUInt32 &&& Int32.toUInt32 31)).toInt32) &&& (1431655765 : Int32))).toUInt32 >>> ((2 : Int32).toUInt32 &&& Int32.toUInt32 31)).toInt32) &&& (858993459 : Int32))).toUInt32 >>> ((4 : Int32).toUInt32 &&& Int32.toUInt32 31)).toInt32)) &&& (252645135 : Int32)) + (((((((x0 - (((x0.toUInt32 >>> ((1 : Int32).toUInt32 &&& Int32.toUInt32 31)).toInt32) &&& (1431655765 : Int32))) &&& (858993459 : Int32)) + ((((x0 - (((x0.toUInt32 >>> ((1 : Int32).toUInt32 &&& Int32.toUInt32 31)).toInt32) &&& (1431655765 : Int32))).toUInt32 >>> ((2 : Int32).toUInt32 &&& Int32.toUInt32 31)).toInt32) &&& (858993459 : Int32))) + (((((x0 - (((x0.toUInt32 >>> ((1 : Int32).toUInt32 &&& Int32.toUInt32 31)).toInt32) &&& (1431655765 : Int32))) &&& (858993459 : Int32)) + ((((x0 - (((x0.toUInt32 >>> ((1 : Int32).toUInt32 &&& Int32.toUInt32 31)).toInt32) &&& (1431655765 : Int32))).toUInt32 >>> ((2 : Int32).toUInt32 &&& Int32.toUInt32 31)).toInt32) &&& (858993459 : Int32))).toUInt32 >>> ((4 : Int32).toUInt32 &&& Int32.toUInt32 31)).toInt32)) &&& (252645135 : Int32)).toUInt32 >>> ((8 : Int32).toUInt32 &&& Int32.toUInt32 31)).toInt32)) + ((((((((x0 - (((x0.toUInt32 >>> ((1 : Int32).toUInt32 &&& Int32.toUInt32 31)).toInt32) &&& (1431655765 : Int32))) &&& (858993459 : Int32)) + ((((x0 - (((x0.toUInt32 >>> ((1 : Int32).toUInt32 &&& Int32.toUInt32 31)).toInt32) &&& (1431655765 : Int32))).toUInt32 >>> ((2 : Int32).toUInt32 &&& Int32.toUInt32 31)).toInt32) &&& (858993459 : Int32))) + (((((x0 - (((x0.toUInt32 >>> ((1 : Int32).toUInt32 &&& Int32.toUInt32 31)).toInt32) &&& (1431655765 : Int32))) &&& (858993459 : Int32)) + ((((x0 - (((x0.toUInt32 >>> ((1 : Int32).toUInt32 &&& Int32.toUInt32 31)).toInt32) &&& (1431655765 : Int32))).toUInt32 >>> ((2 : Int32).toUInt32 &&& Int32.toUInt32 31)).toInt32) &&& (858993459 : Int32))).toUInt32 >>> ((4 : Int32).toUInt32 &&& Int32.toUInt32 31)).toInt32)) &&& (252645135 : Int32)) + (((((((x0 - (((x0.toUInt32 >>> ((1 : Int32).toUInt32 &&& Int32.toUInt32 31)).toInt32) &&& (1431655765 : Int32))) &&& (858993459 : Int32)) + ((((x0 - (((x0.toUInt32 >>> ((1 : Int32).toUInt32 &&& Int32.toUInt32 31)).toInt32) &&& (1431655765 : Int32))).toUInt32 >>> ((2 : Int32).toUInt32 &&& Int32.toUInt32 31)).toInt32) &&& (858993459 : Int32))) + (((((x0 - (((x0.toUInt32 >>> ((1 : Int32).toUInt32 &&& Int32.toUInt32 31)).toInt32) &&& (1431655765 : Int32))) &&& (858993459 : Int32)) + ((((x0 - (((x0.toUInt32 >>> ((1 : Int32).toUInt32 &&& Int32.toUInt32 31)).toInt32) &&& (1431655765 : Int32))).toUInt32 >>> ((2 : Int32).toUInt32 &&& Int32.toUInt32 31)).toInt32) &&& (858993459 : Int32))).toUInt32 >>> ((4 : Int32).toUInt32 &&& Int32.toUInt32 31)).toInt32)) &&& (252645135 : Int32)).toUInt32 >>> ((8 : Int32).toUInt32 &&& Int32.toUInt32 31)).toInt32)).toUInt32 >>> ((16 : Int32).toUInt32 &&& Int32.toUInt32 31)).toInt32)) &&& (63 : Int32))
set_option maxHeartbeats 4000000 in
set_option maxRecDepth 100000 in
theorem c_J6_bitCount_0f7a4 (l : Launch) (D : va_G) (cI cJ cZ : ClassId)  (x0 : Int32) (r : Int32) (hT : t_J6_bitCount_0f7a4   x0 = some r) : Ci l yJ6_bitCount_0f7a4 wsJ6_bitCount_0f7a4 rmJ6_bitCount_0f7a4 D (tys3 cI cJ cZ) [.int x0] (w_J6_bitCount_0f7a4 cI cJ cZ ) r (w_J6_bitCount_0f7a4 cI cJ cZ ) := by
  refine Ci.ofJ (cc := cJ6_bitCount_0f7a4) (nL := 1) (rt := (some .int)) (own := RJ6) (by decide) rfl rfl (Nat.le_of_ble_eq_true rfl) ?_
  intro p e s m below meth c A X
  unfold t_J6_bitCount_0f7a4 at hT
  refine J_lv (lv' := [(0, .int x0)]) [0] rfl ?_
  refine J_iload_n X dJ6_bitCount_0f7a4_0 0 rfl ?_
  refine J_iload_n X dJ6_bitCount_0f7a4_1 0 rfl ?_
  refine J_iconst (v := 1) X dJ6_bitCount_0f7a4_2 (by decide) ?_
  refine J_iushr X dJ6_bitCount_0f7a4_3 ?_
  refine J_ldcw X dJ6_bitCount_0f7a4_4 m_J6_bitCount_0f7a4_c265 ?_
  refine J_iand X dJ6_bitCount_0f7a4_7 ?_
  refine J_isub X dJ6_bitCount_0f7a4_8 ?_
  refine J_istore_n (lv' := [(0, .int (x0 - (((x0.toUInt32 >>> ((1 : Int32).toUInt32 &&& Int32.toUInt32 31)).toInt32) &&& (1431655765 : Int32))))]) X dJ6_bitCount_0f7a4_9 (by decide) rfl ?_
  refine J_iload_n X dJ6_bitCount_0f7a4_10 0 rfl ?_
  refine J_ldcw X dJ6_bitCount_0f7a4_11 m_J6_bitCount_0f7a4_c266 ?_
  refine J_iand X dJ6_bitCount_0f7a4_14 ?_
  refine J_iload_n X dJ6_bitCount_0f7a4_15 0 rfl ?_
  refine J_iconst (v := 2) X dJ6_bitCount_0f7a4_16 (by decide) ?_
  refine J_iushr X dJ6_bitCount_0f7a4_17 ?_
  refine J_ldcw X dJ6_bitCount_0f7a4_18 m_J6_bitCount_0f7a4_c266 ?_
  refine J_iand X dJ6_bitCount_0f7a4_21 ?_
  refine J_iadd X dJ6_bitCount_0f7a4_22 ?_
  refine J_istore_n (lv' := [(0, .int (((x0 - (((x0.toUInt32 >>> ((1 : Int32).toUInt32 &&& Int32.toUInt32 31)).toInt32) &&& (1431655765 : Int32))) &&& (858993459 : Int32)) + ((((x0 - (((x0.toUInt32 >>> ((1 : Int32).toUInt32 &&& Int32.toUInt32 31)).toInt32) &&& (1431655765 : Int32))).toUInt32 >>> ((2 : Int32).toUInt32 &&& Int32.toUInt32 31)).toInt32) &&& (858993459 : Int32))))]) X dJ6_bitCount_0f7a4_23 (by decide) rfl ?_
  refine J_iload_n X dJ6_bitCount_0f7a4_24 0 rfl ?_
  refine J_iload_n X dJ6_bitCount_0f7a4_25 0 rfl ?_
  refine J_iconst (v := 4) X dJ6_bitCount_0f7a4_26 (by decide) ?_
  refine J_iushr X dJ6_bitCount_0f7a4_27 ?_
  refine J_iadd X dJ6_bitCount_0f7a4_28 ?_
  refine J_ldcw X dJ6_bitCount_0f7a4_29 m_J6_bitCount_0f7a4_c267 ?_
  refine J_iand X dJ6_bitCount_0f7a4_32 ?_
  refine J_istore_n (lv' := [(0, .int (((((x0 - (((x0.toUInt32 >>> ((1 : Int32).toUInt32 &&& Int32.toUInt32 31)).toInt32) &&& (1431655765 : Int32))) &&& (858993459 : Int32)) + ((((x0 - (((x0.toUInt32 >>> ((1 : Int32).toUInt32 &&& Int32.toUInt32 31)).toInt32) &&& (1431655765 : Int32))).toUInt32 >>> ((2 : Int32).toUInt32 &&& Int32.toUInt32 31)).toInt32) &&& (858993459 : Int32))) + (((((x0 - (((x0.toUInt32 >>> ((1 : Int32).toUInt32 &&& Int32.toUInt32 31)).toInt32) &&& (1431655765 : Int32))) &&& (858993459 : Int32)) + ((((x0 - (((x0.toUInt32 >>> ((1 : Int32).toUInt32 &&& Int32.toUInt32 31)).toInt32) &&& (1431655765 : Int32))).toUInt32 >>> ((2 : Int32).toUInt32 &&& Int32.toUInt32 31)).toInt32) &&& (858993459 : Int32))).toUInt32 >>> ((4 : Int32).toUInt32 &&& Int32.toUInt32 31)).toInt32)) &&& (252645135 : Int32)))]) X dJ6_bitCount_0f7a4_33 (by decide) rfl ?_
  refine J_iload_n X dJ6_bitCount_0f7a4_34 0 rfl ?_
  refine J_iload_n X dJ6_bitCount_0f7a4_35 0 rfl ?_
  refine J_bipush (v := 8) X dJ6_bitCount_0f7a4_36 (by decide) ?_
  refine J_iushr X dJ6_bitCount_0f7a4_38 ?_
  refine J_iadd X dJ6_bitCount_0f7a4_39 ?_
  refine J_istore_n (lv' := [(0, .int ((((((x0 - (((x0.toUInt32 >>> ((1 : Int32).toUInt32 &&& Int32.toUInt32 31)).toInt32) &&& (1431655765 : Int32))) &&& (858993459 : Int32)) + ((((x0 - (((x0.toUInt32 >>> ((1 : Int32).toUInt32 &&& Int32.toUInt32 31)).toInt32) &&& (1431655765 : Int32))).toUInt32 >>> ((2 : Int32).toUInt32 &&& Int32.toUInt32 31)).toInt32) &&& (858993459 : Int32))) + (((((x0 - (((x0.toUInt32 >>> ((1 : Int32).toUInt32 &&& Int32.toUInt32 31)).toInt32) &&& (1431655765 : Int32))) &&& (858993459 : Int32)) + ((((x0 - (((x0.toUInt32 >>> ((1 : Int32).toUInt32 &&& Int32.toUInt32 31)).toInt32) &&& (1431655765 : Int32))).toUInt32 >>> ((2 : Int32).toUInt32 &&& Int32.toUInt32 31)).toInt32) &&& (858993459 : Int32))).toUInt32 >>> ((4 : Int32).toUInt32 &&& Int32.toUInt32 31)).toInt32)) &&& (252645135 : Int32)) + (((((((x0 - (((x0.toUInt32 >>> ((1 : Int32).toUInt32 &&& Int32.toUInt32 31)).toInt32) &&& (1431655765 : Int32))) &&& (858993459 : Int32)) + ((((x0 - (((x0.toUInt32 >>> ((1 : Int32).toUInt32 &&& Int32.toUInt32 31)).toInt32) &&& (1431655765 : Int32))).toUInt32 >>> ((2 : Int32).toUInt32 &&& Int32.toUInt32 31)).toInt32) &&& (858993459 : Int32))) + (((((x0 - (((x0.toUInt32 >>> ((1 : Int32).toUInt32 &&& Int32.toUInt32 31)).toInt32) &&& (1431655765 : Int32))) &&& (858993459 : Int32)) + ((((x0 - (((x0.toUInt32 >>> ((1 : Int32).toUInt32 &&& Int32.toUInt32 31)).toInt32) &&& (1431655765 : Int32))).toUInt32 >>> ((2 : Int32).toUInt32 &&& Int32.toUInt32 31)).toInt32) &&& (858993459 : Int32))).toUInt32 >>> ((4 : Int32).toUInt32 &&& Int32.toUInt32 31)).toInt32)) &&& (252645135 : Int32)).toUInt32 >>> ((8 : Int32).toUInt32 &&& Int32.toUInt32 31)).toInt32)))]) X dJ6_bitCount_0f7a4_40 (by decide) rfl ?_
  refine J_iload_n X dJ6_bitCount_0f7a4_41 0 rfl ?_
  refine J_iload_n X dJ6_bitCount_0f7a4_42 0 rfl ?_
  refine J_bipush (v := 16) X dJ6_bitCount_0f7a4_43 (by decide) ?_
  refine J_iushr X dJ6_bitCount_0f7a4_45 ?_
  refine J_iadd X dJ6_bitCount_0f7a4_46 ?_
  refine J_istore_n (lv' := [(0, .int (((((((x0 - (((x0.toUInt32 >>> ((1 : Int32).toUInt32 &&& Int32.toUInt32 31)).toInt32) &&& (1431655765 : Int32))) &&& (858993459 : Int32)) + ((((x0 - (((x0.toUInt32 >>> ((1 : Int32).toUInt32 &&& Int32.toUInt32 31)).toInt32) &&& (1431655765 : Int32))).toUInt32 >>> ((2 : Int32).toUInt32 &&& Int32.toUInt32 31)).toInt32) &&& (858993459 : Int32))) + (((((x0 - (((x0.toUInt32 >>> ((1 : Int32).toUInt32 &&& Int32.toUInt32 31)).toInt32) &&& (1431655765 : Int32))) &&& (858993459 : Int32)) + ((((x0 - (((x0.toUInt32 >>> ((1 : Int32).toUInt32 &&& Int32.toUInt32 31)).toInt32) &&& (1431655765 : Int32))).toUInt32 >>> ((2 : Int32).toUInt32 &&& Int32.toUInt32 31)).toInt32) &&& (858993459 : Int32))).toUInt32 >>> ((4 : Int32).toUInt32 &&& Int32.toUInt32 31)).toInt32)) &&& (252645135 : Int32)) + (((((((x0 - (((x0.toUInt32 >>> ((1 : Int32).toUInt32 &&& Int32.toUInt32 31)).toInt32) &&& (1431655765 : Int32))) &&& (858993459 : Int32)) + ((((x0 - (((x0.toUInt32 >>> ((1 : Int32).toUInt32 &&& Int32.toUInt32 31)).toInt32) &&& (1431655765 : Int32))).toUInt32 >>> ((2 : Int32).toUInt32 &&& Int32.toUInt32 31)).toInt32) &&& (858993459 : Int32))) + (((((x0 - (((x0.toUInt32 >>> ((1 : Int32).toUInt32 &&& Int32.toUInt32 31)).toInt32) &&& (1431655765 : Int32))) &&& (858993459 : Int32)) + ((((x0 - (((x0.toUInt32 >>> ((1 : Int32).toUInt32 &&& Int32.toUInt32 31)).toInt32) &&& (1431655765 : Int32))).toUInt32 >>> ((2 : Int32).toUInt32 &&& Int32.toUInt32 31)).toInt32) &&& (858993459 : Int32))).toUInt32 >>> ((4 : Int32).toUInt32 &&& Int32.toUInt32 31)).toInt32)) &&& (252645135 : Int32)).toUInt32 >>> ((8 : Int32).toUInt32 &&& Int32.toUInt32 31)).toInt32)) + ((((((((x0 - (((x0.toUInt32 >>> ((1 : Int32).toUInt32 &&& Int32.toUInt32 31)).toInt32) &&& (1431655765 : Int32))) &&& (858993459 : Int32)) + ((((x0 - (((x0.toUInt32 >>> ((1 : Int32).toUInt32 &&& Int32.toUInt32 31)).toInt32) &&& (1431655765 : Int32))).toUInt32 >>> ((2 : Int32).toUInt32 &&& Int32.toUInt32 31)).toInt32) &&& (858993459 : Int32))) + (((((x0 - (((x0.toUInt32 >>> ((1 : Int32).toUInt32 &&& Int32.toUInt32 31)).toInt32) &&& (1431655765 : Int32))) &&& (858993459 : Int32)) + ((((x0 - (((x0.toUInt32 >>> ((1 : Int32).toUInt32 &&& Int32.toUInt32 31)).toInt32) &&& (1431655765 : Int32))).toUInt32 >>> ((2 : Int32).toUInt32 &&& Int32.toUInt32 31)).toInt32) &&& (858993459 : Int32))).toUInt32 >>> ((4 : Int32).toUInt32 &&& Int32.toUInt32 31)).toInt32)) &&& (252645135 : Int32)) + (((((((x0 - (((x0.toUInt32 >>> ((1 : Int32).toUInt32 &&& Int32.toUInt32 31)).toInt32) &&& (1431655765 : Int32))) &&& (858993459 : Int32)) + ((((x0 - (((x0.toUInt32 >>> ((1 : Int32).toUInt32 &&& Int32.toUInt32 31)).toInt32) &&& (1431655765 : Int32))).toUInt32 >>> ((2 : Int32).toUInt32 &&& Int32.toUInt32 31)).toInt32) &&& (858993459 : Int32))) + (((((x0 - (((x0.toUInt32 >>> ((1 : Int32).toUInt32 &&& Int32.toUInt32 31)).toInt32) &&& (1431655765 : Int32))) &&& (858993459 : Int32)) + ((((x0 - (((x0.toUInt32 >>> ((1 : Int32).toUInt32 &&& Int32.toUInt32 31)).toInt32) &&& (1431655765 : Int32))).toUInt32 >>> ((2 : Int32).toUInt32 &&& Int32.toUInt32 31)).toInt32) &&& (858993459 : Int32))).toUInt32 >>> ((4 : Int32).toUInt32 &&& Int32.toUInt32 31)).toInt32)) &&& (252645135 : Int32)).toUInt32 >>> ((8 : Int32).toUInt32 &&& Int32.toUInt32 31)).toInt32)).toUInt32 >>> ((16 : Int32).toUInt32 &&& Int32.toUInt32 31)).toInt32)))]) X dJ6_bitCount_0f7a4_47 (by decide) rfl ?_
  refine J_iload_n X dJ6_bitCount_0f7a4_48 0 rfl ?_
  refine J_bipush (v := 63) X dJ6_bitCount_0f7a4_49 (by decide) ?_
  refine J_iand X dJ6_bitCount_0f7a4_51 ?_
  cases hT
  exact J_iret X dJ6_bitCount_0f7a4_52
-- ===== SoldMatches$Purse.change(IILSoldMatches$Games;)V
abbrev rmX5_change : Room := { frames := 0, cells := 0, slots := 0, locals := 0 }
def w_X5_change (cI cJ cZ : ClassId) (h_p3 : Nat) (h_this : Nat) (q_p3 : Nat → Nat) (q_this : Nat → Nat) (p3_count : Int32) (p3_base : Int32) (p3_topLean : Int32) (p3_topSpot : Int32) (this_bestSet : Int32) (this_bestSum : Int32) (this_sum : Int32) (this_cost : Int32) (p3_fee : Nat → Int32) (this_leans : Nat → Int32) : va_W := [(h_p3, .inr (2, oFX2 q_p3 p3_count p3_base p3_topLean p3_topSpot)), (h_this, .inr (5, oFX5 q_this this_bestSet this_bestSum this_sum this_cost)), ((q_p3 7), .inl (cI, 12, .inl p3_fee)), ((q_this 0), .inl (cI, 12, .inl this_leans))]
theorem in_X5_change_X2 : ∀ w ∈ wsX20, w ∈ wsX5_change := fun w h => List.mem_cons_of_mem _ (List.mem_append_left _ (List.mem_append_right _ h))
theorem m_X5_change_f26 : Cond.fieldLink RX5 26 "SoldMatches$Purse" "sum" "I" ∈ wsX5_change := List.mem_of_getElem? (i := 1) rfl
theorem in_X5_change_X5 : ∀ w ∈ wsX50, w ∈ wsX5_change := fun w h => List.mem_cons_of_mem _ (List.mem_append_right _ h)
theorem m_X5_change_f9 : Cond.fieldLink RX5 9 "SoldMatches$Purse" "leans" "[I" ∈ wsX5_change := List.mem_of_getElem? (i := 2) rfl
theorem m_X5_change_f29 : Cond.fieldLink RX5 29 "SoldMatches$Purse" "cost" "I" ∈ wsX5_change := List.mem_of_getElem? (i := 3) rfl
def t_X5_change_3_b  (k_3 : Int32 → Int32 → Int32 → (Nat → Int32) → (Nat → Int32) → Int32 → Int32 → Int32 → Option (Int32 × Int32)) (p3_count : Int32) (this_sum : Int32) (this_cost : Int32) (p3_fee : Nat → Int32) (this_leans : Nat → Int32) (x1 : Int32) (x2 : Int32) (x4 : Int32) : Option (Int32 × Int32) := if p3_count ≤ x4 then (some (this_sum, this_cost)) else (if (x1 >>> (x4 &&& 31)) = (x2 >>> (x4 &&& 31)) then (some (this_sum, this_cost)) else (ckn (x4 < 0 ∨ 12 ≤ x4.toNatClampNeg) (ckn (x4 < 0 ∨ 12 ≤ x4.toNatClampNeg) (k_3 p3_count (this_sum + ((((x2 >>> (x4 &&& 31)) &&& (1 : Int32)) - ((x1 >>> (x4 &&& 31)) &&& (1 : Int32))) * (this_leans x4.toNatClampNeg))) (this_cost + ((((x2 >>> (x4 &&& 31)) &&& (1 : Int32)) - ((x1 >>> (x4 &&& 31)) &&& (1 : Int32))) * (p3_fee x4.toNatClampNeg))) p3_fee this_leans x1 x2 (x4 + (1 : Int32))))))
def t_X5_change_3   (n : Nat) : Int32 → Int32 → Int32 → (Nat → Int32) → (Nat → Int32) → Int32 → Int32 → Int32 → Option (Int32 × Int32) := Nat.rec (fun _ _ _ _ _ _ _ _ => none) (fun _ ih => t_X5_change_3_b   ih) n
def t_X5_change  (p3_count : Int32) (this_sum : Int32) (this_cost : Int32) (p3_fee : Nat → Int32) (this_leans : Nat → Int32) (x1 : Int32) (x2 : Int32) : Option (Int32 × Int32) := t_X5_change_3   lfuel p3_count this_sum this_cost p3_fee this_leans x1 x2 (0 : Int32)
set_option maxHeartbeats 4000000 in
set_option maxRecDepth 100000 in
theorem b_X5_change_3_b {p : Program} {l : Launch} {e : Env} {s : State} {m : MethodId} {args : Array Value} {below : List Frame} {meth : Method} {c : Code} {D : va_G} {A : Nat → Prop} {cI cJ cZ : ClassId} (X : Cx p m c cX5_change 6 s args wsX5_change RX5 D (tys3 cI cJ cZ) meth none) (_ _ _ : ClassId)  (h_p3 : Nat) (h_this : Nat) (q_p3 : Nat → Nat) (q_this : Nat → Nat) (p3_base : Int32) (p3_topLean : Int32) (p3_topSpot : Int32) (this_bestSet : Int32) (this_bestSum : Int32) (z0 : Int32) (z1 : Int32) (k_3 : Int32 → Int32 → Int32 → (Nat → Int32) → (Nat → Int32) → Int32 → Int32 → Int32 → Option (Int32 × Int32)) (hk_3 : ∀ (p3_count : Int32) (this_sum : Int32) (this_cost : Int32) (p3_fee : Nat → Int32) (this_leans : Nat → Int32) (x1 : Int32) (x2 : Int32) (x4 : Int32), k_3 p3_count this_sum this_cost p3_fee this_leans x1 x2 x4 = some (z0, z1) → J p l e rmX5_change s m args below meth c D A 6 (QV D below args s A (w_X5_change cI cJ cZ h_p3 h_this q_p3 q_this p3_count p3_base p3_topLean p3_topSpot this_bestSet this_bestSum z0 z1 p3_fee this_leans)) 0 0 (w_X5_change cI cJ cZ h_p3 h_this q_p3 q_this p3_count p3_base p3_topLean p3_topSpot this_bestSet this_bestSum this_sum this_cost p3_fee this_leans) [(0, .ref h_this), (1, .int x1), (2, .int x2), (3, .ref h_p3), (4, .int x4)] [] 3) (p3_count : Int32) (this_sum : Int32) (this_cost : Int32) (p3_fee : Nat → Int32) (this_leans : Nat → Int32) (x1 : Int32) (x2 : Int32) (x4 : Int32) (hT : t_X5_change_3_b  k_3 p3_count this_sum this_cost p3_fee this_leans x1 x2 x4 = some (z0, z1)) : J p l e rmX5_change s m args below meth c D A 6 (QV D below args s A (w_X5_change cI cJ cZ h_p3 h_this q_p3 q_this p3_count p3_base p3_topLean p3_topSpot this_bestSet this_bestSum z0 z1 p3_fee this_leans)) 0 0 (w_X5_change cI cJ cZ h_p3 h_this q_p3 q_this p3_count p3_base p3_topLean p3_topSpot this_bestSet this_bestSum this_sum this_cost p3_fee this_leans) [(0, .ref h_this), (1, .int x1), (2, .int x2), (3, .ref h_p3), (4, .int x4)] [] 3 := by
  unfold t_X5_change_3_b at hT
  refine J_iload X dX5_change_3 4 rfl ?_
  refine J_aload_n X dX5_change_5 3 rfl ?_
  refine J_getN (host := "SoldMatches") (C := RX2) (T := TX2) (N := 13) (ci := 2) (v := .int p3_count) X in_X5_change_X2 0 rfl rfl 0 (by decide) (List.mem_of_getElem? (i := 2) rfl) rfl dX5_change_6 ?_
  refine J_icmp_ge (tgt := 82) X dX5_change_9 (by decide) (fun hc1 => ?_) (fun hc1 => ?_)
  · have hT := ift hT hc1
    cases hT
    exact J_vret X dX5_change_82
  · have hT := iff_ hT hc1
    refine J_iload_n X dX5_change_12 1 rfl ?_
    refine J_iload X dX5_change_13 4 rfl ?_
    refine J_ishr X dX5_change_15 ?_
    refine J_iload_n X dX5_change_16 2 rfl ?_
    refine J_iload X dX5_change_17 4 rfl ?_
    refine J_ishr X dX5_change_19 ?_
    refine J_icmp_eq (tgt := 82) X dX5_change_20 (by decide) (fun hc2 => ?_) (fun hc2 => ?_)
    · have hT := ift hT hc2
      cases hT
      exact J_vret X dX5_change_82
    · have hT := iff_ hT hc2
      refine J_iload_n X dX5_change_23 2 rfl ?_
      refine J_iload X dX5_change_24 4 rfl ?_
      refine J_ishr X dX5_change_26 ?_
      refine J_iconst (v := 1) X dX5_change_27 (by decide) ?_
      refine J_iand X dX5_change_28 ?_
      refine J_iload_n X dX5_change_29 1 rfl ?_
      refine J_iload X dX5_change_30 4 rfl ?_
      refine J_ishr X dX5_change_32 ?_
      refine J_iconst (v := 1) X dX5_change_33 (by decide) ?_
      refine J_iand X dX5_change_34 ?_
      refine J_isub X dX5_change_35 ?_
      refine J_istore (lv' := [(5, .int (((x2 >>> (x4 &&& 31)) &&& (1 : Int32)) - ((x1 >>> (x4 &&& 31)) &&& (1 : Int32)))), (0, .ref h_this), (1, .int x1), (2, .int x2), (3, .ref h_p3), (4, .int x4)]) X dX5_change_36 (by decide) rfl ?_
      refine J_aload_n X dX5_change_38 1 rfl ?_
      refine J_dup X dX5_change_39 rfl ?_
      refine J_get (C := RX5) (T := TX5) (N := 5) (ci := 5) (v := .int this_sum) X in_X5_change_X5 1 rfl rfl 3 (by decide) m_X5_change_f26 rfl dX5_change_40 ?_
      refine J_iload X dX5_change_43 0 rfl ?_
      refine J_aload_n X dX5_change_45 1 rfl ?_
      refine J_get (C := RX5) (T := TX5) (N := 5) (ci := 5) (v := .ref (q_this 0)) X in_X5_change_X5 1 rfl rfl 0 (by decide) m_X5_change_f9 rfl dX5_change_46 ?_
      refine J_iload X dX5_change_49 5 rfl ?_
      obtain ⟨hk3, hT⟩ := ckn_e hT
      refine J_iald X 3 rfl rfl hk3 dX5_change_51 ?_
      refine J_imul X dX5_change_52 ?_
      refine J_iadd X dX5_change_53 ?_
      refine J_put (host := "") (C := RX5) (T := TX5) (N := 5) (ci := 5) (ws' := (w_X5_change cI cJ cZ h_p3 h_this q_p3 q_this p3_count p3_base p3_topLean p3_topSpot this_bestSet this_bestSum (this_sum + ((((x2 >>> (x4 &&& 31)) &&& (1 : Int32)) - ((x1 >>> (x4 &&& 31)) &&& (1 : Int32))) * (this_leans x4.toNatClampNeg))) this_cost p3_fee this_leans)) X in_X5_change_X5 1 rfl rfl 3 (by decide) tyX5 tyX5_ok nmX5 m_X5_change_f26 rfl rfl rfl (Nat.le_of_ble_eq_true rfl) rfl dX5_change_54 ?_
      refine J_aload_n X dX5_change_57 1 rfl ?_
      refine J_dup X dX5_change_58 rfl ?_
      refine J_get (C := RX5) (T := TX5) (N := 5) (ci := 5) (v := .int this_cost) X in_X5_change_X5 1 rfl rfl 4 (by decide) m_X5_change_f29 rfl dX5_change_59 ?_
      refine J_iload X dX5_change_62 0 rfl ?_
      refine J_aload_n X dX5_change_64 4 rfl ?_
      refine J_getN (host := "SoldMatches") (C := RX2) (T := TX2) (N := 13) (ci := 2) (v := .ref (q_p3 7)) X in_X5_change_X2 0 rfl rfl 7 (by decide) (List.mem_of_getElem? (i := 13) rfl) rfl dX5_change_65 ?_
      refine J_iload X dX5_change_68 5 rfl ?_
      obtain ⟨hk4, hT⟩ := ckn_e hT
      refine J_iald X 2 rfl rfl hk4 dX5_change_70 ?_
      refine J_imul X dX5_change_71 ?_
      refine J_iadd X dX5_change_72 ?_
      refine J_put (host := "") (C := RX5) (T := TX5) (N := 5) (ci := 5) (ws' := (w_X5_change cI cJ cZ h_p3 h_this q_p3 q_this p3_count p3_base p3_topLean p3_topSpot this_bestSet this_bestSum (this_sum + ((((x2 >>> (x4 &&& 31)) &&& (1 : Int32)) - ((x1 >>> (x4 &&& 31)) &&& (1 : Int32))) * (this_leans x4.toNatClampNeg))) (this_cost + ((((x2 >>> (x4 &&& 31)) &&& (1 : Int32)) - ((x1 >>> (x4 &&& 31)) &&& (1 : Int32))) * (p3_fee x4.toNatClampNeg))) p3_fee this_leans)) X in_X5_change_X5 1 rfl rfl 4 (by decide) tyX5 tyX5_ok nmX5 m_X5_change_f29 rfl rfl rfl (Nat.le_of_ble_eq_true rfl) rfl dX5_change_73 ?_
      refine J_iinc (lv' := [(4, .int (x4 + (1 : Int32))), (5, .int (((x2 >>> (x4 &&& 31)) &&& (1 : Int32)) - ((x1 >>> (x4 &&& 31)) &&& (1 : Int32)))), (0, .ref h_this), (1, .int x1), (2, .int x2), (3, .ref h_p3)]) (j := 5) X dX5_change_76 rfl rfl (by decide) rfl ?_
      refine J_goto (tgt := 3) X dX5_change_79 (by decide) ?_
      refine J_lv (lv' := [(0, .ref h_this), (1, .int x1), (2, .int x2), (3, .ref h_p3), (4, .int (x4 + (1 : Int32)))]) [2, 3, 4, 5, 0] rfl ?_
      exact hk_3 p3_count (this_sum + ((((x2 >>> (x4 &&& 31)) &&& (1 : Int32)) - ((x1 >>> (x4 &&& 31)) &&& (1 : Int32))) * (this_leans x4.toNatClampNeg))) (this_cost + ((((x2 >>> (x4 &&& 31)) &&& (1 : Int32)) - ((x1 >>> (x4 &&& 31)) &&& (1 : Int32))) * (p3_fee x4.toNatClampNeg))) p3_fee this_leans x1 x2 (x4 + (1 : Int32)) hT
set_option maxHeartbeats 4000000 in
set_option maxRecDepth 100000 in
theorem b_X5_change_3 {p : Program} {l : Launch} {e : Env} {s : State} {m : MethodId} {args : Array Value} {below : List Frame} {meth : Method} {c : Code} {D : va_G} {A : Nat → Prop} {cI cJ cZ : ClassId} (X : Cx p m c cX5_change 6 s args wsX5_change RX5 D (tys3 cI cJ cZ) meth none) (_ _ _ : ClassId)  (h_p3 : Nat) (h_this : Nat) (q_p3 : Nat → Nat) (q_this : Nat → Nat) (p3_base : Int32) (p3_topLean : Int32) (p3_topSpot : Int32) (this_bestSet : Int32) (this_bestSum : Int32) (z0 : Int32) (z1 : Int32)  : ∀ (n : Nat) (p3_count : Int32) (this_sum : Int32) (this_cost : Int32) (p3_fee : Nat → Int32) (this_leans : Nat → Int32) (x1 : Int32) (x2 : Int32) (x4 : Int32) (hT : t_X5_change_3   n p3_count this_sum this_cost p3_fee this_leans x1 x2 x4 = some (z0, z1)), J p l e rmX5_change s m args below meth c D A 6 (QV D below args s A (w_X5_change cI cJ cZ h_p3 h_this q_p3 q_this p3_count p3_base p3_topLean p3_topSpot this_bestSet this_bestSum z0 z1 p3_fee this_leans)) 0 0 (w_X5_change cI cJ cZ h_p3 h_this q_p3 q_this p3_count p3_base p3_topLean p3_topSpot this_bestSet this_bestSum this_sum this_cost p3_fee this_leans) [(0, .ref h_this), (1, .int x1), (2, .int x2), (3, .ref h_p3), (4, .int x4)] [] 3 := by
  intro n
  induction n with
  | zero => intro p3_count this_sum this_cost p3_fee this_leans x1 x2 x4 hT; cases hT
  | succ n ih =>
    intro p3_count this_sum this_cost p3_fee this_leans x1 x2 x4 hT
    exact b_X5_change_3_b X cI cJ cZ h_p3 h_this q_p3 q_this p3_base p3_topLean p3_topSpot this_bestSet this_bestSum z0 z1  (t_X5_change_3   n) ih p3_count this_sum this_cost p3_fee this_leans x1 x2 x4 hT
set_option maxHeartbeats 4000000 in
set_option maxRecDepth 100000 in
theorem c_X5_change (l : Launch) (D : va_G) (cI cJ cZ : ClassId) (h_p3 : Nat) (h_this : Nat) (q_p3 : Nat → Nat) (q_this : Nat → Nat) (p3_count : Int32) (p3_base : Int32) (p3_topLean : Int32) (p3_topSpot : Int32) (this_bestSet : Int32) (this_bestSum : Int32) (this_sum : Int32) (this_cost : Int32) (p3_fee : Nat → Int32) (this_leans : Nat → Int32) (x1 : Int32) (x2 : Int32) (z0 : Int32) (z1 : Int32) (hT : t_X5_change  p3_count this_sum this_cost p3_fee this_leans x1 x2 = some (z0, z1)) : Cv l yX5_change wsX5_change rmX5_change D (tys3 cI cJ cZ) [.ref h_this, .int x1, .int x2, .ref h_p3] (w_X5_change cI cJ cZ h_p3 h_this q_p3 q_this p3_count p3_base p3_topLean p3_topSpot this_bestSet this_bestSum this_sum this_cost p3_fee this_leans) (w_X5_change cI cJ cZ h_p3 h_this q_p3 q_this p3_count p3_base p3_topLean p3_topSpot this_bestSet this_bestSum z0 z1 p3_fee this_leans) := by
  refine Cv.ofJ (cc := cX5_change) (nL := 6) (rt := none) (own := RX5) (by decide) rfl rfl (Nat.le_of_ble_eq_true rfl) ?_
  intro p e s m below meth c A X
  unfold t_X5_change at hT
  refine J_lv (lv' := [(0, .ref h_this), (1, .int x1), (2, .int x2), (3, .ref h_p3)]) [0, 1, 2, 3] rfl ?_
  refine J_iconst (v := 0) X dX5_change_0 (by decide) ?_
  refine J_istore (lv' := [(4, .int (0 : Int32)), (0, .ref h_this), (1, .int x1), (2, .int x2), (3, .ref h_p3)]) X dX5_change_1 (by decide) rfl ?_
  refine J_lv (lv' := [(0, .ref h_this), (1, .int x1), (2, .int x2), (3, .ref h_p3), (4, .int (0 : Int32))]) [1, 2, 3, 4, 0] rfl ?_
  exact b_X5_change_3 X cI cJ cZ h_p3 h_this q_p3 q_this p3_base p3_topLean p3_topSpot this_bestSet this_bestSum z0 z1  lfuel p3_count this_sum this_cost p3_fee this_leans x1 x2 (0 : Int32) hT
-- ===== SoldMatches$Purse.choose(ILSoldMatches$Games;)V
abbrev rmX5_choose : Room := { frames := 6, cells := 0, slots := 0, locals := 150 }
def w_X5_choose (cI cJ cZ : ClassId) (h_p2 : Nat) (h_this : Nat) (q_p2 : Nat → Nat) (q_this : Nat → Nat) (q_p2_odds : Nat → Nat) (p2_count : Int32) (p2_base : Int32) (p2_topLean : Int32) (p2_topSpot : Int32) (this_bestSet : Int32) (this_bestSum : Int32) (this_sum : Int32) (this_cost : Int32) (p2_odds_upper : Int64) (p2_odds_lower : Int64) (p2_fee : Nat → Int32) (p2_goals : Nat → Int32) (p2_guest : Nat → Int32) (p2_home : Nat → Int32) (p2_prices : Nat → Int32) (p2_skills : Nat → Int32) (this_leans : Nat → Int32) (p2_odds_cases : Nat → Int64) : va_W := [(h_p2, .inr (2, oFX2 q_p2 p2_count p2_base p2_topLean p2_topSpot)), (h_this, .inr (5, oFX5 q_this this_bestSet this_bestSum this_sum this_cost)), ((q_p2 10), .inr (4, oFX4 q_p2_odds p2_odds_upper p2_odds_lower)), ((q_p2 7), .inl (cI, 12, .inl p2_fee)), ((q_p2 8), .inl (cI, 72, .inl p2_goals)), ((q_p2 4), .inl (cI, 12, .inl p2_guest)), ((q_p2 3), .inl (cI, 12, .inl p2_home)), ((q_p2 9), .inl (cI, 216, .inl p2_prices)), ((q_p2 2), .inl (cI, 8, .inl p2_skills)), ((q_this 0), .inl (cI, 12, .inl this_leans)), ((q_p2_odds 0), .inl (cJ, 13, .inr (.inl p2_odds_cases)))]
theorem m_X5_choose_f19 : Cond.fieldLink RX5 19 "SoldMatches$Purse" "bestSet" "I" ∈ wsX5_choose := List.mem_of_getElem? (i := 1) rfl
theorem in_X5_choose_X5 : ∀ w ∈ wsX50, w ∈ wsX5_choose := fun w h => List.mem_cons_of_mem _ (List.mem_append_left _ (List.mem_append_left _ (List.mem_append_right _ h)))
theorem m_X5_choose_f26 : Cond.fieldLink RX5 26 "SoldMatches$Purse" "sum" "I" ∈ wsX5_choose := List.mem_of_getElem? (i := 3) rfl
theorem m_X5_choose_f23 : Cond.fieldLink RX5 23 "SoldMatches$Purse" "bestSum" "I" ∈ wsX5_choose := List.mem_of_getElem? (i := 2) rfl
theorem m_X5_choose_f29 : Cond.fieldLink RX5 29 "SoldMatches$Purse" "cost" "I" ∈ wsX5_choose := List.mem_of_getElem? (i := 4) rfl
theorem cw_X5_choose_J6_bitCount_0f7a4_32 {s : State} {args : Array Value} (hts : ∀ w ∈ wsX5_choose, w.before args s = true) : CallB rmX5_choose s args RX5 32 yJ6_bitCount_0f7a4 cJ6_bitCount_0f7a4 1 (some .int) wsJ6_bitCount_0f7a4 rmJ6_bitCount_0f7a4 0 0 1 ∧ (Cond.static yJ6_bitCount_0f7a4).before args s = true := va_cwS 1 hts gX5_choose_J6_bitCount_0f7a4 rfl rfl rfl (by decide +kernel) ⟨by decide, by decide⟩
theorem cw_X5_choose_X5_change_38 {s : State} {args : Array Value} (hts : ∀ w ∈ wsX5_choose, w.before args s = true) : CallW rmX5_choose s args RX5 RX5 38 yX5_change cX5_change 6 none wsX5_change rmX5_change 0 0 3 := cwV 3 hts gX5_choose_X5_change rfl rfl rfl (by decide +kernel) ⟨by decide, by decide⟩
theorem cw_X5_choose_X5_seekWorthy_15 {s : State} {args : Array Value} (hts : ∀ w ∈ wsX5_choose, w.before args s = true) : CallW rmX5_choose s args RX5 RX5 15 yX5_seekWorthy cX5_seekWorthy 4 (some .int) wsX5_seekWorthy rmX5_seekWorthy 0 0 1 := cwV 1 hts gX5_choose_X5_seekWorthy rfl rfl rfl (by decide +kernel) ⟨by decide, by decide⟩
def t_X5_choose_126  (k_35 : Int32 → Int32 → Int32 → Int32 → Int32 → Int32 → Int32 → Int32 → Int64 → Int64 → (Nat → Int32) → (Nat → Int32) → (Nat → Int32) → (Nat → Int32) → (Nat → Int32) → (Nat → Int32) → (Nat → Int32) → (Nat → Int64) → Int32 → Int32 → Int32 → Int32 → Int32 → (Option (Int32 × Int32 × Int32 × Int32 × Int32 × Int32 × Int64 × Int64 × (Nat → Int32) × (Nat → Int64)))) (p2_count : Int32) (p2_base : Int32) (p2_topLean : Int32) (p2_topSpot : Int32) (this_bestSet : Int32) (this_bestSum : Int32) (this_sum : Int32) (this_cost : Int32) (p2_odds_upper : Int64) (p2_odds_lower : Int64) (p2_fee : Nat → Int32) (p2_goals : Nat → Int32) (p2_guest : Nat → Int32) (p2_home : Nat → Int32) (p2_prices : Nat → Int32) (p2_skills : Nat → Int32) (this_leans : Nat → Int32) (p2_odds_cases : Nat → Int64) (x1 : Int32) (x3 : Int32) (x4 : Int32) (x5 : Int32) (x6 : Int32) : Option (Int32 × Int32 × Int32 × Int32 × Int32 × Int32 × Int64 × Int64 × (Nat → Int32) × (Nat → Int64)) := k_35 p2_count p2_base p2_topLean p2_topSpot this_bestSet this_bestSum this_sum this_cost p2_odds_upper p2_odds_lower p2_fee p2_goals p2_guest p2_home p2_prices p2_skills this_leans p2_odds_cases x1 x3 x4 x5 (x6 + (1 : Int32))
def t_X5_choose_106  (k_35 : Int32 → Int32 → Int32 → Int32 → Int32 → Int32 → Int32 → Int32 → Int64 → Int64 → (Nat → Int32) → (Nat → Int32) → (Nat → Int32) → (Nat → Int32) → (Nat → Int32) → (Nat → Int32) → (Nat → Int32) → (Nat → Int64) → Int32 → Int32 → Int32 → Int32 → Int32 → (Option (Int32 × Int32 × Int32 × Int32 × Int32 × Int32 × Int64 × Int64 × (Nat → Int32) × (Nat → Int64)))) (p2_count : Int32) (p2_base : Int32) (p2_topLean : Int32) (p2_topSpot : Int32) (this_bestSet : Int32) (this_bestSum : Int32) (this_sum : Int32) (this_cost : Int32) (p2_odds_upper : Int64) (p2_odds_lower : Int64) (p2_fee : Nat → Int32) (p2_goals : Nat → Int32) (p2_guest : Nat → Int32) (p2_home : Nat → Int32) (p2_prices : Nat → Int32) (p2_skills : Nat → Int32) (this_leans : Nat → Int32) (p2_odds_cases : Nat → Int64) (x1 : Int32) (x3 : Int32) (x5 : Int32) (x6 : Int32) : Option (Int32 × Int32 × Int32 × Int32 × Int32 × Int32 × Int64 × Int64 × (Nat → Int32) × (Nat → Int64)) := t_X5_choose_126  k_35 p2_count p2_base p2_topLean p2_topSpot x5 this_sum this_sum this_cost p2_odds_upper p2_odds_lower p2_fee p2_goals p2_guest p2_home p2_prices p2_skills this_leans p2_odds_cases x1 x3 this_cost x5 x6
def t_X5_choose_35_b  (k_35 : Int32 → Int32 → Int32 → Int32 → Int32 → Int32 → Int32 → Int32 → Int64 → Int64 → (Nat → Int32) → (Nat → Int32) → (Nat → Int32) → (Nat → Int32) → (Nat → Int32) → (Nat → Int32) → (Nat → Int32) → (Nat → Int64) → Int32 → Int32 → Int32 → Int32 → Int32 → (Option (Int32 × Int32 × Int32 × Int32 × Int32 × Int32 × Int64 × Int64 × (Nat → Int32) × (Nat → Int64)))) (p2_count : Int32) (p2_base : Int32) (p2_topLean : Int32) (p2_topSpot : Int32) (this_bestSet : Int32) (this_bestSum : Int32) (this_sum : Int32) (this_cost : Int32) (p2_odds_upper : Int64) (p2_odds_lower : Int64) (p2_fee : Nat → Int32) (p2_goals : Nat → Int32) (p2_guest : Nat → Int32) (p2_home : Nat → Int32) (p2_prices : Nat → Int32) (p2_skills : Nat → Int32) (this_leans : Nat → Int32) (p2_odds_cases : Nat → Int64) (x1 : Int32) (x3 : Int32) (x4 : Int32) (x5 : Int32) (x6 : Int32) : Option (Int32 × Int32 × Int32 × Int32 × Int32 × Int32 × Int64 × Int64 × (Nat → Int32) × (Nat → Int64)) := bd1 (t_J6_bitCount_0f7a4 x3) (fun v1 => if ((1 : Int32) <<< (v1 &&& 31)) ≤ x6 then (some (p2_topLean, p2_topSpot, this_bestSet, this_bestSum, this_sum, this_cost, p2_odds_upper, p2_odds_lower, this_leans, p2_odds_cases)) else (bd2 (t_X5_change p2_count this_sum this_cost p2_fee this_leans x5 ((x5 - x3) &&& x3)) (fun u3_0 u3_1 => if x1 < u3_1 then (t_X5_choose_126  k_35 p2_count p2_base p2_topLean p2_topSpot this_bestSet this_bestSum u3_0 u3_1 p2_odds_upper p2_odds_lower p2_fee p2_goals p2_guest p2_home p2_prices p2_skills this_leans p2_odds_cases x1 x3 x4 ((x5 - x3) &&& x3) x6) else (if this_bestSum < u3_0 then (t_X5_choose_106  k_35 p2_count p2_base p2_topLean p2_topSpot this_bestSet this_bestSum u3_0 u3_1 p2_odds_upper p2_odds_lower p2_fee p2_goals p2_guest p2_home p2_prices p2_skills this_leans p2_odds_cases x1 x3 ((x5 - x3) &&& x3) x6) else (if u3_0 = this_bestSum then (if x4 ≤ u3_1 then (t_X5_choose_126  k_35 p2_count p2_base p2_topLean p2_topSpot this_bestSet this_bestSum u3_0 u3_1 p2_odds_upper p2_odds_lower p2_fee p2_goals p2_guest p2_home p2_prices p2_skills this_leans p2_odds_cases x1 x3 x4 ((x5 - x3) &&& x3) x6) else (t_X5_choose_106  k_35 p2_count p2_base p2_topLean p2_topSpot this_bestSet this_bestSum u3_0 u3_1 p2_odds_upper p2_odds_lower p2_fee p2_goals p2_guest p2_home p2_prices p2_skills this_leans p2_odds_cases x1 x3 ((x5 - x3) &&& x3) x6)) else (t_X5_choose_126  k_35 p2_count p2_base p2_topLean p2_topSpot this_bestSet this_bestSum u3_0 u3_1 p2_odds_upper p2_odds_lower p2_fee p2_goals p2_guest p2_home p2_prices p2_skills this_leans p2_odds_cases x1 x3 x4 ((x5 - x3) &&& x3) x6))))))
def t_X5_choose_35   (n : Nat) : Int32 → Int32 → Int32 → Int32 → Int32 → Int32 → Int32 → Int32 → Int64 → Int64 → (Nat → Int32) → (Nat → Int32) → (Nat → Int32) → (Nat → Int32) → (Nat → Int32) → (Nat → Int32) → (Nat → Int32) → (Nat → Int64) → Int32 → Int32 → Int32 → Int32 → Int32 → (Option (Int32 × Int32 × Int32 × Int32 × Int32 × Int32 × Int64 × Int64 × (Nat → Int32) × (Nat → Int64))) := Nat.rec (fun _ _ _ _ _ _ _ _ _ _ _ _ _ _ _ _ _ _ _ _ _ _ _ => none) (fun _ ih => t_X5_choose_35_b   ih) n
def t_X5_choose  (p2_count : Int32) (p2_base : Int32) (p2_topLean : Int32) (p2_topSpot : Int32) (this_bestSet : Int32) (this_bestSum : Int32) (this_sum : Int32) (this_cost : Int32) (p2_odds_upper : Int64) (p2_odds_lower : Int64) (p2_fee : Nat → Int32) (p2_goals : Nat → Int32) (p2_guest : Nat → Int32) (p2_home : Nat → Int32) (p2_prices : Nat → Int32) (p2_skills : Nat → Int32) (this_leans : Nat → Int32) (p2_odds_cases : Nat → Int64) (x1 : Int32) : Option (Int32 × Int32 × Int32 × Int32 × Int32 × Int32 × Int64 × Int64 × (Nat → Int32) × (Nat → Int64)) := bd7 (t_X5_seekWorthy p2_count p2_base p2_topLean p2_topSpot p2_odds_upper p2_odds_lower p2_goals p2_guest p2_home p2_prices p2_skills this_leans p2_odds_cases) (fun v8 u8_0 u8_1 u8_2 u8_3 u8_4 u8_5 => t_X5_choose_35   lfuel p2_count p2_base u8_0 u8_1 (0 : Int32) (0 : Int32) (0 : Int32) (0 : Int32) u8_2 u8_3 p2_fee p2_goals p2_guest p2_home p2_prices p2_skills u8_4 u8_5 x1 v8 (0 : Int32) (0 : Int32) (1 : Int32))
set_option maxHeartbeats 4000000 in
set_option maxRecDepth 100000 in
theorem b_X5_choose_126 {p : Program} {l : Launch} {e : Env} {s : State} {m : MethodId} {args : Array Value} {below : List Frame} {meth : Method} {c : Code} {D : va_G} {A : Nat → Prop} {cI cJ cZ : ClassId} (X : Cx p m c cX5_choose 8 s args wsX5_choose RX5 D (tys3 cI cJ cZ) meth none) (_ _ _ : ClassId)  (h_p2 : Nat) (h_this : Nat) (q_p2 : Nat → Nat) (q_this : Nat → Nat) (q_p2_odds : Nat → Nat)  (z0 : Int32) (z1 : Int32) (z2 : Int32) (z3 : Int32) (z4 : Int32) (z5 : Int32) (z6 : Int64) (z7 : Int64) (z8 : Nat → Int32) (z9 : Nat → Int64) (k_35 : Int32 → Int32 → Int32 → Int32 → Int32 → Int32 → Int32 → Int32 → Int64 → Int64 → (Nat → Int32) → (Nat → Int32) → (Nat → Int32) → (Nat → Int32) → (Nat → Int32) → (Nat → Int32) → (Nat → Int32) → (Nat → Int64) → Int32 → Int32 → Int32 → Int32 → Int32 → (Option (Int32 × Int32 × Int32 × Int32 × Int32 × Int32 × Int64 × Int64 × (Nat → Int32) × (Nat → Int64)))) (hk_35 : ∀ (p2_count : Int32) (p2_base : Int32) (p2_topLean : Int32) (p2_topSpot : Int32) (this_bestSet : Int32) (this_bestSum : Int32) (this_sum : Int32) (this_cost : Int32) (p2_odds_upper : Int64) (p2_odds_lower : Int64) (p2_fee : Nat → Int32) (p2_goals : Nat → Int32) (p2_guest : Nat → Int32) (p2_home : Nat → Int32) (p2_prices : Nat → Int32) (p2_skills : Nat → Int32) (this_leans : Nat → Int32) (p2_odds_cases : Nat → Int64) (x1 : Int32) (x3 : Int32) (x4 : Int32) (x5 : Int32) (x6 : Int32), k_35 p2_count p2_base p2_topLean p2_topSpot this_bestSet this_bestSum this_sum this_cost p2_odds_upper p2_odds_lower p2_fee p2_goals p2_guest p2_home p2_prices p2_skills this_leans p2_odds_cases x1 x3 x4 x5 x6 = some (z0, z1, z2, z3, z4, z5, z6, z7, z8, z9) → J p l e rmX5_choose s m args below meth c D A 8 (QV D below args s A (w_X5_choose cI cJ cZ h_p2 h_this q_p2 q_this q_p2_odds p2_count p2_base z0 z1 z2 z3 z4 z5 z6 z7 p2_fee p2_goals p2_guest p2_home p2_prices p2_skills z8 z9)) 0 0 (w_X5_choose cI cJ cZ h_p2 h_this q_p2 q_this q_p2_odds p2_count p2_base p2_topLean p2_topSpot this_bestSet this_bestSum this_sum this_cost p2_odds_upper p2_odds_lower p2_fee p2_goals p2_guest p2_home p2_prices p2_skills this_leans p2_odds_cases) [(0, .ref h_this), (1, .int x1), (2, .ref h_p2), (3, .int x3), (4, .int x4), (5, .int x5), (6, .int x6)] [] 35) (p2_count : Int32) (p2_base : Int32) (p2_topLean : Int32) (p2_topSpot : Int32) (this_bestSet : Int32) (this_bestSum : Int32) (this_sum : Int32) (this_cost : Int32) (p2_odds_upper : Int64) (p2_odds_lower : Int64) (p2_fee : Nat → Int32) (p2_goals : Nat → Int32) (p2_guest : Nat → Int32) (p2_home : Nat → Int32) (p2_prices : Nat → Int32) (p2_skills : Nat → Int32) (this_leans : Nat → Int32) (p2_odds_cases : Nat → Int64) (x1 : Int32) (x3 : Int32) (x4 : Int32) (x5 : Int32) (x6 : Int32) (hT : t_X5_choose_126  k_35 p2_count p2_base p2_topLean p2_topSpot this_bestSet this_bestSum this_sum this_cost p2_odds_upper p2_odds_lower p2_fee p2_goals p2_guest p2_home p2_prices p2_skills this_leans p2_odds_cases x1 x3 x4 x5 x6 = some (z0, z1, z2, z3, z4, z5, z6, z7, z8, z9)) : J p l e rmX5_choose s m args below meth c D A 8 (QV D below args s A (w_X5_choose cI cJ cZ h_p2 h_this q_p2 q_this q_p2_odds p2_count p2_base z0 z1 z2 z3 z4 z5 z6 z7 p2_fee p2_goals p2_guest p2_home p2_prices p2_skills z8 z9)) 0 0 (w_X5_choose cI cJ cZ h_p2 h_this q_p2 q_this q_p2_odds p2_count p2_base p2_topLean p2_topSpot this_bestSet this_bestSum this_sum this_cost p2_odds_upper p2_odds_lower p2_fee p2_goals p2_guest p2_home p2_prices p2_skills this_leans p2_odds_cases) [(0, .ref h_this), (1, .int x1), (2, .ref h_p2), (3, .int x3), (4, .int x4), (5, .int x5), (6, .int x6)] [] 126 := by
  unfold t_X5_choose_126 at hT
  refine J_iinc (lv' := [(6, .int (x6 + (1 : Int32))), (0, .ref h_this), (1, .int x1), (2, .ref h_p2), (3, .int x3), (4, .int x4), (5, .int x5)]) (j := 6) X dX5_choose_126 rfl rfl (by decide) rfl ?_
  refine J_goto (tgt := 35) X dX5_choose_129 (by decide) ?_
  refine J_lv (lv' := [(0, .ref h_this), (1, .int x1), (2, .ref h_p2), (3, .int x3), (4, .int x4), (5, .int x5), (6, .int (x6 + (1 : Int32)))]) [1, 2, 3, 4, 5, 6, 0] rfl ?_
  exact hk_35 p2_count p2_base p2_topLean p2_topSpot this_bestSet this_bestSum this_sum this_cost p2_odds_upper p2_odds_lower p2_fee p2_goals p2_guest p2_home p2_prices p2_skills this_leans p2_odds_cases x1 x3 x4 x5 (x6 + (1 : Int32)) hT
set_option maxHeartbeats 4000000 in
set_option maxRecDepth 100000 in
theorem b_X5_choose_106 {p : Program} {l : Launch} {e : Env} {s : State} {m : MethodId} {args : Array Value} {below : List Frame} {meth : Method} {c : Code} {D : va_G} {A : Nat → Prop} {cI cJ cZ : ClassId} (X : Cx p m c cX5_choose 8 s args wsX5_choose RX5 D (tys3 cI cJ cZ) meth none) (_ _ _ : ClassId)  (h_p2 : Nat) (h_this : Nat) (q_p2 : Nat → Nat) (q_this : Nat → Nat) (q_p2_odds : Nat → Nat)  (z0 : Int32) (z1 : Int32) (z2 : Int32) (z3 : Int32) (z4 : Int32) (z5 : Int32) (z6 : Int64) (z7 : Int64) (z8 : Nat → Int32) (z9 : Nat → Int64) (k_35 : Int32 → Int32 → Int32 → Int32 → Int32 → Int32 → Int32 → Int32 → Int64 → Int64 → (Nat → Int32) → (Nat → Int32) → (Nat → Int32) → (Nat → Int32) → (Nat → Int32) → (Nat → Int32) → (Nat → Int32) → (Nat → Int64) → Int32 → Int32 → Int32 → Int32 → Int32 → (Option (Int32 × Int32 × Int32 × Int32 × Int32 × Int32 × Int64 × Int64 × (Nat → Int32) × (Nat → Int64)))) (hk_35 : ∀ (p2_count : Int32) (p2_base : Int32) (p2_topLean : Int32) (p2_topSpot : Int32) (this_bestSet : Int32) (this_bestSum : Int32) (this_sum : Int32) (this_cost : Int32) (p2_odds_upper : Int64) (p2_odds_lower : Int64) (p2_fee : Nat → Int32) (p2_goals : Nat → Int32) (p2_guest : Nat → Int32) (p2_home : Nat → Int32) (p2_prices : Nat → Int32) (p2_skills : Nat → Int32) (this_leans : Nat → Int32) (p2_odds_cases : Nat → Int64) (x1 : Int32) (x3 : Int32) (x4 : Int32) (x5 : Int32) (x6 : Int32), k_35 p2_count p2_base p2_topLean p2_topSpot this_bestSet this_bestSum this_sum this_cost p2_odds_upper p2_odds_lower p2_fee p2_goals p2_guest p2_home p2_prices p2_skills this_leans p2_odds_cases x1 x3 x4 x5 x6 = some (z0, z1, z2, z3, z4, z5, z6, z7, z8, z9) → J p l e rmX5_choose s m args below meth c D A 8 (QV D below args s A (w_X5_choose cI cJ cZ h_p2 h_this q_p2 q_this q_p2_odds p2_count p2_base z0 z1 z2 z3 z4 z5 z6 z7 p2_fee p2_goals p2_guest p2_home p2_prices p2_skills z8 z9)) 0 0 (w_X5_choose cI cJ cZ h_p2 h_this q_p2 q_this q_p2_odds p2_count p2_base p2_topLean p2_topSpot this_bestSet this_bestSum this_sum this_cost p2_odds_upper p2_odds_lower p2_fee p2_goals p2_guest p2_home p2_prices p2_skills this_leans p2_odds_cases) [(0, .ref h_this), (1, .int x1), (2, .ref h_p2), (3, .int x3), (4, .int x4), (5, .int x5), (6, .int x6)] [] 35) (p2_count : Int32) (p2_base : Int32) (p2_topLean : Int32) (p2_topSpot : Int32) (this_bestSet : Int32) (this_bestSum : Int32) (this_sum : Int32) (this_cost : Int32) (p2_odds_upper : Int64) (p2_odds_lower : Int64) (p2_fee : Nat → Int32) (p2_goals : Nat → Int32) (p2_guest : Nat → Int32) (p2_home : Nat → Int32) (p2_prices : Nat → Int32) (p2_skills : Nat → Int32) (this_leans : Nat → Int32) (p2_odds_cases : Nat → Int64) (x1 : Int32) (x3 : Int32) (x5 : Int32) (x6 : Int32) (hT : t_X5_choose_106  k_35 p2_count p2_base p2_topLean p2_topSpot this_bestSet this_bestSum this_sum this_cost p2_odds_upper p2_odds_lower p2_fee p2_goals p2_guest p2_home p2_prices p2_skills this_leans p2_odds_cases x1 x3 x5 x6 = some (z0, z1, z2, z3, z4, z5, z6, z7, z8, z9)) : J p l e rmX5_choose s m args below meth c D A 8 (QV D below args s A (w_X5_choose cI cJ cZ h_p2 h_this q_p2 q_this q_p2_odds p2_count p2_base z0 z1 z2 z3 z4 z5 z6 z7 p2_fee p2_goals p2_guest p2_home p2_prices p2_skills z8 z9)) 0 0 (w_X5_choose cI cJ cZ h_p2 h_this q_p2 q_this q_p2_odds p2_count p2_base p2_topLean p2_topSpot this_bestSet this_bestSum this_sum this_cost p2_odds_upper p2_odds_lower p2_fee p2_goals p2_guest p2_home p2_prices p2_skills this_leans p2_odds_cases) [(0, .ref h_this), (1, .int x1), (2, .ref h_p2), (3, .int x3), (5, .int x5), (6, .int x6)] [] 106 := by
  unfold t_X5_choose_106 at hT
  refine J_aload_n X dX5_choose_106 0 rfl ?_
  refine J_iload X dX5_choose_107 4 rfl ?_
  refine J_put (host := "") (C := RX5) (T := TX5) (N := 5) (ci := 5) (ws' := (w_X5_choose cI cJ cZ h_p2 h_this q_p2 q_this q_p2_odds p2_count p2_base p2_topLean p2_topSpot x5 this_bestSum this_sum this_cost p2_odds_upper p2_odds_lower p2_fee p2_goals p2_guest p2_home p2_prices p2_skills this_leans p2_odds_cases)) X in_X5_choose_X5 1 rfl rfl 1 (by decide) tyX5 tyX5_ok nmX5 m_X5_choose_f19 rfl rfl rfl (Nat.le_of_ble_eq_true rfl) rfl dX5_choose_109 ?_
  refine J_aload_n X dX5_choose_112 0 rfl ?_
  refine J_aload_n X dX5_choose_113 0 rfl ?_
  refine J_get (C := RX5) (T := TX5) (N := 5) (ci := 5) (v := .int this_sum) X in_X5_choose_X5 1 rfl rfl 3 (by decide) m_X5_choose_f26 rfl dX5_choose_114 ?_
  refine J_put (host := "") (C := RX5) (T := TX5) (N := 5) (ci := 5) (ws' := (w_X5_choose cI cJ cZ h_p2 h_this q_p2 q_this q_p2_odds p2_count p2_base p2_topLean p2_topSpot x5 this_sum this_sum this_cost p2_odds_upper p2_odds_lower p2_fee p2_goals p2_guest p2_home p2_prices p2_skills this_leans p2_odds_cases)) X in_X5_choose_X5 1 rfl rfl 2 (by decide) tyX5 tyX5_ok nmX5 m_X5_choose_f23 rfl rfl rfl (Nat.le_of_ble_eq_true rfl) rfl dX5_choose_117 ?_
  refine J_aload_n X dX5_choose_120 0 rfl ?_
  refine J_get (C := RX5) (T := TX5) (N := 5) (ci := 5) (v := .int this_cost) X in_X5_choose_X5 1 rfl rfl 4 (by decide) m_X5_choose_f29 rfl dX5_choose_121 ?_
  refine J_istore (lv' := [(4, .int this_cost), (0, .ref h_this), (1, .int x1), (2, .ref h_p2), (3, .int x3), (5, .int x5), (6, .int x6)]) X dX5_choose_124 (by decide) rfl ?_
  refine J_lv (lv' := [(0, .ref h_this), (1, .int x1), (2, .ref h_p2), (3, .int x3), (4, .int this_cost), (5, .int x5), (6, .int x6)]) [1, 2, 3, 4, 0, 5, 6] rfl ?_
  exact b_X5_choose_126 X cI cJ cZ h_p2 h_this q_p2 q_this q_p2_odds  z0 z1 z2 z3 z4 z5 z6 z7 z8 z9 k_35 hk_35 p2_count p2_base p2_topLean p2_topSpot x5 this_sum this_sum this_cost p2_odds_upper p2_odds_lower p2_fee p2_goals p2_guest p2_home p2_prices p2_skills this_leans p2_odds_cases x1 x3 this_cost x5 x6 hT
set_option maxHeartbeats 4000000 in
set_option maxRecDepth 100000 in
theorem b_X5_choose_35_b {p : Program} {l : Launch} {e : Env} {s : State} {m : MethodId} {args : Array Value} {below : List Frame} {meth : Method} {c : Code} {D : va_G} {A : Nat → Prop} {cI cJ cZ : ClassId} (X : Cx p m c cX5_choose 8 s args wsX5_choose RX5 D (tys3 cI cJ cZ) meth none) (_ _ _ : ClassId)  (h_p2 : Nat) (h_this : Nat) (q_p2 : Nat → Nat) (q_this : Nat → Nat) (q_p2_odds : Nat → Nat)  (z0 : Int32) (z1 : Int32) (z2 : Int32) (z3 : Int32) (z4 : Int32) (z5 : Int32) (z6 : Int64) (z7 : Int64) (z8 : Nat → Int32) (z9 : Nat → Int64) (k_35 : Int32 → Int32 → Int32 → Int32 → Int32 → Int32 → Int32 → Int32 → Int64 → Int64 → (Nat → Int32) → (Nat → Int32) → (Nat → Int32) → (Nat → Int32) → (Nat → Int32) → (Nat → Int32) → (Nat → Int32) → (Nat → Int64) → Int32 → Int32 → Int32 → Int32 → Int32 → (Option (Int32 × Int32 × Int32 × Int32 × Int32 × Int32 × Int64 × Int64 × (Nat → Int32) × (Nat → Int64)))) (hk_35 : ∀ (p2_count : Int32) (p2_base : Int32) (p2_topLean : Int32) (p2_topSpot : Int32) (this_bestSet : Int32) (this_bestSum : Int32) (this_sum : Int32) (this_cost : Int32) (p2_odds_upper : Int64) (p2_odds_lower : Int64) (p2_fee : Nat → Int32) (p2_goals : Nat → Int32) (p2_guest : Nat → Int32) (p2_home : Nat → Int32) (p2_prices : Nat → Int32) (p2_skills : Nat → Int32) (this_leans : Nat → Int32) (p2_odds_cases : Nat → Int64) (x1 : Int32) (x3 : Int32) (x4 : Int32) (x5 : Int32) (x6 : Int32), k_35 p2_count p2_base p2_topLean p2_topSpot this_bestSet this_bestSum this_sum this_cost p2_odds_upper p2_odds_lower p2_fee p2_goals p2_guest p2_home p2_prices p2_skills this_leans p2_odds_cases x1 x3 x4 x5 x6 = some (z0, z1, z2, z3, z4, z5, z6, z7, z8, z9) → J p l e rmX5_choose s m args below meth c D A 8 (QV D below args s A (w_X5_choose cI cJ cZ h_p2 h_this q_p2 q_this q_p2_odds p2_count p2_base z0 z1 z2 z3 z4 z5 z6 z7 p2_fee p2_goals p2_guest p2_home p2_prices p2_skills z8 z9)) 0 0 (w_X5_choose cI cJ cZ h_p2 h_this q_p2 q_this q_p2_odds p2_count p2_base p2_topLean p2_topSpot this_bestSet this_bestSum this_sum this_cost p2_odds_upper p2_odds_lower p2_fee p2_goals p2_guest p2_home p2_prices p2_skills this_leans p2_odds_cases) [(0, .ref h_this), (1, .int x1), (2, .ref h_p2), (3, .int x3), (4, .int x4), (5, .int x5), (6, .int x6)] [] 35) (p2_count : Int32) (p2_base : Int32) (p2_topLean : Int32) (p2_topSpot : Int32) (this_bestSet : Int32) (this_bestSum : Int32) (this_sum : Int32) (this_cost : Int32) (p2_odds_upper : Int64) (p2_odds_lower : Int64) (p2_fee : Nat → Int32) (p2_goals : Nat → Int32) (p2_guest : Nat → Int32) (p2_home : Nat → Int32) (p2_prices : Nat → Int32) (p2_skills : Nat → Int32) (this_leans : Nat → Int32) (p2_odds_cases : Nat → Int64) (x1 : Int32) (x3 : Int32) (x4 : Int32) (x5 : Int32) (x6 : Int32) (hT : t_X5_choose_35_b  k_35 p2_count p2_base p2_topLean p2_topSpot this_bestSet this_bestSum this_sum this_cost p2_odds_upper p2_odds_lower p2_fee p2_goals p2_guest p2_home p2_prices p2_skills this_leans p2_odds_cases x1 x3 x4 x5 x6 = some (z0, z1, z2, z3, z4, z5, z6, z7, z8, z9)) : J p l e rmX5_choose s m args below meth c D A 8 (QV D below args s A (w_X5_choose cI cJ cZ h_p2 h_this q_p2 q_this q_p2_odds p2_count p2_base z0 z1 z2 z3 z4 z5 z6 z7 p2_fee p2_goals p2_guest p2_home p2_prices p2_skills z8 z9)) 0 0 (w_X5_choose cI cJ cZ h_p2 h_this q_p2 q_this q_p2_odds p2_count p2_base p2_topLean p2_topSpot this_bestSet this_bestSum this_sum this_cost p2_odds_upper p2_odds_lower p2_fee p2_goals p2_guest p2_home p2_prices p2_skills this_leans p2_odds_cases) [(0, .ref h_this), (1, .int x1), (2, .ref h_p2), (3, .int x3), (4, .int x4), (5, .int x5), (6, .int x6)] [] 35 := by
  unfold t_X5_choose_35_b at hT
  refine J_iload X dX5_choose_35 6 rfl ?_
  refine J_iconst (v := 1) X dX5_choose_37 (by decide) ?_
  refine J_iload_n X dX5_choose_38 3 rfl ?_
  obtain ⟨v1, hq1, hT⟩ := bd1_e hT
  refine J_ci (wc := (w_J6_bitCount_0f7a4 cI cJ cZ )) (wc' := (w_J6_bitCount_0f7a4 cI cJ cZ )) (ws' := (w_X5_choose cI cJ cZ h_p2 h_this q_p2 q_this q_p2_odds p2_count p2_base p2_topLean p2_topSpot this_bestSet this_bestSum this_sum this_cost p2_odds_upper p2_odds_lower p2_fee p2_goals p2_guest p2_home p2_prices p2_skills this_leans p2_odds_cases)) (idxs [false, false, false, false, false, false, false, false, false, false, false] 0) (idxs [true, true, true, true, true, true, true, true, true, true, true] 0) 11 rfl rfl rfl (pick_C _ rfl rfl) rfl (pick_C _ rfl rfl) rfl (pick_R _ rfl rfl rfl) (run_S (As := [.int x3]) (rest := [.int (1 : Int32), .int x6]) X (c_J6_bitCount_0f7a4 l D cI cJ cZ  x3 v1 hq1) (cw_X5_choose_J6_bitCount_0f7a4_32 X.1.2.2.2.2) rfl rfl (Nat.le_of_ble_eq_true rfl) dX5_choose_39 ⟨Nat.zero_le _, Nat.zero_le _⟩) ?_
  refine J_ishl X dX5_choose_42 ?_
  refine J_icmp_ge (tgt := 132) X dX5_choose_43 (by decide) (fun hc2 => ?_) (fun hc2 => ?_)
  · have hT := ift hT hc2
    cases hT
    exact J_vret X dX5_choose_132
  · have hT := iff_ hT hc2
    refine J_iload X dX5_choose_46 5 rfl ?_
    refine J_iload_n X dX5_choose_48 3 rfl ?_
    refine J_isub X dX5_choose_49 ?_
    refine J_iload_n X dX5_choose_50 3 rfl ?_
    refine J_iand X dX5_choose_51 ?_
    refine J_istore (lv' := [(7, .int ((x5 - x3) &&& x3)), (0, .ref h_this), (1, .int x1), (2, .ref h_p2), (3, .int x3), (4, .int x4), (5, .int x5), (6, .int x6)]) X dX5_choose_52 (by decide) rfl ?_
    refine J_aload_n X dX5_choose_54 1 rfl ?_
    refine J_iload X dX5_choose_55 6 rfl ?_
    refine J_iload X dX5_choose_57 0 rfl ?_
    refine J_aload_n X dX5_choose_59 3 rfl ?_
    obtain ⟨u3_0, u3_1, hq3, hT⟩ := bd2_e hT
    refine J_cv (wc := (w_X5_change cI cJ cZ h_p2 h_this q_p2 q_this p2_count p2_base p2_topLean p2_topSpot this_bestSet this_bestSum this_sum this_cost p2_fee this_leans)) (wc' := (w_X5_change cI cJ cZ h_p2 h_this q_p2 q_this p2_count p2_base p2_topLean p2_topSpot this_bestSet this_bestSum u3_0 u3_1 p2_fee this_leans)) (ws' := (w_X5_choose cI cJ cZ h_p2 h_this q_p2 q_this q_p2_odds p2_count p2_base p2_topLean p2_topSpot this_bestSet this_bestSum u3_0 u3_1 p2_odds_upper p2_odds_lower p2_fee p2_goals p2_guest p2_home p2_prices p2_skills this_leans p2_odds_cases)) (idxs [true, true, false, true, false, false, false, false, false, true, false] 0) (idxs [false, false, true, false, true, true, true, true, true, false, true] 0) 11 rfl rfl rfl (pick_C _ rfl rfl) rfl (pick_C _ rfl rfl) rfl (pick_R _ rfl rfl rfl) (run_V (As := [.int x5, .int ((x5 - x3) &&& x3), .ref h_p2]) (rest := []) X (c_X5_change l D cI cJ cZ h_p2 h_this q_p2 q_this p2_count p2_base p2_topLean p2_topSpot this_bestSet this_bestSum this_sum this_cost p2_fee this_leans x5 ((x5 - x3) &&& x3) u3_0 u3_1 hq3) (cw_X5_choose_X5_change_38 X.1.2.2.2.2) 1 rfl rfl rfl rfl (Nat.le_of_ble_eq_true rfl) dX5_choose_60 ⟨Nat.zero_le _, Nat.zero_le _⟩) ?_
    refine J_iload X dX5_choose_63 0 rfl ?_
    refine J_istore (lv' := [(5, .int ((x5 - x3) &&& x3)), (7, .int ((x5 - x3) &&& x3)), (0, .ref h_this), (1, .int x1), (2, .ref h_p2), (3, .int x3), (4, .int x4), (6, .int x6)]) X dX5_choose_65 (by decide) rfl ?_
    refine J_aload_n X dX5_choose_67 2 rfl ?_
    refine J_get (C := RX5) (T := TX5) (N := 5) (ci := 5) (v := .int u3_1) X in_X5_choose_X5 1 rfl rfl 4 (by decide) m_X5_choose_f29 rfl dX5_choose_68 ?_
    refine J_iload_n X dX5_choose_71 3 rfl ?_
    refine J_icmp_gt (tgt := 126) X dX5_choose_72 (by decide) (fun hc4 => ?_) (fun hc4 => ?_)
    · have hT := ift hT hc4
      refine J_lv (lv' := [(0, .ref h_this), (1, .int x1), (2, .ref h_p2), (3, .int x3), (4, .int x4), (5, .int ((x5 - x3) &&& x3)), (6, .int x6)]) [2, 3, 4, 5, 6, 0, 7] rfl ?_
      exact b_X5_choose_126 X cI cJ cZ h_p2 h_this q_p2 q_this q_p2_odds  z0 z1 z2 z3 z4 z5 z6 z7 z8 z9 k_35 hk_35 p2_count p2_base p2_topLean p2_topSpot this_bestSet this_bestSum u3_0 u3_1 p2_odds_upper p2_odds_lower p2_fee p2_goals p2_guest p2_home p2_prices p2_skills this_leans p2_odds_cases x1 x3 x4 ((x5 - x3) &&& x3) x6 hT
    · have hT := iff_ hT hc4
      refine J_aload_n X dX5_choose_75 2 rfl ?_
      refine J_get (C := RX5) (T := TX5) (N := 5) (ci := 5) (v := .int u3_0) X in_X5_choose_X5 1 rfl rfl 3 (by decide) m_X5_choose_f26 rfl dX5_choose_76 ?_
      refine J_aload_n X dX5_choose_79 2 rfl ?_
      refine J_get (C := RX5) (T := TX5) (N := 5) (ci := 5) (v := .int this_bestSum) X in_X5_choose_X5 1 rfl rfl 2 (by decide) m_X5_choose_f23 rfl dX5_choose_80 ?_
      refine J_icmp_gt (tgt := 106) X dX5_choose_83 (by decide) (fun hc5 => ?_) (fun hc5 => ?_)
      · have hT := ift hT hc5
        refine J_lv (lv' := [(0, .ref h_this), (1, .int x1), (2, .ref h_p2), (3, .int x3), (5, .int ((x5 - x3) &&& x3)), (6, .int x6)]) [2, 3, 4, 5, 0, 7] rfl ?_
        exact b_X5_choose_106 X cI cJ cZ h_p2 h_this q_p2 q_this q_p2_odds  z0 z1 z2 z3 z4 z5 z6 z7 z8 z9 k_35 hk_35 p2_count p2_base p2_topLean p2_topSpot this_bestSet this_bestSum u3_0 u3_1 p2_odds_upper p2_odds_lower p2_fee p2_goals p2_guest p2_home p2_prices p2_skills this_leans p2_odds_cases x1 x3 ((x5 - x3) &&& x3) x6 hT
      · have hT := iff_ hT hc5
        refine J_aload_n X dX5_choose_86 2 rfl ?_
        refine J_get (C := RX5) (T := TX5) (N := 5) (ci := 5) (v := .int u3_0) X in_X5_choose_X5 1 rfl rfl 3 (by decide) m_X5_choose_f26 rfl dX5_choose_87 ?_
        refine J_aload_n X dX5_choose_90 2 rfl ?_
        refine J_get (C := RX5) (T := TX5) (N := 5) (ci := 5) (v := .int this_bestSum) X in_X5_choose_X5 1 rfl rfl 2 (by decide) m_X5_choose_f23 rfl dX5_choose_91 ?_
        refine J_icmp_ne (tgt := 126) X dX5_choose_94 (by decide) (fun hc6 => ?_) (fun hc6 => ?_)
        · have hT := iff_ hT hc6
          refine J_lv (lv' := [(0, .ref h_this), (1, .int x1), (2, .ref h_p2), (3, .int x3), (4, .int x4), (5, .int ((x5 - x3) &&& x3)), (6, .int x6)]) [2, 3, 4, 5, 6, 0, 7] rfl ?_
          exact b_X5_choose_126 X cI cJ cZ h_p2 h_this q_p2 q_this q_p2_odds  z0 z1 z2 z3 z4 z5 z6 z7 z8 z9 k_35 hk_35 p2_count p2_base p2_topLean p2_topSpot this_bestSet this_bestSum u3_0 u3_1 p2_odds_upper p2_odds_lower p2_fee p2_goals p2_guest p2_home p2_prices p2_skills this_leans p2_odds_cases x1 x3 x4 ((x5 - x3) &&& x3) x6 hT
        · have hT := ift hT hc6
          refine J_aload_n X dX5_choose_97 2 rfl ?_
          refine J_get (C := RX5) (T := TX5) (N := 5) (ci := 5) (v := .int u3_1) X in_X5_choose_X5 1 rfl rfl 4 (by decide) m_X5_choose_f29 rfl dX5_choose_98 ?_
          refine J_iload X dX5_choose_101 6 rfl ?_
          refine J_icmp_ge (tgt := 126) X dX5_choose_103 (by decide) (fun hc7 => ?_) (fun hc7 => ?_)
          · have hT := ift hT hc7
            refine J_lv (lv' := [(0, .ref h_this), (1, .int x1), (2, .ref h_p2), (3, .int x3), (4, .int x4), (5, .int ((x5 - x3) &&& x3)), (6, .int x6)]) [2, 3, 4, 5, 6, 0, 7] rfl ?_
            exact b_X5_choose_126 X cI cJ cZ h_p2 h_this q_p2 q_this q_p2_odds  z0 z1 z2 z3 z4 z5 z6 z7 z8 z9 k_35 hk_35 p2_count p2_base p2_topLean p2_topSpot this_bestSet this_bestSum u3_0 u3_1 p2_odds_upper p2_odds_lower p2_fee p2_goals p2_guest p2_home p2_prices p2_skills this_leans p2_odds_cases x1 x3 x4 ((x5 - x3) &&& x3) x6 hT
          · have hT := iff_ hT hc7
            refine J_lv (lv' := [(0, .ref h_this), (1, .int x1), (2, .ref h_p2), (3, .int x3), (5, .int ((x5 - x3) &&& x3)), (6, .int x6)]) [2, 3, 4, 5, 0, 7] rfl ?_
            exact b_X5_choose_106 X cI cJ cZ h_p2 h_this q_p2 q_this q_p2_odds  z0 z1 z2 z3 z4 z5 z6 z7 z8 z9 k_35 hk_35 p2_count p2_base p2_topLean p2_topSpot this_bestSet this_bestSum u3_0 u3_1 p2_odds_upper p2_odds_lower p2_fee p2_goals p2_guest p2_home p2_prices p2_skills this_leans p2_odds_cases x1 x3 ((x5 - x3) &&& x3) x6 hT
set_option maxHeartbeats 4000000 in
set_option maxRecDepth 100000 in
theorem b_X5_choose_35 {p : Program} {l : Launch} {e : Env} {s : State} {m : MethodId} {args : Array Value} {below : List Frame} {meth : Method} {c : Code} {D : va_G} {A : Nat → Prop} {cI cJ cZ : ClassId} (X : Cx p m c cX5_choose 8 s args wsX5_choose RX5 D (tys3 cI cJ cZ) meth none) (_ _ _ : ClassId)  (h_p2 : Nat) (h_this : Nat) (q_p2 : Nat → Nat) (q_this : Nat → Nat) (q_p2_odds : Nat → Nat)  (z0 : Int32) (z1 : Int32) (z2 : Int32) (z3 : Int32) (z4 : Int32) (z5 : Int32) (z6 : Int64) (z7 : Int64) (z8 : Nat → Int32) (z9 : Nat → Int64)  : ∀ (n : Nat) (p2_count : Int32) (p2_base : Int32) (p2_topLean : Int32) (p2_topSpot : Int32) (this_bestSet : Int32) (this_bestSum : Int32) (this_sum : Int32) (this_cost : Int32) (p2_odds_upper : Int64) (p2_odds_lower : Int64) (p2_fee : Nat → Int32) (p2_goals : Nat → Int32) (p2_guest : Nat → Int32) (p2_home : Nat → Int32) (p2_prices : Nat → Int32) (p2_skills : Nat → Int32) (this_leans : Nat → Int32) (p2_odds_cases : Nat → Int64) (x1 : Int32) (x3 : Int32) (x4 : Int32) (x5 : Int32) (x6 : Int32) (hT : t_X5_choose_35   n p2_count p2_base p2_topLean p2_topSpot this_bestSet this_bestSum this_sum this_cost p2_odds_upper p2_odds_lower p2_fee p2_goals p2_guest p2_home p2_prices p2_skills this_leans p2_odds_cases x1 x3 x4 x5 x6 = some (z0, z1, z2, z3, z4, z5, z6, z7, z8, z9)), J p l e rmX5_choose s m args below meth c D A 8 (QV D below args s A (w_X5_choose cI cJ cZ h_p2 h_this q_p2 q_this q_p2_odds p2_count p2_base z0 z1 z2 z3 z4 z5 z6 z7 p2_fee p2_goals p2_guest p2_home p2_prices p2_skills z8 z9)) 0 0 (w_X5_choose cI cJ cZ h_p2 h_this q_p2 q_this q_p2_odds p2_count p2_base p2_topLean p2_topSpot this_bestSet this_bestSum this_sum this_cost p2_odds_upper p2_odds_lower p2_fee p2_goals p2_guest p2_home p2_prices p2_skills this_leans p2_odds_cases) [(0, .ref h_this), (1, .int x1), (2, .ref h_p2), (3, .int x3), (4, .int x4), (5, .int x5), (6, .int x6)] [] 35 := by
  intro n
  induction n with
  | zero => intro p2_count p2_base p2_topLean p2_topSpot this_bestSet this_bestSum this_sum this_cost p2_odds_upper p2_odds_lower p2_fee p2_goals p2_guest p2_home p2_prices p2_skills this_leans p2_odds_cases x1 x3 x4 x5 x6 hT; cases hT
  | succ n ih =>
    intro p2_count p2_base p2_topLean p2_topSpot this_bestSet this_bestSum this_sum this_cost p2_odds_upper p2_odds_lower p2_fee p2_goals p2_guest p2_home p2_prices p2_skills this_leans p2_odds_cases x1 x3 x4 x5 x6 hT
    exact b_X5_choose_35_b X cI cJ cZ h_p2 h_this q_p2 q_this q_p2_odds  z0 z1 z2 z3 z4 z5 z6 z7 z8 z9  (t_X5_choose_35   n) ih p2_count p2_base p2_topLean p2_topSpot this_bestSet this_bestSum this_sum this_cost p2_odds_upper p2_odds_lower p2_fee p2_goals p2_guest p2_home p2_prices p2_skills this_leans p2_odds_cases x1 x3 x4 x5 x6 hT
set_option maxHeartbeats 4000000 in
set_option maxRecDepth 100000 in
theorem c_X5_choose (l : Launch) (D : va_G) (cI cJ cZ : ClassId) (h_p2 : Nat) (h_this : Nat) (q_p2 : Nat → Nat) (q_this : Nat → Nat) (q_p2_odds : Nat → Nat) (p2_count : Int32) (p2_base : Int32) (p2_topLean : Int32) (p2_topSpot : Int32) (this_bestSet : Int32) (this_bestSum : Int32) (this_sum : Int32) (this_cost : Int32) (p2_odds_upper : Int64) (p2_odds_lower : Int64) (p2_fee : Nat → Int32) (p2_goals : Nat → Int32) (p2_guest : Nat → Int32) (p2_home : Nat → Int32) (p2_prices : Nat → Int32) (p2_skills : Nat → Int32) (this_leans : Nat → Int32) (p2_odds_cases : Nat → Int64) (x1 : Int32) (z0 : Int32) (z1 : Int32) (z2 : Int32) (z3 : Int32) (z4 : Int32) (z5 : Int32) (z6 : Int64) (z7 : Int64) (z8 : Nat → Int32) (z9 : Nat → Int64) (hT : t_X5_choose  p2_count p2_base p2_topLean p2_topSpot this_bestSet this_bestSum this_sum this_cost p2_odds_upper p2_odds_lower p2_fee p2_goals p2_guest p2_home p2_prices p2_skills this_leans p2_odds_cases x1 = some (z0, z1, z2, z3, z4, z5, z6, z7, z8, z9)) : Cv l yX5_choose wsX5_choose rmX5_choose D (tys3 cI cJ cZ) [.ref h_this, .int x1, .ref h_p2] (w_X5_choose cI cJ cZ h_p2 h_this q_p2 q_this q_p2_odds p2_count p2_base p2_topLean p2_topSpot this_bestSet this_bestSum this_sum this_cost p2_odds_upper p2_odds_lower p2_fee p2_goals p2_guest p2_home p2_prices p2_skills this_leans p2_odds_cases) (w_X5_choose cI cJ cZ h_p2 h_this q_p2 q_this q_p2_odds p2_count p2_base z0 z1 z2 z3 z4 z5 z6 z7 p2_fee p2_goals p2_guest p2_home p2_prices p2_skills z8 z9) := by
  refine Cv.ofJ (cc := cX5_choose) (nL := 8) (rt := none) (own := RX5) (by decide) rfl rfl (Nat.le_of_ble_eq_true rfl) ?_
  intro p e s m below meth c A X
  unfold t_X5_choose at hT
  refine J_lv (lv' := [(0, .ref h_this), (1, .int x1), (2, .ref h_p2)]) [0, 1, 2] rfl ?_
  refine J_aload_n X dX5_choose_0 0 rfl ?_
  refine J_aload_n X dX5_choose_1 2 rfl ?_
  obtain ⟨v8, u8_0, u8_1, u8_2, u8_3, u8_4, u8_5, hq8, hT⟩ := bd7_e hT
  refine J_ci (wc := (w_X5_seekWorthy cI cJ cZ h_p2 h_this q_p2 q_this q_p2_odds p2_count p2_base p2_topLean p2_topSpot this_bestSet this_bestSum this_sum this_cost p2_odds_upper p2_odds_lower p2_goals p2_guest p2_home p2_prices p2_skills this_leans p2_odds_cases)) (wc' := (w_X5_seekWorthy cI cJ cZ h_p2 h_this q_p2 q_this q_p2_odds p2_count p2_base u8_0 u8_1 this_bestSet this_bestSum this_sum this_cost u8_2 u8_3 p2_goals p2_guest p2_home p2_prices p2_skills u8_4 u8_5)) (ws' := (w_X5_choose cI cJ cZ h_p2 h_this q_p2 q_this q_p2_odds p2_count p2_base u8_0 u8_1 this_bestSet this_bestSum this_sum this_cost u8_2 u8_3 p2_fee p2_goals p2_guest p2_home p2_prices p2_skills u8_4 u8_5)) (idxs [true, true, true, false, true, true, true, true, true, true, true] 0) (idxs [false, false, false, true, false, false, false, false, false, false, false] 0) 11 rfl rfl rfl (pick_C _ rfl rfl) rfl (pick_C _ rfl rfl) rfl (pick_R _ rfl rfl rfl) (run_V (As := [.ref h_p2]) (rest := []) X (c_X5_seekWorthy l D cI cJ cZ h_p2 h_this q_p2 q_this q_p2_odds p2_count p2_base p2_topLean p2_topSpot this_bestSet this_bestSum this_sum this_cost p2_odds_upper p2_odds_lower p2_goals p2_guest p2_home p2_prices p2_skills this_leans p2_odds_cases  v8 u8_0 u8_1 u8_2 u8_3 u8_4 u8_5 hq8) (cw_X5_choose_X5_seekWorthy_15 X.1.2.2.2.2) 1 rfl rfl rfl rfl (Nat.le_of_ble_eq_true rfl) dX5_choose_2 ⟨Nat.zero_le _, Nat.zero_le _⟩) ?_
  refine J_istore_n (lv' := [(3, .int v8), (0, .ref h_this), (1, .int x1), (2, .ref h_p2)]) X dX5_choose_5 (by decide) rfl ?_
  refine J_aload_n X dX5_choose_6 1 rfl ?_
  refine J_iconst (v := 0) X dX5_choose_7 (by decide) ?_
  refine J_put (host := "") (C := RX5) (T := TX5) (N := 5) (ci := 5) (ws' := (w_X5_choose cI cJ cZ h_p2 h_this q_p2 q_this q_p2_odds p2_count p2_base u8_0 u8_1 (0 : Int32) this_bestSum this_sum this_cost u8_2 u8_3 p2_fee p2_goals p2_guest p2_home p2_prices p2_skills u8_4 u8_5)) X in_X5_choose_X5 1 rfl rfl 1 (by decide) tyX5 tyX5_ok nmX5 m_X5_choose_f19 rfl rfl rfl (Nat.le_of_ble_eq_true rfl) rfl dX5_choose_8 ?_
  refine J_aload_n X dX5_choose_11 1 rfl ?_
  refine J_iconst (v := 0) X dX5_choose_12 (by decide) ?_
  refine J_put (host := "") (C := RX5) (T := TX5) (N := 5) (ci := 5) (ws' := (w_X5_choose cI cJ cZ h_p2 h_this q_p2 q_this q_p2_odds p2_count p2_base u8_0 u8_1 (0 : Int32) (0 : Int32) this_sum this_cost u8_2 u8_3 p2_fee p2_goals p2_guest p2_home p2_prices p2_skills u8_4 u8_5)) X in_X5_choose_X5 1 rfl rfl 2 (by decide) tyX5 tyX5_ok nmX5 m_X5_choose_f23 rfl rfl rfl (Nat.le_of_ble_eq_true rfl) rfl dX5_choose_13 ?_
  refine J_aload_n X dX5_choose_16 1 rfl ?_
  refine J_iconst (v := 0) X dX5_choose_17 (by decide) ?_
  refine J_put (host := "") (C := RX5) (T := TX5) (N := 5) (ci := 5) (ws' := (w_X5_choose cI cJ cZ h_p2 h_this q_p2 q_this q_p2_odds p2_count p2_base u8_0 u8_1 (0 : Int32) (0 : Int32) (0 : Int32) this_cost u8_2 u8_3 p2_fee p2_goals p2_guest p2_home p2_prices p2_skills u8_4 u8_5)) X in_X5_choose_X5 1 rfl rfl 3 (by decide) tyX5 tyX5_ok nmX5 m_X5_choose_f26 rfl rfl rfl (Nat.le_of_ble_eq_true rfl) rfl dX5_choose_18 ?_
  refine J_aload_n X dX5_choose_21 1 rfl ?_
  refine J_iconst (v := 0) X dX5_choose_22 (by decide) ?_
  refine J_put (host := "") (C := RX5) (T := TX5) (N := 5) (ci := 5) (ws' := (w_X5_choose cI cJ cZ h_p2 h_this q_p2 q_this q_p2_odds p2_count p2_base u8_0 u8_1 (0 : Int32) (0 : Int32) (0 : Int32) (0 : Int32) u8_2 u8_3 p2_fee p2_goals p2_guest p2_home p2_prices p2_skills u8_4 u8_5)) X in_X5_choose_X5 1 rfl rfl 4 (by decide) tyX5 tyX5_ok nmX5 m_X5_choose_f29 rfl rfl rfl (Nat.le_of_ble_eq_true rfl) rfl dX5_choose_23 ?_
  refine J_iconst (v := 0) X dX5_choose_26 (by decide) ?_
  refine J_istore (lv' := [(4, .int (0 : Int32)), (3, .int v8), (0, .ref h_this), (1, .int x1), (2, .ref h_p2)]) X dX5_choose_27 (by decide) rfl ?_
  refine J_iconst (v := 0) X dX5_choose_29 (by decide) ?_
  refine J_istore (lv' := [(5, .int (0 : Int32)), (4, .int (0 : Int32)), (3, .int v8), (0, .ref h_this), (1, .int x1), (2, .ref h_p2)]) X dX5_choose_30 (by decide) rfl ?_
  refine J_iconst (v := 1) X dX5_choose_32 (by decide) ?_
  refine J_istore (lv' := [(6, .int (1 : Int32)), (5, .int (0 : Int32)), (4, .int (0 : Int32)), (3, .int v8), (0, .ref h_this), (1, .int x1), (2, .ref h_p2)]) X dX5_choose_33 (by decide) rfl ?_
  refine J_lv (lv' := [(0, .ref h_this), (1, .int x1), (2, .ref h_p2), (3, .int v8), (4, .int (0 : Int32)), (5, .int (0 : Int32)), (6, .int (1 : Int32))]) [4, 5, 6, 3, 2, 1, 0] rfl ?_
  exact b_X5_choose_35 X cI cJ cZ h_p2 h_this q_p2 q_this q_p2_odds  z0 z1 z2 z3 z4 z5 z6 z7 z8 z9  lfuel p2_count p2_base u8_0 u8_1 (0 : Int32) (0 : Int32) (0 : Int32) (0 : Int32) u8_2 u8_3 p2_fee p2_goals p2_guest p2_home p2_prices p2_skills u8_4 u8_5 x1 v8 (0 : Int32) (0 : Int32) (1 : Int32) hT
-- ===== SoldMatches$Ranks.score(II)V
abbrev rmX6_score : Room := { frames := 0, cells := 0, slots := 0, locals := 0 }
def w_X6_score (cI cJ cZ : ClassId) (h_this : Nat) (q_this : Nat → Nat) (this_down : Int32) (this_size : Int32) (this_balance : Nat → Int32) (this_plays : Nat → Int32) (this_points : Nat → Int32) : va_W := [(h_this, .inr (6, oFX6 q_this this_down this_size)), ((q_this 4), .inl (cI, 8, .inl this_balance)), ((q_this 5), .inl (cZ, 8, .inl this_plays)), ((q_this 3), .inl (cI, 8, .inl this_points))]
theorem m_X6_score_f25 : Cond.fieldLink RX6 25 "SoldMatches$Ranks" "plays" "[Z" ∈ wsX6_score := List.mem_of_getElem? (i := 1) rfl
theorem in_X6_score_X6 : ∀ w ∈ wsX60, w ∈ wsX6_score := fun w h => List.mem_cons_of_mem _ (List.mem_append_right _ h)
theorem m_X6_score_f22 : Cond.fieldLink RX6 22 "SoldMatches$Ranks" "balance" "[I" ∈ wsX6_score := List.mem_of_getElem? (i := 2) rfl
theorem m_X6_score_f19 : Cond.fieldLink RX6 19 "SoldMatches$Ranks" "points" "[I" ∈ wsX6_score := List.mem_of_getElem? (i := 3) rfl
def t_X6_score_41   (this_balance : Nat → Int32) (this_plays : Nat → Int32) (this_points : Nat → Int32) (s0 : Int32) (s1 : Int32) (s2 : Int32) : Option ((Nat → Int32) × (Nat → Int32) × (Nat → Int32)) := ckn (s2 < 0 ∨ 8 ≤ s2.toNatClampNeg) (some (this_balance, this_plays, upd this_points s2.toNatClampNeg (s1 + s0)))
def t_X6_score  (this_balance : Nat → Int32) (this_plays : Nat → Int32) (this_points : Nat → Int32) (x1 : Int32) (x2 : Int32) : Option ((Nat → Int32) × (Nat → Int32) × (Nat → Int32)) := ckn (x1 < 0 ∨ 8 ≤ x1.toNatClampNeg) (ckn (x1 < 0 ∨ 8 ≤ x1.toNatClampNeg) (ckn (x1 < 0 ∨ 8 ≤ x1.toNatClampNeg) (ckn (x1 < 0 ∨ 8 ≤ x1.toNatClampNeg) (if x2 ≤ 0 then (if x2 = 0 then (t_X6_score_41   (upd this_balance x1.toNatClampNeg ((this_balance x1.toNatClampNeg) + x2)) (upd this_plays x1.toNatClampNeg (vp_nar .boolean (1 : Int32))) this_points (1 : Int32) (this_points x1.toNatClampNeg) x1) else (t_X6_score_41   (upd this_balance x1.toNatClampNeg ((this_balance x1.toNatClampNeg) + x2)) (upd this_plays x1.toNatClampNeg (vp_nar .boolean (1 : Int32))) this_points (0 : Int32) (this_points x1.toNatClampNeg) x1)) else (t_X6_score_41   (upd this_balance x1.toNatClampNeg ((this_balance x1.toNatClampNeg) + x2)) (upd this_plays x1.toNatClampNeg (vp_nar .boolean (1 : Int32))) this_points (3 : Int32) (this_points x1.toNatClampNeg) x1)))))
set_option maxHeartbeats 4000000 in
set_option maxRecDepth 100000 in
theorem b_X6_score_41 {p : Program} {l : Launch} {e : Env} {s : State} {m : MethodId} {args : Array Value} {below : List Frame} {meth : Method} {c : Code} {D : va_G} {A : Nat → Prop} {cI cJ cZ : ClassId} (X : Cx p m c cX6_score 3 s args wsX6_score RX6 D (tys3 cI cJ cZ) meth none) (_ _ _ : ClassId)  (h_this : Nat) (q_this : Nat → Nat) (this_down : Int32) (this_size : Int32) (z0 : Nat → Int32) (z1 : Nat → Int32) (z2 : Nat → Int32)  (this_balance : Nat → Int32) (this_plays : Nat → Int32) (this_points : Nat → Int32) (s0 : Int32) (s1 : Int32) (s2 : Int32) (hT : t_X6_score_41   this_balance this_plays this_points s0 s1 s2 = some (z0, z1, z2)) : J p l e rmX6_score s m args below meth c D A 3 (QV D below args s A (w_X6_score cI cJ cZ h_this q_this this_down this_size z0 z1 z2)) 0 0 (w_X6_score cI cJ cZ h_this q_this this_down this_size this_balance this_plays this_points) [(0, .ref h_this)] [.int s0, .int s1, .int s2, .ref (q_this 3)] 41 := by
  unfold t_X6_score_41 at hT
  refine J_iadd X dX6_score_41 ?_
  obtain ⟨hk1, hT⟩ := ckn_e hT
  refine J_iast (ws' := (w_X6_score cI cJ cZ h_this q_this this_down this_size this_balance this_plays (upd this_points s2.toNatClampNeg (s1 + s0)))) X 3 rfl rfl hk1 rfl dX6_score_42 ?_
  cases hT
  exact J_vret X dX6_score_43
set_option maxHeartbeats 4000000 in
set_option maxRecDepth 100000 in
theorem c_X6_score (l : Launch) (D : va_G) (cI cJ cZ : ClassId) (h_this : Nat) (q_this : Nat → Nat) (this_down : Int32) (this_size : Int32) (this_balance : Nat → Int32) (this_plays : Nat → Int32) (this_points : Nat → Int32) (x1 : Int32) (x2 : Int32) (z0 : Nat → Int32) (z1 : Nat → Int32) (z2 : Nat → Int32) (hT : t_X6_score  this_balance this_plays this_points x1 x2 = some (z0, z1, z2)) : Cv l yX6_score wsX6_score rmX6_score D (tys3 cI cJ cZ) [.ref h_this, .int x1, .int x2] (w_X6_score cI cJ cZ h_this q_this this_down this_size this_balance this_plays this_points) (w_X6_score cI cJ cZ h_this q_this this_down this_size z0 z1 z2) := by
  refine Cv.ofJ (cc := cX6_score) (nL := 3) (rt := none) (own := RX6) (by decide) rfl rfl (Nat.le_of_ble_eq_true rfl) ?_
  intro p e s m below meth c A X
  unfold t_X6_score at hT
  refine J_lv (lv' := [(0, .ref h_this), (1, .int x1), (2, .int x2)]) [0, 1, 2] rfl ?_
  refine J_aload_n X dX6_score_0 0 rfl ?_
  refine J_get (C := RX6) (T := TX6) (N := 6) (ci := 6) (v := .ref (q_this 5)) X in_X6_score_X6 0 rfl rfl 5 (by decide) m_X6_score_f25 rfl dX6_score_1 ?_
  refine J_iload_n X dX6_score_4 1 rfl ?_
  refine J_iconst (v := 1) X dX6_score_5 (by decide) ?_
  obtain ⟨hk2, hT⟩ := ckn_e hT
  refine J_zast (ws' := (w_X6_score cI cJ cZ h_this q_this this_down this_size this_balance (upd this_plays x1.toNatClampNeg (vp_nar .boolean (1 : Int32))) this_points)) X 2 rfl rfl hk2 rfl dX6_score_6 ?_
  refine J_aload_n X dX6_score_7 0 rfl ?_
  refine J_get (C := RX6) (T := TX6) (N := 6) (ci := 6) (v := .ref (q_this 4)) X in_X6_score_X6 0 rfl rfl 4 (by decide) m_X6_score_f22 rfl dX6_score_8 ?_
  refine J_iload_n X dX6_score_11 1 rfl ?_
  refine J_dup2 X dX6_score_12 rfl rfl ?_
  obtain ⟨hk3, hT⟩ := ckn_e hT
  refine J_iald X 1 rfl rfl hk3 dX6_score_13 ?_
  refine J_iload_n X dX6_score_14 2 rfl ?_
  refine J_iadd X dX6_score_15 ?_
  obtain ⟨hk4, hT⟩ := ckn_e hT
  refine J_iast (ws' := (w_X6_score cI cJ cZ h_this q_this this_down this_size (upd this_balance x1.toNatClampNeg ((this_balance x1.toNatClampNeg) + x2)) (upd this_plays x1.toNatClampNeg (vp_nar .boolean (1 : Int32))) this_points)) X 1 rfl rfl hk4 rfl dX6_score_16 ?_
  refine J_aload_n X dX6_score_17 0 rfl ?_
  refine J_get (C := RX6) (T := TX6) (N := 6) (ci := 6) (v := .ref (q_this 3)) X in_X6_score_X6 0 rfl rfl 3 (by decide) m_X6_score_f19 rfl dX6_score_18 ?_
  refine J_iload_n X dX6_score_21 1 rfl ?_
  refine J_dup2 X dX6_score_22 rfl rfl ?_
  obtain ⟨hk5, hT⟩ := ckn_e hT
  refine J_iald X 3 rfl rfl hk5 dX6_score_23 ?_
  refine J_iload_n X dX6_score_24 2 rfl ?_
  refine J_if_le (tgt := 32) X dX6_score_25 (by decide) (fun hc6 => ?_) (fun hc6 => ?_)
  · have hT := ift hT hc6
    refine J_iload_n X dX6_score_32 2 rfl ?_
    refine J_if_ne (tgt := 40) X dX6_score_33 (by decide) (fun hc7 => ?_) (fun hc7 => ?_)
    · have hT := iff_ hT hc7
      refine J_iconst (v := 0) X dX6_score_40 (by decide) ?_
      refine J_lv (lv' := [(0, .ref h_this)]) [0] rfl ?_
      exact b_X6_score_41 X cI cJ cZ h_this q_this this_down this_size z0 z1 z2  (upd this_balance x1.toNatClampNeg ((this_balance x1.toNatClampNeg) + x2)) (upd this_plays x1.toNatClampNeg (vp_nar .boolean (1 : Int32))) this_points (0 : Int32) (this_points x1.toNatClampNeg) x1 hT
    · have hT := ift hT hc7
      refine J_iconst (v := 1) X dX6_score_36 (by decide) ?_
      refine J_goto (tgt := 41) X dX6_score_37 (by decide) ?_
      refine J_lv (lv' := [(0, .ref h_this)]) [0] rfl ?_
      exact b_X6_score_41 X cI cJ cZ h_this q_this this_down this_size z0 z1 z2  (upd this_balance x1.toNatClampNeg ((this_balance x1.toNatClampNeg) + x2)) (upd this_plays x1.toNatClampNeg (vp_nar .boolean (1 : Int32))) this_points (1 : Int32) (this_points x1.toNatClampNeg) x1 hT
  · have hT := iff_ hT hc6
    refine J_iconst (v := 3) X dX6_score_28 (by decide) ?_
    refine J_goto (tgt := 41) X dX6_score_29 (by decide) ?_
    refine J_lv (lv' := [(0, .ref h_this)]) [0] rfl ?_
    exact b_X6_score_41 X cI cJ cZ h_this q_this this_down this_size z0 z1 z2  (upd this_balance x1.toNatClampNeg ((this_balance x1.toNatClampNeg) + x2)) (upd this_plays x1.toNatClampNeg (vp_nar .boolean (1 : Int32))) this_points (3 : Int32) (this_points x1.toNatClampNeg) x1 hT
-- ===== SoldMatches.asNumber(Z)I
abbrev rmX10_asNumber : Room := { frames := 0, cells := 0, slots := 0, locals := 0 }
def w_X10_asNumber (cI cJ cZ : ClassId)  : va_W := []
def t_X10_asNumber_9    (s0 : Int32) : Option (Int32) := some (s0)
def t_X10_asNumber   (x0 : Int32) : Option (Int32) := if x0 = 0 then (t_X10_asNumber_9   (0 : Int32)) else (t_X10_asNumber_9   (1 : Int32))
set_option maxHeartbeats 4000000 in
set_option maxRecDepth 100000 in
theorem b_X10_asNumber_9 {p : Program} {l : Launch} {e : Env} {s : State} {m : MethodId} {args : Array Value} {below : List Frame} {meth : Method} {c : Code} {D : va_G} {A : Nat → Prop} {cI cJ cZ : ClassId} (X : Cx p m c cX10_asNumber 1 s args wsX10_asNumber RX10 D (tys3 cI cJ cZ) meth (some .int)) (_ _ _ : ClassId)   (r : Int32)   (s0 : Int32) (hT : t_X10_asNumber_9    s0 = some r) : J p l e rmX10_asNumber s m args below meth c D A 1 (QI D below args s A r (w_X10_asNumber cI cJ cZ )) 0 0 (w_X10_asNumber cI cJ cZ ) [] [.int s0] 9 := by
  unfold t_X10_asNumber_9 at hT
  cases hT
  exact J_iret X dX10_asNumber_9
set_option maxHeartbeats 4000000 in
set_option maxRecDepth 100000 in
theorem c_X10_asNumber (l : Launch) (D : va_G) (cI cJ cZ : ClassId)  (x0 : Int32) (r : Int32) (hT : t_X10_asNumber   x0 = some r) : Ci l yX10_asNumber wsX10_asNumber rmX10_asNumber D (tys3 cI cJ cZ) [.int x0] (w_X10_asNumber cI cJ cZ ) r (w_X10_asNumber cI cJ cZ ) := by
  refine Ci.ofJ (cc := cX10_asNumber) (nL := 1) (rt := (some .int)) (own := RX10) (by decide) rfl rfl (Nat.le_of_ble_eq_true rfl) ?_
  intro p e s m below meth c A X
  unfold t_X10_asNumber at hT
  refine J_lv (lv' := [(0, .int x0)]) [0] rfl ?_
  refine J_iload_n X dX10_asNumber_0 0 rfl ?_
  refine J_if_eq (tgt := 8) X dX10_asNumber_1 (by decide) (fun hc1 => ?_) (fun hc1 => ?_)
  · have hT := ift hT hc1
    refine J_iconst (v := 0) X dX10_asNumber_8 (by decide) ?_
    refine J_lv (lv' := []) [] rfl ?_
    exact b_X10_asNumber_9 X cI cJ cZ  r  (0 : Int32) hT
  · have hT := iff_ hT hc1
    refine J_iconst (v := 1) X dX10_asNumber_4 (by decide) ?_
    refine J_goto (tgt := 9) X dX10_asNumber_5 (by decide) ?_
    refine J_lv (lv' := []) [] rfl ?_
    exact b_X10_asNumber_9 X cI cJ cZ  r  (1 : Int32) hT
-- ===== SoldMatches$Ranks.reckon(LSoldMatches$Games;)V
abbrev rmX6_reckon : Room := { frames := 2, cells := 0, slots := 0, locals := 47 }
def w_X6_reckon (cI cJ cZ : ClassId) (h_p1 : Nat) (h_this : Nat) (q_p1 : Nat → Nat) (q_this : Nat → Nat) (p1_count : Int32) (p1_base : Int32) (p1_topLean : Int32) (p1_topSpot : Int32) (this_down : Int32) (this_size : Int32) (p1_goals : Nat → Int32) (p1_guest : Nat → Int32) (p1_home : Nat → Int32) (this_balance : Nat → Int32) (this_plays : Nat → Int32) (this_points : Nat → Int32) (this_taken : Nat → Int32) : va_W := [(h_p1, .inr (2, oFX2 q_p1 p1_count p1_base p1_topLean p1_topSpot)), (h_this, .inr (6, oFX6 q_this this_down this_size)), ((q_p1 8), .inl (cI, 72, .inl p1_goals)), ((q_p1 4), .inl (cI, 12, .inl p1_guest)), ((q_p1 3), .inl (cI, 12, .inl p1_home)), ((q_this 4), .inl (cI, 8, .inl this_balance)), ((q_this 5), .inl (cZ, 8, .inl this_plays)), ((q_this 3), .inl (cI, 8, .inl this_points)), ((q_this 2), .inl (cI, 8, .inl this_taken))]
theorem m_X6_reckon_f48 : Cond.fieldLink RX6 48 "SoldMatches$Ranks" "size" "I" ∈ wsX6_reckon := List.mem_of_getElem? (i := 5) rfl
theorem in_X6_reckon_X6 : ∀ w ∈ wsX60, w ∈ wsX6_reckon := fun w h => List.mem_cons_of_mem _ (List.mem_append_left _ (List.mem_append_right _ h))
theorem m_X6_reckon_f25 : Cond.fieldLink RX6 25 "SoldMatches$Ranks" "plays" "[Z" ∈ wsX6_reckon := List.mem_of_getElem? (i := 4) rfl
theorem m_X6_reckon_st_X10_asNumber : Cond.static yX10_asNumber ∈ wsX6_reckon := List.mem_of_getElem? (i := 21) rfl
theorem m_X6_reckon_ini_X10 : Cond.initialized RX10 ∈ wsX6_reckon := List.mem_of_getElem? (i := 22) rfl
theorem cw_X6_reckon_X10_asNumber_51 {s : State} {args : Array Value} (hts : ∀ w ∈ wsX6_reckon, w.before args s = true) (hN : NW s) : va_CN rmX6_reckon s args RX6 51 yX10_asNumber "SoldMatches" cX10_asNumber 1 (some .int) wsX10_asNumber rmX10_asNumber 0 0 1 ∧ (Cond.static yX10_asNumber).before args s = true ∧ True := ⟨va_cnB 1 hts gX6_reckon_X10_asNumber_n51 rfl rfl rfl (hN _ (List.mem_of_getElem? (i := 66) rfl)) (hts _ m_X6_reckon_ini_X10) (by decide +kernel) ⟨by decide, by decide⟩, hts _ m_X6_reckon_st_X10_asNumber, trivial⟩
theorem in_X6_reckon_X2 : ∀ w ∈ wsX20, w ∈ wsX6_reckon := fun w h => List.mem_cons_of_mem _ (List.mem_append_right _ h)
theorem cw_X6_reckon_X2_leadAhead_34 {s : State} {args : Array Value} (hts : ∀ w ∈ wsX6_reckon, w.before args s = true) : CallW rmX6_reckon s args RX6 RX2 34 yX2_leadAhead cX2_leadAhead 3 (some .int) wsX2_leadAhead rmX2_leadAhead 0 0 2 := cwV 2 hts gX6_reckon_X2_leadAhead rfl rfl rfl (by decide +kernel) ⟨by decide, by decide⟩
theorem cw_X6_reckon_X6_score_41 {s : State} {args : Array Value} (hts : ∀ w ∈ wsX6_reckon, w.before args s = true) : CallW rmX6_reckon s args RX6 RX6 41 yX6_score cX6_score 3 none wsX6_score rmX6_score 0 0 2 := cwV 2 hts gX6_reckon_X6_score rfl rfl rfl (by decide +kernel) ⟨by decide, by decide⟩
theorem m_X6_reckon_f19 : Cond.fieldLink RX6 19 "SoldMatches$Ranks" "points" "[I" ∈ wsX6_reckon := List.mem_of_getElem? (i := 1) rfl
theorem m_X6_reckon_f15 : Cond.fieldLink RX6 15 "SoldMatches$Ranks" "taken" "[I" ∈ wsX6_reckon := List.mem_of_getElem? (i := 2) rfl
theorem m_X6_reckon_f22 : Cond.fieldLink RX6 22 "SoldMatches$Ranks" "balance" "[I" ∈ wsX6_reckon := List.mem_of_getElem? (i := 3) rfl
def t_X6_reckon_95_b  (k_95 : Int32 → Int32 → (Nat → Int32) → (Nat → Int32) → (Nat → Int32) → (Nat → Int32) → (Nat → Int32) → (Nat → Int32) → (Nat → Int32) → Int32 → (Option (Int32 × (Nat → Int32) × (Nat → Int32) × (Nat → Int32)))) (p1_count : Int32) (this_size : Int32) (p1_goals : Nat → Int32) (p1_guest : Nat → Int32) (p1_home : Nat → Int32) (this_balance : Nat → Int32) (this_plays : Nat → Int32) (this_points : Nat → Int32) (this_taken : Nat → Int32) (x2 : Int32) : Option (Int32 × (Nat → Int32) × (Nat → Int32) × (Nat → Int32)) := if (8 : Int32) ≤ x2 then (some (this_size, this_balance, this_plays, this_points)) else (ckn (x2 < 0 ∨ 8 ≤ x2.toNatClampNeg) (bd1 (t_X10_asNumber (this_plays x2.toNatClampNeg)) (fun v3 => k_95 p1_count (this_size + v3) p1_goals p1_guest p1_home this_balance this_plays this_points this_taken (x2 + (1 : Int32)))))
def t_X6_reckon_95   (n : Nat) : Int32 → Int32 → (Nat → Int32) → (Nat → Int32) → (Nat → Int32) → (Nat → Int32) → (Nat → Int32) → (Nat → Int32) → (Nat → Int32) → Int32 → (Option (Int32 × (Nat → Int32) × (Nat → Int32) × (Nat → Int32))) := Nat.rec (fun _ _ _ _ _ _ _ _ _ _ => none) (fun _ ih => t_X6_reckon_95_b   ih) n
def t_X6_reckon_88   (p1_count : Int32) (this_size : Int32) (p1_goals : Nat → Int32) (p1_guest : Nat → Int32) (p1_home : Nat → Int32) (this_balance : Nat → Int32) (this_plays : Nat → Int32) (this_points : Nat → Int32) (this_taken : Nat → Int32)  : Option (Int32 × (Nat → Int32) × (Nat → Int32) × (Nat → Int32)) := t_X6_reckon_95   lfuel p1_count (0 : Int32) p1_goals p1_guest p1_home this_balance this_plays this_points this_taken (0 : Int32)
def t_X6_reckon_43_b  (k_43 : Int32 → Int32 → (Nat → Int32) → (Nat → Int32) → (Nat → Int32) → (Nat → Int32) → (Nat → Int32) → (Nat → Int32) → (Nat → Int32) → Int32 → (Option (Int32 × (Nat → Int32) × (Nat → Int32) × (Nat → Int32)))) (p1_count : Int32) (this_size : Int32) (p1_goals : Nat → Int32) (p1_guest : Nat → Int32) (p1_home : Nat → Int32) (this_balance : Nat → Int32) (this_plays : Nat → Int32) (this_points : Nat → Int32) (this_taken : Nat → Int32) (x2 : Int32) : Option (Int32 × (Nat → Int32) × (Nat → Int32) × (Nat → Int32)) := if p1_count ≤ x2 then (t_X6_reckon_88   p1_count this_size p1_goals p1_guest p1_home this_balance this_plays this_points this_taken) else (bd1 (t_X2_leadAhead p1_goals x2 (6 : Int32)) (fun v5 => ckn (x2 < 0 ∨ 12 ≤ x2.toNatClampNeg) (bd3 (t_X6_score this_balance this_plays this_points (p1_home x2.toNatClampNeg) v5) (fun u7_0 u7_1 u7_2 => ckn (x2 < 0 ∨ 12 ≤ x2.toNatClampNeg) (bd3 (t_X6_score u7_0 u7_1 u7_2 (p1_guest x2.toNatClampNeg) (-v5)) (fun u9_0 u9_1 u9_2 => k_43 p1_count this_size p1_goals p1_guest p1_home u9_0 u9_1 u9_2 this_taken (x2 + (1 : Int32))))))))
def t_X6_reckon_43   (n : Nat) : Int32 → Int32 → (Nat → Int32) → (Nat → Int32) → (Nat → Int32) → (Nat → Int32) → (Nat → Int32) → (Nat → Int32) → (Nat → Int32) → Int32 → (Option (Int32 × (Nat → Int32) × (Nat → Int32) × (Nat → Int32))) := Nat.rec (fun _ _ _ _ _ _ _ _ _ _ => none) (fun _ ih => t_X6_reckon_43_b   ih) n
def t_X6_reckon_41   (p1_count : Int32) (this_size : Int32) (p1_goals : Nat → Int32) (p1_guest : Nat → Int32) (p1_home : Nat → Int32) (this_balance : Nat → Int32) (this_plays : Nat → Int32) (this_points : Nat → Int32) (this_taken : Nat → Int32)  : Option (Int32 × (Nat → Int32) × (Nat → Int32) × (Nat → Int32)) := t_X6_reckon_43   lfuel p1_count this_size p1_goals p1_guest p1_home this_balance this_plays this_points this_taken (0 : Int32)
def t_X6_reckon_2_b  (k_2 : Int32 → Int32 → (Nat → Int32) → (Nat → Int32) → (Nat → Int32) → (Nat → Int32) → (Nat → Int32) → (Nat → Int32) → (Nat → Int32) → Int32 → (Option (Int32 × (Nat → Int32) × (Nat → Int32) × (Nat → Int32)))) (p1_count : Int32) (this_size : Int32) (p1_goals : Nat → Int32) (p1_guest : Nat → Int32) (p1_home : Nat → Int32) (this_balance : Nat → Int32) (this_plays : Nat → Int32) (this_points : Nat → Int32) (this_taken : Nat → Int32) (x2 : Int32) : Option (Int32 × (Nat → Int32) × (Nat → Int32) × (Nat → Int32)) := if (8 : Int32) ≤ x2 then (t_X6_reckon_41   p1_count this_size p1_goals p1_guest p1_home this_balance this_plays this_points this_taken) else (ckn (x2 < 0 ∨ 8 ≤ x2.toNatClampNeg) (ckn (x2 < 0 ∨ 8 ≤ x2.toNatClampNeg) (ckn (x2 < 0 ∨ 8 ≤ x2.toNatClampNeg) (ckn (x2 < 0 ∨ 8 ≤ x2.toNatClampNeg) (k_2 p1_count this_size p1_goals p1_guest p1_home (upd this_balance x2.toNatClampNeg (0 : Int32)) (upd this_plays x2.toNatClampNeg (vp_nar .boolean (0 : Int32))) (upd this_points x2.toNatClampNeg (-(this_taken x2.toNatClampNeg))) this_taken (x2 + (1 : Int32)))))))
def t_X6_reckon_2   (n : Nat) : Int32 → Int32 → (Nat → Int32) → (Nat → Int32) → (Nat → Int32) → (Nat → Int32) → (Nat → Int32) → (Nat → Int32) → (Nat → Int32) → Int32 → (Option (Int32 × (Nat → Int32) × (Nat → Int32) × (Nat → Int32))) := Nat.rec (fun _ _ _ _ _ _ _ _ _ _ => none) (fun _ ih => t_X6_reckon_2_b   ih) n
def t_X6_reckon  (p1_count : Int32) (this_size : Int32) (p1_goals : Nat → Int32) (p1_guest : Nat → Int32) (p1_home : Nat → Int32) (this_balance : Nat → Int32) (this_plays : Nat → Int32) (this_points : Nat → Int32) (this_taken : Nat → Int32)  : Option (Int32 × (Nat → Int32) × (Nat → Int32) × (Nat → Int32)) := t_X6_reckon_2   lfuel p1_count this_size p1_goals p1_guest p1_home this_balance this_plays this_points this_taken (0 : Int32)
set_option maxHeartbeats 4000000 in
set_option maxRecDepth 100000 in
theorem b_X6_reckon_95_b {p : Program} {l : Launch} {e : Env} {s : State} {m : MethodId} {args : Array Value} {below : List Frame} {meth : Method} {c : Code} {D : va_G} {A : Nat → Prop} {cI cJ cZ : ClassId} (X : Cx p m c cX6_reckon 4 s args wsX6_reckon RX6 D (tys3 cI cJ cZ) meth none) (_ _ _ : ClassId)  (h_p1 : Nat) (h_this : Nat) (q_p1 : Nat → Nat) (q_this : Nat → Nat) (p1_base : Int32) (p1_topLean : Int32) (p1_topSpot : Int32) (this_down : Int32) (z0 : Int32) (z1 : Nat → Int32) (z2 : Nat → Int32) (z3 : Nat → Int32) (k_95 : Int32 → Int32 → (Nat → Int32) → (Nat → Int32) → (Nat → Int32) → (Nat → Int32) → (Nat → Int32) → (Nat → Int32) → (Nat → Int32) → Int32 → (Option (Int32 × (Nat → Int32) × (Nat → Int32) × (Nat → Int32)))) (hk_95 : ∀ (p1_count : Int32) (this_size : Int32) (p1_goals : Nat → Int32) (p1_guest : Nat → Int32) (p1_home : Nat → Int32) (this_balance : Nat → Int32) (this_plays : Nat → Int32) (this_points : Nat → Int32) (this_taken : Nat → Int32) (x2 : Int32), k_95 p1_count this_size p1_goals p1_guest p1_home this_balance this_plays this_points this_taken x2 = some (z0, z1, z2, z3) → J p l e rmX6_reckon s m args below meth c D A 4 (QV D below args s A (w_X6_reckon cI cJ cZ h_p1 h_this q_p1 q_this p1_count p1_base p1_topLean p1_topSpot this_down z0 p1_goals p1_guest p1_home z1 z2 z3 this_taken)) 0 0 (w_X6_reckon cI cJ cZ h_p1 h_this q_p1 q_this p1_count p1_base p1_topLean p1_topSpot this_down this_size p1_goals p1_guest p1_home this_balance this_plays this_points this_taken) [(0, .ref h_this), (1, .ref h_p1), (2, .int x2)] [] 95) (p1_count : Int32) (this_size : Int32) (p1_goals : Nat → Int32) (p1_guest : Nat → Int32) (p1_home : Nat → Int32) (this_balance : Nat → Int32) (this_plays : Nat → Int32) (this_points : Nat → Int32) (this_taken : Nat → Int32) (x2 : Int32) (hT : t_X6_reckon_95_b  k_95 p1_count this_size p1_goals p1_guest p1_home this_balance this_plays this_points this_taken x2 = some (z0, z1, z2, z3)) : J p l e rmX6_reckon s m args below meth c D A 4 (QV D below args s A (w_X6_reckon cI cJ cZ h_p1 h_this q_p1 q_this p1_count p1_base p1_topLean p1_topSpot this_down z0 p1_goals p1_guest p1_home z1 z2 z3 this_taken)) 0 0 (w_X6_reckon cI cJ cZ h_p1 h_this q_p1 q_this p1_count p1_base p1_topLean p1_topSpot this_down this_size p1_goals p1_guest p1_home this_balance this_plays this_points this_taken) [(0, .ref h_this), (1, .ref h_p1), (2, .int x2)] [] 95 := by
  unfold t_X6_reckon_95_b at hT
  refine J_iload_n X dX6_reckon_95 2 rfl ?_
  refine J_bipush (v := 8) X dX6_reckon_96 (by decide) ?_
  refine J_icmp_ge (tgt := 125) X dX6_reckon_98 (by decide) (fun hc1 => ?_) (fun hc1 => ?_)
  · have hT := ift hT hc1
    cases hT
    exact J_vret X dX6_reckon_125
  · have hT := iff_ hT hc1
    refine J_aload_n X dX6_reckon_101 0 rfl ?_
    refine J_dup X dX6_reckon_102 rfl ?_
    refine J_get (C := RX6) (T := TX6) (N := 6) (ci := 6) (v := .int this_size) X in_X6_reckon_X6 1 rfl rfl 1 (by decide) m_X6_reckon_f48 rfl dX6_reckon_103 ?_
    refine J_aload_n X dX6_reckon_106 0 rfl ?_
    refine J_get (C := RX6) (T := TX6) (N := 6) (ci := 6) (v := .ref (q_this 5)) X in_X6_reckon_X6 1 rfl rfl 5 (by decide) m_X6_reckon_f25 rfl dX6_reckon_107 ?_
    refine J_iload_n X dX6_reckon_110 2 rfl ?_
    obtain ⟨hk2, hT⟩ := ckn_e hT
    refine J_zald X 6 rfl rfl hk2 dX6_reckon_111 ?_
    obtain ⟨v3, hq3, hT⟩ := bd1_e hT
    refine J_ci (wc := (w_X10_asNumber cI cJ cZ )) (wc' := (w_X10_asNumber cI cJ cZ )) (ws' := (w_X6_reckon cI cJ cZ h_p1 h_this q_p1 q_this p1_count p1_base p1_topLean p1_topSpot this_down this_size p1_goals p1_guest p1_home this_balance this_plays this_points this_taken)) (idxs [false, false, false, false, false, false, false, false, false] 0) (idxs [true, true, true, true, true, true, true, true, true] 0) 9 rfl rfl rfl (pick_C _ rfl rfl) rfl (pick_C _ rfl rfl) rfl (pick_R _ rfl rfl rfl) (run_SN (As := [.int (this_plays x2.toNatClampNeg)]) (rest := [.int this_size, .ref h_this]) X (c_X10_asNumber l D cI cJ cZ  (this_plays x2.toNatClampNeg) v3 hq3) (cw_X6_reckon_X10_asNumber_51 X.1.2.2.2.2 X.2.1.2) rfl rfl (Nat.le_of_ble_eq_true rfl) dX6_reckon_112 ⟨Nat.zero_le _, Nat.zero_le _⟩) ?_
    refine J_iadd X dX6_reckon_115 ?_
    refine J_put (host := "") (C := RX6) (T := TX6) (N := 6) (ci := 6) (ws' := (w_X6_reckon cI cJ cZ h_p1 h_this q_p1 q_this p1_count p1_base p1_topLean p1_topSpot this_down (this_size + v3) p1_goals p1_guest p1_home this_balance this_plays this_points this_taken)) X in_X6_reckon_X6 1 rfl rfl 1 (by decide) tyX6 tyX6_ok nmX6 m_X6_reckon_f48 rfl rfl rfl (Nat.le_of_ble_eq_true rfl) rfl dX6_reckon_116 ?_
    refine J_iinc (lv' := [(2, .int (x2 + (1 : Int32))), (0, .ref h_this), (1, .ref h_p1)]) (j := 2) X dX6_reckon_119 rfl rfl (by decide) rfl ?_
    refine J_goto (tgt := 95) X dX6_reckon_122 (by decide) ?_
    refine J_lv (lv' := [(0, .ref h_this), (1, .ref h_p1), (2, .int (x2 + (1 : Int32)))]) [1, 2, 0] rfl ?_
    exact hk_95 p1_count (this_size + v3) p1_goals p1_guest p1_home this_balance this_plays this_points this_taken (x2 + (1 : Int32)) hT
set_option maxHeartbeats 4000000 in
set_option maxRecDepth 100000 in
theorem b_X6_reckon_95 {p : Program} {l : Launch} {e : Env} {s : State} {m : MethodId} {args : Array Value} {below : List Frame} {meth : Method} {c : Code} {D : va_G} {A : Nat → Prop} {cI cJ cZ : ClassId} (X : Cx p m c cX6_reckon 4 s args wsX6_reckon RX6 D (tys3 cI cJ cZ) meth none) (_ _ _ : ClassId)  (h_p1 : Nat) (h_this : Nat) (q_p1 : Nat → Nat) (q_this : Nat → Nat) (p1_base : Int32) (p1_topLean : Int32) (p1_topSpot : Int32) (this_down : Int32) (z0 : Int32) (z1 : Nat → Int32) (z2 : Nat → Int32) (z3 : Nat → Int32)  : ∀ (n : Nat) (p1_count : Int32) (this_size : Int32) (p1_goals : Nat → Int32) (p1_guest : Nat → Int32) (p1_home : Nat → Int32) (this_balance : Nat → Int32) (this_plays : Nat → Int32) (this_points : Nat → Int32) (this_taken : Nat → Int32) (x2 : Int32) (hT : t_X6_reckon_95   n p1_count this_size p1_goals p1_guest p1_home this_balance this_plays this_points this_taken x2 = some (z0, z1, z2, z3)), J p l e rmX6_reckon s m args below meth c D A 4 (QV D below args s A (w_X6_reckon cI cJ cZ h_p1 h_this q_p1 q_this p1_count p1_base p1_topLean p1_topSpot this_down z0 p1_goals p1_guest p1_home z1 z2 z3 this_taken)) 0 0 (w_X6_reckon cI cJ cZ h_p1 h_this q_p1 q_this p1_count p1_base p1_topLean p1_topSpot this_down this_size p1_goals p1_guest p1_home this_balance this_plays this_points this_taken) [(0, .ref h_this), (1, .ref h_p1), (2, .int x2)] [] 95 := by
  intro n
  induction n with
  | zero => intro p1_count this_size p1_goals p1_guest p1_home this_balance this_plays this_points this_taken x2 hT; cases hT
  | succ n ih =>
    intro p1_count this_size p1_goals p1_guest p1_home this_balance this_plays this_points this_taken x2 hT
    exact b_X6_reckon_95_b X cI cJ cZ h_p1 h_this q_p1 q_this p1_base p1_topLean p1_topSpot this_down z0 z1 z2 z3  (t_X6_reckon_95   n) ih p1_count this_size p1_goals p1_guest p1_home this_balance this_plays this_points this_taken x2 hT
set_option maxHeartbeats 4000000 in
set_option maxRecDepth 100000 in
theorem b_X6_reckon_88 {p : Program} {l : Launch} {e : Env} {s : State} {m : MethodId} {args : Array Value} {below : List Frame} {meth : Method} {c : Code} {D : va_G} {A : Nat → Prop} {cI cJ cZ : ClassId} (X : Cx p m c cX6_reckon 4 s args wsX6_reckon RX6 D (tys3 cI cJ cZ) meth none) (_ _ _ : ClassId)  (h_p1 : Nat) (h_this : Nat) (q_p1 : Nat → Nat) (q_this : Nat → Nat) (p1_base : Int32) (p1_topLean : Int32) (p1_topSpot : Int32) (this_down : Int32) (z0 : Int32) (z1 : Nat → Int32) (z2 : Nat → Int32) (z3 : Nat → Int32)  (p1_count : Int32) (this_size : Int32) (p1_goals : Nat → Int32) (p1_guest : Nat → Int32) (p1_home : Nat → Int32) (this_balance : Nat → Int32) (this_plays : Nat → Int32) (this_points : Nat → Int32) (this_taken : Nat → Int32)  (hT : t_X6_reckon_88   p1_count this_size p1_goals p1_guest p1_home this_balance this_plays this_points this_taken  = some (z0, z1, z2, z3)) : J p l e rmX6_reckon s m args below meth c D A 4 (QV D below args s A (w_X6_reckon cI cJ cZ h_p1 h_this q_p1 q_this p1_count p1_base p1_topLean p1_topSpot this_down z0 p1_goals p1_guest p1_home z1 z2 z3 this_taken)) 0 0 (w_X6_reckon cI cJ cZ h_p1 h_this q_p1 q_this p1_count p1_base p1_topLean p1_topSpot this_down this_size p1_goals p1_guest p1_home this_balance this_plays this_points this_taken) [(0, .ref h_this), (1, .ref h_p1)] [] 88 := by
  unfold t_X6_reckon_88 at hT
  refine J_aload_n X dX6_reckon_88 0 rfl ?_
  refine J_iconst (v := 0) X dX6_reckon_89 (by decide) ?_
  refine J_put (host := "") (C := RX6) (T := TX6) (N := 6) (ci := 6) (ws' := (w_X6_reckon cI cJ cZ h_p1 h_this q_p1 q_this p1_count p1_base p1_topLean p1_topSpot this_down (0 : Int32) p1_goals p1_guest p1_home this_balance this_plays this_points this_taken)) X in_X6_reckon_X6 1 rfl rfl 1 (by decide) tyX6 tyX6_ok nmX6 m_X6_reckon_f48 rfl rfl rfl (Nat.le_of_ble_eq_true rfl) rfl dX6_reckon_90 ?_
  refine J_iconst (v := 0) X dX6_reckon_93 (by decide) ?_
  refine J_istore_n (lv' := [(2, .int (0 : Int32)), (0, .ref h_this), (1, .ref h_p1)]) X dX6_reckon_94 (by decide) rfl ?_
  refine J_lv (lv' := [(0, .ref h_this), (1, .ref h_p1), (2, .int (0 : Int32))]) [1, 2, 0] rfl ?_
  exact b_X6_reckon_95 X cI cJ cZ h_p1 h_this q_p1 q_this p1_base p1_topLean p1_topSpot this_down z0 z1 z2 z3  lfuel p1_count (0 : Int32) p1_goals p1_guest p1_home this_balance this_plays this_points this_taken (0 : Int32) hT
set_option maxHeartbeats 4000000 in
set_option maxRecDepth 100000 in
theorem b_X6_reckon_43_b {p : Program} {l : Launch} {e : Env} {s : State} {m : MethodId} {args : Array Value} {below : List Frame} {meth : Method} {c : Code} {D : va_G} {A : Nat → Prop} {cI cJ cZ : ClassId} (X : Cx p m c cX6_reckon 4 s args wsX6_reckon RX6 D (tys3 cI cJ cZ) meth none) (_ _ _ : ClassId)  (h_p1 : Nat) (h_this : Nat) (q_p1 : Nat → Nat) (q_this : Nat → Nat) (p1_base : Int32) (p1_topLean : Int32) (p1_topSpot : Int32) (this_down : Int32) (z0 : Int32) (z1 : Nat → Int32) (z2 : Nat → Int32) (z3 : Nat → Int32) (k_43 : Int32 → Int32 → (Nat → Int32) → (Nat → Int32) → (Nat → Int32) → (Nat → Int32) → (Nat → Int32) → (Nat → Int32) → (Nat → Int32) → Int32 → (Option (Int32 × (Nat → Int32) × (Nat → Int32) × (Nat → Int32)))) (hk_43 : ∀ (p1_count : Int32) (this_size : Int32) (p1_goals : Nat → Int32) (p1_guest : Nat → Int32) (p1_home : Nat → Int32) (this_balance : Nat → Int32) (this_plays : Nat → Int32) (this_points : Nat → Int32) (this_taken : Nat → Int32) (x2 : Int32), k_43 p1_count this_size p1_goals p1_guest p1_home this_balance this_plays this_points this_taken x2 = some (z0, z1, z2, z3) → J p l e rmX6_reckon s m args below meth c D A 4 (QV D below args s A (w_X6_reckon cI cJ cZ h_p1 h_this q_p1 q_this p1_count p1_base p1_topLean p1_topSpot this_down z0 p1_goals p1_guest p1_home z1 z2 z3 this_taken)) 0 0 (w_X6_reckon cI cJ cZ h_p1 h_this q_p1 q_this p1_count p1_base p1_topLean p1_topSpot this_down this_size p1_goals p1_guest p1_home this_balance this_plays this_points this_taken) [(0, .ref h_this), (1, .ref h_p1), (2, .int x2)] [] 43) (p1_count : Int32) (this_size : Int32) (p1_goals : Nat → Int32) (p1_guest : Nat → Int32) (p1_home : Nat → Int32) (this_balance : Nat → Int32) (this_plays : Nat → Int32) (this_points : Nat → Int32) (this_taken : Nat → Int32) (x2 : Int32) (hT : t_X6_reckon_43_b  k_43 p1_count this_size p1_goals p1_guest p1_home this_balance this_plays this_points this_taken x2 = some (z0, z1, z2, z3)) : J p l e rmX6_reckon s m args below meth c D A 4 (QV D below args s A (w_X6_reckon cI cJ cZ h_p1 h_this q_p1 q_this p1_count p1_base p1_topLean p1_topSpot this_down z0 p1_goals p1_guest p1_home z1 z2 z3 this_taken)) 0 0 (w_X6_reckon cI cJ cZ h_p1 h_this q_p1 q_this p1_count p1_base p1_topLean p1_topSpot this_down this_size p1_goals p1_guest p1_home this_balance this_plays this_points this_taken) [(0, .ref h_this), (1, .ref h_p1), (2, .int x2)] [] 43 := by
  unfold t_X6_reckon_43_b at hT
  refine J_iload_n X dX6_reckon_43 2 rfl ?_
  refine J_aload_n X dX6_reckon_44 1 rfl ?_
  refine J_getN (host := "SoldMatches") (C := RX2) (T := TX2) (N := 13) (ci := 2) (v := .int p1_count) X in_X6_reckon_X2 0 rfl rfl 0 (by decide) (List.mem_of_getElem? (i := 1) rfl) rfl dX6_reckon_45 ?_
  refine J_icmp_ge (tgt := 88) X dX6_reckon_48 (by decide) (fun hc4 => ?_) (fun hc4 => ?_)
  · have hT := ift hT hc4
    refine J_lv (lv' := [(0, .ref h_this), (1, .ref h_p1)]) [0, 1] rfl ?_
    exact b_X6_reckon_88 X cI cJ cZ h_p1 h_this q_p1 q_this p1_base p1_topLean p1_topSpot this_down z0 z1 z2 z3  p1_count this_size p1_goals p1_guest p1_home this_balance this_plays this_points this_taken hT
  · have hT := iff_ hT hc4
    refine J_aload_n X dX6_reckon_51 1 rfl ?_
    refine J_iload_n X dX6_reckon_52 2 rfl ?_
    refine J_bipush (v := 6) X dX6_reckon_53 (by decide) ?_
    obtain ⟨v5, hq5, hT⟩ := bd1_e hT
    refine J_ci (wc := (w_X2_leadAhead cI cJ cZ h_p1 q_p1 p1_count p1_base p1_topLean p1_topSpot p1_goals)) (wc' := (w_X2_leadAhead cI cJ cZ h_p1 q_p1 p1_count p1_base p1_topLean p1_topSpot p1_goals)) (ws' := (w_X6_reckon cI cJ cZ h_p1 h_this q_p1 q_this p1_count p1_base p1_topLean p1_topSpot this_down this_size p1_goals p1_guest p1_home this_balance this_plays this_points this_taken)) (idxs [true, false, true, false, false, false, false, false, false] 0) (idxs [false, true, false, true, true, true, true, true, true] 0) 9 rfl rfl rfl (pick_C _ rfl rfl) rfl (pick_C _ rfl rfl) rfl (pick_R _ rfl rfl rfl) (run_V (As := [.int x2, .int (6 : Int32)]) (rest := []) X (c_X2_leadAhead l D cI cJ cZ h_p1 q_p1 p1_count p1_base p1_topLean p1_topSpot p1_goals x2 (6 : Int32) v5 hq5) (cw_X6_reckon_X2_leadAhead_34 X.1.2.2.2.2) 0 rfl rfl rfl rfl (Nat.le_of_ble_eq_true rfl) dX6_reckon_55 ⟨Nat.zero_le _, Nat.zero_le _⟩) ?_
    refine J_istore_n (lv' := [(3, .int v5), (0, .ref h_this), (1, .ref h_p1), (2, .int x2)]) X dX6_reckon_58 (by decide) rfl ?_
    refine J_aload_n X dX6_reckon_59 1 rfl ?_
    refine J_aload_n X dX6_reckon_60 2 rfl ?_
    refine J_getN (host := "SoldMatches") (C := RX2) (T := TX2) (N := 13) (ci := 2) (v := .ref (q_p1 3)) X in_X6_reckon_X2 0 rfl rfl 3 (by decide) (List.mem_of_getElem? (i := 6) rfl) rfl dX6_reckon_61 ?_
    refine J_iload_n X dX6_reckon_64 3 rfl ?_
    obtain ⟨hk6, hT⟩ := ckn_e hT
    refine J_iald X 4 rfl rfl hk6 dX6_reckon_65 ?_
    refine J_iload_n X dX6_reckon_66 0 rfl ?_
    obtain ⟨u7_0, u7_1, u7_2, hq7, hT⟩ := bd3_e hT
    refine J_cv (wc := (w_X6_score cI cJ cZ h_this q_this this_down this_size this_balance this_plays this_points)) (wc' := (w_X6_score cI cJ cZ h_this q_this this_down this_size u7_0 u7_1 u7_2)) (ws' := (w_X6_reckon cI cJ cZ h_p1 h_this q_p1 q_this p1_count p1_base p1_topLean p1_topSpot this_down this_size p1_goals p1_guest p1_home u7_0 u7_1 u7_2 this_taken)) (idxs [false, true, false, false, false, true, true, true, false] 0) (idxs [true, false, true, true, true, false, false, false, true] 0) 9 rfl rfl rfl (pick_C _ rfl rfl) rfl (pick_C _ rfl rfl) rfl (pick_R _ rfl rfl rfl) (run_V (As := [.int (p1_home x2.toNatClampNeg), .int v5]) (rest := []) X (c_X6_score l D cI cJ cZ h_this q_this this_down this_size this_balance this_plays this_points (p1_home x2.toNatClampNeg) v5 u7_0 u7_1 u7_2 hq7) (cw_X6_reckon_X6_score_41 X.1.2.2.2.2) 0 rfl rfl rfl rfl (Nat.le_of_ble_eq_true rfl) dX6_reckon_67 ⟨Nat.zero_le _, Nat.zero_le _⟩) ?_
    refine J_aload_n X dX6_reckon_70 1 rfl ?_
    refine J_aload_n X dX6_reckon_71 2 rfl ?_
    refine J_getN (host := "SoldMatches") (C := RX2) (T := TX2) (N := 13) (ci := 2) (v := .ref (q_p1 4)) X in_X6_reckon_X2 0 rfl rfl 4 (by decide) (List.mem_of_getElem? (i := 8) rfl) rfl dX6_reckon_72 ?_
    refine J_iload_n X dX6_reckon_75 3 rfl ?_
    obtain ⟨hk8, hT⟩ := ckn_e hT
    refine J_iald X 3 rfl rfl hk8 dX6_reckon_76 ?_
    refine J_iload_n X dX6_reckon_77 0 rfl ?_
    refine J_ineg X dX6_reckon_78 ?_
    obtain ⟨u9_0, u9_1, u9_2, hq9, hT⟩ := bd3_e hT
    refine J_cv (wc := (w_X6_score cI cJ cZ h_this q_this this_down this_size u7_0 u7_1 u7_2)) (wc' := (w_X6_score cI cJ cZ h_this q_this this_down this_size u9_0 u9_1 u9_2)) (ws' := (w_X6_reckon cI cJ cZ h_p1 h_this q_p1 q_this p1_count p1_base p1_topLean p1_topSpot this_down this_size p1_goals p1_guest p1_home u9_0 u9_1 u9_2 this_taken)) (idxs [false, true, false, false, false, true, true, true, false] 0) (idxs [true, false, true, true, true, false, false, false, true] 0) 9 rfl rfl rfl (pick_C _ rfl rfl) rfl (pick_C _ rfl rfl) rfl (pick_R _ rfl rfl rfl) (run_V (As := [.int (p1_guest x2.toNatClampNeg), .int (-v5)]) (rest := []) X (c_X6_score l D cI cJ cZ h_this q_this this_down this_size u7_0 u7_1 u7_2 (p1_guest x2.toNatClampNeg) (-v5) u9_0 u9_1 u9_2 hq9) (cw_X6_reckon_X6_score_41 X.1.2.2.2.2) 0 rfl rfl rfl rfl (Nat.le_of_ble_eq_true rfl) dX6_reckon_79 ⟨Nat.zero_le _, Nat.zero_le _⟩) ?_
    refine J_iinc (lv' := [(2, .int (x2 + (1 : Int32))), (3, .int v5), (0, .ref h_this), (1, .ref h_p1)]) (j := 3) X dX6_reckon_82 rfl rfl (by decide) rfl ?_
    refine J_goto (tgt := 43) X dX6_reckon_85 (by decide) ?_
    refine J_lv (lv' := [(0, .ref h_this), (1, .ref h_p1), (2, .int (x2 + (1 : Int32)))]) [2, 3, 0] rfl ?_
    exact hk_43 p1_count this_size p1_goals p1_guest p1_home u9_0 u9_1 u9_2 this_taken (x2 + (1 : Int32)) hT
set_option maxHeartbeats 4000000 in
set_option maxRecDepth 100000 in
theorem b_X6_reckon_43 {p : Program} {l : Launch} {e : Env} {s : State} {m : MethodId} {args : Array Value} {below : List Frame} {meth : Method} {c : Code} {D : va_G} {A : Nat → Prop} {cI cJ cZ : ClassId} (X : Cx p m c cX6_reckon 4 s args wsX6_reckon RX6 D (tys3 cI cJ cZ) meth none) (_ _ _ : ClassId)  (h_p1 : Nat) (h_this : Nat) (q_p1 : Nat → Nat) (q_this : Nat → Nat) (p1_base : Int32) (p1_topLean : Int32) (p1_topSpot : Int32) (this_down : Int32) (z0 : Int32) (z1 : Nat → Int32) (z2 : Nat → Int32) (z3 : Nat → Int32)  : ∀ (n : Nat) (p1_count : Int32) (this_size : Int32) (p1_goals : Nat → Int32) (p1_guest : Nat → Int32) (p1_home : Nat → Int32) (this_balance : Nat → Int32) (this_plays : Nat → Int32) (this_points : Nat → Int32) (this_taken : Nat → Int32) (x2 : Int32) (hT : t_X6_reckon_43   n p1_count this_size p1_goals p1_guest p1_home this_balance this_plays this_points this_taken x2 = some (z0, z1, z2, z3)), J p l e rmX6_reckon s m args below meth c D A 4 (QV D below args s A (w_X6_reckon cI cJ cZ h_p1 h_this q_p1 q_this p1_count p1_base p1_topLean p1_topSpot this_down z0 p1_goals p1_guest p1_home z1 z2 z3 this_taken)) 0 0 (w_X6_reckon cI cJ cZ h_p1 h_this q_p1 q_this p1_count p1_base p1_topLean p1_topSpot this_down this_size p1_goals p1_guest p1_home this_balance this_plays this_points this_taken) [(0, .ref h_this), (1, .ref h_p1), (2, .int x2)] [] 43 := by
  intro n
  induction n with
  | zero => intro p1_count this_size p1_goals p1_guest p1_home this_balance this_plays this_points this_taken x2 hT; cases hT
  | succ n ih =>
    intro p1_count this_size p1_goals p1_guest p1_home this_balance this_plays this_points this_taken x2 hT
    exact b_X6_reckon_43_b X cI cJ cZ h_p1 h_this q_p1 q_this p1_base p1_topLean p1_topSpot this_down z0 z1 z2 z3  (t_X6_reckon_43   n) ih p1_count this_size p1_goals p1_guest p1_home this_balance this_plays this_points this_taken x2 hT
set_option maxHeartbeats 4000000 in
set_option maxRecDepth 100000 in
theorem b_X6_reckon_41 {p : Program} {l : Launch} {e : Env} {s : State} {m : MethodId} {args : Array Value} {below : List Frame} {meth : Method} {c : Code} {D : va_G} {A : Nat → Prop} {cI cJ cZ : ClassId} (X : Cx p m c cX6_reckon 4 s args wsX6_reckon RX6 D (tys3 cI cJ cZ) meth none) (_ _ _ : ClassId)  (h_p1 : Nat) (h_this : Nat) (q_p1 : Nat → Nat) (q_this : Nat → Nat) (p1_base : Int32) (p1_topLean : Int32) (p1_topSpot : Int32) (this_down : Int32) (z0 : Int32) (z1 : Nat → Int32) (z2 : Nat → Int32) (z3 : Nat → Int32)  (p1_count : Int32) (this_size : Int32) (p1_goals : Nat → Int32) (p1_guest : Nat → Int32) (p1_home : Nat → Int32) (this_balance : Nat → Int32) (this_plays : Nat → Int32) (this_points : Nat → Int32) (this_taken : Nat → Int32)  (hT : t_X6_reckon_41   p1_count this_size p1_goals p1_guest p1_home this_balance this_plays this_points this_taken  = some (z0, z1, z2, z3)) : J p l e rmX6_reckon s m args below meth c D A 4 (QV D below args s A (w_X6_reckon cI cJ cZ h_p1 h_this q_p1 q_this p1_count p1_base p1_topLean p1_topSpot this_down z0 p1_goals p1_guest p1_home z1 z2 z3 this_taken)) 0 0 (w_X6_reckon cI cJ cZ h_p1 h_this q_p1 q_this p1_count p1_base p1_topLean p1_topSpot this_down this_size p1_goals p1_guest p1_home this_balance this_plays this_points this_taken) [(0, .ref h_this), (1, .ref h_p1)] [] 41 := by
  unfold t_X6_reckon_41 at hT
  refine J_iconst (v := 0) X dX6_reckon_41 (by decide) ?_
  refine J_istore_n (lv' := [(2, .int (0 : Int32)), (0, .ref h_this), (1, .ref h_p1)]) X dX6_reckon_42 (by decide) rfl ?_
  refine J_lv (lv' := [(0, .ref h_this), (1, .ref h_p1), (2, .int (0 : Int32))]) [1, 2, 0] rfl ?_
  exact b_X6_reckon_43 X cI cJ cZ h_p1 h_this q_p1 q_this p1_base p1_topLean p1_topSpot this_down z0 z1 z2 z3  lfuel p1_count this_size p1_goals p1_guest p1_home this_balance this_plays this_points this_taken (0 : Int32) hT
set_option maxHeartbeats 4000000 in
set_option maxRecDepth 100000 in
theorem b_X6_reckon_2_b {p : Program} {l : Launch} {e : Env} {s : State} {m : MethodId} {args : Array Value} {below : List Frame} {meth : Method} {c : Code} {D : va_G} {A : Nat → Prop} {cI cJ cZ : ClassId} (X : Cx p m c cX6_reckon 4 s args wsX6_reckon RX6 D (tys3 cI cJ cZ) meth none) (_ _ _ : ClassId)  (h_p1 : Nat) (h_this : Nat) (q_p1 : Nat → Nat) (q_this : Nat → Nat) (p1_base : Int32) (p1_topLean : Int32) (p1_topSpot : Int32) (this_down : Int32) (z0 : Int32) (z1 : Nat → Int32) (z2 : Nat → Int32) (z3 : Nat → Int32) (k_2 : Int32 → Int32 → (Nat → Int32) → (Nat → Int32) → (Nat → Int32) → (Nat → Int32) → (Nat → Int32) → (Nat → Int32) → (Nat → Int32) → Int32 → (Option (Int32 × (Nat → Int32) × (Nat → Int32) × (Nat → Int32)))) (hk_2 : ∀ (p1_count : Int32) (this_size : Int32) (p1_goals : Nat → Int32) (p1_guest : Nat → Int32) (p1_home : Nat → Int32) (this_balance : Nat → Int32) (this_plays : Nat → Int32) (this_points : Nat → Int32) (this_taken : Nat → Int32) (x2 : Int32), k_2 p1_count this_size p1_goals p1_guest p1_home this_balance this_plays this_points this_taken x2 = some (z0, z1, z2, z3) → J p l e rmX6_reckon s m args below meth c D A 4 (QV D below args s A (w_X6_reckon cI cJ cZ h_p1 h_this q_p1 q_this p1_count p1_base p1_topLean p1_topSpot this_down z0 p1_goals p1_guest p1_home z1 z2 z3 this_taken)) 0 0 (w_X6_reckon cI cJ cZ h_p1 h_this q_p1 q_this p1_count p1_base p1_topLean p1_topSpot this_down this_size p1_goals p1_guest p1_home this_balance this_plays this_points this_taken) [(0, .ref h_this), (1, .ref h_p1), (2, .int x2)] [] 2) (p1_count : Int32) (this_size : Int32) (p1_goals : Nat → Int32) (p1_guest : Nat → Int32) (p1_home : Nat → Int32) (this_balance : Nat → Int32) (this_plays : Nat → Int32) (this_points : Nat → Int32) (this_taken : Nat → Int32) (x2 : Int32) (hT : t_X6_reckon_2_b  k_2 p1_count this_size p1_goals p1_guest p1_home this_balance this_plays this_points this_taken x2 = some (z0, z1, z2, z3)) : J p l e rmX6_reckon s m args below meth c D A 4 (QV D below args s A (w_X6_reckon cI cJ cZ h_p1 h_this q_p1 q_this p1_count p1_base p1_topLean p1_topSpot this_down z0 p1_goals p1_guest p1_home z1 z2 z3 this_taken)) 0 0 (w_X6_reckon cI cJ cZ h_p1 h_this q_p1 q_this p1_count p1_base p1_topLean p1_topSpot this_down this_size p1_goals p1_guest p1_home this_balance this_plays this_points this_taken) [(0, .ref h_this), (1, .ref h_p1), (2, .int x2)] [] 2 := by
  unfold t_X6_reckon_2_b at hT
  refine J_iload_n X dX6_reckon_2 2 rfl ?_
  refine J_bipush (v := 8) X dX6_reckon_3 (by decide) ?_
  refine J_icmp_ge (tgt := 41) X dX6_reckon_5 (by decide) (fun hc10 => ?_) (fun hc10 => ?_)
  · have hT := ift hT hc10
    refine J_lv (lv' := [(0, .ref h_this), (1, .ref h_p1)]) [0, 1] rfl ?_
    exact b_X6_reckon_41 X cI cJ cZ h_p1 h_this q_p1 q_this p1_base p1_topLean p1_topSpot this_down z0 z1 z2 z3  p1_count this_size p1_goals p1_guest p1_home this_balance this_plays this_points this_taken hT
  · have hT := iff_ hT hc10
    refine J_aload_n X dX6_reckon_8 0 rfl ?_
    refine J_get (C := RX6) (T := TX6) (N := 6) (ci := 6) (v := .ref (q_this 3)) X in_X6_reckon_X6 1 rfl rfl 3 (by decide) m_X6_reckon_f19 rfl dX6_reckon_9 ?_
    refine J_iload_n X dX6_reckon_12 2 rfl ?_
    refine J_aload_n X dX6_reckon_13 0 rfl ?_
    refine J_get (C := RX6) (T := TX6) (N := 6) (ci := 6) (v := .ref (q_this 2)) X in_X6_reckon_X6 1 rfl rfl 2 (by decide) m_X6_reckon_f15 rfl dX6_reckon_14 ?_
    refine J_iload_n X dX6_reckon_17 2 rfl ?_
    obtain ⟨hk11, hT⟩ := ckn_e hT
    refine J_iald X 8 rfl rfl hk11 dX6_reckon_18 ?_
    refine J_ineg X dX6_reckon_19 ?_
    obtain ⟨hk12, hT⟩ := ckn_e hT
    refine J_iast (ws' := (w_X6_reckon cI cJ cZ h_p1 h_this q_p1 q_this p1_count p1_base p1_topLean p1_topSpot this_down this_size p1_goals p1_guest p1_home this_balance this_plays (upd this_points x2.toNatClampNeg (-(this_taken x2.toNatClampNeg))) this_taken)) X 7 rfl rfl hk12 rfl dX6_reckon_20 ?_
    refine J_aload_n X dX6_reckon_21 0 rfl ?_
    refine J_get (C := RX6) (T := TX6) (N := 6) (ci := 6) (v := .ref (q_this 4)) X in_X6_reckon_X6 1 rfl rfl 4 (by decide) m_X6_reckon_f22 rfl dX6_reckon_22 ?_
    refine J_iload_n X dX6_reckon_25 2 rfl ?_
    refine J_iconst (v := 0) X dX6_reckon_26 (by decide) ?_
    obtain ⟨hk13, hT⟩ := ckn_e hT
    refine J_iast (ws' := (w_X6_reckon cI cJ cZ h_p1 h_this q_p1 q_this p1_count p1_base p1_topLean p1_topSpot this_down this_size p1_goals p1_guest p1_home (upd this_balance x2.toNatClampNeg (0 : Int32)) this_plays (upd this_points x2.toNatClampNeg (-(this_taken x2.toNatClampNeg))) this_taken)) X 5 rfl rfl hk13 rfl dX6_reckon_27 ?_
    refine J_aload_n X dX6_reckon_28 0 rfl ?_
    refine J_get (C := RX6) (T := TX6) (N := 6) (ci := 6) (v := .ref (q_this 5)) X in_X6_reckon_X6 1 rfl rfl 5 (by decide) m_X6_reckon_f25 rfl dX6_reckon_29 ?_
    refine J_iload_n X dX6_reckon_32 2 rfl ?_
    refine J_iconst (v := 0) X dX6_reckon_33 (by decide) ?_
    obtain ⟨hk14, hT⟩ := ckn_e hT
    refine J_zast (ws' := (w_X6_reckon cI cJ cZ h_p1 h_this q_p1 q_this p1_count p1_base p1_topLean p1_topSpot this_down this_size p1_goals p1_guest p1_home (upd this_balance x2.toNatClampNeg (0 : Int32)) (upd this_plays x2.toNatClampNeg (vp_nar .boolean (0 : Int32))) (upd this_points x2.toNatClampNeg (-(this_taken x2.toNatClampNeg))) this_taken)) X 6 rfl rfl hk14 rfl dX6_reckon_34 ?_
    refine J_iinc (lv' := [(2, .int (x2 + (1 : Int32))), (0, .ref h_this), (1, .ref h_p1)]) (j := 2) X dX6_reckon_35 rfl rfl (by decide) rfl ?_
    refine J_goto (tgt := 2) X dX6_reckon_38 (by decide) ?_
    refine J_lv (lv' := [(0, .ref h_this), (1, .ref h_p1), (2, .int (x2 + (1 : Int32)))]) [1, 2, 0] rfl ?_
    exact hk_2 p1_count this_size p1_goals p1_guest p1_home (upd this_balance x2.toNatClampNeg (0 : Int32)) (upd this_plays x2.toNatClampNeg (vp_nar .boolean (0 : Int32))) (upd this_points x2.toNatClampNeg (-(this_taken x2.toNatClampNeg))) this_taken (x2 + (1 : Int32)) hT
set_option maxHeartbeats 4000000 in
set_option maxRecDepth 100000 in
theorem b_X6_reckon_2 {p : Program} {l : Launch} {e : Env} {s : State} {m : MethodId} {args : Array Value} {below : List Frame} {meth : Method} {c : Code} {D : va_G} {A : Nat → Prop} {cI cJ cZ : ClassId} (X : Cx p m c cX6_reckon 4 s args wsX6_reckon RX6 D (tys3 cI cJ cZ) meth none) (_ _ _ : ClassId)  (h_p1 : Nat) (h_this : Nat) (q_p1 : Nat → Nat) (q_this : Nat → Nat) (p1_base : Int32) (p1_topLean : Int32) (p1_topSpot : Int32) (this_down : Int32) (z0 : Int32) (z1 : Nat → Int32) (z2 : Nat → Int32) (z3 : Nat → Int32)  : ∀ (n : Nat) (p1_count : Int32) (this_size : Int32) (p1_goals : Nat → Int32) (p1_guest : Nat → Int32) (p1_home : Nat → Int32) (this_balance : Nat → Int32) (this_plays : Nat → Int32) (this_points : Nat → Int32) (this_taken : Nat → Int32) (x2 : Int32) (hT : t_X6_reckon_2   n p1_count this_size p1_goals p1_guest p1_home this_balance this_plays this_points this_taken x2 = some (z0, z1, z2, z3)), J p l e rmX6_reckon s m args below meth c D A 4 (QV D below args s A (w_X6_reckon cI cJ cZ h_p1 h_this q_p1 q_this p1_count p1_base p1_topLean p1_topSpot this_down z0 p1_goals p1_guest p1_home z1 z2 z3 this_taken)) 0 0 (w_X6_reckon cI cJ cZ h_p1 h_this q_p1 q_this p1_count p1_base p1_topLean p1_topSpot this_down this_size p1_goals p1_guest p1_home this_balance this_plays this_points this_taken) [(0, .ref h_this), (1, .ref h_p1), (2, .int x2)] [] 2 := by
  intro n
  induction n with
  | zero => intro p1_count this_size p1_goals p1_guest p1_home this_balance this_plays this_points this_taken x2 hT; cases hT
  | succ n ih =>
    intro p1_count this_size p1_goals p1_guest p1_home this_balance this_plays this_points this_taken x2 hT
    exact b_X6_reckon_2_b X cI cJ cZ h_p1 h_this q_p1 q_this p1_base p1_topLean p1_topSpot this_down z0 z1 z2 z3  (t_X6_reckon_2   n) ih p1_count this_size p1_goals p1_guest p1_home this_balance this_plays this_points this_taken x2 hT
set_option maxHeartbeats 4000000 in
set_option maxRecDepth 100000 in
theorem c_X6_reckon (l : Launch) (D : va_G) (cI cJ cZ : ClassId) (h_p1 : Nat) (h_this : Nat) (q_p1 : Nat → Nat) (q_this : Nat → Nat) (p1_count : Int32) (p1_base : Int32) (p1_topLean : Int32) (p1_topSpot : Int32) (this_down : Int32) (this_size : Int32) (p1_goals : Nat → Int32) (p1_guest : Nat → Int32) (p1_home : Nat → Int32) (this_balance : Nat → Int32) (this_plays : Nat → Int32) (this_points : Nat → Int32) (this_taken : Nat → Int32)  (z0 : Int32) (z1 : Nat → Int32) (z2 : Nat → Int32) (z3 : Nat → Int32) (hT : t_X6_reckon  p1_count this_size p1_goals p1_guest p1_home this_balance this_plays this_points this_taken  = some (z0, z1, z2, z3)) : Cv l yX6_reckon wsX6_reckon rmX6_reckon D (tys3 cI cJ cZ) [.ref h_this, .ref h_p1] (w_X6_reckon cI cJ cZ h_p1 h_this q_p1 q_this p1_count p1_base p1_topLean p1_topSpot this_down this_size p1_goals p1_guest p1_home this_balance this_plays this_points this_taken) (w_X6_reckon cI cJ cZ h_p1 h_this q_p1 q_this p1_count p1_base p1_topLean p1_topSpot this_down z0 p1_goals p1_guest p1_home z1 z2 z3 this_taken) := by
  refine Cv.ofJ (cc := cX6_reckon) (nL := 4) (rt := none) (own := RX6) (by decide) rfl rfl (Nat.le_of_ble_eq_true rfl) ?_
  intro p e s m below meth c A X
  unfold t_X6_reckon at hT
  refine J_lv (lv' := [(0, .ref h_this), (1, .ref h_p1)]) [0, 1] rfl ?_
  refine J_iconst (v := 0) X dX6_reckon_0 (by decide) ?_
  refine J_istore_n (lv' := [(2, .int (0 : Int32)), (0, .ref h_this), (1, .ref h_p1)]) X dX6_reckon_1 (by decide) rfl ?_
  refine J_lv (lv' := [(0, .ref h_this), (1, .ref h_p1), (2, .int (0 : Int32))]) [1, 2, 0] rfl ?_
  exact b_X6_reckon_2 X cI cJ cZ h_p1 h_this q_p1 q_this p1_base p1_topLean p1_topSpot this_down z0 z1 z2 z3  lfuel p1_count this_size p1_goals p1_guest p1_home this_balance this_plays this_points this_taken (0 : Int32) hT
-- ===== SoldMatches$Ranks.isAhead(II)Z
abbrev rmX6_isAhead : Room := { frames := 0, cells := 0, slots := 0, locals := 0 }
def w_X6_isAhead (cI cJ cZ : ClassId) (h_this : Nat) (q_this : Nat → Nat) (this_down : Int32) (this_size : Int32) (this_balance : Nat → Int32) (this_points : Nat → Int32) : va_W := [(h_this, .inr (6, oFX6 q_this this_down this_size)), ((q_this 4), .inl (cI, 8, .inl this_balance)), ((q_this 3), .inl (cI, 8, .inl this_points))]
theorem m_X6_isAhead_f19 : Cond.fieldLink RX6 19 "SoldMatches$Ranks" "points" "[I" ∈ wsX6_isAhead := List.mem_of_getElem? (i := 1) rfl
theorem in_X6_isAhead_X6 : ∀ w ∈ wsX60, w ∈ wsX6_isAhead := fun w h => List.mem_cons_of_mem _ (List.mem_append_right _ h)
theorem m_X6_isAhead_f22 : Cond.fieldLink RX6 22 "SoldMatches$Ranks" "balance" "[I" ∈ wsX6_isAhead := List.mem_of_getElem? (i := 2) rfl
def t_X6_isAhead_82   (this_balance : Nat → Int32) (this_points : Nat → Int32) (s0 : Int32) : Option (Int32) := ckn (¬ (s0 = 0 ∨ s0 = 1)) (some (s0))
def t_X6_isAhead_71   (this_balance : Nat → Int32) (this_points : Nat → Int32) (s0 : Int32) : Option (Int32) := ckn (¬ (s0 = 0 ∨ s0 = 1)) (some (s0))
def t_X6_isAhead_35   (this_balance : Nat → Int32) (this_points : Nat → Int32) (s0 : Int32) : Option (Int32) := ckn (¬ (s0 = 0 ∨ s0 = 1)) (some (s0))
def t_X6_isAhead  (this_balance : Nat → Int32) (this_points : Nat → Int32) (x1 : Int32) (x2 : Int32) : Option (Int32) := ckn (x1 < 0 ∨ 8 ≤ x1.toNatClampNeg) (ckn (x2 < 0 ∨ 8 ≤ x2.toNatClampNeg) (if (this_points x1.toNatClampNeg) = (this_points x2.toNatClampNeg) then (ckn (x1 < 0 ∨ 8 ≤ x1.toNatClampNeg) (ckn (x2 < 0 ∨ 8 ≤ x2.toNatClampNeg) (if (this_balance x1.toNatClampNeg) = (this_balance x2.toNatClampNeg) then (if x2 ≤ x1 then (t_X6_isAhead_82   this_balance this_points (0 : Int32)) else (t_X6_isAhead_82   this_balance this_points (1 : Int32))) else (ckn (x1 < 0 ∨ 8 ≤ x1.toNatClampNeg) (ckn (x2 < 0 ∨ 8 ≤ x2.toNatClampNeg) (if (this_balance x1.toNatClampNeg) ≤ (this_balance x2.toNatClampNeg) then (t_X6_isAhead_71   this_balance this_points (0 : Int32)) else (t_X6_isAhead_71   this_balance this_points (1 : Int32)))))))) else (ckn (x1 < 0 ∨ 8 ≤ x1.toNatClampNeg) (ckn (x2 < 0 ∨ 8 ≤ x2.toNatClampNeg) (if (this_points x1.toNatClampNeg) ≤ (this_points x2.toNatClampNeg) then (t_X6_isAhead_35   this_balance this_points (0 : Int32)) else (t_X6_isAhead_35   this_balance this_points (1 : Int32)))))))
set_option maxHeartbeats 4000000 in
set_option maxRecDepth 100000 in
theorem b_X6_isAhead_82 {p : Program} {l : Launch} {e : Env} {s : State} {m : MethodId} {args : Array Value} {below : List Frame} {meth : Method} {c : Code} {D : va_G} {A : Nat → Prop} {cI cJ cZ : ClassId} (X : Cx p m c cX6_isAhead 3 s args wsX6_isAhead RX6 D (tys3 cI cJ cZ) meth (some .boolean)) (_ _ _ : ClassId)  (h_this : Nat) (q_this : Nat → Nat) (this_down : Int32) (this_size : Int32) (r : Int32)  (this_balance : Nat → Int32) (this_points : Nat → Int32) (s0 : Int32) (hT : t_X6_isAhead_82   this_balance this_points s0 = some r) : J p l e rmX6_isAhead s m args below meth c D A 3 (QI D below args s A r (w_X6_isAhead cI cJ cZ h_this q_this this_down this_size this_balance this_points)) 0 0 (w_X6_isAhead cI cJ cZ h_this q_this this_down this_size this_balance this_points) [(0, .ref h_this)] [.int s0] 82 := by
  unfold t_X6_isAhead_82 at hT
  obtain ⟨hk1, hT⟩ := ckn_e hT
  cases hT
  exact J_zret X (Decidable.not_not.mp hk1) dX6_isAhead_82
set_option maxHeartbeats 4000000 in
set_option maxRecDepth 100000 in
theorem b_X6_isAhead_71 {p : Program} {l : Launch} {e : Env} {s : State} {m : MethodId} {args : Array Value} {below : List Frame} {meth : Method} {c : Code} {D : va_G} {A : Nat → Prop} {cI cJ cZ : ClassId} (X : Cx p m c cX6_isAhead 3 s args wsX6_isAhead RX6 D (tys3 cI cJ cZ) meth (some .boolean)) (_ _ _ : ClassId)  (h_this : Nat) (q_this : Nat → Nat) (this_down : Int32) (this_size : Int32) (r : Int32)  (this_balance : Nat → Int32) (this_points : Nat → Int32) (s0 : Int32) (hT : t_X6_isAhead_71   this_balance this_points s0 = some r) : J p l e rmX6_isAhead s m args below meth c D A 3 (QI D below args s A r (w_X6_isAhead cI cJ cZ h_this q_this this_down this_size this_balance this_points)) 0 0 (w_X6_isAhead cI cJ cZ h_this q_this this_down this_size this_balance this_points) [(0, .ref h_this)] [.int s0] 71 := by
  unfold t_X6_isAhead_71 at hT
  obtain ⟨hk2, hT⟩ := ckn_e hT
  cases hT
  exact J_zret X (Decidable.not_not.mp hk2) dX6_isAhead_71
set_option maxHeartbeats 4000000 in
set_option maxRecDepth 100000 in
theorem b_X6_isAhead_35 {p : Program} {l : Launch} {e : Env} {s : State} {m : MethodId} {args : Array Value} {below : List Frame} {meth : Method} {c : Code} {D : va_G} {A : Nat → Prop} {cI cJ cZ : ClassId} (X : Cx p m c cX6_isAhead 3 s args wsX6_isAhead RX6 D (tys3 cI cJ cZ) meth (some .boolean)) (_ _ _ : ClassId)  (h_this : Nat) (q_this : Nat → Nat) (this_down : Int32) (this_size : Int32) (r : Int32)  (this_balance : Nat → Int32) (this_points : Nat → Int32) (s0 : Int32) (hT : t_X6_isAhead_35   this_balance this_points s0 = some r) : J p l e rmX6_isAhead s m args below meth c D A 3 (QI D below args s A r (w_X6_isAhead cI cJ cZ h_this q_this this_down this_size this_balance this_points)) 0 0 (w_X6_isAhead cI cJ cZ h_this q_this this_down this_size this_balance this_points) [(0, .ref h_this)] [.int s0] 35 := by
  unfold t_X6_isAhead_35 at hT
  obtain ⟨hk3, hT⟩ := ckn_e hT
  cases hT
  exact J_zret X (Decidable.not_not.mp hk3) dX6_isAhead_35
set_option maxHeartbeats 4000000 in
set_option maxRecDepth 100000 in
theorem c_X6_isAhead (l : Launch) (D : va_G) (cI cJ cZ : ClassId) (h_this : Nat) (q_this : Nat → Nat) (this_down : Int32) (this_size : Int32) (this_balance : Nat → Int32) (this_points : Nat → Int32) (x1 : Int32) (x2 : Int32) (r : Int32) (hT : t_X6_isAhead  this_balance this_points x1 x2 = some r) : Ci l yX6_isAhead wsX6_isAhead rmX6_isAhead D (tys3 cI cJ cZ) [.ref h_this, .int x1, .int x2] (w_X6_isAhead cI cJ cZ h_this q_this this_down this_size this_balance this_points) r (w_X6_isAhead cI cJ cZ h_this q_this this_down this_size this_balance this_points) := by
  refine Ci.ofJ (cc := cX6_isAhead) (nL := 3) (rt := (some .boolean)) (own := RX6) (by decide) rfl rfl (Nat.le_of_ble_eq_true rfl) ?_
  intro p e s m below meth c A X
  unfold t_X6_isAhead at hT
  refine J_lv (lv' := [(0, .ref h_this), (1, .int x1), (2, .int x2)]) [0, 1, 2] rfl ?_
  refine J_aload_n X dX6_isAhead_0 0 rfl ?_
  refine J_get (C := RX6) (T := TX6) (N := 6) (ci := 6) (v := .ref (q_this 3)) X in_X6_isAhead_X6 0 rfl rfl 3 (by decide) m_X6_isAhead_f19 rfl dX6_isAhead_1 ?_
  refine J_iload_n X dX6_isAhead_4 1 rfl ?_
  obtain ⟨hk4, hT⟩ := ckn_e hT
  refine J_iald X 2 rfl rfl hk4 dX6_isAhead_5 ?_
  refine J_aload_n X dX6_isAhead_6 0 rfl ?_
  refine J_get (C := RX6) (T := TX6) (N := 6) (ci := 6) (v := .ref (q_this 3)) X in_X6_isAhead_X6 0 rfl rfl 3 (by decide) m_X6_isAhead_f19 rfl dX6_isAhead_7 ?_
  refine J_iload_n X dX6_isAhead_10 2 rfl ?_
  obtain ⟨hk5, hT⟩ := ckn_e hT
  refine J_iald X 2 rfl rfl hk5 dX6_isAhead_11 ?_
  refine J_icmp_eq (tgt := 36) X dX6_isAhead_12 (by decide) (fun hc6 => ?_) (fun hc6 => ?_)
  · have hT := ift hT hc6
    refine J_aload_n X dX6_isAhead_36 0 rfl ?_
    refine J_get (C := RX6) (T := TX6) (N := 6) (ci := 6) (v := .ref (q_this 4)) X in_X6_isAhead_X6 0 rfl rfl 4 (by decide) m_X6_isAhead_f22 rfl dX6_isAhead_37 ?_
    refine J_iload_n X dX6_isAhead_40 1 rfl ?_
    obtain ⟨hk7, hT⟩ := ckn_e hT
    refine J_iald X 1 rfl rfl hk7 dX6_isAhead_41 ?_
    refine J_aload_n X dX6_isAhead_42 0 rfl ?_
    refine J_get (C := RX6) (T := TX6) (N := 6) (ci := 6) (v := .ref (q_this 4)) X in_X6_isAhead_X6 0 rfl rfl 4 (by decide) m_X6_isAhead_f22 rfl dX6_isAhead_43 ?_
    refine J_iload_n X dX6_isAhead_46 2 rfl ?_
    obtain ⟨hk8, hT⟩ := ckn_e hT
    refine J_iald X 1 rfl rfl hk8 dX6_isAhead_47 ?_
    refine J_icmp_eq (tgt := 72) X dX6_isAhead_48 (by decide) (fun hc9 => ?_) (fun hc9 => ?_)
    · have hT := ift hT hc9
      refine J_iload_n X dX6_isAhead_72 1 rfl ?_
      refine J_iload_n X dX6_isAhead_73 2 rfl ?_
      refine J_icmp_ge (tgt := 81) X dX6_isAhead_74 (by decide) (fun hc10 => ?_) (fun hc10 => ?_)
      · have hT := ift hT hc10
        refine J_iconst (v := 0) X dX6_isAhead_81 (by decide) ?_
        refine J_lv (lv' := [(0, .ref h_this)]) [0] rfl ?_
        exact b_X6_isAhead_82 X cI cJ cZ h_this q_this this_down this_size r  this_balance this_points (0 : Int32) hT
      · have hT := iff_ hT hc10
        refine J_iconst (v := 1) X dX6_isAhead_77 (by decide) ?_
        refine J_goto (tgt := 82) X dX6_isAhead_78 (by decide) ?_
        refine J_lv (lv' := [(0, .ref h_this)]) [0] rfl ?_
        exact b_X6_isAhead_82 X cI cJ cZ h_this q_this this_down this_size r  this_balance this_points (1 : Int32) hT
    · have hT := iff_ hT hc9
      refine J_aload_n X dX6_isAhead_51 0 rfl ?_
      refine J_get (C := RX6) (T := TX6) (N := 6) (ci := 6) (v := .ref (q_this 4)) X in_X6_isAhead_X6 0 rfl rfl 4 (by decide) m_X6_isAhead_f22 rfl dX6_isAhead_52 ?_
      refine J_iload_n X dX6_isAhead_55 1 rfl ?_
      obtain ⟨hk11, hT⟩ := ckn_e hT
      refine J_iald X 1 rfl rfl hk11 dX6_isAhead_56 ?_
      refine J_aload_n X dX6_isAhead_57 0 rfl ?_
      refine J_get (C := RX6) (T := TX6) (N := 6) (ci := 6) (v := .ref (q_this 4)) X in_X6_isAhead_X6 0 rfl rfl 4 (by decide) m_X6_isAhead_f22 rfl dX6_isAhead_58 ?_
      refine J_iload_n X dX6_isAhead_61 2 rfl ?_
      obtain ⟨hk12, hT⟩ := ckn_e hT
      refine J_iald X 1 rfl rfl hk12 dX6_isAhead_62 ?_
      refine J_icmp_le (tgt := 70) X dX6_isAhead_63 (by decide) (fun hc13 => ?_) (fun hc13 => ?_)
      · have hT := ift hT hc13
        refine J_iconst (v := 0) X dX6_isAhead_70 (by decide) ?_
        refine J_lv (lv' := [(0, .ref h_this)]) [0] rfl ?_
        exact b_X6_isAhead_71 X cI cJ cZ h_this q_this this_down this_size r  this_balance this_points (0 : Int32) hT
      · have hT := iff_ hT hc13
        refine J_iconst (v := 1) X dX6_isAhead_66 (by decide) ?_
        refine J_goto (tgt := 71) X dX6_isAhead_67 (by decide) ?_
        refine J_lv (lv' := [(0, .ref h_this)]) [0] rfl ?_
        exact b_X6_isAhead_71 X cI cJ cZ h_this q_this this_down this_size r  this_balance this_points (1 : Int32) hT
  · have hT := iff_ hT hc6
    refine J_aload_n X dX6_isAhead_15 0 rfl ?_
    refine J_get (C := RX6) (T := TX6) (N := 6) (ci := 6) (v := .ref (q_this 3)) X in_X6_isAhead_X6 0 rfl rfl 3 (by decide) m_X6_isAhead_f19 rfl dX6_isAhead_16 ?_
    refine J_iload_n X dX6_isAhead_19 1 rfl ?_
    obtain ⟨hk14, hT⟩ := ckn_e hT
    refine J_iald X 2 rfl rfl hk14 dX6_isAhead_20 ?_
    refine J_aload_n X dX6_isAhead_21 0 rfl ?_
    refine J_get (C := RX6) (T := TX6) (N := 6) (ci := 6) (v := .ref (q_this 3)) X in_X6_isAhead_X6 0 rfl rfl 3 (by decide) m_X6_isAhead_f19 rfl dX6_isAhead_22 ?_
    refine J_iload_n X dX6_isAhead_25 2 rfl ?_
    obtain ⟨hk15, hT⟩ := ckn_e hT
    refine J_iald X 2 rfl rfl hk15 dX6_isAhead_26 ?_
    refine J_icmp_le (tgt := 34) X dX6_isAhead_27 (by decide) (fun hc16 => ?_) (fun hc16 => ?_)
    · have hT := ift hT hc16
      refine J_iconst (v := 0) X dX6_isAhead_34 (by decide) ?_
      refine J_lv (lv' := [(0, .ref h_this)]) [0] rfl ?_
      exact b_X6_isAhead_35 X cI cJ cZ h_this q_this this_down this_size r  this_balance this_points (0 : Int32) hT
    · have hT := iff_ hT hc16
      refine J_iconst (v := 1) X dX6_isAhead_30 (by decide) ?_
      refine J_goto (tgt := 35) X dX6_isAhead_31 (by decide) ?_
      refine J_lv (lv' := [(0, .ref h_this)]) [0] rfl ?_
      exact b_X6_isAhead_35 X cI cJ cZ h_this q_this this_down this_size r  this_balance this_points (1 : Int32) hT
-- ===== SoldMatches$Ranks.placeOf(I)I
abbrev rmX6_placeOf : Room := { frames := 1, cells := 0, slots := 0, locals := 22 }
def w_X6_placeOf (cI cJ cZ : ClassId) (h_this : Nat) (q_this : Nat → Nat) (this_down : Int32) (this_size : Int32) (this_balance : Nat → Int32) (this_plays : Nat → Int32) (this_points : Nat → Int32) : va_W := [(h_this, .inr (6, oFX6 q_this this_down this_size)), ((q_this 4), .inl (cI, 8, .inl this_balance)), ((q_this 5), .inl (cZ, 8, .inl this_plays)), ((q_this 3), .inl (cI, 8, .inl this_points))]
theorem m_X6_placeOf_f25 : Cond.fieldLink RX6 25 "SoldMatches$Ranks" "plays" "[Z" ∈ wsX6_placeOf := List.mem_of_getElem? (i := 1) rfl
theorem in_X6_placeOf_X6 : ∀ w ∈ wsX60, w ∈ wsX6_placeOf := fun w h => List.mem_cons_of_mem _ (List.mem_append_right _ h)
theorem cw_X6_placeOf_X6_isAhead_55 {s : State} {args : Array Value} (hts : ∀ w ∈ wsX6_placeOf, w.before args s = true) : CallW rmX6_placeOf s args RX6 RX6 55 yX6_isAhead cX6_isAhead 3 (some .boolean) wsX6_isAhead rmX6_isAhead 0 0 2 := cwV 2 hts gX6_placeOf_X6_isAhead rfl rfl rfl (by decide +kernel) ⟨by decide, by decide⟩
def t_X6_placeOf_31  (k_4 : (Nat → Int32) → (Nat → Int32) → (Nat → Int32) → Int32 → Int32 → Int32 → Option (Int32)) (this_balance : Nat → Int32) (this_plays : Nat → Int32) (this_points : Nat → Int32) (x1 : Int32) (x2 : Int32) (x3 : Int32) : Option (Int32) := k_4 this_balance this_plays this_points x1 x2 (x3 + (1 : Int32))
def t_X6_placeOf_4_b  (k_4 : (Nat → Int32) → (Nat → Int32) → (Nat → Int32) → Int32 → Int32 → Int32 → Option (Int32)) (this_balance : Nat → Int32) (this_plays : Nat → Int32) (this_points : Nat → Int32) (x1 : Int32) (x2 : Int32) (x3 : Int32) : Option (Int32) := if (8 : Int32) ≤ x3 then (some (x2)) else (ckn (x3 < 0 ∨ 8 ≤ x3.toNatClampNeg) (if (this_plays x3.toNatClampNeg) = 0 then (t_X6_placeOf_31  k_4 this_balance this_plays this_points x1 x2 x3) else (bd1 (t_X6_isAhead this_balance this_points x3 x1) (fun v4 => if v4 = 0 then (t_X6_placeOf_31  k_4 this_balance this_plays this_points x1 x2 x3) else (t_X6_placeOf_31  k_4 this_balance this_plays this_points x1 (x2 + (1 : Int32)) x3)))))
def t_X6_placeOf_4   (n : Nat) : (Nat → Int32) → (Nat → Int32) → (Nat → Int32) → Int32 → Int32 → Int32 → Option (Int32) := Nat.rec (fun _ _ _ _ _ _ => none) (fun _ ih => t_X6_placeOf_4_b   ih) n
def t_X6_placeOf  (this_balance : Nat → Int32) (this_plays : Nat → Int32) (this_points : Nat → Int32) (x1 : Int32) : Option (Int32) := t_X6_placeOf_4   lfuel this_balance this_plays this_points x1 (0 : Int32) (0 : Int32)
set_option maxHeartbeats 4000000 in
set_option maxRecDepth 100000 in
theorem b_X6_placeOf_31 {p : Program} {l : Launch} {e : Env} {s : State} {m : MethodId} {args : Array Value} {below : List Frame} {meth : Method} {c : Code} {D : va_G} {A : Nat → Prop} {cI cJ cZ : ClassId} (X : Cx p m c cX6_placeOf 4 s args wsX6_placeOf RX6 D (tys3 cI cJ cZ) meth (some .int)) (_ _ _ : ClassId)  (h_this : Nat) (q_this : Nat → Nat) (this_down : Int32) (this_size : Int32) (r : Int32) (k_4 : (Nat → Int32) → (Nat → Int32) → (Nat → Int32) → Int32 → Int32 → Int32 → Option (Int32)) (hk_4 : ∀ (this_balance : Nat → Int32) (this_plays : Nat → Int32) (this_points : Nat → Int32) (x1 : Int32) (x2 : Int32) (x3 : Int32), k_4 this_balance this_plays this_points x1 x2 x3 = some r → J p l e rmX6_placeOf s m args below meth c D A 4 (QI D below args s A r (w_X6_placeOf cI cJ cZ h_this q_this this_down this_size this_balance this_plays this_points)) 0 0 (w_X6_placeOf cI cJ cZ h_this q_this this_down this_size this_balance this_plays this_points) [(0, .ref h_this), (1, .int x1), (2, .int x2), (3, .int x3)] [] 4) (this_balance : Nat → Int32) (this_plays : Nat → Int32) (this_points : Nat → Int32) (x1 : Int32) (x2 : Int32) (x3 : Int32) (hT : t_X6_placeOf_31  k_4 this_balance this_plays this_points x1 x2 x3 = some r) : J p l e rmX6_placeOf s m args below meth c D A 4 (QI D below args s A r (w_X6_placeOf cI cJ cZ h_this q_this this_down this_size this_balance this_plays this_points)) 0 0 (w_X6_placeOf cI cJ cZ h_this q_this this_down this_size this_balance this_plays this_points) [(0, .ref h_this), (1, .int x1), (2, .int x2), (3, .int x3)] [] 31 := by
  unfold t_X6_placeOf_31 at hT
  refine J_iinc (lv' := [(3, .int (x3 + (1 : Int32))), (0, .ref h_this), (1, .int x1), (2, .int x2)]) (j := 3) X dX6_placeOf_31 rfl rfl (by decide) rfl ?_
  refine J_goto (tgt := 4) X dX6_placeOf_34 (by decide) ?_
  refine J_lv (lv' := [(0, .ref h_this), (1, .int x1), (2, .int x2), (3, .int (x3 + (1 : Int32)))]) [1, 2, 3, 0] rfl ?_
  exact hk_4 this_balance this_plays this_points x1 x2 (x3 + (1 : Int32)) hT
set_option maxHeartbeats 4000000 in
set_option maxRecDepth 100000 in
theorem b_X6_placeOf_4_b {p : Program} {l : Launch} {e : Env} {s : State} {m : MethodId} {args : Array Value} {below : List Frame} {meth : Method} {c : Code} {D : va_G} {A : Nat → Prop} {cI cJ cZ : ClassId} (X : Cx p m c cX6_placeOf 4 s args wsX6_placeOf RX6 D (tys3 cI cJ cZ) meth (some .int)) (_ _ _ : ClassId)  (h_this : Nat) (q_this : Nat → Nat) (this_down : Int32) (this_size : Int32) (r : Int32) (k_4 : (Nat → Int32) → (Nat → Int32) → (Nat → Int32) → Int32 → Int32 → Int32 → Option (Int32)) (hk_4 : ∀ (this_balance : Nat → Int32) (this_plays : Nat → Int32) (this_points : Nat → Int32) (x1 : Int32) (x2 : Int32) (x3 : Int32), k_4 this_balance this_plays this_points x1 x2 x3 = some r → J p l e rmX6_placeOf s m args below meth c D A 4 (QI D below args s A r (w_X6_placeOf cI cJ cZ h_this q_this this_down this_size this_balance this_plays this_points)) 0 0 (w_X6_placeOf cI cJ cZ h_this q_this this_down this_size this_balance this_plays this_points) [(0, .ref h_this), (1, .int x1), (2, .int x2), (3, .int x3)] [] 4) (this_balance : Nat → Int32) (this_plays : Nat → Int32) (this_points : Nat → Int32) (x1 : Int32) (x2 : Int32) (x3 : Int32) (hT : t_X6_placeOf_4_b  k_4 this_balance this_plays this_points x1 x2 x3 = some r) : J p l e rmX6_placeOf s m args below meth c D A 4 (QI D below args s A r (w_X6_placeOf cI cJ cZ h_this q_this this_down this_size this_balance this_plays this_points)) 0 0 (w_X6_placeOf cI cJ cZ h_this q_this this_down this_size this_balance this_plays this_points) [(0, .ref h_this), (1, .int x1), (2, .int x2), (3, .int x3)] [] 4 := by
  unfold t_X6_placeOf_4_b at hT
  refine J_iload_n X dX6_placeOf_4 3 rfl ?_
  refine J_bipush (v := 8) X dX6_placeOf_5 (by decide) ?_
  refine J_icmp_ge (tgt := 37) X dX6_placeOf_7 (by decide) (fun hc1 => ?_) (fun hc1 => ?_)
  · have hT := ift hT hc1
    refine J_iload_n X dX6_placeOf_37 2 rfl ?_
    cases hT
    exact J_iret X dX6_placeOf_38
  · have hT := iff_ hT hc1
    refine J_aload_n X dX6_placeOf_10 0 rfl ?_
    refine J_get (C := RX6) (T := TX6) (N := 6) (ci := 6) (v := .ref (q_this 5)) X in_X6_placeOf_X6 0 rfl rfl 5 (by decide) m_X6_placeOf_f25 rfl dX6_placeOf_11 ?_
    refine J_iload_n X dX6_placeOf_14 3 rfl ?_
    obtain ⟨hk2, hT⟩ := ckn_e hT
    refine J_zald X 2 rfl rfl hk2 dX6_placeOf_15 ?_
    refine J_if_eq (tgt := 31) X dX6_placeOf_16 (by decide) (fun hc3 => ?_) (fun hc3 => ?_)
    · have hT := ift hT hc3
      exact b_X6_placeOf_31 X cI cJ cZ h_this q_this this_down this_size r k_4 hk_4 this_balance this_plays this_points x1 x2 x3 hT
    · have hT := iff_ hT hc3
      refine J_aload_n X dX6_placeOf_19 0 rfl ?_
      refine J_iload_n X dX6_placeOf_20 3 rfl ?_
      refine J_iload_n X dX6_placeOf_21 1 rfl ?_
      obtain ⟨v4, hq4, hT⟩ := bd1_e hT
      refine J_ci (wc := (w_X6_isAhead cI cJ cZ h_this q_this this_down this_size this_balance this_points)) (wc' := (w_X6_isAhead cI cJ cZ h_this q_this this_down this_size this_balance this_points)) (ws' := (w_X6_placeOf cI cJ cZ h_this q_this this_down this_size this_balance this_plays this_points)) [0, 1, 3] [2] 4 rfl rfl rfl rfl rfl rfl rfl rfl (run_V (As := [.int x3, .int x1]) (rest := []) X (c_X6_isAhead l D cI cJ cZ h_this q_this this_down this_size this_balance this_points x3 x1 v4 hq4) (cw_X6_placeOf_X6_isAhead_55 X.1.2.2.2.2) 0 rfl rfl rfl rfl (Nat.le_of_ble_eq_true rfl) dX6_placeOf_22 ⟨Nat.zero_le _, Nat.zero_le _⟩) ?_
      refine J_if_eq (tgt := 31) X dX6_placeOf_25 (by decide) (fun hc5 => ?_) (fun hc5 => ?_)
      · have hT := ift hT hc5
        exact b_X6_placeOf_31 X cI cJ cZ h_this q_this this_down this_size r k_4 hk_4 this_balance this_plays this_points x1 x2 x3 hT
      · have hT := iff_ hT hc5
        refine J_iinc (lv' := [(2, .int (x2 + (1 : Int32))), (0, .ref h_this), (1, .int x1), (3, .int x3)]) (j := 2) X dX6_placeOf_28 rfl rfl (by decide) rfl ?_
        refine J_lv (lv' := [(0, .ref h_this), (1, .int x1), (2, .int (x2 + (1 : Int32))), (3, .int x3)]) [1, 2, 0, 3] rfl ?_
        exact b_X6_placeOf_31 X cI cJ cZ h_this q_this this_down this_size r k_4 hk_4 this_balance this_plays this_points x1 (x2 + (1 : Int32)) x3 hT
set_option maxHeartbeats 4000000 in
set_option maxRecDepth 100000 in
theorem b_X6_placeOf_4 {p : Program} {l : Launch} {e : Env} {s : State} {m : MethodId} {args : Array Value} {below : List Frame} {meth : Method} {c : Code} {D : va_G} {A : Nat → Prop} {cI cJ cZ : ClassId} (X : Cx p m c cX6_placeOf 4 s args wsX6_placeOf RX6 D (tys3 cI cJ cZ) meth (some .int)) (_ _ _ : ClassId)  (h_this : Nat) (q_this : Nat → Nat) (this_down : Int32) (this_size : Int32) (r : Int32)  : ∀ (n : Nat) (this_balance : Nat → Int32) (this_plays : Nat → Int32) (this_points : Nat → Int32) (x1 : Int32) (x2 : Int32) (x3 : Int32) (hT : t_X6_placeOf_4   n this_balance this_plays this_points x1 x2 x3 = some r), J p l e rmX6_placeOf s m args below meth c D A 4 (QI D below args s A r (w_X6_placeOf cI cJ cZ h_this q_this this_down this_size this_balance this_plays this_points)) 0 0 (w_X6_placeOf cI cJ cZ h_this q_this this_down this_size this_balance this_plays this_points) [(0, .ref h_this), (1, .int x1), (2, .int x2), (3, .int x3)] [] 4 := by
  intro n
  induction n with
  | zero => intro this_balance this_plays this_points x1 x2 x3 hT; cases hT
  | succ n ih =>
    intro this_balance this_plays this_points x1 x2 x3 hT
    exact b_X6_placeOf_4_b X cI cJ cZ h_this q_this this_down this_size r  (t_X6_placeOf_4   n) ih this_balance this_plays this_points x1 x2 x3 hT
set_option maxHeartbeats 4000000 in
set_option maxRecDepth 100000 in
theorem c_X6_placeOf (l : Launch) (D : va_G) (cI cJ cZ : ClassId) (h_this : Nat) (q_this : Nat → Nat) (this_down : Int32) (this_size : Int32) (this_balance : Nat → Int32) (this_plays : Nat → Int32) (this_points : Nat → Int32) (x1 : Int32) (r : Int32) (hT : t_X6_placeOf  this_balance this_plays this_points x1 = some r) : Ci l yX6_placeOf wsX6_placeOf rmX6_placeOf D (tys3 cI cJ cZ) [.ref h_this, .int x1] (w_X6_placeOf cI cJ cZ h_this q_this this_down this_size this_balance this_plays this_points) r (w_X6_placeOf cI cJ cZ h_this q_this this_down this_size this_balance this_plays this_points) := by
  refine Ci.ofJ (cc := cX6_placeOf) (nL := 4) (rt := (some .int)) (own := RX6) (by decide) rfl rfl (Nat.le_of_ble_eq_true rfl) ?_
  intro p e s m below meth c A X
  unfold t_X6_placeOf at hT
  refine J_lv (lv' := [(0, .ref h_this), (1, .int x1)]) [0, 1] rfl ?_
  refine J_iconst (v := 0) X dX6_placeOf_0 (by decide) ?_
  refine J_istore_n (lv' := [(2, .int (0 : Int32)), (0, .ref h_this), (1, .int x1)]) X dX6_placeOf_1 (by decide) rfl ?_
  refine J_iconst (v := 0) X dX6_placeOf_2 (by decide) ?_
  refine J_istore_n (lv' := [(3, .int (0 : Int32)), (2, .int (0 : Int32)), (0, .ref h_this), (1, .int x1)]) X dX6_placeOf_3 (by decide) rfl ?_
  refine J_lv (lv' := [(0, .ref h_this), (1, .int x1), (2, .int (0 : Int32)), (3, .int (0 : Int32))]) [2, 3, 1, 0] rfl ?_
  exact b_X6_placeOf_4 X cI cJ cZ h_this q_this this_down this_size r  lfuel this_balance this_plays this_points x1 (0 : Int32) (0 : Int32) hT
