-- the two static rows that nobody writes
def leastF : Nat → Int32 := fun j => if j < 2 then 0 else 1
def greatF : Nat → Int32 := fun j => if j = 0 then 40 else if j = 1 then 89 else if j = 2 then 10 else if j = 3 then 20 else 4
def ZT (tL tG : Nat) (A : Nat → Prop) (U : State) (H : Heap) : Prop := va_Z "SoldMatches" "LEAST" "[I" (.ref tL) A U H ∧ va_T .int tL 5 (fun j => .int (leastF j)) A U H ∧ va_Z "SoldMatches" "GREATEST" "[I" (.ref tG) A U H ∧ va_T .int tG 5 (fun j => .int (greatF j)) A U H
theorem ZT.moved {tL tG : Nat} {A : Nat → Prop} {u U : State} {H : Heap} (hvm : u.vm.Alike U.vm) (h : ZT tL tG A u H) : ZT tL tG A U H := ⟨va_Z.moved hvm h.1, va_T.moved hvm h.2.1, va_Z.moved hvm h.2.2.1, va_T.moved hvm h.2.2.2⟩
theorem ZT.kept {tL tG : Nat} {A : Nat → Prop} {U : State} {H H1 : Heap} (h : ZT tL tG A U H) (hq : ∀ a : Nat, a < H.size → ¬ A a → H1[a]? = H[a]?) : ZT tL tG A U H1 := ⟨h.1.kept hq, h.2.1.kept hq, h.2.2.1.kept hq, h.2.2.2.kept hq⟩
theorem ZT.narrow {tL tG : Nat} {A B : Nat → Prop} {U : State} {H : Heap} (h : ZT tL tG A U H) (hAB : ∀ q, B q → A q) : ZT tL tG B U H := ⟨h.1.narrow hAB, h.2.1.narrow hAB, h.2.2.1.narrow hAB, h.2.2.2.narrow hAB⟩
def PreZ (D : va_G) (ty : List (ClassId × FieldType)) (tL tG : Nat) (ws : va_W) (av : List Value) (sz : Nat) : Array Value → State → Prop := va_Pc av (fun U => U.heap.size = sz ∧ va_P D vwCl ws U.heap ∧ GK D ty U ∧ va_D (fun _ => True) ws ∧ ZT tL tG (va_A ws sz) U U.heap)
theorem PreZ.blind {D : va_G} {ty : List (ClassId × FieldType)} {tL tG : Nat} {ws : va_W} {av : List Value} {sz : Nat} : FrameBlind (PreZ D ty tL tG ws av sz) := fun a U g mk q => by
  obtain ⟨q0, q1, qP, qK, qD, qZ⟩ := q
  exact ⟨q0, q1, qP, qK.calling, qD, ZT.moved (u := U) (U := U.calling g mk a) (Vm.Alike.refl U.vm) qZ⟩
def CiZ (l : Launch) (y : MethodName) (W : List Cond) (rm : Room) (D : va_G) (ty : List (ClassId × FieldType)) (tL tG : Nat) (av : List Value) (ws : va_W) (r : Int32) (ws' : va_W) : Prop := ∀ sz : Nat, Met l y W rm (PreZ D ty tL tG ws av sz) (va_Qi (fun r2 (_ : Unit) => r2 = r) (fun _ t => va_P D vwCl ws' t.heap) (va_A ws sz)) 0 0 (va_A ws sz)
theorem CiZ.ofJ {l : Launch} {y : MethodName} {W W' : List Cond} {rm : Room} {D : va_G} {ty : List (ClassId × FieldType)} {tL tG : Nat} {av : List Value} {ws ws' : va_W} {r : Int32} {cc : ByteArray} {nL : Nat} {rt : Option FieldType} {own : String} (hy : plainName y.cls = true) (hw : W = Cond.code y cc nL rt :: W') (ho : y.cls = own) (hn : (lg_sl av).length ≤ nL) (body : ∀ (p : Program) (e : Env) (s : State) (m : MethodId) (below : List Frame) (meth : Method) (c : Code) (A : Nat → Prop), Cx p m c cc nL s av.toArray W own D ty meth rt → ZT tL tG A s s.heap → J p l e rm s m av.toArray below meth c D A nL (QI D below av.toArray s A r ws') 0 0 ws (lv_args 0 av) [] 0) : CiZ l y W rm D ty tL tG av ws r ws' := by
  intro sz
  refine Met.ofW (cc := cc) (maxL := nL) (ret := rt) hy hw ?_
  intro p e s m args below meth c s₁ B hml hv
  obtain ⟨rfl, hsz, hP, hK, hD0, hZ⟩ := hv
  subst hsz
  rw [lg_entry_eq]
  exact body p e s m below meth c (va_A ws s.heap.size) ⟨⟨B.exec, B.bytes, hml, by rw [← ho]; exact findClass_of_methodNamed B.named, atoms_spec (ws := W) B.pre⟩, hK, B.returns, B.notSynchronized⟩ hZ s.heap [] _ (lv_entry av hn) hP (hD0.self (sz := s.heap.size)) va_S.rf (fun q h => Or.inr h)
section JZ
variable {p : Program} {l : Launch} {e : Env} {R : Room} {s : State} {m : MethodId} {args : Array Value} {below : List Frame} {meth : Method} {c : Code} {D : va_G} {A : Nat → Prop} {nL : Nat} {Q : State → Prop} {k n : Nat}
variable {cc : ByteArray} {Ts : List Cond} {own : String} {ty : List (ClassId × FieldType)} {ret : Option FieldType} {ws ws' : va_W} {lv lv' : List (Nat × Value)} {st : List Value} {pc : Nat}
theorem J_gets {C n1 d1 : String} {v : Value} {index : Nat} (X : Cx p m c cc nL s args Ts own D ty meth ret) (hZ : va_Z C n1 d1 v A s s.heap) (hlink : Cond.fieldLink own index C n1 d1 ∈ Ts) (hd : decode cc pc = .ok (.getstatic index, 3)) (kk : J p l e R s m args below meth c D A nL Q k n ws lv (v :: st) (pc + 3)) : J p l e R s m args below meth c D A nL Q k n ws lv st pc := fun H locs ls h1 h2 h3 h4 h5 => va_gets X.1.1 X.1.2.1 hZ h4 X.1.2.2.2.1 (X.1.2.2.2.2 _ hlink) (fun _ h => h) hd (kk H locs ls h1 h2 h3 h4 h5)
theorem J_ti {t N : Nat} {f : Nat → Value} {i : Int32} {v : Value} (X : Cx p m c cc nL s args Ts own D ty meth ret) (hT : va_T .int t N f A s s.heap) (hin : ¬ (i < 0 ∨ N ≤ i.toNatClampNeg)) (hv : f i.toNatClampNeg = v) (hd : decode cc pc = .ok (.iaload, 1)) (kk : J p l e R s m args below meth c D A nL Q k n ws lv (v :: st) (pc + 1)) : J p l e R s m args below meth c D A nL Q k n ws lv (.int i :: .ref t :: st) pc := fun H locs ls h1 h2 h3 h4 h5 => va_ti X.1.1 X.1.2.1 hT h4 hin hv hd (kk H locs ls h1 h2 h3 h4 h5)
theorem J_tlen {t N : Nat} {f : Nat → Value} {v : Int32} (X : Cx p m c cc nL s args Ts own D ty meth ret) (hT : va_T .int t N f A s s.heap) (hv : Int32.ofNat N = v) (hd : decode cc pc = .ok (.arraylength, 1)) (kk : J p l e R s m args below meth c D A nL Q k n ws lv (.int v :: st) (pc + 1)) : J p l e R s m args below meth c D A nL Q k n ws lv (.ref t :: st) pc := fun H locs ls h1 h2 h3 h4 h5 => va_tlen X.1.1 X.1.2.1 hT h4 hv hd (kk H locs ls h1 h2 h3 h4 h5)
theorem run_VZ {y : MethodName} {bytes : ByteArray} {maxL nP index tL tG : Nat} {rtc : Option FieldType} {W' : List Cond} {rm' : Room} {wc : va_W} {Qc : Nat → Array Value → State → Outcome → State → Prop} {C : String} {T : u_T} {N ci b : Nat} {fs As rest : List Value} (X : Cx p m c cc nL s args Ts own D ty meth ret) (hM : ∀ sz : Nat, Met l y W' rm' (PreZ D ty tL tG wc (.ref b :: As) sz) (Qc sz) 0 0 (va_A wc sz)) (cw : CallW R s args own C index y bytes maxL rtc W' rm' 0 0 nP) (q0 : Nat) (hq : wc[q0]? = some (b, .inr (ci, fs))) (hc : vwCl[ci]? = some (C, T, N)) (hn : As.length = nP) (hst : st = As.reverse ++ .ref b :: rest) (hW : (rest.map fun v => v.category).sum ≤ 8) (hd : decode cc pc = .ok (.invokevirtual index, 3)) (hf : k + 0 ≤ R.cells ∧ n + 0 ≤ R.slots) :
    ∀ (H : Heap) (locs : List Loc) (ls : Array Slot), lv_has ls nL lv → va_P D vwCl wc H → va_D (fun _ => True) wc → ZT tL tG (va_A wc H.size) s H → va_Run p l e R s m args below meth c H locs k n 0 0 (F0 m pc ls st) rest (Qc H.size (Value.ref b :: As).toArray) (va_A wc H.size) := fun H locs ls h1 hP hD hZ =>
  va_runV X.1 (hM H.size) cw ⟨PreZ.blind, va_recv X.2.1.1 hP hc hq, fun U hU hWm => ⟨rfl, by rw [hU], by rw [hU]; exact hP, X.2.1.warm hWm, hD, by rw [hU]; exact ZT.moved hWm.alike hZ⟩⟩ rfl hn h1.1 hst (lv_room hW) hd hf
theorem J_ciZ {wc wc' : va_W} {r : Int32} {rest : List Value} {a : Array Value} {tL tG : Nat} (Zt : ZT tL tG A s s.heap) (isC isR : List Nat) (n0 : Nat) (hn0 : ws.length = n0) (hn1 : ws'.length = n0) (hcov : covn isC isR n0 = true) (hC : isC.map (fun i => ws[i]?) = wc.map some) (hn : va_nd isC = true) (hC' : isC.map (fun i => ws'[i]?) = wc'.map some) (hA : wc'.map (fun q => q.1) = wc.map (fun q => q.1)) (hR : isR.map (fun i => ws'[i]?) = isR.map (fun i => ws[i]?)) (hrun : ∀ (H : Heap) (locs : List Loc) (ls : Array Slot), lv_has ls nL lv → va_P D vwCl wc H → va_D (fun _ => True) wc → ZT tL tG (va_A wc H.size) s H → va_Run p l e R s m args below meth c H locs k n 0 0 (F0 m pc ls st) rest (va_Qi (fun r2 (_ : Unit) => r2 = r) (fun _ t => va_P D vwCl wc' t.heap) (va_A wc H.size) a) (va_A wc H.size)) (kk : J p l e R s m args below meth c D A nL Q k n ws' lv (.int r :: rest) (pc + 3)) : J p l e R s m args below meth c D A nL Q k n ws lv st pc := by
  intro H locs ls h1 h2 h3 h4 h5
  have hPc := va_Psub h2 isC hC
  have hDc := (h3.sub isC hn hC).weaken (B := fun _ => True) (fun _ _ _ _ => trivial)
  have hFc := va_free h3 h4 h5 isC hC
  refine va_calli (hrun H locs ls h1 hPc hDc ((Zt.kept (fun a ha hna => h4.2.1 a ha hna)).narrow hFc)) h4 (fun q _ h => hFc q h) hFc (fun r2 u t H1 locs1 ht hvm hw hB hz1 hk1 hS => ?_)
  subst hw
  have hP1 : va_P D vwCl wc' H1 := by rw [← ht]; exact hB
  have hX := repl_X isC isR n0 hn1 hcov hC' hR
  exact kk H1 locs1 ls h1 (repl_P h2 h3 isC hC hX hk1 hP1) (repl_D h3 isC hC hC' hA hn0 hn1 hX) hS h5
-- the law's own script
theorem J_sld {b L : Nat} {xs : Nat → Int32} {i : Int32} (X : Cx p m c cc nL s args Ts own D ty meth ret) (hX : va_X b L xs s s.heap) (hbl : b < s.heap.size) (hbA : ¬ A b) (hin : vp_in i L) (hd : decode cc pc = .ok (.iaload, 1)) (kk : J p l e R s m args below meth c D A nL Q k n ws lv (.int (xs i.toNatClampNeg) :: st) (pc + 1)) : J p l e R s m args below meth c D A nL Q k n ws lv (.int i :: .ref b :: st) pc := fun H locs ls h1 h2 h3 h4 h5 => va_sld X.1.1 X.1.2.1 hX hbl hbA h4 hin hd (kk H locs ls h1 h2 h3 h4 h5)
theorem J_slen {b L : Nat} {xs : Nat → Int32} (X : Cx p m c cc nL s args Ts own D ty meth ret) (hX : va_X b L xs s s.heap) (hbl : b < s.heap.size) (hbA : ¬ A b) (hd : decode cc pc = .ok (.arraylength, 1)) (kk : J p l e R s m args below meth c D A nL Q k n ws lv (.int (Int32.ofNat L) :: st) (pc + 1)) : J p l e R s m args below meth c D A nL Q k n ws lv (.ref b :: st) pc := fun H locs ls h1 h2 h3 h4 h5 => va_slen X.1.1 X.1.2.1 hX hbl hbA h4 hd (kk H locs ls h1 h2 h3 h4 h5)
theorem J_astore_n {i : Fin 4} {x : Nat} (X : Cx p m c cc nL s args Ts own D ty meth ret) (hd : decode cc pc = .ok (.astore_n i, 1)) (hn : (i : Nat) < nL) (hl : ((i : Nat), Value.ref x) :: lv.filter (fun q => !(q.1 == (i : Nat)) && !(q.1 + 1 == (i : Nat) && q.2.category == 2)) = lv') (kk : J p l e R s m args below meth c D A nL Q k n ws lv' st (pc + 1)) : J p l e R s m args below meth c D A nL Q k n ws lv (.ref x :: st) pc := fun H locs ls h1 h2 h3 h4 h5 => lv_astore_n X.1.1 X.1.2.1 hd rfl h1 hn hl (fun ls' h' => kk H locs ls' h' h2 h3 h4 h5)
end JZ
-- ===== SoldMatches.set(II)I
abbrev rmX10_set : Room := { frames := 1, cells := 0, slots := 0, locals := 22 }
def w_X10_set (cI cJ cZ : ClassId) (h_this : Nat) (q_this : Nat → Nat) (q_this_bets : Nat → Nat) (q_this_games : Nat → Nat) (q_this_ranks : Nat → Nat) (this_bets_count : Int32) (this_bets_near : Int32) (this_bets_times : Int32) (this_bets_ties : Int32) (this_games_count : Int32) (this_games_base : Int32) (this_games_topLean : Int32) (this_games_topSpot : Int32) (this_ranks_down : Int32) (this_ranks_size : Int32) : va_W := [(h_this, .inr (10, oFX10 q_this )), ((q_this 1), .inr (0, oFX0 q_this_bets this_bets_count this_bets_near this_bets_times this_bets_ties)), ((q_this 0), .inr (2, oFX2 q_this_games this_games_count this_games_base this_games_topLean this_games_topSpot)), ((q_this 6), .inr (6, oFX6 q_this_ranks this_ranks_down this_ranks_size))]
theorem m_X10_set_f142 : Cond.fieldLink RX10 142 "SoldMatches" "LEAST" "[I" ∈ wsX10_set := List.mem_of_getElem? (i := 1) rfl
theorem cw_X10_set_X10_within_76 {s : State} {args : Array Value} (hts : ∀ w ∈ wsX10_set, w.before args s = true) : CallB rmX10_set s args RX10 76 yX10_within cX10_within 3 (some .boolean) wsX10_within rmX10_within 0 0 3 ∧ (Cond.static yX10_within).before args s = true := va_cwS 3 hts gX10_set_X10_within rfl rfl rfl (by decide +kernel) ⟨by decide, by decide⟩
theorem m_X10_set_f145 : Cond.fieldLink RX10 145 "SoldMatches" "GREATEST" "[I" ∈ wsX10_set := List.mem_of_getElem? (i := 2) rfl
theorem m_X10_set_f12 : Cond.fieldLink RX10 12 "SoldMatches" "games" "LSoldMatches$Games;" ∈ wsX10_set := List.mem_of_getElem? (i := 3) rfl
theorem in_X10_set_X10 : ∀ w ∈ wsX100, w ∈ wsX10_set := fun w h => List.mem_cons_of_mem _ (List.mem_append_left _ (List.mem_append_left _ (List.mem_append_left _ (List.mem_append_right _ h))))
theorem in_X10_set_X2 : ∀ w ∈ wsX20, w ∈ wsX10_set := fun w h => List.mem_cons_of_mem _ (List.mem_append_left _ (List.mem_append_left _ (List.mem_append_right _ h)))
theorem m_X10_set_f19 : Cond.fieldLink RX10 19 "SoldMatches" "bets" "LSoldMatches$Bets;" ∈ wsX10_set := List.mem_of_getElem? (i := 4) rfl
theorem in_X10_set_X0 : ∀ w ∈ wsX00, w ∈ wsX10_set := fun w h => List.mem_cons_of_mem _ (List.mem_append_left _ (List.mem_append_right _ h))
theorem m_X10_set_f54 : Cond.fieldLink RX10 54 "SoldMatches" "ranks" "LSoldMatches$Ranks;" ∈ wsX10_set := List.mem_of_getElem? (i := 5) rfl
theorem in_X10_set_X6 : ∀ w ∈ wsX60, w ∈ wsX10_set := fun w h => List.mem_cons_of_mem _ (List.mem_append_right _ h)
def t_X10_set  (this_bets_near : Int32) (this_bets_times : Int32) (this_bets_ties : Int32) (this_games_base : Int32) (this_ranks_down : Int32) (x1 : Int32) (x2 : Int32) : Option (Int32 × Int32 × Int32 × Int32 × Int32 × Int32) := bd1 (t_X10_within x1 (0 : Int32) ((5 : Int32) - (1 : Int32))) (fun v1 => if v1 = 0 then (some ((-2 : Int32), this_bets_near, this_bets_times, this_bets_ties, this_games_base, this_ranks_down)) else (ckn (x1 < 0 ∨ 5 ≤ x1.toNatClampNeg) (ckn (x1 < 0 ∨ 5 ≤ x1.toNatClampNeg) (bd1 (t_X10_within x2 (leastF x1.toNatClampNeg) (greatF x1.toNatClampNeg)) (fun v5 => if v5 = 0 then (some ((-2 : Int32), this_bets_near, this_bets_times, this_bets_ties, this_games_base, this_ranks_down)) else (if x1 = 0 then (some (this_games_base, this_bets_near, this_bets_times, this_bets_ties, x2, this_ranks_down)) else (if x1 = 1 then (some (this_bets_near, x2, this_bets_times, this_bets_ties, this_games_base, this_ranks_down)) else (if x1 = 2 then (some (this_bets_times, this_bets_near, x2, this_bets_ties, this_games_base, this_ranks_down)) else (if x1 = 3 then (some (this_bets_ties, this_bets_near, this_bets_times, x2, this_games_base, this_ranks_down)) else (some (this_ranks_down, this_bets_near, this_bets_times, this_bets_ties, this_games_base, x2)))))))))))
set_option maxHeartbeats 4000000 in
set_option maxRecDepth 100000 in
theorem c_X10_set (l : Launch) (D : va_G) (tL tG : Nat) (cI cJ cZ : ClassId) (h_this : Nat) (q_this : Nat → Nat) (q_this_bets : Nat → Nat) (q_this_games : Nat → Nat) (q_this_ranks : Nat → Nat) (this_bets_count : Int32) (this_bets_near : Int32) (this_bets_times : Int32) (this_bets_ties : Int32) (this_games_count : Int32) (this_games_base : Int32) (this_games_topLean : Int32) (this_games_topSpot : Int32) (this_ranks_down : Int32) (this_ranks_size : Int32) (x1 : Int32) (x2 : Int32) (r : Int32) (z0 : Int32) (z1 : Int32) (z2 : Int32) (z3 : Int32) (z4 : Int32) (hT : t_X10_set  this_bets_near this_bets_times this_bets_ties this_games_base this_ranks_down x1 x2 = some (r, z0, z1, z2, z3, z4)) : CiZ l yX10_set wsX10_set rmX10_set D (tys3 cI cJ cZ) tL tG [.ref h_this, .int x1, .int x2] (w_X10_set cI cJ cZ h_this q_this q_this_bets q_this_games q_this_ranks this_bets_count this_bets_near this_bets_times this_bets_ties this_games_count this_games_base this_games_topLean this_games_topSpot this_ranks_down this_ranks_size) r (w_X10_set cI cJ cZ h_this q_this q_this_bets q_this_games q_this_ranks this_bets_count z0 z1 z2 this_games_count z3 this_games_topLean this_games_topSpot z4 this_ranks_size) := by
  refine CiZ.ofJ (cc := cX10_set) (nL := 4) (rt := (some .int)) (own := RX10) (by decide) rfl rfl (Nat.le_of_ble_eq_true rfl) ?_
  intro p e s m below meth c A X Zt
  unfold t_X10_set at hT
  refine J_lv (lv' := [(0, .ref h_this), (1, .int x1), (2, .int x2)]) [0, 1, 2] rfl ?_
  refine J_iload_n X dX10_set_0 1 rfl ?_
  refine J_iconst (v := 0) X dX10_set_1 (by decide) ?_
  refine J_gets X Zt.1 m_X10_set_f142 dX10_set_2 ?_
  refine J_tlen (v := 5) X Zt.2.1 (by decide) dX10_set_5 ?_
  refine J_iconst (v := 1) X dX10_set_6 (by decide) ?_
  refine J_isub X dX10_set_7 ?_
  obtain ⟨v1, hq1, hT⟩ := bd1_e hT
  refine J_ci (wc := (w_X10_within cI cJ cZ )) (wc' := (w_X10_within cI cJ cZ )) (ws' := (w_X10_set cI cJ cZ h_this q_this q_this_bets q_this_games q_this_ranks this_bets_count this_bets_near this_bets_times this_bets_ties this_games_count this_games_base this_games_topLean this_games_topSpot this_ranks_down this_ranks_size)) [] [0, 1, 2, 3] 4 rfl rfl rfl rfl rfl rfl rfl rfl (run_S (As := [.int x1, .int (0 : Int32), .int ((5 : Int32) - (1 : Int32))]) (rest := []) X (c_X10_within l D cI cJ cZ  x1 (0 : Int32) ((5 : Int32) - (1 : Int32)) v1 hq1) (cw_X10_set_X10_within_76 X.1.2.2.2.2) rfl rfl (Nat.le_of_ble_eq_true rfl) dX10_set_8 ⟨Nat.zero_le _, Nat.zero_le _⟩) ?_
  refine J_if_eq (tgt := 31) X dX10_set_11 (by decide) (fun hc2 => ?_) (fun hc2 => ?_)
  · have hT := ift hT hc2
    refine J_bipush (v := -2) X dX10_set_31 (by decide) ?_
    cases hT
    exact J_iret X dX10_set_33
  · have hT := iff_ hT hc2
    refine J_iload_n X dX10_set_14 2 rfl ?_
    refine J_gets X Zt.1 m_X10_set_f142 dX10_set_15 ?_
    refine J_iload_n X dX10_set_18 1 rfl ?_
    obtain ⟨hk3, hT⟩ := ckn_e hT
    refine J_ti X Zt.2.1 hk3 rfl dX10_set_19 ?_
    refine J_gets X Zt.2.2.1 m_X10_set_f145 dX10_set_20 ?_
    refine J_iload_n X dX10_set_23 1 rfl ?_
    obtain ⟨hk4, hT⟩ := ckn_e hT
    refine J_ti X Zt.2.2.2 hk4 rfl dX10_set_24 ?_
    obtain ⟨v5, hq5, hT⟩ := bd1_e hT
    refine J_ci (wc := (w_X10_within cI cJ cZ )) (wc' := (w_X10_within cI cJ cZ )) (ws' := (w_X10_set cI cJ cZ h_this q_this q_this_bets q_this_games q_this_ranks this_bets_count this_bets_near this_bets_times this_bets_ties this_games_count this_games_base this_games_topLean this_games_topSpot this_ranks_down this_ranks_size)) [] [0, 1, 2, 3] 4 rfl rfl rfl rfl rfl rfl rfl rfl (run_S (As := [.int x2, .int (leastF x1.toNatClampNeg), .int (greatF x1.toNatClampNeg)]) (rest := []) X (c_X10_within l D cI cJ cZ  x2 (leastF x1.toNatClampNeg) (greatF x1.toNatClampNeg) v5 hq5) (cw_X10_set_X10_within_76 X.1.2.2.2.2) rfl rfl (Nat.le_of_ble_eq_true rfl) dX10_set_25 ⟨Nat.zero_le _, Nat.zero_le _⟩) ?_
    refine J_if_ne (tgt := 34) X dX10_set_28 (by decide) (fun hc6 => ?_) (fun hc6 => ?_)
    · have hT := iff_ hT hc6
      refine J_iload_n X dX10_set_34 1 rfl ?_
      refine J_if (x1 = 0) (fun hc7 => ?_) (fun hc7 => ?_)
      · have hT := ift hT hc7
        refine J_tsK (tgt := 64) X dX10_set_35 0 hc7 (by decide) (by decide) rfl (by decide) ?_
        refine J_aload_n X dX10_set_64 0 rfl ?_
        refine J_get (C := RX10) (T := TX10) (N := 10) (ci := 10) (v := .ref (q_this 0)) X in_X10_set_X10 0 rfl rfl 0 (by decide) m_X10_set_f12 rfl dX10_set_65 ?_
        refine J_getN (host := "SoldMatches") (C := RX2) (T := TX2) (N := 13) (ci := 2) (v := .int this_games_base) X in_X10_set_X2 2 rfl rfl 1 (by decide) (List.mem_of_getElem? (i := 4) rfl) rfl dX10_set_68 ?_
        refine J_istore_n (lv' := [(3, .int this_games_base), (0, .ref h_this), (1, .int x1), (2, .int x2)]) X dX10_set_71 (by decide) rfl ?_
        refine J_aload_n X dX10_set_72 1 rfl ?_
        refine J_get (C := RX10) (T := TX10) (N := 10) (ci := 10) (v := .ref (q_this 0)) X in_X10_set_X10 0 rfl rfl 0 (by decide) m_X10_set_f12 rfl dX10_set_73 ?_
        refine J_iload_n X dX10_set_76 3 rfl ?_
        refine J_putN (host := "SoldMatches") (C := RX2) (T := TX2) (N := 13) (ci := 2) (ws' := (w_X10_set cI cJ cZ h_this q_this q_this_bets q_this_games q_this_ranks this_bets_count this_bets_near this_bets_times this_bets_ties this_games_count x2 this_games_topLean this_games_topSpot this_ranks_down this_ranks_size)) X in_X10_set_X2 2 rfl rfl 1 (by decide) tyX2 tyX2_ok nmX2 (List.mem_of_getElem? (i := 4) rfl) rfl rfl rfl (Nat.le_of_ble_eq_true rfl) rfl dX10_set_77 ?_
        refine J_goto (tgt := 156) X dX10_set_80 (by decide) ?_
        refine J_iload_n X dX10_set_156 0 rfl ?_
        cases hT
        exact J_iret X dX10_set_157
      · have hT := iff_ hT hc7
        refine J_if (x1 = 1) (fun hc8 => ?_) (fun hc8 => ?_)
        · have hT := ift hT hc8
          refine J_tsK (tgt := 83) X dX10_set_35 1 hc8 (by decide) (by decide) rfl (by decide) ?_
          refine J_aload_n X dX10_set_83 0 rfl ?_
          refine J_get (C := RX10) (T := TX10) (N := 10) (ci := 10) (v := .ref (q_this 1)) X in_X10_set_X10 0 rfl rfl 1 (by decide) m_X10_set_f19 rfl dX10_set_84 ?_
          refine J_getN (host := "SoldMatches") (C := RX0) (T := TX0) (N := 13) (ci := 0) (v := .int this_bets_near) X in_X10_set_X0 1 rfl rfl 1 (by decide) (List.mem_of_getElem? (i := 24) rfl) rfl dX10_set_87 ?_
          refine J_istore_n (lv' := [(3, .int this_bets_near), (0, .ref h_this), (1, .int x1), (2, .int x2)]) X dX10_set_90 (by decide) rfl ?_
          refine J_aload_n X dX10_set_91 1 rfl ?_
          refine J_get (C := RX10) (T := TX10) (N := 10) (ci := 10) (v := .ref (q_this 1)) X in_X10_set_X10 0 rfl rfl 1 (by decide) m_X10_set_f19 rfl dX10_set_92 ?_
          refine J_iload_n X dX10_set_95 3 rfl ?_
          refine J_putN (host := "SoldMatches") (C := RX0) (T := TX0) (N := 13) (ci := 0) (ws' := (w_X10_set cI cJ cZ h_this q_this q_this_bets q_this_games q_this_ranks this_bets_count x2 this_bets_times this_bets_ties this_games_count this_games_base this_games_topLean this_games_topSpot this_ranks_down this_ranks_size)) X in_X10_set_X0 1 rfl rfl 1 (by decide) tyX0 tyX0_ok nmX0 (List.mem_of_getElem? (i := 24) rfl) rfl rfl rfl (Nat.le_of_ble_eq_true rfl) rfl dX10_set_96 ?_
          refine J_goto (tgt := 156) X dX10_set_99 (by decide) ?_
          refine J_iload_n X dX10_set_156 0 rfl ?_
          cases hT
          exact J_iret X dX10_set_157
        · have hT := iff_ hT hc8
          refine J_if (x1 = 2) (fun hc9 => ?_) (fun hc9 => ?_)
          · have hT := ift hT hc9
            refine J_tsK (tgt := 102) X dX10_set_35 2 hc9 (by decide) (by decide) rfl (by decide) ?_
            refine J_aload_n X dX10_set_102 0 rfl ?_
            refine J_get (C := RX10) (T := TX10) (N := 10) (ci := 10) (v := .ref (q_this 1)) X in_X10_set_X10 0 rfl rfl 1 (by decide) m_X10_set_f19 rfl dX10_set_103 ?_
            refine J_getN (host := "SoldMatches") (C := RX0) (T := TX0) (N := 13) (ci := 0) (v := .int this_bets_times) X in_X10_set_X0 1 rfl rfl 2 (by decide) (List.mem_of_getElem? (i := 25) rfl) rfl dX10_set_106 ?_
            refine J_istore_n (lv' := [(3, .int this_bets_times), (0, .ref h_this), (1, .int x1), (2, .int x2)]) X dX10_set_109 (by decide) rfl ?_
            refine J_aload_n X dX10_set_110 1 rfl ?_
            refine J_get (C := RX10) (T := TX10) (N := 10) (ci := 10) (v := .ref (q_this 1)) X in_X10_set_X10 0 rfl rfl 1 (by decide) m_X10_set_f19 rfl dX10_set_111 ?_
            refine J_iload_n X dX10_set_114 3 rfl ?_
            refine J_putN (host := "SoldMatches") (C := RX0) (T := TX0) (N := 13) (ci := 0) (ws' := (w_X10_set cI cJ cZ h_this q_this q_this_bets q_this_games q_this_ranks this_bets_count this_bets_near x2 this_bets_ties this_games_count this_games_base this_games_topLean this_games_topSpot this_ranks_down this_ranks_size)) X in_X10_set_X0 1 rfl rfl 2 (by decide) tyX0 tyX0_ok nmX0 (List.mem_of_getElem? (i := 25) rfl) rfl rfl rfl (Nat.le_of_ble_eq_true rfl) rfl dX10_set_115 ?_
            refine J_goto (tgt := 156) X dX10_set_118 (by decide) ?_
            refine J_iload_n X dX10_set_156 0 rfl ?_
            cases hT
            exact J_iret X dX10_set_157
          · have hT := iff_ hT hc9
            refine J_if (x1 = 3) (fun hc10 => ?_) (fun hc10 => ?_)
            · have hT := ift hT hc10
              refine J_tsK (tgt := 121) X dX10_set_35 3 hc10 (by decide) (by decide) rfl (by decide) ?_
              refine J_aload_n X dX10_set_121 0 rfl ?_
              refine J_get (C := RX10) (T := TX10) (N := 10) (ci := 10) (v := .ref (q_this 1)) X in_X10_set_X10 0 rfl rfl 1 (by decide) m_X10_set_f19 rfl dX10_set_122 ?_
              refine J_getN (host := "SoldMatches") (C := RX0) (T := TX0) (N := 13) (ci := 0) (v := .int this_bets_ties) X in_X10_set_X0 1 rfl rfl 3 (by decide) (List.mem_of_getElem? (i := 26) rfl) rfl dX10_set_125 ?_
              refine J_istore_n (lv' := [(3, .int this_bets_ties), (0, .ref h_this), (1, .int x1), (2, .int x2)]) X dX10_set_128 (by decide) rfl ?_
              refine J_aload_n X dX10_set_129 1 rfl ?_
              refine J_get (C := RX10) (T := TX10) (N := 10) (ci := 10) (v := .ref (q_this 1)) X in_X10_set_X10 0 rfl rfl 1 (by decide) m_X10_set_f19 rfl dX10_set_130 ?_
              refine J_iload_n X dX10_set_133 3 rfl ?_
              refine J_putN (host := "SoldMatches") (C := RX0) (T := TX0) (N := 13) (ci := 0) (ws' := (w_X10_set cI cJ cZ h_this q_this q_this_bets q_this_games q_this_ranks this_bets_count this_bets_near this_bets_times x2 this_games_count this_games_base this_games_topLean this_games_topSpot this_ranks_down this_ranks_size)) X in_X10_set_X0 1 rfl rfl 3 (by decide) tyX0 tyX0_ok nmX0 (List.mem_of_getElem? (i := 26) rfl) rfl rfl rfl (Nat.le_of_ble_eq_true rfl) rfl dX10_set_134 ?_
              refine J_goto (tgt := 156) X dX10_set_137 (by decide) ?_
              refine J_iload_n X dX10_set_156 0 rfl ?_
              cases hT
              exact J_iret X dX10_set_157
            · have hT := iff_ hT hc10
              refine J_tsD (tgt := 140) X dX10_set_35 (by have e0 := lv_neT (a := 0) hc7 (by decide); have e1 := lv_neT (a := 1) hc8 (by decide); have e2 := lv_neT (a := 2) hc9 (by decide); have e3 := lv_neT (a := 3) hc10 (by decide); omega) (by decide) ?_
              refine J_aload_n X dX10_set_140 0 rfl ?_
              refine J_get (C := RX10) (T := TX10) (N := 10) (ci := 10) (v := .ref (q_this 6)) X in_X10_set_X10 0 rfl rfl 6 (by decide) m_X10_set_f54 rfl dX10_set_141 ?_
              refine J_getN (host := "SoldMatches") (C := RX6) (T := TX6) (N := 6) (ci := 6) (v := .int this_ranks_down) X in_X10_set_X6 3 rfl rfl 0 (by decide) (List.mem_of_getElem? (i := 46) rfl) rfl dX10_set_144 ?_
              refine J_istore_n (lv' := [(3, .int this_ranks_down), (0, .ref h_this), (1, .int x1), (2, .int x2)]) X dX10_set_147 (by decide) rfl ?_
              refine J_aload_n X dX10_set_148 1 rfl ?_
              refine J_get (C := RX10) (T := TX10) (N := 10) (ci := 10) (v := .ref (q_this 6)) X in_X10_set_X10 0 rfl rfl 6 (by decide) m_X10_set_f54 rfl dX10_set_149 ?_
              refine J_iload_n X dX10_set_152 3 rfl ?_
              refine J_putN (host := "SoldMatches") (C := RX6) (T := TX6) (N := 6) (ci := 6) (ws' := (w_X10_set cI cJ cZ h_this q_this q_this_bets q_this_games q_this_ranks this_bets_count this_bets_near this_bets_times this_bets_ties this_games_count this_games_base this_games_topLean this_games_topSpot x2 this_ranks_size)) X in_X10_set_X6 3 rfl rfl 0 (by decide) tyX6 tyX6_ok nmX6 (List.mem_of_getElem? (i := 46) rfl) rfl rfl rfl (Nat.le_of_ble_eq_true rfl) rfl dX10_set_153 ?_
              refine J_iload_n X dX10_set_156 0 rfl ?_
              cases hT
              exact J_iret X dX10_set_157
    · have hT := ift hT hc6
      refine J_bipush (v := -2) X dX10_set_31 (by decide) ?_
      cases hT
      exact J_iret X dX10_set_33
