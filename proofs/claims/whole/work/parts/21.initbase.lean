-- Arrays.fill
theorem upd_fill {n : Nat} {a : Nat → Int32} {v : Int32} (i : Nat) : upd (fun j => if j < i then v else a j) i v = fun j => if j < i + 1 then v else a j := by
  funext j
  simp only [upd]
  by_cases h1 : j = i
  · rw [if_pos h1, if_pos (by omega)]
  · rw [if_neg h1]
    by_cases h2 : j < i
    · rw [if_pos h2, if_pos (by omega)]
    · rw [if_neg h2, if_neg (by omega)]
theorem updL_fill {n : Nat} {a : Nat → Int64} {v : Int64} (i : Nat) : vp_updL (fun j => if j < i then v else a j) i v = fun j => if j < i + 1 then v else a j := by
  funext j
  simp only [vp_updL]
  by_cases h1 : j = i
  · rw [if_pos h1, if_pos (by omega)]
  · rw [if_neg h1]
    by_cases h2 : j < i
    · rw [if_pos h2, if_pos (by omega)]
    · rw [if_neg h2, if_neg (by omega)]
theorem fill_ok {n : Nat} (hn : n < 2000) (a : Nat → Int32) (v : Int32) : t_J7_fill_53178 n a v = some (fun j => if j < n then v else a j) := by
  apply Ok.to
  unfold t_J7_fill_53178
  refine lr_J7_fill_53178_5 _ (fun i p x1 x2 x3 => x1 = v ∧ x2 = nI i ∧ x3 = nI n ∧ p = (fun j => if j < i then v else a j)) n ?_ ?_ lfuel 0 _ _ _ _ (Nat.zero_le _) (by unfold lfuel; omega) ?_
  · rintro kk i p x1 x2 x3 hi ⟨e1, e2, e3, e4⟩ hk
    subst e1 e2 e3 e4
    unfold t_J7_fill_53178_5_b
    refine Ok.neg (nI_ge hi (by omega)) (Ok.ck (nI_in hi (by omega)) ?_)
    rw [nI_clamp (by omega), nI_1]
    exact hk _ _ _ _ ⟨rfl, rfl, rfl, upd_fill (n := n) i⟩
  · rintro kk p x1 x2 x3 ⟨e1, e2, e3, e4⟩
    subst e1 e2 e3 e4
    unfold t_J7_fill_53178_5_b
    exact Ok.pos (nI_le (Nat.le_refl _) (by omega)) (Ok.ret rfl)
  · exact ⟨rfl, nI_0.symm, rfl, by funext j; simp⟩
theorem fillL_ok {n : Nat} (hn : n < 2000) (a : Nat → Int64) (v : Int64) : t_J7_fill_d0a16 n a v = some (fun j => if j < n then v else a j) := by
  apply Ok.to
  unfold t_J7_fill_d0a16
  refine lr_J7_fill_d0a16_6 _ (fun i p x1 x2 x3 => x1 = v ∧ x2 = nI i ∧ x3 = nI n ∧ p = (fun j => if j < i then v else a j)) n ?_ ?_ lfuel 0 _ _ _ _ (Nat.zero_le _) (by unfold lfuel; omega) ?_
  · rintro kk i p x1 x2 x3 hi ⟨e1, e2, e3, e4⟩ hk
    subst e1 e2 e3 e4
    unfold t_J7_fill_d0a16_6_b
    refine Ok.neg (nI_ge hi (by omega)) (Ok.ck (nI_in hi (by omega)) ?_)
    rw [nI_clamp (by omega), nI_1]
    exact hk _ _ _ _ ⟨rfl, rfl, rfl, updL_fill (n := n) i⟩
  · rintro kk p x1 x2 x3 ⟨e1, e2, e3, e4⟩
    subst e1 e2 e3 e4
    unfold t_J7_fill_d0a16_6_b
    exact Ok.pos (nI_le (Nat.le_refl _) (by omega)) (Ok.ret rfl)
  · exact ⟨rfl, nI_0.symm, rfl, by funext j; simp⟩
-- makers
theorem RA_inj {U : State} {a b : ClassId} {ety : FieldType} (h1 : va_RA U a ety) (h2 : va_RA U b ety) : a = b := by
  cases ety with
  | object C =>
    obtain ⟨_, _, _, _, _, e1⟩ := h1
    obtain ⟨_, _, _, _, _, e2⟩ := h2
    exact Option.some.inj (e1.symm.trans e2)
  | _ =>
    have e1 : U.vm.findClass _ = some a := h1
    have e2 : U.vm.findClass _ = some b := h2
    exact Option.some.inj (e1.symm.trans e2)
def Ck (l : Launch) (y : MethodName) (W : List Cond) (rm : Room) (D : va_G) (ty : List (ClassId × FieldType)) (av : List Value) (ws : va_W) (w1 : (Nat → Nat → Nat) → va_W) (mc ms : Nat) : Prop := ∀ sz : Nat, Met l y W rm (Pre D ty ws av sz) (va_Qv (fun (_ : Nat → Nat → Nat) => True) (fun u t => va_P D vwCl (w1 u) t.heap ∧ va_D (va_A ws sz) (w1 u)) (va_A ws sz)) mc ms (va_A ws sz)
def QK (D : va_G) (below : List Frame) (args : Array Value) (s : State) (A : Nat → Prop) (w1 : (Nat → Nat → Nat) → va_W) (mc ms : Nat) : State → Prop := MQ below (va_Qv (fun (_ : Nat → Nat → Nat) => True) (fun u t => va_P D vwCl (w1 u) t.heap ∧ va_D A (w1 u)) A) args s mc ms A
section JK
variable {p : Program} {l : Launch} {e : Env} {R : Room} {s : State} {m : MethodId} {args : Array Value} {below : List Frame} {meth : Method} {c : Code} {D : va_G} {A : Nat → Prop} {nL : Nat} {Q : State → Prop} {k n : Nat}
variable {cc : ByteArray} {Ts : List Cond} {own : String} {ty : List (ClassId × FieldType)} {ret : Option FieldType} {ws ws' : va_W} {lv lv' : List (Nat × Value)} {st : List Value} {pc : Nat}
theorem J_ws (h : ws = ws') (kk : J p l e R s m args below meth c D A nL Q k n ws' lv st pc) : J p l e R s m args below meth c D A nL Q k n ws lv st pc := by
  subst h; exact kk
theorem J_newa {atype : ArrayType} {ety : FieldType} {cA : ClassId} {N' : Nat} {a0 : vp_A} {v : Int32} (X : Cx p m c cc nL s args Ts own D ty meth ret) (harr : Cond.arrayClass (newarray.typeOf atype) ∈ Ts) (hty : newarray.typeOf atype = ety) (t0 : Nat) (ht : ty[t0]? = some (cA, ety)) (ha : ∀ cA : ClassId, vp_cell cA a0 = arrV cA N' (fun _ => defaultValue ety)) (hn : ¬ v < 0) (hN : v.toNatClampNeg = N') (hbytes : N' * componentBytes ety ≤ 536870912) (hc : k + 1 ≤ R.cells) (hs : n + N' ≤ R.slots) (hd : decode cc pc = .ok (.newarray atype, 2)) (kk : ∀ q : Nat, J p l e R s m args below meth c D A nL Q (k + 1) (n + N') (ws ++ [(q, .inl (cA, a0))]) lv (.ref q :: st) (pc + 2)) : J p l e R s m args below meth c D A nL Q k n ws lv (.int v :: st) pc := by
  intro H locs ls h1 h2 h3 h4 h5
  refine va_newa X.1.1 X.1.2.1 (X.1.2.2.2.2 _ harr) hty X.2.1.1 h2 h3 h4 h5 ha hn hN hbytes hc hs hd (fun q cB H1 hK' hP' hD' hS' => ?_)
  have e : cB = cA := RA_inj ((hK'.2 ty.length (cB, ety) (by simp)).2) ((X.2.1.1.2 t0 _ ht).2)
  subst e
  exact kk q H1 locs ls h1 hP' hD' hS' h5
theorem J_new {C : String} {T : u_T} {N ci index : Nat} {fs : List Value} (X : Cx p m c cc nL s args Ts own D ty meth ret) (hin : ∀ w ∈ u_ws C T N, w ∈ Ts) (tyF : Nat → FieldType) (hty : ∀ k, k < N → parseFieldDescriptor (T k).2.2.1 = some (tyF k)) (hcl : Cond.classLink own index C ∈ Ts) (hinst : Cond.instantiable C N ∈ Ts) (hini : Cond.initialized C ∈ Ts) (hc : vwCl[ci]? = some (C, T, N)) (hfs : ∀ j, j < N → defaultValue (tyF j) = vp_V fs j) (hcells : k + 1 ≤ R.cells) (hslots : n + N ≤ R.slots) (hd : decode cc pc = .ok (.new index, 3)) (kk : ∀ q : Nat, J p l e R s m args below meth c D A nL Q (k + 1) (n + N) (ws ++ [(q, .inr (ci, fs))]) lv (.ref q :: st) (pc + 3)) : J p l e R s m args below meth c D A nL Q k n ws lv st pc := by
  intro H locs ls h1 h2 h3 h4 h5
  exact va_new X.1.1 X.1.2.1 X.1.2.2.2.2 hin tyF hty X.1.2.2.2.1 (X.1.2.2.2.2 _ hcl) (X.1.2.2.2.2 _ hinst) (X.1.2.2.2.2 _ hini) X.2.1.1 h2 h3 h4 h5 hc hfs hcells hslots hd (fun q H1 hP' hD' hS' => kk q H1 locs ls h1 hP' hD' hS' h5)
theorem J_putF {C : String} {T : u_T} {N ci : Nat} {a : Nat} {fs : List Value} {v : Value} {index : Nat} (X : Cx p m c cc nL s args Ts own D ty meth ret) (hnm2 : meth.name = "<init>") (hin : ∀ w ∈ u_ws C T N, w ∈ Ts) (q0 : Nat) (he : ws[q0]? = some (a, .inr (ci, fs))) (hc : vwCl[ci]? = some (C, T, N)) (j : Nat) (hk : j < N) (ty0 : Nat → FieldType) (hty : ∀ k, k < N → parseFieldDescriptor (T k).2.2.1 = some (ty0 k)) (hnm : ∀ a, a < N → ∀ b, b < N → a ≠ b → (T a).2.1 ≠ (T b).2.1) (hlink : Cond.fieldLink own index (T j).1 (T j).2.1 (T j).2.2.1 ∈ Ts) (hfin : (T j).2.2.2 = true) (hdecl : (T j).1 = own) (hn : narrow (ty0 j) v = v) (hfit : fits (ty0 j) v = true) (hl : j < fs.length) (hs : ws.set q0 (a, .inr (ci, fs.set j v)) = ws') (hd : decode cc pc = .ok (.putfield index, 3)) (kk : J p l e R s m args below meth c D A nL Q k n ws' lv st (pc + 3)) : J p l e R s m args below meth c D A nL Q k n ws lv (v :: .ref a :: st) pc := by
  subst hs
  exact fun H locs ls h1 h2 h3 h4 h5 => va_putF X.1.1 X.1.2.1 X.1.2.2.2.2 hin ty0 hty hnm X.1.2.2.2.1 X.2.1.1 h2 h3 h4 q0 he hc j hk (X.1.2.2.2.2 _ hlink) (fun _ h9 => h9) hfin hnm2 hdecl (hty j hk) hn hfit hl hd (fun H1 locs1 q1 q2 q3 => kk H1 locs1 ls h1 q1 q2 q3 h5)
theorem J_objInit {idx a : Nat} (X : Cx p m c cc nL s args Ts own D ty meth ret) (g1 : Cond.methodLink own idx objectInit ∈ Ts) (g2 : Cond.instanceMethod objectInit ∈ Ts) (g3 : Cond.code objectInit ⟨#[0xb1]⟩ 1 none ∈ Ts) (hd : decode cc pc = .ok (.invokespecial idx, 3)) (hf : 1 ≤ R.frames) (hl : (st.map fun v => v.category).sum + 12 ≤ R.locals) (kk : J p l e R s m args below meth c D A nL Q k n ws lv st (pc + 3)) : J p l e R s m args below meth c D A nL Q k n ws lv (.ref a :: st) pc := fun H locs ls h1 h2 h3 h4 h5 =>
  W.objInit X.1.1 X.1.2.1 X.1.2.2.2.1 (X.1.2.2.2.2 _ g1) (X.1.2.2.2.2 _ g2) (X.1.2.2.2.2 _ g3) (g := F0 m pc ls (.ref a :: st)) rfl (by rw [X.1.2.2.1]; exact h1.1) rfl hd hf (by show 2 * 0 + _ + 12 ≤ _; omega) (kk H locs ls h1 h2 h3 h4 h5)
theorem run_I {y : MethodName} {bytes : ByteArray} {maxL nP index mc ms : Nat} {W' : List Cond} {rm' : Room} {wc : va_W} {Qc : Nat → Array Value → State → Outcome → State → Prop} {b : Nat} {As rest : List Value} (X : Cx p m c cc nL s args Ts own D ty meth ret) (hM : ∀ sz : Nat, Met l y W' rm' (Pre D ty wc (.ref b :: As) sz) (Qc sz) mc ms (va_A wc sz)) (cw : CallB R s args own index y bytes maxL none W' rm' mc ms nP ∧ y.name = "<init>" ∧ (Cond.instanceMethod y).before args s = true) (hn : As.length = nP) (hst : st = As.reverse ++ .ref b :: rest) (hW : (rest.map fun v => v.category).sum ≤ 8) (hd : decode cc pc = .ok (.invokespecial index, 3)) (hf : k + mc ≤ R.cells ∧ n + ms ≤ R.slots) :
    ∀ (H : Heap) (locs : List Loc) (ls : Array Slot), lv_has ls nL lv → va_P D vwCl wc H → va_D (fun _ => True) wc → va_Run p l e R s m args below meth c H locs k n mc ms (F0 m pc ls st) rest (Qc H.size (Value.ref b :: As).toArray) (va_A wc H.size) := fun H locs ls h1 hP hD =>
  va_runI X.1 (hM H.size) cw ⟨Pre.blind, fun U hU hWm => ⟨rfl, by rw [hU], by rw [hU]; exact hP, X.2.1.warm hWm, hD⟩⟩ rfl hn h1.1 hst (lv_room hW) hd hf
theorem run_IN {y : MethodName} {bytes : ByteArray} {maxL nP index mc ms : Nat} {host : String} {W' : List Cond} {rm' : Room} {wc : va_W} {Qc : Nat → Array Value → State → Outcome → State → Prop} {b : Nat} {As rest : List Value} (X : Cx p m c cc nL s args Ts own D ty meth ret) (hM : ∀ sz : Nat, Met l y W' rm' (Pre D ty wc (.ref b :: As) sz) (Qc sz) mc ms (va_A wc sz)) (cw : va_CN R s args own index y host bytes maxL none W' rm' mc ms nP ∧ y.name = "<init>" ∧ (Cond.instanceMethod y).before args s = true) (hn : As.length = nP) (hst : st = As.reverse ++ .ref b :: rest) (hW : (rest.map fun v => v.category).sum ≤ 8) (hd : decode cc pc = .ok (.invokespecial index, 3)) (hf : k + mc ≤ R.cells ∧ n + ms ≤ R.slots) :
    ∀ (H : Heap) (locs : List Loc) (ls : Array Slot), lv_has ls nL lv → va_P D vwCl wc H → va_D (fun _ => True) wc → va_Run p l e R s m args below meth c H locs k n mc ms (F0 m pc ls st) rest (Qc H.size (Value.ref b :: As).toArray) (va_A wc H.size) := fun H locs ls h1 hP hD =>
  va_runIN X.1 (hM H.size) cw ⟨Pre.blind, fun U hU hWm => ⟨rfl, by rw [hU], by rw [hU]; exact hP, X.2.1.warm hWm, hD⟩⟩ rfl hn h1.1 hst (lv_room hW) hd hf
theorem J_ck {wc wr : va_W} {w1 : (Nat → Nat → Nat) → va_W} {mc ms : Nat} {rest : List Value} {a : Array Value} (isC isR : List Nat) (hC : isC.map (fun i => ws[i]?) = wc.map some) (hn : va_nd isC = true) (hR : isR.map (fun i => ws[i]?) = wr.map some) (hnR : va_nd isR = true) (hdis : ∀ i ∈ isR, i ∉ isC) (hrun : ∀ (H : Heap) (locs : List Loc) (ls : Array Slot), lv_has ls nL lv → va_P D vwCl wc H → va_D (fun _ => True) wc → va_Run p l e R s m args below meth c H locs k n mc ms (F0 m pc ls st) rest (va_Qv (fun (_ : Nat → Nat → Nat) => True) (fun u t => va_P D vwCl (w1 u) t.heap ∧ va_D (va_A wc H.size) (w1 u)) (va_A wc H.size) a) (va_A wc H.size)) (kk : ∀ u : Nat → Nat → Nat, J p l e R s m args below meth c D A nL Q (k + mc) (n + ms) (wr ++ w1 u) lv rest (pc + 3)) : J p l e R s m args below meth c D A nL Q k n ws lv st pc := by
  intro H locs ls h1 h2 h3 h4 h5
  have hPc := va_Psub h2 isC hC
  have hDc := (h3.sub isC hn hC).weaken (B := fun _ => True) (fun _ _ _ _ => trivial)
  have hFc := va_free h3 h4 h5 isC hC
  refine va_callv (hrun H locs ls h1 hPc hDc) h4 (fun q _ h => hFc q h) hFc (fun u t H1 locs1 ht hvm hw hB hz1 hk1 hS => ?_)
  obtain ⟨hB1, hB2⟩ := hB
  rw [ht] at hB1
  obtain ⟨hP, hD⟩ := va_join h2 h3 isC isR hC hR hnR hdis hk1 hFc hB1 hB2
  exact kk u H1 locs1 ls h1 hP hD hS h5
theorem J_kret {w1 : (Nat → Nat → Nat) → va_W} (X : Cx p m c cc nL s args Ts own D ty meth none) (u : Nat → Nat → Nat) (hws : ws = w1 u) (hd : decode cc pc = .ok (.return_, 1)) : J p l e R s m args below meth c D A nL (QK D below args s A w1 k n) k n ws lv [] pc := by
  subst hws
  exact fun H locs ls h1 h2 h3 h4 h5 => W.vret X.1.1 X.1.2.1 X.2.2.1 (fun t ht hW => ⟨⟨u, rfl, trivial, show va_P D vwCl (w1 u) t.heap by rw [ht]; exact h2, h3⟩, h4.F ht⟩) h4.2.2 hd X.2.2.2
end JK
theorem Ck.ofJ {l : Launch} {y : MethodName} {W W' : List Cond} {rm : Room} {D : va_G} {ty : List (ClassId × FieldType)} {av : List Value} {ws : va_W} {w1 : (Nat → Nat → Nat) → va_W} {mc ms : Nat} {cc : ByteArray} {nL : Nat} {rt : Option FieldType} {own : String} (hy : plainName y.cls = true) (hw : W = Cond.code y cc nL rt :: W') (ho : y.cls = own) (hyn : y.name = "<init>") (hn : (lg_sl av).length ≤ nL) (body : ∀ (p : Program) (e : Env) (s : State) (m : MethodId) (below : List Frame) (meth : Method) (c : Code) (A : Nat → Prop), Cx p m c cc nL s av.toArray W own D ty meth rt → meth.name = "<init>" → J p l e rm s m av.toArray below meth c D A nL (QK D below av.toArray s A w1 mc ms) 0 0 ws (lv_args 0 av) [] 0) : Ck l y W rm D ty av ws w1 mc ms := by
  intro sz
  refine Met.ofW (cc := cc) (maxL := nL) (ret := rt) hy hw ?_
  intro p e s m args below meth c s₁ B hml hv
  obtain ⟨rfl, hsz, hP, hK, hD0⟩ := hv
  subst hsz
  rw [lg_entry_eq]
  exact body p e s m below meth c (va_A ws s.heap.size) ⟨⟨B.exec, B.bytes, hml, by rw [← ho]; exact findClass_of_methodNamed B.named, atoms_spec (ws := W) B.pre⟩, hK, B.returns, B.notSynchronized⟩ (by rw [(name_of_methodNamed B.named B.method).1]; exact hyn) s.heap [] _ (lv_entry av hn) hP (hD0.self (sz := s.heap.size)) va_S.rf (fun q h => Or.inr h)
