-- the words on nest mates, as one list, and what every method knows of a state
def nwAll : List Cond := [.fieldLinkNest "SoldMatches$Links" 23 "SoldMatches$Games" "count" "I" "SoldMatches", .fieldLinkNest "SoldMatches$Ranks" 29 "SoldMatches$Games" "count" "I" "SoldMatches", .fieldLinkNest "SoldMatches$Purse" 42 "SoldMatches$Games" "count" "I" "SoldMatches", .fieldLinkNest "SoldMatches" 87 "SoldMatches$Games" "count" "I" "SoldMatches", .fieldLinkNest "SoldMatches" 148 "SoldMatches$Games" "base" "I" "SoldMatches", .fieldLinkNest "SoldMatches" 80 "SoldMatches$Games" "skills" "[I" "SoldMatches", .fieldLinkNest "SoldMatches$Ranks" 38 "SoldMatches$Games" "home" "[I" "SoldMatches", .fieldLinkNest "SoldMatches" 102 "SoldMatches$Games" "home" "[I" "SoldMatches", .fieldLinkNest "SoldMatches$Ranks" 45 "SoldMatches$Games" "guest" "[I" "SoldMatches", .fieldLinkNest "SoldMatches" 105 "SoldMatches$Games" "guest" "[I" "SoldMatches", .fieldLinkNest "SoldMatches$Links" 40 "SoldMatches$Games" "referee" "[I" "SoldMatches", .fieldLinkNest "SoldMatches" 108 "SoldMatches$Games" "referee" "[I" "SoldMatches", .fieldLinkNest "SoldMatches" 118 "SoldMatches$Games" "hour" "[I" "SoldMatches", .fieldLinkNest "SoldMatches$Purse" 54 "SoldMatches$Games" "fee" "[I" "SoldMatches", .fieldLinkNest "SoldMatches" 121 "SoldMatches$Games" "fee" "[I" "SoldMatches", .fieldLinkNest "SoldMatches" 99 "SoldMatches$Games" "goals" "[I" "SoldMatches", .fieldLinkNest "SoldMatches$Bets" 56 "SoldMatches$Games" "prices" "[I" "SoldMatches", .fieldLinkNest "SoldMatches" 167 "SoldMatches$Games" "prices" "[I" "SoldMatches", .fieldLinkNest "SoldMatches" 132 "SoldMatches$Games" "odds" "LSoldMatches$Odds;" "SoldMatches", .fieldLinkNest "SoldMatches$Purse" 51 "SoldMatches$Games" "topLean" "I" "SoldMatches", .fieldLinkNest "SoldMatches" 178 "SoldMatches$Games" "topLean" "I" "SoldMatches", .fieldLinkNest "SoldMatches" 181 "SoldMatches$Games" "topSpot" "I" "SoldMatches", .fieldLinkNest "SoldMatches$Rumour" 51 "SoldMatches$Bets" "count" "I" "SoldMatches", .fieldLinkNest "SoldMatches" 187 "SoldMatches$Bets" "count" "I" "SoldMatches", .fieldLinkNest "SoldMatches" 151 "SoldMatches$Bets" "near" "I" "SoldMatches", .fieldLinkNest "SoldMatches" 154 "SoldMatches$Bets" "times" "I" "SoldMatches", .fieldLinkNest "SoldMatches" 157 "SoldMatches$Bets" "ties" "I" "SoldMatches", .fieldLinkNest "SoldMatches$Rumour" 54 "SoldMatches$Bets" "hand" "[I" "SoldMatches", .fieldLinkNest "SoldMatches$Rumour" 60 "SoldMatches$Bets" "match" "[I" "SoldMatches", .fieldLinkNest "SoldMatches$Rumour" 57 "SoldMatches$Bets" "minute" "[I" "SoldMatches", .fieldLinkNest "SoldMatches$Links" 43 "SoldMatches$Bets" "groups" "[I" "SoldMatches", .fieldLinkNest "SoldMatches" 206 "SoldMatches$Bets" "groups" "[I" "SoldMatches", .fieldLinkNest "SoldMatches" 215 "SoldMatches$Rumour" "count" "I" "SoldMatches", .fieldLinkNest "SoldMatches" 221 "SoldMatches$Rumour" "known" "[I" "SoldMatches", .fieldLinkNest "SoldMatches" 224 "SoldMatches$Rumour" "owner" "[I" "SoldMatches", .fieldLinkNest "SoldMatches" 227 "SoldMatches$Rumour" "first" "I" "SoldMatches", .fieldLinkNest "SoldMatches" 230 "SoldMatches$Rumour" "since" "I" "SoldMatches", .fieldLinkNest "SoldMatches" 243 "SoldMatches$Squad" "moves" "[I" "SoldMatches", .fieldLinkNest "SoldMatches" 246 "SoldMatches$Squad" "lateMoves" "[I" "SoldMatches", .fieldLinkNest "SoldMatches" 255 "SoldMatches$Squad" "debts" "[I" "SoldMatches", .fieldLinkNest "SoldMatches" 258 "SoldMatches$Squad" "acts" "I" "SoldMatches", .fieldLinkNest "SoldMatches" 254 "SoldMatches$Squad" "odds" "LSoldMatches$Odds;" "SoldMatches", .fieldLinkNest "SoldMatches" 283 "SoldMatches$Links" "rows" "[I" "SoldMatches", .fieldLinkNest "SoldMatches" 289 "SoldMatches$Tales" "count" "I" "SoldMatches", .fieldLinkNest "SoldMatches" 296 "SoldMatches$Tales" "fewest" "I" "SoldMatches", .fieldLinkNest "SoldMatches" 304 "SoldMatches$Tales" "sure" "I" "SoldMatches", .fieldLinkNest "SoldMatches" 160 "SoldMatches$Ranks" "down" "I" "SoldMatches", .fieldLinkNest "SoldMatches" 314 "SoldMatches$Ranks" "size" "I" "SoldMatches", .fieldLinkNest "SoldMatches" 307 "SoldMatches$Ranks" "taken" "[I" "SoldMatches", .fieldLinkNest "SoldMatches" 324 "SoldMatches$Ranks" "points" "[I" "SoldMatches", .fieldLinkNest "SoldMatches" 327 "SoldMatches$Ranks" "balance" "[I" "SoldMatches", .fieldLinkNest "SoldMatches" 320 "SoldMatches$Ranks" "plays" "[Z" "SoldMatches", .fieldLinkNest "SoldMatches" 336 "SoldMatches$Clause" "count" "I" "SoldMatches", .fieldLinkNest "SoldMatches" 357 "SoldMatches$Purse" "bestSet" "I" "SoldMatches", .fieldLinkNest "SoldMatches" 360 "SoldMatches$Purse" "bestSum" "I" "SoldMatches", .methodLinkNest "SoldMatches$Games" 42 ⟨"SoldMatches$Odds", "<init>", "()V"⟩ "SoldMatches", .methodLinkNest "SoldMatches" 18 ⟨"SoldMatches$Bets", "<init>", "()V"⟩ "SoldMatches", .methodLinkNest "SoldMatches" 32 ⟨"SoldMatches$Squad", "<init>", "()V"⟩ "SoldMatches", .methodLinkNest "SoldMatches$Squad" 29 ⟨"SoldMatches$Odds", "<init>", "()V"⟩ "SoldMatches", .methodLinkNest "SoldMatches" 39 ⟨"SoldMatches$Links", "<init>", "()V"⟩ "SoldMatches", .methodLinkNest "SoldMatches" 46 ⟨"SoldMatches$Tales", "<init>", "()V"⟩ "SoldMatches", .methodLinkNest "SoldMatches" 53 ⟨"SoldMatches$Ranks", "<init>", "()V"⟩ "SoldMatches", .methodLinkNest "SoldMatches" 60 ⟨"SoldMatches$Clause", "<init>", "()V"⟩ "SoldMatches", .methodLinkNest "SoldMatches" 67 ⟨"SoldMatches$Purse", "<init>", "()V"⟩ "SoldMatches", .methodLinkNest "SoldMatches$Bets" 86 ⟨"SoldMatches", "closeOver", "([II)V"⟩ "SoldMatches", .methodLinkNest "SoldMatches$Links" 46 ⟨"SoldMatches", "closeOver", "([II)V"⟩ "SoldMatches", .methodLinkNest "SoldMatches$Ranks" 51 ⟨"SoldMatches", "asNumber", "(Z)I"⟩ "SoldMatches"]
def isNest (w : Cond) : Bool := match w with
  | .fieldLinkNest _ _ _ _ _ _ => true
  | .methodLinkNest _ _ _ _ => true
  | _ => false
theorem nw_nest : ∀ w ∈ nwAll, isNest w = true := by decide +kernel
theorem nw_tbl : ∀ w ∈ nwAll, w ∈ lw_tbl := by decide +kernel
def NW (U : State) : Prop := ∀ w ∈ nwAll, va_Nw w U
theorem NW.warm {s U : State} (hW : s.WarmedH U.vm) (h : NW s) : NW U := by
  intro w hw
  have h1 := nw_nest w hw
  have h2 := h w hw
  cases w <;> first | (simp [isNest] at h1; done) | exact va_Nw.warmF hW h2 | exact va_Nw.warmM hW h2
theorem NW.same {u U : State} (h : u.vm = U.vm) (hN : NW u) : NW U := by
  intro w hw
  have h1 := nw_nest w hw
  have h2 := hN w hw
  cases w <;> first | (simp [isNest] at h1; done) | exact va_Nw.same rfl h h2
abbrev tys3 (cI cJ cZ : ClassId) : List (ClassId × FieldType) := [(cI, .int), (cJ, .long), (cZ, .boolean)]
def GK (D : va_G) (ty : List (ClassId × FieldType)) (U : State) : Prop := va_K D vwCl ty U ∧ NW U
theorem GK.warm {D : va_G} {ty : List (ClassId × FieldType)} {s U : State} (hW : s.WarmedH U.vm) (h : GK D ty s) : GK D ty U := ⟨va_K.moved hW.alike h.1, h.2.warm hW⟩
theorem GK.calling {D : va_G} {ty : List (ClassId × FieldType)} {U : State} {g : JFrame} {mk : MethodId} {a : Array Value} (h : GK D ty U) : GK D ty (U.calling g mk a) := ⟨va_K.moved (u := U) (U := U.calling g mk a) (Vm.Alike.refl U.vm) h.1, NW.same (u := U) (U := U.calling g mk a) rfl h.2⟩
-- contracts
def Pre (D : va_G) (ty : List (ClassId × FieldType)) (ws : va_W) (av : List Value) (sz : Nat) : Array Value → State → Prop := va_Pc av (fun U => U.heap.size = sz ∧ va_P D vwCl ws U.heap ∧ GK D ty U ∧ va_D (fun _ => True) ws)
theorem Pre.blind {D : va_G} {ty : List (ClassId × FieldType)} {ws : va_W} {av : List Value} {sz : Nat} : FrameBlind (Pre D ty ws av sz) := fun a U g mk q => by
  obtain ⟨q0, q1, qP, qK, qD⟩ := q
  exact ⟨q0, q1, qP, qK.calling, qD⟩
def Ci (l : Launch) (y : MethodName) (W : List Cond) (rm : Room) (D : va_G) (ty : List (ClassId × FieldType)) (av : List Value) (ws : va_W) (r : Int32) (ws' : va_W) : Prop := ∀ sz : Nat, Met l y W rm (Pre D ty ws av sz) (va_Qi (fun r2 (_ : Unit) => r2 = r) (fun _ t => va_P D vwCl ws' t.heap) (va_A ws sz)) 0 0 (va_A ws sz)
def Cl (l : Launch) (y : MethodName) (W : List Cond) (rm : Room) (D : va_G) (ty : List (ClassId × FieldType)) (av : List Value) (ws : va_W) (r : Int64) (ws' : va_W) : Prop := ∀ sz : Nat, Met l y W rm (Pre D ty ws av sz) (va_Ql (fun r2 (_ : Unit) => r2 = r) (fun _ t => va_P D vwCl ws' t.heap) (va_A ws sz)) 0 0 (va_A ws sz)
def Cv (l : Launch) (y : MethodName) (W : List Cond) (rm : Room) (D : va_G) (ty : List (ClassId × FieldType)) (av : List Value) (ws : va_W) (ws' : va_W) : Prop := ∀ sz : Nat, Met l y W rm (Pre D ty ws av sz) (va_Qv (fun (_ : Unit) => True) (fun _ t => va_P D vwCl ws' t.heap) (va_A ws sz)) 0 0 (va_A ws sz)
-- the ends
def QI (D : va_G) (below : List Frame) (args : Array Value) (s : State) (A : Nat → Prop) (r : Int32) (ws' : va_W) : State → Prop := MQ below (va_Qi (fun r2 (_ : Unit) => r2 = r) (fun _ t => va_P D vwCl ws' t.heap) A) args s 0 0 A
def QL (D : va_G) (below : List Frame) (args : Array Value) (s : State) (A : Nat → Prop) (r : Int64) (ws' : va_W) : State → Prop := MQ below (va_Ql (fun r2 (_ : Unit) => r2 = r) (fun _ t => va_P D vwCl ws' t.heap) A) args s 0 0 A
def QV (D : va_G) (below : List Frame) (args : Array Value) (s : State) (A : Nat → Prop) (ws' : va_W) : State → Prop := MQ below (va_Qv (fun (_ : Unit) => True) (fun _ t => va_P D vwCl ws' t.heap) A) args s 0 0 A
-- what a method's walk stands on
def Cx (p : Program) (m : MethodId) (c : Code) (cc : ByteArray) (nL : Nat) (s : State) (args : Array Value) (Ts : List Cond) (own : String) (D : va_G) (ty : List (ClassId × FieldType)) (meth : Method) (ret : Option FieldType) : Prop := CallFix p m c cc nL s args Ts own ∧ GK D ty s ∧ meth.sig.returnType = ret ∧ meth.locks = false
-- the judgement: locals, stack and cells as lists
def J (p : Program) (l : Launch) (e : Env) (R : Room) (s : State) (m : MethodId) (args : Array Value) (below : List Frame) (meth : Method) (c : Code) (D : va_G) (A : Nat → Prop) (nL : Nat) (Q : State → Prop) (k n : Nat) (ws : va_W) (lv : List (Nat × Value)) (st : List Value) (pc : Nat) : Prop :=
  ∀ (H : Heap) (locs : List Loc) (ls : Array Slot), lv_has ls nL lv → va_P D vwCl ws H → va_D A ws → va_S A s.heap H locs → (∀ q : Nat, s.heap.size ≤ q → A q) → W p l e R s m args below meth c H locs k n Q (F0 m pc ls st)
def pick : List Bool → va_W → va_W
  | true :: m, x :: xs => x :: pick m xs
  | false :: m, _ :: xs => pick m xs
  | _, _ => []
def idxs : List Bool → Nat → List Nat
  | true :: m, k => k :: idxs m (k + 1)
  | false :: m, k => idxs m (k + 1)
  | [], _ => []
theorem pick_C0 : ∀ (bm : List Bool) (pre ws : va_W), bm.length = ws.length → (idxs bm pre.length).map (fun i => (pre ++ ws)[i]?) = (pick bm ws).map some
  | [], pre, ws, h => by
    cases ws with
    | nil => simp [idxs, pick]
    | cons x xs => simp at h
  | b :: bm, pre, [], h => by simp at h
  | b :: bm, pre, x :: xs, h => by
    have ih := pick_C0 bm (pre ++ [x]) xs (by simpa using h)
    rw [List.append_assoc, List.singleton_append, List.length_append, List.length_singleton] at ih
    cases b with
    | false => simpa [idxs, pick] using ih
    | true => simp [idxs, pick, ih]
theorem pick_C {ws wc : va_W} (bm : List Bool) (hl : bm.length = ws.length) (h : pick bm ws = wc) : (idxs bm 0).map (fun i => ws[i]?) = wc.map some := by
  have := pick_C0 bm [] ws hl
  rw [h] at this
  simpa using this
theorem pick_R {ws ws' : va_W} (bm : List Bool) (hl : bm.length = ws.length) (hl' : bm.length = ws'.length) (h : pick bm ws' = pick bm ws) : (idxs bm 0).map (fun i => ws'[i]?) = (idxs bm 0).map (fun i => ws[i]?) := by
  rw [pick_C bm hl' h, pick_C bm hl rfl]
def covn (isC isR : List Nat) (n : Nat) : Bool := (List.range n).all (fun k => isC.contains k || isR.contains k)
theorem va_Psub {D : va_G} {cl : List vw_C} {ws wc : va_W} {H : Heap} (h : va_P D cl ws H) (isC : List Nat) (hC : isC.map (fun i => ws[i]?) = wc.map some) : va_P D cl wc H := by
  intro k q hq
  have h1 : (isC.map (fun i => ws[i]?))[k]? = some (some q) := by rw [hC, List.getElem?_map, hq]; rfl
  rw [List.getElem?_map] at h1
  cases hi : isC[k]? with
  | none => rw [hi] at h1; cases h1
  | some i => rw [hi] at h1; exact h i q (Option.some.inj h1)
theorem isC_at {ws wc : va_W} {isC : List Nat} (hC : isC.map (fun i => ws[i]?) = wc.map some) {j : Nat} {q : Nat × va_E} (h : wc[j]? = some q) : ∃ i, isC[j]? = some i ∧ ws[i]? = some q := by
  have h1 : (isC.map (fun i => ws[i]?))[j]? = some (some q) := by rw [hC, List.getElem?_map, h]; rfl
  rw [List.getElem?_map] at h1
  cases hi : isC[j]? with
  | none => rw [hi] at h1; cases h1
  | some i => rw [hi] at h1; exact ⟨i, rfl, Option.some.inj h1⟩
theorem isC_of {ws wc : va_W} {isC : List Nat} (hC : isC.map (fun i => ws[i]?) = wc.map some) {j i : Nat} (h : isC[j]? = some i) : ∃ q, wc[j]? = some q ∧ ws[i]? = some q := by
  have h1 : (wc.map some)[j]? = some (ws[i]?) := by rw [← hC, List.getElem?_map, h]; rfl
  rw [List.getElem?_map] at h1
  cases hw : wc[j]? with
  | none => rw [hw] at h1; cases h1
  | some q => rw [hw] at h1; exact ⟨q, rfl, (Option.some.inj h1).symm⟩
theorem repl_X {ws ws' wc' : va_W} (isC isR : List Nat) (n0 : Nat) (hn1 : ws'.length = n0) (hcov : covn isC isR n0 = true) (hC' : isC.map (fun i => ws'[i]?) = wc'.map some) (hR : isR.map (fun i => ws'[i]?) = isR.map (fun i => ws[i]?)) : ∀ (k : Nat) (q : Nat × va_E), ws'[k]? = some q → (∃ j : Nat, isC[j]? = some k ∧ wc'[j]? = some q) ∨ (k ∉ isC ∧ ws[k]? = some q) := by
  intro k q hq
  have hk : k < n0 := by rw [← hn1]; exact (List.getElem?_eq_some_iff.mp hq).1
  by_cases hm : k ∈ isC
  · obtain ⟨j, hj⟩ := List.getElem?_of_mem hm
    obtain ⟨q2, h1, h2⟩ := isC_of hC' hj
    rw [hq] at h2
    cases h2
    exact Or.inl ⟨j, hj, h1⟩
  · right
    refine ⟨hm, ?_⟩
    have h1 := List.all_eq_true.mp hcov k (List.mem_range.mpr hk)
    simp only [Bool.or_eq_true, List.contains_iff_mem] at h1
    rcases h1 with h1 | h1
    · exact absurd h1 hm
    · obtain ⟨j, hj⟩ := List.getElem?_of_mem h1
      have h2 : (isR.map (fun i => ws'[i]?))[j]? = (isR.map (fun i => ws[i]?))[j]? := by rw [hR]
      rw [List.getElem?_map, List.getElem?_map, hj] at h2
      have h3 : ws'[k]? = ws[k]? := Option.some.inj h2
      rw [← h3]; exact hq
theorem repl_P {A : Nat → Prop} {D : va_G} {cl : List vw_C} {ws ws' wc wc' : va_W} {H H1 : Heap} (hP : va_P D cl ws H) (hD : va_D A ws) (isC : List Nat) (hC : isC.map (fun i => ws[i]?) = wc.map some) (hX : ∀ (k : Nat) (q : Nat × va_E), ws'[k]? = some q → (∃ j : Nat, isC[j]? = some k ∧ wc'[j]? = some q) ∨ (k ∉ isC ∧ ws[k]? = some q)) (hk : ∀ q : Nat, q < H.size → ¬ va_A wc H.size q → H1[q]? = H[q]?) (hP1 : va_P D cl wc' H1) : va_P D cl ws' H1 := by
  intro k q hq
  rcases hX k q hq with ⟨j, -, hj⟩ | ⟨h1, h2⟩
  · exact hP1 j q hj
  · refine (hP k q h2).kept (hk q.1 (hP k q h2).lt ?_)
    rintro (⟨j, e, hj⟩ | h)
    · obtain ⟨i, hi, hw⟩ := isC_at hC hj
      have := hD.1 k i q (q.1, e) h2 hw rfl
      subst this
      exact h1 (List.mem_of_getElem? hi)
    · have := (hP k q h2).lt
      omega
theorem va_D.sameX {A : Nat → Prop} {ws ws' : va_W} (at' : ∀ (k : Nat) (q : Nat × va_E), ws'[k]? = some q → ∃ q2, ws[k]? = some q2 ∧ q2.1 = q.1) (hD : va_D A ws) : va_D A ws' := by
  refine ⟨fun i j p q hp hq e => ?_, fun k q hq => ?_⟩
  · obtain ⟨p2, hp2, ep⟩ := at' i p hp
    obtain ⟨q2, hq2, eq⟩ := at' j q hq
    exact hD.1 i j p2 q2 hp2 hq2 (by rw [ep, eq, e])
  · obtain ⟨q2, hq2, eq⟩ := at' k q hq
    rw [← eq]; exact hD.2 k q2 hq2
theorem repl_D {A : Nat → Prop} {ws ws' wc wc' : va_W} {n0 : Nat} (hD : va_D A ws) (isC : List Nat) (hC : isC.map (fun i => ws[i]?) = wc.map some) (hC' : isC.map (fun i => ws'[i]?) = wc'.map some) (hA : wc'.map (fun q => q.1) = wc.map (fun q => q.1)) (hn0 : ws.length = n0) (hn1 : ws'.length = n0) (hX : ∀ (k : Nat) (q : Nat × va_E), ws'[k]? = some q → (∃ j : Nat, isC[j]? = some k ∧ wc'[j]? = some q) ∨ (k ∉ isC ∧ ws[k]? = some q)) : va_D A ws' := by
  refine hD.sameX ?_
  intro k q hq
  rcases hX k q hq with ⟨j, hj, hw⟩ | ⟨-, h2⟩
  · have h1 : (wc'.map (fun q => q.1))[j]? = some q.1 := by rw [List.getElem?_map, hw]; rfl
    rw [hA, List.getElem?_map] at h1
    cases hw2 : wc[j]? with
    | none => rw [hw2] at h1; cases h1
    | some q2 =>
      rw [hw2] at h1
      obtain ⟨i2, h4, h3⟩ := isC_at hC hw2
      rw [hj] at h4
      cases h4
      exact ⟨q2, h3, Option.some.inj h1⟩
  · exact ⟨q, h2, rfl⟩
section JR
variable {p : Program} {l : Launch} {e : Env} {R : Room} {s : State} {m : MethodId} {args : Array Value} {below : List Frame} {meth : Method} {c : Code} {D : va_G} {A : Nat → Prop} {nL : Nat} {Q : State → Prop} {k n : Nat}
variable {cc : ByteArray} {Ts : List Cond} {own : String} {ty : List (ClassId × FieldType)} {ret : Option FieldType} {ws ws' : va_W} {lv lv' : List (Nat × Value)} {st : List Value} {pc : Nat}
theorem J_lv (ks : List Nat) (hl : lv_pick lv ks = lv') (kk : J p l e R s m args below meth c D A nL Q k n ws lv' st pc) : J p l e R s m args below meth c D A nL Q k n ws lv st pc := fun H locs ls h1 h2 h3 h4 h5 => kk H locs ls (lv_sub h1 ks hl) h2 h3 h4 h5
theorem J_if (q : Prop) [Decidable q] (kt : q → J p l e R s m args below meth c D A nL Q k n ws lv st pc) (kf : ¬ q → J p l e R s m args below meth c D A nL Q k n ws lv st pc) : J p l e R s m args below meth c D A nL Q k n ws lv st pc := if h : q then kt h else kf h
theorem J_iconst {i : Int} {v : Int32} (X : Cx p m c cc nL s args Ts own D ty meth ret) (hd : decode cc pc = .ok (.iconst i, 1)) (hv : Int32.ofInt i = v) (kk : J p l e R s m args below meth c D A nL Q k n ws lv (.int v :: st) (pc + 1)) : J p l e R s m args below meth c D A nL Q k n ws lv st pc := fun H locs ls h1 h2 h3 h4 h5 => lv_iconst X.1.1 X.1.2.1 hd hv (kk H locs ls h1 h2 h3 h4 h5)
theorem J_bipush {i : Int} {v : Int32} (X : Cx p m c cc nL s args Ts own D ty meth ret) (hd : decode cc pc = .ok (.bipush i, 2)) (hv : (Int8.ofInt i).toInt32 = v) (kk : J p l e R s m args below meth c D A nL Q k n ws lv (.int v :: st) (pc + 2)) : J p l e R s m args below meth c D A nL Q k n ws lv st pc := fun H locs ls h1 h2 h3 h4 h5 => lv_bipush X.1.1 X.1.2.1 hd hv (kk H locs ls h1 h2 h3 h4 h5)
theorem J_sipush {i : Int} {v : Int32} (X : Cx p m c cc nL s args Ts own D ty meth ret) (hd : decode cc pc = .ok (.sipush i, 3)) (hv : (Int16.ofInt i).toInt32 = v) (kk : J p l e R s m args below meth c D A nL Q k n ws lv (.int v :: st) (pc + 3)) : J p l e R s m args below meth c D A nL Q k n ws lv st pc := fun H locs ls h1 h2 h3 h4 h5 => lv_sipush X.1.1 X.1.2.1 hd hv (kk H locs ls h1 h2 h3 h4 h5)
theorem J_lconst {i : Fin 2} {v : Int64} (X : Cx p m c cc nL s args Ts own D ty meth ret) (hd : decode cc pc = .ok (.lconst i, 1)) (hv : Int64.ofNat (i : Nat) = v) (kk : J p l e R s m args below meth c D A nL Q k n ws lv (.long v :: st) (pc + 1)) : J p l e R s m args below meth c D A nL Q k n ws lv st pc := fun H locs ls h1 h2 h3 h4 h5 => lv_lconst X.1.1 X.1.2.1 hd hv (kk H locs ls h1 h2 h3 h4 h5)
theorem J_ldc {i : Nat} {v : Int32} (X : Cx p m c cc nL s args Ts own D ty meth ret) (hd : decode cc pc = .ok (.ldc i, 2)) (hm : Cond.constant own i v ∈ Ts) (kk : J p l e R s m args below meth c D A nL Q k n ws lv (.int v :: st) (pc + 2)) : J p l e R s m args below meth c D A nL Q k n ws lv st pc := fun H locs ls h1 h2 h3 h4 h5 => lv_ldc X.1.1 X.1.2.1 X.1.2.2.2.1 (X.1.2.2.2.2 _ hm) hd (kk H locs ls h1 h2 h3 h4 h5)
theorem J_ldcw {i : Nat} {v : Int32} (X : Cx p m c cc nL s args Ts own D ty meth ret) (hd : decode cc pc = .ok (.ldc_w i, 3)) (hm : Cond.constant own i v ∈ Ts) (kk : J p l e R s m args below meth c D A nL Q k n ws lv (.int v :: st) (pc + 3)) : J p l e R s m args below meth c D A nL Q k n ws lv st pc := fun H locs ls h1 h2 h3 h4 h5 => lv_ldcw X.1.1 X.1.2.1 X.1.2.2.2.1 (X.1.2.2.2.2 _ hm) hd (kk H locs ls h1 h2 h3 h4 h5)
theorem J_ldc2 {i : Nat} {v : Int64} (X : Cx p m c cc nL s args Ts own D ty meth ret) (hd : decode cc pc = .ok (.ldc2_w i, 3)) (hm : Cond.constantLong own i v ∈ Ts) (kk : J p l e R s m args below meth c D A nL Q k n ws lv (.long v :: st) (pc + 3)) : J p l e R s m args below meth c D A nL Q k n ws lv st pc := fun H locs ls h1 h2 h3 h4 h5 => lv_ldc2 X.1.1 X.1.2.1 X.1.2.2.2.1 (X.1.2.2.2.2 _ hm) hd (kk H locs ls h1 h2 h3 h4 h5)
theorem J_iload_n {i : Fin 4} {x : Int32} (X : Cx p m c cc nL s args Ts own D ty meth ret) (hd : decode cc pc = .ok (.iload_n i, 1)) (j : Nat) (hl : lv[j]? = some ((i : Nat), .int x)) (kk : J p l e R s m args below meth c D A nL Q k n ws lv (.int x :: st) (pc + 1)) : J p l e R s m args below meth c D A nL Q k n ws lv st pc := fun H locs ls h1 h2 h3 h4 h5 => lv_iload_n X.1.1 X.1.2.1 hd rfl (lv_at h1 j hl) (kk H locs ls h1 h2 h3 h4 h5)
theorem J_iload {i : Nat} {x : Int32} (X : Cx p m c cc nL s args Ts own D ty meth ret) (hd : decode cc pc = .ok (.iload i, 2)) (j : Nat) (hl : lv[j]? = some (i, .int x)) (kk : J p l e R s m args below meth c D A nL Q k n ws lv (.int x :: st) (pc + 2)) : J p l e R s m args below meth c D A nL Q k n ws lv st pc := fun H locs ls h1 h2 h3 h4 h5 => lv_iload X.1.1 X.1.2.1 hd (lv_at h1 j hl) (kk H locs ls h1 h2 h3 h4 h5)
theorem J_lload_n {i : Fin 4} {x : Int64} (X : Cx p m c cc nL s args Ts own D ty meth ret) (hd : decode cc pc = .ok (.lload_n i, 1)) (j : Nat) (hl : lv[j]? = some ((i : Nat), .long x)) (kk : J p l e R s m args below meth c D A nL Q k n ws lv (.long x :: st) (pc + 1)) : J p l e R s m args below meth c D A nL Q k n ws lv st pc := fun H locs ls h1 h2 h3 h4 h5 => lv_lload_n X.1.1 X.1.2.1 hd rfl (lv_at h1 j hl) (kk H locs ls h1 h2 h3 h4 h5)
theorem J_lload {i : Nat} {x : Int64} (X : Cx p m c cc nL s args Ts own D ty meth ret) (hd : decode cc pc = .ok (.lload i, 2)) (j : Nat) (hl : lv[j]? = some (i, .long x)) (kk : J p l e R s m args below meth c D A nL Q k n ws lv (.long x :: st) (pc + 2)) : J p l e R s m args below meth c D A nL Q k n ws lv st pc := fun H locs ls h1 h2 h3 h4 h5 => lv_lload X.1.1 X.1.2.1 hd (lv_at h1 j hl) (kk H locs ls h1 h2 h3 h4 h5)
theorem J_aload_n {i : Fin 4} {x : Nat} (X : Cx p m c cc nL s args Ts own D ty meth ret) (hd : decode cc pc = .ok (.aload_n i, 1)) (j : Nat) (hl : lv[j]? = some ((i : Nat), .ref x)) (kk : J p l e R s m args below meth c D A nL Q k n ws lv (.ref x :: st) (pc + 1)) : J p l e R s m args below meth c D A nL Q k n ws lv st pc := fun H locs ls h1 h2 h3 h4 h5 => lv_aload_n X.1.1 X.1.2.1 hd rfl (lv_at h1 j hl) (kk H locs ls h1 h2 h3 h4 h5)
theorem J_aload {i : Nat} {x : Nat} (X : Cx p m c cc nL s args Ts own D ty meth ret) (hd : decode cc pc = .ok (.aload i, 2)) (j : Nat) (hl : lv[j]? = some (i, .ref x)) (kk : J p l e R s m args below meth c D A nL Q k n ws lv (.ref x :: st) (pc + 2)) : J p l e R s m args below meth c D A nL Q k n ws lv st pc := fun H locs ls h1 h2 h3 h4 h5 => lv_aload X.1.1 X.1.2.1 hd (lv_at h1 j hl) (kk H locs ls h1 h2 h3 h4 h5)
theorem J_istore_n {i : Fin 4} {x : Int32} (X : Cx p m c cc nL s args Ts own D ty meth ret) (hd : decode cc pc = .ok (.istore_n i, 1)) (hn : (i : Nat) < nL) (hl : ((i : Nat), Value.int x) :: lv.filter (fun q => !(q.1 == (i : Nat)) && !(q.1 + 1 == (i : Nat) && q.2.category == 2)) = lv') (kk : J p l e R s m args below meth c D A nL Q k n ws lv' st (pc + 1)) : J p l e R s m args below meth c D A nL Q k n ws lv (.int x :: st) pc := fun H locs ls h1 h2 h3 h4 h5 => lv_istore_n X.1.1 X.1.2.1 hd rfl h1 hn hl (fun ls' h' => kk H locs ls' h' h2 h3 h4 h5)
theorem J_istore {i : Nat} {x : Int32} (X : Cx p m c cc nL s args Ts own D ty meth ret) (hd : decode cc pc = .ok (.istore i, 2)) (hn : i < nL) (hl : (i, Value.int x) :: lv.filter (fun q => !(q.1 == i) && !(q.1 + 1 == i && q.2.category == 2)) = lv') (kk : J p l e R s m args below meth c D A nL Q k n ws lv' st (pc + 2)) : J p l e R s m args below meth c D A nL Q k n ws lv (.int x :: st) pc := fun H locs ls h1 h2 h3 h4 h5 => lv_istore X.1.1 X.1.2.1 hd h1 hn hl (fun ls' h' => kk H locs ls' h' h2 h3 h4 h5)
theorem J_lstore_n {i : Fin 4} {x : Int64} (X : Cx p m c cc nL s args Ts own D ty meth ret) (hd : decode cc pc = .ok (.lstore_n i, 1)) (hn : (i : Nat) + 1 < nL) (hl : ((i : Nat), Value.long x) :: lv.filter (fun q => !(q.1 == (i : Nat)) && (!(q.1 == (i : Nat) + 1) && !(q.1 + 1 == (i : Nat) && q.2.category == 2))) = lv') (kk : J p l e R s m args below meth c D A nL Q k n ws lv' st (pc + 1)) : J p l e R s m args below meth c D A nL Q k n ws lv (.long x :: st) pc := fun H locs ls h1 h2 h3 h4 h5 => lv_lstore_n X.1.1 X.1.2.1 hd rfl h1 hn hl (fun ls' h' => kk H locs ls' h' h2 h3 h4 h5)
theorem J_lstore {i : Nat} {x : Int64} (X : Cx p m c cc nL s args Ts own D ty meth ret) (hd : decode cc pc = .ok (.lstore i, 2)) (hn : i + 1 < nL) (hl : (i, Value.long x) :: lv.filter (fun q => !(q.1 == i) && (!(q.1 == i + 1) && !(q.1 + 1 == i && q.2.category == 2))) = lv') (kk : J p l e R s m args below meth c D A nL Q k n ws lv' st (pc + 2)) : J p l e R s m args below meth c D A nL Q k n ws lv (.long x :: st) pc := fun H locs ls h1 h2 h3 h4 h5 => lv_lstore X.1.1 X.1.2.1 hd h1 hn hl (fun ls' h' => kk H locs ls' h' h2 h3 h4 h5)
theorem J_iinc {i j : Nat} {i2 : Int} {x v : Int32} (X : Cx p m c cc nL s args Ts own D ty meth ret) (hd : decode cc pc = .ok (.iinc i i2, 3)) (hk : lv[j]? = some (i, .int x)) (hv : x + Int32.ofInt i2 = v) (hn : i < nL) (hl : (i, Value.int v) :: lv.filter (fun q => !(q.1 == i) && !(q.1 + 1 == i && q.2.category == 2)) = lv') (kk : J p l e R s m args below meth c D A nL Q k n ws lv' st (pc + 3)) : J p l e R s m args below meth c D A nL Q k n ws lv st pc := fun H locs ls h1 h2 h3 h4 h5 => lv_iinc X.1.1 X.1.2.1 hd h1 hk hv hn hl (fun ls' h' => kk H locs ls' h' h2 h3 h4 h5)
theorem J_iadd {x y : Int32} (X : Cx p m c cc nL s args Ts own D ty meth ret) (hd : decode cc pc = .ok (.iadd, 1))  (kk : J p l e R s m args below meth c D A nL Q k n ws lv (.int (x + y) :: st) (pc + 1)) : J p l e R s m args below meth c D A nL Q k n ws lv (.int y :: .int x :: st) pc := fun H locs ls h1 h2 h3 h4 h5 => lv_iadd X.1.1 X.1.2.1 hd (kk H locs ls h1 h2 h3 h4 h5)
theorem J_isub {x y : Int32} (X : Cx p m c cc nL s args Ts own D ty meth ret) (hd : decode cc pc = .ok (.isub, 1))  (kk : J p l e R s m args below meth c D A nL Q k n ws lv (.int (x - y) :: st) (pc + 1)) : J p l e R s m args below meth c D A nL Q k n ws lv (.int y :: .int x :: st) pc := fun H locs ls h1 h2 h3 h4 h5 => lv_isub X.1.1 X.1.2.1 hd (kk H locs ls h1 h2 h3 h4 h5)
theorem J_imul {x y : Int32} (X : Cx p m c cc nL s args Ts own D ty meth ret) (hd : decode cc pc = .ok (.imul, 1))  (kk : J p l e R s m args below meth c D A nL Q k n ws lv (.int (x * y) :: st) (pc + 1)) : J p l e R s m args below meth c D A nL Q k n ws lv (.int y :: .int x :: st) pc := fun H locs ls h1 h2 h3 h4 h5 => lv_imul X.1.1 X.1.2.1 hd (kk H locs ls h1 h2 h3 h4 h5)
theorem J_iand {x y : Int32} (X : Cx p m c cc nL s args Ts own D ty meth ret) (hd : decode cc pc = .ok (.iand, 1))  (kk : J p l e R s m args below meth c D A nL Q k n ws lv (.int (x &&& y) :: st) (pc + 1)) : J p l e R s m args below meth c D A nL Q k n ws lv (.int y :: .int x :: st) pc := fun H locs ls h1 h2 h3 h4 h5 => lv_iand X.1.1 X.1.2.1 hd (kk H locs ls h1 h2 h3 h4 h5)
theorem J_ior {x y : Int32} (X : Cx p m c cc nL s args Ts own D ty meth ret) (hd : decode cc pc = .ok (.ior, 1))  (kk : J p l e R s m args below meth c D A nL Q k n ws lv (.int (x ||| y) :: st) (pc + 1)) : J p l e R s m args below meth c D A nL Q k n ws lv (.int y :: .int x :: st) pc := fun H locs ls h1 h2 h3 h4 h5 => lv_ior X.1.1 X.1.2.1 hd (kk H locs ls h1 h2 h3 h4 h5)
theorem J_ixor {x y : Int32} (X : Cx p m c cc nL s args Ts own D ty meth ret) (hd : decode cc pc = .ok (.ixor, 1))  (kk : J p l e R s m args below meth c D A nL Q k n ws lv (.int (x ^^^ y) :: st) (pc + 1)) : J p l e R s m args below meth c D A nL Q k n ws lv (.int y :: .int x :: st) pc := fun H locs ls h1 h2 h3 h4 h5 => lv_ixor X.1.1 X.1.2.1 hd (kk H locs ls h1 h2 h3 h4 h5)
theorem J_ladd {x y : Int64} (X : Cx p m c cc nL s args Ts own D ty meth ret) (hd : decode cc pc = .ok (.ladd, 1))  (kk : J p l e R s m args below meth c D A nL Q k n ws lv (.long (x + y) :: st) (pc + 1)) : J p l e R s m args below meth c D A nL Q k n ws lv (.long y :: .long x :: st) pc := fun H locs ls h1 h2 h3 h4 h5 => lv_ladd X.1.1 X.1.2.1 hd (kk H locs ls h1 h2 h3 h4 h5)
theorem J_lsub {x y : Int64} (X : Cx p m c cc nL s args Ts own D ty meth ret) (hd : decode cc pc = .ok (.lsub, 1))  (kk : J p l e R s m args below meth c D A nL Q k n ws lv (.long (x - y) :: st) (pc + 1)) : J p l e R s m args below meth c D A nL Q k n ws lv (.long y :: .long x :: st) pc := fun H locs ls h1 h2 h3 h4 h5 => lv_lsub X.1.1 X.1.2.1 hd (kk H locs ls h1 h2 h3 h4 h5)
theorem J_lmul {x y : Int64} (X : Cx p m c cc nL s args Ts own D ty meth ret) (hd : decode cc pc = .ok (.lmul, 1))  (kk : J p l e R s m args below meth c D A nL Q k n ws lv (.long (x * y) :: st) (pc + 1)) : J p l e R s m args below meth c D A nL Q k n ws lv (.long y :: .long x :: st) pc := fun H locs ls h1 h2 h3 h4 h5 => lv_lmul X.1.1 X.1.2.1 hd (kk H locs ls h1 h2 h3 h4 h5)
theorem J_idiv {x y : Int32} (X : Cx p m c cc nL s args Ts own D ty meth ret) (hd : decode cc pc = .ok (.idiv, 1)) (hne : ¬ y = 0) (kk : J p l e R s m args below meth c D A nL Q k n ws lv (.int (x / y) :: st) (pc + 1)) : J p l e R s m args below meth c D A nL Q k n ws lv (.int y :: .int x :: st) pc := fun H locs ls h1 h2 h3 h4 h5 => lv_idiv X.1.1 X.1.2.1 hd hne (kk H locs ls h1 h2 h3 h4 h5)
theorem J_irem {x y : Int32} (X : Cx p m c cc nL s args Ts own D ty meth ret) (hd : decode cc pc = .ok (.irem, 1)) (hne : ¬ y = 0) (kk : J p l e R s m args below meth c D A nL Q k n ws lv (.int (x - x / y * y) :: st) (pc + 1)) : J p l e R s m args below meth c D A nL Q k n ws lv (.int y :: .int x :: st) pc := fun H locs ls h1 h2 h3 h4 h5 => lv_irem X.1.1 X.1.2.1 hd hne (kk H locs ls h1 h2 h3 h4 h5)
theorem J_ldiv {x y : Int64} (X : Cx p m c cc nL s args Ts own D ty meth ret) (hd : decode cc pc = .ok (.ldiv, 1)) (hne : ¬ y = 0) (kk : J p l e R s m args below meth c D A nL Q k n ws lv (.long (x / y) :: st) (pc + 1)) : J p l e R s m args below meth c D A nL Q k n ws lv (.long y :: .long x :: st) pc := fun H locs ls h1 h2 h3 h4 h5 => lv_ldiv X.1.1 X.1.2.1 hd hne (kk H locs ls h1 h2 h3 h4 h5)
theorem J_lrem {x y : Int64} (X : Cx p m c cc nL s args Ts own D ty meth ret) (hd : decode cc pc = .ok (.lrem, 1)) (hne : ¬ y = 0) (kk : J p l e R s m args below meth c D A nL Q k n ws lv (.long (x - x / y * y) :: st) (pc + 1)) : J p l e R s m args below meth c D A nL Q k n ws lv (.long y :: .long x :: st) pc := fun H locs ls h1 h2 h3 h4 h5 => lv_lrem X.1.1 X.1.2.1 hd hne (kk H locs ls h1 h2 h3 h4 h5)
theorem J_ineg {x : Int32} (X : Cx p m c cc nL s args Ts own D ty meth ret) (hd : decode cc pc = .ok (.ineg, 1))  (kk : J p l e R s m args below meth c D A nL Q k n ws lv (.int (-x) :: st) (pc + 1)) : J p l e R s m args below meth c D A nL Q k n ws lv (.int x :: st) pc := fun H locs ls h1 h2 h3 h4 h5 => lv_ineg X.1.1 X.1.2.1 hd (kk H locs ls h1 h2 h3 h4 h5)
theorem J_ishl {x y : Int32} (X : Cx p m c cc nL s args Ts own D ty meth ret) (hd : decode cc pc = .ok (.ishl, 1))  (kk : J p l e R s m args below meth c D A nL Q k n ws lv (.int (x <<< (y &&& 31)) :: st) (pc + 1)) : J p l e R s m args below meth c D A nL Q k n ws lv (.int y :: .int x :: st) pc := fun H locs ls h1 h2 h3 h4 h5 => lv_ishl X.1.1 X.1.2.1 hd (kk H locs ls h1 h2 h3 h4 h5)
theorem J_ishr {x y : Int32} (X : Cx p m c cc nL s args Ts own D ty meth ret) (hd : decode cc pc = .ok (.ishr, 1))  (kk : J p l e R s m args below meth c D A nL Q k n ws lv (.int (x >>> (y &&& 31)) :: st) (pc + 1)) : J p l e R s m args below meth c D A nL Q k n ws lv (.int y :: .int x :: st) pc := fun H locs ls h1 h2 h3 h4 h5 => lv_ishr X.1.1 X.1.2.1 hd (kk H locs ls h1 h2 h3 h4 h5)
theorem J_iushr {x y : Int32} (X : Cx p m c cc nL s args Ts own D ty meth ret) (hd : decode cc pc = .ok (.iushr, 1))  (kk : J p l e R s m args below meth c D A nL Q k n ws lv (.int ((x.toUInt32 >>> (y.toUInt32 &&& Int32.toUInt32 31)).toInt32) :: st) (pc + 1)) : J p l e R s m args below meth c D A nL Q k n ws lv (.int y :: .int x :: st) pc := fun H locs ls h1 h2 h3 h4 h5 => lv_iushr X.1.1 X.1.2.1 hd rfl (kk H locs ls h1 h2 h3 h4 h5)
theorem J_i2l {x : Int32} (X : Cx p m c cc nL s args Ts own D ty meth ret) (hd : decode cc pc = .ok (.i2l, 1))  (kk : J p l e R s m args below meth c D A nL Q k n ws lv (.long x.toInt64 :: st) (pc + 1)) : J p l e R s m args below meth c D A nL Q k n ws lv (.int x :: st) pc := fun H locs ls h1 h2 h3 h4 h5 => lv_i2l X.1.1 X.1.2.1 hd rfl (kk H locs ls h1 h2 h3 h4 h5)
theorem J_l2i {x : Int64} (X : Cx p m c cc nL s args Ts own D ty meth ret) (hd : decode cc pc = .ok (.l2i, 1))  (kk : J p l e R s m args below meth c D A nL Q k n ws lv (.int x.toInt32 :: st) (pc + 1)) : J p l e R s m args below meth c D A nL Q k n ws lv (.long x :: st) pc := fun H locs ls h1 h2 h3 h4 h5 => lv_l2i X.1.1 X.1.2.1 hd rfl (kk H locs ls h1 h2 h3 h4 h5)
theorem J_lcmp {x y : Int64} (X : Cx p m c cc nL s args Ts own D ty meth ret) (hd : decode cc pc = .ok (.lcmp, 1))  (kk : J p l e R s m args below meth c D A nL Q k n ws lv (.int (lg_cmp x y) :: st) (pc + 1)) : J p l e R s m args below meth c D A nL Q k n ws lv (.long y :: .long x :: st) pc := fun H locs ls h1 h2 h3 h4 h5 => W.lcmp X.1.1 X.1.2.1 hd (kk H locs ls h1 h2 h3 h4 h5)
theorem J_dup {v : Value} (X : Cx p m c cc nL s args Ts own D ty meth ret) (hd : decode cc pc = .ok (.dup, 1)) (hv : v.category = 1) (kk : J p l e R s m args below meth c D A nL Q k n ws lv (v :: v :: st) (pc + 1)) : J p l e R s m args below meth c D A nL Q k n ws lv (v :: st) pc := fun H locs ls h1 h2 h3 h4 h5 => lv_dup X.1.1 X.1.2.1 hd hv (kk H locs ls h1 h2 h3 h4 h5)
theorem J_dup2 {v w : Value} (X : Cx p m c cc nL s args Ts own D ty meth ret) (hd : decode cc pc = .ok (.dup2, 1)) (hv : v.category = 1) (hw : w.category = 1) (kk : J p l e R s m args below meth c D A nL Q k n ws lv (v :: w :: v :: w :: st) (pc + 1)) : J p l e R s m args below meth c D A nL Q k n ws lv (v :: w :: st) pc := fun H locs ls h1 h2 h3 h4 h5 => lv_dup2_11 X.1.1 X.1.2.1 hd hv hw (kk H locs ls h1 h2 h3 h4 h5)
theorem J_goto {off : Int} {tgt : Nat} (X : Cx p m c cc nL s args Ts own D ty meth ret) (hd : decode cc pc = .ok (.goto off, 3)) (ht : (pc : Int) + off = (tgt : Int)) (kk : J p l e R s m args below meth c D A nL Q k n ws lv st tgt) : J p l e R s m args below meth c D A nL Q k n ws lv st pc := fun H locs ls h1 h2 h3 h4 h5 => lv_goto X.1.1 X.1.2.1 hd ht (kk H locs ls h1 h2 h3 h4 h5)
theorem J_icmp_eq {x y : Int32} {off : Int} {tgt : Nat} (X : Cx p m c cc nL s args Ts own D ty meth ret) (hd : decode cc pc = .ok (.if_icmp .eq off, 3)) (ht : (pc : Int) + off = (tgt : Int)) (kt : x = y → J p l e R s m args below meth c D A nL Q k n ws lv st tgt) (kf : ¬ (x = y) → J p l e R s m args below meth c D A nL Q k n ws lv st (pc + 3)) : J p l e R s m args below meth c D A nL Q k n ws lv (.int y :: .int x :: st) pc := fun H locs ls h1 h2 h3 h4 h5 => lv_icmp_eq X.1.1 X.1.2.1 hd ht (fun q => kt q H locs ls h1 h2 h3 h4 h5) (fun q => kf q H locs ls h1 h2 h3 h4 h5)
theorem J_if_eq {x : Int32} {off : Int} {tgt : Nat} (X : Cx p m c cc nL s args Ts own D ty meth ret) (hd : decode cc pc = .ok (.ifCond .eq off, 3)) (ht : (pc : Int) + off = (tgt : Int)) (kt : x = 0 → J p l e R s m args below meth c D A nL Q k n ws lv st tgt) (kf : ¬ (x = 0) → J p l e R s m args below meth c D A nL Q k n ws lv st (pc + 3)) : J p l e R s m args below meth c D A nL Q k n ws lv (.int x :: st) pc := fun H locs ls h1 h2 h3 h4 h5 => lv_if_eq X.1.1 X.1.2.1 hd ht (fun q => kt q H locs ls h1 h2 h3 h4 h5) (fun q => kf q H locs ls h1 h2 h3 h4 h5)
theorem J_icmp_lt {x y : Int32} {off : Int} {tgt : Nat} (X : Cx p m c cc nL s args Ts own D ty meth ret) (hd : decode cc pc = .ok (.if_icmp .lt off, 3)) (ht : (pc : Int) + off = (tgt : Int)) (kt : x < y → J p l e R s m args below meth c D A nL Q k n ws lv st tgt) (kf : ¬ (x < y) → J p l e R s m args below meth c D A nL Q k n ws lv st (pc + 3)) : J p l e R s m args below meth c D A nL Q k n ws lv (.int y :: .int x :: st) pc := fun H locs ls h1 h2 h3 h4 h5 => lv_icmp_lt X.1.1 X.1.2.1 hd ht (fun q => kt q H locs ls h1 h2 h3 h4 h5) (fun q => kf q H locs ls h1 h2 h3 h4 h5)
theorem J_if_lt {x : Int32} {off : Int} {tgt : Nat} (X : Cx p m c cc nL s args Ts own D ty meth ret) (hd : decode cc pc = .ok (.ifCond .lt off, 3)) (ht : (pc : Int) + off = (tgt : Int)) (kt : x < 0 → J p l e R s m args below meth c D A nL Q k n ws lv st tgt) (kf : ¬ (x < 0) → J p l e R s m args below meth c D A nL Q k n ws lv st (pc + 3)) : J p l e R s m args below meth c D A nL Q k n ws lv (.int x :: st) pc := fun H locs ls h1 h2 h3 h4 h5 => lv_if_lt X.1.1 X.1.2.1 hd ht (fun q => kt q H locs ls h1 h2 h3 h4 h5) (fun q => kf q H locs ls h1 h2 h3 h4 h5)
theorem J_icmp_ge {x y : Int32} {off : Int} {tgt : Nat} (X : Cx p m c cc nL s args Ts own D ty meth ret) (hd : decode cc pc = .ok (.if_icmp .ge off, 3)) (ht : (pc : Int) + off = (tgt : Int)) (kt : y ≤ x → J p l e R s m args below meth c D A nL Q k n ws lv st tgt) (kf : ¬ (y ≤ x) → J p l e R s m args below meth c D A nL Q k n ws lv st (pc + 3)) : J p l e R s m args below meth c D A nL Q k n ws lv (.int y :: .int x :: st) pc := fun H locs ls h1 h2 h3 h4 h5 => lv_icmp_ge X.1.1 X.1.2.1 hd ht (fun q => kt q H locs ls h1 h2 h3 h4 h5) (fun q => kf q H locs ls h1 h2 h3 h4 h5)
theorem J_if_ge {x : Int32} {off : Int} {tgt : Nat} (X : Cx p m c cc nL s args Ts own D ty meth ret) (hd : decode cc pc = .ok (.ifCond .ge off, 3)) (ht : (pc : Int) + off = (tgt : Int)) (kt : 0 ≤ x → J p l e R s m args below meth c D A nL Q k n ws lv st tgt) (kf : ¬ (0 ≤ x) → J p l e R s m args below meth c D A nL Q k n ws lv st (pc + 3)) : J p l e R s m args below meth c D A nL Q k n ws lv (.int x :: st) pc := fun H locs ls h1 h2 h3 h4 h5 => lv_if_ge X.1.1 X.1.2.1 hd ht (fun q => kt q H locs ls h1 h2 h3 h4 h5) (fun q => kf q H locs ls h1 h2 h3 h4 h5)
theorem J_icmp_gt {x y : Int32} {off : Int} {tgt : Nat} (X : Cx p m c cc nL s args Ts own D ty meth ret) (hd : decode cc pc = .ok (.if_icmp .gt off, 3)) (ht : (pc : Int) + off = (tgt : Int)) (kt : y < x → J p l e R s m args below meth c D A nL Q k n ws lv st tgt) (kf : ¬ (y < x) → J p l e R s m args below meth c D A nL Q k n ws lv st (pc + 3)) : J p l e R s m args below meth c D A nL Q k n ws lv (.int y :: .int x :: st) pc := fun H locs ls h1 h2 h3 h4 h5 => lv_icmp_gt X.1.1 X.1.2.1 hd ht (fun q => kt q H locs ls h1 h2 h3 h4 h5) (fun q => kf q H locs ls h1 h2 h3 h4 h5)
theorem J_if_gt {x : Int32} {off : Int} {tgt : Nat} (X : Cx p m c cc nL s args Ts own D ty meth ret) (hd : decode cc pc = .ok (.ifCond .gt off, 3)) (ht : (pc : Int) + off = (tgt : Int)) (kt : 0 < x → J p l e R s m args below meth c D A nL Q k n ws lv st tgt) (kf : ¬ (0 < x) → J p l e R s m args below meth c D A nL Q k n ws lv st (pc + 3)) : J p l e R s m args below meth c D A nL Q k n ws lv (.int x :: st) pc := fun H locs ls h1 h2 h3 h4 h5 => lv_if_gt X.1.1 X.1.2.1 hd ht (fun q => kt q H locs ls h1 h2 h3 h4 h5) (fun q => kf q H locs ls h1 h2 h3 h4 h5)
theorem J_icmp_le {x y : Int32} {off : Int} {tgt : Nat} (X : Cx p m c cc nL s args Ts own D ty meth ret) (hd : decode cc pc = .ok (.if_icmp .le off, 3)) (ht : (pc : Int) + off = (tgt : Int)) (kt : x ≤ y → J p l e R s m args below meth c D A nL Q k n ws lv st tgt) (kf : ¬ (x ≤ y) → J p l e R s m args below meth c D A nL Q k n ws lv st (pc + 3)) : J p l e R s m args below meth c D A nL Q k n ws lv (.int y :: .int x :: st) pc := fun H locs ls h1 h2 h3 h4 h5 => lv_icmp_le X.1.1 X.1.2.1 hd ht (fun q => kt q H locs ls h1 h2 h3 h4 h5) (fun q => kf q H locs ls h1 h2 h3 h4 h5)
theorem J_if_le {x : Int32} {off : Int} {tgt : Nat} (X : Cx p m c cc nL s args Ts own D ty meth ret) (hd : decode cc pc = .ok (.ifCond .le off, 3)) (ht : (pc : Int) + off = (tgt : Int)) (kt : x ≤ 0 → J p l e R s m args below meth c D A nL Q k n ws lv st tgt) (kf : ¬ (x ≤ 0) → J p l e R s m args below meth c D A nL Q k n ws lv st (pc + 3)) : J p l e R s m args below meth c D A nL Q k n ws lv (.int x :: st) pc := fun H locs ls h1 h2 h3 h4 h5 => lv_if_le X.1.1 X.1.2.1 hd ht (fun q => kt q H locs ls h1 h2 h3 h4 h5) (fun q => kf q H locs ls h1 h2 h3 h4 h5)
theorem J_icmp_ne {x y : Int32} {off : Int} {tgt : Nat} (X : Cx p m c cc nL s args Ts own D ty meth ret) (hd : decode cc pc = .ok (.if_icmp .ne off, 3)) (ht : (pc : Int) + off = (tgt : Int)) (kt : ¬ x = y → J p l e R s m args below meth c D A nL Q k n ws lv st tgt) (kf : x = y → J p l e R s m args below meth c D A nL Q k n ws lv st (pc + 3)) : J p l e R s m args below meth c D A nL Q k n ws lv (.int y :: .int x :: st) pc := fun H locs ls h1 h2 h3 h4 h5 => lv_icmp_ne X.1.1 X.1.2.1 hd ht (fun q => kt q H locs ls h1 h2 h3 h4 h5) (fun q => kf q H locs ls h1 h2 h3 h4 h5)
theorem J_if_ne {x : Int32} {off : Int} {tgt : Nat} (X : Cx p m c cc nL s args Ts own D ty meth ret) (hd : decode cc pc = .ok (.ifCond .ne off, 3)) (ht : (pc : Int) + off = (tgt : Int)) (kt : ¬ x = 0 → J p l e R s m args below meth c D A nL Q k n ws lv st tgt) (kf : x = 0 → J p l e R s m args below meth c D A nL Q k n ws lv st (pc + 3)) : J p l e R s m args below meth c D A nL Q k n ws lv (.int x :: st) pc := fun H locs ls h1 h2 h3 h4 h5 => lv_if_ne X.1.1 X.1.2.1 hd ht (fun q => kt q H locs ls h1 h2 h3 h4 h5) (fun q => kf q H locs ls h1 h2 h3 h4 h5)
theorem J_tsK {dflt lo hi : Int} {offs : Array Int} {len : Nat} {x : Int32} {off : Int} {tgt : Nat} (X : Cx p m c cc nL s args Ts own D ty meth ret) (hd : decode cc pc = .ok (.tableswitch dflt lo hi offs, len)) (v : Int32) (hx : x = v) (h6 : ¬ v.toInt < lo) (h7 : ¬ hi < v.toInt) (ho : offs[(v.toInt - lo).toNat]? = some off) (ht : (pc : Int) + off = (tgt : Int)) (kk : J p l e R s m args below meth c D A nL Q k n ws lv st tgt) : J p l e R s m args below meth c D A nL Q k n ws lv (.int x :: st) pc := by
  subst hx
  exact fun H locs ls h1 h2 h3 h4 h5 => lv_tableIn X.1.1 X.1.2.1 hd h6 h7 ho ht (kk H locs ls h1 h2 h3 h4 h5)
theorem J_tsD {dflt lo hi : Int} {offs : Array Int} {len : Nat} {x : Int32} {tgt : Nat} (X : Cx p m c cc nL s args Ts own D ty meth ret) (hd : decode cc pc = .ok (.tableswitch dflt lo hi offs, len)) (h6 : x.toInt < lo ∨ hi < x.toInt) (ht : (pc : Int) + dflt = (tgt : Int)) (kk : J p l e R s m args below meth c D A nL Q k n ws lv st tgt) : J p l e R s m args below meth c D A nL Q k n ws lv (.int x :: st) pc := fun H locs ls h1 h2 h3 h4 h5 => lv_tableOut X.1.1 X.1.2.1 hd h6 ht (kk H locs ls h1 h2 h3 h4 h5)
theorem J_lk {dflt : Int} {ps : Array (Int × Int)} {len : Nat} {x : Int32} {off : Int} {tgt : Nat} (X : Cx p m c cc nL s args Ts own D ty meth ret) (hd : decode cc pc = .ok (.lookupswitch dflt ps, len)) (hp : (ps.toList.zip (ps.toList.drop 1)).all (fun (a, next) => a.1 < next.1) = true) (ho : Op.lookupswitch.offset ps.toList dflt x.toInt = off) (ht : (pc : Int) + off = (tgt : Int)) (kk : J p l e R s m args below meth c D A nL Q k n ws lv st tgt) : J p l e R s m args below meth c D A nL Q k n ws lv (.int x :: st) pc := fun H locs ls h1 h2 h3 h4 h5 => lv_lookup X.1.1 X.1.2.1 hd hp ho ht (kk H locs ls h1 h2 h3 h4 h5)
theorem J_get (X : Cx p m c cc nL s args Ts own D ty meth ret) {C : String} {T : u_T} {N ci : Nat} {a : Nat} {fs : List Value} {v : Value} {index : Nat} (hin : ∀ w ∈ u_ws C T N, w ∈ Ts) (q0 : Nat) (he : ws[q0]? = some (a, .inr (ci, fs))) (hc : vwCl[ci]? = some (C, T, N)) (j : Nat) (hk : j < N) (hlink : Cond.fieldLink own index (T j).1 (T j).2.1 (T j).2.2.1 ∈ Ts) (hv : fs[j]? = some v) (hd : decode cc pc = .ok (.getfield index, 3)) (kk : J p l e R s m args below meth c D A nL Q k n ws lv (v :: st) (pc + 3)) : J p l e R s m args below meth c D A nL Q k n ws lv (.ref a :: st) pc := fun H locs ls h1 h2 h3 h4 h5 => va_get X.1.1 X.1.2.1 X.1.2.2.2.2 hin X.1.2.2.2.1 X.2.1.1 h2 q0 he hc j hk (X.1.2.2.2.2 _ hlink) (fun _ h9 => h9) hv hd (kk H locs ls h1 h2 h3 h4 h5)
theorem J_getN {host : String} (X : Cx p m c cc nL s args Ts own D ty meth ret) {C : String} {T : u_T} {N ci : Nat} {a : Nat} {fs : List Value} {v : Value} {index : Nat} (hin : ∀ w ∈ u_ws C T N, w ∈ Ts) (q0 : Nat) (he : ws[q0]? = some (a, .inr (ci, fs))) (hc : vwCl[ci]? = some (C, T, N)) (j : Nat) (hk : j < N) (hlink : Cond.fieldLinkNest own index (T j).1 (T j).2.1 (T j).2.2.1 host ∈ nwAll) (hv : fs[j]? = some v) (hd : decode cc pc = .ok (.getfield index, 3)) (kk : J p l e R s m args below meth c D A nL Q k n ws lv (v :: st) (pc + 3)) : J p l e R s m args below meth c D A nL Q k n ws lv (.ref a :: st) pc := fun H locs ls h1 h2 h3 h4 h5 => va_getN X.1.1 X.1.2.1 X.1.2.2.2.2 hin X.1.2.2.2.1 X.2.1.1 h2 q0 he hc j hk (va_Nw.use rfl (X.2.1.2 _ hlink)) (fun _ h9 => h9) hv hd (kk H locs ls h1 h2 h3 h4 h5)
theorem J_put {host : String} (X : Cx p m c cc nL s args Ts own D ty meth ret) {C : String} {T : u_T} {N ci : Nat} {a : Nat} {fs : List Value} {v : Value} {index : Nat} (hin : ∀ w ∈ u_ws C T N, w ∈ Ts) (q0 : Nat) (he : ws[q0]? = some (a, .inr (ci, fs))) (hc : vwCl[ci]? = some (C, T, N)) (j : Nat) (hk : j < N) (ty0 : Nat → FieldType) (hty : ∀ k, k < N → parseFieldDescriptor (T k).2.2.1 = some (ty0 k)) (hnm : ∀ a, a < N → ∀ b, b < N → a ≠ b → (T a).2.1 ≠ (T b).2.1) (hlink : Cond.fieldLink own index (T j).1 (T j).2.1 (T j).2.2.1 ∈ Ts) (hfin : (T j).2.2.2 = false) (hn : narrow (ty0 j) v = v) (hfit : fits (ty0 j) v = true) (hl : j < fs.length) (hs : ws.set q0 (a, .inr (ci, fs.set j v)) = ws') (hd : decode cc pc = .ok (.putfield index, 3)) (kk : J p l e R s m args below meth c D A nL Q k n ws' lv st (pc + 3)) : J p l e R s m args below meth c D A nL Q k n ws lv (v :: .ref a :: st) pc := by
  subst hs
  exact fun H locs ls h1 h2 h3 h4 h5 => va_put X.1.1 X.1.2.1 X.1.2.2.2.2 hin ty0 hty hnm X.1.2.2.2.1 X.2.1.1 h2 h3 h4 q0 he hc j hk (X.1.2.2.2.2 _ hlink) (fun _ h9 => h9) hfin (hty j hk) hn hfit hl hd (fun H1 locs1 q1 q2 q3 => kk H1 locs1 ls h1 q1 q2 q3 h5)
theorem J_putN {host : String} (X : Cx p m c cc nL s args Ts own D ty meth ret) {C : String} {T : u_T} {N ci : Nat} {a : Nat} {fs : List Value} {v : Value} {index : Nat} (hin : ∀ w ∈ u_ws C T N, w ∈ Ts) (q0 : Nat) (he : ws[q0]? = some (a, .inr (ci, fs))) (hc : vwCl[ci]? = some (C, T, N)) (j : Nat) (hk : j < N) (ty0 : Nat → FieldType) (hty : ∀ k, k < N → parseFieldDescriptor (T k).2.2.1 = some (ty0 k)) (hnm : ∀ a, a < N → ∀ b, b < N → a ≠ b → (T a).2.1 ≠ (T b).2.1) (hlink : Cond.fieldLinkNest own index (T j).1 (T j).2.1 (T j).2.2.1 host ∈ nwAll) (hfin : (T j).2.2.2 = false) (hn : narrow (ty0 j) v = v) (hfit : fits (ty0 j) v = true) (hl : j < fs.length) (hs : ws.set q0 (a, .inr (ci, fs.set j v)) = ws') (hd : decode cc pc = .ok (.putfield index, 3)) (kk : J p l e R s m args below meth c D A nL Q k n ws' lv st (pc + 3)) : J p l e R s m args below meth c D A nL Q k n ws lv (v :: .ref a :: st) pc := by
  subst hs
  exact fun H locs ls h1 h2 h3 h4 h5 => va_putN X.1.1 X.1.2.1 X.1.2.2.2.2 hin ty0 hty hnm X.1.2.2.2.1 X.2.1.1 h2 h3 h4 q0 he hc j hk (va_Nw.use rfl (X.2.1.2 _ hlink)) (fun _ h9 => h9) hfin (hty j hk) hn hfit hl hd (fun H1 locs1 q1 q2 q3 => kk H1 locs1 ls h1 q1 q2 q3 h5)
theorem J_iald {a : Nat} {cA : ClassId} {n0 : Nat} {f : Nat → Int32} {i : Int32} (X : Cx p m c cc nL s args Ts own D ty meth ret) (q0 : Nat) (ha : ws[q0]? = some (a, .inl (cA, n0, .inl f))) (ht : ty[0]? = some (cA, .int)) (hin : ¬ (i < 0 ∨ n0 ≤ i.toNatClampNeg)) (hd : decode cc pc = .ok (.iaload, 1)) (kk : J p l e R s m args below meth c D A nL Q k n ws lv (.int (f i.toNatClampNeg) :: st) (pc + 1)) : J p l e R s m args below meth c D A nL Q k n ws lv (.int i :: .ref a :: st) pc := fun H locs ls h1 h2 h3 h4 h5 => va_iald X.1.1 X.1.2.1 X.2.1.1 h2 q0 0 ha ht hin hd (kk H locs ls h1 h2 h3 h4 h5)
theorem J_iast {a : Nat} {cA : ClassId} {n0 : Nat} {f : Nat → Int32} {i : Int32} {x : Int32} (X : Cx p m c cc nL s args Ts own D ty meth ret) (q0 : Nat) (ha : ws[q0]? = some (a, .inl (cA, n0, .inl f))) (ht : ty[0]? = some (cA, .int)) (hin : ¬ (i < 0 ∨ n0 ≤ i.toNatClampNeg)) (hs : ws.set q0 (a, .inl (cA, n0, .inl (upd f i.toNatClampNeg x))) = ws') (hd : decode cc pc = .ok (.iastore, 1)) (kk : J p l e R s m args below meth c D A nL Q k n ws' lv st (pc + 1)) : J p l e R s m args below meth c D A nL Q k n ws lv (.int x :: .int i :: .ref a :: st) pc := by
  subst hs
  exact fun H locs ls h1 h2 h3 h4 h5 => va_iast X.1.1 X.1.2.1 X.2.1.1 h2 h3 h4 q0 0 ha ht hin hd (fun H1 locs1 q1 q2 q3 => kk H1 locs1 ls h1 q1 q2 q3 h5)
theorem J_lald {a : Nat} {cA : ClassId} {n0 : Nat} {f : Nat → Int64} {i : Int32} (X : Cx p m c cc nL s args Ts own D ty meth ret) (q0 : Nat) (ha : ws[q0]? = some (a, .inl (cA, n0, .inr (.inl f)))) (ht : ty[1]? = some (cA, .long)) (hin : ¬ (i < 0 ∨ n0 ≤ i.toNatClampNeg)) (hd : decode cc pc = .ok (.laload, 1)) (kk : J p l e R s m args below meth c D A nL Q k n ws lv (.long (f i.toNatClampNeg) :: st) (pc + 1)) : J p l e R s m args below meth c D A nL Q k n ws lv (.int i :: .ref a :: st) pc := fun H locs ls h1 h2 h3 h4 h5 => va_lald X.1.1 X.1.2.1 X.2.1.1 h2 q0 1 ha ht hin hd (kk H locs ls h1 h2 h3 h4 h5)
theorem J_last {a : Nat} {cA : ClassId} {n0 : Nat} {f : Nat → Int64} {i : Int32} {x : Int64} (X : Cx p m c cc nL s args Ts own D ty meth ret) (q0 : Nat) (ha : ws[q0]? = some (a, .inl (cA, n0, .inr (.inl f)))) (ht : ty[1]? = some (cA, .long)) (hin : ¬ (i < 0 ∨ n0 ≤ i.toNatClampNeg)) (hs : ws.set q0 (a, .inl (cA, n0, .inr (.inl (vp_updL f i.toNatClampNeg x)))) = ws') (hd : decode cc pc = .ok (.lastore, 1)) (kk : J p l e R s m args below meth c D A nL Q k n ws' lv st (pc + 1)) : J p l e R s m args below meth c D A nL Q k n ws lv (.long x :: .int i :: .ref a :: st) pc := by
  subst hs
  exact fun H locs ls h1 h2 h3 h4 h5 => va_last X.1.1 X.1.2.1 X.2.1.1 h2 h3 h4 q0 1 ha ht hin hd (fun H1 locs1 q1 q2 q3 => kk H1 locs1 ls h1 q1 q2 q3 h5)
theorem J_zald {a : Nat} {cA : ClassId} {n0 : Nat} {f : Nat → Int32} {i : Int32} (X : Cx p m c cc nL s args Ts own D ty meth ret) (q0 : Nat) (ha : ws[q0]? = some (a, .inl (cA, n0, .inl f))) (ht : ty[2]? = some (cA, .boolean)) (hin : ¬ (i < 0 ∨ n0 ≤ i.toNatClampNeg)) (hd : decode cc pc = .ok (.baload, 1)) (kk : J p l e R s m args below meth c D A nL Q k n ws lv (.int (f i.toNatClampNeg) :: st) (pc + 1)) : J p l e R s m args below meth c D A nL Q k n ws lv (.int i :: .ref a :: st) pc := fun H locs ls h1 h2 h3 h4 h5 => va_zald X.1.1 X.1.2.1 X.2.1.1 h2 q0 2 ha ht hin hd (kk H locs ls h1 h2 h3 h4 h5)
theorem J_zast {a : Nat} {cA : ClassId} {n0 : Nat} {f : Nat → Int32} {i : Int32} {x : Int32} (X : Cx p m c cc nL s args Ts own D ty meth ret) (q0 : Nat) (ha : ws[q0]? = some (a, .inl (cA, n0, .inl f))) (ht : ty[2]? = some (cA, .boolean)) (hin : ¬ (i < 0 ∨ n0 ≤ i.toNatClampNeg)) (hs : ws.set q0 (a, .inl (cA, n0, .inl (upd f i.toNatClampNeg (vp_nar .boolean x)))) = ws') (hd : decode cc pc = .ok (.bastore, 1)) (kk : J p l e R s m args below meth c D A nL Q k n ws' lv st (pc + 1)) : J p l e R s m args below meth c D A nL Q k n ws lv (.int x :: .int i :: .ref a :: st) pc := by
  subst hs
  exact fun H locs ls h1 h2 h3 h4 h5 => va_zast X.1.1 X.1.2.1 X.2.1.1 h2 h3 h4 q0 2 ha ht hin hd (fun H1 locs1 q1 q2 q3 => kk H1 locs1 ls h1 q1 q2 q3 h5)
theorem J_alen {a : Nat} {cA : ClassId} {xx : vp_A} {ety : FieldType} {v : Int32} (X : Cx p m c cc nL s args Ts own D ty meth ret) (q0 t0 : Nat) (ha : ws[q0]? = some (a, .inl (cA, xx))) (ht : ty[t0]? = some (cA, ety)) (hv : Int32.ofNat xx.1 = v) (hd : decode cc pc = .ok (.arraylength, 1)) (kk : J p l e R s m args below meth c D A nL Q k n ws lv (.int v :: st) (pc + 1)) : J p l e R s m args below meth c D A nL Q k n ws lv (.ref a :: st) pc := fun H locs ls h1 h2 h3 h4 h5 => va_alen X.1.1 X.1.2.1 X.2.1.1 h2 q0 t0 ha ht hv hd (kk H locs ls h1 h2 h3 h4 h5)
theorem J_mmax {x y : Int32} {index : Nat} (X : Cx p m c cc nL s args Ts own D ty meth ret) (g1 : Cond.methodLink own index Lib.Math.max.name ∈ Ts) (g2 : Cond.static Lib.Math.max.name ∈ Ts) (g3 : Cond.initialized "java/lang/Math" ∈ Ts) (g4 : Cond.code Lib.Math.max.name Lib.Math.max.code 2 (some .int) ∈ Ts) (g5 : 1 ≤ R.frames) (g6 : (st.map fun v => v.category).sum + 13 ≤ R.locals) (g7 : k ≤ R.cells) (g8 : n ≤ R.slots) (hd : decode cc pc = .ok (.invokestatic index, 3)) (kk : J p l e R s m args below meth c D A nL Q k n ws lv (.int (if x < y then y else x) :: st) (pc + 3)) : J p l e R s m args below meth c D A nL Q k n ws lv (.int y :: .int x :: st) pc := fun H locs ls h1 h2 h3 h4 h5 => va_mmax X.1.1 X.1.2.1 (by rw [X.1.2.2.1]; exact h1.1.symm) X.1.2.2.2.1 (X.1.2.2.2.2 _ g1) (X.1.2.2.2.2 _ g2) (X.1.2.2.2.2 _ g3) (X.1.2.2.2.2 _ g4) g5 g6 g7 g8 hd (kk H locs ls h1 h2 h3 h4 h5)
theorem J_mmin {x y : Int32} {index : Nat} (X : Cx p m c cc nL s args Ts own D ty meth ret) (g1 : Cond.methodLink own index Lib.Math.min.name ∈ Ts) (g2 : Cond.static Lib.Math.min.name ∈ Ts) (g3 : Cond.initialized "java/lang/Math" ∈ Ts) (g4 : Cond.code Lib.Math.min.name Lib.Math.min.code 2 (some .int) ∈ Ts) (g5 : 1 ≤ R.frames) (g6 : (st.map fun v => v.category).sum + 13 ≤ R.locals) (g7 : k ≤ R.cells) (g8 : n ≤ R.slots) (hd : decode cc pc = .ok (.invokestatic index, 3)) (kk : J p l e R s m args below meth c D A nL Q k n ws lv (.int (if y < x then y else x) :: st) (pc + 3)) : J p l e R s m args below meth c D A nL Q k n ws lv (.int y :: .int x :: st) pc := fun H locs ls h1 h2 h3 h4 h5 => va_mmin X.1.1 X.1.2.1 (by rw [X.1.2.2.1]; exact h1.1.symm) X.1.2.2.2.1 (X.1.2.2.2.2 _ g1) (X.1.2.2.2.2 _ g2) (X.1.2.2.2.2 _ g3) (X.1.2.2.2.2 _ g4) g5 g6 g7 g8 hd (kk H locs ls h1 h2 h3 h4 h5)
theorem J_iret {r : Int32} (X : Cx p m c cc nL s args Ts own D ty meth (some .int)) (hd : decode cc pc = .ok (.ireturn, 1)) : J p l e R s m args below meth c D A nL (QI D below args s A r ws) 0 0 ws lv [.int r] pc := fun H locs ls h1 h2 h3 h4 h5 => W.iret X.1.1 X.1.2.1 X.2.2.1 (fun t ht hW => ⟨⟨r, (), rfl, rfl, show va_P D vwCl ws t.heap by rw [ht]; exact h2⟩, h4.F ht⟩) h4.2.2 hd X.2.2.2
theorem J_lret {r : Int64} (X : Cx p m c cc nL s args Ts own D ty meth (some .long)) (hd : decode cc pc = .ok (.lreturn, 1)) : J p l e R s m args below meth c D A nL (QL D below args s A r ws) 0 0 ws lv [.long r] pc := fun H locs ls h1 h2 h3 h4 h5 => W.lret X.1.1 X.1.2.1 X.2.2.1 (fun t ht hW => ⟨⟨r, (), rfl, rfl, show va_P D vwCl ws t.heap by rw [ht]; exact h2⟩, h4.F ht⟩) h4.2.2 hd X.2.2.2
theorem J_zret {r : Int32} (X : Cx p m c cc nL s args Ts own D ty meth (some .boolean)) (hz : r = 0 ∨ r = 1) (hd : decode cc pc = .ok (.ireturn, 1)) : J p l e R s m args below meth c D A nL (QI D below args s A r ws) 0 0 ws lv [.int r] pc := fun H locs ls h1 h2 h3 h4 h5 => W.zret X.1.1 X.1.2.1 X.2.2.1 (by rcases hz with rfl | rfl <;> rfl) (fun t ht hW => ⟨⟨r, (), rfl, rfl, show va_P D vwCl ws t.heap by rw [ht]; exact h2⟩, h4.F ht⟩) h4.2.2 hd X.2.2.2
theorem J_vret (X : Cx p m c cc nL s args Ts own D ty meth none) (hd : decode cc pc = .ok (.return_, 1)) : J p l e R s m args below meth c D A nL (QV D below args s A ws) 0 0 ws lv [] pc := fun H locs ls h1 h2 h3 h4 h5 => W.vret X.1.1 X.1.2.1 X.2.2.1 (fun t ht hW => ⟨⟨(), rfl, trivial, show va_P D vwCl ws t.heap by rw [ht]; exact h2⟩, h4.F ht⟩) h4.2.2 hd X.2.2.2
theorem run_V {y : MethodName} {bytes : ByteArray} {maxL nP index : Nat} {rtc : Option FieldType} {W' : List Cond} {rm' : Room} {wc : va_W} {Qc : Nat → Array Value → State → Outcome → State → Prop} {C : String} {T : u_T} {N ci b : Nat} {fs As rest : List Value} (X : Cx p m c cc nL s args Ts own D ty meth ret) (hM : ∀ sz : Nat, Met l y W' rm' (Pre D ty wc (.ref b :: As) sz) (Qc sz) 0 0 (va_A wc sz)) (cw : CallW R s args own C index y bytes maxL rtc W' rm' 0 0 nP) (q0 : Nat) (hq : wc[q0]? = some (b, .inr (ci, fs))) (hc : vwCl[ci]? = some (C, T, N)) (hn : As.length = nP) (hst : st = As.reverse ++ .ref b :: rest) (hW : (rest.map fun v => v.category).sum ≤ 8) (hd : decode cc pc = .ok (.invokevirtual index, 3)) (hf : k + 0 ≤ R.cells ∧ n + 0 ≤ R.slots) :
    ∀ (H : Heap) (locs : List Loc) (ls : Array Slot), lv_has ls nL lv → va_P D vwCl wc H → va_D (fun _ => True) wc → va_Run p l e R s m args below meth c H locs k n 0 0 (F0 m pc ls st) rest (Qc H.size (Value.ref b :: As).toArray) (va_A wc H.size) := fun H locs ls h1 hP hD =>
  va_runV X.1 (hM H.size) cw ⟨Pre.blind, va_recv X.2.1.1 hP hc hq, fun U hU hWm => ⟨rfl, by rw [hU], by rw [hU]; exact hP, X.2.1.warm hWm, hD⟩⟩ rfl hn h1.1 hst (lv_room hW) hd hf
theorem run_S {y : MethodName} {bytes : ByteArray} {maxL nP index : Nat} {rtc : Option FieldType} {W' : List Cond} {rm' : Room} {wc : va_W} {Qc : Nat → Array Value → State → Outcome → State → Prop} {As rest : List Value} (X : Cx p m c cc nL s args Ts own D ty meth ret) (hM : ∀ sz : Nat, Met l y W' rm' (Pre D ty wc As sz) (Qc sz) 0 0 (va_A wc sz)) (cw : CallB R s args own index y bytes maxL rtc W' rm' 0 0 nP ∧ (Cond.static y).before args s = true) (hn : As.length = nP) (hst : st = As.reverse ++ rest) (hW : (rest.map fun v => v.category).sum ≤ 8) (hd : decode cc pc = .ok (.invokestatic index, 3)) (hf : k + 0 ≤ R.cells ∧ n + 0 ≤ R.slots) :
    ∀ (H : Heap) (locs : List Loc) (ls : Array Slot), lv_has ls nL lv → va_P D vwCl wc H → va_D (fun _ => True) wc → va_Run p l e R s m args below meth c H locs k n 0 0 (F0 m pc ls st) rest (Qc H.size As.toArray) (va_A wc H.size) := fun H locs ls h1 hP hD =>
  va_runS X.1 (hM H.size) cw ⟨Pre.blind, fun U hU hWm => ⟨rfl, by rw [hU], by rw [hU]; exact hP, X.2.1.warm hWm, hD⟩⟩ rfl hn h1.1 hst (lv_room hW) hd hf
theorem run_SN {y : MethodName} {bytes : ByteArray} {maxL nP index : Nat} {rtc : Option FieldType} {W' : List Cond} {rm' : Room} {wc : va_W} {host : String} {Qc : Nat → Array Value → State → Outcome → State → Prop} {As rest : List Value} (X : Cx p m c cc nL s args Ts own D ty meth ret) (hM : ∀ sz : Nat, Met l y W' rm' (Pre D ty wc As sz) (Qc sz) 0 0 (va_A wc sz)) (cw : va_CN R s args own index y host bytes maxL rtc W' rm' 0 0 nP ∧ (Cond.static y).before args s = true ∧ True) (hn : As.length = nP) (hst : st = As.reverse ++ rest) (hW : (rest.map fun v => v.category).sum ≤ 8) (hd : decode cc pc = .ok (.invokestatic index, 3)) (hf : k + 0 ≤ R.cells ∧ n + 0 ≤ R.slots) :
    ∀ (H : Heap) (locs : List Loc) (ls : Array Slot), lv_has ls nL lv → va_P D vwCl wc H → va_D (fun _ => True) wc → va_Run p l e R s m args below meth c H locs k n 0 0 (F0 m pc ls st) rest (Qc H.size As.toArray) (va_A wc H.size) := fun H locs ls h1 hP hD =>
  va_runSN X.1 (hM H.size) cw ⟨Pre.blind, fun U hU hWm => ⟨rfl, by rw [hU], by rw [hU]; exact hP, X.2.1.warm hWm, hD⟩⟩ rfl hn h1.1 hst (lv_room hW) hd hf
theorem J_ci {wc wc' : va_W} {r : Int32} {rest : List Value} {a : Array Value} (isC isR : List Nat) (n0 : Nat) (hn0 : ws.length = n0) (hn1 : ws'.length = n0) (hcov : covn isC isR n0 = true) (hC : isC.map (fun i => ws[i]?) = wc.map some) (hn : va_nd isC = true) (hC' : isC.map (fun i => ws'[i]?) = wc'.map some) (hA : wc'.map (fun q => q.1) = wc.map (fun q => q.1)) (hR : isR.map (fun i => ws'[i]?) = isR.map (fun i => ws[i]?)) (hrun : ∀ (H : Heap) (locs : List Loc) (ls : Array Slot), lv_has ls nL lv → va_P D vwCl wc H → va_D (fun _ => True) wc → va_Run p l e R s m args below meth c H locs k n 0 0 (F0 m pc ls st) rest (va_Qi (fun r2 (_ : Unit) => r2 = r) (fun _ t => va_P D vwCl wc' t.heap) (va_A wc H.size) a) (va_A wc H.size)) (kk : J p l e R s m args below meth c D A nL Q k n ws' lv (.int r :: rest) (pc + 3)) : J p l e R s m args below meth c D A nL Q k n ws lv st pc := by
  intro H locs ls h1 h2 h3 h4 h5
  have hPc := va_Psub h2 isC hC
  have hDc := (h3.sub isC hn hC).weaken (B := fun _ => True) (fun _ _ _ _ => trivial)
  have hFc := va_free h3 h4 h5 isC hC
  refine va_calli (hrun H locs ls h1 hPc hDc) h4 (fun q _ h => hFc q h) hFc (fun r2 u t H1 locs1 ht hvm hw hB hz1 hk1 hS => ?_)
  subst hw
  have hP1 : va_P D vwCl wc' H1 := by rw [← ht]; exact hB
  have hX := repl_X isC isR n0 hn1 hcov hC' hR
  exact kk H1 locs1 ls h1 (repl_P h2 h3 isC hC hX hk1 hP1) (repl_D h3 isC hC hC' hA hn0 hn1 hX) hS h5
theorem J_cl {wc wc' : va_W} {r : Int64} {rest : List Value} {a : Array Value} (isC isR : List Nat) (n0 : Nat) (hn0 : ws.length = n0) (hn1 : ws'.length = n0) (hcov : covn isC isR n0 = true) (hC : isC.map (fun i => ws[i]?) = wc.map some) (hn : va_nd isC = true) (hC' : isC.map (fun i => ws'[i]?) = wc'.map some) (hA : wc'.map (fun q => q.1) = wc.map (fun q => q.1)) (hR : isR.map (fun i => ws'[i]?) = isR.map (fun i => ws[i]?)) (hrun : ∀ (H : Heap) (locs : List Loc) (ls : Array Slot), lv_has ls nL lv → va_P D vwCl wc H → va_D (fun _ => True) wc → va_Run p l e R s m args below meth c H locs k n 0 0 (F0 m pc ls st) rest (va_Ql (fun r2 (_ : Unit) => r2 = r) (fun _ t => va_P D vwCl wc' t.heap) (va_A wc H.size) a) (va_A wc H.size)) (kk : J p l e R s m args below meth c D A nL Q k n ws' lv (.long r :: rest) (pc + 3)) : J p l e R s m args below meth c D A nL Q k n ws lv st pc := by
  intro H locs ls h1 h2 h3 h4 h5
  have hPc := va_Psub h2 isC hC
  have hDc := (h3.sub isC hn hC).weaken (B := fun _ => True) (fun _ _ _ _ => trivial)
  have hFc := va_free h3 h4 h5 isC hC
  refine va_calll (hrun H locs ls h1 hPc hDc) h4 (fun q _ h => hFc q h) hFc (fun r2 u t H1 locs1 ht hvm hw hB hz1 hk1 hS => ?_)
  subst hw
  have hP1 : va_P D vwCl wc' H1 := by rw [← ht]; exact hB
  have hX := repl_X isC isR n0 hn1 hcov hC' hR
  exact kk H1 locs1 ls h1 (repl_P h2 h3 isC hC hX hk1 hP1) (repl_D h3 isC hC hC' hA hn0 hn1 hX) hS h5
theorem J_cv {wc wc' : va_W}  {rest : List Value} {a : Array Value} (isC isR : List Nat) (n0 : Nat) (hn0 : ws.length = n0) (hn1 : ws'.length = n0) (hcov : covn isC isR n0 = true) (hC : isC.map (fun i => ws[i]?) = wc.map some) (hn : va_nd isC = true) (hC' : isC.map (fun i => ws'[i]?) = wc'.map some) (hA : wc'.map (fun q => q.1) = wc.map (fun q => q.1)) (hR : isR.map (fun i => ws'[i]?) = isR.map (fun i => ws[i]?)) (hrun : ∀ (H : Heap) (locs : List Loc) (ls : Array Slot), lv_has ls nL lv → va_P D vwCl wc H → va_D (fun _ => True) wc → va_Run p l e R s m args below meth c H locs k n 0 0 (F0 m pc ls st) rest (va_Qv (fun (_ : Unit) => True) (fun _ t => va_P D vwCl wc' t.heap) (va_A wc H.size) a) (va_A wc H.size)) (kk : J p l e R s m args below meth c D A nL Q k n ws' lv rest (pc + 3)) : J p l e R s m args below meth c D A nL Q k n ws lv st pc := by
  intro H locs ls h1 h2 h3 h4 h5
  have hPc := va_Psub h2 isC hC
  have hDc := (h3.sub isC hn hC).weaken (B := fun _ => True) (fun _ _ _ _ => trivial)
  have hFc := va_free h3 h4 h5 isC hC
  refine va_callv (hrun H locs ls h1 hPc hDc) h4 (fun q _ h => hFc q h) hFc (fun u t H1 locs1 ht hvm hw hB hz1 hk1 hS => ?_)
  skip
  have hP1 : va_P D vwCl wc' H1 := by rw [← ht]; exact hB
  have hX := repl_X isC isR n0 hn1 hcov hC' hR
  exact kk H1 locs1 ls h1 (repl_P h2 h3 isC hC hX hk1 hP1) (repl_D h3 isC hC hC' hA hn0 hn1 hX) hS h5

end JR
theorem Ci.ofJ {l : Launch} {y : MethodName} {W W' : List Cond} {rm : Room} {D : va_G} {ty : List (ClassId × FieldType)} {av : List Value} {ws ws' : va_W} {r : Int32} {cc : ByteArray} {nL : Nat} {rt : Option FieldType} {own : String} (hy : plainName y.cls = true) (hw : W = Cond.code y cc nL rt :: W') (ho : y.cls = own) (hn : (lg_sl av).length ≤ nL) (body : ∀ (p : Program) (e : Env) (s : State) (m : MethodId) (below : List Frame) (meth : Method) (c : Code) (A : Nat → Prop), Cx p m c cc nL s av.toArray W own D ty meth rt → J p l e rm s m av.toArray below meth c D A nL (QI D below av.toArray s A r ws') 0 0 ws (lv_args 0 av) [] 0) : Ci l y W rm D ty av ws r ws' := by
  intro sz
  refine Met.ofW (cc := cc) (maxL := nL) (ret := rt) hy hw ?_
  intro p e s m args below meth c s₁ B hml hv
  obtain ⟨rfl, hsz, hP, hK, hD0⟩ := hv
  subst hsz
  rw [lg_entry_eq]
  exact body p e s m below meth c (va_A ws s.heap.size) ⟨⟨B.exec, B.bytes, hml, by rw [← ho]; exact findClass_of_methodNamed B.named, atoms_spec (ws := W) B.pre⟩, hK, B.returns, B.notSynchronized⟩ s.heap [] _ (lv_entry av hn) hP (hD0.self (sz := s.heap.size)) va_S.rf (fun q h => Or.inr h)
theorem Cl.ofJ {l : Launch} {y : MethodName} {W W' : List Cond} {rm : Room} {D : va_G} {ty : List (ClassId × FieldType)} {av : List Value} {ws ws' : va_W} {r : Int64} {cc : ByteArray} {nL : Nat} {rt : Option FieldType} {own : String} (hy : plainName y.cls = true) (hw : W = Cond.code y cc nL rt :: W') (ho : y.cls = own) (hn : (lg_sl av).length ≤ nL) (body : ∀ (p : Program) (e : Env) (s : State) (m : MethodId) (below : List Frame) (meth : Method) (c : Code) (A : Nat → Prop), Cx p m c cc nL s av.toArray W own D ty meth rt → J p l e rm s m av.toArray below meth c D A nL (QL D below av.toArray s A r ws') 0 0 ws (lv_args 0 av) [] 0) : Cl l y W rm D ty av ws r ws' := by
  intro sz
  refine Met.ofW (cc := cc) (maxL := nL) (ret := rt) hy hw ?_
  intro p e s m args below meth c s₁ B hml hv
  obtain ⟨rfl, hsz, hP, hK, hD0⟩ := hv
  subst hsz
  rw [lg_entry_eq]
  exact body p e s m below meth c (va_A ws s.heap.size) ⟨⟨B.exec, B.bytes, hml, by rw [← ho]; exact findClass_of_methodNamed B.named, atoms_spec (ws := W) B.pre⟩, hK, B.returns, B.notSynchronized⟩ s.heap [] _ (lv_entry av hn) hP (hD0.self (sz := s.heap.size)) va_S.rf (fun q h => Or.inr h)
theorem Cv.ofJ {l : Launch} {y : MethodName} {W W' : List Cond} {rm : Room} {D : va_G} {ty : List (ClassId × FieldType)} {av : List Value} {ws ws' : va_W}  {cc : ByteArray} {nL : Nat} {rt : Option FieldType} {own : String} (hy : plainName y.cls = true) (hw : W = Cond.code y cc nL rt :: W') (ho : y.cls = own) (hn : (lg_sl av).length ≤ nL) (body : ∀ (p : Program) (e : Env) (s : State) (m : MethodId) (below : List Frame) (meth : Method) (c : Code) (A : Nat → Prop), Cx p m c cc nL s av.toArray W own D ty meth rt → J p l e rm s m av.toArray below meth c D A nL (QV D below av.toArray s A ws') 0 0 ws (lv_args 0 av) [] 0) : Cv l y W rm D ty av ws ws' := by
  intro sz
  refine Met.ofW (cc := cc) (maxL := nL) (ret := rt) hy hw ?_
  intro p e s m args below meth c s₁ B hml hv
  obtain ⟨rfl, hsz, hP, hK, hD0⟩ := hv
  subst hsz
  rw [lg_entry_eq]
  exact body p e s m below meth c (va_A ws s.heap.size) ⟨⟨B.exec, B.bytes, hml, by rw [← ho]; exact findClass_of_methodNamed B.named, atoms_spec (ws := W) B.pre⟩, hK, B.returns, B.notSynchronized⟩ s.heap [] _ (lv_entry av hn) hP (hD0.self (sz := s.heap.size)) va_S.rf (fun q h => Or.inr h)
-- taking a twin's answer apart
def lfuel : Nat := 5000
def ckn {R : Type} (c : Prop) [Decidable c] (x : Option R) : Option R := if c then none else x
theorem ckn_e {R : Type} {c : Prop} [Decidable c] {x : Option R} {r : R} (h : ckn c x = some r) : ¬ c ∧ x = some r := by
  unfold ckn at h
  by_cases hc : c
  · rw [if_pos hc] at h; cases h
  · rw [if_neg hc] at h; exact ⟨hc, h⟩
theorem ift {R : Type} {c : Prop} [Decidable c] {x y : Option R} {r : R} (h : (if c then x else y) = some r) (hc : c) : x = some r := by rw [if_pos hc] at h; exact h
theorem iff_ {R : Type} {c : Prop} [Decidable c] {x y : Option R} {r : R} (h : (if c then x else y) = some r) (hc : ¬ c) : y = some r := by rw [if_neg hc] at h; exact h
def bd1 {T0 R : Type} (x : Option (T0)) (g : T0 → Option R) : Option R := match x with
  | none => none
  | some u => g u
theorem bd1_e {T0 R : Type} {x : Option (T0)} {g : T0 → Option R} {r : R} (h : bd1 x g = some r) : ∃ u0, x = some u0 ∧ g u0 = some r := by
  cases x with
  | none => cases h
  | some u => exact ⟨u, rfl, h⟩
def bd2 {T0 T1 R : Type} (x : Option (T0 × T1)) (g : T0 → T1 → Option R) : Option R := match x with
  | none => none
  | some u => g u.1 u.2
theorem bd2_e {T0 T1 R : Type} {x : Option (T0 × T1)} {g : T0 → T1 → Option R} {r : R} (h : bd2 x g = some r) : ∃ u0 u1, x = some (u0, u1) ∧ g u0 u1 = some r := by
  cases x with
  | none => cases h
  | some u => exact ⟨u.1, u.2, rfl, h⟩
def bd3 {T0 T1 T2 R : Type} (x : Option (T0 × T1 × T2)) (g : T0 → T1 → T2 → Option R) : Option R := match x with
  | none => none
  | some u => g u.1 u.2.1 u.2.2
theorem bd3_e {T0 T1 T2 R : Type} {x : Option (T0 × T1 × T2)} {g : T0 → T1 → T2 → Option R} {r : R} (h : bd3 x g = some r) : ∃ u0 u1 u2, x = some (u0, u1, u2) ∧ g u0 u1 u2 = some r := by
  cases x with
  | none => cases h
  | some u => exact ⟨u.1, u.2.1, u.2.2, rfl, h⟩
def bd4 {T0 T1 T2 T3 R : Type} (x : Option (T0 × T1 × T2 × T3)) (g : T0 → T1 → T2 → T3 → Option R) : Option R := match x with
  | none => none
  | some u => g u.1 u.2.1 u.2.2.1 u.2.2.2
theorem bd4_e {T0 T1 T2 T3 R : Type} {x : Option (T0 × T1 × T2 × T3)} {g : T0 → T1 → T2 → T3 → Option R} {r : R} (h : bd4 x g = some r) : ∃ u0 u1 u2 u3, x = some (u0, u1, u2, u3) ∧ g u0 u1 u2 u3 = some r := by
  cases x with
  | none => cases h
  | some u => exact ⟨u.1, u.2.1, u.2.2.1, u.2.2.2, rfl, h⟩
def bd5 {T0 T1 T2 T3 T4 R : Type} (x : Option (T0 × T1 × T2 × T3 × T4)) (g : T0 → T1 → T2 → T3 → T4 → Option R) : Option R := match x with
  | none => none
  | some u => g u.1 u.2.1 u.2.2.1 u.2.2.2.1 u.2.2.2.2
theorem bd5_e {T0 T1 T2 T3 T4 R : Type} {x : Option (T0 × T1 × T2 × T3 × T4)} {g : T0 → T1 → T2 → T3 → T4 → Option R} {r : R} (h : bd5 x g = some r) : ∃ u0 u1 u2 u3 u4, x = some (u0, u1, u2, u3, u4) ∧ g u0 u1 u2 u3 u4 = some r := by
  cases x with
  | none => cases h
  | some u => exact ⟨u.1, u.2.1, u.2.2.1, u.2.2.2.1, u.2.2.2.2, rfl, h⟩
def bd6 {T0 T1 T2 T3 T4 T5 R : Type} (x : Option (T0 × T1 × T2 × T3 × T4 × T5)) (g : T0 → T1 → T2 → T3 → T4 → T5 → Option R) : Option R := match x with
  | none => none
  | some u => g u.1 u.2.1 u.2.2.1 u.2.2.2.1 u.2.2.2.2.1 u.2.2.2.2.2
theorem bd6_e {T0 T1 T2 T3 T4 T5 R : Type} {x : Option (T0 × T1 × T2 × T3 × T4 × T5)} {g : T0 → T1 → T2 → T3 → T4 → T5 → Option R} {r : R} (h : bd6 x g = some r) : ∃ u0 u1 u2 u3 u4 u5, x = some (u0, u1, u2, u3, u4, u5) ∧ g u0 u1 u2 u3 u4 u5 = some r := by
  cases x with
  | none => cases h
  | some u => exact ⟨u.1, u.2.1, u.2.2.1, u.2.2.2.1, u.2.2.2.2.1, u.2.2.2.2.2, rfl, h⟩
def bd7 {T0 T1 T2 T3 T4 T5 T6 R : Type} (x : Option (T0 × T1 × T2 × T3 × T4 × T5 × T6)) (g : T0 → T1 → T2 → T3 → T4 → T5 → T6 → Option R) : Option R := match x with
  | none => none
  | some u => g u.1 u.2.1 u.2.2.1 u.2.2.2.1 u.2.2.2.2.1 u.2.2.2.2.2.1 u.2.2.2.2.2.2
theorem bd7_e {T0 T1 T2 T3 T4 T5 T6 R : Type} {x : Option (T0 × T1 × T2 × T3 × T4 × T5 × T6)} {g : T0 → T1 → T2 → T3 → T4 → T5 → T6 → Option R} {r : R} (h : bd7 x g = some r) : ∃ u0 u1 u2 u3 u4 u5 u6, x = some (u0, u1, u2, u3, u4, u5, u6) ∧ g u0 u1 u2 u3 u4 u5 u6 = some r := by
  cases x with
  | none => cases h
  | some u => exact ⟨u.1, u.2.1, u.2.2.1, u.2.2.2.1, u.2.2.2.2.1, u.2.2.2.2.2.1, u.2.2.2.2.2.2, rfl, h⟩
def bd8 {T0 T1 T2 T3 T4 T5 T6 T7 R : Type} (x : Option (T0 × T1 × T2 × T3 × T4 × T5 × T6 × T7)) (g : T0 → T1 → T2 → T3 → T4 → T5 → T6 → T7 → Option R) : Option R := match x with
  | none => none
  | some u => g u.1 u.2.1 u.2.2.1 u.2.2.2.1 u.2.2.2.2.1 u.2.2.2.2.2.1 u.2.2.2.2.2.2.1 u.2.2.2.2.2.2.2
theorem bd8_e {T0 T1 T2 T3 T4 T5 T6 T7 R : Type} {x : Option (T0 × T1 × T2 × T3 × T4 × T5 × T6 × T7)} {g : T0 → T1 → T2 → T3 → T4 → T5 → T6 → T7 → Option R} {r : R} (h : bd8 x g = some r) : ∃ u0 u1 u2 u3 u4 u5 u6 u7, x = some (u0, u1, u2, u3, u4, u5, u6, u7) ∧ g u0 u1 u2 u3 u4 u5 u6 u7 = some r := by
  cases x with
  | none => cases h
  | some u => exact ⟨u.1, u.2.1, u.2.2.1, u.2.2.2.1, u.2.2.2.2.1, u.2.2.2.2.2.1, u.2.2.2.2.2.2.1, u.2.2.2.2.2.2.2, rfl, h⟩
def bd9 {T0 T1 T2 T3 T4 T5 T6 T7 T8 R : Type} (x : Option (T0 × T1 × T2 × T3 × T4 × T5 × T6 × T7 × T8)) (g : T0 → T1 → T2 → T3 → T4 → T5 → T6 → T7 → T8 → Option R) : Option R := match x with
  | none => none
  | some u => g u.1 u.2.1 u.2.2.1 u.2.2.2.1 u.2.2.2.2.1 u.2.2.2.2.2.1 u.2.2.2.2.2.2.1 u.2.2.2.2.2.2.2.1 u.2.2.2.2.2.2.2.2
theorem bd9_e {T0 T1 T2 T3 T4 T5 T6 T7 T8 R : Type} {x : Option (T0 × T1 × T2 × T3 × T4 × T5 × T6 × T7 × T8)} {g : T0 → T1 → T2 → T3 → T4 → T5 → T6 → T7 → T8 → Option R} {r : R} (h : bd9 x g = some r) : ∃ u0 u1 u2 u3 u4 u5 u6 u7 u8, x = some (u0, u1, u2, u3, u4, u5, u6, u7, u8) ∧ g u0 u1 u2 u3 u4 u5 u6 u7 u8 = some r := by
  cases x with
  | none => cases h
  | some u => exact ⟨u.1, u.2.1, u.2.2.1, u.2.2.2.1, u.2.2.2.2.1, u.2.2.2.2.2.1, u.2.2.2.2.2.2.1, u.2.2.2.2.2.2.2.1, u.2.2.2.2.2.2.2.2, rfl, h⟩
def bd10 {T0 T1 T2 T3 T4 T5 T6 T7 T8 T9 R : Type} (x : Option (T0 × T1 × T2 × T3 × T4 × T5 × T6 × T7 × T8 × T9)) (g : T0 → T1 → T2 → T3 → T4 → T5 → T6 → T7 → T8 → T9 → Option R) : Option R := match x with
  | none => none
  | some u => g u.1 u.2.1 u.2.2.1 u.2.2.2.1 u.2.2.2.2.1 u.2.2.2.2.2.1 u.2.2.2.2.2.2.1 u.2.2.2.2.2.2.2.1 u.2.2.2.2.2.2.2.2.1 u.2.2.2.2.2.2.2.2.2
theorem bd10_e {T0 T1 T2 T3 T4 T5 T6 T7 T8 T9 R : Type} {x : Option (T0 × T1 × T2 × T3 × T4 × T5 × T6 × T7 × T8 × T9)} {g : T0 → T1 → T2 → T3 → T4 → T5 → T6 → T7 → T8 → T9 → Option R} {r : R} (h : bd10 x g = some r) : ∃ u0 u1 u2 u3 u4 u5 u6 u7 u8 u9, x = some (u0, u1, u2, u3, u4, u5, u6, u7, u8, u9) ∧ g u0 u1 u2 u3 u4 u5 u6 u7 u8 u9 = some r := by
  cases x with
  | none => cases h
  | some u => exact ⟨u.1, u.2.1, u.2.2.1, u.2.2.2.1, u.2.2.2.2.1, u.2.2.2.2.2.1, u.2.2.2.2.2.2.1, u.2.2.2.2.2.2.2.1, u.2.2.2.2.2.2.2.2.1, u.2.2.2.2.2.2.2.2.2, rfl, h⟩
def bd11 {T0 T1 T2 T3 T4 T5 T6 T7 T8 T9 T10 R : Type} (x : Option (T0 × T1 × T2 × T3 × T4 × T5 × T6 × T7 × T8 × T9 × T10)) (g : T0 → T1 → T2 → T3 → T4 → T5 → T6 → T7 → T8 → T9 → T10 → Option R) : Option R := match x with
  | none => none
  | some u => g u.1 u.2.1 u.2.2.1 u.2.2.2.1 u.2.2.2.2.1 u.2.2.2.2.2.1 u.2.2.2.2.2.2.1 u.2.2.2.2.2.2.2.1 u.2.2.2.2.2.2.2.2.1 u.2.2.2.2.2.2.2.2.2.1 u.2.2.2.2.2.2.2.2.2.2
theorem bd11_e {T0 T1 T2 T3 T4 T5 T6 T7 T8 T9 T10 R : Type} {x : Option (T0 × T1 × T2 × T3 × T4 × T5 × T6 × T7 × T8 × T9 × T10)} {g : T0 → T1 → T2 → T3 → T4 → T5 → T6 → T7 → T8 → T9 → T10 → Option R} {r : R} (h : bd11 x g = some r) : ∃ u0 u1 u2 u3 u4 u5 u6 u7 u8 u9 u10, x = some (u0, u1, u2, u3, u4, u5, u6, u7, u8, u9, u10) ∧ g u0 u1 u2 u3 u4 u5 u6 u7 u8 u9 u10 = some r := by
  cases x with
  | none => cases h
  | some u => exact ⟨u.1, u.2.1, u.2.2.1, u.2.2.2.1, u.2.2.2.2.1, u.2.2.2.2.2.1, u.2.2.2.2.2.2.1, u.2.2.2.2.2.2.2.1, u.2.2.2.2.2.2.2.2.1, u.2.2.2.2.2.2.2.2.2.1, u.2.2.2.2.2.2.2.2.2.2, rfl, h⟩
def bd12 {T0 T1 T2 T3 T4 T5 T6 T7 T8 T9 T10 T11 R : Type} (x : Option (T0 × T1 × T2 × T3 × T4 × T5 × T6 × T7 × T8 × T9 × T10 × T11)) (g : T0 → T1 → T2 → T3 → T4 → T5 → T6 → T7 → T8 → T9 → T10 → T11 → Option R) : Option R := match x with
  | none => none
  | some u => g u.1 u.2.1 u.2.2.1 u.2.2.2.1 u.2.2.2.2.1 u.2.2.2.2.2.1 u.2.2.2.2.2.2.1 u.2.2.2.2.2.2.2.1 u.2.2.2.2.2.2.2.2.1 u.2.2.2.2.2.2.2.2.2.1 u.2.2.2.2.2.2.2.2.2.2.1 u.2.2.2.2.2.2.2.2.2.2.2
theorem bd12_e {T0 T1 T2 T3 T4 T5 T6 T7 T8 T9 T10 T11 R : Type} {x : Option (T0 × T1 × T2 × T3 × T4 × T5 × T6 × T7 × T8 × T9 × T10 × T11)} {g : T0 → T1 → T2 → T3 → T4 → T5 → T6 → T7 → T8 → T9 → T10 → T11 → Option R} {r : R} (h : bd12 x g = some r) : ∃ u0 u1 u2 u3 u4 u5 u6 u7 u8 u9 u10 u11, x = some (u0, u1, u2, u3, u4, u5, u6, u7, u8, u9, u10, u11) ∧ g u0 u1 u2 u3 u4 u5 u6 u7 u8 u9 u10 u11 = some r := by
  cases x with
  | none => cases h
  | some u => exact ⟨u.1, u.2.1, u.2.2.1, u.2.2.2.1, u.2.2.2.2.1, u.2.2.2.2.2.1, u.2.2.2.2.2.2.1, u.2.2.2.2.2.2.2.1, u.2.2.2.2.2.2.2.2.1, u.2.2.2.2.2.2.2.2.2.1, u.2.2.2.2.2.2.2.2.2.2.1, u.2.2.2.2.2.2.2.2.2.2.2, rfl, h⟩
def bd13 {T0 T1 T2 T3 T4 T5 T6 T7 T8 T9 T10 T11 T12 R : Type} (x : Option (T0 × T1 × T2 × T3 × T4 × T5 × T6 × T7 × T8 × T9 × T10 × T11 × T12)) (g : T0 → T1 → T2 → T3 → T4 → T5 → T6 → T7 → T8 → T9 → T10 → T11 → T12 → Option R) : Option R := match x with
  | none => none
  | some u => g u.1 u.2.1 u.2.2.1 u.2.2.2.1 u.2.2.2.2.1 u.2.2.2.2.2.1 u.2.2.2.2.2.2.1 u.2.2.2.2.2.2.2.1 u.2.2.2.2.2.2.2.2.1 u.2.2.2.2.2.2.2.2.2.1 u.2.2.2.2.2.2.2.2.2.2.1 u.2.2.2.2.2.2.2.2.2.2.2.1 u.2.2.2.2.2.2.2.2.2.2.2.2
theorem bd13_e {T0 T1 T2 T3 T4 T5 T6 T7 T8 T9 T10 T11 T12 R : Type} {x : Option (T0 × T1 × T2 × T3 × T4 × T5 × T6 × T7 × T8 × T9 × T10 × T11 × T12)} {g : T0 → T1 → T2 → T3 → T4 → T5 → T6 → T7 → T8 → T9 → T10 → T11 → T12 → Option R} {r : R} (h : bd13 x g = some r) : ∃ u0 u1 u2 u3 u4 u5 u6 u7 u8 u9 u10 u11 u12, x = some (u0, u1, u2, u3, u4, u5, u6, u7, u8, u9, u10, u11, u12) ∧ g u0 u1 u2 u3 u4 u5 u6 u7 u8 u9 u10 u11 u12 = some r := by
  cases x with
  | none => cases h
  | some u => exact ⟨u.1, u.2.1, u.2.2.1, u.2.2.2.1, u.2.2.2.2.1, u.2.2.2.2.2.1, u.2.2.2.2.2.2.1, u.2.2.2.2.2.2.2.1, u.2.2.2.2.2.2.2.2.1, u.2.2.2.2.2.2.2.2.2.1, u.2.2.2.2.2.2.2.2.2.2.1, u.2.2.2.2.2.2.2.2.2.2.2.1, u.2.2.2.2.2.2.2.2.2.2.2.2, rfl, h⟩
def bd14 {T0 T1 T2 T3 T4 T5 T6 T7 T8 T9 T10 T11 T12 T13 R : Type} (x : Option (T0 × T1 × T2 × T3 × T4 × T5 × T6 × T7 × T8 × T9 × T10 × T11 × T12 × T13)) (g : T0 → T1 → T2 → T3 → T4 → T5 → T6 → T7 → T8 → T9 → T10 → T11 → T12 → T13 → Option R) : Option R := match x with
  | none => none
  | some u => g u.1 u.2.1 u.2.2.1 u.2.2.2.1 u.2.2.2.2.1 u.2.2.2.2.2.1 u.2.2.2.2.2.2.1 u.2.2.2.2.2.2.2.1 u.2.2.2.2.2.2.2.2.1 u.2.2.2.2.2.2.2.2.2.1 u.2.2.2.2.2.2.2.2.2.2.1 u.2.2.2.2.2.2.2.2.2.2.2.1 u.2.2.2.2.2.2.2.2.2.2.2.2.1 u.2.2.2.2.2.2.2.2.2.2.2.2.2
theorem bd14_e {T0 T1 T2 T3 T4 T5 T6 T7 T8 T9 T10 T11 T12 T13 R : Type} {x : Option (T0 × T1 × T2 × T3 × T4 × T5 × T6 × T7 × T8 × T9 × T10 × T11 × T12 × T13)} {g : T0 → T1 → T2 → T3 → T4 → T5 → T6 → T7 → T8 → T9 → T10 → T11 → T12 → T13 → Option R} {r : R} (h : bd14 x g = some r) : ∃ u0 u1 u2 u3 u4 u5 u6 u7 u8 u9 u10 u11 u12 u13, x = some (u0, u1, u2, u3, u4, u5, u6, u7, u8, u9, u10, u11, u12, u13) ∧ g u0 u1 u2 u3 u4 u5 u6 u7 u8 u9 u10 u11 u12 u13 = some r := by
  cases x with
  | none => cases h
  | some u => exact ⟨u.1, u.2.1, u.2.2.1, u.2.2.2.1, u.2.2.2.2.1, u.2.2.2.2.2.1, u.2.2.2.2.2.2.1, u.2.2.2.2.2.2.2.1, u.2.2.2.2.2.2.2.2.1, u.2.2.2.2.2.2.2.2.2.1, u.2.2.2.2.2.2.2.2.2.2.1, u.2.2.2.2.2.2.2.2.2.2.2.1, u.2.2.2.2.2.2.2.2.2.2.2.2.1, u.2.2.2.2.2.2.2.2.2.2.2.2.2, rfl, h⟩
def bd15 {T0 T1 T2 T3 T4 T5 T6 T7 T8 T9 T10 T11 T12 T13 T14 R : Type} (x : Option (T0 × T1 × T2 × T3 × T4 × T5 × T6 × T7 × T8 × T9 × T10 × T11 × T12 × T13 × T14)) (g : T0 → T1 → T2 → T3 → T4 → T5 → T6 → T7 → T8 → T9 → T10 → T11 → T12 → T13 → T14 → Option R) : Option R := match x with
  | none => none
  | some u => g u.1 u.2.1 u.2.2.1 u.2.2.2.1 u.2.2.2.2.1 u.2.2.2.2.2.1 u.2.2.2.2.2.2.1 u.2.2.2.2.2.2.2.1 u.2.2.2.2.2.2.2.2.1 u.2.2.2.2.2.2.2.2.2.1 u.2.2.2.2.2.2.2.2.2.2.1 u.2.2.2.2.2.2.2.2.2.2.2.1 u.2.2.2.2.2.2.2.2.2.2.2.2.1 u.2.2.2.2.2.2.2.2.2.2.2.2.2.1 u.2.2.2.2.2.2.2.2.2.2.2.2.2.2
theorem bd15_e {T0 T1 T2 T3 T4 T5 T6 T7 T8 T9 T10 T11 T12 T13 T14 R : Type} {x : Option (T0 × T1 × T2 × T3 × T4 × T5 × T6 × T7 × T8 × T9 × T10 × T11 × T12 × T13 × T14)} {g : T0 → T1 → T2 → T3 → T4 → T5 → T6 → T7 → T8 → T9 → T10 → T11 → T12 → T13 → T14 → Option R} {r : R} (h : bd15 x g = some r) : ∃ u0 u1 u2 u3 u4 u5 u6 u7 u8 u9 u10 u11 u12 u13 u14, x = some (u0, u1, u2, u3, u4, u5, u6, u7, u8, u9, u10, u11, u12, u13, u14) ∧ g u0 u1 u2 u3 u4 u5 u6 u7 u8 u9 u10 u11 u12 u13 u14 = some r := by
  cases x with
  | none => cases h
  | some u => exact ⟨u.1, u.2.1, u.2.2.1, u.2.2.2.1, u.2.2.2.2.1, u.2.2.2.2.2.1, u.2.2.2.2.2.2.1, u.2.2.2.2.2.2.2.1, u.2.2.2.2.2.2.2.2.1, u.2.2.2.2.2.2.2.2.2.1, u.2.2.2.2.2.2.2.2.2.2.1, u.2.2.2.2.2.2.2.2.2.2.2.1, u.2.2.2.2.2.2.2.2.2.2.2.2.1, u.2.2.2.2.2.2.2.2.2.2.2.2.2.1, u.2.2.2.2.2.2.2.2.2.2.2.2.2.2, rfl, h⟩
def bd16 {T0 T1 T2 T3 T4 T5 T6 T7 T8 T9 T10 T11 T12 T13 T14 T15 R : Type} (x : Option (T0 × T1 × T2 × T3 × T4 × T5 × T6 × T7 × T8 × T9 × T10 × T11 × T12 × T13 × T14 × T15)) (g : T0 → T1 → T2 → T3 → T4 → T5 → T6 → T7 → T8 → T9 → T10 → T11 → T12 → T13 → T14 → T15 → Option R) : Option R := match x with
  | none => none
  | some u => g u.1 u.2.1 u.2.2.1 u.2.2.2.1 u.2.2.2.2.1 u.2.2.2.2.2.1 u.2.2.2.2.2.2.1 u.2.2.2.2.2.2.2.1 u.2.2.2.2.2.2.2.2.1 u.2.2.2.2.2.2.2.2.2.1 u.2.2.2.2.2.2.2.2.2.2.1 u.2.2.2.2.2.2.2.2.2.2.2.1 u.2.2.2.2.2.2.2.2.2.2.2.2.1 u.2.2.2.2.2.2.2.2.2.2.2.2.2.1 u.2.2.2.2.2.2.2.2.2.2.2.2.2.2.1 u.2.2.2.2.2.2.2.2.2.2.2.2.2.2.2
theorem bd16_e {T0 T1 T2 T3 T4 T5 T6 T7 T8 T9 T10 T11 T12 T13 T14 T15 R : Type} {x : Option (T0 × T1 × T2 × T3 × T4 × T5 × T6 × T7 × T8 × T9 × T10 × T11 × T12 × T13 × T14 × T15)} {g : T0 → T1 → T2 → T3 → T4 → T5 → T6 → T7 → T8 → T9 → T10 → T11 → T12 → T13 → T14 → T15 → Option R} {r : R} (h : bd16 x g = some r) : ∃ u0 u1 u2 u3 u4 u5 u6 u7 u8 u9 u10 u11 u12 u13 u14 u15, x = some (u0, u1, u2, u3, u4, u5, u6, u7, u8, u9, u10, u11, u12, u13, u14, u15) ∧ g u0 u1 u2 u3 u4 u5 u6 u7 u8 u9 u10 u11 u12 u13 u14 u15 = some r := by
  cases x with
  | none => cases h
  | some u => exact ⟨u.1, u.2.1, u.2.2.1, u.2.2.2.1, u.2.2.2.2.1, u.2.2.2.2.2.1, u.2.2.2.2.2.2.1, u.2.2.2.2.2.2.2.1, u.2.2.2.2.2.2.2.2.1, u.2.2.2.2.2.2.2.2.2.1, u.2.2.2.2.2.2.2.2.2.2.1, u.2.2.2.2.2.2.2.2.2.2.2.1, u.2.2.2.2.2.2.2.2.2.2.2.2.1, u.2.2.2.2.2.2.2.2.2.2.2.2.2.1, u.2.2.2.2.2.2.2.2.2.2.2.2.2.2.1, u.2.2.2.2.2.2.2.2.2.2.2.2.2.2.2, rfl, h⟩
