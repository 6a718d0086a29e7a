-- the greatest lean of each match, one number
def GT (n : Nat) (base : Int32) (goals guest home prices skills told : Nat → Int32) (G : Nat → Int32) : Prop := ∀ m, m < n → (∀ tl ts u0 l0 cs, Ok (t_X2_seekTop base tl ts u0 l0 goals guest home prices skills cs (nI m)) (fun u => u.1 = G m)) ∧ ∀ u0 l0 ga next ways, Ok (t_X11_greatestOf u0 l0 ga goals guest home next prices skills told ways (nI m)) (fun u => u.1 = G m)
theorem gt_ex {n : Nat} (hn : n ≤ 12) {base : Int32} {skills home guest told : Nat → Int32} (h0 : told 0 = base) (hh : ∀ j, j < n → rg (home j) 8) (hg : ∀ j, j < n → rg (guest j) 8) (goals prices : Nat → Int32) (hpr : ∀ j, prices j = 0 ∨ ∃ k : Nat, 100 ≤ k ∧ k ≤ 10000 ∧ prices j = nI k) : ∃ G, GT n base goals guest home prices skills told G := by
  have ex : ∀ m, ∃ g : Int32, m < n → (∀ tl ts u0 l0 cs, Ok (t_X2_seekTop base tl ts u0 l0 goals guest home prices skills cs (nI m)) (fun u => u.1 = g)) ∧ ∀ u0 l0 ga next ways, Ok (t_X11_greatestOf u0 l0 ga goals guest home next prices skills told ways (nI m)) (fun u => u.1 = g) := by
    intro m
    by_cases hm : m < n
    · obtain ⟨p, q, hG⟩ := GC.mk (skills := skills) hn hm h0 hh hg
      exact ⟨(grV (lnF goals prices m p q) 17).1, fun _ => ⟨fun tl ts u0 l0 cs => (seekTop_ok hG goals prices hpr tl ts u0 l0 cs).mono (fun v hv => hv.1), fun u0 l0 ga next ways => (greatestOf_ok hG goals prices hpr u0 l0 ga next ways).mono (fun v hv => hv.1)⟩⟩
    · exact ⟨0, fun h => absurd h hm⟩
  exact ⟨fun m => Classical.choose (ex m), fun m hm => Classical.choose_spec (ex m) hm⟩
def SS (G : Nat → Int32) (s : Nat) : Nat → Int32
  | 0 => 0
  | k + 1 => SS G s k + (if s.testBit k = true then G k else 0)
theorem SS_cong {G F : Nat → Int32} (s : Nat) : ∀ {k : Nat}, (∀ j, j < k → G j = F j) → SS G s k = SS F s k
  | 0, _ => rfl
  | k + 1, h => by rw [SS, SS, SS_cong s (fun j hj => h j (by omega)), h k (by omega)]
theorem SS_0 (G : Nat → Int32) : ∀ k, SS G 0 k = 0
  | 0 => rfl
  | k + 1 => by rw [SS, SS_0 G k, Nat.zero_testBit]; rfl
theorem SS_hi {G : Nat → Int32} {s t i : Nat} (h : ∀ j, i ≤ j → s.testBit j = t.testBit j) : ∀ {n : Nat}, i ≤ n → SS G s n + (SS G t i - SS G s i) = SS G t n
  | 0, hn => by
    have : i = 0 := by omega
    subst this
    rw [SS, SS]; decide
  | n + 1, hn => by
    by_cases e : i = n + 1
    · subst e
      grind
    · have ih := SS_hi (G := G) h (n := n) (by omega)
      rw [SS, SS, h n (by omega)]
      generalize (if t.testBit n = true then G n else 0) = z
      grind
theorem tbm {s i : Nat} (hs : s < 2 ^ 31) (hi : i < 32) (g : Int32) : ((nI s >>> (nI i &&& 31)) &&& 1) * g = if s.testBit i = true then g else 0 := by
  rw [tb hs hi]
  cases s.testBit i
  · simp
  · simp
theorem change_ok {n s t : Nat} (hn : n ≤ 12) (hs : s < 2 ^ 12) (ht : t < 2 ^ 12) {G leans fee : Nat → Int32} (hl : ∀ j, j < n → leans j = G j) : Ok (t_X5_change (nI n) (SS G s n) (SS fee s n) fee leans (nI s) (nI t)) (fun u => u = (SS G t n, SS fee t n)) := by
  unfold t_X5_change
  refine lr_X5_change_3 _ (fun i c su co fe le x1 x2 x4 => nI n = c ∧ fee = fe ∧ leans = le ∧ x1 = nI s ∧ x2 = nI t ∧ x4 = nI i ∧ su = SS G s n + (SS G t i - SS G s i) ∧ co = SS fee s n + (SS fee t i - SS fee s i)) n ?_ ?_ lfuel 0 _ _ _ _ _ _ _ _ (Nat.zero_le _) (by unfold lfuel; omega) ?_
  · rintro kk i c su co fe le x1 x2 x4 hi ⟨d1, d2, d3, d4, d5, d6, d7, d8⟩ hk
    subst d1 d2 d3 d4 d5 d6 d7 d8
    unfold t_X5_change_3_b
    refine Ok.neg (nI_ge hi (by omega)) (Ok.ite (fun c => Ok.ret ?_) (fun c => ?_))
    · rw [shb (by omega) (by omega), shb (by omega) (by omega), nI_eq (Nat.lt_of_le_of_lt (Nat.div_le_self _ _) (by omega)) (Nat.lt_of_le_of_lt (Nat.div_le_self _ _) (by omega))] at c
      have hb : ∀ j, i ≤ j → s.testBit j = t.testBit j := fun j hj => by
        have e1 : (s / 2 ^ i).testBit (j - i) = (t / 2 ^ i).testBit (j - i) := by rw [c]
        rw [Nat.testBit_div_two_pow, Nat.testBit_div_two_pow, show j - i + i = j by omega] at e1
        exact e1
      rw [SS_hi hb (by omega), SS_hi hb (by omega)]
    · rw [nI_clamp (by omega), ckn_m (by omega) (by decide), ckn_m (by omega) (by decide), hl i hi, tb (by omega) (by omega), tb (by omega) (by omega)]
      apply hk
      refine ⟨rfl, rfl, rfl, rfl, rfl, nI_1 i, ?_, ?_⟩
      · rw [SS, SS]
        cases s.testBit i <;> cases t.testBit i <;> simp <;> grind
      · rw [SS, SS]
        cases s.testBit i <;> cases t.testBit i <;> simp <;> grind
  · rintro kk c su co fe le x1 x2 x4 ⟨d1, d2, d3, d4, d5, d6, d7, d8⟩
    subst d1 d2 d3 d4 d5 d6 d7 d8
    unfold t_X5_change_3_b
    refine Ok.pos (nI_le (Nat.le_refl _) (by omega)) (Ok.ret ?_)
    rw [show SS G s n + (SS G t n - SS G s n) = SS G t n by grind, show SS fee s n + (SS fee t n - SS fee s n) = SS fee t n by grind]
  · refine ⟨rfl, rfl, rfl, rfl, rfl, rfl, ?_, ?_⟩
    · rw [SS, SS]; grind
    · rw [SS, SS]; grind
theorem worthy_ok {n : Nat} (hn : n ≤ 12) {base : Int32} {goals guest home prices skills told G : Nat → Int32} (hG : GT n base goals guest home prices skills told G) (tl ts : Int32) (u0 l0 : Int64) (le0 : Nat → Int32) (cs : Nat → Int64) : Ok (t_X5_seekWorthy (nI n) base tl ts u0 l0 goals guest home prices skills le0 cs) (fun v => (∃ W : Nat, W < 2 ^ 12 ∧ v.1 = nI W ∧ ∀ j, W.testBit j = true ↔ j < n ∧ ¬ G j ≤ 0) ∧ ∀ j, j < n → v.2.2.2.2.2.1 j = G j) := by
  unfold t_X5_seekWorthy
  refine lr_X5_seekWorthy_4 _ (fun i c ba tl ts u l go gu ho pr sk le oc x2 x3 => nI n = c ∧ base = ba ∧ goals = go ∧ guest = gu ∧ home = ho ∧ prices = pr ∧ skills = sk ∧ x3 = nI i ∧ (∃ W : Nat, W < 2 ^ 12 ∧ x2 = nI W ∧ ∀ j, W.testBit j = true ↔ j < i ∧ ¬ G j ≤ 0) ∧ ∀ j, j < i → le j = G j) n ?_ ?_ lfuel 0 _ _ _ _ _ _ _ _ _ _ _ _ _ _ _ (Nat.zero_le _) (by unfold lfuel; omega) ?_
  · rintro kk i c ba tl ts u l go gu ho pr sk le oc x2 x3 hi ⟨d1, d2, d3, d4, d5, d6, d7, d8, ⟨W, w1, w2, w3⟩, d9⟩ hk
    subst d1 d2 d3 d4 d5 d6 d7 d8 w2
    unfold t_X5_seekWorthy_4_b t_X5_seekWorthy_42
    refine Ok.neg (nI_ge hi (by omega)) (Ok.bd5 ((hG i hi).1 tl ts u l oc) (fun a0 a1 a2 a3 a4 ha => ?_))
    simp only at ha
    subst ha
    rw [nI_clamp (by omega), ckn_m (by omega) (by decide), ckn_m (by omega) (by decide), pk_us, sh1 (by omega), fa_or]
    have hle : ∀ j, j < i + 1 → upd le i (G i) j = G j := fun j hj => by
      by_cases e : j = i
      · subst e; exact pk_us
      · rw [pk_un e]; exact d9 j (by omega)
    refine Ok.ite (fun c => ?_) (fun c => ?_)
    · apply hk
      refine ⟨rfl, rfl, rfl, rfl, rfl, rfl, rfl, nI_1 i, ⟨W, w1, rfl, fun j => ?_⟩, hle⟩
      rw [w3]
      constructor
      · rintro ⟨q1, q2⟩; exact ⟨by omega, q2⟩
      · rintro ⟨q1, q2⟩
        by_cases e : j = i
        · subst e; exact absurd c q2
        · exact ⟨by omega, q2⟩
    · apply hk
      refine ⟨rfl, rfl, rfl, rfl, rfl, rfl, rfl, nI_1 i, ⟨_, or_lt w1 (bit_lt (by omega)), rfl, fun j => ?_⟩, hle⟩
      rw [or_tb, pw_tb, w3]
      constructor
      · rintro (⟨q1, q2⟩ | q)
        · exact ⟨by omega, q2⟩
        · subst q; exact ⟨by omega, c⟩
      · rintro ⟨q1, q2⟩
        by_cases e : i = j
        · exact Or.inr e
        · exact Or.inl ⟨by omega, q2⟩
  · rintro kk c ba tl ts u l go gu ho pr sk le oc x2 x3 ⟨d1, d2, d3, d4, d5, d6, d7, d8, d9, d10⟩
    subst d1 d2 d3 d4 d5 d6 d7 d8
    unfold t_X5_seekWorthy_4_b
    exact Ok.pos (nI_le (Nat.le_refl _) (by omega)) (Ok.ret ⟨d9, d10⟩)
  · refine ⟨rfl, rfl, rfl, rfl, rfl, rfl, rfl, rfl, ⟨0, by decide, rfl, fun j => ?_⟩, fun j hj => absurd hj (Nat.not_lt_zero j)⟩
    rw [Nat.zero_testBit]
    exact ⟨fun e => (by cases e), fun e => absurd e.1 (Nat.not_lt_zero j)⟩
-- the best so far
def lkC (W : Nat) (purse : Int32) (S C : Nat → Int32) (t : Nat) (bs bc : Int32) : Prop := subM W t ∧ C t ≤ purse ∧ (bs < S t ∨ (S t = bs ∧ C t < bc))
noncomputable def lkB (W : Nat) (purse : Int32) (S C : Nat → Int32) : Nat → Nat × Int32 × Int32
  | 0 => (0, 0, 0)
  | t + 1 => @ite _ (lkC W purse S C t (lkB W purse S C t).2.1 (lkB W purse S C t).2.2) (Classical.propDecidable _) (t, S t, C t) (lkB W purse S C t)
theorem lkB_y {W : Nat} {purse : Int32} {S C : Nat → Int32} {t : Nat} (h : lkC W purse S C t (lkB W purse S C t).2.1 (lkB W purse S C t).2.2) : lkB W purse S C (t + 1) = (t, S t, C t) := by rw [lkB, if_pos h]
theorem lkB_n {W : Nat} {purse : Int32} {S C : Nat → Int32} {t : Nat} (h : ¬ lkC W purse S C t (lkB W purse S C t).2.1 (lkB W purse S C t).2.2) : lkB W purse S C (t + 1) = lkB W purse S C t := by rw [lkB, if_neg h]
theorem lkB_gap {W : Nat} {purse : Int32} {S C : Nat → Int32} {a : Nat} : ∀ {b : Nat}, a ≤ b → (∀ t, a ≤ t → t < b → ¬ subM W t) → lkB W purse S C b = lkB W purse S C a
  | 0, h, _ => by
    have : a = 0 := by omega
    rw [this]
  | b + 1, h, h2 => by
    by_cases e : a = b + 1
    · rw [e]
    · rw [lkB_n (fun q => h2 b (by omega) (by omega) q.1)]
      exact lkB_gap (by omega) (fun t h3 h4 => h2 t h3 (by omega))
theorem sub_and {s W : Nat} (hs : s < 2 ^ 12) (hW : W < 2 ^ 12) : (nI s - nI W) &&& nI W = nI ((s + 2 ^ 32 - W) % 2 ^ 32 &&& W) := by
  have hl : (s + 2 ^ 32 - W) % 2 ^ 32 &&& W < 2 ^ 32 := Nat.lt_of_le_of_lt Nat.and_le_right (by omega)
  apply Int32.toBitVec_inj.mp
  rw [Int32.toBitVec_and, Int32.toBitVec_sub]
  apply BitVec.eq_of_toNat_eq
  rw [BitVec.toNat_and, BitVec.toNat_sub, pk_tn (by omega), pk_tn (by omega), pk_tn hl]
  congr 2
  omega
theorem cnt_32 {W : Nat} (hW : W < 2 ^ 12) : fa_cnt W.testBit 32 = pop W := by
  have : ∀ j, fa_cnt W.testBit (12 + j) = fa_cnt W.testBit 12 := by
    intro j
    induction j with
    | zero => rfl
    | succ j ih => rw [← Nat.add_assoc, fa_cnt_no (bit_hi hW (by omega)), ih]
  exact this 20
theorem sub_z {W : Nat} : subM W 0 := fun i hi => by rw [Nat.zero_testBit] at hi; cases hi
theorem choose_ok {n W : Nat} (hn : n ≤ 12) (hW : W < 2 ^ 12) {G leans : Nat → Int32} (hl : ∀ j, j < n → leans j = G j) (fee goals guest home prices skills : Nat → Int32) (base purse tl ts : Int32) (u0 l0 : Int64) (cs : Nat → Int64) : Ok (t_X5_choose_35 lfuel (nI n) base tl ts 0 0 0 0 u0 l0 fee goals guest home prices skills leans cs purse (nI W) 0 0 1) (fun v => v.2.2.1 = nI (lkB W purse (fun s => SS G s n) (fun s => SS fee s n) (W + 1)).1 ∧ v.2.2.2.1 = (lkB W purse (fun s => SS G s n) (fun s => SS fee s n) (W + 1)).2.1) := by
  generalize hS : (fun s => SS G s n) = S
  generalize hC : (fun s => SS fee s n) = C
  have hp := pop_le W
  have hpw : 2 ^ pop W ≤ 4096 := p12 hp
  have hrk := rk_W (k := 32) (W := W) (by omega)
  rw [cnt_32 hW] at hrk
  refine lr_X5_choose_35 _ (fun i c ba tl ts be bs su co u l fe go gu ho pr sk le oc x1 x3 x4 x5 x6 => nI n = c ∧ fee = fe ∧ leans = le ∧ purse = x1 ∧ x3 = nI W ∧ x6 = nI (1 + i) ∧ ∃ s, s ≤ W ∧ subM W s ∧ rk 32 W s = i ∧ x5 = nI s ∧ su = S s ∧ co = C s ∧ be = nI (lkB W purse S C (s + 1)).1 ∧ bs = (lkB W purse S C (s + 1)).2.1 ∧ x4 = (lkB W purse S C (s + 1)).2.2) (2 ^ pop W - 1) ?_ ?_ lfuel 0 _ _ _ _ _ _ _ _ _ _ _ _ _ _ _ _ _ _ _ _ _ _ _ (Nat.zero_le _) (by unfold lfuel; omega) ?_
  · rintro kk i c ba tl ts be bs su co u l fe go gu ho pr sk le oc x1 x3 x4 x5 x6 hi ⟨d1, d2, d3, d4, d5, d6, s, s1, s2, s3, d7, d8, d9, d10, d11, d12⟩ hk
    subst d1 d2 d3 d4 d5 d6 d7 d8 d9 d10 d11 d12
    unfold t_X5_choose_35_b t_X5_choose_106 t_X5_choose_126
    have hne : s ≠ W := fun e => by subst e; omega
    have hn1 := nxt_gt (k := 32) (by omega) s2 hne
    have hn2 := nxt_sub (k := 32) s2
    have hn3 := sub_le (k := 32) (by omega) hn2
    have hn4 := rk_nxt (k := 32) (by omega) s2 hne
    have hn5 : ∀ r, subM W r → s < r → nxt 32 W s ≤ r := fun r hr h => nxt_no (k := 32) (by omega) s2 hne hr h
    rw [bitCount_ok hW, bd1_s, sh1 (by omega), sub_and (by omega) hW, nxt_eq (k := 32) (by omega) s2]
    generalize hN : nxt 32 W s = N at *
    have gap : lkB W purse S C N = lkB W purse S C (s + 1) := lkB_gap (by omega) (fun t h1 h2 h3 => by have := hn5 t h3 (by omega); omega)
    have hch := change_ok (n := n) (s := s) (t := N) hn (by omega) (by omega) (fee := fee) hl
    have eS : ∀ t, SS G t n = S t := fun t => by rw [← hS]
    have eC : ∀ t, SS fee t n = C t := fun t => by rw [← hC]
    rw [eS, eS, eC, eC] at hch
    refine Ok.neg (nI_ge (by omega) (by omega)) (Ok.bd2 hch (fun a0 a1 ha => ?_))
    have ha0 := congrArg Prod.fst ha
    have ha1 := congrArg Prod.snd ha
    simp only at ha0 ha1
    subst ha0 ha1
    have keep : ¬ lkC W purse S C N (lkB W purse S C (s + 1)).2.1 (lkB W purse S C (s + 1)).2.2 → Ok (kk (nI n) ba tl ts (nI (lkB W purse S C (s + 1)).1) (lkB W purse S C (s + 1)).2.1 (S N) (C N) u l fee go gu ho pr sk leans oc purse (nI W) (lkB W purse S C (s + 1)).2.2 (nI N) (nI (1 + i) + 1)) (fun v => v.2.2.1 = nI (lkB W purse S C (W + 1)).1 ∧ v.2.2.2.1 = (lkB W purse S C (W + 1)).2.1) := by
      intro h
      have e : lkB W purse S C (N + 1) = lkB W purse S C (s + 1) := by rw [lkB_n (by rw [gap]; exact h), gap]
      apply hk
      exact ⟨rfl, rfl, rfl, rfl, rfl, by rw [nI_1]; rfl, N, hn3, hn2, by omega, rfl, rfl, rfl, by rw [e], by rw [e], by rw [e]⟩
    have take : lkC W purse S C N (lkB W purse S C (s + 1)).2.1 (lkB W purse S C (s + 1)).2.2 → Ok (kk (nI n) ba tl ts (nI N) (S N) (S N) (C N) u l fee go gu ho pr sk leans oc purse (nI W) (C N) (nI N) (nI (1 + i) + 1)) (fun v => v.2.2.1 = nI (lkB W purse S C (W + 1)).1 ∧ v.2.2.2.1 = (lkB W purse S C (W + 1)).2.1) := by
      intro h
      have e : lkB W purse S C (N + 1) = (N, S N, C N) := lkB_y (by rw [gap]; exact h)
      apply hk
      exact ⟨rfl, rfl, rfl, rfl, rfl, by rw [nI_1]; rfl, N, hn3, hn2, by omega, rfl, rfl, rfl, by rw [e], by rw [e], by rw [e]⟩
    refine Ok.ite (fun c1 => keep (fun q => ?_)) (fun c1 => Ok.ite (fun c2 => take ⟨hn2, fa_of_nlt c1, Or.inl c2⟩) (fun c2 => Ok.ite (fun c3 => Ok.ite (fun c4 => keep (fun q => ?_)) (fun c4 => take ⟨hn2, fa_of_nlt c1, Or.inr ⟨c3, fa_of_nle c4⟩⟩)) (fun c3 => keep (fun q => ?_))))
    · have := q.2.1
      rw [i_lt] at c1; rw [i_le] at this; omega
    · rcases q.2.2 with r | ⟨_, r⟩
      · exact c2 r
      · rw [i_lt] at r; rw [i_le] at c4; omega
    · rcases q.2.2 with r | ⟨r, _⟩
      · exact c2 r
      · exact c3 r
  · rintro kk c ba tl ts be bs su co u l fe go gu ho pr sk le oc x1 x3 x4 x5 x6 ⟨d1, d2, d3, d4, d5, d6, s, s1, s2, s3, d7, d8, d9, d10, d11, d12⟩
    subst d1 d2 d3 d4 d5 d6 d7 d8 d9 d12
    unfold t_X5_choose_35_b
    have hpos : 0 < 2 ^ pop W := Nat.two_pow_pos _
    have es : s = W := rk_inj (k := 32) (by omega) s2 (fun i hi => hi) (by omega)
    subst es
    rw [bitCount_ok hW, bd1_s, sh1 (by omega)]
    exact Ok.pos (nI_le (by omega) (by omega)) (Ok.ret ⟨d10, d11⟩)
  · have e1 : lkB W purse S C 1 = (0, 0, 0) := by
      rw [lkB_n]
      · rfl
      · rintro ⟨_, _, q⟩
        have z1 : S 0 = 0 := by rw [← hS]; exact SS_0 G n
        have z2 : C 0 = 0 := by rw [← hC]; exact SS_0 fee n
        rw [z1, z2, lkB] at q
        rcases q with q | ⟨_, q⟩
        · exact absurd q (by decide)
        · exact absurd q (by decide)
    refine ⟨rfl, rfl, rfl, rfl, rfl, rfl, 0, Nat.zero_le _, sub_z, rk_0, rfl, ?_, ?_, ?_, ?_, ?_⟩
    · rw [← hS]; exact (SS_0 G n).symm
    · rw [← hC]; exact (SS_0 fee n).symm
    · rw [Nat.zero_add, e1]; rfl
    · rw [Nat.zero_add, e1]
    · rw [Nat.zero_add, e1]
theorem sub_test {t W : Nat} (ht : t < 2 ^ 12) (hW : W < 2 ^ 12) : nI t &&& (nI W ^^^ (-1 : Int32)) = 0 ↔ subM W t := by
  have hl : t &&& (2 ^ 32 - 1 - W) < 2 ^ 12 := Nat.lt_of_le_of_lt Nat.and_le_left ht
  rw [andn (by omega)]
  constructor
  · intro e i hi
    have e : t &&& (2 ^ 32 - 1 - W) = 0 := (nI_eq (b := 0) (by omega) (by decide)).mp e
    have h := andn_at (a := t) (b := W) (by omega) (by omega) i
    rw [e, Nat.zero_testBit, hi] at h
    cases w : W.testBit i
    · rw [w] at h; cases h
    · rfl
  · intro h
    have : t &&& (2 ^ 32 - 1 - W) = 0 := zero_bits.mpr (fun i => by
      rw [andn_at (by omega) (by omega)]
      cases w : t.testBit i
      · rfl
      · rw [h i w]; rfl)
    rw [this]; rfl
theorem looks_ok {n : Nat} (hn : n ≤ 12) {base : Int32} {goals guest home prices skills told G : Nat → Int32} (hG : GT n base goals guest home prices skills told G) {fee look : Nat → Int32} (hlk : ∀ j, j < n → look j = fee j) (purse what : Int32) (u0 l0 : Int64) (ga : Int32) (gr0 : Nat → Int32) (nx wa : Nat → Int64) : Ok (t_X11_looks_28 lfuel (nI n) u0 l0 ga goals gr0 guest home look nx prices skills told wa purse what 0 0) (fun v => ∃ W : Nat, W < 2 ^ 12 ∧ (∀ j, W.testBit j = true ↔ j < n ∧ ¬ G j ≤ 0) ∧ v.1 = if what = 0 then nI (lkB W purse (fun s => SS G s n) (fun s => SS fee s n) (W + 1)).1 else (lkB W purse (fun s => SS G s n) (fun s => SS fee s n) (W + 1)).2.1) := by
  have h12 := p12 hn
  refine lr_X11_looks_28 _ (fun i c u l ga go gr gu ho lo nx pr sk to wa x1 x2 x3 x4 => nI n = c ∧ goals = go ∧ guest = gu ∧ home = ho ∧ look = lo ∧ prices = pr ∧ skills = sk ∧ told = to ∧ purse = x1 ∧ what = x2 ∧ x4 = nI i ∧ (∃ W : Nat, W < 2 ^ n ∧ x3 = nI W ∧ ∀ j, W.testBit j = true ↔ j < i ∧ ¬ G j ≤ 0) ∧ ∀ j, j < i → gr j = G j) n ?_ ?_ lfuel 0 _ _ _ _ _ _ _ _ _ _ _ _ _ _ _ _ _ _ (Nat.zero_le _) (by unfold lfuel; omega) ?_
  · rintro kk i c u l ga go gr gu ho lo nx pr sk to wa x1 x2 x3 x4 hi ⟨d1, d2, d3, d4, d5, d6, d7, d8, d9, d10, d11, ⟨W, w1, w2, w3⟩, d12⟩ hk
    subst d1 d2 d3 d4 d5 d6 d7 d8 d9 d10 d11 w2
    unfold t_X11_looks_28_b t_X11_looks_69
    refine Ok.neg (nI_ge hi (by omega)) (Ok.bd6 ((hG i hi).2 u l ga nx wa) (fun a0 a1 a2 a3 a4 a5 ha => ?_))
    simp only at ha
    subst ha
    rw [nI_clamp (by omega), ckn_m (by omega) (by decide), ckn_m (by omega) (by decide), pk_us, sh1 (by omega), fa_or, show ∀ y : Int32, y ||| 0 = y from fun y => Int32.or_zero]
    have hle : ∀ j, j < i + 1 → upd gr i (G i) j = G j := fun j hj => by
      by_cases e : j = i
      · subst e; exact pk_us
      · rw [pk_un e]; exact d12 j (by omega)
    refine Ok.ite (fun c => ?_) (fun c => ?_)
    · apply hk
      refine ⟨rfl, rfl, rfl, rfl, rfl, rfl, rfl, rfl, rfl, rfl, nI_1 i, ⟨W, w1, rfl, fun j => ?_⟩, hle⟩
      rw [w3]
      constructor
      · rintro ⟨q1, q2⟩; exact ⟨by omega, q2⟩
      · rintro ⟨q1, q2⟩
        by_cases e : j = i
        · subst e; exact absurd c q2
        · exact ⟨by omega, q2⟩
    · apply hk
      refine ⟨rfl, rfl, rfl, rfl, rfl, rfl, rfl, rfl, rfl, rfl, nI_1 i, ⟨_, or_lt w1 (bit_lt hi), rfl, fun j => ?_⟩, hle⟩
      rw [or_tb, pw_tb, w3]
      constructor
      · rintro (⟨q1, q2⟩ | q)
        · exact ⟨by omega, q2⟩
        · subst q; exact ⟨by omega, c⟩
      · rintro ⟨q1, q2⟩
        by_cases e : i = j
        · exact Or.inr e
        · exact Or.inl ⟨by omega, q2⟩
  · rintro kk0 c u l ga go gr gu ho lo nx pr sk to wa x1 x2 x3 x4 ⟨d1, d2, d3, d4, d5, d6, d7, d8, d9, d10, d11, ⟨W, w1, w2, w3⟩, d12⟩
    subst d1 d2 d3 d4 d5 d6 d7 d8 d9 d10 d11 w2
    unfold t_X11_looks_28_b t_X11_looks_77
    refine Ok.pos (nI_le (Nat.le_refl _) (by omega)) ?_
    have hW : W < 2 ^ 12 := by omega
    generalize hS : (fun s => SS G s n) = S
    generalize hC : (fun s => SS fee s n) = C
    have eS : ∀ t, SS G t n = S t := fun t => by rw [← hS]
    have eC : ∀ t, SS fee t n = C t := fun t => by rw [← hC]
    refine lr_X11_looks_89 _ (fun i c u l ga go gr' gu ho lo nx pr sk to wa x1 x2 x3 x4 x5 x6 x7 => nI n = c ∧ gr = gr' ∧ look = lo ∧ purse = x1 ∧ what = x2 ∧ x3 = nI W ∧ x4 = nI (lkB W purse S C i).1 ∧ x5 = (lkB W purse S C i).2.1 ∧ x6 = (lkB W purse S C i).2.2 ∧ x7 = nI i) (2 ^ n) ?_ ?_ lfuel 0 _ _ _ _ _ _ _ _ _ _ _ _ _ _ _ _ _ _ _ _ _ (Nat.zero_le _) (by unfold lfuel; omega) ?_
    · rintro kk t c u l ga go gr' gu ho lo nx pr sk to wa x1 x2 x3 x4 x5 x6 x7 ht ⟨d1, d2, d3, d4, d5, d6, d7, d8, d9, d10⟩ hk
      subst d1 d2 d3 d4 d5 d6 d7 d8 d9 d10
      unfold t_X11_looks_89_b
      rw [sh1 (by omega)]
      refine Ok.neg (nI_ge ht (by omega)) ?_
      refine lr_X11_looks_109 _ (fun j c u l ga go gr' gu ho lo nx pr sk to wa x1 x2 x3 x4 x5 x6 x7 x8 x9 x10 => nI n = c ∧ gr = gr' ∧ look = lo ∧ purse = x1 ∧ what = x2 ∧ x3 = nI W ∧ x4 = nI (lkB W purse S C t).1 ∧ x5 = (lkB W purse S C t).2.1 ∧ x6 = (lkB W purse S C t).2.2 ∧ x7 = nI t ∧ x10 = nI j ∧ x8 = SS G t j ∧ x9 = SS fee t j) n ?_ ?_ lfuel 0 _ _ _ _ _ _ _ _ _ _ _ _ _ _ _ _ _ _ _ _ _ _ _ _ (Nat.zero_le _) (by unfold lfuel; omega) ?_
      · rintro kk2 j c u l ga go gr' gu ho lo nx pr sk to wa x1 x2 x3 x4 x5 x6 x7 x8 x9 x10 hj ⟨d1, d2, d3, d4, d5, d6, d7, d8, d9, d10, d11, e8, e9⟩ hk2
        subst d1 d2 d3 d4 d5 d6 d7 d8 d9 d10 d11 e8 e9
        unfold t_X11_looks_109_b
        rw [nI_clamp (by omega), ckn_m (by omega) (by decide), ckn_m (by omega) (by decide), d12 j hj, hlk j hj, tbm (by omega) (by omega), tbm (by omega) (by omega)]
        refine Ok.neg (nI_ge hj (by omega)) ?_
        apply hk2
        exact ⟨rfl, rfl, rfl, rfl, rfl, rfl, rfl, rfl, rfl, rfl, nI_1 j, rfl, rfl⟩
      · rintro kk2 c u l ga go gr' gu ho lo nx pr sk to wa x1 x2 x3 x4 x5 x6 x7 x8 x9 x10 ⟨d1, d2, d3, d4, d5, d6, d7, d8, d9, d10, d11, e8, e9⟩
        rw [eS] at e8
        rw [eC] at e9
        subst d1 d2 d3 d4 d5 d6 d7 d8 d9 d10 d11 e8 e9
        unfold t_X11_looks_109_b t_X11_looks_164 t_X11_looks_200 t_X11_looks_212
        refine Ok.pos (nI_le (Nat.le_refl _) (by omega)) ?_
        have keep : ¬ lkC W purse S C t (lkB W purse S C t).2.1 (lkB W purse S C t).2.2 → Ok (kk (nI n) u l ga go gr gu ho look nx pr sk to wa purse what (nI W) (nI (lkB W purse S C t).1) (lkB W purse S C t).2.1 (lkB W purse S C t).2.2 (nI t + 1)) (fun v => ∃ W : Nat, W < 2 ^ 12 ∧ (∀ j, W.testBit j = true ↔ j < n ∧ ¬ G j ≤ 0) ∧ v.1 = if what = 0 then nI (lkB W purse S C (W + 1)).1 else (lkB W purse S C (W + 1)).2.1) := by
          intro h
          have e := lkB_n h
          apply hk
          exact ⟨rfl, rfl, rfl, rfl, rfl, rfl, by rw [e], by rw [e], by rw [e], nI_1 t⟩
        have take : lkC W purse S C t (lkB W purse S C t).2.1 (lkB W purse S C t).2.2 → Ok (kk (nI n) u l ga go gr gu ho look nx pr sk to wa purse what (nI W) (nI t) (S t) (C t) (nI t + 1)) (fun v => ∃ W : Nat, W < 2 ^ 12 ∧ (∀ j, W.testBit j = true ↔ j < n ∧ ¬ G j ≤ 0) ∧ v.1 = if what = 0 then nI (lkB W purse S C (W + 1)).1 else (lkB W purse S C (W + 1)).2.1) := by
          intro h
          have e := lkB_y h
          apply hk
          exact ⟨rfl, rfl, rfl, rfl, rfl, rfl, by rw [e], by rw [e], by rw [e], nI_1 t⟩
        have hst := sub_test (t := t) (W := W) (by omega) hW
        refine Ok.ite (fun c0 => Ok.ite (fun c1 => keep (fun q => ?_)) (fun c1 => Ok.ite (fun c2 => take ⟨hst.mp c0, fa_of_nlt c1, Or.inl c2⟩) (fun c2 => Ok.ite (fun c3 => Ok.ite (fun c4 => keep (fun q => ?_)) (fun c4 => take ⟨hst.mp c0, fa_of_nlt c1, Or.inr ⟨c3, fa_of_nle c4⟩⟩)) (fun c3 => keep (fun q => ?_))))) (fun c0 => keep (fun q => c0 (hst.mpr q.1)))
        · have := q.2.1
          rw [i_lt] at c1; rw [i_le] at this; omega
        · rcases q.2.2 with r | ⟨_, r⟩
          · exact c2 r
          · rw [i_lt] at r; rw [i_le] at c4; omega
        · rcases q.2.2 with r | ⟨r, _⟩
          · exact c2 r
          · exact c3 r
      · exact ⟨rfl, rfl, rfl, rfl, rfl, rfl, rfl, rfl, rfl, rfl, rfl, rfl, rfl⟩
    · rintro kk c u l ga go gr' gu ho lo nx pr sk to wa x1 x2 x3 x4 x5 x6 x7 ⟨d1, d2, d3, d4, d5, d6, d7, d8, d9, d10⟩
      subst d1 d2 d3 d4 d5 d6 d7 d8 d9 d10
      unfold t_X11_looks_89_b t_X11_looks_218 t_X11_looks_229
      rw [sh1 (by omega)]
      have e : lkB W purse S C (2 ^ n) = lkB W purse S C (W + 1) := lkB_gap (by omega) (fun t h1 h2 h3 => by have := sub_le (k := 12) hW h3; omega)
      rw [e]
      refine Ok.pos (nI_le (Nat.le_refl _) (by omega)) (Ok.ite (fun c => Ok.ret ⟨W, hW, w3, ?_⟩) (fun c => Ok.ret ⟨W, hW, w3, ?_⟩))
      · rw [if_pos c]
      · rw [if_neg c]
    · exact ⟨rfl, rfl, rfl, rfl, rfl, rfl, rfl, rfl, rfl, rfl⟩
  · refine ⟨rfl, rfl, rfl, rfl, rfl, rfl, rfl, rfl, rfl, rfl, rfl, ⟨0, Nat.two_pow_pos n, rfl, fun j => ?_⟩, fun j hj => absurd hj (Nat.not_lt_zero j)⟩
    rw [Nat.zero_testBit]
    exact ⟨fun e => (by cases e), fun e => absurd e.1 (Nat.not_lt_zero j)⟩
