-- what is reached over links
def Cn (n : Nat) (R : Nat → Nat → Prop) (i j : Nat) : Prop := ∀ S : Nat → Prop, S i → (∀ x y, x < n → y < n → S x → R x y → S y) → S j
theorem Cn.refl {n : Nat} {R : Nat → Nat → Prop} (i : Nat) : Cn n R i i := fun _ h _ => h
theorem Cn.one {n : Nat} {R : Nat → Nat → Prop} {i j : Nat} (hi : i < n) (hj : j < n) (h : R i j) : Cn n R i j := fun _ h0 hc => hc i j hi hj h0 h
theorem Cn.trans {n : Nat} {R : Nat → Nat → Prop} {i j k : Nat} (h1 : Cn n R i j) (h2 : Cn n R j k) : Cn n R i k := fun S h0 hc => h2 S (h1 S h0 hc) hc
theorem Cn.symm {n : Nat} {R : Nat → Nat → Prop} (hR : ∀ x y, R x y → R y x) {i j : Nat} (h : Cn n R i j) : Cn n R j i := h (fun x => Cn n R x i) (Cn.refl i) (fun x y hx hy h1 h2 => (Cn.one hy hx (hR x y h2)).trans h1)
theorem Cn.iff {n : Nat} {R R' : Nat → Nat → Prop} (h : ∀ x y, x < n → y < n → (R x y ↔ R' x y)) {i j : Nat} : Cn n R i j ↔ Cn n R' i j := ⟨fun h1 S h0 hc => h1 S h0 (fun x y hx hy s r => hc x y hx hy s ((h x y hx hy).mp r)), fun h1 S h0 hc => h1 S h0 (fun x y hx hy s r => hc x y hx hy s ((h x y hx hy).mpr r))⟩
def Wh (R : Nat → Nat → Prop) : Nat → Nat → Nat → Prop
  | 0 => R
  | k + 1 => fun i j => Wh R k i j ∨ (Wh R k i k ∧ Wh R k k j)
theorem wh_up {R : Nat → Nat → Prop} : ∀ (k : Nat) {i j : Nat}, R i j → Wh R k i j
  | 0, _, _, h => h
  | k + 1, _, _, h => Or.inl (wh_up k h)
theorem wh_tr {R : Nat → Nat → Prop} : ∀ (k x : Nat), x < k → ∀ i j, Wh R k i x → Wh R k x j → Wh R k i j
  | 0, x, hx, _, _, _, _ => absurd hx (Nat.not_lt_zero x)
  | k + 1, x, hx, i, j, h1, h2 => by
    by_cases e : x = k
    · subst e
      have a1 : Wh R x i x := by rcases h1 with h | h; exact h; exact h.1
      have a2 : Wh R x x j := by rcases h2 with h | h; exact h; exact h.2
      exact Or.inr ⟨a1, a2⟩
    · have tr := wh_tr (R := R) k x (by omega)
      rcases h1 with h1 | ⟨h1, h1'⟩ <;> rcases h2 with h2 | ⟨h2, h2'⟩
      · exact Or.inl (tr i j h1 h2)
      · exact Or.inr ⟨tr i k h1 h2, h2'⟩
      · exact Or.inr ⟨h1, tr k j h1' h2⟩
      · exact Or.inr ⟨h1, h2'⟩
theorem wh_cn {n : Nat} {R : Nat → Nat → Prop} (hr : ∀ i, i < n → R i i) {i j : Nat} (hi : i < n) (hj : j < n) : Wh R n i j ↔ Cn n R i j := by
  constructor
  · have : ∀ k, k ≤ n → ∀ i j, i < n → j < n → Wh R k i j → Cn n R i j := by
      intro k
      induction k with
      | zero => intro _ i j hi hj h; exact Cn.one hi hj h
      | succ k ih =>
        intro hk i j hi hj h
        rcases h with h | ⟨h1, h2⟩
        · exact ih (by omega) i j hi hj h
        · exact (ih (by omega) i k hi (by omega) h1).trans (ih (by omega) k j (by omega) hj h2)
    exact this n (Nat.le_refl n) i j hi hj
  · intro h
    exact (h (fun x => x < n ∧ Wh R n i x) ⟨hi, wh_up n (hr i hi)⟩ (fun x y hx hy s r => ⟨hy, wh_tr n x hx i y s.2 (wh_up n r)⟩)).2
-- rows of bits
def Rw (n : Nat) (p : Nat → Int32) (R : Nat → Nat → Prop) : Prop := ∀ i, i < n → ∃ k : Nat, k < 2 ^ n ∧ p i = nI k ∧ ∀ j, k.testBit j = true ↔ j < n ∧ R i j
theorem Rw.iff {n : Nat} {p : Nat → Int32} {R R' : Nat → Nat → Prop} (h : Rw n p R) (e : ∀ i j, i < n → j < n → (R i j ↔ R' i j)) : Rw n p R' := by
  intro i hi
  obtain ⟨k, k1, k2, k3⟩ := h i hi
  exact ⟨k, k1, k2, fun j => (k3 j).trans ⟨fun q => ⟨q.1, (e i j hi q.1).mp q.2⟩, fun q => ⟨q.1, (e i j hi q.1).mpr q.2⟩⟩⟩
theorem Rw.eq {n : Nat} {p p' : Nat → Int32} {R : Nat → Nat → Prop} (h : Rw n p R) (h' : Rw n p' R) {i : Nat} (hi : i < n) : p i = p' i := by
  obtain ⟨k, k1, k2, k3⟩ := h i hi
  obtain ⟨l, l1, l2, l3⟩ := h' i hi
  rw [k2, l2]
  congr 1
  refine bits_ext k1 l1 (fun j _ => ?_)
  have a := k3 j
  have b := l3 j
  cases h1 : k.testBit j <;> cases h2 : l.testBit j
  · rfl
  · exact absurd (a.mpr (b.mp h2)) (by rw [h1]; decide)
  · exact absurd (b.mpr (a.mp h1)) (by rw [h2]; decide)
  · rfl
theorem Rw.set {n : Nat} {p : Nat → Int32} {R R' : Nat → Nat → Prop} (h : Rw n p R) {i k : Nat} (hk : k < 2 ^ n) (hb : ∀ j, k.testBit j = true ↔ j < n ∧ R' i j) (ho : ∀ x j, x < n → x ≠ i → j < n → (R x j ↔ R' x j)) : Rw n (upd p i (nI k)) R' := by
  intro x hx
  by_cases e : x = i
  · subst e
    exact ⟨k, hk, pk_us, hb⟩
  · obtain ⟨l, l1, l2, l3⟩ := h x hx
    refine ⟨l, l1, by rw [pk_un e]; exact l2, fun j => (l3 j).trans ⟨fun q => ⟨q.1, (ho x j hx e q.1).mp q.2⟩, fun q => ⟨q.1, (ho x j hx e q.1).mpr q.2⟩⟩⟩
theorem or_tb {a b j : Nat} : (a ||| b).testBit j = true ↔ a.testBit j = true ∨ b.testBit j = true := by rw [Nat.testBit_or, Bool.or_eq_true]
theorem pw_tb {i j : Nat} : (2 ^ i).testBit j = true ↔ i = j := by rw [bit_at]; exact decide_eq_true_iff
theorem p12 {n : Nat} (h : n ≤ 12) : 2 ^ n ≤ 4096 := by
  have : (2 : Nat) ^ n ≤ 2 ^ 12 := Nat.pow_le_pow_right (by decide) h
  omega
theorem closeOver_ok {N n : Nat} (hn : n ≤ N) (hN : N ≤ 12) {p0 : Nat → Int32} {R : Nat → Nat → Prop} (h : Rw n p0 R) : Ok (t_X10_closeOver N p0 (nI n)) (fun v => Rw n v (Wh R n)) := by
  have h12 := p12 (n := n) (by omega)
  unfold t_X10_closeOver
  refine lr_X10_closeOver_2 _ (fun k p x1 x2 => x1 = nI n ∧ x2 = nI k ∧ Rw n p (Wh R k)) n ?_ ?_ lfuel 0 _ _ _ (Nat.zero_le _) (by unfold lfuel; omega) ?_
  · rintro kk k p x1 x2 hk ⟨d1, d2, d3⟩ hkk
    subst d1 d2
    unfold t_X10_closeOver_2_b
    refine Ok.neg (nI_ge hk (by omega)) ?_
    refine lr_X10_closeOver_9 _ (fun i p x1 x2 x3 => x1 = nI n ∧ x2 = nI k ∧ x3 = nI i ∧ Rw n p (fun m j => Wh R k m j ∨ (m < i ∧ Wh R k m k ∧ Wh R k k j))) n ?_ ?_ lfuel 0 _ _ _ _ (Nat.zero_le _) (by unfold lfuel; omega) ?_
    · clear d3
      rintro kk2 i p x1 x2 x3 hi ⟨d1, d2, d3, d4⟩ hkk2
      subst d1 d2 d3
      unfold t_X10_closeOver_9_b t_X10_closeOver_34
      obtain ⟨ki, i1, i2, i3⟩ := d4 i hi
      obtain ⟨kt, t1, t2, t3⟩ := d4 k hk
      rw [nI_clamp (by omega), nI_clamp (by omega), ckn_m (by omega) (by omega), ckn_m (by omega) (by omega), ckn_m (by omega) (by omega), ckn_m (by omega) (by omega), i2, t2, fa_or]
      have bi : ki.testBit k = true ↔ Wh R k i k := (i3 k).trans ⟨fun q => by
        rcases q.2 with r | r
        · exact r
        · exact r.2.1, fun q => ⟨hk, Or.inl q⟩⟩
      refine Ok.neg (nI_ge hi (by omega)) (Ok.ite (fun c => ?_) (fun c => ?_))
      · rw [tb1 (by omega) (by omega)] at c
        have w := bi.mp c
        apply hkk2
        refine ⟨rfl, rfl, nI_1 i, d4.set (or_lt i1 t1) (fun j => ?_) (fun x j hx hne hj => ?_)⟩
        · rw [or_tb, i3, t3]
          constructor
          · rintro (⟨a, b⟩ | ⟨a, b⟩)
            · refine ⟨a, ?_⟩
              rcases b with b | b
              · exact Or.inl b
              · exact absurd b.1 (by omega)
            · refine ⟨a, Or.inr ⟨by omega, w, ?_⟩⟩
              rcases b with b | b
              · exact b
              · exact b.2.2
          · rintro ⟨a, b | b⟩
            · exact Or.inl ⟨a, Or.inl b⟩
            · exact Or.inr ⟨a, Or.inl b.2.2⟩
        · constructor
          · rintro (a | a)
            · exact Or.inl a
            · exact Or.inr ⟨by omega, a.2⟩
          · rintro (a | a)
            · exact Or.inl a
            · exact Or.inr ⟨by omega, a.2⟩
      · rw [tb1 (by omega) (by omega)] at c
        apply hkk2
        refine ⟨rfl, rfl, nI_1 i, d4.iff (fun x j hx hj => ?_)⟩
        constructor
        · rintro (a | a)
          · exact Or.inl a
          · exact Or.inr ⟨by omega, a.2⟩
        · rintro (a | a)
          · exact Or.inl a
          · by_cases e : x = i
            · subst e; exact absurd (bi.mpr a.2.1) c
            · exact Or.inr ⟨by omega, a.2⟩
    · clear d3
      rintro kk2 p x1 x2 x3 ⟨d1, d2, d3, d4⟩
      subst d1 d2 d3
      unfold t_X10_closeOver_9_b t_X10_closeOver_40
      refine Ok.pos (nI_le (Nat.le_refl _) (by omega)) ?_
      apply hkk
      refine ⟨rfl, nI_1 k, d4.iff (fun x j hx hj => ?_)⟩
      constructor
      · rintro (a | a)
        · exact Or.inl a
        · exact Or.inr a.2
      · rintro (a | a)
        · exact Or.inl a
        · exact Or.inr ⟨hx, a⟩
    · refine ⟨rfl, rfl, rfl, d3.iff (fun x j hx hj => ⟨fun a => Or.inl a, ?_⟩)⟩
      rintro (a | a)
      · exact a
      · exact absurd a.1 (Nat.not_lt_zero _)
  · rintro kk p x1 x2 ⟨d1, d2, d3⟩
    subst d1 d2
    unfold t_X10_closeOver_2_b
    exact Ok.pos (nI_le (Nat.le_refl _) (by omega)) (Ok.ret d3)
  · exact ⟨rfl, rfl, h⟩
-- hands that are one
def Eh (mx : Int32 → Int32 → Nat) (tn : Nat) (a b : Nat) : Prop := a ≠ b ∧ tn ≤ mx (nI a) (nI b)
def Rh (mx : Int32 → Int32 → Nat) (tn : Nat) (a b : Nat) : Prop := a = b ∨ Eh mx tn a b
theorem nI_ne {a b : Nat} (ha : a < 2 ^ 31) (hb : b < 2 ^ 31) (h : a ≠ b) : nI a ≠ nI b := fun e => h ((nI_eq ha hb).mp e)
theorem Eh.symm {ns : Nat} {near times : Int32} {hand match_ end_ minute sum : Nat → Int32} {mx : Int32 → Int32 → Nat} (hX : MX ns near times hand match_ end_ minute sum mx) {tn a b : Nat} (ha : a < 10) (hb : b < 10) (h : Eh mx tn a b) : Eh mx tn b a := ⟨fun e => h.1 e.symm, by rw [(hX (nI b) (nI a) (nI_ne (by omega) (by omega) (fun e => h.1 e.symm))).2.1]; exact h.2⟩
def Rhb (mx : Int32 → Int32 → Nat) (tn : Nat) (a b : Nat) : Prop := a < 10 ∧ b < 10 ∧ Rh mx tn a b
theorem Rhb.symm {ns : Nat} {near times : Int32} {hand match_ end_ minute sum : Nat → Int32} {mx : Int32 → Int32 → Nat} (hX : MX ns near times hand match_ end_ minute sum mx) {tn : Nat} (a b : Nat) (h : Rhb mx tn a b) : Rhb mx tn b a := by
  obtain ⟨h1, h2, h3⟩ := h
  refine ⟨h2, h1, ?_⟩
  rcases h3 with h3 | h3
  · exact Or.inl h3.symm
  · exact Or.inr (h3.symm hX h1 h2)
abbrev One (mx : Int32 → Int32 → Nat) (tn : Nat) : Nat → Nat → Prop := Cn 10 (Rhb mx tn)
theorem groupHands_ok {ns tn : Nat} (hns : ns ≤ 40) (htn : tn ≤ 20) {near times : Int32} {hand match_ end_ minute sum : Nat → Int32} {mx : Int32 → Int32 → Nat} (hX : MX ns near times hand match_ end_ minute sum mx) (gr0 pa0 rf0 wt0 : Nat → Int32) :
    Ok (t_X0_groupHands (nI ns) near times (nI tn) end_ gr0 hand match_ minute pa0 rf0 sum wt0) (fun v => Rw 10 v.1 (One mx tn)) := by
  unfold t_X0_groupHands
  refine lr_X0_groupHands_2 _ (fun i c ne ti tt e gr h m mi pa rf su wt x1 => nI ns = c ∧ near = ne ∧ times = ti ∧ nI tn = tt ∧ end_ = e ∧ hand = h ∧ match_ = m ∧ minute = mi ∧ sum = su ∧ x1 = nI i ∧ ∀ k, k < i → gr k = nI (2 ^ k)) 10 ?_ ?_ lfuel 0 _ _ _ _ _ _ _ _ _ _ _ _ _ _ (Nat.zero_le _) (by unfold lfuel; omega) ?_
  · rintro kk i c ne ti tt e gr h m mi pa rf su wt x1 hi ⟨d1, d2, d3, d4, d5, d6, d7, d8, d9, d10, d11⟩ hk
    subst d1 d2 d3 d4 d5 d6 d7 d8 d9 d10
    unfold t_X0_groupHands_2_b
    rw [sh1 (by omega), nI_clamp (by omega), ckn_m (by omega) (by decide)]
    refine Ok.neg (nI_ge (b := 10) hi (by decide)) ?_
    apply hk
    refine ⟨rfl, rfl, rfl, rfl, rfl, rfl, rfl, rfl, rfl, nI_1 i, fun k hk => ?_⟩
    by_cases e : k = i
    · subst e; exact pk_us
    · rw [pk_un e]; exact d11 k (by omega)
  · rintro kk0 c ne ti tt e gr h m mi pa rf su wt x1 ⟨d1, d2, d3, d4, d5, d6, d7, d8, d9, d10, d11⟩
    subst d1 d2 d3 d4 d5 d6 d7 d8 d9 d10
    unfold t_X0_groupHands_2_b t_X0_groupHands_23
    refine Ok.pos (by decide) ?_
    refine lr_X0_groupHands_25 _ (fun a c ne ti tt e gr h m mi pa rf su wt x1 => nI ns = c ∧ near = ne ∧ times = ti ∧ nI tn = tt ∧ end_ = e ∧ hand = h ∧ match_ = m ∧ minute = mi ∧ sum = su ∧ x1 = nI a ∧ Rw 10 gr (fun i j => i = j ∨ (Eh mx tn i j ∧ (i < a ∨ j < a)))) 10 ?_ ?_ lfuel 0 _ _ _ _ _ _ _ _ _ _ _ _ _ _ (Nat.zero_le _) (by unfold lfuel; omega) ?_
    · clear d11
      rintro kk a c ne ti tt e gr h m mi pa rf su wt x1 ha ⟨d1, d2, d3, d4, d5, d6, d7, d8, d9, d10, d11⟩ hk
      subst d1 d2 d3 d4 d5 d6 d7 d8 d9 d10
      unfold t_X0_groupHands_25_b
      refine Ok.neg (nI_ge (b := 10) ha (by decide)) ?_
      rw [nI_1]
      refine lr_X0_groupHands_35 _ (fun b c ne ti tt e gr h m mi pa rf su wt x1 x2 => nI ns = c ∧ near = ne ∧ times = ti ∧ nI tn = tt ∧ end_ = e ∧ hand = h ∧ match_ = m ∧ minute = mi ∧ sum = su ∧ x1 = nI a ∧ x2 = nI (a + 1 + b) ∧ Rw 10 gr (fun i j => i = j ∨ (Eh mx tn i j ∧ (i < a ∨ j < a ∨ (i = a ∧ j < a + 1 + b) ∨ (j = a ∧ i < a + 1 + b))))) (9 - a) ?_ ?_ lfuel 0 _ _ _ _ _ _ _ _ _ _ _ _ _ _ _ (Nat.zero_le _) (by unfold lfuel; omega) ?_
      · clear d11
        rintro kk2 b c ne ti tt e gr h m mi pa rf su wt x1 x2 hb ⟨d1, d2, d3, d4, d5, d6, d7, d8, d9, d10, d11, d12⟩ hk2
        subst d1 d2 d3 d4 d5 d6 d7 d8 d9 d10 d11
        generalize hbb : a + 1 + b = bb at *
        unfold t_X0_groupHands_35_b t_X0_groupHands_78
        have hne := nI_ne (a := a) (b := bb) (by omega) (by omega) (by omega)
        obtain ⟨m1, m2, m3, m4⟩ := hX (nI a) (nI bb) hne
        refine Ok.neg (nI_ge (b := 10) (by omega) (by decide)) (Ok.bd4 (m3 pa rf wt) (fun u0 u1 u2 u3 hu => ?_))
        simp only at hu
        subst hu
        refine Ok.ite (fun c => ?_) (fun c => ?_)
        · rw [nI_ltI (by omega) (by omega)] at c
          apply hk2
          refine ⟨rfl, rfl, rfl, rfl, rfl, rfl, rfl, rfl, rfl, rfl, by rw [nI_1, ← hbb]; rfl, d12.iff (fun i j hi hj => ?_)⟩
          constructor
          · rintro (q | ⟨q1, q2⟩)
            · exact Or.inl q
            · exact Or.inr ⟨q1, by omega⟩
          · rintro (q | ⟨q1, q2⟩)
            · exact Or.inl q
            · refine Or.inr ⟨q1, ?_⟩
              have n1 : ¬ (i = a ∧ j = bb) := fun w => by
                obtain ⟨rfl, rfl⟩ := w
                have := q1.2; omega
              have n2 : ¬ (j = a ∧ i = bb) := fun w => by
                obtain ⟨rfl, rfl⟩ := w
                have := (q1.symm hX hi hj).2; omega
              omega
        · rw [nI_ltI (by omega) (by omega)] at c
          have hE : Eh mx tn a bb := ⟨by omega, by omega⟩
          obtain ⟨ka, a1, a2, a3⟩ := d12 a (by omega)
          obtain ⟨kb, b1, b2, b3⟩ := d12 bb (by omega)
          rw [nI_clamp (by omega), nI_clamp (by omega), ckn_m (by omega) (by decide), ckn_m (by omega) (by decide), ckn_m (by omega) (by decide), ckn_m (by omega) (by decide), sh1 (by omega), sh1 (by omega), pk_un (show bb ≠ a by omega), a2, b2, fa_or, fa_or]
          apply hk2
          refine ⟨rfl, rfl, rfl, rfl, rfl, rfl, rfl, rfl, rfl, rfl, by rw [nI_1, ← hbb]; rfl, ?_⟩
          have s1 := d12.set (R' := fun i j => i = j ∨ (Eh mx tn i j ∧ (i < a ∨ j < a ∨ (i = a ∧ j < bb + 1) ∨ (j = a ∧ i < bb)))) (i := a) (k := ka ||| 2 ^ bb) (or_lt a1 (bit_lt (by omega))) (fun j => by
            rw [or_tb, a3, pw_tb]
            constructor
            · rintro (⟨q1, q2⟩ | q)
              · refine ⟨q1, ?_⟩
                rcases q2 with q2 | ⟨q2, q3⟩
                · exact Or.inl q2
                · exact Or.inr ⟨q2, by omega⟩
              · subst q
                exact ⟨by omega, Or.inr ⟨hE, by omega⟩⟩
            · rintro ⟨q1, q2⟩
              by_cases e : bb = j
              · exact Or.inr e
              · refine Or.inl ⟨q1, ?_⟩
                rcases q2 with q2 | ⟨q2, q3⟩
                · exact Or.inl q2
                · exact Or.inr ⟨q2, by omega⟩) (fun x j hx hne hj => by
            constructor
            · rintro (q | ⟨q1, q2⟩)
              · exact Or.inl q
              · exact Or.inr ⟨q1, by omega⟩
            · rintro (q | ⟨q1, q2⟩)
              · exact Or.inl q
              · exact Or.inr ⟨q1, by omega⟩)
          refine s1.set (i := bb) (or_lt b1 (bit_lt (by omega))) (fun j => ?_) (fun x j hx hne hj => ?_)
          · rw [or_tb, b3, pw_tb]
            constructor
            · rintro (⟨q1, q2⟩ | q)
              · refine ⟨q1, ?_⟩
                rcases q2 with q2 | ⟨q2, q3⟩
                · exact Or.inl q2
                · exact Or.inr ⟨q2, by omega⟩
              · subst q
                exact ⟨by omega, Or.inr ⟨hE.symm hX (by omega) (by omega), by omega⟩⟩
            · rintro ⟨q1, q2⟩
              by_cases e : a = j
              · exact Or.inr e
              · refine Or.inl ⟨q1, ?_⟩
                rcases q2 with q2 | ⟨q2, q3⟩
                · exact Or.inl q2
                · exact Or.inr ⟨q2, by omega⟩
          · constructor
            · rintro (q | ⟨q1, q2⟩)
              · exact Or.inl q
              · exact Or.inr ⟨q1, by omega⟩
            · rintro (q | ⟨q1, q2⟩)
              · exact Or.inl q
              · exact Or.inr ⟨q1, by omega⟩
      · clear d11
        rintro kk2 c ne ti tt e gr h m mi pa rf su wt x1 x2 ⟨d1, d2, d3, d4, d5, d6, d7, d8, d9, d10, d11, d12⟩
        subst d1 d2 d3 d4 d5 d6 d7 d8 d9 d10 d11
        unfold t_X0_groupHands_35_b t_X0_groupHands_84
        refine Ok.pos (nI_le (a := 10) (by omega) (by omega)) ?_
        apply hk
        refine ⟨rfl, rfl, rfl, rfl, rfl, rfl, rfl, rfl, rfl, nI_1 a, d12.iff (fun i j hi hj => ?_)⟩
        constructor
        · rintro (q | ⟨q1, q2⟩)
          · exact Or.inl q
          · exact Or.inr ⟨q1, by omega⟩
        · rintro (q | ⟨q1, q2⟩)
          · exact Or.inl q
          · exact Or.inr ⟨q1, by omega⟩
      · refine ⟨rfl, rfl, rfl, rfl, rfl, rfl, rfl, rfl, rfl, rfl, rfl, d11.iff (fun i j hi hj => ?_)⟩
        constructor
        · rintro (q | ⟨q1, q2⟩)
          · exact Or.inl q
          · exact Or.inr ⟨q1, by omega⟩
        · rintro (q | ⟨q1, q2⟩)
          · exact Or.inl q
          · have := q1.1
            exact Or.inr ⟨q1, by omega⟩
    · clear d11
      rintro kk c ne ti tt e gr h m mi pa rf su wt x1 ⟨d1, d2, d3, d4, d5, d6, d7, d8, d9, d10, d11⟩
      subst d1 d2 d3 d4 d5 d6 d7 d8 d9 d10
      unfold t_X0_groupHands_25_b t_X0_groupHands_90
      refine Ok.pos (by decide) ?_
      refine Ok.bd1 (closeOver_ok (n := 10) (N := 10) (Nat.le_refl _) (by decide) (d11.iff (R' := Rhb mx tn) (fun i j hi hj => ?_))) (fun u hu => Ok.ret (hu.iff (fun i j hi hj => ?_)))
      · constructor
        · rintro (q | ⟨q1, q2⟩)
          · exact ⟨hi, hj, Or.inl q⟩
          · exact ⟨hi, hj, Or.inr q1⟩
        · rintro ⟨_, _, q | q⟩
          · exact Or.inl q
          · exact Or.inr ⟨q, by omega⟩
      · exact wh_cn (fun i hi => ⟨hi, hi, Or.inl rfl⟩) hi hj
    · refine ⟨rfl, rfl, rfl, rfl, rfl, rfl, rfl, rfl, rfl, rfl, fun i hi => ⟨2 ^ i, bit_lt hi, d11 i hi, fun j => ?_⟩⟩
      rw [pw_tb]
      constructor
      · rintro rfl
        exact ⟨hi, Or.inl rfl⟩
      · rintro ⟨_, q | ⟨_, q⟩⟩
        · exact q
        · omega
  · exact ⟨rfl, rfl, rfl, rfl, rfl, rfl, rfl, rfl, rfl, rfl, fun k hk => absurd hk (Nat.not_lt_zero k)⟩
-- the reference's
def Eqv (Q : Nat → Nat → Prop) : Prop := (∀ i, i < 10 → Q i i) ∧ (∀ i j, i < 10 → j < 10 → Q i j → Q j i) ∧ ∀ i j k, i < 10 → j < 10 → k < 10 → Q i j → Q j k → Q i k
def Mrg (Q : Nat → Nat → Prop) (a b : Nat) (i j : Nat) : Prop := Q i j ∨ ((Q a i ∨ Q b i) ∧ (Q a j ∨ Q b j))
theorem mrg_eqv {Q : Nat → Nat → Prop} (h : Eqv Q) {a b : Nat} (ha : a < 10) (hb : b < 10) : Eqv (Mrg Q a b) := by
  obtain ⟨h1, h2, h3⟩ := h
  refine ⟨fun i hi => Or.inl (h1 i hi), fun i j hi hj q => ?_, fun i j k hi hj hk q r => ?_⟩
  · rcases q with q | q
    · exact Or.inl (h2 i j hi hj q)
    · exact Or.inr ⟨q.2, q.1⟩
  · rcases q with q | ⟨q1, q2⟩ <;> rcases r with r | ⟨r1, r2⟩
    · exact Or.inl (h3 i j k hi hj hk q r)
    · refine Or.inr ⟨?_, r2⟩
      rcases r1 with r1 | r1
      · exact Or.inl (h3 a j i ha hj hi r1 (h2 i j hi hj q))
      · exact Or.inr (h3 b j i hb hj hi r1 (h2 i j hi hj q))
    · refine Or.inr ⟨q1, ?_⟩
      rcases q2 with q2 | q2
      · exact Or.inl (h3 a j k ha hj hk q2 r)
      · exact Or.inr (h3 b j k hb hj hk q2 r)
    · exact Or.inr ⟨q1, r2⟩
def Lo (mx : Int32 → Int32 → Nat) (tn a b : Nat) (p : Nat → Int32) : Prop := ∃ Q : Nat → Nat → Prop, Rw 10 p Q ∧ Eqv Q ∧ (∀ i j, i < 10 → j < 10 → Q i j → One mx tn i j) ∧ ∀ i j, i < 10 → j < i → Eh mx tn i j → (i < a ∨ (i = a ∧ j < b)) → Q i j
theorem layOnes_ok {ns tn : Nat} (hns : ns ≤ 40) (htn : tn ≤ 20) {near times : Int32} {hand match_ end_ minute sum told : Nat → Int32} {mx : Int32 → Int32 → Nat} (hX : MX ns near times hand match_ end_ minute sum mx) (k1 : told 1 = near) (k2 : told 2 = times) (k3 : told 3 = nI tn) (gr0 pa0 rf0 wt0 : Nat → Int32) :
    Ok (t_X11_layOnes (nI ns) rf0 pa0 gr0 wt0 end_ hand match_ minute sum told) (fun v => Rw 10 v.2.2.1 (One mx tn)) := by
  unfold t_X11_layOnes
  refine lr_X11_layOnes_2 _ (fun i c rf pa gr wt e h m mi su to x1 => nI ns = c ∧ end_ = e ∧ hand = h ∧ match_ = m ∧ minute = mi ∧ sum = su ∧ told = to ∧ x1 = nI i ∧ ∀ k, k < i → gr k = nI (2 ^ k)) 10 ?_ ?_ lfuel 0 _ _ _ _ _ _ _ _ _ _ _ _ (Nat.zero_le _) (by unfold lfuel; omega) ?_
  · rintro kk i c rf pa gr wt e h m mi su to x1 hi ⟨d1, d2, d3, d4, d5, d6, d7, d8, d9⟩ hk
    subst d1 d2 d3 d4 d5 d6 d7 d8
    unfold t_X11_layOnes_2_b
    rw [sh1 (by omega), nI_clamp (by omega), ckn_m (by omega) (by decide)]
    refine Ok.neg (nI_ge (b := 10) hi (by decide)) ?_
    apply hk
    refine ⟨rfl, rfl, rfl, rfl, rfl, rfl, rfl, nI_1 i, fun k hk => ?_⟩
    by_cases e : k = i
    · subst e; exact pk_us
    · rw [pk_un e]; exact d9 k (by omega)
  · rintro kk0 c rf pa gr wt e h m mi su to x1 ⟨d1, d2, d3, d4, d5, d6, d7, d8, d9⟩
    subst d1 d2 d3 d4 d5 d6 d7 d8
    unfold t_X11_layOnes_2_b t_X11_layOnes_23
    refine Ok.pos (by decide) ?_
    refine lr_X11_layOnes_25 _ (fun a c rf pa gr wt e h m mi su to x1 => nI ns = c ∧ end_ = e ∧ hand = h ∧ match_ = m ∧ minute = mi ∧ sum = su ∧ told = to ∧ x1 = nI a ∧ Lo mx tn a 0 gr) 10 ?_ ?_ lfuel 0 _ _ _ _ _ _ _ _ _ _ _ _ (Nat.zero_le _) (by unfold lfuel; omega) ?_
    · clear d9
      rintro kk a c rf pa gr wt e h m mi su to x1 ha ⟨d1, d2, d3, d4, d5, d6, d7, d8, d9⟩ hk
      subst d1 d2 d3 d4 d5 d6 d7 d8
      unfold t_X11_layOnes_25_b
      refine Ok.neg (nI_ge (b := 10) ha (by decide)) ?_
      refine lr_X11_layOnes_33 _ (fun b c rf pa gr wt e h m mi su to x1 x2 => nI ns = c ∧ end_ = e ∧ hand = h ∧ match_ = m ∧ minute = mi ∧ sum = su ∧ told = to ∧ x1 = nI a ∧ x2 = nI b ∧ Lo mx tn a b gr) a ?_ ?_ lfuel 0 _ _ _ _ _ _ _ _ _ _ _ _ _ (Nat.zero_le _) (by unfold lfuel; omega) ?_
      · clear d9
        rintro kk2 b c rf pa gr wt e h m mi su to x1 x2 hb ⟨d1, d2, d3, d4, d5, d6, d7, d8, d9, d10⟩ hk2
        subst d1 d2 d3 d4 d5 d6 d7 d8 d9
        unfold t_X11_layOnes_33_b t_X11_layOnes_124
        have hne := nI_ne (a := a) (b := b) (by omega) (by omega) (by omega)
        obtain ⟨m1, m2, m3, m4⟩ := hX (nI a) (nI b) hne
        obtain ⟨Q, q1, q2, q3, q4⟩ := d10
        obtain ⟨ka, a1, a2, a3⟩ := q1 a ha
        obtain ⟨kb, b1, b2, b3⟩ := q1 b (by omega)
        simp only [nI_clamp (show a < 2 ^ 31 by omega), nI_clamp (show b < 2 ^ 31 by omega), ckn_m (show a < 10 by omega) (show 10 < 2 ^ 31 by decide), ckn_m (show b < 10 by omega) (show 10 < 2 ^ 31 by decide), a2, b2, fa_or]
        refine Ok.neg (nI_ge hb (by omega)) (Ok.ite (fun c => Ok.bd4 (m4 told k1 k2 pa rf wt) (fun u0 u1 u2 u3 hu => ?_)) (fun c => ?_))
        · simp only at hu
          subst hu
          rw [ckn_f (by decide), show (3 : Int32).toNatClampNeg = 3 from rfl, k3]
          refine Ok.ite (fun c2 => ?_) (fun c2 => ?_)
          · rw [nI_ltI (by omega) (by omega)] at c2
            apply hk2
            refine ⟨rfl, rfl, rfl, rfl, rfl, rfl, rfl, rfl, nI_1 b, Q, q1, q2, q3, fun i j hi hj he hp => ?_⟩
            by_cases w : i = a ∧ j = b
            · obtain ⟨rfl, rfl⟩ := w
              have := he.2; omega
            · exact q4 i j hi hj he (by omega)
          · rw [nI_ltI (by omega) (by omega)] at c2
            have hE : Eh mx tn a b := ⟨by omega, by omega⟩
            have ob : ∀ j, (ka ||| kb).testBit j = true ↔ j < 10 ∧ (Q a j ∨ Q b j) := fun j => by
              rw [or_tb, a3, b3]
              constructor
              · rintro (q | q)
                · exact ⟨q.1, Or.inl q.2⟩
                · exact ⟨q.1, Or.inr q.2⟩
              · rintro ⟨q, r | r⟩
                · exact Or.inl ⟨q, r⟩
                · exact Or.inr ⟨q, r⟩
            have olt : ka ||| kb < 2 ^ 10 := or_lt a1 b1
            refine lr_X11_layOnes_83 _ (fun g c rf pa gr wt e h m mi su to x1 x2 x3 x4 => nI ns = c ∧ end_ = e ∧ hand = h ∧ match_ = m ∧ minute = mi ∧ sum = su ∧ told = to ∧ x1 = nI a ∧ x2 = nI b ∧ x3 = nI (ka ||| kb) ∧ x4 = nI g ∧ Rw 10 gr (fun i j => Q i j ∨ (i < g ∧ (Q a i ∨ Q b i) ∧ (Q a j ∨ Q b j)))) 10 ?_ ?_ lfuel 0 _ _ _ _ _ _ _ _ _ _ _ _ _ _ _ (Nat.zero_le _) (by unfold lfuel; omega) ?_
            · rintro kk3 g c rf pa gr wt e h m mi su to x1 x2 x3 x4 hg ⟨d1, d2, d3, d4, d5, d6, d7, d8, d9, d10, d11, d12⟩ hk3
              subst d1 d2 d3 d4 d5 d6 d7 d8 d9 d10 d11
              unfold t_X11_layOnes_83_b t_X11_layOnes_117
              rw [nI_clamp (show g < 2 ^ 31 by omega), ckn_m (by omega) (by decide), ckn_m (by omega) (by decide), ckn_m (by omega) (by decide)]
              refine Ok.neg (nI_ge (b := 10) hg (by decide)) (Ok.ite (fun c3 => ?_) (fun c3 => ?_))
              · rw [tb1 (by omega) (by omega), ob] at c3
                apply hk3
                refine ⟨rfl, rfl, rfl, rfl, rfl, rfl, rfl, rfl, rfl, rfl, nI_1 g, d12.set olt (fun j => ?_) (fun x j hx hne hj => ?_)⟩
                · rw [ob]
                  constructor
                  · rintro ⟨r1, r2⟩
                    exact ⟨r1, Or.inr ⟨by omega, c3.2, r2⟩⟩
                  · rintro ⟨r1, r2 | r2⟩
                    · refine ⟨r1, ?_⟩
                      rcases c3.2 with w | w
                      · exact Or.inl (q2.2.2 a g j ha hg r1 w r2)
                      · exact Or.inr (q2.2.2 b g j (by omega) hg r1 w r2)
                    · exact ⟨r1, r2.2.2⟩
                · constructor
                  · rintro (r | r)
                    · exact Or.inl r
                    · exact Or.inr ⟨by omega, r.2⟩
                  · rintro (r | r)
                    · exact Or.inl r
                    · exact Or.inr ⟨by omega, r.2⟩
              · rw [tb1 (by omega) (by omega), ob] at c3
                apply hk3
                refine ⟨rfl, rfl, rfl, rfl, rfl, rfl, rfl, rfl, rfl, rfl, nI_1 g, ?_⟩
                rw [fa_upd_same rfl]
                refine d12.iff (fun x j hx hj => ?_)
                constructor
                · rintro (r | r)
                  · exact Or.inl r
                  · exact Or.inr ⟨by omega, r.2⟩
                · rintro (r | r)
                  · exact Or.inl r
                  · by_cases w : x = g
                    · subst w; exact absurd ⟨hg, r.2.1⟩ c3
                    · exact Or.inr ⟨by omega, r.2⟩
            · rintro kk3 c rf pa gr wt e h m mi su to x1 x2 x3 x4 ⟨d1, d2, d3, d4, d5, d6, d7, d8, d9, d10, d11, d12⟩
              subst d1 d2 d3 d4 d5 d6 d7 d8 d9 d10 d11
              unfold t_X11_layOnes_83_b t_X11_layOnes_124
              refine Ok.pos (by decide) ?_
              apply hk2
              have cab : One mx tn a b := Cn.one ha (by omega) ⟨ha, by omega, Or.inr hE⟩
              have cm : ∀ i, i < 10 → (Q a i ∨ Q b i) → One mx tn a i := fun i hi r => by
                rcases r with r | r
                · exact q3 a i ha hi r
                · exact cab.trans (q3 b i (by omega) hi r)
              refine ⟨rfl, rfl, rfl, rfl, rfl, rfl, rfl, rfl, nI_1 b, Mrg Q a b, d12.iff (fun i j hi hj => ?_), mrg_eqv q2 ha (by omega), fun i j hi hj r => ?_, fun i j hi hj he hp => ?_⟩
              · constructor
                · rintro (r | r)
                  · exact Or.inl r
                  · exact Or.inr r.2
                · rintro (r | r)
                  · exact Or.inl r
                  · exact Or.inr ⟨hi, r⟩
              · rcases r with r | ⟨r1, r2⟩
                · exact q3 i j hi hj r
                · exact (Cn.symm (Rhb.symm hX) (cm i hi r1)).trans (cm j hj r2)
              · by_cases w : i = a ∧ j = b
                · obtain ⟨rfl, rfl⟩ := w
                  exact Or.inr ⟨Or.inl (q2.1 i hi), Or.inr (q2.1 j (by omega))⟩
                · exact Or.inl (q4 i j hi hj he (by omega))
            · refine ⟨rfl, rfl, rfl, rfl, rfl, rfl, rfl, rfl, rfl, rfl, rfl, q1.iff (fun i j hi hj => ⟨fun r => Or.inl r, ?_⟩)⟩
              rintro (r | r)
              · exact r
              · omega
        · have c' : ka.testBit b = true := by
            cases w : ka.testBit b
            · exact absurd ((tb0 (by omega) (by omega)).mpr w) c
            · rfl
          apply hk2
          refine ⟨rfl, rfl, rfl, rfl, rfl, rfl, rfl, rfl, nI_1 b, Q, q1, q2, q3, fun i j hi hj he hp => ?_⟩
          by_cases w : i = a ∧ j = b
          · obtain ⟨rfl, rfl⟩ := w
            exact ((a3 j).mp c').2
          · exact q4 i j hi hj he (by omega)
      · clear d9
        rintro kk2 c rf pa gr wt e h m mi su to x1 x2 ⟨d1, d2, d3, d4, d5, d6, d7, d8, d9, d10⟩
        subst d1 d2 d3 d4 d5 d6 d7 d8 d9
        unfold t_X11_layOnes_33_b t_X11_layOnes_130
        refine Ok.pos (nI_le (Nat.le_refl _) (by omega)) ?_
        apply hk
        obtain ⟨Q, q1, q2, q3, q4⟩ := d10
        exact ⟨rfl, rfl, rfl, rfl, rfl, rfl, rfl, nI_1 a, Q, q1, q2, q3, fun i j hi hj he hp => q4 i j hi hj he (by omega)⟩
      · exact ⟨rfl, rfl, rfl, rfl, rfl, rfl, rfl, rfl, rfl, d9⟩
    · clear d9
      rintro kk c rf pa gr wt e h m mi su to x1 ⟨d1, d2, d3, d4, d5, d6, d7, d8, d9⟩
      subst d1 d2 d3 d4 d5 d6 d7 d8
      unfold t_X11_layOnes_25_b
      obtain ⟨Q, q1, q2, q3, q4⟩ := d9
      refine Ok.pos (by decide) (Ok.ret (q1.iff (fun i j hi hj => ⟨q3 i j hi hj, fun r => ?_⟩)))
      refine (r (fun x => x < 10 ∧ Q i x) ⟨hi, q2.1 i hi⟩ (fun x y hx hy s w => ⟨hy, q2.2.2 i x y hi hx hy s.2 ?_⟩)).2
      rcases w with ⟨_, _, w | w⟩
      · subst w; exact q2.1 x hx
      · have hn := w.1
        by_cases l : y < x
        · exact q4 x y hx l w (by omega)
        · exact q2.2.1 y x hy hx (q4 y x hy (by omega) (w.symm hX hx hy) (by omega))
    · refine ⟨rfl, rfl, rfl, rfl, rfl, rfl, rfl, rfl, fun i j => i = j, fun i hi => ⟨2 ^ i, bit_lt hi, d9 i hi, fun j => ?_⟩, ⟨fun i _ => rfl, fun i j _ _ e => e.symm, fun i j k _ _ _ e1 e2 => e1.trans e2⟩, fun i j _ _ e => e ▸ Cn.refl i, fun i j hi hj he hp => by omega⟩
      rw [pw_tb]
      exact ⟨fun e => ⟨e ▸ hi, e⟩, fun e => e.2⟩
  · exact ⟨rfl, rfl, rfl, rfl, rfl, rfl, rfl, rfl, fun k hk => absurd hk (Nat.not_lt_zero k)⟩
