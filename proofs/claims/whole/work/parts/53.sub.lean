-- needs 36 37 48
-- the parts of a set, by their bits
def subM (W s : Nat) : Prop := ∀ i, s.testBit i = true → W.testBit i = true
theorem tb_s (n i : Nat) : n.testBit (i + 1) = (n / 2).testBit i := by rw [Nat.testBit_succ]
theorem tb_z (n : Nat) : n.testBit 0 = decide (n % 2 = 1) := Nat.testBit_zero n
theorem sub_half {W s : Nat} (h : subM W s) : subM (W / 2) (s / 2) := fun i hi => by
  have := h (i + 1) (by rw [tb_s]; exact hi)
  rw [tb_s] at this; exact this
theorem sub_low {W s : Nat} (h : subM W s) : s % 2 = 1 → W % 2 = 1 := fun hs => by
  have := h 0 (by rw [tb_z]; exact decide_eq_true hs)
  rw [tb_z] at this; exact of_decide_eq_true this
theorem sub_of {W s : Nat} (h : subM (W / 2) (s / 2)) (h2 : s % 2 = 1 → W % 2 = 1) : subM W s := fun i hi => by
  cases i with
  | zero => rw [tb_z] at hi ⊢; exact decide_eq_true (h2 (of_decide_eq_true hi))
  | succ i => rw [tb_s] at hi ⊢; exact h i hi
theorem sub_le : ∀ {k W s : Nat}, W < 2 ^ k → subM W s → s ≤ W
  | 0, W, s, hW, h => by
    have : W = 0 := by omega
    subst this
    have : s = 0 := zero_bits.mpr (fun i => by
      cases hi : s.testBit i
      · rfl
      · have := h i hi; rw [Nat.zero_testBit] at this; exact this.symm)
    omega
  | k + 1, W, s, hW, h => by
    have := sub_le (k := k) (by rw [Nat.pow_succ] at hW; omega) (sub_half h)
    have h2 := sub_low h
    omega
def nxt : Nat → Nat → Nat → Nat
  | 0, _, _ => 0
  | k + 1, W, s => if W % 2 = 1 ∧ s % 2 = 0 then s + 1 else 2 * nxt k (W / 2) (s / 2)
def rk : Nat → Nat → Nat → Nat
  | 0, _, _ => 0
  | k + 1, W, s => if W % 2 = 1 then 2 * rk k (W / 2) (s / 2) + s % 2 else rk k (W / 2) (s / 2)
theorem nxt_sub : ∀ {k W s : Nat}, subM W s → subM W (nxt k W s)
  | 0, W, s, _ => fun i hi => by rw [nxt, Nat.zero_testBit] at hi; cases hi
  | k + 1, W, s, h => by
    rw [nxt]
    split
    · rename_i c
      refine sub_of ?_ (fun _ => c.1)
      rw [show (s + 1) / 2 = s / 2 by omega]
      exact sub_half h
    · refine sub_of ?_ (fun q => by omega)
      rw [show 2 * nxt k (W / 2) (s / 2) / 2 = nxt k (W / 2) (s / 2) by omega]
      exact nxt_sub (sub_half h)
theorem nxt_gt : ∀ {k W s : Nat}, W < 2 ^ k → subM W s → s ≠ W → s < nxt k W s
  | 0, W, s, hW, h, hn => by have := sub_le hW h; omega
  | k + 1, W, s, hW, h, hn => by
    have hW' : W / 2 < 2 ^ k := by rw [Nat.pow_succ] at hW; omega
    have h2 := sub_low h
    rw [nxt]
    split
    · omega
    · have := nxt_gt hW' (sub_half h) (fun e => by omega)
      omega
theorem nxt_no : ∀ {k W s r : Nat}, W < 2 ^ k → subM W s → s ≠ W → subM W r → s < r → nxt k W s ≤ r
  | 0, W, s, r, hW, h, hn, hr, hsr => by have := sub_le hW hr; omega
  | k + 1, W, s, r, hW, h, hn, hr, hsr => by
    have hW' : W / 2 < 2 ^ k := by rw [Nat.pow_succ] at hW; omega
    have h2 := sub_low h
    have h3 := sub_low hr
    rw [nxt]
    split
    · omega
    · have := nxt_no hW' (sub_half h) (fun e => by omega) (sub_half hr) (by omega)
      omega
theorem rk_nxt : ∀ {k W s : Nat}, W < 2 ^ k → subM W s → s ≠ W → rk k W (nxt k W s) = rk k W s + 1
  | 0, W, s, hW, h, hn => by have := sub_le hW h; omega
  | k + 1, W, s, hW, h, hn => by
    have hW' : W / 2 < 2 ^ k := by rw [Nat.pow_succ] at hW; omega
    have h2 := sub_low h
    rw [nxt]
    by_cases c : W % 2 = 1 ∧ s % 2 = 0
    · rw [if_pos c, rk, rk, if_pos c.1, if_pos c.1, show (s + 1) / 2 = s / 2 by omega]
      omega
    · have ih := rk_nxt hW' (sub_half h) (fun e => by omega)
      rw [if_neg c, rk, rk, show 2 * nxt k (W / 2) (s / 2) / 2 = nxt k (W / 2) (s / 2) by omega, ih]
      by_cases c2 : W % 2 = 1
      · rw [if_pos c2, if_pos c2]; omega
      · rw [if_neg c2, if_neg c2]
theorem rk_0 : ∀ {k W : Nat}, rk k W 0 = 0
  | 0, W => rfl
  | k + 1, W => by
    rw [rk, show 0 / 2 = 0 from rfl, rk_0]
    split <;> rfl
theorem rk_W : ∀ {k W : Nat}, W < 2 ^ k → rk k W W + 1 = 2 ^ fa_cnt W.testBit k
  | 0, W, hW => rfl
  | k + 1, W, hW => by
    have hW' : W / 2 < 2 ^ k := by rw [Nat.pow_succ] at hW; omega
    have ih := rk_W hW'
    have hc : fa_cnt W.testBit (k + 1) = fa_cnt (W / 2).testBit k + if W % 2 = 1 then 1 else 0 := by
      have : ∀ j, fa_cnt W.testBit (j + 1) = fa_cnt (W / 2).testBit j + if W % 2 = 1 then 1 else 0 := by
        intro j
        induction j with
        | zero => rw [fa_cnt, fa_cnt, fa_cnt, tb_z]; by_cases c : W % 2 = 1 <;> simp [c]
        | succ j ih2 => rw [fa_cnt, ih2, fa_cnt, tb_s]; omega
      exact this k
    rw [rk, hc]
    by_cases c : W % 2 = 1
    · rw [if_pos c, if_pos c, Nat.pow_add, ← ih]; omega
    · rw [if_neg c, if_neg c, Nat.add_zero]; exact ih
theorem rk_inj : ∀ {k W s r : Nat}, W < 2 ^ k → subM W s → subM W r → rk k W s = rk k W r → s = r
  | 0, W, s, r, hW, h, hr, e => by have := sub_le hW h; have := sub_le hW hr; omega
  | k + 1, W, s, r, hW, h, hr, e => by
    have hW' : W / 2 < 2 ^ k := by rw [Nat.pow_succ] at hW; omega
    have h2 := sub_low h
    have h3 := sub_low hr
    rw [rk, rk] at e
    by_cases c : W % 2 = 1
    · rw [if_pos c, if_pos c] at e
      have := rk_inj hW' (sub_half h) (sub_half hr) (by omega)
      omega
    · rw [if_neg c, if_neg c] at e
      have := rk_inj hW' (sub_half h) (sub_half hr) e
      omega
theorem and_2 (a b : Nat) : (a &&& b) % 2 = if a % 2 = 1 ∧ b % 2 = 1 then 1 else 0 := by
  have h : (a &&& b).testBit 0 = (a.testBit 0 && b.testBit 0) := Nat.testBit_and a b 0
  rw [tb_z, tb_z, tb_z] at h
  by_cases c : a % 2 = 1 ∧ b % 2 = 1
  · rw [if_pos c]
    rw [decide_eq_true c.1, decide_eq_true c.2] at h
    exact of_decide_eq_true h
  · rw [if_neg c]
    have : ¬ (a &&& b) % 2 = 1 := fun q => c (by
      rw [decide_eq_true q] at h
      have := h.symm
      rw [Bool.and_eq_true] at this
      exact ⟨of_decide_eq_true this.1, of_decide_eq_true this.2⟩)
    omega
theorem and_h (a b : Nat) : (a &&& b) / 2 = a / 2 &&& b / 2 := by
  apply Nat.eq_of_testBit_eq
  intro i
  rw [← tb_s, Nat.testBit_and, Nat.testBit_and, tb_s, tb_s]
theorem back1 : ∀ {k W s : Nat}, W < 2 ^ k → subM W s → (2 ^ k - 1 - (W - s)) &&& W = s
  | 0, W, s, hW, h => by have := sub_le hW h; have : W = 0 := by omega
                         subst this; rw [Nat.and_zero]; omega
  | k + 1, W, s, hW, h => by
    have hW' : W / 2 < 2 ^ k := by rw [Nat.pow_succ] at hW; omega
    have h2 := sub_low h
    have hle := sub_le hW' (sub_half h)
    have ih := back1 hW' (sub_half h)
    have hp : 2 ^ (k + 1) = 2 * 2 ^ k := by rw [Nat.pow_succ]; omega
    have e1 : (2 ^ (k + 1) - 1 - (W - s)) / 2 = 2 ^ k - 1 - (W / 2 - s / 2) := by omega
    have e2 := and_h (2 ^ (k + 1) - 1 - (W - s)) W
    rw [e1, ih] at e2
    have e3 := and_2 (2 ^ (k + 1) - 1 - (W - s)) W
    by_cases c : W % 2 = 1
    · by_cases d : s % 2 = 1
      · rw [if_pos ⟨by omega, c⟩] at e3; omega
      · rw [if_neg (fun q => by omega)] at e3; omega
    · rw [if_neg (fun q => c q.2)] at e3; omega
theorem nxt_eq : ∀ {k W s : Nat}, W < 2 ^ k → subM W s → (s + 2 ^ k - W) % 2 ^ k &&& W = nxt k W s
  | 0, W, s, hW, h => by rw [Nat.pow_zero, Nat.mod_one, Nat.zero_and]; rfl
  | k + 1, W, s, hW, h => by
    have hW' : W / 2 < 2 ^ k := by rw [Nat.pow_succ] at hW; omega
    have h2 := sub_low h
    have hle := sub_le hW' (sub_half h)
    have hle0 := sub_le hW h
    have ih := nxt_eq hW' (sub_half h)
    have b := back1 hW' (sub_half h)
    have hp : 2 ^ (k + 1) = 2 * 2 ^ k := by rw [Nat.pow_succ]; omega
    have e2 := and_h ((s + 2 ^ (k + 1) - W) % 2 ^ (k + 1)) W
    have e3 := and_2 ((s + 2 ^ (k + 1) - W) % 2 ^ (k + 1)) W
    rw [nxt]
    generalize hP : 2 ^ k = P at *
    rw [hp] at e2 e3 ⊢
    by_cases c : W % 2 = 1 ∧ s % 2 = 0
    · rw [if_pos c]
      have hlt : s < W := by omega
      have e4 : (s + 2 * P - W) % (2 * P) = s + 2 * P - W := Nat.mod_eq_of_lt (by omega)
      rw [e4] at e2 e3 ⊢
      rw [if_pos ⟨by omega, c.1⟩] at e3
      have e5 : (s + 2 * P - W) / 2 = P - 1 - (W / 2 - s / 2) := by omega
      rw [e5, b] at e2
      omega
    · rw [if_neg c]
      have e6 : (s + 2 * P - W) % (2 * P) = 2 * ((s / 2 + P - W / 2) % P) := by
        rw [show s + 2 * P - W = 2 * (s / 2 + P - W / 2) by omega, Nat.mul_mod_mul_left]
      rw [e6] at e2 e3 ⊢
      rw [if_neg (fun q => by omega)] at e3
      rw [show 2 * ((s / 2 + P - W / 2) % P) / 2 = (s / 2 + P - W / 2) % P by omega, ih] at e2
      omega
