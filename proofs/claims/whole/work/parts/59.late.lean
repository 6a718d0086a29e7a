-- how likely so many late moves are
def tl (w v : Nat) : Nat → Nat → Nat
  | 0, k => if k = 0 then 1 else 0
  | i + 1, k => tl w v i k * v + (if k = 0 then 0 else tl w v i (k - 1) * w)
def bn : Nat → Nat → Nat
  | 0, k => if k = 0 then 1 else 0
  | i + 1, k => bn i k + (if k = 0 then 0 else bn i (k - 1))
theorem bn_0 : ∀ i, bn i 0 = 1
  | 0 => rfl
  | i + 1 => by rw [bn, if_pos rfl, bn_0 i]
theorem bn_hi : ∀ i k, i < k → bn i k = 0
  | 0, k, h => by rw [bn, if_neg (by omega)]
  | i + 1, k, h => by rw [bn, if_neg (by omega), bn_hi i k (by omega), bn_hi i (k - 1) (by omega)]
theorem tl_hi (w v : Nat) : ∀ i k, i < k → tl w v i k = 0
  | 0, k, h => by rw [tl, if_neg (by omega)]
  | i + 1, k, h => by rw [tl, if_neg (by omega), tl_hi w v i k (by omega), tl_hi w v i (k - 1) (by omega), Nat.zero_mul, Nat.zero_mul]
theorem tl_bn (w v : Nat) : ∀ i k, k ≤ i → tl w v i k = bn i k * w ^ k * v ^ (i - k)
  | 0, k, h => by
    have : k = 0 := by omega
    subst this
    rfl
  | i + 1, 0, h => by
    rw [tl, if_pos rfl, tl_bn w v i 0 (by omega), bn_0, bn_0, Nat.add_zero, Nat.sub_zero, Nat.sub_zero, Nat.pow_succ, Nat.mul_assoc]
  | i + 1, k + 1, h => by
    rw [tl, if_neg (by omega), Nat.add_sub_cancel, tl_bn w v i k (by omega), bn, if_neg (by omega), Nat.add_sub_cancel, show i + 1 - (k + 1) = i - k by omega]
    by_cases e : k = i
    · subst e
      rw [tl_hi w v k (k + 1) (by omega), bn_hi k (k + 1) (by omega), Nat.zero_mul, Nat.zero_add, Nat.zero_add, Nat.sub_self, Nat.pow_zero, Nat.mul_one, Nat.mul_one, Nat.pow_succ, Nat.mul_assoc]
    · rw [tl_bn w v i (k + 1) (by omega), show i - k = i - (k + 1) + 1 by omega, Nat.pow_succ, Nat.pow_succ]
      generalize v ^ (i - (k + 1)) = V
      generalize w ^ k = W
      generalize bn i (k + 1) = b1
      generalize bn i k = b0
      grind
theorem bn_all : ∀ n k : Fin 13, k.val ≤ n.val → bn n.val k.val * (n.val - k.val) / (k.val + 1) = bn n.val (k.val + 1) ∧ bn n.val k.val ≤ 1000 := by decide +kernel
theorem bn_next {n k : Nat} (hn : n ≤ 12) (hk : k ≤ n) : bn n k * (n - k) / (k + 1) = bn n (k + 1) ∧ bn n k ≤ 1000 := bn_all ⟨n, by omega⟩ ⟨k, by omega⟩ hk
theorem tl_sm (w v i : Nat) : ∀ m, sm (tl w v (i + 1)) (m + 1) = v * sm (tl w v i) (m + 1) + w * sm (tl w v i) m
  | 0 => by
    simp only [sm, tl, ↓reduceIte]
    grind
  | m + 1 => by
    have ih := tl_sm w v i m
    have h1 : sm (tl w v (i + 1)) (m + 1 + 1) = sm (tl w v (i + 1)) (m + 1) + tl w v (i + 1) (m + 1) := rfl
    have h2 : sm (tl w v i) (m + 1 + 1) = sm (tl w v i) (m + 1) + tl w v i (m + 1) := rfl
    have h3 : sm (tl w v i) (m + 1) = sm (tl w v i) m + tl w v i m := rfl
    have h4 : tl w v (i + 1) (m + 1) = tl w v i (m + 1) * v + tl w v i m * w := by rw [tl, if_neg (by omega), Nat.add_sub_cancel]
    rw [h1, ih, h4, h2]
    generalize tl w v i (m + 1) = a at *
    generalize tl w v i m = b at *
    generalize sm (tl w v i) (m + 1) = c at *
    generalize sm (tl w v i) m = d at *
    subst h3
    grind
theorem sm_up {f : Nat → Nat} (m : Nat) : sm f m ≤ sm f (m + 1) := Nat.le_add_right _ _
theorem tl_sum {w v : Nat} (h : w + v = 20) : ∀ i, sm (tl w v i) 13 ≤ 20 ^ i
  | 0 => by simp [sm, tl]
  | i + 1 => by
    have ih := tl_sum h i
    have h1 : sm (tl w v (i + 1)) 13 = v * sm (tl w v i) 13 + w * sm (tl w v i) 12 := tl_sm w v i 12
    have h2 : sm (tl w v i) 12 ≤ sm (tl w v i) 13 := sm_up 12
    rw [h1, Nat.pow_succ]
    have h3 : w * sm (tl w v i) 12 ≤ w * sm (tl w v i) 13 := Nat.mul_le_mul (Nat.le_refl _) h2
    have h4 : v * sm (tl w v i) 13 + w * sm (tl w v i) 13 = 20 * sm (tl w v i) 13 := by rw [← Nat.add_mul, Nat.add_comm v w, h]
    omega
theorem sm_0 {f : Nat → Nat} : ∀ {k : Nat}, (∀ j, j < k → f j = 0) → sm f k = 0
  | 0, _ => rfl
  | k + 1, h => by
    have h1 : sm f (k + 1) = sm f k + f k := rfl
    rw [h1, sm_0 (fun j hj => h j (by omega)), h k (by omega)]
theorem sm_tail {f : Nat → Nat} {m : Nat} : ∀ {k : Nat}, m ≤ k → (∀ j, m ≤ j → f j = 0) → sm f k = sm f m
  | 0, h, _ => by
    have : m = 0 := by omega
    subst this; rfl
  | k + 1, h, h2 => by
    by_cases e : m = k + 1
    · rw [e]
    · have h1 : sm f (k + 1) = sm f k + f k := rfl
      rw [h1, h2 k (by omega), Nat.add_zero]
      exact sm_tail (by omega) h2
def lf (w n late : Nat) (d : Nat) : Nat := if late ≤ d then tl w (20 - w) n d else 0
theorem lf_le {w n late : Nat} (hw : w ≤ 20) : sm (lf w n late) 13 ≤ 20 ^ n := Nat.le_trans (sm_le (fun j _ => by unfold lf; split; exact Nat.le_refl _; exact Nat.zero_le _)) (tl_sum (w := w) (v := 20 - w) (by omega) n)
theorem m20 {w : Nat} (hw : w ≤ 20) : ((20 : Int32) - nI w).toInt64 = lN (20 - w) := by
  rw [show (20 : Int32) = nI 20 from rfl, pk_sub hw, nI_l (by omega)]
theorem countLate_ok {n late w : Nat} (hn : n ≤ 12) (hl : late ≤ 12) (hw : w ≤ 20) (u0 l0 : Int64) (c0 : Nat → Int64) : Ok (t_X4_countLate u0 l0 c0 (nI n) (nI late) (nI w)) (fun r => r.1 = lN (sm (lf w n late) 13) ∧ r.2.1 = lN (20 ^ n)) := by
  unfold t_X4_countLate
  rw [fillL_ok (by decide), bd1_s, ckn_f (by decide), show (0 : Int32).toNatClampNeg = 0 from rfl]
  refine lr_X4_countLate_23 _ (fun i u l c x1 x2 x3 x4 => x1 = nI n ∧ x2 = nI late ∧ x3 = nI w ∧ x4 = nI i ∧ l = lN (20 ^ i) ∧ isW c (tl w (20 - w) i)) n ?_ ?_ lfuel 0 _ _ _ _ _ _ _ (Nat.zero_le _) (by unfold lfuel; omega) ?_
  · rintro kk i u l c x1 x2 x3 x4 hi ⟨d1, d2, d3, d4, d5, d6⟩ hk
    subst d1 d2 d3 d4 d5
    unfold t_X4_countLate_23_b
    refine Ok.neg (nI_ge hi (by omega)) ?_
    rw [show (13 : Int32) - 1 = nI (12 - 0) from rfl]
    refine lr_X4_countLate_38 _ (fun j u l c x1 x2 x3 x4 x5 => x1 = nI n ∧ x2 = nI late ∧ x3 = nI w ∧ x4 = nI i ∧ l = lN (20 ^ i) ∧ x5 = nI (12 - j) ∧ ∀ d, d < 13 → c d = lN (if 12 - j < d then tl w (20 - w) (i + 1) d else tl w (20 - w) i d)) 12 ?_ ?_ lfuel 0 _ _ _ _ _ _ _ _ (Nat.zero_le _) (by unfold lfuel; omega) ?_
    · clear d6
      rintro kk2 j u l c x1 x2 x3 x4 x5 hj ⟨d1, d2, d3, d4, d5, d6, d7⟩ hk2
      subst d1 d2 d3 d4 d5 d6
      unfold t_X4_countLate_38_b
      obtain ⟨y, hy⟩ : ∃ y, 12 - j = y + 1 := ⟨11 - j, by omega⟩
      rw [hy, nI_pp, m20 hw, nI_l (by omega), pk_m1, nI_clamp (by omega), nI_clamp (by omega), ckn_m (by omega) (by decide), ckn_m (by omega) (by decide), ckn_m (by omega) (by decide)]
      refine Ok.neg (nI_nle (by omega) (by omega)) ?_
      rw [d7 (y + 1) (by omega), d7 y (by omega), hy, if_neg (Nat.lt_irrefl _), if_neg (show ¬ y + 1 < y by omega), lN_mul, lN_mul, lN_add]
      apply hk2
      refine ⟨rfl, rfl, rfl, rfl, rfl, by congr 1; omega, fun d hd => ?_⟩
      rw [updL_at]
      by_cases e : d = y + 1
      · subst e
        rw [if_pos rfl, if_pos (by omega), tl, if_neg (by omega), Nat.add_sub_cancel]
      · rw [if_neg e, d7 d hd]
        congr 1
        by_cases e2 : y + 1 < d
        · rw [if_pos (by omega), if_pos (by omega)]
        · rw [if_neg (by omega), if_neg (by omega)]
    · clear d6
      rintro kk2 u l c x1 x2 x3 x4 x5 ⟨d1, d2, d3, d4, d5, d6, d7⟩
      subst d1 d2 d3 d4 d5 d6
      unfold t_X4_countLate_38_b t_X4_countLate_82
      refine Ok.pos (by decide) ?_
      rw [ckn_f (by decide), ckn_f (by decide), show (0 : Int32).toNatClampNeg = 0 from rfl, m20 hw, d7 0 (by omega), if_neg (by omega), lN_mul, show (20 : Int64) = lN 20 from rfl, lN_mul]
      apply hk
      refine ⟨rfl, rfl, rfl, nI_1 i, by rw [Nat.pow_succ], fun d hd => ?_⟩
      rw [updL_at]
      by_cases e : d = 0
      · subst e
        rw [if_pos rfl, tl, if_pos rfl, Nat.add_zero]
      · rw [if_neg e, d7 d hd, if_pos (by omega)]
    · refine ⟨rfl, rfl, rfl, rfl, rfl, rfl, fun d hd => ?_⟩
      rw [d6 d hd, if_neg (by omega)]
  · rintro kk u l c x1 x2 x3 x4 ⟨d1, d2, d3, d4, d5, d6⟩
    subst d1 d2 d3 d4 d5
    unfold t_X4_countLate_23_b t_X4_countLate_114
    refine Ok.pos (nI_le (Nat.le_refl _) (by omega)) ?_
    refine lr_X4_countLate_122 _ (fun j u l c' x4 => c = c' ∧ l = lN (20 ^ n) ∧ x4 = nI (late + j) ∧ u = lN (sm (lf w n late) (late + j))) (13 - late) ?_ ?_ lfuel 0 _ _ _ _ (Nat.zero_le _) (by unfold lfuel; omega) ?_
    · rintro kk2 j u l c' x4 hj ⟨d1, d2, d3, d4⟩ hk2
      subst d1 d2 d3 d4
      unfold t_X4_countLate_122_b
      rw [nI_clamp (by omega), ckn_m (by omega) (by decide), d6 (late + j) (by omega), lN_add]
      refine Ok.neg (nI_pos (by omega)) (Ok.neg (nI_ge (b := 13) (by omega) (by decide)) ?_)
      apply hk2
      refine ⟨rfl, rfl, by rw [nI_1]; rfl, ?_⟩
      have h1 : sm (lf w n late) (late + (j + 1)) = sm (lf w n late) (late + j) + lf w n late (late + j) := rfl
      rw [h1]
      congr 2
      unfold lf
      rw [if_pos (by omega)]
    · rintro kk2 u l c' x4 ⟨d1, d2, d3, d4⟩
      subst d1 d2 d3 d4
      unfold t_X4_countLate_122_b
      refine Ok.neg (nI_pos (by omega)) (Ok.pos (nI_le (a := 13) (by omega) (by omega)) (Ok.ret ⟨?_, rfl⟩))
      rw [show late + (13 - late) = 13 by omega]
    · refine ⟨rfl, rfl, rfl, ?_⟩
      rw [Nat.add_zero, sm_0 (fun j hj => by unfold lf; rw [if_neg (by omega)])]; rfl
  · refine ⟨rfl, rfl, rfl, rfl, rfl, fun d hd => ?_⟩
    rw [updL_at, tl]
    by_cases e : d = 0
    · rw [if_pos e, if_pos e]; rfl
    · rw [if_neg e, if_neg e, if_pos hd]; rfl
theorem late113_ok {n late w : Nat} (hn : n ≤ 12) (hl : late ≤ n) (hw : w ≤ 20) (am lm : Nat → Int32) (part : Int32) : Ok (t_X11_late_113 am lm (nI w) part (nI n) (nI late)) (fun r => t_X11_term (lN (sm (lf w n late) 13)) (lN (20 ^ n)) part = some r) := by
  unfold t_X11_late_113
  have hterm := term_ok (u := sm (lf w n late) 13) (l := 20 ^ n) (lf_le hw) (Nat.pow_pos (by decide)) (Nat.lt_of_le_of_lt (Nat.pow_le_pow_right (by decide) hn) (by decide)) part
  refine lr_X11_late_127 _ (fun k a b x2 x3 x5 x6 x7 x9 x11 x13 => x2 = nI w ∧ part = x3 ∧ x5 = nI n ∧ x6 = nI late ∧ x13 = nI k ∧ x11 = lN (bn n k) ∧ x9 = lN (20 ^ (if k ≤ n then k else n)) ∧ x7 = lN (sm (lf w n late) k)) (n + 1) ?_ ?_ lfuel 0 _ _ _ _ _ _ _ _ _ _ (Nat.zero_le _) (by unfold lfuel; omega) ?_
  · rintro kk k a b x2 x3 x5 x6 x7 x9 x11 x13 hk0 ⟨d1, d2, d3, d4, d5, d6, d7, d8⟩ hk
    subst d1 d2 d3 d4 d5 d6 d7 d8
    unfold t_X11_late_127_b
    refine Ok.neg (nI_nlt (by omega) (by omega)) ?_
    refine lr_X11_late_141 _ (fun i a b x2 x3 x5 x6 x7 x9 x11 x13 x14 x16 => x2 = nI w ∧ part = x3 ∧ x5 = nI n ∧ x6 = nI late ∧ x13 = nI k ∧ x11 = lN (bn n k) ∧ x9 = lN (20 ^ (if k ≤ n then k else n)) ∧ x7 = lN (sm (lf w n late) k) ∧ x16 = nI i ∧ x14 = lN (bn n k * w ^ (if i ≤ k then i else k) * (20 - w) ^ (i - k))) n ?_ ?_ lfuel 0 _ _ _ _ _ _ _ _ _ _ _ _ (Nat.zero_le _) (by unfold lfuel; omega) ?_
    · rintro kk2 i a b x2 x3 x5 x6 x7 x9 x11 x13 x14 x16 hi ⟨d1, d2, d3, d4, d5, d6, d7, d8, d9, d10⟩ hk2
      subst d1 d2 d3 d4 d5 d6 d7 d8 d9 d10
      unfold t_X11_late_141_b t_X11_late_167
      rw [m20 hw, nI_l (by omega), lN_mul, lN_mul]
      refine Ok.neg (nI_ge hi (by omega)) (Ok.ite (fun c => ?_) (fun c => ?_))
      · rw [nI_leI (by omega) (by omega)] at c
        apply hk2
        refine ⟨rfl, rfl, rfl, rfl, rfl, rfl, rfl, rfl, nI_1 i, ?_⟩
        congr 1
        rw [if_neg (show ¬ i + 1 ≤ k by omega), show i + 1 - k = i - k + 1 by omega, Nat.pow_succ]
        have : (if i ≤ k then i else k) = k := by split <;> omega
        rw [this, Nat.mul_assoc]
      · rw [nI_leI (by omega) (by omega)] at c
        apply hk2
        refine ⟨rfl, rfl, rfl, rfl, rfl, rfl, rfl, rfl, nI_1 i, ?_⟩
        congr 1
        rw [if_pos (show i + 1 ≤ k by omega), if_pos (show i ≤ k by omega), show i + 1 - k = 0 by omega, show i - k = 0 by omega, Nat.pow_zero, Nat.mul_one, Nat.mul_one, Nat.pow_succ, Nat.mul_assoc]
    · rintro kk2 a b x2 x3 x5 x6 x7 x9 x11 x13 x14 x16 ⟨d1, d2, d3, d4, d5, d6, d7, d8, d9, d10⟩
      subst d1 d2 d3 d4 d5 d6 d7 d8 d9 d10
      unfold t_X11_late_141_b t_X11_late_176
      refine Ok.pos (nI_le (Nat.le_refl _) (by omega)) ?_
      have hb := bn_next hn (show k ≤ n by omega)
      have e14 : bn n k * w ^ (if n ≤ k then n else k) * (20 - w) ^ (n - k) = tl w (20 - w) n k := by
        rw [tl_bn w (20 - w) n k (by omega), show (if n ≤ k then n else k) = k by split <;> omega]
      rw [e14]
      have hb2 : bn n k * (n - k) ≤ 1000 * 12 := Nat.mul_le_mul hb.2 (by omega)
      have fin : ∀ s0 : Nat, s0 = lf w n late k → Ok (t_X11_late_191 kk a b (nI w) part (nI n) (nI late) (lN (20 ^ (if k ≤ n then k else n))) (lN (bn n k)) (nI k) (lN s0) (lN (sm (lf w n late) k))) (fun r => t_X11_term (lN (sm (lf w n late) 13)) (lN (20 ^ n)) part = some r) := by
        intro s0 hs0
        unfold t_X11_late_191 t_X11_late_227
        have h1 : sm (lf w n late) (k + 1) = sm (lf w n late) k + lf w n late k := rfl
        rw [nI_1, nI_l (by omega), ckn_f (fun q => by rw [show (0 : Int64) = lN 0 from rfl, lN_eq (by omega) (by omega)] at q; omega), pk_sub (show k ≤ n by omega), nI_l (by omega), lN_mul, pk_lDiv (by omega) (by omega) (by omega), hb.1, lN_add, hs0, ← h1, if_pos (show k ≤ n by omega)]
        refine Ok.ite (fun c => ?_) (fun c => ?_)
        · rw [nI_leI (by omega) (by omega)] at c
          have ek : k = n := by omega
          rw [show (1 : Int64) = lN 1 from rfl, lN_mul, Nat.mul_one]
          apply hk
          refine ⟨rfl, rfl, rfl, rfl, rfl, rfl, ?_, rfl⟩
          rw [if_neg (by omega), ek]
        · rw [nI_leI (by omega) (by omega)] at c
          rw [show (20 : Int64) = lN 20 from rfl, lN_mul, ← Nat.pow_succ]
          apply hk
          refine ⟨rfl, rfl, rfl, rfl, rfl, rfl, ?_, rfl⟩
          rw [if_pos (by omega)]
      refine Ok.ite (fun c => ?_) (fun c => ?_)
      · rw [nI_ltI (by omega) (by omega)] at c
        exact fin 0 (by unfold lf; rw [if_neg (by omega)])
      · rw [nI_ltI (by omega) (by omega)] at c
        exact fin _ (by unfold lf; rw [if_pos (by omega)])
    · refine ⟨rfl, rfl, rfl, rfl, rfl, rfl, rfl, rfl, rfl, ?_⟩
      rw [if_pos (Nat.zero_le _), Nat.pow_zero, Nat.zero_sub, Nat.pow_zero, Nat.mul_one, Nat.mul_one]
  · rintro kk a b x2 x3 x5 x6 x7 x9 x11 x13 ⟨d1, d2, d3, d4, d5, d6, d7, d8⟩
    subst d1 d2 d3 d4 d5 d6 d7 d8
    unfold t_X11_late_127_b t_X11_late_236
    refine Ok.pos (nI_lt (by omega) (by omega)) ?_
    have h1 : sm (lf w n late) 13 = sm (lf w n late) (n + 1) := sm_tail (by omega) (fun j hj => by unfold lf; rw [tl_hi w (20 - w) n j (by omega)]; split <;> rfl)
    rw [if_neg (by omega), ← h1, hterm, bd1_s]
    exact Ok.ret rfl
  · refine ⟨rfl, rfl, rfl, rfl, rfl, ?_, ?_, rfl⟩
    · rw [bn_0]; rfl
    · rw [if_pos (Nat.zero_le _)]; rfl
