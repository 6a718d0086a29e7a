-- needs 36
-- bits
theorem sh_ix {b : Nat} (hb : b < 32) : ((nI b &&& 31).toBitVec.smod 32).toNat = b := by
  have h : ∀ b : Fin 32, ((nI b.val &&& 31).toBitVec.smod 32).toNat = b.val := by decide +kernel
  exact h ⟨b, hb⟩
theorem sh1 {b : Nat} (hb : b < 31) : (1 : Int32) <<< (nI b &&& 31) = nI (2 ^ b) := by
  have h := pk_shlN (n := 1) (nI b &&& 31) b (sh_ix (by omega)) (by rw [Nat.one_mul]; exact Nat.pow_lt_pow_right (by decide) (by omega))
  rw [Nat.one_mul] at h
  exact h
theorem shb {a b : Nat} (ha : a < 2 ^ 31) (hb : b < 32) : nI a >>> (nI b &&& 31) = nI (a / 2 ^ b) := pk_shrN ha _ b (sh_ix hb)
theorem tb {a b : Nat} (ha : a < 2 ^ 31) (hb : b < 32) : (nI a >>> (nI b &&& 31)) &&& 1 = if a.testBit b then 1 else 0 := by
  rw [shb ha hb]
  have h := fa_and (a / 2 ^ b) 1
  rw [show (1 : Int32) = nI 1 from rfl, h, Nat.and_one_is_mod]
  have h2 : a.testBit b = decide (a / 2 ^ b % 2 = 1) := Nat.testBit_eq_decide_div_mod_eq
  rw [h2]
  rcases Nat.mod_two_eq_zero_or_one (a / 2 ^ b) with h3 | h3
  · rw [h3]; rfl
  · rw [h3]; rfl
theorem tb0 {a b : Nat} (ha : a < 2 ^ 31) (hb : b < 32) : ((nI a >>> (nI b &&& 31)) &&& 1 = 0) ↔ a.testBit b = false := by
  rw [tb ha hb]
  cases a.testBit b <;> simp
theorem tb1 {a b : Nat} (ha : a < 2 ^ 31) (hb : b < 32) : ((nI a >>> (nI b &&& 31)) &&& 1 = 1) ↔ a.testBit b = true := by
  rw [tb ha hb]
  cases a.testBit b <;> simp
theorem or_lt {a b k : Nat} (ha : a < 2 ^ k) (hb : b < 2 ^ k) : a ||| b < 2 ^ k := Nat.or_lt_two_pow ha hb
theorem bit_lt {i k : Nat} (h : i < k) : 2 ^ i < 2 ^ k := Nat.pow_lt_pow_right (by decide) h
theorem bit_at (i j : Nat) : (2 ^ i).testBit j = decide (i = j) := by
  rw [Nat.testBit_two_pow]
theorem bit_or (a i j : Nat) : (a ||| 2 ^ i).testBit j = (a.testBit j || decide (i = j)) := by
  rw [Nat.testBit_or, bit_at]
theorem bits_ext {a b k : Nat} (ha : a < 2 ^ k) (hb : b < 2 ^ k) (h : ∀ i, i < k → a.testBit i = b.testBit i) : a = b := by
  apply Nat.eq_of_testBit_eq
  intro i
  by_cases hi : i < k
  · exact h i hi
  · rw [Nat.testBit_lt_two_pow (Nat.lt_of_lt_of_le ha (Nat.pow_le_pow_right (by decide) (by omega))), Nat.testBit_lt_two_pow (Nat.lt_of_lt_of_le hb (Nat.pow_le_pow_right (by decide) (by omega)))]
theorem bit_hi {a k i : Nat} (ha : a < 2 ^ k) (h : k ≤ i) : a.testBit i = false := Nat.testBit_lt_two_pow (Nat.lt_of_lt_of_le ha (Nat.pow_le_pow_right (by decide) h))
theorem bit_in {a k i : Nat} (ha : a < 2 ^ k) (h : a.testBit i = true) : i < k := by
  apply Decidable.byContradiction
  intro hh
  rw [bit_hi ha (by omega)] at h
  cases h
-- x & ~y
theorem andn {a b : Nat} (hb : b < 2 ^ 31) : nI a &&& (nI b ^^^ (-1 : Int32)) = nI (a &&& (2 ^ 32 - 1 - b)) := by
  have h : nI b ^^^ (-1 : Int32) = nI (2 ^ 32 - 1 - b) := by
    apply Int32.toBitVec_inj.mp
    rw [Int32.toBitVec_xor]
    apply BitVec.eq_of_toNat_eq
    rw [BitVec.toNat_xor, pk_tn (by omega), pk_tn (by omega)]
    rw [show (-1 : Int32).toBitVec.toNat = 2 ^ 32 - 1 from rfl]
    rw [Nat.xor_comm]
    apply Nat.eq_of_testBit_eq
    intro i
    rw [Nat.testBit_xor, Nat.testBit_two_pow_sub_one, show 2 ^ 32 - 1 - b = 2 ^ 32 - (b + 1) by omega, Nat.testBit_two_pow_sub_succ (by omega)]
    by_cases hi : i < 32
    · simp [hi]
    · simp [hi, bit_hi (k := 31) hb (show 31 ≤ i by omega)]
  rw [h, fa_and]
theorem andn_at {a b : Nat} (ha : a < 2 ^ 31) (hb : b < 2 ^ 31) (i : Nat) : (a &&& (2 ^ 32 - 1 - b)).testBit i = (a.testBit i && !b.testBit i) := by
  rw [Nat.testBit_and, show 2 ^ 32 - 1 - b = 2 ^ 32 - (b + 1) by omega, Nat.testBit_two_pow_sub_succ (by omega)]
  by_cases hi : i < 32
  · simp [hi]
  · simp [hi, bit_hi (k := 31) ha (show 31 ≤ i by omega)]
theorem zero_bits {a : Nat} : a = 0 ↔ ∀ i, a.testBit i = false := by
  constructor
  · rintro rfl i; exact Nat.zero_testBit i
  · intro h
    apply Nat.eq_of_testBit_eq
    intro i
    rw [h i, Nat.zero_testBit]
-- popcounts
def pop (n : Nat) : Nat := fa_cnt n.testBit 12
theorem pop_le (n : Nat) : pop n ≤ 12 := fa_cnt_le _ 12
theorem bits_ok {n : Nat} (hn : n < 2 ^ 31) : t_X11_bits (nI n) = some (nI (pop n)) := by
  have h : Ok (t_X11_bits (nI n)) (fun u => u = nI (pop n)) := by
    unfold t_X11_bits
    refine lr_X11_bits_4 _ (fun i x0 x1 x2 => x0 = nI n ∧ x1 = nI (fa_cnt n.testBit i) ∧ x2 = nI i) 12 ?_ ?_ lfuel 0 _ _ _ (Nat.zero_le _) (by unfold lfuel; omega) ?_
    · rintro kk i x0 x1 x2 hi ⟨d1, d2, d3⟩ hk
      subst d1 d2 d3
      unfold t_X11_bits_4_b
      refine Ok.neg (fun h => by have := (nI_leI (a := 12) (b := i) (by decide) (by omega)).mp h; omega) (hk _ _ _ ⟨rfl, ?_, nI_1 i⟩)
      rw [tb hn (by omega), fa_cnt]
      cases h : n.testBit i
      · simp [h]
      · simp only [h, if_true]; exact nI_1 _
    · rintro kk x0 x1 x2 ⟨d1, d2, d3⟩
      subst d1 d2 d3
      unfold t_X11_bits_4_b
      exact Ok.pos (by decide) (Ok.ret rfl)
    · exact ⟨rfl, rfl, rfl⟩
  obtain ⟨v, e, rfl⟩ := h
  exact e
theorem bitCount_all : ∀ a b : Fin 64, t_J6_bitCount_0f7a4 (nI (64 * a.val + b.val)) = some (nI (pop (64 * a.val + b.val))) := by decide +kernel
theorem bitCount_ok {n : Nat} (hn : n < 4096) : t_J6_bitCount_0f7a4 (nI n) = some (nI (pop n)) := by
  have h := bitCount_all ⟨n / 64, by omega⟩ ⟨n % 64, by omega⟩
  simp only [Nat.div_add_mod] at h
  exact h
