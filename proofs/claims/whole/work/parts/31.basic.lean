-- small rows over twins
theorem ckn_f {R : Type} {c : Prop} [Decidable c] {x : Option R} (h : ¬ c) : ckn c x = x := by unfold ckn; rw [if_neg h]
theorem ckn_n {R : Type} {k N : Nat} {x : Option R} (h : k < N) (hN : N < 2 ^ 31) : ckn (nI k < 0 ∨ N ≤ (nI k).toNatClampNeg) x = x := ckn_f (nI_in h hN)
theorem bz {α : Type} {c : Prop} [Decidable c] (a b : α) : (if (if c then (1 : Int32) else 0) = 0 then a else b) = if c then b else a := by
  by_cases h : c
  · simp [h]
  · simp [h]
theorem cknb {R : Type} {c : Prop} [Decidable c] {x : Option R} : ckn (¬ ((if c then (1 : Int32) else 0) = 0 ∨ (if c then (1 : Int32) else 0) = 1)) x = x := by
  apply ckn_f
  by_cases h : c
  · simp [h]
  · simp [h]
theorem i_lt {a b : Int32} : a < b ↔ a.toInt < b.toInt := Int32.lt_iff_toInt_lt
theorem i_le {a b : Int32} : a ≤ b ↔ a.toInt ≤ b.toInt := Int32.le_iff_toInt_le
theorem i_nlt {a b : Int32} : ¬ a < b ↔ b ≤ a := by rw [i_lt, i_le]; omega
theorem within_ok (x a b : Int32) : t_X10_within x a b = some (if a ≤ x ∧ x ≤ b then 1 else 0) := by
  unfold t_X10_within t_X10_within_15
  by_cases h1 : x < a
  · rw [if_pos h1, ckn_f (by decide), if_neg (fun h => by have := h.1; rw [i_le] at this; rw [i_lt] at h1; omega)]
  · rw [if_neg h1]
    by_cases h2 : b < x
    · rw [if_pos h2, ckn_f (by decide), if_neg (fun h => by have := h.2; rw [i_le] at this; rw [i_lt] at h2; omega)]
    · rw [if_neg h2, ckn_f (by decide), if_pos ⟨i_nlt.mp h1, i_nlt.mp h2⟩]
theorem in_ok (x a b : Int32) : t_X11_in x a b = some (if a ≤ x ∧ x ≤ b then 1 else 0) := by
  unfold t_X11_in t_X11_in_15
  by_cases h1 : x < a
  · rw [if_pos h1, ckn_f (by decide), if_neg (fun h => by have := h.1; rw [i_le] at this; rw [i_lt] at h1; omega)]
  · rw [if_neg h1]
    by_cases h2 : b < x
    · rw [if_pos h2, ckn_f (by decide), if_neg (fun h => by have := h.2; rw [i_le] at this; rw [i_lt] at h2; omega)]
    · rw [if_neg h2, ckn_f (by decide), if_pos ⟨i_nlt.mp h1, i_nlt.mp h2⟩]
theorem ten_c {x : Int32} : (0 ≤ x ∧ x ≤ 9) ↔ (¬ x < 0 ∧ ¬ 10 ≤ x) := by
  rw [i_le, i_le, i_lt, i_le]
  have e0 : (0 : Int32).toInt = 0 := rfl
  have e9 : (9 : Int32).toInt = 9 := rfl
  have e10 : (10 : Int32).toInt = 10 := rfl
  omega
theorem isHand_ok (x : Int32) : t_X10_isHand x = some (if 0 ≤ x ∧ x ≤ 9 then 1 else 0) := by
  unfold t_X10_isHand t_X10_isHand_15
  by_cases h1 : x < 0
  · rw [if_pos h1, ckn_f (by decide), if_neg (fun h => (ten_c.mp h).1 h1)]
  · rw [if_neg h1]
    by_cases h2 : 10 ≤ x
    · rw [if_pos h2, ckn_f (by decide), if_neg (fun h => (ten_c.mp h).2 h2)]
    · rw [if_neg h2, ckn_f (by decide), if_pos (ten_c.mpr ⟨h1, h2⟩)]
theorem isPerson_ok (x : Int32) : t_X10_isPerson x = some (if 0 ≤ x ∧ x ≤ 9 then 1 else 0) := by
  unfold t_X10_isPerson t_X10_isPerson_15
  by_cases h1 : x < 0
  · rw [if_pos h1, ckn_f (by decide), if_neg (fun h => (ten_c.mp h).1 h1)]
  · rw [if_neg h1]
    by_cases h2 : 10 ≤ x
    · rw [if_pos h2, ckn_f (by decide), if_neg (fun h => (ten_c.mp h).2 h2)]
    · rw [if_neg h2, ckn_f (by decide), if_pos (ten_c.mpr ⟨h1, h2⟩)]
theorem isPlayer_ok (x : Int32) : t_X10_isPlayer x = some (if 0 ≤ x ∧ x ≤ 9 then 1 else 0) := by
  unfold t_X10_isPlayer t_X10_isPlayer_15
  by_cases h1 : x < 0
  · rw [if_pos h1, ckn_f (by decide), if_neg (fun h => (ten_c.mp h).1 h1)]
  · rw [if_neg h1]
    by_cases h2 : 10 ≤ x
    · rw [if_pos h2, ckn_f (by decide), if_neg (fun h => (ten_c.mp h).2 h2)]
    · rw [if_neg h2, ckn_f (by decide), if_pos (ten_c.mpr ⟨h1, h2⟩)]
theorem isHour_ok (x : Int32) : t_X10_isHour x = some (if 0 ≤ x ∧ x ≤ 999 then 1 else 0) := by
  unfold t_X10_isHour t_X10_isHour_16
  by_cases h1 : x < 0
  · rw [if_pos h1, ckn_f (by decide), if_neg (fun h => by have := h.1; rw [i_le] at this; rw [i_lt] at h1; omega)]
  · rw [if_neg h1]
    by_cases h2 : 999 < x
    · rw [if_pos h2, ckn_f (by decide), if_neg (fun h => by have := h.2; rw [i_le] at this; rw [i_lt] at h2; omega)]
    · rw [if_neg h2, ckn_f (by decide), if_pos ⟨i_nlt.mp h1, i_nlt.mp h2⟩]
theorem isSide_ok (x : Int32) : t_X11_isSide x = some (if 0 ≤ x ∧ x ≤ 7 then 1 else 0) := by
  unfold t_X11_isSide
  rw [in_ok, bd1_s, cknb]
theorem isTen_ok (x : Int32) : t_X11_isTen x = some (if 0 ≤ x ∧ x ≤ 9 then 1 else 0) := by
  unfold t_X11_isTen
  rw [in_ok, bd1_s, cknb]
theorem isSpot_ok (x y : Int32) : t_X10_isSpot x y = some (if (0 ≤ x ∧ x ≤ 5) ∧ (0 ≤ y ∧ y ≤ 2) then 1 else 0) := by
  unfold t_X10_isSpot t_X10_isSpot_23
  rw [within_ok, bd1_s, bz]
  by_cases h1 : 0 ≤ x ∧ x ≤ 5
  · rw [if_pos h1, within_ok, bd1_s, bz]
    by_cases h2 : 0 ≤ y ∧ y ≤ 2
    · rw [if_pos h2, ckn_f (by decide), if_pos ⟨h1, h2⟩]
    · rw [if_neg h2, ckn_f (by decide), if_neg (fun h => h2 h.2)]
  · rw [if_neg h1, ckn_f (by decide), if_neg (fun h => h1 h.1)]
theorem has_ok {n : Nat} (hn : n ≤ 12) (x : Int32) : t_X2_has (nI n) x = some (if 0 ≤ x ∧ x < nI n then 1 else 0) := by
  unfold t_X2_has t_X2_has_17
  by_cases h1 : x < 0
  · rw [if_pos h1, ckn_f (by decide), if_neg (fun h => by have := h.1; rw [i_le] at this; rw [i_lt] at h1; omega)]
  · rw [if_neg h1]
    by_cases h2 : nI n ≤ x
    · rw [if_pos h2, ckn_f (by decide), if_neg (fun h => by have := h.2; rw [i_lt] at this; rw [i_le] at h2; omega)]
    · rw [if_neg h2, ckn_f (by decide), if_pos ⟨i_nlt.mp h1, by rw [i_le] at h2; rw [i_lt]; omega⟩]
theorem le_pred {n : Nat} (hn : n ≤ 12) (x : Int32) : x ≤ nI n - 1 ↔ x < nI n := by
  have e : (nI n - 1).toInt = (n : Int) - 1 := pk_sub_toInt (a := n) (b := 1) (by omega) (by omega)
  rw [i_le, i_lt, e, nI_toInt (by omega)]
  omega
theorem isMatch_ok {n : Nat} (hn : n ≤ 12) (x : Int32) : t_X11_isMatch (nI n) x = some (if 0 ≤ x ∧ x < nI n then 1 else 0) := by
  unfold t_X11_isMatch
  rw [in_ok, bd1_s, cknb]
  simp only [le_pred hn]
theorem asNumber_ok {c : Prop} [Decidable c] : t_X10_asNumber (if c then 1 else 0) = some (if c then 1 else 0) := by
  unfold t_X10_asNumber t_X10_asNumber_9
  rw [bz]
  by_cases h : c
  · simp [h]
  · simp [h]
theorem exchange_ok {N k : Nat} (h : k < N) (hN : N < 2 ^ 31) (a : Nat → Int32) (v : Int32) : t_X10_exchange N a (nI k) v = some (a k, upd a k v) := by
  unfold t_X10_exchange
  rw [ckn_n h hN, ckn_n h hN, nI_clamp (by omega)]
theorem rgo {x M : Int32} (n : Nat) (hM : M.toInt = n) (h : 0 ≤ x ∧ x ≤ M) : ∃ k, k ≤ n ∧ x = nI k := nI_of2 hM (fun q => by have := h.1; rw [i_le] at this; rw [i_lt] at q; omega) h.2
theorem rgm {x : Int32} {n : Nat} (hn : n < 2 ^ 31) (h : 0 ≤ x ∧ x < nI n) : ∃ k, k < n ∧ x = nI k := by
  obtain ⟨j, hj, rfl⟩ := nI_of (x := x) (fun q => by have := h.1; rw [i_le] at this; rw [i_lt] at q; omega)
  exact ⟨j, (nI_ltI hj hn).mp h.2, rfl⟩
theorem upd_rg {a : Nat → Int32} {n k : Nat} {v : Int32} (h : ∀ j, rg (a j) n) (hv : rg v n) : ∀ j, rg (upd a k v j) n := by
  intro j
  unfold upd
  by_cases e : j = k
  · rw [if_pos e]; exact hv
  · rw [if_neg e]; exact h j
theorem upd_rgl {a : Nat → Int32} {n k N : Nat} {v : Int32} (h : ∀ j, j < N → rg (a j) n) (hv : rg v n) : ∀ j, j < N → rg (upd a k v j) n := by
  intro j hj
  unfold upd
  by_cases e : j = k
  · rw [if_pos e]; exact hv
  · rw [if_neg e]; exact h j hj
theorem upd_at {a : Nat → Int32} {k j : Nat} {v : Int32} : upd a k v j = if j = k then v else a j := rfl
theorem b10 {α : Type} (a b : α) : (if (1 : Int32) = 0 then a else b) = b := if_neg (by decide)
theorem b00 {α : Type} (a b : α) : (if (0 : Int32) = 0 then a else b) = a := if_pos rfl
theorem n10 : ((1 : Int32) = 0) = False := eq_false (by decide)
theorem ckn_m {R : Type} {k N : Nat} {x : Option R} (h : k < N) (hN : N < 2 ^ 31) : ckn (nI k < 0 ∨ N ≤ k) x = x := ckn_f (fun q => q.elim (nI_pos (by omega)) (fun q => by omega))
theorem upd_all (P : Int32 → Prop) {a : Nat → Int32} {k : Nat} {v : Int32} (h : ∀ j, P (a j)) (hv : P v) : ∀ j, P (upd a k v j) := by
  intro j
  rw [upd_at]
  by_cases e : j = k
  · rw [if_pos e]; exact hv
  · rw [if_neg e]; exact h j
theorem upd_two (P : Int32 → Int32 → Prop) {a b : Nat → Int32} {k N : Nat} {v w : Int32} (h : ∀ j, j < N → P (a j) (b j)) (hv : P v w) : ∀ j, j < N → P (upd a k v j) (upd b k w j) := by
  intro j hj
  rw [upd_at, upd_at]
  by_cases e : j = k
  · rw [if_pos e, if_pos e]; exact hv
  · rw [if_neg e, if_neg e]; exact h j hj
theorem upd_new (P : Int32 → Prop) {a : Nat → Int32} {n : Nat} {v : Int32} (h : ∀ j, j < n → P (a j)) (hv : P v) : ∀ j, j < n + 1 → P (upd a n v j) := by
  intro j hj
  rw [upd_at]
  by_cases e : j = n
  · rw [if_pos e]; exact hv
  · rw [if_neg e]; exact h j (by omega)
theorem upd_new2 (P : Int32 → Int32 → Prop) {a b : Nat → Int32} {n : Nat} {v w : Int32} (h : ∀ j, j < n → P (a j) (b j)) (hv : P v w) : ∀ j, j < n + 1 → P (upd a n v j) (upd b n w j) := by
  intro j hj
  rw [upd_at, upd_at]
  by_cases e : j = n
  · rw [if_pos e, if_pos e]; exact hv
  · rw [if_neg e, if_neg e]; exact h j (by omega)
theorem rg_mono {x : Int32} {m n : Nat} (h : rg x m) (hmn : m ≤ n) : rg x n := by
  obtain ⟨k, hk, e⟩ := h
  exact ⟨k, by omega, e⟩
theorem RB.grow {n m ns : Nat} {count near times ties : Int32} {hand match_ end_ minute sum : Nat → Int32} {stakes : Int32} {hand2 match2 end2 minute2 sum2 told : Nat → Int32} (h : RB n ns count near times ties hand match_ end_ minute sum stakes hand2 match2 end2 minute2 sum2 told) (hm : n ≤ m) : RB m ns count near times ties hand match_ end_ minute sum stakes hand2 match2 end2 minute2 sum2 told := by
  obtain ⟨b1, b2, b3, b4, b5, b6, b7, b8, b9⟩ := h
  exact ⟨b1, b2, b3, b4, b5, b6, b7, fun j hj => rg_mono (b8 j hj) hm, b9⟩
theorem RQ.grow {n m na : Nat} {moves lateMoves debts : Nat → Int32} {acts : Int32} {actMatch actPlayers allMoves2 lateMoves2 debt2 : Nat → Int32} {acts2 : Int32} {actMatch2 actPlayers2 : Nat → Int32} (h : RQ n na moves lateMoves debts acts actMatch actPlayers allMoves2 lateMoves2 debt2 acts2 actMatch2 actPlayers2) (hm : n ≤ m) : RQ m na moves lateMoves debts acts actMatch actPlayers allMoves2 lateMoves2 debt2 acts2 actMatch2 actPlayers2 := by
  obtain ⟨q1, q2, q3, q4, q5, q6, q7⟩ := h
  exact ⟨q1, q2, q3, q4, q5, fun j hj => rg_mono (q6 j hj) hm, q7⟩
theorem nI_pp (n : Nat) : nI (n + 1) - 1 = nI n := nI_pred n
