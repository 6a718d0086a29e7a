-- needs 36 37 38 39
def prS (debts : Nat → Int32) (s : Nat) : Nat → Int32
  | 0 => 0
  | k + 1 => if s.testBit k = true then prS debts s k + (1000 - debts k) else prS debts s k
theorem price_ok {s : Nat} (hs : s < 1024) (debts : Nat → Int32) : t_X8_priceOf debts (nI s) = some (prS debts s 10) := by
  apply Ok.to
  unfold t_X8_priceOf
  refine lr_X8_priceOf_4 _ (fun i de x1 x2 x3 => debts = de ∧ x1 = nI s ∧ x2 = prS debts s i ∧ x3 = nI i) 10 ?_ ?_ lfuel 0 _ _ _ _ (Nat.zero_le _) (by unfold lfuel; omega) ?_
  · rintro kk i de x1 x2 x3 hi ⟨d1, d2, d3, d4⟩ hk
    subst d1 d2 d3 d4
    unfold t_X8_priceOf_4_b t_X8_priceOf_32
    have hin := nI_in (c := i) (N := 10) hi (by decide)
    refine Ok.neg (nI_ge (b := 10) hi (by decide)) (Ok.ite (fun h => Ok.ck hin (hk _ _ _ _ ⟨rfl, rfl, ?_, nI_1 i⟩)) (fun h => hk _ _ _ _ ⟨rfl, rfl, ?_, nI_1 i⟩))
    · rw [tb1 (by omega) (by omega)] at h
      rw [prS, if_pos h, nI_clamp (by omega)]
    · rw [tb1 (by omega) (by omega)] at h
      rw [prS, if_neg h]
  · rintro kk de x1 x2 x3 ⟨d1, d2, d3, d4⟩
    subst d1 d2 d3 d4
    unfold t_X8_priceOf_4_b
    exact Ok.pos (by decide) (Ok.ret rfl)
  · exact ⟨rfl, rfl, rfl, rfl⟩
theorem price_ok2 {s : Nat} (hs : s < 1024) (debts : Nat → Int32) : t_X11_priceOf debts (nI s) = some (prS debts s 10) := by
  apply Ok.to
  unfold t_X11_priceOf
  refine lr_X11_priceOf_4 _ (fun i de x1 x2 x3 => debts = de ∧ x1 = nI s ∧ x2 = prS debts s i ∧ x3 = nI i) 10 ?_ ?_ lfuel 0 _ _ _ _ (Nat.zero_le _) (by unfold lfuel; omega) ?_
  · rintro kk i de x1 x2 x3 hi ⟨d1, d2, d3, d4⟩ hk
    subst d1 d2 d3 d4
    unfold t_X11_priceOf_4_b
    have hin := nI_in (c := i) (N := 10) hi (by decide)
    refine Ok.neg (nI_ge (b := 10) hi (by decide)) (Ok.ck hin (hk _ _ _ _ ⟨rfl, rfl, ?_, nI_1 i⟩))
    rw [tb (by omega) (by omega), nI_clamp (by omega), prS]
    cases h : s.testBit i
    · simp
    · simp
  · rintro kk de x1 x2 x3 ⟨d1, d2, d3, d4⟩
    subst d1 d2 d3 d4
    unfold t_X11_priceOf_4_b
    exact Ok.pos (by decide) (Ok.ret rfl)
  · exact ⟨rfl, rfl, rfl, rfl⟩
def cdP (na : Nat) (actMatch actPlayers : Nat → Int32) (x : Int32) (s : Int32) : Prop := ∀ a, a < na → actMatch a = x → ¬ actPlayers a &&& s = 0
theorem canDo_ok {na : Nat} (hna : na ≤ 12) (actMatch actPlayers : Nat → Int32) (x s : Int32) : Ok (t_X8_canDoAll (nI na) actMatch actPlayers x s) (fun u => Bz u (cdP na actMatch actPlayers x s)) := by
  unfold t_X8_canDoAll
  refine lr_X8_canDoAll_2 _ (fun i c am ap x1 x2 x3 => c = nI na ∧ actMatch = am ∧ actPlayers = ap ∧ x = x1 ∧ s = x2 ∧ x3 = nI i ∧ ∀ a, a < i → actMatch a = x → ¬ actPlayers a &&& s = 0) na ?_ ?_ lfuel 0 _ _ _ _ _ _ (Nat.zero_le _) (by unfold lfuel; omega) ?_
  · rintro kk i c am ap x1 x2 x3 hi ⟨d1, d2, d3, d4, d5, d6, d7⟩ hk
    subst d1 d2 d3 d4 d5 d6
    unfold t_X8_canDoAll_2_b t_X8_canDoAll_33
    have hin := nI_in (c := i) (N := 12) (by omega) (by decide)
    refine Ok.neg (nI_ge hi (by omega)) (Ok.ck hin ?_)
    rw [nI_clamp (by omega)] at hin ⊢
    refine Ok.ite (fun h => Ok.ck hin (Ok.ite (fun h2 => Ok.ret (Bz.f (fun q => q i hi h h2))) (fun h2 => hk _ _ _ _ _ _ ⟨rfl, rfl, rfl, rfl, rfl, nI_1 i, ?_⟩))) (fun h => hk _ _ _ _ _ _ ⟨rfl, rfl, rfl, rfl, rfl, nI_1 i, ?_⟩)
    · intro a ha ea
      by_cases e : a = i
      · rw [e]; exact h2
      · exact d7 a (by omega) ea
    · intro a ha ea
      by_cases e : a = i
      · rw [e] at ea; exact absurd ea h
      · exact d7 a (by omega) ea
  · rintro kk c am ap x1 x2 x3 ⟨d1, d2, d3, d4, d5, d6, d7⟩
    subst d1 d2 d3 d4 d5 d6
    unfold t_X8_canDoAll_2_b
    exact Ok.pos (nI_le (Nat.le_refl _) (by omega)) (Ok.ret (Bz.t d7))
  · exact ⟨rfl, rfl, rfl, rfl, rfl, rfl, fun a ha => absurd ha (Nat.not_lt_zero a)⟩
noncomputable def ndS (C : Nat → Prop) (pr : Nat → Int32) : Nat → Nat
  | 0 => 1023
  | i + 1 => @ite _ (C i ∧ (pop i < pop (ndS C pr i) ∨ (pop i = pop (ndS C pr i) ∧ pr i < pr (ndS C pr i)))) (Classical.propDecidable _) i (ndS C pr i)
theorem ndS_b {C : Nat → Prop} {pr : Nat → Int32} : ∀ {i : Nat}, i ≤ 1024 → ndS C pr i < 1024 ∧ (ndS C pr i < i ∨ ndS C pr i = 1023)
  | 0, _ => ⟨by rw [ndS]; omega, Or.inr rfl⟩
  | i + 1, h => by
    have ih := ndS_b (C := C) (pr := pr) (i := i) (by omega)
    rw [ndS]
    split
    · exact ⟨by omega, Or.inl (by omega)⟩
    · exact ⟨ih.1, by rcases ih.2 with q | q; exact Or.inl (by omega); exact Or.inr q⟩
theorem pop_full : ∀ a b : Fin 32, pop (32 * a.val + b.val) = 10 → 32 * a.val + b.val = 1023 := by decide +kernel
theorem pop_1023 : pop 1023 = 10 := by decide +kernel
theorem pop_ten {i : Nat} (h : i < 1024) (hp : pop i = 10) : i = 1023 := by
  have h2 := pop_full ⟨i / 32, by omega⟩ ⟨i % 32, by omega⟩
  simp only [Nat.div_add_mod] at h2
  exact h2 hp
theorem fewest_ok {na : Nat} (hna : na ≤ 12) (actMatch actPlayers debts : Nat → Int32) (x : Int32) : t_X8_fewestFor (nI na) actMatch actPlayers debts x = some (nI (ndS (fun i => cdP na actMatch actPlayers x (nI i)) (fun i => prS debts i 10) 1024)) := by
  apply Ok.to
  unfold t_X8_fewestFor
  generalize hC : (fun i => cdP na actMatch actPlayers x (nI i)) = C
  generalize hP : (fun i => prS debts i 10) = pr
  rw [show (1023 : Int32) = nI 1023 from rfl, price_ok (by decide), bd1_s]
  refine lr_X8_fewestFor_17 _ (fun i c am ap de x1 x2 x3 x4 x5 => c = nI na ∧ actMatch = am ∧ actPlayers = ap ∧ debts = de ∧ x = x1 ∧ x2 = nI (ndS C pr i) ∧ x3 = nI (pop (ndS C pr i)) ∧ x4 = pr (ndS C pr i) ∧ x5 = nI i) 1024 ?_ ?_ lfuel 0 _ _ _ _ _ _ _ _ _ (Nat.zero_le _) (by unfold lfuel; omega) ?_
  · rintro kk i c am ap de x1 x2 x3 x4 x5 hi ⟨d1, d2, d3, d4, d5, d6, d7, d8, d9⟩ hk
    subst d1 d2 d3 d4 d5 d6 d7 d8 d9
    unfold t_X8_fewestFor_17_b t_X8_fewestFor_72 t_X8_fewestFor_82
    have hl1 := pop_le i
    have hl2 := pop_le (ndS C pr i)
    refine Ok.neg (nI_ge (b := 1024) hi (by decide)) ?_
    rw [bitCount_ok (by omega), bd1_s, price_ok (by omega), bd1_s]
    have keep : ¬ (C i ∧ (pop i < pop (ndS C pr i) ∨ (pop i = pop (ndS C pr i) ∧ pr i < pr (ndS C pr i)))) → ndS C pr (i + 1) = ndS C pr i := fun h => by rw [ndS, if_neg h]
    have take : (C i ∧ (pop i < pop (ndS C pr i) ∨ (pop i = pop (ndS C pr i) ∧ pr i < pr (ndS C pr i)))) → ndS C pr (i + 1) = i := fun h => by rw [ndS, if_pos h]
    have goK : ndS C pr (i + 1) = ndS C pr i → Ok (kk (nI na) actMatch actPlayers debts x (nI (ndS C pr i)) (nI (pop (ndS C pr i))) (pr (ndS C pr i)) (nI i + 1)) (fun w => w = nI (ndS C pr 1024)) := fun h => hk _ _ _ _ _ _ _ _ _ ⟨rfl, rfl, rfl, rfl, rfl, by rw [h], by rw [h], by rw [h], nI_1 i⟩
    have goT : ndS C pr (i + 1) = i → Ok (kk (nI na) actMatch actPlayers debts x (nI i) (nI (pop i)) (prS debts i 10) (nI i + 1)) (fun w => w = nI (ndS C pr 1024)) := fun h => hk _ _ _ _ _ _ _ _ _ ⟨rfl, rfl, rfl, rfl, rfl, by rw [h], by rw [h], by rw [h, ← hP], nI_1 i⟩
    refine Ok.ite (fun h => goK (keep (fun q => ?_))) (fun h => Ok.bd1 (canDo_ok hna actMatch actPlayers x (nI i)) (fun v hv => Ok.ite (fun hz => goK (keep (fun q => ?_))) (fun hz => Ok.ite (fun h2 => goT (take ⟨?_, ?_⟩)) (fun h2 => Ok.ite (fun h3 => goK (keep (fun q => ?_))) (fun h3 => goT (take ⟨?_, ?_⟩))))))
    · rw [nI_ltI (by omega) (by omega)] at h
      rcases q.2 with r | r <;> omega
    · rw [← hC] at q
      exact hv.z.mp hz q.1
    · rw [← hC]; exact Classical.not_not.mp (fun q => hz (hv.z.mpr q))
    · rw [nI_ltI (by omega) (by omega)] at h2
      exact Or.inl h2
    · rw [nI_ltI (by omega) (by omega)] at h2
      rcases q.2 with r | ⟨-, r⟩
      · omega
      · have hpi : pr i = prS debts i 10 := by rw [← hP]
        rw [hpi, i_lt] at r; rw [i_le] at h3; omega
    · rw [← hC]; exact Classical.not_not.mp (fun q => hz (hv.z.mpr q))
    · rw [nI_ltI (by omega) (by omega)] at h h2
      refine Or.inr ⟨by omega, ?_⟩
      have hpi : pr i = prS debts i 10 := by rw [← hP]
      rw [hpi]
      exact fa_of_nle h3
  · rintro kk c am ap de x1 x2 x3 x4 x5 ⟨d1, d2, d3, d4, d5, d6, d7, d8, d9⟩
    subst d1 d2 d3 d4 d5 d7 d8 d9
    unfold t_X8_fewestFor_17_b
    exact Ok.pos (by decide) (Ok.ret d6)
  · refine ⟨rfl, rfl, rfl, rfl, rfl, rfl, ?_, ?_, rfl⟩
    · rw [ndS, pop_1023]; rfl
    · rw [ndS, ← hP]
theorem needed_ok {na : Nat} (hna : na ≤ 12) (actMatch actPlayers debts : Nat → Int32) (x : Int32) : t_X11_neededOf (nI na) actMatch actPlayers debts x = some (nI (ndS (fun i => cdP na actMatch actPlayers x (nI i)) (fun i => prS debts i 10) 1024)) := by
  apply Ok.to
  unfold t_X11_neededOf
  generalize hC : (fun i => cdP na actMatch actPlayers x (nI i)) = C
  generalize hP : (fun i => prS debts i 10) = pr
  refine lr_X11_neededOf_6 _ (fun i c am ap de x1 x2 x5 => c = nI na ∧ actMatch = am ∧ actPlayers = ap ∧ debts = de ∧ x = x1 ∧ x2 = nI (ndS C pr i) ∧ x5 = nI i) 1024 ?_ ?_ lfuel 0 _ _ _ _ _ _ _ (Nat.zero_le _) (by unfold lfuel; omega) ?_
  · rintro kk i c am ap de x1 x2 x5 hi ⟨d1, d2, d3, d4, d5, d6, d7⟩ hk
    subst d1 d2 d3 d4 d5 d6 d7
    unfold t_X11_neededOf_6_b
    have hl1 := pop_le i
    have hl2 := pop_le (ndS C pr i)
    have hb := ndS_b (C := C) (pr := pr) (i := i) (by omega)
    have keep : ¬ (C i ∧ (pop i < pop (ndS C pr i) ∨ (pop i = pop (ndS C pr i) ∧ pr i < pr (ndS C pr i)))) → ndS C pr (i + 1) = ndS C pr i := fun h => by rw [ndS, if_neg h]
    have take : (C i ∧ (pop i < pop (ndS C pr i) ∨ (pop i = pop (ndS C pr i) ∧ pr i < pr (ndS C pr i)))) → ndS C pr (i + 1) = i := fun h => by rw [ndS, if_pos h]
    have goK : ndS C pr (i + 1) = ndS C pr i → Ok (kk (nI na) actMatch actPlayers debts x (nI (ndS C pr i)) (nI i + 1)) (fun w => w = nI (ndS C pr 1024)) := fun h => hk _ _ _ _ _ _ _ ⟨rfl, rfl, rfl, rfl, rfl, by rw [h], nI_1 i⟩
    have goT : ndS C pr (i + 1) = i → Ok (kk (nI na) actMatch actPlayers debts x (nI i) (nI i + 1)) (fun w => w = nI (ndS C pr 1024)) := fun h => hk _ _ _ _ _ _ _ ⟨rfl, rfl, rfl, rfl, rfl, by rw [h], nI_1 i⟩
    refine Ok.neg (nI_ge (b := 1024) hi (by decide)) ?_
    have fin : ∀ d, Bz d (C i) → Ok (t_X11_neededOf_69 kk (nI na) actMatch actPlayers debts x (nI (ndS C pr i)) (nI i) d) (fun w => w = nI (ndS C pr 1024)) := by
      intro d hd
      unfold t_X11_neededOf_69 t_X11_neededOf_121 t_X11_neededOf_125 t_X11_neededOf_126 t_X11_neededOf_142 t_X11_neededOf_143
      rw [bits_ok (by omega), bd1_s, bits_ok (by omega), bd1_s, price_ok2 (by omega), bd1_s, price_ok2 (by omega), bd1_s]
      have e0 : (0 : Int32).toInt = 0 := rfl
      have hs : (nI (pop i) - nI (pop (ndS C pr i))).toInt = (pop i : Int) - pop (ndS C pr i) := pk_sub_toInt (by omega) (by omega)
      have yes : (pop i < pop (ndS C pr i) ∨ (pop i = pop (ndS C pr i) ∧ pr i < pr (ndS C pr i))) → Ok (if d = 0 then kk (nI na) actMatch actPlayers debts x (nI (ndS C pr i)) (nI i + 1) else if (1 : Int32) = 0 then kk (nI na) actMatch actPlayers debts x (nI (ndS C pr i)) (nI i + 1) else kk (nI na) actMatch actPlayers debts x (nI i) (nI i + 1)) (fun w => w = nI (ndS C pr 1024)) := fun h => Ok.ite (fun hz => goK (keep (fun q => hd.z.mp hz q.1))) (fun hz => Ok.neg (by decide) (goT (take ⟨Classical.not_not.mp (fun q => hz (hd.z.mpr q)), h⟩)))
      have no : ¬ (pop i < pop (ndS C pr i) ∨ (pop i = pop (ndS C pr i) ∧ pr i < pr (ndS C pr i))) → Ok (if d = 0 then kk (nI na) actMatch actPlayers debts x (nI (ndS C pr i)) (nI i + 1) else if (0 : Int32) = 0 then kk (nI na) actMatch actPlayers debts x (nI (ndS C pr i)) (nI i + 1) else kk (nI na) actMatch actPlayers debts x (nI i) (nI i + 1)) (fun w => w = nI (ndS C pr 1024)) := fun h => Ok.ite (fun hz => goK (keep (fun q => hd.z.mp hz q.1))) (fun hz => Ok.pos rfl (goK (keep (fun q => h q.2))))
      refine Ok.ite (fun h1 => yes (Or.inl ?_)) (fun h1 => ?_)
      · rw [i_lt] at h1; omega
      · rw [i_lt] at h1
        refine Ok.ite (fun h2 => ?_) (fun h2 => no (fun q => ?_))
        · have h2 : pop i = pop (ndS C pr i) := by rw [h2] at hs; omega
          rw [← hP] at yes no ⊢
          refine Ok.ite (fun h3 => yes (Or.inr ⟨by rw [hP]; exact h2, h3⟩)) (fun h3 => ?_)
          have nn := no (fun q => by rw [hP] at q; rcases q with r | ⟨-, r⟩; omega; rw [← hP] at r; exact h3 r)
          refine Ok.ite (fun h4 => Ok.ite (fun h5 => nn) (fun h5 => ?_)) (fun h4 => nn)
          exfalso
          apply h5
          rw [hP]
          rcases hb.2 with r | r
          · exact nI_le (by omega) (by omega)
          · have : i = 1023 := pop_ten hi (by rw [h2, r]; exact pop_1023)
            rw [r, this]; decide
        · rcases q with r | ⟨r, -⟩
          · omega
          · exact h2 (Int32.toInt_inj.mp (by rw [hs, e0]; omega))
    refine lr_X11_neededOf_19 _ (fun j c am ap de x1 x2 x3 x4 x5 => c = nI na ∧ actMatch = am ∧ actPlayers = ap ∧ debts = de ∧ x = x1 ∧ x2 = nI (ndS C pr i) ∧ x3 = nI i ∧ x5 = nI j ∧ Bz x4 (∀ a, a < j → actMatch a = x → ¬ actPlayers a &&& nI i = 0)) na ?_ ?_ lfuel 0 _ _ _ _ _ _ _ _ _ (Nat.zero_le _) (by unfold lfuel; omega) ?_
    · rintro kk2 j c am ap de x1 x2 x3 x4 x5 hj ⟨d1, d2, d3, d4, d5, d6, d7, d8, d9⟩ hk2
      subst d1 d2 d3 d4 d5 d6 d7 d8
      unfold t_X11_neededOf_19_b t_X11_neededOf_56 t_X11_neededOf_61
      have hin := nI_in (c := j) (N := 12) (by omega) (by decide)
      refine Ok.neg (nI_ge hj (by omega)) (Ok.ite (fun h => fin _ ?_) (fun h => Ok.ck hin ?_))
      · subst h
        rw [← hC]
        exact Bz.f (fun q => d9.z.mp rfl (fun a ha => q a (by omega)))
      · rw [nI_clamp (by omega)] at hin ⊢
        have hd := Classical.not_not.mp (fun q => h (d9.z.mpr q))
        refine Ok.ite (fun h1 => Ok.ck hin (Ok.ite (fun h2 => hk2 _ _ _ _ _ _ _ _ _ ⟨rfl, rfl, rfl, rfl, rfl, rfl, rfl, nI_1 j, Bz.f (fun q => q j (by omega) h1 h2)⟩) (fun h2 => hk2 _ _ _ _ _ _ _ _ _ ⟨rfl, rfl, rfl, rfl, rfl, rfl, rfl, nI_1 j, Bz.t ?_⟩))) (fun h1 => hk2 _ _ _ _ _ _ _ _ _ ⟨rfl, rfl, rfl, rfl, rfl, rfl, rfl, nI_1 j, Bz.t ?_⟩)
        · intro a ha ea
          by_cases e : a = j
          · rw [e]; exact h2
          · exact hd a (by omega) ea
        · intro a ha ea
          by_cases e : a = j
          · rw [e] at ea; exact absurd ea h1
          · exact hd a (by omega) ea
    · rintro kk2 c am ap de x1 x2 x3 x4 x5 ⟨d1, d2, d3, d4, d5, d6, d7, d8, d9⟩
      subst d1 d2 d3 d4 d5 d6 d7 d8
      unfold t_X11_neededOf_19_b
      exact Ok.pos (nI_le (Nat.le_refl _) (by omega)) (fin _ (by rw [← hC]; exact d9))
    · exact ⟨rfl, rfl, rfl, rfl, rfl, rfl, rfl, rfl, Bz.t (fun a ha => absurd ha (Nat.not_lt_zero a))⟩
  · rintro kk c am ap de x1 x2 x5 ⟨d1, d2, d3, d4, d5, d6, d7⟩
    subst d1 d2 d3 d4 d5 d7
    unfold t_X11_neededOf_6_b
    exact Ok.pos (by decide) (Ok.ret d6)
  · exact ⟨rfl, rfl, rfl, rfl, rfl, by rw [ndS]; rfl, rfl⟩
def muS (actMatch actPlayers : Nat → Int32) (x : Int32) : Nat → Int32
  | 0 => 0
  | i + 1 => if actMatch i = x ∧ pop (actPlayers i).toNatClampNeg = 1 then muS actMatch actPlayers x i ||| actPlayers i else muS actMatch actPlayers x i
theorem must_ok {na : Nat} (hna : na ≤ 12) {actMatch actPlayers : Nat → Int32} (q7 : ∀ j, j < na → ∃ k : Nat, 1 ≤ k ∧ k ≤ 1023 ∧ actPlayers j = nI k) (x : Int32) : t_X8_mustFor (nI na) actMatch actPlayers x = some (muS actMatch actPlayers x na) := by
  apply Ok.to
  unfold t_X8_mustFor
  refine lr_X8_mustFor_4 _ (fun i c am ap x1 x2 x3 => c = nI na ∧ actMatch = am ∧ actPlayers = ap ∧ x = x1 ∧ x2 = muS actMatch actPlayers x i ∧ x3 = nI i) na ?_ ?_ lfuel 0 _ _ _ _ _ _ (Nat.zero_le _) (by unfold lfuel; omega) ?_
  · rintro kk i c am ap x1 x2 x3 hi ⟨d1, d2, d3, d4, d5, d6⟩ hk
    subst d1 d2 d3 d4 d5 d6
    unfold t_X8_mustFor_4_b t_X8_mustFor_44
    have hin := nI_in (c := i) (N := 12) (by omega) (by decide)
    obtain ⟨k, k1, k2, ek⟩ := q7 i hi
    refine Ok.neg (nI_ge hi (by omega)) (Ok.ck hin ?_)
    rw [nI_clamp (by omega)] at hin ⊢
    rw [ek, bitCount_ok (by omega), bd1_s]
    have hp := pop_le k
    refine Ok.ite (fun h1 => Ok.ck hin (Ok.ite (fun h2 => Ok.ck hin (hk _ _ _ _ _ _ ⟨rfl, rfl, rfl, rfl, ?_, nI_1 i⟩)) (fun h2 => hk _ _ _ _ _ _ ⟨rfl, rfl, rfl, rfl, ?_, nI_1 i⟩))) (fun h1 => hk _ _ _ _ _ _ ⟨rfl, rfl, rfl, rfl, ?_, nI_1 i⟩)
    · rw [muS, ek, nI_clamp (by omega), if_pos ⟨h1, (nI_eq (b := 1) (by omega) (by decide)).mp h2⟩]
    · rw [muS, ek, nI_clamp (by omega), if_neg (fun q => h2 (by rw [q.2]; rfl))]
    · rw [muS, if_neg (fun q => h1 q.1)]
  · rintro kk c am ap x1 x2 x3 ⟨d1, d2, d3, d4, d5, d6⟩
    subst d1 d2 d3 d4 d5 d6
    unfold t_X8_mustFor_4_b
    exact Ok.pos (nI_le (Nat.le_refl _) (by omega)) (Ok.ret rfl)
  · exact ⟨rfl, rfl, rfl, rfl, rfl, rfl⟩
theorem must_ok2 {na : Nat} (hna : na ≤ 12) {actMatch actPlayers : Nat → Int32} (q7 : ∀ j, j < na → ∃ k : Nat, 1 ≤ k ∧ k ≤ 1023 ∧ actPlayers j = nI k) (x : Int32) : t_X11_mustOf (nI na) actMatch actPlayers x = some (muS actMatch actPlayers x na) := by
  apply Ok.to
  unfold t_X11_mustOf
  refine lr_X11_mustOf_4 _ (fun i c am ap x1 x2 x3 => c = nI na ∧ actMatch = am ∧ actPlayers = ap ∧ x = x1 ∧ x2 = muS actMatch actPlayers x i ∧ x3 = nI i) na ?_ ?_ lfuel 0 _ _ _ _ _ _ (Nat.zero_le _) (by unfold lfuel; omega) ?_
  · rintro kk i c am ap x1 x2 x3 hi ⟨d1, d2, d3, d4, d5, d6⟩ hk
    subst d1 d2 d3 d4 d5 d6
    unfold t_X11_mustOf_4_b t_X11_mustOf_45 t_X11_mustOf_46
    have hin := nI_in (c := i) (N := 12) (by omega) (by decide)
    obtain ⟨k, k1, k2, ek⟩ := q7 i hi
    refine Ok.neg (nI_ge hi (by omega)) (Ok.ck hin ?_)
    rw [nI_clamp (by omega)] at hin ⊢
    rw [ek, bits_ok (by omega), bd1_s, show ∀ y : Int32, y ||| 0 = y from fun y => Int32.or_zero]
    have hp := pop_le k
    refine Ok.ite (fun h1 => Ok.ck hin (Ok.ite (fun h2 => Ok.ck hin (hk _ _ _ _ _ _ ⟨rfl, rfl, rfl, rfl, ?_, nI_1 i⟩)) (fun h2 => hk _ _ _ _ _ _ ⟨rfl, rfl, rfl, rfl, ?_, nI_1 i⟩))) (fun h1 => hk _ _ _ _ _ _ ⟨rfl, rfl, rfl, rfl, ?_, nI_1 i⟩)
    · rw [muS, ek, nI_clamp (by omega), if_pos ⟨h1, (nI_eq (b := 1) (by omega) (by decide)).mp h2⟩]
    · rw [muS, ek, nI_clamp (by omega), if_neg (fun q => h2 (by rw [q.2]; rfl))]
    · rw [muS, if_neg (fun q => h1 q.1)]
  · rintro kk c am ap x1 x2 x3 ⟨d1, d2, d3, d4, d5, d6⟩
    subst d1 d2 d3 d4 d5 d6
    unfold t_X11_mustOf_4_b
    exact Ok.pos (nI_le (Nat.le_refl _) (by omega)) (Ok.ret rfl)
  · exact ⟨rfl, rfl, rfl, rfl, rfl, rfl⟩
set_option maxHeartbeats 4000000 in
theorem step_needed (p2_matches : Int32) (p2_stakes : Int32) (p2_meetings : Int32) (p2_newsFirst : Int32) (p2_newsHour : Int32) (p2_acts : Int32) (p2_stories : Int32) (p2_signs : Int32) (p2_ruleMany : Int32) (p1_bets_count : Int32) (p1_bets_near : Int32) (p1_bets_times : Int32) (p1_bets_ties : Int32) (p1_clause_count : Int32) (p1_clause_heldCount : Int32) (p1_games_count : Int32) (p1_games_base : Int32) (p1_ranks_down : Int32) (p1_rumour_count : Int32) (p1_rumour_first : Int32) (p1_rumour_since : Int32) (p1_squad_acts : Int32) (p1_tales_count : Int32) (p2_actMatch : Nat → Int32) (p2_actPlayers : Nat → Int32) (p2_allMoves : Nat → Int32) (p2_debt : Nat → Int32) (p2_goals : Nat → Int32) (p2_guest : Nat → Int32) (p2_home : Nat → Int32) (p2_hour : Nat → Int32) (p2_lateMoves : Nat → Int32) (p2_look : Nat → Int32) (p2_meetA : Nat → Int32) (p2_meetB : Nat → Int32) (p2_meetHour : Nat → Int32) (p2_owner : Nat → Int32) (p2_prices : Nat → Int32) (p2_referee : Nat → Int32) (p2_ruleSign : Nat → Int32) (p2_sign : Nat → Int32) (p2_skill : Nat → Int32) (p2_stakeEnd : Nat → Int32) (p2_stakeHand : Nat → Int32) (p2_stakeMatch : Nat → Int32) (p2_stakeMinute : Nat → Int32) (p2_stakeSum : Nat → Int32) (p2_storyFrom : Nat → Int32) (p2_storyPerson : Nat → Int32) (p2_storyPlace : Nat → Int32) (p2_storyTo : Nat → Int32) (p2_taken : Nat → Int32) (p2_told : Nat → Int32) (p1_bets_end : Nat → Int32) (p1_bets_hand : Nat → Int32) (p1_bets_match : Nat → Int32) (p1_bets_minute : Nat → Int32) (p1_bets_sum : Nat → Int32) (p1_clause_held : Nat → Int32) (p1_clause_signs : Nat → Int32) (p1_games_fee : Nat → Int32) (p1_games_goals : Nat → Int32) (p1_games_guest : Nat → Int32) (p1_games_home : Nat → Int32) (p1_games_hour : Nat → Int32) (p1_games_prices : Nat → Int32) (p1_games_referee : Nat → Int32) (p1_games_skills : Nat → Int32) (p1_ranks_taken : Nat → Int32) (p1_rumour_hour : Nat → Int32) (p1_rumour_one : Nat → Int32) (p1_rumour_other : Nat → Int32) (p1_rumour_owner : Nat → Int32) (p1_squad_actMatch : Nat → Int32) (p1_squad_actPlayers : Nat → Int32) (p1_squad_debts : Nat → Int32) (p1_squad_lateMoves : Nat → Int32) (p1_squad_moves : Nat → Int32) (p1_tales_against : Nat → Int32) (p1_tales_from : Nat → Int32) (p1_tales_person : Nat → Int32) (p1_tales_place : Nat → Int32) (p1_tales_to : Nat → Int32) (hR : Rel p1_games_count p1_games_base p1_games_skills p1_games_home p1_games_guest p1_games_referee p1_games_hour p1_games_fee p1_games_goals p1_games_prices p1_bets_count p1_bets_near p1_bets_times p1_bets_ties p1_bets_hand p1_bets_match p1_bets_end p1_bets_minute p1_bets_sum p1_rumour_count p1_rumour_one p1_rumour_other p1_rumour_hour p1_rumour_owner p1_rumour_first p1_rumour_since p1_squad_moves p1_squad_lateMoves p1_squad_debts p1_squad_acts p1_squad_actMatch p1_squad_actPlayers p1_tales_count p1_tales_person p1_tales_place p1_tales_from p1_tales_to p1_tales_against p1_ranks_down p1_ranks_taken p1_clause_count p1_clause_signs p1_clause_heldCount p1_clause_held p2_matches p2_skill p2_home p2_guest p2_referee p2_hour p2_look p2_goals p2_prices p2_told p2_stakes p2_stakeHand p2_stakeMatch p2_stakeEnd p2_stakeMinute p2_stakeSum p2_meetings p2_meetA p2_meetB p2_meetHour p2_owner p2_newsFirst p2_newsHour p2_allMoves p2_lateMoves p2_debt p2_acts p2_actMatch p2_actPlayers p2_stories p2_storyPerson p2_storyPlace p2_storyFrom p2_storyTo p2_taken p2_signs p2_sign p2_ruleMany p2_ruleSign) (x1 x2 : Int32) : ∃ (r : Int32), t_X10_needed p1_games_count p1_squad_acts p1_squad_actMatch p1_squad_actPlayers p1_squad_debts x1 x2 = some r ∧ t_X11_needed p2_matches p2_acts p2_actMatch p2_actPlayers p2_debt x1 x2 = some r ∧ Rel p1_games_count p1_games_base p1_games_skills p1_games_home p1_games_guest p1_games_referee p1_games_hour p1_games_fee p1_games_goals p1_games_prices p1_bets_count p1_bets_near p1_bets_times p1_bets_ties p1_bets_hand p1_bets_match p1_bets_end p1_bets_minute p1_bets_sum p1_rumour_count p1_rumour_one p1_rumour_other p1_rumour_hour p1_rumour_owner p1_rumour_first p1_rumour_since p1_squad_moves p1_squad_lateMoves p1_squad_debts p1_squad_acts p1_squad_actMatch p1_squad_actPlayers p1_tales_count p1_tales_person p1_tales_place p1_tales_from p1_tales_to p1_tales_against p1_ranks_down p1_ranks_taken p1_clause_count p1_clause_signs p1_clause_heldCount p1_clause_held p2_matches p2_skill p2_home p2_guest p2_referee p2_hour p2_look p2_goals p2_prices p2_told p2_stakes p2_stakeHand p2_stakeMatch p2_stakeEnd p2_stakeMinute p2_stakeSum p2_meetings p2_meetA p2_meetB p2_meetHour p2_owner p2_newsFirst p2_newsHour p2_allMoves p2_lateMoves p2_debt p2_acts p2_actMatch p2_actPlayers p2_stories p2_storyPerson p2_storyPlace p2_storyFrom p2_storyTo p2_taken p2_signs p2_sign p2_ruleMany p2_ruleSign := by
  have hR0 := hR
  obtain ⟨n, ns, nt, na, ny, ng, nh, hG, hB, hM, hO, hQ, hT, hK, hC, h0⟩ := hR
  obtain ⟨g1, g2, g3, g4, g5, g6, g7, g8, g9, g10, g11, g12, g13, f1, f2, f3, f4, f5, f6, f7, f8, f9⟩ := id hG
  subst g2 g3
  have f1 := f1.symm
  have f2 := f2.symm
  have f3 := f3.symm
  have f4 := f4.symm
  have f5 := f5.symm
  have f6 := f6.symm
  have f7 := f7.symm
  subst f1 f2 f3 f4 f5 f6 f7
  obtain ⟨q1, q2, q3, q4, q5, q6, q7, q8, q9, q10, q11, q12⟩ := id hQ
  subst q2 q3
  have q10 := q10.symm
  have q11 := q11.symm
  have q12 := q12.symm
  subst q10 q11 q12
  by_cases h1 : 0 ≤ x1 ∧ x1 < nI n
  · have nb := (ndS_b (C := fun i => cdP na p1_squad_actMatch p1_squad_actPlayers x1 (nI i)) (pr := fun i => prS p1_squad_debts i 10) (Nat.le_refl 1024)).1
    by_cases c0 : x2 = 0
    · subst c0
      have e1 : t_X10_needed (nI n) (nI na) p1_squad_actMatch p1_squad_actPlayers p1_squad_debts x1 0 = some (nI (ndS (fun i => cdP na p1_squad_actMatch p1_squad_actPlayers x1 (nI i)) (fun i => prS p1_squad_debts i 10) 1024)) := by
        simp only [t_X10_needed, has_ok g1, bd1_s, if_pos h1, n10, ↓reduceIte, fewest_ok q1]
      have e2 : t_X11_needed (nI n) (nI na) p1_squad_actMatch p1_squad_actPlayers p1_squad_debts x1 0 = some (nI (ndS (fun i => cdP na p1_squad_actMatch p1_squad_actPlayers x1 (nI i)) (fun i => prS p1_squad_debts i 10) 1024)) := by
        simp only [t_X11_needed, t_X11_needed_56, isMatch_ok g1, in_ok, bd1_s, if_pos h1, n10, if_pos (show (0 : Int32) ≤ 0 ∧ (0 : Int32) ≤ 2 by decide), if_neg (show ¬ (0 : Int32) = 2 by decide), ↓reduceIte, needed_ok q1]
      exact ⟨_, e1, e2, hR0⟩
    · by_cases c1 : x2 = 1
      · subst c1
        have e1 : t_X10_needed (nI n) (nI na) p1_squad_actMatch p1_squad_actPlayers p1_squad_debts x1 1 = some (prS p1_squad_debts (ndS (fun i => cdP na p1_squad_actMatch p1_squad_actPlayers x1 (nI i)) (fun i => prS p1_squad_debts i 10) 1024) 10) := by
          simp only [t_X10_needed, has_ok g1, bd1_s, if_pos h1, n10, ↓reduceIte, fewest_ok q1, price_ok nb]
        have e2 : t_X11_needed (nI n) (nI na) p1_squad_actMatch p1_squad_actPlayers p1_squad_debts x1 1 = some (prS p1_squad_debts (ndS (fun i => cdP na p1_squad_actMatch p1_squad_actPlayers x1 (nI i)) (fun i => prS p1_squad_debts i 10) 1024) 10) := by
          simp only [t_X11_needed, t_X11_needed_56, isMatch_ok g1, in_ok, bd1_s, if_pos h1, n10, if_pos (show (0 : Int32) ≤ 1 ∧ (1 : Int32) ≤ 2 by decide), if_neg (show ¬ (1 : Int32) = 2 by decide), ↓reduceIte, needed_ok q1, price_ok2 nb]
        exact ⟨_, e1, e2, hR0⟩
      · by_cases c2 : x2 = 2
        · subst c2
          have e1 : t_X10_needed (nI n) (nI na) p1_squad_actMatch p1_squad_actPlayers p1_squad_debts x1 2 = some (muS p1_squad_actMatch p1_squad_actPlayers x1 na) := by
            simp only [t_X10_needed, has_ok g1, bd1_s, if_pos h1, n10, if_neg c0, if_neg c1, ↓reduceIte, must_ok q1 q7]
          have e2 : t_X11_needed (nI n) (nI na) p1_squad_actMatch p1_squad_actPlayers p1_squad_debts x1 2 = some (muS p1_squad_actMatch p1_squad_actPlayers x1 na) := by
            simp only [t_X11_needed, t_X11_needed_56, isMatch_ok g1, in_ok, bd1_s, if_pos h1, n10, if_pos (show (0 : Int32) ≤ 2 ∧ (2 : Int32) ≤ 2 by decide), ↓reduceIte, must_ok2 q1 q7]
          exact ⟨_, e1, e2, hR0⟩
        · have hn : ¬ (0 ≤ x2 ∧ x2 ≤ 2) := by
            intro h
            obtain ⟨k, hk, rfl⟩ := rgo 2 rfl h
            rcases (show k = 0 ∨ k = 1 ∨ k = 2 by omega) with rfl | rfl | rfl
            · exact c0 rfl
            · exact c1 rfl
            · exact c2 rfl
          have e1 : t_X10_needed (nI n) (nI na) p1_squad_actMatch p1_squad_actPlayers p1_squad_debts x1 x2 = some (-2) := by
            simp only [t_X10_needed, has_ok g1, bd1_s, if_pos h1, n10, if_neg c0, if_neg c1, if_neg c2, ↓reduceIte]
          have e2 : t_X11_needed (nI n) (nI na) p1_squad_actMatch p1_squad_actPlayers p1_squad_debts x1 x2 = some (-2) := by
            simp only [t_X11_needed, isMatch_ok g1, in_ok, bd1_s, if_pos h1, n10, if_neg hn, ↓reduceIte]
          exact ⟨_, e1, e2, hR0⟩
  · have e1 : t_X10_needed (nI n) (nI na) p1_squad_actMatch p1_squad_actPlayers p1_squad_debts x1 x2 = some (-1) := by
      simp only [t_X10_needed, has_ok g1, bd1_s, if_neg h1, ↓reduceIte]
    have e2 : t_X11_needed (nI n) (nI na) p1_squad_actMatch p1_squad_actPlayers p1_squad_debts x1 x2 = some (-1) := by
      simp only [t_X11_needed, isMatch_ok g1, bd1_s, if_neg h1, ↓reduceIte]
    exact ⟨_, e1, e2, hR0⟩
