-- the start
theorem rel_init : relInit := by
  unfold relInit Rel
  have z : ∀ k : Nat, 0 < k → rg 0 k := fun k hk => ⟨0, hk, rfl⟩
  have no : ∀ {P : Nat → Prop}, ∀ j, j < 0 → P j := fun j hj => absurd hj (Nat.not_lt_zero j)
  refine ⟨0, 0, 0, 0, 0, 0, 0, ?_, ?_, ?_, ?_, ?_, ?_, ?_, ?_, rfl⟩
  · refine ⟨by decide, rfl, rfl, ⟨20, by decide, rfl⟩, fun j => ?_, no, no, no, no, fun j => z _ (by decide), fun j hj => ?_, fun j => z _ (by decide), fun j => Or.inl rfl, ?_, rfl, rfl, rfl, rfl, rfl, rfl, no, fun j _ hj => if_pos hj⟩
    · show rg (if j < 8 then 50 else 0) 100
      by_cases h : j < 8
      · rw [if_pos h]; exact ⟨50, by decide, rfl⟩
      · rw [if_neg h]; exact z _ (by decide)
    · show rg (if j < 12 then 10 else 0) 101
      rw [if_pos hj]; exact ⟨10, by decide, rfl⟩
    · funext j
      by_cases h : j < 8
      · rcases (show j = 0 ∨ j = 1 ∨ j = 2 ∨ j = 3 ∨ j = 4 ∨ j = 5 ∨ j = 6 ∨ j = 7 by omega) with rfl | rfl | rfl | rfl | rfl | rfl | rfl | rfl <;> rfl
      · simp only [upd_at, if_neg (show ¬ j = 0 by omega), if_neg (show ¬ j = 1 by omega), if_neg (show ¬ j = 2 by omega), if_neg (show ¬ j = 3 by omega), if_neg (show ¬ j = 4 by omega), if_neg (show ¬ j = 5 by omega), if_neg (show ¬ j = 6 by omega), if_neg (show ¬ j = 7 by omega), if_neg h]
  · exact ⟨by decide, rfl, rfl, ⟨3, by decide, rfl⟩, ⟨2, by decide, by decide, rfl⟩, ⟨2, by decide, by decide, rfl⟩, no, no, no, no, no, rfl, rfl, rfl, rfl, rfl, rfl, rfl, rfl⟩
  · exact ⟨by decide, rfl, rfl, no, no, no, no, fun j => j, no, fun i j _ hj => absurd hj (Nat.not_lt_zero j), no, no, no⟩
  · refine ⟨fun j hj => ?_, Or.inl rfl, z _ (by decide), rfl, rfl, rfl⟩
    rcases (show j = 0 ∨ j = 1 ∨ j = 2 ∨ j = 3 ∨ j = 4 ∨ j = 5 ∨ j = 6 ∨ j = 7 ∨ j = 8 ∨ j = 9 by omega) with rfl | rfl | rfl | rfl | rfl | rfl | rfl | rfl | rfl | rfl
    · exact ⟨0, by decide, rfl⟩
    · exact ⟨1, by decide, rfl⟩
    · exact ⟨2, by decide, rfl⟩
    · exact ⟨3, by decide, rfl⟩
    · exact ⟨4, by decide, rfl⟩
    · exact ⟨5, by decide, rfl⟩
    · exact ⟨6, by decide, rfl⟩
    · exact ⟨7, by decide, rfl⟩
    · exact ⟨8, by decide, rfl⟩
    · exact ⟨9, by decide, rfl⟩
  · exact ⟨by decide, rfl, rfl, fun j _ => ⟨0, 0, Nat.le_refl _, by decide, rfl, rfl⟩, fun j => z _ (by decide), no, no, rfl, rfl, rfl, rfl, rfl⟩
  · exact ⟨by decide, rfl, rfl, rfl, rfl, rfl, rfl, no⟩
  · exact ⟨⟨2, by decide, by decide, rfl⟩, fun j => z _ (by decide), rfl, rfl⟩
  · exact ⟨by decide, by decide, rfl, rfl, rfl, rfl, rfl, rfl, no, no, Or.inl rfl⟩
