-- which stakes can be a pair
def alP (near times : Int32) (match_ end_ minute sum : Nat → Int32) (s t : Nat) : Prop := match_ s = match_ t ∧ end_ s = end_ t ∧ (minute s).toNatClampNeg ≤ (minute t).toNatClampNeg + near.toNatClampNeg ∧ (minute t).toNatClampNeg ≤ (minute s).toNatClampNeg + near.toNatClampNeg ∧ (sum s).toNatClampNeg ≤ times.toNatClampNeg * (sum t).toNatClampNeg ∧ (sum t).toNatClampNeg ≤ times.toNatClampNeg * (sum s).toNatClampNeg
theorem alP.symm {near times : Int32} {match_ end_ minute sum : Nat → Int32} (s t : Nat) (h : alP near times match_ end_ minute sum s t) : alP near times match_ end_ minute sum t s := ⟨h.1.symm, h.2.1.symm, h.2.2.2.1, h.2.2.1, h.2.2.2.2.2, h.2.2.2.2.1⟩
def SD (ns : Nat) (near times : Int32) (minute sum : Nat → Int32) : Prop := ns ≤ 40 ∧ rg near 90 ∧ (∃ k : Nat, 1 ≤ k ∧ k ≤ 10 ∧ times = nI k) ∧ (∀ j, j < ns → rg (minute j) 90) ∧ ∀ j, j < ns → ∃ k : Nat, 1 ≤ k ∧ k ≤ 10000 ∧ sum j = nI k
def alN (m1 m2 s1 s2 nr tm : Nat) : Prop := m1 ≤ m2 + nr ∧ m2 ≤ m1 + nr ∧ s1 ≤ tm * s2 ∧ s2 ≤ tm * s1
theorem al139 {nr tm d gr le : Nat} {e m mi su : Nat → Int32} (h1 : nr < 90) (h2 : d < 90) (h3 : gr ≤ 10000) (h4 : tm * le ≤ 100000) : Ok (t_X0_areAlike_139 (nI nr) (nI tm) e m mi su (nI d) (nI gr) (nI le)) (fun u => Bz u (d ≤ nr ∧ gr ≤ tm * le)) := by
  unfold t_X0_areAlike_139 t_X0_areAlike_166
  rw [pk_mul, ckn_f (by decide), ckn_f (by decide)]
  refine Ok.ite (fun h => Ok.ret (Bz.f ?_)) (fun h => Ok.ite (fun h5 => Ok.ret (Bz.f ?_)) (fun h5 => Ok.ret (Bz.t ?_)))
  · rw [nI_ltI (by omega) (by omega)] at h; omega
  · rw [nI_ltI (by omega) (by omega)] at h5; omega
  · rw [nI_ltI (by omega) (by omega)] at h h5; omega
theorem alike_ok {ns : Nat} {near times : Int32} {minute sum : Nat → Int32} (D : SD ns near times minute sum) (match_ end_ : Nat → Int32) {a b : Nat} (ha : a < ns) (hb : b < ns) : Ok (t_X0_areAlike near times end_ match_ minute sum (nI a) (nI b)) (fun u => Bz u (alP near times match_ end_ minute sum a b)) := by
  obtain ⟨hns, ⟨nr, n1, rfl⟩, ⟨tm, t1, t2, rfl⟩, hm, hs⟩ := D
  obtain ⟨ma, a1, ea⟩ := hm a ha
  obtain ⟨mb, b1, eb⟩ := hm b hb
  obtain ⟨sa, a2, a3, esa⟩ := hs a ha
  obtain ⟨sb, b2, b3, esb⟩ := hs b hb
  have P1 : tm * sa ≤ 10 * 10000 := Nat.mul_le_mul t2 a3
  have P2 : tm * sb ≤ 10 * 10000 := Nat.mul_le_mul t2 b3
  have P3 : 1 * sa ≤ tm * sa := Nat.mul_le_mul t1 (Nat.le_refl _)
  have P4 : 1 * sb ≤ tm * sb := Nat.mul_le_mul t1 (Nat.le_refl _)
  have fin : alP (nI nr) (nI tm) match_ end_ minute sum a b ↔ match_ a = match_ b ∧ end_ a = end_ b ∧ alN ma mb sa sb nr tm := by
    unfold alP alN
    rw [ea, eb, esa, esb, nI_clamp (by omega), nI_clamp (by omega), nI_clamp (by omega), nI_clamp (by omega), nI_clamp (by omega), nI_clamp (by omega)]
  unfold t_X0_areAlike t_X0_areAlike_76 t_X0_areAlike_107
  simp only [nI_clamp (show a < 2 ^ 31 by omega), nI_clamp (show b < 2 ^ 31 by omega), ckn_m (show a < 40 by omega) (show 40 < 2 ^ 31 by decide), ckn_m (show b < 40 by omega) (show 40 < 2 ^ 31 by decide)]
  rw [ea, eb, esa, esb]
  refine Ok.ite (fun c1 => Ok.ite (fun c2 => ?_) (fun c2 => Ok.ret (Bz.f (fun q => c2 q.2.1)))) (fun c1 => Ok.ret (Bz.f (fun q => c1 q.1)))
  by_cases d : sa ≤ sb
  · have hdd : nI sa ≤ nI sb := nI_le d (by omega)
    simp only [if_pos hdd]
    refine Ok.ite (fun c3 => ?_) (fun c3 => ?_)
    · rw [nI_leI (by omega) (by omega)] at c3
      rw [pk_sub c3]
      refine (al139 n1 (by omega) b3 (by omega)).mono (fun v hv => hv.iff ?_)
      rw [fin]
      exact ⟨fun q => ⟨c1, c2, by unfold alN; omega⟩, fun q => by have := q.2.2; unfold alN at this; omega⟩
    · rw [nI_leI (by omega) (by omega)] at c3
      rw [pk_sub (by omega)]
      refine (al139 n1 (by omega) b3 (by omega)).mono (fun v hv => hv.iff ?_)
      rw [fin]
      exact ⟨fun q => ⟨c1, c2, by unfold alN; omega⟩, fun q => by have := q.2.2; unfold alN at this; omega⟩
  · have hdd : ¬ nI sa ≤ nI sb := nI_ge (by omega) (by omega)
    simp only [if_neg hdd]
    refine Ok.ite (fun c3 => ?_) (fun c3 => ?_)
    · rw [nI_leI (by omega) (by omega)] at c3
      rw [pk_sub c3]
      refine (al139 n1 (by omega) a3 (by omega)).mono (fun v hv => hv.iff ?_)
      rw [fin]
      exact ⟨fun q => ⟨c1, c2, by unfold alN; omega⟩, fun q => by have := q.2.2; unfold alN at this; omega⟩
    · rw [nI_leI (by omega) (by omega)] at c3
      rw [pk_sub (by omega)]
      refine (al139 n1 (by omega) a3 (by omega)).mono (fun v hv => hv.iff ?_)
      rw [fin]
      exact ⟨fun q => ⟨c1, c2, by unfold alN; omega⟩, fun q => by have := q.2.2; unfold alN at this; omega⟩
theorem an113 {nr tm m1 m2 gr le : Nat} {e m mi su told : Nat → Int32} (h1 : nr < 90) (h2 : m1 < 90) (h3 : m2 < 90) (h4 : gr ≤ 10000) (h5 : tm * le ≤ 100000) (k1 : told 1 = nI nr) (k2 : told 2 = nI tm) : Ok (t_X11_answers_113 e m mi su told (nI m1 - nI m2) (nI le) (nI gr) 1) (fun u => Bz u (m1 ≤ m2 + nr ∧ m2 ≤ m1 + nr ∧ gr ≤ tm * le)) := by
  unfold t_X11_answers_113 t_X11_answers_160
  rw [if_neg (by decide), ckn_f (by decide), ckn_f (by decide), ckn_f (by decide), ckn_f (by decide), ckn_f (by decide), show (1 : Int32).toNatClampNeg = 1 from rfl, show (2 : Int32).toNatClampNeg = 2 from rfl, k1, k2, pk_mul, show -(nI m1 - nI m2) = nI m2 - nI m1 by grind]
  have s1 := pk_sub_toInt (a := m1) (b := m2) (by omega) (by omega)
  have s2 := pk_sub_toInt (a := m2) (b := m1) (by omega) (by omega)
  have s3 := nI_toInt (n := nr) (by omega)
  refine Ok.ite (fun h => Ok.ret (Bz.f ?_)) (fun h => Ok.ite (fun h6 => Ok.ret (Bz.f ?_)) (fun h6 => Ok.ite (fun h7 => Ok.ret (Bz.f ?_)) (fun h7 => Ok.ret (Bz.t ?_))))
  · rw [i_lt] at h; omega
  · rw [i_lt] at h6; omega
  · rw [nI_ltI (by omega) (by omega)] at h7; omega
  · rw [i_lt] at h h6; rw [nI_ltI (by omega) (by omega)] at h7; omega
theorem answers_ok {ns : Nat} {near times : Int32} {minute sum told : Nat → Int32} (D : SD ns near times minute sum) (k1 : told 1 = near) (k2 : told 2 = times) (match_ end_ : Nat → Int32) {a b : Nat} (ha : a < ns) (hb : b < ns) : Ok (t_X11_answers end_ match_ minute sum told (nI a) (nI b)) (fun u => Bz u (alP near times match_ end_ minute sum a b)) := by
  obtain ⟨hns, ⟨nr, n1, rfl⟩, ⟨tm, t1, t2, rfl⟩, hm, hs⟩ := D
  obtain ⟨ma, a1, ea⟩ := hm a ha
  obtain ⟨mb, b1, eb⟩ := hm b hb
  obtain ⟨sa, a2, a3, esa⟩ := hs a ha
  obtain ⟨sb, b2, b3, esb⟩ := hs b hb
  have P1 : tm * sa ≤ 10 * 10000 := Nat.mul_le_mul t2 a3
  have P2 : tm * sb ≤ 10 * 10000 := Nat.mul_le_mul t2 b3
  have P3 : 1 * sa ≤ tm * sa := Nat.mul_le_mul t1 (Nat.le_refl _)
  have P4 : 1 * sb ≤ tm * sb := Nat.mul_le_mul t1 (Nat.le_refl _)
  have fin : alP (nI nr) (nI tm) match_ end_ minute sum a b ↔ match_ a = match_ b ∧ end_ a = end_ b ∧ alN ma mb sa sb nr tm := by
    unfold alP alN
    rw [ea, eb, esa, esb, nI_clamp (by omega), nI_clamp (by omega), nI_clamp (by omega), nI_clamp (by omega), nI_clamp (by omega), nI_clamp (by omega)]
  have no : ∀ x y z, ¬ (match_ a = match_ b ∧ end_ a = end_ b) → Ok (t_X11_answers_112 end_ match_ minute sum told x y z) (fun u => Bz u (alP (nI nr) (nI tm) match_ end_ minute sum a b)) := by
    intro x y z hno
    unfold t_X11_answers_112 t_X11_answers_113 t_X11_answers_160
    rw [if_pos rfl, ckn_f (by decide)]
    exact Ok.ret (Bz.f (fun q => hno ⟨q.1, q.2.1⟩))
  unfold t_X11_answers t_X11_answers_44 t_X11_answers_76
  simp only [nI_clamp (show a < 2 ^ 31 by omega), nI_clamp (show b < 2 ^ 31 by omega), ckn_m (show a < 40 by omega) (show 40 < 2 ^ 31 by decide), ckn_m (show b < 40 by omega) (show 40 < 2 ^ 31 by decide)]
  rw [ea, eb, esa, esb]
  by_cases d : sb ≤ sa
  · rw [if_pos (nI_le d (by omega)), if_pos (nI_le d (by omega))]
    refine Ok.ite (fun c1 => Ok.ite (fun c2 => ?_) (fun c2 => no _ _ _ (fun q => c2 q.2))) (fun c1 => no _ _ _ (fun q => c1 q.1))
    refine (an113 n1 a1 b1 a3 (by omega) k1 k2).mono (fun v hv => hv.iff ?_)
    rw [fin]
    exact ⟨fun q => ⟨c1, c2, by unfold alN; omega⟩, fun q => by have := q.2.2; unfold alN at this; omega⟩
  · rw [if_neg (nI_ge (by omega) (by omega)), if_neg (nI_ge (by omega) (by omega))]
    refine Ok.ite (fun c1 => Ok.ite (fun c2 => ?_) (fun c2 => no _ _ _ (fun q => c2 q.2))) (fun c1 => no _ _ _ (fun q => c1 q.1))
    refine (an113 n1 a1 b1 b3 (by omega) k1 k2).mono (fun v hv => hv.iff ?_)
    rw [fin]
    exact ⟨fun q => ⟨c1, c2, by unfold alN; omega⟩, fun q => by have := q.2.2; unfold alN at this; omega⟩
def hnd (hand : Nat → Int32) (a : Int32) : Nat → Bool := fun s => decide (hand s = a)
theorem hnd_t {hand : Nat → Int32} {a : Int32} {s : Nat} : hnd hand a s = true ↔ hand s = a := by unfold hnd; exact decide_eq_true_iff
theorem hnd_d {hand : Nat → Int32} {a b : Int32} (h : a ≠ b) : ∀ x, hnd hand a x = true → hnd hand b x = true → False := fun x h1 h2 => h (by rw [← hnd_t.mp h1, ← hnd_t.mp h2])
theorem en_1 {o : Option Nat} (h : ∀ t, o = some t → t < 40) : en (-1) o = -1 ↔ o = none := by
  cases o with
  | none => exact ⟨fun _ => rfl, fun _ => rfl⟩
  | some t =>
    have ht := h t rfl
    refine ⟨fun q => ?_, fun q => by cases q⟩
    have h2 : ¬ nI t < 0 := nI_pos (by omega)
    have q : nI t = -1 := q
    rw [q] at h2
    exact absurd (by decide) h2
theorem en_6 {o : Option Nat} (h : ∀ t, o = some t → t < 40) : en (-6) o < 0 ↔ o = none := by
  cases o with
  | none => exact ⟨fun _ => rfl, fun _ => by show (-6 : Int32) < 0; decide⟩
  | some t =>
    have ht := h t rfl
    refine ⟨fun q => ?_, fun q => by cases q⟩
    exact absurd q (nI_pos (by omega))
theorem nI_m1 {t : Nat} (h : t < 2 ^ 31) : ¬ nI t = -1 := fun q => by
  have h2 : ¬ nI t < 0 := nI_pos h
  rw [q] at h2
  exact absurd (by decide) h2
theorem seekFree_ok {ns : Nat} {near times a b : Int32} {hand match_ end_ minute sum : Nat → Int32} (D : SD ns near times minute sum) (hab : a ≠ b) {f : Nat → Option Nat} {Z : Nat → Prop} {st : Nat} (hM : Mg ns (hnd hand a) (hnd hand b) (alP near times match_ end_ minute sum) f) (hZ : Zc ns (hnd hand b) (alP near times match_ end_ minute sum) Z f) (hst : st < ns) (ast : hand st = a) (fs : f st = none) {partner : Nat → Int32} (hp : Rep ns (-1) partner f) (rf0 wt0 : Nat → Int32) :
    Ok (t_X0_seekFree (nI ns) near times end_ hand match_ minute partner rf0 sum wt0 (nI st) b) (fun v =>
      (v.1 = -1 ∧ ∃ Z' : Nat → Prop, Zc ns (hnd hand b) (alP near times match_ end_ minute sum) Z' f ∧ (∀ z, Z z → Z' z) ∧ Z' st) ∨
      (∃ j r q k0, j < ns ∧ v.1 = nI j ∧ k0 < 40 ∧ Rep ns (-1) v.2.1 r ∧ Pth ns (hnd hand a) (hnd hand b) (alP near times match_ end_ minute sum) f st r q k0 ∧ Wl ns (hnd hand a) (hnd hand b) (alP near times match_ end_ minute sum) f Z r q k0 f j k0)) := by
  have hns : ns ≤ 40 := D.1
  have hd := hnd_d (hand := hand) hab
  have as := hnd_t.mpr ast
  generalize hLL : alP near times match_ end_ minute sum = L at *
  unfold t_X0_seekFree
  rw [fill_ok (by decide), bd1_s, ckn_f (by decide), show (0 : Int32).toNatClampNeg = 0 from rfl]
  refine lr_X0_seekFree_20 _ (fun i c ne ti e h m mi p rf su wt x2 x3 x4 => nI ns = c ∧ near = ne ∧ times = ti ∧ end_ = e ∧ hand = h ∧ match_ = m ∧ minute = mi ∧ partner = p ∧ sum = su ∧ b = x2 ∧ x4 = nI i ∧ ∃ r q Q, x3 = nI Q ∧ Bs ns (hnd hand a) (hnd hand b) L f st i 0 r q Q ∧ Rep ns (-1) rf r ∧ (∀ k, k < Q → wt k = nI (q k)) ∧ i ≤ Q) 40 ?_ ?_ lfuel 0 _ _ _ _ _ _ _ _ _ _ _ _ _ _ (Nat.zero_le _) (by unfold lfuel; omega) ?_
  · rintro kk i c ne ti e h m mi p rf su wt x2 x3 x4 hi ⟨d1, d2, d3, d4, d5, d6, d7, d8, d9, d10, d11, r, q, Q, hQ, hB, hR, hW, hiQ⟩ hk
    subst d1 d2 d3 d4 d5 d6 d7 d8 d9 d10 d11 hQ
    unfold t_X0_seekFree_20_b
    have hQn := bs_le hd hst as hB
    refine Ok.ite (fun h => Ok.ret (Or.inl ⟨rfl, ?_⟩)) (fun h => ?_)
    · rw [nI_leI (by omega) (by omega)] at h
      exact bs_fail hB h hZ
    · rw [nI_leI (by omega) (by omega)] at h
      rw [nI_clamp (by omega), ckn_m (by omega) (by decide), hW i (by omega)]
      refine lr_X0_seekFree_38 _ (fun j c ne ti e h m mi p rf su wt x2 x3 x4 x5 x6 => nI ns = c ∧ near = ne ∧ times = ti ∧ end_ = e ∧ hand = h ∧ match_ = m ∧ minute = mi ∧ partner = p ∧ sum = su ∧ b = x2 ∧ x4 = nI i ∧ x6 = nI j ∧ ∃ r q Q, x3 = nI Q ∧ Bs ns (hnd hand a) (hnd hand b) L f st i j r q Q ∧ Rep ns (-1) rf r ∧ (∀ k, k < Q → wt k = nI (q k)) ∧ i < Q ∧ x5 = nI (q i)) ns ?_ ?_ lfuel 0 _ _ _ _ _ _ _ _ _ _ _ _ _ _ _ _ (Nat.zero_le _) (by unfold lfuel; omega) ?_
      · clear hB hR hW hiQ h hQn
        rintro kk2 j c ne ti e h m mi p rf su wt x2 x3 x4 x5 x6 hj ⟨d1, d2, d3, d4, d5, d6, d7, d8, d9, d10, d11, d12, r, q, Q, hQ, hB, hR, hW, hiQ, hx5⟩ hk2
        subst d1 d2 d3 d4 d5 d6 d7 d8 d9 d10 d11 d12 hQ hx5
        unfold t_X0_seekFree_38_b t_X0_seekFree_128
        have hQn := bs_le hd hst as hB
        have hqi := hB.2.2.1 i hiQ
        rw [nI_clamp (by omega), ckn_m (by omega) (by decide), ckn_m (by omega) (by decide), ckn_m (by omega) (by decide), ckn_m (by omega) (by decide), ckn_m (by omega) (by decide)]
        have rlt : ∀ t s, r t = some s → s < 40 := fun t s e => by
          obtain ⟨_, _, _, ⟨k, k1, k2, k3⟩, _⟩ := hB.2.2.2.2.2.1 t s e
          have := (hB.2.2.1 k k1).2
          omega
        have flt : ∀ t s, f t = some s → s < 40 := fun t s e => by have := (hM t s e).2.2.1; omega
        refine Ok.neg (nI_ge hj (by omega)) (Ok.ite (fun h1 => Ok.ite (fun h2 => ?_) (fun h2 => ?_)) (fun h1 => ?_))
        · have rj : r j = none := (en_1 (rlt j)).mp (by rw [← hR j hj]; exact h2)
          refine Ok.bd1 (hLL ▸ alike_ok D match_ end_ hqi.2 hj) (fun v hv => Ok.ite (fun hz => ?_) (fun hz => ?_))
          · apply hk2
            exact ⟨rfl, rfl, rfl, rfl, rfl, rfl, rfl, rfl, rfl, rfl, rfl, nI_1 j, r, q, Q, rfl, bs_skip hB (fun _ l => absurd l (hv.z.mp hz)), hR, hW, hiQ, rfl⟩
          · have l := Classical.not_not.mp (fun q => hz (hv.z.mpr q))
            refine Ok.ite (fun h3 => ?_) (fun h3 => ?_)
            · have fj : f j = none := (en_1 (flt j)).mp (by rw [← hp j hj]; exact h3)
              refine Ok.ret (Or.inr ⟨j, fset r j (some (q i)), q, i, hj, rfl, by omega, hR.set j (q i), bs_path hB hiQ fj, ?_⟩)
              exact ⟨hM, hZ, fj, hnd_t.mpr h1, hj, fset_s, l, Nat.le_refl _, fun _ _ => rfl, fun _ _ => rfl⟩
            · have hroom := bs_room hd hst as hB hj (hnd_t.mpr h1) rj
              cases fj : f j with
              | none => exact absurd (by rw [hp j hj, fj]; rfl) h3
              | some s =>
                refine Ok.neg (nI_ge (b := 40) (by omega) (by decide)) ?_
                rw [nI_clamp (by omega), ckn_m (by omega) (by decide)]
                apply hk2
                refine ⟨rfl, rfl, rfl, rfl, rfl, rfl, rfl, rfl, rfl, rfl, rfl, nI_1 j, fset r j (some (q i)), qset q Q s, Q + 1, nI_1 Q, bs_push hd hM fs hB hiQ hj (hnd_t.mpr h1) rj l fj, hR.set j (q i), fun k hk => ?_, by omega, by rw [qset_o (by omega)]⟩
                by_cases e : k = Q
                · subst e; rw [pk_us, qset_s, hp j hj, fj]; rfl
                · rw [pk_un e, qset_o e]; exact hW k (by omega)
        · apply hk2
          refine ⟨rfl, rfl, rfl, rfl, rfl, rfl, rfl, rfl, rfl, rfl, rfl, nI_1 j, r, q, Q, rfl, bs_skip hB (fun _ _ => ?_), hR, hW, hiQ, rfl⟩
          cases rj : r j with
          | none => exact absurd (by rw [hR j hj, rj]; rfl) h2
          | some s => rfl
        · apply hk2
          exact ⟨rfl, rfl, rfl, rfl, rfl, rfl, rfl, rfl, rfl, rfl, rfl, nI_1 j, r, q, Q, rfl, bs_skip hB (fun b => absurd (hnd_t.mp b) h1), hR, hW, hiQ, rfl⟩
      · clear hB hR hW hiQ h hQn
        rintro kk2 c ne ti e h m mi p rf su wt x2 x3 x4 x5 x6 ⟨d1, d2, d3, d4, d5, d6, d7, d8, d9, d10, d11, d12, r, q, Q, hQ, hB, hR, hW, hiQ, hx5⟩
        subst d1 d2 d3 d4 d5 d6 d7 d8 d9 d10 d11 d12 hQ hx5
        unfold t_X0_seekFree_38_b t_X0_seekFree_134
        refine Ok.pos (nI_le (Nat.le_refl _) (by omega)) ?_
        apply hk
        exact ⟨rfl, rfl, rfl, rfl, rfl, rfl, rfl, rfl, rfl, rfl, nI_1 i, r, q, Q, rfl, bs_next hB, hR, hW, by omega⟩
      · exact ⟨rfl, rfl, rfl, rfl, rfl, rfl, rfl, rfl, rfl, rfl, rfl, rfl, r, q, Q, rfl, hB, hR, hW, by omega, rfl⟩
  · rintro kk c ne ti e h m mi p rf su wt x2 x3 x4 ⟨d1, d2, d3, d4, d5, d6, d7, d8, d9, d10, d11, r, q, Q, hQ, hB, hR, hW, hiQ⟩
    subst d1 d2 d3 d4 d5 d6 d7 d8 d9 d10 d11 hQ
    unfold t_X0_seekFree_20_b
    have hQn := bs_le hd hst as hB
    exact Ok.pos (nI_le (by omega) (by omega)) (Ok.ret (Or.inl ⟨rfl, bs_fail hB (by omega) hZ⟩))
  · refine ⟨rfl, rfl, rfl, rfl, rfl, rfl, rfl, rfl, rfl, rfl, rfl, fun _ => none, fun _ => st, 1, rfl, bs_init hst as, fun s hs => ?_, fun k hk => ?_, Nat.zero_le _⟩
    · show (if s < 40 then (-1 : Int32) else rf0 s) = -1
      rw [if_pos (by omega)]
    · have : k = 0 := by omega
      subst this
      exact pk_us
def Aug (ns : Nat) (A B : Nat → Bool) (L : Nat → Nat → Prop) (f : Nat → Option Nat) (Z : Nat → Prop) (st : Nat) (c : Int32) (p : Nat → Int32) : Prop := ∃ g, Mg ns A B L g ∧ Zc ns B L Z g ∧ Rep ns c p g ∧ ∀ x, A x = true → (g x).isSome = ((f x).isSome || decide (x = st))
theorem wl_rep {ns : Nat} {c : Int32} {p : Nat → Int32} {g : Nat → Option Nat} {s t : Nat} (hne : t ≠ s) (hp : ∀ x, x < ns → x ≠ t → p x = en c (g x)) : ∀ x, x < ns → g s ≠ some x → upd (upd p s (nI t)) t (nI s) x = en c (aug g s t x) := by
  intro x hx h2
  by_cases e1 : x = t
  · subst e1; rw [pk_us, aug_t hne]; rfl
  · rw [pk_un e1]
    by_cases e2 : x = s
    · subst e2; rw [pk_us, aug_s]; rfl
    · rw [pk_un e2, aug_o e2 e1 h2]; exact hp x hx e1
theorem pairUp_ok {ns : Nat} (hns : ns ≤ 40) {A B : Nat → Bool} {L : Nat → Nat → Prop} (hd : ∀ x, A x = true → B x = true → False) {f : Nat → Option Nat} {Z : Nat → Prop} {st : Nat} (hM : Mg ns A B L f) (fs : f st = none) {partner rf : Nat → Int32} (hp : Rep ns (-1) partner f) {r : Nat → Option Nat} {q : Nat → Nat} {k0 j : Nat} (hk0 : k0 < 40) (hR : Rep ns (-1) rf r) (hP : Pth ns A B L f st r q k0) (hW : Wl ns A B L f Z r q k0 f j k0) : Ok (t_X0_pairUpTo partner rf (nI j)) (fun p => Aug ns A B L f Z st (-1) p) := by
  unfold t_X0_pairUpTo
  refine lr_X0_pairUpTo_4 _ (fun i p rf' x2 x3 => rf = rf' ∧ x3 = nI i ∧ ((x2 = -1 ∧ Aug ns A B L f Z st (-1) p) ∨ ∃ g t k, x2 = nI t ∧ k + i ≤ k0 ∧ Wl ns A B L f Z r q k0 g t k ∧ ∀ x, x < ns → x ≠ t → p x = en (-1) (g x))) 40 ?_ ?_ lfuel 0 _ _ _ _ (Nat.zero_le _) (by unfold lfuel; omega) ?_
  · rintro kk i p rf' x2 x3 hi ⟨d1, d2, d3⟩ hk
    subst d1 d2
    unfold t_X0_pairUpTo_4_b
    refine Ok.neg (nI_ge (b := 40) hi (by decide)) ?_
    rcases d3 with ⟨d3, d4⟩ | ⟨g, t, k, d3, d4, d5, d6⟩
    · subst d3
      exact Ok.pos rfl (Ok.ret d4)
    · subst d3
      have tn : t < ns := d5.2.2.2.2.1
      have rt := d5.2.2.2.2.2.1
      have bt := d5.2.2.2.1
      obtain ⟨aq, qn⟩ := hP.2.1 k (by omega)
      have hne : t ≠ q k := fun e => hd _ aq (e ▸ bt)
      have er : rf t = nI (q k) := by rw [hR t tn, rt]; rfl
      rw [nI_clamp (by omega), er, nI_clamp (by omega), ckn_m (by omega) (by decide), ckn_m (by omega) (by decide), ckn_m (by omega) (by decide), ckn_m (by omega) (by decide)]
      refine Ok.neg (nI_m1 (by omega)) (Ok.neg (nI_m1 (by omega)) ?_)
      have rep := wl_rep (c := -1) hne d6
      rcases wl_step hd hM fs hP d5 with ⟨z1, z2, z3, z4, z5, z6⟩ | ⟨z0, t2, k2, z1, z2, z3⟩
      · apply hk
        refine ⟨rfl, nI_1 i, Or.inl ⟨?_, aug g (q k) t, z4, z5, fun x hx => rep x hx (by rw [z3]; intro e; cases e), z6⟩⟩
        rw [d6 (q k) qn (fun e => hne e.symm), z3]; rfl
      · apply hk
        refine ⟨rfl, nI_1 i, Or.inr ⟨aug g (q k) t, t2, k2, ?_, by omega, z3, fun x hx hx2 => rep x hx (by rw [z2]; intro e; exact hx2 (Option.some.inj e).symm)⟩⟩
        rw [d6 (q k) qn (fun e => hne e.symm), z2]; rfl
  · rintro kk p rf' x2 x3 ⟨d1, d2, d3⟩
    subst d1 d2
    unfold t_X0_pairUpTo_4_b
    refine Ok.pos (by decide) (Ok.ret ?_)
    rcases d3 with ⟨d3, d4⟩ | ⟨g, t, k, d3, d4, d5, d6⟩
    · exact d4
    · omega
  · exact ⟨rfl, rfl, Or.inr ⟨f, j, k0, rfl, by omega, hW, fun x hx _ => hp x hx⟩⟩
theorem turn_ok {ns : Nat} (hns : ns ≤ 40) {A B : Nat → Bool} {L : Nat → Nat → Prop} (hd : ∀ x, A x = true → B x = true → False) {f : Nat → Option Nat} {Z : Nat → Prop} {st : Nat} (hst : st < ns) (hM : Mg ns A B L f) (fs : f st = none) {partner rf : Nat → Int32} (hp : Rep ns (-6) partner f) {r : Nat → Option Nat} {q : Nat → Nat} {k0 j : Nat} (hk0 : k0 < 40) (hR : Rep ns (-6) rf r) (hP : Pth ns A B L f st r q k0) (hW : Wl ns A B L f Z r q k0 f j k0) : Ok (t_X11_turn rf partner (nI j) (nI st)) (fun p => Aug ns A B L f Z st (-6) p) := by
  unfold t_X11_turn
  refine lr_X11_turn_5 _ (fun i rf' p x2 x3 x4 => rf = rf' ∧ x2 = nI st ∧ ((x4 = 0 ∧ Aug ns A B L f Z st (-6) p) ∨ (x4 = 1 ∧ ∃ g t k, x3 = nI t ∧ k + i ≤ k0 ∧ Wl ns A B L f Z r q k0 g t k ∧ ∀ x, x < ns → x ≠ t → p x = en (-6) (g x)))) 40 ?_ ?_ lfuel 0 _ _ _ _ _ (Nat.zero_le _) (by unfold lfuel; omega) ?_
  · rintro kk i rf' p x2 x3 x4 hi ⟨d1, d2, d3⟩ hk
    subst d1 d2
    unfold t_X11_turn_5_b t_X11_turn_54
    rcases d3 with ⟨d3, d4⟩ | ⟨d0, g, t, k, d3, d4, d5, d6⟩
    · subst d3
      exact Ok.pos rfl (Ok.ret d4)
    · subst d0 d3
      have tn : t < ns := d5.2.2.2.2.1
      have rt := d5.2.2.2.2.2.1
      have bt := d5.2.2.2.1
      obtain ⟨aq, qn⟩ := hP.2.1 k (by omega)
      have hne : t ≠ q k := fun e => hd _ aq (e ▸ bt)
      have er : rf t = nI (q k) := by rw [hR t tn, rt]; rfl
      rw [nI_clamp (by omega), er, nI_clamp (by omega), ckn_m (by omega) (by decide), ckn_m (by omega) (by decide), ckn_m (by omega) (by decide), ckn_m (by omega) (by decide)]
      refine Ok.neg (by decide) ?_
      have rep := wl_rep (c := -6) hne d6
      rcases wl_step hd hM fs hP d5 with ⟨z1, z2, z3, z4, z5, z6⟩ | ⟨z0, t2, k2, z1, z2, z3⟩
      · refine Ok.pos (by rw [z2]) ?_
        apply hk
        exact ⟨rfl, rfl, Or.inl ⟨rfl, aug g (q k) t, z4, z5, fun x hx => rep x hx (by rw [z3]; intro e; cases e), z6⟩⟩
      · refine Ok.neg (fun e => z0 ((nI_eq (by omega) (by omega)).mp e)) ?_
        apply hk
        refine ⟨rfl, rfl, Or.inr ⟨rfl, aug g (q k) t, t2, k2, ?_, by omega, z3, fun x hx hx2 => rep x hx (by rw [z2]; intro e; exact hx2 (Option.some.inj e).symm)⟩⟩
        rw [d6 (q k) qn (fun e => hne e.symm), z2]; rfl
  · rintro kk rf' p x2 x3 x4 ⟨d1, d2, d3⟩
    subst d1 d2
    unfold t_X11_turn_5_b
    rcases d3 with ⟨d3, d4⟩ | ⟨d0, g, t, k, d3, d4, d5, d6⟩
    · subst d3
      exact Ok.pos rfl (Ok.ret d4)
    · omega
  · exact ⟨rfl, rfl, Or.inr ⟨rfl, f, j, k0, rfl, by omega, hW, fun x hx _ => hp x hx⟩⟩
theorem pairs_ok {ns : Nat} {near times a b : Int32} {hand match_ end_ minute sum told : Nat → Int32} (D : SD ns near times minute sum) (k1 : told 1 = near) (k2 : told 2 = times) (hab : a ≠ b) {f : Nat → Option Nat} {Z : Nat → Prop} {st : Nat} (hM : Mg ns (hnd hand a) (hnd hand b) (alP near times match_ end_ minute sum) f) (hZ : Zc ns (hnd hand b) (alP near times match_ end_ minute sum) Z f) (hst : st < ns) (ast : hand st = a) (fs : f st = none) {partner : Nat → Int32} (hp : Rep ns (-6) partner f) (rf0 wt0 : Nat → Int32) :
    Ok (t_X11_pairs (nI ns) rf0 partner wt0 end_ hand match_ minute sum told (nI st) b) (fun v =>
      (v.1 = 0 ∧ Rep ns (-6) v.2.2.1 f ∧ ∃ Z' : Nat → Prop, Zc ns (hnd hand b) (alP near times match_ end_ minute sum) Z' f ∧ (∀ z, Z z → Z' z) ∧ Z' st) ∨
      (v.1 = 1 ∧ Aug ns (hnd hand a) (hnd hand b) (alP near times match_ end_ minute sum) f Z st (-6) v.2.2.1)) := by
  have hns : ns ≤ 40 := D.1
  have hd := hnd_d (hand := hand) hab
  have as := hnd_t.mpr ast
  generalize hLL : alP near times match_ end_ minute sum = L at *
  unfold t_X11_pairs
  refine lr_X11_pairs_2 _ (fun i c rf p wt e h m mi su to x1 x2 x3 => nI ns = c ∧ partner = p ∧ end_ = e ∧ hand = h ∧ match_ = m ∧ minute = mi ∧ sum = su ∧ told = to ∧ x1 = nI st ∧ b = x2 ∧ x3 = nI i ∧ ∀ k, k < i → rf k = -6) ns ?_ ?_ lfuel 0 _ _ _ _ _ _ _ _ _ _ _ _ _ (Nat.zero_le _) (by unfold lfuel; omega) ?_
  · rintro kk i c rf p wt e h m mi su to x1 x2 x3 hi ⟨d1, d2, d3, d4, d5, d6, d7, d8, d9, d10, d11, d12⟩ hk
    subst d1 d2 d3 d4 d5 d6 d7 d8 d9 d10 d11
    unfold t_X11_pairs_2_b
    rw [nI_clamp (by omega), ckn_m (by omega) (by decide)]
    refine Ok.neg (nI_ge hi (by omega)) ?_
    apply hk
    refine ⟨rfl, rfl, rfl, rfl, rfl, rfl, rfl, rfl, rfl, rfl, nI_1 i, fun k hk => ?_⟩
    by_cases e : k = i
    · subst e; exact pk_us
    · rw [pk_un e]; exact d12 k (by omega)
  · rintro kk0 c rf p wt e h m mi su to x1 x2 x3 ⟨d1, d2, d3, d4, d5, d6, d7, d8, d9, d10, d11, d12⟩
    subst d1 d2 d3 d4 d5 d6 d7 d8 d9 d10 d11
    unfold t_X11_pairs_2_b t_X11_pairs_24
    refine Ok.pos (nI_le (Nat.le_refl _) (by omega)) ?_
    rw [ckn_f (by decide), show (0 : Int32).toNatClampNeg = 0 from rfl, show (0 : Int32) + 1 = nI 1 from rfl]
    refine lr_X11_pairs_39 _ (fun i c rf p wt e h m mi su to x1 x2 x3 x4 => nI ns = c ∧ partner = p ∧ end_ = e ∧ hand = h ∧ match_ = m ∧ minute = mi ∧ sum = su ∧ told = to ∧ x1 = nI st ∧ b = x2 ∧ x4 = nI i ∧ ∃ r q Q, x3 = nI Q ∧ Bs ns (hnd hand a) (hnd hand b) L f st i 0 r q Q ∧ Rep ns (-6) rf r ∧ (∀ k, k < Q → wt k = nI (q k)) ∧ i ≤ Q) 40 ?_ ?_ lfuel 0 _ _ _ _ _ _ _ _ _ _ _ _ _ _ (Nat.zero_le _) (by unfold lfuel; omega) ?_
    · clear d12
      rintro kk i c rf p wt e h m mi su to x1 x2 x3 x4 hi ⟨d1, d2, d3, d4, d5, d6, d7, d8, d9, d10, d11, r, q, Q, hQ, hB, hR, hW, hiQ⟩ hk
      subst d1 d2 d3 d4 d5 d6 d7 d8 d9 d10 d11 hQ
      unfold t_X11_pairs_39_b
      have hQn := bs_le hd hst as hB
      refine Ok.ite (fun h => Ok.ret (Or.inl ⟨rfl, hp, ?_⟩)) (fun h => ?_)
      · rw [nI_leI (by omega) (by omega)] at h
        exact bs_fail hB h hZ
      · rw [nI_leI (by omega) (by omega)] at h
        rw [nI_clamp (by omega), ckn_m (by omega) (by decide), hW i (by omega)]
        refine lr_X11_pairs_57 _ (fun j c rf p wt e h m mi su to x1 x2 x3 x4 x5 x6 => nI ns = c ∧ partner = p ∧ end_ = e ∧ hand = h ∧ match_ = m ∧ minute = mi ∧ sum = su ∧ told = to ∧ x1 = nI st ∧ b = x2 ∧ x4 = nI i ∧ x6 = nI j ∧ ∃ r q Q, x3 = nI Q ∧ Bs ns (hnd hand a) (hnd hand b) L f st i j r q Q ∧ Rep ns (-6) rf r ∧ (∀ k, k < Q → wt k = nI (q k)) ∧ i < Q ∧ x5 = nI (q i)) ns ?_ ?_ lfuel 0 _ _ _ _ _ _ _ _ _ _ _ _ _ _ _ _ (Nat.zero_le _) (by unfold lfuel; omega) ?_
        · clear hB hR hW hiQ h hQn
          rintro kk2 j c rf p wt e h m mi su to x1 x2 x3 x4 x5 x6 hj ⟨d1, d2, d3, d4, d5, d6, d7, d8, d9, d10, d11, d12, r, q, Q, hQ, hB, hR, hW, hiQ, hx5⟩ hk2
          subst d1 d2 d3 d4 d5 d6 d7 d8 d9 d10 d11 d12 hQ hx5
          unfold t_X11_pairs_57_b t_X11_pairs_145 t_X11_pairs_136
          have hQn := bs_le hd hst as hB
          have hqi := hB.2.2.1 i hiQ
          rw [nI_clamp (show j < 2 ^ 31 by omega), ckn_m (by omega) (by decide), ckn_m (by omega) (by decide), ckn_m (by omega) (by decide), ckn_m (by omega) (by decide), ckn_m (by omega) (by decide)]
          have rlt : ∀ t s, r t = some s → s < 40 := fun t s e => by
            obtain ⟨_, _, _, ⟨k, k1, k2, k3⟩, _⟩ := hB.2.2.2.2.2.1 t s e
            have := (hB.2.2.1 k k1).2
            omega
          have flt : ∀ t s, f t = some s → s < 40 := fun t s e => by have := (hM t s e).2.2.1; omega
          refine Ok.neg (nI_ge hj (by omega)) (Ok.ite (fun h1 => Ok.ite (fun h2 => ?_) (fun h2 => ?_)) (fun h1 => ?_))
          · apply hk2
            refine ⟨rfl, rfl, rfl, rfl, rfl, rfl, rfl, rfl, rfl, rfl, rfl, nI_1 j, r, q, Q, rfl, bs_skip hB (fun _ _ => ?_), hR, hW, hiQ, rfl⟩
            cases rj : r j with
            | none => rw [hR j hj, rj] at h2; exact absurd h2 (by show ¬ (0 : Int32) ≤ -6; decide)
            | some s => rfl
          · have rj : r j = none := (en_6 (rlt j)).mp (by rw [← hR j hj]; exact fa_of_nle h2)
            refine Ok.bd1 (hLL ▸ answers_ok D k1 k2 match_ end_ hqi.2 hj) (fun v hv => Ok.ite (fun hz => ?_) (fun hz => ?_))
            · apply hk2
              exact ⟨rfl, rfl, rfl, rfl, rfl, rfl, rfl, rfl, rfl, rfl, rfl, nI_1 j, r, q, Q, rfl, bs_skip hB (fun _ l => absurd l (hv.z.mp hz)), hR, hW, hiQ, rfl⟩
            · have l := Classical.not_not.mp (fun q => hz (hv.z.mpr q))
              refine Ok.ite (fun h3 => ?_) (fun h3 => ?_)
              · have fj : f j = none := (en_6 (flt j)).mp (by rw [← hp j hj]; exact h3)
                refine Ok.bd1 (turn_ok (Z := Z) hns hd hst hM fs hp (k0 := i) (by omega) (hR.set j (q i)) (bs_path hB hiQ fj) ?_) (fun u hu => Ok.ret (Or.inr ⟨rfl, hu⟩))
                exact ⟨hM, hZ, fj, hnd_t.mpr h1, hj, fset_s, l, Nat.le_refl _, fun _ _ => rfl, fun _ _ => rfl⟩
              · have hroom := bs_room hd hst as hB hj (hnd_t.mpr h1) rj
                cases fj : f j with
                | none => exact absurd (by rw [hp j hj, fj]; show (-6 : Int32) < 0; decide) h3
                | some s =>
                  rw [nI_clamp (by omega), ckn_m (by omega) (by decide)]
                  apply hk2
                  refine ⟨rfl, rfl, rfl, rfl, rfl, rfl, rfl, rfl, rfl, rfl, rfl, nI_1 j, fset r j (some (q i)), qset q Q s, Q + 1, nI_1 Q, bs_push hd hM fs hB hiQ hj (hnd_t.mpr h1) rj l fj, hR.set j (q i), fun k hk => ?_, by omega, by rw [qset_o (by omega)]⟩
                  by_cases e : k = Q
                  · subst e; rw [pk_us, qset_s, hp j hj, fj]; rfl
                  · rw [pk_un e, qset_o e]; exact hW k (by omega)
          · apply hk2
            exact ⟨rfl, rfl, rfl, rfl, rfl, rfl, rfl, rfl, rfl, rfl, rfl, nI_1 j, r, q, Q, rfl, bs_skip hB (fun b => absurd (hnd_t.mp b) h1), hR, hW, hiQ, rfl⟩
        · clear hB hR hW hiQ h hQn
          rintro kk2 c rf p wt e h m mi su to x1 x2 x3 x4 x5 x6 ⟨d1, d2, d3, d4, d5, d6, d7, d8, d9, d10, d11, d12, r, q, Q, hQ, hB, hR, hW, hiQ, hx5⟩
          subst d1 d2 d3 d4 d5 d6 d7 d8 d9 d10 d11 d12 hQ hx5
          unfold t_X11_pairs_57_b t_X11_pairs_151
          refine Ok.pos (nI_le (Nat.le_refl _) (by omega)) ?_
          apply hk
          exact ⟨rfl, rfl, rfl, rfl, rfl, rfl, rfl, rfl, rfl, rfl, nI_1 i, r, q, Q, rfl, bs_next hB, hR, hW, by omega⟩
        · exact ⟨rfl, rfl, rfl, rfl, rfl, rfl, rfl, rfl, rfl, rfl, rfl, rfl, r, q, Q, rfl, hB, hR, hW, by omega, rfl⟩
    · clear d12
      rintro kk c rf p wt e h m mi su to x1 x2 x3 x4 ⟨d1, d2, d3, d4, d5, d6, d7, d8, d9, d10, d11, r, q, Q, hQ, hB, hR, hW, hiQ⟩
      subst d1 d2 d3 d4 d5 d6 d7 d8 d9 d10 d11 hQ
      unfold t_X11_pairs_39_b
      have hQn := bs_le hd hst as hB
      exact Ok.pos (nI_le (by omega) (by omega)) (Ok.ret (Or.inl ⟨rfl, hp, bs_fail hB (by omega) hZ⟩))
    · refine ⟨rfl, rfl, rfl, rfl, rfl, rfl, rfl, rfl, rfl, rfl, rfl, fun _ => none, fun _ => st, 1, rfl, bs_init hst as, fun s hs => d12 s hs, fun k hk => ?_, Nat.zero_le _⟩
      have : k = 0 := by omega
      subst this
      exact pk_us
  · exact ⟨rfl, rfl, rfl, rfl, rfl, rfl, rfl, rfl, rfl, rfl, rfl, fun k hk => absurd hk (Nat.not_lt_zero k)⟩
-- the row of all stakes of a hand
def Rd (ns : Nat) (A B : Nat → Bool) (L : Nat → Nat → Prop) (c : Int32) (i : Nat) (p : Nat → Int32) (x : Int32) : Prop := ∃ (f : Nat → Option Nat) (Z : Nat → Prop), x = nI (nA ns A f) ∧ Mg ns A B L f ∧ Zc ns B L Z f ∧ Rep ns c p f ∧ (∀ s, A s = true → (f s).isSome = true → s < i) ∧ (∀ s, s < i → A s = true → f s = none → Z s)
theorem rd_0 {ns : Nat} {A B : Nat → Bool} {L : Nat → Nat → Prop} {c : Int32} {p : Nat → Int32} (hp : ∀ s, s < ns → p s = c) : Rd ns A B L c 0 p 0 := by
  refine ⟨fun _ => none, fun _ => False, ?_, fun s t e => (by cases e), fun z hz => hz.elim, hp, fun s _ e => (by cases e), fun s hs => absurd hs (Nat.not_lt_zero _)⟩
  have : ∀ n, fa_cnt (fun s => A s && ((fun _ => none : Nat → Option Nat) s).isSome) n = 0 := by
    intro n
    induction n with
    | zero => rfl
    | succ n ih => rw [fa_cnt_no (by simp), ih]
  unfold nA
  rw [this]; rfl
theorem rd_skip {ns : Nat} {A B : Nat → Bool} {L : Nat → Nat → Prop} {c : Int32} {i : Nat} {p : Nat → Int32} {x : Int32} (h : Rd ns A B L c i p x) (ha : ¬ A i = true) : Rd ns A B L c (i + 1) p x := by
  obtain ⟨f, Z, h1, h2, h3, h4, h5, h6⟩ := h
  refine ⟨f, Z, h1, h2, h3, h4, fun s a e => Nat.lt_succ_of_lt (h5 s a e), fun s hs a e => ?_⟩
  by_cases q : s = i
  · subst q; exact absurd a ha
  · exact h6 s (by omega) a e
theorem rd_aug {ns : Nat} {A B : Nat → Bool} {L : Nat → Nat → Prop} {c : Int32} {i : Nat} {p' : Nat → Int32} {f : Nat → Option Nat} {Z : Nat → Prop} (hi : i < ns) (ai : A i = true) (h5 : ∀ s, A s = true → (f s).isSome = true → s < i) (h6 : ∀ s, s < i → A s = true → f s = none → Z s) (h : Aug ns A B L f Z i c p') : Rd ns A B L c (i + 1) p' (nI (nA ns A f) + 1) := by
  obtain ⟨g, g1, g2, g3, g4⟩ := h
  have fi : (f i).isSome = false := by
    cases e : (f i).isSome
    · rfl
    · have := h5 i ai e; omega
  refine ⟨g, Z, ?_, g1, g2, g3, fun s a e => ?_, fun s hs a e => ?_⟩
  · rw [nI_1]
    congr 1
    unfold nA
    refine (cnt_set (x := i) (by simp [fi]) (by simp [ai, g4 i ai]) (fun y hy => ?_) hi).symm
    cases hA : A y
    · simp
    · simp [g4 y hA, hy]
  · rw [g4 s a] at e
    by_cases q : s = i
    · omega
    · simp [q] at e
      have := h5 s a e
      omega
  · have e2 := g4 s a
    rw [e] at e2
    by_cases q : s = i
    · subst q; simp at e2
    · simp [q] at e2
      exact h6 s (by omega) a e2
theorem rd_most {ns : Nat} {A B : Nat → Bool} {L : Nat → Nat → Prop} {c : Int32} {p : Nat → Int32} {x : Int32} (hd : ∀ x, A x = true → B x = true → False) (h : Rd ns A B L c ns p x) : ∃ n, x = nI n ∧ n ≤ ns ∧ Most ns A B L n := by
  obtain ⟨f, Z, h1, h2, h3, h4, h5, h6⟩ := h
  exact ⟨nA ns A f, h1, fa_cnt_le _ _, ⟨f, h2, rfl⟩, fun f2 hf => mg_most hd h2 h3 h6 hf⟩
theorem countPairs_ok {ns : Nat} {near times a b : Int32} {hand match_ end_ minute sum : Nat → Int32} (D : SD ns near times minute sum) (hab : a ≠ b) (pa0 rf0 wt0 : Nat → Int32) :
    Ok (t_X0_countPairs (nI ns) near times end_ hand match_ minute pa0 rf0 sum wt0 a b) (fun v => ∃ n, v.1 = nI n ∧ n ≤ ns ∧ Most ns (hnd hand a) (hnd hand b) (alP near times match_ end_ minute sum) n) := by
  have hns : ns ≤ 40 := D.1
  have hd := hnd_d (hand := hand) hab
  unfold t_X0_countPairs
  rw [fill_ok (by decide), bd1_s]
  refine lr_X0_countPairs_13 _ (fun i c ne ti e h m mi p rf su wt x1 x2 x3 x4 => nI ns = c ∧ near = ne ∧ times = ti ∧ end_ = e ∧ hand = h ∧ match_ = m ∧ minute = mi ∧ sum = su ∧ a = x1 ∧ b = x2 ∧ x4 = nI i ∧ Rd ns (hnd hand a) (hnd hand b) (alP near times match_ end_ minute sum) (-1) i p x3) ns ?_ ?_ lfuel 0 _ _ _ _ _ _ _ _ _ _ _ _ _ _ _ (Nat.zero_le _) (by unfold lfuel; omega) ?_
  · rintro kk i c ne ti e h m mi p rf su wt x1 x2 x3 x4 hi ⟨d1, d2, d3, d4, d5, d6, d7, d8, d9, d10, d11, d12⟩ hk
    subst d1 d2 d3 d4 d5 d6 d7 d8 d9 d10 d11
    unfold t_X0_countPairs_13_b t_X0_countPairs_57
    rw [nI_clamp (by omega), ckn_m (by omega) (by decide)]
    refine Ok.neg (nI_ge hi (by omega)) (Ok.ite (fun h1 => ?_) (fun h1 => ?_))
    · obtain ⟨f, Z, e1, e2, e3, e4, e5, e6⟩ := id d12
      subst e1
      have fi : f i = none := by
        cases e : f i with
        | none => rfl
        | some s => have := e5 i (hnd_t.mpr h1) (by rw [e]; rfl); omega
      refine Ok.bd3 (seekFree_ok D hab e2 e3 hi h1 fi e4 rf wt) (fun u0 u1 u2 hu => ?_)
      rcases hu with ⟨q1, Z', q2, q3, q4⟩ | ⟨j, r, q, k0, q0, q1, q2, q3, q4, q5⟩
      · simp only at q1
        subst q1
        refine Ok.pos rfl ?_
        apply hk
        refine ⟨rfl, rfl, rfl, rfl, rfl, rfl, rfl, rfl, rfl, rfl, nI_1 i, f, Z', rfl, e2, q2, e4, fun s a e => Nat.lt_succ_of_lt (e5 s a e), fun s hs a e => ?_⟩
        by_cases w : s = i
        · subst w; exact q4
        · exact q3 s (e6 s (by omega) a e)
      · simp only at q1 q3
        subst q1
        refine Ok.neg (nI_m1 (by omega)) (Ok.bd1 (pairUp_ok hns hd e2 fi e4 q2 q3 q4 q5) (fun u hu => ?_))
        apply hk
        exact ⟨rfl, rfl, rfl, rfl, rfl, rfl, rfl, rfl, rfl, rfl, nI_1 i, rd_aug hi (hnd_t.mpr h1) e5 e6 hu⟩
    · apply hk
      exact ⟨rfl, rfl, rfl, rfl, rfl, rfl, rfl, rfl, rfl, rfl, nI_1 i, rd_skip d12 (fun q => h1 (hnd_t.mp q))⟩
  · rintro kk c ne ti e h m mi p rf su wt x1 x2 x3 x4 ⟨d1, d2, d3, d4, d5, d6, d7, d8, d9, d10, d11, d12⟩
    subst d1 d2 d3 d4 d5 d6 d7 d8 d9 d10 d11
    unfold t_X0_countPairs_13_b
    exact Ok.pos (nI_le (Nat.le_refl _) (by omega)) (Ok.ret (rd_most hd d12))
  · refine ⟨rfl, rfl, rfl, rfl, rfl, rfl, rfl, rfl, rfl, rfl, rfl, rd_0 (fun s hs => ?_)⟩
    show (if s < 40 then (-1 : Int32) else pa0 s) = -1
    rw [if_pos (by omega)]
theorem pairsOf_ok {ns : Nat} {near times a b : Int32} {hand match_ end_ minute sum told : Nat → Int32} (D : SD ns near times minute sum) (k1 : told 1 = near) (k2 : told 2 = times) (hab : a ≠ b) (pa0 rf0 wt0 : Nat → Int32) :
    Ok (t_X11_pairsOf (nI ns) rf0 pa0 wt0 end_ hand match_ minute sum told a b) (fun v => ∃ n, v.1 = nI n ∧ n ≤ ns ∧ Most ns (hnd hand a) (hnd hand b) (alP near times match_ end_ minute sum) n) := by
  have hns : ns ≤ 40 := D.1
  have hd := hnd_d (hand := hand) hab
  unfold t_X11_pairsOf
  refine lr_X11_pairsOf_2 _ (fun i c rf p wt e h m mi su to x1 x2 x3 => nI ns = c ∧ end_ = e ∧ hand = h ∧ match_ = m ∧ minute = mi ∧ sum = su ∧ told = to ∧ a = x1 ∧ b = x2 ∧ x3 = nI i ∧ ∀ k, k < i → p k = -6) ns ?_ ?_ lfuel 0 _ _ _ _ _ _ _ _ _ _ _ _ _ (Nat.zero_le _) (by unfold lfuel; omega) ?_
  · rintro kk i c rf p wt e h m mi su to x1 x2 x3 hi ⟨d1, d2, d3, d4, d5, d6, d7, d8, d9, d10, d11⟩ hk
    subst d1 d2 d3 d4 d5 d6 d7 d8 d9 d10
    unfold t_X11_pairsOf_2_b
    rw [nI_clamp (by omega), ckn_m (by omega) (by decide)]
    refine Ok.neg (nI_ge hi (by omega)) ?_
    apply hk
    refine ⟨rfl, rfl, rfl, rfl, rfl, rfl, rfl, rfl, rfl, nI_1 i, fun k hk => ?_⟩
    by_cases e : k = i
    · subst e; exact pk_us
    · rw [pk_un e]; exact d11 k (by omega)
  · rintro kk0 c rf p wt e h m mi su to x1 x2 x3 ⟨d1, d2, d3, d4, d5, d6, d7, d8, d9, d10, d11⟩
    subst d1 d2 d3 d4 d5 d6 d7 d8 d9 d10
    unfold t_X11_pairsOf_2_b t_X11_pairsOf_24
    refine Ok.pos (nI_le (Nat.le_refl _) (by omega)) ?_
    refine lr_X11_pairsOf_29 _ (fun i c rf p wt e h m mi su to x1 x2 x3 x4 => nI ns = c ∧ end_ = e ∧ hand = h ∧ match_ = m ∧ minute = mi ∧ sum = su ∧ told = to ∧ a = x1 ∧ b = x2 ∧ x4 = nI i ∧ Rd ns (hnd hand a) (hnd hand b) (alP near times match_ end_ minute sum) (-6) i p x3) ns ?_ ?_ lfuel 0 _ _ _ _ _ _ _ _ _ _ _ _ _ _ (Nat.zero_le _) (by unfold lfuel; omega) ?_
    · clear d11
      rintro kk i c rf p wt e h m mi su to x1 x2 x3 x4 hi ⟨d1, d2, d3, d4, d5, d6, d7, d8, d9, d10, d11⟩ hk
      subst d1 d2 d3 d4 d5 d6 d7 d8 d9 d10
      unfold t_X11_pairsOf_29_b t_X11_pairsOf_64 t_X11_pairsOf_65
      rw [nI_clamp (by omega), ckn_m (by omega) (by decide)]
      refine Ok.neg (nI_ge hi (by omega)) (Ok.ite (fun h1 => ?_) (fun h1 => ?_))
      · obtain ⟨f, Z, e1, e2, e3, e4, e5, e6⟩ := id d11
        subst e1
        have fi : f i = none := by
          cases e : f i with
          | none => rfl
          | some s => have := e5 i (hnd_t.mpr h1) (by rw [e]; rfl); omega
        refine Ok.bd4 (pairs_ok D k1 k2 hab e2 e3 hi h1 fi e4 rf wt) (fun u0 u1 u2 u3 hu => ?_)
        rcases hu with ⟨q1, q0, Z', q2, q3, q4⟩ | ⟨q1, q2⟩
        · simp only at q1 q0
          subst q1
          refine Ok.pos rfl ?_
          apply hk
          refine ⟨rfl, rfl, rfl, rfl, rfl, rfl, rfl, rfl, rfl, nI_1 i, f, Z', Int32.add_zero _, e2, q2, q0, fun s a e => Nat.lt_succ_of_lt (e5 s a e), fun s hs a e => ?_⟩
          by_cases w : s = i
          · subst w; exact q4
          · exact q3 s (e6 s (by omega) a e)
        · simp only at q1 q2
          subst q1
          refine Ok.neg (by decide) ?_
          apply hk
          exact ⟨rfl, rfl, rfl, rfl, rfl, rfl, rfl, rfl, rfl, nI_1 i, rd_aug hi (hnd_t.mpr h1) e5 e6 q2⟩
      · apply hk
        refine ⟨rfl, rfl, rfl, rfl, rfl, rfl, rfl, rfl, rfl, nI_1 i, ?_⟩
        rw [Int32.add_zero]
        exact rd_skip d11 (fun q => h1 (hnd_t.mp q))
    · clear d11
      rintro kk c rf p wt e h m mi su to x1 x2 x3 x4 ⟨d1, d2, d3, d4, d5, d6, d7, d8, d9, d10, d11⟩
      subst d1 d2 d3 d4 d5 d6 d7 d8 d9 d10
      unfold t_X11_pairsOf_29_b
      exact Ok.pos (nI_le (Nat.le_refl _) (by omega)) (Ok.ret (rd_most hd d11))
    · exact ⟨rfl, rfl, rfl, rfl, rfl, rfl, rfl, rfl, rfl, rfl, rd_0 d11⟩
  · exact ⟨rfl, rfl, rfl, rfl, rfl, rfl, rfl, rfl, rfl, rfl, fun k hk => absurd hk (Nat.not_lt_zero k)⟩
-- one number for each two hands
def MX (ns : Nat) (near times : Int32) (hand match_ end_ minute sum : Nat → Int32) (mx : Int32 → Int32 → Nat) : Prop := ∀ a b, a ≠ b → mx a b ≤ ns ∧ mx a b = mx b a ∧ (∀ pa0 rf0 wt0, Ok (t_X0_countPairs (nI ns) near times end_ hand match_ minute pa0 rf0 sum wt0 a b) (fun v => v.1 = nI (mx a b))) ∧ ∀ told : Nat → Int32, told 1 = near → told 2 = times → ∀ pa0 rf0 wt0, Ok (t_X11_pairsOf (nI ns) rf0 pa0 wt0 end_ hand match_ minute sum told a b) (fun v => v.1 = nI (mx a b))
theorem mx_ex {ns : Nat} {near times : Int32} {minute sum : Nat → Int32} (hand match_ end_ : Nat → Int32) (D : SD ns near times minute sum) : ∃ mx : Int32 → Int32 → Nat, MX ns near times hand match_ end_ minute sum mx := by
  have ex : ∀ a b, ∃ n, a ≠ b → n ≤ ns ∧ Most ns (hnd hand a) (hnd hand b) (alP near times match_ end_ minute sum) n := by
    intro a b
    by_cases hab : a = b
    · exact ⟨0, fun h => absurd hab h⟩
    · obtain ⟨v, _, n, _, h1, h2⟩ := countPairs_ok (hand := hand) (match_ := match_) (end_ := end_) D hab (fun _ => 0) (fun _ => 0) (fun _ => 0)
      exact ⟨n, fun _ => ⟨h1, h2⟩⟩
  refine ⟨fun a b => Classical.choose (ex a b), fun a b hab => ?_⟩
  have h1 := Classical.choose_spec (ex a b) hab
  have h2 := Classical.choose_spec (ex b a) (fun e => hab e.symm)
  refine ⟨h1.1, h1.2.uniq (h2.2.turn (hnd_d (fun e => hab e.symm)) alP.symm), fun pa0 rf0 wt0 => ?_, fun told k1 k2 pa0 rf0 wt0 => ?_⟩
  · refine (countPairs_ok D hab pa0 rf0 wt0).mono (fun v hv => ?_)
    obtain ⟨n, e, _, h3⟩ := hv
    rw [e, h3.uniq h1.2]
  · refine (pairsOf_ok D k1 k2 hab pa0 rf0 wt0).mono (fun v hv => ?_)
    obtain ⟨n, e, _, h3⟩ := hv
    rw [e, h3.uniq h1.2]
