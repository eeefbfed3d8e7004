/-! operations, store, calls, returns -/
theorem rck_ex {o : Nat} (h1 : 13 ≤ o) (h2 : o ≤ 21) (a b : Int32) (hz : ¬ (b = 0 ∧ (o = 20 ∨ o = 21))) : ∃ r, (∀ n g, f55 n (nI o) a b g = some (.inl (some (.int r)), g)) ∧ (∀ n g, f145 n (nI (o - 1)) a b g = some (.inl (some (.int r)), g)) := by
  have h3 : o = 13 ∨ o = 14 ∨ o = 15 ∨ o = 16 ∨ o = 17 ∨ o = 18 ∨ o = 19 ∨ o = 20 ∨ o = 21 := by omega
  rcases h3 with rfl | rfl | rfl | rfl | rfl | rfl | rfl | rfl | rfl
  · by_cases h : a = b
    · exact ⟨1, fun n g => by unfold f55; simp (decide := true) [h], fun n g => by unfold f145 f145_58 f146; simp (decide := true) [h, m_ci]⟩
    · exact ⟨0, fun n g => by unfold f55; simp (decide := true) [h], fun n g => by unfold f145 f145_58 f146; simp (decide := true) [h, m_ci]⟩
  · by_cases h : a = b
    · exact ⟨0, fun n g => by unfold f55; simp (decide := true) [h], fun n g => by unfold f145 f145_72 f146; simp (decide := true) [h, m_ci]⟩
    · exact ⟨1, fun n g => by unfold f55; simp (decide := true) [h], fun n g => by unfold f145 f145_72 f146; simp (decide := true) [h, m_ci]⟩
  · by_cases h : b ≤ a
    · exact ⟨0, fun n g => by unfold f55; simp (decide := true) only [reduceIte, h], fun n g => by unfold f145 f145_86 f146; simp (decide := true) only [reduceIte, h, m_ci]⟩
    · exact ⟨1, fun n g => by unfold f55; simp (decide := true) only [reduceIte, h], fun n g => by unfold f145 f145_86 f146; simp (decide := true) only [reduceIte, h, m_ci]⟩
  · by_cases h : b < a
    · exact ⟨0, fun n g => by unfold f55; simp (decide := true) only [reduceIte, h], fun n g => by unfold f145 f145_100 f146; simp (decide := true) only [reduceIte, h, m_ci]⟩
    · exact ⟨1, fun n g => by unfold f55; simp (decide := true) only [reduceIte, h], fun n g => by unfold f145 f145_100 f146; simp (decide := true) only [reduceIte, h, m_ci]⟩
  · exact ⟨a + b, fun n g => by unfold f55; simp (decide := true) only [reduceIte], fun n g => by unfold f145; simp (decide := true) only [reduceIte]⟩
  · exact ⟨a - b, fun n g => by unfold f55; simp (decide := true) only [reduceIte], fun n g => by unfold f145; simp (decide := true) only [reduceIte]⟩
  · exact ⟨a * b, fun n g => by unfold f55; simp (decide := true) only [reduceIte], fun n g => by unfold f145; simp (decide := true) only [reduceIte]⟩
  · have hb : ¬ b = 0 := fun z => hz ⟨z, Or.inl rfl⟩
    exact ⟨a / b, fun n g => by unfold f55; simp (decide := true) only [reduceIte, hb, not_false_eq_true], fun n g => by unfold f145; simp (decide := true) only [reduceIte, hb]⟩
  · have hb : ¬ b = 0 := fun z => hz ⟨z, Or.inr rfl⟩
    exact ⟨a - a / b * b, fun n g => by unfold f55; simp (decide := true) only [reduceIte, hb, not_false_eq_true], fun n g => by unfold f145; simp (decide := true) only [reduceIte, hb]⟩
section Steps2
variable {n m q t k p c s : Nat} {C : Nat → Nat → Int32} {ht rk B : Nat → Nat} {g gm : mG}
theorem f49_op {o : Nat} (h1 : 13 ≤ o) (h2 : o ≤ 21) {x : Int32} : f49 n (nI o) x g = m_cv (f54 n (nI o) g) (fun g' => some (.inl none, g')) := by
  have h3 : o = 13 ∨ o = 14 ∨ o = 15 ∨ o = 16 ∨ o = 17 ∨ o = 18 ∨ o = 19 ∨ o = 20 ∨ o = 21 := by omega
  rcases h3 with rfl | rfl | rfl | rfl | rfl | rfl | rfl | rfl | rfl <;> (unfold f49; simp (decide := true) only [reduceIte])
theorem s_op {o : Nat} (h : VP C m q ht rk B g gm t k p c s) (h1 : C 0 p = nI o) (ho1 : 13 ≤ o) (ho2 : o ≤ 21) (h3 : C 7 p = nI (o - 1)) (h2 : C 6 p = 4) (h4 : p + 1 < m) (h5 : ht p = ht (p + 1) + 1) (h6 : 1 ≤ ht (p + 1)) {w : Nat} (hw : w ≠ 0) : SR C m q ht rk g gm p c w (f49 n (C 0 p) (C 1 p) g) (f144 n (nI p) gm) := by
  have hb := h.tb
  have hT := h.tt
  obtain ⟨t, rfl⟩ := h.ge (d := 2) (by omega)
  have hS := h.2.2.1
  have hK := h.2.2.2.2.2.1
  have q1 := hS.2.2 (t + 1) (by omega)
  have q2 := hS.2.2 t (by omega)
  have h20 : nI (o - 1) = 19 ↔ o = 20 := by rw [show (19 : Int32) = nI 19 from rfl, nI_eq (by omega) (by omega)]; omega
  have h21 : nI (o - 1) = 20 ↔ o = 21 := by rw [show (20 : Int32) = nI 20 from rfl, nI_eq (by omega) (by omega)]; omega
  have g20 : nI o = 20 ↔ o = 20 := by rw [show (20 : Int32) = nI 20 from rfl, nI_eq (by omega) (by omega)]
  have g21 : nI o = 21 ↔ o = 21 := by rw [show (21 : Int32) = nI 21 from rfl, nI_eq (by omega) (by omega)]
  have e1 : f49 n (C 0 p) (C 1 p) g = m_cv (f54 n (nI o) g) (fun g' => some (.inl none, g')) := by rw [h1]; exact f49_op ho1 ho2
  rw [e1, h.m144, h2, h3]
  unfold f54 f144B
  rw [c46 (t := t + 1) hS.1 (by omega)]
  simp (decide := true) only [reduceIte, m_ci]
  rw [c46 (t := t) (by simp [rI]) (by omega), m142 (t := t + 1) hS.2.1 (by omega)]
  simp only []
  rw [m142 (t := t) (by simp [rI]) (by omega)]
  simp only [rI2, ← q1, ← q2, h20, h21, g20, g21]
  by_cases hz : g.2.1 25 (t + 1) = 0 ∧ (o = 20 ∨ o = 21)
  · have ec : ∀ y z : mZ, (if ¬ g.2.1 25 (t + 1) = 0 then y else if o = 20 then f54_26 n (gI (gI g 14 (nI (t + 1))) 14 (nI t)) else if ¬ o = 21 then z else f54_26 n (gI (gI g 14 (nI (t + 1))) 14 (nI t))) = f54_26 n (gI (gI g 14 (nI (t + 1))) 14 (nI t)) := by
      intro y z
      rw [if_neg (fun e => e hz.1)]
      rcases hz.2 with e | e <;> simp [e]
    have em : ∀ y z : mZ, (if ¬ g.2.1 25 (t + 1) = 0 then y else if o = 20 then some (.inl (some (.int (-2))), gI (gI gm 41 (nI (t + 1))) 41 (nI t)) else if ¬ o = 21 then z else some (.inl (some (.int (-2))), gI (gI gm 41 (nI (t + 1))) 41 (nI t))) = (some (.inl (some (.int (-2))), gI (gI gm 41 (nI (t + 1))) 41 (nI t)) : mZ) := by
      intro y z
      rw [if_neg (fun e => e hz.1)]
      rcases hz.2 with e | e <;> simp [e]
    rw [ec, em]
    unfold f54_26
    exact ⟨_, _, rfl, ((Chg.i 14 _ (by simp)).tr (Chg.i 14 _ (by simp))).tr (Chg.i 17 _ (by simp)), Chg.m (S := SM) (A := AM) ((Chg.i 41 _ (by simp)).tr (Chg.i 41 _ (by simp))) (by simp) (by simp), (fun z => by simp [rI, z]), hK.2.2.2.1, hK.2.2.2.2.1, Or.inr (Or.inl ⟨rfl, by simp [rI]⟩)⟩
  · obtain ⟨r, r1, r2⟩ := rck_ex ho1 ho2 (g.2.1 25 t) (g.2.1 25 (t + 1)) hz
    have ec : ∀ (a b : mZ), (if ¬ g.2.1 25 (t + 1) = 0 then a else if o = 20 then b else if ¬ o = 21 then a else b) = a := by
      intro a b
      by_cases h0 : g.2.1 25 (t + 1) = 0
      · have h7 : ¬ o = 20 := fun e => hz ⟨h0, Or.inl e⟩
        have h8 : ¬ o = 21 := fun e => hz ⟨h0, Or.inr e⟩
        rw [if_neg (fun e => e h0), if_neg h7, if_pos h8]
      · rw [if_pos h0]
    rw [ec, ec]
    unfold f54_34 f144_181
    rw [r1, r2]
    simp only [m_ci]
    rw [c44 (t := t) (by simp [rI]) (by omega), m140 (t := t) (by simp [rI]) (by omega)]
    simp only [m_cv, nI_1]
    refine h.on rfl rfl ((((Chg.i 14 _ (by simp)).tr (Chg.i 14 _ (by simp))).tr (Chg.s 25 _ (by simp))).tr (Chg.i 14 _ (by simp))) ((((Chg.i 41 _ (by simp)).tr (Chg.i 41 _ (by simp))).tr (Chg.s 53 _ (by simp))).tr (Chg.i 41 _ (by simp))) (t' := t + 1) ?_ (by simp [rI, rS1, h.pc]) h4 (by omega) (fun z => absurd z hw) (Or.inl (by simp [rI, rS1]))
    have hS1 : VS (gI g 14 (nI (t + 1))) (gI gm 41 (nI (t + 1))) (t + 1) := hS.pop (by simp [rI]) (by simp [rI]) rfl rfl
    have hS2 : VS (gI (gI g 14 (nI (t + 1))) 14 (nI t)) (gI (gI gm 41 (nI (t + 1))) 41 (nI t)) t := hS1.pop (by simp [rI]) (by simp [rI]) rfl rfl
    exact hS2.push (v := r) (by simp [rI]) (by simp [rI]) (by simp [rI2, rS]) (by simp [rI2, rS])
theorem s_store (hn : 40 ≤ n) (h : VP C m q ht rk B g gm t k p c s) (h1 : C 0 p = 27) (h2 : C 6 p = 10) (h4 : p + 1 < m) (h5 : ht p = ht (p + 1) + 2) {w : Nat} (hw : w ≠ 0) : SR C m q ht rk g gm p c w (f49 n (C 0 p) (C 1 p) g) (f144 n (nI p) gm) := by
  have hb := h.tb
  have hT := h.tt
  obtain ⟨t, rfl⟩ := h.ge (d := 2) (by omega)
  obtain ⟨hC, hA, hS, hV, hF, hK, h16, h18, hc, hp, -⟩ := id h
  obtain ⟨k1, k2, k3, k4, k5, k6⟩ := id hK
  have q1 := hS.2.2 (t + 1) (by omega)
  have q2 := hS.2.2 t (by omega)
  have hS1 : VS (gI g 14 (nI (t + 1))) (gI gm 41 (nI (t + 1))) (t + 1) := hS.pop (by simp [rI]) (by simp [rI]) rfl rfl
  have hS2 : VS (gI (gI g 14 (nI (t + 1))) 14 (nI t)) (gI (gI gm 41 (nI (t + 1))) 41 (nI t)) t := hS1.pop (by simp [rI]) (by simp [rI]) rfl rfl
  obtain ⟨a, K', V', s', hst⟩ := stw_ex (g.2.1 28) (g.2.1 29) k3 (g.2.1 25 t) (g.2.1 25 (t + 1))
  obtain ⟨s3, s4⟩ := stw_ok hst k3 k6
  obtain ⟨ga, a1, a2, a3, a4, a5⟩ := c59 (n := n) (g := gI (gI g 14 (nI (t + 1))) 14 (nI t)) (s := s) hn (by simp [rI, k1]) k3 k6 hst
  obtain ⟨gb, b1, b2, b3, b4, b5⟩ := m147 (n := n) (g := gI (gI gm 41 (nI (t + 1))) 41 (nI t)) (s := s) (s' := s') (key := g.2.1 25 t) (w := g.2.1 25 (t + 1)) (a := a) (K' := K') (V' := V') hn (by simp [rI, k2]) k3 (by simp only [rI2]; rw [← k4]; exact k6) (by simp only [rI2]; rw [← k4, ← k5]; exact hst)
  have g1 : Chg SC AC g ga := ((Chg.i 14 _ (by simp)).tr (Chg.i 14 _ (by simp))).tr (a5.mono (by simp) (by simp))
  have g2 : ChgM SM AM gm gb := Chg.m (S := SM) (A := AM) (((Chg.i 41 _ (by simp)).tr (Chg.i 41 _ (by simp))).tr (b5.mono (by simp) (by simp))) (by simp) (by simp)
  have ec : f49 n (C 0 p) (C 1 p) g = (if ¬ a = 0 then some (.inl none, ga) else some (.inl none, gI ga 17 1)) := by
    rw [h1]; unfold f49; simp (decide := true) only [reduceIte]
    unfold f51
    rw [c46 (t := t + 1) hS.1 (by omega)]
    simp only [m_ci]
    rw [c46 (t := t) (by simp [rI]) (by omega)]
    simp only [rI2, a1]
    by_cases ha : a = 0 <;> simp [ha, m_cv]
  have em : f144 n (nI p) gm = (if ¬ a = 0 then some (.inl (some (.int (nI (p + 1)))), gb) else some (.inl (some (.int (-2))), gb)) := by
    rw [h.m144, h2]; unfold f144B; simp (decide := true) only [reduceIte]
    rw [m142 (t := t + 1) hS.2.1 (by omega)]
    simp only [m_ci]
    rw [m142 (t := t) (by simp [rI]) (by omega)]
    simp only [rI2, ← q1, ← q2, b1, nI_1]
  rw [ec, em]
  by_cases ha : a = 0
  · rw [if_neg (fun z => z ha), if_neg (fun z => z ha)]
    exact ⟨_, _, rfl, g1.tr (Chg.i 17 _ (by simp)), g2, (fun z => by rw [b5.1 24 (by simp)]; simp [rI, z]), by rw [rI2, a3, b3], by rw [rI2, a4, b4], Or.inr (Or.inl ⟨rfl, by simp [rI]⟩)⟩
  · rw [if_pos ha, if_pos ha]
    refine ⟨_, _, rfl, g1, g2, (fun z => by rw [b5.1 24 (by simp)]; simp [rI, z]), by rw [a3, b3], by rw [a4, b4], Or.inl ⟨p + 1, t, k, s', B, rfl, ⟨hA.kp g1 g2, hS2.kp (a5.1 14 (by simp)) (b5.1 41 (by simp)) (a5.2.1 25 (by simp)) (b5.2.1 53 (by simp)), hV.kp (by rw [a5.2.1 26 (by simp)]; rfl) (by rw [b5.2.1 55 (by simp)]; rfl), hF.kp (by rw [a5.1 15 (by simp)]; simp [rI]) (by rw [b5.1 42 (by simp)]; simp [rI]) (by rw [a5.2.1 27 (by simp)]; rfl) (by rw [b5.2.1 54 (by simp)]; rfl), ⟨a2, b2, s3, by rw [a3, b3], by rw [a4, b4], by rw [a3]; exact s4⟩, ?_, ?_, ?_, h4, by omega⟩, ?_, fun z => absurd z hw⟩⟩
    · rw [a5.1 16 (by simp)]; simp [rI, h16]
    · rw [a5.1 18 (by simp)]; simp [rI, h18]
    · rw [b5.2.2]; exact hc
    · rw [a5.1 17 (by simp)]; simp [rI]
end Steps2
