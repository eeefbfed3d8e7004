/-! put, end, result, load, stored: class and reference -/
/-- the four signs of a put -/
def p4 (x : Int32) (q : (Nat → Int32) × Nat) : (Nat → Int32) × Nat := ad1 (bt x (nI (8 * 3))) (ad1 (bt x (nI (8 * 2))) (ad1 (bt x (nI (8 * 1))) (ad1 (bt x (nI (8 * 0))) q)))
def c4 (x : Int32) : Nat := cnt (bt x (nI (8 * 0))) + cnt (bt x (nI (8 * 1))) + cnt (bt x (nI (8 * 2))) + cnt (bt x (nI (8 * 3)))
def bad4 (x : Int32) : Prop := ¬ bt x (nI (8 * 0)) ≤ 127 ∨ ¬ bt x (nI (8 * 1)) ≤ 127 ∨ ¬ bt x (nI (8 * 2)) ≤ 127 ∨ ¬ bt x (nI (8 * 3)) ≤ 127
theorem cnt_le (b : Int32) : cnt b ≤ 1 := by unfold cnt; split <;> omega
theorem p4_2 (x : Int32) (q : (Nat → Int32) × Nat) : (p4 x q).2 = q.2 + c4 x := by
  simp only [p4, c4, ad1_2]; omega
theorem c80 {n N : Nat} {x : Int32} {g : mG} (hn : 5 ≤ n) (hN : g.1 0 = nI N) (hN6 : N ≤ 600) :
    (bad4 x ∧ f80 n x g = some (.inr 1, g)) ∨ (¬ bad4 x ∧ 600 < N + c4 x ∧ f80 n x g = some (.inr 2, g)) ∨
    (¬ bad4 x ∧ N + c4 x ≤ 600 ∧ ∃ g', f80 n x g = some (.inl (some (.int (nI (p4 x (g.2.1 8, N)).2))), g') ∧ g'.1 0 = nI (p4 x (g.2.1 8, N)).2 ∧ g'.2.1 8 = (p4 x (g.2.1 8, N)).1 ∧ Chg [0] [8] g g') := by
  obtain ⟨c, rfl⟩ : ∃ c, n = c + 5 := ⟨n - 5, by omega⟩
  have e0 : f80 (c + 5) x g = f80_4 (c + 5) (c + 4 + 1) x (nI 0) (nI (8 * 0)) g := rfl
  have k0 := cnt_le (bt x (nI (8 * 0))); have k1 := cnt_le (bt x (nI (8 * 1))); have k2 := cnt_le (bt x (nI (8 * 2))); have k3 := cnt_le (bt x (nI (8 * 3)))
  rw [e0, c80_s (by omega)]
  by_cases h0 : bt x (nI (8 * 0)) ≤ 127
  · rw [if_pos h0, show c + 4 = c + 3 + 1 from rfl, c80_s (by omega)]
    by_cases h1 : bt x (nI (8 * 1)) ≤ 127
    · rw [if_pos h1, show c + 3 = c + 2 + 1 from rfl, c80_s (by omega)]
      by_cases h2 : bt x (nI (8 * 2)) ≤ 127
      · rw [if_pos h2, show c + 2 = c + 1 + 1 from rfl, c80_s (by omega)]
        by_cases h3 : bt x (nI (8 * 3)) ≤ 127
        · have hb : ¬ bad4 x := by unfold bad4; simp only [h0, h1, h2, h3, not_true, or_self, not_false_eq_true]
          have hm : 0 + cnt (bt x (nI (8 * 0))) + cnt (bt x (nI (8 * 1))) + cnt (bt x (nI (8 * 2))) + cnt (bt x (nI (8 * 3))) = c4 x := by unfold c4; omega
          rw [if_pos h3, show (8 * (3 + 1)) = 32 from rfl, c80_e, hm, hN, nI_add]
          have hc4 : c4 x ≤ 4 := by unfold c4; omega
          by_cases h4 : N + c4 x ≤ 600
          · rw [if_pos (show nI (N + c4 x) ≤ (600 : Int32) from nI_le (b := 600) h4 (by decide))]
            refine Or.inr (Or.inr ⟨hb, h4, ?_⟩)
            unfold c4 at h4
            obtain ⟨g1, a1, a2, a3, a4⟩ := c80_t (n := c + 5) (c := c + 4) (x := x) (k := 0) (g := g) (by omega) hN (by omega)
            obtain ⟨g2, b1, b2, b3, b4⟩ := c80_t (n := c + 5) (c := c + 3) (x := x) (k := 1) (g := g1) (by omega) a2 (by rw [ad1_2]; simp only []; omega)
            obtain ⟨g3, d1, d2, d3, d4⟩ := c80_t (n := c + 5) (c := c + 2) (x := x) (k := 2) (g := g2) (by omega) b2 (by rw [ad1_2, a3, ad1_2]; simp only []; omega)
            obtain ⟨g4, q1, q2, q3, q4⟩ := c80_t (n := c + 5) (c := c + 1) (x := x) (k := 3) (g := g3) (by omega) d2 (by rw [ad1_2, b3, a3, ad1_2, ad1_2]; simp only []; omega)
            have e9 : f80_74 (c + 5) (c + 1) x (nI (8 * (3 + 1))) g4 = some (.inl (some (.int (g4.1 0))), g4) := by
              rw [f80_74, if_pos (show (32 : Int32) ≤ nI (8 * (3 + 1)) by decide)]
            have ep : ad1 (bt x (nI (8 * 3))) (g3.2.1 8, (ad1 (bt x (nI (8 * 2))) (g2.2.1 8, (ad1 (bt x (nI (8 * 1))) (g1.2.1 8, (ad1 (bt x (nI (8 * 0))) (g.2.1 8, N)).2)).2)).2) = p4 x (g.2.1 8, N) := by
              rw [d3, b3, a3]; rfl
            rw [ep] at q2 q3
            refine ⟨g4, ?_, q2, q3, ((a4.tr b4).tr d4).tr q4⟩
            show f80_74 (c + 5) (c + 4 + 1) x (nI (8 * 0)) g = _
            rw [a1]
            show f80_74 (c + 5) (c + 3 + 1) x (nI (8 * 1)) g1 = _
            rw [b1]
            show f80_74 (c + 5) (c + 2 + 1) x (nI (8 * 2)) g2 = _
            rw [d1]
            show f80_74 (c + 5) (c + 1 + 1) x (nI (8 * 3)) g3 = _
            rw [q1, e9, q2]
          · rw [if_neg (show ¬ nI (N + c4 x) ≤ (600 : Int32) from nI_ge (a := 600) (b := N + c4 x) (by omega) (by omega))]
            exact Or.inr (Or.inl ⟨hb, by omega, rfl⟩)
        · rw [if_neg h3]
          exact Or.inl ⟨Or.inr (Or.inr (Or.inr h3)), rfl⟩
      · rw [if_neg h2]
        exact Or.inl ⟨Or.inr (Or.inr (Or.inl h2)), rfl⟩
    · rw [if_neg h1]
      exact Or.inl ⟨Or.inr (Or.inl h1), rfl⟩
  · rw [if_neg h0]
    exact Or.inl ⟨Or.inl h0, rfl⟩
theorem m88 {n : Nat} {a b d : Int32} {g : mG} : f88 n a b d g = some (.inl (some (.int (if a = 0 ∧ b = 0 ∧ d = 0 then 0 else 1))), gI g 24 (if a = 0 then if b = 0 then if d = 0 then 0 else 3 else 2 else 1)) := by
  unfold f88 f88_26
  by_cases ha : a = 0
  · by_cases hb : b = 0
    · by_cases hd : d = 0 <;> simp [ha, hb, hd]
    · simp [ha, hb]
  · simp [ha]
theorem m87 {n N : Nat} {x : Int32} {g : mG} (hn : 5 ≤ n) (hN : g.1 25 = nI N) (hN6 : N ≤ 600) :
    (bad4 x → f87 n x g = some (.inl (some (.int 0)), gI g 24 1)) ∧ (¬ bad4 x → 600 < N + c4 x → f87 n x g = some (.inl (some (.int 0)), gI g 24 2)) ∧
    (¬ bad4 x → N + c4 x ≤ 600 → ∃ g', f87 n x g = some (.inl (some (.int (nI (p4 x (g.2.1 32, N)).2))), g') ∧ g'.1 24 = 0 ∧ g'.1 25 = nI (p4 x (g.2.1 32, N)).2 ∧ g'.2.1 32 = (p4 x (g.2.1 32, N)).1 ∧ Chg [24, 25] [32] g g') := by
  obtain ⟨c, rfl⟩ : ∃ c, n = c + 5 := ⟨n - 5, by omega⟩
  have k0 := cnt_le (bt x (nI (8 * 0))); have k1 := cnt_le (bt x (nI (8 * 1))); have k2 := cnt_le (bt x (nI (8 * 2))); have k3 := cnt_le (bt x (nI (8 * 3)))
  have w01 : ∀ p : Prop, [Decidable p] → (if p then (0 : Int32) else 1) = 0 ∨ (if p then (0 : Int32) else 1) = 1 := fun p _ => by by_cases h : p <;> simp [h]
  have hm : 0 + cnt (bt x (nI (8 * 0))) + cnt (bt x (nI (8 * 1))) + cnt (bt x (nI (8 * 2))) + cnt (bt x (nI (8 * 3))) = c4 x := by unfold c4; omega
  have hc4 : c4 x ≤ 4 := by unfold c4; omega
  have e0 : ∃ w : Int32, f87 (c + 5) x g = f87_73 (c + 5) x (nI (c4 x)) (if w = 0 then 1 else 0) g ∧ (w = 0 ↔ bad4 x) := by
    have e1 : f87 (c + 5) x g = f87_7 (c + 5) (c + 4 + 1) x (nI 0) 1 (nI 0) g := rfl
    rw [e1, m87_s (by omega) (Or.inr rfl), show c + 4 = c + 3 + 1 from rfl, m87_s (by omega) (w01 _), show c + 3 = c + 2 + 1 from rfl, m87_s (by omega) (w01 _), show c + 2 = c + 1 + 1 from rfl, m87_s (by omega) (w01 _), show (3 + 1 : Nat) = 4 from rfl, m87_e, hm]
    refine ⟨_, rfl, ?_⟩
    unfold bad4
    by_cases h0 : bt x (nI (8 * 0)) ≤ 127 <;> by_cases h1 : bt x (nI (8 * 1)) ≤ 127 <;> by_cases h2 : bt x (nI (8 * 2)) ≤ 127 <;> by_cases h3 : bt x (nI (8 * 3)) ≤ 127 <;> simp [h0, h1, h2, h3]
  obtain ⟨w, e1, e2⟩ := e0
  rw [e1]
  unfold f87_73 f87_90
  rw [hN, nI_add]
  simp only [m88]
  refine ⟨fun hb => ?_, fun hb h6 => ?_, fun hb h6 => ?_⟩
  · have hw := e2.mpr hb
    simp [hw, m_ci]
  · have hw : ¬ w = 0 := fun z => hb (e2.mp z)
    rw [if_neg (show ¬ nI (N + c4 x) ≤ (600 : Int32) from nI_ge (a := 600) (b := N + c4 x) (by omega) (by omega))]
    simp [hw, m_ci]
  · have hw : ¬ w = 0 := fun z => hb (e2.mp z)
    rw [if_pos (show nI (N + c4 x) ≤ (600 : Int32) from nI_le (b := 600) h6 (by decide))]
    simp only [hw, if_false, m_ci, and_self, if_true]
    unfold c4 at h6
    have hN2 : (gI g 24 0).1 25 = nI N := by simp [rI, hN]
    obtain ⟨g1, a1, a2, a3, a4⟩ := m87_t (n := c + 5) (c := c + 4) (x := x) (k := 0) (g := gI g 24 0) (by omega) hN2 (by omega)
    obtain ⟨g2, b1, b2, b3, b4⟩ := m87_t (n := c + 5) (c := c + 3) (x := x) (k := 1) (g := g1) (by omega) a2 (by rw [ad1_2]; simp only []; omega)
    obtain ⟨g3, d1, d2, d3, d4⟩ := m87_t (n := c + 5) (c := c + 2) (x := x) (k := 2) (g := g2) (by omega) b2 (by rw [ad1_2, a3, ad1_2]; simp only []; omega)
    obtain ⟨g4, q1, q2, q3, q4⟩ := m87_t (n := c + 5) (c := c + 1) (x := x) (k := 3) (g := g3) (by omega) d2 (by rw [ad1_2, b3, a3, ad1_2, ad1_2]; simp only []; omega)
    have e9 : f87_102 (c + 5) (c + 1) x (nI (3 + 1)) g4 = some (.inl (some (.int (g4.1 25))), g4) := by
      rw [f87_102, if_pos (show (4 : Int32) ≤ nI (3 + 1) by decide)]
    have ep : ad1 (bt x (nI (8 * 3))) (g3.2.1 32, (ad1 (bt x (nI (8 * 2))) (g2.2.1 32, (ad1 (bt x (nI (8 * 1))) (g1.2.1 32, (ad1 (bt x (nI (8 * 0))) ((gI g 24 0).2.1 32, N)).2)).2)).2) = p4 x (g.2.1 32, N) := by
      rw [d3, b3, a3]; rfl
    rw [ep] at q2 q3
    have hch := ((a4.tr b4).tr d4).tr q4
    refine ⟨g4, ?_, ?_, q2, q3, (Chg.i 24 0 (by simp)).tr (hch.mono (by simp) (by simp))⟩
    · show f87_102 (c + 5) (c + 4 + 1) x (nI 0) (gI g 24 0) = _
      rw [a1]
      show f87_102 (c + 5) (c + 3 + 1) x (nI 1) g1 = _
      rw [b1]
      show f87_102 (c + 5) (c + 2 + 1) x (nI 2) g2 = _
      rw [d1]
      show f87_102 (c + 5) (c + 1 + 1) x (nI 3) g3 = _
      rw [q1, e9, q2]
    · rw [hch.1 24 (by simp)]
      simp [rI]
