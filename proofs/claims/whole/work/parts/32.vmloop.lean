/-! the two loops, to their ends -/
section Loop
variable {n m q L : Nat} {C : Nat → Nat → Int32} {ht rk : Nat → Nat}
theorem VR.vp {B : Nat → Nat} {g gm : mG} {t k p c s w : Nat} (hC : Code C m q ht rk) (h : VR C m q ht rk B g gm t k p c s) : VP C m q ht rk B (gI (gI g 16 (nI (p + 1))) 18 (nI w)) (gC gm (lN w)) t k p w s := by
  obtain ⟨hA, hS, hV, hF, hK, h16, h18, hc, hp, hT⟩ := h
  exact ⟨hC, hA.kp ((Chg.i 16 _ (by simp)).tr (Chg.i 18 _ (by simp))) (ChgM.c _), hS.kp (by simp [rI]) rfl rfl rfl, hV.kp rfl rfl, hF.kp (by simp [rI]) rfl rfl rfl, hK.kp (by simp [rI]) rfl rfl rfl rfl rfl, by simp [rI], by simp [rI], rfl, hp, hT⟩
theorem wOf_le (o : Int32) : wOf o ≤ 40 := by
  unfold wOf
  repeat' split
  all_goals omega
theorem c42_end {c1 : Nat} {x y : Int32} {g : mG} (h : ¬ g.1 17 = 3) : f42_55 n (c1 + 1) x y g = some (.inl (some (.int (g.1 17))), g) := by
  rw [f42_55]
  have e : f42_150 n g = some (.inl (some (.int (g.1 17))), g) := by unfold f42_150; rw [if_pos h]
  by_cases h1 : (1000000 : Int32) ≤ y
  · rw [if_pos h1, e]
  · rw [if_neg h1, if_pos h, e]
theorem vm_loop (hn : 40 ≤ n) (hC : Code C m q ht rk) (hL : L ≤ 50000) : ∀ (μ : Nat) (g gm : mG) (t k p c s : Nat) (B : Nat → Nat) (st c1 c2 : Nat), VR C m q ht rk B g gm t k p c s → g.1 17 = 3 → c ≤ L → (L - c) * 18 + rk p + 1 ≤ μ → st + μ ≤ 1000000 → μ + 2 ≤ c1 → μ + 2 ≤ c2 →
    ∃ (g' gm' : mG) (c3 : Nat), f42_55 n c1 (nI L) (nI st) g = some (.inl (some (.int (g'.1 17))), g') ∧ Chg SC AC g g' ∧ ChgM SM AM gm gm' ∧ (gm.1 24 = 0 → gm'.1 24 = 0) ∧ g'.2.1 28 = gm'.2.1 49 ∧ g'.2.1 29 = gm'.2.1 50 ∧
      ((g'.1 17 = 1 ∧ f139_213 n c2 (nI L) (nI p) gm = f139_213 n (c3 + 1) (nI L) (-2) gm') ∨ (g'.1 17 = 2 ∧ f139_213 n c2 (nI L) (nI p) gm = f139_213 n (c3 + 1) (nI L) (-3) gm') ∨
       (g'.1 17 = 0 ∧ f139_213 n c2 (nI L) (nI p) gm = f139_213 n (c3 + 1) (nI L) (-1) gm' ∧ ∃ c', g'.1 18 = nI c' ∧ gm'.2.2.1 = lN c' ∧ c' ≤ 50000 ∧ (∃ s', VK g' gm' s') ∧ ∃ t', t' < 2000 ∧ gm'.1 41 = nI (t' + 1) ∧ gm'.2.1 53 t' = g'.1 19)) := by
  intro μ
  induction μ with
  | zero => intro g gm t k p c s B st c1 c2 hR h17 hc hμ; omega
  | succ μ ih =>
    intro g gm t k p c s B st c1 c2 hR h17 hc hμ hst hc1 hc2
    obtain ⟨c1, rfl⟩ : ∃ z, c1 = z + 1 := ⟨c1 - 1, by omega⟩
    obtain ⟨c2, rfl⟩ : ∃ z, c2 = z + 1 := ⟨c2 - 1, by omega⟩
    obtain ⟨hA, hS, hV, hF, hK, h16, h18, hcc, hp, hT⟩ := id hR
    have hm6 := hC.1
    have hw40 := wOf_le (C 0 p)
    have hP := hR.vp (w := c + wOf (C 0 p)) hC
    obtain ⟨hSR, h143⟩ := s_all hn hP
    -- one turn of the class
    have hcl : f42_55 n (c1 + 1) (nI L) (nI st) g = (if nI (c + wOf (C 0 p)) ≤ nI L then m_cv (f49 n (C 0 p) (C 1 p) (gI (gI g 16 (nI (p + 1))) 18 (nI (c + wOf (C 0 p))))) (fun g29 => f42_55 n c1 (nI L) (nI (st + 1)) g29) else f42_55 n c1 (nI L) (nI (st + 1)) (gI (gI (gI g 16 (nI (p + 1))) 18 (nI (c + wOf (C 0 p)))) 17 1)) := by
      rw [f42_55, if_neg (show ¬ (1000000 : Int32) ≤ nI st from nI_ge (a := st) (b := 1000000) (by omega) (by decide)), if_neg (fun z => z h17), h16, c40 hA.1 hp hm6]
      simp only [m_ci]
      rw [h16, c41 hA.1 hp hm6]
      simp only [h16, nI_1]
      rw [c48]
      simp only [hA.2.2.1, hA.2.2.2.1, h18, nI_add]
    have hmo : f139_213 n (c2 + 1) (nI L) (nI p) gm = (if lg_cmp (lN (c + wOf (C 0 p))) (lN L) ≤ 0 then m_ci (f144 n (nI p) (gC gm (lN (c + wOf (C 0 p))))) (fun v g41 => f139_213 n c2 (nI L) v g41) else f139_213 n c2 (nI L) (-2) (gC gm (lN (c + wOf (C 0 p))))) := by
      rw [f139_213, if_neg (nI_pos (by omega)), if_neg (nI_in (by omega) (by decide)), nI_clamp (by omega), hA.2.2.2.2.2.2.2.2.1, h143]
      simp only [m_ci, hcc]
      rw [nI_l (by omega), nI_l (by omega), lN_add]
    rw [hcl, hmo]
    by_cases hle : c + wOf (C 0 p) ≤ L
    · rw [if_pos (nI_le hle (by omega)), if_pos ((lg_le (by omega) (by omega)).mpr hle)]
      obtain ⟨g', gm', r1, r2, r3, r24, r4, r5, r6⟩ := hSR
      have d1 : Chg SC AC g g' := ((Chg.i 16 _ (by simp)).tr (Chg.i 18 _ (by simp))).tr r2
      have d2 : ChgM SM AM gm gm' := (ChgM.c _).tr r3
      rw [r1]
      simp only [m_cv]
      rcases r6 with ⟨p', t', k', s', B', q1, q2, q3, q4⟩ | ⟨q1, q2⟩ | ⟨q1, q2⟩ | ⟨q1, q2, q3, q4, q5, q6⟩
      · rw [q1]
        simp only [m_ci]
        have h17' : g'.1 17 = 3 := by rw [q3]; simp [rI, h17]
        have hrk := hC.2.2.2.1 p'
        have hμ' : (L - (c + wOf (C 0 p))) * 18 + rk p' + 1 ≤ μ := by
          by_cases hw0 : wOf (C 0 p) = 0
          · have := q4 hw0
            rw [hw0]
            simp only [Nat.add_zero]
            omega
          · have : (L - (c + wOf (C 0 p))) + 1 ≤ L - c := by omega
            omega
        obtain ⟨g2, gm2, c3, y1, y2, y3, y24, y4, y5, y6⟩ := ih g' gm' t' k' p' (c + wOf (C 0 p)) s' B' (st + 1) c1 c2 q2 h17' hle hμ' (by omega) (by omega) (by omega)
        exact ⟨g2, gm2, c3, y1, d1.tr y2, d2.tr y3, fun z => y24 (r24 z), y4, y5, y6⟩
      · rw [q1]
        simp only [m_ci]
        refine ⟨g', gm', c2 - 1, ?_, d1, d2, r24, r4, r5, Or.inl ⟨q2, by rw [Nat.sub_add_cancel (by omega)]⟩⟩
        obtain ⟨c1, rfl⟩ : ∃ z, c1 = z + 1 := ⟨c1 - 1, by omega⟩
        exact c42_end (by rw [q2]; decide)
      · rw [q1]
        simp only [m_ci]
        refine ⟨g', gm', c2 - 1, ?_, d1, d2, r24, r4, r5, Or.inr (Or.inl ⟨q2, by rw [Nat.sub_add_cancel (by omega)]⟩)⟩
        obtain ⟨c1, rfl⟩ : ∃ z, c1 = z + 1 := ⟨c1 - 1, by omega⟩
        exact c42_end (by rw [q2]; decide)
      · rw [q1]
        simp only [m_ci]
        refine ⟨g', gm', c2 - 1, ?_, d1, d2, r24, r4, r5, Or.inr (Or.inr ⟨q2, by rw [Nat.sub_add_cancel (by omega)], c + wOf (C 0 p), q3, q4, by omega, q5, q6⟩)⟩
        obtain ⟨c1, rfl⟩ : ∃ z, c1 = z + 1 := ⟨c1 - 1, by omega⟩
        exact c42_end (by rw [q2]; decide)
    · rw [if_neg (nI_ge (by omega) (by omega)), if_neg (fun z => hle ((lg_le (by omega) (by omega)).mp z))]
      refine ⟨gI (gI (gI g 16 (nI (p + 1))) 18 (nI (c + wOf (C 0 p)))) 17 1, gC gm (lN (c + wOf (C 0 p))), c2 - 1, ?_, ((Chg.i 16 _ (by simp)).tr (Chg.i 18 _ (by simp))).tr (Chg.i 17 _ (by simp)), ChgM.c _, fun z => z, hK.2.2.2.1, hK.2.2.2.2.1, Or.inl ⟨by simp [rI], by rw [Nat.sub_add_cancel (by omega)]⟩⟩
      obtain ⟨c1, rfl⟩ : ∃ z, c1 = z + 1 := ⟨c1 - 1, by omega⟩
      exact c42_end (by simp (decide := true) [rI])
end Loop
