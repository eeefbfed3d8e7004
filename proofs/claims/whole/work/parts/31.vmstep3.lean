/-! calls and returns in step; every instruction -/
section Steps3
variable {n m q t k p c s : Nat} {C : Nat → Nat → Int32} {ht rk B : Nat → Nat} {g gm : mG}
theorem s_call {f P : Nat} (hn : 40 ≤ n) (h : VP C m q ht rk B g gm t k p c s) (h1 : C 0 p = 38) (h2 : C 6 p = 8) (h3 : C 7 p = C 1 p) (hf : f < q) (h7 : C 1 p = nI f) (hP : C 3 f = nI P) (hP3 : P ≤ 3) (h5 : ht p + 1 = ht (p + 1) + P) (h6 : 1 ≤ ht (p + 1)) (h8 : rk (p + 1) = 0) (h4 : p + 1 < m) {w : Nat} (hw : w ≠ 0) : SR C m q ht rk g gm p c w (f49 n (C 0 p) (C 1 p) g) (f144 n (nI p) gm) := by
  have hb := h.tb
  have hT := h.tt
  obtain ⟨hC, hA, hS, hV, hF, hK, h16, h18, hc, hp, -⟩ := id h
  obtain ⟨f1, f2, f3, f4, f5, f6⟩ := id hF
  obtain ⟨x1, x2, e, P2, x3, x4, x5, x6, x7⟩ := hC.2.2.2.2.1 f hf
  have hq := hC.2.1
  obtain ⟨a20, a21, a0, a1, a2, a3, a4, a5, a6, a7⟩ := id hA
  have ec0 : f49 n (C 0 p) (C 1 p) g = m_cv (f45 n (nI f) g) (fun g' => some (.inl none, g')) := by
    rw [h1, h7]; unfold f49; simp (decide := true) only [reduceIte]
  have em0 : f144 n (nI p) gm = (if ¬ gm.1 42 = 12 then m_ci (f141 n (nI f) (nI (p + 1)) gm) (fun v g' => some (.inl (some (.int v)), g')) else some (.inl (some (.int (-2))), gm)) := by
    rw [h.m144, h2, h3, h7]; unfold f144B; simp (decide := true) only [reduceIte]
    rw [nI_1 p]
  rw [ec0, em0]
  by_cases hk : k + 1 < 12
  · obtain ⟨z, rfl⟩ : ∃ z, t = z + P := ⟨t - P, by omega⟩
    have hk42 : ¬ gm.1 42 = 12 := by
      rw [f2]; intro z9
      have := (nI_eq (a := k + 1) (b := 12) (by omega) (by decide)).mp z9
      omega
    obtain ⟨ga, u1, u2, u3, u4, u5, u6, u7⟩ := c45 (n := n) (g := g) (k := k + 1) (t := z) (P := P) (p := p + 1) (e := nI e) (by omega) a21 hf hq hk f1 h16 (by rw [a3]; exact hP) hP3 (by rw [a2]; exact x3) (by omega) hS.1
    obtain ⟨gb, v1, v2, v3, v4, v5, v6⟩ := m141 (n := n) (g := gm) (f := f) (k := k + 1) (t := z) (P := P) (e := nI e) (w := nI (p + 1)) (by omega) (by omega) hk f2 (by rw [a5, x2]; exact hP) hP3 (by rw [a4, x1]; exact x3) (by omega) hS.2.1
    rw [u1, if_pos hk42, v1]
    simp only [m_cv, m_ci]
    have g1 : Chg SC AC g ga := u7.mono (by simp) (by simp)
    have g2 : ChgM SM AM gm gb := Chg.m (S := SM) (A := AM) (v6.mono (by simp) (by simp)) (by simp) (by simp)
    have hK' : VK ga gb s := hK.kp (u7.1 22 (by simp)) (v6.1 39 (by simp)) (u7.2.1 28 (by simp)) (u7.2.1 29 (by simp)) (v6.2.1 49 (by simp)) (v6.2.1 50 (by simp))
    refine ⟨_, _, rfl, g1, g2, (fun z9 => by rw [v6.1 24 (by simp)]; exact z9), hK'.2.2.2.1, hK'.2.2.2.2.1, Or.inl ⟨e, z, k + 1, s, fun i => if i = k + 1 then z else B i, rfl, ⟨hA.kp g1 g2, ⟨u2, v2, fun i hi => ?_⟩, fun i hi => ?_, ⟨u3, v3, hk, ?_, ?_, fun i h9 h10 => ?_⟩, hK', u4, ?_, ?_, x5, ?_⟩, u7.1 17 (by simp), fun z9 => absurd z9 hw⟩⟩
    · rw [u7.2.1 25 (by simp), v6.2.1 53 (by simp)]; exact hS.2.2 i (by omega)
    · rw [u6, v5]
      unfold entP entZ
      by_cases h9 : 8 * (k + 1) ≤ i ∧ i < 8 * (k + 1) + P
      · rw [if_pos h9, if_pos h9]; exact hS.2.2 _ (by omega)
      · rw [if_neg h9, if_neg h9]
        by_cases h10 : 8 * (k + 1) ≤ i ∧ i < 8 * (k + 1) + 8
        · rw [if_pos h10, if_pos h10]
        · rw [if_neg h10, if_neg h10]; exact hV i (by omega)
    · show (if 0 = k + 1 then z else B 0) = 0
      rw [if_neg (by omega)]; exact f4
    · rw [v4]; unfold upd; rw [if_neg (by omega)]; exact f5
    · rw [u5, v4]
      unfold upd
      by_cases h11 : i = k + 1
      · subst h11
        refine ⟨p + 1, h4, by rw [if_pos rfl], by rw [if_pos rfl], h8, h6, ?_⟩
        show (if k + 1 = k + 1 then z else B (k + 1)) + 1 = (if k + 1 - 1 = k + 1 then z else B (k + 1 - 1)) + ht (p + 1)
        rw [if_pos rfl, if_neg (by omega), Nat.add_sub_cancel]
        omega
      · obtain ⟨r, r1, r2, r3, r4, r5, r6⟩ := f6 i h9 (by omega)
        refine ⟨r, r1, by rw [if_neg h11]; exact r2, by rw [if_neg h11]; exact r3, r4, r5, ?_⟩
        show (if i = k + 1 then z else B i) + 1 = (if i - 1 = k + 1 then z else B (i - 1)) + ht r
        rw [if_neg h11, if_neg (by omega)]
        exact r6
    · rw [u7.1 18 (by simp)]; exact h18
    · rw [v6.2.2]; exact hc
    · show z = (if k + 1 = k + 1 then z else B (k + 1)) + ht e
      rw [if_pos rfl, x7]; rfl
  · have hk12 : k + 1 = 12 := by omega
    rw [hk12] at f1 f2
    have e45 : f45 n (nI f) g = some (.inl none, gI g 17 1) := by
      unfold f45
      rw [f1, if_neg (by decide)]
    rw [e45, f2, if_neg (by decide)]
    exact ⟨_, _, rfl, Chg.i 17 _ (by simp), ChgM.rf _, (fun z => z), hK.2.2.2.1, hK.2.2.2.2.1, Or.inr (Or.inl ⟨rfl, by simp [rI]⟩)⟩
/-- leaving: the two stacks at the function's own bottom -/
theorem s_leave {v : Int32} {g1 gm1 : mG} {w : Nat} {rg rm : mZ} (h : VP C m q ht rk B g gm t k p c s) (hg : Chg [14] [] g g1) (hm : Chg [41] [] gm gm1) (hS : VS g1 gm1 (B k)) (hrg : rg = m_cv (f52 n v g1) (fun g' => some (.inl none, g'))) (hrm : rm = m_ci (f148_14 n v gm1) (fun v' g' => some (.inl (some (.int v')), g'))) (hr : 1 ≤ rk p ∨ w ≠ 0) : SR C m q ht rk g gm p c w rg rm := by
  have hb := h.tb
  obtain ⟨hC, hA, -, hV, hF, hK, h16, h18, hc, hp, hT⟩ := id h
  obtain ⟨f1, f2, f3, f4, f5, f6⟩ := id hF
  have hBk := hF.le hC.2.2.1 k (Nat.le_refl k)
  have c15 : g1.1 15 = nI (k + 1) := by rw [hg.1 15 (by simp)]; exact f1
  have m42 : gm1.1 42 = nI (k + 1) := by rw [hm.1 42 (by simp)]; exact f2
  rw [hrg, hrm]
  unfold f52 f148_14
  rw [c15, m42, nI_pred, m140 (t := B k) (by simp [rI, hS.2.1]) (by omega)]
  simp only [m_cv]
  by_cases hk : 1 ≤ k
  · obtain ⟨r, r1, r2, r3, r4, r5, r6⟩ := f6 k hk (Nat.le_refl k)
    rw [if_pos (show 0 < nI k from nI_lt (a := 0) (by omega) (by omega)), c44 (t := B k) (by simp [rI, hS.1]) (by omega)]
    simp only []
    have y1 : (gI (gS (gI g1 15 (nI k)) 25 (upd (g1.2.1 25) (B k) v)) 14 (nI (B k + 1))).1 15 = nI k := by simp [rI, rS1]
    have y2 : (gI (gS (gI gm1 42 (nI k)) 53 (upd (gm1.2.1 53) (B k) v)) 41 (nI (B k + 1))).1 42 = nI k := by simp [rI, rS1]
    have y3 : (gI (gS (gI g1 15 (nI k)) 25 (upd (g1.2.1 25) (B k) v)) 14 (nI (B k + 1))).2.1 27 k = nI r := by simp only [rI2, rS]; rw [if_neg (by decide), hg.2.1 27 (by simp)]; exact r2
    have y4 : (gI (gS (gI gm1 42 (nI k)) 53 (upd (gm1.2.1 53) (B k) v)) 41 (nI (B k + 1))).2.1 54 k = nI r := by simp only [rI2, rS]; rw [if_neg (by decide), hm.2.1 54 (by simp)]; exact r3
    have y5 : (gI g1 15 (nI k)).2.1 25 = g1.2.1 25 := rfl
    have y6 : (gI gm1 42 (nI k)).2.1 53 = gm1.2.1 53 := rfl
    rw [y5, y6, y1, y2, if_neg (nI_in (by omega) (by decide)), if_neg (nI_in (by omega) (by decide)), nI_clamp (by omega), y3, y4]
    simp only [m_ci]
    have g0 : Chg SC AC g (gI (gI (gS (gI g1 15 (nI k)) 25 (upd (g1.2.1 25) (B k) v)) 14 (nI (B k + 1))) 16 (nI r)) := (((hg.mono (by simp) (by simp)).tr (Chg.i 15 _ (by simp))).tr (Chg.s 25 _ (by simp))).tr ((Chg.i 14 _ (by simp)).tr (Chg.i 16 _ (by simp)))
    have g2 : Chg SM AM gm (gI (gS (gI gm1 42 (nI k)) 53 (upd (gm1.2.1 53) (B k) v)) 41 (nI (B k + 1))) := (((hm.mono (by simp) (by simp)).tr (Chg.i 42 _ (by simp))).tr (Chg.s 53 _ (by simp))).tr (Chg.i 41 _ (by simp))
    have g3 := g2.m (S' := SM) (A' := AM) (by simp) (by simp)
    have hK' : VK (gI (gI (gS (gI g1 15 (nI k)) 25 (upd (g1.2.1 25) (B k) v)) 14 (nI (B k + 1))) 16 (nI r)) (gI (gS (gI gm1 42 (nI k)) 53 (upd (gm1.2.1 53) (B k) v)) 41 (nI (B k + 1))) s :=
      hK.kp (by simp [rI, rS1, hg.1 22 (by simp)]) (by simp [rI, rS1, hm.1 39 (by simp)]) (by simp [rI2, rS, hg.2.1 28 (by simp)]) (by simp [rI2, rS, hg.2.1 29 (by simp)]) (by simp [rI2, rS, hm.2.1 49 (by simp)]) (by simp [rI2, rS, hm.2.1 50 (by simp)])
    have hSS : VS (gI (gI (gS (gI g1 15 (nI k)) 25 (upd (g1.2.1 25) (B k) v)) 14 (nI (B k + 1))) 16 (nI r)) (gI (gS (gI gm1 42 (nI k)) 53 (upd (gm1.2.1 53) (B k) v)) 41 (nI (B k + 1))) (B k + 1) := hS.push (v := v) (by simp [rI]) (by simp [rI]) (by simp [rI2, rS]) (by simp [rI2, rS])
    refine ⟨_, _, rfl, g0, g3, (fun z => by simp [rI, rS1, hm.1 24 (by simp), z]), hK'.2.2.2.1, hK'.2.2.2.2.1, Or.inl ⟨r, B k + 1, k - 1, s, B, rfl, ⟨hA.kp g0 g3, hSS, fun i hi => ?_, ⟨by rw [Nat.sub_add_cancel hk]; simp [rI, rS1], by rw [Nat.sub_add_cancel hk]; simp [rI, rS1], by omega, f4, ?_, fun i h9 h10 => ?_⟩, hK', by simp [rI], by simp [rI, rS1, hg.1 18 (by simp), h18], ?_, r1, by omega⟩, by simp [rI, rS1, hg.1 17 (by simp)], ?_⟩⟩
    · have e1 : (gI (gI (gS (gI g1 15 (nI k)) 25 (upd (g1.2.1 25) (B k) v)) 14 (nI (B k + 1))) 16 (nI r)).2.1 26 = g.2.1 26 := by simp [rI2, rS, hg.2.1 26 (by simp)]
      have e2 : (gI (gS (gI gm1 42 (nI k)) 53 (upd (gm1.2.1 53) (B k) v)) 41 (nI (B k + 1))).2.1 55 = gm.2.1 55 := by simp [rI2, rS, hm.2.1 55 (by simp)]
      rw [e1, e2]
      exact hV i (by omega)
    · simp only [rI2, rS]; rw [if_neg (by decide), hm.2.1 54 (by simp)]; exact f5
    · obtain ⟨r', q1, q2, q3, q4, q5, q6⟩ := f6 i h9 (by omega)
      refine ⟨r', q1, ?_, ?_, q4, q5, q6⟩
      · simp only [rI2, rS]; rw [if_neg (by decide), hg.2.1 27 (by simp)]; exact q2
      · simp only [rI2, rS]; rw [if_neg (by decide), hm.2.1 54 (by simp)]; exact q3
    · rw [g2.2.2]; exact hc
    · intro w0
      rcases hr with hr | hr
      · omega
      · exact absurd w0 hr
  · have hk0 : k = 0 := by omega
    subst hk0
    have y2 : (gI (gS (gI gm1 42 (nI 0)) 53 (upd (gm1.2.1 53) (B 0) v)) 41 (nI (B 0 + 1))).1 42 = nI 0 := by simp [rI, rS1]
    have y4 : (gI (gS (gI gm1 42 (nI 0)) 53 (upd (gm1.2.1 53) (B 0) v)) 41 (nI (B 0 + 1))).2.1 54 0 = -1 := by simp only [rI2, rS]; rw [if_neg (by decide), hm.2.1 54 (by simp)]; exact f5
    have y6 : (gI gm1 42 (nI 0)).2.1 53 = gm1.2.1 53 := rfl
    rw [if_neg (show ¬ 0 < nI 0 by decide), y6, y2, if_neg (nI_in (by omega) (by decide)), nI_clamp (by omega), y4]
    simp only [m_ci]
    have g2 : Chg SM AM gm (gI (gS (gI gm1 42 (nI 0)) 53 (upd (gm1.2.1 53) (B 0) v)) 41 (nI (B 0 + 1))) := (((hm.mono (by simp) (by simp)).tr (Chg.i 42 _ (by simp))).tr (Chg.s 53 _ (by simp))).tr (Chg.i 41 _ (by simp))
    have hK' : VK (gI (gI (gI g1 15 (nI 0)) 19 v) 17 0) (gI (gS (gI gm1 42 (nI 0)) 53 (upd (gm1.2.1 53) (B 0) v)) 41 (nI (B 0 + 1))) s :=
      hK.kp (by simp [rI, rS1, hg.1 22 (by simp)]) (by simp [rI, rS1, hm.1 39 (by simp)]) (by simp [rI2, rS, hg.2.1 28 (by simp)]) (by simp [rI2, rS, hg.2.1 29 (by simp)]) (by simp [rI2, rS, hm.2.1 49 (by simp)]) (by simp [rI2, rS, hm.2.1 50 (by simp)])
    refine ⟨_, _, rfl, (hg.mono (by simp) (by simp)).tr (((Chg.i 15 _ (by simp)).tr (Chg.i 19 _ (by simp))).tr (Chg.i 17 _ (by simp))), g2.m (by simp) (by simp), (fun z => by simp [rI, rS1, hm.1 24 (by simp), z]), hK'.2.2.2.1, hK'.2.2.2.2.1, Or.inr (Or.inr (Or.inr ⟨rfl, by simp [rI], by simp [rI, hg.1 18 (by simp), h18], by rw [g2.2.2]; exact hc, ⟨s, hK'⟩, B 0, by omega, by simp [rI], ?_⟩))⟩
    simp [rI, rI2, rS, upd]
theorem s_ret (h : VP C m q ht rk B g gm t k p c s) (h1 : C 0 p = 32) (h2 : C 6 p = 13) (h5 : ht p = 1) {w : Nat} (hw : w ≠ 0) : SR C m q ht rk g gm p c w (f49 n (C 0 p) (C 1 p) g) (f144 n (nI p) gm) := by
  have hb := h.tb
  have hT := h.tt
  obtain ⟨t, rfl⟩ := h.ge (d := 1) (by omega)
  have hS := h.2.2.1
  have ht0 : t = B k := by omega
  subst ht0
  refine s_leave (n := n) (v := g.2.1 25 (B k)) (g1 := gI g 14 (nI (B k))) (gm1 := gI gm 41 (nI (B k))) h (Chg.i 14 _ (by simp)) (Chg.i 41 _ (by simp)) (hS.pop (by simp [rI]) (by simp [rI]) rfl rfl) ?_ ?_ (Or.inr hw)
  · rw [h1]; unfold f49; simp (decide := true) only [reduceIte]
    rw [c46 hS.1 (by omega)]; simp only [m_ci]
  · rw [h.m144, h2]; unfold f144B f148; simp (decide := true) only [reduceIte]
    rw [m142 hS.2.1 (by omega), ← hS.2.2 (B k) (by omega)]; simp only [m_ci]
theorem s_fin (h : VP C m q ht rk B g gm t k p c s) (h1 : C 0 p = 42) (h2 : C 6 p = 15) (h5 : ht p = 0) (h6 : 1 ≤ rk p) {w : Nat} : SR C m q ht rk g gm p c w (f49 n (C 0 p) (C 1 p) g) (f144 n (nI p) gm) := by
  have hT := h.tt
  have ht0 : t = B k := by omega
  subst ht0
  refine s_leave (n := n) (v := 0) (g1 := g) (gm1 := gm) h (Chg.rf _) (Chg.rf _) h.2.2.1 ?_ ?_ (Or.inl h6)
  · rw [h1]; unfold f49; simp (decide := true) only [reduceIte]
  · rw [h.m144, h2]; unfold f144B f148; simp (decide := true) only [reduceIte]
/-- what an instruction costs -/
def wOf (o : Int32) : Nat := if o = 3 then 1 else if o = 27 then 40 else if o = 28 then 20 else if o = 36 then 1 else if o = 38 then 10 else if o = 41 then 0 else if o = 42 then 0 else 2
theorem c48 (x : Int32) : f48 n x g = some (.inl (some (.int (nI (wOf x)))), g) := by
  unfold f48 wOf
  repeat' split
  all_goals rfl
theorem s_all (hn : 40 ≤ n) (h : VP C m q ht rk B g gm t k p c s) : SR C m q ht rk g gm p c (wOf (C 0 p)) (f49 n (C 0 p) (C 1 p) g) (f144 n (nI p) gm) ∧ ∀ gm', f143 n (C 6 p) gm' = some (.inl (some (.int (nI (wOf (C 0 p))))), gm') := by
  have hL := h.1.2.2.2.2.2 p h.2.2.2.2.2.2.2.2.2.1
  rcases hL with ⟨a1, a2, a3, a4, a5⟩ | ⟨a1, a2, a3, ⟨v, b1, b2⟩, a4, a5⟩ | ⟨a1, a2, a3, ⟨v, b1, b2⟩, a4, a5⟩ | ⟨a1, a2, a3, a4, a5, a6⟩ | ⟨a1, a2, a3, a4, a5, a6⟩ | ⟨⟨o, b1, b2, b3, b4⟩, a2, a4, a5, a6⟩ | ⟨a1, a2, a3, ⟨d, b1, b2, b3⟩, a4, a5⟩ | ⟨a1, a2, a3, ⟨d, b1, b2, b3⟩, a4, a5⟩ | ⟨a1, a2, a4, a5, a6⟩ | ⟨a1, a2, a4, a5⟩ | ⟨a1, a2, a3, ⟨f, P, b1, b2, b3, b4, b5⟩, a4, a5, a6⟩ | ⟨a1, a2, a4⟩ | ⟨a1, a2, a4, a5⟩ | ⟨a1, a2, a4, a5⟩ | ⟨a1, a2, a3, d, b1, b2, b3, b4⟩ | ⟨a1, a2, a3, ⟨d, b1, b2, b3⟩, a4, a5⟩
  · have hw : wOf (C 0 p) ≠ 0 := by rw [a1]; decide
    exact ⟨s_num h a1 a2 a3 a4 a5 hw, fun gm' => by rw [a1, a2]; rfl⟩
  · have hw : wOf (C 0 p) ≠ 0 := by rw [a1]; decide
    exact ⟨s_var h a1 a2 a3 b1 b2 a4 a5 hw, fun gm' => by rw [a1, a2]; rfl⟩
  · have hw : wOf (C 0 p) ≠ 0 := by rw [a1]; decide
    exact ⟨s_set h a1 a2 a3 b1 b2 a4 a5 hw, fun gm' => by rw [a1, a2]; rfl⟩
  · have hw : wOf (C 0 p) ≠ 0 := by rw [a1]; decide
    exact ⟨s_neg h a1 a2 a3 a4 a5 a6 hw, fun gm' => by rw [a1, a2]; rfl⟩
  · have hw : wOf (C 0 p) ≠ 0 := by rw [a1]; decide
    exact ⟨s_not h a1 a2 a3 a4 a5 a6 hw, fun gm' => by rw [a1, a2]; rfl⟩
  · have h3 : o = 13 ∨ o = 14 ∨ o = 15 ∨ o = 16 ∨ o = 17 ∨ o = 18 ∨ o = 19 ∨ o = 20 ∨ o = 21 := by omega
    have hwo : wOf (nI o) = 2 := by rcases h3 with rfl | rfl | rfl | rfl | rfl | rfl | rfl | rfl | rfl <;> decide
    have hw : wOf (C 0 p) ≠ 0 := by rw [b3, hwo]; decide
    exact ⟨s_op h b3 b1 b2 b4 a2 a4 a5 a6 hw, fun gm' => by rw [b3, a2, hwo]; rfl⟩
  · have hw : wOf (C 0 p) ≠ 0 := by rw [a1]; decide
    exact ⟨s_and h a1 a2 (Or.inl ⟨rfl, rfl, rfl⟩) a3 b1 b2 b3 a4 a5 hw, fun gm' => by rw [a1, a2]; rfl⟩
  · have hw : wOf (C 0 p) ≠ 0 := by rw [a1]; decide
    exact ⟨s_and h a1 a2 (Or.inr ⟨rfl, rfl, rfl⟩) a3 b1 b2 b3 a4 a5 hw, fun gm' => by rw [a1, a2]; rfl⟩
  · have hw : wOf (C 0 p) ≠ 0 := by rw [a1]; decide
    exact ⟨s_load hn h a1 a2 a4 a5 a6 hw, fun gm' => by rw [a1, a2]; rfl⟩
  · have hw : wOf (C 0 p) ≠ 0 := by rw [a1]; decide
    exact ⟨s_store hn h a1 a2 a4 a5 hw, fun gm' => by rw [a1, a2]; rfl⟩
  · have hw : wOf (C 0 p) ≠ 0 := by rw [a1]; decide
    exact ⟨s_call hn h a1 a2 a3 b1 b2 b3 b4 b5 a4 a5 a6 hw, fun gm' => by rw [a1, a2]; rfl⟩
  · have hw : wOf (C 0 p) ≠ 0 := by rw [a1]; decide
    exact ⟨s_ret h a1 a2 a4 hw, fun gm' => by rw [a1, a2]; rfl⟩
  · exact ⟨s_fin h a1 a2 a4 a5, fun gm' => by rw [a1, a2]; rfl⟩
  · have hw : wOf (C 0 p) ≠ 0 := by rw [a1]; decide
    exact ⟨s_req h a1 a2 a4 a5 hw, fun gm' => by rw [a1, a2]; rfl⟩
  · exact ⟨s_jump h a1 a2 a3 b1 b2 b3 b4, fun gm' => by rw [a1, a2]; rfl⟩
  · have hw : wOf (C 0 p) ≠ 0 := by rw [a1]; decide
    exact ⟨s_test h a1 a2 a3 b1 b2 b3 a4 a5 hw, fun gm' => by rw [a1, a2]; rfl⟩
end Steps3
