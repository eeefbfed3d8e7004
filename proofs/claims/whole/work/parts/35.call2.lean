/-! the transaction as a whole -/
section Call
variable {n m q f s L : Nat} {C : Nat → Nat → Int32} {ht rk : Nat → Nat} {g : mG} {a b c : Int32}
theorem c_pre (hn : 40 ≤ n) (hCo : Code C m q ht rk) (hA : VA C m q g g) (hf : f < q) (h22 : g.1 22 = nI s) (hs : s ≤ 32) {e P : Nat} (he : C 2 f = nI e) (hP : C 3 f = nI P) (hP3 : P ≤ 3) {gas : Int32} :
    ∃ gc, (∀ K : Int32 → mG → mZ, m_cv (f58 n g) (fun g9 => m_ci (f42 n (nI f) gas a b c g9) K) = m_ci (f42_55 n n gas 0 gc) K) ∧ gc.1 14 = nI 0 ∧ gc.1 15 = nI 1 ∧ gc.1 16 = nI e ∧ gc.1 17 = 3 ∧ gc.1 18 = nI 0 ∧ gc.1 23 = nI s ∧
      (∀ i, i < 8 → gc.2.1 26 i = if i < P then arg3 a b c i else 0) ∧ (∀ j, j < s → gc.2.1 30 j = g.2.1 28 j ∧ gc.2.1 31 j = g.2.1 29 j) ∧ Chg [14, 15, 16, 17, 18, 19, 23] [25, 26, 27, 30, 31] g gc := by
  obtain ⟨a20, a21, a0, a1, a2, a3, -, -, -, -⟩ := hA
  obtain ⟨g9, k1, k2, k3, k4⟩ := c58 (n := n) h22 hs
  have hq8 := hCo.2.1
  have kz : Chg [14, 15, 16, 17, 18, 19, 23] [25, 26, 27, 30, 31] g (gI (gI (gI (gI (gI (gI g9 14 0) 15 0) 16 0) 18 0) 19 0) 17 3) :=
    (k4.mono (by simp) (by simp)).tr ((((((Chg.i 14 _ (by simp)).tr (Chg.i 15 _ (by simp))).tr (Chg.i 16 _ (by simp))).tr (Chg.i 18 _ (by simp))).tr (Chg.i 19 _ (by simp))).tr (Chg.i 17 _ (by simp)))
  have z21 : (gI (gI (gI (gI (gI (gI g9 14 0) 15 0) 16 0) 18 0) 19 0) 17 3).1 21 = nI q := by rw [kz.1 21 (by simp)]; exact a21
  have z24 : (gI (gI (gI (gI (gI (gI g9 14 0) 15 0) 16 0) 18 0) 19 0) 17 3).2.1 24 f = nI P := by rw [kz.2.1 24 (by simp), a3]; exact hP
  obtain ⟨g5, l1, l2, l3, l4⟩ := c43 (n := n) (a := a) (b := b) (c := c) (g := gI (gI (gI (gI (gI (gI g9 14 0) 15 0) 16 0) 18 0) 19 0) 17 3) hP3 (by simp [rI, nI_0])
  have y21 : g5.1 21 = nI q := by rw [l4.1 21 (by simp)]; exact z21
  have y24 : g5.2.1 24 f = nI P := by rw [l4.2.1 24 (by simp)]; exact z24
  have y23 : g5.2.1 23 f = nI e := by rw [l4.2.1 23 (by simp), kz.2.1 23 (by simp), a2]; exact he
  have y15 : g5.1 15 = nI 0 := by rw [l4.1 15 (by simp)]; simp [rI, nI_0]
  have y16 : g5.1 16 = nI 0 := by rw [l4.1 16 (by simp)]; simp [rI, nI_0]
  obtain ⟨gc, o1, o2, o3, o4, o5, o6, o7⟩ := c45 (n := n) (g := g5) (k := 0) (t := 0) (P := P) (p := 0) (e := nI e) (by omega) y21 hf hq8 (by omega) y15 y16 y24 hP3 y23 (by omega) (by rw [Nat.zero_add]; exact l2)
  refine ⟨gc, fun K => ?_, o2, o3, o4, ?_, ?_, ?_, fun i hi => ?_, fun j hj => ?_, kz.tr ((l4.mono (by simp) (by simp)).tr (o7.mono (by simp) (by simp)))⟩
  · rw [k1]
    simp only [m_cv]
    unfold f42
    rw [c35 z21 hf hq8, z24]
    simp only [m_ci]
    rw [l1]
    simp only [m_cv]
    rw [o1]
  · rw [o7.1 17 (by simp), l4.1 17 (by simp)]; simp [rI]
  · rw [o7.1 18 (by simp), l4.1 18 (by simp)]; simp [rI, nI_0]
  · rw [o7.1 23 (by simp), l4.1 23 (by simp)]; simp [rI, k2]
  · rw [o6]
    unfold entP entZ
    by_cases h1 : i < P
    · rw [if_pos (by omega), if_pos h1]
      simp only [Nat.mul_zero, Nat.sub_zero, Nat.zero_add]
      exact l3 i h1
    · rw [if_neg (by omega), if_pos (by omega), if_neg h1]
  · rw [o7.2.1 30 (by simp), o7.2.1 31 (by simp), l4.2.1 30 (by simp), l4.2.1 31 (by simp)]
    exact k3 j hj
theorem m_pre (hn : 40 ≤ n) (hCo : Code C m q ht rk) (h45 : g.2.1 45 = C 4) (h46 : g.2.1 46 = C 5) (h38 : g.1 38 = nI q) (hf : f < q) (h39 : g.1 39 = nI s) (hs : s ≤ 32) (hL : L ≤ 50000) {e P : Nat} (he : C 2 f = nI e) (hP : C 3 f = nI P) (hP3 : P ≤ 3) :
    ∃ gm, f139 n (nI f) (nI L) a b c g = f139_213 n n (nI L) (nI e) gm ∧ gm.1 24 = 0 ∧ gm.1 41 = nI 0 ∧ gm.1 42 = nI 1 ∧ gm.2.1 54 0 = -1 ∧ gm.2.2.1 = lN 0 ∧ gm.1 40 = nI s ∧ (∀ i, i < 8 → gm.2.1 55 i = if i < P then arg3 a b c i else 0) ∧
      (∀ j, j < s → gm.2.1 51 j = g.2.1 49 j ∧ gm.2.1 52 j = g.2.1 50 j) ∧ ChgM [24, 40, 41, 42] [51, 52, 53, 54, 55] g gm := by
  have hq8 := hCo.2.1
  obtain ⟨x1, x2, -⟩ := hCo.2.2.2.2.1 f hf
  have n38' : ¬ g.1 38 ≤ 0 := by rw [h38]; exact nI_nle (by omega) (by omega)
  have p38 : nI q - 1 = nI (q - 1) := by rw [show nI q = nI (q - 1 + 1) by rw [Nat.sub_add_cancel (by omega)], nI_pred]
  have e0 : f139 n (nI f) (nI L) a b c g = f139_101 n n (nI f) (nI L) a b c (nI 0) (gI (gI g 24 0) 40 (nI s)) := by
    unfold f139 f139_12 f139_37 f139_38 f139_51 f139_65 f139_66 f139_82 f90
    rw [if_neg n38', if_neg (by decide), if_neg (nI_pos (by omega)), h38, p38, if_neg (nI_nlt (by omega) (by omega))]
    simp (decide := true) only [reduceIte, m_ci]
    rw [if_neg (nI_pos (by omega)), if_neg (show ¬ (50000 : Int32) < nI L from nI_nlt (a := 50000) (b := L) hL (by decide))]
    simp (decide := true) only [reduceIte, m_ci, m88]
    show f139_101 n n (nI f) (nI L) a b c 0 (gI (gI g 24 0) 40 (g.1 39)) = _
    rw [h39]
    rfl
  obtain ⟨g1, d1, d2, d3, d4⟩ := m101 (n := n) (a := a) (b := b) (c := c) (f := nI f) (gas := nI L) hs s 0 n (gI (gI g 24 0) 40 (nI s)) (by omega) (by omega) (by simp [rI, h39])
  obtain ⟨g2, u1, u2, u3, u4⟩ := m162 (n := n) (a := a) (b := b) (c := c) (P := P) (f := f) (gas := nI L) (g := gC (gI (gI g1 41 0) 42 0) 0) (by omega) hP3 (by omega) (by show g1.2.1 46 f = nI P; rw [d4.2.1 46 (by simp)]; show g.2.1 46 f = nI P; rw [h46, x2]; exact hP) (by show (gI (gI g1 41 0) 42 0).1 41 = nI 0; simp [rI, nI_0])
  obtain ⟨g3, v1, v2, v3, v4, v5, v6⟩ := m141 (n := n) (g := g2) (f := f) (k := 0) (t := 0) (P := P) (e := nI e) (w := -1) (by omega) (by omega) (by omega) (by rw [u4.1 42 (by simp)]; show (gI (gI g1 41 0) 42 0).1 42 = nI 0; simp [rI, nI_0]) (by rw [u4.2.1 46 (by simp)]; show g1.2.1 46 f = nI P; rw [d4.2.1 46 (by simp)]; show g.2.1 46 f = nI P; rw [h46, x2]; exact hP) hP3 (by rw [u4.2.1 45 (by simp)]; show g1.2.1 45 f = nI e; rw [d4.2.1 45 (by simp)]; show g.2.1 45 f = nI e; rw [h45, x1]; exact he) (by omega) (by rw [Nat.zero_add]; exact u2)
  have kA : ChgM [24, 40, 41, 42] [51, 52, 53, 54, 55] g g3 := by
    have k0 : ChgM [24, 40, 41, 42] [51, 52, 53, 54, 55] g (gI (gI g 24 0) 40 (nI s)) := Chg.m (S := [24, 40, 41, 42]) (A := [51, 52, 53, 54, 55]) ((Chg.i 24 _ (by simp)).tr (Chg.i 40 _ (by simp))) (fun _ h => h) (fun _ h => h)
    have k1 : ChgM [24, 40, 41, 42] [51, 52, 53, 54, 55] (gI (gI g 24 0) 40 (nI s)) g1 := d4.m (by simp) (by simp)
    have k2 : ChgM [24, 40, 41, 42] [51, 52, 53, 54, 55] g1 (gC (gI (gI g1 41 0) 42 0) 0) := (Chg.m (S := [24, 40, 41, 42]) (A := [51, 52, 53, 54, 55]) ((Chg.i 41 _ (by simp)).tr (Chg.i 42 _ (by simp))) (fun _ h => h) (fun _ h => h)).tr (ChgM.c 0)
    have k3 : ChgM [24, 40, 41, 42] [51, 52, 53, 54, 55] (gC (gI (gI g1 41 0) 42 0) 0) g2 := u4.m (by simp) (by simp)
    have k4 : ChgM [24, 40, 41, 42] [51, 52, 53, 54, 55] g2 g3 := v6.m (by simp) (by simp)
    exact (((k0.tr k1).tr k2).tr k3).tr k4
  refine ⟨g3, ?_, ?_, v2, v3, ?_, ?_, ?_, fun i hi => ?_, fun j hj => ?_, kA⟩
  · rw [e0, d1, u1, v1]; rfl
  · rw [v6.1 24 (by simp), u4.1 24 (by simp)]; show (gI (gI g1 41 0) 42 0).1 24 = 0; simp only [rI]; simp (decide := true) only [reduceIte]; rw [d4.1 24 (by simp)]; simp [rI]
  · rw [v4]; simp [upd]
  · rw [v6.2.2, u4.2.2]; rfl
  · rw [v6.1 40 (by simp), u4.1 40 (by simp)]; show (gI (gI g1 41 0) 42 0).1 40 = nI s; simp only [rI]; simp (decide := true) only [reduceIte]; rw [d4.1 40 (by simp)]; simp [rI]
  · rw [v5]
    unfold entP entZ
    by_cases h1 : i < P
    · rw [if_pos (by omega), if_pos h1]
      simp only [Nat.mul_zero, Nat.sub_zero, Nat.zero_add]
      exact u3 i h1
    · rw [if_neg (by omega), if_pos (by omega), if_neg h1]
  · rw [v6.2.1 51 (by simp), v6.2.1 52 (by simp), u4.2.1 51 (by simp), u4.2.1 52 (by simp)]
    exact d2 j (by omega) hj
end Call
