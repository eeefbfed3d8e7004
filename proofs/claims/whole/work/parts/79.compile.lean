/-! compile -/
theorem m_ti_s (v : Int32) (g : mG) (k : Int32 → mG → mZ) (c : Nat → mG → mZ) : m_ti (some (.inl (some (.int v)), g)) k c = k v g := rfl
theorem m_tv_s (g : mG) (k : mG → mZ) (c : Nat → mG → mZ) : m_tv (some (.inl none, g)) k c = k g := rfl
section Cmp
variable {n N s a q m M h k E : Nat} {t g gm gb : mG} {ht rk : Nat → Nat}
/-- the reference begins -/
theorem p_first (hn : 700 ≤ n) (h25 : gb.1 25 = nI N) (hN : N ≤ 600) (hT : gb.2.1 32 = t.2.1 8) (hC : Cut t N s) (h9 : t.1 9 = nI N) (hS : ST t g) (h5 : g.1 5 = nI 0) (h12 : g.1 12 = nI 0) (h13 : g.1 13 = nI 0) : ∃ gm, f91 n gb = f91_55 n n gm ∧ FS t g gm N s 0 0 0 (fun _ => 0) (fun _ => 1) ∧ gm.1 31 = nI 1 ∧ gm.2.1 33 0 = 40 ∧ Chg [24, 26, 27, 28, 29, 30, 31, 32, 33, 34, 35, 36, 37] MA gb gm := by
  have C0 : Chg [24, 28, 30, 31, 32, 33, 34, 35, 37] [] gb (gI (gI (gI (gI (gI (gI (gI (gI (gI gb 24 (0 : Int32)) 30 (-1 : Int32)) 31 (0 : Int32)) 32 (0 : Int32)) 33 (0 : Int32)) 34 (0 : Int32)) 35 (0 : Int32)) 37 (0 : Int32)) 28 (0 : Int32)) := (Chg.i 24 _ (by simp)).tr ((Chg.i 30 _ (by simp)).tr ((Chg.i 31 _ (by simp)).tr ((Chg.i 32 _ (by simp)).tr ((Chg.i 33 _ (by simp)).tr ((Chg.i 34 _ (by simp)).tr ((Chg.i 35 _ (by simp)).tr ((Chg.i 37 _ (by simp)).tr (Chg.i 28 _ (by simp)))))))))
  have e28 : (gI (gI (gI (gI (gI (gI (gI (gI (gI gb 24 (0 : Int32)) 30 (-1 : Int32)) 31 (0 : Int32)) 32 (0 : Int32)) 33 (0 : Int32)) 34 (0 : Int32)) 35 (0 : Int32)) 37 (0 : Int32)) 28 (0 : Int32)).1 28 = nI 0 := by simp [rI]; rfl
  have e30 : (gI (gI (gI (gI (gI (gI (gI (gI (gI gb 24 (0 : Int32)) 30 (-1 : Int32)) 31 (0 : Int32)) 32 (0 : Int32)) 33 (0 : Int32)) 34 (0 : Int32)) 35 (0 : Int32)) 37 (0 : Int32)) 28 (0 : Int32)).1 30 = -1 := by simp [rI]
  have e31 : (gI (gI (gI (gI (gI (gI (gI (gI (gI gb 24 (0 : Int32)) 30 (-1 : Int32)) 31 (0 : Int32)) 32 (0 : Int32)) 33 (0 : Int32)) 34 (0 : Int32)) 35 (0 : Int32)) 37 (0 : Int32)) 28 (0 : Int32)).1 31 = nI 0 := by simp [rI]; rfl
  have e32 : (gI (gI (gI (gI (gI (gI (gI (gI (gI gb 24 (0 : Int32)) 30 (-1 : Int32)) 31 (0 : Int32)) 32 (0 : Int32)) 33 (0 : Int32)) 34 (0 : Int32)) 35 (0 : Int32)) 37 (0 : Int32)) 28 (0 : Int32)).1 32 = nI 0 := by simp [rI]; rfl
  have e33 : (gI (gI (gI (gI (gI (gI (gI (gI (gI gb 24 (0 : Int32)) 30 (-1 : Int32)) 31 (0 : Int32)) 32 (0 : Int32)) 33 (0 : Int32)) 34 (0 : Int32)) 35 (0 : Int32)) 37 (0 : Int32)) 28 (0 : Int32)).1 33 = nI 0 := by simp [rI]; rfl
  have e34 : (gI (gI (gI (gI (gI (gI (gI (gI (gI gb 24 (0 : Int32)) 30 (-1 : Int32)) 31 (0 : Int32)) 32 (0 : Int32)) 33 (0 : Int32)) 34 (0 : Int32)) 35 (0 : Int32)) 37 (0 : Int32)) 28 (0 : Int32)).1 34 = nI 0 := by simp [rI]; rfl
  have e35 : (gI (gI (gI (gI (gI (gI (gI (gI (gI gb 24 (0 : Int32)) 30 (-1 : Int32)) 31 (0 : Int32)) 32 (0 : Int32)) 33 (0 : Int32)) 34 (0 : Int32)) 35 (0 : Int32)) 37 (0 : Int32)) 28 (0 : Int32)).1 35 = nI 0 := by simp [rI]; rfl
  have e37 : (gI (gI (gI (gI (gI (gI (gI (gI (gI gb 24 (0 : Int32)) 30 (-1 : Int32)) 31 (0 : Int32)) 32 (0 : Int32)) 33 (0 : Int32)) 34 (0 : Int32)) 35 (0 : Int32)) 37 (0 : Int32)) 28 (0 : Int32)).1 37 = nI 0 := by simp [rI]; rfl
  have ef : f91 n gb = m_cv (f92 n (gI (gI (gI (gI (gI (gI (gI (gI (gI gb 24 (0 : Int32)) 30 (-1 : Int32)) 31 (0 : Int32)) 32 (0 : Int32)) 33 (0 : Int32)) 34 (0 : Int32)) 35 (0 : Int32)) 37 (0 : Int32)) 28 (0 : Int32))) (fun g1 => m_cv (f100 n (40 : Int32) g1) (fun g5 => f91_55 n n g5)) := rfl
  generalize gI (gI (gI (gI (gI (gI (gI (gI (gI gb 24 (0 : Int32)) 30 (-1 : Int32)) 31 (0 : Int32)) 32 (0 : Int32)) 33 (0 : Int32)) 34 (0 : Int32)) 35 (0 : Int32)) 37 (0 : Int32)) 28 (0 : Int32) = g0 at C0 e28 e30 e31 e32 e33 e34 e35 e37 ef
  have T := (hC.tok (i := 0) (by omega)).2.2.2.2
  have a6 : g0.2.1 32 = t.2.1 8 := by rw [C0.2.1 32 (by simp)]; exact hT
  rw [← a6] at T
  obtain ⟨g1, w1, w2, w3, w4, w5, w6⟩ := m92 (n := n) hn (by rw [C0.1 25 (by simp)]; exact h25) hN e28 T
  have x31 : g1.1 31 = nI 0 := by rw [w6.1 31 (by simp)]; exact e31
  rw [w1, m_cv_s, m100 (h := 0) (by omega) x31, m_cv_s] at ef
  have C1 : Chg [24, 26, 27, 28, 29, 30, 31, 32, 33, 34, 35, 36, 37] MA gb (pu g1 0 40) := (C0.mono (by simp) (by simp)).tr ((w6.mono (by simp) (by simp)).tr (pu_c.mono (by simp) (by simp)))
  have Cp : Chg [31] [33] g1 (pu g1 0 40) := pu_c
  refine ⟨pu g1 0 40, ef, ⟨⟨⟨hN, hC, h9, hS, ?_, ?_⟩, by omega, h5, ⟨?_, ?_, ?_, fun h => ?_⟩, ?_, ?_⟩, ⟨by omega, h13, ?_, ⟨fun i hi => by omega, fun i j hi hj => by omega⟩⟩, ⟨h12, ?_, by omega, fun f hf => by omega, fun i hi => by omega⟩, rfl, fun _ _ => rfl, fun _ => Nat.zero_le 88, fun _ => (show 1 ≤ 17 by decide), by omega, ?_, ?_⟩, pu_h, pu_t, C1⟩
  · rw [C1.1 25 (by simp)]; exact h25
  · rw [C1.2.1 32 (by simp)]; exact hT
  · rw [Cp.1 26 (by simp)]; exact w2
  · rw [Cp.1 27 (by simp)]; exact w3
  · rw [Cp.1 28 (by simp)]; exact w4
  · rw [Cp.1 29 (by simp)]; exact w5 h
  · rw [Cp.1 30 (by simp), w6.1 30 (by simp)]; exact e30
  · rw [Cp.1 34 (by simp), w6.1 34 (by simp)]; exact e34
  · rw [Cp.1 35 (by simp), w6.1 35 (by simp)]; exact e35
  · rw [Cp.1 37 (by simp), w6.1 37 (by simp)]; exact e37
  · rw [Cp.1 32 (by simp), w6.1 32 (by simp)]; exact e32
  · rw [Cp.1 33 (by simp), w6.1 33 (by simp)]; exact e33
theorem m157c (hM : M ≤ 600) : ∀ (d k c : Nat) (g : mG), k + d = M → d < c → g.1 37 = nI M → (∀ i, i < k → g.2.1 47 i = g.2.1 43 i ∧ g.2.1 48 i = g.2.1 44 i) → ∃ g', f91_157 n c (nI k) g = some (.inl (some (.int (-1))), g') ∧ Chg [] [47, 48] g g' ∧ ∀ i, i < M → g'.2.1 47 i = g.2.1 43 i ∧ g'.2.1 48 i = g.2.1 44 i := by
  intro d
  induction d with
  | zero =>
    intro k c g hk hc h37 hf
    obtain ⟨c, rfl⟩ : ∃ z, c = z + 1 := ⟨c - 1, by omega⟩
    refine ⟨g, ?_, Chg.rf _, fun i hi => hf i (by omega)⟩
    rw [f91_157, h37, if_pos (nI_le (by omega) (by omega))]
  | succ d ih =>
    intro k c g hk hc h37 hf
    obtain ⟨c, rfl⟩ : ∃ z, c = z + 1 := ⟨c - 1, by omega⟩
    have hin : ¬ (nI k < 0 ∨ 2400 ≤ Int32.toNatClampNeg (nI k)) := nI_in (c := k) (N := 2400) (by omega) (by decide)
    have C1 : Chg [] [47, 48] g (gS (gS g 47 (upd (g.2.1 47) k (g.2.1 43 k))) 48 (upd (g.2.1 48) k (g.2.1 44 k))) := (Chg.s 47 _ (by simp)).tr (Chg.s 48 _ (by simp))
    have e47 : (gS (gS g 47 (upd (g.2.1 47) k (g.2.1 43 k))) 48 (upd (g.2.1 48) k (g.2.1 44 k))).2.1 47 = upd (g.2.1 47) k (g.2.1 43 k) := by simp [rS]
    have e48 : (gS (gS g 47 (upd (g.2.1 47) k (g.2.1 43 k))) 48 (upd (g.2.1 48) k (g.2.1 44 k))).2.1 48 = upd (g.2.1 48) k (g.2.1 44 k) := by simp [rS]
    rw [f91_157, h37, if_neg (nI_ge (by omega) (by omega)), if_neg hin, if_neg hin, if_neg hin, if_neg hin, nI_clamp (by omega), nI_1]
    obtain ⟨g', e1, e2, e3⟩ := ih (k + 1) c (gS (gS g 47 (upd (g.2.1 47) k (g.2.1 43 k))) 48 (upd (g.2.1 48) k (g.2.1 44 k))) (by omega) (by omega) h37 (fun i hi => by
      rw [e47, e48, C1.2.1 43 (by simp), C1.2.1 44 (by simp)]
      by_cases hz : i = k
      · subst hz; exact ⟨upd_s, upd_s⟩
      · rw [upd_o hz, upd_o hz]; exact hf i (by omega))
    refine ⟨g', e1, C1.tr e2, fun i hi => ?_⟩
    have := e3 i hi
    rw [C1.2.1 43 (by simp), C1.2.1 44 (by simp)] at this
    exact this
theorem m117c (hq : q ≤ 8) : ∀ (d k c : Nat) (g : mG), k + d = q → d < c → g.1 35 = nI q → (∀ i, i < k → g.2.1 45 i = g.2.1 38 i ∧ g.2.1 46 i = g.2.1 39 i) → ∃ g', f91_117 n c (nI k) g = f91_157 n n 0 g' ∧ Chg [] [45, 46] g g' ∧ ∀ i, i < q → g'.2.1 45 i = g.2.1 38 i ∧ g'.2.1 46 i = g.2.1 39 i := by
  intro d
  induction d with
  | zero =>
    intro k c g hk hc h35 hf
    obtain ⟨c, rfl⟩ : ∃ z, c = z + 1 := ⟨c - 1, by omega⟩
    refine ⟨g, ?_, Chg.rf _, fun i hi => hf i (by omega)⟩
    rw [f91_117, h35, if_pos (nI_le (by omega) (by omega))]
  | succ d ih =>
    intro k c g hk hc h35 hf
    obtain ⟨c, rfl⟩ : ∃ z, c = z + 1 := ⟨c - 1, by omega⟩
    have hin : ¬ (nI k < 0 ∨ 9 ≤ Int32.toNatClampNeg (nI k)) := nI_in (c := k) (N := 9) (by omega) (by decide)
    have hin8 : ¬ (nI k < 0 ∨ 8 ≤ Int32.toNatClampNeg (nI k)) := nI_in (c := k) (N := 8) (by omega) (by decide)
    have C1 : Chg [] [45, 46] g (gS (gS g 45 (upd (g.2.1 45) k (g.2.1 38 k))) 46 (upd (g.2.1 46) k (g.2.1 39 k))) := (Chg.s 45 _ (by simp)).tr (Chg.s 46 _ (by simp))
    have e47 : (gS (gS g 45 (upd (g.2.1 45) k (g.2.1 38 k))) 46 (upd (g.2.1 46) k (g.2.1 39 k))).2.1 45 = upd (g.2.1 45) k (g.2.1 38 k) := by simp [rS]
    have e48 : (gS (gS g 45 (upd (g.2.1 45) k (g.2.1 38 k))) 46 (upd (g.2.1 46) k (g.2.1 39 k))).2.1 46 = upd (g.2.1 46) k (g.2.1 39 k) := by simp [rS]
    rw [f91_117, h35, if_neg (nI_ge (by omega) (by omega)), if_neg hin, if_neg hin8, if_neg hin, if_neg hin8, nI_clamp (by omega), nI_1]
    obtain ⟨g', e1, e2, e3⟩ := ih (k + 1) c (gS (gS g 45 (upd (g.2.1 45) k (g.2.1 38 k))) 46 (upd (g.2.1 46) k (g.2.1 39 k))) (by omega) (by omega) h35 (fun i hi => by
      rw [e47, e48, C1.2.1 38 (by simp), C1.2.1 39 (by simp)]
      by_cases hz : i = k
      · subst hz; exact ⟨upd_s, upd_s⟩
      · rw [upd_o hz, upd_o hz]; exact hf i (by omega))
    refine ⟨g', e1, C1.tr e2, fun i hi => ?_⟩
    have := e3 i hi
    rw [C1.2.1 38 (by simp), C1.2.1 39 (by simp)] at this
    exact this
/-- the reference ends -/
theorem p_last (hn : 700 ≤ n) (h30 : gm.1 30 = -1) (h35 : gm.1 35 = nI q) (hq : q ≤ 8) (h37 : gm.1 37 = nI M) (hM : M ≤ 600) : ∃ gm', f91_95 n gm = some (.inl (some (.int (-1))), gm') ∧ gm'.1 38 = nI q ∧ Chg [38] [45, 46, 47, 48] gm gm' ∧ (∀ f, f < q → gm'.2.1 45 f = gm.2.1 38 f ∧ gm'.2.1 46 f = gm.2.1 39 f) ∧ ∀ i, i < M → gm'.2.1 47 i = gm.2.1 43 i ∧ gm'.2.1 48 i = gm.2.1 44 i := by
  have C0 : Chg [38] [] gm (gI gm 38 (gm.1 35)) := Chg.i 38 _ (by simp)
  obtain ⟨g1, e1, c1, k1⟩ := m117c (n := n) hq q 0 n (gI gm 38 (gm.1 35)) (by omega) (by omega) (by rw [C0.1 35 (by simp)]; exact h35) (fun i hi => by omega)
  obtain ⟨g2, e2, c2, k2⟩ := m157c (n := n) hM M 0 n g1 (by omega) (by omega) (by rw [c1.1 37 (by simp), C0.1 37 (by simp)]; exact h37) (fun i hi => by omega)
  refine ⟨g2, ?_, ?_, (C0.mono (by simp) (by simp)).tr ((c1.mono (by simp) (by simp)).tr (c2.mono (by simp) (by simp))), fun f hf => ?_, fun i hi => ?_⟩
  · unfold f91_95
    rw [h30, if_pos (by decide)]
    exact e1.trans e2
  · rw [c2.1 38 (by simp), c1.1 38 (by simp)]; simp [rI, h35]
  · rw [c2.2.1 45 (by simp), c2.2.1 46 (by simp)]; exact k1 f hf
  · have := k2 i hi
    rw [c1.2.1 43 (by simp), c1.2.1 44 (by simp)] at this
    exact this
theorem cpy_at {f d : Nat → Int32} {L i : Nat} (hi : i < L) : va_cpy f d 0 0 L i = f i := by
  unfold va_cpy
  simp [hi]
/-- compile: both answer alike -/
theorem p_compile (hn : 20000 ≤ n) (hJ : J g) : ∃ v g1 g2, f77 n g = some (.inl (some (.int v)), g1) ∧ f91 n g1 = some (.inl (some (.int v)), g2) ∧ J g2 := by
  obtain ⟨⟨N, j0, j25, jN, j8⟩, ⟨sK, k1, k2, k3, k4, k5, k6⟩, ⟨r1, r2, r3⟩, hJC⟩ := hJ
  obtain ⟨t, s, e61, hC, h9, Ct⟩ := c61 (n := n) (N := N) (g := g) (by omega) jN
  have h0 : f0 n (g.1 0) g = f0_28 n n 0 (gI (gI (gI (gI t 12 0) 13 0) 5 0) 6 (-1)) := by
    unfold f0 f31_3
    rw [j0, e61]
    rfl
  have C2 : Chg [5, 6, 12, 13] [] t (gI (gI (gI (gI t 12 0) 13 0) 5 0) 6 (-1)) := (Chg.i 12 _ (by simp)).tr ((Chg.i 13 _ (by simp)).tr ((Chg.i 5 _ (by simp)).tr (Chg.i 6 _ (by simp))))
  have q5 : (gI (gI (gI (gI t 12 0) 13 0) 5 0) 6 (-1)).1 5 = nI 0 := by simp [rI]; rfl
  have q12 : (gI (gI (gI (gI t 12 0) 13 0) 5 0) 6 (-1)).1 12 = nI 0 := by simp [rI]; rfl
  have q13 : (gI (gI (gI (gI t 12 0) 13 0) 5 0) 6 (-1)).1 13 = nI 0 := by simp [rI]; rfl
  generalize gI (gI (gI (gI t 12 0) 13 0) 5 0) 6 (-1) = g2 at h0 C2 q5 q12 q13
  have hS : ST t g2 := ⟨C2.1 8 (by simp), C2.1 9 (by simp), C2.2.1 8 (by simp), C2.2.1 12 (by simp), C2.2.1 13 (by simp), C2.2.1 14 (by simp), C2.2.1 15 (by simp)⟩
  have t8 : t.2.1 8 = g.2.1 8 := Ct.2.1 8 (by simp)
  have W : ∀ gb : mG, gb.1 25 = nI N → gb.2.1 32 = t.2.1 8 → ∃ gm, f91 n gb = f91_55 n n gm ∧ Chg [24, 26, 27, 28, 29, 30, 31, 32, 33, 34, 35, 36, 37] MA gb gm ∧ TT n g2 gm 19000 (f0_28 n n 0 g2) := fun gb h25 h32 => by
    obtain ⟨gm, w1, w2, w3, w4, w5⟩ := p_first (n := n) (g := g2) (by omega) h25 jN h32 hC h9 hS q5 q12 q13
    exact ⟨gm, w1, w5, p_text (by omega) w2 w3 w4 (by omega)⟩
  obtain ⟨gd, -, -, T0⟩ := W g j25 (by rw [t8, j8])
  have Cgt : Chg [5, 6, 8, 9, 10, 11, 12, 13] [12, 13, 14, 15] g g2 := (Ct.mono (by simp) (by simp)).tr (C2.mono (by simp) (by simp))
  rcases T0 with ⟨g3, -, -, q', M', -, -, e1, -, -, e4, -, -, -⟩ | ⟨g3, -, -, e1, -, -, e4, -, e6⟩
  · have Cg3 : Chg [5, 6, 7, 8, 9, 10, 11, 12, 13] [9, 10, 11, 12, 13, 14, 15, 17, 18, 19, 20] g g3 := (Cgt.mono (by simp) (by simp)).tr (e4.mono (by simp) (by simp))
    obtain ⟨gF, e77, F1, F20, F21, F17, F18, F19, F20a, CF⟩ : ∃ gF, f77 n g = some (.inl (some (.int (-1))), gF) ∧ gF.1 1 = 1 ∧ gF.1 20 = g3.1 12 ∧ gF.1 21 = g3.1 13 ∧ (∀ i, i < 600 → gF.2.1 21 i = g3.2.1 17 i) ∧ (∀ i, i < 600 → gF.2.1 22 i = g3.2.1 18 i) ∧ (∀ i, i < 8 → gF.2.1 23 i = g3.2.1 19 i) ∧ (∀ i, i < 8 → gF.2.1 24 i = g3.2.1 20 i) ∧ Chg [1, 20, 21] [21, 22, 23, 24] g3 gF := by
      refine ⟨gI (gS (gS (gS (gS (gI (gI g3 20 (g3.1 12)) 21 (g3.1 13)) 21 (va_cpy (g3.2.1 17) (g3.2.1 21) 0 0 600)) 22 (va_cpy (g3.2.1 18) (g3.2.1 22) 0 0 600)) 23 (va_cpy (g3.2.1 19) (g3.2.1 23) 0 0 8)) 24 (va_cpy (g3.2.1 20) (g3.2.1 24) 0 0 8)) 1 1, ?_, ?_, ?_, ?_, fun i hi => ?_, fun i hi => ?_, fun i hi => ?_, fun i hi => ?_, ?_⟩
      · have ek : f38_5_3 n g3 = some (.inl none, gS (gS (gS (gS (gI (gI g3 20 (g3.1 12)) 21 (g3.1 13)) 21 (va_cpy (g3.2.1 17) (g3.2.1 21) 0 0 600)) 22 (va_cpy (g3.2.1 18) (g3.2.1 22) 0 0 600)) 23 (va_cpy (g3.2.1 19) (g3.2.1 23) 0 0 8)) 24 (va_cpy (g3.2.1 20) (g3.2.1 24) 0 0 8)) := by
          unfold f38_5_3
          rw [if_pos (by decide), if_pos (by decide), if_pos (by decide), if_pos (by decide)]
          rfl
        unfold f77
        rw [h0, e1, m_ti_s, if_neg (fun w => w rfl), ek, m_tv_s]
      · simp [rI]
      · simp [rI, rS1]
      · simp [rI, rS1]
      · show va_cpy (g3.2.1 17) (g3.2.1 21) 0 0 600 i = _
        exact cpy_at hi
      · show va_cpy (g3.2.1 18) (g3.2.1 22) 0 0 600 i = _
        exact cpy_at hi
      · show va_cpy (g3.2.1 19) (g3.2.1 23) 0 0 8 i = _
        exact cpy_at hi
      · show va_cpy (g3.2.1 20) (g3.2.1 24) 0 0 8 i = _
        exact cpy_at hi
      · exact (Chg.i 20 _ (by simp)).tr ((Chg.i 21 _ (by simp)).tr ((Chg.s 21 _ (by simp)).tr ((Chg.s 22 _ (by simp)).tr ((Chg.s 23 _ (by simp)).tr ((Chg.s 24 _ (by simp)).tr (Chg.i 1 _ (by simp)))))))
    have CgF : Chg [1, 5, 6, 7, 8, 9, 10, 11, 12, 13, 20, 21] [9, 10, 11, 12, 13, 14, 15, 17, 18, 19, 20, 21, 22, 23, 24] g gF := (Cg3.mono (by simp) (by simp)).tr (CF.mono (by simp) (by simp))
    obtain ⟨gm, w1, w2, T⟩ := W gF (by rw [CgF.1 25 (by simp)]; exact j25) (by rw [CgF.2.1 32 (by simp), t8, j8])
    rcases T with ⟨g4, gm4, kk, q, M, ht, rk, f1, f2, f3, f4, f5, f6, f7, f8, f9, f10, ⟨d1, d2, d3, d4, d5⟩, f12, f13⟩ | ⟨g4, gm4, kk, f1, f2, f3, f4, f5, f6⟩
    · have h43 : g4 = g3 := by
        have := f1.symm.trans e1
        simpa using this
      subst h43
      obtain ⟨gm', l1, l2, l3, l4, l5⟩ := p_last (n := n) (by omega) f6 f10 f8 d2 d3
      have hr : f91 n gF = some (.inl (some (.int (-1))), gm') := by
        rw [w1, show n = (n - kk) + kk by omega]
        have := f2 (n - kk)
        rw [show (n - kk) + kk = n by omega] at this ⊢
        rw [this]; exact l1
      have Cm : Chg [24, 26, 27, 28, 29, 30, 31, 32, 33, 34, 35, 36, 37, 38] [33, 34, 35, 36, 37, 38, 39, 40, 41, 42, 43, 44, 45, 46, 47, 48] gF gm' := (w2.mono (by simp) (by simp)).tr ((f5.mono (by simp) (by simp)).tr (l3.mono (by simp) (by simp)))
      refine ⟨-1, gF, gm', e77, hr, ⟨N, ?_, ?_, jN, ?_⟩, ⟨sK, ?_, ?_, k3, ?_, ?_, ?_⟩, ⟨?_, ?_, ?_⟩, Or.inr ⟨?_, fun x => if x = 0 then gm'.2.1 21 else if x = 1 then gm'.2.1 22 else if x = 2 then gm'.2.1 23 else if x = 3 then gm'.2.1 24 else if x = 4 then gm'.2.1 45 else if x = 5 then gm'.2.1 46 else if x = 6 then gm'.2.1 47 else gm'.2.1 48, M, q, ht, rk, f7, l2, ⟨?_, ?_, rfl, rfl, rfl, rfl, rfl, rfl, rfl, rfl⟩, d3, f8, f12, f13, fun f hf => ?_, fun i hi => ?_⟩⟩
      · rw [Cm.1 0 (by simp), CgF.1 0 (by simp)]; exact j0
      · rw [Cm.1 25 (by simp), CgF.1 25 (by simp)]; exact j25
      · rw [Cm.2.1 8 (by simp), CgF.2.1 8 (by simp), Cm.2.1 32 (by simp), CgF.2.1 32 (by simp)]; exact j8
      · rw [Cm.1 22 (by simp), CgF.1 22 (by simp)]; exact k1
      · rw [Cm.1 39 (by simp), CgF.1 39 (by simp)]; exact k2
      · rw [Cm.2.1 28 (by simp), CgF.2.1 28 (by simp), Cm.2.1 49 (by simp), CgF.2.1 49 (by simp)]; exact k4
      · rw [Cm.2.1 29 (by simp), CgF.2.1 29 (by simp), Cm.2.1 50 (by simp), CgF.2.1 50 (by simp)]; exact k5
      · rw [Cm.2.1 28 (by simp), CgF.2.1 28 (by simp)]; exact k6
      · rw [Cm.1 2 (by simp), CgF.1 2 (by simp), Cm.1 43 (by simp), CgF.1 43 (by simp)]; exact r1
      · rw [Cm.1 3 (by simp), CgF.1 3 (by simp), Cm.1 44 (by simp), CgF.1 44 (by simp)]; exact r2
      · rw [Cm.1 4 (by simp), CgF.1 4 (by simp), Cm.1 45 (by simp), CgF.1 45 (by simp)]; exact r3
      · rw [Cm.1 1 (by simp)]; exact F1
      · rw [Cm.1 20 (by simp), F20]; exact d1
      · rw [Cm.1 21 (by simp), F21]; exact f9
      · show gm'.2.1 45 f = gm'.2.1 23 f ∧ gm'.2.1 46 f = gm'.2.1 24 f ∧ ∃ e P, gm'.2.1 23 f = nI e ∧ gm'.2.1 24 f = nI P ∧ e < M ∧ P ≤ 3 ∧ ht e = 0
        rw [(l4 f hf).1, (l4 f hf).2, Cm.2.1 23 (by simp), Cm.2.1 24 (by simp), F19 f (by omega), F20a f (by omega)]
        exact d4 f hf
      · show LC (gm'.2.1 24) M q ht rk i (gm'.2.1 21 i) (gm'.2.1 22 i) (gm'.2.1 47 i) (gm'.2.1 48 i)
        rw [(l5 i hi).1, (l5 i hi).2, Cm.2.1 21 (by simp), Cm.2.1 22 (by simp), Cm.2.1 24 (by simp), F17 i (by omega), F18 i (by omega)]
        exact (d5 i hi).pa (fun f hf => F20a f (by omega))
    · exfalso
      have e := f1.symm.trans e1
      injection e with e
      injection e with e e'
      injection e with e
      injection e with e
      injection e with e
      exact f6 (by rw [e]; decide)
  · have hne : ¬ g3.1 6 = -1 := fun w => e6 (by rw [w]; decide)
    have e77 : f77 n g = some (.inl (some (.int (g3.1 6))), g3) := by
      unfold f77
      rw [h0, e1, m_ti_s, if_pos hne]
    have Cg3 : Chg [5, 6, 7, 8, 9, 10, 11, 12, 13] [9, 10, 11, 12, 13, 14, 15, 17, 18, 19, 20] g g3 := (Cgt.mono (by simp) (by simp)).tr (e4.mono (by simp) (by simp))
    obtain ⟨gm, w1, w2, T⟩ := W g3 (by rw [Cg3.1 25 (by simp)]; exact j25) (by rw [Cg3.2.1 32 (by simp), t8, j8])
    rcases T with ⟨g4, gm4, kk, q, M, ht, rk, f1, _⟩ | ⟨g4, gm4, kk, f1, f2, f3, f4, f5, f6⟩
    · exfalso
      have e := f1.symm.trans e1
      injection e with e
      injection e with e e'
      injection e with e
      injection e with e
      injection e with e
      exact hne e.symm
    · have h43 : g4 = g3 := by
        have := f1.symm.trans e1
        injection this with e
        injection e with e e'
      subst h43
      have hr : f91 n g4 = some (.inl (some (.int (g4.1 6))), gm4) := by
        have := f2 (n - kk)
        rw [show (n - kk) + kk = n by omega] at this
        rw [w1, this]
      have Cm : Chg [24, 26, 27, 28, 29, 30, 31, 32, 33, 34, 35, 36, 37] MA g4 gm4 := w2.tr (f5.mono (by simp) (by simp))
      refine ⟨g4.1 6, g4, gm4, e77, hr, ⟨N, ?_, ?_, jN, ?_⟩, ⟨sK, ?_, ?_, k3, ?_, ?_, ?_⟩, ⟨?_, ?_, ?_⟩, ?_⟩
      · rw [Cm.1 0 (by simp), Cg3.1 0 (by simp)]; exact j0
      · rw [Cm.1 25 (by simp), Cg3.1 25 (by simp)]; exact j25
      · rw [Cm.2.1 8 (by simp), Cg3.2.1 8 (by simp), Cm.2.1 32 (by simp), Cg3.2.1 32 (by simp)]; exact j8
      · rw [Cm.1 22 (by simp), Cg3.1 22 (by simp)]; exact k1
      · rw [Cm.1 39 (by simp), Cg3.1 39 (by simp)]; exact k2
      · rw [Cm.2.1 28 (by simp), Cg3.2.1 28 (by simp), Cm.2.1 49 (by simp), Cg3.2.1 49 (by simp)]; exact k4
      · rw [Cm.2.1 29 (by simp), Cg3.2.1 29 (by simp), Cm.2.1 50 (by simp), Cg3.2.1 50 (by simp)]; exact k5
      · rw [Cm.2.1 28 (by simp), Cg3.2.1 28 (by simp)]; exact k6
      · rw [Cm.1 2 (by simp), Cg3.1 2 (by simp), Cm.1 43 (by simp), Cg3.1 43 (by simp)]; exact r1
      · rw [Cm.1 3 (by simp), Cg3.1 3 (by simp), Cm.1 44 (by simp), Cg3.1 44 (by simp)]; exact r2
      · rw [Cm.1 4 (by simp), Cg3.1 4 (by simp), Cm.1 45 (by simp), Cg3.1 45 (by simp)]; exact r3
      · exact hJC.kp ((Cm.1 1 (by simp)).trans (Cg3.1 1 (by simp))) ((Cm.1 38 (by simp)).trans (Cg3.1 38 (by simp))) ((Cm.1 20 (by simp)).trans (Cg3.1 20 (by simp))) ((Cm.1 21 (by simp)).trans (Cg3.1 21 (by simp))) (fun a y z => (Cm.2.1 a (by simp; omega)).trans (Cg3.2.1 a (by simp; omega))) (fun a y z => (Cm.2.1 a (by simp; omega)).trans (Cg3.2.1 a (by simp; omega)))
end Cmp
