/-! a function, and the whole text -/
def CF (g gm : mG) (M q : Nat) (ht rk : Nat → Nat) : Prop := g.1 12 = nI M ∧ gm.1 37 = nI M ∧ M ≤ 600 ∧
  (∀ f, f < q → gm.2.1 38 f = g.2.1 19 f ∧ gm.2.1 39 f = g.2.1 20 f ∧ ∃ e P, g.2.1 19 f = nI e ∧ g.2.1 20 f = nI P ∧ e < M ∧ P ≤ 3 ∧ ht e = 0) ∧
  ∀ i, i < M → LC (g.2.1 20) M q ht rk i (g.2.1 17 i) (g.2.1 18 i) (gm.2.1 43 i) (gm.2.1 44 i)
def FS (t g gm : mG) (N s a q M : Nat) (ht rk : Nat → Nat) : Prop := HB t g gm N s a ∧ HN t g gm s q ∧ CF g gm M q ht rk ∧ ht M = 0 ∧ (∀ i, M ≤ i → rk i = 1) ∧ (∀ i, ht i ≤ 88) ∧ (∀ i, rk i ≤ 17) ∧ M ≤ a ∧ gm.1 32 = nI 0 ∧ gm.1 33 = nI 0
/-- a function, as the class reads it -/
def fnp (n : Nat) (g : mG) : mZ := m_cv (f2 n g) (fun g11 => m_cv (f5 n g11) (fun g15 => m_cv (m_P n 300 11 (0 : Int32) 0 0 g15) (fun g19 => m_ci (f34_3 n (42 : Int32) (0 : Int32) g19) (fun _ g23 => some (.inl none, g23)))))
section Txt
variable {n N s a D v q m M h k y E R P p l : Nat} {t g gm gx : mG} {ht rk : Nat → Nat} {ho : Nat → Prop}
theorem CF.cg (hC : CF g gm M q ht rk) : CG g gm M q ht rk (fun _ => False) := by
  obtain ⟨d1, d2, d3, d4, d5⟩ := hC
  refine ⟨d1, d2, d3, fun f hf => ?_, fun i hi _ => (d5 i hi).mono hi (by omega) (Nat.le_refl _) (fun _ _ => rfl) rfl (fun _ _ => Nat.le_refl _)⟩
  obtain ⟨e1, e2, e, P, e3, e4, e5, e6, e7⟩ := d4 f hf
  exact ⟨e1, e2, e, P, e3, e4, by omega, e6, e7⟩
theorem CF.kp {g' gm' : mG} (hC : CF g gm M q ht rk) (h1 : g'.1 12 = g.1 12) (h2 : gm'.1 37 = gm.1 37) (c1 : ∀ x, 17 ≤ x → x ≤ 20 → g'.2.1 x = g.2.1 x) (c2 : ∀ x, x = 38 ∨ x = 39 ∨ x = 43 ∨ x = 44 → gm'.2.1 x = gm.2.1 x) : CF g' gm' M q ht rk := by
  unfold CF
  rw [h1, h2, c1 17 (by omega) (by omega), c1 18 (by omega) (by omega), c1 19 (by omega) (by omega), c1 20 (by omega) (by omega), c2 38 (by omega), c2 39 (by omega), c2 43 (by omega), c2 44 (by omega)]
  exact hC
theorem FS.ks {gm' : mG} (hF : FS t g gm N s a q M ht rk) (C : Chg [31] [33] gm gm') : FS t g gm' N s a q M ht rk := by
  obtain ⟨hB, hN, hC, f1, f2, f3, f4, f5, f6, f7⟩ := hF
  exact ⟨hB.kp (Chg.rf _) (C.mono (by simp) (by simp)) hB.2.2.1 hB.2.1 (hB.2.2.2.1.kp (fun x _ _ => C.1 x (by simp; omega))) (C.1 30 (by simp)) (C.1 34 (by simp)), hN.kp rfl (C.1 35 (by simp)) rfl (C.2.1 36 (by simp)) (C.2.1 37 (by simp)), hC.kp rfl (C.1 37 (by simp)) (fun _ _ _ => rfl) (fun x y => C.2.1 x (by simp; omega)), f1, f2, f3, f4, f5, by rw [C.1 32 (by simp)]; exact f6, by rw [C.1 33 (by simp)]; exact f7⟩
theorem p_fn (hn : 700 ≤ n) (hF : FS t g gm N s a q M ht rk) (p31 : gm.1 31 = nI (h + 1)) (px : gm.2.1 33 h = 42) (hh : h ≤ 10) (hE : 18100 ≤ E + 30 * a) :
    Pr n g gm E (fnp n g) (QV fun g' gm' E' => ∃ (a' M' : Nat) (ht' rk' : Nat → Nat), FS t g' gm' N s a' (q + 1) M' ht' rk' ∧ q < 8 ∧ gm'.1 31 = nI h ∧ (∀ i, i < h → gm'.2.1 33 i = gm.2.1 33 i) ∧ a < a' ∧ E + 30 * a + 10 ≤ E' + 30 * a') := by
  obtain ⟨hB, hN, hC, f1, f2, f3, f4, f5, f6, f7⟩ := hF
  have hs := hB.1.s6
  have ha := hB.2.1
  unfold fnp
  refine Pr.cv (p_name (h := h) hn hB hN hC.cg p31 px (by omega) (by omega)) ?_
  rintro g2 gm2 E2 _ _ ⟨hq, D2, x31, x4, x3, x2, x1, x0, xo, x32, x33, hE2⟩
  have ha2 := D2.1.2.1
  refine Pr.cv (p_params (h := h + 2) hn D2 f1 hq (by omega) x31 x4 x3 x2 (by omega)) ?_
  rintro g3 gm3 E3 _ _ ⟨a3, P3, D3, y31, y32, y33, yo, y1, y2⟩
  have ha3 := D3.1.2.1
  have R3 := D3.rr f1
  have P3' : PS t g3 gm3 N s a3 0 P3 (q + 1) M ht rk (fun _ => False) (h + 1) 0 0 E3 (0 + 1) 5 48 := ⟨R3, by rw [yo (h + 1) (by omega)]; exact x1, ⟨y31, by rw [y32, x32]; exact f6, by rw [y33, x33]; exact f7⟩, f1, f2, fun _ _ w => w, f3, f4, by omega, by omega, by omega, by omega, by omega, by omega, by omega⟩
  refine Pr.cv (p_B hn 300 _ _ _ _ _ _ 0 _ _ _ _ _ _ _ _ _ _ P3' (by omega)) ?_
  rintro g4 gm4 E4 _ _ ⟨a4, m4, v4, ht4, rk4, R4, ⟨z31, z32, z33⟩, F4, A4, d5, d6, d7, d8, d9, d10, d11, d12, d13, d14⟩
  have ha4 := R4.2.1
  have hm4 : m4 < 600 := by omega
  have g33h : gm4.2.1 33 h = 43 := by rw [F4.1 h (by omega), yo h (by omega)]; exact x0
  have C5 : Chg [31] [] gm4 (gI gm4 31 (nI h)) := Chg.i 31 _ (by simp)
  have i37 : (gI gm4 31 (nI h)).1 37 = nI m4 := by simp [rI]; exact R4.2.2.2.2.2.2.2.2.1
  have e : f101 n 43 (gI gm4 31 (nI h)) = some (.inl none, en (gI gm4 31 (nI h)) m4 15 0) := by
    unfold f101 f132
    simp (decide := true) only [reduceIte]
    rw [m109 hm4 i37, m_cv_s, m_cv_s]
  have hts : ∀ c, f91_55 n (c + 1) gm4 = f91_55 n c (en (gI gm4 31 (nI h)) m4 15 0) := fun c => m_top (by omega) z31 R4.2.2.2.2.1 g33h e c
  clear e
  have i31 : (gI gm4 31 (nI h)).1 31 = nI h := by simp [rI]
  have o33 : (gI gm4 31 (nI h)).2.1 33 = gm4.2.1 33 := rfl
  rw [c34 hm4 R4.2.2.2.2.2.2.2.1, m_ci_s]
  obtain ⟨E4, rfl⟩ : ∃ e, E4 = e + 1 := ⟨E4 - 1, by omega⟩
  have R5 := R4.ks (C5.mono (by simp) (by simp))
  generalize gI gm4 31 (nI h) = gx at C5 i37 hts i31 o33 R5
  have Cm := en_c (g := gx) (m := m4) (mk := 15) (ar := 0)
  have Cg := em_c (g := g4) (m := m4) (mk := 42) (ar := 0)
  refine Pr.turn hts ((C5.mono (by simp) (by simp)).tr (Cm.mono (by simp) (by simp))) (Pr.own (g1 := em g4 m4 42 0) (Cg.mono (by simp) (by simp)) (Pr.ret ⟨rfl, a4, m4 + 1, fun i => if i ≤ m4 then ht4 i else 0, fun i => if i ≤ m4 then rk4 i else 1, ⟨?_, ?_, ?_, ?_, fun i hi => ?_, fun i => ?_, fun i => ?_, by omega, ?_, ?_⟩, hq, ?_, fun i hi => ?_, by omega, by omega⟩))
  · exact ⟨R5.1.kp (Cg.mono (by simp) (by simp)) (Cm.mono (by simp) (by simp)), ha4, by rw [Cg.1 5 (by simp)]; exact R5.2.2.1, R5.2.2.2.1.kp (fun x _ _ => Cm.1 x (by simp; omega)), by rw [Cm.1 30 (by simp)]; exact R5.2.2.2.2.1, by rw [Cm.1 34 (by simp)]; exact R5.2.2.2.2.2.1⟩
  · obtain ⟨w1, w2, w3, w4, w5, w6, w7, w8, w9⟩ := R5.2.2.2.2.2.2.1
    have H : HN t g4 gx s (q + 1) := ⟨w2, w5, w6, w8⟩
    exact H.kp (Cg.1 13 (by simp)) (Cm.1 35 (by simp)) (Cg.2.1 9 (by simp)) (Cm.2.1 36 (by simp)) (Cm.2.1 37 (by simp))
  · obtain ⟨w1, w2, w3, w4, w5⟩ := R5.2.2.2.2.2.2.2
    refine ⟨em_12, en_37, by omega, fun f hf => ?_, fun i hi => ?_⟩
    · rw [Cm.2.1 38 (by simp), Cm.2.1 39 (by simp), Cg.2.1 19 (by simp), Cg.2.1 20 (by simp)]
      obtain ⟨e1, e2, e, P, e3, e4, e5, e6, e7⟩ := w4 f hf
      exact ⟨e1, e2, e, P, e3, e4, by omega, e6, by simp only [e5, if_true]; exact e7⟩
    · rw [Cg.2.1 20 (by simp), em_17, em_18, en_43, en_44]
      by_cases hz : i = m4
      · subst hz
        rw [upd_s, upd_s, upd_s, upd_s]
        refine Or.inr (Or.inr (Or.inr (Or.inr (Or.inr (Or.inr (Or.inr (Or.inr (Or.inr (Or.inr (Or.inr (Or.inr (Or.inl ⟨rfl, rfl, ?_, ?_⟩))))))))))))
        · simp only [Nat.le_refl, if_true]; exact d6
        · simp only [Nat.le_refl, if_true]; rw [d9 i (Nat.le_refl _)]; omega
      · rw [upd_o hz, upd_o hz, upd_o hz, upd_o hz]
        exact (w5 i (by omega) (fun w => w)).mono (by omega) (Nat.le_refl _) (Nat.le_refl _) (fun j hj => by simp only [show j ≤ m4 by omega, if_true]) (by simp only [show i ≤ m4 by omega, if_true]) (fun j hj => by simp only [show j ≤ m4 by omega, if_true]; exact Nat.le_refl _)
  · simp only [show ¬ m4 + 1 ≤ m4 by omega, if_false]
  · simp only [show ¬ i ≤ m4 by omega, if_false]
  · by_cases hi : i ≤ m4
    · simp only [hi, if_true]; exact d7 i
    · simp only [hi, if_false]; omega
  · by_cases hi : i ≤ m4
    · simp only [hi, if_true]; exact d10 i
    · simp only [hi, if_false]; omega
  · rw [Cm.1 32 (by simp), C5.1 32 (by simp)]; exact z32
  · rw [Cm.1 33 (by simp), C5.1 33 (by simp)]; exact z33
  · rw [Cm.1 31 (by simp)]; exact i31
  · rw [Cm.2.1 33 (by simp), o33, F4.1 i (by omega), yo i (by omega)]; exact xo i hi
/-- the class's loop, one function -/
theorem bd_ok {c : Nat} {x3 : Int32} {g' : mG} {H : Nat → mG → mZ} (h : fnp n g = some (.inl none, g')) : m_tv (f2 n g) (fun g11 => m_tv (f5 n g11) (fun g15 => m_tv (m_P n 300 11 (0 : Int32) 0 0 g15) (fun g19 => m_ti (f34_3 n (42 : Int32) (0 : Int32) g19) (fun v24 g23 => f0_28 n c x3 g23) H) H) H) H = f0_28 n c x3 g' := by
  unfold fnp at h
  rcases m_cv_inv h with ⟨g1, e1, h⟩ | ⟨x, g1, e1, e2, _⟩
  rotate_left
  · cases e2
  rcases m_cv_inv h with ⟨g2, e2, h⟩ | ⟨x, g2, e2, e3, _⟩
  rotate_left
  · cases e3
  rcases m_cv_inv h with ⟨g3, e3, h⟩ | ⟨x, g3, e3, e4, _⟩
  rotate_left
  · cases e4
  rcases m_ci_inv h with ⟨w, g4, e4, h⟩ | ⟨x, g4, e4, e5, _⟩
  rotate_left
  · cases e5
  cases h
  rw [e1]
  show m_tv (f5 n g1) _ _ = _
  rw [e2]
  show m_tv (m_P n 300 11 (0 : Int32) 0 0 g2) _ _ = _
  rw [e3]
  show m_ti (f34_3 n (42 : Int32) (0 : Int32) g3) _ _ = _
  rw [e4]
  rfl
theorem bd_no {c : Nat} {x3 : Int32} {g' : mG} {H : Nat → mG → mZ} (h : fnp n g = some (.inr 0, g')) : m_tv (f2 n g) (fun g11 => m_tv (f5 n g11) (fun g15 => m_tv (m_P n 300 11 (0 : Int32) 0 0 g15) (fun g19 => m_ti (f34_3 n (42 : Int32) (0 : Int32) g19) (fun v24 g23 => f0_28 n c x3 g23) H) H) H) H = H 0 g' := by
  unfold fnp at h
  rcases m_cv_inv h with ⟨g1, e1, h⟩ | ⟨x, g1, e1, e2, e0⟩
  rotate_left
  · cases e2; cases e0; rw [e1]; rfl
  rw [e1]
  show m_tv (f5 n g1) _ _ = _
  rcases m_cv_inv h with ⟨g2, e2, h⟩ | ⟨x, g2, e2, e3, e0⟩
  rotate_left
  · cases e3; cases e0; rw [e2]; rfl
  rw [e2]
  show m_tv (m_P n 300 11 (0 : Int32) 0 0 g2) _ _ = _
  rcases m_cv_inv h with ⟨g3, e3, h⟩ | ⟨x, g3, e3, e4, e0⟩
  rotate_left
  · cases e4; cases e0; rw [e3]; rfl
  rw [e3]
  show m_ti (f34_3 n (42 : Int32) (0 : Int32) g3) _ _ = _
  rcases m_ci_inv h with ⟨w, g4, e4, h⟩ | ⟨x, g4, e4, e5, e0⟩
  rotate_left
  · cases e5; cases e0; rw [e4]; rfl
  cases h
/-- both have read the whole text, or both have found its fault -/
def TT (n : Nat) (g gm : mG) (E : Nat) (r : mZ) : Prop :=
  (∃ g' gm' k q M ht rk, r = some (.inl (some (.int (-1))), g') ∧ (∀ c, f91_55 n (c + k) gm = f91_95 n gm') ∧ k ≤ E ∧ Chg CS CA g g' ∧ Chg MS MA gm gm' ∧ gm'.1 30 = -1 ∧ 1 ≤ q ∧ q ≤ 8 ∧ g'.1 13 = nI q ∧ gm'.1 35 = nI q ∧ CF g' gm' M q ht rk ∧ (∀ i, ht i ≤ 88) ∧ ∀ i, rk i ≤ 17) ∨
  (∃ g' gm' k, r = some (.inl (some (.int (g'.1 6))), g') ∧ (∀ c, f91_55 n (c + k) gm = some (.inl (some (.int (g'.1 6))), gm')) ∧ k ≤ E ∧ Chg CS CA g g' ∧ Chg MS MA gm gm' ∧ ¬ g'.1 6 < 0)
theorem TT.turn {gm1 : mG} {r : mZ} (h1 : ∀ c, f91_55 n (c + 1) gm = f91_55 n c gm1) (h2 : Chg MS MA gm gm1) (h : TT n g gm1 E r) : TT n g gm (E + 1) r := by
  rcases h with ⟨g', gm', j, q, M, ht, rk, q1, q2, q3, q4, q5, q6⟩ | ⟨g', gm', j, q1, q2, q3, q4, q5, q6⟩
  · exact Or.inl ⟨g', gm', j + 1, q, M, ht, rk, q1, fun c => by rw [← Nat.add_assoc, h1, q2], by omega, q4, h2.tr q5, q6⟩
  · exact Or.inr ⟨g', gm', j + 1, q1, fun c => by rw [← Nat.add_assoc, h1, q2], by omega, q4, h2.tr q5, q6⟩
/-- one function more -/
theorem p_body (hn : 700 ≤ n) (hF : FS t g gm N s a q M ht rk) (p31 : gm.1 31 = nI (1 + 1)) (px : gm.2.1 33 1 = 42) (p0 : gm.2.1 33 0 = 41) (hE : 18100 ≤ E + 30 * a) {c : Nat} {H : Nat → mG → mZ} (hH : ∀ g, H 0 g = some (.inl (some (.int (g.1 6))), g))
    (ih : ∀ (g gm : mG) (a M : Nat) (ht rk : Nat → Nat) (E : Nat), q < 8 → FS t g gm N s a (q + 1) M ht rk → gm.1 31 = nI 1 → gm.2.1 33 0 = 41 → 18101 ≤ E + 30 * a → TT n g gm E (f0_28 n c (nI (q + 1)) g)) :
    TT n g gm E (m_tv (f2 n g) (fun g11 => m_tv (f5 n g11) (fun g15 => m_tv (m_P n 300 11 (0 : Int32) 0 0 g15) (fun g19 => m_ti (f34_3 n (42 : Int32) (0 : Int32) g19) (fun v24 g23 => f0_28 n c (nI (q + 1)) g23) H) H) H) H) := by
  rcases p_fn (h := 1) hn hF p31 px (by omega) hE with ⟨o, g', gm', k, e1, e2, e3, e4, e5, rfl, a', M', ht', rk', F', hq, x31, xo, x1, x2⟩ | ⟨g', gm', k, e1, e2, e3, e4, e5, e6⟩
  · rw [bd_ok e1]
    rcases ih g' gm' a' M' ht' rk' (E - k) hq F' x31 (by rw [xo 0 (by omega)]; exact p0) (by omega) with ⟨g2, gm2, j, q', M2, ht2, rk2, q1, q2, q3, q4, q5, q6⟩ | ⟨g2, gm2, j, q1, q2, q3, q4, q5, q6⟩
    · exact Or.inl ⟨g2, gm2, j + k, q', M2, ht2, rk2, q1, fun c => by rw [← Nat.add_assoc, e2, q2], by omega, e4.tr q4, e5.tr q5, q6⟩
    · exact Or.inr ⟨g2, gm2, j + k, q1, fun c => by rw [← Nat.add_assoc, e2, q2], by omega, e4.tr q4, e5.tr q5, q6⟩
  · rw [bd_no e1, hH]
    exact Or.inr ⟨g', gm', k, rfl, e2, e3, e4, e5, e6⟩
theorem tok_end {i : Nat} (hC : Cut t N s) (hi : i ≤ s) (hm : t.2.1 12 i = 0) : TokR (t.2.1 8) N (tq t (i + 1)) 0 N N 0 ∧ tq t (i + 1) = N := by
  obtain ⟨a1, a2, a3, a4, b1, b2⟩ := hC.tok hi
  rw [hm] at b2
  obtain ⟨w1, w2, w3, w4⟩ := b2.st
  have hN := w4.mp rfl
  have e : tq t (i + 1) = N := by omega
  rw [e]
  exact ⟨⟨⟨Nat.le_refl _, Nat.le_refl _, fun i h1 h2 => by omega, fun h => by omega⟩, Or.inl ⟨rfl, rfl, rfl, rfl⟩⟩, rfl⟩
/-- between two functions, or at the end -/
theorem p_more1 (hn : 700 ≤ n) (hF : FS t g gm N s a q M ht rk) (h1 : 1 ≤ q) (p31 : gm.1 31 = nI 1) (p0 : gm.2.1 33 0 = 41) (hE : 18101 ≤ E + 30 * a) {c : Nat}
    (ih : ∀ (g gm : mG) (a M : Nat) (ht rk : Nat → Nat) (E : Nat), q < 8 → FS t g gm N s a (q + 1) M ht rk → gm.1 31 = nI 1 → gm.2.1 33 0 = 41 → 18101 ≤ E + 30 * a → TT n g gm E (f0_28 n c (nI (q + 1)) g)) :
    TT n g gm E (f0_28 n (c + 1) (nI q) g) := by
  obtain ⟨hB, hN, hC, u1, u2, u3, u4, u5, u6, u7⟩ := id hF
  obtain ⟨b1, b2, b3, b4, b5, b6⟩ := id hB
  have hs := b1.s6
  have hp := b1.tp b2
  have hq8 := hN.1
  obtain ⟨E, rfl⟩ : ∃ e, E = e + 1 := ⟨E - 1, by omega⟩
  have z26 : (gI gm 31 (nI 0)).1 26 = kd (t.2.1 12 a) := by simp [rI, b4.1]
  rw [f0_28, if_neg (show ¬ (8 : Int32) < nI q from nI_nlt (a := 8) (b := q) (by omega) (by omega)), if_neg (show ¬ nI q = (0 : Int32) from fun w => by have := (nI_eq (a := q) (b := 0) (by omega) (by decide)).mp w; omega), c1 b1 b2 b3, nI_1]
  show TT n g gm (E + 1) (if t.2.1 12 a = 0 then _ else _)
  by_cases hmk : t.2.1 12 a = 25
  · have kk : kd (t.2.1 12 a) = 24 := by rw [hmk]; decide
    have e : f101 n 41 (gI gm 31 (nI 0)) = some (.inl none, pus (gI gm 31 (nI 0)) 0 [41, 42]) := by
      unfold f101 f132
      simp (decide := true) only [reduceIte]
      rw [z26, kk, if_neg (fun w => w rfl), m108_2 (h := 0) (by omega) (by simp [rI]) (by decide), m_cv_s, m_cv_s]
      rfl
    have C1 : Chg [31] [33] gm (pus (gI gm 31 (nI 0)) 0 [41, 42]) := (Chg.i 31 _ (by simp)).tr pus_c
    have v31 : (pus (gI gm 31 (nI 0)) 0 [41, 42]).1 31 = nI (0 + 2) := pus_h (by simp [rI])
    have v1 : (pus (gI gm 31 (nI 0)) 0 [41, 42]).2.1 33 (0 + 1) = 42 := pus_t (i := 1) rfl
    have v0 : (pus (gI gm 31 (nI 0)) 0 [41, 42]).2.1 33 (0 + 0) = 41 := pus_t (i := 0) rfl
    refine TT.turn (fun c => m_top (h := 0) (by omega) p31 b5 p0 e c) (C1.mono (by simp) (by simp)) ?_
    generalize pus (gI gm 31 (nI 0)) 0 [41, 42] = gm1 at C1 v31 v1 v0
    rw [if_neg (show ¬ t.2.1 12 a = 0 from fun w => by rw [hmk] at w; exact absurd w (by decide))]
    exact p_body hn (hF.ks C1) v31 v1 v0 (by omega) (fun g => by simp only [if_true]) ih
  · have k24 : ¬ kd (t.2.1 12 a) = 24 := fun w => hmk ((kd_iff (by decide) (by decide) (by decide)).mp w)
    have e : f101 n 41 (gI gm 31 (nI 0)) = some (.inl none, pus (gI gm 31 (nI 0)) 0 [0]) := by
      unfold f101 f132
      simp (decide := true) only [reduceIte]
      rw [z26, if_pos k24, m100 (h := 0) (by omega) (by simp [rI]), m_cv_s, m_cv_s]
      rfl
    have C1 : Chg [31] [33] gm (pus (gI gm 31 (nI 0)) 0 [0]) := (Chg.i 31 _ (by simp)).tr pus_c
    have v31 : (pus (gI gm 31 (nI 0)) 0 [0]).1 31 = nI (0 + 1) := pus_h (by simp [rI])
    have v0 : (pus (gI gm 31 (nI 0)) 0 [0]).2.1 33 (0 + 0) = 0 := pus_t (i := 0) rfl
    have hts : ∀ c, f91_55 n (c + 1) gm = f91_55 n c (pus (gI gm 31 (nI 0)) 0 [0]) := fun c => m_top (h := 0) (by omega) p31 b5 p0 e c
    clear e
    generalize pus (gI gm 31 (nI 0)) 0 [0] = gm1 at C1 v31 v0 hts
    have F1 := hF.ks C1
    obtain ⟨hB1, hN1, hC1, _⟩ := id F1
    have y26 : (gI gm1 31 (nI 0)).1 26 = kd (t.2.1 12 a) := by simp [rI, hB1.2.2.2.1.1]
    have y27 : (gI gm1 31 (nI 0)).1 27 = nI (tp t a) := by simp [rI, hB1.2.2.2.1.2.1]
    have y28 : (gI gm1 31 (nI 0)).1 28 = nI (tq t (a + 1)) := by simp [rI, hB1.2.2.2.1.2.2.1]
    have y30 : (gI gm1 31 (nI 0)).1 30 = -1 := by simp [rI, hB1.2.2.2.2.1]
    refine TT.turn hts (C1.mono (by simp) (by simp)) ?_
    by_cases h0 : t.2.1 12 a = 0
    · rw [if_pos h0]
      have T := (tok_end b1.2.1 b2 h0).1
      have C2 : Chg [31] [] gm1 (gI gm1 31 (nI 0)) := Chg.i 31 _ (by simp)
      have a5 : (gI gm1 31 (nI 0)).1 25 = nI N := by rw [C2.1 25 (by simp)]; exact hB1.1.2.2.2.2.1
      have a6 : (gI gm1 31 (nI 0)).2.1 32 = t.2.1 8 := by rw [C2.2.1 32 (by simp)]; exact hB1.1.2.2.2.2.2
      rw [← a6] at T
      obtain ⟨gm2, w1, w2, w3, w4, w5, w6⟩ := m92 (n := n) hn a5 b1.1 y28 T
      have e : f101 n 0 (gI gm1 31 (nI 0)) = some (.inl none, gm2) := by
        unfold f101 f102
        rw [if_neg (by decide), y26, if_neg (fun w => w (by rw [h0]; rfl)), w1, m_cv_s, m_cv_s]
      have x31 : gm2.1 31 = nI 0 := by rw [w6.1 31 (by simp)]; simp [rI]
      have C3 : Chg [26, 27, 28, 29, 31] [] gm1 gm2 := (C2.mono (by simp) (by simp)).tr (w6.mono (by simp) (by simp))
      refine Or.inl ⟨g, gm2, 2, q, M, ht, rk, rfl, fun c => ?_, by omega, Chg.rf _, C3.mono (by simp) (by simp), ?_, h1, hq8, hN.2.1, ?_, ?_, u3, u4⟩
      · rw [show c + 2 = (c + 1) + 1 by omega, m_top (h := 0) (by omega) v31 hB1.2.2.2.2.1 v0 e (c + 1), f91_55, x31, if_pos (by decide)]
      · rw [C3.1 30 (by simp)]; exact hB1.2.2.2.2.1
      · rw [C3.1 35 (by simp)]; exact hN1.2.2.1
      · exact hC1.kp rfl (C3.1 37 (by simp)) (fun _ _ _ => rfl) (fun x y => C3.2.1 x (by simp))
    · rw [if_neg h0]
      have ef : fnp n g = some (.inr 0, gI g 6 (nI (tp t a))) := by
        unfold fnp f2 f2_23
        rw [c1 b1 b2 b3, m_ci_s, if_pos hmk, b3, c3 b1 b2, m_cv_f, m_cv_f]
      have e : f101 n 0 (gI gm1 31 (nI 0)) = some (.inl none, gI (gI gm1 31 (nI 0)) 30 (nI (tp t a))) := by
        unfold f101 f102
        rw [if_neg (by decide), y26, if_pos (fun w => h0 (kd_0.mp w)), y27, m103 (by omega) y30, m_cv_s, m_cv_s]
      rw [bd_no ef, if_pos rfl]
      have e6 : (gI g 6 (nI (tp t a))).1 6 = nI (tp t a) := by simp [rI]
      refine Or.inr ⟨gI g 6 (nI (tp t a)), gI (gI gm1 31 (nI 0)) 30 (nI (tp t a)), 2, rfl, fun c => ?_, by omega, Chg.i 6 _ (by simp), (Chg.i 31 _ (by simp)).tr (Chg.i 30 _ (by simp)), by rw [e6]; exact nI_pos (by omega)⟩
      rw [show c + 2 = (c + 1) + 1 by omega, m_top (h := 0) (by omega) v31 hB1.2.2.2.2.1 v0 e (c + 1), m_stop (p := tp t a) (by omega) (by simp [rI]), e6]
theorem p_more (hn : 700 ≤ n) : ∀ (d q c : Nat) (g gm : mG) (a M : Nat) (ht rk : Nat → Nat) (E : Nat), q + d = 8 → 1 ≤ q → d < c → FS t g gm N s a q M ht rk → gm.1 31 = nI 1 → gm.2.1 33 0 = 41 → 18101 ≤ E + 30 * a → TT n g gm E (f0_28 n c (nI q) g) := by
  intro d
  induction d with
  | zero =>
    intro q c g gm a M ht rk E hd h1 hc hF p31 p0 hE
    obtain ⟨c, rfl⟩ : ∃ z, c = z + 1 := ⟨c - 1, by omega⟩
    exact p_more1 hn hF h1 p31 p0 hE (fun g gm a M ht rk E hq => by omega)
  | succ d IH =>
    intro q c g gm a M ht rk E hd h1 hc hF p31 p0 hE
    obtain ⟨c, rfl⟩ : ∃ z, c = z + 1 := ⟨c - 1, by omega⟩
    exact p_more1 hn hF h1 p31 p0 hE (fun g gm a M ht rk E hq hF' x31 x0 hE' => IH (q + 1) c g gm a M ht rk E (by omega) (by omega) (by omega) hF' x31 x0 hE')
/-- the whole text -/
theorem p_text (hn : 700 ≤ n) (hF : FS t g gm N s a 0 M ht rk) (p31 : gm.1 31 = nI 1) (p0 : gm.2.1 33 0 = 40) (hE : 18101 ≤ E + 30 * a) : TT n g gm E (f0_28 n n 0 g) := by
  obtain ⟨c, rfl⟩ : ∃ z, n = z + 1 := ⟨n - 1, by omega⟩
  obtain ⟨b1, b2, b3, b4, b5, b6⟩ := hF.1
  have hs := b1.s6
  obtain ⟨E, rfl⟩ : ∃ e, E = e + 1 := ⟨E - 1, by omega⟩
  have e : f101 (c + 1) 40 (gI gm 31 (nI 0)) = some (.inl none, pus (gI gm 31 (nI 0)) 0 [41, 42]) := by
    unfold f101 f132
    simp (decide := true) only [reduceIte]
    rw [m108_2 (h := 0) (by omega) (by simp [rI]) (by decide), m_cv_s, m_cv_s]
    rfl
  have C1 : Chg [31] [33] gm (pus (gI gm 31 (nI 0)) 0 [41, 42]) := (Chg.i 31 _ (by simp)).tr pus_c
  have v31 : (pus (gI gm 31 (nI 0)) 0 [41, 42]).1 31 = nI (0 + 2) := pus_h (by simp [rI])
  have v1 : (pus (gI gm 31 (nI 0)) 0 [41, 42]).2.1 33 (0 + 1) = 42 := pus_t (i := 1) rfl
  have v0 : (pus (gI gm 31 (nI 0)) 0 [41, 42]).2.1 33 (0 + 0) = 41 := pus_t (i := 0) rfl
  refine TT.turn (fun c => m_top (h := 0) (by omega) p31 b5 p0 e c) (C1.mono (by simp) (by simp)) ?_
  generalize pus (gI gm 31 (nI 0)) 0 [41, 42] = gm1 at C1 v31 v1 v0
  rw [f0_28, if_neg (by decide), if_pos rfl]
  exact p_body hn (hF.ks C1) v31 v1 v0 (by omega) (fun g => by simp only [if_true]) (fun g gm a M ht rk E hq hF' x31 x0 hE' => p_more hn 7 1 c g gm a M ht rk E (by omega) (by omega) (by omega) hF' x31 x0 hE')
end Txt
