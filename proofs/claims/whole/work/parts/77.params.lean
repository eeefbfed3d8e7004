/-! a function's parameters -/
section Pm
variable {n N s a D v q m h k y E R P p l : Nat} {t g gm gx : mG} {ht rk : Nat → Nat} {ho : Nat → Prop}
theorem NV.kq {g' gm' : mG} (h : NV t g gm s v q) (h1 : g'.1 7 = g.1 7) (h2 : g'.1 13 = g.1 13) (h3 : gm'.1 35 = gm.1 35) (h4 : gm'.1 36 = gm.1 36) (c1 : ∀ x, 9 ≤ x → x ≤ 11 → g'.2.1 x = g.2.1 x) (c2 : ∀ x, x = 36 ∨ x = 37 ∨ x = 40 ∨ x = 41 ∨ x = 42 → gm'.2.1 x = gm.2.1 x) : NV t g' gm' s v q := by
  unfold NV NT
  rw [h1, h2, h3, h4, c1 9 (by omega) (by omega), c1 10 (by omega) (by omega), c1 11 (by omega) (by omega), c2 36 (by omega), c2 37 (by omega), c2 40 (by omega), c2 41 (by omega), c2 42 (by omega)]
  exact h
theorem HD.kp {g' gm' : mG} {a' : Nat} (h : HD t g gm N s a q m P ht rk ho) (h1 : Chg [5] [] g g') (h2 : Chg [26, 27, 28, 29, 31, 32, 33] [33, 34, 35] gm gm') (h5 : g'.1 5 = nI a') (ha : a' ≤ s) (hP : PM t gm' a') : HD t g' gm' N s a' q m P ht rk ho := by
  obtain ⟨hB, hN, hC, e1, e2, e3, e4, e5⟩ := h
  refine ⟨hB.kp (h1.mono (by simp) (by simp)) (h2.mono (by simp) (by simp)) h5 ha hP (h2.1 30 (by simp)) (h2.1 34 (by simp)), hN.kp (h1.1 7 (by simp)) (h1.1 13 (by simp)) (h2.1 35 (by simp)) (h2.1 36 (by simp)) (fun x _ _ => h1.2.1 x (by simp)) (fun x y z => h2.2.1 x (by simp; omega)), hC.kp (h1.1 12 (by simp)) (h2.1 37 (by simp)) (fun x _ _ => h1.2.1 x (by simp)) (fun x y => h2.2.1 x (by simp; omega)), ?_, ?_, ?_, ?_, e5⟩
  · rw [h1.2.1 19 (by simp)]; exact e1
  · rw [h2.2.1 38 (by simp)]; exact e2
  · rw [h1.2.1 20 (by simp)]; exact e3
  · rw [h2.2.1 39 (by simp)]; exact e4
theorem p_param (hn : 700 ≤ n) (hD : HD t g gm N s a q m P ht rk ho) (hH : ht m = 0) (hq : q < 8) (hP : P ≤ 2) (p31 : gm.1 31 = nI (h + 1)) (px : gm.2.1 33 h = 46) (hh : h + 10 < 900) (hE : 10 ≤ E) :
    Pr n g gm E (f7 n g) (QV fun g' gm' E' => HD t g' gm' N s (a + 1) q m (P + 1) ht rk ho ∧ gm'.1 31 = nI h ∧ Chg [26, 27, 28, 29, 31, 36] [39, 40, 41, 42] gm gm' ∧ E' + 1 = E) := by
  obtain ⟨hB, hN, hC, q1, q2, q3, q4, q5⟩ := id hD
  obtain ⟨b1, b2, b3, b4, b5, b6⟩ := id hB
  have hs := b1.s6
  have hp := b1.tp b2
  have C1 : Chg [31] [] gm (gI gm 31 (nI h)) := Chg.i 31 _ (by simp)
  have R1 := (hD.rr hH).ks (C1.mono (by simp) (by simp))
  have e46 : f101 n 46 (gI gm 31 (nI h)) = m_cv (m_cv (if ¬ kd (t.2.1 12 a) = (1 : Int32) then f134_28 n (gI gm 31 (nI h)) else m_ci (f112 n (nI (tp t a)) (nI (tl t a)) (gI gm 31 (nI h))) (fun v7 g6 => if v7 < 0 then m_cv (f126 n (g6.1 27) ((g6.1 28) - (g6.1 27)) (1 : Int32) g6) (fun g11 => if ((g11.1 35) - (1 : Int32)) < 0 ∨ 9 ≤ Int32.toNatClampNeg ((g11.1 35) - (1 : Int32)) then none else if ((g11.1 35) - (1 : Int32)) < 0 ∨ 9 ≤ Int32.toNatClampNeg ((g11.1 35) - (1 : Int32)) then none else m_cv (f92 n (gS g11 39 (upd (g11.2.1 39) (Int32.toNatClampNeg ((g11.1 35) - (1 : Int32))) (((g11.2.1 39) (Int32.toNatClampNeg ((g11.1 35) - (1 : Int32)))) + (1 : Int32))))) (fun g17 => some (.inl none, g17))) else f134_28 n g6)) (fun g48 => some (.inl none, g48))) (fun g12 => some (.inl none, g12)) := by
    unfold f101 f132
    simp (decide := true) only [reduceIte]
    unfold f134
    rw [R1.ln, R1.2.2.2.1.1, R1.2.2.2.1.2.1]
  have ef : f134_28 n (gI gm 31 (nI h)) = some (.inl none, gI (gI gm 31 (nI h)) 30 (nI (tp t a))) := by
    unfold f134_28
    rw [R1.2.2.2.1.2.1, m103 (by omega) R1.2.2.2.2.1, m_cv_s]
  unfold f7
  rcases c8 hn R1 with ⟨hmk, hv, k8, l2, l3⟩ | ⟨k8, kf⟩
  · have r1 : kd (t.2.1 12 a) = 1 := by rw [hmk]; decide
    have hlt : a < s := b1.lt b2 hmk (by decide) (by decide)
    have j36 : (gI gm 31 (nI h)).1 36 = nI P := R1.2.2.2.2.2.2.1.2.2.2.1
    have Ca := am_c (g := gI gm 31 (nI h)) (v := P) (p := tp t a) (l := tl t a) (c := 0)
    have j35 : (am (gI gm 31 (nI h)) P (tp t a) (tl t a) 0).1 35 = nI (q + 1) := by rw [Ca.1 35 (by simp)]; exact R1.2.2.2.2.2.2.1.2.2.2.2.2.1
    have j39 : (am (gI gm 31 (nI h)) P (tp t a) (tl t a) 0).2.1 39 q = nI P := by rw [Ca.2.1 39 (by simp)]; exact q4
    have hin : ¬ (nI q < 0 ∨ 9 ≤ Int32.toNatClampNeg (nI q)) := nI_in (c := q) (N := 9) (by omega) (by decide)
    have hin8 : ¬ (nI q < 0 ∨ 8 ≤ Int32.toNatClampNeg (nI q)) := nI_in (c := q) (N := 8) (by omega) (by decide)
    have C2 : Chg [31, 36] [39, 40, 41, 42] gm (gS (am (gI gm 31 (nI h)) P (tp t a) (tl t a) 0) 39 (upd ((am (gI gm 31 (nI h)) P (tp t a) (tl t a) 0).2.1 39) q (nI (P + 1)))) := (Chg.i 31 _ (by simp)).tr ((Ca.mono (by simp) (by simp)).tr (Chg.s 39 _ (by simp)))
    have B2 : HB t g (gS (am (gI gm 31 (nI h)) P (tp t a) (tl t a) 0) 39 (upd ((am (gI gm 31 (nI h)) P (tp t a) (tl t a) 0).2.1 39) q (nI (P + 1)))) N s a := hB.kp (Chg.rf _) (C2.mono (by simp) (by simp)) b3 b2 (b4.kp (fun x _ _ => C2.1 x (by simp; omega))) (C2.1 30 (by simp)) (C2.1 34 (by simp))
    obtain ⟨gm3, f1, f2, f3⟩ := m_adv (n := n) hn B2.1 hlt B2.2.2.2.1.2.2.1
    rw [if_neg (fun w => w r1), l2, m_ci_s, if_pos (by decide), R1.ln, R1.2.2.2.1.2.1, show (1 : Int32) = nI (0 + 1) from rfl, m126 (by omega) j36, m_cv_s, show nI (0 + 1) = (1 : Int32) from rfl, j35, nI_pred, if_neg hin, if_neg hin, nI_clamp (by omega), j39, nI_1, f1, m_cv_s, m_cv_s, m_cv_s] at e46
    have Cv := av_c (g := g) (v := P) (x := a) (c := 0)
    have i13 : (av g P a 0).1 13 = nI (q + 1) := by rw [Cv.1 13 (by simp)]; exact hN.2.2.2.2.1
    have i20 : (av g P a 0).2.1 20 q = nI P := by rw [Cv.2.1 20 (by simp)]; exact q3
    have i5 : (gS (av g P a 0) 20 (upd ((av g P a 0).2.1 20) q (nI (P + 1)))).1 5 = nI a := by rw [rS1, Cv.1 5 (by simp)]; exact b3
    have e33 : f33_3 n (av g P a 0) = some (.inl none, gS (av g P a 0) 20 (upd ((av g P a 0).2.1 20) q (nI (P + 1)))) := by
      unfold f33_3
      rw [i13, if_neg (show ¬ nI (q + 1) ≤ (0 : Int32) from nI_ge (a := 0) (b := q + 1) (by omega) (by omega)), nI_pred, if_neg hin8, if_neg hin8, nI_clamp (by omega), i20, nI_1]
    have c10' := c10 (n := n) (g := g) (v := P) (x := a) (c := 0) (by omega) hN.2.2.1
    rw [k8, m_cv_s, b3, show (0 : Int32) = nI 0 from rfl, c10', m_cv_s, e33, m_cv_s, i5, nI_1]
    have Cg : Chg [5, 7] [10, 11, 20] g (gI (gS (av g P a 0) 20 (upd ((av g P a 0).2.1 20) q (nI (P + 1)))) 5 (nI (a + 1))) := (Cv.mono (by simp) (by simp)).tr ((Chg.s 20 _ (by simp)).tr (Chg.i 5 _ (by simp)))
    have Ck : Chg [26, 27, 28, 29, 31, 36] [39, 40, 41, 42] gm gm3 := (C2.mono (by simp) (by simp)).tr (f3.mono (by simp) (by simp))
    obtain ⟨E, rfl⟩ : ∃ e, E = e + 1 := ⟨E - 1, by omega⟩
    have g20 : (gI (gS (av g P a 0) 20 (upd ((av g P a 0).2.1 20) q (nI (P + 1)))) 5 (nI (a + 1))).2.1 20 = upd (g.2.1 20) q (nI (P + 1)) := by
      rw [rI2, rS]
      simp only [if_true]
      rw [Cv.2.1 20 (by simp)]
    have m39 : gm3.2.1 39 = upd (gm.2.1 39) q (nI (P + 1)) := by
      rw [f3.2.1 39 (by simp), rS]
      simp only [if_true]
      rw [Ca.2.1 39 (by simp)]; rfl
    refine Pr.turn (fun c => m_top (by omega) p31 b5 px e46 c) (Ck.mono (by simp) (by simp)) (Pr.own (g1 := gI (gS (av g P a 0) 20 (upd ((av g P a 0).2.1 20) q (nI (P + 1)))) 5 (nI (a + 1))) (Cg.mono (by simp) (by simp)) (Pr.ret ⟨rfl, ⟨B2.kp (Cg.mono (by simp) (by simp)) (f3.mono (by simp) (by simp)) (by simp [rI]) (by omega) f2 (f3.1 30 (by simp)) (f3.1 34 (by simp)), ?_, ?_, ?_, ?_, ?_, ?_, by omega⟩, ?_, Ck, by omega⟩))
    · have V := (R1.2.2.2.2.2.2.1).av (x := a) (c := 0) hv b2 hs (by omega) l3
      exact V.kq rfl rfl (f3.1 35 (by simp)) (f3.1 36 (by simp)) (fun x y z => by rw [rI2, rS, if_neg (by omega)]) (fun x y => by rw [f3.2.1 x (by simp), rS, if_neg (by omega)])
    · refine hC.pa ?_ ?_ ?_ ?_ ?_ ?_ (fun f hf => ?_) (fun f hf => ?_) (fun f hf => ?_) (fun f hf => ?_)
      · rw [Cg.1 12 (by simp)]
      · rw [Ck.1 37 (by simp)]
      · rw [Cg.2.1 17 (by simp)]
      · rw [Cg.2.1 18 (by simp)]
      · rw [Ck.2.1 43 (by simp)]
      · rw [Ck.2.1 44 (by simp)]
      · rw [Cg.2.1 19 (by simp)]
      · rw [g20, upd_o (by omega)]
      · rw [Ck.2.1 38 (by simp)]
      · rw [m39, upd_o (by omega)]
    · rw [Cg.2.1 19 (by simp)]; exact q1
    · rw [Ck.2.1 38 (by simp)]; exact q2
    · rw [g20, upd_s]
    · rw [m39, upd_s]
    · rw [f3.1 31 (by simp), rS1, Ca.1 31 (by simp)]; simp [rI]
  · have e46' : f101 n 46 (gI gm 31 (nI h)) = some (.inl none, gI (gI gm 31 (nI h)) 30 (nI (tp t a))) := by
      rw [e46]
      rcases kf with k1 | ⟨k1, i, hi, l2⟩ | ⟨k1, k2, l2⟩
      · rw [if_pos (fun w => k1 ((kd_iff (by decide) (by decide) (by decide)).mp w)), ef, m_cv_s, m_cv_s]
      · have r1 : kd (t.2.1 12 a) = 1 := by rw [k1]; decide
        rw [if_neg (fun w => w r1), l2, m_ci_s, if_neg (nI_pos (by omega)), ef, m_cv_s, m_cv_s]
      · omega
    rw [k8, m_cv_f]
    exact Pr.no (p := tp t a) (by omega) (by omega) (fun c => m_top (by omega) p31 b5 px e46' c) ((Chg.i 31 _ (by simp)).tr (Chg.i 30 _ (by simp))) (by simp [rI]) (Chg.i 6 _ (by simp)) (by simp [rI])
/-- behind the parameters -/
def QP (t gm : mG) (N s a q m : Nat) (ht rk : Nat → Nat) (ho : Nat → Prop) (h E w : Nat) (g' gm' : mG) (E' : Nat) : Prop :=
  ∃ a' P', HD t g' gm' N s a' q m P' ht rk ho ∧ gm'.1 31 = nI h ∧ gm'.1 32 = gm.1 32 ∧ gm'.1 33 = gm.1 33 ∧ (∀ i, i < h → gm'.2.1 33 i = gm.2.1 33 i) ∧ a < a' ∧ E + 30 * a + w ≤ E' + 30 * a'
theorem p_pend (hn : 700 ≤ n) (hD : HD t g gm N s a q m P ht rk ho) (p31 : gm.1 31 = nI (h + 1)) (px : gm.2.1 33 h = 4) (hh : h + 10 < 900) (hE : 10 ≤ E) : Pr n g gm E (f5_53 n g) (QV (QP t gm N s a q m ht rk ho h E 25)) := by
  unfold f5_53
  refine Pr.cv (p_take (c := 4) (h := h) hn hD.1.rt (by omega) p31 px (by decide) (by decide) (by decide) (by decide) (by omega)) ?_
  rintro g2 gm2 E2 _ _ ⟨hE2, hlt, rfl, w31, w34, wP, C2⟩
  exact Pr.ret ⟨rfl, a + 1, P, hD.kp (Chg.i 5 _ (by simp)) (C2.mono (by simp) (by simp)) (by simp [rI]) (by omega) wP, w31, C2.1 32 (by simp), C2.1 33 (by simp), fun i hi => by rw [C2.2.1 33 (by simp)], by omega, by omega⟩
theorem p_ptail (hn : 700 ≤ n) (hH : ht m = 0) (hq : q < 8) (hh : h + 20 < 900) : ∀ (d P c a E : Nat) (g gm : mG), P + d = 3 → 1 ≤ P → d < c → HD t g gm N s a q m P ht rk ho → gm.1 31 = nI (h + 2) → gm.2.1 33 (h + 1) = 47 → gm.2.1 33 h = 4 → 20 + 10 * d ≤ E → Pr n g gm E (f5_19 n c (nI P) g) (QV (QP t gm N s a q m ht rk ho h E 20)) := by
  intro d
  induction d with
  | zero =>
    intro P c a E g gm hd h1 hc hD p31 p47 p4 hE
    obtain ⟨c, rfl⟩ : ∃ z, c = z + 1 := ⟨c - 1, by omega⟩
    obtain ⟨E, rfl⟩ : ∃ e, E = e + 1 := ⟨E - 1, by omega⟩
    have hP : P = 3 := by omega
    subst hP
    obtain ⟨hB, hN, hC, q1, q2, q3, q4, q5⟩ := id hD
    have j35 : (gI gm 31 (nI (h + 1))).1 35 = nI (q + 1) := by simp [rI]; exact hN.2.2.2.2.2.1
    have j39 : (gI gm 31 (nI (h + 1))).2.1 39 q = nI 3 := q4
    have hin : ¬ (nI q < 0 ∨ 9 ≤ Int32.toNatClampNeg (nI q)) := nI_in (c := q) (N := 9) (by omega) (by decide)
    have e47 : f101 n 47 (gI gm 31 (nI (h + 1))) = some (.inl none, gI gm 31 (nI (h + 1))) := by
      unfold f101 f132
      simp (decide := true) only [reduceIte]
      by_cases hk : (gI gm 31 (nI (h + 1))).1 26 = 9
      · rw [if_neg (fun w => w hk), j35, nI_pred, if_neg hin, nI_clamp (by omega), j39, if_pos (by decide), m_cv_s]
      · rw [if_pos hk, m_cv_s]
    have C1 : Chg [31] [] gm (gI gm 31 (nI (h + 1))) := Chg.i 31 _ (by simp)
    have D1 : HD t g (gI gm 31 (nI (h + 1))) N s a q m 3 ht rk ho := hD.kp (Chg.rf _) (C1.mono (by simp) (by simp)) hB.2.2.1 hB.2.1 (hB.2.2.2.1.kp (fun x _ _ => C1.1 x (by simp; omega)))
    refine Pr.turn (fun c => m_top (by omega) p31 hB.2.2.2.2.1 p47 e47 c) (C1.mono (by simp) (by simp)) ?_
    rw [f5_19, if_pos (by decide)]
    refine Pr.mono (p_pend (h := h) (E := E) hn D1 (by simp [rI]) p4 (by omega) (by omega)) ?_
    rintro o g' gm' E' _ _ ⟨rfl, a', P', d1, d2, d3, d4, d5, d6, d7⟩
    exact ⟨rfl, a', P', d1, d2, by rw [d3, C1.1 32 (by simp)], by rw [d4, C1.1 33 (by simp)], fun i hi => by rw [d5 i hi, C1.2.1 33 (by simp)], d6, by omega⟩
  | succ d IH =>
    intro P c a E g gm hd h1 hc hD p31 p47 p4 hE
    obtain ⟨c, rfl⟩ : ∃ z, c = z + 1 := ⟨c - 1, by omega⟩
    obtain ⟨E, rfl⟩ : ∃ e, E = e + 1 := ⟨E - 1, by omega⟩
    obtain ⟨hB, hN, hC, q1, q2, q3, q4, q5⟩ := id hD
    obtain ⟨b1, b2, b3, b4, b5, b6⟩ := id hB
    have hs := b1.s6
    have j26 : (gI gm 31 (nI (h + 1))).1 26 = kd (t.2.1 12 a) := by simp [rI, b4.1]
    have j35 : (gI gm 31 (nI (h + 1))).1 35 = nI (q + 1) := by simp [rI]; exact hN.2.2.2.2.2.1
    have j39 : (gI gm 31 (nI (h + 1))).2.1 39 q = nI P := q4
    have hin : ¬ (nI q < 0 ∨ 9 ≤ Int32.toNatClampNeg (nI q)) := nI_in (c := q) (N := 9) (by omega) (by decide)
    rw [f5_19, if_neg (show ¬ (3 : Int32) ≤ nI P from nI_ge (a := P) (b := 3) (by omega) (by decide)), c1 b1 b2 b3, m_ci_s]
    by_cases hmk : t.2.1 12 a = 10
    · have kk : kd (t.2.1 12 a) = 9 := by rw [hmk]; decide
      have e47 : f101 n 47 (gI gm 31 (nI (h + 1))) = some (.inl none, pus (gI gm 31 (nI (h + 1))) (h + 1) [47, 46, 9]) := by
        unfold f101 f132
        simp (decide := true) only [reduceIte]
        rw [j26, kk, if_neg (fun w => w rfl), j35, nI_pred, if_neg hin, nI_clamp (by omega), j39, if_neg (show ¬ (3 : Int32) ≤ nI P from nI_ge (a := P) (b := 3) (by omega) (by decide)), m108_3 (h := h + 1) (by omega) (by simp [rI]) (by decide) (by decide), m_cv_s, m_cv_s]
        rfl
      have C1 : Chg [31] [33] gm (pus (gI gm 31 (nI (h + 1))) (h + 1) [47, 46, 9]) := (Chg.i 31 _ (by simp)).tr pus_c
      have v31 : (pus (gI gm 31 (nI (h + 1))) (h + 1) [47, 46, 9]).1 31 = nI (h + 4) := pus_h (by simp [rI])
      have v3 : (pus (gI gm 31 (nI (h + 1))) (h + 1) [47, 46, 9]).2.1 33 (h + 3) = 9 := pus_t (h := h + 1) (i := 2) rfl
      have v2 : (pus (gI gm 31 (nI (h + 1))) (h + 1) [47, 46, 9]).2.1 33 (h + 2) = 46 := pus_t (h := h + 1) (i := 1) rfl
      have v1 : (pus (gI gm 31 (nI (h + 1))) (h + 1) [47, 46, 9]).2.1 33 (h + 1) = 47 := pus_t (h := h + 1) (i := 0) rfl
      have vo : ∀ i, i < h + 1 → (pus (gI gm 31 (nI (h + 1))) (h + 1) [47, 46, 9]).2.1 33 i = gm.2.1 33 i := fun i hi => by rw [pus_o hi]; rfl
      have hts : ∀ c, f91_55 n (c + 1) gm = f91_55 n c (pus (gI gm 31 (nI (h + 1))) (h + 1) [47, 46, 9]) := fun c => m_top (by omega) p31 b5 p47 e47 c
      clear e47
      generalize pus (gI gm 31 (nI (h + 1))) (h + 1) [47, 46, 9] = gm1 at C1 v31 v3 v2 v1 vo hts
      have D1 : HD t g gm1 N s a q m P ht rk ho := hD.kp (Chg.rf _) (C1.mono (by simp) (by simp)) hB.2.2.1 hB.2.1 (hB.2.2.2.1.kp (fun x _ _ => C1.1 x (by simp; omega)))
      refine Pr.turn hts (C1.mono (by simp) (by simp)) ?_
      have er : m_cv (f7 n (gI g 5 ((g.1 5) + (1 : Int32)))) (fun g24 => f5_19 n c (nI P + (1 : Int32)) g24) = m_cv (f6 n (9 + 1) g) (fun g0 => m_cv (f7 n g0) (fun g24 => f5_19 n c (nI (P + 1)) g24)) := by
        rw [c6 hB.rt (by rw [hmk]; rfl), m_cv_s, b3, nI_1, nI_1]
      rw [if_neg (fun w => w hmk), er]
      refine Pr.cv (p_take (h := h + 3) hn D1.1.rt (by omega) v31 v3 (by decide) (by decide) (by decide) (by decide) (by omega)) ?_
      rintro g2 gm2 E2 _ _ ⟨hE2, hlt, rfl, w31, w34, wP, C2⟩
      have D2 := D1.kp (a' := a + 1) (Chg.i 5 (nI (a + 1)) (by simp)) (C2.mono (by simp) (by simp)) (by simp [rI]) (by omega) wP
      refine Pr.cv (p_param (h := h + 2) hn D2 hH hq (by omega) w31 (by rw [C2.2.1 33 (by simp)]; exact v2) (by omega) (by omega)) ?_
      rintro g3 gm3 E3 _ _ ⟨D3, x31, C3, hE3⟩
      refine Pr.mono (IH (P + 1) c (a + 1 + 1) E3 g3 gm3 (by omega) (by omega) (by omega) D3 x31 (by rw [C3.2.1 33 (by simp), C2.2.1 33 (by simp)]; exact v1) (by rw [C3.2.1 33 (by simp), C2.2.1 33 (by simp), vo h (by omega)]; exact p4) (by omega)) ?_
      rintro o g' gm' E' _ _ ⟨rfl, a', P', d1, d2, d3, d4, d5, d6, d7⟩
      exact ⟨rfl, a', P', d1, d2, by rw [d3, C3.1 32 (by simp), C2.1 32 (by simp), C1.1 32 (by simp)], by rw [d4, C3.1 33 (by simp), C2.1 33 (by simp), C1.1 33 (by simp)], fun i hi => by rw [d5 i hi, C3.2.1 33 (by simp), C2.2.1 33 (by simp), vo i (by omega)], by omega, by omega⟩
    · have e47 : f101 n 47 (gI gm 31 (nI (h + 1))) = some (.inl none, gI gm 31 (nI (h + 1))) := by
        unfold f101 f132
        simp (decide := true) only [reduceIte]
        rw [j26, if_pos (fun w => hmk ((kd_iff (by decide) (by decide) (by decide)).mp w)), m_cv_s]
      have C1 : Chg [31] [] gm (gI gm 31 (nI (h + 1))) := Chg.i 31 _ (by simp)
      have D1 : HD t g (gI gm 31 (nI (h + 1))) N s a q m P ht rk ho := hD.kp (Chg.rf _) (C1.mono (by simp) (by simp)) hB.2.2.1 hB.2.1 (hB.2.2.2.1.kp (fun x _ _ => C1.1 x (by simp; omega)))
      refine Pr.turn (fun c => m_top (by omega) p31 hB.2.2.2.2.1 p47 e47 c) (C1.mono (by simp) (by simp)) ?_
      rw [if_pos hmk]
      refine Pr.mono (p_pend (h := h) (E := E) hn D1 (by simp [rI]) p4 (by omega) (by omega)) ?_
      rintro o g' gm' E' _ _ ⟨rfl, a', P', d1, d2, d3, d4, d5, d6, d7⟩
      exact ⟨rfl, a', P', d1, d2, by rw [d3, C1.1 32 (by simp)], by rw [d4, C1.1 33 (by simp)], fun i hi => by rw [d5 i hi, C1.2.1 33 (by simp)], d6, by omega⟩
theorem p_params (hn : 700 ≤ n) (hD : HD t g gm N s a q m 0 ht rk ho) (hH : ht m = 0) (hq : q < 8) (hh : h + 20 < 900) (p31 : gm.1 31 = nI (h + 3)) (p3 : gm.2.1 33 (h + 2) = 3) (p45 : gm.2.1 33 (h + 1) = 45) (p4 : gm.2.1 33 h = 4) (hE : 60 ≤ E) : Pr n g gm E (f5 n g) (QV (QP t gm N s a q m ht rk ho h E 10)) := by
  unfold f5
  refine Pr.cv (p_take (c := 3) (h := h + 2) hn hD.1.rt (by omega) p31 p3 (by decide) (by decide) (by decide) (by decide) (by omega)) ?_
  rintro g2 gm2 E2 _ _ ⟨hE2, hlt, rfl, w31, w34, wP, C2⟩
  have D2 := hD.kp (a' := a + 1) (Chg.i 5 (nI (a + 1)) (by simp)) (C2.mono (by simp) (by simp)) (by simp [rI]) (by omega) wP
  obtain ⟨b1, b2, b3, b4, b5, b6⟩ := id D2.1
  rw [c1 b1 b2 b3, m_ci_s]
  have j26 : (gI gm2 31 (nI (h + 1))).1 26 = kd (t.2.1 12 (a + 1)) := by simp [rI, b4.1]
  have w33 : gm2.2.1 33 (h + 1) = 45 := by rw [C2.2.1 33 (by simp)]; exact p45
  obtain ⟨E2, rfl⟩ : ∃ e, E2 = e + 1 := ⟨E2 - 1, by omega⟩
  by_cases hmk : t.2.1 12 (a + 1) = 2
  · have kk : kd (t.2.1 12 (a + 1)) = 1 := by rw [hmk]; decide
    have e45 : f101 n 45 (gI gm2 31 (nI (h + 1))) = some (.inl none, pus (gI gm2 31 (nI (h + 1))) (h + 1) [47, 46]) := by
      unfold f101 f132
      simp (decide := true) only [reduceIte]
      rw [j26, kk, if_neg (fun w => w rfl), m108_2 (h := h + 1) (by omega) (by simp [rI]) (by decide), m_cv_s, m_cv_s]
      rfl
    have C1 : Chg [31] [33] gm2 (pus (gI gm2 31 (nI (h + 1))) (h + 1) [47, 46]) := (Chg.i 31 _ (by simp)).tr pus_c
    have v31 : (pus (gI gm2 31 (nI (h + 1))) (h + 1) [47, 46]).1 31 = nI (h + 3) := pus_h (by simp [rI])
    have v2 : (pus (gI gm2 31 (nI (h + 1))) (h + 1) [47, 46]).2.1 33 (h + 2) = 46 := pus_t (h := h + 1) (i := 1) rfl
    have v1 : (pus (gI gm2 31 (nI (h + 1))) (h + 1) [47, 46]).2.1 33 (h + 1) = 47 := pus_t (h := h + 1) (i := 0) rfl
    have vo : ∀ i, i < h + 1 → (pus (gI gm2 31 (nI (h + 1))) (h + 1) [47, 46]).2.1 33 i = gm2.2.1 33 i := fun i hi => by rw [pus_o hi]; rfl
    have hts : ∀ c, f91_55 n (c + 1) gm2 = f91_55 n c (pus (gI gm2 31 (nI (h + 1))) (h + 1) [47, 46]) := fun c => m_top (by omega) w31 b5 w33 e45 c
    clear e45
    generalize pus (gI gm2 31 (nI (h + 1))) (h + 1) [47, 46] = gm1 at C1 v31 v2 v1 vo hts
    have D1 := D2.kp (Chg.rf _) (C1.mono (by simp) (by simp)) b3 b2 (b4.kp (fun x _ _ => C1.1 x (by simp; omega)))
    refine Pr.turn hts (C1.mono (by simp) (by simp)) ?_
    rw [if_neg (fun w => w hmk)]
    refine Pr.cv (p_param (h := h + 2) hn D1 hH hq (by omega) v31 v2 (by omega) (by omega)) ?_
    rintro g3 gm3 E3 _ _ ⟨D3, x31, C3, hE3⟩
    refine Pr.mono (p_ptail hn hH hq (by omega) 2 1 n (a + 1 + 1) E3 g3 gm3 (by omega) (by omega) (by omega) D3 x31 (by rw [C3.2.1 33 (by simp)]; exact v1) (by rw [C3.2.1 33 (by simp), vo h (by omega), C2.2.1 33 (by simp)]; exact p4) (by omega)) ?_
    rintro o g' gm' E' _ _ ⟨rfl, a', P', d1, d2, d3, d4, d5, d6, d7⟩
    exact ⟨rfl, a', P', d1, d2, by rw [d3, C3.1 32 (by simp), C1.1 32 (by simp), C2.1 32 (by simp)], by rw [d4, C3.1 33 (by simp), C1.1 33 (by simp), C2.1 33 (by simp)], fun i hi => by rw [d5 i hi, C3.2.1 33 (by simp), vo i (by omega), C2.2.1 33 (by simp)], by omega, by omega⟩
  · have e45 : f101 n 45 (gI gm2 31 (nI (h + 1))) = some (.inl none, gI gm2 31 (nI (h + 1))) := by
      unfold f101 f132
      simp (decide := true) only [reduceIte]
      rw [j26, if_pos (fun w => hmk ((kd_iff (by decide) (by decide) (by decide)).mp w)), m_cv_s]
    have C1 : Chg [31] [] gm2 (gI gm2 31 (nI (h + 1))) := Chg.i 31 _ (by simp)
    have D1 := D2.kp (gm' := gI gm2 31 (nI (h + 1))) (Chg.rf _) (C1.mono (by simp) (by simp)) b3 b2 (b4.kp (fun x _ _ => C1.1 x (by simp; omega)))
    refine Pr.turn (fun c => m_top (by omega) w31 b5 w33 e45 c) (C1.mono (by simp) (by simp)) ?_
    rw [if_pos hmk]
    refine Pr.mono (p_pend (h := h) (E := E2) hn D1 (by simp [rI]) (by rw [rI2, C2.2.1 33 (by simp)]; exact p4) (by omega) (by omega)) ?_
    rintro o g' gm' E' _ _ ⟨rfl, a', P', d1, d2, d3, d4, d5, d6, d7⟩
    exact ⟨rfl, a', P', d1, d2, by rw [d3, C1.1 32 (by simp), C2.1 32 (by simp)], by rw [d4, C1.1 33 (by simp), C2.1 33 (by simp)], fun i hi => by rw [d5 i hi, C1.2.1 33 (by simp), C2.2.1 33 (by simp)], by omega, by omega⟩
end Pm
