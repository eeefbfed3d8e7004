/-! while -/
section Whl
variable {n N s a D v q m h k y E R c z p l x w st : Nat} {t g gm gx : mG} {ht rk : Nat → Nat} {ho : Nat → Prop}
/-- the first turn of if and while -/
theorem s52_w (hh : h + 4 < 900) (hk : k + 1 < 600) (h31 : gx.1 31 = nI h) (e26 : gx.1 26 = 30) (e27 : gx.1 27 = nI p) (e32 : gx.1 32 = nI k) (e37 : gx.1 37 = nI m) : f101 n 52 gx = some (.inl none, pus (nt (nt gx k (nI p)) (k + 1) (nI m)) h [62, 48, 63, 60, 30]) := by
  have i31 : (nt (nt gx k (nI p)) (k + 1) (nI m)).1 31 = nI h := by rw [nt_c.1 31 (by simp), nt_c.1 31 (by simp)]; exact h31
  have i26 : (nt gx k (nI p)).1 26 = 30 := by rw [nt_c.1 26 (by simp)]; exact e26
  have i37 : (nt gx k (nI p)).1 37 = nI m := by rw [nt_c.1 37 (by simp)]; exact e37
  unfold f101 f132 f135
  rw [e26]
  simp (decide := true) only [reduceIte]
  rw [e27, m107 (by omega) e32, m_cv_s]
  unfold f135_25
  rw [i26]
  simp (decide := true) only [reduceIte]
  rw [i37, m107 (by omega) nt_h, m_cv_s, m108_2 (h := h) (by omega) i31 (by decide), m_cv_s, m108_3 (h := h + 2) (by omega) pu_h (by decide) (by decide), m_cv_s, m_cv_s, m_cv_s]
  rfl
theorem s62 {m1 st : Nat} (hk : k + 1 < 600) (hm : m < 600) (hm1 : m1 < m) (e32 : gx.1 32 = nI (k + 2)) (en1 : gx.2.1 34 (k + 1) = nI m1) (en0 : gx.2.1 34 k = nI st) (e37 : gx.1 37 = nI m) :
    f101 n 62 gx = some (.inl none, gS (en (gI (gI gx 32 (nI (k + 1))) 32 (nI k)) m 12 (nI st)) 44 (upd ((en (gI (gI gx 32 (nI (k + 1))) 32 (nI k)) m 12 (nI st)).2.1 44) m1 (nI (m + 1)))) := by
  have i1 : (gI gx 32 (nI (k + 1))).1 32 = nI (k + 1) := by simp [rI]
  have i3 : (gI gx 32 (nI (k + 1))).2.1 34 k = nI st := en0
  have i37 : (gI (gI gx 32 (nI (k + 1))) 32 (nI k)).1 37 = nI m := by simp [rI, e37]
  unfold f101 f124
  simp (decide := true) only [reduceIte]
  unfold f131
  rw [m115 hk e32, m_ci_s, en1, m115 (by omega) i1, m_ci_s, i3, m109 hm i37, m_cv_s, m123 (m := m + 1) (by omega) (by omega) en_37, m_cv_s, m_cv_s, m_cv_s]
theorem p_while {rc rc' : mRec} (hn : 700 ≤ n) (hP : PS t g gm N s a D v q m ht rk ho h k y E D 0 52) (hmk : t.2.1 12 a = 31) (hX : HX n rc')
    (e28 : ∀ g, rc 28 (nI D) 0 0 g = f28 n rc' (nI D) g)
    (ih : ∀ (g gm : mG) (a v m : Nat) (ht rk : Nat → Nat) (ho : Nat → Prop) (h k y E : Nat), PS t g gm N s a D v q m ht rk ho h k y E (D + 1) 5 48 → Pr n g gm E (rc 11 (nI D) 0 0 g) (QV (QS t g gm N s a D v q m ht rk ho h k y E (D + 1) 2))) :
    Pr n g gm E (f29 n rc (nI D) g) (QV (QS t g gm N s a D v q m ht rk ho h k y E D 1)) := by
  obtain ⟨hR, p33, ⟨p31, p32, py⟩, pH, pr, ph, p88, p17, pm, pD, pR, ph9, pk6, py4, pE⟩ := hP
  obtain ⟨b1, b2, b3, b4, b5, b6, b7, b8⟩ := id hR
  have hs := b1.s6
  have hp := b1.tp b2
  have kk : kd (t.2.1 12 a) = 30 := by rw [hmk]; decide
  obtain ⟨E, rfl⟩ : ∃ e, E = e + 1 := ⟨E - 1, by omega⟩
  have e := s52_w (n := n) (gx := gI gm 31 (nI h)) (h := h) (k := k) (p := tp t a) (m := m) (by omega) (by omega) (by simp [rI]) (by simp [rI, b4.1, kk]) (by simp [rI, b4.2.1]) (by simp [rI, p32]) (by simp [rI]; exact b8.2.1)
  have C1 : Chg [31, 32] [33, 34] gm (pus (nt (nt (gI gm 31 (nI h)) k (nI (tp t a))) (k + 1) (nI m)) h [62, 48, 63, 60, 30]) := (Chg.i 31 _ (by simp)).tr ((nt_c.mono (by simp) (by simp)).tr ((nt_c.mono (by simp) (by simp)).tr (pus_c.mono (by simp) (by simp))))
  have v31 : (pus (nt (nt (gI gm 31 (nI h)) k (nI (tp t a))) (k + 1) (nI m)) h [62, 48, 63, 60, 30]).1 31 = nI (h + 5) := pus_h (by rw [nt_c.1 31 (by simp), nt_c.1 31 (by simp)]; simp [rI])
  have v4 : (pus (nt (nt (gI gm 31 (nI h)) k (nI (tp t a))) (k + 1) (nI m)) h [62, 48, 63, 60, 30]).2.1 33 (h + 4) = 30 := pus_t (i := 4) rfl
  have v3 : (pus (nt (nt (gI gm 31 (nI h)) k (nI (tp t a))) (k + 1) (nI m)) h [62, 48, 63, 60, 30]).2.1 33 (h + 3) = 60 := pus_t (i := 3) rfl
  have v2 : (pus (nt (nt (gI gm 31 (nI h)) k (nI (tp t a))) (k + 1) (nI m)) h [62, 48, 63, 60, 30]).2.1 33 (h + 2) = 63 := pus_t (i := 2) rfl
  have v1 : (pus (nt (nt (gI gm 31 (nI h)) k (nI (tp t a))) (k + 1) (nI m)) h [62, 48, 63, 60, 30]).2.1 33 (h + 1) = 48 := pus_t (i := 1) rfl
  have v0 : (pus (nt (nt (gI gm 31 (nI h)) k (nI (tp t a))) (k + 1) (nI m)) h [62, 48, 63, 60, 30]).2.1 33 h = 62 := pus_t (i := 0) rfl
  have vo : ∀ i, i < h → (pus (nt (nt (gI gm 31 (nI h)) k (nI (tp t a))) (k + 1) (nI m)) h [62, 48, 63, 60, 30]).2.1 33 i = gm.2.1 33 i := fun i hi => by rw [pus_o hi, nt_c.2.1 33 (by simp), nt_c.2.1 33 (by simp)]; rfl
  have u1 : (pus (nt (nt (gI gm 31 (nI h)) k (nI (tp t a))) (k + 1) (nI m)) h [62, 48, 63, 60, 30]).2.1 34 (k + 1) = nI m := by rw [pus_c.2.1 34 (by simp)]; exact nt_t
  have u0 : (pus (nt (nt (gI gm 31 (nI h)) k (nI (tp t a))) (k + 1) (nI m)) h [62, 48, 63, 60, 30]).2.1 34 k = nI (tp t a) := by rw [pus_c.2.1 34 (by simp), nt_o (by omega)]; exact nt_t
  have uo : ∀ i, i < k → (pus (nt (nt (gI gm 31 (nI h)) k (nI (tp t a))) (k + 1) (nI m)) h [62, 48, 63, 60, 30]).2.1 34 i = gm.2.1 34 i := fun i hi => by rw [pus_c.2.1 34 (by simp), nt_o (by omega), nt_o hi]; rfl
  have v32 : (pus (nt (nt (gI gm 31 (nI h)) k (nI (tp t a))) (k + 1) (nI m)) h [62, 48, 63, 60, 30]).1 32 = nI (k + 1 + 1) := by rw [pus_c.1 32 (by simp)]; exact nt_h
  have hts : ∀ c, f91_55 n (c + 1) gm = f91_55 n c (pus (nt (nt (gI gm 31 (nI h)) k (nI (tp t a))) (k + 1) (nI m)) h [62, 48, 63, 60, 30]) := fun c => m_top (x := 52) (by omega) p31 b5 p33 e c
  clear e
  generalize pus (nt (nt (gI gm 31 (nI h)) k (nI (tp t a))) (k + 1) (nI m)) h [62, 48, 63, 60, 30] = gm1 at C1 v31 v4 v3 v2 v1 v0 vo u1 u0 uo v32 hts
  have R1 : RR t g gm1 N s a D v q m ht rk ho := hR.ks (C1.mono (by simp) (by simp))
  have R1 := R1.lc (rk' := fun i => if i < m then rk i else 0) (fun i hi => by simp [hi]) (by simp)
  refine Pr.turn hts (C1.mono (by simp) (by simp)) ?_
  unfold f29
  rw [e28]
  refine Pr.ci (p_test (w := 1) (k := k) (h := h) (y := y) hn (Or.inr ⟨rfl, rfl, rfl, u1⟩) R1 (by rw [hmk]; rfl) v31 v4 v3 v2 v32 u0 (by rw [C1.1 33 (by simp)]; exact py) pH (fun i hi => by simp only [show ¬ i < m by omega, if_false]) ph p88 pm pD (by omega) (by omega) (by omega) (by omega) hX) ?_
  rintro x g2 gm2 E2 _ _ ⟨a2, m2, ht2, rfl, R2, S2, o33, o34, o35, n1, n0, q17, q43, A2, t1, t2, t3, t4, t5, t6, t7⟩
  have ha2 := R2.2.1
  have i2 : ¬ m2 + 1 ≤ m2 := by omega
  have P2 : PS t g2 gm2 N s a2 D v q (m2 + 1) (fun i => if i ≤ m2 then ht2 i else 0) (fun i => if i ≤ m2 then (if i < m then rk i else 0) else D + 1) (fun i => ho i ∨ i = m2) (h + 1) (k + 2) y E2 (D + 1) 5 48 := ⟨R2, by rw [o33 (h + 1) (by omega)]; exact v1, S2, by simp only [i2, if_false], fun i hi => by simp only [show ¬ i ≤ m2 by omega, if_false], fun i hi w => w.elim (fun w => ph i (by omega) w) (fun w => by omega), fun i => by
    by_cases hi : i ≤ m2
    · simp only [hi, if_true]; exact t3 i hi
    · simp only [hi, if_false]; omega, fun i => by
    by_cases hi : i ≤ m2
    · simp only [hi, if_true]
      by_cases hm : i < m
      · simp only [hm, if_true]; exact p17 i
      · simp only [hm, if_false]; omega
    · simp only [hi, if_false]; omega, by omega, pD, by omega, by omega, by omega, by omega, by omega⟩
  refine Pr.cv (ih _ _ _ _ _ _ _ _ _ _ _ _ P2) ?_
  rintro g3 gm3 E3 _ _ ⟨a3, m3, v3', ht3, rk3, R3, ⟨x31, x32, x33⟩, F3, A3, d5, d6, d7, d8, d9, d10, d11, d12, d13, d14⟩
  have ha3 := R3.2.1
  have hm3 : m3 < 600 := by omega
  have g30 : gm3.1 30 = -1 := R3.2.2.2.2.1
  have g33h : gm3.2.1 33 h = 62 := by rw [F3.1 h (by omega), o33 h (by omega)]; exact v0
  have e := s62 (n := n) (m1 := m2) (st := m) (gx := gI gm3 31 (nI h)) (k := k) (m := m3) (by omega) hm3 (by omega) (by simp [rI, x32]) (by rw [rI2, F3.2.1 (k + 1) (by omega)]; exact n1) (by rw [rI2, F3.2.1 k (by omega)]; exact n0 rfl) (by simp [rI]; exact R3.2.2.2.2.2.2.2.2.1)
  have Cx : Chg [31, 32, 33] [] gm3 (gI (gI (gI gm3 31 (nI h)) 32 (nI (k + 1))) 32 (nI k)) := (Chg.i 31 _ (by simp)).tr ((Chg.i 32 _ (by simp)).tr (Chg.i 32 _ (by simp)))
  have j31 : (gI (gI (gI gm3 31 (nI h)) 32 (nI (k + 1))) 32 (nI k)).1 31 = nI h := by simp [rI]
  have j32 : (gI (gI (gI gm3 31 (nI h)) 32 (nI (k + 1))) 32 (nI k)).1 32 = nI k := by simp [rI]
  have j33 : (gI (gI (gI gm3 31 (nI h)) 32 (nI (k + 1))) 32 (nI k)).1 33 = nI y := by simp [rI, x33]
  generalize gI (gI (gI gm3 31 (nI h)) 32 (nI (k + 1))) 32 (nI k) = gx at e Cx j31 j32 j33
  have h3m : ht3 m = 0 := by rw [d5 m (by omega)]; simp only [show m ≤ m2 by omega, if_true]; rw [t1 m (by omega)]; exact pH
  have h3t : ht3 m2 = 1 := by rw [d5 m2 (by omega)]; simp only [Nat.le_refl, if_true]; exact t2
  have h3u : ht3 (m2 + 1) = 0 := by rw [d5 (m2 + 1) (by omega)]; simp only [i2, if_false]
  have r3m : rk3 m = 0 := by rw [d8 m (by omega)]; simp only [show m ≤ m2 by omega, if_true, Nat.lt_irrefl, if_false]
  have r3t : rk3 m3 = D + 1 := d9 m3 (Nat.le_refl _)
  have i3 : ¬ m3 + 1 ≤ m3 := by omega
  have R4 := (R3.ks (Cx.mono (by simp) (by simp))).addr (ht' := fun i => if i ≤ m3 then ht3 i else 0) (rk' := fun i => if i ≤ m3 then rk3 i else D) (ho' := fun i => ho i ∨ i = m2) (mk := 41) (ar := nI m) (st := 12) (pt := nI m) hm3 (fun i hi => by simp [hi]) (fun i hi => by simp [hi]) (fun i _ w => w) (Or.inr (Or.inr (Or.inr (Or.inr (Or.inr (Or.inr (Or.inr (Or.inr (Or.inr (Or.inr (Or.inr (Or.inr (Or.inr (Or.inr (Or.inr (Or.inl ⟨rfl, rfl, rfl, m, by omega, rfl, by simp only [show m ≤ m3 by omega, Nat.le_refl, if_true]; rw [h3m, d6], by simp only [show m ≤ m3 by omega, Nat.le_refl, if_true]; rw [r3m, r3t]; omega⟩))))))))))))))))
  obtain ⟨a17, a18, a43, a44⟩ := A3 m2 (by omega)
  have R5 := R4.aim (j := m2) (ho' := ho) (by omega) (fun i _ h1 h2 => h2.elim id (fun w => absurd w h1)) (Or.inr (by
    rw [em_17, upd_o (by omega), a17, q17, en_43, upd_o (by omega), Cx.2.1 43 (by simp), a43, q43]
    exact Or.inr (Or.inr (Or.inr (Or.inr (Or.inr (Or.inr (Or.inr (Or.inr (Or.inr (Or.inr (Or.inr (Or.inr (Or.inr (Or.inr (Or.inr ⟨rfl, rfl, rfl, ⟨m3 + 1, by omega, rfl, by simp only [show m2 ≤ m3 by omega, i3, if_true, if_false]; exact h3t⟩, by omega, by simp only [show m2 ≤ m3 by omega, show m2 + 1 ≤ m3 by omega, if_true]; rw [h3t, h3u]⟩))))))))))))))))
  rw [b8.1, c34 hm3 R3.2.2.2.2.2.2.2.1, m_ci_s, c37 (m := m3 + 1) (by omega) (by omega) em_12, m_cv_s]
  obtain ⟨E3, rfl⟩ : ∃ e, E3 = e + 1 := ⟨E3 - 1, by omega⟩
  have Cg : Chg [12] [17, 18] g3 (gS (em g3 m3 41 (nI m)) 18 (upd ((em g3 m3 41 (nI m)).2.1 18) m2 (nI (m3 + 1)))) := em_c.tr (Chg.s 18 _ (by simp))
  have CT : Chg [31, 32, 33, 37] [43, 44] gm3 (gS (en gx m3 12 (nI m)) 44 (upd ((en gx m3 12 (nI m)).2.1 44) m2 (nI (m3 + 1)))) := (Cx.mono (by simp) (by simp)).tr ((en_c.mono (by simp) (by simp)).tr (Chg.s 44 _ (by simp)))
  refine Pr.turn (fun c => m_top (x := 62) (by omega) x31 g30 g33h e c) (CT.mono (by simp) (by simp)) (Pr.own (Cg.mono (by simp) (by simp)) (Pr.ret ⟨rfl, a3, m3 + 1, v3', _, _, R5, ⟨?_, ?_, ?_⟩, ⟨fun i hi => ?_, fun i hi => ?_, fun i hi => ?_⟩, fun i hi => ?_, fun i hi => ?_, ?_, fun i => ?_, fun i hi => ?_, fun i hi => ?_, fun i => ?_, by omega, by omega, by omega, by omega⟩))
  · rw [rS1, en_c.1 31 (by simp)]; exact j31
  · rw [rS1, en_c.1 32 (by simp)]; exact j32
  · rw [rS1, en_c.1 33 (by simp)]; exact j33
  · rw [CT.2.1 33 (by simp), F3.1 i (by omega), o33 i (by omega)]; exact vo i hi
  · rw [CT.2.1 34 (by simp), F3.2.1 i (by omega), o34 i hi]; exact uo i hi
  · rw [CT.2.1 35 (by simp), F3.2.2 i hi, o35 i hi, C1.2.1 35 (by simp)]
  · obtain ⟨x1, x2, x3, x4⟩ := A3 i (by omega)
    obtain ⟨y1, y2, y3, y4⟩ := A2 i hi
    refine ⟨?_, ?_, ?_, ?_⟩
    · show (em g3 m3 41 (nI m)).2.1 17 i = _
      rw [em_17, upd_o (by omega), x1, y1]
    · rw [rS]
      simp only [if_true]
      rw [upd_o (by omega), em_18, upd_o (by omega), x2, y2]
    · show (en gx m3 12 (nI m)).2.1 43 i = _
      rw [en_43, upd_o (by omega), Cx.2.1 43 (by simp), x3, y3, C1.2.1 43 (by simp)]
    · rw [rS]
      simp only [if_true]
      rw [upd_o (by omega), en_44, upd_o (by omega), Cx.2.1 44 (by simp), x4, y4, C1.2.1 44 (by simp)]
  · simp only [show i ≤ m3 by omega, if_true]
    rw [d5 i (by omega)]
    simp only [show i ≤ m2 by omega, if_true]
    exact t1 i hi
  · simp only [i3, if_false]
  · by_cases hi : i ≤ m3
    · simp only [hi, if_true]; exact d7 i
    · simp only [hi, if_false]; omega
  · simp only [show i ≤ m3 by omega, if_true]
    rw [d8 i (by omega)]
    simp only [show i ≤ m2 by omega, hi, if_true]
  · simp only [show ¬ i ≤ m3 by omega, if_false]
  · by_cases hi : i ≤ m3
    · simp only [hi, if_true]; exact d10 i
    · simp only [hi, if_false]; omega
end Whl
