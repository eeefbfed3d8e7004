/-! if, with and without else -/
section Chc
variable {n N s a D v q m h k y E R c z p l x w st : Nat} {t g gm gx : mG} {ht rk : Nat → Nat} {ho : Nat → Prop}
theorem s52_i (hh : h + 4 < 900) (hk : k < 600) (h31 : gx.1 31 = nI h) (e26 : gx.1 26 = 28) (e27 : gx.1 27 = nI p) (e32 : gx.1 32 = nI k) : f101 n 52 gx = some (.inl none, pus (nt gx k (nI p)) h [59, 48, 61, 60, 28]) := by
  have i31 : (nt gx k (nI p)).1 31 = nI h := by rw [nt_c.1 31 (by simp)]; exact h31
  have i26 : (nt gx k (nI p)).1 26 = 28 := by rw [nt_c.1 26 (by simp)]; exact e26
  unfold f101 f132 f135
  rw [e26]
  simp (decide := true) only [reduceIte]
  rw [e27, m107 (by omega) e32, m_cv_s]
  unfold f135_25
  rw [i26]
  simp (decide := true) only [reduceIte]
  rw [m108_2 (h := h) (by omega) i31 (by decide), m_cv_s, m108_3 (h := h + 2) (by omega) pu_h (by decide) (by decide), m_cv_s, m_cv_s, m_cv_s]
  rfl
theorem s59_n (hh : h < 900) (h31 : gx.1 31 = nI h) (e26 : ¬ gx.1 26 = 29) : f101 n 59 gx = some (.inl none, pus gx h [66]) := by
  unfold f101 f124
  simp (decide := true) only [reduceIte]
  rw [if_pos e26, m100 hh h31, m_cv_s, m_cv_s]
  rfl
theorem s59_y (hh : h + 3 < 900) (h31 : gx.1 31 = nI h) (e26 : gx.1 26 = 29) : f101 n 59 gx = some (.inl none, pus gx h [66, 48, 67, 29]) := by
  unfold f101 f124
  simp (decide := true) only [reduceIte]
  rw [if_neg (fun w => w e26), m108_4 hh h31 (by decide) (by decide) (by decide), m_cv_s, m_cv_s]
  rfl
theorem s66 {j : Nat} (hk : k < 600) (hj : j < m) (hm : m ≤ 600) (e32 : gx.1 32 = nI (k + 1)) (en0 : gx.2.1 34 k = nI j) (e37 : gx.1 37 = nI m) : f101 n 66 gx = some (.inl none, gS (gI gx 32 (nI k)) 44 (upd ((gI gx 32 (nI k)).2.1 44) j (nI m))) := by
  have i37 : (gI gx 32 (nI k)).1 37 = nI m := by simp [rI, e37]
  unfold f101 f124
  simp (decide := true) only [reduceIte]
  rw [m115 hk e32, m_ci_s, en0, m123 hj hm i37, m_cv_s, m_cv_s]
theorem s67 {j : Nat} (hk : k < 600) (hj : j < m) (hm : m < 600) (e32 : gx.1 32 = nI (k + 1)) (en0 : gx.2.1 34 k = nI j) (e37 : gx.1 37 = nI m) : f101 n 67 gx = some (.inl none, gS (en (nt (gI gx 32 (nI k)) k (nI m)) m 12 0) 44 (upd ((en (nt (gI gx 32 (nI k)) k (nI m)) m 12 0).2.1 44) j (nI (m + 1)))) := by
  have i37 : (gI gx 32 (nI k)).1 37 = nI m := by simp [rI, e37]
  have i32 : (gI gx 32 (nI k)).1 32 = nI k := by simp [rI]
  have j37 : (nt (gI gx 32 (nI k)) k (nI m)).1 37 = nI m := by rw [nt_c.1 37 (by simp)]; exact i37
  unfold f101 f124
  simp (decide := true) only [reduceIte]
  unfold f129 f121
  rw [m115 hk e32, m_ci_s, en0, i37, m107 hk i32, m_cv_s, m109 hm j37, m_cv_s, m_cv_s, m123 (m := m + 1) (by omega) (by omega) en_37, m_cv_s, m_cv_s, m_cv_s]
theorem p_if {rc rc' : mRec} (hn : 700 ≤ n) (hP : PS t g gm N s a D v q m ht rk ho h k y E D 0 52) (hmk : t.2.1 12 a = 29) (hX : HX n rc')
    (e28 : ∀ g, rc 28 (nI D) 0 0 g = f28 n rc' (nI D) g)
    (ih : ∀ (g gm : mG) (a v m : Nat) (ht rk : Nat → Nat) (ho : Nat → Prop) (h k y E : Nat), PS t g gm N s a D v q m ht rk ho h k y E (D + 1) 5 48 → Pr n g gm E (rc 11 (nI D) 0 0 g) (QV (QS t g gm N s a D v q m ht rk ho h k y E (D + 1) 2))) :
    Pr n g gm E (f27 n rc (nI D) g) (QV (QS t g gm N s a D v q m ht rk ho h k y E D 1)) := by
  obtain ⟨hR, p33, ⟨p31, p32, py⟩, pH, pr, ph, p88, p17, pm, pD, pR, ph9, pk6, py4, pE⟩ := hP
  obtain ⟨b1, b2, b3, b4, b5, b6, b7, b8⟩ := id hR
  have hs := b1.s6
  have hp := b1.tp b2
  have kk : kd (t.2.1 12 a) = 28 := by rw [hmk]; decide
  obtain ⟨E, rfl⟩ : ∃ e, E = e + 1 := ⟨E - 1, by omega⟩
  have e := s52_i (n := n) (gx := gI gm 31 (nI h)) (h := h) (k := k) (p := tp t a) (by omega) (by omega) (by simp [rI]) (by simp [rI, b4.1, kk]) (by simp [rI, b4.2.1]) (by simp [rI, p32])
  have C1 : Chg [31, 32] [33, 34] gm (pus (nt (gI gm 31 (nI h)) k (nI (tp t a))) h [59, 48, 61, 60, 28]) := (Chg.i 31 _ (by simp)).tr ((nt_c.mono (by simp) (by simp)).tr (pus_c.mono (by simp) (by simp)))
  have v31 : (pus (nt (gI gm 31 (nI h)) k (nI (tp t a))) h [59, 48, 61, 60, 28]).1 31 = nI (h + 5) := pus_h (by rw [nt_c.1 31 (by simp)]; simp [rI])
  have v4 : (pus (nt (gI gm 31 (nI h)) k (nI (tp t a))) h [59, 48, 61, 60, 28]).2.1 33 (h + 4) = 28 := pus_t (i := 4) rfl
  have v3 : (pus (nt (gI gm 31 (nI h)) k (nI (tp t a))) h [59, 48, 61, 60, 28]).2.1 33 (h + 3) = 60 := pus_t (i := 3) rfl
  have v2 : (pus (nt (gI gm 31 (nI h)) k (nI (tp t a))) h [59, 48, 61, 60, 28]).2.1 33 (h + 2) = 61 := pus_t (i := 2) rfl
  have v1 : (pus (nt (gI gm 31 (nI h)) k (nI (tp t a))) h [59, 48, 61, 60, 28]).2.1 33 (h + 1) = 48 := pus_t (i := 1) rfl
  have v0 : (pus (nt (gI gm 31 (nI h)) k (nI (tp t a))) h [59, 48, 61, 60, 28]).2.1 33 h = 59 := pus_t (i := 0) rfl
  have vo : ∀ i, i < h → (pus (nt (gI gm 31 (nI h)) k (nI (tp t a))) h [59, 48, 61, 60, 28]).2.1 33 i = gm.2.1 33 i := fun i hi => by rw [pus_o hi, nt_c.2.1 33 (by simp)]; rfl
  have u0 : (pus (nt (gI gm 31 (nI h)) k (nI (tp t a))) h [59, 48, 61, 60, 28]).2.1 34 k = nI (tp t a) := by rw [pus_c.2.1 34 (by simp)]; exact nt_t
  have uo : ∀ i, i < k → (pus (nt (gI gm 31 (nI h)) k (nI (tp t a))) h [59, 48, 61, 60, 28]).2.1 34 i = gm.2.1 34 i := fun i hi => by rw [pus_c.2.1 34 (by simp), nt_o hi]; rfl
  have v32 : (pus (nt (gI gm 31 (nI h)) k (nI (tp t a))) h [59, 48, 61, 60, 28]).1 32 = nI (k + 0 + 1) := by rw [pus_c.1 32 (by simp)]; exact nt_h
  have hts : ∀ c, f91_55 n (c + 1) gm = f91_55 n c (pus (nt (gI gm 31 (nI h)) k (nI (tp t a))) h [59, 48, 61, 60, 28]) := fun c => m_top (x := 52) (by omega) p31 b5 p33 e c
  clear e
  generalize pus (nt (gI gm 31 (nI h)) k (nI (tp t a))) h [59, 48, 61, 60, 28] = gm1 at C1 v31 v4 v3 v2 v1 v0 vo u0 uo v32 hts
  have R1 : RR t g gm1 N s a D v q m ht rk ho := hR.ks (C1.mono (by simp) (by simp))
  have R1 := R1.lc (rk' := fun i => if i < m then rk i else 0) (fun i hi => by simp [hi]) (by simp)
  refine Pr.turn hts (C1.mono (by simp) (by simp)) ?_
  unfold f27
  rw [e28]
  refine Pr.ci (p_test (w := 0) (k := k) (h := h) (y := y) hn (Or.inl ⟨rfl, rfl, rfl⟩) R1 (by rw [hmk]; rfl) v31 v4 v3 v2 v32 u0 (by rw [C1.1 33 (by simp)]; exact py) pH (fun i hi => by simp only [show ¬ i < m by omega, if_false]) ph p88 pm pD (by omega) (by omega) (by omega) (by omega) hX) ?_
  rintro x g2 gm2 E2 _ _ ⟨a2, m2, ht2, rfl, R2, S2, o33, o34, o35, n1, n0, q17, q43, A2, t1, t2, t3, t4, t5, t6, t7⟩
  have ha2 := R2.2.1
  have i2 : ¬ m2 + 1 ≤ m2 := by omega
  have P2 : PS t g2 gm2 N s a2 D v q (m2 + 1) (fun i => if i ≤ m2 then ht2 i else 0) (fun i => if i ≤ m2 then (if i < m then rk i else 0) else D + 1) (fun i => ho i ∨ i = m2) (h + 1) (k + 1) y E2 (D + 1) 5 48 := ⟨R2, by rw [o33 (h + 1) (by omega)]; exact v1, S2, by simp only [i2, if_false], fun i hi => by simp only [show ¬ i ≤ m2 by omega, if_false], fun i hi w => w.elim (fun w => ph i (by omega) w) (fun w => by omega), fun i => by
    by_cases hi : i ≤ m2
    · simp only [hi, if_true]; exact t3 i hi
    · simp only [hi, if_false]; omega, fun i => by
    by_cases hi : i ≤ m2
    · simp only [hi, if_true]
      by_cases hm : i < m
      · simp only [hm, if_true]; exact p17 i
      · simp only [hm, if_false]; omega
    · simp only [hi, if_false]; omega, by omega, pD, by omega, by omega, by omega, by omega, by omega⟩
  refine Pr.cv (ih _ _ _ _ _ _ _ _ _ _ _ _ P2) ?_
  rintro g3 gm3 E3 _ _ ⟨a3, m3, v3', ht3, rk3, R3, ⟨x31, x32, x33⟩, F3, A3, d5, d6, d7, d8, d9, d10, d11, d12, d13, d14⟩
  have ha3 := R3.2.1
  have hm3 : m3 < 600 := by omega
  have g30 : gm3.1 30 = -1 := R3.2.2.2.2.1
  have g33h : gm3.2.1 33 h = 59 := by rw [F3.1 h (by omega), o33 h (by omega)]; exact v0
  have n3 : gm3.2.1 34 k = nI m2 := by rw [F3.2.1 k (by omega)]; exact n1
  have z26 : (gI gm3 31 (nI h)).1 26 = kd (t.2.1 12 a3) := by simp [rI]; exact R3.2.2.2.1.1
  have h3t : ht3 m2 = 1 := by rw [d5 m2 (by omega)]; simp only [Nat.le_refl, if_true]; exact t2
  have h3u : ht3 (m2 + 1) = 0 := by rw [d5 (m2 + 1) (by omega)]; simp only [i2, if_false]
  obtain ⟨a17, a18, a43, a44⟩ := A3 m2 (by omega)
  have k33 : ∀ i, i < h → gm3.2.1 33 i = gm.2.1 33 i := fun i hi => by rw [F3.1 i (by omega), o33 i (by omega)]; exact vo i hi
  have k34 : ∀ i, i < k → gm3.2.1 34 i = gm.2.1 34 i := fun i hi => by rw [F3.2.1 i (by omega), o34 i hi]; exact uo i hi
  have k35 : ∀ i, i < y → gm3.2.1 35 i = gm.2.1 35 i := fun i hi => by rw [F3.2.2 i hi, o35 i hi, C1.2.1 35 (by simp)]
  have kA : AG g gm g3 gm3 m := fun i hi => by
    obtain ⟨x1, x2, x3, x4⟩ := A3 i (by omega)
    obtain ⟨y1, y2, y3, y4⟩ := A2 i hi
    exact ⟨by rw [x1, y1], by rw [x2, y2], by rw [x3, y3, C1.2.1 43 (by simp)], by rw [x4, y4, C1.2.1 44 (by simp)]⟩
  have kh : ∀ i, i ≤ m → ht3 i = ht i := fun i hi => by
    rw [d5 i (by omega)]
    simp only [show i ≤ m2 by omega, if_true]
    exact t1 i hi
  have kr : ∀ i, i < m → rk3 i = rk i := fun i hi => by
    rw [d8 i (by omega)]
    simp only [show i ≤ m2 by omega, hi, if_true]
  rw [c1 R3.1 ha3 R3.2.2.1, m_ci_s]
  obtain ⟨E3, rfl⟩ : ∃ e, E3 = e + 1 + 1 := ⟨E3 - 2, by omega⟩
  by_cases hel : t.2.1 12 a3 = 30
  · have e := s59_y (n := n) (h := h) (gx := gI gm3 31 (nI h)) (by omega) (by simp [rI]) (by rw [z26, hel]; decide)
    have C4 : Chg [31] [33] gm3 (pus (gI gm3 31 (nI h)) h [66, 48, 67, 29]) := (Chg.i 31 _ (by simp)).tr pus_c
    have w31 : (pus (gI gm3 31 (nI h)) h [66, 48, 67, 29]).1 31 = nI (h + 4) := pus_h (by simp [rI])
    have w3 : (pus (gI gm3 31 (nI h)) h [66, 48, 67, 29]).2.1 33 (h + 3) = 29 := pus_t (i := 3) rfl
    have w2 : (pus (gI gm3 31 (nI h)) h [66, 48, 67, 29]).2.1 33 (h + 2) = 67 := pus_t (i := 2) rfl
    have w1 : (pus (gI gm3 31 (nI h)) h [66, 48, 67, 29]).2.1 33 (h + 1) = 48 := pus_t (i := 1) rfl
    have w0 : (pus (gI gm3 31 (nI h)) h [66, 48, 67, 29]).2.1 33 h = 66 := pus_t (i := 0) rfl
    have wo : ∀ i, i < h → (pus (gI gm3 31 (nI h)) h [66, 48, 67, 29]).2.1 33 i = gm3.2.1 33 i := fun i hi => by rw [pus_o hi]; rfl
    have hts : ∀ c, f91_55 n (c + 1) gm3 = f91_55 n c (pus (gI gm3 31 (nI h)) h [66, 48, 67, 29]) := fun c => m_top (x := 59) (by omega) x31 g30 g33h e c
    clear e
    generalize pus (gI gm3 31 (nI h)) h [66, 48, 67, 29] = gm4 at C4 w31 w3 w2 w1 w0 wo hts
    have R4 := R3.ks (C4.mono (by simp) (by simp))
    refine Pr.turn hts (C4.mono (by simp) (by simp)) ?_
    have er : m_ci (f34_3 n (41 : Int32) (0 : Int32) (gI g3 5 ((g3.1 5) + (1 : Int32)))) (fun v15 g14 => m_cv (f37_3 n (nI m2) g14) (fun g18 => m_cv (rc 11 (nI D) 0 0 g18) (fun g22 => m_cv (f37_3 n v15 g22) (fun g26 => some (.inl none, g26))))) = m_cv (f6 n (29 + 1) g3) (fun g0 => m_ci (f34_3 n (41 : Int32) (0 : Int32) g0) (fun v15 g14 => m_cv (f37_3 n (nI m2) g14) (fun g18 => m_cv (rc 11 (nI D) 0 0 g18) (fun g22 => m_cv (f37_3 n v15 g22) (fun g26 => some (.inl none, g26)))))) := by
      rw [c6 R4.rt (by rw [hel]; rfl), m_cv_s, R3.2.2.1, nI_1]
    rw [if_pos hel, er]
    refine Pr.cv (p_take (h := h + 3) hn R4.rt (by omega) w31 w3 (by decide) (by decide) (by decide) (by decide) (by omega)) ?_
    rintro g5 gm5 E5 _ _ ⟨hE5, hlt5, rfl, y31, y34, yP, C5⟩
    have R5 := R4.kp (Chg.i 5 (nI (a3 + 1)) (by simp)) (C5.mono (by simp) (by simp)) (by simp [rI]) (by omega) yP y34
    have e := s67 (n := n) (gx := gI gm5 31 (nI (h + 2))) (k := k) (j := m2) (m := m3) (by omega) (by omega) hm3 (by simp [rI]; rw [C5.1 32 (by simp), C4.1 32 (by simp)]; exact x32) (by rw [rI2, C5.2.1 34 (by simp), C4.2.1 34 (by simp)]; exact n3) (by simp [rI]; exact R5.2.2.2.2.2.2.2.2.1)
    have C6 : Chg [31, 32, 33] [34] gm5 (nt (gI (gI gm5 31 (nI (h + 2))) 32 (nI k)) k (nI m3)) := (Chg.i 31 _ (by simp)).tr ((Chg.i 32 _ (by simp)).tr (nt_c.mono (by simp) (by simp)))
    have j31 : (nt (gI (gI gm5 31 (nI (h + 2))) 32 (nI k)) k (nI m3)).1 31 = nI (h + 2) := by rw [nt_c.1 31 (by simp)]; simp [rI]
    have j32 : (nt (gI (gI gm5 31 (nI (h + 2))) 32 (nI k)) k (nI m3)).1 32 = nI (k + 1) := nt_h
    have j33 : (nt (gI (gI gm5 31 (nI (h + 2))) 32 (nI k)) k (nI m3)).1 33 = nI y := by rw [nt_c.1 33 (by simp)]; simp [rI]; rw [C5.1 33 (by simp), C4.1 33 (by simp)]; exact x33
    have jk : (nt (gI (gI gm5 31 (nI (h + 2))) 32 (nI k)) k (nI m3)).2.1 34 k = nI m3 := nt_t
    have jo : ∀ i, i < k → (nt (gI (gI gm5 31 (nI (h + 2))) 32 (nI k)) k (nI m3)).2.1 34 i = gm5.2.1 34 i := fun i hi => by rw [nt_o hi]; rfl
    generalize nt (gI (gI gm5 31 (nI (h + 2))) 32 (nI k)) k (nI m3) = gm6 at e C6 j31 j32 j33 jk jo
    have i3 : ¬ m3 + 1 ≤ m3 := by omega
    have R6 := (R5.ks (C6.mono (by simp) (by simp))).addr (ht' := fun i => if i ≤ m3 then ht3 i else 0) (rk' := fun i => if i ≤ m3 then rk3 i else D + 1) (ho' := fun i => (ho i ∨ i = m2) ∨ i = m3) (mk := 41) (ar := 0) (st := 12) (pt := 0) hm3 (fun i hi => by simp [hi]) (fun i hi => by simp [hi]) (fun i _ w => Or.inl w) (Or.inl (Or.inr rfl))
    have R7 := R6.aim (j := m2) (ho' := fun i => ho i ∨ i = m3) (by omega) (fun i _ h1 h2 => h2.elim (fun w => w.elim Or.inl (fun w => absurd w h1)) Or.inr) (Or.inr (by
      have e17 : (gI g3 5 (nI (a3 + 1))).2.1 17 m2 = 40 := by rw [← q17, ← a17]; rfl
      rw [em_17, upd_o (by omega), e17, en_43, upd_o (by omega), C6.2.1 43 (by simp), C5.2.1 43 (by simp), C4.2.1 43 (by simp), a43, q43]
      exact Or.inr (Or.inr (Or.inr (Or.inr (Or.inr (Or.inr (Or.inr (Or.inr (Or.inr (Or.inr (Or.inr (Or.inr (Or.inr (Or.inr (Or.inr ⟨rfl, rfl, rfl, ⟨m3 + 1, by omega, rfl, by simp only [show m2 ≤ m3 by omega, i3, if_true, if_false]; exact h3t⟩, by omega, by simp only [show m2 ≤ m3 by omega, show m2 + 1 ≤ m3 by omega, if_true]; rw [h3t, h3u]⟩))))))))))))))))
    rw [c34 hm3 R5.2.2.2.2.2.2.2.1, m_ci_s, c37 (m := m3 + 1) (by omega) (by omega) em_12, m_cv_s]
    obtain ⟨E5, rfl⟩ : ∃ e, E5 = e + 1 := ⟨E5 - 1, by omega⟩
    have Cg : Chg [5, 12] [17, 18] g3 (gS (em (gI g3 5 (nI (a3 + 1))) m3 41 0) 18 (upd ((em (gI g3 5 (nI (a3 + 1))) m3 41 0).2.1 18) m2 (nI (m3 + 1)))) := (Chg.i 5 _ (by simp)).tr ((em_c.mono (by simp) (by simp)).tr (Chg.s 18 _ (by simp)))
    have Cg' : Chg [12] [17, 18] (gI g3 5 (nI (a3 + 1))) (gS (em (gI g3 5 (nI (a3 + 1))) m3 41 0) 18 (upd ((em (gI g3 5 (nI (a3 + 1))) m3 41 0).2.1 18) m2 (nI (m3 + 1)))) := em_c.tr (Chg.s 18 _ (by simp))
    have CT : Chg [31, 32, 33, 37] [34, 43, 44] gm5 (gS (en gm6 m3 12 0) 44 (upd ((en gm6 m3 12 0).2.1 44) m2 (nI (m3 + 1)))) := (C6.mono (by simp) (by simp)).tr ((en_c.mono (by simp) (by simp)).tr (Chg.s 44 _ (by simp)))
    have l31 : (gS (en gm6 m3 12 0) 44 (upd ((en gm6 m3 12 0).2.1 44) m2 (nI (m3 + 1)))).1 31 = nI (h + 2) := by rw [rS1, en_c.1 31 (by simp)]; exact j31
    have l32 : (gS (en gm6 m3 12 0) 44 (upd ((en gm6 m3 12 0).2.1 44) m2 (nI (m3 + 1)))).1 32 = nI (k + 1) := by rw [rS1, en_c.1 32 (by simp)]; exact j32
    have l33 : (gS (en gm6 m3 12 0) 44 (upd ((en gm6 m3 12 0).2.1 44) m2 (nI (m3 + 1)))).1 33 = nI y := by rw [rS1, en_c.1 33 (by simp)]; exact j33
    have lk : (gS (en gm6 m3 12 0) 44 (upd ((en gm6 m3 12 0).2.1 44) m2 (nI (m3 + 1)))).2.1 34 k = nI m3 := by
      have e0 : (gS (en gm6 m3 12 0) 44 (upd ((en gm6 m3 12 0).2.1 44) m2 (nI (m3 + 1)))).2.1 34 k = (en gm6 m3 12 0).2.1 34 k := rfl
      rw [e0, en_c.2.1 34 (by simp)]; exact jk
    have lo : ∀ i, i < k → (gS (en gm6 m3 12 0) 44 (upd ((en gm6 m3 12 0).2.1 44) m2 (nI (m3 + 1)))).2.1 34 i = gm.2.1 34 i := fun i hi => by
      have e0 : (gS (en gm6 m3 12 0) 44 (upd ((en gm6 m3 12 0).2.1 44) m2 (nI (m3 + 1)))).2.1 34 i = (en gm6 m3 12 0).2.1 34 i := rfl
      rw [e0, en_c.2.1 34 (by simp), jo i hi, C5.2.1 34 (by simp), C4.2.1 34 (by simp)]; exact k34 i hi
    have l43 : (gS (en gm6 m3 12 0) 44 (upd ((en gm6 m3 12 0).2.1 44) m2 (nI (m3 + 1)))).2.1 43 = upd (gm3.2.1 43) m3 12 := by
      have e0 : (gS (en gm6 m3 12 0) 44 (upd ((en gm6 m3 12 0).2.1 44) m2 (nI (m3 + 1)))).2.1 43 = (en gm6 m3 12 0).2.1 43 := rfl
      rw [e0, en_43, C6.2.1 43 (by simp), C5.2.1 43 (by simp), C4.2.1 43 (by simp)]
    have l44 : ∀ i, i < m → (gS (en gm6 m3 12 0) 44 (upd ((en gm6 m3 12 0).2.1 44) m2 (nI (m3 + 1)))).2.1 44 i = gm3.2.1 44 i := fun i hi => by
      rw [rS]
      simp only [if_true]
      rw [upd_o (by omega), en_44, upd_o (by omega), C6.2.1 44 (by simp), C5.2.1 44 (by simp), C4.2.1 44 (by simp)]
    have l17 : (gS (em (gI g3 5 (nI (a3 + 1))) m3 41 0) 18 (upd ((em (gI g3 5 (nI (a3 + 1))) m3 41 0).2.1 18) m2 (nI (m3 + 1)))).2.1 17 = upd (g3.2.1 17) m3 41 := by
      have e0 : (gS (em (gI g3 5 (nI (a3 + 1))) m3 41 0) 18 (upd ((em (gI g3 5 (nI (a3 + 1))) m3 41 0).2.1 18) m2 (nI (m3 + 1)))).2.1 17 = (em (gI g3 5 (nI (a3 + 1))) m3 41 0).2.1 17 := rfl
      rw [e0, em_17]; rfl
    have l18 : ∀ i, i < m → (gS (em (gI g3 5 (nI (a3 + 1))) m3 41 0) 18 (upd ((em (gI g3 5 (nI (a3 + 1))) m3 41 0).2.1 18) m2 (nI (m3 + 1)))).2.1 18 i = g3.2.1 18 i := fun i hi => by
      rw [rS]
      simp only [if_true]
      rw [upd_o (by omega), em_18, upd_o (by omega)]; rfl
    have htt : ∀ c, f91_55 n (c + 1) gm5 = f91_55 n c (gS (en gm6 m3 12 0) 44 (upd ((en gm6 m3 12 0).2.1 44) m2 (nI (m3 + 1)))) := fun c => m_top (x := 67) (by omega) y31 R5.2.2.2.2.1 (by rw [C5.2.1 33 (by simp)]; exact w2) e c
    clear e
    generalize gS (en gm6 m3 12 0) 44 (upd ((en gm6 m3 12 0).2.1 44) m2 (nI (m3 + 1))) = gm7 at R7 CT l31 l32 l33 lk lo l43 l44 htt
    generalize gS (em (gI g3 5 (nI (a3 + 1))) m3 41 0) 18 (upd ((em (gI g3 5 (nI (a3 + 1))) m3 41 0).2.1 18) m2 (nI (m3 + 1))) = g7 at R7 Cg Cg' l17 l18
    refine Pr.turn htt (CT.mono (by simp) (by simp)) (Pr.own (Cg'.mono (by simp) (by simp)) ?_)
    have P7 : PS t g7 gm7 N s (a3 + 1) D v3' q (m3 + 1) (fun i => if i ≤ m3 then ht3 i else 0) (fun i => if i ≤ m3 then rk3 i else D + 1) (fun i => ho i ∨ i = m3) (h + 1) (k + 1) y E5 (D + 1) 5 48 := ⟨R7, by rw [CT.2.1 33 (by simp), C5.2.1 33 (by simp)]; exact w1, ⟨l31, l32, l33⟩, by simp only [i3, if_false], fun i hi => by simp only [show ¬ i ≤ m3 by omega, if_false], fun i hi w => w.elim (fun w => ph i (by omega) w) (fun w => by omega), fun i => by
      by_cases hi : i ≤ m3
      · simp only [hi, if_true]; exact d7 i
      · simp only [hi, if_false]; omega, fun i => by
      by_cases hi : i ≤ m3
      · simp only [hi, if_true]; exact d10 i
      · simp only [hi, if_false]; omega, by omega, pD, by omega, by omega, by omega, by omega, by omega⟩
    refine Pr.cv (ih _ _ _ _ _ _ _ _ _ _ _ _ P7) ?_
    rintro g8 gm8 E8 _ _ ⟨a8, m8, v8', ht8, rk8, R8, ⟨r31, r32, r33⟩, F8, A8, c5, c6, c7, c8, c9, c10, c11, c12, c13, c14⟩
    have ha8 := R8.2.1
    have hm8 : m8 ≤ 600 := by omega
    have e := s66 (n := n) (gx := gI gm8 31 (nI h)) (k := k) (j := m3) (m := m8) (by omega) (by omega) hm8 (by simp [rI]; exact r32) (by rw [rI2, F8.2.1 k (by omega)]; exact lk) (by simp [rI]; exact R8.2.2.2.2.2.2.2.2.1)
    have R8' := R8.lc (rk' := fun i => if i < m8 then rk8 i else D) (fun i hi => by simp [hi]) (by
      have := c9 m8 (Nat.le_refl _)
      simp only [Nat.lt_irrefl, if_false]; omega)
    have C9 : Chg [31, 32] [] gm8 (gI (gI gm8 31 (nI h)) 32 (nI k)) := (Chg.i 31 _ (by simp)).tr (Chg.i 32 _ (by simp))
    have s31 : (gI (gI gm8 31 (nI h)) 32 (nI k)).1 31 = nI h := by simp [rI]
    have s32 : (gI (gI gm8 31 (nI h)) 32 (nI k)).1 32 = nI k := by simp [rI]
    have s33 : (gI (gI gm8 31 (nI h)) 32 (nI k)).1 33 = nI y := by simp [rI, r33]
    generalize gI (gI gm8 31 (nI h)) 32 (nI k) = gm9 at e C9 s31 s32 s33
    obtain ⟨f17, f18, f43, f44⟩ := A8 m3 (by omega)
    rw [l17, upd_s] at f17
    rw [l43, upd_s] at f43
    have u3 : ht8 m3 = 0 := by rw [c5 m3 (by omega)]; simp only [Nat.le_refl, if_true]; exact d6
    have u3r : rk8 m3 = D + 1 := by rw [c8 m3 (by omega)]; simp only [Nat.le_refl, if_true]; exact d9 m3 (Nat.le_refl _)
    have R9 := (R8'.ks (C9.mono (by simp) (by simp))).aim (j := m3) (ho' := ho) (by omega) (fun i _ h1 h2 => h2.elim id (fun w => absurd w h1)) (Or.inr (by
      rw [f17, C9.2.1 43 (by simp), f43]
      exact Or.inr (Or.inr (Or.inr (Or.inr (Or.inr (Or.inr (Or.inr (Or.inr (Or.inr (Or.inr (Or.inr (Or.inr (Or.inr (Or.inr (Or.inl ⟨rfl, rfl, rfl, m8, by omega, rfl, by rw [c6, u3], by simp only [show m3 < m8 by omega, Nat.lt_irrefl, if_true, if_false]; rw [u3r]; omega⟩))))))))))))))))
    rw [c37 (m := m8) (by omega) hm8 R8.2.2.2.2.2.2.2.1, m_cv_s]
    obtain ⟨E8, rfl⟩ : ∃ e, E8 = e + 1 := ⟨E8 - 1, by omega⟩
    have CT9 : Chg [31, 32] [44] gm8 (gS gm9 44 (upd (gm9.2.1 44) m3 (nI m8))) := (C9.mono (by simp) (by simp)).tr (Chg.s 44 _ (by simp))
    refine Pr.turn (fun c => m_top (x := 66) (by omega) r31 R8.2.2.2.2.1 (by rw [F8.1 h (by omega), CT.2.1 33 (by simp), C5.2.1 33 (by simp)]; exact w0) e c) (CT9.mono (by simp) (by simp)) (Pr.own (g1 := gS g8 18 (upd (g8.2.1 18) m3 (nI m8))) (Chg.s 18 _ (by simp)) (Pr.ret ⟨rfl, a8, m8, v8', _, _, R9, ⟨?_, ?_, ?_⟩, ⟨fun i hi => ?_, fun i hi => ?_, fun i hi => ?_⟩, fun i hi => ?_, fun i hi => ?_, c6, c7, fun i hi => ?_, fun i hi => ?_, fun i => ?_, by omega, by omega, by omega, by omega⟩))
    · rw [rS1]; exact s31
    · rw [rS1]; exact s32
    · rw [rS1]; exact s33
    · rw [CT9.2.1 33 (by simp), F8.1 i (by omega), CT.2.1 33 (by simp), C5.2.1 33 (by simp), wo i hi]; exact k33 i hi
    · rw [CT9.2.1 34 (by simp), F8.2.1 i (by omega)]; exact lo i hi
    · rw [CT9.2.1 35 (by simp), F8.2.2 i hi, CT.2.1 35 (by simp), C5.2.1 35 (by simp), C4.2.1 35 (by simp)]; exact k35 i hi
    · obtain ⟨x1, x2, x3, x4⟩ := A8 i (by omega)
      obtain ⟨y1, y2, y3, y4⟩ := kA i hi
      refine ⟨?_, ?_, ?_, ?_⟩
      · show g8.2.1 17 i = _
        rw [x1, l17, upd_o (by omega), y1]
      · rw [rS]
        simp only [if_true]
        rw [upd_o (by omega), x2, l18 i hi, y2]
      · show gm9.2.1 43 i = _
        rw [C9.2.1 43 (by simp), x3, l43, upd_o (by omega), y3]
      · rw [rS]
        simp only [if_true]
        rw [upd_o (by omega), C9.2.1 44 (by simp), x4, l44 i hi, y4]
    · rw [c5 i (by omega)]
      simp only [show i ≤ m3 by omega, if_true]
      exact kh i hi
    · simp only [show i < m8 by omega, if_true]
      rw [c8 i (by omega)]
      simp only [show i ≤ m3 by omega, if_true]
      exact kr i hi
    · simp only [show ¬ i < m8 by omega, if_false]
    · by_cases hi : i < m8
      · simp only [hi, if_true]; exact c10 i
      · simp only [hi, if_false]; omega
  · have e := s59_n (n := n) (h := h) (gx := gI gm3 31 (nI h)) (by omega) (by simp [rI]) (by rw [z26]; exact fun w => hel ((kd_iff (by decide) (by decide) (by decide)).mp w))
    have C4 : Chg [31] [33] gm3 (pus (gI gm3 31 (nI h)) h [66]) := (Chg.i 31 _ (by simp)).tr pus_c
    have w31 : (pus (gI gm3 31 (nI h)) h [66]).1 31 = nI (h + 1) := pus_h (by simp [rI])
    have w0 : (pus (gI gm3 31 (nI h)) h [66]).2.1 33 h = 66 := pus_t (i := 0) rfl
    have wo : ∀ i, i < h → (pus (gI gm3 31 (nI h)) h [66]).2.1 33 i = gm3.2.1 33 i := fun i hi => by rw [pus_o hi]; rfl
    have hts : ∀ c, f91_55 n (c + 1) gm3 = f91_55 n c (pus (gI gm3 31 (nI h)) h [66]) := fun c => m_top (x := 59) (by omega) x31 g30 g33h e c
    clear e
    generalize pus (gI gm3 31 (nI h)) h [66] = gm4 at C4 w31 w0 wo hts
    have R4 := R3.ks (C4.mono (by simp) (by simp))
    refine Pr.turn hts (C4.mono (by simp) (by simp)) ?_
    have e := s66 (n := n) (gx := gI gm4 31 (nI h)) (k := k) (j := m2) (m := m3) (by omega) (by omega) (by omega) (by simp [rI]; rw [C4.1 32 (by simp)]; exact x32) (by rw [rI2, C4.2.1 34 (by simp)]; exact n3) (by simp [rI]; exact R4.2.2.2.2.2.2.2.2.1)
    have R4' := R4.lc (rk' := fun i => if i < m3 then rk3 i else D) (fun i hi => by simp [hi]) (by
      have := d9 m3 (Nat.le_refl _)
      simp only [Nat.lt_irrefl, if_false]; omega)
    have C9 : Chg [31, 32] [] gm4 (gI (gI gm4 31 (nI h)) 32 (nI k)) := (Chg.i 31 _ (by simp)).tr (Chg.i 32 _ (by simp))
    have s31 : (gI (gI gm4 31 (nI h)) 32 (nI k)).1 31 = nI h := by simp [rI]
    have s32 : (gI (gI gm4 31 (nI h)) 32 (nI k)).1 32 = nI k := by simp [rI]
    have s33 : (gI (gI gm4 31 (nI h)) 32 (nI k)).1 33 = nI y := by simp [rI]; rw [C4.1 33 (by simp)]; exact x33
    generalize gI (gI gm4 31 (nI h)) 32 (nI k) = gm9 at e C9 s31 s32 s33
    have R9 := (R4'.ks (C9.mono (by simp) (by simp))).aim (j := m2) (ho' := ho) (by omega) (fun i _ h1 h2 => h2.elim id (fun w => absurd w h1)) (Or.inr (by
      rw [a17, q17, C9.2.1 43 (by simp), C4.2.1 43 (by simp), a43, q43]
      exact Or.inr (Or.inr (Or.inr (Or.inr (Or.inr (Or.inr (Or.inr (Or.inr (Or.inr (Or.inr (Or.inr (Or.inr (Or.inr (Or.inr (Or.inr ⟨rfl, rfl, rfl, ⟨m3, by omega, rfl, by rw [h3t, d6]⟩, by omega, by rw [h3t, h3u]⟩))))))))))))))))
    rw [if_neg hel, c37 (m := m3) (by omega) (by omega) R3.2.2.2.2.2.2.2.1, m_cv_s]
    have CT9 : Chg [31, 32] [44] gm4 (gS gm9 44 (upd (gm9.2.1 44) m2 (nI m3))) := (C9.mono (by simp) (by simp)).tr (Chg.s 44 _ (by simp))
    refine Pr.turn (fun c => m_top (x := 66) (by omega) w31 R4.2.2.2.2.1 w0 e c) (CT9.mono (by simp) (by simp)) (Pr.own (g1 := gS g3 18 (upd (g3.2.1 18) m2 (nI m3))) (Chg.s 18 _ (by simp)) (Pr.ret ⟨rfl, a3, m3, v3', _, _, R9, ⟨?_, ?_, ?_⟩, ⟨fun i hi => ?_, fun i hi => ?_, fun i hi => ?_⟩, fun i hi => ?_, kh, d6, d7, fun i hi => ?_, fun i hi => ?_, fun i => ?_, by omega, by omega, by omega, by omega⟩))
    · rw [rS1]; exact s31
    · rw [rS1]; exact s32
    · rw [rS1]; exact s33
    · rw [CT9.2.1 33 (by simp), wo i hi]; exact k33 i hi
    · rw [CT9.2.1 34 (by simp), C4.2.1 34 (by simp)]; exact k34 i hi
    · rw [CT9.2.1 35 (by simp), C4.2.1 35 (by simp)]; exact k35 i hi
    · obtain ⟨y1, y2, y3, y4⟩ := kA i hi
      refine ⟨y1, ?_, ?_, ?_⟩
      · rw [rS]
        simp only [if_true]
        rw [upd_o (by omega), y2]
      · show gm9.2.1 43 i = _
        rw [C9.2.1 43 (by simp), C4.2.1 43 (by simp), y3]
      · rw [rS]
        simp only [if_true]
        rw [upd_o (by omega), C9.2.1 44 (by simp), C4.2.1 44 (by simp), y4]
    · simp only [show i < m3 by omega, if_true]
      exact kr i hi
    · simp only [show ¬ i < m3 by omega, if_false]
    · by_cases hi : i < m3
      · simp only [hi, if_true]; exact d10 i
      · simp only [hi, if_false]; omega
end Chc
