/-! store -/
section Sto
variable {n N s a D v q m h k y E R c z p l x : Nat} {t g gm gx : mG} {ht rk : Nat → Nat} {ho : Nat → Prop}
theorem s58 (hk : k < 600) (hy : y < 400) (hc : c ≤ 1) (hp : p < 2 ^ 31) (e32 : gx.1 32 = nI (k + 1)) (en0 : gx.2.1 34 k = nI p) (e33 : gx.1 33 = nI (y + 1)) (et : gx.2.1 35 y = nI (c + 1)) (e30 : gx.1 30 = -1) :
    f101 n 58 gx = some (.inl none, mB gx y c 0 p) := by
  have B := mB_1 (n := n) (gx := gx) (c := c) (z := 0) (p := p) hy hc (by omega) hp e33 et e30
  have hi : ¬ (nI k < 0 ∨ 600 ≤ Int32.toNatClampNeg (nI k)) := nI_in hk (by decide)
  unfold f101 f124
  simp (decide := true) only [reduceIte]
  rw [e32, nI_pred, if_neg hi, nI_clamp (by omega), en0, show (1 : Int32) = nI (0 + 1) from rfl, B, m_cv_s, m_cv_s]
theorem p_store {rc : mRec} (hn : 700 ≤ n) (hP : PS t g gm N s a D v q m ht rk ho h k y E R 0 52) (hmk : t.2.1 12 a = 27) (hX : HX n rc) :
    Pr n g gm E (f26 n rc (nI D) g) (QV (QS t g gm N s a D v q m ht rk ho h k y E R 1)) := by
  obtain ⟨hR, p33, ⟨p31, p32, py⟩, pH, pr, ph, p88, p17, pm, pD, pR, ph9, pk6, py4, pE⟩ := hP
  obtain ⟨b1, b2, b3, b4, b5, b6, b7, b8⟩ := id hR
  have hs := b1.s6
  have hp := b1.tp b2
  have kk : kd (t.2.1 12 a) = 26 := by rw [hmk]; decide
  obtain ⟨E, rfl⟩ : ∃ e, E = e + 1 := ⟨E - 1, by omega⟩
  have z26 : (gI gm 31 (nI h)).1 26 = 26 := by simp [rI, b4.1, kk]
  have e : f101 n 52 (gI gm 31 (nI h)) = some (.inl none, pus (nt (gI gm 31 (nI h)) k (nI (tp t a))) h [10, 57, 60, 11, 308, 58, 60, 207, 26]) := by
    have i32 : (gI gm 31 (nI h)).1 32 = nI k := by simp [rI, p32]
    have i27 : (gI gm 31 (nI h)).1 27 = nI (tp t a) := by simp [rI, b4.2.1]
    have i31 : (nt (gI gm 31 (nI h)) k (nI (tp t a))).1 31 = nI h := by rw [nt_c.1 31 (by simp)]; simp [rI]
    have i26 : (nt (gI gm 31 (nI h)) k (nI (tp t a))).1 26 = 26 := by rw [nt_c.1 26 (by simp)]; exact z26
    unfold f101 f132 f135
    rw [z26]
    simp (decide := true) only [reduceIte]
    rw [i27, m107 (by omega) i32, m_cv_s]
    unfold f135_25
    rw [i26]
    simp (decide := true) only [reduceIte]
    rw [m108_3 (h := h) (by omega) i31 (by decide) (by decide), m_cv_s, m108_3 (h := h + 3) (by omega) pu_h (by decide) (by decide), m_cv_s, m108_3 (h := h + 6) (by omega) pu_h (by decide) (by decide), m_cv_s, m_cv_s, m_cv_s]
    rfl
  have C1 : Chg [31, 32] [33, 34] gm (pus (nt (gI gm 31 (nI h)) k (nI (tp t a))) h [10, 57, 60, 11, 308, 58, 60, 207, 26]) := (Chg.i 31 _ (by simp)).tr ((nt_c.mono (by simp) (by simp)).tr (pus_c.mono (by simp) (by simp)))
  have v31 : (pus (nt (gI gm 31 (nI h)) k (nI (tp t a))) h [10, 57, 60, 11, 308, 58, 60, 207, 26]).1 31 = nI (h + 9) := pus_h (by rw [nt_c.1 31 (by simp)]; simp [rI])
  have v8 : (pus (nt (gI gm 31 (nI h)) k (nI (tp t a))) h [10, 57, 60, 11, 308, 58, 60, 207, 26]).2.1 33 (h + 8) = 26 := pus_t (i := 8) rfl
  have v7 : (pus (nt (gI gm 31 (nI h)) k (nI (tp t a))) h [10, 57, 60, 11, 308, 58, 60, 207, 26]).2.1 33 (h + 7) = 207 := pus_t (i := 7) rfl
  have v6 : (pus (nt (gI gm 31 (nI h)) k (nI (tp t a))) h [10, 57, 60, 11, 308, 58, 60, 207, 26]).2.1 33 (h + 6) = 60 := pus_t (i := 6) rfl
  have v5 : (pus (nt (gI gm 31 (nI h)) k (nI (tp t a))) h [10, 57, 60, 11, 308, 58, 60, 207, 26]).2.1 33 (h + 5) = 58 := pus_t (i := 5) rfl
  have v4 : (pus (nt (gI gm 31 (nI h)) k (nI (tp t a))) h [10, 57, 60, 11, 308, 58, 60, 207, 26]).2.1 33 (h + 4) = 308 := pus_t (i := 4) rfl
  have v3 : (pus (nt (gI gm 31 (nI h)) k (nI (tp t a))) h [10, 57, 60, 11, 308, 58, 60, 207, 26]).2.1 33 (h + 3) = 11 := pus_t (i := 3) rfl
  have v2 : (pus (nt (gI gm 31 (nI h)) k (nI (tp t a))) h [10, 57, 60, 11, 308, 58, 60, 207, 26]).2.1 33 (h + 2) = 60 := pus_t (i := 2) rfl
  have v1 : (pus (nt (gI gm 31 (nI h)) k (nI (tp t a))) h [10, 57, 60, 11, 308, 58, 60, 207, 26]).2.1 33 (h + 1) = 57 := pus_t (i := 1) rfl
  have v0 : (pus (nt (gI gm 31 (nI h)) k (nI (tp t a))) h [10, 57, 60, 11, 308, 58, 60, 207, 26]).2.1 33 h = 10 := pus_t (i := 0) rfl
  have vo : ∀ i, i < h → (pus (nt (gI gm 31 (nI h)) k (nI (tp t a))) h [10, 57, 60, 11, 308, 58, 60, 207, 26]).2.1 33 i = gm.2.1 33 i := fun i hi => by rw [pus_o hi, nt_c.2.1 33 (by simp)]; rfl
  have u0 : (pus (nt (gI gm 31 (nI h)) k (nI (tp t a))) h [10, 57, 60, 11, 308, 58, 60, 207, 26]).2.1 34 k = nI (tp t a) := by rw [pus_c.2.1 34 (by simp)]; exact nt_t
  have uo : ∀ i, i < k → (pus (nt (gI gm 31 (nI h)) k (nI (tp t a))) h [10, 57, 60, 11, 308, 58, 60, 207, 26]).2.1 34 i = gm.2.1 34 i := fun i hi => by rw [pus_c.2.1 34 (by simp), nt_o hi]; rfl
  have v32 : (pus (nt (gI gm 31 (nI h)) k (nI (tp t a))) h [10, 57, 60, 11, 308, 58, 60, 207, 26]).1 32 = nI (k + 1) := by rw [pus_c.1 32 (by simp)]; exact nt_h
  have hts : ∀ c, f91_55 n (c + 1) gm = f91_55 n c (pus (nt (gI gm 31 (nI h)) k (nI (tp t a))) h [10, 57, 60, 11, 308, 58, 60, 207, 26]) := fun c => m_top (x := 52) (by omega) p31 b5 p33 e c
  clear e
  generalize pus (nt (gI gm 31 (nI h)) k (nI (tp t a))) h [10, 57, 60, 11, 308, 58, 60, 207, 26] = gm1 at C1 v31 v8 v7 v6 v5 v4 v3 v2 v1 v0 vo u0 uo v32 hts
  have R1 : RR t g gm1 N s a D v q m ht rk ho := hR.ks (C1.mono (by simp) (by simp))
  have R1 := R1.lc (rk' := fun i => if i < m then rk i else 0) (fun i hi => by simp [hi]) (by simp)
  refine Pr.turn hts (C1.mono (by simp) (by simp)) ?_
  have er : f26 n rc (nI D) g = m_cv (f6 n (26 + 1) g) (fun g0 => m_ci (f12 n (8 : Int32) (nI D) g0) (fun v2 g1 => m_ci (rc 15 (0 : Int32) v2 0 g1) (fun v6 g5 => m_cv (f18 n (0 : Int32) v6 (nI a) g5) (fun g9 => m_cv (f6 n (9 : Int32) g9) (fun g13 => m_cv (f6 n (12 : Int32) g13) (fun g17 => m_ci (rc 15 (0 : Int32) (nI D) 0 g17) (fun v22 g21 => m_cv (f18 n (0 : Int32) v22 (nI a) g21) (fun g25 => m_ci (f34_3 n (27 : Int32) (0 : Int32) g25) (fun v30 g29 => m_cv (f6 n (11 : Int32) g29) (fun g33 => some (.inl none, g33))))))))))) := by
    rw [c6 R1.rt (by rw [hmk]; rfl), m_cv_s]
    unfold f26
    rw [b3, nI_1]
  rw [er]
  refine Pr.cv (p_take (h := h + 8) hn R1.rt (by omega) v31 v8 (by decide) (by decide) (by decide) (by decide) (by omega)) ?_
  rintro g2 gm2 E2 _ _ ⟨hE2, hlt, rfl, w31, w34, wP, C2⟩
  have R2 := R1.kp (Chg.i 5 (nI (a + 1)) (by simp)) (C2.mono (by simp) (by simp)) (by simp [rI]) (by omega) wP w34
  refine Pr.ci (p_open (c := 7) (x := 207) (h := h + 7) hn R2.rt pD (by omega) w31 (by rw [C2.2.1 33 (by simp)]; exact v7) (by decide) (by decide) (by decide) (by decide) (by decide) (by decide) (by decide) (by omega)) ?_
  rintro x g3 gm3 E3 _ _ ⟨rfl, hD, hE3, hlt3, rfl, x31, x34, xP, C3⟩
  have R3 := R2.kp (Chg.i 5 (nI (a + 1 + 1)) (by simp)) (C3.mono (by simp) (by simp)) (by simp [rI]) (by omega) xP x34
  have P3 : PE t (gI (gI g 5 (nI (a + 1))) 5 (nI (a + 1 + 1))) gm3 N s (a + 1 + 1) (D + 1) v q m ht (fun i => if i < m then rk i else 0) ho (h + 6) (k + 1) y 0 E3 0 := ⟨R3, x31, by rw [C3.2.1 33 (by simp), C2.2.1 33 (by simp), v6]; rfl, by rw [C3.1 32 (by simp), C2.1 32 (by simp), v32], by rw [C3.1 33 (by simp), C2.1 33 (by simp), C1.1 33 (by simp), py], pH, fun i hi => by simp only [show ¬ i < m by omega, if_false], ph, by omega, by omega, by omega, by omega, by omega, by omega, by omega⟩
  refine Pr.ci (hX _ _ _ _ _ _ _ _ _ _ _ _ _ _ _ _ _ _ P3) ?_
  rintro x g4 gm4 E4 _ _ ⟨a4, m4, ht4, c, rfl, hc, R4, ⟨y31, y32, y33⟩, F4, yt, A4, D4, M4, t1, t2, t3, t4, t5, t6⟩
  have ha4 := R4.2.1
  have g30 : gm4.1 30 = -1 := R4.2.2.2.2.1
  have g33h : gm4.2.1 33 (h + 5) = 58 := by rw [F4.1 (h + 5) (by omega), C3.2.1 33 (by simp), C2.2.1 33 (by simp)]; exact v5
  have g34k : gm4.2.1 34 k = nI (tp t a) := by rw [F4.2.1 k (by omega), C3.2.1 34 (by simp), C2.2.1 34 (by simp)]; exact u0
  have e := s58 (n := n) (gx := gI gm4 31 (nI (h + 5))) (p := tp t a) (c := c) (y := y) (k := k) (by omega) (by omega) hc (by omega) (by simp [rI, y32]) (by rw [rI2]; exact g34k) (by simp [rI, y33]) (by rw [rI2]; exact yt) (by simp [rI, g30])
  refine p_must (x := 58) (z := 0) (h := h + 5) hc (by omega) R4.1 b2 (by omega) y31 g30 g33h (by omega) (fun hcz => ⟨_, e, mB_no hcz, mB_c.mono (by simp) (by simp)⟩) (fun hcz => ?_)
  have Cx : Chg [31, 33] [] gm4 (mB (gI gm4 31 (nI (h + 5))) y c 0 (tp t a)) := (Chg.i 31 _ (by simp)).tr ((mB_e hcz).mono (by simp) (by simp))
  have x31 : (mB (gI gm4 31 (nI (h + 5))) y c 0 (tp t a)).1 31 = nI (h + 5) := by rw [mB_c.1 31 (by simp)]; simp [rI]
  have x32 : (mB (gI gm4 31 (nI (h + 5))) y c 0 (tp t a)).1 32 = nI (k + 1) := by rw [Cx.1 32 (by simp)]; exact y32
  have x33 : (mB (gI gm4 31 (nI (h + 5))) y c 0 (tp t a)).1 33 = nI y := mB_33
  generalize mB (gI gm4 31 (nI (h + 5))) y c 0 (tp t a) = gm5 at e Cx x31 x32 x33
  have R5 := R4.ks (Cx.mono (by simp) (by simp))
  obtain ⟨E4, rfl⟩ : ∃ e, E4 = e + 1 := ⟨E4 - 1, by omega⟩
  refine Pr.turn (fun c => m_top (x := 58) (by omega) y31 g30 g33h e c) (Cx.mono (by simp) (by simp)) ?_
  have o33 : ∀ i, i < h + 6 → gm5.2.1 33 i = gm1.2.1 33 i := fun i hi => by rw [Cx.2.1 33 (by simp), F4.1 i hi, C3.2.1 33 (by simp), C2.2.1 33 (by simp)]
  refine Pr.cv (p_close (c := 8) (x := 308) (D := D) (h := h + 4) hn R5.rt (by omega) x31 (by rw [o33 _ (by omega)]; exact v4) (by decide) (by decide) (by decide) (by decide) (by decide) (by decide) (by omega)) ?_
  rintro g6 gm6 E6 _ _ ⟨hE6, hlt6, rfl, q31, q34, qP, C6⟩
  have R6 := R5.kp (Chg.i 5 (nI (a4 + 1)) (by simp)) (C6.mono (by simp) (by simp)) (by simp [rI]) (by omega) qP q34
  refine Pr.cv (p_take (c := 11) (h := h + 3) hn R6.rt (by omega) q31 (by rw [C6.2.1 33 (by simp), o33 _ (by omega)]; exact v3) (by decide) (by decide) (by decide) (by decide) (by omega)) ?_
  rintro g7 gm7 E7 _ _ ⟨hE7, hlt7, rfl, o31, o34, oP, C7⟩
  have R7 := R6.kp (Chg.i 5 (nI (a4 + 1 + 1)) (by simp)) (C7.mono (by simp) (by simp)) (by simp [rI]) (by omega) oP o34
  have P7 : PE t (gI (gI g4 5 (nI (a4 + 1))) 5 (nI (a4 + 1 + 1))) gm7 N s (a4 + 1 + 1) D v q m4 ht4 (fun i => if i < m then rk i else 0) ho (h + 2) (k + 1) y 1 E7 0 := ⟨R7, o31, by rw [C7.2.1 33 (by simp), C6.2.1 33 (by simp), o33 _ (by omega), v2]; rfl, by rw [C7.1 32 (by simp), C6.1 32 (by simp), x32], by rw [C7.1 33 (by simp), C6.1 33 (by simp), x33], t2, fun i hi => by simp only [show ¬ i < m by omega, if_false], fun i hi => ph i (by omega), by omega, by omega, by omega, by omega, by omega, by omega, by omega⟩
  refine Pr.ci (hX _ _ _ _ _ _ _ _ _ _ _ _ _ _ _ _ _ _ P7) ?_
  rintro x g8 gm8 E8 _ _ ⟨a8, m8, ht8, c2, rfl, hc2, R8, ⟨z31, z32, z33⟩, F8, zt, A8, D8, M8, s1, s2, s3, s4, s5, s6⟩
  have ha8 := R8.2.1
  have hm8 : m8 < 600 := by omega
  have i30 : gm8.1 30 = -1 := R8.2.2.2.2.1
  have i37 : gm8.1 37 = nI m8 := R8.2.2.2.2.2.2.2.2.1
  have i33h : gm8.2.1 33 (h + 1) = 57 := by rw [F8.1 (h + 1) (by omega), C7.2.1 33 (by simp), C6.2.1 33 (by simp), o33 _ (by omega)]; exact v1
  have i34k : gm8.2.1 34 k = nI (tp t a) := by rw [F8.2.1 k (by omega), C7.2.1 34 (by simp), C6.2.1 34 (by simp), Cx.2.1 34 (by simp)]; exact g34k
  have e2 := s_st (n := n) (z := 0) (gx := gI gm8 31 (nI (h + 1))) (sm := 57) (st := 10) (p := tp t a) (c := c2) (m := m8) (y := y) (k := k) (by simp) (by omega) (by omega) hm8 hc2 (by omega) (by simp [rI, z32]) (by rw [rI2]; exact i34k) (by simp [rI, z33]) (by rw [rI2]; exact zt) (by simp [rI, i30]) (by simp [rI, i37])
  refine p_must (x := 57) (z := 0) (h := h + 1) hc2 (by omega) R8.1 b2 (by omega) z31 i30 i33h (by omega) (fun hcz => ⟨_, e2, by rw [en_c.1 30 (by simp)]; exact mB_no hcz, (Chg.i 32 _ (by simp)).tr ((mB_c.mono (by simp) (by simp)).tr (en_c.mono (by simp) (by simp)))⟩) (fun hcz2 => ?_)
  have Cy : Chg [31, 32, 33] [] gm8 (mB (gI (gI gm8 31 (nI (h + 1))) 32 (nI k)) y c2 0 (tp t a)) := (Chg.i 31 _ (by simp)).tr ((Chg.i 32 _ (by simp)).tr ((mB_e hcz2).mono (by simp) (by simp)))
  have j31 : (mB (gI (gI gm8 31 (nI (h + 1))) 32 (nI k)) y c2 0 (tp t a)).1 31 = nI (h + 1) := by rw [mB_c.1 31 (by simp)]; simp [rI]
  have j32 : (mB (gI (gI gm8 31 (nI (h + 1))) 32 (nI k)) y c2 0 (tp t a)).1 32 = nI k := by rw [mB_c.1 32 (by simp)]; simp [rI]
  have j33 : (mB (gI (gI gm8 31 (nI (h + 1))) 32 (nI k)) y c2 0 (tp t a)).1 33 = nI y := mB_33
  generalize mB (gI (gI gm8 31 (nI (h + 1))) 32 (nI k)) y c2 0 (tp t a) = gx at e2 Cy j31 j32 j33
  have R9 := R8.ks (Cy.mono (by simp) (by simp))
  obtain ⟨E8, rfl⟩ : ∃ e, E8 = e + 1 := ⟨E8 - 1, by omega⟩
  refine Pr.turn (fun c => m_top (x := 57) (by omega) z31 i30 i33h e2 c) ((Cy.mono (by simp) (by simp)).tr (en_c.mono (by simp) (by simp))) ?_
  have l0 : lv 0 = 3 := rfl
  have tm : m8 ≤ m8 := Nat.le_refl _
  have tm1 : ¬ m8 + 1 ≤ m8 := by omega
  have oo : ∀ i, i < h + 2 → gx.2.1 33 i = gm1.2.1 33 i := fun i hi => by rw [Cy.2.1 33 (by simp), F8.1 i (by omega), C7.2.1 33 (by simp), C6.2.1 33 (by simp), o33 _ (by omega)]
  refine p_fin (n := n) (a := a) (E := E + 1) (R := R) (ht := ht) (rk := rk) (gx := gx) hn R9 hm8 j31 ?_ j32 j33 (by omega) ?_ ⟨fun i hi => ?_, fun i hi => ?_, fun i hi => ?_⟩ (fun i hi => ?_) (fun i hi => by rw [s1 i (by omega), t1 i hi]) (by omega) (fun i hi => ?_) (fun i hi => by simp [hi]) (fun i hi => ?_) pR (by omega) (by omega) (by omega) (by omega)
  · rw [oo _ (by omega)]; exact v0
  · exact Or.inr (Or.inr (Or.inr (Or.inr (Or.inr (Or.inr (Or.inr (Or.inr (Or.inr (Or.inl ⟨rfl, rfl, by omega, by simp only [tm, tm1, if_true, if_false, s2]⟩)))))))))
  · rw [oo _ (by omega)]; exact vo i hi
  · rw [Cy.2.1 34 (by simp), F8.2.1 i (by omega), C7.2.1 34 (by simp), C6.2.1 34 (by simp), Cx.2.1 34 (by simp), F4.2.1 i (by omega), C3.2.1 34 (by simp), C2.2.1 34 (by simp)]; exact uo i hi
  · rw [Cy.2.1 35 (by simp), F8.2.2 i hi, C7.2.1 35 (by simp), C6.2.1 35 (by simp), Cx.2.1 35 (by simp), F4.2.2 i hi, C3.2.1 35 (by simp), C2.2.1 35 (by simp), C1.2.1 35 (by simp)]
  · obtain ⟨x1, x2, x3, x4⟩ := A8 i (by omega)
    obtain ⟨y1, y2, y3, y4⟩ := A4 i hi
    exact ⟨x1.trans y1, x2.trans y2, by rw [Cy.2.1 43 (by simp), x3, C7.2.1 43 (by simp), C6.2.1 43 (by simp), Cx.2.1 43 (by simp), y3, C3.2.1 43 (by simp), C2.2.1 43 (by simp), C1.2.1 43 (by simp)], by rw [Cy.2.1 44 (by simp), x4, C7.2.1 44 (by simp), C6.2.1 44 (by simp), Cx.2.1 44 (by simp), y4, C3.2.1 44 (by simp), C2.2.1 44 (by simp), C1.2.1 44 (by simp)]⟩
  · by_cases hm : i < m
    · rw [s1 i (by omega), t1 i (by omega)]; exact p88 i
    · by_cases hm4 : i < m4
      · rw [s1 i (by omega)]; have := t3 i (by omega) (by omega); omega
      · have := s3 i (by omega) hi; omega
  · by_cases hm : i < m
    · simp only [hm, if_true]; exact p17 i
    · simp only [hm, if_false]; omega
end Sto
