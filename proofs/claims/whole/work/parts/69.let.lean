/-! let -/
section Lt
variable {n N s a D v q m h k y E R c z p l x : Nat} {t g gm gx : mG} {ht rk : Nat → Nat} {ho : Nat → Prop}
theorem c8 (hn : 700 ≤ n) (hR : RR t g gm N s a D v q m ht rk ho) :
    (t.2.1 12 a = 2 ∧ v < 8 ∧ f8 n g = some (.inl none, g) ∧ f112 n (nI (tp t a)) (nI (tl t a)) gm = some (.inl (some (.int (-1))), gm) ∧ ∀ j, j < v → ¬ SN t (cl (g.2.1 10 j)) a) ∨
    (f8 n g = some (.inr 0, gI g 6 (nI (tp t a))) ∧ (¬ t.2.1 12 a = 2 ∨ (t.2.1 12 a = 2 ∧ ∃ i, i < v ∧ f112 n (nI (tp t a)) (nI (tl t a)) gm = some (.inl (some (.int (nI i))), gm)) ∨ (t.2.1 12 a = 2 ∧ v = 8 ∧ f112 n (nI (tp t a)) (nI (tl t a)) gm = some (.inl (some (.int (-1))), gm)))) := by
  obtain ⟨b1, b2, b3, b4, b5, b6, b7, b8⟩ := id hR
  have hv8 := b7.1
  have h7 := b7.2.2.1
  unfold f8 f8_29
  rw [c1 b1 b2 b3, m_ci_s, b3]
  by_cases hmk : t.2.1 12 a = 2
  · rw [if_neg (fun w => w hmk)]
    rcases hR.lv hn with ⟨i, hi, l1, l2⟩ | ⟨l1, l2, l3⟩
    · have r1 : ¬ nI i = (-1 : Int32) := fun z => by
        have := nI_pos (n := i) (by omega)
        rw [z] at this; exact this (by decide)
      rw [l1, m_ci_s, if_pos r1, b3, c3 b1 b2, m_cv_f]
      exact Or.inr ⟨rfl, Or.inr (Or.inl ⟨hmk, i, hi, l2⟩)⟩
    · rw [l1, m_ci_s, if_neg (fun w => w rfl), h7]
      by_cases hv : v < 8
      · rw [if_pos (show nI v < (8 : Int32) from nI_lt (a := v) (b := 8) hv (by decide))]
        exact Or.inl ⟨hmk, hv, rfl, l2, l3⟩
      · rw [if_neg (show ¬ nI v < (8 : Int32) from nI_nlt (a := v) (b := 8) (by omega) (by omega)), b3, c3 b1 b2, m_cv_f]
        exact Or.inr ⟨rfl, Or.inr (Or.inr ⟨hmk, by omega, l2⟩)⟩
  · rw [if_pos hmk, c3 b1 b2, m_cv_f]
    exact Or.inr ⟨rfl, Or.inl hmk⟩
theorem s53 (hv : v < 8) (hk : k + 1 < 600) (hy : y < 400) (hm : m < 600) (e32 : gx.1 32 = nI (k + 2)) (en1 : gx.2.1 34 (k + 1) = nI l) (en0 : gx.2.1 34 k = nI p) (e33 : gx.1 33 = nI (y + 1)) (et : gx.2.1 35 y = nI (c + 1)) (e36 : gx.1 36 = nI v) (e37 : gx.1 37 = nI m) :
    f101 n 53 gx = some (.inl none, en (am (gI (gI (gI gx 32 (nI (k + 1))) 32 (nI k)) 33 (nI y)) v p l c) m 9 (nI v)) := by
  have i1 : (gI gx 32 (nI (k + 1))).1 32 = nI (k + 1) := by simp [rI]
  have i3 : (gI gx 32 (nI (k + 1))).2.1 34 k = nI p := en0
  have i4 : (gI (gI gx 32 (nI (k + 1))) 32 (nI k)).2.1 35 y = nI (c + 1) := et
  have i5 : (gI (gI gx 32 (nI (k + 1))) 32 (nI k)).1 33 = nI (y + 1) := by simp [rI, e33]
  have i6 : (gI (gI (gI gx 32 (nI (k + 1))) 32 (nI k)) 33 (nI y)).1 36 = nI v := by simp [rI, e36]
  have i37 : (am (gI (gI (gI gx 32 (nI (k + 1))) 32 (nI k)) 33 (nI y)) v p l c).1 37 = nI m := by rw [am_c.1 37 (by simp)]; simp [rI, e37]
  unfold f101 f124
  simp (decide := true) only [reduceIte]
  unfold f125
  rw [m115 hk e32, m_ci_s, en1, m115 (by omega) i1, m_ci_s, i3, m117 hy i5, m_ci_s, i4, m126 hv i6, m_cv_s, am_36, nI_pred, m109 hm i37, m_cv_s, m_cv_s, m_cv_s]
theorem p_let {rc : mRec} (hn : 700 ≤ n) (hP : PS t g gm N s a D v q m ht rk ho h k y E R 0 52) (hmk : t.2.1 12 a = 26) (hX : HX n rc) :
    Pr n g gm E (f14 n rc (nI D) g) (QV (QS t g gm N s a D v q m ht rk ho h k y E R 1)) := by
  obtain ⟨hR, p33, ⟨p31, p32, py⟩, pH, pr, ph, p88, p17, pm, pD, pR, ph9, pk6, py4, pE⟩ := hP
  obtain ⟨b1, b2, b3, b4, b5, b6, b7, b8⟩ := id hR
  have hs := b1.s6
  have hp := b1.tp b2
  have kk : kd (t.2.1 12 a) = 25 := by rw [hmk]; decide
  obtain ⟨E, rfl⟩ : ∃ e, E = e + 1 := ⟨E - 1, by omega⟩
  have z26 : (gI gm 31 (nI h)).1 26 = 25 := by simp [rI, b4.1, kk]
  have e : f101 n 52 (gI gm 31 (nI h)) = some (.inl none, pus (gI gm 31 (nI h)) h [10, 53, 60, 11, 54, 25]) := by
    unfold f101 f132 f135 f135_25
    rw [z26]
    simp (decide := true) only [reduceIte]
    rw [m108_3 (h := h) (by omega) (by simp [rI]) (by decide) (by decide), m_cv_s, m108_3 (h := h + 3) (by omega) pu_h (by decide) (by decide), m_cv_s, m_cv_s, m_cv_s]
    rfl
  have C1 : Chg [31] [33] gm (pus (gI gm 31 (nI h)) h [10, 53, 60, 11, 54, 25]) := (Chg.i 31 _ (by simp)).tr pus_c
  have v31 : (pus (gI gm 31 (nI h)) h [10, 53, 60, 11, 54, 25]).1 31 = nI (h + 6) := pus_h (by simp [rI])
  have v5 : (pus (gI gm 31 (nI h)) h [10, 53, 60, 11, 54, 25]).2.1 33 (h + 5) = 25 := pus_t (i := 5) rfl
  have v4 : (pus (gI gm 31 (nI h)) h [10, 53, 60, 11, 54, 25]).2.1 33 (h + 4) = 54 := pus_t (i := 4) rfl
  have v3 : (pus (gI gm 31 (nI h)) h [10, 53, 60, 11, 54, 25]).2.1 33 (h + 3) = 11 := pus_t (i := 3) rfl
  have v2 : (pus (gI gm 31 (nI h)) h [10, 53, 60, 11, 54, 25]).2.1 33 (h + 2) = 60 := pus_t (i := 2) rfl
  have v1 : (pus (gI gm 31 (nI h)) h [10, 53, 60, 11, 54, 25]).2.1 33 (h + 1) = 53 := pus_t (i := 1) rfl
  have v0 : (pus (gI gm 31 (nI h)) h [10, 53, 60, 11, 54, 25]).2.1 33 h = 10 := pus_t (i := 0) rfl
  have vo : ∀ i, i < h → (pus (gI gm 31 (nI h)) h [10, 53, 60, 11, 54, 25]).2.1 33 i = gm.2.1 33 i := fun i hi => by rw [pus_o hi]; rfl
  have hts : ∀ c, f91_55 n (c + 1) gm = f91_55 n c (pus (gI gm 31 (nI h)) h [10, 53, 60, 11, 54, 25]) := fun c => m_top (x := 52) (by omega) p31 b5 p33 e c
  clear e
  generalize pus (gI gm 31 (nI h)) h [10, 53, 60, 11, 54, 25] = gm1 at C1 v31 v5 v4 v3 v2 v1 v0 vo hts
  have R1 : RR t g gm1 N s a D v q m ht rk ho := hR.ks (C1.mono (by simp) (by simp))
  have R1 := R1.lc (rk' := fun i => if i < m then rk i else 0) (fun i hi => by simp [hi]) (by simp)
  refine Pr.turn hts (C1.mono (by simp) (by simp)) ?_
  have er : f14 n rc (nI D) g = m_cv (f6 n (25 + 1) g) (fun g0 => m_cv (f8 n g0) (fun g1 => m_cv (f6 n (12 : Int32) (gI g1 5 ((g1.1 5) + (1 : Int32)))) (fun g5 => m_ci (rc 15 (0 : Int32) (nI D) 0 g5) (fun v10 g9 => m_cv (f10 n (g1.1 5) v10 g9) (fun g13 => m_ci (f34_3 n (39 : Int32) ((g13.1 7) - (1 : Int32)) g13) (fun v18 g17 => m_cv (f6 n (11 : Int32) g17) (fun g21 => some (.inl none, g21)))))))) := by
    rw [c6 R1.rt (by rw [hmk]; rfl), m_cv_s]
    unfold f14
    rw [b3, nI_1]
  rw [er]
  refine Pr.cv (p_take (h := h + 5) hn R1.rt (by omega) v31 v5 (by decide) (by decide) (by decide) (by decide) (by omega)) ?_
  rintro g2 gm2 E2 _ _ ⟨hE2, hlt, rfl, w31, w34, wP, C2⟩
  have R2 := R1.kp (Chg.i 5 (nI (a + 1)) (by simp)) (C2.mono (by simp) (by simp)) (by simp [rI]) (by omega) wP w34
  have w33 : gm2.2.1 33 (h + 4) = 54 := by rw [C2.2.1 33 (by simp)]; exact v4
  have C2' : Chg [31] [] gm2 (gI gm2 31 (nI (h + 4))) := Chg.i 31 _ (by simp)
  have R2' := R2.ks (C2'.mono (by simp) (by simp))
  have hp1 := R2.1.tp R2.2.1
  have e54 : f101 n 54 (gI gm2 31 (nI (h + 4))) = m_cv (m_cv (if ¬ kd (t.2.1 12 (a + 1)) = (1 : Int32) then f127_37 n (gI gm2 31 (nI (h + 4))) else m_ci (f112 n (nI (tp t (a + 1))) (nI (tl t (a + 1))) (gI gm2 31 (nI (h + 4)))) (fun v7 g6 => if 0 ≤ v7 then f127_37 n g6 else if ¬ (g6.1 36) = (8 : Int32) then m_cv (f107 n (g6.1 27) g6) (fun g12 => m_cv (f107 n ((g12.1 28) - (g12.1 27)) g12) (fun g16 => m_cv (f92 n g16) (fun g20 => some (.inl none, g20)))) else f127_37 n g6)) (fun g7 => some (.inl none, g7))) (fun g16 => some (.inl none, g16)) := by
    unfold f101 f124
    simp (decide := true) only [reduceIte]
    unfold f127
    rw [R2'.ln, R2'.2.2.2.1.1, R2'.2.2.2.1.2.1]
  have ef : f127_37 n (gI gm2 31 (nI (h + 4))) = some (.inl none, gI (gI gm2 31 (nI (h + 4))) 30 (nI (tp t (a + 1)))) := by
    unfold f127_37
    rw [R2'.2.2.2.1.2.1, m103 (by omega) R2'.2.2.2.2.1, m_cv_s]
  rcases c8 hn R2' with ⟨hmk1, hv, k8, l2, l3⟩ | ⟨k8, kf⟩
  · have hlt1 : a + 1 < s := R2.1.lt R2.2.1 hmk1 (by decide) (by decide)
    have r1 : kd (t.2.1 12 (a + 1)) = 1 := by rw [hmk1]; decide
    have j36 : (gI gm2 31 (nI (h + 4))).1 36 = nI v := R2'.2.2.2.2.2.2.1.2.2.2.1
    have j27 : (gI gm2 31 (nI (h + 4))).1 27 = nI (tp t (a + 1)) := R2'.2.2.2.1.2.1
    have j32 : (gI gm2 31 (nI (h + 4))).1 32 = nI k := by rw [C2'.1 32 (by simp), C2.1 32 (by simp), C1.1 32 (by simp)]; exact p32
    have jl : (nt (gI gm2 31 (nI (h + 4))) k (nI (tp t (a + 1)))).1 28 - (nt (gI gm2 31 (nI (h + 4))) k (nI (tp t (a + 1)))).1 27 = nI (tl t (a + 1)) := by rw [nt_c.1 28 (by simp), nt_c.1 27 (by simp)]; exact R2'.ln
    have C3a : Chg [31, 32] [34] gm2 (nt (nt (gI gm2 31 (nI (h + 4))) k (nI (tp t (a + 1)))) (k + 1) (nI (tl t (a + 1)))) := (C2'.mono (by simp) (by simp)).tr ((nt_c.mono (by simp) (by simp)).tr (nt_c.mono (by simp) (by simp)))
    have R3a := R2.ks (C3a.mono (by simp) (by simp))
    obtain ⟨gm3, f1, f2, f3⟩ := m_adv (n := n) hn R3a.1 hlt1 R3a.2.2.2.1.2.2.1
    rw [if_neg (fun w => w r1), l2, m_ci_s, if_neg (by decide), j36, if_pos (show ¬ nI v = (8 : Int32) from fun w => by have := (nI_eq (a := v) (b := 8) (by omega) (by decide)).mp w; omega), j27, m107 (by omega) j32, m_cv_s, jl, m107 (by omega) nt_h, m_cv_s, f1, m_cv_s, m_cv_s, m_cv_s] at e54
    have C3 : Chg [26, 27, 28, 29, 31, 32] [34] gm2 gm3 := (C3a.mono (by simp) (by simp)).tr (f3.mono (by simp) (by simp))
    have R3 := R2.kp (Chg.i 5 (nI (a + 1 + 1)) (by simp)) (C3.mono (by simp) (by simp)) (by simp [rI]) (by omega) f2 (by rw [C3.1 34 (by simp)]; exact w34)
    have x31 : gm3.1 31 = nI (h + 4) := by rw [f3.1 31 (by simp), nt_c.1 31 (by simp), nt_c.1 31 (by simp)]; simp [rI]
    have x32 : gm3.1 32 = nI (k + 2) := by rw [f3.1 32 (by simp)]; exact nt_h
    have u1 : gm3.2.1 34 (k + 1) = nI (tl t (a + 1)) := by rw [f3.2.1 34 (by simp)]; exact nt_t
    have u0 : gm3.2.1 34 k = nI (tp t (a + 1)) := by rw [f3.2.1 34 (by simp), nt_o (by omega)]; exact nt_t
    have uo : ∀ j, j < k → gm3.2.1 34 j = gm.2.1 34 j := fun j hj => by rw [f3.2.1 34 (by simp), nt_o (by omega), nt_o hj, rI2, C2.2.1 34 (by simp), C1.2.1 34 (by simp)]
    rw [k8, m_cv_s, show (gI g 5 (nI (a + 1))).1 5 = nI (a + 1) by simp [rI], nI_1]
    obtain ⟨E2, rfl⟩ : ∃ e, E2 = e + 1 := ⟨E2 - 1, by omega⟩
    refine Pr.turn (fun c => m_top (x := 54) (by omega) w31 R2.2.2.2.2.1 w33 e54 c) (C3.mono (by simp) (by simp)) (Pr.own (g1 := gI (gI g 5 (nI (a + 1))) 5 (nI (a + 1 + 1))) (Chg.i 5 _ (by simp)) ?_)
    refine Pr.cv (p_take (c := 11) (h := h + 3) hn R3.rt (by omega) x31 (by rw [C3.2.1 33 (by simp), C2.2.1 33 (by simp)]; exact v3) (by decide) (by decide) (by decide) (by decide) (by omega)) ?_
    rintro g4 gm4 E4 _ _ ⟨hE4, hlt4, rfl, o31, o34, oP, C4⟩
    have R4 := R3.kp (Chg.i 5 (nI (a + 1 + 1 + 1)) (by simp)) (C4.mono (by simp) (by simp)) (by simp [rI]) (by omega) oP o34
    have P4 : PE t (gI (gI (gI g 5 (nI (a + 1))) 5 (nI (a + 1 + 1))) 5 (nI (a + 1 + 1 + 1))) gm4 N s (a + 1 + 1 + 1) D v q m ht (fun i => if i < m then rk i else 0) ho (h + 2) (k + 2) y 0 E4 0 := ⟨R4, o31, by rw [C4.2.1 33 (by simp), C3.2.1 33 (by simp), C2.2.1 33 (by simp), v2]; rfl, by rw [C4.1 32 (by simp), x32], by rw [C4.1 33 (by simp), C3.1 33 (by simp), C2.1 33 (by simp), C1.1 33 (by simp), py], pH, fun i hi => by simp only [show ¬ i < m by omega, if_false], ph, by omega, by omega, by omega, by omega, by omega, by omega, by omega⟩
    refine Pr.ci (hX _ _ _ _ _ _ _ _ _ _ _ _ _ _ _ _ _ _ P4) ?_
    rintro x g5 gm5 E5 _ _ ⟨a5, m5, ht5, c, rfl, hc, R5, ⟨y31, y32, y33⟩, F5, yt, A5, D5, M5, t1, t2, t3, t4, t5, t6⟩
    have ha5 := R5.2.1
    have hm5 : m5 < 600 := by omega
    have g30 : gm5.1 30 = -1 := R5.2.2.2.2.1
    have g37 : gm5.1 37 = nI m5 := R5.2.2.2.2.2.2.2.2.1
    have g36 : gm5.1 36 = nI v := R5.2.2.2.2.2.2.1.2.2.2.1
    have g33h : gm5.2.1 33 (h + 1) = 53 := by rw [F5.1 (h + 1) (by omega), C4.2.1 33 (by simp), C3.2.1 33 (by simp), C2.2.1 33 (by simp)]; exact v1
    have e := s53 (n := n) (v := v) (gx := gI gm5 31 (nI (h + 1))) (p := tp t (a + 1)) (l := tl t (a + 1)) (c := c) (m := m5) (y := y) (k := k) hv (by omega) (by omega) hm5 (by simp [rI, y32]) (by rw [rI2, F5.2.1 (k + 1) (by omega), C4.2.1 34 (by simp)]; exact u1) (by rw [rI2, F5.2.1 k (by omega), C4.2.1 34 (by simp)]; exact u0) (by simp [rI, y33]) (by rw [rI2]; exact yt) (by simp [rI, g36]) (by simp [rI, g37])
    have Cx : Chg [31, 32, 33] [] gm5 (gI (gI (gI (gI gm5 31 (nI (h + 1))) 32 (nI (k + 1))) 32 (nI k)) 33 (nI y)) := (Chg.i 31 _ (by simp)).tr ((Chg.i 32 _ (by simp)).tr ((Chg.i 32 _ (by simp)).tr (Chg.i 33 _ (by simp))))
    have x31 : (gI (gI (gI (gI gm5 31 (nI (h + 1))) 32 (nI (k + 1))) 32 (nI k)) 33 (nI y)).1 31 = nI (h + 1) := by simp [rI]
    have x32 : (gI (gI (gI (gI gm5 31 (nI (h + 1))) 32 (nI (k + 1))) 32 (nI k)) 33 (nI y)).1 32 = nI k := by simp [rI]
    have x33 : (gI (gI (gI (gI gm5 31 (nI (h + 1))) 32 (nI (k + 1))) 32 (nI k)) 33 (nI y)).1 33 = nI y := by simp [rI]
    generalize gI (gI (gI (gI gm5 31 (nI (h + 1))) 32 (nI (k + 1))) 32 (nI k)) 33 (nI y) = gx at e Cx x31 x32 x33
    have R6 := (R5.ks (Cx.mono (by simp) (by simp))).av (x := a + 1) (c := c) hv (by omega) hc (fun j hj => by
      have e10 : g5.2.1 10 = g.2.1 10 := by rw [D5.2.1 10 (by simp)]; rfl
      rw [e10]
      exact l3 j hj)
    rw [c10 hv R5.2.2.2.2.2.2.1.2.2.1, m_cv_s, av_7, nI_pred]
    obtain ⟨E5, rfl⟩ : ∃ e, E5 = e + 1 := ⟨E5 - 1, by omega⟩
    refine Pr.turn (fun c => m_top (x := 53) (by omega) y31 g30 g33h e c) ((Cx.mono (by simp) (by simp)).tr ((am_c.mono (by simp) (by simp)).tr (en_c.mono (by simp) (by simp)))) (Pr.own (g1 := av g5 v (a + 1) c) (av_c.mono (by simp) (by simp)) ?_)
    have l0 : lv 0 = 3 := rfl
    have tm : m5 ≤ m5 := Nat.le_refl _
    have tm1 : ¬ m5 + 1 ≤ m5 := by omega
    refine p_fin (n := n) (a := a) (E := E + 1) (R := R) (ht := ht) (rk := rk) (gx := am gx v (tp t (a + 1)) (tl t (a + 1)) c) hn R6 hm5 (by rw [am_c.1 31 (by simp)]; exact x31) ?_ (by rw [am_c.1 32 (by simp)]; exact x32) (by rw [am_c.1 33 (by simp)]; exact x33) (by omega) ?_ ⟨fun i hi => ?_, fun i hi => ?_, fun i hi => ?_⟩ (fun i hi => ?_) t1 (by omega) (fun i hi => ?_) (fun i hi => by simp [hi]) (fun i hi => ?_) pR (by omega) (by omega) (by omega) (by omega)
    · rw [am_c.2.1 33 (by simp), Cx.2.1 33 (by simp), F5.1 h (by omega), C4.2.1 33 (by simp), C3.2.1 33 (by simp), C2.2.1 33 (by simp)]; exact v0
    · exact Or.inr (Or.inr (Or.inl ⟨rfl, rfl, rfl, ⟨v, by omega, rfl⟩, by omega, by simp only [tm, tm1, if_true, if_false, t2]⟩))
    · rw [am_c.2.1 33 (by simp), Cx.2.1 33 (by simp), F5.1 i (by omega), C4.2.1 33 (by simp), C3.2.1 33 (by simp), C2.2.1 33 (by simp)]; exact vo i hi
    · rw [am_c.2.1 34 (by simp), Cx.2.1 34 (by simp), F5.2.1 i (by omega), C4.2.1 34 (by simp)]; exact uo i hi
    · rw [am_c.2.1 35 (by simp), Cx.2.1 35 (by simp), F5.2.2 i hi, C4.2.1 35 (by simp), C3.2.1 35 (by simp), C2.2.1 35 (by simp), C1.2.1 35 (by simp)]
    · obtain ⟨x1, x2, x3, x4⟩ := A5 i hi
      exact ⟨by rw [av_c.2.1 17 (by simp)]; exact x1, by rw [av_c.2.1 18 (by simp)]; exact x2, by rw [am_c.2.1 43 (by simp), Cx.2.1 43 (by simp), x3, C4.2.1 43 (by simp), C3.2.1 43 (by simp), C2.2.1 43 (by simp), C1.2.1 43 (by simp)], by rw [am_c.2.1 44 (by simp), Cx.2.1 44 (by simp), x4, C4.2.1 44 (by simp), C3.2.1 44 (by simp), C2.2.1 44 (by simp), C1.2.1 44 (by simp)]⟩
    · by_cases hm : i < m
      · rw [t1 i (by omega)]; exact p88 i
      · have := t3 i (by omega) hi; omega
    · by_cases hm : i < m
      · simp only [hm, if_true]; exact p17 i
      · simp only [hm, if_false]; omega
  · have e54' : f101 n 54 (gI gm2 31 (nI (h + 4))) = some (.inl none, gI (gI gm2 31 (nI (h + 4))) 30 (nI (tp t (a + 1)))) := by
      rw [e54]
      rcases kf with k1 | ⟨k1, i, hi, l2⟩ | ⟨k1, k2, l2⟩
      · rw [if_pos (fun w => k1 ((kd_iff (by decide) (by decide) (by decide)).mp w)), ef, m_cv_s, m_cv_s]
      · have r1 : kd (t.2.1 12 (a + 1)) = 1 := by rw [k1]; decide
        have hv8 := b7.1
        rw [if_neg (fun w => w r1), l2, m_ci_s, if_pos (show (0 : Int32) ≤ nI i from nI_le (a := 0) (b := i) (Nat.zero_le _) (by omega)), ef, m_cv_s, m_cv_s]
      · have r1 : kd (t.2.1 12 (a + 1)) = 1 := by rw [k1]; decide
        have j36 : (gI gm2 31 (nI (h + 4))).1 36 = nI v := R2'.2.2.2.2.2.2.1.2.2.2.1
        rw [if_neg (fun w => w r1), l2, m_ci_s, if_neg (by decide), j36, if_neg (fun w => w (by rw [k2]; rfl)), ef, m_cv_s, m_cv_s]
    rw [k8, m_cv_f]
    exact Pr.no (p := tp t (a + 1)) (by omega) (by omega) (fun c => m_top (x := 54) (by omega) w31 R2.2.2.2.2.1 w33 e54' c) ((Chg.i 31 _ (by simp)).tr (Chg.i 30 _ (by simp))) (by simp [rI]) (Chg.i 6 _ (by simp)) (by simp [rI])
end Lt
