/-! a factor that reads the store -/
section Ld
variable {n N s a D D' v q m h k y H E : Nat} {t g gm : mG} {ht rk : Nat → Nat} {ho : Nat → Prop}
theorem c6 {c : Int32} (hR : RT t g gm N s a D) (hm : t.2.1 12 a = c + 1) : f6 n (c + 1) g = some (.inl none, gI g 5 (nI (a + 1))) := by
  unfold f6 f6_16
  rw [c1 hR.1 hR.2.1 hR.2.2.1, m_ci_s, if_pos hm, hR.2.2.1, nI_1]
theorem s89 {gx : mG} {c p : Nat} (hk : k < 600) (hy : y < 400) (hm : m < 600) (hc : c ≤ 1) (hp : p < 2 ^ 31) (e32 : gx.1 32 = nI (k + 1)) (en0 : gx.2.1 34 k = nI p) (e33 : gx.1 33 = nI (y + 1)) (et : gx.2.1 35 y = nI (c + 1)) (e30 : gx.1 30 = -1) (e37 : gx.1 37 = nI m) :
    f101 n 89 gx = some (.inl none, ty (en (if c = 0 then gI (gI gx 32 (nI k)) 33 (nI y) else gI (gI (gI gx 32 (nI k)) 33 (nI y)) 30 (nI p)) m 7 0) y (nI (0 + 1))) := by
  have B := m116 (n := n) (gx := gI gx 32 (nI k)) (c := c) (z := 0) (p := p) hy hc (by omega) hp (by simp [rI, e33]) et (by simp [rI, e30])
  have i37 : (if c = 0 then gI (gI gx 32 (nI k)) 33 (nI y) else gI (gI (gI gx 32 (nI k)) 33 (nI y)) 30 (nI p)).1 37 = nI m := by
    by_cases h : c = 0
    · rw [if_pos h]; simp [rI, e37]
    · rw [if_neg h]; simp [rI, e37]
  have i33 : (if c = 0 then gI (gI gx 32 (nI k)) 33 (nI y) else gI (gI (gI gx 32 (nI k)) 33 (nI y)) 30 (nI p)).1 33 = nI y := by
    by_cases h : c = 0
    · rw [if_pos h]; simp [rI]
    · rw [if_neg h]; simp [rI]
  have j33 := (en_c (g := (if c = 0 then gI (gI gx 32 (nI k)) 33 (nI y) else gI (gI (gI gx 32 (nI k)) 33 (nI y)) 30 (nI p))) (m := m) (mk := 7) (ar := 0)).1 33 (by simp)
  rw [i33] at j33
  unfold f101 f105
  simp (decide := true) only [reduceIte]
  rw [m115 hk e32, m_ci_s, en0, show (1 : Int32) = nI (0 + 1) from rfl, B, m_cv_s, m109 hm i37, m_cv_s, m110 hy j33, m_cv_s, m_cv_s]
theorem p_fload {rc : mRec} (hn : 700 ≤ n) (hP : PE t g gm N s a D v q m ht rk ho h k y H E 5) (hmk : t.2.1 12 a = 28)
    (ih : ∀ (g gm : mG) (a h k y E : Nat), D + 1 ≤ 16 → PE t g gm N s a (D + 1) v q m ht rk ho h k y H E 0 → Pr n g gm E (rc 15 0 (nI (D + 1)) 0 g) (QI (QE t g gm N s a (D + 1) v q m ht rk ho h k y H E 0))) :
    Pr n g gm E (f22 n rc (nI D) g) (QI (QE t g gm N s a D v q m ht rk ho h k y H E 5)) := by
  obtain ⟨hR, p31, p33, p32, py, pH, pr, ph, pm, pD, _, ph9, pk6, py4, pE⟩ := hP
  obtain ⟨b1, b2, b3, b4, b5, b6, b7, b8⟩ := id hR
  have hs := b1.s6
  have hp := b1.tp b2
  have kk : kd (t.2.1 12 a) = 27 := by rw [hmk]; decide
  obtain ⟨E, rfl⟩ : ∃ e, E = e + 1 := ⟨E - 1, by omega⟩
  have z26 : (gI gm 31 (nI h)).1 26 = 27 := by simp [rI, b4.1, kk]
  have e : f106 n (gI gm 31 (nI h)) = some (.inl none, pu (pu (pu (pu (pu (nt (gI gm 31 (nI h)) k (nI (tp t a))) h 308) (h + 1) 89) (h + 2) 60) (h + 3) 207) (h + 4) 27) := by
    have i32 : (gI gm 31 (nI h)).1 32 = nI k := by simp [rI, p32]
    have i27 : (gI gm 31 (nI h)).1 27 = nI (tp t a) := by simp [rI, b4.2.1]
    have i31 : (nt (gI gm 31 (nI h)) k (nI (tp t a))).1 31 = nI h := by rw [nt_c.1 31 (by simp)]; simp [rI]
    unfold f106
    rw [z26]
    simp (decide := true) only [reduceIte]
    rw [i27, m107 (by omega) i32, m_cv_s, m108_2 (h := h) (by omega) i31 (by decide), m_cv_s, m108_3 (h := h + 2) (by omega) pu_h (by decide) (by decide), m_cv_s]
  have C1 : Chg [31, 32] [33, 34] gm (pu (pu (pu (pu (pu (nt (gI gm 31 (nI h)) k (nI (tp t a))) h 308) (h + 1) 89) (h + 2) 60) (h + 3) 207) (h + 4) 27) := (Chg.i 31 _ (by simp)).tr ((nt_c.mono (by simp) (by simp)).tr ((pu_c.mono (by simp) (by simp)).tr ((pu_c.mono (by simp) (by simp)).tr ((pu_c.mono (by simp) (by simp)).tr ((pu_c.mono (by simp) (by simp)).tr (pu_c.mono (by simp) (by simp)))))))
  have v31 := pu_h (gm := pu (pu (pu (pu (nt (gI gm 31 (nI h)) k (nI (tp t a))) h 308) (h + 1) 89) (h + 2) 60) (h + 3) 207) (h := h + 4) (x := 27)
  have v4 := pu_t (gm := pu (pu (pu (pu (nt (gI gm 31 (nI h)) k (nI (tp t a))) h 308) (h + 1) 89) (h + 2) 60) (h + 3) 207) (h := h + 4) (x := 27)
  have v3 : (pu (pu (pu (pu (pu (nt (gI gm 31 (nI h)) k (nI (tp t a))) h 308) (h + 1) 89) (h + 2) 60) (h + 3) 207) (h + 4) 27).2.1 33 (h + 3) = 207 := by rw [pu_o (by omega)]; exact pu_t
  have v2 : (pu (pu (pu (pu (pu (nt (gI gm 31 (nI h)) k (nI (tp t a))) h 308) (h + 1) 89) (h + 2) 60) (h + 3) 207) (h + 4) 27).2.1 33 (h + 2) = 60 := by rw [pu_o (by omega), pu_o (by omega)]; exact pu_t
  have v1 : (pu (pu (pu (pu (pu (nt (gI gm 31 (nI h)) k (nI (tp t a))) h 308) (h + 1) 89) (h + 2) 60) (h + 3) 207) (h + 4) 27).2.1 33 (h + 1) = 89 := by rw [pu_o (by omega), pu_o (by omega), pu_o (by omega)]; exact pu_t
  have v0 : (pu (pu (pu (pu (pu (nt (gI gm 31 (nI h)) k (nI (tp t a))) h 308) (h + 1) 89) (h + 2) 60) (h + 3) 207) (h + 4) 27).2.1 33 h = 308 := by rw [pu_o (by omega), pu_o (by omega), pu_o (by omega), pu_o (by omega)]; exact pu_t
  have vo : ∀ i, i < h → (pu (pu (pu (pu (pu (nt (gI gm 31 (nI h)) k (nI (tp t a))) h 308) (h + 1) 89) (h + 2) 60) (h + 3) 207) (h + 4) 27).2.1 33 i = gm.2.1 33 i := fun i hi => by rw [pu_o (by omega), pu_o (by omega), pu_o (by omega), pu_o (by omega), pu_o hi, nt_c.2.1 33 (by simp)]; rfl
  have u0 : (pu (pu (pu (pu (pu (nt (gI gm 31 (nI h)) k (nI (tp t a))) h 308) (h + 1) 89) (h + 2) 60) (h + 3) 207) (h + 4) 27).2.1 34 k = nI (tp t a) := by rw [pu_c.2.1 34 (by simp), pu_c.2.1 34 (by simp), pu_c.2.1 34 (by simp), pu_c.2.1 34 (by simp), pu_c.2.1 34 (by simp)]; exact nt_t
  have uo : ∀ i, i < k → (pu (pu (pu (pu (pu (nt (gI gm 31 (nI h)) k (nI (tp t a))) h 308) (h + 1) 89) (h + 2) 60) (h + 3) 207) (h + 4) 27).2.1 34 i = gm.2.1 34 i := fun i hi => by rw [pu_c.2.1 34 (by simp), pu_c.2.1 34 (by simp), pu_c.2.1 34 (by simp), pu_c.2.1 34 (by simp), pu_c.2.1 34 (by simp), nt_o hi]; rfl
  have v32 : (pu (pu (pu (pu (pu (nt (gI gm 31 (nI h)) k (nI (tp t a))) h 308) (h + 1) 89) (h + 2) 60) (h + 3) 207) (h + 4) 27).1 32 = nI (k + 1) := by rw [pu_c.1 32 (by simp), pu_c.1 32 (by simp), pu_c.1 32 (by simp), pu_c.1 32 (by simp), pu_c.1 32 (by simp)]; exact nt_h
  have hts : ∀ c, f91_55 n (c + 1) gm = f91_55 n c (pu (pu (pu (pu (pu (nt (gI gm 31 (nI h)) k (nI (tp t a))) h 308) (h + 1) 89) (h + 2) 60) (h + 3) 207) (h + 4) 27) := fun c => m_top (x := 85) (by omega) p31 b5 p33 (s85 e) c
  clear e
  generalize pu (pu (pu (pu (pu (nt (gI gm 31 (nI h)) k (nI (tp t a))) h 308) (h + 1) 89) (h + 2) 60) (h + 3) 207) (h + 4) 27 = gm1 at C1 v31 v4 v3 v2 v1 v0 vo u0 uo v32 hts
  have R1 : RR t g gm1 N s a D v q m ht rk ho := hR.kp (Chg.rf _) (C1.mono (by simp) (by simp)) b3 b2 (b4.kp (fun x _ _ => C1.1 x (by simp; omega))) (by rw [C1.1 34 (by simp)]; exact b6)
  refine Pr.turn hts (C1.mono (by simp) (by simp)) ?_
  have er : f22 n rc (nI D) g = m_cv (f6 n (27 + 1) g) (fun g0 => m_ci (f12 n (8 : Int32) (nI D) g0) (fun v2 g1 => m_ci (rc 15 (0 : Int32) v2 0 g1) (fun v6 g5 => m_cv (f18 n (0 : Int32) v6 (nI a) g5) (fun g9 => m_cv (f6 n (9 : Int32) g9) (fun g13 => m_ci (f34_3 n (28 : Int32) (0 : Int32) g13) (fun v18 g17 => some (.inl (some (.int (0 : Int32))), g17))))))) := by
    rw [c6 R1.rt (by rw [hmk]; rfl), m_cv_s]
    unfold f22
    rw [b3, nI_1]
  rw [er]
  refine Pr.cv (p_take (h := h + 4) hn R1.rt (by omega) v31 v4 (by decide) (by decide) (by decide) (by decide) (by omega)) ?_
  rintro g2 gm2 E2 _ _ ⟨hE2, hlt, rfl, w31, w34, wP, C2⟩
  have R2 : RR t (gI g 5 (nI (a + 1))) gm2 N s (a + 1) D v q m ht rk ho := R1.kp (Chg.i 5 _ (by simp)) (C2.mono (by simp) (by simp)) (by simp [rI]) (by omega) wP w34
  refine Pr.ci (p_open (c := 7) (x := 207) (h := h + 3) hn R2.rt pD (by omega) w31 (by rw [C2.2.1 33 (by simp)]; exact v3) (by decide) (by decide) (by decide) (by decide) (by decide) (by decide) (by decide) (by omega)) ?_
  rintro x g3 gm3 E3 _ _ ⟨rfl, hD, hE3, hlt3, rfl, x31, x34, xP, C3⟩
  have R3 : RR t (gI (gI g 5 (nI (a + 1))) 5 (nI (a + 1 + 1))) gm3 N s (a + 1 + 1) (D + 1) v q m ht rk ho := R2.kp (Chg.i 5 _ (by simp)) (C3.mono (by simp) (by simp)) (by simp [rI]) (by omega) xP x34
  have P3 : PE t (gI (gI g 5 (nI (a + 1))) 5 (nI (a + 1 + 1))) gm3 N s (a + 1 + 1) (D + 1) v q m ht rk ho (h + 2) (k + 1) y H E3 0 := ⟨R3, x31, by rw [C3.2.1 33 (by simp), C2.2.1 33 (by simp), v2]; rfl, by rw [C3.1 32 (by simp), C2.1 32 (by simp), v32], by rw [C3.1 33 (by simp), C2.1 33 (by simp), C1.1 33 (by simp), py], pH, pr, ph, by omega, by omega, by omega, by omega, by omega, by omega, by omega⟩
  refine Pr.ci (ih _ _ _ _ _ _ _ (by omega) P3) ?_
  rintro x g4 gm4 E4 _ _ ⟨a4, m4, ht4, c, rfl, hc, R4, ⟨y31, y32, y33⟩, F4, yt, A4, D4, M4, t1, t2, t3, t4, t5, t6⟩
  have ha4 := R4.2.1
  have hm4 : m4 < 600 := by omega
  have g30 : gm4.1 30 = -1 := R4.2.2.2.2.1
  have g37 : gm4.1 37 = nI m4 := R4.2.2.2.2.2.2.2.2.1
  have g33h : gm4.2.1 33 (h + 1) = 89 := by rw [F4.1 (h + 1) (by omega), C3.2.1 33 (by simp), C2.2.1 33 (by simp)]; exact v1
  have e := s89 (n := n) (gx := gI gm4 31 (nI (h + 1))) (p := tp t a) (c := c) (m := m4) (y := y) (k := k) (by omega) (by omega) hm4 hc (by omega) (by simp [rI, y32]) (by rw [rI2, F4.2.1 k (by omega), C3.2.1 34 (by simp), C2.2.1 34 (by simp)]; exact u0) (by simp [rI, y33]) (by rw [rI2]; exact yt) (by simp [rI, g30]) (by simp [rI, g37])
  unfold f18
  by_cases hcz : c = 0
  · subst hcz
    rw [if_pos rfl] at e
    rw [if_pos (show nI 0 = 0 from rfl), m_cv_s]
    have Cx : Chg [31, 32, 33, 34] [] gm4 (gI (gI (gI gm4 31 (nI (h + 1))) 32 (nI k)) 33 (nI y)) := (Chg.i 31 _ (by simp)).tr ((Chg.i 32 _ (by simp)).tr (Chg.i 33 _ (by simp)))
    have q31 : (gI (gI (gI gm4 31 (nI (h + 1))) 32 (nI k)) 33 (nI y)).1 31 = nI (h + 1) := by simp [rI]
    have q32 : (gI (gI (gI gm4 31 (nI (h + 1))) 32 (nI k)) 33 (nI y)).1 32 = nI k := by simp [rI]
    have q34 : (gI (gI (gI gm4 31 (nI (h + 1))) 32 (nI k)) 33 (nI y)).1 34 = nI (D + 1) := by simp [rI]; exact R4.2.2.2.2.2.1
    generalize gI (gI (gI gm4 31 (nI (h + 1))) 32 (nI k)) 33 (nI y) = gx at e Cx q31 q32 q34
    have hl : LC (g4.2.1 20) (m4 + 2) q (fun i => if i ≤ m4 then ht4 i else H + 1) rk m4 28 0 7 0 := Or.inr (Or.inr (Or.inr (Or.inr (Or.inr (Or.inr (Or.inr (Or.inr (Or.inl ⟨rfl, rfl, by omega, by simp [t2], by simp [t2]; intro z; omega⟩))))))))
    have R5 := fin_add (D := D + 1) (y := y) (w := nI (0 + 1)) R4 Cx q34 hm4 (fun i hi => by simp [hi]) hl
    have CT : Chg [31, 32, 33, 34, 37] [35, 43, 44] gm4 (ty (en gx m4 7 0) y (nI (0 + 1))) := (Cx.mono (by simp) (by simp)).tr ((en_c.mono (by simp) (by simp)).tr (ty_c.mono (by simp) (by simp)))
    obtain ⟨E4, rfl⟩ : ∃ e, E4 = e + 1 := ⟨E4 - 1, by omega⟩
    refine Pr.turn (fun c => m_top (x := 89) (by omega) y31 g30 g33h e c) (CT.mono (by simp) (by simp)) ?_
    have T5 : RT t g4 (ty (en gx m4 7 0) y (nI (0 + 1))) N s a4 (D + 1) := ⟨R4.1.kp (Chg.rf _) (CT.mono (by simp) (by simp)), ha4, R4.2.2.1, R5.2.2.2.1, R5.2.2.2.2.1, R5.2.2.2.2.2.1⟩
    have w31' : (ty (en gx m4 7 0) y (nI (0 + 1))).1 31 = nI (h + 1) := by rw [ty_c.1 31 (by simp), en_c.1 31 (by simp)]; exact q31
    have w33' : (ty (en gx m4 7 0) y (nI (0 + 1))).2.1 33 h = 308 := by rw [CT.2.1 33 (by simp), F4.1 h (by omega), C3.2.1 33 (by simp), C2.2.1 33 (by simp)]; exact v0
    refine Pr.cv (p_close (c := 8) (x := 308) (D := D) (h := h) hn T5 (by omega) w31' w33' (by decide) (by decide) (by decide) (by decide) (by decide) (by decide) (by omega)) ?_
    rintro g6 gm6 E6 _ _ ⟨hE6, hlt6, rfl, s31, s34, sP, C6⟩
    rw [c34 hm4 (show (gI g4 5 (nI (a4 + 1))).1 12 = nI m4 by simp [rI]; exact R4.2.2.2.2.2.2.2.1), m_ci_s]
    have R6 : RR t (em (gI g4 5 (nI (a4 + 1))) m4 28 0) gm6 N s (a4 + 1) D v q (m4 + 1) (fun i => if i ≤ m4 then ht4 i else H + 1) rk ho := R5.kp em_5 (C6.mono (by simp) (by simp)) (by simp [em, rI, rS1]) (by omega) sP s34
    have Cm : Chg [26, 27, 28, 29, 30, 31, 32, 33, 34, 37] [33, 34, 35, 43, 44] gm gm6 := (C1.mono (by simp) (by simp)).tr ((C2.mono (by simp) (by simp)).tr ((C3.mono (by simp) (by simp)).tr (M4.tr ((CT.mono (by simp) (by simp)).tr (C6.mono (by simp) (by simp))))))
    have Cg : Chg [5, 6, 12] [17, 18] g (em (gI g4 5 (nI (a4 + 1))) m4 28 0) := (Chg.i 5 _ (by simp)).tr ((Chg.i 5 _ (by simp)).tr (D4.tr ((Chg.i 5 _ (by simp)).tr (em_c.mono (by simp) (by simp)))))
    have l5 : lv 5 = 0 := rfl
    have l0 : lv 0 = 3 := rfl
    refine Pr.own (g1 := em (gI g4 5 (nI (a4 + 1))) m4 28 0) (em_c.mono (by simp) (by simp)) (Pr.ret ⟨0, rfl, a4 + 1, m4 + 1, _, 0, rfl, by omega, R6, ⟨s31, ?_, ?_⟩, ⟨fun i hi => ?_, fun i hi => ?_, fun i hi => ?_⟩, ?_, fun i hi => ?_, Cg, Cm, fun i hi => ?_, by simp; intro z; omega, fun i h1 h2 => ?_, by omega, by omega, by omega⟩)
    · rw [C6.1 32 (by simp), ty_c.1 32 (by simp), en_c.1 32 (by simp)]; exact q32
    · rw [C6.1 33 (by simp)]; exact ty_h
    · rw [C6.2.1 33 (by simp), CT.2.1 33 (by simp), F4.1 i (by omega), C3.2.1 33 (by simp), C2.2.1 33 (by simp)]; exact vo i hi
    · rw [C6.2.1 34 (by simp), CT.2.1 34 (by simp), F4.2.1 i (by omega), C3.2.1 34 (by simp), C2.2.1 34 (by simp)]; exact uo i hi
    · rw [C6.2.1 35 (by simp), ty_o hi, en_c.2.1 35 (by simp), Cx.2.1 35 (by simp), F4.2.2 i hi, C3.2.1 35 (by simp), C2.2.1 35 (by simp), C1.2.1 35 (by simp)]
    · rw [C6.2.1 35 (by simp)]; exact ty_t
    · obtain ⟨x1, x2, x3, x4⟩ := A4 i hi
      refine ⟨?_, ?_, ?_, ?_⟩
      · rw [em_17, upd_o (by omega)]; exact x1
      · rw [em_18, upd_o (by omega)]; exact x2
      · rw [C6.2.1 43 (by simp), ty_c.2.1 43 (by simp), en_43, upd_o (by omega), Cx.2.1 43 (by simp), x3, C3.2.1 43 (by simp), C2.2.1 43 (by simp), C1.2.1 43 (by simp)]
      · rw [C6.2.1 44 (by simp), ty_c.2.1 44 (by simp), en_44, upd_o (by omega), Cx.2.1 44 (by simp), x4, C3.2.1 44 (by simp), C2.2.1 44 (by simp), C1.2.1 44 (by simp)]
    · simp only [show i ≤ m4 by omega, if_true]; exact t1 i hi
    · by_cases hi : i ≤ m4
      · simp only [hi, if_true]; have := t3 i h1 hi; omega
      · simp only [hi, if_false]; omega
  · rw [if_neg hcz] at e
    have hne : ¬ nI c = 0 := fun w => hcz ((nI_eq (a := c) (b := 0) (by omega) (by omega)).mp w)
    rw [if_neg hne, c3 R4.1 b2, m_cv_f, m_cv_f]
    refine Pr.no (p := tp t a) (by omega) (by omega) (fun c => m_top (x := 89) (by omega) y31 g30 g33h e c) ?_ ?_ (Chg.i 6 _ (by simp)) (by simp [rI])
    · exact (Chg.i 31 _ (by simp)).tr ((Chg.i 32 _ (by simp)).tr ((Chg.i 33 _ (by simp)).tr ((Chg.i 30 _ (by simp)).tr ((en_c.mono (by simp) (by simp)).tr (ty_c.mono (by simp) (by simp))))))
    · rw [ty_c.1 30 (by simp), en_c.1 30 (by simp)]; simp [rI]
end Ld
