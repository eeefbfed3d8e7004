/-! a factor that calls -/
section Cl4
variable {n N s a D v q m h k y H E : Nat} {t g gm : mG} {ht rk : Nat → Nat} {ho : Nat → Prop}
theorem p_fcall {rc : mRec} (hn : 700 ≤ n) (hP : PE t g gm N s a D v q m ht rk ho h k y H E 5) (hmk : t.2.1 12 a = 2) (hnx : t.2.1 12 (a + 1) = 4)
    (ih : ∀ (g gm : mG) (a m : Nat) (ht : Nat → Nat) (h k y H E : Nat), D + 1 ≤ 16 → PE t g gm N s a (D + 1) v q m ht rk ho h k y H E 0 → Pr n g gm E (rc 15 0 (nI (D + 1)) 0 g) (QI (QE t g gm N s a (D + 1) v q m ht rk ho h k y H E 0))) :
    Pr n g gm E (f19 n rc (nI a) (nI D) (gI g 5 (nI (a + 1)))) (QI (QE t g gm N s a D v q m ht rk ho h k y H E 5)) := by
  obtain ⟨hR, p31, p33, p32, py, pH, pr, ph, pm, pD, _, ph9, pk6, py4, pE⟩ := hP
  obtain ⟨b1, b2, b3, b4, b5, b6, b7, b8⟩ := id hR
  have hs := b1.s6
  have hp := b1.tp b2
  have hlt : a < s := b1.lt b2 hmk (by decide) (by decide)
  have kk : kd (t.2.1 12 a) = 1 := by rw [hmk]; decide
  have kn : kd (t.2.1 12 (a + 1)) = 3 := by rw [hnx]; decide
  have C0 : Chg [26, 27, 28, 29, 31] [] gm (gI gm 31 (nI h)) := Chg.i 31 _ (by simp)
  obtain ⟨gm1, e1, e2, e3⟩ := m_adv (n := n) hn (b1.kp (Chg.rf _) (C0.mono (by simp) (by simp))) hlt (by simp [rI, b4.2.2.1])
  have C1 : Chg [26, 27, 28, 29, 31] [] gm gm1 := C0.tr (e3.mono (by simp) (by simp))
  have R1 : RR t (gI g 5 (nI (a + 1))) gm1 N s (a + 1) D v q m ht rk ho := hR.kp (Chg.i 5 _ (by simp)) (C1.mono (by simp) (by simp)) (by simp [rI]) (by omega) e2 (by rw [C1.1 34 (by simp)]; exact b6)
  obtain ⟨d1, d2, d3, d4, d5, d6, d7, d8⟩ := id R1
  obtain ⟨v1, v2, v3, v4, v5, v6, v7, v8, v9⟩ := d7
  obtain ⟨t1, t2, t3, t4⟩ := d1.2.2.2.1.e
  have L := p_fun (n := n) (N := N) (s := s) (x := a) hn (by rw [d1.2.2.2.1.2.1]; exact d1.2.2.1) d1.1 (d1.2.2.2.1.cut d1.2.1) b2 v2 v5 v6 (by rw [d1.2.2.2.2.2, d1.2.2.2.1.2.2.1]) (v8.nm d1.2.2.2.1)
  rw [t1, t3] at L
  have q31 : gm1.1 31 = nI h := by rw [e3.1 31 (by simp)]; simp [rI]
  have q32 : gm1.1 32 = nI k := by rw [C1.1 32 (by simp)]; exact p32
  have q33 : gm1.1 33 = nI y := by rw [C1.1 33 (by simp)]; exact py
  have e106 : f106 n (gI gm 31 (nI h)) = m_cv (m_ci (f114 n (nI (tp t a)) (nI (tl t a)) gm1) (fun v7 g6 => if 0 ≤ v7 then m_cv (f107 n v7 g6) (fun g11 => m_cv (f107 n (nI (tp t a)) g11) (fun g15 => m_cv (f107 n (0 : Int32) g15) (fun g19 => m_cv (f108 n (203 : Int32) (88 : Int32) (87 : Int32) (0 : Int32) g19) (fun g23 => some (.inl none, g23))))) else m_cv (f103 n (nI (tp t a)) g6) (fun g27 => some (.inl none, g27)))) (fun g2 => some (.inl none, g2)) := by
    have i26 : (gI gm 31 (nI h)).1 26 = 1 := by simp [rI, b4.1, kk]
    have i27 : (gI gm 31 (nI h)).1 27 = nI (tp t a) := by simp [rI, b4.2.1]
    have i28 : (gI gm 31 (nI h)).1 28 = nI (tq t (a + 1)) := by simp [rI, b4.2.2.1]
    unfold f106 f111
    rw [i26, if_pos rfl, e1, m_cv_s, e2.1, if_pos kn, i27, i28, pk_sub (by have := b1.2.1.tok b2; omega)]
    rfl
  unfold f19
  rcases L with ⟨f, hf, l1, l2⟩ | ⟨l1, l2, _⟩
  · have w32 : (nt (nt gm1 k (nI f)) (k + 1) (nI (tp t a))).1 32 = nI (k + 2) := nt_h
    have w31 : (nt (nt (nt gm1 k (nI f)) (k + 1) (nI (tp t a))) (k + 2) 0).1 31 = nI h := by rw [nt_c.1 31 (by simp), nt_c.1 31 (by simp), nt_c.1 31 (by simp)]; exact q31
    rw [l2, m_ci_s, if_pos (show (0 : Int32) ≤ nI f from nI_le (a := 0) (b := f) (Nat.zero_le _) (by omega)), m107 (by omega) q32, m_cv_s, m107 (by omega) nt_h, m_cv_s, m107 (by omega) w32, m_cv_s, m108_3 (h := h) (by omega) w31 (by decide) (by decide), m_cv_s, m_cv_s] at e106
    have r1 : ¬ nI f = (-1 : Int32) := fun z => by
      have := nI_pos (n := f) (by omega)
      rw [z] at this; exact this (by decide)
    rw [l1, m_ci_s, if_pos r1]
    have C2 : Chg [31, 32] [33, 34] gm1 (pu (pu (pu (nt (nt (nt gm1 k (nI f)) (k + 1) (nI (tp t a))) (k + 2) 0) h 87) (h + 1) 88) (h + 2) 203) := (nt_c.mono (by simp) (by simp)).tr ((nt_c.mono (by simp) (by simp)).tr ((nt_c.mono (by simp) (by simp)).tr ((pu_c.mono (by simp) (by simp)).tr ((pu_c.mono (by simp) (by simp)).tr (pu_c.mono (by simp) (by simp))))))
    have u31 := pu_h (gm := pu (pu (nt (nt (nt gm1 k (nI f)) (k + 1) (nI (tp t a))) (k + 2) 0) h 87) (h + 1) 88) (h := h + 2) (x := 203)
    have u2 := pu_t (gm := pu (pu (nt (nt (nt gm1 k (nI f)) (k + 1) (nI (tp t a))) (k + 2) 0) h 87) (h + 1) 88) (h := h + 2) (x := 203)
    have u1 : (pu (pu (pu (nt (nt (nt gm1 k (nI f)) (k + 1) (nI (tp t a))) (k + 2) 0) h 87) (h + 1) 88) (h + 2) 203).2.1 33 (h + 1) = 88 := by rw [pu_o (by omega)]; exact pu_t
    have u0 : (pu (pu (pu (nt (nt (nt gm1 k (nI f)) (k + 1) (nI (tp t a))) (k + 2) 0) h 87) (h + 1) 88) (h + 2) 203).2.1 33 h = 87 := by rw [pu_o (by omega), pu_o (by omega)]; exact pu_t
    have uo : ∀ i, i < h → (pu (pu (pu (nt (nt (nt gm1 k (nI f)) (k + 1) (nI (tp t a))) (k + 2) 0) h 87) (h + 1) 88) (h + 2) 203).2.1 33 i = gm.2.1 33 i := fun i hi => by rw [pu_o (by omega), pu_o (by omega), pu_o hi, nt_c.2.1 33 (by simp), nt_c.2.1 33 (by simp), nt_c.2.1 33 (by simp), C1.2.1 33 (by simp)]
    have n34 : (pu (pu (pu (nt (nt (nt gm1 k (nI f)) (k + 1) (nI (tp t a))) (k + 2) 0) h 87) (h + 1) 88) (h + 2) 203).2.1 34 = (nt (nt (nt gm1 k (nI f)) (k + 1) (nI (tp t a))) (k + 2) 0).2.1 34 := by rw [pu_c.2.1 34 (by simp), pu_c.2.1 34 (by simp), pu_c.2.1 34 (by simp)]
    have n2 : (pu (pu (pu (nt (nt (nt gm1 k (nI f)) (k + 1) (nI (tp t a))) (k + 2) 0) h 87) (h + 1) 88) (h + 2) 203).2.1 34 (k + 2) = nI 0 := by rw [n34]; exact nt_t
    have n1 : (pu (pu (pu (nt (nt (nt gm1 k (nI f)) (k + 1) (nI (tp t a))) (k + 2) 0) h 87) (h + 1) 88) (h + 2) 203).2.1 34 (k + 1) = nI (tp t a) := by rw [n34, nt_o (by omega)]; exact nt_t
    have n0 : (pu (pu (pu (nt (nt (nt gm1 k (nI f)) (k + 1) (nI (tp t a))) (k + 2) 0) h 87) (h + 1) 88) (h + 2) 203).2.1 34 k = nI f := by rw [n34, nt_o (by omega), nt_o (by omega)]; exact nt_t
    have no : ∀ i, i < k → (pu (pu (pu (nt (nt (nt gm1 k (nI f)) (k + 1) (nI (tp t a))) (k + 2) 0) h 87) (h + 1) 88) (h + 2) 203).2.1 34 i = gm.2.1 34 i := fun i hi => by rw [n34, nt_o (by omega), nt_o (by omega), nt_o hi, C1.2.1 34 (by simp)]
    have u32 : (pu (pu (pu (nt (nt (nt gm1 k (nI f)) (k + 1) (nI (tp t a))) (k + 2) 0) h 87) (h + 1) 88) (h + 2) 203).1 32 = nI (k + 3) := by rw [pu_c.1 32 (by simp), pu_c.1 32 (by simp), pu_c.1 32 (by simp)]; exact nt_h
    have hts := fun c => m_top (n := n) (x := 85) (by omega) p31 b5 p33 (s85 e106) c
    clear e106 n34
    generalize pu (pu (pu (nt (nt (nt gm1 k (nI f)) (k + 1) (nI (tp t a))) (k + 2) 0) h 87) (h + 1) 88) (h + 2) 203 = gm2 at C2 u31 u2 u1 u0 uo n2 n1 n0 no u32 hts
    have CM : Chg [26, 27, 28, 29, 31, 32] [33, 34] gm gm2 := (C1.mono (by simp) (by simp)).tr (C2.mono (by simp) (by simp))
    have R2 : RR t (gI g 5 (nI (a + 1))) gm2 N s (a + 1) D v q m ht rk ho := R1.kp (Chg.rf _) (C2.mono (by simp) (by simp)) d3 d2 (d4.kp (fun x _ _ => C2.1 x (by simp; omega))) (by rw [C2.1 34 (by simp)]; exact d6)
    obtain ⟨E, rfl⟩ : ∃ e, E = e + 1 := ⟨E - 1, by omega⟩
    refine Pr.own (g1 := gI g 5 (nI (a + 1))) (Chg.i 5 _ (by simp)) (Pr.turn hts (CM.mono (by simp) (by simp)) ?_)
    unfold f19_16
    refine Pr.ci (p_open (c := 3) (x := 203) (h := h + 2) hn R2.rt pD (by omega) u31 u2 (by decide) (by decide) (by decide) (by decide) (by decide) (by decide) (by decide) (by omega)) ?_
    rintro x g3 gm3 E3 _ _ ⟨rfl, hD, hE3, hlt3, rfl, x31, x34, xP, C3⟩
    have R3 : RR t (gI (gI g 5 (nI (a + 1))) 5 (nI (a + 1 + 1))) gm3 N s (a + 1 + 1) (D + 1) v q m ht rk ho := R2.kp (Chg.i 5 _ (by simp)) (C3.mono (by simp) (by simp)) (by simp [rI]) (by omega) xP x34
    obtain ⟨c1', c2', c3', c4', c5', c6', c7', c8'⟩ := id R3
    have Cg : Chg [5, 6, 12] [17, 18] g (gI (gI g 5 (nI (a + 1))) 5 (nI (a + 1 + 1))) := (Chg.i 5 _ (by simp)).tr (Chg.i 5 _ (by simp))
    rw [c1 c1' c2' c3', m_ci_s]
    have e88 := s88 (n := n) (gx := gI gm3 31 (nI (h + 1))) (h := h) (by omega) (by simp [rI])
    have g88 : gm3.2.1 33 (h + 1) = 88 := by rw [C3.2.1 33 (by simp)]; exact u1
    obtain ⟨E3, rfl⟩ : ∃ e, E3 = e + 1 := ⟨E3 - 1, by omega⟩
    unfold f19_40
    by_cases hcl : t.2.1 12 (a + 1 + 1) = 5
    · have k26 : (gI gm3 31 (nI (h + 1))).1 26 = 4 := by simp [rI]; rw [c4'.1, hcl]; decide
      rw [if_pos k26] at e88
      have C4 : Chg [31] [] gm3 (gI gm3 31 (nI (h + 1))) := Chg.i 31 _ (by simp)
      refine Pr.turn (fun c => m_top (x := 88) (by omega) x31 c5' g88 e88 c) (C4.mono (by simp) (by simp)) ?_
      have R4 : RR t (gI (gI g 5 (nI (a + 1))) 5 (nI (a + 1 + 1))) (gI gm3 31 (nI (h + 1))) N s (a + 1 + 1) (D + 1) v q m ht rk ho := R3.kp (Chg.rf _) (C4.mono (by simp) (by simp)) c3' c2' (c4'.kp (fun x _ _ => C4.1 x (by simp; omega))) (by rw [C4.1 34 (by simp)]; exact c6')
      obtain ⟨c, hc⟩ : ∃ z, n = z + 1 := ⟨n - 1, by omega⟩
      have er : f19_45 n rc n (nI a) (nI f) (nI (D + 1)) 0 0 0 (gI (gI g 5 (nI (a + 1))) 5 (nI (a + 1 + 1))) = f19_111 n rc (nI a) (nI f) (nI 0) (gI (gI g 5 (nI (a + 1))) 5 (nI (a + 1 + 1))) := by
        conv => lhs; arg 3; rw [hc]
        rw [f19_45, if_neg (by decide), if_pos rfl]; rfl
      rw [if_pos hcl, er]
      refine p_cend (a := a + 1 + 1) (mc := m) (j := 0) (f := f) (htc := ht) hn ⟨R4, ?_, ?_, ?_, ?_, ?_, ?_, ⟨fun i hi => ?_, fun i hi => ?_, fun i hi => ?_⟩, ?_, Cg, ?_, fun i hi => rfl, by omega, fun i h1 h2 => ?_, by omega, by omega⟩ (by simp [rI]) hf hD b2 pm pr (by omega) (by omega) (by omega) (by omega) (by omega)
      · rw [C4.1 32 (by simp), C3.1 32 (by simp)]; exact u32
      · rw [C4.1 33 (by simp), C3.1 33 (by simp), C2.1 33 (by simp)]; exact q33
      · rw [C4.2.1 33 (by simp), C3.2.1 33 (by simp)]; exact u0
      · rw [C4.2.1 34 (by simp), C3.2.1 34 (by simp)]; exact n0
      · rw [C4.2.1 34 (by simp), C3.2.1 34 (by simp)]; exact n1
      · rw [C4.2.1 34 (by simp), C3.2.1 34 (by simp)]; exact n2
      · rw [C4.2.1 33 (by simp), C3.2.1 33 (by simp)]; exact uo i hi
      · rw [C4.2.1 34 (by simp), C3.2.1 34 (by simp)]; exact no i hi
      · rw [C4.2.1 35 (by simp), C3.2.1 35 (by simp), CM.2.1 35 (by simp)]
      · exact AG.of rfl rfl (by rw [C4.2.1 43 (by simp), C3.2.1 43 (by simp), CM.2.1 43 (by simp)]) (by rw [C4.2.1 44 (by simp), C3.2.1 44 (by simp), CM.2.1 44 (by simp)])
      · exact (CM.mono (by simp) (by simp)).tr ((C3.mono (by simp) (by simp)).tr (C4.mono (by simp) (by simp)))
      · rw [show i = m by omega, pH]; omega
    · have k26 : ¬ (gI gm3 31 (nI (h + 1))).1 26 = 4 := fun z => hcl (by
        have z' : kd (t.2.1 12 (a + 1 + 1)) = 4 := by rw [← c4'.1]; simpa [rI] using z
        exact (kd_iff (by decide) (by decide) (by decide)).mp z')
      rw [if_neg k26] at e88
      have C4 : Chg [31] [33] gm3 (pu (pu (pu (gI gm3 31 (nI (h + 1))) (h + 1) 90) (h + 2) 91) (h + 3) 60) := (Chg.i 31 _ (by simp)).tr (pu_c.tr (pu_c.tr pu_c))
      have y31 := pu_h (gm := pu (pu (gI gm3 31 (nI (h + 1))) (h + 1) 90) (h + 2) 91) (h := h + 3) (x := 60)
      have y3 := pu_t (gm := pu (pu (gI gm3 31 (nI (h + 1))) (h + 1) 90) (h + 2) 91) (h := h + 3) (x := 60)
      have y2 : (pu (pu (pu (gI gm3 31 (nI (h + 1))) (h + 1) 90) (h + 2) 91) (h + 3) 60).2.1 33 (h + 2) = 91 := by rw [pu_o (by omega)]; exact pu_t
      have y1 : (pu (pu (pu (gI gm3 31 (nI (h + 1))) (h + 1) 90) (h + 2) 91) (h + 3) 60).2.1 33 (h + 1) = 90 := by rw [pu_o (by omega), pu_o (by omega)]; exact pu_t
      have yo : ∀ i, i < h + 1 → (pu (pu (pu (gI gm3 31 (nI (h + 1))) (h + 1) 90) (h + 2) 91) (h + 3) 60).2.1 33 i = gm3.2.1 33 i := fun i hi => by rw [pu_o (by omega), pu_o (by omega), pu_o hi]; rfl
      generalize pu (pu (pu (gI gm3 31 (nI (h + 1))) (h + 1) 90) (h + 2) 91) (h + 3) 60 = gm4 at e88 C4 y31 y3 y2 y1 yo
      refine Pr.turn (fun c => m_top (x := 88) (by omega) x31 c5' g88 e88 c) (C4.mono (by simp) (by simp)) ?_
      have R4 : RR t (gI (gI g 5 (nI (a + 1))) 5 (nI (a + 1 + 1))) gm4 N s (a + 1 + 1) (D + 1) v q m ht rk ho := R3.kp (Chg.rf _) (C4.mono (by simp) (by simp)) c3' c2' (c4'.kp (fun x _ _ => C4.1 x (by simp; omega))) (by rw [C4.1 34 (by simp)]; exact c6')
      rw [if_neg hcl]
      refine p_cloop (rc := rc) (f := f) hn hf hD b2 pm pr ph (by omega) (by omega) (by omega) (by omega) (fun g gm a m ht h k y H E hPE => ih g gm a m ht h k y H E (by omega) hPE) (s + 1) n (a + 1 + 1) m 0 E3 _ gm4 ht (by omega) (by omega) ⟨R4, ?_, ?_, ?_, ?_, ?_, ?_, ⟨fun i hi => ?_, fun i hi => ?_, fun i hi => ?_⟩, ?_, Cg, ?_, fun i hi => rfl, by omega, fun i h1 h2 => ?_, by omega, by omega⟩ y31 y1 y2 y3 (by omega)
      · rw [C4.1 32 (by simp), C3.1 32 (by simp)]; exact u32
      · rw [C4.1 33 (by simp), C3.1 33 (by simp), C2.1 33 (by simp)]; exact q33
      · rw [yo h (by omega), C3.2.1 33 (by simp)]; exact u0
      · rw [C4.2.1 34 (by simp), C3.2.1 34 (by simp)]; exact n0
      · rw [C4.2.1 34 (by simp), C3.2.1 34 (by simp)]; exact n1
      · rw [C4.2.1 34 (by simp), C3.2.1 34 (by simp)]; exact n2
      · rw [yo i (by omega), C3.2.1 33 (by simp)]; exact uo i hi
      · rw [C4.2.1 34 (by simp), C3.2.1 34 (by simp)]; exact no i hi
      · rw [C4.2.1 35 (by simp), C3.2.1 35 (by simp), CM.2.1 35 (by simp)]
      · exact AG.of rfl rfl (by rw [C4.2.1 43 (by simp), C3.2.1 43 (by simp), CM.2.1 43 (by simp)]) (by rw [C4.2.1 44 (by simp), C3.2.1 44 (by simp), CM.2.1 44 (by simp)])
      · exact (CM.mono (by simp) (by simp)).tr ((C3.mono (by simp) (by simp)).tr (C4.mono (by simp) (by simp)))
      · rw [show i = m by omega, pH]; omega
  · rw [l2, m_ci_s, if_neg (by decide), m103 (by omega) d5, m_cv_s, m_cv_s] at e106
    rw [l1, m_ci_s, if_neg (fun z => z rfl), c3 d1 b2, m_cv_f]
    exact Pr.no (p := tp t a) (by omega) (by omega) (fun c => m_top (x := 85) (by omega) p31 b5 p33 (s85 e106) c) ((C1.mono (by simp) (by simp)).tr (Chg.i 30 _ (by simp))) (by simp [rI]) ((Chg.i 5 _ (by simp)).tr (Chg.i 6 _ (by simp))) (by simp [rI])
end Cl4
