/-! factors: brackets, variables -/
section Fac2
variable {n N s a D D' v q m h k y H E : Nat} {t g gm : mG} {ht rk : Nat → Nat} {ho : Nat → Prop}
/-- an expression in round brackets -/
theorem p_paren {rc : mRec} (hn : 700 ≤ n) (hP : PE t g gm N s a D v q m ht rk ho h k y H E 5) (hmk : t.2.1 12 a = 4)
    (ih : ∀ (g gm : mG) (a h k y E : Nat), D + 1 ≤ 16 → PE t g gm N s a (D + 1) v q m ht rk ho h k y H E 0 → Pr n g gm E (rc 15 0 (nI (D + 1)) 0 g) (QI (QE t g gm N s a (D + 1) v q m ht rk ho h k y H E 0))) :
    Pr n g gm E (m_ci (f12 n (4 : Int32) (nI D) g) (fun v30 g29 => m_ci (rc 15 (0 : Int32) v30 0 g29) (fun v34 g33 => m_cv (f6 n (5 : Int32) g33) (fun g37 => some (.inl (some (.int v34)), g37))))) (QI (QE t g gm N s a D v q m ht rk ho h k y H E 5)) := by
  obtain ⟨hR, p31, p33, p32, py, pH, pr, ph, pm, pD, _, ph9, pk6, py4, pE⟩ := hP
  obtain ⟨b1, b2, b3, b4, b5, b6, b7, b8⟩ := id hR
  have hs := b1.s6
  have kk : kd (t.2.1 12 a) = 3 := by rw [hmk]; decide
  obtain ⟨E, rfl⟩ : ∃ e, E = e + 1 := ⟨E - 1, by omega⟩
  have z26 : (gI gm 31 (nI h)).1 26 = 3 := by simp [rI, b4.1, kk]
  have e : f106 n (gI gm 31 (nI h)) = some (.inl none, pu (pu (pu (gI gm 31 (nI h)) h 304) (h + 1) 60) (h + 2) 203) := by
    unfold f106
    rw [z26]
    simp (decide := true) only [reduceIte]
    rw [m108_3 (h := h) (by omega) (by simp [rI]) (by decide) (by decide), m_cv_s]
  have C1 : Chg [31] [33] gm (pu (pu (pu (gI gm 31 (nI h)) h 304) (h + 1) 60) (h + 2) 203) := (Chg.i 31 _ (by simp)).tr (pu_c.tr (pu_c.tr pu_c))
  have v31 := pu_h (gm := pu (pu (gI gm 31 (nI h)) h 304) (h + 1) 60) (h := h + 2) (x := 203)
  have v2 := pu_t (gm := pu (pu (gI gm 31 (nI h)) h 304) (h + 1) 60) (h := h + 2) (x := 203)
  have v1 : (pu (pu (pu (gI gm 31 (nI h)) h 304) (h + 1) 60) (h + 2) 203).2.1 33 (h + 1) = 60 := by rw [pu_o (by omega)]; exact pu_t
  have v0 : (pu (pu (pu (gI gm 31 (nI h)) h 304) (h + 1) 60) (h + 2) 203).2.1 33 h = 304 := by rw [pu_o (by omega), pu_o (by omega)]; exact pu_t
  have vo : ∀ i, i < h → (pu (pu (pu (gI gm 31 (nI h)) h 304) (h + 1) 60) (h + 2) 203).2.1 33 i = gm.2.1 33 i := fun i hi => by rw [pu_o (by omega), pu_o (by omega), pu_o hi]; rfl
  have hts : ∀ c, f91_55 n (c + 1) gm = f91_55 n c (pu (pu (pu (gI gm 31 (nI h)) h 304) (h + 1) 60) (h + 2) 203) := fun c => m_top (x := 85) (by omega) p31 b5 p33 (s85 e) c
  clear e
  generalize pu (pu (pu (gI gm 31 (nI h)) h 304) (h + 1) 60) (h + 2) 203 = gm1 at C1 v31 v2 v1 v0 vo hts
  have R1 : RR t g gm1 N s a D v q m ht rk ho := hR.kp (Chg.rf _) (C1.mono (by simp) (by simp)) b3 b2 (b4.kp (fun x _ _ => C1.1 x (by simp; omega))) (by rw [C1.1 34 (by simp)]; exact b6)
  refine Pr.turn hts (C1.mono (by simp) (by simp)) ?_
  refine Pr.ci (p_open (c := 3) (h := h + 2) hn R1.rt pD (by omega) v31 v2 (by decide) (by decide) (by decide) (by decide) (by decide) (by decide) (by decide) (by omega)) ?_
  rintro x g2 gm2 E2 _ _ ⟨rfl, hD, hE2, hlt, rfl, w31, w34, wP, C2⟩
  have R2 : RR t (gI g 5 (nI (a + 1))) gm2 N s (a + 1) (D + 1) v q m ht rk ho := R1.kp (Chg.i 5 _ (by simp)) (C2.mono (by simp) (by simp)) (by simp [rI]) (by omega) wP w34
  have P2 : PE t (gI g 5 (nI (a + 1))) gm2 N s (a + 1) (D + 1) v q m ht rk ho (h + 1) k y H E2 0 := ⟨R2, w31, by rw [C2.2.1 33 (by simp), v1]; rfl, by rw [C2.1 32 (by simp), C1.1 32 (by simp), p32], by rw [C2.1 33 (by simp), C1.1 33 (by simp), py], pH, pr, ph, by omega, by omega, by omega, by omega, by omega, by omega, by omega⟩
  refine Pr.ci (ih _ _ _ _ _ _ _ (by omega) P2) ?_
  rintro x g3 gm3 E3 _ _ ⟨a3, m3, ht3, c, rfl, hc, R3, ⟨y31, y32, y33⟩, F3, yt, A3, D3, M3, t1, t2, t3, t4, t5, t6⟩
  have ha3 := R3.2.1
  have g33h : gm3.2.1 33 h = 304 := by rw [F3.1 h (by omega), C2.2.1 33 (by simp)]; exact v0
  refine Pr.cv (p_close (c := 4) (x := 304) (D := D) (h := h) hn R3.rt (by omega) y31 g33h (by decide) (by decide) (by decide) (by decide) (by decide) (by decide) (by omega)) ?_
  rintro g4 gm4 E4 _ _ ⟨hE4, hlt4, rfl, u31, u34, uP, C4⟩
  have R4 : RR t (gI g3 5 (nI (a3 + 1))) gm4 N s (a3 + 1) D v q m3 ht3 rk ho := R3.kp (Chg.i 5 _ (by simp)) (C4.mono (by simp) (by simp)) (by simp [rI]) (by omega) uP u34
  have l5 : lv 5 = 0 := rfl
  have l0 : lv 0 = 3 := rfl
  refine Pr.ret ⟨nI c, rfl, a3 + 1, m3, ht3, c, rfl, hc, R4, ⟨u31, by rw [C4.1 32 (by simp)]; exact y32, by rw [C4.1 33 (by simp)]; exact y33⟩, ⟨fun i hi => ?_, fun i hi => ?_, fun i hi => ?_⟩, by rw [C4.2.1 35 (by simp)]; exact yt, fun i hi => ?_, (Chg.i 5 _ (by simp)).tr (D3.tr (Chg.i 5 _ (by simp))), (C1.mono (by simp) (by simp)).tr ((C2.mono (by simp) (by simp)).tr (M3.tr (C4.mono (by simp) (by simp)))), t1, t2, fun i h1 h2 => ?_, t4, by omega, by omega⟩
  · rw [C4.2.1 33 (by simp), F3.1 i (by omega), C2.2.1 33 (by simp)]; exact vo i hi
  · rw [C4.2.1 34 (by simp), F3.2.1 i (by omega), C2.2.1 34 (by simp), C1.2.1 34 (by simp)]
  · rw [C4.2.1 35 (by simp), F3.2.2 i hi, C2.2.1 35 (by simp), C1.2.1 35 (by simp)]
  · obtain ⟨x1, x2, x3, x4⟩ := A3 i hi
    exact ⟨x1, x2, by rw [C4.2.1 43 (by simp), x3, C2.2.1 43 (by simp), C1.2.1 43 (by simp)], by rw [C4.2.1 44 (by simp), x4, C2.2.1 44 (by simp), C1.2.1 44 (by simp)]⟩
  · have := t3 i h1 h2; omega
theorem NT.nm {x p l : Nat} (h : NT t g gm s x p l v) (hS : ST t g) : NM g gm s x p l v := by
  obtain ⟨e1, e2, e3, e4⟩ := hS.e
  unfold NM
  rw [e1, e3, e4]
  exact h
/-- a variable -/
theorem p_vari (hn : 700 ≤ n) (hP : PE t g gm N s a D v q m ht rk ho h k y H E 5) (hmk : t.2.1 12 a = 2) (hnx : ¬ t.2.1 12 (a + 1) = 4) :
    Pr n g gm E (f20 n (nI a) (gI g 5 (nI (a + 1)))) (QI (QE t g gm N s a D v q m ht rk ho h k y H E 5)) := by
  obtain ⟨hR, p31, p33, p32, py, pH, pr, ph, pm, pD, _, ph9, pk6, py4, pE⟩ := hP
  obtain ⟨b1, b2, b3, b4, b5, b6, b7, b8⟩ := id hR
  have hs := b1.s6
  have hp := b1.tp b2
  have hlt : a < s := b1.lt b2 hmk (by decide) (by decide)
  have kk : kd (t.2.1 12 a) = 1 := by rw [hmk]; decide
  have kn : ¬ kd (t.2.1 12 (a + 1)) = 3 := fun z => hnx ((kd_iff (by decide) (by decide) (by decide)).mp z)
  have C0 : Chg [26, 27, 28, 29, 31] [] gm (gI gm 31 (nI h)) := Chg.i 31 _ (by simp)
  obtain ⟨gm1, e1, e2, e3⟩ := m_adv (n := n) hn (b1.kp (Chg.rf _) (C0.mono (by simp) (by simp))) hlt (by simp [rI, b4.2.2.1])
  have C1 : Chg [26, 27, 28, 29, 31] [] gm gm1 := C0.tr (e3.mono (by simp) (by simp))
  have R1 : RR t (gI g 5 (nI (a + 1))) gm1 N s (a + 1) D v q m ht rk ho := hR.kp (Chg.i 5 _ (by simp)) (C1.mono (by simp) (by simp)) (by simp [rI]) (by omega) e2 (by rw [C1.1 34 (by simp)]; exact b6)
  obtain ⟨d1, d2, d3, d4, d5, d6, d7, d8⟩ := id R1
  obtain ⟨v1, v2, v3, v4, v5, v6, v7, v8, v9⟩ := d7
  obtain ⟨t1, t2, t3, t4⟩ := d1.2.2.2.1.e
  have L := p_var (n := n) (N := N) (s := s) (x := a) hn (by rw [d1.2.2.2.1.2.1]; exact d1.2.2.1) d1.1 (d1.2.2.2.1.cut d1.2.1) b2 v1 v3 v4 (by rw [d1.2.2.2.2.2, d1.2.2.2.1.2.2.1]) (v7.nm d1.2.2.2.1)
  rw [t1, t3] at L
  have q37 : gm1.1 37 = nI m := d8.2.1
  have q33 : gm1.1 33 = nI y := by rw [C1.1 33 (by simp)]; exact py
  have q30 : gm1.1 30 = -1 := d5
  have e106 : f106 n (gI gm 31 (nI h)) = m_cv (m_ci (f112 n (nI (tp t a)) (nI (tl t a)) gm1) (fun v32 g31 => if 0 ≤ v32 then m_cv (f109 n (2 : Int32) v32 g31) (fun g36 => if v32 < 0 ∨ 8 ≤ Int32.toNatClampNeg v32 then none else m_cv (f110 n ((g36.2.1 42) (Int32.toNatClampNeg v32)) g36) (fun g41 => some (.inl none, g41))) else m_cv (f103 n (nI (tp t a)) g31) (fun g45 => some (.inl none, g45)))) (fun g2 => some (.inl none, g2)) := by
    have i26 : (gI gm 31 (nI h)).1 26 = 1 := by simp [rI, b4.1, kk]
    have i27 : (gI gm 31 (nI h)).1 27 = nI (tp t a) := by simp [rI, b4.2.1]
    have i28 : (gI gm 31 (nI h)).1 28 = nI (tq t (a + 1)) := by simp [rI, b4.2.2.1]
    unfold f106 f111
    rw [i26, if_pos rfl, e1, m_cv_s, e2.1, if_neg kn, i27, i28, pk_sub (by have := b1.2.1.tok b2; omega)]
    rfl
  have hm6 : m < 600 := by omega
  unfold f20
  rcases L with ⟨i, hi, l1, l2⟩ | ⟨l1, l2, _⟩
  · obtain ⟨b, hb, y1, y2⟩ := v9 i hi
    have q42 : (en gm1 m 2 (nI i)).2.1 42 i = nI (b + 1) := by rw [en_c.2.1 42 (by simp)]; exact y2
    have q33' : (en gm1 m 2 (nI i)).1 33 = nI y := by rw [en_c.1 33 (by simp)]; exact q33
    rw [l2, m_ci_s, if_pos (show (0 : Int32) ≤ nI i from nI_le (a := 0) (b := i) (Nat.zero_le _) (by omega)), m109 hm6 q37, m_cv_s, if_neg (nI_in (by omega) (by decide)), nI_clamp (by omega), q42, m110 (by omega) q33', m_cv_s, m_cv_s] at e106
    have r1 : ¬ nI i = (-1 : Int32) := fun z => by
      have := nI_pos (n := i) (by omega)
      rw [z] at this; exact this (by decide)
    have R2 := fin_add (D := D) (y := y) (w := nI (b + 1)) (ht' := fun j => if j ≤ m then ht j else H + 1) (mk := 36) (ar := nI i) (st := 2) (pt := nI i) R1 (Chg.rf _) d6 hm6 (fun j hj => by simp [hj]) (Or.inr (Or.inl ⟨rfl, rfl, rfl, ⟨i, by omega, rfl⟩, by omega, by simp [pH]; intro z; omega⟩))
    have CT : Chg [33, 37] [35, 43, 44] gm1 (ty (en gm1 m 2 (nI i)) y (nI (b + 1))) := (en_c.mono (by simp) (by simp)).tr (ty_c.mono (by simp) (by simp))
    have er : m_ci (f9 n (nI a) (gI g 5 (nI (a + 1)))) (fun v2 g1 => if ¬ v2 = (-1 : Int32) then f20_16 n v2 g1 else m_cv (f3 n (nI a) g1) (fun g14 => f20_16 n v2 g14)) = some (.inl (some (.int (nI b))), em (gI g 5 (nI (a + 1))) m 36 (nI i)) := by
      rw [l1, m_ci_s, if_pos r1]
      unfold f20_16
      rw [c34 hm6 d8.1, m_ci_s]
      unfold f21
      have w7 : (em (gI g 5 (nI (a + 1))) m 36 (nI i)).1 7 = nI v := by rw [em_c.1 7 (by simp)]; exact v3
      have w11 : (em (gI g 5 (nI (a + 1))) m 36 (nI i)).2.1 11 i = nI b := by rw [em_c.2.1 11 (by simp)]; exact y1
      rw [if_neg (nI_pos (by omega)), w7, if_neg (nI_ge (by omega) (by omega)), if_neg (nI_in (by omega) (by decide)), nI_clamp (by omega), w11, m_ci_s]
    rw [er]
    have l5 : lv 5 = 0 := rfl
    have Cm : Chg [26, 27, 28, 29, 30, 31, 32, 33, 34, 37] [33, 34, 35, 43, 44] gm (ty (en gm1 m 2 (nI i)) y (nI (b + 1))) := (C1.mono (by simp) (by simp)).tr (CT.mono (by simp) (by simp))
    have Cg : Chg [5, 6, 12] [17, 18] g (em (gI g 5 (nI (a + 1))) m 36 (nI i)) := (Chg.i 5 _ (by simp)).tr (em_c.mono (by simp) (by simp))
    refine Or.inl ⟨_, _, _, 1, rfl, fun c => m_top (x := 85) (by omega) p31 b5 p33 (s85 e106) c, by omega, Cg.mono (by simp) (by simp), Cm.mono (by simp) (by simp), nI b, rfl, a + 1, m + 1, _, b, rfl, hb, R2, ⟨?_, ?_, ty_h⟩, ⟨fun j hj => ?_, fun j hj => ?_, fun j hj => ?_⟩, ty_t, fun j hj => ⟨?_, ?_, ?_, ?_⟩, Cg, Cm, fun j hj => by simp [hj], by simp; intro z; omega, fun j h1 h2 => ?_, by omega, by omega, by omega⟩
    · rw [CT.1 31 (by simp), e3.1 31 (by simp)]; simp [rI]
    · rw [CT.1 32 (by simp), C1.1 32 (by simp)]; exact p32
    · rw [CT.2.1 33 (by simp), C1.2.1 33 (by simp)]
    · rw [CT.2.1 34 (by simp), C1.2.1 34 (by simp)]
    · rw [ty_o hj, en_c.2.1 35 (by simp), C1.2.1 35 (by simp)]
    · rw [em_17, upd_o (by omega)]; rfl
    · rw [em_18, upd_o (by omega)]; rfl
    · rw [ty_c.2.1 43 (by simp), en_43, upd_o (by omega), C1.2.1 43 (by simp)]
    · rw [ty_c.2.1 44 (by simp), en_44, upd_o (by omega), C1.2.1 44 (by simp)]
    · by_cases hj : j ≤ m
      · simp only [hj, if_true]; rw [show j = m by omega, pH]; omega
      · simp only [hj, if_false]; omega
  · rw [l2, m_ci_s, if_neg (by decide), m103 (by omega) q30, m_cv_s, m_cv_s] at e106
    rw [l1, m_ci_s, if_neg (fun z => z rfl), c3 d1 b2, m_cv_f]
    exact Pr.no (p := tp t a) (by omega) (by omega) (fun c => m_top (x := 85) (by omega) p31 b5 p33 (s85 e106) c) ((C1.mono (by simp) (by simp)).tr (Chg.i 30 _ (by simp))) (by simp [rI]) ((Chg.i 5 _ (by simp)).tr (Chg.i 6 _ (by simp))) (by simp [rI])
end Fac2
