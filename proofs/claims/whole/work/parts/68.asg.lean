/-! a new variable in both; assignments -/
def av (g : mG) (v x c : Nat) : mG := gI (gS (gS g 10 (upd (g.2.1 10) v (nI x))) 11 (upd (g.2.1 11) v (nI c))) 7 (nI (v + 1))
def am (g : mG) (v p l c : Nat) : mG := gI (gS (gS (gS g 40 (upd (g.2.1 40) v (nI p))) 41 (upd (g.2.1 41) v (nI l))) 42 (upd (g.2.1 42) v (nI (c + 1)))) 36 (nI (v + 1))
section Va
variable {n N s a D v q m h k y E R c z p l x : Nat} {t g gm gx : mG} {ht rk : Nat → Nat} {ho : Nat → Prop}
theorem av_c : Chg [7] [10, 11] g (av g v x c) := (Chg.s 10 _ (by simp)).tr ((Chg.s 11 _ (by simp)).tr (Chg.i 7 _ (by simp)))
theorem am_c : Chg [36] [40, 41, 42] g (am g v p l c) := (Chg.s 40 _ (by simp)).tr ((Chg.s 41 _ (by simp)).tr ((Chg.s 42 _ (by simp)).tr (Chg.i 36 _ (by simp))))
theorem av_7 : (av g v x c).1 7 = nI (v + 1) := by simp [av, rI]
theorem av_10 : (av g v x c).2.1 10 = upd (g.2.1 10) v (nI x) := by simp [av, rI2, rS]
theorem av_11 : (av g v x c).2.1 11 = upd (g.2.1 11) v (nI c) := by simp [av, rI2, rS]
theorem am_36 : (am g v p l c).1 36 = nI (v + 1) := by simp [am, rI]
theorem am_40 : (am g v p l c).2.1 40 = upd (g.2.1 40) v (nI p) := by simp [am, rI2, rS]
theorem am_41 : (am g v p l c).2.1 41 = upd (g.2.1 41) v (nI l) := by simp [am, rI2, rS]
theorem am_42 : (am g v p l c).2.1 42 = upd (g.2.1 42) v (nI (c + 1)) := by simp [am, rI2, rS]
theorem c10 (hv : v < 8) (h7 : g.1 7 = nI v) : f10 n (nI x) (nI c) g = some (.inl none, av g v x c) := by
  unfold f10 av
  rw [h7, if_neg (show ¬ (8 : Int32) ≤ nI v from nI_ge (a := v) (b := 8) hv (by decide)), if_neg (nI_in hv (by decide)), if_neg (nI_in hv (by decide)), nI_clamp (by omega), nI_1]
theorem m126 (hv : v < 8) (h36 : gm.1 36 = nI v) : f126 n (nI p) (nI l) (nI (c + 1)) gm = some (.inl none, am gm v p l c) := by
  unfold f126 am
  rw [h36, if_neg (nI_in hv (by decide)), if_neg (nI_in hv (by decide)), if_neg (nI_in hv (by decide)), nI_clamp (by omega), nI_1]
theorem NV.av (h : NV t g gm s v q) (hv : v < 8) (hx : x ≤ s) (hs : s ≤ 600) (hc : c ≤ 1) (hN : ∀ j, j < v → ¬ SN t (cl (g.2.1 10 j)) x) : NV t (av g v x c) (am gm v (tp t x) (tl t x) c) s (v + 1) q := by
  obtain ⟨h1, h2, h3, h4, h5, h6, ⟨h7, h7'⟩, h8, h9⟩ := h
  refine ⟨by omega, h2, av_7, am_36, by rw [av_c.1 13 (by simp)]; exact h5, by rw [am_c.1 35 (by simp)]; exact h6, ⟨fun i hi => ?_, fun i j hi hj => ?_⟩, ?_, fun i hi => ?_⟩
  · rw [av_10, am_40, am_41]
    by_cases hz : i = v
    · subst hz
      exact ⟨x, hx, upd_s, upd_s, upd_s⟩
    · rw [upd_o hz, upd_o hz, upd_o hz]
      exact h7 i (by omega)
  · rw [av_10]
    by_cases hz : j = v
    · subst hz
      rw [upd_s, upd_o (by omega)]
      have e : cl (nI x) = x := nI_clamp (by omega)
      rw [e]
      exact hN i hi
    · rw [upd_o (by omega), upd_o hz]
      exact h7' i j hi (by omega)
  · unfold NT at *
    rw [av_c.2.1 9 (by simp), am_c.2.1 36 (by simp), am_c.2.1 37 (by simp)]
    exact h8
  · rw [av_11, am_42]
    by_cases hz : i = v
    · subst hz
      exact ⟨c, hc, upd_s, upd_s⟩
    · rw [upd_o hz, upd_o hz]
      exact h9 i (by omega)
theorem RR.av (h : RR t g gm N s a D v q m ht rk ho) (hv : v < 8) (hx : x ≤ s) (hc : c ≤ 1) (hN : ∀ j, j < v → ¬ SN t (cl (g.2.1 10 j)) x) : RR t (av g v x c) (am gm v (tp t x) (tl t x) c) N s a D (v + 1) q m ht rk ho := by
  obtain ⟨b1, b2, b3, b4, b5, b6, b7, b8⟩ := h
  have c1 := av_c (g := g) (v := v) (x := x) (c := c)
  have c2 := am_c (g := gm) (v := v) (p := tp t x) (l := tl t x) (c := c)
  exact ⟨b1.kp (c1.mono (by simp) (by simp)) (c2.mono (by simp) (by simp)), b2, by rw [c1.1 5 (by simp)]; exact b3, b4.kp (fun x _ _ => c2.1 x (by simp; omega)), by rw [c2.1 30 (by simp)]; exact b5, by rw [c2.1 34 (by simp)]; exact b6, b7.av hv hx b1.s6 hc hN, b8.kp (c1.1 12 (by simp)) (c2.1 37 (by simp)) (fun x _ _ => c1.2.1 x (by simp; omega)) (fun x y => c2.2.1 x (by simp; omega))⟩
/-- both look the token's name up -/
theorem RR.lv (hn : 700 ≤ n) (hR : RR t g gm N s a D v q m ht rk ho) : (∃ i, i < v ∧ f9 n (nI a) g = some (.inl (some (.int (nI i))), g) ∧ f112 n (nI (tp t a)) (nI (tl t a)) gm = some (.inl (some (.int (nI i))), gm)) ∨
    (f9 n (nI a) g = some (.inl (some (.int (-1))), g) ∧ f112 n (nI (tp t a)) (nI (tl t a)) gm = some (.inl (some (.int (-1))), gm) ∧ ∀ j, j < v → ¬ SN t (cl (g.2.1 10 j)) a) := by
  obtain ⟨d1, d2, d3, d4, d5, d6, d7, d8⟩ := hR
  obtain ⟨v1, v2, v3, v4, v5, v6, v7, v8, v9⟩ := d7
  obtain ⟨t1, t2, t3, t4⟩ := d1.2.2.2.1.e
  have L := p_var (n := n) (N := N) (s := s) (x := a) hn (by rw [d1.2.2.2.1.2.1]; exact d1.2.2.1) d1.1 (d1.2.2.2.1.cut d1.2.1) d2 v1 v3 v4 (by rw [d1.2.2.2.2.2, d1.2.2.2.1.2.2.1]) (v7.nm d1.2.2.2.1)
  rw [t1, t3, t4] at L
  exact L
theorem RR.ln (hR : RR t g gm N s a D v q m ht rk ho) : gm.1 28 - gm.1 27 = nI (tl t a) := by
  obtain ⟨d1, d2, d3, d4, d5, d6, d7, d8⟩ := hR
  rw [d4.2.2.1, d4.2.1, pk_sub (by have := d1.2.1.tok d2; omega)]
  rfl
theorem s55 {b i : Nat} (hi : i < 8) (hk : k + 1 < 600) (hy : y < 400) (hm : m < 600) (hc : c ≤ 1) (hb : b ≤ 1) (hp : p < 2 ^ 31) (e32 : gx.1 32 = nI (k + 2)) (en1 : gx.2.1 34 (k + 1) = nI p) (en0 : gx.2.1 34 k = nI i) (e42 : gx.2.1 42 i = nI (b + 1)) (e33 : gx.1 33 = nI (y + 1)) (et : gx.2.1 35 y = nI (c + 1)) (e30 : gx.1 30 = -1) (e37 : gx.1 37 = nI m) :
    f101 n 55 gx = some (.inl none, en (mB (gI (gI gx 32 (nI (k + 1))) 32 (nI k)) y c b p) m 9 (nI i)) := by
  have i1 : (gI gx 32 (nI (k + 1))).1 32 = nI (k + 1) := by simp [rI]
  have i3 : (gI gx 32 (nI (k + 1))).2.1 34 k = nI i := en0
  have i4 : (gI (gI gx 32 (nI (k + 1))) 32 (nI k)).2.1 42 i = nI (b + 1) := e42
  have B := mB_1 (n := n) (gx := gI (gI gx 32 (nI (k + 1))) 32 (nI k)) (c := c) (z := b) (p := p) hy hc hb hp (by simp [rI, e33]) et (by simp [rI, e30])
  have i37 : (mB (gI (gI gx 32 (nI (k + 1))) 32 (nI k)) y c b p).1 37 = nI m := by rw [mB_c.1 37 (by simp)]; simp [rI, e37]
  unfold f101 f124
  simp (decide := true) only [reduceIte]
  rw [m115 hk e32, m_ci_s, en1, m115 (by omega) i1, m_ci_s, i3, if_neg (nI_in hi (by decide)), nI_clamp (by omega), i4, B, m_cv_s, m109 hm i37, m_cv_s, m_cv_s]
theorem p_assign {rc : mRec} (hn : 700 ≤ n) (hP : PS t g gm N s a D v q m ht rk ho h k y E R 0 52) (hmk : t.2.1 12 a = 2) (hX : HX n rc) :
    Pr n g gm E (f25 n rc (nI D) g) (QV (QS t g gm N s a D v q m ht rk ho h k y E R 1)) := by
  obtain ⟨hR, p33, ⟨p31, p32, py⟩, pH, pr, ph, p88, p17, pm, pD, pR, ph9, pk6, py4, pE⟩ := hP
  obtain ⟨b1, b2, b3, b4, b5, b6, b7, b8⟩ := id hR
  have hs := b1.s6
  have hp := b1.tp b2
  have hlt : a < s := b1.lt b2 hmk (by decide) (by decide)
  have kk : kd (t.2.1 12 a) = 1 := by rw [hmk]; decide
  obtain ⟨E, rfl⟩ : ∃ e, E = e + 1 := ⟨E - 1, by omega⟩
  have z26 : (gI gm 31 (nI h)).1 26 = 1 := by simp [rI, b4.1, kk]
  have e : f101 n 52 (gI gm 31 (nI h)) = some (.inl none, pus (gI gm 31 (nI h)) h [10, 55, 60, 11, 56]) := by
    unfold f101 f132 f135 f135_25
    rw [z26]
    simp (decide := true) only [reduceIte]
    rw [m108_2 (h := h) (by omega) (by simp [rI]) (by decide), m_cv_s, m108_3 (h := h + 2) (by omega) pu_h (by decide) (by decide), m_cv_s, m_cv_s, m_cv_s]
    rfl
  have C1 : Chg [31] [33] gm (pus (gI gm 31 (nI h)) h [10, 55, 60, 11, 56]) := (Chg.i 31 _ (by simp)).tr pus_c
  have v31 : (pus (gI gm 31 (nI h)) h [10, 55, 60, 11, 56]).1 31 = nI (h + 5) := pus_h (by simp [rI])
  have v4 : (pus (gI gm 31 (nI h)) h [10, 55, 60, 11, 56]).2.1 33 (h + 4) = 56 := pus_t (i := 4) rfl
  have v3 : (pus (gI gm 31 (nI h)) h [10, 55, 60, 11, 56]).2.1 33 (h + 3) = 11 := pus_t (i := 3) rfl
  have v2 : (pus (gI gm 31 (nI h)) h [10, 55, 60, 11, 56]).2.1 33 (h + 2) = 60 := pus_t (i := 2) rfl
  have v1 : (pus (gI gm 31 (nI h)) h [10, 55, 60, 11, 56]).2.1 33 (h + 1) = 55 := pus_t (i := 1) rfl
  have v0 : (pus (gI gm 31 (nI h)) h [10, 55, 60, 11, 56]).2.1 33 h = 10 := pus_t (i := 0) rfl
  have vo : ∀ i, i < h → (pus (gI gm 31 (nI h)) h [10, 55, 60, 11, 56]).2.1 33 i = gm.2.1 33 i := fun i hi => by rw [pus_o hi]; rfl
  have hts : ∀ c, f91_55 n (c + 1) gm = f91_55 n c (pus (gI gm 31 (nI h)) h [10, 55, 60, 11, 56]) := fun c => m_top (x := 52) (by omega) p31 b5 p33 e c
  clear e
  generalize pus (gI gm 31 (nI h)) h [10, 55, 60, 11, 56] = gm1 at C1 v31 v4 v3 v2 v1 v0 vo hts
  have R1 : RR t g gm1 N s a D v q m ht rk ho := hR.ks (C1.mono (by simp) (by simp))
  have R1 := R1.lc (rk' := fun i => if i < m then rk i else 0) (fun i hi => by simp [hi]) (by simp)
  refine Pr.turn hts (C1.mono (by simp) (by simp)) ?_
  have C1' : Chg [31] [] gm1 (gI gm1 31 (nI (h + 4))) := Chg.i 31 _ (by simp)
  have R1' := R1.ks (C1'.mono (by simp) (by simp))
  have L := R1'.lv hn
  have e56 : f101 n 56 (gI gm1 31 (nI (h + 4))) = m_cv (m_cv (m_ci (f112 n (nI (tp t a)) (nI (tl t a)) (gI gm1 31 (nI (h + 4)))) (fun v2 g1 => if 0 ≤ v2 then m_cv (f107 n v2 g1) (fun g6 => m_cv (f107 n (g6.1 27) g6) (fun g10 => m_cv (f92 n g10) (fun g14 => some (.inl none, g14)))) else m_cv (f103 n (g1.1 27) g1) (fun g18 => some (.inl none, g18)))) (fun g30 => some (.inl none, g30))) (fun g16 => some (.inl none, g16)) := by
    unfold f101 f124
    simp (decide := true) only [reduceIte]
    unfold f128
    rw [R1'.ln, R1'.2.2.2.1.2.1]
  unfold f25
  rw [b3]
  rcases L with ⟨i, hi, l1, l2⟩ | ⟨l1, l2, _⟩
  · have hv8 := b7.1
    have r1 : ¬ nI i = (-1 : Int32) := fun z => by
      have := nI_pos (n := i) (by omega)
      rw [z] at this; exact this (by decide)
    have j27 : (nt (gI gm1 31 (nI (h + 4))) k (nI i)).1 27 = nI (tp t a) := by rw [nt_c.1 27 (by simp)]; exact R1'.2.2.2.1.2.1
    have j32 : (gI gm1 31 (nI (h + 4))).1 32 = nI k := by rw [C1'.1 32 (by simp), C1.1 32 (by simp)]; exact p32
    have C2a : Chg [31, 32] [34] gm1 (nt (nt (gI gm1 31 (nI (h + 4))) k (nI i)) (k + 1) (nI (tp t a))) := (C1'.mono (by simp) (by simp)).tr ((nt_c.mono (by simp) (by simp)).tr (nt_c.mono (by simp) (by simp)))
    have R2a := R1.ks (C2a.mono (by simp) (by simp))
    obtain ⟨gm2, f1, f2, f3⟩ := m_adv (n := n) hn R2a.1 hlt R2a.2.2.2.1.2.2.1
    rw [l2, m_ci_s, if_pos (show (0 : Int32) ≤ nI i from nI_le (a := 0) (b := i) (Nat.zero_le _) (by omega)), m107 (by omega) j32, m_cv_s, j27, m107 (by omega) nt_h, m_cv_s, f1, m_cv_s, m_cv_s, m_cv_s] at e56
    have C2 : Chg [26, 27, 28, 29, 31, 32] [34] gm1 gm2 := (C2a.mono (by simp) (by simp)).tr (f3.mono (by simp) (by simp))
    have R2 : RR t (gI g 5 (nI (a + 1))) gm2 N s (a + 1) D v q m ht (fun i => if i < m then rk i else 0) ho := R1.kp (Chg.i 5 _ (by simp)) (C2.mono (by simp) (by simp)) (by simp [rI]) (by omega) f2 (by rw [C2.1 34 (by simp)]; exact R1.2.2.2.2.2.1)
    have w31 : gm2.1 31 = nI (h + 4) := by rw [f3.1 31 (by simp), nt_c.1 31 (by simp), nt_c.1 31 (by simp)]; simp [rI]
    have w32 : gm2.1 32 = nI (k + 2) := by rw [f3.1 32 (by simp)]; exact nt_h
    have u1 : gm2.2.1 34 (k + 1) = nI (tp t a) := by rw [f3.2.1 34 (by simp)]; exact nt_t
    have u0 : gm2.2.1 34 k = nI i := by rw [f3.2.1 34 (by simp), nt_o (by omega)]; exact nt_t
    have uo : ∀ j, j < k → gm2.2.1 34 j = gm.2.1 34 j := fun j hj => by rw [f3.2.1 34 (by simp), nt_o (by omega), nt_o hj, rI2, C1.2.1 34 (by simp)]
    rw [l1, m_ci_s, if_pos r1]
    unfold f25_21
    rw [b3, nI_1]
    obtain ⟨E, rfl⟩ : ∃ e, E = e + 1 := ⟨E - 1, by omega⟩
    refine Pr.turn (fun c => m_top (x := 56) (by omega) v31 R1.2.2.2.2.1 v4 e56 c) (C2.mono (by simp) (by simp)) (Pr.own (g1 := gI g 5 (nI (a + 1))) (Chg.i 5 _ (by simp)) ?_)
    refine Pr.cv (p_take (c := 11) (h := h + 3) hn R2.rt (by omega) w31 (by rw [C2.2.1 33 (by simp)]; exact v3) (by decide) (by decide) (by decide) (by decide) (by omega)) ?_
    rintro g3 gm3 E3 _ _ ⟨hE3, hlt3, rfl, x31, x34, xP, C3⟩
    have R3 := R2.kp (Chg.i 5 (nI (a + 1 + 1)) (by simp)) (C3.mono (by simp) (by simp)) (by simp [rI]) (by omega) xP x34
    have P3 : PE t (gI (gI g 5 (nI (a + 1))) 5 (nI (a + 1 + 1))) gm3 N s (a + 1 + 1) D v q m ht (fun i => if i < m then rk i else 0) ho (h + 2) (k + 2) y 0 E3 0 := ⟨R3, x31, by rw [C3.2.1 33 (by simp), C2.2.1 33 (by simp), v2]; rfl, by rw [C3.1 32 (by simp), w32], by rw [C3.1 33 (by simp), C2.1 33 (by simp), C1.1 33 (by simp), py], pH, fun i hi => by simp only [show ¬ i < m by omega, if_false], ph, by omega, by omega, by omega, by omega, by omega, by omega, by omega⟩
    refine Pr.ci (hX _ _ _ _ _ _ _ _ _ _ _ _ _ _ _ _ _ _ P3) ?_
    rintro x g4 gm4 E4 _ _ ⟨a4, m4, ht4, c, rfl, hc, R4, ⟨y31, y32, y33⟩, F4, yt, A4, D4, M4, t1, t2, t3, t4, t5, t6⟩
    have ha4 := R4.2.1
    have hm4 : m4 < 600 := by omega
    have g30 : gm4.1 30 = -1 := R4.2.2.2.2.1
    have g37 : gm4.1 37 = nI m4 := R4.2.2.2.2.2.2.2.2.1
    have g33h : gm4.2.1 33 (h + 1) = 55 := by rw [F4.1 (h + 1) (by omega), C3.2.1 33 (by simp), C2.2.1 33 (by simp)]; exact v1
    obtain ⟨b, hb, w11, w42⟩ := R4.2.2.2.2.2.2.1.2.2.2.2.2.2.2.2 i hi
    have w7 := R4.2.2.2.2.2.2.1.2.2.1
    have e := s55 (n := n) (b := b) (i := i) (gx := gI gm4 31 (nI (h + 1))) (p := tp t a) (c := c) (m := m4) (y := y) (k := k) (by omega) (by omega) (by omega) hm4 hc hb (by omega) (by simp [rI, y32]) (by rw [rI2, F4.2.1 (k + 1) (by omega), C3.2.1 34 (by simp)]; exact u1) (by rw [rI2, F4.2.1 k (by omega), C3.2.1 34 (by simp)]; exact u0) (by rw [rI2]; exact w42) (by simp [rI, y33]) (by rw [rI2]; exact yt) (by simp [rI, g30]) (by simp [rI, g37])
    have e21 : f21 n (nI i) g4 = some (.inl (some (.int (nI b))), g4) := by
      unfold f21
      rw [if_neg (nI_pos (by omega)), w7, if_neg (nI_ge (by omega) (by omega)), if_neg (nI_in (by omega) (by decide)), nI_clamp (by omega), w11]
    rw [e21, m_ci_s]
    refine p_must (x := 55) (h := h + 1) hc hb R4.1 b2 (by omega) y31 g30 g33h (by omega) (fun hcz => ⟨_, e, by rw [en_c.1 30 (by simp)]; exact mB_no hcz, (Chg.i 32 _ (by simp)).tr ((Chg.i 32 _ (by simp)).tr ((mB_c.mono (by simp) (by simp)).tr (en_c.mono (by simp) (by simp))))⟩) (fun hcz => ?_)
    have Cx : Chg [31, 32, 33] [] gm4 (mB (gI (gI (gI gm4 31 (nI (h + 1))) 32 (nI (k + 1))) 32 (nI k)) y c b (tp t a)) := (Chg.i 31 _ (by simp)).tr ((Chg.i 32 _ (by simp)).tr ((Chg.i 32 _ (by simp)).tr ((mB_e hcz).mono (by simp) (by simp))))
    have x31 : (mB (gI (gI (gI gm4 31 (nI (h + 1))) 32 (nI (k + 1))) 32 (nI k)) y c b (tp t a)).1 31 = nI (h + 1) := by rw [mB_c.1 31 (by simp)]; simp [rI]
    have x32 : (mB (gI (gI (gI gm4 31 (nI (h + 1))) 32 (nI (k + 1))) 32 (nI k)) y c b (tp t a)).1 32 = nI k := by rw [mB_c.1 32 (by simp)]; simp [rI]
    have x33 : (mB (gI (gI (gI gm4 31 (nI (h + 1))) 32 (nI (k + 1))) 32 (nI k)) y c b (tp t a)).1 33 = nI y := mB_33
    generalize mB (gI (gI (gI gm4 31 (nI (h + 1))) 32 (nI (k + 1))) 32 (nI k)) y c b (tp t a) = gx at e Cx x31 x32 x33
    have R5 := R4.ks (Cx.mono (by simp) (by simp))
    obtain ⟨E4, rfl⟩ : ∃ e, E4 = e + 1 := ⟨E4 - 1, by omega⟩
    refine Pr.turn (fun c => m_top (x := 55) (by omega) y31 g30 g33h e c) ((Cx.mono (by simp) (by simp)).tr (en_c.mono (by simp) (by simp))) ?_
    have l0 : lv 0 = 3 := rfl
    have tm : m4 ≤ m4 := Nat.le_refl _
    have tm1 : ¬ m4 + 1 ≤ m4 := by omega
    refine p_fin (n := n) (a := a) (E := E + 1 + 1) (R := R) (ht := ht) (rk := rk) (gx := gx) hn R5 hm4 x31 ?_ x32 x33 (by omega) ?_ ⟨fun i hi => ?_, fun i hi => ?_, fun i hi => ?_⟩ (fun i hi => ?_) t1 (by omega) (fun i hi => ?_) (fun i hi => by simp [hi]) (fun i hi => ?_) pR (by omega) (by omega) (by omega) (by omega)
    · rw [Cx.2.1 33 (by simp), F4.1 h (by omega), C3.2.1 33 (by simp), C2.2.1 33 (by simp)]; exact v0
    · exact Or.inr (Or.inr (Or.inl ⟨rfl, rfl, rfl, ⟨i, by omega, rfl⟩, by omega, by simp only [tm, tm1, if_true, if_false, t2]⟩))
    · rw [Cx.2.1 33 (by simp), F4.1 i (by omega), C3.2.1 33 (by simp), C2.2.1 33 (by simp)]; exact vo i hi
    · rw [Cx.2.1 34 (by simp), F4.2.1 i (by omega), C3.2.1 34 (by simp)]; exact uo i hi
    · rw [Cx.2.1 35 (by simp), F4.2.2 i hi, C3.2.1 35 (by simp), C2.2.1 35 (by simp), C1.2.1 35 (by simp)]
    · obtain ⟨x1, x2, x3, x4⟩ := A4 i hi
      exact ⟨x1, x2, by rw [Cx.2.1 43 (by simp), x3, C3.2.1 43 (by simp), C2.2.1 43 (by simp), C1.2.1 43 (by simp)], by rw [Cx.2.1 44 (by simp), x4, C3.2.1 44 (by simp), C2.2.1 44 (by simp), C1.2.1 44 (by simp)]⟩
    · by_cases hm : i < m
      · rw [t1 i (by omega)]; exact p88 i
      · have := t3 i (by omega) hi; omega
    · by_cases hm : i < m
      · simp only [hm, if_true]; exact p17 i
      · simp only [hm, if_false]; omega
  · have g27 : (gI gm1 31 (nI (h + 4))).1 27 = nI (tp t a) := R1'.2.2.2.1.2.1
    rw [l2, m_ci_s, if_neg (by decide), g27, m103 (by omega) R1'.2.2.2.2.1, m_cv_s, m_cv_s, m_cv_s] at e56
    rw [l1, m_ci_s, if_neg (fun z => z rfl), c3 b1 b2, m_cv_f]
    exact Pr.no (p := tp t a) (by omega) (by omega) (fun c => m_top (x := 56) (by omega) v31 R1.2.2.2.2.1 v4 e56 c) ((Chg.i 31 _ (by simp)).tr (Chg.i 30 _ (by simp))) (by simp [rI]) (Chg.i 6 _ (by simp)) (by simp [rI])
end Va
