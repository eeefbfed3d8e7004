/-! an instruction that ends a part; factors with a sign -/
section Sgn
variable {n N s a D D' v q m h k y H E : Nat} {t g gm : mG} {ht rk : Nat → Nat} {ho : Nat → Prop}
/-- an instruction and a type -/
theorem fin_add {gx : mG} {ht' : Nat → Nat} {mk ar st pt w : Int32} (hR : RR t g gm N s a D' v q m ht rk ho) (C : Chg [31, 32, 33, 34] [] gm gx) (h34 : gx.1 34 = nI D) (hm : m < 600) (h1 : ∀ i, i ≤ m → ht' i = ht i) (hl : LC (g.2.1 20) (m + 2) q ht' rk m mk ar st pt) : RR t (em g m mk ar) (ty (en gx m st pt) y w) N s a D v q (m + 1) ht' rk ho := by
  have R1 : RR t g gx N s a D v q m ht rk ho := hR.kp (Chg.rf _) (C.mono (by simp) (by simp)) hR.2.2.1 hR.2.1 (hR.2.2.2.1.kp (fun x _ _ => C.1 x (by simp; omega))) h34
  have R2 := R1.add hm h1 (fun i _ z => z) (Or.inr hl)
  exact R2.kp (Chg.rf _) (ty_c.mono (by simp) (by simp)) R2.2.2.1 R2.2.1 (R2.2.2.2.1.kp (fun x _ _ => ty_c.1 x (by simp; omega))) (by rw [ty_c.1 34 (by simp)]; exact R2.2.2.2.2.2.1)
theorem m116 {gx : mG} {c z p : Nat} (hy : y < 400) (hc : c ≤ 1) (hz : z ≤ 1) (hp : p < 2 ^ 31) (e33 : gx.1 33 = nI (y + 1)) (et : gx.2.1 35 y = nI (c + 1)) (e30 : gx.1 30 = -1) : f116 n (nI (z + 1)) (nI p) gx = some (.inl none, if c = z then gI gx 33 (nI y) else gI (gI gx 33 (nI y)) 30 (nI p)) := by
  unfold f116
  rw [m117 hy e33, m_ci_s, et]
  by_cases h : c = z
  · rw [if_pos h, if_pos (by rw [h])]
  · rw [if_neg h, if_neg (fun w => h (by have := (nI_eq (a := c + 1) (b := z + 1) (by omega) (by omega)).mp w; omega)), m103 hp (by simp [rI, e30]), m_cv_s]
theorem m105_83 {gx : mG} {c z p : Nat} {kn : Int32} (hkn : (z = 0 ∧ kn = 17) ∨ (z = 1 ∧ kn = 21)) (hy : y < 400) (hm : m < 600) (hc : c ≤ 1) (hp : p < 2 ^ 31) (e33 : gx.1 33 = nI (y + 1)) (et : gx.2.1 35 y = nI (c + 1)) (e30 : gx.1 30 = -1) (e37 : gx.1 37 = nI m) : f105_83 n (nI p) kn (nI (z + 1)) gx = some (.inl none, ty (en (if c = z then gI gx 33 (nI y) else gI (gI gx 33 (nI y)) 30 (nI p)) m 3 kn) y (nI (z + 1))) := by
  have hz : z ≤ 1 := by omega
  unfold f105_83
  rw [m116 hy hc hz hp e33 et e30, m_cv_s]
  have i37 : (if c = z then gI gx 33 (nI y) else gI (gI gx 33 (nI y)) 30 (nI p)).1 37 = nI m := by
    by_cases h : c = z
    · rw [if_pos h]; simp [rI, e37]
    · rw [if_neg h]; simp [rI, e37]
  have i33 : (if c = z then gI gx 33 (nI y) else gI (gI gx 33 (nI y)) 30 (nI p)).1 33 = nI y := by
    by_cases h : c = z
    · rw [if_pos h]; simp [rI]
    · rw [if_neg h]; simp [rI]
  rw [m109 hm i37, m_cv_s]
  unfold f105_105
  have j33 := (en_c (g := (if c = z then gI gx 33 (nI y) else gI (gI gx 33 (nI y)) 30 (nI p))) (m := m) (mk := 3) (ar := kn)).1 33 (by simp)
  rw [i33] at j33
  rcases hkn with ⟨rfl, rfl⟩ | ⟨rfl, rfl⟩
  · rw [if_neg (by decide), show (1 : Int32) = nI (0 + 1) from rfl, m110 hy j33, m_cv_s]
  · rw [if_pos (by decide), show (2 : Int32) = nI (1 + 1) from rfl, m110 hy j33, m_cv_s]
theorem s86 {gx : mG} {c p z : Nat} {kn : Int32} (hkn : (z = 0 ∧ kn = 17) ∨ (z = 1 ∧ kn = 21)) (hk : k + 1 < 600) (hy : y < 400) (hm : m < 600) (e32 : gx.1 32 = nI (k + 2)) (en1 : gx.2.1 34 (k + 1) = nI p) (en0 : gx.2.1 34 k = kn) (e33 : gx.1 33 = nI (y + 1)) (et : gx.2.1 35 y = nI (c + 1)) (hc : c ≤ 1) (e34 : gx.1 34 = nI (D + 1)) (e30 : gx.1 30 = -1) (e37 : gx.1 37 = nI m) (hp : p < 2 ^ 31) :
    f101 n 86 gx = some (.inl none, ty (en (if c = z then gI (gI (gI (gI gx 32 (nI (k + 1))) 32 (nI k)) 34 (nI D)) 33 (nI y) else gI (gI (gI (gI (gI gx 32 (nI (k + 1))) 32 (nI k)) 34 (nI D)) 33 (nI y)) 30 (nI p)) m 3 kn) y (nI (z + 1))) := by
  have i1 : (gI gx 32 (nI (k + 1))).1 32 = nI (k + 1) := by simp [rI]
  have i2 : (gI (gI gx 32 (nI (k + 1))) 32 (nI k)).1 34 = nI (D + 1) := by simp [rI, e34]
  have i3 : (gI gx 32 (nI (k + 1))).2.1 34 k = kn := en0
  have B := m105_83 (n := n) (gx := gI (gI (gI gx 32 (nI (k + 1))) 32 (nI k)) 34 (nI D)) hkn hy hm hc hp (by simp [rI, e33]) et (by simp [rI, e30]) (by simp [rI, e37])
  unfold f101 f105
  simp (decide := true) only [reduceIte]
  rw [m115 (by omega) e32, m_ci_s, en1, m115 (by omega) i1, m_ci_s, i3, i2, nI_pred]
  rcases hkn with ⟨rfl, rfl⟩ | ⟨rfl, rfl⟩
  · rw [if_neg (by decide), show (1 : Int32) = nI (0 + 1) from rfl, B, m_cv_s]
  · rw [if_pos (by decide), show (2 : Int32) = nI (1 + 1) from rfl, B, m_cv_s]
/-- a factor with a sign before it -/
theorem p_sign {rc : mRec} {z : Nat} {kn mk : Int32} (hn : 700 ≤ n) (hkn : (z = 0 ∧ kn = 17 ∧ mk = 37) ∨ (z = 1 ∧ kn = 21 ∧ mk = 22)) (hP : PE t g gm N s a D v q m ht rk ho h k y H E 5) (hmk : t.2.1 12 a = kn + 1)
    (ih : ∀ (g gm : mG) (a h k y E : Nat), D + 1 ≤ 16 → PE t g gm N s a (D + 1) v q m ht rk ho h k y H E 5 → Pr n g gm E (rc 16 (nI (D + 1)) 0 0 g) (QI (QE t g gm N s a (D + 1) v q m ht rk ho h k y H E 5))) :
    Pr n g gm E (f17 n rc (nI z) mk (nI D) g) (QI (QE t g gm N s a D v q m ht rk ho h k y H E 5)) := by
  obtain ⟨hR, p31, p33, p32, py, pH, pr, ph, pm, pD, _, ph9, pk6, py4, pE⟩ := hP
  obtain ⟨b1, b2, b3, b4, b5, b6, b7, b8⟩ := id hR
  have hs := b1.s6
  have hp := b1.tp b2
  have hz : z ≤ 1 := by omega
  have hkn' : (z = 0 ∧ kn = 17) ∨ (z = 1 ∧ kn = 21) := by rcases hkn with ⟨x1, x2, _⟩ | ⟨x1, x2, _⟩ <;> simp [x1, x2]
  have k0 : kn ≠ 0 := by rcases hkn' with ⟨_, rfl⟩ | ⟨_, rfl⟩ <;> decide
  have k1 : kn ≠ 35 := by rcases hkn' with ⟨_, rfl⟩ | ⟨_, rfl⟩ <;> decide
  have k2 : kn ≠ -1 := by rcases hkn' with ⟨_, rfl⟩ | ⟨_, rfl⟩ <;> decide
  have kk : kd (t.2.1 12 a) = kn := (kd_iff k0 k1 k2).mpr hmk
  obtain ⟨E, rfl⟩ : ∃ e, E = e + 1 := ⟨E - 1, by omega⟩
  have z26 : (gI gm 31 (nI h)).1 26 = kn := by simp [rI, b4.1, kk]
  have e : f106 n (gI gm 31 (nI h)) = some (.inl none, pu (pu (pu (nt (nt (gI gm 31 (nI h)) k kn) (k + 1) (nI (tp t a))) h 86) (h + 1) 85) (h + 2) (200 + kn)) := by
    have i32 : (gI gm 31 (nI h)).1 32 = nI k := by simp [rI, p32]
    have i27 : (nt (gI gm 31 (nI h)) k kn).1 27 = nI (tp t a) := by rw [nt_c.1 27 (by simp)]; simp [rI, b4.2.1]
    have i26 : (nt (nt (gI gm 31 (nI h)) k kn) (k + 1) (nI (tp t a))).1 26 = kn := by rw [nt_c.1 26 (by simp), nt_c.1 26 (by simp)]; exact z26
    have i31 : (nt (nt (gI gm 31 (nI h)) k kn) (k + 1) (nI (tp t a))).1 31 = nI h := by rw [nt_c.1 31 (by simp), nt_c.1 31 (by simp)]; simp [rI]
    unfold f106
    rw [z26]
    rcases hkn' with ⟨_, rfl⟩ | ⟨_, rfl⟩ <;> simp (decide := true) only [reduceIte] <;> rw [m107 (by omega) i32, m_cv_s, i27, m107 (by omega) nt_h, m_cv_s, i26, m108_3 (by omega) i31 (by decide) (by decide), m_cv_s]
  have C1 : Chg [31, 32] [33, 34] gm (pu (pu (pu (nt (nt (gI gm 31 (nI h)) k kn) (k + 1) (nI (tp t a))) h 86) (h + 1) 85) (h + 2) (200 + kn)) := (Chg.i 31 _ (by simp)).tr ((nt_c.mono (by simp) (by simp)).tr ((nt_c.mono (by simp) (by simp)).tr ((pu_c.mono (by simp) (by simp)).tr ((pu_c.mono (by simp) (by simp)).tr (pu_c.mono (by simp) (by simp))))))
  have v31 := pu_h (gm := pu (pu (nt (nt (gI gm 31 (nI h)) k kn) (k + 1) (nI (tp t a))) h 86) (h + 1) 85) (h := h + 2) (x := 200 + kn)
  have v2 := pu_t (gm := pu (pu (nt (nt (gI gm 31 (nI h)) k kn) (k + 1) (nI (tp t a))) h 86) (h + 1) 85) (h := h + 2) (x := 200 + kn)
  have v1 : (pu (pu (pu (nt (nt (gI gm 31 (nI h)) k kn) (k + 1) (nI (tp t a))) h 86) (h + 1) 85) (h + 2) (200 + kn)).2.1 33 (h + 1) = 85 := by rw [pu_o (by omega)]; exact pu_t
  have v0 : (pu (pu (pu (nt (nt (gI gm 31 (nI h)) k kn) (k + 1) (nI (tp t a))) h 86) (h + 1) 85) (h + 2) (200 + kn)).2.1 33 h = 86 := by rw [pu_o (by omega), pu_o (by omega)]; exact pu_t
  have vo : ∀ i, i < h → (pu (pu (pu (nt (nt (gI gm 31 (nI h)) k kn) (k + 1) (nI (tp t a))) h 86) (h + 1) 85) (h + 2) (200 + kn)).2.1 33 i = gm.2.1 33 i := fun i hi => by rw [pu_o (by omega), pu_o (by omega), pu_o hi, nt_c.2.1 33 (by simp), nt_c.2.1 33 (by simp)]; rfl
  have u1 : (pu (pu (pu (nt (nt (gI gm 31 (nI h)) k kn) (k + 1) (nI (tp t a))) h 86) (h + 1) 85) (h + 2) (200 + kn)).2.1 34 (k + 1) = nI (tp t a) := by rw [pu_c.2.1 34 (by simp), pu_c.2.1 34 (by simp), pu_c.2.1 34 (by simp)]; exact nt_t
  have u0 : (pu (pu (pu (nt (nt (gI gm 31 (nI h)) k kn) (k + 1) (nI (tp t a))) h 86) (h + 1) 85) (h + 2) (200 + kn)).2.1 34 k = kn := by rw [pu_c.2.1 34 (by simp), pu_c.2.1 34 (by simp), pu_c.2.1 34 (by simp), nt_o (by omega)]; exact nt_t
  have uo : ∀ i, i < k → (pu (pu (pu (nt (nt (gI gm 31 (nI h)) k kn) (k + 1) (nI (tp t a))) h 86) (h + 1) 85) (h + 2) (200 + kn)).2.1 34 i = gm.2.1 34 i := fun i hi => by rw [pu_c.2.1 34 (by simp), pu_c.2.1 34 (by simp), pu_c.2.1 34 (by simp), nt_o (by omega), nt_o hi]; rfl
  have v32 : (pu (pu (pu (nt (nt (gI gm 31 (nI h)) k kn) (k + 1) (nI (tp t a))) h 86) (h + 1) 85) (h + 2) (200 + kn)).1 32 = nI (k + 2) := by rw [pu_c.1 32 (by simp), pu_c.1 32 (by simp), pu_c.1 32 (by simp)]; exact nt_h
  have hts : ∀ c, f91_55 n (c + 1) gm = f91_55 n c (pu (pu (pu (nt (nt (gI gm 31 (nI h)) k kn) (k + 1) (nI (tp t a))) h 86) (h + 1) 85) (h + 2) (200 + kn)) := fun c => m_top (x := 85) (by omega) p31 b5 p33 (s85 e) c
  clear e
  generalize pu (pu (pu (nt (nt (gI gm 31 (nI h)) k kn) (k + 1) (nI (tp t a))) h 86) (h + 1) 85) (h + 2) (200 + kn) = gm1 at C1 v31 v2 v1 v0 vo u1 u0 uo v32 hts
  have R1 : RR t g gm1 N s a D v q m ht rk ho := hR.kp (Chg.rf _) (C1.mono (by simp) (by simp)) b3 b2 (b4.kp (fun x _ _ => C1.1 x (by simp; omega))) (by rw [C1.1 34 (by simp)]; exact b6)
  refine Pr.turn hts (C1.mono (by simp) (by simp)) ?_
  unfold f17
  rw [c1 b1 b2 b3, m_ci_s, hmk]
  refine Pr.ci (p_open (h := h + 2) hn R1.rt pD (by omega) v31 v2 k0 k1 k2 (by rcases hkn' with ⟨_, rfl⟩ | ⟨_, rfl⟩ <;> decide) (by rcases hkn' with ⟨_, rfl⟩ | ⟨_, rfl⟩ <;> decide) (by rcases hkn' with ⟨_, rfl⟩ | ⟨_, rfl⟩ <;> decide) (by rcases hkn' with ⟨_, rfl⟩ | ⟨_, rfl⟩ <;> decide) (by omega)) ?_
  rintro x g2 gm2 E2 _ _ ⟨rfl, hD, hE2, hlt, rfl, w31, w34, wP, C2⟩
  have R2 : RR t (gI g 5 (nI (a + 1))) gm2 N s (a + 1) (D + 1) v q m ht rk ho := R1.kp (Chg.i 5 _ (by simp)) (C2.mono (by simp) (by simp)) (by simp [rI]) (by omega) wP w34
  have P2 : PE t (gI g 5 (nI (a + 1))) gm2 N s (a + 1) (D + 1) v q m ht rk ho (h + 1) (k + 2) y H E2 5 := ⟨R2, w31, by rw [C2.2.1 33 (by simp), v1]; rfl, by rw [C2.1 32 (by simp), v32], by rw [C2.1 33 (by simp), C1.1 33 (by simp), py], pH, pr, ph, by omega, by omega, by omega, by omega, by omega, by omega, by omega⟩
  refine Pr.ci (ih _ _ _ _ _ _ _ (by omega) P2) ?_
  rintro x g3 gm3 E3 _ _ ⟨a3, m3, ht3, c, rfl, hc, R3, ⟨y31, y32, y33⟩, F3, yt, A3, D3, M3, t1, t2, t3, t4, t5, t6⟩
  have hm3 : m3 < 600 := by have := R3.2.1; omega
  have g34 : gm3.1 34 = nI (D + 1) := R3.2.2.2.2.2.1
  have g30 : gm3.1 30 = -1 := R3.2.2.2.2.1
  have g37 : gm3.1 37 = nI m3 := R3.2.2.2.2.2.2.2.2.1
  have g33h : gm3.2.1 33 h = 86 := by rw [F3.1 h (by omega), C2.2.1 33 (by simp)]; exact v0
  have e := s86 (n := n) (gx := gI gm3 31 (nI h)) (p := tp t a) (c := c) (m := m3) (y := y) (k := k) (D := D) hkn' (by omega) (by omega) hm3 (by simp [rI, y32]) (by rw [rI2, F3.2.1 (k + 1) (by omega), C2.2.1 34 (by simp)]; exact u1) (by rw [rI2, F3.2.1 k (by omega), C2.2.1 34 (by simp)]; exact u0) (by simp [rI, y33]) (by rw [rI2]; exact yt) hc (by simp [rI, g34]) (by simp [rI, g30]) (by simp [rI, g37]) (by omega)
  unfold f18
  by_cases hcz : c = z
  · subst hcz
    rw [if_pos rfl] at e
    rw [if_pos rfl, m_cv_s, c34 hm3 R3.2.2.2.2.2.2.2.1, m_ci_s]
    have Cx : Chg [31, 32, 33, 34] [] gm3 (gI (gI (gI (gI (gI gm3 31 (nI h)) 32 (nI (k + 1))) 32 (nI k)) 34 (nI D)) 33 (nI y)) := (Chg.i 31 _ (by simp)).tr ((Chg.i 32 _ (by simp)).tr ((Chg.i 32 _ (by simp)).tr ((Chg.i 34 _ (by simp)).tr (Chg.i 33 _ (by simp)))))
    have x31 : (gI (gI (gI (gI (gI gm3 31 (nI h)) 32 (nI (k + 1))) 32 (nI k)) 34 (nI D)) 33 (nI y)).1 31 = nI h := by simp [rI]
    have x32 : (gI (gI (gI (gI (gI gm3 31 (nI h)) 32 (nI (k + 1))) 32 (nI k)) 34 (nI D)) 33 (nI y)).1 32 = nI k := by simp [rI]
    have x34 : (gI (gI (gI (gI (gI gm3 31 (nI h)) 32 (nI (k + 1))) 32 (nI k)) 34 (nI D)) 33 (nI y)).1 34 = nI D := by simp [rI]
    generalize gI (gI (gI (gI (gI gm3 31 (nI h)) 32 (nI (k + 1))) 32 (nI k)) 34 (nI D)) 33 (nI y) = gx at e Cx x31 x32 x34
    have hl : LC (g3.2.1 20) (m3 + 2) q (fun i => if i ≤ m3 then ht3 i else H + 1) rk m3 mk 0 3 kn := by
      rcases hkn with ⟨_, rfl, rfl⟩ | ⟨_, rfl, rfl⟩
      · exact Or.inr (Or.inr (Or.inr (Or.inl ⟨rfl, rfl, rfl, by omega, by simp [t2], by simp [t2]; intro z; omega⟩)))
      · exact Or.inr (Or.inr (Or.inr (Or.inr (Or.inl ⟨rfl, rfl, rfl, by omega, by simp [t2], by simp [t2]; intro z; omega⟩))))
    have R4 := fin_add (D := D) (y := y) (w := nI (c + 1)) R3 Cx x34 hm3 (fun i hi => by simp [hi]) hl
    have CT : Chg [31, 32, 33, 34, 37] [35, 43, 44] gm3 (ty (en gx m3 3 kn) y (nI (c + 1))) := (Cx.mono (by simp) (by simp)).tr ((en_c.mono (by simp) (by simp)).tr (ty_c.mono (by simp) (by simp)))
    have Cm : Chg [26, 27, 28, 29, 30, 31, 32, 33, 34, 37] [33, 34, 35, 43, 44] gm (ty (en gx m3 3 kn) y (nI (c + 1))) := (C1.mono (by simp) (by simp)).tr ((C2.mono (by simp) (by simp)).tr (M3.tr (CT.mono (by simp) (by simp))))
    have Cg : Chg [5, 6, 12] [17, 18] g (em g3 m3 mk 0) := (Chg.i 5 _ (by simp)).tr (D3.tr (em_c.mono (by simp) (by simp)))
    have ha3 := R3.2.1
    have l5 : lv 5 = 0 := rfl
    refine Or.inl ⟨_, _, _, 1, rfl, fun c => m_top (x := 86) (by omega) y31 g30 g33h e c, by omega, em_c.mono (by simp) (by simp), CT.mono (by simp) (by simp), nI c, rfl, a3, m3 + 1, _, c, rfl, hc, R4, ⟨?_, ?_, ty_h⟩, ⟨fun i hi => ?_, fun i hi => ?_, fun i hi => ?_⟩, ty_t, fun i hi => ?_, Cg, Cm, fun i hi => ?_, by simp; intro z; omega, fun i h1 h2 => ?_, by omega, by omega, by omega⟩
    · rw [ty_c.1 31 (by simp), en_c.1 31 (by simp)]; exact x31
    · rw [ty_c.1 32 (by simp), en_c.1 32 (by simp)]; exact x32
    · rw [CT.2.1 33 (by simp), F3.1 i (by omega), C2.2.1 33 (by simp)]; exact vo i hi
    · rw [CT.2.1 34 (by simp), F3.2.1 i (by omega), C2.2.1 34 (by simp)]; exact uo i hi
    · rw [ty_o hi, en_c.2.1 35 (by simp), Cx.2.1 35 (by simp), F3.2.2 i hi, C2.2.1 35 (by simp), C1.2.1 35 (by simp)]
    · obtain ⟨x1, x2, x3, x4⟩ := A3 i hi
      refine ⟨?_, ?_, ?_, ?_⟩
      · rw [em_17, upd_o (by omega), x1]; rfl
      · rw [em_18, upd_o (by omega), x2]; rfl
      · rw [ty_c.2.1 43 (by simp), en_43, upd_o (by omega), Cx.2.1 43 (by simp), x3, C2.2.1 43 (by simp), C1.2.1 43 (by simp)]
      · rw [ty_c.2.1 44 (by simp), en_44, upd_o (by omega), Cx.2.1 44 (by simp), x4, C2.2.1 44 (by simp), C1.2.1 44 (by simp)]
    · simp only [show i ≤ m3 by omega, if_true]; exact t1 i hi
    · by_cases hi : i ≤ m3
      · simp only [hi, if_true]; have := t3 i h1 hi; omega
      · simp only [hi, if_false]; omega
  · have ha3 := R3.2.1
    rw [if_neg hcz] at e
    have hne : ¬ nI c = nI z := fun w => hcz ((nI_eq (by omega) (by omega)).mp w)
    rw [if_neg hne, b3, c3 R3.1 b2, m_cv_f, m_cv_f]
    refine Pr.no (p := tp t a) (by omega) (by omega) (fun c => m_top (x := 86) (by omega) y31 g30 g33h e c) ?_ ?_ (Chg.i 6 _ (by simp)) (by simp [rI])
    · exact (Chg.i 31 _ (by simp)).tr ((Chg.i 32 _ (by simp)).tr ((Chg.i 32 _ (by simp)).tr ((Chg.i 34 _ (by simp)).tr ((Chg.i 33 _ (by simp)).tr ((Chg.i 30 _ (by simp)).tr ((en_c.mono (by simp) (by simp)).tr (ty_c.mono (by simp) (by simp))))))))
    · rw [ty_c.1 30 (by simp), en_c.1 30 (by simp)]; simp [rI]
end Sgn
