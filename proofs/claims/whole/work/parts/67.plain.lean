/-! return and require -/
section Pl
variable {n N s a D v q m h k y E R c z p : Nat} {t g gm gx : mG} {ht rk : Nat → Nat} {ho : Nat → Prop}
theorem s_st {sm st : Int32} (hx : (sm = 57 ∧ st = 10 ∧ z = 0) ∨ (sm = 64 ∧ st = 13 ∧ z = 0) ∨ (sm = 65 ∧ st = 14 ∧ z = 1)) (hk : k < 600) (hy : y < 400) (hm : m < 600) (hc : c ≤ 1) (hp : p < 2 ^ 31) (e32 : gx.1 32 = nI (k + 1)) (en0 : gx.2.1 34 k = nI p) (e33 : gx.1 33 = nI (y + 1)) (et : gx.2.1 35 y = nI (c + 1)) (e30 : gx.1 30 = -1) (e37 : gx.1 37 = nI m) :
    f101 n sm gx = some (.inl none, en (mB (gI gx 32 (nI k)) y c z p) m st 0) := by
  have hz : z ≤ 1 := by omega
  have B := mB_1 (n := n) (gx := gI gx 32 (nI k)) (c := c) (z := z) (p := p) hy hc hz hp (by simp [rI, e33]) et (by simp [rI, e30])
  have i37 : (mB (gI gx 32 (nI k)) y c z p).1 37 = nI m := by rw [mB_c.1 37 (by simp)]; simp [rI, e37]
  unfold f101 f124
  rcases hx with ⟨rfl, rfl, rfl⟩ | ⟨rfl, rfl, rfl⟩ | ⟨rfl, rfl, rfl⟩
  · simp (decide := true) only [reduceIte]
    rw [m115 hk e32, m_ci_s, en0, show (1 : Int32) = nI (0 + 1) from rfl, B, m_cv_s, m109 hm i37, m_cv_s, m_cv_s]
  · simp (decide := true) only [reduceIte]
    rw [m115 hk e32, m_ci_s, en0, show (1 : Int32) = nI (0 + 1) from rfl, B, m_cv_s, m109 hm i37, m_cv_s, m_cv_s]
  · simp (decide := true) only [reduceIte]
    rw [m115 hk e32, m_ci_s, en0, show (2 : Int32) = nI (1 + 1) from rfl, B, m_cv_s, m109 hm i37, m_cv_s, m_cv_s]
theorem p_plain {rc : mRec} {kn sm st : Int32} (hn : 700 ≤ n) (hx : (z = 0 ∧ kn = 31 ∧ sm = 64 ∧ st = 13) ∨ (z = 1 ∧ kn = 32 ∧ sm = 65 ∧ st = 14)) (hP : PS t g gm N s a D v q m ht rk ho h k y E R 0 52) (hmk : t.2.1 12 a = kn + 1) (hX : HX n rc) :
    Pr n g gm E (f30 n rc (nI z) (nI D) g) (QV (QS t g gm N s a D v q m ht rk ho h k y E R 1)) := by
  obtain ⟨hR, p33, ⟨p31, p32, py⟩, pH, pr, ph, p88, p17, pm, pD, pR, ph9, pk6, py4, pE⟩ := hP
  obtain ⟨b1, b2, b3, b4, b5, b6, b7, b8⟩ := id hR
  have hs := b1.s6
  have hp := b1.tp b2
  have hz : z ≤ 1 := by omega
  have k0 : kn ≠ 0 := by rcases hx with ⟨_, rfl, _⟩ | ⟨_, rfl, _⟩ <;> decide
  have k1 : kn ≠ 35 := by rcases hx with ⟨_, rfl, _⟩ | ⟨_, rfl, _⟩ <;> decide
  have k2 : kn ≠ -1 := by rcases hx with ⟨_, rfl, _⟩ | ⟨_, rfl, _⟩ <;> decide
  have k3 : ¬ 40 ≤ kn := by rcases hx with ⟨_, rfl, _⟩ | ⟨_, rfl, _⟩ <;> decide
  have kk : kd (t.2.1 12 a) = kn := (kd_iff k0 k1 k2).mpr hmk
  obtain ⟨E, rfl⟩ : ∃ e, E = e + 1 := ⟨E - 1, by omega⟩
  have z26 : (gI gm 31 (nI h)).1 26 = kn := by simp [rI, b4.1, kk]
  have e : f101 n 52 (gI gm 31 (nI h)) = some (.inl none, pus (nt (gI gm 31 (nI h)) k (nI (tp t a))) h [10, sm, 60, kn]) := by
    have i32 : (gI gm 31 (nI h)).1 32 = nI k := by simp [rI, p32]
    have i27 : (gI gm 31 (nI h)).1 27 = nI (tp t a) := by simp [rI, b4.2.1]
    have i31 : (nt (gI gm 31 (nI h)) k (nI (tp t a))).1 31 = nI h := by rw [nt_c.1 31 (by simp)]; simp [rI]
    have i26 : (nt (gI gm 31 (nI h)) k (nI (tp t a))).1 26 = kn := by rw [nt_c.1 26 (by simp)]; exact z26
    unfold f101 f132 f135
    rw [z26]
    rcases hx with ⟨_, rfl, rfl, _⟩ | ⟨_, rfl, rfl, _⟩
    · simp (decide := true) only [reduceIte]
      rw [i27, m107 (by omega) i32, m_cv_s]
      unfold f135_25
      rw [i26]
      simp (decide := true) only [reduceIte]
      rw [m108_4 (h := h) (by omega) i31 (by decide) (by decide) (by decide), m_cv_s, m_cv_s, m_cv_s]
      rfl
    · simp (decide := true) only [reduceIte]
      rw [i27, m107 (by omega) i32, m_cv_s]
      unfold f135_25
      rw [i26]
      simp (decide := true) only [reduceIte]
      rw [m108_4 (h := h) (by omega) i31 (by decide) (by decide) (by decide), m_cv_s, m_cv_s, m_cv_s]
      rfl
  have C1 : Chg [31, 32] [33, 34] gm (pus (nt (gI gm 31 (nI h)) k (nI (tp t a))) h [10, sm, 60, kn]) := (Chg.i 31 _ (by simp)).tr ((nt_c.mono (by simp) (by simp)).tr (pus_c.mono (by simp) (by simp)))
  have v31 : (pus (nt (gI gm 31 (nI h)) k (nI (tp t a))) h [10, sm, 60, kn]).1 31 = nI (h + 4) := pus_h (by rw [nt_c.1 31 (by simp)]; simp [rI])
  have v3 : (pus (nt (gI gm 31 (nI h)) k (nI (tp t a))) h [10, sm, 60, kn]).2.1 33 (h + 3) = kn := pus_t (i := 3) rfl
  have v2 : (pus (nt (gI gm 31 (nI h)) k (nI (tp t a))) h [10, sm, 60, kn]).2.1 33 (h + 2) = 60 := pus_t (i := 2) rfl
  have v1 : (pus (nt (gI gm 31 (nI h)) k (nI (tp t a))) h [10, sm, 60, kn]).2.1 33 (h + 1) = sm := pus_t (i := 1) rfl
  have v0 : (pus (nt (gI gm 31 (nI h)) k (nI (tp t a))) h [10, sm, 60, kn]).2.1 33 h = 10 := pus_t (i := 0) rfl
  have vo : ∀ i, i < h → (pus (nt (gI gm 31 (nI h)) k (nI (tp t a))) h [10, sm, 60, kn]).2.1 33 i = gm.2.1 33 i := fun i hi => by rw [pus_o hi, nt_c.2.1 33 (by simp)]; rfl
  have u0 : (pus (nt (gI gm 31 (nI h)) k (nI (tp t a))) h [10, sm, 60, kn]).2.1 34 k = nI (tp t a) := by rw [pus_c.2.1 34 (by simp)]; exact nt_t
  have uo : ∀ i, i < k → (pus (nt (gI gm 31 (nI h)) k (nI (tp t a))) h [10, sm, 60, kn]).2.1 34 i = gm.2.1 34 i := fun i hi => by rw [pus_c.2.1 34 (by simp), nt_o hi]; rfl
  have v32 : (pus (nt (gI gm 31 (nI h)) k (nI (tp t a))) h [10, sm, 60, kn]).1 32 = nI (k + 1) := by rw [pus_c.1 32 (by simp)]; exact nt_h
  have hts : ∀ c, f91_55 n (c + 1) gm = f91_55 n c (pus (nt (gI gm 31 (nI h)) k (nI (tp t a))) h [10, sm, 60, kn]) := fun c => m_top (x := 52) (by omega) p31 b5 p33 e c
  clear e
  generalize pus (nt (gI gm 31 (nI h)) k (nI (tp t a))) h [10, sm, 60, kn] = gm1 at C1 v31 v3 v2 v1 v0 vo u0 uo v32 hts
  have R1 : RR t g gm1 N s a D v q m ht rk ho := hR.ks (C1.mono (by simp) (by simp))
  have R1 := R1.lc (rk' := fun i => if i < m then rk i else 0) (fun i hi => by simp [hi]) (by simp)
  refine Pr.turn hts (C1.mono (by simp) (by simp)) ?_
  have er : f30 n rc (nI z) (nI D) g = m_cv (f6 n (kn + 1) g) (fun g0 => m_ci (rc 15 (0 : Int32) (nI D) 0 g0) (fun v2 g1 => m_cv (f18 n (nI z) v2 (nI a) g1) (fun g5 => m_ci (f73 n (nI a) g5) (fun v10 g9 => m_ci (f34_3 n v10 (0 : Int32) g9) (fun v14 g13 => m_cv (f6 n (11 : Int32) g13) (fun g17 => some (.inl none, g17))))))) := by
    rw [c6 R1.rt hmk, m_cv_s]
    unfold f30
    rw [b3, nI_1]
  rw [er]
  refine Pr.cv (p_take (h := h + 3) hn R1.rt (by omega) v31 v3 k0 k1 k2 k3 (by omega)) ?_
  rintro g2 gm2 E2 _ _ ⟨hE2, hlt, rfl, w31, w34, wP, C2⟩
  have R2 := R1.kp (Chg.i 5 (nI (a + 1)) (by simp)) (C2.mono (by simp) (by simp)) (by simp [rI]) (by omega) wP w34
  have P2 : PE t (gI g 5 (nI (a + 1))) gm2 N s (a + 1) D v q m ht (fun i => if i < m then rk i else 0) ho (h + 2) (k + 1) y 0 E2 0 := ⟨R2, w31, by rw [C2.2.1 33 (by simp), v2]; rfl, by rw [C2.1 32 (by simp), v32], by rw [C2.1 33 (by simp), C1.1 33 (by simp), py], pH, fun i hi => by simp only [show ¬ i < m by omega, if_false], ph, by omega, by omega, by omega, by omega, by omega, by omega, by omega⟩
  refine Pr.ci (hX _ _ _ _ _ _ _ _ _ _ _ _ _ _ _ _ _ _ P2) ?_
  rintro x g4 gm4 E4 _ _ ⟨a4, m4, ht4, c, rfl, hc, R4, ⟨y31, y32, y33⟩, F4, yt, A4, D4, M4, t1, t2, t3, t4, t5, t6⟩
  have ha4 := R4.2.1
  have hm4 : m4 < 600 := by omega
  have g30 : gm4.1 30 = -1 := R4.2.2.2.2.1
  have g37 : gm4.1 37 = nI m4 := R4.2.2.2.2.2.2.2.2.1
  have g33h : gm4.2.1 33 (h + 1) = sm := by rw [F4.1 (h + 1) (by omega), C2.2.1 33 (by simp)]; exact v1
  have e := s_st (n := n) (z := z) (gx := gI gm4 31 (nI (h + 1))) (sm := sm) (st := st) (p := tp t a) (c := c) (m := m4) (y := y) (k := k) (by rcases hx with ⟨x1, _, x2, x3⟩ | ⟨x1, _, x2, x3⟩ <;> simp [x1, x2, x3]) (by omega) (by omega) hm4 hc (by omega) (by simp [rI, y32]) (by rw [rI2, F4.2.1 k (by omega), C2.2.1 34 (by simp)]; exact u0) (by simp [rI, y33]) (by rw [rI2]; exact yt) (by simp [rI, g30]) (by simp [rI, g37])
  refine p_must (x := sm) (h := h + 1) hc hz R4.1 b2 (by omega) y31 g30 g33h (by omega) (fun hcz => ⟨_, e, by rw [en_c.1 30 (by simp)]; exact mB_no hcz, (Chg.i 32 _ (by simp)).tr ((mB_c.mono (by simp) (by simp)).tr (en_c.mono (by simp) (by simp)))⟩) (fun hcz => ?_)
  have Cx : Chg [31, 32, 33] [] gm4 (mB (gI (gI gm4 31 (nI (h + 1))) 32 (nI k)) y c z (tp t a)) := (Chg.i 31 _ (by simp)).tr ((Chg.i 32 _ (by simp)).tr ((mB_e hcz).mono (by simp) (by simp)))
  have x31 : (mB (gI (gI gm4 31 (nI (h + 1))) 32 (nI k)) y c z (tp t a)).1 31 = nI (h + 1) := by rw [mB_c.1 31 (by simp)]; simp [rI]
  have x32 : (mB (gI (gI gm4 31 (nI (h + 1))) 32 (nI k)) y c z (tp t a)).1 32 = nI k := by rw [mB_c.1 32 (by simp)]; simp [rI]
  have x33 : (mB (gI (gI gm4 31 (nI (h + 1))) 32 (nI k)) y c z (tp t a)).1 33 = nI y := mB_33
  generalize mB (gI (gI gm4 31 (nI (h + 1))) 32 (nI k)) y c z (tp t a) = gx at e Cx x31 x32 x33
  have R5 := R4.ks (Cx.mono (by simp) (by simp))
  rw [c73 R4.1 b2, m_ci_s, hmk]
  obtain ⟨E4, rfl⟩ : ∃ e, E4 = e + 1 := ⟨E4 - 1, by omega⟩
  refine Pr.turn (fun c => m_top (x := sm) (by omega) y31 g30 g33h e c) ((Cx.mono (by simp) (by simp)).tr (en_c.mono (by simp) (by simp))) ?_
  have l0 : lv 0 = 3 := rfl
  have tm : m4 ≤ m4 := Nat.le_refl _
  have tm1 : ¬ m4 + 1 ≤ m4 := by omega
  refine p_fin (n := n) (a := a) (E := E + 1) (R := R) (ht := ht) (rk := rk) (gx := gx) hn R5 hm4 x31 ?_ x32 x33 (by omega) ?_ ⟨fun i hi => ?_, fun i hi => ?_, fun i hi => ?_⟩ (fun i hi => ?_) t1 (by omega) (fun i hi => ?_) (fun i hi => by simp [hi]) (fun i hi => ?_) pR (by omega) (by omega) (by omega) (by omega)
  · rw [Cx.2.1 33 (by simp), F4.1 h (by omega), C2.2.1 33 (by simp)]; exact v0
  · rcases hx with ⟨_, rfl, _, rfl⟩ | ⟨_, rfl, _, rfl⟩
    · exact Or.inr (Or.inr (Or.inr (Or.inr (Or.inr (Or.inr (Or.inr (Or.inr (Or.inr (Or.inr (Or.inr (Or.inl ⟨rfl, rfl, by simp only [tm, if_true, t2]⟩)))))))))))
    · exact Or.inr (Or.inr (Or.inr (Or.inr (Or.inr (Or.inr (Or.inr (Or.inr (Or.inr (Or.inr (Or.inr (Or.inr (Or.inr (Or.inl ⟨rfl, rfl, by omega, by simp only [tm, tm1, if_true, if_false, t2]⟩)))))))))))))
  · rw [Cx.2.1 33 (by simp), F4.1 i (by omega), C2.2.1 33 (by simp)]; exact vo i hi
  · rw [Cx.2.1 34 (by simp), F4.2.1 i (by omega), C2.2.1 34 (by simp)]; exact uo i hi
  · rw [Cx.2.1 35 (by simp), F4.2.2 i hi, C2.2.1 35 (by simp), C1.2.1 35 (by simp)]
  · obtain ⟨x1, x2, x3, x4⟩ := A4 i hi
    exact ⟨x1, x2, by rw [Cx.2.1 43 (by simp), x3, C2.2.1 43 (by simp), C1.2.1 43 (by simp)], by rw [Cx.2.1 44 (by simp), x4, C2.2.1 44 (by simp), C1.2.1 44 (by simp)]⟩
  · by_cases hm : i < m
    · rw [t1 i (by omega)]; exact p88 i
    · have := t3 i (by omega) hi; omega
  · by_cases hm : i < m
    · simp only [hm, if_true]; exact p17 i
    · simp only [hm, if_false]; omega
end Pl
