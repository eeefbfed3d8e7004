/-! the test of if and while -/
section Tst
variable {n N s a D v q m h k y E R c z p l x w st : Nat} {t g gm gx : mG} {ht rk : Nat → Nat} {ho : Nat → Prop}
theorem s_tst {sm : Int32} (hx : (w = 0 ∧ sm = 61) ∨ (w = 1 ∧ sm = 63 ∧ gx.2.1 34 (k + 1) = nI st)) (hk : k + 1 < 600) (hy : y < 400) (hm : m < 600) (hc : c ≤ 1) (hp : p < 2 ^ 31) (e32 : gx.1 32 = nI (k + w + 1)) (en0 : gx.2.1 34 k = nI p) (e33 : gx.1 33 = nI (y + 1)) (et : gx.2.1 35 y = nI (c + 1)) (e30 : gx.1 30 = -1) (e37 : gx.1 37 = nI m) :
    ∃ gy, f101 n sm gx = some (.inl none, en gy m 11 0) ∧ (¬ c = 1 → gy.1 30 = nI p) ∧ Chg [30, 32, 33] [34] gx gy ∧ (c = 1 → Chg [32, 33] [34] gx gy) ∧ gy.1 32 = nI (k + w + 1) ∧ gy.1 33 = nI y ∧ (∀ i, i < k → gy.2.1 34 i = gx.2.1 34 i) ∧ gy.2.1 34 (k + w) = nI m ∧ (w = 1 → gy.2.1 34 k = nI st) := by
  rcases hx with ⟨rfl, rfl⟩ | ⟨rfl, rfl, en1⟩
  · have B := mB_1 (n := n) (gx := gI gx 32 (nI k)) (c := c) (z := 1) (p := p) hy hc (by omega) hp (by simp [rI, e33]) et (by simp [rI, e30])
    have i37 : (mB (gI gx 32 (nI k)) y c 1 p).1 37 = nI m := by rw [mB_c.1 37 (by simp)]; simp [rI, e37]
    have i32 : (mB (gI gx 32 (nI k)) y c 1 p).1 32 = nI k := by rw [mB_c.1 32 (by simp)]; simp [rI]
    have j37 : (nt (mB (gI gx 32 (nI k)) y c 1 p) k (nI m)).1 37 = nI m := by rw [nt_c.1 37 (by simp)]; exact i37
    refine ⟨nt (mB (gI gx 32 (nI k)) y c 1 p) k (nI m), ?_, fun h => ?_, ?_, fun h => ?_, nt_h, ?_, fun i hi => ?_, nt_t, fun h => by omega⟩
    · unfold f101 f124 f121
      simp (decide := true) only [reduceIte]
      rw [m115 (by omega) e32, m_ci_s, en0, show (2 : Int32) = nI (1 + 1) from rfl, B, m_cv_s, i37, m107 (by omega) i32, m_cv_s, m109 hm j37, m_cv_s, m_cv_s, m_cv_s]
    · rw [nt_c.1 30 (by simp)]; exact mB_no h
    · exact (Chg.i 32 _ (by simp)).tr ((mB_c.mono (by simp) (by simp)).tr (nt_c.mono (by simp) (by simp)))
    · exact (Chg.i 32 _ (by simp)).tr (((mB_e h).mono (by simp) (by simp)).tr (nt_c.mono (by simp) (by simp)))
    · rw [nt_c.1 33 (by simp)]; exact mB_33
    · rw [nt_o hi, mB_c.2.1 34 (by simp)]; rfl
  · have j1 : (gI gx 32 (nI (k + 1))).1 32 = nI (k + 1) := by simp [rI]
    have j2 : (gI gx 32 (nI (k + 1))).2.1 34 k = nI p := en0
    have B := mB_1 (n := n) (gx := gI (gI gx 32 (nI (k + 1))) 32 (nI k)) (c := c) (z := 1) (p := p) hy hc (by omega) hp (by simp [rI, e33]) et (by simp [rI, e30])
    have i37 : (nt (mB (gI (gI gx 32 (nI (k + 1))) 32 (nI k)) y c 1 p) k (nI st)).1 37 = nI m := by rw [nt_c.1 37 (by simp), mB_c.1 37 (by simp)]; simp [rI, e37]
    have i32 : (mB (gI (gI gx 32 (nI (k + 1))) 32 (nI k)) y c 1 p).1 32 = nI k := by rw [mB_c.1 32 (by simp)]; simp [rI]
    have j37 : (nt (nt (mB (gI (gI gx 32 (nI (k + 1))) 32 (nI k)) y c 1 p) k (nI st)) (k + 1) (nI m)).1 37 = nI m := by rw [nt_c.1 37 (by simp)]; exact i37
    refine ⟨nt (nt (mB (gI (gI gx 32 (nI (k + 1))) 32 (nI k)) y c 1 p) k (nI st)) (k + 1) (nI m), ?_, fun h => ?_, ?_, fun h => ?_, nt_h, ?_, fun i hi => ?_, nt_t, fun _ => ?_⟩
    · unfold f101 f124
      simp (decide := true) only [reduceIte]
      unfold f130 f121
      rw [m115 hk e32, m_ci_s, en1, m115 (by omega) j1, m_ci_s, j2, show (2 : Int32) = nI (1 + 1) from rfl, B, m_cv_s, m107 (by omega) i32, m_cv_s, i37, m107 (by omega) nt_h, m_cv_s, m109 hm j37, m_cv_s, m_cv_s, m_cv_s, m_cv_s]
    · rw [nt_c.1 30 (by simp), nt_c.1 30 (by simp)]; exact mB_no h
    · exact (Chg.i 32 _ (by simp)).tr ((Chg.i 32 _ (by simp)).tr ((mB_c.mono (by simp) (by simp)).tr ((nt_c.mono (by simp) (by simp)).tr (nt_c.mono (by simp) (by simp)))))
    · exact (Chg.i 32 _ (by simp)).tr ((Chg.i 32 _ (by simp)).tr (((mB_e h).mono (by simp) (by simp)).tr ((nt_c.mono (by simp) (by simp)).tr (nt_c.mono (by simp) (by simp)))))
    · rw [nt_c.1 33 (by simp), nt_c.1 33 (by simp)]; exact mB_33
    · rw [nt_o (by omega), nt_o hi, mB_c.2.1 34 (by simp)]; rfl
    · rw [nt_o (by omega)]; exact nt_t
theorem p_test {rc : mRec} {kn sm : Int32} (hn : 700 ≤ n) (hx : (w = 0 ∧ kn = 28 ∧ sm = 61) ∨ (w = 1 ∧ kn = 30 ∧ sm = 63 ∧ gm.2.1 34 (k + 1) = nI m)) (hR : RR t g gm N s a D v q m ht rk ho) (hmk : t.2.1 12 a = kn + 1) (v31 : gm.1 31 = nI (h + 5)) (v4 : gm.2.1 33 (h + 4) = kn) (v3 : gm.2.1 33 (h + 3) = 60) (v2 : gm.2.1 33 (h + 2) = sm) (v32 : gm.1 32 = nI (k + w + 1)) (u0 : gm.2.1 34 k = nI (tp t a)) (py : gm.1 33 = nI y) (pH : ht m = 0) (pr : ∀ i, m ≤ i → rk i = 0) (ph : ∀ i, m ≤ i → ¬ ho i) (p88 : ∀ i, ht i ≤ 88) (pm : m < a) (pD : D ≤ 16) (ph9 : h + 50 * (17 - D) ≤ 900) (pk6 : k + 30 * (17 - D) ≤ 600) (py4 : y + 20 * (17 - D) ≤ 400) (pE : 18050 ≤ E + 30 * a) (hX : HX n rc) :
    Pr n g gm E (f28 n rc (nI D) g) (QI fun x g' gm' E' => ∃ (a' m' : Nat) (ht' : Nat → Nat), x = nI m' ∧ RR t g' gm' N s a' D v q (m' + 1) (fun i => if i ≤ m' then ht' i else 0) (fun i => if i ≤ m' then rk i else D + 1) (fun i => ho i ∨ i = m') ∧ SK gm' (h + 2) (k + w + 1) y ∧ (∀ i, i < h + 2 → gm'.2.1 33 i = gm.2.1 33 i) ∧ (∀ i, i < k → gm'.2.1 34 i = gm.2.1 34 i) ∧ (∀ i, i < y → gm'.2.1 35 i = gm.2.1 35 i) ∧ gm'.2.1 34 (k + w) = nI m' ∧ (w = 1 → gm'.2.1 34 k = nI m) ∧ g'.2.1 17 m' = 40 ∧ gm'.2.1 43 m' = 11 ∧ AG g gm g' gm' m ∧ (∀ i, i ≤ m → ht' i = ht i) ∧ ht' m' = 1 ∧ (∀ i, i ≤ m' → ht' i ≤ 88) ∧ m < m' ∧ m' + 1 + a ≤ m + a' ∧ a < a' ∧ E + 30 * a + 10 ≤ E' + 30 * a') := by
  obtain ⟨b1, b2, b3, b4, b5, b6, b7, b8⟩ := id hR
  have hs := b1.s6
  have hp := b1.tp b2
  have hw : w ≤ 1 := by omega
  have k0 : kn ≠ 0 := by rcases hx with ⟨_, rfl, _⟩ | ⟨_, rfl, _⟩ <;> decide
  have k1 : kn ≠ 35 := by rcases hx with ⟨_, rfl, _⟩ | ⟨_, rfl, _⟩ <;> decide
  have k2 : kn ≠ -1 := by rcases hx with ⟨_, rfl, _⟩ | ⟨_, rfl, _⟩ <;> decide
  have k3 : ¬ 40 ≤ kn := by rcases hx with ⟨_, rfl, _⟩ | ⟨_, rfl, _⟩ <;> decide
  have er : f28 n rc (nI D) g = m_cv (f6 n (kn + 1) g) (fun g0 => m_ci (rc 15 (0 : Int32) (nI D) 0 g0) (fun v2 g1 => m_cv (f18 n (1 : Int32) v2 (nI a) g1) (fun g5 => m_ci (f34_3 n (40 : Int32) (0 : Int32) g5) (fun v10 g9 => some (.inl (some (.int v10)), g9))))) := by
    rw [c6 hR.rt hmk, m_cv_s]
    unfold f28
    rw [b3, nI_1]
  rw [er]
  refine Pr.cv (p_take (h := h + 4) hn hR.rt (by omega) v31 v4 k0 k1 k2 k3 (by omega)) ?_
  rintro g2 gm2 E2 _ _ ⟨hE2, hlt, rfl, w31, w34, wP, C2⟩
  have R2 := hR.kp (Chg.i 5 (nI (a + 1)) (by simp)) (C2.mono (by simp) (by simp)) (by simp [rI]) (by omega) wP w34
  have P2 : PE t (gI g 5 (nI (a + 1))) gm2 N s (a + 1) D v q m ht rk ho (h + 3) (k + w + 1) y 0 E2 0 := ⟨R2, w31, by rw [C2.2.1 33 (by simp), v3]; rfl, by rw [C2.1 32 (by simp), v32], by rw [C2.1 33 (by simp), py], pH, pr, ph, by omega, by omega, by omega, by omega, by omega, by omega, by omega⟩
  refine Pr.ci (hX _ _ _ _ _ _ _ _ _ _ _ _ _ _ _ _ _ _ P2) ?_
  rintro x g4 gm4 E4 _ _ ⟨a4, m4, ht4, c, rfl, hc, R4, ⟨y31, y32, y33⟩, F4, yt, A4, D4, M4, t1, t2, t3, t4, t5, t6⟩
  have ha4 := R4.2.1
  have hm4 : m4 < 600 := by omega
  have g30 : gm4.1 30 = -1 := R4.2.2.2.2.1
  have g37 : gm4.1 37 = nI m4 := R4.2.2.2.2.2.2.2.2.1
  have g33h : gm4.2.1 33 (h + 2) = sm := by rw [F4.1 (h + 2) (by omega), C2.2.1 33 (by simp)]; exact v2
  obtain ⟨gy, e, f1, f2, f3, f4, f5, f6', f7, f8⟩ := s_tst (n := n) (w := w) (st := m) (gx := gI gm4 31 (nI (h + 2))) (sm := sm) (p := tp t a) (c := c) (m := m4) (y := y) (k := k) (by
    rcases hx with ⟨x1, _, x2⟩ | ⟨x1, _, x2, x3⟩
    · exact Or.inl ⟨x1, x2⟩
    · exact Or.inr ⟨x1, x2, by rw [rI2, F4.2.1 (k + 1) (by omega), C2.2.1 34 (by simp)]; exact x3⟩) (by omega) (by omega) hm4 hc (by omega) (by simp [rI, y32]) (by rw [rI2, F4.2.1 k (by omega), C2.2.1 34 (by simp)]; exact u0) (by simp [rI, y33]) (by rw [rI2]; exact yt) (by simp [rI, g30]) (by simp [rI, g37])
  refine p_must (x := sm) (z := 1) (h := h + 2) hc (by omega) R4.1 b2 (by omega) y31 g30 g33h (by omega) (fun hcz => ⟨_, e, by rw [en_c.1 30 (by simp)]; exact f1 hcz, (f2.mono (by simp) (by simp)).tr (en_c.mono (by simp) (by simp))⟩) (fun hcz => ?_)
  have Cx : Chg [31, 32, 33] [34] gm4 gy := (Chg.i 31 _ (by simp)).tr ((f3 hcz).mono (by simp) (by simp))
  have R5 := (R4.ks (Cx.mono (by simp) (by simp))).addr (ht' := fun i => if i ≤ m4 then ht4 i else 0) (rk' := fun i => if i ≤ m4 then rk i else D + 1) (ho' := fun i => ho i ∨ i = m4) (mk := 40) (ar := 0) (st := 11) (pt := 0) hm4 (fun i hi => by simp [hi]) (fun i hi => by simp [hi]) (fun i _ w => Or.inl w) (Or.inl (Or.inr rfl))
  have x31 : gy.1 31 = nI (h + 2) := by rw [f2.1 31 (by simp)]; simp [rI]
  rw [c34 hm4 R4.2.2.2.2.2.2.2.1, m_ci_s]
  obtain ⟨E4, rfl⟩ : ∃ e, E4 = e + 1 := ⟨E4 - 1, by omega⟩
  have l0 : lv 0 = 3 := rfl
  refine Pr.turn (fun c => m_top (x := sm) (by omega) y31 g30 g33h e c) ((Cx.mono (by simp) (by simp)).tr (en_c.mono (by simp) (by simp))) (Pr.own (g1 := em g4 m4 40 0) (em_c.mono (by simp) (by simp)) (Pr.ret ⟨nI m4, rfl, a4, m4, ht4, rfl, R5, ⟨?_, ?_, ?_⟩, fun i hi => ?_, fun i hi => ?_, fun i hi => ?_, ?_, fun h1 => ?_, ?_, ?_, fun i hi => ?_, t1, t2, fun i hi => ?_, t4, by omega, by omega, by omega⟩))
  · rw [en_c.1 31 (by simp)]; exact x31
  · rw [en_c.1 32 (by simp)]; exact f4
  · rw [en_c.1 33 (by simp)]; exact f5
  · rw [en_c.2.1 33 (by simp), Cx.2.1 33 (by simp), F4.1 i (by omega), C2.2.1 33 (by simp)]
  · rw [en_c.2.1 34 (by simp), f6' i hi, rI2, F4.2.1 i (by omega), C2.2.1 34 (by simp)]
  · rw [en_c.2.1 35 (by simp), Cx.2.1 35 (by simp), F4.2.2 i hi, C2.2.1 35 (by simp)]
  · rw [en_c.2.1 34 (by simp)]; exact f7
  · rw [en_c.2.1 34 (by simp)]; exact f8 h1
  · rw [em_17, upd_s]
  · rw [en_43, upd_s]
  · obtain ⟨x1, x2, x3, x4⟩ := A4 i hi
    exact ⟨by rw [em_17, upd_o (by omega)]; exact x1, by rw [em_18, upd_o (by omega)]; exact x2, by rw [en_43, upd_o (by omega), Cx.2.1 43 (by simp), x3, C2.2.1 43 (by simp)], by rw [en_44, upd_o (by omega), Cx.2.1 44 (by simp), x4, C2.2.1 44 (by simp)]⟩
  · by_cases hm : i < m
    · rw [t1 i (by omega)]; exact p88 i
    · have := t3 i (by omega) hi; omega
end Tst
