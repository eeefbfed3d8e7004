/-! a sign of order or arithmetic with its second part -/
section Op
variable {n N s a D v q mc hb k y H E b z : Nat} {t g gm : mG} {htc rk : Nat → Nat} {ho : Nat → Prop}
theorem p_op {rc : mRec} {K : Int32 → mG → mZ} {K2 : Int32 → mG → mZ} {Q : Option Value → mG → mG → Nat → Prop} {x kn : Int32} (hn : 700 ≤ n) (hx : (x = 80 ∧ (kn = 12 ∨ kn = 13 ∨ kn = 14 ∨ kn = 15)) ∨ (x = 83 ∧ (kn = 16 ∨ kn = 17 ∨ kn = 18 ∨ kn = 19 ∨ kn = 20))) (hR : RR t g gm N s a D v q mc htc rk ho) (p31 : gm.1 31 = nI (hb + 3)) (q0 : gm.2.1 33 hb = x) (q1 : gm.2.1 33 (hb + 1) = sy (b + 1)) (q2 : gm.2.1 33 (hb + 2) = kn) (p32 : gm.1 32 = nI (k + 2)) (n0 : gm.2.1 34 k = kn) (n1 : gm.2.1 34 (k + 1) = nI (tp t a)) (p33 : gm.1 33 = nI (y + 1)) (pt : gm.2.1 35 y = nI (z + 1)) (hz : z ≤ 1) (hmk : t.2.1 12 a = kn + 1) (pH : htc mc = H + 1) (pr : ∀ i, mc ≤ i → rk i = 0) (ph : ∀ i, mc ≤ i → ¬ ho i) (pm : mc < a) (pD : D ≤ 16) (pb : b < 5) (ph9 : hb + 1 + 50 * (16 - D) + 5 + 4 * (5 - (b + 1)) < 900) (pk6 : k + 2 + 30 * (16 - D) + 4 + 3 * (5 - (b + 1)) < 600) (py4 : y + 1 + 20 * (16 - D) + 2 + (5 - (b + 1)) < 400) (pE : 18030 ≤ E + 30 * a)
    (ih : ∀ (g gm : mG) (a m : Nat) (ht : Nat → Nat) (h k y H E : Nat), PE t g gm N s a D v q m ht rk ho h k y H E (b + 1) → Pr n g gm E (rc 15 (nI (b + 1)) (nI D) 0 g) (QI (QE t g gm N s a D v q m ht rk ho h k y H E (b + 1))))
    (hK : ∀ (g' gm' : mG) (E' a' m' : Nat) (ht' : Nat → Nat), RR t g' gm' N s a' D v q m' ht' rk ho → SK gm' hb k (y + 1) → FR gm gm' hb k y → gm'.2.1 35 y = nI (tyo kn + 1) → AG g gm g' gm' mc → Chg [5, 6, 12] [17, 18] g g' → Chg [26, 27, 28, 29, 30, 31, 32, 33, 34, 37] [33, 34, 35, 43, 44] gm gm' → (∀ i, i ≤ mc → ht' i = htc i) → ht' m' = H + 1 → (∀ i, mc ≤ i → i ≤ m' → ht' i ≤ H + 1 + 5 * (16 - D) + 1 + lv (b + 1)) → mc < m' → m' + a ≤ mc + a' → E + 30 * a + 20 ≤ E' + 30 * a' → Pr n g' gm' E' (K (nI (tyo kn)) g') Q) :
    Pr n g gm E (m_ci (rc 15 (nI (b + 1)) (nI D) 0 (gI g 5 (nI (a + 1)))) (fun v49 g48 => m_ci (f24 n (kn + 1) (nI z) v49 g48) (fun v53 g52 => if ¬ v53 = (-1 : Int32) then m_ci (f34_3 n (kn + 1) (0 : Int32) g52) (fun _ g57 => K v53 g57) else m_cv (f3 n (nI a) g52) (fun g61 => K2 v53 g61)))) Q := by
  obtain ⟨b1, b2, b3, b4, b5, b6, b7, b8⟩ := id hR
  have hs := b1.s6
  have hp := b1.tp b2
  have hkn : kn = 12 ∨ kn = 13 ∨ kn = 14 ∨ kn = 15 ∨ kn = 16 ∨ kn = 17 ∨ kn = 18 ∨ kn = 19 ∨ kn = 20 := by
    rcases hx with ⟨_, w | w | w | w⟩ | ⟨_, w | w | w | w | w⟩ <;> simp [w]
  have hkn' : kn = 12 ∨ kn = 13 ∨ kn = 14 ∨ kn = 15 ∨ kn = 16 ∨ kn = 17 ∨ kn = 18 ∨ kn = 19 ∨ kn = 20 ∨ kn = 22 ∨ kn = 23 := by
    rcases hkn with w | w | w | w | w | w | w | w | w <;> simp [w]
  have k0 : kn ≠ 0 := by rcases hkn with rfl | rfl | rfl | rfl | rfl | rfl | rfl | rfl | rfl <;> decide
  have k1 : kn ≠ 35 := by rcases hkn with rfl | rfl | rfl | rfl | rfl | rfl | rfl | rfl | rfl <;> decide
  have k2 : kn ≠ -1 := by rcases hkn with rfl | rfl | rfl | rfl | rfl | rfl | rfl | rfl | rfl <;> decide
  have k3 : ¬ 40 ≤ kn := by rcases hkn with rfl | rfl | rfl | rfl | rfl | rfl | rfl | rfl | rfl <;> decide
  have er : m_ci (rc 15 (nI (b + 1)) (nI D) 0 (gI g 5 (nI (a + 1)))) (fun v49 g48 => m_ci (f24 n (kn + 1) (nI z) v49 g48) (fun v53 g52 => if ¬ v53 = (-1 : Int32) then m_ci (f34_3 n (kn + 1) (0 : Int32) g52) (fun _ g57 => K v53 g57) else m_cv (f3 n (nI a) g52) (fun g61 => K2 v53 g61))) = m_cv (f6 n (kn + 1) g) (fun g0 => m_ci (rc 15 (nI (b + 1)) (nI D) 0 g0) (fun v49 g48 => m_ci (f24 n (kn + 1) (nI z) v49 g48) (fun v53 g52 => if ¬ v53 = (-1 : Int32) then m_ci (f34_3 n (kn + 1) (0 : Int32) g52) (fun _ g57 => K v53 g57) else m_cv (f3 n (nI a) g52) (fun g61 => K2 v53 g61)))) := by
    rw [c6 hR.rt hmk, m_cv_s]
  rw [er]
  refine Pr.cv (p_take (h := hb + 2) hn hR.rt (by omega) p31 q2 k0 k1 k2 k3 (by omega)) ?_
  rintro g2 gm2 E2 _ _ ⟨hE2, hlt, rfl, w31, w34, wP, C2⟩
  have R2 : RR t (gI g 5 (nI (a + 1))) gm2 N s (a + 1) D v q mc htc rk ho := hR.kp (Chg.i 5 _ (by simp)) (C2.mono (by simp) (by simp)) (by simp [rI]) (by omega) wP w34
  have P2 : PE t (gI g 5 (nI (a + 1))) gm2 N s (a + 1) D v q mc htc rk ho (hb + 1) (k + 2) (y + 1) (H + 1) E2 (b + 1) := ⟨R2, w31, by rw [C2.2.1 33 (by simp)]; exact q1, by rw [C2.1 32 (by simp)]; exact p32, by rw [C2.1 33 (by simp)]; exact p33, pH, pr, ph, by omega, by omega, by omega, by omega, by omega, by omega, by omega⟩
  refine Pr.ci (ih _ _ _ _ _ _ _ _ _ _ P2) ?_
  rintro w g3 gm3 E3 _ _ ⟨a3, m3, ht3, z2, rfl, hz2, R3, ⟨y31, y32, y33⟩, F3, yt, A3, D3, M3, t1, t2, t3, t4, t5, t6⟩
  have ha3 := R3.2.1
  have hm3 : m3 < 600 := by omega
  have g30 : gm3.1 30 = -1 := R3.2.2.2.2.1
  have g37 : gm3.1 37 = nI m3 := R3.2.2.2.2.2.2.2.2.1
  have g33h : gm3.2.1 33 hb = x := by rw [F3.1 hb (by omega), C2.2.1 33 (by simp)]; exact q0
  have e := s_rk (n := n) (gx := gI gm3 31 (nI hb)) (k := k) (y := y) (m := m3) (z1 := z) (z2 := z2) (p := tp t a) hx (by omega) (by omega) hm3 hz hz2 (by omega) (by simp [rI, y32]) (by rw [rI2, F3.2.1 (k + 1) (by omega), C2.2.1 34 (by simp)]; exact n1) (by rw [rI2, F3.2.1 k (by omega), C2.2.1 34 (by simp)]; exact n0) (by simp [rI, y33]) (by rw [rI2]; exact yt) (by rw [rI2, F3.2.2 y (by omega), C2.2.1 35 (by simp)]; exact pt) (by simp [rI, g30]) (by simp [rI, g37])
  rw [c24 hkn' hz hz2, m_ci_s]
  by_cases hf : fits kn z z2 = true
  · rw [if_pos hf] at e ⊢
    have r1 : ¬ nI (tyo kn) = (-1 : Int32) := fun w => by
      have h1 : tyo kn < 2 ^ 31 := by unfold tyo; split <;> omega
      have := nI_pos (n := tyo kn) h1
      rw [w] at this; exact this (by decide)
    rw [if_pos r1, c34 hm3 R3.2.2.2.2.2.2.2.1, m_ci_s]
    have Cx : Chg [31, 32, 33, 34] [] gm3 (rkB (gI gm3 31 (nI hb)) k y) := (Chg.i 31 _ (by simp)).tr (rkB_c.mono (by simp) (by simp))
    have x31 : (rkB (gI gm3 31 (nI hb)) k y).1 31 = nI hb := by rw [rkB_c.1 31 (by simp)]; simp [rI]
    have x32 := rkB_32 (gx := gI gm3 31 (nI hb)) (k := k) (y := y)
    have x34 : (rkB (gI gm3 31 (nI hb)) k y).1 34 = nI D := by rw [rkB_c.1 34 (by simp)]; simp [rI]; exact R3.2.2.2.2.2.1
    have hl : LC (g3.2.1 20) (m3 + 2) q (fun i => if i ≤ m3 then ht3 i else H + 1) rk m3 (kn + 1) 0 4 kn := by
      have hx : ¬ m3 + 1 ≤ m3 := by omega
      refine Or.inr (Or.inr (Or.inr (Or.inr (Or.inr (Or.inl ⟨?_, rfl, by omega, by simp only [hx, if_false, Nat.le_refl, if_true, t2], by simp only [hx, if_false]; omega⟩)))))
      rcases hkn with rfl | rfl | rfl | rfl | rfl | rfl | rfl | rfl | rfl
      · exact ⟨13, by omega, by omega, rfl, rfl⟩
      · exact ⟨14, by omega, by omega, rfl, rfl⟩
      · exact ⟨15, by omega, by omega, rfl, rfl⟩
      · exact ⟨16, by omega, by omega, rfl, rfl⟩
      · exact ⟨17, by omega, by omega, rfl, rfl⟩
      · exact ⟨18, by omega, by omega, rfl, rfl⟩
      · exact ⟨19, by omega, by omega, rfl, rfl⟩
      · exact ⟨20, by omega, by omega, rfl, rfl⟩
      · exact ⟨21, by omega, by omega, rfl, rfl⟩
    generalize rkB (gI gm3 31 (nI hb)) k y = gx at e Cx x31 x32 x34
    have R4 := fin_add (D := D) (y := y) (w := nI (tyo kn + 1)) R3 Cx x34 hm3 (fun i hi => by simp [hi]) hl
    have CT : Chg [31, 32, 33, 34, 37] [35, 43, 44] gm3 (ty (en gx m3 4 kn) y (nI (tyo kn + 1))) := (Cx.mono (by simp) (by simp)).tr ((en_c.mono (by simp) (by simp)).tr (ty_c.mono (by simp) (by simp)))
    obtain ⟨E3, rfl⟩ : ∃ e, E3 = e + 1 := ⟨E3 - 1, by omega⟩
    refine Pr.turn (fun c => m_top (x := x) (by omega) y31 g30 g33h e c) (CT.mono (by simp) (by simp)) (Pr.own (g1 := em g3 m3 (kn + 1) 0) (em_c.mono (by simp) (by simp)) ?_)
    refine hK _ _ _ a3 (m3 + 1) _ R4 ⟨?_, ?_, ty_h⟩ ⟨fun i hi => ?_, fun i hi => ?_, fun i hi => ?_⟩ ty_t (fun i hi => ?_) ?_ ?_ (fun i hi => ?_) ?_ (fun i h1 h2 => ?_) (by omega) (by omega) (by omega)
    · rw [ty_c.1 31 (by simp), en_c.1 31 (by simp)]; exact x31
    · rw [ty_c.1 32 (by simp), en_c.1 32 (by simp)]; exact x32
    · rw [CT.2.1 33 (by simp), F3.1 i (by omega), C2.2.1 33 (by simp)]
    · rw [CT.2.1 34 (by simp), F3.2.1 i (by omega), C2.2.1 34 (by simp)]
    · rw [ty_o hi, en_c.2.1 35 (by simp), Cx.2.1 35 (by simp), F3.2.2 i (by omega), C2.2.1 35 (by simp)]
    · obtain ⟨x1, x2, x3, x4⟩ := A3 i hi
      refine ⟨?_, ?_, ?_, ?_⟩
      · rw [em_17, upd_o (by omega)]; exact x1
      · rw [em_18, upd_o (by omega)]; exact x2
      · rw [ty_c.2.1 43 (by simp), en_43, upd_o (by omega), Cx.2.1 43 (by simp), x3, C2.2.1 43 (by simp)]
      · rw [ty_c.2.1 44 (by simp), en_44, upd_o (by omega), Cx.2.1 44 (by simp), x4, C2.2.1 44 (by simp)]
    · exact (Chg.i 5 _ (by simp)).tr (D3.tr (em_c.mono (by simp) (by simp)))
    · exact (C2.mono (by simp) (by simp)).tr (M3.tr (CT.mono (by simp) (by simp)))
    · simp only [show i ≤ m3 by omega, if_true]; exact t1 i hi
    · have hx : ¬ m3 + 1 ≤ m3 := by omega
      simp only [hx, if_false]
    · by_cases hi : i ≤ m3
      · simp only [hi, if_true]; have := t3 i h1 hi; omega
      · simp only [hi, if_false]; omega
  · rw [if_neg hf] at e ⊢
    rw [if_neg (fun w => w rfl), c3 R3.1 b2, m_cv_f]
    refine Pr.no (p := tp t a) (by omega) (by omega) (fun c => m_top (x := x) (by omega) y31 g30 g33h e c) ?_ ?_ (Chg.i 6 _ (by simp)) (by simp [rI])
    · exact (Chg.i 31 _ (by simp)).tr ((rkB_c.mono (by simp) (by simp)).tr ((Chg.i 30 _ (by simp)).tr ((en_c.mono (by simp) (by simp)).tr (ty_c.mono (by simp) (by simp)))))
    · rw [ty_c.1 30 (by simp), en_c.1 30 (by simp)]; simp [rI]
end Op
