/-! or, and, with their second part -/
section Opj
variable {n N s a D v q mc hb k y H E b z : Nat} {t g gm : mG} {htc rk : Nat → Nat} {ho : Nat → Prop}
theorem p_opj {rc : mRec} {K : Int32 → mG → mZ} {K2 : Int32 → Int32 → mG → mZ} {Q : Option Value → mG → mG → Nat → Prop} {re te op kn : Int32} (hn : 700 ≤ n) (hx : (re = 72 ∧ te = 73 ∧ op = 6 ∧ kn = 23) ∨ (re = 77 ∧ te = 76 ∧ op = 5 ∧ kn = 22)) (hR : RR t g gm N s a D v q mc htc rk ho) (p31 : gm.1 31 = nI (hb + 4)) (q0 : gm.2.1 33 hb = re) (q1 : gm.2.1 33 (hb + 1) = sy (b + 1)) (q2 : gm.2.1 33 (hb + 2) = te) (q3 : gm.2.1 33 (hb + 3) = kn) (p32 : gm.1 32 = nI (k + 2)) (n0 : gm.2.1 34 k = kn) (n1 : gm.2.1 34 (k + 1) = nI (tp t a)) (p33 : gm.1 33 = nI (y + 1)) (pt : gm.2.1 35 y = nI (z + 1)) (hz : z ≤ 1) (hmk : t.2.1 12 a = kn + 1) (pH : htc mc = H + 1) (pr : ∀ i, mc ≤ i → rk i = 0) (ph : ∀ i, mc ≤ i → ¬ ho i) (pm : mc < a) (pD : D ≤ 16) (pb : b < 2) (ph9 : hb + 2 + 50 * (16 - D) + 5 + 4 * (5 - (b + 1)) < 900) (pk6 : k + 3 + 30 * (16 - D) + 4 + 3 * (5 - (b + 1)) < 600) (py4 : y + 1 + 20 * (16 - D) + 2 + (5 - (b + 1)) < 400) (pE : 18030 ≤ E + 30 * a)
    (ih : ∀ (g gm : mG) (a m : Nat) (ht : Nat → Nat) (ho : Nat → Prop) (h k y H E : Nat), PE t g gm N s a D v q m ht rk ho h k y H E (b + 1) → Pr n g gm E (rc 15 (nI (b + 1)) (nI D) 0 g) (QI (QE t g gm N s a D v q m ht rk ho h k y H E (b + 1))))
    (hK : ∀ (g' gm' : mG) (E' a' m' : Nat) (ht' : Nat → Nat), RR t g' gm' N s a' D v q m' ht' rk ho → SK gm' hb k (y + 1) → FR gm gm' hb k y → gm'.2.1 35 y = nI (tyo kn + 1) → AG g gm g' gm' mc → Chg [5, 6, 12] [17, 18] g g' → Chg [26, 27, 28, 29, 30, 31, 32, 33, 34, 37] [33, 34, 35, 43, 44] gm gm' → (∀ i, i ≤ mc → ht' i = htc i) → ht' m' = H + 1 → (∀ i, mc ≤ i → i ≤ m' → ht' i ≤ H + 5 * (16 - D) + 1 + lv (b + 1)) → mc < m' → m' + a ≤ mc + a' → E + 30 * a + 20 ≤ E' + 30 * a' → Pr n g' gm' E' (K (nI (tyo kn)) g') Q) :
    Pr n g gm E (m_ci (f34_3 n (kn + 1) (0 : Int32) (gI g 5 (nI (a + 1)))) (fun v23 g22 => m_ci (rc 15 (nI (b + 1)) (nI D) 0 g22) (fun v27 g26 => m_ci (f24 n (kn + 1) (nI z) v27 g26) (fun v31 g30 => if ¬ v31 = (-1 : Int32) then m_cv (f37_3 n v23 g30) (fun g35 => K v31 g35) else m_cv (f3 n (nI a) g30) (fun g39 => K2 v23 v31 g39))))) Q := by
  obtain ⟨b1, b2, b3, b4, b5, b6, b7, b8⟩ := id hR
  have hs := b1.s6
  have hp := b1.tp b2
  have hkn' : kn = 12 ∨ kn = 13 ∨ kn = 14 ∨ kn = 15 ∨ kn = 16 ∨ kn = 17 ∨ kn = 18 ∨ kn = 19 ∨ kn = 20 ∨ kn = 22 ∨ kn = 23 := by
    rcases hx with ⟨_, _, _, w⟩ | ⟨_, _, _, w⟩ <;> simp [w]
  have k0 : kn ≠ 0 := by rcases hx with ⟨_, _, _, rfl⟩ | ⟨_, _, _, rfl⟩ <;> decide
  have k1 : kn ≠ 35 := by rcases hx with ⟨_, _, _, rfl⟩ | ⟨_, _, _, rfl⟩ <;> decide
  have k2 : kn ≠ -1 := by rcases hx with ⟨_, _, _, rfl⟩ | ⟨_, _, _, rfl⟩ <;> decide
  have k3 : ¬ 40 ≤ kn := by rcases hx with ⟨_, _, _, rfl⟩ | ⟨_, _, _, rfl⟩ <;> decide
  have ktyo : tyo kn = 1 := by rcases hx with ⟨_, _, _, rfl⟩ | ⟨_, _, _, rfl⟩ <;> decide
  have hmc : mc < 600 := by omega
  have er : m_ci (f34_3 n (kn + 1) (0 : Int32) (gI g 5 (nI (a + 1)))) (fun v23 g22 => m_ci (rc 15 (nI (b + 1)) (nI D) 0 g22) (fun v27 g26 => m_ci (f24 n (kn + 1) (nI z) v27 g26) (fun v31 g30 => if ¬ v31 = (-1 : Int32) then m_cv (f37_3 n v23 g30) (fun g35 => K v31 g35) else m_cv (f3 n (nI a) g30) (fun g39 => K2 v23 v31 g39)))) = m_cv (f6 n (kn + 1) g) (fun g0 => m_ci (f34_3 n (kn + 1) (0 : Int32) g0) (fun v23 g22 => m_ci (rc 15 (nI (b + 1)) (nI D) 0 g22) (fun v27 g26 => m_ci (f24 n (kn + 1) (nI z) v27 g26) (fun v31 g30 => if ¬ v31 = (-1 : Int32) then m_cv (f37_3 n v23 g30) (fun g35 => K v31 g35) else m_cv (f3 n (nI a) g30) (fun g39 => K2 v23 v31 g39))))) := by
    rw [c6 hR.rt hmk, m_cv_s]
  rw [er]
  refine Pr.cv (p_take (h := hb + 3) hn hR.rt (by omega) p31 q3 k0 k1 k2 k3 (by omega)) ?_
  rintro g2 gm2 E2 _ _ ⟨hE2, hlt, rfl, w31, w34, wP, C2⟩
  have R2 : RR t (gI g 5 (nI (a + 1))) gm2 N s (a + 1) D v q mc htc rk ho := hR.kp (Chg.i 5 _ (by simp)) (C2.mono (by simp) (by simp)) (by simp [rI]) (by omega) wP w34
  have e76 := s_tstj (n := n) (gx := gI gm2 31 (nI (hb + 2))) (k := k + 2) (m := mc) (x := te) (op := op) (by rcases hx with ⟨_, h1, h2, _⟩ | ⟨_, h1, h2, _⟩ <;> simp [h1, h2]) (by omega) hmc (by simp [rI]; rw [C2.1 32 (by simp)]; exact p32) (by simp [rI]; rw [C2.1 37 (by simp)]; exact b8.2.1)
  have C3a : Chg [31, 32] [34] gm2 (nt (gI gm2 31 (nI (hb + 2))) (k + 2) (nI mc)) := (Chg.i 31 _ (by simp)).tr (nt_c.mono (by simp) (by simp))
  have R2' : RR t (gI g 5 (nI (a + 1))) (nt (gI gm2 31 (nI (hb + 2))) (k + 2) (nI mc)) N s (a + 1) D v q mc htc rk ho := R2.kp (Chg.rf _) (C3a.mono (by simp) (by simp)) R2.2.2.1 R2.2.1 (wP.kp (fun x _ _ => C3a.1 x (by simp; omega))) (by rw [C3a.1 34 (by simp)]; exact w34)
  have R3 := R2'.add (ht' := fun i => if i ≤ mc then htc i else H) (ho' := fun i => ho i ∨ i = mc) (mk := kn + 1) (ar := 0) (st := op) (pt := 0) hmc (fun i hi => by simp [hi]) (fun i _ w => Or.inl w) (Or.inl (Or.inr rfl))
  have C3 : Chg [31, 32, 37] [34, 43, 44] gm2 (en (nt (gI gm2 31 (nI (hb + 2))) (k + 2) (nI mc)) mc op 0) := (C3a.mono (by simp) (by simp)).tr (en_c.mono (by simp) (by simp))
  have r31 : (en (nt (gI gm2 31 (nI (hb + 2))) (k + 2) (nI mc)) mc op 0).1 31 = nI (hb + 2) := by rw [en_c.1 31 (by simp), nt_c.1 31 (by simp)]; simp [rI]
  have r32 : (en (nt (gI gm2 31 (nI (hb + 2))) (k + 2) (nI mc)) mc op 0).1 32 = nI (k + 3) := by rw [en_c.1 32 (by simp)]; exact nt_h
  have r2 : (en (nt (gI gm2 31 (nI (hb + 2))) (k + 2) (nI mc)) mc op 0).2.1 34 (k + 2) = nI mc := by rw [en_c.2.1 34 (by simp)]; exact nt_t
  have ro : ∀ i, i < k + 2 → (en (nt (gI gm2 31 (nI (hb + 2))) (k + 2) (nI mc)) mc op 0).2.1 34 i = gm.2.1 34 i := fun i hi => by rw [en_c.2.1 34 (by simp), nt_o hi, rI2, C2.2.1 34 (by simp)]
  have r43 : (en (nt (gI gm2 31 (nI (hb + 2))) (k + 2) (nI mc)) mc op 0).2.1 43 = upd (gm.2.1 43) mc op := by rw [en_43, nt_c.2.1 43 (by simp), rI2, C2.2.1 43 (by simp)]
  have r44 : ∀ i, i < mc → (en (nt (gI gm2 31 (nI (hb + 2))) (k + 2) (nI mc)) mc op 0).2.1 44 i = gm.2.1 44 i := fun i hi => by rw [en_44, upd_o (by omega), nt_c.2.1 44 (by simp), rI2, C2.2.1 44 (by simp)]
  generalize en (nt (gI gm2 31 (nI (hb + 2))) (k + 2) (nI mc)) mc op 0 = gm3 at e76 R3 C3 r31 r32 r2 ro r43 r44
  obtain ⟨E2, rfl⟩ : ∃ e, E2 = e + 1 := ⟨E2 - 1, by omega⟩
  refine Pr.turn (fun c => m_top (x := te) (by omega) w31 R2.2.2.2.2.1 (by rw [C2.2.1 33 (by simp)]; exact q2) e76 c) (C3.mono (by simp) (by simp)) ?_
  rw [c34 hmc R2.2.2.2.2.2.2.2.1, m_ci_s]
  refine Pr.own (g1 := em (gI g 5 (nI (a + 1))) mc (kn + 1) 0) (em_c.mono (by simp) (by simp)) ?_
  have P3 : PE t (em (gI g 5 (nI (a + 1))) mc (kn + 1) 0) gm3 N s (a + 1) D v q (mc + 1) (fun i => if i ≤ mc then htc i else H) rk (fun i => ho i ∨ i = mc) (hb + 1) (k + 3) (y + 1) H E2 (b + 1) := ⟨R3, r31, by rw [C3.2.1 33 (by simp), C2.2.1 33 (by simp)]; exact q1, r32, by rw [C3.1 33 (by simp), C2.1 33 (by simp)]; exact p33, by
    have hx : ¬ mc + 1 ≤ mc := by omega
    simp only [hx, if_false], fun i hi => pr i (by omega), fun i hi w => w.elim (fun w => ph i (by omega) w) (fun w => by omega), by omega, by omega, by omega, by omega, by omega, by omega, by omega⟩
  refine Pr.ci (ih _ _ _ _ _ _ _ _ _ _ _ P3) ?_
  rintro w g4 gm4 E4 _ _ ⟨a4, m4, ht4, z2, rfl, hz2, R4, ⟨y31, y32, y33⟩, F4, yt, A4, D4, M4, t1, t2, t3, t4, t5, t6⟩
  have ha4 := R4.2.1
  have hm4 : m4 ≤ 600 := by omega
  have g30 : gm4.1 30 = -1 := R4.2.2.2.2.1
  have g37 : gm4.1 37 = nI m4 := R4.2.2.2.2.2.2.2.2.1
  have g33h : gm4.2.1 33 hb = re := by rw [F4.1 hb (by omega), C3.2.1 33 (by simp), C2.2.1 33 (by simp)]; exact q0
  obtain ⟨gy, e, hgy⟩ := s_rj (n := n) (gx := gI gm4 31 (nI hb)) (k := k) (y := y) (m := m4) (j := mc) (z1 := z) (z2 := z2) (p := tp t a) (x := re) (kn := kn) (by rcases hx with ⟨h1, _, _, h2⟩ | ⟨h1, _, _, h2⟩ <;> simp [h1, h2]) (by omega) (by omega) hm4 (by omega) hz hz2 (by omega) (by simp [rI, y32]) (by rw [rI2, F4.2.1 (k + 2) (by omega)]; exact r2) (by rw [rI2, F4.2.1 (k + 1) (by omega), ro _ (by omega)]; exact n1) (by rw [rI2, F4.2.1 k (by omega), ro _ (by omega)]; exact n0) (by simp [rI, y33]) (by rw [rI2]; exact yt) (by rw [rI2, F4.2.2 y (by omega), C3.2.1 35 (by simp), C2.2.1 35 (by simp)]; exact pt) (by simp [rI, g30]) (by simp [rI, g37])
  rw [c24 hkn' hz hz2, m_ci_s]
  have u0 : ht4 mc = H + 1 := by rw [t1 mc (by omega)]; simp only [Nat.le_refl, if_true]; exact pH
  have u1 : ht4 (mc + 1) = H := by
    have hx : ¬ mc + 1 ≤ mc := by omega
    rw [t1 (mc + 1) (by omega)]; simp only [hx, if_false]
  obtain ⟨f17, f18, f43, f44⟩ := A4 mc (by omega)
  rw [em_17, upd_s] at f17
  rw [r43, upd_s] at f43
  by_cases hf : fits kn z z2 = true
  · rw [if_pos hf] at hgy ⊢
    have r1 : ¬ nI (tyo kn) = (-1 : Int32) := by rw [ktyo]; decide
    have Cx : Chg [31, 32, 33, 34] [] gm4 gy := by rw [hgy]; exact (Chg.i 31 _ (by simp)).tr ((Chg.i 32 _ (by simp)).tr (rkB_c.mono (by simp) (by simp)))
    have x31 : gy.1 31 = nI hb := by rw [hgy, rkB_c.1 31 (by simp)]; simp [rI]
    have x32 : gy.1 32 = nI k := by rw [hgy]; exact rkB_32
    have x34 : gy.1 34 = nI D := by rw [hgy, rkB_c.1 34 (by simp)]; simp [rI]; exact R4.2.2.2.2.2.1
    have R5 : RR t g4 gy N s a4 D v q m4 ht4 rk (fun i => ho i ∨ i = mc) := R4.kp (Chg.rf _) (Cx.mono (by simp) (by simp)) R4.2.2.1 ha4 (R4.2.2.2.1.kp (fun x _ _ => Cx.1 x (by simp; omega))) x34
    have hl : LC (g4.2.1 20) (m4 + 1) q ht4 rk mc (g4.2.1 17 mc) (nI m4) (gy.2.1 43 mc) (nI m4) := by
      rw [f17, Cx.2.1 43 (by simp), f43]
      rcases hx with ⟨_, _, rfl, rfl⟩ | ⟨_, _, rfl, rfl⟩
      · exact Or.inr (Or.inr (Or.inr (Or.inr (Or.inr (Or.inr (Or.inr (Or.inl ⟨rfl, rfl, rfl, ⟨m4, by omega, rfl, by rw [t2, u0]⟩, by omega, by rw [u0, u1]⟩)))))))
      · exact Or.inr (Or.inr (Or.inr (Or.inr (Or.inr (Or.inr (Or.inl ⟨rfl, rfl, rfl, ⟨m4, by omega, rfl, by rw [t2, u0]⟩, by omega, by rw [u0, u1]⟩))))))
    have R6 := R5.aim (j := mc) (ho' := ho) (by omega) (fun i _ h1 h2 => h2.elim id (fun w => absurd w h1)) (Or.inr hl)
    have R7 : RR t (gS g4 18 (upd (g4.2.1 18) mc (nI m4))) (ty (gS gy 44 (upd (gy.2.1 44) mc (nI m4))) y 2) N s a4 D v q m4 ht4 rk ho := R6.kp (Chg.rf _) (ty_c.mono (by simp) (by simp)) R6.2.2.1 R6.2.1 (R6.2.2.2.1.kp (fun x _ _ => ty_c.1 x (by simp; omega))) (by rw [ty_c.1 34 (by simp)]; exact R6.2.2.2.2.2.1)
    rw [if_pos r1, c37 (m := m4) (by omega) hm4 R4.2.2.2.2.2.2.2.1, m_cv_s]
    have Cg18 : Chg [] [18] g4 (gS g4 18 (upd (g4.2.1 18) mc (nI m4))) := Chg.s 18 _ (by simp)
    have Cy44 : Chg [] [44] gy (gS gy 44 (upd (gy.2.1 44) mc (nI m4))) := Chg.s 44 _ (by simp)
    have CT : Chg [31, 32, 33, 34] [35, 44] gm4 (ty (gS gy 44 (upd (gy.2.1 44) mc (nI m4))) y 2) := (Cx.mono (by simp) (by simp)).tr ((Cy44.mono (by simp) (by simp)).tr (ty_c.mono (by simp) (by simp)))
    obtain ⟨E4, rfl⟩ : ∃ e, E4 = e + 1 := ⟨E4 - 1, by omega⟩
    refine Pr.turn (fun c => m_top (x := re) (by omega) y31 g30 g33h e c) (CT.mono (by simp) (by simp)) (Pr.own (g1 := gS g4 18 (upd (g4.2.1 18) mc (nI m4))) (Cg18.mono (by simp) (by simp)) ?_)
    refine hK _ _ _ a4 m4 ht4 R7 ⟨?_, ?_, ty_h⟩ ⟨fun i hi => ?_, fun i hi => ?_, fun i hi => ?_⟩ (by rw [ktyo]; exact ty_t) (fun i hi => ?_) ?_ ?_ (fun i hi => ?_) t2 (fun i h1 h2 => ?_) (by omega) (by omega) (by omega)
    · rw [ty_c.1 31 (by simp)]; exact x31
    · rw [ty_c.1 32 (by simp)]; exact x32
    · rw [CT.2.1 33 (by simp), F4.1 i (by omega), C3.2.1 33 (by simp), C2.2.1 33 (by simp)]
    · rw [CT.2.1 34 (by simp), F4.2.1 i (by omega), ro i (by omega)]
    · rw [ty_o hi, Cy44.2.1 35 (by simp), Cx.2.1 35 (by simp), F4.2.2 i (by omega), C3.2.1 35 (by simp), C2.2.1 35 (by simp)]
    · obtain ⟨x1, x2, x3, x4⟩ := A4 i (by omega)
      refine ⟨?_, ?_, ?_, ?_⟩
      · rw [Cg18.2.1 17 (by simp), x1, em_17, upd_o (by omega)]; rfl
      · have : (gS g4 18 (upd (g4.2.1 18) mc (nI m4))).2.1 18 = upd (g4.2.1 18) mc (nI m4) := by simp [rS]
        rw [this, upd_o (by omega), x2, em_18, upd_o (by omega)]; rfl
      · rw [CT.2.1 43 (by simp), x3, r43, upd_o (by omega)]
      · have : (gS gy 44 (upd (gy.2.1 44) mc (nI m4))).2.1 44 = upd (gy.2.1 44) mc (nI m4) := by simp [rS]
        rw [ty_c.2.1 44 (by simp), this, upd_o (by omega), Cx.2.1 44 (by simp), x4, r44 i hi]
    · exact (Chg.i 5 _ (by simp)).tr ((em_c.mono (by simp) (by simp)).tr (D4.tr (Cg18.mono (by simp) (by simp))))
    · exact (C2.mono (by simp) (by simp)).tr ((C3.mono (by simp) (by simp)).tr (M4.tr (CT.mono (by simp) (by simp))))
    · rw [t1 i (by omega)]; simp only [hi, if_true]
    · by_cases hi : i = mc
      · subst hi; rw [u0]; omega
      · have := t3 i (by omega) h2; omega
  · rw [if_neg hf] at hgy ⊢
    rw [if_neg (fun w => w rfl), c3 R4.1 b2, m_cv_f]
    refine Pr.no (p := tp t a) (by omega) (by omega) (fun c => m_top (x := re) (by omega) y31 g30 g33h e c) ?_ ?_ (Chg.i 6 _ (by simp)) (by simp [rI])
    · rw [hgy]
      exact (Chg.i 31 _ (by simp)).tr ((Chg.i 32 _ (by simp)).tr ((rkB_c.mono (by simp) (by simp)).tr ((Chg.i 30 _ (by simp)).tr ((Chg.s 44 _ (by simp)).tr (ty_c.mono (by simp) (by simp))))))
    · rw [ty_c.1 30 (by simp), hgy]; simp [rI, rS1]
end Opj
