/-! a factor that calls: the end of its brackets -/
/-- behind j arguments -/
def CLs (t g0 gm0 g gm : mG) (N s a0 D v q m : Nat) (ht rk : Nat → Nat) (ho : Nat → Prop) (h k y H a mc j f : Nat) (htc : Nat → Nat) : Prop :=
  RR t g gm N s a (D + 1) v q mc htc rk ho ∧ gm.1 32 = nI (k + 3) ∧ gm.1 33 = nI y ∧ gm.2.1 33 h = 87 ∧ gm.2.1 34 k = nI f ∧ gm.2.1 34 (k + 1) = nI (tp t a0) ∧ gm.2.1 34 (k + 2) = nI j ∧ FR gm0 gm h k y ∧ AG g0 gm0 g gm m ∧
  Chg [5, 6, 12] [17, 18] g0 g ∧ Chg [26, 27, 28, 29, 30, 31, 32, 33, 34, 37] [33, 34, 35, 43, 44] gm0 gm ∧ (∀ i, i ≤ m → htc i = ht i) ∧ htc mc = H + j ∧ (∀ i, m ≤ i → i ≤ mc → htc i ≤ H + j + 5 * (15 - D) + 3) ∧ m + j ≤ mc ∧ mc + a0 + 2 ≤ m + a
section Cl2
variable {n N s a0 D v q m h k y H E E0 : Nat} {t g0 gm0 : mG} {ht rk : Nat → Nat} {ho : Nat → Prop}
theorem p_cend {rc : mRec} {g gm : mG} {a mc j f : Nat} {htc : Nat → Nat} (hn : 700 ≤ n) (hL : CLs t g0 gm0 g gm N s a0 D v q m ht rk ho h k y H a mc j f htc) (h31 : gm.1 31 = nI (h + 1)) (hf : f < q) (hD : D < 16) (ha0 : a0 ≤ s) (pm : m < a0) (pr : ∀ i, m ≤ i → rk i = 0) (hh : h < 890) (hk : k + 3 < 600) (hy : y + 1 < 400) (hE0 : 18031 ≤ E0 + 30 * a0) (hE : E0 + 30 * a0 + 20 ≤ E + 30 * a) :
    Pr n g gm E (f19_111 n rc (nI a0) (nI f) (nI j) g) (QI (QE t g0 gm0 N s a0 D v q m ht rk ho h k y H E0 5)) := by
  obtain ⟨hR, l32, l33, l87, ln0, ln1, ln2, lF, lA, lC, lM, l1, l2, l3, l4, l5⟩ := hL
  obtain ⟨b1, b2, b3, b4, b5, b6, b7, b8⟩ := id hR
  have hs := b1.s6
  have hp := b1.tp b2
  have hp0 := b1.tp ha0
  have hmc : mc < 600 := by omega
  obtain ⟨f1', f2', ee, P, f3', f4', f5', f6', f7'⟩ := b8.2.2.2.1 f hf
  have hq := b7.2.1
  have g37 : gm.1 37 = nI mc := b8.2.1
  unfold f19_111
  by_cases hm : t.2.1 12 a = 5
  · have hlt : a < s := b1.lt b2 hm (by decide) (by decide)
    have e26 : (gI gm 31 (nI h)).1 26 = 4 := by simp [rI, b4.1, hm]; decide
    have Cz : Chg [30, 31, 32, 34] [] gm (gI (if j = P then gI (gI (gI (gI gm 31 (nI h)) 32 (nI (k + 2))) 32 (nI (k + 1))) 32 (nI k) else gI (gI (gI (gI (gI gm 31 (nI h)) 32 (nI (k + 2))) 32 (nI (k + 1))) 32 (nI k)) 30 (nI (tp t a0))) 34 (nI D)) := by
      by_cases hjP : j = P
      · rw [if_pos hjP]; exact (Chg.i 31 _ (by simp)).tr ((Chg.i 32 _ (by simp)).tr ((Chg.i 32 _ (by simp)).tr ((Chg.i 32 _ (by simp)).tr (Chg.i 34 _ (by simp)))))
      · rw [if_neg hjP]; exact (Chg.i 31 _ (by simp)).tr ((Chg.i 32 _ (by simp)).tr ((Chg.i 32 _ (by simp)).tr ((Chg.i 32 _ (by simp)).tr ((Chg.i 30 _ (by simp)).tr (Chg.i 34 _ (by simp))))))
    obtain ⟨gy, e1, e2, e3⟩ := m_adv (n := n) hn (b1.kp (Chg.rf _) (Cz.mono (by simp) (by simp))) hlt (by rw [Cz.1 28 (by simp)]; exact b4.2.2.1)
    have e := s87 (n := n) (gx := gI gm 31 (nI h)) (gy := gy) (k := k) (y := y) (m := mc) (D := D) (p := tp t a0) (j := j) (f := f) (P := P) (by omega) (by omega) hmc (by omega) (by omega) (by omega) (by omega) e26 (by simp [rI, l32]) ln0 ln1 ln2 (by rw [rI2, f2', f4']) (by simp [rI, b5]) (by simp [rI, b6]) (by simp [rI, l33]) (by simp [rI, g37]) e1 e3
    have Cy : Chg [26, 27, 28, 29, 30, 31, 32, 34] [] gm gy := (Cz.mono (by simp) (by simp)).tr (e3.mono (by simp) (by simp))
    have CT : Chg [26, 27, 28, 29, 30, 31, 32, 33, 34, 37] [35, 43, 44] gm (ty (en gy mc 8 (nI f)) y (nI (0 + 1))) := (Cy.mono (by simp) (by simp)).tr ((en_c.mono (by simp) (by simp)).tr (ty_c.mono (by simp) (by simp)))
    have ef6 : f6 n 5 g = some (.inl none, gI g 5 (nI (a + 1))) := by
      unfold f6 f6_16
      rw [c1 b1 b2 b3, m_ci_s, if_pos hm, b3, nI_1]
    have e35 : f35_3 n (nI f) (gI g 5 (nI (a + 1))) = some (.inl (some (.int (nI P))), gI g 5 (nI (a + 1))) := by
      have w13 : (gI g 5 (nI (a + 1))).1 13 = nI q := by simp [rI]; exact b7.2.2.2.2.1
      unfold f35_3 f36_3
      rw [if_neg (nI_pos (by omega)), w13, if_neg (nI_ge (by omega) (by omega)), m_ci_s, if_neg (by decide), if_neg (nI_in (by omega) (by decide)), nI_clamp (by omega), rI2, f4']
    rw [ef6, m_cv_s, e35, m_ci_s]
    by_cases hjP : j = P
    · subst hjP
      rw [if_pos rfl]
      rw [if_pos rfl] at Cz e1 e3
      have y30 : gy.1 30 = -1 := by rw [e3.1 30 (by simp)]; simp [rI, b5]
      have y31 : gy.1 31 = nI h := by rw [e3.1 31 (by simp)]; simp [rI]
      have y32 : gy.1 32 = nI k := by rw [e3.1 32 (by simp)]; simp [rI]
      have y34 : gy.1 34 = nI D := by rw [e3.1 34 (by simp)]; simp [rI]
      have Cy' : Chg MT [33, 34, 35] gm gy := ⟨fun i hi => by
        by_cases h30 : i = 30
        · rw [h30, y30, b5]
        · exact Cy.1 i (by simp at hi ⊢; omega), fun x hx => Cy.2.1 x (by simp), Cy.2.2⟩
      have R1 : RR t (gI g 5 (nI (a + 1))) gy N s (a + 1) D v q mc htc rk ho := hR.kp (Chg.i 5 _ (by simp)) Cy' (by simp [rI]) (by omega) e2 y34
      have hl : LC ((gI g 5 (nI (a + 1))).2.1 20) (mc + 2) q (fun i => if i ≤ mc then htc i else H + 1) rk mc 38 (nI f) 8 (nI f) := Or.inr (Or.inr (Or.inr (Or.inr (Or.inr (Or.inr (Or.inr (Or.inr (Or.inr (Or.inr (Or.inl ⟨rfl, rfl, rfl, ⟨f, j, hf, rfl, f4', f6', by
        have hx : ¬ mc + 1 ≤ mc := by omega
        simp only [hx, if_false, Nat.le_refl, if_true, l2]; omega⟩, by
        have hx : ¬ mc + 1 ≤ mc := by omega
        simp only [hx, if_false]; omega, pr (mc + 1) (by omega), by omega⟩))))))))))
      have R2 := fin_add (D := D) (y := y) (w := nI (0 + 1)) R1 (Chg.rf _) y34 hmc (fun i hi => by simp [hi]) hl
      unfold f19_134
      rw [c34 hmc R1.2.2.2.2.2.2.2.1, m_ci_s]
      have Cm : Chg [26, 27, 28, 29, 30, 31, 32, 33, 34, 37] [33, 34, 35, 43, 44] gm0 (ty (en gy mc 8 (nI f)) y (nI (0 + 1))) := lM.tr (CT.mono (by simp) (by simp))
      have Cg : Chg [5, 6, 12] [17, 18] g0 (em (gI g 5 (nI (a + 1))) mc 38 (nI f)) := lC.tr ((Chg.i 5 _ (by simp)).tr (em_c.mono (by simp) (by simp)))
      have v5 : lv 5 = 0 := rfl
      refine Or.inl ⟨_, _, _, 1, rfl, fun c => m_top (x := 87) (by omega) h31 b5 l87 e c, by omega, (Chg.i 5 _ (by simp)).tr (em_c.mono (by simp) (by simp)), CT.mono (by simp) (by simp), 0, rfl, a + 1, mc + 1, _, 0, rfl, by omega, R2, ⟨?_, ?_, ty_h⟩, ⟨fun i hi => ?_, fun i hi => ?_, fun i hi => ?_⟩, ty_t, fun i hi => ?_, Cg, Cm, fun i hi => ?_, ?_, fun i h1 h2 => ?_, by omega, by omega, by omega⟩
      · rw [ty_c.1 31 (by simp), en_c.1 31 (by simp)]; exact y31
      · rw [ty_c.1 32 (by simp), en_c.1 32 (by simp)]; exact y32
      · rw [CT.2.1 33 (by simp)]; exact lF.1 i hi
      · rw [CT.2.1 34 (by simp)]; exact lF.2.1 i hi
      · rw [ty_o hi, en_c.2.1 35 (by simp), Cy.2.1 35 (by simp)]; exact lF.2.2 i hi
      · obtain ⟨x1, x2, x3, x4⟩ := lA i hi
        refine ⟨?_, ?_, ?_, ?_⟩
        · rw [em_17, upd_o (by omega)]; exact x1
        · rw [em_18, upd_o (by omega)]; exact x2
        · rw [ty_c.2.1 43 (by simp), en_43, upd_o (by omega), Cy.2.1 43 (by simp)]; exact x3
        · rw [ty_c.2.1 44 (by simp), en_44, upd_o (by omega), Cy.2.1 44 (by simp)]; exact x4
      · simp only [show i ≤ mc by omega, if_true]; exact l1 i hi
      · have hx : ¬ mc + 1 ≤ mc := by omega
        simp only [hx, if_false]
      · by_cases hi : i ≤ mc
        · simp only [hi, if_true]; have := l3 i h1 hi; omega
        · simp only [hi, if_false]; omega
    · rw [if_neg hjP] at Cz e1 e3
      have y30 : (ty (en gy mc 8 (nI f)) y (nI (0 + 1))).1 30 = nI (tp t a0) := by rw [ty_c.1 30 (by simp), en_c.1 30 (by simp), e3.1 30 (by simp)]; simp [rI]
      rw [if_neg (fun z => hjP ((nI_eq (by omega) (by omega)).mp z)), c3 (b1.kp (Chg.i 5 _ (by simp)) (Chg.rf _)) ha0, m_cv_f]
      exact Pr.no (p := tp t a0) (by omega) (by omega) (fun c => m_top (x := 87) (by omega) h31 b5 l87 e c) (CT.mono (by simp) (by simp)) y30 ((Chg.i 5 _ (by simp)).tr (Chg.i 6 _ (by simp))) (by simp [rI])
  · have e26 : ¬ (gI gm 31 (nI h)).1 26 = 4 := fun z => hm (by
      have z' : kd (t.2.1 12 a) = 4 := by rw [← b4.1]; simpa [rI] using z
      exact (kd_iff (by decide) (by decide) (by decide)).mp z')
    have e := s87n (n := n) (gx := gI gm 31 (nI h)) (p := tp t a) (by omega) e26 (by simp [rI, b4.2.1]) (by simp [rI, b5])
    have ef6 : f6 n 5 g = some (.inr 0, gI g 6 (nI (tp t a))) := by
      unfold f6
      rw [c1 b1 b2 b3, m_ci_s, if_neg hm, b3, c3 b1 b2, m_cv_f]
    rw [ef6, m_cv_f]
    exact Pr.no (p := tp t a) (by omega) (by omega) (fun c => m_top (x := 87) (by omega) h31 b5 l87 e c) ((Chg.i 31 _ (by simp)).tr (Chg.i 30 _ (by simp))) (by simp [rI]) (Chg.i 6 _ (by simp)) (by simp [rI])
end Cl2
