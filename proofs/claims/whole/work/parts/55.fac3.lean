/-! every factor -/
section Fac3
variable {n N s a D v q m h k y H E : Nat} {t g gm : mG} {ht rk : Nat → Nat} {ho : Nat → Prop}
theorem Pr.same {r : mZ} {Q : Int32 → mG → mG → Nat → Prop} (hr : Pr n g gm E r (QI Q)) : Pr n g gm E (m_ci r (fun x g' => some (.inl (some (.int x)), g'))) (QI Q) :=
  Pr.ci hr (fun x _ _ _ _ _ hq => Pr.ret ⟨x, rfl, hq⟩)
theorem p_fac {rc : mRec} (hn : 700 ≤ n) (hP : PE t g gm N s a D v q m ht rk ho h k y H E 5)
    (h17 : ∀ (z : Nat) (kn mk : Int32), (z = 0 ∧ kn = 17 ∧ mk = 37) ∨ (z = 1 ∧ kn = 21 ∧ mk = 22) → t.2.1 12 a = kn + 1 → Pr n g gm E (rc 17 (nI z) mk (nI D) g) (QI (QE t g gm N s a D v q m ht rk ho h k y H E 5)))
    (h19 : t.2.1 12 a = 2 → t.2.1 12 (a + 1) = 4 → Pr n g gm E (rc 19 (nI a) (nI D) 0 (gI g 5 (nI (a + 1)))) (QI (QE t g gm N s a D v q m ht rk ho h k y H E 5)))
    (h22 : t.2.1 12 a = 28 → Pr n g gm E (rc 22 (nI D) 0 0 g) (QI (QE t g gm N s a D v q m ht rk ho h k y H E 5)))
    (h15 : ∀ (g gm : mG) (a h k y E : Nat), D + 1 ≤ 16 → PE t g gm N s a (D + 1) v q m ht rk ho h k y H E 0 → Pr n g gm E (rc 15 0 (nI (D + 1)) 0 g) (QI (QE t g gm N s a (D + 1) v q m ht rk ho h k y H E 0))) :
    Pr n g gm E (f16 n rc (nI D) g) (QI (QE t g gm N s a D v q m ht rk ho h k y H E 5)) := by
  have hP' := hP
  obtain ⟨hR, p31, p33, p32, py, pH, pr, ph, pm, pD, _, ph9, pk6, py4, pE⟩ := hP'
  obtain ⟨b1, b2, b3, b4, b5, b6, b7, b8⟩ := id hR
  have hs := b1.s6
  have hp := b1.tp b2
  have hm6 : m < 600 := by omega
  have w12 : (gI g 5 (nI (a + 1))).1 12 = nI m := by simp [rI]; exact b8.1
  have TR5 : TR t (gI g 5 (nI (a + 1))) gm N s := b1.kp (Chg.i 5 _ (by simp)) (Chg.rf _)
  have z26 : (gI gm 31 (nI h)).1 26 = kd (t.2.1 12 a) := by simp [rI, b4.1]
  have z27 : (gI gm 31 (nI h)).1 27 = nI (tp t a) := by simp [rI, b4.2.1]
  unfold f16
  rw [c1 b1 b2 b3, m_ci_s, b3, nI_1]
  by_cases m2 : t.2.1 12 a = 2
  · rw [if_pos m2]
    have hlt : a < s := b1.lt b2 m2 (by decide) (by decide)
    rw [c1 TR5 (a := a + 1) (by omega) (by simp [rI]), m_ci_s]
    by_cases m4 : t.2.1 12 (a + 1) = 4
    · rw [if_neg (fun z => z m4)]
      exact Pr.same (h19 m2 m4)
    · rw [if_pos m4]
      exact Pr.same (p_vari hn hP m2 m4)
  rw [if_neg m2]
  by_cases m3 : t.2.1 12 a = 3
  · rw [if_pos m3]
    have hlt : a < s := b1.lt b2 m3 (by decide) (by decide)
    have e76 : f76 n (nI a) (gI g 5 (nI (a + 1))) = some (.inl (some (.int (t.2.1 15 a))), gI g 5 (nI (a + 1))) := by
      obtain ⟨a1, a2, a3, ⟨c1, c2, c3, c4, c5, c6, c7⟩, a5, a6⟩ := TR5
      unfold f76
      rw [if_neg (nI_pos (by omega)), c1, a2.2.1, if_neg (nI_ge (by omega) (by omega)), if_neg (nI_in (by omega) (by decide)), nI_clamp (by omega), c7]
    rw [e76, m_ci_s, c34 hm6 w12, m_ci_s]
    refine p_const (z := 0) hn hP (by omega) hlt ?_
    have z29 : (gI gm 31 (nI h)).1 29 = t.2.1 15 a := by simp [rI]; exact b4.2.2.2 m3
    unfold f106
    rw [z26, m3, z29]
    simp (decide := true) only [reduceIte]
    rfl
  rw [if_neg m3]
  by_cases m4 : t.2.1 12 a = 4
  · rw [if_pos m4]
    exact p_paren hn hP m4 h15
  rw [if_neg m4]
  by_cases m18 : t.2.1 12 a = 18
  · rw [if_pos m18]
    exact Pr.same (h17 0 17 37 (Or.inl ⟨rfl, rfl, rfl⟩) (by rw [m18]; rfl))
  rw [if_neg m18]
  by_cases m22 : t.2.1 12 a = 22
  · rw [if_pos m22]
    exact Pr.same (h17 1 21 22 (Or.inr ⟨rfl, rfl, rfl⟩) (by rw [m22]; rfl))
  rw [if_neg m22]
  by_cases m28 : t.2.1 12 a = 28
  · rw [if_pos m28]
    exact Pr.same (h22 m28)
  rw [if_neg m28]
  by_cases m34 : t.2.1 12 a = 34
  · rw [if_pos m34]
    have hlt : a < s := b1.lt b2 m34 (by decide) (by decide)
    rw [c73 TR5 b2, m_ci_s, if_neg (fun z => z m34)]
    unfold f16_164
    rw [c34 hm6 w12, m_ci_s]
    refine p_const (z := 1) hn hP (by omega) hlt ?_
    unfold f106
    rw [z26, m34]
    simp (decide := true) only [reduceIte]
    unfold f106_153
    rfl
  rw [if_neg m34]
  by_cases m35 : t.2.1 12 a = 35
  · rw [if_pos m35]
    have hlt : a < s := b1.lt b2 m35 (by decide) (by decide)
    rw [c73 TR5 b2, m_ci_s, if_pos m34]
    unfold f16_164
    rw [c34 hm6 w12, m_ci_s]
    refine p_const (z := 1) hn hP (by omega) hlt ?_
    unfold f106
    rw [z26, m35]
    simp (decide := true) only [reduceIte]
    unfold f106_153
    rfl
  rw [if_neg m35, c3 b1 b2, m_cv_f]
  have no : ∀ c : Int32, c ≠ 0 → c ≠ 35 → c ≠ -1 → ¬ t.2.1 12 a = c + 1 → ¬ kd (t.2.1 12 a) = c := fun c h0 h1 h2 h3 z => h3 ((kd_iff h0 h1 h2).mp z)
  have e : f106 n (gI gm 31 (nI h)) = some (.inl none, gI (gI gm 31 (nI h)) 30 (nI (tp t a))) := by
    unfold f106
    rw [z26, if_neg (no 1 (by decide) (by decide) (by decide) m2), if_neg (no 2 (by decide) (by decide) (by decide) m3), if_neg (no 3 (by decide) (by decide) (by decide) m4), if_neg (no 17 (by decide) (by decide) (by decide) m18), if_neg (no 21 (by decide) (by decide) (by decide) m22), if_neg (no 27 (by decide) (by decide) (by decide) m28), if_neg (no 33 (by decide) (by decide) (by decide) m34), if_neg (no 34 (by decide) (by decide) (by decide) m35), z27, m103 (by omega) (by simp [rI, b5]), m_cv_s]
  exact Pr.no (p := tp t a) (by omega) (by omega) (fun c => m_top (x := 85) (by omega) p31 b5 p33 (s85 e) c) ((Chg.i 31 _ (by simp)).tr (Chg.i 30 _ (by simp))) (by simp [rI]) (Chg.i 6 _ (by simp)) (by simp [rI])
end Fac3
