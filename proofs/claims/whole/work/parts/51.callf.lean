/-! a factor that calls: the reference's symbols -/
section Cl
variable {n N s a D v q m h k y H E : Nat} {t g gm : mG} {ht rk : Nat → Nat} {ho : Nat → Prop}
theorem s88 {gx : mG} (hh : h + 3 < 900) (e31 : gx.1 31 = nI (h + 1)) : f101 n 88 gx = some (.inl none, if gx.1 26 = 4 then gx else pu (pu (pu gx (h + 1) 90) (h + 2) 91) (h + 3) 60) := by
  unfold f101 f105
  simp (decide := true) only [reduceIte]
  by_cases hk : gx.1 26 = 4
  · rw [if_pos hk, if_pos hk, m_cv_s]
  · rw [if_neg hk, if_neg hk, m108_3 (h := h + 1) (by omega) e31 (by decide) (by decide), m_cv_s, m_cv_s]
theorem s90 {gx : mG} (hh : h + 4 < 900) (e31 : gx.1 31 = nI (h + 1)) : f101 n 90 gx = some (.inl none, if gx.1 26 = 9 then pu (pu (pu (pu gx (h + 1) 90) (h + 2) 91) (h + 3) 60) (h + 4) 9 else gx) := by
  unfold f101 f105
  simp (decide := true) only [reduceIte]
  by_cases hk : gx.1 26 = 9
  · rw [if_neg (fun z => z hk), if_pos hk, m108_4 (h := h + 1) (by omega) e31 (by decide) (by decide) (by decide), m_cv_s, m_cv_s]
  · rw [if_pos hk, if_neg hk, m_cv_s]
theorem s91 {gx : mG} {c p j : Nat} (hk : k + 2 < 600) (hy : y < 400) (hc : c ≤ 1) (hp : p < 2 ^ 31) (e32 : gx.1 32 = nI (k + 3)) (en1 : gx.2.1 34 (k + 1) = nI p) (en2 : gx.2.1 34 (k + 2) = nI j) (e33 : gx.1 33 = nI (y + 1)) (et : gx.2.1 35 y = nI (c + 1)) (e30 : gx.1 30 = -1) :
    f101 n 91 gx = some (.inl none, gS (if c = 0 then gI gx 33 (nI y) else gI (gI gx 33 (nI y)) 30 (nI p)) 34 (upd (gx.2.1 34) (k + 2) (nI (j + 1)))) := by
  have B := m116 (n := n) (gx := gx) (c := c) (z := 0) (p := p) hy hc (by omega) hp e33 et e30
  have a2 : nI (k + 3) - 2 = nI (k + 1) := by rw [show (2 : Int32) = nI 2 from rfl, pk_sub (by omega), show k + 3 - 2 = k + 1 by omega]
  have i32 : (if c = 0 then gI gx 33 (nI y) else gI (gI gx 33 (nI y)) 30 (nI p)).1 32 = nI (k + 2 + 1) := by
    by_cases h : c = 0
    · rw [if_pos h]; simp [rI, e32]
    · rw [if_neg h]; simp [rI, e32]
  have i34 : (if c = 0 then gI gx 33 (nI y) else gI (gI gx 33 (nI y)) 30 (nI p)).2.1 34 = gx.2.1 34 := by
    by_cases h : c = 0
    · rw [if_pos h]; rfl
    · rw [if_neg h]; rfl
  unfold f101 f105
  simp (decide := true) only [reduceIte]
  rw [e32, a2, if_neg (nI_in (by omega) (by decide)), nI_clamp (by omega), en1, show (1 : Int32) = nI (0 + 1) from rfl, B, m_cv_s, i32, show nI (0 + 1) = (1 : Int32) from rfl, nI_pred, if_neg (nI_in (by omega) (by decide)), if_neg (nI_in (by omega) (by decide)), nI_clamp (by omega), i34, en2, nI_1, m_cv_s]
theorem s87n {gx : mG} {p : Nat} (hp : p < 2 ^ 31) (e26 : ¬ gx.1 26 = 4) (e27 : gx.1 27 = nI p) (e30 : gx.1 30 = -1) : f101 n 87 gx = some (.inl none, gI gx 30 (nI p)) := by
  unfold f101 f105 f118
  simp (decide := true) only [reduceIte]
  rw [if_neg e26, e27, m103 hp e30, m_cv_s, m_cv_s, m_cv_s]
theorem s87 {gx gy : mG} {p j f P : Nat} (hk : k + 2 < 600) (hy : y < 400) (hm : m < 600) (hf : f < 8) (hj : j < 2 ^ 31) (hP : P < 2 ^ 31) (hp : p < 2 ^ 31) (e26 : gx.1 26 = 4) (e32 : gx.1 32 = nI (k + 3)) (en0 : gx.2.1 34 k = nI f) (en1 : gx.2.1 34 (k + 1) = nI p) (en2 : gx.2.1 34 (k + 2) = nI j) (e39 : gx.2.1 39 f = nI P) (e30 : gx.1 30 = -1) (e34 : gx.1 34 = nI (D + 1)) (e33 : gx.1 33 = nI y) (e37 : gx.1 37 = nI m)
    (ea : f92 n (gI (if j = P then gI (gI (gI gx 32 (nI (k + 2))) 32 (nI (k + 1))) 32 (nI k) else gI (gI (gI (gI gx 32 (nI (k + 2))) 32 (nI (k + 1))) 32 (nI k)) 30 (nI p)) 34 (nI D)) = some (.inl none, gy)) (Cy : Chg [26, 27, 28, 29] [] (gI (if j = P then gI (gI (gI gx 32 (nI (k + 2))) 32 (nI (k + 1))) 32 (nI k) else gI (gI (gI (gI gx 32 (nI (k + 2))) 32 (nI (k + 1))) 32 (nI k)) 30 (nI p)) 34 (nI D)) gy) :
    f101 n 87 gx = some (.inl none, ty (en gy m 8 (nI f)) y (nI (0 + 1))) := by
  have i1 : (gI gx 32 (nI (k + 2))).1 32 = nI (k + 1 + 1) := by simp [rI]
  have i2 : (gI (gI gx 32 (nI (k + 2))) 32 (nI (k + 1))).1 32 = nI (k + 1) := by simp [rI]
  have hin : ¬ (nI f < 0 ∨ 9 ≤ Int32.toNatClampNeg (nI f)) := nI_in (c := f) (N := 9) (by omega) (by decide)
  have j34 : (if j = P then gI (gI (gI gx 32 (nI (k + 2))) 32 (nI (k + 1))) 32 (nI k) else gI (gI (gI (gI gx 32 (nI (k + 2))) 32 (nI (k + 1))) 32 (nI k)) 30 (nI p)).1 34 = nI (D + 1) := by
    by_cases h : j = P
    · rw [if_pos h]; simp [rI, e34]
    · rw [if_neg h]; simp [rI, e34]
  have j37 : gy.1 37 = nI m := by
    rw [Cy.1 37 (by simp)]
    by_cases h : j = P
    · rw [if_pos h]; simp [rI, e37]
    · rw [if_neg h]; simp [rI, e37]
  have j33 : (en gy m 8 (nI f)).1 33 = nI y := by
    rw [en_c.1 33 (by simp), Cy.1 33 (by simp)]
    by_cases h : j = P
    · rw [if_pos h]; simp [rI, e33]
    · rw [if_neg h]; simp [rI, e33]
  have T : f118_47 n (nI f) (if j = P then gI (gI (gI gx 32 (nI (k + 2))) 32 (nI (k + 1))) 32 (nI k) else gI (gI (gI (gI gx 32 (nI (k + 2))) 32 (nI (k + 1))) 32 (nI k)) 30 (nI p)) = some (.inl none, ty (en gy m 8 (nI f)) y (nI (0 + 1))) := by
    unfold f118_47
    rw [j34, nI_pred, ea, m_cv_s, m109 hm j37, m_cv_s, show (1 : Int32) = nI (0 + 1) from rfl, m110 hy j33, m_cv_s]
  unfold f101 f105 f118
  simp (decide := true) only [reduceIte]
  rw [if_pos e26, m115 (k := k + 2) (by omega) e32, m_ci_s, en2, m115 (k := k + 1) (by omega) i1, m_ci_s, show (gI gx 32 (nI (k + 2))).2.1 34 (k + 1) = nI p from en1, m115 (k := k) (by omega) i2, m_ci_s, show (gI (gI gx 32 (nI (k + 2))) 32 (nI (k + 1))).2.1 34 k = nI f from en0, if_neg hin, nI_clamp (by omega), show (gI (gI (gI gx 32 (nI (k + 2))) 32 (nI (k + 1))) 32 (nI k)).2.1 39 f = nI P from e39]
  by_cases hjP : j = P
  · rw [if_pos hjP] at T
    rw [if_pos (by rw [hjP]), T, m_cv_s, m_cv_s]
  · rw [if_neg hjP] at T
    rw [if_neg (fun z => hjP ((nI_eq hj hP).mp z)), m103 hp (by simp [rI, e30]), m_cv_s, T, m_cv_s, m_cv_s]
end Cl
