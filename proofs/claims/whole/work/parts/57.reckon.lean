/-! signs between parts: types, and the reference's reckoning -/
/-- such types suit such a sign -/
def fits (kn : Int32) (z1 z2 : Nat) : Bool := if kn = 12 ∨ kn = 13 then decide (z1 = z2) else if kn = 22 ∨ kn = 23 then decide (z1 = 1 ∧ z2 = 1) else decide (z1 = 0 ∧ z2 = 0)
def tyo (kn : Int32) : Nat := if kn = 12 ∨ kn = 13 ∨ kn = 14 ∨ kn = 15 ∨ kn = 22 ∨ kn = 23 then 1 else 0
section Rk
variable {n m k y : Nat} {g gx : mG}
theorem c24 {kn : Int32} {z1 z2 : Nat} (hkn : kn = 12 ∨ kn = 13 ∨ kn = 14 ∨ kn = 15 ∨ kn = 16 ∨ kn = 17 ∨ kn = 18 ∨ kn = 19 ∨ kn = 20 ∨ kn = 22 ∨ kn = 23) (h1 : z1 ≤ 1) (h2 : z2 ≤ 1) : f24 n (kn + 1) (nI z1) (nI z2) g = some (.inl (some (.int (if fits kn z1 z2 then nI (tyo kn) else -1))), g) := by
  have a1 : z1 = 0 ∨ z1 = 1 := by omega
  have a2 : z2 = 0 ∨ z2 = 1 := by omega
  unfold f24 tyo
  rcases hkn with rfl | rfl | rfl | rfl | rfl | rfl | rfl | rfl | rfl | rfl | rfl <;> rcases a1 with rfl | rfl <;> rcases a2 with rfl | rfl <;> simp (decide := true) only [reduceIte] <;> rfl
def rkB (gx : mG) (k y : Nat) : mG := gI (gI (gI (gI gx 32 (nI (k + 1))) 32 (nI k)) 33 (nI (y + 1))) 33 (nI y)
theorem rkB_c : Chg [32, 33] [] gx (rkB gx k y) := (Chg.i 32 _ (by simp)).tr ((Chg.i 32 _ (by simp)).tr ((Chg.i 33 _ (by simp)).tr (Chg.i 33 _ (by simp))))
theorem rkB_32 : (rkB gx k y).1 32 = nI k := by simp [rkB, rI]
theorem rkB_33 : (rkB gx k y).1 33 = nI y := by simp [rkB, rI]
theorem m122_110 {x : Int32} {kn : Int32} (hx : x = 80 ∨ x = 83) (hy : y < 400) (hm : m < 600) (e33 : gx.1 33 = nI y) (e37 : gx.1 37 = nI m) : f122_110 n x (-1) kn gx = some (.inl none, ty (en gx m 4 kn) y (if x = 83 then 1 else 2)) := by
  have j33 : (en gx m 4 kn).1 33 = nI y := by rw [en_c.1 33 (by simp)]; exact e33
  unfold f122_110 f122_129 f122_141
  rw [if_pos (by decide), m109 hm e37, m_cv_s]
  rcases hx with rfl | rfl
  · rw [if_pos (by decide), m110 hy j33, m_cv_s]; rfl
  · rw [if_neg (by decide), m110 hy j33, m_cv_s]; rfl
theorem s_rk {x kn : Int32} {z1 z2 p : Nat} (hx : (x = 80 ∧ (kn = 12 ∨ kn = 13 ∨ kn = 14 ∨ kn = 15)) ∨ (x = 83 ∧ (kn = 16 ∨ kn = 17 ∨ kn = 18 ∨ kn = 19 ∨ kn = 20))) (hk : k + 1 < 600) (hy : y + 1 < 400) (hm : m < 600) (h1 : z1 ≤ 1) (h2 : z2 ≤ 1) (hp : p < 2 ^ 31) (e32 : gx.1 32 = nI (k + 2)) (en1 : gx.2.1 34 (k + 1) = nI p) (en0 : gx.2.1 34 k = kn) (e33 : gx.1 33 = nI (y + 2)) (et2 : gx.2.1 35 (y + 1) = nI (z2 + 1)) (et1 : gx.2.1 35 y = nI (z1 + 1)) (e30 : gx.1 30 = -1) (e37 : gx.1 37 = nI m) :
    f101 n x gx = some (.inl none, ty (en (if fits kn z1 z2 then rkB gx k y else gI (rkB gx k y) 30 (nI p)) m 4 kn) y (nI (tyo kn + 1))) := by
  have hx' : x = 80 ∨ x = 83 := by rcases hx with ⟨h, _⟩ | ⟨h, _⟩ <;> simp [h]
  have i1 : (gI gx 32 (nI (k + 1))).1 32 = nI (k + 1) := by simp [rI]
  have i2 : (gI (gI gx 32 (nI (k + 1))) 32 (nI k)).1 33 = nI (y + 1 + 1) := by simp [rI, e33]
  have i3 : (gI (gI (gI gx 32 (nI (k + 1))) 32 (nI k)) 33 (nI (y + 1))).1 33 = nI (y + 1) := by simp [rI]
  have B1 := m122_110 (n := n) (gx := rkB gx k y) (kn := kn) (m := m) (y := y) hx' (by omega) hm rkB_33 (by rw [rkB_c.1 37 (by simp)]; exact e37)
  have B2 := m122_110 (n := n) (gx := gI (rkB gx k y) 30 (nI p)) (kn := kn) (m := m) (y := y) hx' (by omega) hm (by rw [rI, if_neg (by decide)]; exact rkB_33) (by rw [rI, if_neg (by decide), rkB_c.1 37 (by simp)]; exact e37)
  have B3 : f122_105 n x (-1) (nI p) kn (rkB gx k y) = some (.inl none, ty (en (gI (rkB gx k y) 30 (nI p)) m 4 kn) y (if x = 83 then 1 else 2)) := by
    unfold f122_105
    rw [m103 hp (by rw [rkB_c.1 30 (by simp)]; exact e30), m_cv_s, B2]
  have A : f122_20 n x (-1) gx = some (.inl none, ty (en (if fits kn z1 z2 then rkB gx k y else gI (rkB gx k y) 30 (nI p)) m 4 kn) y (nI (tyo kn + 1))) := by
    unfold f122_20
    rw [m115 (k := k + 1) (by omega) e32, m_ci_s, en1, m115 (k := k) (by omega) i1, m_ci_s, show (gI gx 32 (nI (k + 1))).2.1 34 k = kn from en0, m117 (y := y + 1) (by omega) i2, m_ci_s, show (gI (gI gx 32 (nI (k + 1))) 32 (nI k)).2.1 35 (y + 1) = nI (z2 + 1) from et2, m117 (y := y) (by omega) i3, m_ci_s, show (gI (gI (gI gx 32 (nI (k + 1))) 32 (nI k)) 33 (nI (y + 1))).2.1 35 y = nI (z1 + 1) from et1]
    change (if kn = 12 then f122_58 n x (-1) (nI p) kn (nI (z2 + 1)) (nI (z1 + 1)) (rkB gx k y) else if ¬ kn = 13 then f122_63 n x (-1) (nI p) kn (nI (z2 + 1)) (nI (z1 + 1)) 0 (rkB gx k y) else f122_58 n x (-1) (nI p) kn (nI (z2 + 1)) (nI (z1 + 1)) (rkB gx k y)) = _
    have a1 : z1 = 0 ∨ z1 = 1 := by omega
    have a2 : z2 = 0 ∨ z2 = 1 := by omega
    unfold f122_58 f122_63 f122_74
    rcases hx with ⟨rfl, hk'⟩ | ⟨rfl, hk'⟩
    · rcases hk' with rfl | rfl | rfl | rfl <;> rcases a1 with rfl | rfl <;> rcases a2 with rfl | rfl <;> simp (decide := true) only [reduceIte] <;> first | (rw [B1]; rfl) | (rw [B3]; rfl)
    · rcases hk' with rfl | rfl | rfl | rfl | rfl <;> rcases a1 with rfl | rfl <;> rcases a2 with rfl | rfl <;> simp (decide := true) only [reduceIte] <;> first | (rw [B1]; rfl) | (rw [B3]; rfl)
  rcases hx' with rfl | rfl
  · unfold f101 f101_88 f119 f122
    simp (decide := true) only [reduceIte]
    rw [A]; rfl
  · unfold f101 f101_88 f119 f122
    simp (decide := true) only [reduceIte]
    rw [A]; rfl
/-- the jump of or, and -/
theorem s_tstj {x op : Int32} (hx : (x = 73 ∧ op = 6) ∨ (x = 76 ∧ op = 5)) (hk : k < 600) (hm : m < 600) (e32 : gx.1 32 = nI k) (e37 : gx.1 37 = nI m) : f101 n x gx = some (.inl none, en (nt gx k (nI m)) m op 0) := by
  have j37 : (nt gx k (nI m)).1 37 = nI m := by rw [nt_c.1 37 (by simp)]; exact e37
  have T : f121 n op gx = some (.inl none, en (nt gx k (nI m)) m op 0) := by
    unfold f121
    rw [e37, m107 hk e32, m_cv_s, m109 hm j37, m_cv_s]
  rcases hx with ⟨rfl, rfl⟩ | ⟨rfl, rfl⟩
  · unfold f101 f101_88 f119
    simp (decide := true) only [reduceIte]
    rw [T]; rfl
  · unfold f101 f101_88 f119
    simp (decide := true) only [reduceIte]
    rw [T]; rfl
theorem m122_110j {x kn : Int32} {j : Nat} (hx : x = 72 ∨ x = 77) (hy : y < 400) (hm : m ≤ 600) (hj : j < m) (e33 : gx.1 33 = nI y) (e37 : gx.1 37 = nI m) : f122_110 n x (nI j) kn gx = some (.inl none, ty (gS gx 44 (upd (gx.2.1 44) j (nI m))) y 2) := by
  have j33 : (gS gx 44 (upd (gx.2.1 44) j (nI m))).1 33 = nI y := e33
  unfold f122_110 f122_129 f122_141
  rw [if_neg (nI_pos (by omega)), m123 hj hm e37, m_cv_s]
  rcases hx with rfl | rfl
  · rw [if_pos (by decide), m110 hy j33, m_cv_s]
  · rw [if_pos (by decide), m110 hy j33, m_cv_s]
theorem s_rj {x kn : Int32} {z1 z2 p j : Nat} (hx : (x = 72 ∧ kn = 23) ∨ (x = 77 ∧ kn = 22)) (hk : k + 2 < 600) (hy : y + 1 < 400) (hm : m ≤ 600) (hj : j < m) (h1 : z1 ≤ 1) (h2 : z2 ≤ 1) (hp : p < 2 ^ 31) (e32 : gx.1 32 = nI (k + 3)) (en2 : gx.2.1 34 (k + 2) = nI j) (en1 : gx.2.1 34 (k + 1) = nI p) (en0 : gx.2.1 34 k = kn) (e33 : gx.1 33 = nI (y + 2)) (et2 : gx.2.1 35 (y + 1) = nI (z2 + 1)) (et1 : gx.2.1 35 y = nI (z1 + 1)) (e30 : gx.1 30 = -1) (e37 : gx.1 37 = nI m) :
    ∃ gy, f101 n x gx = some (.inl none, ty (gS gy 44 (upd (gy.2.1 44) j (nI m))) y 2) ∧ gy = (if fits kn z1 z2 then rkB (gI gx 32 (nI (k + 2))) k y else gI (rkB (gI gx 32 (nI (k + 2))) k y) 30 (nI p)) := by
  refine ⟨_, ?_, rfl⟩
  have hx' : x = 72 ∨ x = 77 := by rcases hx with ⟨h, _⟩ | ⟨h, _⟩ <;> simp [h]
  have i0 : (gI gx 32 (nI (k + 2))).1 32 = nI (k + 1 + 1) := by simp [rI]
  have i1 : (gI (gI gx 32 (nI (k + 2))) 32 (nI (k + 1))).1 32 = nI (k + 1) := by simp [rI]
  have i2 : (gI (gI (gI gx 32 (nI (k + 2))) 32 (nI (k + 1))) 32 (nI k)).1 33 = nI (y + 1 + 1) := by simp [rI, e33]
  have i3 : (gI (gI (gI (gI gx 32 (nI (k + 2))) 32 (nI (k + 1))) 32 (nI k)) 33 (nI (y + 1))).1 33 = nI (y + 1) := by simp [rI]
  have q37 : (rkB (gI gx 32 (nI (k + 2))) k y).1 37 = nI m := by rw [rkB_c.1 37 (by simp)]; simp [rI, e37]
  have q30 : (rkB (gI gx 32 (nI (k + 2))) k y).1 30 = -1 := by rw [rkB_c.1 30 (by simp)]; simp [rI, e30]
  have B1 := m122_110j (n := n) (gx := rkB (gI gx 32 (nI (k + 2))) k y) (kn := kn) (m := m) (y := y) (j := j) hx' (by omega) hm hj rkB_33 q37
  have B2 := m122_110j (n := n) (gx := gI (rkB (gI gx 32 (nI (k + 2))) k y) 30 (nI p)) (kn := kn) (m := m) (y := y) (j := j) hx' (by omega) hm hj (by rw [rI, if_neg (by decide)]; exact rkB_33) (by rw [rI, if_neg (by decide)]; exact q37)
  have B3 : f122_105 n x (nI j) (nI p) kn (rkB (gI gx 32 (nI (k + 2))) k y) = some (.inl none, ty (gS (gI (rkB (gI gx 32 (nI (k + 2))) k y) 30 (nI p)) 44 (upd ((gI (rkB (gI gx 32 (nI (k + 2))) k y) 30 (nI p)).2.1 44) j (nI m))) y 2) := by
    unfold f122_105
    rw [m103 hp q30, m_cv_s, B2]
  have A : f122_12 n x gx = some (.inl none, ty (gS (if fits kn z1 z2 then rkB (gI gx 32 (nI (k + 2))) k y else gI (rkB (gI gx 32 (nI (k + 2))) k y) 30 (nI p)) 44 (upd ((if fits kn z1 z2 then rkB (gI gx 32 (nI (k + 2))) k y else gI (rkB (gI gx 32 (nI (k + 2))) k y) 30 (nI p)).2.1 44) j (nI m))) y 2) := by
    unfold f122_12 f122_20
    rw [m115 (k := k + 2) (by omega) e32, m_ci_s, en2, m115 (k := k + 1) (by omega) i0, m_ci_s, show (gI gx 32 (nI (k + 2))).2.1 34 (k + 1) = nI p from en1, m115 (k := k) (by omega) i1, m_ci_s, show (gI (gI gx 32 (nI (k + 2))) 32 (nI (k + 1))).2.1 34 k = kn from en0, m117 (y := y + 1) (by omega) i2, m_ci_s, show (gI (gI (gI gx 32 (nI (k + 2))) 32 (nI (k + 1))) 32 (nI k)).2.1 35 (y + 1) = nI (z2 + 1) from et2, m117 (y := y) (by omega) i3, m_ci_s, show (gI (gI (gI (gI gx 32 (nI (k + 2))) 32 (nI (k + 1))) 32 (nI k)) 33 (nI (y + 1))).2.1 35 y = nI (z1 + 1) from et1]
    change (if kn = 12 then f122_58 n x (nI j) (nI p) kn (nI (z2 + 1)) (nI (z1 + 1)) (rkB (gI gx 32 (nI (k + 2))) k y) else if ¬ kn = 13 then f122_63 n x (nI j) (nI p) kn (nI (z2 + 1)) (nI (z1 + 1)) 0 (rkB (gI gx 32 (nI (k + 2))) k y) else f122_58 n x (nI j) (nI p) kn (nI (z2 + 1)) (nI (z1 + 1)) (rkB (gI gx 32 (nI (k + 2))) k y)) = _
    have a1 : z1 = 0 ∨ z1 = 1 := by omega
    have a2 : z2 = 0 ∨ z2 = 1 := by omega
    have hj0 : ¬ nI j < 0 := nI_pos (by omega)
    unfold f122_58 f122_63 f122_74
    rcases hx with ⟨rfl, rfl⟩ | ⟨rfl, rfl⟩
    · rcases a1 with rfl | rfl <;> rcases a2 with rfl | rfl <;> simp (decide := true) only [reduceIte, hj0] <;> first | (rw [B1]) | (rw [B3])
    · rcases a1 with rfl | rfl <;> rcases a2 with rfl | rfl <;> simp (decide := true) only [reduceIte, hj0] <;> first | (rw [B1]) | (rw [B3])
  rcases hx' with rfl | rfl
  · unfold f101 f101_88 f119 f122
    simp (decide := true) only [reduceIte]
    rw [A]; rfl
  · unfold f101 f101_88 f119 f122
    simp (decide := true) only [reduceIte]
    rw [A]; rfl
end Rk
