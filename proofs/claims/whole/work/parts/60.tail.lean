/-! parts with signs of one binding between them -/
def LSt (t g0 gm0 g gm : mG) (N s a0 D v q m : Nat) (ht rk : Nat → Nat) (ho : Nat → Prop) (h k y H b a mc : Nat) (htc : Nat → Nat) (z : Nat) : Prop :=
  RR t g gm N s a D v q mc htc rk ho ∧ gm.1 32 = nI k ∧ gm.1 33 = nI (y + 1) ∧ gm.2.1 35 y = nI (z + 1) ∧ z ≤ 1 ∧ FR gm0 gm h k y ∧ AG g0 gm0 g gm m ∧ Chg [5, 6, 12] [17, 18] g0 g ∧ Chg [26, 27, 28, 29, 30, 31, 32, 33, 34, 37] [33, 34, 35, 43, 44] gm0 gm ∧
  (∀ i, i ≤ m → htc i = ht i) ∧ htc mc = H + 1 ∧ (∀ i, m ≤ i → i ≤ mc → htc i ≤ H + 5 * (16 - D) + 1 + lv b) ∧ m < mc ∧ mc + a0 ≤ m + a
section Tl
variable {n N s a0 D v q m h k y H E0 b : Nat} {t g0 gm0 : mG} {ht rk : Nat → Nat} {ho : Nat → Prop}
/-- no sign follows -/
theorem p_tail0 {rc : mRec} {c a mc E z : Nat} {x4 x5 : Int32} {g gm : mG} {htc : Nat → Nat} (hb : b < 5) (hL : LSt t g0 gm0 g gm N s a0 D v q m ht rk ho h k y H b a mc htc z) (h31 : gm.1 31 = nI (h + 1)) (h33 : gm.2.1 33 h = tb b) (hh : h < 900) (h45 : ¬ x4 ≤ x5) (hno : ¬ isop b (t.2.1 12 a)) (hE1 : 1 ≤ E) (hE : E0 + 30 * a0 + 11 + 2 * b ≤ E + 30 * a) :
    Pr n g gm E (f15_37 n rc (c + 1) (nI b) (nI D) (nI z) x4 x5 g) (QI (QE t g0 gm0 N s a0 D v q m ht rk ho h k y H E0 b)) := by
  obtain ⟨hR, l32, l33, lt, lz, lF, lA, lC, lM, l1, l2, l3, l4, l5⟩ := hL
  obtain ⟨b1, b2, b3, b4, b5, b6, b7, b8⟩ := id hR
  have e := s_none (n := n) (gx := gI gm 31 (nI h)) (x := t.2.1 12 a) hb (by simp [rI, b4.1]) hno
  have C1 : Chg [31] [] gm (gI gm 31 (nI h)) := Chg.i 31 _ (by simp)
  have R1 : RR t g (gI gm 31 (nI h)) N s a D v q mc htc rk ho := hR.kp (Chg.rf _) (C1.mono (by simp) (by simp)) b3 b2 (b4.kp (fun x _ _ => C1.1 x (by simp; omega))) (by rw [C1.1 34 (by simp)]; exact b6)
  rw [f15_37, if_neg h45, c1 b1 b2 b3, m_ci_s, c23, m_ci_s, if_pos (fun w => hno ((bo_op (by omega)).mp w))]
  obtain ⟨E, rfl⟩ : ∃ e, E = e + 1 := ⟨E - 1, by omega⟩
  refine Pr.turn (fun c => m_top hh h31 b5 h33 e c) (C1.mono (by simp) (by simp)) (Pr.ret ⟨nI z, rfl, a, mc, htc, z, rfl, lz, R1, ⟨by simp [rI], by rw [C1.1 32 (by simp)]; exact l32, by rw [C1.1 33 (by simp)]; exact l33⟩, ⟨lF.1, lF.2.1, lF.2.2⟩, lt, lA, lC, lM.tr (C1.mono (by simp) (by simp)), l1, l2, l3, l4, l5, by omega⟩)
end Tl
