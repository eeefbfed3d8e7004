/-! parts with or, and between them -/
section Tj
variable {n N s a0 D v q m h k y H E0 b : Nat} {t g0 gm0 : mG} {ht rk : Nat → Nat} {ho : Nat → Prop}
theorem p_tailj {rc : mRec} (hn : 700 ≤ n) (hb : b = 0 ∨ b = 1) (pm : m < a0) (pr : ∀ i, m ≤ i → rk i = 0) (ph : ∀ i, m ≤ i → ¬ ho i) (pD : D ≤ 16) (ph9 : h + 50 * (16 - D) + 5 + 4 * (5 - b) < 900) (pk6 : k + 30 * (16 - D) + 4 + 3 * (5 - b) < 600) (py4 : y + 20 * (16 - D) + 2 + (5 - b) < 400) (hE0 : 18031 ≤ E0 + 30 * a0)
    (ih : ∀ (g gm : mG) (a m : Nat) (ht : Nat → Nat) (ho : Nat → Prop) (h k y H E : Nat), PE t g gm N s a D v q m ht rk ho h k y H E (b + 1) → Pr n g gm E (rc 15 (nI (b + 1)) (nI D) 0 g) (QI (QE t g gm N s a D v q m ht rk ho h k y H E (b + 1)))) :
    ∀ (d c a mc i E z : Nat) (g gm : mG) (htc : Nat → Nat), s + 1 ≤ a + d → d < c → LSt t g0 gm0 g gm N s a0 D v q m ht rk ho h k y H b a mc htc z → gm.1 31 = nI (h + 1) → gm.2.1 33 h = tb b → i < mc → E0 + 30 * a0 + 11 + 2 * b ≤ E + 30 * a →
      Pr n g gm E (f15_37 n rc c (nI b) (nI D) (nI z) 600 (nI i) g) (QI (QE t g0 gm0 N s a0 D v q m ht rk ho h k y H E0 b)) := by
  intro d
  induction d with
  | zero =>
    intro c a mc i E z g gm htc hd hc hL
    have := hL.1.2.1
    omega
  | succ d IH =>
    intro c a mc i E z g gm htc hd hc hL h31 h33 hi hE
    obtain ⟨c, rfl⟩ : ∃ z, c = z + 1 := ⟨c - 1, by omega⟩
    have hL' := hL
    obtain ⟨hR, l32, l33, lt, lz, lF, lA, lC, lM, l1, l2, l3, l4, l5⟩ := hL'
    obtain ⟨b1, b2, b3, b4, b5, b6, b7, b8⟩ := id hR
    have hs := b1.s6
    have hp := b1.tp b2
    have h45 : ¬ (600 : Int32) ≤ nI i := nI_ge (a := i) (b := 600) (by omega) (by decide)
    by_cases hop : isop b (t.2.1 12 a)
    · obtain ⟨kn, re, te, op, hmk, hkn⟩ : ∃ kn re te op : Int32, t.2.1 12 a = kn + 1 ∧ ((b = 0 ∧ kn = 23 ∧ re = 72 ∧ te = 73 ∧ op = 6) ∨ (b = 1 ∧ kn = 22 ∧ re = 77 ∧ te = 76 ∧ op = 5)) := by
        unfold isop at hop
        rcases hop with ⟨w, x⟩ | ⟨w, x⟩ | ⟨w, _⟩ | ⟨w, _⟩ | ⟨w, _⟩
        · exact ⟨23, 72, 73, 6, x, Or.inl ⟨w, rfl, rfl, rfl, rfl⟩⟩
        · exact ⟨22, 77, 76, 5, x, Or.inr ⟨w, rfl, rfl, rfl, rfl⟩⟩
        · omega
        · omega
        · omega
      have hka : (b = 0 ∧ kn = 23 ∧ re = 72 ∧ te = 73) ∨ (b = 1 ∧ kn = 22 ∧ re = 77 ∧ te = 76) := by rcases hkn with ⟨w1, w2, w3, w4, _⟩ | ⟨w1, w2, w3, w4, _⟩ <;> simp [w1, w2, w3, w4]
      have hkb : (re = 72 ∧ te = 73 ∧ op = 6 ∧ kn = 23) ∨ (re = 77 ∧ te = 76 ∧ op = 5 ∧ kn = 22) := by rcases hkn with ⟨w1, w2, w3, w4, w5⟩ | ⟨w1, w2, w3, w4, w5⟩ <;> simp [w2, w3, w4, w5]
      have kx : kn = 22 ∨ kn = 23 := by rcases hkn with ⟨_, w, _⟩ | ⟨_, w, _⟩ <;> simp [w]
      have kk : kd (t.2.1 12 a) = kn := by rw [hmk]; rcases kx with rfl | rfl <;> decide
      have e := s_andor (n := n) (gx := gI gm 31 (nI h)) (b := b) (k := k) (h := h) (a := tp t a) (kn := kn) hka (by omega) (by omega) (by simp [rI, b4.1, kk]) (by simp [rI, b4.2.1]) (by simp [rI]) (by simp [rI, l32])
      have C1 : Chg [31, 32] [33, 34] gm (pu (pu (pu (pu (pu (nt (nt (gI gm 31 (nI h)) k kn) (k + 1) (nI (tp t a))) h (tb b)) (h + 1) re) (h + 2) (sy (b + 1))) (h + 3) te) (h + 4) kn) := (Chg.i 31 _ (by simp)).tr ((nt_c.mono (by simp) (by simp)).tr ((nt_c.mono (by simp) (by simp)).tr ((pu_c.mono (by simp) (by simp)).tr ((pu_c.mono (by simp) (by simp)).tr ((pu_c.mono (by simp) (by simp)).tr ((pu_c.mono (by simp) (by simp)).tr (pu_c.mono (by simp) (by simp))))))))
      have v31 := pu_h (gm := pu (pu (pu (pu (nt (nt (gI gm 31 (nI h)) k kn) (k + 1) (nI (tp t a))) h (tb b)) (h + 1) re) (h + 2) (sy (b + 1))) (h + 3) te) (h := h + 4) (x := kn)
      have v4 := pu_t (gm := pu (pu (pu (pu (nt (nt (gI gm 31 (nI h)) k kn) (k + 1) (nI (tp t a))) h (tb b)) (h + 1) re) (h + 2) (sy (b + 1))) (h + 3) te) (h := h + 4) (x := kn)
      have v3 : (pu (pu (pu (pu (pu (nt (nt (gI gm 31 (nI h)) k kn) (k + 1) (nI (tp t a))) h (tb b)) (h + 1) re) (h + 2) (sy (b + 1))) (h + 3) te) (h + 4) kn).2.1 33 (h + 3) = te := by rw [pu_o (by omega)]; exact pu_t
      have v2 : (pu (pu (pu (pu (pu (nt (nt (gI gm 31 (nI h)) k kn) (k + 1) (nI (tp t a))) h (tb b)) (h + 1) re) (h + 2) (sy (b + 1))) (h + 3) te) (h + 4) kn).2.1 33 (h + 2) = sy (b + 1) := by rw [pu_o (by omega), pu_o (by omega)]; exact pu_t
      have v1 : (pu (pu (pu (pu (pu (nt (nt (gI gm 31 (nI h)) k kn) (k + 1) (nI (tp t a))) h (tb b)) (h + 1) re) (h + 2) (sy (b + 1))) (h + 3) te) (h + 4) kn).2.1 33 (h + 1) = re := by rw [pu_o (by omega), pu_o (by omega), pu_o (by omega)]; exact pu_t
      have v0 : (pu (pu (pu (pu (pu (nt (nt (gI gm 31 (nI h)) k kn) (k + 1) (nI (tp t a))) h (tb b)) (h + 1) re) (h + 2) (sy (b + 1))) (h + 3) te) (h + 4) kn).2.1 33 h = tb b := by rw [pu_o (by omega), pu_o (by omega), pu_o (by omega), pu_o (by omega)]; exact pu_t
      have vo : ∀ i, i < h → (pu (pu (pu (pu (pu (nt (nt (gI gm 31 (nI h)) k kn) (k + 1) (nI (tp t a))) h (tb b)) (h + 1) re) (h + 2) (sy (b + 1))) (h + 3) te) (h + 4) kn).2.1 33 i = gm.2.1 33 i := fun i hi => by rw [pu_o (by omega), pu_o (by omega), pu_o (by omega), pu_o (by omega), pu_o hi, nt_c.2.1 33 (by simp), nt_c.2.1 33 (by simp)]; rfl
      have n34 : (pu (pu (pu (pu (pu (nt (nt (gI gm 31 (nI h)) k kn) (k + 1) (nI (tp t a))) h (tb b)) (h + 1) re) (h + 2) (sy (b + 1))) (h + 3) te) (h + 4) kn).2.1 34 = (nt (nt (gI gm 31 (nI h)) k kn) (k + 1) (nI (tp t a))).2.1 34 := by rw [pu_c.2.1 34 (by simp), pu_c.2.1 34 (by simp), pu_c.2.1 34 (by simp), pu_c.2.1 34 (by simp), pu_c.2.1 34 (by simp)]
      have u1 : (pu (pu (pu (pu (pu (nt (nt (gI gm 31 (nI h)) k kn) (k + 1) (nI (tp t a))) h (tb b)) (h + 1) re) (h + 2) (sy (b + 1))) (h + 3) te) (h + 4) kn).2.1 34 (k + 1) = nI (tp t a) := by rw [n34]; exact nt_t
      have u0 : (pu (pu (pu (pu (pu (nt (nt (gI gm 31 (nI h)) k kn) (k + 1) (nI (tp t a))) h (tb b)) (h + 1) re) (h + 2) (sy (b + 1))) (h + 3) te) (h + 4) kn).2.1 34 k = kn := by rw [n34, nt_o (by omega)]; exact nt_t
      have uo : ∀ i, i < k → (pu (pu (pu (pu (pu (nt (nt (gI gm 31 (nI h)) k kn) (k + 1) (nI (tp t a))) h (tb b)) (h + 1) re) (h + 2) (sy (b + 1))) (h + 3) te) (h + 4) kn).2.1 34 i = gm.2.1 34 i := fun i hi => by rw [n34, nt_o (by omega), nt_o hi]; rfl
      have v32 : (pu (pu (pu (pu (pu (nt (nt (gI gm 31 (nI h)) k kn) (k + 1) (nI (tp t a))) h (tb b)) (h + 1) re) (h + 2) (sy (b + 1))) (h + 3) te) (h + 4) kn).1 32 = nI (k + 2) := by rw [pu_c.1 32 (by simp), pu_c.1 32 (by simp), pu_c.1 32 (by simp), pu_c.1 32 (by simp), pu_c.1 32 (by simp)]; exact nt_h
      clear n34
      generalize pu (pu (pu (pu (pu (nt (nt (gI gm 31 (nI h)) k kn) (k + 1) (nI (tp t a))) h (tb b)) (h + 1) re) (h + 2) (sy (b + 1))) (h + 3) te) (h + 4) kn = gm1 at e C1 v31 v4 v3 v2 v1 v0 vo u1 u0 uo v32
      have R1 : RR t g gm1 N s a D v q mc htc rk ho := hR.kp (Chg.rf _) (C1.mono (by simp) (by simp)) b3 b2 (b4.kp (fun x _ _ => C1.1 x (by simp; omega))) (by rw [C1.1 34 (by simp)]; exact b6)
      obtain ⟨E, rfl⟩ : ∃ e, E = e + 1 := ⟨E - 1, by omega⟩
      have er : f15_37 n rc (c + 1) (nI b) (nI D) (nI z) 600 (nI i) g = m_ci (f34_3 n (kn + 1) (0 : Int32) (gI g 5 (nI (a + 1)))) (fun v23 g22 => m_ci (rc 15 (nI (b + 1)) (nI D) 0 g22) (fun v27 g26 => m_ci (f24 n (kn + 1) (nI z) v27 g26) (fun v31 g30 => if ¬ v31 = (-1 : Int32) then m_cv (f37_3 n v23 g30) (fun g35 => f15_37 n rc c (nI b) (nI D) v31 600 (nI (i + 1)) g35) else m_cv (f3 n (nI a) g30) (fun g39 => m_cv (f37_3 n v23 g39) (fun g43 => f15_37 n rc c (nI b) (nI D) v31 600 (nI (i + 1)) g43))))) := by
        rw [f15_37, if_neg h45, c1 b1 b2 b3, m_ci_s, c23, m_ci_s, if_neg (fun w => w ((bo_op (by omega)).mpr hop)), c1 b1 b2 b3, m_ci_s, hmk]
        rcases kx with rfl | rfl
        · rw [if_pos (by decide), b3, nI_1, nI_1, nI_1]
        · rw [if_neg (by decide), if_neg (by decide), b3, nI_1, nI_1, nI_1]
      rw [er]
      refine Pr.turn (fun c => m_top (by omega) h31 b5 h33 e c) (C1.mono (by simp) (by simp)) ?_
      refine p_opj (E := E) (hb := h + 1) (k := k) (y := y) (H := H) (b := b) (K := fun v31 g35 => f15_37 n rc c (nI b) (nI D) v31 600 (nI (i + 1)) g35) hn hkb R1 v31 v1 v2 v3 v4 v32 u0 u1 (by rw [C1.1 33 (by simp)]; exact l33) (by rw [C1.2.1 35 (by simp)]; exact lt) lz hmk l2 (fun i hi => pr i (by omega)) (fun i hi => ph i (by omega)) (by omega) pD (by omega) (by omega) (by omega) (by omega) (by omega) ih ?_
      intro g' gm' E' a' m' ht' R' S' F' T' A' Cg Cm t1 t2 t3 t4 t5 t6
      have hlv : lv b = lv (b + 1) := by rcases hb with rfl | rfl <;> rfl
      refine IH c a' m' (i + 1) E' (tyo kn) g' gm' ht' (by omega) (by omega) ⟨R', S'.2.1, S'.2.2, T', by unfold tyo; split <;> omega, ⟨fun i hi => ?_, fun i hi => ?_, fun i hi => ?_⟩, fun i hi => ?_, lC.tr Cg, lM.tr ((C1.mono (by simp) (by simp)).tr Cm), fun i hi => ?_, t2, fun i h1 h2 => ?_, by omega, by omega⟩ S'.1 (by rw [F'.1 h (by omega)]; exact v0) (by omega) (by omega)
      · rw [F'.1 i (by omega), vo i hi]; exact lF.1 i hi
      · rw [F'.2.1 i hi, uo i hi]; exact lF.2.1 i hi
      · rw [F'.2.2 i hi, C1.2.1 35 (by simp)]; exact lF.2.2 i hi
      · obtain ⟨x1, x2, x3, x4⟩ := A' i (by omega)
        obtain ⟨w1, w2, w3, w4⟩ := lA i hi
        exact ⟨x1.trans w1, x2.trans w2, by rw [x3, C1.2.1 43 (by simp), w3], by rw [x4, C1.2.1 44 (by simp), w4]⟩
      · rw [t1 i (by omega)]; exact l1 i hi
      · by_cases hi : i ≤ mc
        · rw [t1 i hi]; exact l3 i h1 hi
        · have := t3 i (by omega) h2; omega
    · exact p_tail0 (by omega) hL h31 h33 (by omega) h45 hop (by omega) hE
end Tj
