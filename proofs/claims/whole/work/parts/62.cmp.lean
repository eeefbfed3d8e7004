/-! parts with a comparison between them -/
section Cp
variable {n N s a0 D v q m h k y H E0 : Nat} {t g0 gm0 : mG} {ht rk : Nat → Nat} {ho : Nat → Prop}
theorem p_tailc {rc : mRec} {c a mc E z : Nat} {g gm : mG} {htc : Nat → Nat} (hn : 700 ≤ n) (pm : m < a0) (pr : ∀ i, m ≤ i → rk i = 0) (ph : ∀ i, m ≤ i → ¬ ho i) (pD : D ≤ 16) (ph9 : h + 50 * (16 - D) + 5 + 4 * (5 - 2) < 900) (pk6 : k + 30 * (16 - D) + 4 + 3 * (5 - 2) < 600) (py4 : y + 20 * (16 - D) + 2 + (5 - 2) < 400) (hE0 : 18031 ≤ E0 + 30 * a0)
    (ih : ∀ (g gm : mG) (a m : Nat) (ht : Nat → Nat) (h k y H E : Nat), PE t g gm N s a D v q m ht rk ho h k y H E (2 + 1) → Pr n g gm E (rc 15 (nI (2 + 1)) (nI D) 0 g) (QI (QE t g gm N s a D v q m ht rk ho h k y H E (2 + 1))))
    (hL : LSt t g0 gm0 g gm N s a0 D v q m ht rk ho h k y H 2 a mc htc z) (h31 : gm.1 31 = nI (h + 1)) (h33 : gm.2.1 33 h = tb 2) (hE : E0 + 30 * a0 + 11 + 2 * 2 ≤ E + 30 * a) :
    Pr n g gm E (f15_37 n rc (c + 1 + 1) (nI 2) (nI D) (nI z) 1 (nI 0) g) (QI (QE t g0 gm0 N s a0 D v q m ht rk ho h k y H E0 2)) := by
  have hL' := hL
  obtain ⟨hR, l32, l33, lt, lz, lF, lA, lC, lM, l1, l2, l3, l4, l5⟩ := hL'
  obtain ⟨b1, b2, b3, b4, b5, b6, b7, b8⟩ := id hR
  have hs := b1.s6
  have hp := b1.tp b2
  have h45 : ¬ (1 : Int32) ≤ nI 0 := by decide
  by_cases hop : isop 2 (t.2.1 12 a)
  · obtain ⟨kn, hmk, kx⟩ : ∃ kn : Int32, t.2.1 12 a = kn + 1 ∧ (kn = 12 ∨ kn = 13 ∨ kn = 14 ∨ kn = 15) := by
      unfold isop at hop
      rcases hop with ⟨w, _⟩ | ⟨w, _⟩ | ⟨_, x | x | x | x⟩ | ⟨w, _⟩ | ⟨w, _⟩
      · omega
      · omega
      · exact ⟨12, x, by simp⟩
      · exact ⟨13, x, by simp⟩
      · exact ⟨14, x, by simp⟩
      · exact ⟨15, x, by simp⟩
      · omega
      · omega
    have k23 : ¬ kn + 1 = (23 : Int32) := by rcases kx with rfl | rfl | rfl | rfl <;> decide
    have k24 : ¬ kn + 1 = (24 : Int32) := by rcases kx with rfl | rfl | rfl | rfl <;> decide
    have kk : kd (t.2.1 12 a) = kn := by rw [hmk]; rcases kx with rfl | rfl | rfl | rfl <;> decide
    have e := s_cmp (n := n) (gx := gI gm 31 (nI h)) (k := k) (h := h) (a := tp t a) (kn := kn) kx (by omega) (by omega) (by simp [rI, b4.1, kk]) (by simp [rI, b4.2.1]) (by simp [rI]) (by simp [rI, l32])
    have C1 : Chg [31, 32] [33, 34] gm (pu (pu (pu (nt (nt (gI gm 31 (nI h)) k kn) (k + 1) (nI (tp t a))) h 80) (h + 1) 79) (h + 2) kn) := (Chg.i 31 _ (by simp)).tr ((nt_c.mono (by simp) (by simp)).tr ((nt_c.mono (by simp) (by simp)).tr ((pu_c.mono (by simp) (by simp)).tr ((pu_c.mono (by simp) (by simp)).tr (pu_c.mono (by simp) (by simp))))))
    have v31 := pu_h (gm := pu (pu (nt (nt (gI gm 31 (nI h)) k kn) (k + 1) (nI (tp t a))) h 80) (h + 1) 79) (h := h + 2) (x := kn)
    have v3 := pu_t (gm := pu (pu (nt (nt (gI gm 31 (nI h)) k kn) (k + 1) (nI (tp t a))) h 80) (h + 1) 79) (h := h + 2) (x := kn)
    have v2 : (pu (pu (pu (nt (nt (gI gm 31 (nI h)) k kn) (k + 1) (nI (tp t a))) h 80) (h + 1) 79) (h + 2) kn).2.1 33 (h + 1) = sy (2 + 1) := by rw [pu_o (by omega)]; exact pu_t
    have v1 : (pu (pu (pu (nt (nt (gI gm 31 (nI h)) k kn) (k + 1) (nI (tp t a))) h 80) (h + 1) 79) (h + 2) kn).2.1 33 h = 80 := by rw [pu_o (by omega), pu_o (by omega)]; exact pu_t
    have vo : ∀ i, i < h → (pu (pu (pu (nt (nt (gI gm 31 (nI h)) k kn) (k + 1) (nI (tp t a))) h 80) (h + 1) 79) (h + 2) kn).2.1 33 i = gm.2.1 33 i := fun i hi => by rw [pu_o (by omega), pu_o (by omega), pu_o hi, nt_c.2.1 33 (by simp), nt_c.2.1 33 (by simp)]; rfl
    have n34 : (pu (pu (pu (nt (nt (gI gm 31 (nI h)) k kn) (k + 1) (nI (tp t a))) h 80) (h + 1) 79) (h + 2) kn).2.1 34 = (nt (nt (gI gm 31 (nI h)) k kn) (k + 1) (nI (tp t a))).2.1 34 := by rw [pu_c.2.1 34 (by simp), pu_c.2.1 34 (by simp), pu_c.2.1 34 (by simp)]
    have u1 : (pu (pu (pu (nt (nt (gI gm 31 (nI h)) k kn) (k + 1) (nI (tp t a))) h 80) (h + 1) 79) (h + 2) kn).2.1 34 (k + 1) = nI (tp t a) := by rw [n34]; exact nt_t
    have u0 : (pu (pu (pu (nt (nt (gI gm 31 (nI h)) k kn) (k + 1) (nI (tp t a))) h 80) (h + 1) 79) (h + 2) kn).2.1 34 k = kn := by rw [n34, nt_o (by omega)]; exact nt_t
    have uo : ∀ i, i < k → (pu (pu (pu (nt (nt (gI gm 31 (nI h)) k kn) (k + 1) (nI (tp t a))) h 80) (h + 1) 79) (h + 2) kn).2.1 34 i = gm.2.1 34 i := fun i hi => by rw [n34, nt_o (by omega), nt_o hi]; rfl
    have v32 : (pu (pu (pu (nt (nt (gI gm 31 (nI h)) k kn) (k + 1) (nI (tp t a))) h 80) (h + 1) 79) (h + 2) kn).1 32 = nI (k + 2) := by rw [pu_c.1 32 (by simp), pu_c.1 32 (by simp), pu_c.1 32 (by simp)]; exact nt_h
    clear n34
    generalize pu (pu (pu (nt (nt (gI gm 31 (nI h)) k kn) (k + 1) (nI (tp t a))) h 80) (h + 1) 79) (h + 2) kn = gm1 at e C1 v31 v3 v2 v1 vo u1 u0 uo v32
    have R1 : RR t g gm1 N s a D v q mc htc rk ho := hR.kp (Chg.rf _) (C1.mono (by simp) (by simp)) b3 b2 (b4.kp (fun x _ _ => C1.1 x (by simp; omega))) (by rw [C1.1 34 (by simp)]; exact b6)
    obtain ⟨E, rfl⟩ : ∃ e, E = e + 1 := ⟨E - 1, by omega⟩
    rw [f15_37, if_neg h45, c1 b1 b2 b3, m_ci_s, c23, m_ci_s, if_neg (fun w => w ((bo_op (by omega)).mpr hop)), c1 b1 b2 b3, m_ci_s, hmk, if_neg k23, if_pos k24, b3, nI_1, nI_1, nI_1]
    refine Pr.turn (fun c => m_top (by omega) h31 b5 h33 e c) (C1.mono (by simp) (by simp)) ?_
    refine p_op (E := E) (K2 := fun v53 g61 => m_ci (f34_3 n (kn + 1) (0 : Int32) g61) (fun _ g65 => f15_37 n rc (c + 1) (nI 2) (nI D) v53 1 (nI (0 + 1)) g65)) (hb := h) (k := k) (y := y) (H := H) (b := 2) (K := fun v53 g57 => f15_37 n rc (c + 1) (nI 2) (nI D) v53 1 (nI (0 + 1)) g57) hn (Or.inl ⟨rfl, kx⟩) R1 v31 v1 v2 v3 v32 u0 u1 (by rw [C1.1 33 (by simp)]; exact l33) (by rw [C1.2.1 35 (by simp)]; exact lt) lz hmk l2 (fun i hi => pr i (by omega)) (fun i hi => ph i (by omega)) (by omega) pD (by omega) (by omega) (by omega) (by omega) (by omega) ih ?_
    intro g' gm' E' a' m' ht' R' S' F' T' A' Cg Cm t1 t2 t3 t4 t5 t6
    have l2' : lv 2 = 3 := rfl
    have l3' : lv (2 + 1) = 2 := rfl
    have er : f15_37 n rc (c + 1) (nI 2) (nI D) (nI (tyo kn)) 1 (nI (0 + 1)) g' = some (.inl (some (.int (nI (tyo kn)))), g') := by rw [f15_37, if_pos (by decide)]
    show Pr n g' gm' E' (f15_37 n rc (c + 1) (nI 2) (nI D) (nI (tyo kn)) 1 (nI (0 + 1)) g') _
    rw [er]
    refine Pr.ret ⟨nI (tyo kn), rfl, a', m', ht', tyo kn, rfl, by unfold tyo; split <;> omega, R', S', ⟨fun i hi => ?_, fun i hi => ?_, fun i hi => ?_⟩, T', fun i hi => ?_, lC.tr Cg, lM.tr ((C1.mono (by simp) (by simp)).tr Cm), fun i hi => ?_, t2, fun i h1 h2 => ?_, by omega, by omega, by omega⟩
    · rw [F'.1 i hi, vo i hi]; exact lF.1 i hi
    · rw [F'.2.1 i hi, uo i hi]; exact lF.2.1 i hi
    · rw [F'.2.2 i hi, C1.2.1 35 (by simp)]; exact lF.2.2 i hi
    · obtain ⟨x1, x2, x3, x4⟩ := A' i (by omega)
      obtain ⟨w1, w2, w3, w4⟩ := lA i hi
      exact ⟨x1.trans w1, x2.trans w2, by rw [x3, C1.2.1 43 (by simp), w3], by rw [x4, C1.2.1 44 (by simp), w4]⟩
    · rw [t1 i (by omega)]; exact l1 i hi
    · by_cases hi : i ≤ mc
      · rw [t1 i hi]; exact l3 i h1 hi
      · have := t3 i (by omega) h2; omega
  · exact p_tail0 (by omega) hL h31 h33 (by omega) h45 hop (by omega) hE
end Cp
