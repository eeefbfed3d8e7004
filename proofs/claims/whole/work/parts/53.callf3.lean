/-! a factor that calls: its arguments -/
section Cl3
variable {n N s a0 D v q m h k y H E0 : Nat} {t g0 gm0 : mG} {ht rk : Nat → Nat} {ho : Nat → Prop}
theorem p_cloop {rc : mRec} {f : Nat} (hn : 700 ≤ n) (hf : f < q) (hD : D < 16) (ha0 : a0 ≤ s) (pm : m < a0) (pr : ∀ i, m ≤ i → rk i = 0) (ph : ∀ i, m ≤ i → ¬ ho i) (ph9 : h + 50 * (16 - D) + 5 < 900) (pk6 : k + 30 * (16 - D) + 4 < 600) (py4 : y + 20 * (16 - D) + 2 < 400) (hE0 : 18031 ≤ E0 + 30 * a0)
    (ih : ∀ (g gm : mG) (a m : Nat) (ht : Nat → Nat) (h k y H E : Nat), PE t g gm N s a (D + 1) v q m ht rk ho h k y H E 0 → Pr n g gm E (rc 15 0 (nI (D + 1)) 0 g) (QI (QE t g gm N s a (D + 1) v q m ht rk ho h k y H E 0))) :
    ∀ (d c a mc j E : Nat) (g gm : mG) (htc : Nat → Nat), s + 1 ≤ a + d → d < c → CLs t g0 gm0 g gm N s a0 D v q m ht rk ho h k y H a mc j f htc → gm.1 31 = nI (h + 4) → gm.2.1 33 (h + 1) = 90 → gm.2.1 33 (h + 2) = 91 → gm.2.1 33 (h + 3) = 60 → E0 + 30 * a0 + 22 ≤ E + 30 * a →
      Pr n g gm E (f19_45 n rc c (nI a0) (nI f) (nI (D + 1)) (nI j) 1 (nI j) g) (QI (QE t g0 gm0 N s a0 D v q m ht rk ho h k y H E0 5)) := by
  intro d
  induction d with
  | zero =>
    intro c a mc j E g gm htc hd hc hL
    have := hL.1.2.1
    omega
  | succ d IH =>
    intro c a mc j E g gm htc hd hc hL h31 hs1 hs2 hs3 hE
    obtain ⟨c, rfl⟩ : ∃ z, c = z + 1 := ⟨c - 1, by omega⟩
    obtain ⟨hR, l32, l33, l87, ln0, ln1, ln2, lF, lA, lC, lM, l1, l2, l3, l4, l5⟩ := hL
    obtain ⟨b1, b2, b3, b4, b5, b6, b7, b8⟩ := id hR
    have hs := b1.s6
    have hp0 := b1.tp ha0
    have hmc : mc < 600 := by omega
    rw [f19_45, if_neg (show ¬ (600 : Int32) ≤ nI j from nI_ge (a := j) (b := 600) (by omega) (by decide)), if_neg (by decide), nI_1]
    have P1 : PE t g gm N s a (D + 1) v q mc htc rk ho (h + 3) (k + 3) y (H + j) E 0 := ⟨hR, h31, hs3, l32, l33, l2, fun i hi => pr i (by omega), fun i hi => ph i (by omega), by omega, by omega, by omega, by omega, by omega, by omega, by omega⟩
    refine Pr.ci (ih _ _ _ _ _ _ _ _ _ _ P1) ?_
    rintro x g3 gm3 E3 _ _ ⟨a3, m3, ht3, z, rfl, hz, R3, ⟨y31, y32, y33⟩, F3, yt, A3, D3, M3, t1, t2, t3, t4, t5, t6⟩
    have ha3 := R3.2.1
    obtain ⟨d1, d2, d3, d4, d5, d6, d7, d8⟩ := id R3
    have g33h : gm3.2.1 33 (h + 2) = 91 := by rw [F3.1 (h + 2) (by omega)]; exact hs2
    have e := s91 (n := n) (gx := gI gm3 31 (nI (h + 2))) (k := k) (y := y) (c := z) (p := tp t a0) (j := j) (by omega) (by omega) hz (by omega) (by simp [rI, y32]) (by rw [rI2, F3.2.1 (k + 1) (by omega)]; exact ln1) (by rw [rI2, F3.2.1 (k + 2) (by omega)]; exact ln2) (by simp [rI, y33]) (by rw [rI2]; exact yt) (by simp [rI, d5])
    unfold f18
    by_cases hz0 : z = 0
    · subst hz0
      rw [if_pos rfl] at e
      rw [if_pos (show nI 0 = 0 from rfl), m_cv_s]
      have Cx : Chg [31, 33] [34] gm3 (gS (gI (gI gm3 31 (nI (h + 2))) 33 (nI y)) 34 (upd ((gI gm3 31 (nI (h + 2))).2.1 34) (k + 2) (nI (j + 1)))) := (Chg.i 31 _ (by simp)).tr ((Chg.i 33 _ (by simp)).tr (Chg.s 34 _ (by simp)))
      have x31 : (gS (gI (gI gm3 31 (nI (h + 2))) 33 (nI y)) 34 (upd ((gI gm3 31 (nI (h + 2))).2.1 34) (k + 2) (nI (j + 1)))).1 31 = nI (h + 2) := by simp [rI, rS1]
      have x33 : (gS (gI (gI gm3 31 (nI (h + 2))) 33 (nI y)) 34 (upd ((gI gm3 31 (nI (h + 2))).2.1 34) (k + 2) (nI (j + 1)))).1 33 = nI y := by simp [rI, rS1]
      have x34 : (gS (gI (gI gm3 31 (nI (h + 2))) 33 (nI y)) 34 (upd ((gI gm3 31 (nI (h + 2))).2.1 34) (k + 2) (nI (j + 1)))).2.1 34 = upd (gm3.2.1 34) (k + 2) (nI (j + 1)) := by simp [rS, rI2]
      generalize gS (gI (gI gm3 31 (nI (h + 2))) 33 (nI y)) 34 (upd ((gI gm3 31 (nI (h + 2))).2.1 34) (k + 2) (nI (j + 1))) = gx at e Cx x31 x33 x34
      obtain ⟨E3, rfl⟩ : ∃ e, E3 = e + 1 + 1 := ⟨E3 - 2, by omega⟩
      refine Pr.turn (fun c => m_top (x := 91) (by omega) y31 d5 g33h e c) (Cx.mono (by simp) (by simp)) ?_
      have R4 : RR t g3 gx N s a3 (D + 1) v q m3 ht3 rk ho := R3.kp (Chg.rf _) (Cx.mono (by simp) (by simp)) d3 d2 (d4.kp (fun x _ _ => Cx.1 x (by simp; omega))) (by rw [Cx.1 34 (by simp)]; exact d6)
      rw [c1 d1 d2 d3, m_ci_s]
      have g33x : gx.2.1 33 (h + 1) = 90 := by rw [Cx.2.1 33 (by simp), F3.1 (h + 1) (by omega)]; exact hs1
      have e2 := s90 (n := n) (gx := gI gx 31 (nI (h + 1))) (h := h) (by omega) (by simp [rI])
      have fo : ∀ i, i < h → gx.2.1 33 i = gm0.2.1 33 i := fun i hi => by rw [Cx.2.1 33 (by simp), F3.1 i (by omega)]; exact lF.1 i hi
      have no : ∀ i, i < k → gx.2.1 34 i = gm0.2.1 34 i := fun i hi => by rw [x34, upd_o (by omega), F3.2.1 i (by omega)]; exact lF.2.1 i hi
      have yo : ∀ i, i < y → gx.2.1 35 i = gm0.2.1 35 i := fun i hi => by rw [Cx.2.1 35 (by simp), F3.2.2 i hi]; exact lF.2.2 i hi
      have AA : ∀ gz : mG, gz.2.1 43 = gx.2.1 43 → gz.2.1 44 = gx.2.1 44 → AG g0 gm0 g3 gz m := fun gz z1 z2 i hi => by
        obtain ⟨x1, x2, x3, x4⟩ := lA i hi
        obtain ⟨w1, w2, w3, w4⟩ := A3 i (by omega)
        exact ⟨w1.trans x1, w2.trans x2, by rw [z1, Cx.2.1 43 (by simp), w3, x3], by rw [z2, Cx.2.1 44 (by simp), w4, x4]⟩
      have MM : Chg [26, 27, 28, 29, 30, 31, 32, 33, 34, 37] [33, 34, 35, 43, 44] gm0 gx := lM.tr (M3.tr (Cx.mono (by simp) (by simp)))
      have v0 : lv 0 = 3 := rfl
      have HB : ∀ i, m ≤ i → i ≤ m3 → ht3 i ≤ H + (j + 1) + 5 * (15 - D) + 3 := fun i h1 h2 => by
        by_cases hi : i ≤ mc
        · rw [t1 i hi]; have := l3 i h1 hi; omega
        · have := t3 i (by omega) h2; omega
      by_cases hcm : t.2.1 12 a3 = 10
      · have k26 : (gI gx 31 (nI (h + 1))).1 26 = 9 := by simp [rI]; rw [R4.2.2.2.1.1, hcm]; decide
        rw [if_pos k26] at e2
        have C2 : Chg [31] [33] gx (pu (pu (pu (pu (gI gx 31 (nI (h + 1))) (h + 1) 90) (h + 2) 91) (h + 3) 60) (h + 4) 9) := (Chg.i 31 _ (by simp)).tr (pu_c.tr (pu_c.tr (pu_c.tr pu_c)))
        have v31 := pu_h (gm := pu (pu (pu (gI gx 31 (nI (h + 1))) (h + 1) 90) (h + 2) 91) (h + 3) 60) (h := h + 4) (x := 9)
        have v4 := pu_t (gm := pu (pu (pu (gI gx 31 (nI (h + 1))) (h + 1) 90) (h + 2) 91) (h + 3) 60) (h := h + 4) (x := 9)
        have v3 : (pu (pu (pu (pu (gI gx 31 (nI (h + 1))) (h + 1) 90) (h + 2) 91) (h + 3) 60) (h + 4) 9).2.1 33 (h + 3) = 60 := by rw [pu_o (by omega)]; exact pu_t
        have v2 : (pu (pu (pu (pu (gI gx 31 (nI (h + 1))) (h + 1) 90) (h + 2) 91) (h + 3) 60) (h + 4) 9).2.1 33 (h + 2) = 91 := by rw [pu_o (by omega), pu_o (by omega)]; exact pu_t
        have v1 : (pu (pu (pu (pu (gI gx 31 (nI (h + 1))) (h + 1) 90) (h + 2) 91) (h + 3) 60) (h + 4) 9).2.1 33 (h + 1) = 90 := by rw [pu_o (by omega), pu_o (by omega), pu_o (by omega)]; exact pu_t
        have vo : ∀ i, i < h + 1 → (pu (pu (pu (pu (gI gx 31 (nI (h + 1))) (h + 1) 90) (h + 2) 91) (h + 3) 60) (h + 4) 9).2.1 33 i = gx.2.1 33 i := fun i hi => by rw [pu_o (by omega), pu_o (by omega), pu_o (by omega), pu_o hi]; rfl
        generalize pu (pu (pu (pu (gI gx 31 (nI (h + 1))) (h + 1) 90) (h + 2) 91) (h + 3) 60) (h + 4) 9 = gp at e2 C2 v31 v4 v3 v2 v1 vo
        refine Pr.turn (fun c => m_top (x := 90) (by omega) x31 R4.2.2.2.2.1 g33x e2 c) (C2.mono (by simp) (by simp)) ?_
        have R5 : RR t g3 gp N s a3 (D + 1) v q m3 ht3 rk ho := R4.kp (Chg.rf _) (C2.mono (by simp) (by simp)) d3 d2 (R4.2.2.2.1.kp (fun x _ _ => C2.1 x (by simp; omega))) (by rw [C2.1 34 (by simp)]; exact R4.2.2.2.2.2.1)
        have er : f19_45 n rc c (nI a0) (nI f) (nI (D + 1)) (nI j + 1) 1 (nI j + 1) (gI g3 5 (g3.1 5 + 1)) = m_cv (f6 n (9 + 1) g3) (fun g0 => f19_45 n rc c (nI a0) (nI f) (nI (D + 1)) (nI (j + 1)) 1 (nI (j + 1)) g0) := by
          rw [c6 R5.rt (by rw [hcm]; rfl), m_cv_s, d3, nI_1, nI_1]
        have er' : (if ¬ t.2.1 12 a3 = (10 : Int32) then f19_45 n rc c (nI a0) (nI f) (nI (D + 1)) (nI (j + 1)) 0 (nI (j + 1)) g3 else f19_45 n rc c (nI a0) (nI f) (nI (D + 1)) (nI (j + 1)) 1 (nI (j + 1)) (gI g3 5 (g3.1 5 + 1))) = m_cv (f6 n (9 + 1) g3) (fun g0 => f19_45 n rc c (nI a0) (nI f) (nI (D + 1)) (nI (j + 1)) 1 (nI (j + 1)) g0) := by
          rw [if_neg (fun z => z hcm), ← er, nI_1]
        rw [er']
        refine Pr.cv (p_take (h := h + 4) hn R5.rt (by omega) v31 v4 (by decide) (by decide) (by decide) (by decide) (by omega)) ?_
        rintro g6 gm6 E6 _ _ ⟨hE6, hlt6, rfl, s31, s34, sP, C6⟩
        have R6 : RR t (gI g3 5 (nI (a3 + 1))) gm6 N s (a3 + 1) (D + 1) v q m3 ht3 rk ho := R5.kp (Chg.i 5 _ (by simp)) (C6.mono (by simp) (by simp)) (by simp [rI]) (by omega) sP s34
        refine IH c (a3 + 1) m3 (j + 1) E6 (gI g3 5 (nI (a3 + 1))) gm6 ht3 ?_ ?_ ⟨R6, ?_, ?_, ?_, ?_, ?_, ?_, ⟨fun i hi => ?_, fun i hi => ?_, fun i hi => ?_⟩, ?_, ?_, ?_, fun i hi => ?_, ?_, HB, ?_, ?_⟩ s31 ?_ ?_ ?_ ?_
        · omega
        · omega
        · rw [C6.1 32 (by simp), C2.1 32 (by simp), Cx.1 32 (by simp)]; exact y32
        · rw [C6.1 33 (by simp), C2.1 33 (by simp)]; exact x33
        · rw [C6.2.1 33 (by simp), vo h (by omega), Cx.2.1 33 (by simp), F3.1 h (by omega)]; exact l87
        · rw [C6.2.1 34 (by simp), C2.2.1 34 (by simp), x34, upd_o (by omega), F3.2.1 k (by omega)]; exact ln0
        · rw [C6.2.1 34 (by simp), C2.2.1 34 (by simp), x34, upd_o (by omega), F3.2.1 (k + 1) (by omega)]; exact ln1
        · rw [C6.2.1 34 (by simp), C2.2.1 34 (by simp), x34, upd_s]
        · rw [C6.2.1 33 (by simp), vo i (by omega)]; exact fo i hi
        · rw [C6.2.1 34 (by simp), C2.2.1 34 (by simp)]; exact no i hi
        · rw [C6.2.1 35 (by simp), C2.2.1 35 (by simp)]; exact yo i hi
        · exact AA gm6 (by rw [C6.2.1 43 (by simp), C2.2.1 43 (by simp)]) (by rw [C6.2.1 44 (by simp), C2.2.1 44 (by simp)])
        · exact lC.tr (D3.tr (Chg.i 5 _ (by simp)))
        · exact MM.tr ((C2.mono (by simp) (by simp)).tr (C6.mono (by simp) (by simp)))
        · exact (t1 i (by omega)).trans (l1 i hi)
        · rw [t2]; omega
        · omega
        · omega
        · rw [C6.2.1 33 (by simp)]; exact v1
        · rw [C6.2.1 33 (by simp)]; exact v2
        · rw [C6.2.1 33 (by simp)]; exact v3
        · omega
      · have k26 : ¬ (gI gx 31 (nI (h + 1))).1 26 = 9 := fun z => hcm (by
          have z' : kd (t.2.1 12 a3) = 9 := by rw [← R4.2.2.2.1.1]; simpa [rI] using z
          exact (kd_iff (by decide) (by decide) (by decide)).mp z')
        rw [if_neg k26] at e2
        have C2 : Chg [31] [] gx (gI gx 31 (nI (h + 1))) := Chg.i 31 _ (by simp)
        refine Pr.turn (fun c => m_top (x := 90) (by omega) x31 R4.2.2.2.2.1 g33x e2 c) (C2.mono (by simp) (by simp)) ?_
        have R5 : RR t g3 (gI gx 31 (nI (h + 1))) N s a3 (D + 1) v q m3 ht3 rk ho := R4.kp (Chg.rf _) (C2.mono (by simp) (by simp)) d3 d2 (R4.2.2.2.1.kp (fun x _ _ => C2.1 x (by simp; omega))) (by rw [C2.1 34 (by simp)]; exact R4.2.2.2.2.2.1)
        obtain ⟨c, rfl⟩ : ∃ z, c = z + 1 := ⟨c - 1, by omega⟩
        have er : f19_45 n rc (c + 1) (nI a0) (nI f) (nI (D + 1)) (nI (j + 1)) 0 (nI (j + 1)) g3 = f19_111 n rc (nI a0) (nI f) (nI (j + 1)) g3 := by
          rw [f19_45]
          by_cases hw : (600 : Int32) ≤ nI (j + 1)
          · rw [if_pos hw]
          · rw [if_neg hw, if_pos rfl]
        rw [if_pos hcm, er]
        refine p_cend (a := a3) (mc := m3) (j := j + 1) (f := f) (htc := ht3) hn ⟨R5, ?_, ?_, ?_, ?_, ?_, ?_, ⟨fun i hi => ?_, fun i hi => ?_, fun i hi => ?_⟩, ?_, ?_, ?_, fun i hi => ?_, ?_, HB, ?_, ?_⟩ (by simp [rI]) hf hD ha0 pm pr (by omega) (by omega) (by omega) hE0 (by omega)
        · rw [C2.1 32 (by simp), Cx.1 32 (by simp)]; exact y32
        · rw [C2.1 33 (by simp)]; exact x33
        · rw [C2.2.1 33 (by simp), Cx.2.1 33 (by simp), F3.1 h (by omega)]; exact l87
        · rw [C2.2.1 34 (by simp), x34, upd_o (by omega), F3.2.1 k (by omega)]; exact ln0
        · rw [C2.2.1 34 (by simp), x34, upd_o (by omega), F3.2.1 (k + 1) (by omega)]; exact ln1
        · rw [C2.2.1 34 (by simp), x34, upd_s]
        · rw [C2.2.1 33 (by simp)]; exact fo i hi
        · rw [C2.2.1 34 (by simp)]; exact no i hi
        · rw [C2.2.1 35 (by simp)]; exact yo i hi
        · exact AA _ (C2.2.1 43 (by simp)) (C2.2.1 44 (by simp))
        · exact lC.tr D3
        · exact MM.tr (C2.mono (by simp) (by simp))
        · exact (t1 i (by omega)).trans (l1 i hi)
        · rw [t2]; omega
        · omega
        · omega
    · rw [if_neg hz0] at e
      have hne : ¬ nI z = 0 := fun w => hz0 ((nI_eq (a := z) (b := 0) (by omega) (by omega)).mp w)
      rw [if_neg hne, c3 d1 ha0, m_cv_f, m_cv_f]
      refine Pr.no (p := tp t a0) (by omega) (by omega) (fun c => m_top (x := 91) (by omega) y31 d5 g33h e c) ?_ ?_ (Chg.i 6 _ (by simp)) (by simp [rI])
      · exact (Chg.i 31 _ (by simp)).tr ((Chg.i 33 _ (by simp)).tr ((Chg.i 30 _ (by simp)).tr (Chg.s 34 _ (by simp))))
      · simp [rI, rS1]
end Cl3
