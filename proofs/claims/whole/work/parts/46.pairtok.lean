/-! tokens taken, instructions added, by both -/
abbrev MT : List Nat := [26, 27, 28, 29, 31, 32, 33, 34]
def em (g : mG) (m : Nat) (mk ar : Int32) : mG := gI (gS (gS g 17 (upd (g.2.1 17) m mk)) 18 (upd (g.2.1 18) m ar)) 12 (nI (m + 1))
def en (g : mG) (m : Nat) (mk ar : Int32) : mG := gI (gS (gS g 43 (upd (g.2.1 43) m mk)) 44 (upd (g.2.1 44) m ar)) 37 (nI (m + 1))
theorem em_c {g : mG} {m : Nat} {mk ar : Int32} : Chg [12] [17, 18] g (em g m mk ar) := (Chg.s 17 _ (by simp)).tr ((Chg.s 18 _ (by simp)).tr (Chg.i 12 _ (by simp)))
theorem en_c {g : mG} {m : Nat} {mk ar : Int32} : Chg [37] [43, 44] g (en g m mk ar) := (Chg.s 43 _ (by simp)).tr ((Chg.s 44 _ (by simp)).tr (Chg.i 37 _ (by simp)))
theorem em_12 {g : mG} {m : Nat} {mk ar : Int32} : (em g m mk ar).1 12 = nI (m + 1) := by simp [em, rI]
theorem en_37 {g : mG} {m : Nat} {mk ar : Int32} : (en g m mk ar).1 37 = nI (m + 1) := by simp [en, rI]
theorem em_17 {g : mG} {m : Nat} {mk ar : Int32} : (em g m mk ar).2.1 17 = upd (g.2.1 17) m mk := by simp [em, rI2, rS]
theorem em_18 {g : mG} {m : Nat} {mk ar : Int32} : (em g m mk ar).2.1 18 = upd (g.2.1 18) m ar := by simp [em, rI2, rS]
theorem en_43 {g : mG} {m : Nat} {mk ar : Int32} : (en g m mk ar).2.1 43 = upd (g.2.1 43) m mk := by simp [en, rI2, rS]
theorem en_44 {g : mG} {m : Nat} {mk ar : Int32} : (en g m mk ar).2.1 44 = upd (g.2.1 44) m ar := by simp [en, rI2, rS]
theorem upd_o {f : Nat → Int32} {m i : Nat} {x : Int32} (h : ¬ i = m) : upd f m x i = f i := by simp [upd, h]
theorem upd_s {f : Nat → Int32} {m : Nat} {x : Int32} : upd f m x m = x := by simp [upd]
section Tk2
variable {n N s a D v q m E h : Nat} {t g gm : mG} {ht rk : Nat → Nat} {ho : Nat → Prop}
theorem c34 {mk ar : Int32} (hm : m < 600) (h12 : g.1 12 = nI m) : f34_3 n mk ar g = some (.inl (some (.int (nI m))), em g m mk ar) := by
  unfold f34_3 em
  rw [h12, if_neg (show ¬ (600 : Int32) ≤ nI m from nI_ge (a := m) (b := 600) hm (by decide)), if_neg (nI_in hm (by decide)), if_neg (nI_in hm (by decide)), nI_clamp (by omega), nI_1, nI_pred]
theorem m109 {mk ar : Int32} (hm : m < 600) (h37 : gm.1 37 = nI m) : f109 n mk ar gm = some (.inl none, en gm m mk ar) := by
  unfold f109 en
  have hin : ¬ (nI m < 0 ∨ 2400 ≤ Int32.toNatClampNeg (nI m)) := nI_in (c := m) (N := 2400) (by omega) (by decide)
  rw [h37, if_neg hin, if_neg hin, nI_clamp (by omega), nI_1]
theorem c37 {j : Nat} (hj : j < m) (hm : m ≤ 600) (h12 : g.1 12 = nI m) : f37_3 n (nI j) g = some (.inl none, gS g 18 (upd (g.2.1 18) j (nI m))) := by
  unfold f37_3
  rw [if_neg (nI_pos (by omega)), h12, if_neg (nI_ge (by omega) (by omega)), if_neg (nI_in (by omega) (by decide)), nI_clamp (by omega)]
theorem m123 {j : Nat} (hj : j < m) (hm : m ≤ 600) (h37 : gm.1 37 = nI m) : f123 n (nI j) gm = some (.inl none, gS gm 44 (upd (gm.2.1 44) j (nI m))) := by
  unfold f123
  rw [if_neg (nI_in (by omega) (by decide)), nI_clamp (by omega), h37]
theorem CG.kp {g' gm' : mG} (h : CG g gm m q ht rk ho) (h1 : g'.1 12 = g.1 12) (h2 : gm'.1 37 = gm.1 37) (c1 : ∀ x, 17 ≤ x → x ≤ 20 → g'.2.1 x = g.2.1 x) (c2 : ∀ x, x = 38 ∨ x = 39 ∨ x = 43 ∨ x = 44 → gm'.2.1 x = gm.2.1 x) : CG g' gm' m q ht rk ho := by
  unfold CG
  rw [h1, h2, c1 17 (by omega) (by omega), c1 18 (by omega) (by omega), c1 19 (by omega) (by omega), c1 20 (by omega) (by omega), c2 38 (by omega), c2 39 (by omega), c2 43 (by omega), c2 44 (by omega)]
  exact h
theorem NV.kp {g' gm' : mG} (h : NV t g gm s v q) (h1 : g'.1 7 = g.1 7) (h2 : g'.1 13 = g.1 13) (h3 : gm'.1 35 = gm.1 35) (h4 : gm'.1 36 = gm.1 36) (c1 : ∀ x, 9 ≤ x → x ≤ 11 → g'.2.1 x = g.2.1 x) (c2 : ∀ x, 36 ≤ x → x ≤ 42 → gm'.2.1 x = gm.2.1 x) : NV t g' gm' s v q := by
  unfold NV NT
  rw [h1, h2, h3, h4, c1 9 (by omega) (by omega), c1 10 (by omega) (by omega), c1 11 (by omega) (by omega), c2 36 (by omega) (by omega), c2 37 (by omega) (by omega), c2 40 (by omega) (by omega), c2 41 (by omega) (by omega), c2 42 (by omega) (by omega)]
  exact h
/-- only the place in the text and the reference's stacks have changed -/
theorem RR.kp {a' D' : Nat} {g' gm' : mG} (h : RR t g gm N s a D v q m ht rk ho) (h1 : Chg [5] [] g g') (h2 : Chg MT [33, 34, 35] gm gm') (h5 : g'.1 5 = nI a') (ha : a' ≤ s) (hP : PM t gm' a') (hD : gm'.1 34 = nI D') : RR t g' gm' N s a' D' v q m ht rk ho := by
  obtain ⟨b1, b2, b3, b4, b5, b6, b7, b8⟩ := h
  refine ⟨b1.kp (h1.mono (by simp) (by simp)) (h2.mono (by simp) (by simp)), ha, h5, hP, by rw [h2.1 30 (by simp)]; exact b5, hD, ?_, ?_⟩
  · exact b7.kp (h1.1 7 (by simp)) (h1.1 13 (by simp)) (h2.1 35 (by simp)) (h2.1 36 (by simp)) (fun x _ _ => h1.2.1 x (by simp)) (fun x y z => h2.2.1 x (by simp; omega))
  · exact b8.kp (h1.1 12 (by simp)) (h2.1 37 (by simp)) (fun x _ _ => h1.2.1 x (by simp)) (fun x y => h2.2.1 x (by simp; omega))
theorem PM.kp {gm' : mG} (h : PM t gm a) (h1 : ∀ x, 26 ≤ x → x ≤ 29 → gm'.1 x = gm.1 x) : PM t gm' a := by
  unfold PM
  rw [h1 26 (by omega) (by omega), h1 27 (by omega) (by omega), h1 28 (by omega) (by omega), h1 29 (by omega) (by omega)]
  exact h
/-- an instruction more, in both -/
theorem RR.add {ht' : Nat → Nat} {ho' : Nat → Prop} {mk ar st pt : Int32} (h : RR t g gm N s a D v q m ht rk ho) (hm : m < 600) (h1 : ∀ i, i ≤ m → ht' i = ht i) (h2 : ∀ i, i < m → ho i → ho' i) (hl : ho' m ∨ LC (g.2.1 20) (m + 2) q ht' rk m mk ar st pt) : RR t (em g m mk ar) (en gm m st pt) N s a D v q (m + 1) ht' rk ho' := by
  obtain ⟨b1, b2, b3, b4, b5, b6, b7, b8⟩ := h
  have c1 := em_c (g := g) (m := m) (mk := mk) (ar := ar)
  have c2 := en_c (g := gm) (m := m) (mk := st) (ar := pt)
  refine ⟨b1.kp (c1.mono (by simp) (by simp)) (c2.mono (by simp) (by simp)), b2, by rw [c1.1 5 (by simp)]; exact b3, b4.kp (fun x _ _ => c2.1 x (by simp; omega)), by rw [c2.1 30 (by simp)]; exact b5, by rw [c2.1 34 (by simp)]; exact b6, ?_, ?_⟩
  · exact b7.kp (c1.1 7 (by simp)) (c1.1 13 (by simp)) (c2.1 35 (by simp)) (c2.1 36 (by simp)) (fun x _ _ => c1.2.1 x (by simp; omega)) (fun x y z => c2.2.1 x (by simp; omega))
  · obtain ⟨d1, d2, d3, d4, d5⟩ := b8
    refine ⟨em_12, en_37, by omega, fun f hf => ?_, fun i hi hh => ?_⟩
    · rw [c2.2.1 38 (by simp), c2.2.1 39 (by simp), c1.2.1 19 (by simp), c1.2.1 20 (by simp)]
      obtain ⟨e1, e2, e, P, e3, e4, e5, e6, e7⟩ := d4 f hf
      exact ⟨e1, e2, e, P, e3, e4, by omega, e6, by rw [h1 e e5]; exact e7⟩
    · rw [c1.2.1 20 (by simp), em_17, em_18, en_43, en_44]
      by_cases hz : i = m
      · subst hz
        rw [upd_s, upd_s, upd_s, upd_s]
        exact hl.elim (fun z => absurd z hh) id
      · rw [upd_o hz, upd_o hz, upd_o hz, upd_o hz]
        exact (d5 i (by omega) (fun z => hh (h2 i (by omega) z))).mono (by omega) (by omega) (Nat.le_refl _) (fun j hj => h1 j (by omega)) rfl (fun j _ => Nat.le_refl _)
/-- a jump gets its aim, in both -/
theorem RR.aim {j : Nat} {ho' : Nat → Prop} (h : RR t g gm N s a D v q m ht rk ho) (hj : j < m) (h2 : ∀ i, i < m → ¬ i = j → ho i → ho' i) (hl : ho' j ∨ LC (g.2.1 20) (m + 1) q ht rk j (g.2.1 17 j) (nI m) (gm.2.1 43 j) (nI m)) : RR t (gS g 18 (upd (g.2.1 18) j (nI m))) (gS gm 44 (upd (gm.2.1 44) j (nI m))) N s a D v q m ht rk ho' := by
  obtain ⟨b1, b2, b3, b4, b5, b6, b7, b8⟩ := h
  have c1 : Chg [] [18] g (gS g 18 (upd (g.2.1 18) j (nI m))) := Chg.s 18 _ (by simp)
  have c2 : Chg [] [44] gm (gS gm 44 (upd (gm.2.1 44) j (nI m))) := Chg.s 44 _ (by simp)
  refine ⟨b1.kp (c1.mono (by simp) (by simp)) (c2.mono (by simp) (by simp)), b2, b3, b4, b5, b6, ?_, ?_⟩
  · exact b7.kp rfl rfl rfl rfl (fun x _ _ => c1.2.1 x (by simp; omega)) (fun x y z => c2.2.1 x (by simp; omega))
  · obtain ⟨d1, d2, d3, d4, d5⟩ := b8
    refine ⟨d1, d2, d3, fun f hf => ?_, fun i hi hh => ?_⟩
    · rw [c2.2.1 38 (by simp), c2.2.1 39 (by simp), c1.2.1 19 (by simp), c1.2.1 20 (by simp)]
      exact d4 f hf
    · rw [c1.2.1 20 (by simp), c1.2.1 17 (by simp), c2.2.1 43 (by simp), rS, rS]
      by_cases hz : i = j
      · subst hz
        simp only [if_true, upd_s]
        exact hl.elim (fun z => absurd z hh) id
      · simp only [if_true, upd_o hz]
        exact d5 i hi (fun z => hh (h2 i hi hz z))
/-- what of it the tokens need -/
def RT (t g gm : mG) (N s a D : Nat) : Prop := TR t g gm N s ∧ a ≤ s ∧ g.1 5 = nI a ∧ PM t gm a ∧ gm.1 30 = -1 ∧ gm.1 34 = nI D
theorem RR.rt (h : RR t g gm N s a D v q m ht rk ho) : RT t g gm N s a D := ⟨h.1, h.2.1, h.2.2.1, h.2.2.2.1, h.2.2.2.2.1, h.2.2.2.2.2.1⟩
/-- a token is expected -/
theorem p_take {c : Int32} (hn : 700 ≤ n) (hR : RT t g gm N s a D) (hh : h < 900) (h31 : gm.1 31 = nI (h + 1)) (hx : gm.2.1 33 h = c) (k0 : c ≠ 0) (k1 : c ≠ 35) (k2 : c ≠ -1) (k3 : ¬ 40 ≤ c) (hE : 2 ≤ E) : Pr n g gm E (f6 n (c + 1) g) (QV fun g' gm' E' => E' + 1 = E ∧ a < s ∧ g' = gI g 5 (nI (a + 1)) ∧ gm'.1 31 = nI h ∧ gm'.1 34 = nI D ∧ PM t gm' (a + 1) ∧ Chg [26, 27, 28, 29, 31] [] gm gm') := by
  obtain ⟨b1, b2, b3, b4, b5, b6⟩ := id hR
  have z26 : (gI gm 31 (nI h)).1 26 = kd (t.2.1 12 a) := by simp [rI, b4.1]
  have z27 : (gI gm 31 (nI h)).1 27 = nI (tp t a) := by simp [rI, b4.2.1]
  have z28 : (gI gm 31 (nI h)).1 28 = nI (tq t (a + 1)) := by simp [rI, b4.2.2.1]
  have z30 : (gI gm 31 (nI h)).1 30 = -1 := by simp [rI, b5]
  have hp := b1.tp b2
  have C31 : Chg [26, 27, 28, 29, 31] [] gm (gI gm 31 (nI h)) := Chg.i 31 _ (by simp)
  have b1' : TR t g (gI gm 31 (nI h)) N s := b1.kp (Chg.rf _) (C31.mono (by simp) (by simp))
  by_cases hm : t.2.1 12 a = c + 1
  · have hlt : a < s := b1.lt b2 hm (fun z => k2 (by rw [show c = c + 1 - 1 by rw [Int32.add_sub_cancel], z]; rfl)) (fun z => k0 (by rw [show c = c + 1 - 1 by rw [Int32.add_sub_cancel], z]; rfl))
    obtain ⟨gm', e1, e2, e3⟩ := m_adv (n := n) hn b1' hlt z28
    have e : f101 n c (gI gm 31 (nI h)) = some (.inl none, gm') := by
      unfold f101 f102
      rw [if_neg k3, z26, if_neg (fun z => z ((kd_iff k0 k1 k2).mpr hm)), e1, m_cv_s, m_cv_s]
    have C : Chg [26, 27, 28, 29, 31] [] gm gm' := C31.tr (e3.mono (by simp) (by simp))
    refine Or.inl ⟨none, gI g 5 (nI (a + 1)), gm', 1, ?_, fun c => m_top hh h31 b5 hx e c, by omega, Chg.i 5 _ (by simp), C.mono (by simp) (by simp), rfl, by omega, hlt, rfl, ?_, ?_, e2, C⟩
    · unfold f6 f6_16
      rw [c1 b1 b2 b3, m_ci_s, if_pos hm, b3, nI_1]
    · rw [e3.1 31 (by simp)]; simp [rI]
    · rw [C.1 34 (by simp)]; exact b6
  · have e : f101 n c (gI gm 31 (nI h)) = some (.inl none, gI (gI gm 31 (nI h)) 30 (nI (tp t a))) := by
      unfold f101 f102
      rw [if_neg k3, z26, if_pos (fun z => hm ((kd_iff k0 k1 k2).mp z)), z27, m103 (by omega) z30, m_cv_s, m_cv_s]
    have er : f6 n (c + 1) g = some (.inr 0, gI g 6 (nI (tp t a))) := by
      unfold f6
      rw [c1 b1 b2 b3, m_ci_s, if_neg hm, b3, c3 b1 b2, m_cv_f]
    rw [er]
    exact Pr.no (p := tp t a) hE (by omega) (fun c => m_top hh h31 b5 hx e c) ((Chg.i 31 _ (by simp)).tr (Chg.i 30 _ (by simp))) (by simp [rI]) (Chg.i 6 _ (by simp)) (by simp [rI])
/-- a token that closes is expected -/
theorem p_close {c x : Int32} (hn : 700 ≤ n) (hR : RT t g gm N s a (D + 1)) (hh : h < 900) (h31 : gm.1 31 = nI (h + 1)) (hx : gm.2.1 33 h = x) (k0 : c ≠ 0) (k1 : c ≠ 35) (k2 : c ≠ -1) (k3 : 40 ≤ x) (k4 : ¬ x < 300) (k5 : x - 300 = c) (hE : 2 ≤ E) : Pr n g gm E (f6 n (c + 1) g) (QV fun g' gm' E' => E' + 1 = E ∧ a < s ∧ g' = gI g 5 (nI (a + 1)) ∧ gm'.1 31 = nI h ∧ gm'.1 34 = nI D ∧ PM t gm' (a + 1) ∧ Chg [26, 27, 28, 29, 31, 34] [] gm gm') := by
  obtain ⟨b1, b2, b3, b4, b5, b6⟩ := id hR
  have z26 : (gI gm 31 (nI h)).1 26 = kd (t.2.1 12 a) := by simp [rI, b4.1]
  have z27 : (gI gm 31 (nI h)).1 27 = nI (tp t a) := by simp [rI, b4.2.1]
  have z28 : (gI gm 31 (nI h)).1 28 = nI (tq t (a + 1)) := by simp [rI, b4.2.2.1]
  have z30 : (gI gm 31 (nI h)).1 30 = -1 := by simp [rI, b5]
  have hp := b1.tp b2
  have C31 : Chg [26, 27, 28, 29, 31, 34] [] gm (gI gm 31 (nI h)) := Chg.i 31 _ (by simp)
  have b1' : TR t g (gI gm 31 (nI h)) N s := b1.kp (Chg.rf _) (C31.mono (by simp) (by simp))
  by_cases hm : t.2.1 12 a = c + 1
  · have hlt : a < s := b1.lt b2 hm (fun z => k2 (by rw [show c = c + 1 - 1 by rw [Int32.add_sub_cancel], z]; rfl)) (fun z => k0 (by rw [show c = c + 1 - 1 by rw [Int32.add_sub_cancel], z]; rfl))
    obtain ⟨gm', e1, e2, e3⟩ := m_adv (n := n) hn b1' hlt z28
    have e34 : gm'.1 34 = nI (D + 1) := by rw [e3.1 34 (by simp)]; simp [rI, b6]
    have e : f101 n x (gI gm 31 (nI h)) = some (.inl none, gI gm' 34 (nI D)) := by
      unfold f101 f102
      rw [if_pos k3, if_neg k4, k5, z26, if_neg (fun z => z ((kd_iff k0 k1 k2).mpr hm)), e1, m_cv_s, m_cv_s, e34, nI_pred]
    have C : Chg [26, 27, 28, 29, 31, 34] [] gm (gI gm' 34 (nI D)) := C31.tr ((e3.mono (by simp) (by simp)).tr (Chg.i 34 _ (by simp)))
    refine Or.inl ⟨none, gI g 5 (nI (a + 1)), gI gm' 34 (nI D), 1, ?_, fun c => m_top hh h31 b5 hx e c, by omega, Chg.i 5 _ (by simp), C.mono (by simp) (by simp), rfl, by omega, hlt, rfl, ?_, by simp [rI], e2, C⟩
    · unfold f6 f6_16
      rw [c1 b1 b2 b3, m_ci_s, if_pos hm, b3, nI_1]
    · show (gI gm' 34 (nI D)).1 31 = nI h
      simp [rI, e3.1 31 (by simp)]
  · have e : f101 n x (gI gm 31 (nI h)) = some (.inl none, gI (gI (gI gm 31 (nI h)) 30 (nI (tp t a))) 34 (nI D)) := by
      unfold f101 f102
      rw [if_pos k3, if_neg k4, k5, z26, if_pos (fun z => hm ((kd_iff k0 k1 k2).mp z)), z27, m103 (by omega) z30, m_cv_s, m_cv_s]
      have : (gI (gI gm 31 (nI h)) 30 (nI (tp t a))).1 34 = nI (D + 1) := by simp [rI, b6]
      rw [this, nI_pred]
    have er : f6 n (c + 1) g = some (.inr 0, gI g 6 (nI (tp t a))) := by
      unfold f6
      rw [c1 b1 b2 b3, m_ci_s, if_neg hm, b3, c3 b1 b2, m_cv_f]
    rw [er]
    exact Pr.no (p := tp t a) hE (by omega) (fun c => m_top hh h31 b5 hx e c) ((Chg.i 31 _ (by simp)).tr ((Chg.i 30 _ (by simp)).tr (Chg.i 34 _ (by simp)))) (by simp [rI]) (Chg.i 6 _ (by simp)) (by simp [rI])
/-- a token that leads deeper is expected -/
theorem p_open {c x : Int32} (hn : 700 ≤ n) (hR : RT t g gm N s a D) (hD : D ≤ 16) (hh : h < 900) (h31 : gm.1 31 = nI (h + 1)) (hx : gm.2.1 33 h = x) (k0 : c ≠ 0) (k1 : c ≠ 35) (k2 : c ≠ -1) (k3 : 40 ≤ x) (k4 : x < 300) (k5 : ¬ x < 200) (k6 : x - 200 = c) (hE : 2 ≤ E) : Pr n g gm E (f12 n (c + 1) (nI D) g) (QI fun y g' gm' E' => y = nI (D + 1) ∧ D < 16 ∧ E' + 1 = E ∧ a < s ∧ g' = gI g 5 (nI (a + 1)) ∧ gm'.1 31 = nI h ∧ gm'.1 34 = nI (D + 1) ∧ PM t gm' (a + 1) ∧ Chg [26, 27, 28, 29, 31, 34] [] gm gm') := by
  obtain ⟨b1, b2, b3, b4, b5, b6⟩ := id hR
  have z26 : (gI gm 31 (nI h)).1 26 = kd (t.2.1 12 a) := by simp [rI, b4.1]
  have z27 : (gI gm 31 (nI h)).1 27 = nI (tp t a) := by simp [rI, b4.2.1]
  have z30 : (gI gm 31 (nI h)).1 30 = -1 := by simp [rI, b5]
  have z34 : (gI gm 31 (nI h)).1 34 = nI D := by simp [rI, b6]
  have hp := b1.tp b2
  have fail : f101 n x (gI gm 31 (nI h)) = some (.inl none, gI (gI gm 31 (nI h)) 30 (nI (tp t a))) → f12 n (c + 1) (nI D) g = some (.inr 0, gI g 6 (nI (tp t a))) → Pr n g gm E (f12 n (c + 1) (nI D) g) (QI fun y g' gm' E' => y = nI (D + 1) ∧ D < 16 ∧ E' + 1 = E ∧ a < s ∧ g' = gI g 5 (nI (a + 1)) ∧ gm'.1 31 = nI h ∧ gm'.1 34 = nI (D + 1) ∧ PM t gm' (a + 1) ∧ Chg [26, 27, 28, 29, 31, 34] [] gm gm') := fun e er => by
    rw [er]
    exact Pr.no (p := tp t a) hE (by omega) (fun c => m_top hh h31 b5 hx e c) ((Chg.i 31 _ (by simp)).tr (Chg.i 30 _ (by simp))) (by simp [rI]) (Chg.i 6 _ (by simp)) (by simp [rI])
  by_cases hm : t.2.1 12 a = c + 1
  · by_cases hd : D = 16
    · apply fail
      · unfold f101 f104 f104_17
        rw [if_pos k3, if_pos k4, if_neg k5, k6, z26, if_neg (fun z => z ((kd_iff k0 k1 k2).mpr hm)), z34, if_neg (fun z => z (by rw [hd]; rfl)), z27, m103 (by omega) z30, m_cv_s, m_cv_s]
      · unfold f12 f12_14
        rw [c1 b1 b2 b3, m_ci_s, if_neg (fun z => z hm), if_neg (show ¬ nI D < (16 : Int32) from nI_nlt (a := D) (b := 16) (by omega) (by omega)), b3, c3 b1 b2, m_cv_f]
    · have hlt : a < s := b1.lt b2 hm (fun z => k2 (by rw [show c = c + 1 - 1 by rw [Int32.add_sub_cancel], z]; rfl)) (fun z => k0 (by rw [show c = c + 1 - 1 by rw [Int32.add_sub_cancel], z]; rfl))
      have C31 : Chg [26, 27, 28, 29, 31, 34] [] gm (gI (gI gm 31 (nI h)) 34 (nI (D + 1))) := (Chg.i 31 _ (by simp)).tr (Chg.i 34 _ (by simp))
      have b1' : TR t g (gI (gI gm 31 (nI h)) 34 (nI (D + 1))) N s := b1.kp (Chg.rf _) (C31.mono (by simp) (by simp))
      obtain ⟨gm', e1, e2, e3⟩ := m_adv (n := n) hn b1' hlt (by simp [rI, b4.2.2.1])
      have e : f101 n x (gI gm 31 (nI h)) = some (.inl none, gm') := by
        unfold f101 f104
        rw [if_pos k3, if_pos k4, if_neg k5, k6, z26, if_neg (fun z => z ((kd_iff k0 k1 k2).mpr hm)), z34, if_pos (show ¬ nI D = (16 : Int32) from fun z => hd ((nI_eq (a := D) (b := 16) (by omega) (by decide)).mp z)), nI_1, e1, m_cv_s, m_cv_s]
      have C : Chg [26, 27, 28, 29, 31, 34] [] gm gm' := C31.tr (e3.mono (by simp) (by simp))
      refine Or.inl ⟨some (.int (nI (D + 1))), gI g 5 (nI (a + 1)), gm', 1, ?_, fun c => m_top hh h31 b5 hx e c, by omega, Chg.i 5 _ (by simp), C.mono (by simp) (by simp), nI (D + 1), rfl, rfl, by omega, by omega, hlt, rfl, ?_, ?_, e2, C⟩
      · unfold f12 f12_22
        rw [c1 b1 b2 b3, m_ci_s, if_neg (fun z => z hm), if_pos (show nI D < (16 : Int32) from nI_lt (a := D) (b := 16) (by omega) (by decide)), b3, nI_1, nI_1]
      · rw [e3.1 31 (by simp)]; simp [rI]
      · rw [e3.1 34 (by simp)]; simp [rI]
  · apply fail
    · unfold f101 f104 f104_17
      rw [if_pos k3, if_pos k4, if_neg k5, k6, z26, if_pos (fun z => hm ((kd_iff k0 k1 k2).mp z)), z27, m103 (by omega) z30, m_cv_s, m_cv_s]
    · unfold f12 f12_14
      rw [c1 b1 b2 b3, m_ci_s, if_pos hm, b3, c3 b1 b2, m_cv_f]
end Tk2
