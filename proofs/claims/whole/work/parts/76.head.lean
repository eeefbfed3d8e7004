/-! a function's name -/
theorem Pr.fal {n E : Nat} {g gm g1 : mG} {Q Q' : Option Value → mG → mG → Nat → Prop} (h : Pr n g gm E (some (.inr 0, g1)) Q) : Pr n g gm E (some (.inr 0, g1)) Q' := by
  rcases h with ⟨o, g', gm', j, q1, _⟩ | w
  · cases q1
  · exact Or.inr w
theorem LC.pa {pa pa' : Nat → Int32} {m q i : Nat} {ht rk : Nat → Nat} {mk ar st pt : Int32} (h : LC pa m q ht rk i mk ar st pt) (hp : ∀ f, f < q → pa' f = pa f) : LC pa' m q ht rk i mk ar st pt := by
  refine Or.imp id (Or.imp id (Or.imp id (Or.imp id (Or.imp id (Or.imp id (Or.imp id (Or.imp id (Or.imp id (Or.imp id (Or.imp ?_ id)))))))))) h
  rintro ⟨a1, a2, a3, ⟨f, P, b1, b2, b3, b4, b5⟩, a4, a5, a6⟩
  exact ⟨a1, a2, a3, ⟨f, P, b1, b2, by rw [hp f b1]; exact b3, b4, b5⟩, a4, a5, a6⟩
/-- between functions, and in a function's head -/
def HB (t g gm : mG) (N s a : Nat) : Prop := TR t g gm N s ∧ a ≤ s ∧ g.1 5 = nI a ∧ PM t gm a ∧ gm.1 30 = -1 ∧ gm.1 34 = nI 0
def HN (t g gm : mG) (s q : Nat) : Prop := q ≤ 8 ∧ g.1 13 = nI q ∧ gm.1 35 = nI q ∧ NT t g gm s 9 36 37 q
def HD (t g gm : mG) (N s a q m P : Nat) (ht rk : Nat → Nat) (ho : Nat → Prop) : Prop := HB t g gm N s a ∧ NV t g gm s P (q + 1) ∧ CG g gm m q ht rk ho ∧ g.2.1 19 q = nI m ∧ gm.2.1 38 q = nI m ∧ g.2.1 20 q = nI P ∧ gm.2.1 39 q = nI P ∧ P ≤ 3
def fv (g : mG) (q a m : Nat) : mG := gI (gI (gI (gS (gS (gS g 9 (upd (g.2.1 9) q (nI a))) 19 (upd (g.2.1 19) q (nI m))) 20 (upd (g.2.1 20) q 0)) 13 (nI (q + 1))) 7 0) 5 (nI (a + 1))
def fm (g : mG) (q p l m : Nat) : mG := gI (gI (gS (gS (gS (gS g 36 (upd (g.2.1 36) q (nI p))) 37 (upd (g.2.1 37) q (nI l))) 38 (upd (g.2.1 38) q (nI m))) 39 (upd (g.2.1 39) q 0)) 35 (nI (q + 1))) 36 0
section Hd
variable {n N s a D v q m h k y E R P p l : Nat} {t g gm gx : mG} {ht rk : Nat → Nat} {ho : Nat → Prop}
theorem CG.pa {g' gm' : mG} (hC : CG g gm m q ht rk ho) (h1 : g'.1 12 = g.1 12) (h2 : gm'.1 37 = gm.1 37) (c17 : g'.2.1 17 = g.2.1 17) (c18 : g'.2.1 18 = g.2.1 18) (c43 : gm'.2.1 43 = gm.2.1 43) (c44 : gm'.2.1 44 = gm.2.1 44) (c19 : ∀ f, f < q → g'.2.1 19 f = g.2.1 19 f) (c20 : ∀ f, f < q → g'.2.1 20 f = g.2.1 20 f) (c38 : ∀ f, f < q → gm'.2.1 38 f = gm.2.1 38 f) (c39 : ∀ f, f < q → gm'.2.1 39 f = gm.2.1 39 f) : CG g' gm' m q ht rk ho := by
  obtain ⟨d1, d2, d3, d4, d5⟩ := hC
  refine ⟨h1.trans d1, h2.trans d2, d3, fun f hf => ?_, fun i hi hh => ?_⟩
  · rw [c38 f hf, c39 f hf, c19 f hf, c20 f hf]
    exact d4 f hf
  · rw [c17, c18, c43, c44]
    exact (d5 i hi hh).pa c20
theorem HD.rr (h : HD t g gm N s a q m P ht rk ho) (hH : ht m = 0) : RR t g gm N s a 0 P (q + 1) m ht rk ho := by
  obtain ⟨⟨b1, b2, b3, b4, b5, b6⟩, hN, hC, e1, e2, e3, e4, e5⟩ := h
  obtain ⟨d1, d2, d3, d4, d5⟩ := hC
  refine ⟨b1, b2, b3, b4, b5, b6, hN, d1, d2, d3, fun f hf => ?_, fun i hi hh => (d5 i hi hh).mono (by omega) (Nat.le_refl _) (by omega) (fun _ _ => rfl) rfl (fun _ _ => Nat.le_refl _)⟩
  by_cases hz : f = q
  · subst hz
    exact ⟨by rw [e1, e2], by rw [e3, e4], m, P, e1, e3, Nat.le_refl _, e5, hH⟩
  · exact d4 f (by omega)
theorem HB.rt (h : HB t g gm N s a) : RT t g gm N s a 0 := h
theorem HB.kp {a' : Nat} {g' gm' : mG} (h : HB t g gm N s a) (h1 : Chg CS CA g g') (h2 : Chg MS MA gm gm') (h5 : g'.1 5 = nI a') (ha : a' ≤ s) (hP : PM t gm' a') (h30 : gm'.1 30 = gm.1 30) (h34 : gm'.1 34 = gm.1 34) : HB t g' gm' N s a' := by
  obtain ⟨b1, b2, b3, b4, b5, b6⟩ := h
  exact ⟨b1.kp h1 h2, ha, h5, hP, h30.trans b5, h34.trans b6⟩
theorem HN.kp {g' gm' : mG} (h : HN t g gm s q) (h1 : g'.1 13 = g.1 13) (h2 : gm'.1 35 = gm.1 35) (c9 : g'.2.1 9 = g.2.1 9) (c36 : gm'.2.1 36 = gm.2.1 36) (c37 : gm'.2.1 37 = gm.2.1 37) : HN t g' gm' s q := by
  unfold HN NT at *
  rw [h1, h2, c9, c36, c37]
  exact h
theorem fv_c : Chg [5, 7, 13] [9, 19, 20] g (fv g q a m) := (Chg.s 9 _ (by simp)).tr ((Chg.s 19 _ (by simp)).tr ((Chg.s 20 _ (by simp)).tr ((Chg.i 13 _ (by simp)).tr ((Chg.i 7 _ (by simp)).tr (Chg.i 5 _ (by simp))))))
theorem fm_c : Chg [35, 36] [36, 37, 38, 39] g (fm g q p l m) := (Chg.s 36 _ (by simp)).tr ((Chg.s 37 _ (by simp)).tr ((Chg.s 38 _ (by simp)).tr ((Chg.s 39 _ (by simp)).tr ((Chg.i 35 _ (by simp)).tr (Chg.i 36 _ (by simp))))))
theorem fv_5 : (fv g q a m).1 5 = nI (a + 1) := by simp [fv, rI]
theorem fv_7 : (fv g q a m).1 7 = nI 0 := by simp [fv, rI]; rfl
theorem fv_13 : (fv g q a m).1 13 = nI (q + 1) := by simp [fv, rI]
theorem fv_9 : (fv g q a m).2.1 9 = upd (g.2.1 9) q (nI a) := by simp [fv, rI2, rS]
theorem fv_19 : (fv g q a m).2.1 19 = upd (g.2.1 19) q (nI m) := by simp [fv, rI2, rS]
theorem fv_20 : (fv g q a m).2.1 20 = upd (g.2.1 20) q 0 := by simp [fv, rI2, rS]
theorem fm_35 : (fm g q p l m).1 35 = nI (q + 1) := by simp [fm, rI]
theorem fm_36 : (fm g q p l m).1 36 = nI 0 := by simp [fm, rI]; rfl
theorem fm_a36 : (fm g q p l m).2.1 36 = upd (g.2.1 36) q (nI p) := by simp [fm, rI2, rS]
theorem fm_37 : (fm g q p l m).2.1 37 = upd (g.2.1 37) q (nI l) := by simp [fm, rI2, rS]
theorem fm_38 : (fm g q p l m).2.1 38 = upd (g.2.1 38) q (nI m) := by simp [fm, rI2, rS]
theorem fm_39 : (fm g q p l m).2.1 39 = upd (g.2.1 39) q 0 := by simp [fm, rI2, rS]
theorem c6_no {c : Int32} (hT : TR t g gm N s) (ha : a ≤ s) (h5 : g.1 5 = nI a) (hm : ¬ t.2.1 12 a = c) : f6 n c g = some (.inr 0, gI g 6 (nI (tp t a))) := by
  unfold f6
  rw [c1 hT ha h5, m_ci_s, if_neg hm, h5, c3 hT ha, m_cv_f]
theorem HB.lf (hn : 700 ≤ n) (hB : HB t g gm N s a) (hN : HN t g gm s q) : (∃ i, i < q ∧ f4 n (nI a) g = some (.inl (some (.int (nI i))), g) ∧ f114 n (nI (tp t a)) (nI (tl t a)) gm = some (.inl (some (.int (nI i))), gm)) ∨
    (f4 n (nI a) g = some (.inl (some (.int (-1))), g) ∧ f114 n (nI (tp t a)) (nI (tl t a)) gm = some (.inl (some (.int (-1))), gm) ∧ ∀ j, j < q → ¬ SN t (cl (g.2.1 9 j)) a) := by
  obtain ⟨d1, d2, d3, d4, d5, d6⟩ := hB
  obtain ⟨v1, v2, v3, v4⟩ := hN
  obtain ⟨t1, t2, t3, t4⟩ := d1.2.2.2.1.e
  have L := p_fun (n := n) (N := N) (s := s) (x := a) hn (by rw [d1.2.2.2.1.2.1]; exact d1.2.2.1) d1.1 (d1.2.2.2.1.cut d1.2.1) d2 v1 v2 v3 (by rw [d1.2.2.2.2.2, d1.2.2.2.1.2.2.1]) (v4.nm d1.2.2.2.1)
  rw [t1, t3, t4] at L
  exact L
theorem HB.ln (hB : HB t g gm N s a) : gm.1 28 - gm.1 27 = nI (tl t a) := by
  obtain ⟨d1, d2, d3, d4, d5, d6⟩ := hB
  rw [d4.2.2.1, d4.2.1, pk_sub (by have := d1.2.1.tok d2; omega)]
  rfl
theorem c270 (hq : q < 8) (h13 : g.1 13 = nI q) (h12 : g.1 12 = nI m) (h5 : g.1 5 = nI a) : f2_70 n (nI q) g = some (.inl none, fv g q a m) := by
  have i13 : (gS g 9 (upd (g.2.1 9) q (g.1 5))).1 13 = nI q := h13
  have i12 : (gS g 9 (upd (g.2.1 9) q (g.1 5))).1 12 = nI m := h12
  unfold f2_70 f32_3
  rw [if_neg (nI_in hq (by decide)), nI_clamp (by omega), i13, i12, if_neg (show ¬ (8 : Int32) ≤ nI q from nI_ge (a := q) (b := 8) hq (by decide)), if_neg (nI_in hq (by decide)), if_neg (nI_in hq (by decide)), nI_clamp (by omega), nI_1, m_cv_s]
  have i5 : (gI (gS (gS (gS g 9 (upd (g.2.1 9) q (g.1 5))) 19 (upd ((gS g 9 (upd (g.2.1 9) q (g.1 5))).2.1 19) q (nI m))) 20 (upd ((gS g 9 (upd (g.2.1 9) q (g.1 5))).2.1 20) q 0)) 13 (nI (q + 1))).1 5 = nI a := by
    show g.1 5 = nI a
    exact h5
  rw [i5, nI_1, h5]
  rfl
theorem s129 (hh : h + 7 < 900) (h31 : gx.1 31 = nI h) : f132_129 n gx = some (.inl none, pus gx h [43, 48, 4, 45, 3, 44, 24]) := by
  unfold f132_129
  rw [m108_3 (h := h) (by omega) h31 (by decide) (by decide), m_cv_s, m108_4 (h := h + 3) (by omega) pu_h (by decide) (by decide) (by decide), m_cv_s]
  rfl
theorem HN.add (hN : HN t g gm s q) (hq : q < 8) (ha : a ≤ s) (hs : s ≤ 600) (hl : ∀ j, j < q → ¬ SN t (cl (g.2.1 9 j)) a) : NV t (fv g q a m) (fm gm q (tp t a) (tl t a) m) s 0 (q + 1) := by
  obtain ⟨h1, h2, h3, h4, h5⟩ := hN
  refine ⟨by omega, by omega, fv_7, fm_36, fv_13, fm_35, ⟨fun i hi => by omega, fun i j hi hj => by omega⟩, ⟨fun i hi => ?_, fun i j hi hj => ?_⟩, fun i hi => by omega⟩
  · rw [fv_9, fm_a36, fm_37]
    by_cases hz : i = q
    · subst hz
      exact ⟨a, ha, upd_s, upd_s, upd_s⟩
    · rw [upd_o hz, upd_o hz, upd_o hz]
      exact h4 i (by omega)
  · rw [fv_9]
    by_cases hz : j = q
    · subst hz
      rw [upd_s, upd_o (by omega)]
      have e : cl (nI a) = a := nI_clamp (by omega)
      rw [e]
      exact hl i hi
    · rw [upd_o (by omega), upd_o hz]
      exact h5 i j hi (by omega)
theorem p_name (hn : 700 ≤ n) (hB : HB t g gm N s a) (hN : HN t g gm s q) (hC : CG g gm m q ht rk ho) (p31 : gm.1 31 = nI (h + 1)) (px : gm.2.1 33 h = 42) (hh : h + 10 < 900) (hE : 10 ≤ E) :
    Pr n g gm E (f2 n g) (QV fun g' gm' E' => q < 8 ∧ HD t g' gm' N s (a + 2) q m 0 ht rk ho ∧ gm'.1 31 = nI (h + 5) ∧ gm'.2.1 33 (h + 4) = 3 ∧ gm'.2.1 33 (h + 3) = 45 ∧ gm'.2.1 33 (h + 2) = 4 ∧ gm'.2.1 33 (h + 1) = 48 ∧ gm'.2.1 33 h = 43 ∧ (∀ i, i < h → gm'.2.1 33 i = gm.2.1 33 i) ∧ gm'.1 32 = gm.1 32 ∧ gm'.1 33 = gm.1 33 ∧ E' + 3 = E) := by
  obtain ⟨b1, b2, b3, b4, b5, b6⟩ := id hB
  have hs := b1.s6
  have hp := b1.tp b2
  obtain ⟨n1, n2, n3, n4⟩ := id hN
  have z26 : (gI gm 31 (nI h)).1 26 = kd (t.2.1 12 a) := by simp [rI, b4.1]
  have z27 : (gI gm 31 (nI h)).1 27 = nI (tp t a) := by simp [rI, b4.2.1]
  have z30 : (gI gm 31 (nI h)).1 30 = -1 := by simp [rI, b5]
  have z35 : (gI gm 31 (nI h)).1 35 = nI q := by simp [rI, n3]
  by_cases hA : t.2.1 12 a = 25 ∧ q = 8
  · obtain ⟨hmk, hq⟩ := hA
    have kk : kd (t.2.1 12 a) = 24 := by rw [hmk]; decide
    have e : f101 n 42 (gI gm 31 (nI h)) = some (.inl none, pus (gI (gI gm 31 (nI h)) 30 (nI (tp t a))) h [43, 48, 4, 45, 3, 44, 24]) := by
      unfold f101 f132
      simp (decide := true) only [reduceIte]
      rw [z26, kk, if_neg (fun w => w rfl), z35, if_neg (fun w => w (by rw [hq]; rfl)), z27, m103 (by omega) z30, m_cv_s, s129 (h := h) (by omega) (by simp [rI]), m_cv_s]
    have er : f2 n g = some (.inr 0, gI g 6 (nI (tp t a))) := by
      unfold f2 f2_23
      rw [c1 b1 b2 b3, m_ci_s, if_neg (fun w => w hmk), n2, if_neg (show ¬ nI q < (8 : Int32) from nI_nlt (a := q) (b := 8) (by omega) (by omega)), b3, c3 b1 b2, m_cv_f]
    rw [er]
    exact Pr.no (p := tp t a) (by omega) (by omega) (fun c => m_top (by omega) p31 b5 px e c) ((Chg.i 31 _ (by simp)).tr ((Chg.i 30 _ (by simp)).tr (pus_c.mono (by simp) (by simp)))) (by rw [pus_c.1 30 (by simp)]; simp [rI]) (Chg.i 6 _ (by simp)) (by simp [rI])
  · have e : f101 n 42 (gI gm 31 (nI h)) = some (.inl none, pus (gI gm 31 (nI h)) h [43, 48, 4, 45, 3, 44, 24]) := by
      unfold f101 f132
      simp (decide := true) only [reduceIte]
      rw [z26]
      by_cases hmk : t.2.1 12 a = 25
      · have kk : kd (t.2.1 12 a) = 24 := by rw [hmk]; decide
        have hq : ¬ q = 8 := fun w => hA ⟨hmk, w⟩
        rw [kk, if_neg (fun w => w rfl), z35, if_pos (show ¬ nI q = (8 : Int32) from fun w => hq ((nI_eq (a := q) (b := 8) (by omega) (by decide)).mp w)), s129 (h := h) (by omega) (by simp [rI]), m_cv_s]
      · rw [if_pos (fun w => hmk ((kd_iff (by decide) (by decide) (by decide)).mp w)), s129 (h := h) (by omega) (by simp [rI]), m_cv_s]
    have C1 : Chg [31] [33] gm (pus (gI gm 31 (nI h)) h [43, 48, 4, 45, 3, 44, 24]) := (Chg.i 31 _ (by simp)).tr pus_c
    have v31 : (pus (gI gm 31 (nI h)) h [43, 48, 4, 45, 3, 44, 24]).1 31 = nI (h + 7) := pus_h (by simp [rI])
    have v6 : (pus (gI gm 31 (nI h)) h [43, 48, 4, 45, 3, 44, 24]).2.1 33 (h + 6) = 24 := pus_t (i := 6) rfl
    have v5 : (pus (gI gm 31 (nI h)) h [43, 48, 4, 45, 3, 44, 24]).2.1 33 (h + 5) = 44 := pus_t (i := 5) rfl
    have v4 : (pus (gI gm 31 (nI h)) h [43, 48, 4, 45, 3, 44, 24]).2.1 33 (h + 4) = 3 := pus_t (i := 4) rfl
    have v3 : (pus (gI gm 31 (nI h)) h [43, 48, 4, 45, 3, 44, 24]).2.1 33 (h + 3) = 45 := pus_t (i := 3) rfl
    have v2 : (pus (gI gm 31 (nI h)) h [43, 48, 4, 45, 3, 44, 24]).2.1 33 (h + 2) = 4 := pus_t (i := 2) rfl
    have v1 : (pus (gI gm 31 (nI h)) h [43, 48, 4, 45, 3, 44, 24]).2.1 33 (h + 1) = 48 := pus_t (i := 1) rfl
    have v0 : (pus (gI gm 31 (nI h)) h [43, 48, 4, 45, 3, 44, 24]).2.1 33 h = 43 := pus_t (i := 0) rfl
    have vo : ∀ i, i < h → (pus (gI gm 31 (nI h)) h [43, 48, 4, 45, 3, 44, 24]).2.1 33 i = gm.2.1 33 i := fun i hi => by rw [pus_o hi]; rfl
    have hts : ∀ c, f91_55 n (c + 1) gm = f91_55 n c (pus (gI gm 31 (nI h)) h [43, 48, 4, 45, 3, 44, 24]) := fun c => m_top (by omega) p31 b5 px e c
    clear e
    generalize pus (gI gm 31 (nI h)) h [43, 48, 4, 45, 3, 44, 24] = gm1 at C1 v31 v6 v5 v4 v3 v2 v1 v0 vo hts
    have B1 : HB t g gm1 N s a := hB.kp (Chg.rf _) (C1.mono (by simp) (by simp)) b3 b2 (b4.kp (fun x _ _ => C1.1 x (by simp; omega))) (C1.1 30 (by simp)) (C1.1 34 (by simp))
    obtain ⟨E, rfl⟩ : ∃ e, E = e + 1 := ⟨E - 1, by omega⟩
    refine Pr.turn hts (C1.mono (by simp) (by simp)) ?_
    have T := p_take (c := 24) (E := E) (h := h + 6) hn B1.rt (by omega) v31 v6 (by decide) (by decide) (by decide) (by decide) (by omega)
    by_cases hmk : t.2.1 12 a = 25
    rotate_left
    · rw [show (24 : Int32) + 1 = 25 from rfl, c6_no b1 b2 b3 hmk] at T
      unfold f2 f2_23
      rw [c1 b1 b2 b3, m_ci_s, if_pos hmk, b3, c3 b1 b2, m_cv_f]
      exact T.fal
    have hq : q < 8 := by
      have : ¬ q = 8 := fun w => hA ⟨hmk, w⟩
      omega
    have er : f2 n g = m_cv (f6 n (24 + 1) g) (fun g0 => m_ci (f1 n g0) (fun v12 g11 => if ¬ v12 = (2 : Int32) then f2_62 n (nI q) g11 else m_ci (f4 n (g11.1 5) g11) (fun v26 g25 => if v26 = (-1 : Int32) then f2_70 n (nI q) g25 else f2_62 n (nI q) g25))) := by
      rw [c6 hB.rt (by rw [hmk]; rfl), m_cv_s]
      unfold f2
      rw [c1 b1 b2 b3, m_ci_s, if_neg (fun w => w hmk), n2, if_pos (show nI q < (8 : Int32) from nI_lt (a := q) (b := 8) hq (by decide)), b3, nI_1]
    rw [er]
    refine Pr.cv (T) ?_
    rintro g2 gm2 E2 _ _ ⟨hE2, hlt, rfl, w31, w34, wP, C2⟩
    have B2 : HB t (gI g 5 (nI (a + 1))) gm2 N s (a + 1) := B1.kp (Chg.i 5 _ (by simp)) (C2.mono (by simp) (by simp)) (by simp [rI]) (by omega) wP (C2.1 30 (by simp)) (C2.1 34 (by simp))
    have C12 : Chg [26, 27, 28, 29, 31] [33] gm gm2 := (C1.mono (by simp) (by simp)).tr (C2.mono (by simp) (by simp))
    have w33 : gm2.2.1 33 (h + 5) = 44 := by rw [C2.2.1 33 (by simp)]; exact v5
    have C3 : Chg [31] [] gm2 (gI gm2 31 (nI (h + 5))) := Chg.i 31 _ (by simp)
    have B3 : HB t (gI g 5 (nI (a + 1))) (gI gm2 31 (nI (h + 5))) N s (a + 1) := B2.kp (Chg.rf _) (C3.mono (by simp) (by simp)) B2.2.2.1 B2.2.1 (B2.2.2.2.1.kp (fun x _ _ => C3.1 x (by simp; omega))) (C3.1 30 (by simp)) (C3.1 34 (by simp))
    have N3 : HN t (gI g 5 (nI (a + 1))) (gI gm2 31 (nI (h + 5))) s q := hN.kp rfl ((C3.1 35 (by simp)).trans (C12.1 35 (by simp))) rfl ((C3.2.1 36 (by simp)).trans (C12.2.1 36 (by simp))) ((C3.2.1 37 (by simp)).trans (C12.2.1 37 (by simp)))
    have hp1 := B2.1.tp B2.2.1
    have e44 : f101 n 44 (gI gm2 31 (nI (h + 5))) = m_cv (m_cv (if ¬ kd (t.2.1 12 (a + 1)) = (1 : Int32) then f133_28 n (gI gm2 31 (nI (h + 5))) else m_ci (f114 n (nI (tp t (a + 1))) (nI (tl t (a + 1))) (gI gm2 31 (nI (h + 5)))) (fun v7 g6 => if v7 < 0 then if (g6.1 35) < 0 ∨ 9 ≤ Int32.toNatClampNeg (g6.1 35) then none else if (g6.1 35) < 0 ∨ 9 ≤ Int32.toNatClampNeg (g6.1 35) then none else if (g6.1 35) < 0 ∨ 9 ≤ Int32.toNatClampNeg (g6.1 35) then none else if (g6.1 35) < 0 ∨ 9 ≤ Int32.toNatClampNeg (g6.1 35) then none else m_cv (f92 n (gI (gI (gS (gS (gS (gS g6 36 (upd (g6.2.1 36) (Int32.toNatClampNeg (g6.1 35)) (g6.1 27))) 37 (upd (g6.2.1 37) (Int32.toNatClampNeg (g6.1 35)) ((g6.1 28) - (g6.1 27)))) 38 (upd (g6.2.1 38) (Int32.toNatClampNeg (g6.1 35)) (g6.1 37))) 39 (upd (g6.2.1 39) (Int32.toNatClampNeg (g6.1 35)) (0 : Int32))) 35 ((g6.1 35) + (1 : Int32))) 36 (0 : Int32))) (fun g15 => some (.inl none, g15)) else f133_28 n g6)) (fun g37 => some (.inl none, g37))) (fun g12 => some (.inl none, g12)) := by
      unfold f101 f132
      simp (decide := true) only [reduceIte]
      unfold f133
      rw [B3.ln, B3.2.2.2.1.1, B3.2.2.2.1.2.1]
    have ef : f133_28 n (gI gm2 31 (nI (h + 5))) = some (.inl none, gI (gI gm2 31 (nI (h + 5))) 30 (nI (tp t (a + 1)))) := by
      unfold f133_28
      rw [B3.2.2.2.1.2.1, m103 (by omega) B3.2.2.2.2.1, m_cv_s]
    have bad : f101 n 44 (gI gm2 31 (nI (h + 5))) = some (.inl none, gI (gI gm2 31 (nI (h + 5))) 30 (nI (tp t (a + 1)))) → ∀ Q, Pr n (gI g 5 (nI (a + 1))) gm2 E2 (f2_62 n (nI q) (gI g 5 (nI (a + 1)))) Q := fun e Q => by
      unfold f2_62
      rw [B2.2.2.1, c3 B2.1 B2.2.1, m_cv_f]
      exact Pr.no (p := tp t (a + 1)) (by omega) (by omega) (fun c => m_top (by omega) w31 B2.2.2.2.2.1 w33 e c) ((Chg.i 31 _ (by simp)).tr (Chg.i 30 _ (by simp))) (by simp [rI]) (Chg.i 6 _ (by simp)) (by simp [rI])
    rw [c1 B2.1 B2.2.1 B2.2.2.1, m_ci_s]
    by_cases hmk1 : t.2.1 12 (a + 1) = 2
    · have r1 : kd (t.2.1 12 (a + 1)) = 1 := by rw [hmk1]; decide
      rw [if_neg (fun w => w hmk1), B2.2.2.1]
      rcases B3.lf hn N3 with ⟨i, hi, l1, l2⟩ | ⟨l1, l2, l3⟩
      · rw [if_neg (fun w => w r1), l2, m_ci_s, if_neg (nI_pos (by omega)), ef, m_cv_s, m_cv_s] at e44
        rw [l1, m_ci_s, if_neg (nI_m1 (by omega))]
        exact bad e44 _
      · have hlt1 : a + 1 < s := B2.1.lt B2.2.1 hmk1 (by decide) (by decide)
        have j35 : (gI gm2 31 (nI (h + 5))).1 35 = nI q := N3.2.2.1
        have j37 : (gI gm2 31 (nI (h + 5))).1 37 = nI m := by rw [C3.1 37 (by simp), C12.1 37 (by simp)]; exact hC.2.1
        have hin : ¬ (nI q < 0 ∨ 9 ≤ Int32.toNatClampNeg (nI q)) := nI_in (c := q) (N := 9) (by omega) (by decide)
        have Cm := fm_c (g := gI gm2 31 (nI (h + 5))) (q := q) (p := tp t (a + 1)) (l := tl t (a + 1)) (m := m)
        have B4 : HB t (gI g 5 (nI (a + 1))) (fm (gI gm2 31 (nI (h + 5))) q (tp t (a + 1)) (tl t (a + 1)) m) N s (a + 1) := B3.kp (Chg.rf _) (Cm.mono (by simp) (by simp)) B3.2.2.1 B3.2.1 (B3.2.2.2.1.kp (fun x _ _ => Cm.1 x (by simp; omega))) (Cm.1 30 (by simp)) (Cm.1 34 (by simp))
        obtain ⟨gm4, f1, f2, f3⟩ := m_adv (n := n) hn B4.1 hlt1 B4.2.2.2.1.2.2.1
        have e35 : fm (gI gm2 31 (nI (h + 5))) q (tp t (a + 1)) (tl t (a + 1)) m = (gI (gI (gS (gS (gS (gS (gI gm2 31 (nI (h + 5))) 36 (upd ((gI gm2 31 (nI (h + 5))).2.1 36) q (nI (tp t (a + 1))))) 37 (upd ((gI gm2 31 (nI (h + 5))).2.1 37) q (nI (tl t (a + 1))))) 38 (upd ((gI gm2 31 (nI (h + 5))).2.1 38) q (nI m))) 39 (upd ((gI gm2 31 (nI (h + 5))).2.1 39) q 0)) 35 (nI (q + 1))) 36 0) := rfl
        rw [if_neg (fun w => w r1), l2, m_ci_s, if_pos (by decide), j35, if_neg hin, if_neg hin, if_neg hin, if_neg hin, nI_clamp (by omega), B3.ln, B3.2.2.2.1.2.1, j37, nI_1, ← e35, f1, m_cv_s, m_cv_s, m_cv_s] at e44
        rw [l1, m_ci_s, if_pos rfl, c270 (g := gI g 5 (nI (a + 1))) (a := a + 1) (m := m) hq n2 hC.1 B2.2.2.1]
        have Cf := fv_c (g := gI g 5 (nI (a + 1))) (q := q) (a := a + 1) (m := m)
        have Ck : Chg [26, 27, 28, 29, 31, 35, 36] [36, 37, 38, 39] gm2 gm4 := (C3.mono (by simp) (by simp)).tr ((Cm.mono (by simp) (by simp)).tr (f3.mono (by simp) (by simp)))
        obtain ⟨E2, rfl⟩ : ∃ e, E2 = e + 1 := ⟨E2 - 1, by omega⟩
        have D4 : HD t (fv (gI g 5 (nI (a + 1))) q (a + 1) m) gm4 N s (a + 2) q m 0 ht rk ho := by
          refine ⟨B4.kp (Cf.mono (by simp) (by simp)) (f3.mono (by simp) (by simp)) fv_5 (by omega) f2 (f3.1 30 (by simp)) (f3.1 34 (by simp)), ?_, ?_, ?_, ?_, ?_, ?_, by omega⟩
          · exact (N3.add (a := a + 1) (m := m) hq B2.2.1 hs l3).kp rfl rfl (f3.1 35 (by simp)) (f3.1 36 (by simp)) (fun x _ _ => rfl) (fun x y z => f3.2.1 x (by simp))
          · refine hC.pa ?_ ?_ ?_ ?_ ?_ ?_ (fun f hf => ?_) (fun f hf => ?_) (fun f hf => ?_) (fun f hf => ?_)
            · rw [Cf.1 12 (by simp)]; rfl
            · rw [Ck.1 37 (by simp), C12.1 37 (by simp)]
            · rw [Cf.2.1 17 (by simp)]; rfl
            · rw [Cf.2.1 18 (by simp)]; rfl
            · rw [Ck.2.1 43 (by simp), C12.2.1 43 (by simp)]
            · rw [Ck.2.1 44 (by simp), C12.2.1 44 (by simp)]
            · rw [fv_19, upd_o (by omega)]; rfl
            · rw [fv_20, upd_o (by omega)]; rfl
            · rw [f3.2.1 38 (by simp), fm_38, upd_o (by omega), C3.2.1 38 (by simp), C12.2.1 38 (by simp)]
            · rw [f3.2.1 39 (by simp), fm_39, upd_o (by omega), C3.2.1 39 (by simp), C12.2.1 39 (by simp)]
          · rw [fv_19, upd_s]
          · rw [f3.2.1 38 (by simp), fm_38, upd_s]
          · rw [fv_20, upd_s]; rfl
          · rw [f3.2.1 39 (by simp), fm_39, upd_s]; rfl
        have o33 : ∀ i, gm4.2.1 33 i = gm1.2.1 33 i := fun i => by rw [Ck.2.1 33 (by simp), C2.2.1 33 (by simp)]
        refine Pr.turn (fun c => m_top (by omega) w31 B2.2.2.2.2.1 w33 e44 c) (Ck.mono (by simp) (by simp)) (Pr.own (g1 := fv (gI g 5 (nI (a + 1))) q (a + 1) m) (Cf.mono (by simp) (by simp)) (Pr.ret ⟨rfl, hq, D4, ?_, ?_, ?_, ?_, ?_, ?_, fun i hi => ?_, ?_, ?_, by omega⟩))
        · rw [f3.1 31 (by simp), Cm.1 31 (by simp)]; simp [rI]
        · rw [o33]; exact v4
        · rw [o33]; exact v3
        · rw [o33]; exact v2
        · rw [o33]; exact v1
        · rw [o33]; exact v0
        · rw [o33]; exact vo i hi
        · rw [Ck.1 32 (by simp), C12.1 32 (by simp)]
        · rw [Ck.1 33 (by simp), C12.1 33 (by simp)]
    · rw [if_pos (fun w => hmk1 ((kd_iff (by decide) (by decide) (by decide)).mp w)), ef, m_cv_s, m_cv_s] at e44
      rw [if_pos hmk1]
      exact bad e44 _
end Hd
