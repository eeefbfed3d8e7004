/-! blocks -/
def stm (x : Int32) : Prop := x = 2 ∨ x = 26 ∨ x = 27 ∨ x = 29 ∨ x = 31 ∨ x = 32 ∨ x = 33
section Blk
variable {n N s a D v q m h k y E R c z p l x : Nat} {t g gm gx : mG} {ht rk : Nat → Nat} {ho : Nat → Prop}
theorem QS.pre {g2 gm2 g' gm' : mG} {a2 m2 v2 E2 E' w1 w2 w : Nat} {ht2 rk2 : Nat → Nat} (hF : FR gm gm2 h k y) (hA : AG g gm g2 gm2 m) (h1 : ∀ i, i ≤ m → ht2 i = ht i) (h2 : ∀ i, i < m → rk2 i = rk i) (hm : m ≤ m2) (ha : a ≤ a2) (hma : m2 + a + w1 ≤ m + a2) (hw : w ≤ w1 + w2) (hE : E + 30 * a ≤ E2 + 30 * a2) (hq : QS t g2 gm2 N s a2 D v2 q m2 ht2 rk2 ho h k y E2 R w2 g' gm' E') : QS t g gm N s a D v q m ht rk ho h k y E R w g' gm' E' := by
  obtain ⟨a', m', v', ht', rk', d1, d2, d3, d4, d5, d6, d7, d8, d9, d10, d11, d12, d13, d14⟩ := hq
  exact ⟨a', m', v', ht', rk', d1, d2, hF.tr d3 (Nat.le_refl _) (Nat.le_refl _) (Nat.le_refl _), hA.tr d4 hm, fun i hi => by rw [d5 i (by omega), h1 i hi], d6, d7, fun i hi => by rw [d8 i (by omega), h2 i hi], d9, d10, by omega, by omega, by omega, by omega⟩
theorem s50_y {x : Int32} (hh : h + 1 < 900) (e26 : gx.1 26 = kd x) (h31 : gx.1 31 = nI h) (hx : stm x) : f101 n 50 gx = some (.inl none, pus gx h [50, 52]) := by
  have e : f132_314 n gx = some (.inl none, pus gx h [50, 52]) := by
    unfold f132_314
    rw [m108_2 hh h31 (by decide), m_cv_s]
    rfl
  unfold f101 f132
  rw [e26]
  rcases hx with rfl | rfl | rfl | rfl | rfl | rfl | rfl <;> simp (decide := true) only [reduceIte] <;> rw [e, m_cv_s]
theorem s50_n {x : Int32} (e26 : gx.1 26 = kd x) (hx : ¬ stm x) : f101 n 50 gx = some (.inl none, gx) := by
  have r (c : Int32) (k0 : c ≠ 0) (k1 : c ≠ 35) (k2 : c ≠ -1) (h : ¬ x = c + 1) : ¬ kd x = c := fun w => h ((kd_iff k0 k1 k2).mp w)
  unfold stm at hx
  unfold f101 f132
  rw [e26]
  simp (decide := true) only [reduceIte]
  rw [if_neg (r 25 (by decide) (by decide) (by decide) (fun w => hx (by rw [w]; decide))), if_neg (r 1 (by decide) (by decide) (by decide) (fun w => hx (by rw [w]; decide))), if_neg (r 26 (by decide) (by decide) (by decide) (fun w => hx (by rw [w]; decide))), if_neg (r 28 (by decide) (by decide) (by decide) (fun w => hx (by rw [w]; decide))), if_neg (r 30 (by decide) (by decide) (by decide) (fun w => hx (by rw [w]; decide))), if_neg (r 31 (by decide) (by decide) (by decide) (fun w => hx (by rw [w]; decide))), if_pos (r 32 (by decide) (by decide) (by decide) (fun w => hx (by rw [w]; decide))), m_cv_s]
theorem p_bloop {rc : mRec} (hn : 700 ≤ n) (hD : D + 1 ≤ 16) (hh : h + 50 * (17 - D) ≤ 905) (hk : k + 30 * (17 - D) ≤ 605) (hy : y + 20 * (17 - D) ≤ 400)
    (ih : ∀ (g gm : mG) (a v m : Nat) (ht rk : Nat → Nat) (h E : Nat), PS t g gm N s a (D + 1) v q m ht rk ho h k y E (D + 1) 0 52 → stm (t.2.1 12 a) → Pr n g gm E (rc 13 (nI (D + 1)) 0 0 g) (QV (QS t g gm N s a (D + 1) v q m ht rk ho h k y E (D + 1) 1)))
    (jh : ∀ (g gm : mG) (a v m : Nat) (ht rk : Nat → Nat), RR t g gm N s a (D + 1) v q m ht rk ho → ¬ stm (t.2.1 12 a) → rc 13 (nI (D + 1)) 0 0 g = some (.inr 0, gI g 6 (nI (tp t a)))) :
    ∀ (w : Nat) (g gm : mG) (a v m : Nat) (ht rk : Nat → Nat) (E i c : Nat), s - a < w → RR t g gm N s a (D + 1) v q m ht rk ho → gm.2.1 33 h = 306 → gm.2.1 33 (h + 1) = 50 → SK gm (h + 2) k y → ht m = 0 → (∀ i, m ≤ i → rk i = D + 1) → (∀ i, m ≤ i → ¬ ho i) → (∀ i, ht i ≤ 88) → (∀ i, rk i ≤ 17) → m < a → 18061 ≤ E + 30 * a → i < a → 600 < c + i →
      Pr n g gm E (f11_10 n rc c (nI (D + 1)) (nI i) g) (QV (QS t g gm N s a D v q m ht rk ho h k y E (D + 1) 1)) := by
  intro w
  induction w with
  | zero => intro g gm a v m ht rk E i c h1; omega
  | succ w IH =>
    intro g gm a v m ht rk E i c hw hR p0 p1 ⟨p31, p32, py⟩ pH pr ph p88 p17 pm pE hi hc
    obtain ⟨b1, b2, b3, b4, b5, b6, b7, b8⟩ := id hR
    have hs := b1.s6
    have hp := b1.tp b2
    obtain ⟨c, rfl⟩ : ∃ z, c = z + 1 := ⟨c - 1, by omega⟩
    obtain ⟨E, rfl⟩ : ∃ e, E = e + 1 := ⟨E - 1, by omega⟩
    have z26 : (gI gm 31 (nI (h + 1))).1 26 = kd (t.2.1 12 a) := by simp [rI, b4.1]
    rw [f11_10, if_neg (show ¬ (600 : Int32) ≤ nI i from nI_ge (a := i) (b := 600) (by omega) (by decide)), c1 b1 b2 b3, m_ci_s]
    by_cases hst : stm (t.2.1 12 a)
    · have e := s50_y (n := n) (h := h + 1) (by omega) z26 (by simp [rI]) hst
      have h7 : ¬ t.2.1 12 a = 7 := fun w => by rw [w] at hst; revert hst; unfold stm; decide
      have C1 : Chg [31] [33] gm (pus (gI gm 31 (nI (h + 1))) (h + 1) [50, 52]) := (Chg.i 31 _ (by simp)).tr pus_c
      have v31 : (pus (gI gm 31 (nI (h + 1))) (h + 1) [50, 52]).1 31 = nI (h + 3) := pus_h (by simp [rI])
      have v2 : (pus (gI gm 31 (nI (h + 1))) (h + 1) [50, 52]).2.1 33 (h + 2) = 52 := pus_t (h := h + 1) (i := 1) rfl
      have v1 : (pus (gI gm 31 (nI (h + 1))) (h + 1) [50, 52]).2.1 33 (h + 1) = 50 := pus_t (h := h + 1) (i := 0) rfl
      have vo : ∀ i, i < h + 1 → (pus (gI gm 31 (nI (h + 1))) (h + 1) [50, 52]).2.1 33 i = gm.2.1 33 i := fun i hi => by rw [pus_o hi]; rfl
      have hts : ∀ c, f91_55 n (c + 1) gm = f91_55 n c (pus (gI gm 31 (nI (h + 1))) (h + 1) [50, 52]) := fun c => m_top (x := 50) (by omega) p31 b5 p1 e c
      clear e
      generalize pus (gI gm 31 (nI (h + 1))) (h + 1) [50, 52] = gm1 at C1 v31 v2 v1 vo hts
      have R1 : RR t g gm1 N s a (D + 1) v q m ht rk ho := hR.ks (C1.mono (by simp) (by simp))
      rw [if_neg h7]
      refine Pr.turn hts (C1.mono (by simp) (by simp)) ?_
      refine Pr.cv (ih g gm1 a v m ht rk (h + 2) E ⟨R1, v2, ⟨v31, by rw [C1.1 32 (by simp)]; exact p32, by rw [C1.1 33 (by simp)]; exact py⟩, pH, pr, ph, p88, p17, pm, hD, by omega, by omega, by omega, by omega, by omega⟩ hst) ?_
      rintro g2 gm2 E2 _ _ ⟨a2, m2, v2', ht2, rk2, d1, d2, d3, d4, d5, d6, d7, d8, d9, d10, d11, d12, d13, d14⟩
      have ha2 := d1.2.1
      rw [nI_1]
      have h0 : gm2.2.1 33 h = 306 := by rw [d3.1 h (by omega), vo h (by omega)]; exact p0
      have h1 : gm2.2.1 33 (h + 1) = 50 := by rw [d3.1 (h + 1) (by omega)]; exact v1
      refine Pr.mono (IH g2 gm2 a2 v2' m2 ht2 rk2 E2 (i + 1) c (by omega) d1 h0 h1 d2 d6 d9 (fun i hi => ph i (by omega)) d7 d10 (by omega) (by omega) (by omega) (by omega)) ?_
      rintro o g' gm' E' _ _ ⟨rfl, hq⟩
      refine ⟨rfl, QS.pre (g2 := g2) (gm2 := gm2) (v2 := v2') (a2 := a2) (m2 := m2) (E2 := E2) ⟨fun i hi => ?_, fun i hi => ?_, fun i hi => ?_⟩ (fun i hi => ?_) d5 d8 d11 (by omega) (w1 := 1) (w2 := 1) (by omega) (by omega) (by omega) hq⟩
      · rw [d3.1 i (by omega), vo i (by omega)]
      · rw [d3.2.1 i hi, C1.2.1 34 (by simp)]
      · rw [d3.2.2 i hi, C1.2.1 35 (by simp)]
      · obtain ⟨x1, x2, x3, x4⟩ := d4 i hi
        exact ⟨x1, x2, by rw [x3, C1.2.1 43 (by simp)], by rw [x4, C1.2.1 44 (by simp)]⟩
    · have e := s50_n (n := n) z26 hst
      have C1 : Chg [31] [] gm (gI gm 31 (nI (h + 1))) := Chg.i 31 _ (by simp)
      have v31 : (gI gm 31 (nI (h + 1))).1 31 = nI (h + 1) := by simp [rI]
      have hts : ∀ c, f91_55 n (c + 1) gm = f91_55 n c (gI gm 31 (nI (h + 1))) := fun c => m_top (x := 50) (by omega) p31 b5 p1 e c
      clear e
      have R1 := hR.ks (C1.mono (by simp) (by simp))
      have v0 : (gI gm 31 (nI (h + 1))).2.1 33 h = 306 := p0
      generalize gI gm 31 (nI (h + 1)) = gm1 at C1 v31 hts R1 v0
      refine Pr.turn hts (C1.mono (by simp) (by simp)) ?_
      by_cases h7 : t.2.1 12 a = 7
      · rw [if_pos h7]
        unfold f11_37
        refine Pr.cv (p_close (c := 6) (x := 306) (D := D) (h := h) hn R1.rt (by omega) v31 v0 (by decide) (by decide) (by decide) (by decide) (by decide) (by decide) (by omega)) ?_
        rintro g2 gm2 E2 _ _ ⟨hE2, hlt, rfl, u31, u34, uP, C2⟩
        have R2 := R1.kp (Chg.i 5 (nI (a + 1)) (by simp)) (C2.mono (by simp) (by simp)) (by simp [rI]) (by omega) uP u34
        refine Pr.ret ⟨rfl, a + 1, m, v, ht, rk, R2, ⟨u31, by rw [C2.1 32 (by simp), C1.1 32 (by simp)]; exact p32, by rw [C2.1 33 (by simp), C1.1 33 (by simp)]; exact py⟩, FR.of (by rw [C2.2.1 33 (by simp), C1.2.1 33 (by simp)]) (by rw [C2.2.1 34 (by simp), C1.2.1 34 (by simp)]) (by rw [C2.2.1 35 (by simp), C1.2.1 35 (by simp)]), AG.of rfl rfl (by rw [C2.2.1 43 (by simp), C1.2.1 43 (by simp)]) (by rw [C2.2.1 44 (by simp), C1.2.1 44 (by simp)]), fun _ _ => rfl, pH, p88, fun _ _ => rfl, pr, p17, by omega, by omega, by omega, by omega⟩
      · rw [if_neg h7, jh g gm a v m ht rk hR hst, m_cv_f]
        have z27 : (gI gm1 31 (nI h)).1 27 = nI (tp t a) := by simp [rI, R1.2.2.2.1.2.1]
        have z26' : (gI gm1 31 (nI h)).1 26 = kd (t.2.1 12 a) := by simp [rI, R1.2.2.2.1.1]
        have z30 : (gI gm1 31 (nI h)).1 30 = -1 := by simp [rI, R1.2.2.2.2.1]
        have e : f101 n 306 (gI gm1 31 (nI h)) = some (.inl none, gI (gI (gI gm1 31 (nI h)) 30 (nI (tp t a))) 34 ((gI (gI gm1 31 (nI h)) 30 (nI (tp t a))).1 34 - 1)) := by
          unfold f101 f102
          rw [if_pos (by decide), if_neg (by decide), show (306 : Int32) - 300 = 6 by decide, z26', if_pos (fun w => h7 ((kd_iff (by decide) (by decide) (by decide)).mp w)), z27, m103 (by omega) z30, m_cv_s, m_cv_s]
        exact Pr.no (p := tp t a) (by omega) (by omega) (fun c => m_top (by omega) v31 R1.2.2.2.2.1 v0 e c) ((Chg.i 31 _ (by simp)).tr ((Chg.i 30 _ (by simp)).tr (Chg.i 34 _ (by simp)))) (by simp [rI]) (Chg.i 6 _ (by simp)) (by simp [rI])
theorem p_block {rc : mRec} (hn : 700 ≤ n) (hP : PS t g gm N s a D v q m ht rk ho h k y E (D + 1) 5 48)
    (ih : ∀ (g gm : mG) (a v m : Nat) (ht rk : Nat → Nat) (h E : Nat), D + 1 ≤ 16 → PS t g gm N s a (D + 1) v q m ht rk ho h k y E (D + 1) 0 52 → stm (t.2.1 12 a) → Pr n g gm E (rc 13 (nI (D + 1)) 0 0 g) (QV (QS t g gm N s a (D + 1) v q m ht rk ho h k y E (D + 1) 1)))
    (jh : ∀ (g gm : mG) (a v m : Nat) (ht rk : Nat → Nat), RR t g gm N s a (D + 1) v q m ht rk ho → ¬ stm (t.2.1 12 a) → rc 13 (nI (D + 1)) 0 0 g = some (.inr 0, gI g 6 (nI (tp t a)))) :
    Pr n g gm E (f11 n rc (nI D) g) (QV (QS t g gm N s a D v q m ht rk ho h k y E (D + 1) 2)) := by
  obtain ⟨hR, p33, ⟨p31, p32, py⟩, pH, pr, ph, p88, p17, pm, pD, pR, ph9, pk6, py4, pE⟩ := hP
  obtain ⟨b1, b2, b3, b4, b5, b6, b7, b8⟩ := id hR
  have hs := b1.s6
  obtain ⟨E, rfl⟩ : ∃ e, E = e + 1 := ⟨E - 1, by omega⟩
  have e : f101 n 48 (gI gm 31 (nI h)) = some (.inl none, pus (gI gm 31 (nI h)) h [306, 50, 205]) := by
    unfold f101 f132
    simp (decide := true) only [reduceIte]
    rw [m108_3 (h := h) (by omega) (by simp [rI]) (by decide) (by decide), m_cv_s, m_cv_s]
    rfl
  have C1 : Chg [31] [33] gm (pus (gI gm 31 (nI h)) h [306, 50, 205]) := (Chg.i 31 _ (by simp)).tr pus_c
  have v31 : (pus (gI gm 31 (nI h)) h [306, 50, 205]).1 31 = nI (h + 3) := pus_h (by simp [rI])
  have v2 : (pus (gI gm 31 (nI h)) h [306, 50, 205]).2.1 33 (h + 2) = 205 := pus_t (i := 2) rfl
  have v1 : (pus (gI gm 31 (nI h)) h [306, 50, 205]).2.1 33 (h + 1) = 50 := pus_t (i := 1) rfl
  have v0 : (pus (gI gm 31 (nI h)) h [306, 50, 205]).2.1 33 h = 306 := pus_t (i := 0) rfl
  have vo : ∀ i, i < h → (pus (gI gm 31 (nI h)) h [306, 50, 205]).2.1 33 i = gm.2.1 33 i := fun i hi => by rw [pus_o hi]; rfl
  have hts : ∀ c, f91_55 n (c + 1) gm = f91_55 n c (pus (gI gm 31 (nI h)) h [306, 50, 205]) := fun c => m_top (x := 48) (by omega) p31 b5 p33 e c
  clear e
  generalize pus (gI gm 31 (nI h)) h [306, 50, 205] = gm1 at C1 v31 v2 v1 v0 vo hts
  have R1 : RR t g gm1 N s a D v q m ht rk ho := hR.ks (C1.mono (by simp) (by simp))
  refine Pr.turn hts (C1.mono (by simp) (by simp)) ?_
  unfold f11
  refine Pr.ci (p_open (c := 5) (x := 205) (h := h + 2) hn R1.rt pD (by omega) v31 v2 (by decide) (by decide) (by decide) (by decide) (by decide) (by decide) (by decide) (by omega)) ?_
  rintro x g2 gm2 E2 _ _ ⟨rfl, hD, hE2, hlt, rfl, w31, w34, wP, C2⟩
  have R2 := R1.kp (Chg.i 5 (nI (a + 1)) (by simp)) (C2.mono (by simp) (by simp)) (by simp [rI]) (by omega) wP w34
  refine Pr.mono (p_bloop (D := D) (h := h) (k := k) (y := y) hn (by omega) (by omega) (by omega) (by omega) (fun g gm a v m ht rk h E => ih g gm a v m ht rk h E (by omega)) jh (s + 1) _ gm2 (a + 1) v m ht rk E2 0 n (by omega) R2 (by rw [C2.2.1 33 (by simp)]; exact v0) (by rw [C2.2.1 33 (by simp)]; exact v1) ⟨w31, by rw [C2.1 32 (by simp), C1.1 32 (by simp)]; exact p32, by rw [C2.1 33 (by simp), C1.1 33 (by simp)]; exact py⟩ pH pr ph p88 p17 (by omega) (by omega) (by omega) (by omega)) ?_
  rintro o g' gm' E' _ _ ⟨rfl, hq⟩
  refine ⟨rfl, QS.pre (g2 := gI g 5 (nI (a + 1))) (gm2 := gm2) (v2 := v) (a2 := a + 1) (m2 := m) (E2 := E2) ⟨fun i hi => ?_, fun i hi => ?_, fun i hi => ?_⟩ (AG.of rfl rfl ?_ ?_) (fun _ _ => rfl) (fun _ _ => rfl) (Nat.le_refl _) (by omega) (w1 := 1) (w2 := 1) (by omega) (by omega) (by omega) hq⟩
  · rw [C2.2.1 33 (by simp), vo i hi]
  · rw [C2.2.1 34 (by simp), C1.2.1 34 (by simp)]
  · rw [C2.2.1 35 (by simp), C1.2.1 35 (by simp)]
  · rw [C2.2.1 43 (by simp), C1.2.1 43 (by simp)]
  · rw [C2.2.1 44 (by simp), C1.2.1 44 (by simp)]
end Blk
