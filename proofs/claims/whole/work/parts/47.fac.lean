/-! expressions: what is asked and what is given; the smallest factors -/
def lv : Nat → Nat
  | 0 => 3
  | 1 => 3
  | 2 => 3
  | 3 => 2
  | 4 => 1
  | _ => 0
def sy : Nat → Int32
  | 0 => 60
  | 1 => 71
  | 2 => 75
  | 3 => 79
  | 4 => 82
  | _ => 85
/-- before an expression of binding b -/
def PE (t g gm : mG) (N s a D v q m : Nat) (ht rk : Nat → Nat) (ho : Nat → Prop) (h k y H E b : Nat) : Prop :=
  RR t g gm N s a D v q m ht rk ho ∧ gm.1 31 = nI (h + 1) ∧ gm.2.1 33 h = sy b ∧ gm.1 32 = nI k ∧ gm.1 33 = nI y ∧ ht m = H ∧ (∀ i, m ≤ i → rk i = 0) ∧ (∀ i, m ≤ i → ¬ ho i) ∧ m < a ∧ D ≤ 16 ∧ b ≤ 5 ∧
  h + 50 * (16 - D) + 5 + 4 * (5 - b) < 900 ∧ k + 30 * (16 - D) + 4 + 3 * (5 - b) < 600 ∧ y + 20 * (16 - D) + 2 + (5 - b) < 400 ∧ 18030 + 2 * (5 - b) + 1 ≤ E + 30 * a
/-- behind it -/
def QE (t g gm : mG) (N s a D v q m : Nat) (ht rk : Nat → Nat) (ho : Nat → Prop) (h k y H E b : Nat) (x : Int32) (g' gm' : mG) (E' : Nat) : Prop :=
  ∃ a' m' ht' z, x = nI z ∧ z ≤ 1 ∧ RR t g' gm' N s a' D v q m' ht' rk ho ∧ SK gm' h k (y + 1) ∧ FR gm gm' h k y ∧ gm'.2.1 35 y = nI (z + 1) ∧ AG g gm g' gm' m ∧ Chg [5, 6, 12] [17, 18] g g' ∧ Chg [26, 27, 28, 29, 30, 31, 32, 33, 34, 37] [33, 34, 35, 43, 44] gm gm' ∧
    (∀ i, i ≤ m → ht' i = ht i) ∧ ht' m' = H + 1 ∧ (∀ i, m ≤ i → i ≤ m' → ht' i ≤ H + 5 * (16 - D) + 1 + lv b) ∧ m < m' ∧ m' + a ≤ m + a' ∧ E + 30 * a + 10 + 2 * b ≤ E' + 30 * a'
section Fac
variable {n N s a D v q m h k y H E : Nat} {t g gm : mG} {ht rk : Nat → Nat} {ho : Nat → Prop}
theorem s85 {z z' : mG} (e : f106 n z = some (.inl none, z')) : f101 n 85 z = some (.inl none, z') := by
  unfold f101 f105
  simp (decide := true) only [reduceIte]
  rw [e, m_cv_s, m_cv_s]
theorem em_5 {x : Int32} {mk ar : Int32} : Chg [5] [] (em g m mk ar) (em (gI g 5 x) m mk ar) := ⟨fun i hi => by
    have h5 : ¬ i = 5 := by simpa using hi
    simp [em, rI, rS1, h5], fun _ _ => rfl, rfl⟩
/-- a constant: both add it, give its type and go on -/
theorem p_const {w : Int32} {z : Nat} (hn : 700 ≤ n) (hP : PE t g gm N s a D v q m ht rk ho h k y H E 5) (hz : z ≤ 1) (hlt : a < s) (e : f106 n (gI gm 31 (nI h)) = m_cv (f109 n 1 w (gI gm 31 (nI h))) (fun g7 => m_cv (f110 n (nI (z + 1)) g7) (fun g11 => m_cv (f92 n g11) (fun g15 => some (.inl none, g15))))) : Pr n g gm E (some (.inl (some (.int (nI z))), em (gI g 5 (nI (a + 1))) m 3 w)) (QI (QE t g gm N s a D v q m ht rk ho h k y H E 5)) := by
  obtain ⟨hR, p31, p33, p32, py, pH, pr, ph, pm, pD, _, ph9, pk6, py4, pE⟩ := hP
  have hs := hR.1.s6
  have C31 : Chg MT [33, 34, 35] gm (gI gm 31 (nI h)) := Chg.i 31 _ (by simp)
  have R1 : RR t g (gI gm 31 (nI h)) N s a D v q m ht rk ho := hR.kp (Chg.rf _) C31 hR.2.2.1 hR.2.1 (hR.2.2.2.1.kp (fun x _ _ => by rw [rI, if_neg (by omega)])) (by simp [rI, hR.2.2.2.2.2.1])
  have q37 : (gI gm 31 (nI h)).1 37 = nI m := R1.2.2.2.2.2.2.2.2.1
  have R2 := R1.add (ht' := fun i => if i ≤ m then ht i else H + 1) (ho' := ho) (mk := 3) (ar := w) (st := 1) (pt := w) (by omega) (fun i hi => by simp [hi]) (fun i _ z => z) (Or.inr (Or.inl ⟨rfl, rfl, rfl, by omega, by simp [pH]; intro z; omega⟩))
  have q33 : (en (gI gm 31 (nI h)) m 1 w).1 33 = nI y := by rw [en_c.1 33 (by simp)]; simp [rI, py]
  have q28 : (ty (en (gI gm 31 (nI h)) m 1 w) y (nI (z + 1))).1 28 = nI (tq t (a + 1)) := by rw [ty_c.1 28 (by simp), en_c.1 28 (by simp)]; simp [rI, hR.2.2.2.1.2.2.1]
  have T2 : TR t g (ty (en (gI gm 31 (nI h)) m 1 w) y (nI (z + 1))) N s := hR.1.kp (Chg.rf _) ((Chg.i 31 _ (by simp)).tr ((en_c.mono (by simp) (by simp)).tr (ty_c.mono (by simp) (by simp))))
  obtain ⟨gm', e1, e2, e3⟩ := m_adv (n := n) hn T2 hlt q28
  rw [m109 (by omega) q37, m_cv_s, m110 (by omega) q33, m_cv_s, e1, m_cv_s] at e
  have hts : ∀ c, f91_55 n (c + 1) gm = f91_55 n c gm' := fun c => m_top (x := 85) (by omega) p31 hR.2.2.2.2.1 p33 (s85 e) c
  have Ce : Chg [26, 27, 28, 29, 33] [35] (en (gI gm 31 (nI h)) m 1 w) gm' := (ty_c.mono (by simp) (by simp)).tr (e3.mono (by simp) (by simp))
  have R3 : RR t (em (gI g 5 (nI (a + 1))) m 3 w) gm' N s (a + 1) D v q (m + 1) (fun i => if i ≤ m then ht i else H + 1) rk ho := R2.kp em_5 (Ce.mono (by simp) (by simp)) (by simp [em, rI, rS1]) (by omega) e2 (by rw [Ce.1 34 (by simp)]; exact R2.2.2.2.2.2.1)
  have Cm : Chg [26, 27, 28, 29, 30, 31, 32, 33, 34, 37] [33, 34, 35, 43, 44] gm gm' := (Chg.i 31 _ (by simp)).tr ((en_c.mono (by simp) (by simp)).tr (Ce.mono (by simp) (by simp)))
  have Cg : Chg [5, 6, 12] [17, 18] g (em (gI g 5 (nI (a + 1))) m 3 w) := (Chg.i 5 _ (by simp)).tr (em_c.mono (by simp) (by simp))
  refine Or.inl ⟨_, _, gm', 1, rfl, hts, by omega, Cg.mono (by simp) (by simp), Cm.mono (by simp) (by simp), nI z, rfl, a + 1, m + 1, _, z, rfl, hz, R3, ⟨?_, ?_, ?_⟩, ⟨fun i hi => ?_, fun i hi => ?_, fun i hi => ?_⟩, ?_, fun i hi => ⟨?_, ?_, ?_, ?_⟩, Cg, Cm, fun i hi => by simp [hi], by simp; intro z; omega, fun i h1 h2 => ?_, by omega, by omega, by omega⟩
  · rw [Ce.1 31 (by simp), en_c.1 31 (by simp)]; simp [rI]
  · rw [Ce.1 32 (by simp), en_c.1 32 (by simp)]; simp [rI, p32]
  · rw [e3.1 33 (by simp)]; exact ty_h
  · rw [Ce.2.1 33 (by simp), en_c.2.1 33 (by simp)]; rfl
  · rw [Ce.2.1 34 (by simp), en_c.2.1 34 (by simp)]; rfl
  · rw [e3.2.1 35 (by simp), ty_o hi, en_c.2.1 35 (by simp)]; rfl
  · rw [e3.2.1 35 (by simp)]; exact ty_t
  · rw [em_17, upd_o (by omega)]; rfl
  · rw [em_18, upd_o (by omega)]; rfl
  · rw [Ce.2.1 43 (by simp), en_43, upd_o (by omega)]; rfl
  · rw [Ce.2.1 44 (by simp), en_44, upd_o (by omega)]; rfl
  · show (if i ≤ m then ht i else H + 1) ≤ _
    by_cases hi : i ≤ m
    · rw [if_pos hi, show i = m by omega, pH]; omega
    · rw [if_neg hi]; omega
end Fac
