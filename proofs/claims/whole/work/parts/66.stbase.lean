/-! statements: what is asked and what is given; small turns of the reference -/
def pus (gm : mG) (h : Nat) : List Int32 → mG
  | [] => gm
  | x :: l => pus (pu gm h x) (h + 1) l
theorem pus_c {l : List Int32} : ∀ {gm : mG} {h : Nat}, Chg [31] [33] gm (pus gm h l) := by
  induction l with
  | nil => intro gm h; exact Chg.rf _
  | cons x l ih => intro gm h; exact pu_c.tr ih
theorem pus_h {l : List Int32} : ∀ {gm : mG} {h : Nat}, gm.1 31 = nI h → (pus gm h l).1 31 = nI (h + l.length) := by
  induction l with
  | nil => intro gm h e; exact e
  | cons x l ih =>
    intro gm h e
    rw [pus, ih pu_h, List.length_cons]
    congr 1
    omega
theorem pus_o {l : List Int32} : ∀ {gm : mG} {h i : Nat}, i < h → (pus gm h l).2.1 33 i = gm.2.1 33 i := by
  induction l with
  | nil => intro gm h i e; rfl
  | cons x l ih =>
    intro gm h i e
    rw [pus, ih (by omega), pu_o e]
theorem pus_t {l : List Int32} : ∀ {gm : mG} {h i : Nat} {x : Int32}, l[i]? = some x → (pus gm h l).2.1 33 (h + i) = x := by
  induction l with
  | nil => intro gm h i x e; simp at e
  | cons z l ih =>
    intro gm h i x e
    cases i with
    | zero =>
      have e : z = x := by simpa using e
      show (pus (pu gm h z) (h + 1) l).2.1 33 h = x
      rw [pus_o (by omega), pu_t]
      exact e
    | succ i =>
      simp at e
      rw [pus, show h + (i + 1) = h + 1 + i by omega]
      exact ih e
def mB (gx : mG) (y c z p : Nat) : mG := if c = z then gI gx 33 (nI y) else gI (gI gx 33 (nI y)) 30 (nI p)
section St0
variable {n N s a D v q m h k y E c z p : Nat} {t g gm gx : mG} {ht rk : Nat → Nat} {ho : Nat → Prop}
theorem mB_c : Chg [30, 33] [] gx (mB gx y c z p) := by
  unfold mB
  by_cases h : c = z
  · rw [if_pos h]; exact Chg.i 33 _ (by simp)
  · rw [if_neg h]; exact (Chg.i 33 _ (by simp)).tr (Chg.i 30 _ (by simp))
theorem mB_e (h : c = z) : Chg [33] [] gx (mB gx y c z p) := by
  unfold mB
  rw [if_pos h]; exact Chg.i 33 _ (by simp)
theorem mB_33 : (mB gx y c z p).1 33 = nI y := by
  unfold mB
  by_cases h : c = z
  · rw [if_pos h]; simp [rI]
  · rw [if_neg h]; simp [rI]
theorem mB_no (h : ¬ c = z) : (mB gx y c z p).1 30 = nI p := by
  unfold mB
  rw [if_neg h]; simp [rI]
theorem mB_1 (hy : y < 400) (hc : c ≤ 1) (hz : z ≤ 1) (hp : p < 2 ^ 31) (e33 : gx.1 33 = nI (y + 1)) (et : gx.2.1 35 y = nI (c + 1)) (e30 : gx.1 30 = -1) : f116 n (nI (z + 1)) (nI p) gx = some (.inl none, mB gx y c z p) := m116 hy hc hz hp e33 et e30
/-- before a statement or a block -/
def PS (t g gm : mG) (N s a D v q m : Nat) (ht rk : Nat → Nat) (ho : Nat → Prop) (h k y E R W : Nat) (x : Int32) : Prop :=
  RR t g gm N s a D v q m ht rk ho ∧ gm.2.1 33 h = x ∧ SK gm (h + 1) k y ∧ ht m = 0 ∧ (∀ i, m ≤ i → rk i = R) ∧ (∀ i, m ≤ i → ¬ ho i) ∧ (∀ i, ht i ≤ 88) ∧ (∀ i, rk i ≤ 17) ∧ m < a ∧ D ≤ 16 ∧ R ≤ 17 ∧
  h + 50 * (17 - D) ≤ 900 + W ∧ k + 30 * (17 - D) ≤ 600 + W ∧ y + 20 * (17 - D) ≤ 400 ∧ 18060 ≤ E + 30 * a
/-- behind it -/
def QS (t g gm : mG) (N s a D v q m : Nat) (ht rk : Nat → Nat) (ho : Nat → Prop) (h k y E R w : Nat) (g' gm' : mG) (E' : Nat) : Prop :=
  ∃ a' m' v' ht' rk', RR t g' gm' N s a' D v' q m' ht' rk' ho ∧ SK gm' h k y ∧ FR gm gm' h k y ∧ AG g gm g' gm' m ∧ (∀ i, i ≤ m → ht' i = ht i) ∧ ht' m' = 0 ∧ (∀ i, ht' i ≤ 88) ∧ (∀ i, i < m → rk' i = rk i) ∧ (∀ i, m' ≤ i → rk' i = R) ∧ (∀ i, rk' i ≤ 17) ∧ m ≤ m' ∧ a < a' ∧ m' + a + w ≤ m + a' ∧ E + 30 * a + 10 ≤ E' + 30 * a'
/-- the class's expressions keep step -/
def HX (n : Nat) (rc : mRec) : Prop := ∀ (t g gm : mG) (N s a D v q m : Nat) (ht rk : Nat → Nat) (ho : Nat → Prop) (h k y H E : Nat), PE t g gm N s a D v q m ht rk ho h k y H E 0 → Pr n g gm E (rc 15 0 (nI D) 0 g) (QI (QE t g gm N s a D v q m ht rk ho h k y H E 0))
theorem RR.lc {rk' : Nat → Nat} (h : RR t g gm N s a D v q m ht rk ho) (h1 : ∀ i, i < m → rk' i = rk i) (h2 : rk' m ≤ rk m) : RR t g gm N s a D v q m ht rk' ho := by
  obtain ⟨b1, b2, b3, b4, b5, b6, b7, b8⟩ := h
  exact ⟨b1, b2, b3, b4, b5, b6, b7, b8.lc h1 h2⟩
/-- an instruction more, in both; the rank behind it is free -/
theorem RR.addr {ht' rk' : Nat → Nat} {ho' : Nat → Prop} {mk ar st pt : Int32} (h : RR t g gm N s a D v q m ht rk ho) (hm : m < 600) (h1 : ∀ i, i ≤ m → ht' i = ht i) (hr : ∀ i, i ≤ m → rk' i = rk i) (h2 : ∀ i, i < m → ho i → ho' i) (hl : ho' m ∨ LC (g.2.1 20) (m + 2) q ht' rk' m mk ar st pt) : RR t (em g m mk ar) (en gm m st pt) N s a D v q (m + 1) ht' rk' ho' := by
  have R := h.add (mk := mk) (ar := ar) (st := st) (pt := pt) (ht' := ht') (ho' := fun i => ho' i ∨ i = m) hm h1 (fun i hi w => Or.inl (h2 i hi w)) (Or.inl (Or.inr rfl))
  obtain ⟨b1, b2, b3, b4, b5, b6, b7, d1, d2, d3, d4, d5⟩ := R
  refine ⟨b1, b2, b3, b4, b5, b6, b7, d1, d2, d3, d4, fun i hi hh => ?_⟩
  by_cases hz : i = m
  · subst hz
    have e : (em g i mk ar).2.1 20 = g.2.1 20 := em_c.2.1 20 (by simp)
    rw [e, em_17, em_18, en_43, en_44, upd_s, upd_s, upd_s, upd_s]
    exact hl.elim (fun z => absurd z hh) id
  · have L := h.2.2.2.2.2.2.2.2.2.2.2 i (by omega) (fun w => hh (h2 i (by omega) w))
    have e : (em g m mk ar).2.1 20 = g.2.1 20 := em_c.2.1 20 (by simp)
    rw [e, em_17, em_18, en_43, en_44, upd_o hz, upd_o hz, upd_o hz, upd_o hz]
    exact L.mono (by omega) (by omega) (Nat.le_refl _) (fun j hj => h1 j (by omega)) (hr i (by omega)) (fun j hj => by rw [hr j (by omega)]; exact Nat.le_refl _)
/-- only the reference's stacks have changed -/
theorem RR.ks {gm' : mG} (h : RR t g gm N s a D v q m ht rk ho) (h2 : Chg [31, 32, 33] [33, 34, 35] gm gm') : RR t g gm' N s a D v q m ht rk ho :=
  h.kp (Chg.rf _) (h2.mono (by simp) (by simp)) h.2.2.1 h.2.1 (h.2.2.2.1.kp (fun x _ _ => h2.1 x (by simp; omega))) (by rw [h2.1 34 (by simp)]; exact h.2.2.2.2.2.1)
/-- a type is asked; both find the fault if it is another -/
theorem p_must {K : mG → mZ} {Q : Option Value → mG → mG → Nat → Prop} {x : Int32} {a0 : Nat} (hc : c ≤ 1) (hz : z ≤ 1) (hT : TR t g gm N s) (ha0 : a0 ≤ s) (hh : h < 900) (h31 : gm.1 31 = nI (h + 1)) (h30 : gm.1 30 = -1) (hx : gm.2.1 33 h = x) (hE : 2 ≤ E) (hf : ¬ c = z → ∃ gf, f101 n x (gI gm 31 (nI h)) = some (.inl none, gf) ∧ gf.1 30 = nI (tp t a0) ∧ Chg MS MA (gI gm 31 (nI h)) gf) (hk : c = z → Pr n g gm E (K g) Q) : Pr n g gm E (m_cv (f18 n (nI z) (nI c) (nI a0) g) K) Q := by
  unfold f18
  by_cases hcz : c = z
  · rw [if_pos (by rw [hcz]), m_cv_s]
    exact hk hcz
  · obtain ⟨gf, e1, e2, e3⟩ := hf hcz
    have hp := hT.tp ha0
    rw [if_neg (fun w => hcz ((nI_eq (by omega) (by omega)).mp w)), c3 hT ha0, m_cv_f, m_cv_f]
    exact Pr.no (p := tp t a0) hE (by omega) (fun c => m_top hh h31 h30 hx e1 c) ((Chg.i 31 _ (by simp)).tr e3) e2 (Chg.i 6 _ (by simp)) (by simp [rI])
/-- an instruction, and the semicolon: a statement's end -/
theorem p_fin {mk ar st pt : Int32} {a4 m4 v4 R E4 : Nat} {ht4 rk4 : Nat → Nat} {g4 : mG} (hn : 700 ≤ n) (R4 : RR t g4 gx N s a4 D v4 q m4 ht4 rk4 ho) (hm4 : m4 < 600) (x31 : gx.1 31 = nI (h + 1)) (x10 : gx.2.1 33 h = 10) (x32 : gx.1 32 = nI k) (x33 : gx.1 33 = nI y) (hh : h < 900)
    (hl : LC (g4.2.1 20) (m4 + 2) q (fun i => if i ≤ m4 then ht4 i else 0) (fun i => if i ≤ m4 then rk4 i else R) m4 mk ar st pt) (F : FR gm gx h k y) (A : AG g gm g4 gx m) (h1 : ∀ i, i ≤ m → ht4 i = ht i) (h2 : m ≤ m4) (h3 : ∀ i, i ≤ m4 → ht4 i ≤ 88) (h4 : ∀ i, i < m → rk4 i = rk i) (h5 : ∀ i, i ≤ m4 → rk4 i ≤ 17) (hR : R ≤ 17) (h6 : m4 + a + 1 ≤ m + a4) (h7 : E + 30 * a + 10 ≤ E4 + 30 * a4 + 29) (h8 : 2 ≤ E4) (h9 : a ≤ a4) :
    Pr n g4 (en gx m4 st pt) E4 (m_ci (f34_3 n mk ar g4) (fun _ g' => m_cv (f6 n 11 g') (fun g' => some (.inl none, g')))) (QV (QS t g gm N s a D v q m ht rk ho h k y E R 1)) := by
  have R5 := R4.addr (ht' := fun i => if i ≤ m4 then ht4 i else 0) (rk' := fun i => if i ≤ m4 then rk4 i else R) (ho' := ho) (mk := mk) (ar := ar) (st := st) (pt := pt) hm4 (fun i hi => by simp [hi]) (fun i hi => by simp [hi]) (fun i _ w => w) (Or.inr hl)
  rw [c34 hm4 R4.2.2.2.2.2.2.2.1, m_ci_s]
  refine Pr.own (g1 := em g4 m4 mk ar) (em_c.mono (by simp) (by simp)) ?_
  refine Pr.cv (p_take (c := 10) (h := h) hn R5.rt hh (by rw [en_c.1 31 (by simp)]; exact x31) (by rw [en_c.2.1 33 (by simp)]; exact x10) (by decide) (by decide) (by decide) (by decide) h8) ?_
  rintro g6 gm6 E6 _ _ ⟨hE6, hlt6, rfl, s31, s34, sP, C6⟩
  have R6 := R5.kp (Chg.i 5 (nI (a4 + 1)) (by simp)) (C6.mono (by simp) (by simp)) (by simp [rI]) (by omega) sP s34
  have ha4 := R4.2.1
  refine Pr.ret ⟨rfl, a4 + 1, m4 + 1, v4, _, _, R6, ⟨s31, ?_, ?_⟩, ⟨fun i hi => ?_, fun i hi => ?_, fun i hi => ?_⟩, fun i hi => ?_, fun i hi => ?_, ?_, fun i => ?_, fun i hi => ?_, fun i hi => ?_, fun i => ?_, by omega, by omega, by omega, by omega⟩
  · rw [C6.1 32 (by simp), en_c.1 32 (by simp)]; exact x32
  · rw [C6.1 33 (by simp), en_c.1 33 (by simp)]; exact x33
  · rw [C6.2.1 33 (by simp), en_c.2.1 33 (by simp)]; exact F.1 i hi
  · rw [C6.2.1 34 (by simp), en_c.2.1 34 (by simp)]; exact F.2.1 i hi
  · rw [C6.2.1 35 (by simp), en_c.2.1 35 (by simp)]; exact F.2.2 i hi
  · obtain ⟨x1, x2, x3, x4⟩ := A i hi
    refine ⟨?_, ?_, ?_, ?_⟩
    · show (em g4 m4 mk ar).2.1 17 i = _
      rw [em_17, upd_o (by omega)]; exact x1
    · show (em g4 m4 mk ar).2.1 18 i = _
      rw [em_18, upd_o (by omega)]; exact x2
    · rw [C6.2.1 43 (by simp), en_43, upd_o (by omega)]; exact x3
    · rw [C6.2.1 44 (by simp), en_44, upd_o (by omega)]; exact x4
  · simp only [show i ≤ m4 by omega, if_true]; exact h1 i hi
  · simp only [show ¬ m4 + 1 ≤ m4 by omega, if_false]
  · by_cases hi : i ≤ m4
    · simp only [hi, if_true]; exact h3 i hi
    · simp only [hi, if_false]; omega
  · simp only [show i ≤ m4 by omega, if_true]; exact h4 i hi
  · simp only [show ¬ i ≤ m4 by omega, if_false]
  · by_cases hi : i ≤ m4
    · simp only [hi, if_true]; exact h5 i hi
    · simp only [hi, if_false]; omega
end St0
