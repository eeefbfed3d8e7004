/-! compiled code, and the two machines in step -/
/-- one instruction, in both codes; heights of the stack, ranks of what costs nothing -/
def LC (pa : Nat → Int32) (m q : Nat) (ht rk : Nat → Nat) (i : Nat) (mk ar st pt : Int32) : Prop :=
  (mk = 3 ∧ st = 1 ∧ pt = ar ∧ i + 1 < m ∧ ht (i + 1) = ht i + 1) ∨
  (mk = 36 ∧ st = 2 ∧ pt = ar ∧ (∃ v, v < 8 ∧ ar = nI v) ∧ i + 1 < m ∧ ht (i + 1) = ht i + 1) ∨
  (mk = 39 ∧ st = 9 ∧ pt = ar ∧ (∃ v, v < 8 ∧ ar = nI v) ∧ i + 1 < m ∧ ht i = ht (i + 1) + 1) ∨
  (mk = 37 ∧ st = 3 ∧ pt = 17 ∧ i + 1 < m ∧ 1 ≤ ht i ∧ ht (i + 1) = ht i) ∨
  (mk = 22 ∧ st = 3 ∧ pt = 21 ∧ i + 1 < m ∧ 1 ≤ ht i ∧ ht (i + 1) = ht i) ∨
  ((∃ o, 13 ≤ o ∧ o ≤ 21 ∧ mk = nI o ∧ pt = nI (o - 1)) ∧ st = 4 ∧ i + 1 < m ∧ ht i = ht (i + 1) + 1 ∧ 1 ≤ ht (i + 1)) ∨
  (mk = 23 ∧ st = 5 ∧ pt = ar ∧ (∃ t, t < m ∧ ar = nI t ∧ ht t = ht i) ∧ i + 1 < m ∧ ht i = ht (i + 1) + 1) ∨
  (mk = 24 ∧ st = 6 ∧ pt = ar ∧ (∃ t, t < m ∧ ar = nI t ∧ ht t = ht i) ∧ i + 1 < m ∧ ht i = ht (i + 1) + 1) ∨
  (mk = 28 ∧ st = 7 ∧ i + 1 < m ∧ 1 ≤ ht i ∧ ht (i + 1) = ht i) ∨
  (mk = 27 ∧ st = 10 ∧ i + 1 < m ∧ ht i = ht (i + 1) + 2) ∨
  (mk = 38 ∧ st = 8 ∧ pt = ar ∧ (∃ f P, f < q ∧ ar = nI f ∧ pa f = nI P ∧ P ≤ 3 ∧ ht i + 1 = ht (i + 1) + P) ∧ 1 ≤ ht (i + 1) ∧ rk (i + 1) = 0 ∧ i + 1 < m) ∨
  (mk = 32 ∧ st = 13 ∧ ht i = 1) ∨
  (mk = 42 ∧ st = 15 ∧ ht i = 0 ∧ 1 ≤ rk i) ∨
  (mk = 33 ∧ st = 14 ∧ i + 1 < m ∧ ht i = ht (i + 1) + 1) ∨
  (mk = 41 ∧ st = 12 ∧ pt = ar ∧ ∃ t, t < m ∧ ar = nI t ∧ ht t = ht i ∧ rk t < rk i) ∨
  (mk = 40 ∧ st = 11 ∧ pt = ar ∧ (∃ t, t < m ∧ ar = nI t ∧ ht i = ht t + 1) ∧ i + 1 < m ∧ ht i = ht (i + 1) + 1)
/-- the whole: C holds marks, arguments, entries, parameters of the class; starts, parameters, steps, parts of the reference -/
def Code (C : Nat → Nat → Int32) (m q : Nat) (ht rk : Nat → Nat) : Prop := m ≤ 600 ∧ q ≤ 8 ∧ (∀ i, ht i ≤ 88) ∧ (∀ i, rk i ≤ 17) ∧
  (∀ f, f < q → C 4 f = C 2 f ∧ C 5 f = C 3 f ∧ ∃ e P, C 2 f = nI e ∧ C 3 f = nI P ∧ e < m ∧ P ≤ 3 ∧ ht e = 0) ∧ ∀ i, i < m → LC (C 3) m q ht rk i (C 0 i) (C 1 i) (C 6 i) (C 7 i)
def VA (C : Nat → Nat → Int32) (m q : Nat) (g gm : mG) : Prop := g.1 20 = nI m ∧ g.1 21 = nI q ∧ g.2.1 21 = C 0 ∧ g.2.1 22 = C 1 ∧ g.2.1 23 = C 2 ∧ g.2.1 24 = C 3 ∧ gm.2.1 45 = C 4 ∧ gm.2.1 46 = C 5 ∧ gm.2.1 47 = C 6 ∧ gm.2.1 48 = C 7
def VS (g gm : mG) (t : Nat) : Prop := g.1 14 = nI t ∧ gm.1 41 = nI t ∧ ∀ i, i < t → g.2.1 25 i = gm.2.1 53 i
def VV (g gm : mG) (k : Nat) : Prop := ∀ i, i < 8 * (k + 1) → g.2.1 26 i = gm.2.1 55 i
def VF (m : Nat) (ht rk B : Nat → Nat) (g gm : mG) (k : Nat) : Prop := g.1 15 = nI (k + 1) ∧ gm.1 42 = nI (k + 1) ∧ k < 12 ∧ B 0 = 0 ∧ gm.2.1 54 0 = -1 ∧
  ∀ i, 1 ≤ i → i ≤ k → ∃ r, r < m ∧ g.2.1 27 i = nI r ∧ gm.2.1 54 i = nI r ∧ rk r = 0 ∧ 1 ≤ ht r ∧ B i + 1 = B (i - 1) + ht r
def VK (g gm : mG) (s : Nat) : Prop := g.1 22 = nI s ∧ gm.1 39 = nI s ∧ s ≤ 32 ∧ g.2.1 28 = gm.2.1 49 ∧ g.2.1 29 = gm.2.1 50 ∧ Dst (g.2.1 28) s
def VR (C : Nat → Nat → Int32) (m q : Nat) (ht rk B : Nat → Nat) (g gm : mG) (t k p c s : Nat) : Prop :=
  VA C m q g gm ∧ VS g gm t ∧ VV g gm k ∧ VF m ht rk B g gm k ∧ VK g gm s ∧ g.1 16 = nI p ∧ g.1 18 = nI c ∧ gm.2.2.1 = lN c ∧ p < m ∧ t = B k + ht p
/-- what of the reference is changed at most; its cost aside -/
def ChgM (S A : List Nat) (g g' : mG) : Prop := (∀ i, i ∉ S → g'.1 i = g.1 i) ∧ (∀ a, a ∉ A → g'.2.1 a = g.2.1 a) ∧ g'.2.2.2 = g.2.2.2
theorem ChgM.rf {S A : List Nat} (g : mG) : ChgM S A g g := ⟨fun _ _ => rfl, fun _ _ => rfl, rfl⟩
theorem ChgM.tr {S A : List Nat} {a b c : mG} (h : ChgM S A a b) (k : ChgM S A b c) : ChgM S A a c := ⟨fun i hi => (k.1 i hi).trans (h.1 i hi), fun i hi => (k.2.1 i hi).trans (h.2.1 i hi), k.2.2.trans h.2.2⟩
theorem Chg.m {S A S' A' : List Nat} {a b : mG} (h : Chg S A a b) (h1 : ∀ i ∈ S, i ∈ S') (h2 : ∀ i ∈ A, i ∈ A') : ChgM S' A' a b := ⟨fun i hi => h.1 i (fun z => hi (h1 i z)), fun i hi => h.2.1 i (fun z => hi (h2 i z)), by rw [h.2.2]⟩
theorem ChgM.c {S A : List Nat} {g : mG} (v : Int64) : ChgM S A g (gC g v) := ⟨fun _ _ => rfl, fun _ _ => rfl, rfl⟩
abbrev SC : List Nat := [14, 15, 16, 17, 18, 19, 22]
abbrev AC : List Nat := [25, 26, 27, 28, 29]
abbrev SM : List Nat := [24, 39, 41, 42]
abbrev AM : List Nat := [49, 50, 53, 54, 55]
theorem VA.kp {C : Nat → Nat → Int32} {m q : Nat} {g gm g' gm' : mG} (h : VA C m q g gm) (h1 : Chg SC AC g g') (h2 : ChgM SM AM gm gm') : VA C m q g' gm' := by
  unfold VA
  rw [h1.1 20 (by simp), h1.1 21 (by simp), h1.2.1 21 (by simp), h1.2.1 22 (by simp), h1.2.1 23 (by simp), h1.2.1 24 (by simp), h2.2.1 45 (by simp), h2.2.1 46 (by simp), h2.2.1 47 (by simp), h2.2.1 48 (by simp)]
  exact h
theorem VV.kp {g gm g' gm' : mG} {k : Nat} (h : VV g gm k) (h1 : g'.2.1 26 = g.2.1 26) (h2 : gm'.2.1 55 = gm.2.1 55) : VV g' gm' k := by
  unfold VV; rw [h1, h2]; exact h
theorem VF.kp {m k : Nat} {ht rk B : Nat → Nat} {g gm g' gm' : mG} (h : VF m ht rk B g gm k) (h1 : g'.1 15 = g.1 15) (h2 : gm'.1 42 = gm.1 42) (h3 : g'.2.1 27 = g.2.1 27) (h4 : gm'.2.1 54 = gm.2.1 54) : VF m ht rk B g' gm' k := by
  unfold VF; rw [h1, h2, h3, h4]; exact h
theorem VK.kp {g gm g' gm' : mG} {s : Nat} (h : VK g gm s) (h1 : g'.1 22 = g.1 22) (h2 : gm'.1 39 = gm.1 39) (h3 : g'.2.1 28 = g.2.1 28) (h4 : g'.2.1 29 = g.2.1 29) (h5 : gm'.2.1 49 = gm.2.1 49) (h6 : gm'.2.1 50 = gm.2.1 50) : VK g' gm' s := by
  unfold VK; rw [h1, h2, h3, h4, h5, h6]; exact h
theorem VS.push {g gm g' gm' : mG} {t : Nat} {v : Int32} (h : VS g gm t) (h1 : g'.1 14 = nI (t + 1)) (h2 : gm'.1 41 = nI (t + 1)) (h3 : g'.2.1 25 = upd (g.2.1 25) t v) (h4 : gm'.2.1 53 = upd (gm.2.1 53) t v) : VS g' gm' (t + 1) := by
  refine ⟨h1, h2, fun i hi => ?_⟩
  rw [h3, h4]
  unfold upd
  by_cases e : i = t
  · rw [if_pos e, if_pos e]
  · rw [if_neg e, if_neg e]; exact h.2.2 i (by omega)
theorem VS.pop {g gm g' gm' : mG} {t : Nat} (h : VS g gm (t + 1)) (h1 : g'.1 14 = nI t) (h2 : gm'.1 41 = nI t) (h3 : g'.2.1 25 = g.2.1 25) (h4 : gm'.2.1 53 = gm.2.1 53) : VS g' gm' t := by
  refine ⟨h1, h2, fun i hi => ?_⟩
  rw [h3, h4]; exact h.2.2 i (by omega)
theorem VS.kp {g gm g' gm' : mG} {t : Nat} (h : VS g gm t) (h1 : g'.1 14 = g.1 14) (h2 : gm'.1 41 = gm.1 41) (h3 : g'.2.1 25 = g.2.1 25) (h4 : gm'.2.1 53 = gm.2.1 53) : VS g' gm' t := by
  unfold VS; rw [h1, h2, h3, h4]; exact h
theorem VF.le {m k : Nat} {ht rk B : Nat → Nat} {g gm : mG} (h : VF m ht rk B g gm k) (hh : ∀ i, ht i ≤ 88) : ∀ i, i ≤ k → B i ≤ 88 * i := by
  intro i
  induction i with
  | zero => intro _; rw [h.2.2.2.1]; omega
  | succ i ih =>
    intro hi
    obtain ⟨r, -, -, -, -, -, e⟩ := h.2.2.2.2.2 (i + 1) (by omega) hi
    have h1 := ih (by omega)
    have h2 := hh r
    simp only [Nat.add_sub_cancel] at e
    omega
/-- how one step comes out: on, failed, refused, done -/
def SR (C : Nat → Nat → Int32) (m q : Nat) (ht rk : Nat → Nat) (g gm : mG) (p c w : Nat) (rg rm : mZ) : Prop :=
  ∃ g' gm', rg = some (.inl none, g') ∧ Chg SC AC g g' ∧ ChgM SM AM gm gm' ∧ (gm.1 24 = 0 → gm'.1 24 = 0) ∧ g'.2.1 28 = gm'.2.1 49 ∧ g'.2.1 29 = gm'.2.1 50 ∧
    ((∃ p' t' k' s' B', rm = some (.inl (some (.int (nI p'))), gm') ∧ VR C m q ht rk B' g' gm' t' k' p' c s' ∧ g'.1 17 = g.1 17 ∧ (w = 0 → rk p' < rk p)) ∨
     (rm = some (.inl (some (.int (-2))), gm') ∧ g'.1 17 = 1) ∨ (rm = some (.inl (some (.int (-3))), gm') ∧ g'.1 17 = 2) ∨
     (rm = some (.inl (some (.int (-1))), gm') ∧ g'.1 17 = 0 ∧ g'.1 18 = nI c ∧ gm'.2.2.1 = lN c ∧ (∃ s', VK g' gm' s') ∧ ∃ t', t' < 2000 ∧ gm'.1 41 = nI (t' + 1) ∧ gm'.2.1 53 t' = g'.1 19))
