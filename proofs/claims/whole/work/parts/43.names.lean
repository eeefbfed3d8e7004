/-! names of both compilers -/
def tl (g : mG) (i : Nat) : Nat := tq g (i + 1) - tp g i
/-- two tokens of the same signs -/
def SN (g : mG) (i j : Nat) : Prop := tl g i = tl g j ∧ ∀ k, k < tl g i → g.2.1 8 (tp g i + k) = g.2.1 8 (tp g j + k)
theorem SN.sym {g : mG} {i j : Nat} (h : SN g i j) : SN g j i := ⟨h.1.symm, fun k hk => (h.2 k (by rw [h.1]; exact hk)).symm⟩
theorem SN.tr {g : mG} {i j k : Nat} (h : SN g i j) (h' : SN g j k) : SN g i k := ⟨h.1.trans h'.1, fun z hz => (h.2 z hz).trans (h'.2 z (by rw [← h.1]; exact hz))⟩
section Names
variable {n N s : Nat} {g gm : mG}
theorem Cut.tok (h : Cut g N s) {i : Nat} (hi : i ≤ s) : tp g i ≤ tq g (i + 1) ∧ tq g (i + 1) ≤ N ∧ g.2.1 13 i = nI (tp g i) ∧ g.2.1 14 i = nI (tq g (i + 1)) ∧ TokR (g.2.1 8) N (tq g i) (g.2.1 12 i) (tp g i) (tq g (i + 1)) (g.2.1 15 i) := by
  obtain ⟨h1, h2, h3, h4, h5, h6⟩ := h
  obtain ⟨a1, a2, a3, a4⟩ := h3 i (by omega)
  have := a1.2.st
  exact ⟨this.1, this.2.1, a2, a3, a1⟩
theorem c75_70 {p q l : Nat} (h : g.1 9 = nI N) (hN : N ≤ 600) (hp : p + l ≤ N) (hq : q + l ≤ N) : ∀ (d k c : Nat), k + d = l → d < c → (∀ z, z < k → g.2.1 8 (p + z) = g.2.1 8 (q + z)) → ∃ v : Int32, f75_70 n c (nI p) (nI q) (nI l) (nI k) g = some (.inl (some (.int v)), g) ∧ ((v = 1 ∧ ∀ z, z < l → g.2.1 8 (p + z) = g.2.1 8 (q + z)) ∨ (v = 0 ∧ ¬ ∀ z, z < l → g.2.1 8 (p + z) = g.2.1 8 (q + z))) := by
  intro d
  induction d with
  | zero =>
    intro k c hk hc hz
    obtain ⟨c, rfl⟩ : ∃ z, c = z + 1 := ⟨c - 1, by omega⟩
    have : k = l := by omega
    subst this
    exact ⟨1, by rw [f75_70, if_pos (nI_le (Nat.le_refl _) (by omega))], Or.inl ⟨rfl, hz⟩⟩
  | succ d ih =>
    intro k c hk hc hz
    obtain ⟨c, rfl⟩ : ∃ z, c = z + 1 := ⟨c - 1, by omega⟩
    have hm : (if nI p < nI q then nI q else nI p) = nI (max p q) := by
      by_cases hpq : p < q
      · rw [if_pos (nI_lt hpq (by omega)), Nat.max_eq_right (by omega)]
      · rw [if_neg (nI_nlt (by omega) (by omega)), Nat.max_eq_left (by omega)]
    rw [f75_70, if_neg (nI_ge (by omega) (by omega)), hm, nI_add, nI_add, nI_add, if_neg (show ¬ (600 : Int32) ≤ nI (max p q + k) from nI_ge (a := max p q + k) (b := 600) (by omega) (by decide)), if_neg (nI_in (c := p + k) (N := 600) (by omega) (by decide)), if_neg (nI_in (c := q + k) (N := 600) (by omega) (by decide)), nI_clamp (by omega), nI_clamp (by omega), nI_1]
    by_cases he : g.2.1 8 (p + k) = g.2.1 8 (q + k)
    · rw [if_pos he]
      exact ih (k + 1) c (by omega) (by omega) (fun z hz2 => by
        by_cases hzk : z = k
        · rw [hzk]; exact he
        · exact hz z (by omega))
    · exact ⟨0, by rw [if_neg he], Or.inr ⟨rfl, fun y => he (y k (by omega))⟩⟩
theorem c75 {i j : Nat} (hn : 700 ≤ n) (h : g.1 9 = nI N) (hN : N ≤ 600) (hC : Cut g N s) (hi : i ≤ s) (hj : j ≤ s) : ∃ v : Int32, f75 n (nI i) (nI j) g = some (.inl (some (.int v)), g) ∧ ((v = 1 ∧ SN g i j) ∨ (v = 0 ∧ ¬ SN g i j)) := by
  obtain ⟨a1, a2, a3, a4, _⟩ := hC.tok hi
  obtain ⟨b1, b2, b3, b4, _⟩ := hC.tok hj
  obtain ⟨h1, h2, _⟩ := hC
  have i1 : ¬ (nI i < 0 ∨ 601 ≤ Int32.toNatClampNeg (nI i)) := nI_in (c := i) (N := 601) (by omega) (by decide)
  have i2 : ¬ (nI j < 0 ∨ 601 ≤ Int32.toNatClampNeg (nI j)) := nI_in (c := j) (N := 601) (by omega) (by decide)
  unfold f75
  rw [if_neg (nI_pos (by omega)), h2, if_neg (nI_ge (by omega) (by omega)), if_neg (nI_pos (by omega)), if_pos (nI_lt (by omega) (by omega)), if_neg i1, if_neg i2, if_neg i1, if_neg i2, nI_clamp (by omega), nI_clamp (by omega), a3, a4, b3, b4, pk_sub (by omega), pk_sub (by omega)]
  by_cases hl : tl g j = tl g i
  · have hl' : tq g (j + 1) - tp g j = tq g (i + 1) - tp g i := hl
    rw [hl', if_pos rfl]
    obtain ⟨v, e, q⟩ := c75_70 (n := n) (g := g) (p := tp g i) (q := tp g j) (l := tq g (i + 1) - tp g i) h hN (by omega) (by omega) (tq g (i + 1) - tp g i) 0 n (by omega) (by omega) (fun z hz => by omega)
    refine ⟨v, e, ?_⟩
    rcases q with ⟨q1, q2⟩ | ⟨q1, q2⟩
    · exact Or.inl ⟨q1, hl.symm, q2⟩
    · exact Or.inr ⟨q1, fun z => q2 z.2⟩
  · have hl' : ¬ tq g (j + 1) - tp g j = tq g (i + 1) - tp g i := hl
    exact ⟨0, by rw [if_neg (fun z => hl' ((nI_eq (by omega) (by omega)).mp z))], Or.inr ⟨rfl, fun z => hl z.1.symm⟩⟩
theorem m113_0 {p q l : Nat} (hp : p + l ≤ 600) : ∀ (d k c : Nat), k + d = l → d < c → f113_6 n c (nI p) (nI q) (nI l) 0 (nI k) g = some (.inl (some (.int 0)), g) := by
  intro d
  induction d with
  | zero =>
    intro k c hk hc
    obtain ⟨c, rfl⟩ : ∃ z, c = z + 1 := ⟨c - 1, by omega⟩
    rw [f113_6, if_pos (nI_le (by omega) (by omega)), if_pos (Or.inl rfl)]
  | succ d ih =>
    intro k c hk hc
    obtain ⟨c, rfl⟩ : ∃ z, c = z + 1 := ⟨c - 1, by omega⟩
    rw [f113_6, if_neg (nI_ge (by omega) (by omega)), if_pos rfl, nI_1]
    exact ih (k + 1) c (by omega) (by omega)
theorem m113_6 {p q l : Nat} (hp : p + l ≤ 600) (hq : q + l ≤ 600) : ∀ (d k c : Nat), k + d = l → d < c → (∀ z, z < k → g.2.1 32 (p + z) = g.2.1 32 (q + z)) → ∃ v : Int32, f113_6 n c (nI p) (nI q) (nI l) 1 (nI k) g = some (.inl (some (.int v)), g) ∧ ((v = 1 ∧ ∀ z, z < l → g.2.1 32 (p + z) = g.2.1 32 (q + z)) ∨ (v = 0 ∧ ¬ ∀ z, z < l → g.2.1 32 (p + z) = g.2.1 32 (q + z))) := by
  intro d
  induction d with
  | zero =>
    intro k c hk hc hz
    obtain ⟨c, rfl⟩ : ∃ z, c = z + 1 := ⟨c - 1, by omega⟩
    have : k = l := by omega
    subst this
    exact ⟨1, by rw [f113_6, if_pos (nI_le (Nat.le_refl _) (by omega)), if_pos (Or.inr rfl)], Or.inl ⟨rfl, hz⟩⟩
  | succ d ih =>
    intro k c hk hc hz
    obtain ⟨c, rfl⟩ : ∃ z, c = z + 1 := ⟨c - 1, by omega⟩
    rw [f113_6, if_neg (nI_ge (by omega) (by omega)), if_neg (by decide), nI_add, nI_add, if_neg (nI_in (by omega) (by decide)), if_neg (nI_in (by omega) (by decide)), nI_clamp (by omega), nI_clamp (by omega), nI_1]
    by_cases he : g.2.1 32 (p + k) = g.2.1 32 (q + k)
    · rw [if_neg (fun z => z he)]
      exact ih (k + 1) c (by omega) (by omega) (fun z hz2 => by
        by_cases hzk : z = k
        · rw [hzk]; exact he
        · exact hz z (by omega))
    · exact ⟨0, by rw [if_pos he]; exact m113_0 hp d (k + 1) c (by omega) (by omega), Or.inr ⟨rfl, fun y => he (y k (by omega))⟩⟩
/-- names held by both: class's array, reference's places and lengths -/
def NM (g gm : mG) (s a p l v : Nat) : Prop := (∀ i, i < v → ∃ t, t ≤ s ∧ g.2.1 a i = nI t ∧ gm.2.1 p i = nI (tp g t) ∧ gm.2.1 l i = nI (tl g t)) ∧ ∀ i j, i < j → j < v → ¬ SN g (cl (g.2.1 a i)) (cl (g.2.1 a j))
theorem NM.sn {a p l v i j x : Nat} (h : NM g gm s a p l v) (hi : i < v) (hj : j < v) (h1 : SN g (cl (g.2.1 a i)) x) (h2 : SN g (cl (g.2.1 a j)) x) : i = j := by
  rcases Nat.lt_trichotomy i j with z | z | z
  · exact absurd (h1.tr h2.sym) (h.2 i j z hj)
  · exact z
  · exact absurd (h2.tr h1.sym) (h.2 j i z hi)
theorem c9_2 {x v : Nat} (hn : 700 ≤ n) (h : g.1 9 = nI N) (hN : N ≤ 600) (hC : Cut g N s) (hx : x ≤ s) (hv : v ≤ 8) (h7 : g.1 7 = nI v) (hM : NM g gm s 10 40 41 v) : ∀ (d k c : Nat), k + d = v → d < c → (∀ j, j < k → ¬ SN g (cl (g.2.1 10 j)) x) → (∃ i, i < v ∧ f9_2 n c (nI x) (nI k) g = some (.inl (some (.int (nI i))), g) ∧ SN g (cl (g.2.1 10 i)) x) ∨ (f9_2 n c (nI x) (nI k) g = some (.inl (some (.int (-1))), g) ∧ ∀ j, j < v → ¬ SN g (cl (g.2.1 10 j)) x) := by
  intro d
  induction d with
  | zero =>
    intro k c hk hc hz
    obtain ⟨c, rfl⟩ : ∃ z, c = z + 1 := ⟨c - 1, by omega⟩
    have : k = v := by omega
    subst this
    exact Or.inr ⟨by rw [f9_2, h7, if_pos (nI_le (Nat.le_refl _) (by omega))], hz⟩
  | succ d ih =>
    intro k c hk hc hz
    obtain ⟨c, rfl⟩ : ∃ z, c = z + 1 := ⟨c - 1, by omega⟩
    obtain ⟨t, t1, t2, _⟩ := hM.1 k (by omega)
    obtain ⟨w, e, q⟩ := c75 (n := n) (g := g) (i := t) (j := x) hn h hN hC t1 hx
    have ht : cl (g.2.1 10 k) = t := by rw [t2]; exact cl_nI (by have := hC.1; omega)
    rw [f9_2, h7, if_neg (nI_ge (by omega) (by omega)), if_neg (nI_in (by omega) (by decide)), nI_clamp (by omega), t2, e, m_ci_s, nI_1]
    rcases q with ⟨q1, q2⟩ | ⟨q1, q2⟩
    · exact Or.inl ⟨k, by omega, by rw [q1, if_neg (by decide)], by rw [ht]; exact q2⟩
    · rw [q1, if_pos rfl]
      exact ih (k + 1) c (by omega) (by omega) (fun j hj => by
        by_cases hjk : j = k
        · subst hjk; rw [ht]; exact q2
        · exact hz j (by omega))
theorem m112_5 {x v : Nat} (hn : 700 ≤ n) (hN : N ≤ 600) (hC : Cut g N s) (hx : x ≤ s) (hv : v ≤ 8) (h36 : gm.1 36 = nI v) (hT : gm.2.1 32 = g.2.1 8) (hM : NM g gm s 10 40 41 v) : ∀ (d k c : Nat) (r : Int32), k + d = v → d < c → f112_5 n c (nI (tp g x)) (nI (tl g x)) r (nI k) gm = some (.inl (some (.int r)), gm) ∧ (∀ j, k ≤ j → j < v → ¬ SN g (cl (g.2.1 10 j)) x) ∨ (∃ i, k ≤ i ∧ i < v ∧ f112_5 n c (nI (tp g x)) (nI (tl g x)) r (nI k) gm = some (.inl (some (.int (nI i))), gm) ∧ SN g (cl (g.2.1 10 i)) x) := by
  intro d
  induction d with
  | zero =>
    intro k c r hk hc
    obtain ⟨c, rfl⟩ : ∃ z, c = z + 1 := ⟨c - 1, by omega⟩
    exact Or.inl ⟨by rw [f112_5, h36, if_pos (nI_le (by omega) (by omega))], fun j h1 h2 => by omega⟩
  | succ d ih =>
    intro k c r hk hc
    obtain ⟨c, rfl⟩ : ∃ z, c = z + 1 := ⟨c - 1, by omega⟩
    obtain ⟨t, t1, t2, t3, t4⟩ := hM.1 k (by omega)
    have ht : cl (g.2.1 10 k) = t := by rw [t2]; exact cl_nI (by have := hC.1; omega)
    obtain ⟨a1, a2, _⟩ := hC.tok t1
    obtain ⟨b1, b2, _⟩ := hC.tok hx
    have bt : tl g t ≤ 600 := by unfold tl; omega
    have bx : tl g x ≤ 600 := by unfold tl; omega
    have lift : ¬ SN g t x → (f112_5 n c (nI (tp g x)) (nI (tl g x)) r (nI (k + 1)) gm = some (.inl (some (.int r)), gm) ∧ (∀ j, k ≤ j → j < v → ¬ SN g (cl (g.2.1 10 j)) x) ∨ (∃ i, k ≤ i ∧ i < v ∧ f112_5 n c (nI (tp g x)) (nI (tl g x)) r (nI (k + 1)) gm = some (.inl (some (.int (nI i))), gm) ∧ SN g (cl (g.2.1 10 i)) x)) := fun hs => by
      rcases ih (k + 1) c r (by omega) (by omega) with ⟨q1, q2⟩ | ⟨i, q1, q2, q3, q4⟩
      · exact Or.inl ⟨q1, fun j h1 h2 => by
          by_cases hjk : j = k
          · subst hjk; rw [ht]; exact hs
          · exact q2 j (by omega) h2⟩
      · exact Or.inr ⟨i, by omega, q2, q3, q4⟩
    have hin : ¬ (nI k < 0 ∨ 8 ≤ Int32.toNatClampNeg (nI k)) := nI_in (c := k) (N := 8) (by omega) (by decide)
    rw [f112_5, h36, if_neg (nI_ge (by omega) (by omega)), if_neg hin, nI_clamp (by omega), t3, t4, nI_1]
    by_cases hl : tl g t = tl g x
    · rw [if_neg (fun z => z (by rw [hl])), if_neg (by rw [nI_clamp (by omega)] at hin; exact hin)]
      obtain ⟨w, e, q⟩ := m113_6 (n := n) (g := gm) (p := tp g t) (q := tp g x) (l := tl g x) (by rw [← hl]; unfold tl; omega) (by unfold tl; omega) (tl g x) 0 n (by omega) (by omega) (fun z hz => by omega)
      have e' : f113 n (nI (tp g t)) (nI (tp g x)) (nI (tl g x)) gm = some (.inl (some (.int w)), gm) := e
      rw [e', m_ci_s]
      rw [hT] at q
      rcases q with ⟨q1, q2⟩ | ⟨q1, q2⟩
      · rw [q1, if_neg (by decide)]
        have hs : SN g t x := ⟨hl, fun z hz => q2 z (by rw [← hl]; exact hz)⟩
        rcases ih (k + 1) c (nI k) (by omega) (by omega) with ⟨p1, p2⟩ | ⟨i, p1, p2, p3, p4⟩
        · exact Or.inr ⟨k, Nat.le_refl _, by omega, p1, by rw [ht]; exact hs⟩
        · exact Or.inr ⟨i, by omega, p2, p3, p4⟩
      · rw [q1, if_pos rfl]
        exact lift (fun z => q2 (fun k hk => z.2 k (by rw [hl]; exact hk)))
    · rw [if_pos (fun z => hl ((nI_eq (by omega) (by omega)).mp z))]
      exact lift (fun z => hl z.1)
/-- both look a name up alike -/
theorem p_var {x v : Nat} (hn : 700 ≤ n) (h : g.1 9 = nI N) (hN : N ≤ 600) (hC : Cut g N s) (hx : x ≤ s) (hv : v ≤ 8) (h7 : g.1 7 = nI v) (h36 : gm.1 36 = nI v) (hT : gm.2.1 32 = g.2.1 8) (hM : NM g gm s 10 40 41 v) :
    (∃ i, i < v ∧ f9 n (nI x) g = some (.inl (some (.int (nI i))), g) ∧ f112 n (nI (tp g x)) (nI (tl g x)) gm = some (.inl (some (.int (nI i))), gm)) ∨
    (f9 n (nI x) g = some (.inl (some (.int (-1))), g) ∧ f112 n (nI (tp g x)) (nI (tl g x)) gm = some (.inl (some (.int (-1))), gm) ∧ ∀ j, j < v → ¬ SN g (cl (g.2.1 10 j)) x) := by
  have A := c9_2 (n := n) (gm := gm) hn h hN hC hx hv h7 hM v 0 n (by omega) (by omega) (fun j hj => by omega)
  have B := m112_5 (n := n) hn hN hC hx hv h36 hT hM v 0 n (-1) (by omega) (by omega)
  rcases A with ⟨i, a1, a2, a3⟩ | ⟨a1, a2⟩
  · rcases B with ⟨b1, b2⟩ | ⟨j, _, b1, b2, b3⟩
    · exact absurd a3 (b2 i (Nat.zero_le _) a1)
    · have := hM.sn a1 b1 a3 b3
      subst this
      exact Or.inl ⟨i, a1, a2, b2⟩
  · rcases B with ⟨b1, b2⟩ | ⟨j, _, b1, b2, b3⟩
    · exact Or.inr ⟨a1, b1, a2⟩
    · exact absurd b3 (a2 j b1)
theorem c4_2 {x v : Nat} (hn : 700 ≤ n) (h : g.1 9 = nI N) (hN : N ≤ 600) (hC : Cut g N s) (hx : x ≤ s) (hv : v ≤ 8) (h7 : g.1 13 = nI v) (hM : NM g gm s 9 36 37 v) : ∀ (d k c : Nat), k + d = v → d < c → (∀ j, j < k → ¬ SN g (cl (g.2.1 9 j)) x) → (∃ i, i < v ∧ f4_2 n c (nI x) (nI k) g = some (.inl (some (.int (nI i))), g) ∧ SN g (cl (g.2.1 9 i)) x) ∨ (f4_2 n c (nI x) (nI k) g = some (.inl (some (.int (-1))), g) ∧ ∀ j, j < v → ¬ SN g (cl (g.2.1 9 j)) x) := by
  intro d
  induction d with
  | zero =>
    intro k c hk hc hz
    obtain ⟨c, rfl⟩ : ∃ z, c = z + 1 := ⟨c - 1, by omega⟩
    have : k = v := by omega
    subst this
    exact Or.inr ⟨by rw [f4_2, h7, if_pos (nI_le (Nat.le_refl _) (by omega))], hz⟩
  | succ d ih =>
    intro k c hk hc hz
    obtain ⟨c, rfl⟩ : ∃ z, c = z + 1 := ⟨c - 1, by omega⟩
    obtain ⟨t, t1, t2, _⟩ := hM.1 k (by omega)
    obtain ⟨w, e, q⟩ := c75 (n := n) (g := g) (i := t) (j := x) hn h hN hC t1 hx
    have ht : cl (g.2.1 9 k) = t := by rw [t2]; exact cl_nI (by have := hC.1; omega)
    rw [f4_2, h7, if_neg (nI_ge (by omega) (by omega)), if_neg (nI_in (by omega) (by decide)), nI_clamp (by omega), t2, e, m_ci_s, nI_1]
    rcases q with ⟨q1, q2⟩ | ⟨q1, q2⟩
    · exact Or.inl ⟨k, by omega, by rw [q1, if_neg (by decide)], by rw [ht]; exact q2⟩
    · rw [q1, if_pos rfl]
      exact ih (k + 1) c (by omega) (by omega) (fun j hj => by
        by_cases hjk : j = k
        · subst hjk; rw [ht]; exact q2
        · exact hz j (by omega))
theorem m114_5 {x v : Nat} (hn : 700 ≤ n) (hN : N ≤ 600) (hC : Cut g N s) (hx : x ≤ s) (hv : v ≤ 8) (h36 : gm.1 35 = nI v) (hT : gm.2.1 32 = g.2.1 8) (hM : NM g gm s 9 36 37 v) : ∀ (d k c : Nat) (r : Int32), k + d = v → d < c → f114_5 n c (nI (tp g x)) (nI (tl g x)) r (nI k) gm = some (.inl (some (.int r)), gm) ∧ (∀ j, k ≤ j → j < v → ¬ SN g (cl (g.2.1 9 j)) x) ∨ (∃ i, k ≤ i ∧ i < v ∧ f114_5 n c (nI (tp g x)) (nI (tl g x)) r (nI k) gm = some (.inl (some (.int (nI i))), gm) ∧ SN g (cl (g.2.1 9 i)) x) := by
  intro d
  induction d with
  | zero =>
    intro k c r hk hc
    obtain ⟨c, rfl⟩ : ∃ z, c = z + 1 := ⟨c - 1, by omega⟩
    exact Or.inl ⟨by rw [f114_5, h36, if_pos (nI_le (by omega) (by omega))], fun j h1 h2 => by omega⟩
  | succ d ih =>
    intro k c r hk hc
    obtain ⟨c, rfl⟩ : ∃ z, c = z + 1 := ⟨c - 1, by omega⟩
    obtain ⟨t, t1, t2, t3, t4⟩ := hM.1 k (by omega)
    have ht : cl (g.2.1 9 k) = t := by rw [t2]; exact cl_nI (by have := hC.1; omega)
    obtain ⟨a1, a2, _⟩ := hC.tok t1
    obtain ⟨b1, b2, _⟩ := hC.tok hx
    have bt : tl g t ≤ 600 := by unfold tl; omega
    have bx : tl g x ≤ 600 := by unfold tl; omega
    have lift : ¬ SN g t x → (f114_5 n c (nI (tp g x)) (nI (tl g x)) r (nI (k + 1)) gm = some (.inl (some (.int r)), gm) ∧ (∀ j, k ≤ j → j < v → ¬ SN g (cl (g.2.1 9 j)) x) ∨ (∃ i, k ≤ i ∧ i < v ∧ f114_5 n c (nI (tp g x)) (nI (tl g x)) r (nI (k + 1)) gm = some (.inl (some (.int (nI i))), gm) ∧ SN g (cl (g.2.1 9 i)) x)) := fun hs => by
      rcases ih (k + 1) c r (by omega) (by omega) with ⟨q1, q2⟩ | ⟨i, q1, q2, q3, q4⟩
      · exact Or.inl ⟨q1, fun j h1 h2 => by
          by_cases hjk : j = k
          · subst hjk; rw [ht]; exact hs
          · exact q2 j (by omega) h2⟩
      · exact Or.inr ⟨i, by omega, q2, q3, q4⟩
    have hin : ¬ (nI k < 0 ∨ 9 ≤ Int32.toNatClampNeg (nI k)) := nI_in (c := k) (N := 9) (by omega) (by decide)
    rw [f114_5, h36, if_neg (nI_ge (by omega) (by omega)), if_neg hin, nI_clamp (by omega), t3, t4, nI_1]
    by_cases hl : tl g t = tl g x
    · rw [if_neg (fun z => z (by rw [hl])), if_neg (by rw [nI_clamp (by omega)] at hin; exact hin)]
      obtain ⟨w, e, q⟩ := m113_6 (n := n) (g := gm) (p := tp g t) (q := tp g x) (l := tl g x) (by rw [← hl]; unfold tl; omega) (by unfold tl; omega) (tl g x) 0 n (by omega) (by omega) (fun z hz => by omega)
      have e' : f113 n (nI (tp g t)) (nI (tp g x)) (nI (tl g x)) gm = some (.inl (some (.int w)), gm) := e
      rw [e', m_ci_s]
      rw [hT] at q
      rcases q with ⟨q1, q2⟩ | ⟨q1, q2⟩
      · rw [q1, if_neg (by decide)]
        have hs : SN g t x := ⟨hl, fun z hz => q2 z (by rw [← hl]; exact hz)⟩
        rcases ih (k + 1) c (nI k) (by omega) (by omega) with ⟨p1, p2⟩ | ⟨i, p1, p2, p3, p4⟩
        · exact Or.inr ⟨k, Nat.le_refl _, by omega, p1, by rw [ht]; exact hs⟩
        · exact Or.inr ⟨i, by omega, p2, p3, p4⟩
      · rw [q1, if_pos rfl]
        exact lift (fun z => q2 (fun k hk => z.2 k (by rw [hl]; exact hk)))
    · rw [if_pos (fun z => hl ((nI_eq (by omega) (by omega)).mp z))]
      exact lift (fun z => hl z.1)
/-- both look a name up alike -/
theorem p_fun {x v : Nat} (hn : 700 ≤ n) (h : g.1 9 = nI N) (hN : N ≤ 600) (hC : Cut g N s) (hx : x ≤ s) (hv : v ≤ 8) (h7 : g.1 13 = nI v) (h36 : gm.1 35 = nI v) (hT : gm.2.1 32 = g.2.1 8) (hM : NM g gm s 9 36 37 v) :
    (∃ i, i < v ∧ f4 n (nI x) g = some (.inl (some (.int (nI i))), g) ∧ f114 n (nI (tp g x)) (nI (tl g x)) gm = some (.inl (some (.int (nI i))), gm)) ∨
    (f4 n (nI x) g = some (.inl (some (.int (-1))), g) ∧ f114 n (nI (tp g x)) (nI (tl g x)) gm = some (.inl (some (.int (-1))), gm) ∧ ∀ j, j < v → ¬ SN g (cl (g.2.1 9 j)) x) := by
  have A := c4_2 (n := n) (gm := gm) hn h hN hC hx hv h7 hM v 0 n (by omega) (by omega) (fun j hj => by omega)
  have B := m114_5 (n := n) hn hN hC hx hv h36 hT hM v 0 n (-1) (by omega) (by omega)
  rcases A with ⟨i, a1, a2, a3⟩ | ⟨a1, a2⟩
  · rcases B with ⟨b1, b2⟩ | ⟨j, _, b1, b2, b3⟩
    · exact absurd a3 (b2 i (Nat.zero_le _) a1)
    · have := hM.sn a1 b1 a3 b3
      subst this
      exact Or.inl ⟨i, a1, a2, b2⟩
  · rcases B with ⟨b1, b2⟩ | ⟨j, _, b1, b2, b3⟩
    · exact Or.inr ⟨a1, b1, a2⟩
    · exact absurd b3 (a2 j b1)
end Names
