/-! cutting a text into tokens -/
def sg (T : Nat → Int32) (N p : Nat) : Int32 := if p < N then T p else 0
/-- the end of a run of places -/
def IsR (φ : Nat → Prop) (N p e : Nat) : Prop := p ≤ e ∧ e ≤ N ∧ (∀ i, p ≤ i → i < e → φ i) ∧ (e < N → ¬ φ e)
theorem IsR.u {φ : Nat → Prop} {N p e e' : Nat} (h : IsR φ N p e) (h' : IsR φ N p e') : e = e' := by
  obtain ⟨a1, a2, a3, a4⟩ := h
  obtain ⟨b1, b2, b3, b4⟩ := h'
  rcases Nat.lt_trichotomy e e' with z | z | z
  · exact absurd (b3 e a1 z) (a4 (by omega))
  · exact z
  · exact absurd (a3 e' b1 z) (b4 (by omega))
theorem IsR.ex (φ : Nat → Prop) (N : Nat) : ∀ (d p : Nat), p + d = N → ∃ e, IsR φ N p e := by
  intro d
  induction d with
  | zero => intro p hp; exact ⟨p, Nat.le_refl _, by omega, fun i h1 h2 => by omega, fun h => by omega⟩
  | succ d ih =>
    intro p hp
    by_cases h : φ p
    · obtain ⟨e, a1, a2, a3, a4⟩ := ih (p + 1) (by omega)
      refine ⟨e, by omega, a2, fun i h1 h2 => ?_, a4⟩
      by_cases hi : i = p
      · rw [hi]; exact h
      · exact a3 i (by omega) h2
    · exact ⟨p, Nat.le_refl _, by omega, fun i h1 h2 => by omega, fun _ => h⟩
def isL (x : Int32) : Prop := ¬ x < 97 ∧ ¬ 122 < x
def isD (x : Int32) : Prop := ¬ x < 48 ∧ ¬ 57 < x
def blk (T : Nat → Int32) (i : Nat) : Prop := T i = 32 ∨ T i = 10
def nmc (T : Nat → Int32) (i : Nat) : Prop := isL (T i) ∨ isD (T i)
def dgc (T : Nat → Int32) (i : Nat) : Prop := isD (T i)
theorem isL_0 : ¬ isL 0 := by unfold isL; decide
theorem isD_0 : ¬ isD 0 := by unfold isD; decide
section Scan
variable {n N : Nat} {g : mG}
theorem c63 {p : Nat} (h : g.1 9 = nI N) (hN : N ≤ 600) (hp : p < 2 ^ 31) : f63 n (nI p) g = some (.inl (some (.int (sg (g.2.1 8) N p))), g) := by
  unfold f63 sg
  rw [h, if_neg (nI_pos hp)]
  by_cases hpN : p < N
  · rw [if_neg (nI_ge hpN (by omega)), if_neg (show ¬ (600 : Int32) ≤ nI p from nI_ge (a := p) (b := 600) (by omega) (by decide)), if_neg (nI_in (by omega) (by decide)), nI_clamp hp, if_pos hpN]
  · rw [if_pos (nI_le (by omega) hp), if_neg hpN]
theorem m93 {p : Nat} (h : g.1 25 = nI N) (hN : N ≤ 600) (hp : p < 2 ^ 31) : f93 n (nI p) g = some (.inl (some (.int (sg (g.2.1 32) N p))), g) := by
  unfold f93 sg
  rw [h]
  by_cases hpN : p < N
  · rw [if_neg (nI_ge hpN (by omega)), if_neg (nI_in (by omega) (by decide)), nI_clamp hp, if_pos hpN]
  · rw [if_pos (nI_le (by omega) hp), if_neg hpN]
theorem c65y {x : Int32} (h : isL x) : f65 n x g = some (.inl (some (.int 1)), g) := by unfold f65; rw [if_neg h.1, if_neg h.2]
theorem c65n {x : Int32} (h : ¬ isL x) : f65 n x g = some (.inl (some (.int 0)), g) := by
  unfold f65
  by_cases h1 : x < 97
  · rw [if_pos h1]
  · rw [if_neg h1, if_pos (Decidable.byContradiction fun z => h ⟨h1, z⟩)]
theorem c67y {x : Int32} (h : isD x) : f67 n x g = some (.inl (some (.int 1)), g) := by unfold f67; rw [if_neg h.1, if_neg h.2]
theorem c67n {x : Int32} (h : ¬ isD x) : f67 n x g = some (.inl (some (.int 0)), g) := by
  unfold f67
  by_cases h1 : x < 48
  · rw [if_pos h1]
  · rw [if_neg h1, if_pos (Decidable.byContradiction fun z => h ⟨h1, z⟩)]
theorem m94y {p : Nat} (h : g.1 25 = nI N) (hN : N ≤ 600) (hp : p < 2 ^ 31) (hl : isL (sg (g.2.1 32) N p)) : f94 n (nI p) g = some (.inl (some (.int 1)), g) := by
  unfold f94 f90
  rw [m93 h hN hp, m_ci_s, if_neg hl.1, if_neg hl.2, m_ci_s, if_pos (Or.inr rfl)]
theorem m94n {p : Nat} (h : g.1 25 = nI N) (hN : N ≤ 600) (hp : p < 2 ^ 31) (hl : ¬ isL (sg (g.2.1 32) N p)) : f94 n (nI p) g = some (.inl (some (.int 0)), g) := by
  unfold f94 f90
  rw [m93 h hN hp, m_ci_s]
  by_cases h1 : sg (g.2.1 32) N p < 97
  · rw [if_pos h1, m_ci_s, if_pos (Or.inl rfl)]
  · rw [if_neg h1, if_pos (Decidable.byContradiction fun z => hl ⟨h1, z⟩), m_ci_s, if_pos (Or.inl rfl)]
theorem m95y {p : Nat} (h : g.1 25 = nI N) (hN : N ≤ 600) (hp : p < 2 ^ 31) (hl : isD (sg (g.2.1 32) N p)) : f95 n (nI p) g = some (.inl (some (.int 1)), g) := by
  unfold f95 f90
  rw [m93 h hN hp, m_ci_s, if_neg hl.1, if_neg hl.2, m_ci_s, if_pos (Or.inr rfl)]
theorem m95n {p : Nat} (h : g.1 25 = nI N) (hN : N ≤ 600) (hp : p < 2 ^ 31) (hl : ¬ isD (sg (g.2.1 32) N p)) : f95 n (nI p) g = some (.inl (some (.int 0)), g) := by
  unfold f95 f90
  rw [m93 h hN hp, m_ci_s]
  by_cases h1 : sg (g.2.1 32) N p < 48
  · rw [if_pos h1, m_ci_s, if_pos (Or.inl rfl)]
  · rw [if_neg h1, if_pos (Decidable.byContradiction fun z => hl ⟨h1, z⟩), m_ci_s, if_pos (Or.inl rfl)]
theorem sg_lt {T : Nat → Int32} {p : Nat} (h : p < N) : sg T N p = T p := if_pos h
theorem sg_ge {T : Nat → Int32} {p : Nat} (h : N ≤ p) : sg T N p = 0 := if_neg (by omega)
/-! blanks -/
theorem c62_2 {e : Nat} (h : g.1 9 = nI N) (hN : N ≤ 600) : ∀ (d p c : Nat), p + d = e → d < c → IsR (blk (g.2.1 8)) N p e → f62_2 n c (nI p) g = some (.inl (some (.int (nI e))), g) := by
  intro d
  induction d with
  | zero =>
    intro p c hp hc hR
    obtain ⟨c, rfl⟩ : ∃ z, c = z + 1 := ⟨c - 1, by omega⟩
    have hpe : p = e := by omega
    subst hpe
    obtain ⟨a1, a2, a3, a4⟩ := hR
    rw [f62_2, h]
    by_cases hpN : N ≤ p
    · rw [if_pos (nI_le hpN (by omega))]
    · have hb := a4 (by omega)
      rw [if_neg (nI_ge (by omega) (by omega)), c63 h hN (by omega), m_ci_s, sg_lt (by omega), if_neg (fun z => hb (Or.inl z)), c63 h hN (by omega), m_ci_s, sg_lt (by omega), if_pos (fun z => hb (Or.inr z))]
  | succ d ih =>
    intro p c hp hc hR
    obtain ⟨c, rfl⟩ : ∃ z, c = z + 1 := ⟨c - 1, by omega⟩
    obtain ⟨a1, a2, a3, a4⟩ := hR
    rw [f62_2, h, if_neg (nI_ge (by omega) (by omega)), c63 h hN (by omega), m_ci_s, sg_lt (by omega), nI_1]
    have hih := ih (p + 1) c (by omega) (by omega) ⟨by omega, a2, fun i h1 h2 => a3 i (by omega) h2, a4⟩
    rcases a3 p (Nat.le_refl _) (by omega) with z | z
    · rw [if_pos z]; exact hih
    · rw [if_neg (by rw [z]; decide), c63 h hN (by omega), m_ci_s, sg_lt (by omega), if_neg (fun y => y z)]; exact hih
/-- what the reference does behind the blanks -/
def advB (n : Nat) (g6 : mG) : mZ := if (g6.1 28) < (g6.1 25) then m_ci (f94 n (g6.1 28) (gI g6 27 (g6.1 28))) (fun v13 g12 => if v13 = 0 then m_ci (f95 n (g12.1 27) g12) (fun v18 g17 => if v18 = 0 then m_cv (f98 n g17) (fun g22 => some (.inl none, g22)) else m_cv (f97 n g17) (fun g26 => some (.inl none, g26))) else f92_85 n n g12) else some (.inl none, (gI (gI g6 27 (g6.1 25)) 26 (0 : Int32)))
theorem m92_0 {e : Nat} (hN : N ≤ 600) : ∀ (d p c : Nat) (g : mG), g.1 25 = nI N → g.1 28 = nI p → p + d = e → d < c → IsR (blk (g.2.1 32)) N p e → ∃ g', f92_0 n c g = advB n g' ∧ g'.1 28 = nI e ∧ Chg [28] [] g g' := by
  intro d
  induction d with
  | zero =>
    intro p c g h h28 hp hc hR
    obtain ⟨c, rfl⟩ : ∃ z, c = z + 1 := ⟨c - 1, by omega⟩
    have hpe : p = e := by omega
    subst hpe
    obtain ⟨a1, a2, a3, a4⟩ := hR
    have hb : ¬ sg (g.2.1 32) N p = 32 ∧ ¬ sg (g.2.1 32) N p = 10 := by
      by_cases hpN : p < N
      · rw [sg_lt hpN]; exact ⟨fun z => a4 hpN (Or.inl z), fun z => a4 hpN (Or.inr z)⟩
      · rw [sg_ge (by omega)]; decide
    refine ⟨g, ?_, h28, Chg.rf g⟩
    rw [f92_0, h28, m93 h hN (by omega), m_ci_s, if_neg hb.1, h28, m93 h hN (by omega), m_ci_s, if_pos hb.2]
    rfl
  | succ d ih =>
    intro p c g h h28 hp hc hR
    obtain ⟨c, rfl⟩ : ∃ z, c = z + 1 := ⟨c - 1, by omega⟩
    obtain ⟨a1, a2, a3, a4⟩ := hR
    obtain ⟨g', e1, e2, e3⟩ := ih (p + 1) c (gI g 28 (nI (p + 1))) (by simp [rI, h]) (by simp [rI]) (by omega) (by omega) ⟨by omega, a2, fun i h1 h2 => a3 i (by omega) h2, a4⟩
    refine ⟨g', ?_, e2, (Chg.i 28 _ (by simp)).tr e3⟩
    rw [← e1, f92_0, h28, m93 h hN (by omega), m_ci_s, sg_lt (by omega), h28, nI_1]
    rcases a3 p (Nat.le_refl _) (by omega) with z | z
    · rw [if_pos z]
    · rw [if_neg (by rw [z]; decide), m93 h hN (by omega), m_ci_s, sg_lt (by omega), if_neg (fun y => y z), h28, nI_1]
/-! names -/
theorem c66_2 {e : Nat} (h : g.1 9 = nI N) (hN : N ≤ 600) : ∀ (d p c : Nat), p + d = e → d < c → IsR (nmc (g.2.1 8)) N p e → f66_2 n c (nI p) g = some (.inl (some (.int (nI e))), g) := by
  intro d
  induction d with
  | zero =>
    intro p c hp hc hR
    obtain ⟨c, rfl⟩ : ∃ z, c = z + 1 := ⟨c - 1, by omega⟩
    have hpe : p = e := by omega
    subst hpe
    obtain ⟨a1, a2, a3, a4⟩ := hR
    rw [f66_2, h]
    by_cases hpN : N ≤ p
    · rw [if_pos (nI_le hpN (by omega))]
    · have hb := a4 (by omega)
      rw [if_neg (nI_ge (by omega) (by omega)), c63 h hN (by omega), m_ci_s, sg_lt (by omega), c65n (fun z => hb (Or.inl z)), m_ci_s, if_neg (by decide), c63 h hN (by omega), m_ci_s, sg_lt (by omega), c67n (fun z => hb (Or.inr z)), m_ci_s, if_pos rfl]
  | succ d ih =>
    intro p c hp hc hR
    obtain ⟨c, rfl⟩ : ∃ z, c = z + 1 := ⟨c - 1, by omega⟩
    obtain ⟨a1, a2, a3, a4⟩ := hR
    rw [f66_2, h, if_neg (nI_ge (by omega) (by omega)), c63 h hN (by omega), m_ci_s, sg_lt (by omega), nI_1]
    have hih := ih (p + 1) c (by omega) (by omega) ⟨by omega, a2, fun i h1 h2 => a3 i (by omega) h2, a4⟩
    by_cases hl : isL (g.2.1 8 p)
    · rw [c65y hl, m_ci_s, if_pos (by decide)]; exact hih
    · have hd := (a3 p (Nat.le_refl _) (by omega)).elim (fun z => absurd z hl) id
      rw [c65n hl, m_ci_s, if_neg (by decide), c63 h hN (by omega), m_ci_s, sg_lt (by omega), c67y hd, m_ci_s, if_neg (by decide)]; exact hih
theorem m92_85 {e : Nat} (hN : N ≤ 600) : ∀ (d p c : Nat) (g : mG), g.1 25 = nI N → g.1 28 = nI p → p + d = e → d < c → IsR (nmc (g.2.1 32)) N p e → ∃ g', f92_85 n c g = m_ci (f96 n (g'.1 27) (nI e) g') (fun v41 g40 => some (.inl none, (gI g40 26 v41))) ∧ g'.1 28 = nI e ∧ Chg [28] [] g g' := by
  intro d
  induction d with
  | zero =>
    intro p c g h h28 hp hc hR
    obtain ⟨c, rfl⟩ : ∃ z, c = z + 1 := ⟨c - 1, by omega⟩
    have hpe : p = e := by omega
    subst hpe
    obtain ⟨a1, a2, a3, a4⟩ := hR
    have hb : ¬ isL (sg (g.2.1 32) N p) ∧ ¬ isD (sg (g.2.1 32) N p) := by
      by_cases hpN : p < N
      · rw [sg_lt hpN]; exact ⟨fun z => a4 hpN (Or.inl z), fun z => a4 hpN (Or.inr z)⟩
      · rw [sg_ge (by omega)]; exact ⟨isL_0, isD_0⟩
    refine ⟨g, ?_, h28, Chg.rf g⟩
    rw [f92_85, h28, m94n h hN (by omega) hb.1, m_ci_s, if_neg (by decide), h28, m95n h hN (by omega) hb.2, m_ci_s, if_pos rfl, h28]
  | succ d ih =>
    intro p c g h h28 hp hc hR
    obtain ⟨c, rfl⟩ : ∃ z, c = z + 1 := ⟨c - 1, by omega⟩
    obtain ⟨a1, a2, a3, a4⟩ := hR
    obtain ⟨g', e1, e2, e3⟩ := ih (p + 1) c (gI g 28 (nI (p + 1))) (by simp [rI, h]) (by simp [rI]) (by omega) (by omega) ⟨by omega, a2, fun i h1 h2 => a3 i (by omega) h2, a4⟩
    refine ⟨g', ?_, e2, (Chg.i 28 _ (by simp)).tr e3⟩
    rw [← e1, f92_85, h28]
    by_cases hl : isL (g.2.1 32 p)
    · rw [m94y h hN (by omega) (by rw [sg_lt (by omega)]; exact hl), m_ci_s, if_pos (by decide), h28, nI_1]
    · have hd := (a3 p (Nat.le_refl _) (by omega)).elim (fun z => absurd z hl) id
      rw [m94n h hN (by omega) (by rw [sg_lt (by omega)]; exact hl), m_ci_s, if_neg (by decide), h28, m95y h hN (by omega) (by rw [sg_lt (by omega)]; exact hd), m_ci_s, if_neg (by decide), h28, nI_1]
end Scan
