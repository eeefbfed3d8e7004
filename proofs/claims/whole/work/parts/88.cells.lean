/-! the 57 cells, in the small machine's order -/
def AllAt (P : Nat → mC → Prop) : Nat → mH → Prop
  | _, [] => True
  | i, c :: t => P i c ∧ AllAt P (i + 1) t
theorem AllAt.get {P : Nat → mC → Prop} : ∀ {h : mH} {i : Nat}, AllAt P i h → ∀ (k : Nat) (c : mC), h[k]? = some c → P (i + k) c
  | [], i, _, k, c, hk => by simp at hk
  | d :: t, i, hh, 0, c, hk => by
    cases hk
    exact hh.1
  | d :: t, i, hh, k + 1, c, hk => by
    have := AllAt.get hh.2 k c hk
    rw [show i + 1 + k = i + (k + 1) by omega] at this
    exact this
theorem m_W_inv {ad : Nat → Nat} {cI cJ : ClassId} {h : mH} {k : Nat} {q : Nat × va_E} (hk : (m_W ad cI cJ h)[k]? = some q) : ∃ c, h[k]? = some c ∧ q = (ad k, m_E ad cI cJ c) := by
  cases hc : h[k]? with
  | none =>
    rw [m_W, List.getElem?_mapIdx, hc] at hk
    cases hk
  | some c => exact ⟨c, rfl, Option.some.inj (hk.symm.trans (m_W_at hc))⟩
def cpm : List Nat := [0, 2, 3, 9, 17, 23, 18, 31, 1, 14, 15, 16, 4, 5, 6, 7, 8, 10, 11, 12, 13, 24, 25, 26, 27, 28, 29, 30, 19, 20, 21, 22, 32, 33, 34, 35, 36, 37, 38, 39, 40, 41, 42, 43, 44, 45, 46, 47, 48, 49, 50, 51, 52, 53, 54, 55, 56]
theorem cpm_i : ∀ i, i < 57 → ∀ j, j < 57 → cpm.getD i 0 = cpm.getD j 0 → i = j := by decide +kernel
section Cel
variable {D : va_G} {H : Heap} {cI cJ : ClassId} {A : Nat → Prop}
abbrev cW (ad : Nat → Nat) (cI cJ : ClassId) : va_W := [((ad 0), .inr (5, [.ref (ad 8), .int 0, .ref (ad 1), .ref (ad 4), .int 0, .int 0, .int 0, .int 0])), ((ad 8), .inl (cI, 600, .inl z0)), ((ad 1), .inr (0, [.ref (ad 2), .ref (ad 3), .int 0, .int (-1), .ref (ad 9), .ref (ad 10), .ref (ad 11), .int 0])), ((ad 2), .inr (4, [.ref (ad 12), .ref (ad 13), .ref (ad 14), .ref (ad 15), .int 0, .ref (ad 16), .int 0, .int 0, .int 0])), ((ad 12), .inl (cI, 601, .inl z0)), ((ad 13), .inl (cI, 601, .inl z0)), ((ad 14), .inl (cI, 601, .inl z0)), ((ad 15), .inl (cI, 601, .inl z0)), ((ad 16), .inl (cI, 0, .inl z0)), ((ad 3), .inr (1, [.ref (ad 17), .ref (ad 18), .int 0, .ref (ad 19), .ref (ad 20), .int 0])), ((ad 17), .inl (cI, 600, .inl z0)), ((ad 18), .inl (cI, 600, .inl z0)), ((ad 19), .inl (cI, 8, .inl z0)), ((ad 20), .inl (cI, 8, .inl z0)), ((ad 9), .inl (cI, 8, .inl z0)), ((ad 10), .inl (cI, 8, .inl z0)), ((ad 11), .inl (cI, 8, .inl z0)), ((ad 4), .inr (2, [.ref (ad 6), .ref (ad 5), .ref (ad 25), .int 0, .ref (ad 26), .ref (ad 27), .int 0, .int 0, .int 0, .int 0, .int 0])), ((ad 6), .inr (3, [.ref (ad 28), .ref (ad 29), .int 0, .ref (ad 30), .ref (ad 31), .int 0])), ((ad 28), .inl (cI, 32, .inl z0)), ((ad 29), .inl (cI, 32, .inl z0)), ((ad 30), .inl (cI, 32, .inl z0)), ((ad 31), .inl (cI, 32, .inl z0)), ((ad 5), .inr (1, [.ref (ad 21), .ref (ad 22), .int 0, .ref (ad 23), .ref (ad 24), .int 0])), ((ad 21), .inl (cI, 600, .inl z0)), ((ad 22), .inl (cI, 600, .inl z0)), ((ad 23), .inl (cI, 8, .inl z0)), ((ad 24), .inl (cI, 8, .inl z0)), ((ad 25), .inl (cI, 1080, .inl z0)), ((ad 26), .inl (cI, 96, .inl z0)), ((ad 27), .inl (cI, 12, .inl z0)), ((ad 7), .inr (6, [.int 0, .ref (ad 32), .int 0, .int 0, .int 0, .int 0, .int 0, .int 0, .ref (ad 33), .int 0, .ref (ad 34), .int 0, .ref (ad 35), .int 0, .int 0, .int 0, .ref (ad 36), .ref (ad 37), .ref (ad 38), .ref (ad 39), .int 0, .ref (ad 40), .ref (ad 41), .ref (ad 42), .int 0, .ref (ad 43), .ref (ad 44), .int 0, .ref (ad 45), .ref (ad 46), .ref (ad 47), .ref (ad 48), .int 0, .ref (ad 49), .ref (ad 50), .int 0, .ref (ad 51), .ref (ad 52), .long 0, .ref (ad 53), .int 0, .int 0, .ref (ad 54), .ref (ad 55), .int 0, .int 0, .int 0])), ((ad 32), .inl (cI, 600, .inl z0)), ((ad 33), .inl (cI, 900, .inl z0)), ((ad 34), .inl (cI, 600, .inl z0)), ((ad 35), .inl (cI, 400, .inl z0)), ((ad 36), .inl (cI, 9, .inl z0)), ((ad 37), .inl (cI, 9, .inl z0)), ((ad 38), .inl (cI, 9, .inl z0)), ((ad 39), .inl (cI, 9, .inl z0)), ((ad 40), .inl (cI, 8, .inl z0)), ((ad 41), .inl (cI, 8, .inl z0)), ((ad 42), .inl (cI, 8, .inl z0)), ((ad 43), .inl (cI, 2400, .inl z0)), ((ad 44), .inl (cI, 2400, .inl z0)), ((ad 45), .inl (cI, 8, .inl z0)), ((ad 46), .inl (cI, 8, .inl z0)), ((ad 47), .inl (cI, 2400, .inl z0)), ((ad 48), .inl (cI, 2400, .inl z0)), ((ad 49), .inl (cI, 32, .inl z0)), ((ad 50), .inl (cI, 32, .inl z0)), ((ad 51), .inl (cI, 32, .inl z0)), ((ad 52), .inl (cI, 32, .inl z0)), ((ad 53), .inl (cI, 3000, .inl z0)), ((ad 54), .inl (cI, 13, .inl z0)), ((ad 55), .inl (cI, 104, .inl z0)), ((ad 56), .inl (cJ, 1, .inr (.inl z1)))]
set_option maxRecDepth 100000 in
set_option maxHeartbeats 4000000 in
theorem cW_P (ad : Nat → Nat) (hP : va_P D m_cl (cW ad cI cJ) H) : va_P D m_cl (m_W ad cI cJ (hO 16 g0)) H := by
  have K : AllAt (fun k c => va_at D m_cl (ad k, m_E ad cI cJ c) H) 0 (hO 16 g0) := And.intro (hP 0 _ rfl) (And.intro (hP 2 _ rfl) (And.intro (hP 3 _ rfl) (And.intro (hP 9 _ rfl) (And.intro (hP 17 _ rfl) (And.intro (hP 23 _ rfl) (And.intro (hP 18 _ rfl) (And.intro (hP 31 _ rfl) (And.intro (hP 1 _ rfl) (And.intro (hP 14 _ rfl) (And.intro (hP 15 _ rfl) (And.intro (hP 16 _ rfl) (And.intro (hP 4 _ rfl) (And.intro (hP 5 _ rfl) (And.intro (hP 6 _ rfl) (And.intro (hP 7 _ rfl) (And.intro (hP 8 _ rfl) (And.intro (hP 10 _ rfl) (And.intro (hP 11 _ rfl) (And.intro (hP 12 _ rfl) (And.intro (hP 13 _ rfl) (And.intro (hP 24 _ rfl) (And.intro (hP 25 _ rfl) (And.intro (hP 26 _ rfl) (And.intro (hP 27 _ rfl) (And.intro (hP 28 _ rfl) (And.intro (hP 29 _ rfl) (And.intro (hP 30 _ rfl) (And.intro (hP 19 _ rfl) (And.intro (hP 20 _ rfl) (And.intro (hP 21 _ rfl) (And.intro (hP 22 _ rfl) (And.intro (hP 32 _ rfl) (And.intro (hP 33 _ rfl) (And.intro (hP 34 _ rfl) (And.intro (hP 35 _ rfl) (And.intro (hP 36 _ rfl) (And.intro (hP 37 _ rfl) (And.intro (hP 38 _ rfl) (And.intro (hP 39 _ rfl) (And.intro (hP 40 _ rfl) (And.intro (hP 41 _ rfl) (And.intro (hP 42 _ rfl) (And.intro (hP 43 _ rfl) (And.intro (hP 44 _ rfl) (And.intro (hP 45 _ rfl) (And.intro (hP 46 _ rfl) (And.intro (hP 47 _ rfl) (And.intro (hP 48 _ rfl) (And.intro (hP 49 _ rfl) (And.intro (hP 50 _ rfl) (And.intro (hP 51 _ rfl) (And.intro (hP 52 _ rfl) (And.intro (hP 53 _ rfl) (And.intro (hP 54 _ rfl) (And.intro (hP 55 _ rfl) (And.intro (hP 56 _ rfl) (trivial)))))))))))))))))))))))))))))))))))))))))))))))))))))))))
  intro k q hk
  obtain ⟨c, h1, rfl⟩ := m_W_inv hk
  have := K.get k c h1
  rw [Nat.zero_add] at this
  exact this
set_option maxRecDepth 100000 in
set_option maxHeartbeats 4000000 in
theorem cW_at (ad : Nat → Nat) : ∀ i, i < 57 → ∃ e, (cW ad cI cJ)[cpm.getD i 0]? = some (ad i, e) := by
  intro i hi
  match i, hi with
  | 0, _ => exact ⟨_, rfl⟩
  | 1, _ => exact ⟨_, rfl⟩
  | 2, _ => exact ⟨_, rfl⟩
  | 3, _ => exact ⟨_, rfl⟩
  | 4, _ => exact ⟨_, rfl⟩
  | 5, _ => exact ⟨_, rfl⟩
  | 6, _ => exact ⟨_, rfl⟩
  | 7, _ => exact ⟨_, rfl⟩
  | 8, _ => exact ⟨_, rfl⟩
  | 9, _ => exact ⟨_, rfl⟩
  | 10, _ => exact ⟨_, rfl⟩
  | 11, _ => exact ⟨_, rfl⟩
  | 12, _ => exact ⟨_, rfl⟩
  | 13, _ => exact ⟨_, rfl⟩
  | 14, _ => exact ⟨_, rfl⟩
  | 15, _ => exact ⟨_, rfl⟩
  | 16, _ => exact ⟨_, rfl⟩
  | 17, _ => exact ⟨_, rfl⟩
  | 18, _ => exact ⟨_, rfl⟩
  | 19, _ => exact ⟨_, rfl⟩
  | 20, _ => exact ⟨_, rfl⟩
  | 21, _ => exact ⟨_, rfl⟩
  | 22, _ => exact ⟨_, rfl⟩
  | 23, _ => exact ⟨_, rfl⟩
  | 24, _ => exact ⟨_, rfl⟩
  | 25, _ => exact ⟨_, rfl⟩
  | 26, _ => exact ⟨_, rfl⟩
  | 27, _ => exact ⟨_, rfl⟩
  | 28, _ => exact ⟨_, rfl⟩
  | 29, _ => exact ⟨_, rfl⟩
  | 30, _ => exact ⟨_, rfl⟩
  | 31, _ => exact ⟨_, rfl⟩
  | 32, _ => exact ⟨_, rfl⟩
  | 33, _ => exact ⟨_, rfl⟩
  | 34, _ => exact ⟨_, rfl⟩
  | 35, _ => exact ⟨_, rfl⟩
  | 36, _ => exact ⟨_, rfl⟩
  | 37, _ => exact ⟨_, rfl⟩
  | 38, _ => exact ⟨_, rfl⟩
  | 39, _ => exact ⟨_, rfl⟩
  | 40, _ => exact ⟨_, rfl⟩
  | 41, _ => exact ⟨_, rfl⟩
  | 42, _ => exact ⟨_, rfl⟩
  | 43, _ => exact ⟨_, rfl⟩
  | 44, _ => exact ⟨_, rfl⟩
  | 45, _ => exact ⟨_, rfl⟩
  | 46, _ => exact ⟨_, rfl⟩
  | 47, _ => exact ⟨_, rfl⟩
  | 48, _ => exact ⟨_, rfl⟩
  | 49, _ => exact ⟨_, rfl⟩
  | 50, _ => exact ⟨_, rfl⟩
  | 51, _ => exact ⟨_, rfl⟩
  | 52, _ => exact ⟨_, rfl⟩
  | 53, _ => exact ⟨_, rfl⟩
  | 54, _ => exact ⟨_, rfl⟩
  | 55, _ => exact ⟨_, rfl⟩
  | 56, _ => exact ⟨_, rfl⟩
  | i + 57, h => omega
theorem cW_D (ad : Nat → Nat) (hD : va_D A (cW ad cI cJ)) : va_D A (m_W ad cI cJ (hO 16 g0)) := by
  have hl : ∀ (k : Nat) (q : Nat × va_E), (m_W ad cI cJ (hO 16 g0))[k]? = some q → k < 57 := fun k q hk => by
    have := (List.getElem?_eq_some_iff.mp hk).1
    rw [m_W_len] at this
    exact this
  refine ⟨fun i j p q h1 h2 e => ?_, fun k q hk => ?_⟩
  · obtain ⟨e1, k1⟩ := cW_at (cI := cI) (cJ := cJ) ad i (hl i p h1)
    obtain ⟨e2, k2⟩ := cW_at (cI := cI) (cJ := cJ) ad j (hl j q h2)
    obtain ⟨c1, m1, rfl⟩ := m_W_inv h1
    obtain ⟨c2, m2, rfl⟩ := m_W_inv h2
    exact cpm_i i (hl i _ h1) j (hl j _ h2) (hD.1 _ _ _ _ k1 k2 e)
  · obtain ⟨e1, k1⟩ := cW_at (cI := cI) (cJ := cJ) ad k (hl k q hk)
    obtain ⟨c1, m1, rfl⟩ := m_W_inv hk
    have h := hD.2 _ _ k1
    exact h
end Cel
