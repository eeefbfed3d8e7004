/-! what holds between the two compilers -/
theorem LC.mono {pa : Nat → Int32} {m m' q q' i : Nat} {ht ht' rk rk' : Nat → Nat} {mk ar st pt : Int32} (h : LC pa m q ht rk i mk ar st pt) (hi : i < m) (hm : m ≤ m') (hq : q ≤ q') (h1 : ∀ j, j < m → ht' j = ht j) (h2 : rk' i = rk i) (h3 : ∀ j, j < m → rk' j ≤ rk j) : LC pa m' q' ht' rk' i mk ar st pt := by
  have e := h1 i hi
  rcases h with h | h | h | h | h | h | h | h | h | h | h | h | h | h | h | h
  · obtain ⟨a1, a2, a3, a4, a5⟩ := h
    exact Or.inl ⟨a1, a2, a3, by omega, by rw [h1 _ a4, e]; exact a5⟩
  · obtain ⟨a1, a2, a3, a6, a4, a5⟩ := h
    exact Or.inr (Or.inl ⟨a1, a2, a3, a6, by omega, by rw [h1 _ a4, e]; exact a5⟩)
  · obtain ⟨a1, a2, a3, a6, a4, a5⟩ := h
    exact Or.inr (Or.inr (Or.inl ⟨a1, a2, a3, a6, by omega, by rw [h1 _ a4, e]; exact a5⟩))
  · obtain ⟨a1, a2, a3, a4, a5, a6⟩ := h
    exact Or.inr (Or.inr (Or.inr (Or.inl ⟨a1, a2, a3, by omega, by rw [e]; exact a5, by rw [h1 _ a4, e]; exact a6⟩)))
  · obtain ⟨a1, a2, a3, a4, a5, a6⟩ := h
    exact Or.inr (Or.inr (Or.inr (Or.inr (Or.inl ⟨a1, a2, a3, by omega, by rw [e]; exact a5, by rw [h1 _ a4, e]; exact a6⟩))))
  · obtain ⟨a1, a2, a4, a5, a6⟩ := h
    exact Or.inr (Or.inr (Or.inr (Or.inr (Or.inr (Or.inl ⟨a1, a2, by omega, by rw [h1 _ a4, e]; exact a5, by rw [h1 _ a4]; exact a6⟩)))))
  · obtain ⟨a1, a2, a3, ⟨t, b1, b2, b3⟩, a4, a5⟩ := h
    exact Or.inr (Or.inr (Or.inr (Or.inr (Or.inr (Or.inr (Or.inl ⟨a1, a2, a3, ⟨t, by omega, b2, by rw [h1 _ b1, e]; exact b3⟩, by omega, by rw [h1 _ a4, e]; exact a5⟩))))))
  · obtain ⟨a1, a2, a3, ⟨t, b1, b2, b3⟩, a4, a5⟩ := h
    exact Or.inr (Or.inr (Or.inr (Or.inr (Or.inr (Or.inr (Or.inr (Or.inl ⟨a1, a2, a3, ⟨t, by omega, b2, by rw [h1 _ b1, e]; exact b3⟩, by omega, by rw [h1 _ a4, e]; exact a5⟩)))))))
  · obtain ⟨a1, a2, a4, a5, a6⟩ := h
    exact Or.inr (Or.inr (Or.inr (Or.inr (Or.inr (Or.inr (Or.inr (Or.inr (Or.inl ⟨a1, a2, by omega, by rw [e]; exact a5, by rw [h1 _ a4, e]; exact a6⟩))))))))
  · obtain ⟨a1, a2, a4, a5⟩ := h
    exact Or.inr (Or.inr (Or.inr (Or.inr (Or.inr (Or.inr (Or.inr (Or.inr (Or.inr (Or.inl ⟨a1, a2, by omega, by rw [h1 _ a4, e]; exact a5⟩)))))))))
  · obtain ⟨a1, a2, a3, ⟨f, P, b1, b2, b3, b4, b5⟩, a5, a6, a4⟩ := h
    exact Or.inr (Or.inr (Or.inr (Or.inr (Or.inr (Or.inr (Or.inr (Or.inr (Or.inr (Or.inr (Or.inl ⟨a1, a2, a3, ⟨f, P, by omega, b2, b3, b4, by rw [h1 _ a4, e]; exact b5⟩, by rw [h1 _ a4]; exact a5, by have := h3 _ a4; omega, by omega⟩))))))))))
  · obtain ⟨a1, a2, a3⟩ := h
    exact Or.inr (Or.inr (Or.inr (Or.inr (Or.inr (Or.inr (Or.inr (Or.inr (Or.inr (Or.inr (Or.inr (Or.inl ⟨a1, a2, by rw [e]; exact a3⟩)))))))))))
  · obtain ⟨a1, a2, a3, a4⟩ := h
    exact Or.inr (Or.inr (Or.inr (Or.inr (Or.inr (Or.inr (Or.inr (Or.inr (Or.inr (Or.inr (Or.inr (Or.inr (Or.inl ⟨a1, a2, by rw [e]; exact a3, by rw [h2]; exact a4⟩))))))))))))
  · obtain ⟨a1, a2, a4, a5⟩ := h
    exact Or.inr (Or.inr (Or.inr (Or.inr (Or.inr (Or.inr (Or.inr (Or.inr (Or.inr (Or.inr (Or.inr (Or.inr (Or.inr (Or.inl ⟨a1, a2, by omega, by rw [h1 _ a4, e]; exact a5⟩)))))))))))))
  · obtain ⟨a1, a2, a3, t, b1, b2, b3, b4⟩ := h
    exact Or.inr (Or.inr (Or.inr (Or.inr (Or.inr (Or.inr (Or.inr (Or.inr (Or.inr (Or.inr (Or.inr (Or.inr (Or.inr (Or.inr (Or.inl ⟨a1, a2, a3, t, by omega, b2, by rw [h1 _ b1, e]; exact b3, by have := h3 _ b1; omega⟩))))))))))))))
  · obtain ⟨a1, a2, a3, ⟨t, b1, b2, b3⟩, a4, a5⟩ := h
    exact Or.inr (Or.inr (Or.inr (Or.inr (Or.inr (Or.inr (Or.inr (Or.inr (Or.inr (Or.inr (Or.inr (Or.inr (Or.inr (Or.inr (Or.inr ⟨a1, a2, a3, ⟨t, by omega, b2, by rw [h1 _ b1, e]; exact b3⟩, by omega, by rw [h1 _ a4, e]; exact a5⟩))))))))))))))
/-- the tokens of t are those of g -/
def ST (t g : mG) : Prop := g.1 8 = t.1 8 ∧ g.1 9 = t.1 9 ∧ g.2.1 8 = t.2.1 8 ∧ g.2.1 12 = t.2.1 12 ∧ g.2.1 13 = t.2.1 13 ∧ g.2.1 14 = t.2.1 14 ∧ g.2.1 15 = t.2.1 15
def TR (t g gm : mG) (N s : Nat) : Prop := N ≤ 600 ∧ Cut t N s ∧ t.1 9 = nI N ∧ ST t g ∧ gm.1 25 = nI N ∧ gm.2.1 32 = t.2.1 8
/-- the reference's token -/
def PM (t gm : mG) (a : Nat) : Prop := gm.1 26 = kd (t.2.1 12 a) ∧ gm.1 27 = nI (tp t a) ∧ gm.1 28 = nI (tq t (a + 1)) ∧ (t.2.1 12 a = 3 → gm.1 29 = t.2.1 15 a)
def NT (t g gm : mG) (s a p l v : Nat) : Prop := (∀ i, i < v → ∃ x, x ≤ s ∧ g.2.1 a i = nI x ∧ gm.2.1 p i = nI (tp t x) ∧ gm.2.1 l i = nI (tl t x)) ∧ ∀ i j, i < j → j < v → ¬ SN t (cl (g.2.1 a i)) (cl (g.2.1 a j))
def NV (t g gm : mG) (s v q : Nat) : Prop := v ≤ 8 ∧ q ≤ 8 ∧ g.1 7 = nI v ∧ gm.1 36 = nI v ∧ g.1 13 = nI q ∧ gm.1 35 = nI q ∧ NT t g gm s 10 40 41 v ∧ NT t g gm s 9 36 37 q ∧ ∀ i, i < v → ∃ b, b ≤ 1 ∧ g.2.1 11 i = nI b ∧ gm.2.1 42 i = nI (b + 1)
/-- the code so far; ho are the jumps that have no aim yet -/
def CG (g gm : mG) (m q : Nat) (ht rk : Nat → Nat) (ho : Nat → Prop) : Prop := g.1 12 = nI m ∧ gm.1 37 = nI m ∧ m ≤ 600 ∧
  (∀ f, f < q → gm.2.1 38 f = g.2.1 19 f ∧ gm.2.1 39 f = g.2.1 20 f ∧ ∃ e P, g.2.1 19 f = nI e ∧ g.2.1 20 f = nI P ∧ e ≤ m ∧ P ≤ 3 ∧ ht e = 0) ∧
  ∀ i, i < m → ¬ ho i → LC (g.2.1 20) (m + 1) q ht rk i (g.2.1 17 i) (g.2.1 18 i) (gm.2.1 43 i) (gm.2.1 44 i)
def RR (t g gm : mG) (N s a D v q m : Nat) (ht rk : Nat → Nat) (ho : Nat → Prop) : Prop := TR t g gm N s ∧ a ≤ s ∧ g.1 5 = nI a ∧ PM t gm a ∧ gm.1 30 = -1 ∧ gm.1 34 = nI D ∧ NV t g gm s v q ∧ CG g gm m q ht rk ho
def SK (gm : mG) (h k y : Nat) : Prop := gm.1 31 = nI h ∧ gm.1 32 = nI k ∧ gm.1 33 = nI y
def FR (gm gm' : mG) (h k y : Nat) : Prop := (∀ i, i < h → gm'.2.1 33 i = gm.2.1 33 i) ∧ (∀ i, i < k → gm'.2.1 34 i = gm.2.1 34 i) ∧ ∀ i, i < y → gm'.2.1 35 i = gm.2.1 35 i
def AG (g gm g' gm' : mG) (m : Nat) : Prop := ∀ i, i < m → g'.2.1 17 i = g.2.1 17 i ∧ g'.2.1 18 i = g.2.1 18 i ∧ gm'.2.1 43 i = gm.2.1 43 i ∧ gm'.2.1 44 i = gm.2.1 44 i
theorem FR.tr {a b c : mG} {h k y h' k' y' : Nat} (h1 : FR a b h k y) (h2 : FR b c h' k' y') (e1 : h ≤ h') (e2 : k ≤ k') (e3 : y ≤ y') : FR a c h k y := ⟨fun i hi => (h2.1 i (by omega)).trans (h1.1 i hi), fun i hi => (h2.2.1 i (by omega)).trans (h1.2.1 i hi), fun i hi => (h2.2.2 i (by omega)).trans (h1.2.2 i hi)⟩
theorem FR.of {a b : mG} {h k y : Nat} (h1 : b.2.1 33 = a.2.1 33) (h2 : b.2.1 34 = a.2.1 34) (h3 : b.2.1 35 = a.2.1 35) : FR a b h k y := ⟨fun i _ => by rw [h1], fun i _ => by rw [h2], fun i _ => by rw [h3]⟩
theorem AG.tr {g gm g1 gm1 g2 gm2 : mG} {m m' : Nat} (h1 : AG g gm g1 gm1 m) (h2 : AG g1 gm1 g2 gm2 m') (e : m ≤ m') : AG g gm g2 gm2 m := fun i hi => by
  obtain ⟨a1, a2, a3, a4⟩ := h1 i hi
  obtain ⟨b1, b2, b3, b4⟩ := h2 i (by omega)
  exact ⟨b1.trans a1, b2.trans a2, b3.trans a3, b4.trans a4⟩
theorem AG.of {g gm g' gm' : mG} {m : Nat} (h1 : g'.2.1 17 = g.2.1 17) (h2 : g'.2.1 18 = g.2.1 18) (h3 : gm'.2.1 43 = gm.2.1 43) (h4 : gm'.2.1 44 = gm.2.1 44) : AG g gm g' gm' m := fun i _ => ⟨by rw [h1], by rw [h2], by rw [h3], by rw [h4]⟩
theorem CG.lc {g gm : mG} {m q : Nat} {ht rk rk' : Nat → Nat} {ho : Nat → Prop} (h : CG g gm m q ht rk ho) (h1 : ∀ i, i < m → rk' i = rk i) (h2 : rk' m ≤ rk m) : CG g gm m q ht rk' ho := by
  obtain ⟨a1, a2, a3, a4, a5⟩ := h
  refine ⟨a1, a2, a3, a4, fun i hi hh => (a5 i hi hh).mono (by omega) (Nat.le_refl _) (Nat.le_refl _) (fun _ _ => rfl) (h1 i hi) (fun j hj => ?_)⟩
  by_cases hz : j = m
  · subst hz; exact h2
  · rw [h1 j (by omega)]; exact Nat.le_refl _
section Rel
variable {n N s a D v q m : Nat} {t g gm : mG} {ht rk : Nat → Nat} {ho : Nat → Prop}
theorem ST.e (h : ST t g) : tp g = tp t ∧ tq g = tq t ∧ tl g = tl t ∧ SN g = SN t := by
  obtain ⟨_, _, h8, _, h13, h14, _⟩ := h
  have e1 : tp g = tp t := by funext i; unfold tp; rw [h13]
  have e2 : tq g = tq t := by
    funext i
    cases i with
    | zero => rfl
    | succ i => show cl (g.2.1 14 i) = cl (t.2.1 14 i); rw [h14]
  have e3 : tl g = tl t := by funext i; unfold tl; rw [e1, e2]
  refine ⟨e1, e2, e3, ?_⟩
  funext i j
  unfold SN
  rw [e3, e1, h8]
theorem ST.cut (h : ST t g) (hC : Cut t N s) : Cut g N s := by
  obtain ⟨e1, e2, _, _⟩ := h.e
  obtain ⟨h1, h2, h8, h12, h13, h14, h15⟩ := h
  unfold Cut Tk at *
  rw [e1, e2, h1, h8, h12, h13, h14, h15]
  exact hC
theorem TR.kp {g' gm' : mG} (h : TR t g gm N s) (h1 : Chg CS CA g g') (h2 : Chg MS MA gm gm') : TR t g' gm' N s := by
  obtain ⟨a1, a2, a3, ⟨b1, b2, b3, b4, b5, b6, b7⟩, a5, a6⟩ := h
  exact ⟨a1, a2, a3, ⟨by rw [h1.1 8 (by simp), b1], by rw [h1.1 9 (by simp), b2], by rw [h1.2.1 8 (by simp), b3], by rw [h1.2.1 12 (by simp), b4], by rw [h1.2.1 13 (by simp), b5], by rw [h1.2.1 14 (by simp), b6], by rw [h1.2.1 15 (by simp), b7]⟩, by rw [h2.1 25 (by simp), a5], by rw [h2.2.1 32 (by simp), a6]⟩
theorem TR.s6 (h : TR t g gm N s) : s ≤ 600 := h.2.1.1
theorem TR.tp (h : TR t g gm N s) {i : Nat} (hi : i ≤ s) : tp t i ≤ 600 := by
  obtain ⟨a1, a2, _⟩ := h
  have := a2.tok hi
  omega
theorem c73 (h : TR t g gm N s) (ha : a ≤ s) : f73 n (nI a) g = some (.inl (some (.int (t.2.1 12 a))), g) := by
  have hs := h.s6
  obtain ⟨a1, a2, a3, ⟨b1, b2, b3, b4, b5, b6, b7⟩, a5, a6⟩ := h
  unfold f73
  rw [if_neg (nI_pos (by omega)), b1, a2.2.1, if_neg (nI_ge (by omega) (by omega)), if_neg (nI_in (by omega) (by decide)), nI_clamp (by omega), b4]
theorem c1 (h : TR t g gm N s) (ha : a ≤ s) (h5 : g.1 5 = nI a) : f1 n g = some (.inl (some (.int (t.2.1 12 a))), g) := by
  unfold f1
  rw [h5, c73 h ha, m_ci_s]
theorem c3 (h : TR t g gm N s) (ha : a ≤ s) : f3 n (nI a) g = some (.inr 0, gI g 6 (nI (tp t a))) := by
  have hs := h.s6
  obtain ⟨a1, a2, a3, ⟨b1, b2, b3, b4, b5, b6, b7⟩, a5, a6⟩ := h
  have := a2.tok ha
  unfold f3 f74
  rw [if_neg (nI_pos (by omega)), b1, a2.2.1, if_neg (nI_ge (by omega) (by omega)), if_neg (nI_in (by omega) (by decide)), nI_clamp (by omega), b5, this.2.2.1, m_ci_s]
/-- the reference goes on to the next token -/
theorem m_adv (hn : 700 ≤ n) (h : TR t g gm N s) (ha : a < s) (h28 : gm.1 28 = nI (tq t (a + 1))) : ∃ gm', f92 n gm = some (.inl none, gm') ∧ PM t gm' (a + 1) ∧ Chg [26, 27, 28, 29] [] gm gm' := by
  obtain ⟨a1, a2, a3, a4, a5, a6⟩ := h
  have T := (a2.tok (i := a + 1) (by omega)).2.2.2.2
  rw [← a6] at T
  obtain ⟨gm', e1, e2, e3, e4, e5, e6⟩ := m92 (n := n) (g := gm) hn a5 a1 h28 T
  exact ⟨gm', e1, ⟨e2, e3, e4, e5⟩, e6⟩
theorem kd_iff {x c : Int32} (h0 : c ≠ 0) (h1 : c ≠ 35) (h2 : c ≠ -1) : kd x = c ↔ x = c + 1 := by
  unfold kd
  by_cases hx : x = 0
  · rw [if_pos hx]
    exact ⟨fun z => absurd z.symm h0, fun z => absurd (show c = -1 by rw [hx] at z; rw [show c = c + 1 - 1 by rw [Int32.add_sub_cancel], ← z]; rfl) h2⟩
  · rw [if_neg hx]
    by_cases hx1 : x = 1
    · rw [if_pos hx1]
      exact ⟨fun z => absurd z.symm h1, fun z => absurd (show c = 0 by rw [hx1] at z; rw [show c = c + 1 - 1 by rw [Int32.add_sub_cancel], ← z]; rfl) h0⟩
    · rw [if_neg hx1]
      exact ⟨fun z => by rw [← z, Int32.sub_add_cancel], fun z => by rw [z, Int32.add_sub_cancel]⟩
theorem kd_0 {x : Int32} : kd x = 0 ↔ x = 0 := by
  unfold kd
  by_cases hx : x = 0
  · rw [if_pos hx]; exact ⟨fun _ => hx, fun _ => rfl⟩
  · rw [if_neg hx]
    by_cases hx1 : x = 1
    · rw [if_pos hx1]; exact ⟨fun z => absurd z (by decide), fun z => absurd z hx⟩
    · rw [if_neg hx1]
      exact ⟨fun z => absurd (show x = 1 by rw [show x = x - 1 + 1 by rw [Int32.sub_add_cancel], z]; rfl) hx1, fun z => absurd z hx⟩
/-- a token that is no end -/
theorem TR.lt (h : TR t g gm N s) {c : Int32} (ha : a ≤ s) (hm : t.2.1 12 a = c) (h0 : c ≠ 0) (h1 : c ≠ 1) : a < s := by
  rcases Nat.lt_or_ge a s with z | z
  · exact z
  · have : a = s := by omega
    subst this
    rcases h.2.1.2.2.2.2.1 with z | z
    · exact absurd (hm.symm.trans z) h0
    · exact absurd (hm.symm.trans z) h1
end Rel
