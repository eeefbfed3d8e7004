/-! entering and leaving functions -/
section Calls
variable {n : Nat} {g : mG}
theorem c155_10 {b : Nat} {w : Int32} (hb : b ≤ 96) : ∀ (d i c : Nat) (g : mG), i + d = b → d < c → ∃ g', f155_10 n c (nI b) w (nI i) g = some (.inl none, g') ∧ g'.2.1 26 = (fun x => if i ≤ x ∧ x < b then w else g.2.1 26 x) ∧ Chg [] [26] g g' := by
  intro d
  induction d with
  | zero =>
    intro i c g hi hc
    obtain ⟨c, rfl⟩ : ∃ z, c = z + 1 := ⟨c - 1, by omega⟩
    rw [f155_10, if_pos (nI_le (by omega) (by omega))]
    refine ⟨g, rfl, ?_, Chg.rf g⟩
    funext x
    rw [if_neg (by omega)]
  | succ d ih =>
    intro i c g hi hc
    obtain ⟨c, rfl⟩ : ∃ z, c = z + 1 := ⟨c - 1, by omega⟩
    rw [f155_10, if_neg (nI_ge (by omega) (by omega)), if_neg (nI_in (by omega) (by decide)), nI_clamp (by omega), nI_1]
    obtain ⟨g', e1, e2, e3⟩ := ih (i + 1) c (gS g 26 (upd (g.2.1 26) i w)) (by omega) (by omega)
    refine ⟨g', e1, ?_, (Chg.s 26 _ (by simp)).tr e3⟩
    rw [e2]
    funext x
    simp only [rS, if_true]
    unfold upd
    by_cases h1 : x = i
    · subst h1
      rw [if_neg (by omega), if_pos rfl, if_pos (by omega)]
    · rw [if_neg h1]
      by_cases h2 : i + 1 ≤ x ∧ x < b
      · rw [if_pos h2, if_pos (by omega)]
      · rw [if_neg h2, if_neg (by omega)]
theorem c155 {a : Nat} (hn : 20 ≤ n) (ha : a + 8 ≤ 96) : ∃ g', f155 n (nI a) (nI (a + 8)) 0 g = some (.inl none, g') ∧ g'.2.1 26 = (fun x => if a ≤ x ∧ x < a + 8 then 0 else g.2.1 26 x) ∧ Chg [] [26] g g' := by
  unfold f155 f156
  rw [if_pos (nI_le (by omega) (by omega)), if_pos (nI_pos' (by omega)), if_pos (show nI (a + 8) ≤ (96 : Int32) from nI_le (b := 96) (by omega) (by decide))]
  exact c155_10 (by omega) 8 a n g (by omega) (by omega)
theorem c36 {q f : Nat} (h : g.1 21 = nI q) (hf : f < q) (hq : q ≤ 8) : f36_5 n (nI f) g = some (.inl (some (.int 1)), g) := by
  unfold f36_5
  simp only [h]
  rw [if_neg (nI_pos (by omega)), if_neg (nI_ge hf (by omega))]
theorem c35 {q f : Nat} (h : g.1 21 = nI q) (hf : f < q) (hq : q ≤ 8) : f35_5 n (nI f) g = some (.inl (some (.int (g.2.1 24 f))), g) := by
  unfold f35_5
  rw [c36 h hf hq]
  simp only [m_ci]
  rw [if_neg (by decide), if_neg (nI_in (by omega) (by decide)), nI_clamp (by omega)]
theorem c39 {q f : Nat} (h : g.1 21 = nI q) (hf : f < q) (hq : q ≤ 8) : f39_5 n (nI f) g = some (.inl (some (.int (g.2.1 23 f))), g) := by
  unfold f39_5
  rw [c36 h hf hq]
  simp only [m_ci]
  rw [if_neg (by decide), if_neg (nI_in (by omega) (by decide)), nI_clamp (by omega)]
/-- the variables of a function that is entered: parameters from the stack, then 0 -/
def entP (va st : Nat → Int32) (k t P : Nat) : Nat → Int32 := fun x => if 8 * k ≤ x ∧ x < 8 * k + P then st (t + (x - 8 * k)) else va x
theorem c45_72 {q f k t : Nat} {e : Int32} (hf : f < q) (hq : q ≤ 8) (hk : k < 12) (ht : t + 8 ≤ 1080) : ∀ (j c : Nat) (g : mG), g.1 21 = nI q → g.2.1 23 f = e → g.1 15 = nI (k + 1) → g.1 14 = nI (t + j) → j ≤ 8 → j < c →
    ∃ g', f45_72 n c (nI f) (nI j + (-1)) g = some (.inl none, g') ∧ g'.1 14 = nI t ∧ g'.1 16 = e ∧ g'.2.1 26 = entP (g.2.1 26) (g.2.1 25) k t j ∧ Chg [14, 16] [26] g g' := by
  intro j
  induction j with
  | zero =>
    intro c g h1 h2 h3 h4 h5 h6
    obtain ⟨c, rfl⟩ : ∃ z, c = z + 1 := ⟨c - 1, by omega⟩
    rw [f45_72, if_pos (by decide), c39 h1 hf hq, h2]
    refine ⟨_, rfl, by simp [rI, h4], by simp [rI], ?_, Chg.i 16 _ (by simp)⟩
    funext x
    simp only [rI2, entP]
    rw [if_neg (by omega)]
  | succ j ih =>
    intro c g h1 h2 h3 h4 h5 h6
    obtain ⟨c, rfl⟩ : ∃ z, c = z + 1 := ⟨c - 1, by omega⟩
    rw [f45_72, pk_m1, if_neg (nI_pos (by omega)), c46 (t := t + j) h4 (by omega)]
    simp only [m_ci]
    rw [c47 (k := k) (by simp [rI, h3]) hk (by omega)]
    simp only [m_cv]
    obtain ⟨g', e1, e2, e3, e4, e5⟩ := ih c (gS (gI g 14 (nI (t + j))) 26 (upd (g.2.1 26) (8 * k + j) (g.2.1 25 (t + j)))) (by simp [rS1, rI, h1]) (by simp [rS, rI2, h2]) (by simp [rS1, rI, h3]) (by simp [rS1, rI]) (by omega) (by omega)
    refine ⟨g', e1, e2, e3, ?_, ((Chg.i 14 _ (by simp)).tr (Chg.s 26 _ (by simp))).tr e5⟩
    have s1 : ∀ F, (gS (gI g 14 (nI (t + j))) 26 F).2.1 26 = F := fun F => by simp [rS]
    have s2 : ∀ F, (gS (gI g 14 (nI (t + j))) 26 F).2.1 25 = g.2.1 25 := fun F => by simp [rS, rI2]
    rw [e4, s1, s2]
    funext x
    simp only [entP, rI2]
    unfold upd
    by_cases hx : x = 8 * k + j
    · subst hx
      rw [if_neg (by omega), if_pos rfl, if_pos (by omega), Nat.add_sub_cancel_left]
    · rw [if_neg hx]
      by_cases hy : 8 * k ≤ x ∧ x < 8 * k + j
      · rw [if_pos hy, if_pos (by omega)]
      · rw [if_neg hy, if_neg (by omega)]
/-- a frame made clean -/
def entZ (va : Nat → Int32) (k : Nat) : Nat → Int32 := fun x => if 8 * k ≤ x ∧ x < 8 * k + 8 then 0 else va x
theorem c45 {q f k t P p : Nat} {e : Int32} (hn : 20 ≤ n) (h21 : g.1 21 = nI q) (hf : f < q) (hq : q ≤ 8) (hk : k < 12) (h15 : g.1 15 = nI k) (h16 : g.1 16 = nI p) (hP : g.2.1 24 f = nI P) (hP3 : P ≤ 3) (he : g.2.1 23 f = e) (ht : t + 8 ≤ 1080) (h14 : g.1 14 = nI (t + P)) :
    ∃ g', f45 n (nI f) g = some (.inl none, g') ∧ g'.1 14 = nI t ∧ g'.1 15 = nI (k + 1) ∧ g'.1 16 = e ∧ g'.2.1 27 = upd (g.2.1 27) k (nI p) ∧ g'.2.1 26 = entP (entZ (g.2.1 26) k) (g.2.1 25) k t P ∧ Chg [14, 15, 16] [26, 27] g g' := by
  unfold f45
  rw [h15, if_pos (show nI k < (12 : Int32) from nI_lt (a := k) (b := 12) hk (by decide)), if_neg (nI_in hk (by decide)), nI_clamp (by omega), h16, nI_1, nI_pred]
  have e8 : nI k * 8 = nI (8 * k) := by rw [show (8 : Int32) = nI 8 from rfl, pk_mul, Nat.mul_comm]
  have e9 : nI (8 * k) + 8 = nI (8 * k + 8) := nI_add (8 * k) 8
  rw [e8, e9]
  obtain ⟨g1, a1, a2, a3⟩ := c155 (n := n) (g := gI (gS g 27 (upd (g.2.1 27) k (nI p))) 15 (nI (k + 1))) (a := 8 * k) hn (by omega)
  have b21 : g1.1 21 = nI q := by rw [a3.1 21 (by simp)]; simp [rI, rS1, h21]
  have b24 : g1.2.1 24 f = nI P := by rw [a3.2.1 24 (by simp)]; simp [rI2, rS, hP]
  have b23 : g1.2.1 23 f = e := by rw [a3.2.1 23 (by simp)]; simp [rI2, rS, he]
  have b15 : g1.1 15 = nI (k + 1) := by rw [a3.1 15 (by simp)]; simp [rI]
  have b14 : g1.1 14 = nI (t + P) := by rw [a3.1 14 (by simp)]; simp [rI, rS1, h14]
  obtain ⟨g2, c1, c2, c3, c4, c5⟩ := c45_72 (n := n) (e := e) hf hq hk ht P n g1 b21 b23 b15 b14 (by omega) (by omega)
  refine ⟨g2, ?_, c2, ?_, c3, ?_, ?_, ?_⟩
  · rw [a1]
    simp only [m_cv]
    rw [c35 b21 hf hq, b24]
    simp only [m_ci]
    rw [Int32.sub_eq_add_neg]
    exact c1
  · rw [c5.1 15 (by simp), b15]
  · rw [c5.2.1 27 (by simp), a3.2.1 27 (by simp)]; simp [rI2, rS]
  · rw [c4, a2, a3.2.1 25 (by simp)]
    simp only [rI2, rS]
    rfl
  · exact ((Chg.s 27 _ (by simp)).tr (Chg.i 15 _ (by simp))).tr ((a3.mono (by simp) (by simp)).tr (c5.mono (by simp) (by simp)))
theorem m141_48 {f k t : Nat} {e : Int32} (hf : f < 8) (hk : k < 12) (ht : t + 8 ≤ 1080) : ∀ (j c : Nat) (g : mG), g.2.1 45 f = e → g.1 42 = nI k → g.1 41 = nI (t + j) → j ≤ 8 → j < c →
    ∃ g', f141_48 n c (nI f) (nI j + (-1)) g = some (.inl (some (.int e)), g') ∧ g'.1 41 = nI t ∧ g'.1 42 = nI (k + 1) ∧ g'.2.1 55 = entP (g.2.1 55) (g.2.1 53) k t j ∧ Chg [41, 42] [55] g g' := by
  intro j
  induction j with
  | zero =>
    intro c g h2 h3 h4 h5 h6
    obtain ⟨c, rfl⟩ : ∃ z, c = z + 1 := ⟨c - 1, by omega⟩
    rw [f141_48, if_pos (by decide), if_neg (nI_in (by omega) (by decide)), nI_clamp (by omega), h2, h3, nI_1]
    refine ⟨_, rfl, by simp [rI, h4], by simp [rI], ?_, Chg.i 42 _ (by simp)⟩
    funext x
    simp only [rI2, entP]
    rw [if_neg (by omega)]
  | succ j ih =>
    intro c g h2 h3 h4 h5 h6
    obtain ⟨c, rfl⟩ : ∃ z, c = z + 1 := ⟨c - 1, by omega⟩
    rw [f141_48, pk_m1, if_neg (nI_pos (by omega)), m142 (t := t + j) h4 (by omega)]
    simp only [m_ci]
    rw [h3, slot_m2, if_neg (nI_in (by omega) (by decide)), nI_clamp (by omega)]
    obtain ⟨g', e1, e2, e3, e4, e5⟩ := ih c (gS (gI g 41 (nI (t + j))) 55 (upd ((gI g 41 (nI (t + j))).2.1 55) (8 * k + j) (g.2.1 53 (t + j)))) (by simp [rS, rI2, h2]) (by simp [rS1, rI, h3]) (by simp [rS1, rI]) (by omega) (by omega)
    refine ⟨g', e1, e2, e3, ?_, ((Chg.i 41 _ (by simp)).tr (Chg.s 55 _ (by simp))).tr e5⟩
    have s1 : ∀ F, (gS (gI g 41 (nI (t + j))) 55 F).2.1 55 = F := fun F => by simp [rS]
    have s2 : ∀ F, (gS (gI g 41 (nI (t + j))) 55 F).2.1 53 = g.2.1 53 := fun F => by simp [rS, rI2]
    rw [e4, s1, s2]
    funext x
    simp only [entP, rI2]
    unfold upd
    by_cases hx : x = 8 * k + j
    · subst hx
      rw [if_neg (by omega), if_pos rfl, if_pos (by omega), Nat.add_sub_cancel_left]
    · rw [if_neg hx]
      by_cases hy : 8 * k ≤ x ∧ x < 8 * k + j
      · rw [if_pos hy, if_pos (by omega)]
      · rw [if_neg hy, if_neg (by omega)]
theorem m141_12 {f k : Nat} (hf : f < 8) (hk : k < 12) : ∀ (d i c : Nat) (g : mG), i + d = 8 → d < c → g.1 42 = nI k → ∃ g', f141_12 n c (nI f) (nI i) g = f141_48 n n (nI f) (g.2.1 46 f - 1) g' ∧ g'.2.1 55 = (fun x => if 8 * k + i ≤ x ∧ x < 8 * k + 8 then 0 else g.2.1 55 x) ∧ Chg [] [55] g g' := by
  intro d
  induction d with
  | zero =>
    intro i c g hi hc h3
    obtain ⟨c, rfl⟩ : ∃ z, c = z + 1 := ⟨c - 1, by omega⟩
    rw [f141_12, if_pos (show (8 : Int32) ≤ nI i from nI_le (a := 8) (b := i) (by omega) (by omega)), if_neg (nI_in (by omega) (by decide)), nI_clamp (by omega)]
    refine ⟨g, rfl, ?_, Chg.rf g⟩
    funext x
    rw [if_neg (by omega)]
  | succ d ih =>
    intro i c g hi hc h3
    obtain ⟨c, rfl⟩ : ∃ z, c = z + 1 := ⟨c - 1, by omega⟩
    rw [f141_12, if_neg (show ¬ (8 : Int32) ≤ nI i from nI_ge (a := i) (b := 8) (by omega) (by decide)), h3, slot_m2, if_neg (nI_in (by omega) (by decide)), nI_clamp (by omega), nI_1]
    obtain ⟨g', e1, e2, e3⟩ := ih (i + 1) c (gS g 55 (upd (g.2.1 55) (8 * k + i) 0)) (by omega) (by omega) (by rw [rS1]; exact h3)
    refine ⟨g', ?_, ?_, (Chg.s 55 _ (by simp)).tr e3⟩
    · rw [e1]; simp [rS]
    · rw [e2]
      funext x
      simp only [rS, if_true]
      unfold upd
      by_cases h1 : x = 8 * k + i
      · subst h1
        rw [if_neg (by omega), if_pos rfl, if_pos (by omega)]
      · rw [if_neg h1]
        by_cases h2 : 8 * k + (i + 1) ≤ x ∧ x < 8 * k + 8
        · rw [if_pos h2, if_pos (by omega)]
        · rw [if_neg h2, if_neg (by omega)]
theorem m141 {f k t P : Nat} {e w : Int32} (hn : 20 ≤ n) (hf : f < 8) (hk : k < 12) (h42 : g.1 42 = nI k) (hP : g.2.1 46 f = nI P) (hP3 : P ≤ 3) (he : g.2.1 45 f = e) (ht : t + 8 ≤ 1080) (h41 : g.1 41 = nI (t + P)) :
    ∃ g', f141 n (nI f) w g = some (.inl (some (.int e)), g') ∧ g'.1 41 = nI t ∧ g'.1 42 = nI (k + 1) ∧ g'.2.1 54 = upd (g.2.1 54) k w ∧ g'.2.1 55 = entP (entZ (g.2.1 55) k) (g.2.1 53) k t P ∧ Chg [41, 42] [54, 55] g g' := by
  unfold f141
  rw [h42, if_neg (nI_in (by omega) (by decide)), nI_clamp (by omega)]
  obtain ⟨g1, a1, a2, a3⟩ := m141_12 (n := n) hf hk 8 0 n (gS g 54 (upd (g.2.1 54) k w)) (by omega) (by omega) (by rw [rS1]; exact h42)
  have b46 : (gS g 54 (upd (g.2.1 54) k w)).2.1 46 f = nI P := by simp [rS, hP]
  have b45 : g1.2.1 45 f = e := by rw [a3.2.1 45 (by simp)]; simp [rS, he]
  have b42 : g1.1 42 = nI k := by rw [a3.1 42 (by simp), rS1, h42]
  have b41 : g1.1 41 = nI (t + P) := by rw [a3.1 41 (by simp), rS1, h41]
  obtain ⟨g2, c1, c2, c3, c4, c5⟩ := m141_48 (n := n) (e := e) hf hk ht P n g1 b45 b42 b41 (by omega) (by omega)
  refine ⟨g2, ?_, c2, c3, ?_, ?_, ?_⟩
  · show f141_12 n n (nI f) (nI 0) _ = _
    rw [a1, b46, Int32.sub_eq_add_neg]
    exact c1
  · rw [c5.2.1 54 (by simp), a3.2.1 54 (by simp)]; simp [rS]
  · rw [c4, a2, a3.2.1 53 (by simp)]
    simp only [rS]
    rfl
  · exact (Chg.s 54 _ (by simp)).tr ((a3.mono (by simp) (by simp)).tr (c5.mono (by simp) (by simp)))
end Calls
