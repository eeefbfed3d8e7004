/-! a transaction: class and reference -/
def arg3 (a b c : Int32) (i : Nat) : Int32 := if i = 0 then a else if i = 1 then b else c
section Pre
variable {n : Nat} {g : mG} {a b c : Int32}
theorem c43 {P : Nat} (hP : P ≤ 3) (h : g.1 14 = nI 0) : ∃ g', f43 n (nI P) a b c g = some (.inl none, g') ∧ g'.1 14 = nI P ∧ (∀ i, i < P → g'.2.1 25 i = arg3 a b c i) ∧ Chg [14] [25] g g' := by
  have h3 : P = 0 ∨ P = 1 ∨ P = 2 ∨ P = 3 := by omega
  have e1 := c44 (n := n) (v := a) h (by omega)
  have e2 := c44 (n := n) (g := gI (gS g 25 (upd (g.2.1 25) 0 a)) 14 (nI (0 + 1))) (t := 1) (v := b) (by simp [rI]) (by omega)
  have e3 := c44 (n := n) (g := gI (gS (gI (gS g 25 (upd (g.2.1 25) 0 a)) 14 (nI (0 + 1))) 25 (upd ((gI (gS g 25 (upd (g.2.1 25) 0 a)) 14 (nI (0 + 1))).2.1 25) 1 b)) 14 (nI (1 + 1))) (t := 2) (v := c) (by simp [rI]) (by omega)
  have k1 : Chg [14] [25] g (gI (gS g 25 (upd (g.2.1 25) 0 a)) 14 (nI (0 + 1))) := (Chg.s 25 _ (by simp)).tr (Chg.i 14 _ (by simp))
  unfold f43 f43_9 f43_19
  rcases h3 with rfl | rfl | rfl | rfl
  · simp (decide := true) only [reduceIte]
    exact ⟨g, rfl, h, fun i hi => by omega, Chg.rf g⟩
  · simp (decide := true) only [reduceIte, e1, m_cv]
    refine ⟨_, rfl, by simp [rI], fun i hi => ?_, k1⟩
    have : i = 0 := by omega
    subst this
    simp [rI2, rS, upd, arg3]
  · simp (decide := true) only [reduceIte, e1, e2, m_cv]
    refine ⟨_, rfl, by simp [rI], fun i hi => ?_, (k1.tr (Chg.s 25 _ (by simp))).tr (Chg.i 14 _ (by simp))⟩
    have : i = 0 ∨ i = 1 := by omega
    rcases this with rfl | rfl <;> simp [rI2, rS, upd, arg3]
  · simp (decide := true) only [reduceIte, e1, e2, e3, m_cv]
    refine ⟨_, rfl, by simp [rI], fun i hi => ?_, (((k1.tr (Chg.s 25 _ (by simp))).tr (Chg.i 14 _ (by simp))).tr (Chg.s 25 _ (by simp))).tr (Chg.i 14 _ (by simp))⟩
    have : i = 0 ∨ i = 1 ∨ i = 2 := by omega
    rcases this with rfl | rfl | rfl <;> simp [rI2, rS, upd, arg3]
theorem m162 {P f : Nat} {gas : Int32} (hn : 10 ≤ n) (hP : P ≤ 3) (hf : f < 8) (h46 : g.2.1 46 f = nI P) (h : g.1 41 = nI 0) : ∃ g', f139_162 n n (nI f) gas a b c 0 g = m_ci (f141 n (nI f) (-1) g') (fun v g18 => f139_213 n n gas v g18) ∧ g'.1 41 = nI P ∧ (∀ i, i < P → g'.2.1 53 i = arg3 a b c i) ∧ Chg [41] [53] g g' := by
  have h3 : P = 0 ∨ P = 1 ∨ P = 2 ∨ P = 3 := by omega
  obtain ⟨d, hd⟩ : ∃ d, n = d + 4 := ⟨n - 4, by omega⟩
  have st : ∀ (i c' : Nat) (g : mG), g.2.1 46 f = nI P → i < P → g.1 41 = nI i → f139_162 n (c' + 1) (nI f) gas a b c (nI i) g = f139_162 n c' (nI f) gas a b c (nI (i + 1)) (gI (gS g 53 (upd (g.2.1 53) i (arg3 a b c i))) 41 (nI (i + 1))) := by
    intro i c' g h46 hi h41
    rw [f139_162, if_neg (nI_in (by omega) (by decide)), nI_clamp (by omega), h46, if_neg (nI_ge hi (by omega)), nI_1]
    have hi3 : i = 0 ∨ i = 1 ∨ i = 2 := by omega
    rcases hi3 with rfl | rfl | rfl
    · rw [if_neg (show ¬ ¬ nI 0 = 0 from fun z => z rfl), m140 h41 (by omega)]; rfl
    · rw [if_pos (show ¬ nI 1 = 0 by decide), if_neg (show ¬ ¬ nI 1 = 1 from fun z => z rfl), m140 h41 (by omega)]; rfl
    · rw [if_pos (show ¬ nI 2 = 0 by decide), if_pos (show ¬ nI 2 = 1 by decide), m140 h41 (by omega)]; rfl
  have fin : ∀ (c' : Nat) (g : mG), g.2.1 46 f = nI P → f139_162 n (c' + 1) (nI f) gas a b c (nI P) g = m_ci (f141 n (nI f) (-1) g) (fun v g18 => f139_213 n n gas v g18) := by
    intro c' g h46
    rw [f139_162, if_neg (nI_in (by omega) (by decide)), nI_clamp (by omega), h46, if_pos (nI_le (by omega) (by omega))]
  have e0 : f139_162 n n (nI f) gas a b c 0 g = f139_162 n (d + 3 + 1) (nI f) gas a b c (nI 0) g := by rw [show d + 3 + 1 = n by omega]; rfl
  rw [e0]
  have k1 : Chg [41] [53] g (gI (gS g 53 (upd (g.2.1 53) 0 (arg3 a b c 0))) 41 (nI (0 + 1))) := (Chg.s 53 _ (by simp)).tr (Chg.i 41 _ (by simp))
  rcases h3 with rfl | rfl | rfl | rfl
  · exact ⟨g, fin _ g h46, h, fun i hi => by omega, Chg.rf g⟩
  · refine ⟨_, by rw [st 0 (d + 3) g h46 (by omega) h, show d + 3 = d + 2 + 1 from rfl]; exact fin _ _ (by simp [rI2, rS, h46]), by simp [rI], fun i hi => ?_, k1⟩
    have : i = 0 := by omega
    subst this
    simp [rI2, rS, upd]
  · refine ⟨_, by rw [st 0 (d + 3) g h46 (by omega) h, show d + 3 = d + 2 + 1 from rfl, st 1 (d + 2) _ (by simp [rI2, rS, h46]) (by omega) (by simp [rI]), show d + 2 = d + 1 + 1 from rfl]; exact fin _ _ (by simp [rI2, rS, h46]), by simp [rI], fun i hi => ?_, (k1.tr (Chg.s 53 _ (by simp))).tr (Chg.i 41 _ (by simp))⟩
    have : i = 0 ∨ i = 1 := by omega
    rcases this with rfl | rfl <;> simp [rI2, rS, upd]
  · refine ⟨_, by rw [st 0 (d + 3) g h46 (by omega) h, show d + 3 = d + 2 + 1 from rfl, st 1 (d + 2) _ (by simp [rI2, rS, h46]) (by omega) (by simp [rI]), show d + 2 = d + 1 + 1 from rfl, st 2 (d + 1) _ (by simp [rI2, rS, h46]) (by omega) (by simp [rI])]; exact fin _ _ (by simp [rI2, rS, h46]), by simp [rI], fun i hi => ?_, (((k1.tr (Chg.s 53 _ (by simp))).tr (Chg.i 41 _ (by simp))).tr (Chg.s 53 _ (by simp))).tr (Chg.i 41 _ (by simp))⟩
    have : i = 0 ∨ i = 1 ∨ i = 2 := by omega
    rcases this with rfl | rfl | rfl <;> simp [rI2, rS, upd]
/-- the reference's copy of its store -/
theorem m101 {s : Nat} {f gas : Int32} (hs : s ≤ 32) : ∀ (d i c' : Nat) (g : mG), i + d = s → d < c' → g.1 39 = nI s → ∃ g', f139_101 n c' f gas a b c (nI i) g = f139_162 n n f gas a b c 0 (gC (gI (gI g' 41 0) 42 0) 0) ∧ (∀ j, i ≤ j → j < s → g'.2.1 51 j = g.2.1 49 j ∧ g'.2.1 52 j = g.2.1 50 j) ∧ (∀ j, j < i → g'.2.1 51 j = g.2.1 51 j ∧ g'.2.1 52 j = g.2.1 52 j) ∧ Chg [] [51, 52] g g' := by
  intro d
  induction d with
  | zero =>
    intro i c' g hi hc h
    obtain ⟨c', rfl⟩ : ∃ z, c' = z + 1 := ⟨c' - 1, by omega⟩
    rw [f139_101, h, if_pos (nI_le (by omega) (by omega))]
    exact ⟨g, rfl, fun j h1 h2 => by omega, fun j _ => ⟨rfl, rfl⟩, Chg.rf g⟩
  | succ d ih =>
    intro i c' g hi hc h
    obtain ⟨c', rfl⟩ : ∃ z, c' = z + 1 := ⟨c' - 1, by omega⟩
    rw [f139_101, h, if_neg (nI_ge (by omega) (by omega)), if_neg (nI_in (by omega) (by decide)), if_neg (nI_in (by omega) (by decide)), if_neg (nI_in (by omega) (by decide)), if_neg (nI_in (by omega) (by decide)), nI_clamp (by omega), nI_1]
    obtain ⟨g', e1, e2, e3, e4⟩ := ih (i + 1) c' (gS (gS g 51 (upd (g.2.1 51) i (g.2.1 49 i))) 52 (upd (g.2.1 52) i (g.2.1 50 i))) (by omega) (by omega) (by simp [rS1, h])
    refine ⟨g', e1, fun j h1 h2 => ?_, fun j h1 => ?_, ((Chg.s 51 _ (by simp)).tr (Chg.s 52 _ (by simp))).tr e4⟩
    · by_cases hj : j = i
      · subst hj
        have := e3 j (by omega)
        rw [this.1, this.2]
        simp [rS, upd]
      · have := e2 j (by omega) h2
        rw [this.1, this.2]
        simp [rS]
    · have := e3 j (by omega)
      rw [this.1, this.2]
      simp only [rS]
      simp (decide := true) only [reduceIte]
      unfold upd
      rw [if_neg (by omega), if_neg (by omega)]
      exact ⟨rfl, rfl⟩
/-- the reference's way back -/
theorem m328 {s : Nat} {x8 : Int32} (hs : s ≤ 32) : ∀ (d i c' : Nat) (g : mG), i + d = s → d < c' → g.1 39 = nI s → ∃ g', f139_328 n c' x8 (nI i) g = some (.inl (some (.int (-1 - x8))), g') ∧ g'.2.1 49 = (fun j => if i ≤ j ∧ j < s then g.2.1 51 j else g.2.1 49 j) ∧ g'.2.1 50 = (fun j => if i ≤ j ∧ j < s then g.2.1 52 j else g.2.1 50 j) ∧ Chg [] [49, 50] g g' := by
  intro d
  induction d with
  | zero =>
    intro i c' g hi hc h
    obtain ⟨c', rfl⟩ : ∃ z, c' = z + 1 := ⟨c' - 1, by omega⟩
    rw [f139_328, h, if_pos (nI_le (by omega) (by omega))]
    refine ⟨g, rfl, ?_, ?_, Chg.rf g⟩ <;> (funext j; rw [if_neg (by omega)])
  | succ d ih =>
    intro i c' g hi hc h
    obtain ⟨c', rfl⟩ : ∃ z, c' = z + 1 := ⟨c' - 1, by omega⟩
    rw [f139_328, h, if_neg (nI_ge (by omega) (by omega)), if_neg (nI_in (by omega) (by decide)), if_neg (nI_in (by omega) (by decide)), if_neg (nI_in (by omega) (by decide)), if_neg (nI_in (by omega) (by decide)), nI_clamp (by omega), nI_1]
    obtain ⟨g', e1, e2, e3, e4⟩ := ih (i + 1) c' (gS (gS g 49 (upd (g.2.1 49) i (g.2.1 51 i))) 50 (upd (g.2.1 50) i (g.2.1 52 i))) (by omega) (by omega) (by simp [rS1, h])
    refine ⟨g', e1, ?_, ?_, ((Chg.s 49 _ (by simp)).tr (Chg.s 50 _ (by simp))).tr e4⟩
    · rw [e2]
      funext j
      simp only [rS]
      simp (decide := true) only [reduceIte]
      unfold upd
      by_cases hj : j = i
      · subst hj; rw [if_neg (by omega), if_pos rfl, if_pos (by omega)]
      · rw [if_neg hj]
        by_cases h9 : i + 1 ≤ j ∧ j < s
        · rw [if_pos h9, if_pos (by omega)]
        · rw [if_neg h9, if_neg (by omega)]
    · rw [e3]
      funext j
      simp only [rS]
      simp (decide := true) only [reduceIte]
      unfold upd
      by_cases hj : j = i
      · subst hj; rw [if_neg (by omega), if_pos rfl, if_pos (by omega)]
      · rw [if_neg hj]
        by_cases h9 : i + 1 ≤ j ∧ j < s
        · rw [if_pos h9, if_pos (by omega)]
        · rw [if_neg h9, if_neg (by omega)]
/-- the class's copy and way back -/
theorem c58 {s : Nat} (h : g.1 22 = nI s) (hs : s ≤ 32) : ∃ g', f58 n g = some (.inl none, g') ∧ g'.1 23 = nI s ∧ (∀ j, j < s → g'.2.1 30 j = g.2.1 28 j ∧ g'.2.1 31 j = g.2.1 29 j) ∧ Chg [23] [30, 31] g g' := by
  unfold f58
  have e0 : Int32.toNatClampNeg (0 : Int32) = 0 := by decide
  have hc : ¬ (0 : Int32) < 0 ∧ ¬ (0 : Int32) < 0 ∧ ¬ nI s < 0 ∧ 0 + s ≤ 32 ∧ 0 + s ≤ 32 := ⟨by decide, by decide, nI_pos (by omega), by omega, by omega⟩
  rw [h, e0, nI_clamp (by omega), if_pos hc, if_pos hc]
  refine ⟨_, rfl, by simp [rI], fun j hj => ?_, ((Chg.s 30 _ (by simp)).tr (Chg.s 31 _ (by simp))).tr (Chg.i 23 _ (by simp))⟩
  simp only [rI2, rS]
  simp (decide := true) only [reduceIte]
  unfold va_cpy
  rw [if_pos (by omega), if_pos (by omega)]
  simp
theorem c60 {s : Nat} (h : g.1 23 = nI s) (hs : s ≤ 32) : ∃ g', f60 n g = some (.inl none, g') ∧ g'.1 22 = nI s ∧ g'.2.1 28 = (fun j => if j < s then g.2.1 30 j else g.2.1 28 j) ∧ g'.2.1 29 = (fun j => if j < s then g.2.1 31 j else g.2.1 29 j) ∧ Chg [22] [28, 29] g g' := by
  unfold f60
  have e0 : Int32.toNatClampNeg (0 : Int32) = 0 := by decide
  have hc : ¬ (0 : Int32) < 0 ∧ ¬ (0 : Int32) < 0 ∧ ¬ nI s < 0 ∧ 0 + s ≤ 32 ∧ 0 + s ≤ 32 := ⟨by decide, by decide, nI_pos (by omega), by omega, by omega⟩
  rw [h, e0, nI_clamp (by omega), if_pos hc, if_pos hc]
  have ev : ∀ K V : Nat → Int32, va_cpy K V 0 0 s = fun j => if j < s then K j else V j := by
    intro K V
    funext j
    unfold va_cpy
    by_cases hj : j < s
    · rw [if_pos (by omega), if_pos hj]; simp
    · rw [if_neg (by omega), if_neg hj]
  refine ⟨_, rfl, by simp [rI], by simp [rI2, rS, ev], by simp [rI2, rS, ev], ((Chg.s 28 _ (by simp)).tr (Chg.s 29 _ (by simp))).tr (Chg.i 22 _ (by simp))⟩
end Pre
