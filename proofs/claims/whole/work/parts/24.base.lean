/-! L3: class and reference answer alike; tools -/
theorem nb (a b : Nat) : Nat.beq a b = (a == b) := by
  rw [Bool.eq_iff_iff, Nat.beq_eq, beq_iff_eq]
theorem rI (g : mG) (i : Nat) (v : Int32) (j : Nat) : (gI g i v).1 j = if j = i then v else g.1 j := by
  simp [gI, nb]
theorem rI2 (g : mG) (i : Nat) (v : Int32) : (gI g i v).2 = g.2 := rfl
theorem rS (g : mG) (a : Nat) (f : Nat → Int32) (b : Nat) : (gS g a f).2.1 b = if b = a then f else g.2.1 b := by
  simp [gS, nb]
theorem rS1 (g : mG) (a : Nat) (f : Nat → Int32) : (gS g a f).1 = g.1 := rfl
theorem rS2 (g : mG) (a : Nat) (f : Nat → Int32) : (gS g a f).2.2 = g.2.2 := rfl
theorem rO (g : mG) (f : Nat → Int64) : (gO g f).1 = g.1 ∧ (gO g f).2.1 = g.2.1 ∧ (gO g f).2.2.1 = g.2.2.1 ∧ (gO g f).2.2.2 = f := ⟨rfl, rfl, rfl, rfl⟩
/-- what is changed at most: scalars, arrays -/
def Chg (S A : List Nat) (g g' : mG) : Prop := (∀ i, i ∉ S → g'.1 i = g.1 i) ∧ (∀ a, a ∉ A → g'.2.1 a = g.2.1 a) ∧ g'.2.2 = g.2.2
theorem Chg.rf {S A : List Nat} (g : mG) : Chg S A g g := ⟨fun _ _ => rfl, fun _ _ => rfl, rfl⟩
theorem Chg.tr {S A : List Nat} {a b c : mG} (h : Chg S A a b) (k : Chg S A b c) : Chg S A a c := ⟨fun i hi => (k.1 i hi).trans (h.1 i hi), fun i hi => (k.2.1 i hi).trans (h.2.1 i hi), k.2.2.trans h.2.2⟩
theorem Chg.mono {S A S' A' : List Nat} {a b : mG} (h : Chg S A a b) (h1 : ∀ i ∈ S, i ∈ S') (h2 : ∀ i ∈ A, i ∈ A') : Chg S' A' a b := ⟨fun i hi => h.1 i (fun z => hi (h1 i z)), fun i hi => h.2.1 i (fun z => hi (h2 i z)), h.2.2⟩
theorem Chg.i {S A : List Nat} {g : mG} (i : Nat) (v : Int32) (h : i ∈ S) : Chg S A g (gI g i v) := ⟨fun j hj => by rw [rI, if_neg (fun e => hj (by rw [e]; exact h))], fun _ _ => rfl, rfl⟩
theorem Chg.s {S A : List Nat} {g : mG} (a : Nat) (f : Nat → Int32) (h : a ∈ A) : Chg S A g (gS g a f) := ⟨fun _ _ => rfl, fun j hj => by rw [rS, if_neg (fun e => hj (by rw [e]; exact h))], rfl⟩
def cnt (b : Int32) : Nat := if b = 0 then 0 else 1
def bt (x k : Int32) : Int32 := (x >>> (k &&& 31)) &&& 255
theorem bt_nI (x k : Int32) : ∃ j, j < 256 ∧ bt x k = nI j := by
  obtain ⟨j, h1, h2⟩ := pk_andE (x >>> (k &&& 31)) (m := 255) 8 (by decide)
  exact ⟨j, h1, h2⟩
theorem bt_le (x k : Int32) : bt x k ≤ 0 ↔ bt x k = 0 := by
  obtain ⟨j, h1, h2⟩ := bt_nI x k
  rw [h2]
  rw [show (0 : Int32) = nI 0 from rfl, nI_leI (by omega) (by omega), nI_eq (by omega) (by omega)]
  omega
theorem bt_128 (x k : Int32) : (128 : Int32) ≤ bt x k ↔ ¬ bt x k ≤ 127 := by
  obtain ⟨j, h1, h2⟩ := bt_nI x k
  rw [h2]
  rw [show (128 : Int32) = nI 128 from rfl, show (127 : Int32) = nI 127 from rfl, nI_leI (by omega) (by omega), nI_leI (by omega) (by omega)]
  omega
/-- a text with one sign more -/
def ad1 (b : Int32) (q : (Nat → Int32) × Nat) : (Nat → Int32) × Nat := if b = 0 then q else (upd q.1 q.2 b, q.2 + 1)
theorem ad1_2 (b : Int32) (q : (Nat → Int32) × Nat) : (ad1 b q).2 = q.2 + cnt b := by
  unfold ad1 cnt
  by_cases h : b = 0 <;> simp [h]
/-! put -/
theorem c80_s {n c m k : Nat} {x : Int32} {g : mG} (hk : k < 4) : f80_4 n (c + 1) x (nI m) (nI (8 * k)) g = if bt x (nI (8 * k)) ≤ 127 then f80_4 n c x (nI (m + cnt (bt x (nI (8 * k))))) (nI (8 * (k + 1))) g else some (.inr 1, g) := by
  have h1 : ¬ (32 : Int32) ≤ nI (8 * k) := nI_ge (a := 8 * k) (b := 32) (by omega) (by decide)
  have h2 : nI (8 * k) + 8 = nI (8 * (k + 1)) := nI_add (8 * k) 8
  rw [f80_4, if_neg h1, h2]
  show (if bt x (nI (8 * k)) ≤ 127 then _ else _) = _
  by_cases h3 : bt x (nI (8 * k)) ≤ 127
  · rw [if_pos h3, if_pos h3]
    show (if bt x (nI (8 * k)) = 0 then _ else _) = _
    by_cases h4 : bt x (nI (8 * k)) = 0
    · rw [if_pos h4]; simp [cnt, h4]
    · rw [if_neg h4]
      have h5 : cnt (bt x (nI (8 * k))) = 1 := by simp [cnt, h4]
      rw [h5, ← nI_1]
  · rw [if_neg h3, if_neg h3]
theorem c80_e {n c m : Nat} {x : Int32} {g : mG} : f80_4 n (c + 1) x (nI m) (nI 32) g = if (g.1 0) + nI m ≤ 600 then f80_74 n n x 0 g else some (.inr 2, g) := by
  rw [f80_4, if_pos (show (32 : Int32) ≤ nI 32 by decide)]
theorem m87_s {n c m k : Nat} {x w : Int32} {g : mG} (hk : k < 4) (hw : w = 0 ∨ w = 1) : f87_7 n (c + 1) x (nI m) w (nI k) g = f87_7 n c x (nI (m + cnt (bt x (nI (8 * k))))) (if w = 0 ∨ ¬ bt x (nI (8 * k)) ≤ 127 then 0 else 1) (nI (k + 1)) g := by
  have h1 : ¬ (4 : Int32) ≤ nI k := nI_ge (a := k) (b := 4) (by omega) (by decide)
  have h0 : (8 : Int32) * nI k = nI (8 * k) := pk_mul 8 k
  have h2 : nI k + 1 = nI (k + 1) := nI_1 k
  have hb : ∀ y : Int32, ((x >>> (nI (8 * k) &&& 31)) &&& 255) = bt x (nI (8 * k)) := fun _ => rfl
  rw [f87_7, if_neg h1, h0, h2, hb 0]
  simp only [bt_le, bt_128]
  rcases hw with rfl | rfl
  · rw [if_pos rfl, if_pos (Or.inl rfl)]
    by_cases h4 : bt x (nI (8 * k)) = 0
    · simp [cnt, h4]
    · simp [cnt, h4, nI_1]
  · rw [if_neg (by decide)]
    by_cases h3 : bt x (nI (8 * k)) ≤ 127
    · by_cases h4 : bt x (nI (8 * k)) = 0
      · simp [cnt, h4]
      · simp [cnt, h4, h3, nI_1]
    · by_cases h4 : bt x (nI (8 * k)) = 0
      · exact absurd (by rw [h4]; decide) h3
      · simp [cnt, h4, h3, nI_1]
theorem m87_e {n c m : Nat} {x w : Int32} {g : mG} : f87_7 n (c + 1) x (nI m) w (nI 4) g = f87_73 n x (nI m) (if w = 0 then 1 else 0) g := by
  rw [f87_7, if_pos (show (4 : Int32) ≤ nI 4 by decide)]
  by_cases h : w = 0 <;> simp [h]
theorem c81 {n N : Nat} {b : Int32} {g : mG} (hN : g.1 0 = nI N) (h : N + cnt b ≤ 600) : ∃ g', f81 n b g = some (.inl none, g') ∧ g'.1 0 = nI (ad1 b (g.2.1 8, N)).2 ∧ g'.2.1 8 = (ad1 b (g.2.1 8, N)).1 ∧ Chg [0] [8] g g' := by
  unfold f81
  by_cases h0 : b = 0
  · rw [if_pos h0]
    exact ⟨g, rfl, by simp [ad1, h0, hN], by simp [ad1, h0], Chg.rf g⟩
  · have h1 : cnt b = 1 := by simp [cnt, h0]
    rw [if_neg h0, hN, if_neg (show ¬ (600 : Int32) ≤ nI N from nI_ge (a := N) (b := 600) (by omega) (by decide)), if_neg (nI_in (by omega) (by omega)), nI_clamp (by omega), nI_1]
    refine ⟨_, rfl, ?_, ?_, (Chg.s 8 _ (by simp)).tr (Chg.i 0 _ (by simp))⟩
    · simp [rI, ad1, h0]
    · simp [rI2, rS, ad1, h0]
theorem c80_t {n c N k : Nat} {x : Int32} {g : mG} (hk : k < 4) (hN : g.1 0 = nI N) (h : N + cnt (bt x (nI (8 * k))) ≤ 600) : ∃ g', f80_74 n (c + 1) x (nI (8 * k)) g = f80_74 n c x (nI (8 * (k + 1))) g' ∧ g'.1 0 = nI (ad1 (bt x (nI (8 * k))) (g.2.1 8, N)).2 ∧ g'.2.1 8 = (ad1 (bt x (nI (8 * k))) (g.2.1 8, N)).1 ∧ Chg [0] [8] g g' := by
  obtain ⟨g', e1, e2, e3, e4⟩ := c81 (n := n) hN h
  refine ⟨g', ?_, e2, e3, e4⟩
  have h1 : ¬ (32 : Int32) ≤ nI (8 * k) := nI_ge (a := 8 * k) (b := 32) (by omega) (by decide)
  have h2 : nI (8 * k) + 8 = nI (8 * (k + 1)) := nI_add (8 * k) 8
  rw [f80_74, if_neg h1, h2]
  show m_cv (f81 n (bt x (nI (8 * k))) g) _ = _
  rw [e1]
  rfl
theorem m87_t {n c N k : Nat} {x : Int32} {g : mG} (hk : k < 4) (hN : g.1 25 = nI N) (h : N + cnt (bt x (nI (8 * k))) ≤ 600) : ∃ g', f87_102 n (c + 1) x (nI k) g = f87_102 n c x (nI (k + 1)) g' ∧ g'.1 25 = nI (ad1 (bt x (nI (8 * k))) (g.2.1 32, N)).2 ∧ g'.2.1 32 = (ad1 (bt x (nI (8 * k))) (g.2.1 32, N)).1 ∧ Chg [25] [32] g g' := by
  have h1 : ¬ (4 : Int32) ≤ nI k := nI_ge (a := k) (b := 4) (by omega) (by decide)
  have h0 : (8 : Int32) * nI k = nI (8 * k) := pk_mul 8 k
  have hb : ((x >>> (nI (8 * k) &&& 31)) &&& 255) = bt x (nI (8 * k)) := rfl
  rw [f87_102, if_neg h1, h0, nI_1, hb]
  simp only [bt_le]
  by_cases h4 : bt x (nI (8 * k)) = 0
  · rw [if_pos h4]
    exact ⟨g, rfl, by simp [ad1, h4, hN], by simp [ad1, h4], Chg.rf g⟩
  · have h5 : cnt (bt x (nI (8 * k))) = 1 := by simp [cnt, h4]
    rw [if_neg h4, hN, if_neg (nI_in (by omega) (by omega)), nI_clamp (by omega), nI_1]
    refine ⟨_, rfl, ?_, ?_, (Chg.s 32 _ (by simp)).tr (Chg.i 25 _ (by simp))⟩
    · simp [rI, ad1, h4]
    · simp [rI2, rS, ad1, h4]

/-! the invariant between calls -/
/-- text, store, results -/
def JT (g : mG) (N : Nat) : Prop := g.1 0 = nI N ∧ g.1 25 = nI N ∧ N ≤ 600 ∧ g.2.1 8 = g.2.1 32
def JS (g : mG) (s : Nat) : Prop := g.1 22 = nI s ∧ g.1 39 = nI s ∧ s ≤ 32 ∧ g.2.1 28 = g.2.1 49 ∧ g.2.1 29 = g.2.1 50 ∧ ∀ i j, i < s → j < s → g.2.1 28 i = g.2.1 28 j → i = j
def JR (g : mG) : Prop := g.1 2 = g.1 43 ∧ g.1 3 = g.1 44 ∧ g.1 4 = g.1 45
theorem JT.kp {g g' : mG} {N : Nat} (h : JT g N) (h1 : g'.1 0 = g.1 0) (h2 : g'.1 25 = g.1 25) (h3 : g'.2.1 8 = g.2.1 8) (h4 : g'.2.1 32 = g.2.1 32) : JT g' N := by
  unfold JT; rw [h1, h2, h3, h4]; exact h
theorem JS.kp {g g' : mG} {s : Nat} (h : JS g s) (h1 : g'.1 22 = g.1 22) (h2 : g'.1 39 = g.1 39) (h3 : g'.2.1 28 = g.2.1 28) (h4 : g'.2.1 29 = g.2.1 29) (h5 : g'.2.1 49 = g.2.1 49) (h6 : g'.2.1 50 = g.2.1 50) : JS g' s := by
  unfold JS; rw [h1, h2, h3, h4, h5, h6]; exact h
theorem JR.kp {g g' : mG} (h : JR g) (h1 : g'.1 2 = g.1 2) (h2 : g'.1 43 = g.1 43) (h3 : g'.1 3 = g.1 3) (h4 : g'.1 44 = g.1 44) (h5 : g'.1 4 = g.1 4) (h6 : g'.1 45 = g.1 45) : JR g' := by
  unfold JR; rw [h1, h2, h3, h4, h5, h6]; exact h
