/-! the two stack machines: what each piece does -/
theorem lg_le {a b : Nat} (ha : a < 2 ^ 31) (hb : b < 2 ^ 31) : lg_cmp (lN a) (lN b) ≤ 0 ↔ a ≤ b := by
  unfold lg_cmp
  by_cases h1 : lN a > lN b
  · rw [if_pos h1]
    have := (lN_lt hb ha).mp h1
    constructor
    · intro z; exact absurd z (by decide)
    · intro z; omega
  · rw [if_neg h1]
    have h2 : ¬ b < a := fun z => h1 ((lN_lt hb ha).mpr z)
    by_cases h3 : lN a = lN b
    · rw [if_pos h3]; exact ⟨fun _ => by omega, fun _ => by decide⟩
    · rw [if_neg h3]; exact ⟨fun _ => by omega, fun _ => by decide⟩
theorem nI_in2 {a N : Nat} (h : a < N) (hN : N < 2 ^ 31) : ¬ (nI a < 0 ∨ N ≤ a) := by
  rintro (z | z)
  · exact nI_pos (by omega) z
  · omega
section Ops
variable {n : Nat} {g : mG}
theorem c44 {t : Nat} {v : Int32} (h : g.1 14 = nI t) (ht : t < 1080) : f44 n v g = some (.inl none, gI (gS g 25 (upd (g.2.1 25) t v)) 14 (nI (t + 1))) := by
  unfold f44
  rw [h, if_neg (show ¬ (1080 : Int32) ≤ nI t from nI_ge (a := t) (b := 1080) ht (by decide)), if_neg (nI_in ht (by decide)), nI_clamp (by omega), nI_1]
theorem c46 {t : Nat} (h : g.1 14 = nI (t + 1)) (ht : t < 1080) : f46 n g = some (.inl (some (.int (g.2.1 25 t))), gI g 14 (nI t)) := by
  unfold f46
  rw [h, if_pos (show 0 < nI (t + 1) from nI_lt (a := 0) (by omega) (by omega)), nI_pred, if_neg (nI_in ht (by decide)), nI_clamp (by omega)]
theorem m140 {t : Nat} {v : Int32} (h : g.1 41 = nI t) (ht : t < 3000) : f140 n v g = some (.inl none, gI (gS g 53 (upd (g.2.1 53) t v)) 41 (nI (t + 1))) := by
  unfold f140
  rw [h, if_neg (nI_in ht (by decide)), nI_clamp (by omega), nI_1]
theorem m142 {t : Nat} (h : g.1 41 = nI (t + 1)) (ht : t < 3000) : f142 n g = some (.inl (some (.int (g.2.1 53 t))), gI g 41 (nI t)) := by
  unfold f142
  rw [h, nI_pred, if_neg (nI_in ht (by decide)), nI_clamp (by omega)]
theorem slot_c (k v : Nat) : ((nI (k + 1) - 1) * 8 + nI v : Int32) = nI (8 * k + v) := by
  rw [nI_pred, show (8 : Int32) = nI 8 from rfl, pk_mul, nI_add, Nat.mul_comm]
theorem slot_m (k v : Nat) : ((8 : Int32) * (nI (k + 1) - 1) + nI v : Int32) = nI (8 * k + v) := by
  rw [nI_pred, show (8 : Int32) = nI 8 from rfl, pk_mul, nI_add]
theorem slot_m2 (k v : Nat) : ((8 : Int32) * nI k + nI v : Int32) = nI (8 * k + v) := by
  rw [show (8 : Int32) = nI 8 from rfl, pk_mul, nI_add]
theorem c47 {k v : Nat} {w : Int32} (h : g.1 15 = nI (k + 1)) (hk : k < 12) (hv : v < 8) : f47 n (nI v) w g = some (.inl none, gS g 26 (upd (g.2.1 26) (8 * k + v) w)) := by
  unfold f47
  rw [h, slot_c, if_neg (nI_pos (by omega)), if_neg (show ¬ (96 : Int32) ≤ nI (8 * k + v) from nI_ge (a := 8 * k + v) (b := 96) (by omega) (by decide)), if_neg (nI_in (by omega) (by decide)), nI_clamp (by omega)]
theorem c50 {k v : Nat} (h : g.1 15 = nI (k + 1)) (hk : k < 12) (hv : v < 8) : f50 n (nI v) g = some (.inl (some (.int (g.2.1 26 (8 * k + v)))), g) := by
  unfold f50
  rw [h, slot_c, if_neg (nI_pos (by omega)), if_neg (show ¬ (96 : Int32) ≤ nI (8 * k + v) from nI_ge (a := 8 * k + v) (b := 96) (by omega) (by decide)), if_neg (nI_in (by omega) (by decide)), nI_clamp (by omega)]
theorem c40 {m p : Nat} (h : g.1 20 = nI m) (hp : p < m) (hm : m ≤ 600) : f40_5 n (nI p) g = some (.inl (some (.int (g.2.1 21 p))), g) := by
  unfold f40_5
  rw [h, if_neg (nI_pos (by omega)), if_neg (nI_ge hp (by omega)), if_neg (nI_in (by omega) (by decide)), nI_clamp (by omega)]
theorem c41 {m p : Nat} (h : g.1 20 = nI m) (hp : p < m) (hm : m ≤ 600) : f41_5 n (nI p) g = some (.inl (some (.int (g.2.1 22 p))), g) := by
  unfold f41_5
  rw [h, if_neg (nI_pos (by omega)), if_neg (nI_ge hp (by omega)), if_neg (nI_in (by omega) (by decide)), nI_clamp (by omega)]
/-! the store -/
theorem c57_n {s : Nat} {key : Int32} (h : g.1 22 = nI s) (hs : s ≤ 32) : ∀ (d i c : Nat), i + d = s → d < c → (∀ j, i ≤ j → j < s → g.2.1 28 j ≠ key) → f57_2 n c key (nI i) g = some (.inl (some (.int (-1))), g) := by
  intro d
  induction d with
  | zero =>
    intro i c hi hc _
    obtain ⟨c, rfl⟩ : ∃ z, c = z + 1 := ⟨c - 1, by omega⟩
    rw [f57_2, h, if_pos (nI_le (by omega) (by omega))]
  | succ d ih =>
    intro i c hi hc hk
    obtain ⟨c, rfl⟩ : ∃ z, c = z + 1 := ⟨c - 1, by omega⟩
    rw [f57_2, h, if_neg (nI_ge (by omega) (by omega)), if_neg (nI_in (by omega) (by decide)), nI_clamp (by omega), if_pos (hk i (by omega) (by omega)), nI_1]
    exact ih (i + 1) c (by omega) (by omega) (fun j h1 h2 => hk j (by omega) h2)
theorem c57_s {s j : Nat} {key : Int32} (h : g.1 22 = nI s) (hs : s ≤ 32) (hj : j < s) (hk : g.2.1 28 j = key) : ∀ (d i c : Nat), i + d = j → d < c → (∀ z, i ≤ z → z < j → g.2.1 28 z ≠ key) → f57_2 n c key (nI i) g = some (.inl (some (.int (nI j))), g) := by
  intro d
  induction d with
  | zero =>
    intro i c hi hc _
    obtain ⟨c, rfl⟩ : ∃ z, c = z + 1 := ⟨c - 1, by omega⟩
    have : i = j := by omega
    subst this
    rw [f57_2, h, if_neg (nI_ge (by omega) (by omega)), if_neg (nI_in (by omega) (by decide)), nI_clamp (by omega), if_neg (fun z => z hk)]
  | succ d ih =>
    intro i c hi hc hz
    obtain ⟨c, rfl⟩ : ∃ z, c = z + 1 := ⟨c - 1, by omega⟩
    rw [f57_2, h, if_neg (nI_ge (by omega) (by omega)), if_neg (nI_in (by omega) (by decide)), nI_clamp (by omega), if_pos (hz i (by omega) (by omega)), nI_1]
    exact ih (i + 1) c (by omega) (by omega) (fun z h1 h2 => hz z (by omega) h2)
/-- keys apart -/
def Dst (K : Nat → Int32) (s : Nat) : Prop := ∀ i j, i < s → j < s → K i = K j → i = j
theorem c57n {s : Nat} {key : Int32} (hn : 40 ≤ n) (h : g.1 22 = nI s) (hs : s ≤ 32) (hk : ∀ j, j < s → g.2.1 28 j ≠ key) : f57 n key g = some (.inl (some (.int (-1))), g) :=
  c57_n h hs s 0 n (by omega) (by omega) (fun j _ h2 => hk j h2)
theorem c57s {s j : Nat} {key : Int32} (hn : 40 ≤ n) (h : g.1 22 = nI s) (hs : s ≤ 32) (hd : Dst (g.2.1 28) s) (hj : j < s) (hk : g.2.1 28 j = key) : f57 n key g = some (.inl (some (.int (nI j))), g) :=
  c57_s h hs hj hk j 0 n (by omega) (by omega) (fun z _ h2 e => by have := hd z j (by omega) hj (e.trans hk.symm); omega)
theorem nI_m1 {j : Nat} (h : j < 2 ^ 31) : ¬ nI j = -1 := fun e => by
  have := nI_pos h
  rw [e] at this
  exact this (by decide)
theorem c56n {s : Nat} {key : Int32} (hn : 40 ≤ n) (h : g.1 22 = nI s) (hs : s ≤ 32) (hk : ∀ j, j < s → g.2.1 28 j ≠ key) : f56 n key g = some (.inl (some (.int 0)), g) := by
  unfold f56
  rw [c57n hn h hs hk]
  rfl
theorem c56s {s j : Nat} {key : Int32} (hn : 40 ≤ n) (h : g.1 22 = nI s) (hs : s ≤ 32) (hd : Dst (g.2.1 28) s) (hj : j < s) (hk : g.2.1 28 j = key) : f56 n key g = some (.inl (some (.int (g.2.1 29 j))), g) := by
  unfold f56
  rw [c57s hn h hs hd hj hk]
  show (if ¬ nI j = -1 then _ else _) = _
  rw [if_pos (nI_m1 (by omega)), if_neg (nI_in (by omega) (by decide)), nI_clamp (by omega)]
theorem m137_n {s : Nat} {key x : Int32} (h : g.1 39 = nI s) (hs : s ≤ 32) : ∀ (d i c : Nat), i + d = s → d < c → (∀ j, i ≤ j → j < s → g.2.1 49 j ≠ key) → f137_9 n c key x (nI i) g = some (.inl (some (.int x)), g) := by
  intro d
  induction d with
  | zero =>
    intro i c hi hc _
    obtain ⟨c, rfl⟩ : ∃ z, c = z + 1 := ⟨c - 1, by omega⟩
    rw [f137_9, h, if_pos (nI_le (by omega) (by omega))]
  | succ d ih =>
    intro i c hi hc hk
    obtain ⟨c, rfl⟩ : ∃ z, c = z + 1 := ⟨c - 1, by omega⟩
    rw [f137_9, h, if_neg (nI_ge (by omega) (by omega)), if_neg (nI_in (by omega) (by decide)), nI_clamp (by omega), if_pos (hk i (by omega) (by omega)), nI_1]
    exact ih (i + 1) c (by omega) (by omega) (fun j h1 h2 => hk j (by omega) h2)
theorem m137_s {s j : Nat} {key x : Int32} (h : g.1 39 = nI s) (hs : s ≤ 32) (hd : Dst (g.2.1 49) s) (hj : j < s) (hk : g.2.1 49 j = key) : ∀ (d i c : Nat), i + d = j → s - i < c → f137_9 n c key x (nI i) g = some (.inl (some (.int (g.2.1 50 j))), g) := by
  intro d
  induction d with
  | zero =>
    intro i c hi hc
    obtain ⟨c, rfl⟩ : ∃ z, c = z + 1 := ⟨c - 1, by omega⟩
    have : i = j := by omega
    subst this
    rw [f137_9, h, if_neg (nI_ge (by omega) (by omega)), if_neg (nI_in (by omega) (by decide)), nI_clamp (by omega), if_neg (fun z => z hk), if_neg (nI_in2 (N := 32) (by omega) (by decide)), nI_1]
    exact m137_n h hs (s - (i + 1)) (i + 1) c (by omega) (by omega) (fun z h1 h2 e => by have := hd z i (by omega) hj (e.trans hk.symm); omega)
  | succ d ih =>
    intro i c hi hc
    obtain ⟨c, rfl⟩ : ∃ z, c = z + 1 := ⟨c - 1, by omega⟩
    rw [f137_9, h, if_neg (nI_ge (by omega) (by omega)), if_neg (nI_in (by omega) (by decide)), nI_clamp (by omega), if_pos (fun e => by have := hd i j (by omega) hj (e.trans hk.symm); omega), nI_1]
    exact ih (i + 1) c (by omega) (by omega)
theorem m137n {s : Nat} {key : Int32} (hn : 40 ≤ n) (h : g.1 39 = nI s) (hs : s ≤ 32) (hk : ∀ j, j < s → g.2.1 49 j ≠ key) : f137 n key g = some (.inl (some (.int 0)), gI g 24 0) :=
  m137_n (g := gI g 24 0) (by simp [rI, h]) hs s 0 n (by omega) (by omega) (fun j _ h2 => hk j h2)
theorem m137s {s j : Nat} {key : Int32} (hn : 40 ≤ n) (h : g.1 39 = nI s) (hs : s ≤ 32) (hd : Dst (g.2.1 49) s) (hj : j < s) (hk : g.2.1 49 j = key) : f137 n key g = some (.inl (some (.int (g.2.1 50 j))), gI g 24 0) :=
  m137_s (g := gI g 24 0) (by simp [rI, h]) hs hd hj hk j 0 n (by omega) (by omega)
/-- reading -/
def stv (K V : Nat → Int32) (s : Nat) (key v : Int32) : Prop := (∃ j, j < s ∧ K j = key ∧ v = V j) ∨ ((∀ j, j < s → K j ≠ key) ∧ v = 0)
theorem stv_ex (K V : Nat → Int32) (s : Nat) (key : Int32) : ∃ v, stv K V s key v := by
  by_cases h : ∃ j, j < s ∧ K j = key
  · obtain ⟨j, h1, h2⟩ := h
    exact ⟨V j, Or.inl ⟨j, h1, h2, rfl⟩⟩
  · exact ⟨0, Or.inr ⟨fun j h1 h2 => h ⟨j, h1, h2⟩, rfl⟩⟩
theorem c56 {s : Nat} {key v : Int32} (hn : 40 ≤ n) (h : g.1 22 = nI s) (hs : s ≤ 32) (hd : Dst (g.2.1 28) s) (hv : stv (g.2.1 28) (g.2.1 29) s key v) : f56 n key g = some (.inl (some (.int v)), g) := by
  rcases hv with ⟨j, h1, h2, rfl⟩ | ⟨h1, rfl⟩
  · exact c56s hn h hs hd h1 h2
  · exact c56n hn h hs h1
theorem m137 {s : Nat} {key v : Int32} (hn : 40 ≤ n) (h : g.1 39 = nI s) (hs : s ≤ 32) (hd : Dst (g.2.1 49) s) (hv : stv (g.2.1 49) (g.2.1 50) s key v) : f137 n key g = some (.inl (some (.int v)), gI g 24 0) := by
  rcases hv with ⟨j, h1, h2, rfl⟩ | ⟨h1, rfl⟩
  · exact m137s hn h hs hd h1 h2
  · exact m137n hn h hs h1
/-! writing -/
theorem m147_n {s : Nat} {key w x : Int32} (h : g.1 39 = nI s) (hs : s ≤ 32) : ∀ (d i c : Nat), i + d = s → d < c → (∀ j, i ≤ j → j < s → g.2.1 49 j ≠ key) → ∃ c', f147_8 n c key w x (nI i) g = f147_8 n (c' + 1) key w x (nI s) g := by
  intro d
  induction d with
  | zero =>
    intro i c hi hc _
    have : i = s := by omega
    subst this
    exact ⟨c - 1, by rw [Nat.sub_add_cancel (by omega)]⟩
  | succ d ih =>
    intro i c hi hc hk
    obtain ⟨c, rfl⟩ : ∃ z, c = z + 1 := ⟨c - 1, by omega⟩
    obtain ⟨c', e⟩ := ih (i + 1) c (by omega) (by omega) (fun j h1 h2 => hk j (by omega) h2)
    refine ⟨c', ?_⟩
    rw [← e, f147_8, h, if_neg (nI_ge (by omega) (by omega)), if_neg (nI_in (by omega) (by decide)), nI_clamp (by omega), if_pos (hk i (by omega) (by omega)), nI_1]
theorem m147_s {s j : Nat} {key w x : Int32} (h : g.1 39 = nI s) (hs : s ≤ 32) (hd : Dst (g.2.1 49) s) (hj : j < s) (hk : g.2.1 49 j = key) : ∀ (d i c : Nat), i + d = j → s - i < c → ∃ c', f147_8 n c key w x (nI i) g = f147_8 n (c' + 1) key w (nI j) (nI s) g := by
  intro d
  induction d with
  | zero =>
    intro i c hi hc
    obtain ⟨c, rfl⟩ : ∃ z, c = z + 1 := ⟨c - 1, by omega⟩
    have : i = j := by omega
    subst this
    obtain ⟨c', e⟩ := m147_n (n := n) (g := g) (key := key) (w := w) (x := nI i) h hs (s - (i + 1)) (i + 1) c (by omega) (by omega) (fun z h1 h2 e => by have := hd z i (by omega) hj (e.trans hk.symm); omega)
    refine ⟨c', ?_⟩
    rw [← e, f147_8, h, if_neg (nI_ge (by omega) (by omega)), if_neg (nI_in (by omega) (by decide)), nI_clamp (by omega), if_neg (fun z => z hk), nI_1]
  | succ d ih =>
    intro i c hi hc
    obtain ⟨c, rfl⟩ : ∃ z, c = z + 1 := ⟨c - 1, by omega⟩
    obtain ⟨c', e⟩ := ih (i + 1) c (by omega) (by omega)
    refine ⟨c', ?_⟩
    rw [← e, f147_8, h, if_neg (nI_ge (by omega) (by omega)), if_neg (nI_in (by omega) (by decide)), nI_clamp (by omega), if_pos (fun e => by have := hd i j (by omega) hj (e.trans hk.symm); omega), nI_1]
theorem upd_self {K : Nat → Int32} {j : Nat} {key : Int32} (h : K j = key) : upd K j key = K := by
  funext i
  unfold upd
  by_cases hi : i = j
  · rw [if_pos hi, hi, h]
  · rw [if_neg hi]
/-- what a write does: accepted or not, keys, values, size -/
def stw (K V : Nat → Int32) (s : Nat) (key w : Int32) (a : Int32) (K' V' : Nat → Int32) (s' : Nat) : Prop :=
  (∃ j, j < s ∧ K j = key ∧ w ≠ 0 ∧ a = 1 ∧ K' = K ∧ V' = upd V j w ∧ s' = s) ∨
  (∃ j, j < s ∧ K j = key ∧ w = 0 ∧ a = 1 ∧ K' = upd K j (K (s - 1)) ∧ V' = upd V j (V (s - 1)) ∧ s' = s - 1) ∨
  ((∀ j, j < s → K j ≠ key) ∧ w = 0 ∧ a = 1 ∧ K' = K ∧ V' = V ∧ s' = s) ∨
  ((∀ j, j < s → K j ≠ key) ∧ w ≠ 0 ∧ s < 32 ∧ a = 1 ∧ K' = upd K s key ∧ V' = upd V s w ∧ s' = s + 1) ∨
  ((∀ j, j < s → K j ≠ key) ∧ w ≠ 0 ∧ s = 32 ∧ a = 0 ∧ K' = K ∧ V' = V ∧ s' = s)
theorem stw_ex (K V : Nat → Int32) {s : Nat} (hs : s ≤ 32) (key w : Int32) : ∃ a K' V' s', stw K V s key w a K' V' s' := by
  by_cases h : ∃ j, j < s ∧ K j = key
  · obtain ⟨j, h1, h2⟩ := h
    by_cases hw : w = 0
    · exact ⟨_, _, _, _, Or.inr (Or.inl ⟨j, h1, h2, hw, rfl, rfl, rfl, rfl⟩)⟩
    · exact ⟨_, _, _, _, Or.inl ⟨j, h1, h2, hw, rfl, rfl, rfl, rfl⟩⟩
  · have h' : ∀ j, j < s → K j ≠ key := fun j h1 h2 => h ⟨j, h1, h2⟩
    by_cases hw : w = 0
    · exact ⟨_, _, _, _, Or.inr (Or.inr (Or.inl ⟨h', hw, rfl, rfl, rfl, rfl⟩))⟩
    · by_cases h3 : s < 32
      · exact ⟨_, _, _, _, Or.inr (Or.inr (Or.inr (Or.inl ⟨h', hw, h3, rfl, rfl, rfl, rfl⟩)))⟩
      · exact ⟨_, _, _, _, Or.inr (Or.inr (Or.inr (Or.inr ⟨h', hw, by omega, rfl, rfl, rfl, rfl⟩)))⟩
theorem stw_ok {K V K' V' : Nat → Int32} {s s' : Nat} {key w a : Int32} (h : stw K V s key w a K' V' s') (hs : s ≤ 32) (hd : Dst K s) : s' ≤ 32 ∧ Dst K' s' := by
  rcases h with ⟨j, h1, h2, h3, h4, rfl, h6, rfl⟩ | ⟨j, h1, h2, h3, h4, rfl, h6, rfl⟩ | ⟨h1, h2, h3, rfl, h5, rfl⟩ | ⟨h1, h2, h3, h4, rfl, h6, rfl⟩ | ⟨h1, h2, h3, h4, rfl, h6, rfl⟩
  · exact ⟨hs, hd⟩
  · refine ⟨by omega, fun a b ha hb e => ?_⟩
    unfold upd at e
    by_cases h7 : a = j
    · by_cases h8 : b = j
      · omega
      · rw [if_pos h7, if_neg h8] at e
        have := hd (s - 1) b (by omega) (by omega) e
        omega
    · by_cases h8 : b = j
      · rw [if_neg h7, if_pos h8] at e
        have := hd a (s - 1) (by omega) (by omega) e
        omega
      · rw [if_neg h7, if_neg h8] at e
        exact hd a b (by omega) (by omega) e
  · exact ⟨hs, hd⟩
  · refine ⟨by omega, fun a b ha hb e => ?_⟩
    unfold upd at e
    by_cases h7 : a = s
    · by_cases h8 : b = s
      · omega
      · rw [if_pos h7, if_neg h8] at e
        exact absurd e.symm (h1 b (by omega))
    · by_cases h8 : b = s
      · rw [if_neg h7, if_pos h8] at e
        exact absurd e (h1 a (by omega))
      · rw [if_neg h7, if_neg h8] at e
        exact hd a b (by omega) (by omega) e
  · exact ⟨hs, hd⟩
theorem c59 {s s' : Nat} {key w a : Int32} {K' V' : Nat → Int32} (hn : 40 ≤ n) (h : g.1 22 = nI s) (hs : s ≤ 32) (hd : Dst (g.2.1 28) s) (hw : stw (g.2.1 28) (g.2.1 29) s key w a K' V' s') :
    ∃ g', f59 n key w g = some (.inl (some (.int a)), g') ∧ g'.1 22 = nI s' ∧ g'.2.1 28 = K' ∧ g'.2.1 29 = V' ∧ Chg [22] [28, 29] g g' := by
  unfold f59
  rcases hw with ⟨j, h1, h2, h3, rfl, rfl, rfl, hse⟩ | ⟨j, h1, h2, h3, rfl, rfl, rfl, hse⟩ | ⟨h1, h3, rfl, rfl, rfl, hse⟩ | ⟨h1, h3, h4, rfl, rfl, rfl, hse⟩ | ⟨h1, h3, h4, rfl, rfl, rfl, hse⟩ <;> rw [hse] <;> clear hse
  · rw [c57s hn h hs hd h1 h2]
    simp only [m_ci]
    rw [if_neg (nI_m1 (by omega)), if_pos h3, if_neg (nI_in (by omega) (by decide)), nI_clamp (by omega)]
    exact ⟨_, rfl, h, by simp [rS], by simp [rS], Chg.s 29 _ (by simp)⟩
  · rw [c57s hn h hs hd h1 h2]
    obtain ⟨z, rfl⟩ : ∃ z, s = z + 1 := ⟨s - 1, by omega⟩
    simp only [m_ci, h, nI_pred]
    rw [if_neg (nI_m1 (by omega)), if_neg (fun e => e h3), if_neg (nI_in (by omega) (by decide)), if_neg (nI_in (by omega) (by decide)), if_neg (nI_in (by omega) (by decide)), if_neg (nI_in (by omega) (by decide)), nI_clamp (by omega), nI_clamp (by omega)]
    exact ⟨_, rfl, by simp [rS1, rI], by simp [rS], by simp [rS], ((Chg.i 22 _ (by simp)).tr (Chg.s 28 _ (by simp))).tr (Chg.s 29 _ (by simp))⟩
  · rw [c57n hn h hs h1]
    simp only [m_ci]
    rw [if_pos trivial, if_neg (fun e => e h3)]
    exact ⟨_, rfl, h, rfl, rfl, Chg.rf g⟩
  · rw [c57n hn h hs h1]
    simp only [m_ci, h]
    rw [if_pos trivial, if_pos h3, if_pos (show nI s < (32 : Int32) from nI_lt (a := s) (b := 32) h4 (by decide)), if_neg (nI_in (by omega) (by decide)), if_neg (nI_in (by omega) (by decide)), nI_clamp (by omega), nI_1]
    exact ⟨_, rfl, by simp [rI], by simp [rI2, rS], by simp [rI2, rS], ((Chg.s 28 _ (by simp)).tr (Chg.s 29 _ (by simp))).tr (Chg.i 22 _ (by simp))⟩
  · rw [c57n hn h hs h1]
    simp only [m_ci, h]
    rw [if_pos trivial, if_pos h3, if_neg (show ¬ nI s < (32 : Int32) from nI_nlt (a := s) (b := 32) (by omega) (by omega))]
    exact ⟨_, rfl, h, rfl, rfl, Chg.rf g⟩
theorem m147 {s s' : Nat} {key w a : Int32} {K' V' : Nat → Int32} (hn : 40 ≤ n) (h : g.1 39 = nI s) (hs : s ≤ 32) (hd : Dst (g.2.1 49) s) (hw : stw (g.2.1 49) (g.2.1 50) s key w a K' V' s') :
    ∃ g', f147 n key w g = some (.inl (some (.int a)), g') ∧ g'.1 39 = nI s' ∧ g'.2.1 49 = K' ∧ g'.2.1 50 = V' ∧ Chg [39] [49, 50] g g' := by
  unfold f147
  rw [h]
  rcases hw with ⟨j, h1, h2, h3, rfl, rfl, rfl, hse⟩ | ⟨j, h1, h2, h3, rfl, rfl, rfl, hse⟩ | ⟨h1, h3, rfl, rfl, rfl, hse⟩ | ⟨h1, h3, h4, rfl, rfl, rfl, hse⟩ | ⟨h1, h3, h4, rfl, rfl, rfl, hse⟩ <;> rw [hse] <;> clear hse
  · obtain ⟨c', e⟩ := m147_s (n := n) (w := w) (x := nI s) h hs hd h1 h2 j 0 n (by omega) (by omega)
    rw [show (0 : Int32) = nI 0 from rfl, e, f147_8, h, if_pos (nI_le (by omega) (by omega)), if_pos h3, if_pos (show ¬ nI j = (32 : Int32) from fun z => by have := (nI_eq (a := j) (b := 32) (by omega) (by decide)).mp z; omega), if_pos (fun z => by have := (nI_eq (by omega) (by omega)).mp z; omega)]
    unfold f147_125
    rw [if_neg (nI_in (by omega) (by decide)), if_neg (nI_in (by omega) (by decide)), nI_clamp (by omega)]
    exact ⟨_, rfl, by simp [rS1, rI], by simp [rS, rI2]; exact upd_self h2, by simp [rS, rI2], ((Chg.i 39 _ (by simp)).tr (Chg.s 49 _ (by simp))).tr (Chg.s 50 _ (by simp))⟩
  · obtain ⟨c', e⟩ := m147_s (n := n) (w := w) (x := nI s) h hs hd h1 h2 j 0 n (by omega) (by omega)
    obtain ⟨z, rfl⟩ : ∃ z, s = z + 1 := ⟨s - 1, by omega⟩
    rw [show (0 : Int32) = nI 0 from rfl, e, f147_8, h, if_pos (nI_le (by omega) (by omega)), if_neg (fun e => e h3), if_neg (nI_ge (by omega) (by omega)), nI_pred, if_neg (nI_in (by omega) (by decide)), if_neg (nI_in (by omega) (by decide)), if_neg (nI_in (by omega) (by decide)), if_neg (nI_in (by omega) (by decide)), nI_clamp (by omega), nI_clamp (by omega)]
    exact ⟨_, rfl, by simp [rS1, rI], by simp [rS, rI2], by simp [rS, rI2], ((Chg.i 39 _ (by simp)).tr (Chg.s 49 _ (by simp))).tr (Chg.s 50 _ (by simp))⟩
  · obtain ⟨c', e⟩ := m147_n (n := n) (w := w) (x := nI s) (key := key) h hs s 0 n (by omega) (by omega) (fun j _ h2 => h1 j h2)
    rw [show (0 : Int32) = nI 0 from rfl, e, f147_8, h, if_pos (nI_le (by omega) (by omega)), if_neg (fun e => e h3), if_pos (nI_le (by omega) (by omega))]
    exact ⟨_, rfl, h, rfl, rfl, Chg.rf g⟩
  · obtain ⟨c', e⟩ := m147_n (n := n) (w := w) (x := nI s) (key := key) h hs s 0 n (by omega) (by omega) (fun j _ h2 => h1 j h2)
    rw [show (0 : Int32) = nI 0 from rfl, e, f147_8, h, if_pos (nI_le (by omega) (by omega)), if_pos h3, if_pos (show ¬ nI s = (32 : Int32) from fun z => by have := (nI_eq (a := s) (b := 32) (by omega) (by decide)).mp z; omega), if_neg (fun z => z rfl), nI_1]
    unfold f147_125
    rw [if_neg (nI_in (by omega) (by decide)), if_neg (nI_in (by omega) (by decide)), nI_clamp (by omega)]
    exact ⟨_, rfl, by simp [rS1, rI], by simp [rS, rI2], by simp [rS, rI2], ((Chg.i 39 _ (by simp)).tr (Chg.s 49 _ (by simp))).tr (Chg.s 50 _ (by simp))⟩
  · obtain ⟨c', e⟩ := m147_n (n := n) (w := w) (x := nI s) (key := key) h hs s 0 n (by omega) (by omega) (fun j _ h2 => h1 j h2)
    subst h4
    rw [show (0 : Int32) = nI 0 from rfl, e, f147_8, h, if_pos (nI_le (by omega) (by omega)), if_pos h3, if_neg (show ¬ ¬ nI 32 = (32 : Int32) from fun z => z rfl)]
    exact ⟨_, rfl, h, rfl, rfl, Chg.rf g⟩
end Ops
