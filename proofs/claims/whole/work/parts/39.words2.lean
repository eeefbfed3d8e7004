/-! the reference's words -/
def cd (T : Nat → Int32) (p : Nat) : Nat → Nat
  | 0 => 0
  | k + 1 => cd T p k * 27 + lt6 (T (p + k))
theorem lt_L {x : Int32} (h : isL x) : 1 ≤ lt6 x ∧ lt6 x ≤ 26 ∧ x = nI (96 + lt6 x) := by
  obtain ⟨d, h1, h2, rfl⟩ := isL_ex h
  rw [lt_nI h2]; exact ⟨h1, h2, rfl⟩
theorem cd_lt {T : Nat → Int32} {p : Nat} : ∀ k, (∀ i, i < k → isL (T (p + i))) → cd T p k < 27 ^ k := by
  intro k
  induction k with
  | zero => intro _; show 0 < 1; omega
  | succ k ih =>
    intro h
    have h1 := ih (fun i hi => h i (by omega))
    have h2 := (lt_L (h k (by omega))).2.1
    show cd T p k * 27 + lt6 (T (p + k)) < 27 ^ k * 27
    omega
theorem cd_inj {T U : Nat → Int32} {p q : Nat} : ∀ l m, (∀ i, i < l → isL (T (p + i))) → (∀ i, i < m → isL (U (q + i))) → cd T p l = cd U q m → l = m ∧ ∀ i, i < l → T (p + i) = U (q + i) := by
  intro l
  induction l with
  | zero =>
    intro m h1 h2 he
    cases m with
    | zero => exact ⟨rfl, fun i hi => by omega⟩
    | succ m =>
      have := (lt_L (h2 m (by omega))).1
      have e : 0 = cd U q m * 27 + lt6 (U (q + m)) := he
      omega
  | succ l ih =>
    intro m h1 h2 he
    have a1 := lt_L (h1 l (by omega))
    cases m with
    | zero =>
      have e : cd T p l * 27 + lt6 (T (p + l)) = 0 := he
      omega
    | succ m =>
      have a2 := lt_L (h2 m (by omega))
      have e : cd T p l * 27 + lt6 (T (p + l)) = cd U q m * 27 + lt6 (U (q + m)) := he
      obtain ⟨b1, b2⟩ := ih m (fun i hi => h1 i (by omega)) (fun i hi => h2 i (by omega)) (by omega)
      subst b1
      refine ⟨rfl, fun i hi => ?_⟩
      by_cases hz : i = l
      · subst hz; rw [a1.2.2, a2.2.2, show lt6 (T (p + i)) = lt6 (U (q + i)) by omega]
      · exact b2 i (by omega)
theorem cd_eq {T U : Nat → Int32} {p q : Nat} : ∀ l, (∀ i, i < l → T (p + i) = U (q + i)) → cd T p l = cd U q l := by
  intro l
  induction l with
  | zero => intro _; rfl
  | succ l ih => intro h; show cd T p l * 27 + lt6 (T (p + l)) = cd U q l * 27 + lt6 (U (q + l)); rw [ih (fun i hi => h i (by omega)), h l (by omega)]
def kc (x3 : Int64) : Int32 := if ¬ (lg_cmp x3 (176 : Int64)) = 0 then if ¬ (lg_cmp x3 (8903 : Int64)) = 0 then if ¬ (lg_cmp x3 (10502465 : Int64)) = 0 then if ¬ (lg_cmp x3 (247162 : Int64)) = 0 then if ¬ (lg_cmp x3 (249 : Int64)) = 0 then if ¬ (lg_cmp x3 (107681 : Int64)) = 0 then if ¬ (lg_cmp x3 (12387497 : Int64)) = 0 then if ¬ (lg_cmp x3 (261347000 : Int64)) = 0 then if ¬ (lg_cmp x3 (7054768229 : Int64)) = 0 then if ¬ (lg_cmp x3 (407354 : Int64)) = 0 then if ¬ (lg_cmp x3 (3217595 : Int64)) = 0 then 1 else 34 else 33 else 32 else 31 else 30 else 29 else 28 else 27 else 26 else 25 else 24
section Wd
variable {n N : Nat} {g : mG}
theorem m96_e {c : Nat} {x1 x2 x5 : Int32} {x3 : Int64} (h : x2 ≤ x5) : f96_5 n (c + 1) x1 x2 x3 x5 g = some (.inl (some (.int (kc x3))), g) := by
  rw [f96_5, if_pos h]
  unfold kc
  by_cases h1 : lg_cmp x3 (176 : Int64) = 0
  · rw [if_neg (fun z => z h1), if_neg (fun z => z h1)]
  rw [if_pos h1, if_pos h1]
  by_cases h2 : lg_cmp x3 (8903 : Int64) = 0
  · rw [if_neg (fun z => z h2), if_neg (fun z => z h2)]
  rw [if_pos h2, if_pos h2]
  by_cases h3 : lg_cmp x3 (10502465 : Int64) = 0
  · rw [if_neg (fun z => z h3), if_neg (fun z => z h3)]
  rw [if_pos h3, if_pos h3]
  by_cases h4 : lg_cmp x3 (247162 : Int64) = 0
  · rw [if_neg (fun z => z h4), if_neg (fun z => z h4)]
  rw [if_pos h4, if_pos h4]
  by_cases h5 : lg_cmp x3 (249 : Int64) = 0
  · rw [if_neg (fun z => z h5), if_neg (fun z => z h5)]
  rw [if_pos h5, if_pos h5]
  by_cases h6 : lg_cmp x3 (107681 : Int64) = 0
  · rw [if_neg (fun z => z h6), if_neg (fun z => z h6)]
  rw [if_pos h6, if_pos h6]
  by_cases h7 : lg_cmp x3 (12387497 : Int64) = 0
  · rw [if_neg (fun z => z h7), if_neg (fun z => z h7)]
  rw [if_pos h7, if_pos h7]
  by_cases h8 : lg_cmp x3 (261347000 : Int64) = 0
  · rw [if_neg (fun z => z h8), if_neg (fun z => z h8)]
  rw [if_pos h8, if_pos h8]
  by_cases h9 : lg_cmp x3 (7054768229 : Int64) = 0
  · rw [if_neg (fun z => z h9), if_neg (fun z => z h9)]
  rw [if_pos h9, if_pos h9]
  by_cases h10 : lg_cmp x3 (407354 : Int64) = 0
  · rw [if_neg (fun z => z h10), if_neg (fun z => z h10)]
  rw [if_pos h10, if_pos h10]
  by_cases h11 : lg_cmp x3 (3217595 : Int64) = 0
  · rw [if_neg (fun z => z h11), if_neg (fun z => z h11)]
  rw [if_pos h11, if_pos h11]
theorem m96_long {p l : Nat} (hl : 7 < l) (hp : p + l ≤ 600) : ∀ (d k c : Nat), k + d = l → d < c → f96_5 n c (nI p) (nI (p + l)) (-1) (nI (p + k)) g = some (.inl (some (.int 1)), g) := by
  intro d
  induction d with
  | zero =>
    intro k c hk hc
    obtain ⟨c, rfl⟩ : ∃ z, c = z + 1 := ⟨c - 1, by omega⟩
    rw [m96_e (nI_le (by omega) (by omega)), show kc (-1) = 1 by decide]
  | succ d ih =>
    intro k c hk hc
    obtain ⟨c, rfl⟩ : ∃ z, c = z + 1 := ⟨c - 1, by omega⟩
    rw [f96_5, if_neg (nI_ge (by omega) (by omega)), pk_sub (by omega), Nat.add_sub_cancel_left, if_pos (show (7 : Int32) < nI l from nI_lt (a := 7) (b := l) hl (by omega)), nI_1]
    exact ih (k + 1) c (by omega) (by omega)
theorem m96_neg {p l : Nat} (hN : N ≤ 600) (h : g.1 25 = nI N) (hl : l ≤ 7) (hp : p + l ≤ 600) (hR : ∀ i, i < l → nmc (g.2.1 32) (p + i)) (hpN : p + l ≤ N) : ∀ (d k c : Nat), k + d = l → d < c → f96_5 n c (nI p) (nI (p + l)) (-1) (nI (p + k)) g = some (.inl (some (.int 1)), g) := by
  intro d
  induction d with
  | zero =>
    intro k c hk hc
    obtain ⟨c, rfl⟩ : ∃ z, c = z + 1 := ⟨c - 1, by omega⟩
    rw [m96_e (nI_le (by omega) (by omega)), show kc (-1) = 1 by decide]
  | succ d ih =>
    intro k c hk hc
    obtain ⟨c, rfl⟩ : ∃ z, c = z + 1 := ⟨c - 1, by omega⟩
    rw [f96_5, if_neg (nI_ge (by omega) (by omega)), pk_sub (by omega), Nat.add_sub_cancel_left, if_neg (show ¬ (7 : Int32) < nI l from nI_nlt (a := 7) (b := l) hl (by omega)), nI_1]
    by_cases hd : isD (sg (g.2.1 32) N (p + k))
    · rw [m95y h hN (by omega) hd, m_ci_s, if_neg (by decide)]
      exact ih (k + 1) c (by omega) (by omega)
    · rw [m95n h hN (by omega) hd, m_ci_s, if_pos rfl, if_neg (by decide)]
      exact ih (k + 1) c (by omega) (by omega)
theorem m96_go {p l : Nat} (hN : N ≤ 600) (h : g.1 25 = nI N) (hl : l ≤ 7) (hp : p + l ≤ 600) (hR : ∀ i, i < l → nmc (g.2.1 32) (p + i)) (hpN : p + l ≤ N) : ∀ (d k c : Nat), k + d = l → d < c → (∀ i, i < k → isL (g.2.1 32 (p + i))) → ((∀ i, i < l → isL (g.2.1 32 (p + i))) ∧ f96_5 n c (nI p) (nI (p + l)) (lN (cd (g.2.1 32) p k)) (nI (p + k)) g = some (.inl (some (.int (kc (lN (cd (g.2.1 32) p l))))), g)) ∨ ((∃ i, i < l ∧ ¬ isL (g.2.1 32 (p + i))) ∧ f96_5 n c (nI p) (nI (p + l)) (lN (cd (g.2.1 32) p k)) (nI (p + k)) g = some (.inl (some (.int 1)), g)) := by
  intro d
  induction d with
  | zero =>
    intro k c hk hc hL
    obtain ⟨c, rfl⟩ : ∃ z, c = z + 1 := ⟨c - 1, by omega⟩
    have : k = l := by omega
    subst this
    exact Or.inl ⟨hL, by rw [m96_e (nI_le (by omega) (by omega))]⟩
  | succ d ih =>
    intro k c hk hc hL
    obtain ⟨c, rfl⟩ : ∃ z, c = z + 1 := ⟨c - 1, by omega⟩
    rw [f96_5, if_neg (nI_ge (by omega) (by omega)), pk_sub (by omega), Nat.add_sub_cancel_left, if_neg (show ¬ (7 : Int32) < nI l from nI_nlt (a := 7) (b := l) hl (by omega)), nI_1]
    by_cases hd : isD (sg (g.2.1 32) N (p + k))
    · rw [m95y h hN (by omega) hd, m_ci_s, if_neg (by decide)]
      rw [sg_lt (by omega)] at hd
      exact Or.inr ⟨⟨k, by omega, fun z => isLD z hd⟩, m96_neg hN h hl hp hR hpN d (k + 1) c (by omega) (by omega)⟩
    · rw [m95n h hN (by omega) hd, m_ci_s, if_pos rfl, m93 h hN (by omega), m_ci_s]
      rw [sg_lt (by omega)] at hd ⊢
      have hLk : isL (g.2.1 32 (p + k)) := (hR k (by omega)).elim id (fun z => absurd z hd)
      have hb : cd (g.2.1 32) p k < 27 ^ k := cd_lt k hL
      have hb2 : 27 ^ k ≤ 27 ^ 7 := Nat.pow_le_pow_right (by omega) (by omega)
      have hb3 : (27 : Nat) ^ 7 < 2 ^ 62 := by decide
      have e0 : 0 ≤ lg_cmp (lN (cd (g.2.1 32) p k)) (0 : Int64) := by
        unfold lg_cmp
        by_cases z1 : lN (cd (g.2.1 32) p k) > (0 : Int64)
        · rw [if_pos z1]; decide
        · rw [if_neg z1, if_pos]; · decide
          have : ¬ 0 < cd (g.2.1 32) p k := fun z => z1 ((lb_lt (a := 0) (b := cd (g.2.1 32) p k) (by decide) (by omega)).mpr z)
          rw [show cd (g.2.1 32) p k = 0 by omega]; rfl
      rw [if_pos e0]
      have e1 : lN (cd (g.2.1 32) p k) * 27 + Int32.toInt64 (g.2.1 32 (p + k)) - 96 = lN (cd (g.2.1 32) p (k + 1)) := by
        have a1 := lt_L hLk
        show _ = lN (cd (g.2.1 32) p k * 27 + lt6 (g.2.1 32 (p + k)))
        generalize lt6 (g.2.1 32 (p + k)) = w at a1 ⊢
        rw [a1.2.2, nI_l (by omega), show (27 : Int64) = lN 27 from rfl, lN_mul, lN_add, show (96 : Int64) = lN 96 from rfl, lN_sub (by omega), show cd (g.2.1 32) p k * 27 + (96 + w) - 96 = cd (g.2.1 32) p k * 27 + w by omega]
      rw [e1]
      exact ih (k + 1) c (by omega) (by omega) (fun i hi => by
        by_cases hz : i = k
        · rw [hz]; exact hLk
        · exact hL i (by omega))
theorem wL : ∀ w, w < 11 → ∀ i, i < m_sLen.getD w 0 → isL (m_ch w (0 + i)) := by unfold isL; decide +kernel
theorem wK : ∀ w, w < 11 → kc (lN (cd (m_ch w) 0 (m_sLen.getD w 0))) = mkw w - 1 := by decide +kernel
theorem w7 : ∀ w, w < 11 → m_sLen.getD w 0 ≤ 7 := by decide +kernel
theorem kc_no {a : Nat} (ha : a < 2 ^ 62) (h : ∀ w, w < 11 → a ≠ cd (m_ch w) 0 (m_sLen.getD w 0)) : kc (lN a) = 1 := by
  have C : ∀ (w b : Nat), w < 11 → b < 2 ^ 62 → cd (m_ch w) 0 (m_sLen.getD w 0) = b → ¬ lg_cmp (lN a) (lN b) = 0 := fun w b hw hb he z => h w hw (((lb_eq ha hb).mp ((cmp_eq _ _).mp z)).trans he.symm)
  unfold kc
  rw [if_pos (show ¬ lg_cmp (lN a) (176 : Int64) = 0 from C 0 176 (by decide) (by decide) (by decide +kernel)), if_pos (show ¬ lg_cmp (lN a) (8903 : Int64) = 0 from C 2 8903 (by decide) (by decide) (by decide +kernel)), if_pos (show ¬ lg_cmp (lN a) (10502465 : Int64) = 0 from C 6 10502465 (by decide) (by decide) (by decide +kernel)), if_pos (show ¬ lg_cmp (lN a) (247162 : Int64) = 0 from C 3 247162 (by decide) (by decide) (by decide +kernel)), if_pos (show ¬ lg_cmp (lN a) (249 : Int64) = 0 from C 1 249 (by decide) (by decide) (by decide +kernel)), if_pos (show ¬ lg_cmp (lN a) (107681 : Int64) = 0 from C 4 107681 (by decide) (by decide) (by decide +kernel)), if_pos (show ¬ lg_cmp (lN a) (12387497 : Int64) = 0 from C 7 12387497 (by decide) (by decide) (by decide +kernel)), if_pos (show ¬ lg_cmp (lN a) (261347000 : Int64) = 0 from C 9 261347000 (by decide) (by decide) (by decide +kernel)), if_pos (show ¬ lg_cmp (lN a) (7054768229 : Int64) = 0 from C 10 7054768229 (by decide) (by decide) (by decide +kernel)), if_pos (show ¬ lg_cmp (lN a) (407354 : Int64) = 0 from C 5 407354 (by decide) (by decide) (by decide +kernel)), if_pos (show ¬ lg_cmp (lN a) (3217595 : Int64) = 0 from C 8 3217595 (by decide) (by decide) (by decide +kernel))]
theorem m96 {p l : Nat} {mk : Int32} (hn : 700 ≤ n) (hN : N ≤ 600) (h : g.1 25 = nI N) (hR : IsR (nmc (g.2.1 32)) N p (p + l)) (hw : WM (g.2.1 32) N p l mk) : f96 n (nI p) (nI (p + l)) g = some (.inl (some (.int (mk - 1))), g) := by
  obtain ⟨a1, a2, a3, a4⟩ := hR
  have hR' : ∀ i, i < l → nmc (g.2.1 32) (p + i) := fun i hi => a3 (p + i) (by omega) (by omega)
  unfold f96
  by_cases h7 : l ≤ 7
  · have G := m96_go (n := n) hN h h7 (by omega) hR' a2 l 0 n (by omega) (by omega) (fun i hi => by omega)
    rcases hw with ⟨w, hw, hwl, hs, rfl⟩ | ⟨hno, rfl⟩
    · have hs' : ∀ i, i < l → g.2.1 32 (p + i) = m_ch w (0 + i) := fun i hi => by
        have := hs i (by omega); rw [sg_lt (by omega)] at this; rw [this, Nat.zero_add]
      rcases G with ⟨_, e⟩ | ⟨⟨i, hi, hni⟩, _⟩
      · rw [cd_eq l hs', ← hwl, wK w hw, hwl] at e; exact e
      · exact absurd (by rw [hs' i hi]; exact wL w hw i (by omega)) hni
    · rcases G with ⟨hL, e⟩ | ⟨_, e⟩
      · have hb : cd (g.2.1 32) p l < 27 ^ l := cd_lt l hL
        have hb2 : 27 ^ l ≤ 27 ^ 7 := Nat.pow_le_pow_right (by omega) (by omega)
        have hb3 : (27 : Nat) ^ 7 < 2 ^ 62 := by decide
        rw [kc_no (by omega) (fun w hw z => by
          obtain ⟨b1, b2⟩ := cd_inj l (m_sLen.getD w 0) hL (wL w hw) z
          exact hno w hw b1.symm (fun i hi => by rw [sg_lt (by omega), b2 i (by omega), Nat.zero_add]))] at e
        exact e
      · exact e
  · have hmk : mk = 2 := by
      rcases hw with ⟨w, hw, hwl, hs, rfl⟩ | ⟨hno, rfl⟩
      · have := w7 w hw; omega
      · rfl
    subst hmk
    obtain ⟨c, rfl⟩ : ∃ z, n = z + 1 := ⟨n - 1, by omega⟩
    rw [f96_5, if_neg (nI_ge (by omega) (by omega)), pk_sub (by omega), Nat.add_sub_cancel_left, if_pos (show (7 : Int32) < nI l from nI_lt (a := 7) (b := l) (by omega) (by omega)), nI_1]
    exact m96_long (by omega) (by omega) (l - 1) 1 c (by omega) (by omega)
end Wd
