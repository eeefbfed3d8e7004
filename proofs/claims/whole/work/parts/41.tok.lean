/-! a token of both scanners -/
theorem l2i_N (v : Nat) : Int64.toInt32 (lN v) = nI v := by
  show (Int64.ofNat v).toInt32 = Int32.ofNat v
  exact Int64.toInt32_ofNat'
/-- a token behind its blanks -/
def TokB (T : Nat → Int32) (N b : Nat) (mk : Int32) (st : Nat) (nu : Int32) : Prop :=
  (b = N ∧ mk = 0 ∧ st = b ∧ nu = 0) ∨
  (b < N ∧ isL (T b) ∧ IsR (nmc T) N b st ∧ WM T N b (st - b) mk ∧ nu = 0) ∨
  (b < N ∧ isD (T b) ∧ IsR (dgc T) N b st ∧ ((cpd T b (st - b) 0 ≤ 2147483647 ∧ mk = 3 ∧ nu = nI (cpd T b (st - b) 0)) ∨ (cpd T b (st - b) 0 = 2147483648 ∧ mk = 1))) ∨
  (b < N ∧ ¬ isL (T b) ∧ ¬ isD (T b) ∧ mk = sgK (T b) (sg T N (b + 1)) ∧ st = b + sgL (T b) (sg T N (b + 1)) ∧ nu = 0)
def TokR (T : Nat → Int32) (N p : Nat) (mk : Int32) (b st : Nat) (nu : Int32) : Prop := IsR (blk T) N p b ∧ TokB T N b mk st nu
theorem sgL_le {T : Nat → Int32} {N b : Nat} {x : Int32} (hb : b < N) : b + sgL x (sg T N (b + 1)) ≤ N ∧ b < b + sgL x (sg T N (b + 1)) := by
  unfold sgL
  by_cases h : b + 1 < N
  · by_cases hz : sgM x (sg T N (b + 1)) = 1
    · rw [if_pos hz]; omega
    · rw [if_neg hz]; omega
  · have e : sgM x (sg T N (b + 1)) = 1 := by
      rw [sg_ge (by omega)]
      unfold sgM; simp (decide := true) only [reduceIte, ite_self]
    rw [if_pos e]; omega
theorem sgM_ne (x y : Int32) : ¬ sgM x y = 0 := by
  unfold sgM
  split <;> (try split) <;> (try split) <;> (try split) <;> (try split) <;> (try split) <;> decide
theorem sg1_ne (x : Int32) : ¬ sg1 x = 0 ∧ ¬ 3 = sg1 x := by
  unfold sg1
  by_cases h33 : x = 33
  · rw [if_pos h33]; decide
  rw [if_neg h33]
  by_cases h37 : x = 37
  · rw [if_pos h37]; decide
  rw [if_neg h37]
  by_cases h40 : x = 40
  · rw [if_pos h40]; decide
  rw [if_neg h40]
  by_cases h41 : x = 41
  · rw [if_pos h41]; decide
  rw [if_neg h41]
  by_cases h42 : x = 42
  · rw [if_pos h42]; decide
  rw [if_neg h42]
  by_cases h43 : x = 43
  · rw [if_pos h43]; decide
  rw [if_neg h43]
  by_cases h44 : x = 44
  · rw [if_pos h44]; decide
  rw [if_neg h44]
  by_cases h45 : x = 45
  · rw [if_pos h45]; decide
  rw [if_neg h45]
  by_cases h47 : x = 47
  · rw [if_pos h47]; decide
  rw [if_neg h47]
  by_cases h59 : x = 59
  · rw [if_pos h59]; decide
  rw [if_neg h59]
  by_cases h60 : x = 60
  · rw [if_pos h60]; decide
  rw [if_neg h60]
  by_cases h61 : x = 61
  · rw [if_pos h61]; decide
  rw [if_neg h61]
  by_cases h91 : x = 91
  · rw [if_pos h91]; decide
  rw [if_neg h91]
  by_cases h93 : x = 93
  · rw [if_pos h93]; decide
  rw [if_neg h93]
  by_cases h123 : x = 123
  · rw [if_pos h123]; decide
  rw [if_neg h123]
  by_cases h125 : x = 125
  · rw [if_pos h125]; decide
  rw [if_neg h125]
  decide
theorem TokB.st {T : Nat → Int32} {N b st : Nat} {mk nu : Int32} (h : TokB T N b mk st nu) : b ≤ st ∧ st ≤ N ∧ (b < N → b < st) ∧ (mk = 0 ↔ b = N) := by
  rcases h with ⟨h1, h2, h3, _⟩ | ⟨h1, h2, h3, h4, _⟩ | ⟨h1, h2, h3, h4⟩ | ⟨h1, _, _, h4, h5, _⟩
  · subst h1; subst h3; exact ⟨Nat.le_refl _, Nat.le_refl _, fun z => by omega, fun _ => rfl, fun _ => h2⟩
  · have hlt : b < st := by
      rcases Nat.lt_or_ge b st with z | z
      · exact z
      · have : st = b := by have := h3.1; omega
        subst this; exact absurd (Or.inl h2) (h3.2.2.2 h1)
    refine ⟨h3.1, h3.2.1, fun _ => hlt, fun z => ?_, fun z => by omega⟩
    rcases h4 with ⟨w, hw, _, _, rfl⟩ | ⟨_, rfl⟩
    · exact absurd z ((by decide +kernel : ∀ w, w < 11 → ¬ mkw w = 0) w hw)
    · exact absurd z (by decide)
  · have hlt : b < st := by
      rcases Nat.lt_or_ge b st with z | z
      · exact z
      · have : st = b := by have := h3.1; omega
        subst this; exact absurd h2 (h3.2.2.2 h1)
    refine ⟨h3.1, h3.2.1, fun _ => hlt, fun z => ?_, fun z => by omega⟩
    rcases h4 with ⟨_, rfl, _⟩ | ⟨_, rfl⟩
    · exact absurd z (by decide)
    · exact absurd z (by decide)
  · have := sgL_le (T := T) (x := T b) h1
    rw [← h5] at this
    refine ⟨by omega, this.1, fun _ => this.2, fun z => ?_, fun z => by omega⟩
    rw [z] at h4
    unfold sgK at h4
    by_cases hz : sgM (T b) (sg T N (b + 1)) = 1
    · rw [if_pos hz] at h4; exact absurd h4.symm (sg1_ne _).1
    · rw [if_neg hz] at h4; exact absurd h4.symm (sgM_ne _ _)
section Tok
variable {n N : Nat} {g : mG}
theorem c64 {b : Nat} (hn : 700 ≤ n) (h : g.1 9 = nI N) (hN : N ≤ 600) (hb : b ≤ N) : ∃ mk st nu g', f64 n (nI b) g = some (.inl (some (.int mk)), g') ∧ TokB (g.2.1 8) N b mk st nu ∧ g'.1 10 = nI st ∧ g'.1 11 = nu ∧ Chg [10, 11] [] g g' := by
  unfold f64
  rw [c63 h hN (by omega), m_ci_s, h]
  by_cases hbN : b = N
  · subst hbN
    refine ⟨0, b, 0, _, by rw [if_neg (nI_nlt (Nat.le_refl _) (by omega))], Or.inl ⟨rfl, rfl, rfl, rfl⟩, by simp [rI], by simp [rI], ?_⟩
    exact (Chg.i 11 _ (by simp)).tr (Chg.i 10 _ (by simp))
  · have hlt : b < N := by omega
    rw [if_pos (nI_lt hlt (by omega)), sg_lt hlt]
    have hg : ∀ k, (gI (gI g 11 (0 : Int32)) 10 (nI b)).2.1 k = g.2.1 k := fun k => rfl
    have C0 : Chg [10, 11] [] g (gI (gI g 11 (0 : Int32)) 10 (nI b)) := (Chg.i 11 _ (by simp)).tr (Chg.i 10 _ (by simp))
    have h' : (gI (gI g 11 (0 : Int32)) 10 (nI b)).1 9 = nI N := by simp [rI, h]
    have h11 : (gI (gI g 11 (0 : Int32)) 10 (nI b)).1 11 = 0 := by simp [rI]
    rw [← hg 8]
    generalize gI (gI g 11 (0 : Int32)) 10 (nI b) = k at hg C0 h' h11 ⊢
    by_cases hL : isL (k.2.1 8 b)
    · rw [c65y hL, m_ci_s, if_neg (by decide)]
      obtain ⟨e, he⟩ := IsR.ex (nmc (k.2.1 8)) N (N - b) b (by omega)
      have he' := he
      obtain ⟨a1, a2, a3, a4⟩ := he
      have h'' : (gI k 10 (nI e)).1 9 = nI N := by simp [rI, h']
      obtain ⟨mk, q1, q2⟩ := c68 (n := n) (g := gI k 10 (nI e)) (p := b) (l := e - b) (by omega) h'' hN (by omega)
      rw [show b + (e - b) = e by omega] at q1
      unfold f66
      refine ⟨mk, e, 0, _, by rw [c66_2 h' hN (e - b) b n (by omega) (by omega) he', m_ci_s, q1, m_ci_s], Or.inr (Or.inl ⟨hlt, hL, he', q2, rfl⟩), by simp [rI], by simp [rI, h11], C0.tr (Chg.i 10 _ (by simp))⟩
    · rw [c65n hL, m_ci_s, if_pos rfl]
      by_cases hD : isD (k.2.1 8 b)
      · rw [c67y hD, m_ci_s, if_neg (by decide)]
        obtain ⟨e, he⟩ := IsR.ex (dgc (k.2.1 8)) N (N - b) b (by omega)
        have he' := he
        obtain ⟨a1, a2, a3, a4⟩ := he
        obtain ⟨q1, q2⟩ := c70_5 (n := n) h' hN (e - b) b n 0 (by omega) (by omega) (by omega) he'
        unfold f70
        rw [show (0 : Int64) = lN 0 from rfl, q1]
        unfold f70_55
        by_cases hz : cpd (k.2.1 8) b (e - b) 0 ≤ 2147483647
        · refine ⟨3, e, nI (cpd (k.2.1 8) b (e - b) 0), _, by rw [if_pos (show lg_cmp (lN (cpd (k.2.1 8) b (e - b) 0)) (2147483647 : Int64) ≤ 0 from (lb_cmp (a := cpd (k.2.1 8) b (e - b) 0) (b := 2147483647) (by omega) (by decide)).mpr hz), m_ci_s, l2i_N], Or.inr (Or.inr (Or.inl ⟨hlt, hD, he', Or.inl ⟨hz, rfl, rfl⟩⟩)), by simp [rI], by simp [rI], C0.tr ((Chg.i 10 _ (by simp)).tr (Chg.i 11 _ (by simp)))⟩
        · refine ⟨1, e, 0, _, by rw [if_neg (show ¬ lg_cmp (lN (cpd (k.2.1 8) b (e - b) 0)) (2147483647 : Int64) ≤ 0 from fun y => hz ((lb_cmp (a := cpd (k.2.1 8) b (e - b) 0) (b := 2147483647) (by omega) (by decide)).mp y)), m_ci_s], Or.inr (Or.inr (Or.inl ⟨hlt, hD, he', Or.inr ⟨by omega, rfl⟩⟩)), by simp [rI], by simp [rI, h11], C0.tr (Chg.i 10 _ (by simp))⟩
      · rw [c67n hD, m_ci_s, if_pos rfl, nI_1, c63 h' hN (by omega), m_ci_s, c71, m_ci_s]
        by_cases hz : sgM (k.2.1 8 b) (sg (k.2.1 8) N (b + 1)) = 1
        · refine ⟨sg1 (k.2.1 8 b), b + 1, 0, _, by rw [if_pos hz, c72, m_ci_s], Or.inr (Or.inr (Or.inr ⟨hlt, hL, hD, by unfold sgK; rw [if_pos hz], by unfold sgL; rw [if_pos hz], rfl⟩)), by simp [rI], by simp [rI, h11], C0.tr (Chg.i 10 _ (by simp))⟩
        · refine ⟨sgM (k.2.1 8 b) (sg (k.2.1 8) N (b + 1)), b + 2, 0, _, by rw [if_neg hz, show (2 : Int32) = nI 2 from rfl, nI_add], Or.inr (Or.inr (Or.inr ⟨hlt, hL, hD, by unfold sgK; rw [if_neg hz], by unfold sgL; rw [if_neg hz], rfl⟩)), by simp [rI], by simp [rI, h11], C0.tr (Chg.i 10 _ (by simp))⟩
theorem m92 {p b st : Nat} {mk nu : Int32} (hn : 700 ≤ n) (h : g.1 25 = nI N) (hN : N ≤ 600) (h28 : g.1 28 = nI p) (hT : TokR (g.2.1 32) N p mk b st nu) : ∃ g', f92 n g = some (.inl none, g') ∧ g'.1 26 = kd mk ∧ g'.1 27 = nI b ∧ g'.1 28 = nI st ∧ (mk = 3 → g'.1 29 = nu) ∧ Chg [26, 27, 28, 29] [] g g' := by
  obtain ⟨hB, hT⟩ := hT
  have hB' := hB
  obtain ⟨a1, a2, a3, a4⟩ := hB'
  obtain ⟨k, e1, e2, e3⟩ := m92_0 (n := n) hN (b - p) p n g h h28 (by omega) (by omega) hB
  unfold f92
  rw [e1]
  have hk25 : k.1 25 = nI N := by rw [e3.1 25 (by simp)]; exact h
  have hk32 : k.2.1 32 = g.2.1 32 := e3.2.1 32 (by simp)
  have C1 : Chg [26, 27, 28, 29] [] g k := e3.mono (by simp) (by simp)
  rw [← hk32] at hT
  unfold advB
  rw [e2, hk25]
  rcases hT with ⟨h1, h2, h3, h4⟩ | ⟨h1, h2, h3, h4, h5⟩ | ⟨h1, h2, h3, h4⟩ | ⟨h1, h2, h3, h4, h5, h6⟩
  · subst h1; subst h2; subst h3
    rw [if_neg (nI_nlt (Nat.le_refl _) (by omega))]
    exact ⟨_, rfl, by simp [rI, kd], by simp [rI], by simp [rI, e2], fun z => absurd z (by decide), C1.tr ((Chg.i 27 _ (by simp)).tr (Chg.i 26 _ (by simp)))⟩
  · rw [if_pos (nI_lt h1 (by omega))]
    have h' : (gI k 27 (nI b)).1 25 = nI N := by simp [rI, hk25]
    have h28' : (gI k 27 (nI b)).1 28 = nI b := by simp [rI, e2]
    rw [m94y h' hN (by omega) (by rw [sg_lt h1]; exact h2), m_ci_s, if_neg (by decide)]
    have h3' := h3
    obtain ⟨b1, b2, b3, b4⟩ := h3'
    obtain ⟨k2, q1, q2, q3⟩ := m92_85 (n := n) hN (st - b) b n (gI k 27 (nI b)) h' h28' (by omega) (by omega) h3
    have hk2 : k2.2.1 32 = k.2.1 32 := q3.2.1 32 (by simp)
    have hk27 : k2.1 27 = nI b := by rw [q3.1 27 (by simp)]; simp [rI]
    have hk225 : k2.1 25 = nI N := by rw [q3.1 25 (by simp)]; exact h'
    have M := m96 (n := n) (g := k2) (p := b) (l := st - b) (mk := mk) hn hN hk225 (by rw [hk2, show b + (st - b) = st by omega]; exact h3) (by rw [hk2]; exact h4)
    rw [show b + (st - b) = st by omega] at M
    rw [q1, hk27, M, m_ci_s]
    have hk : kd mk = mk - 1 := by
      unfold kd
      rcases h4 with ⟨w, hw, _, _, rfl⟩ | ⟨_, rfl⟩
      · rw [if_neg ((by decide +kernel : ∀ w, w < 11 → ¬ mkw w = 0) w hw), if_neg ((by decide +kernel : ∀ w, w < 11 → ¬ mkw w = 1) w hw)]
      · rfl
    refine ⟨_, rfl, by simp [rI, hk], by simp [rI, hk27], by simp [rI, q2], fun z => ?_, C1.tr ((Chg.i 27 _ (by simp)).tr ((q3.mono (by simp) (by simp)).tr (Chg.i 26 _ (by simp))))⟩
    rcases h4 with ⟨w, hw, _, _, rfl⟩ | ⟨_, rfl⟩
    · exact absurd z ((by decide +kernel : ∀ w, w < 11 → ¬ mkw w = 3) w hw)
    · exact absurd z (by decide)
  · rw [if_pos (nI_lt h1 (by omega))]
    have h' : (gI k 27 (nI b)).1 25 = nI N := by simp [rI, hk25]
    have h27' : (gI k 27 (nI b)).1 27 = nI b := by simp [rI]
    have h28' : (gI k 27 (nI b)).1 28 = nI b := by simp [rI, e2]
    have hnl : ¬ isL (k.2.1 32 b) := fun z => isLD z h2
    rw [m94n h' hN (by omega) (by rw [sg_lt h1]; exact hnl), m_ci_s, if_pos rfl, h27', m95y h' hN (by omega) (by rw [sg_lt h1]; exact h2), m_ci_s, if_neg (by decide)]
    have h3' := h3
    obtain ⟨b1, b2, b3, b4⟩ := h3'
    obtain ⟨k2, vm, q1, q2, q3, q4⟩ := m97_2 (n := n) hN (st - b) b n 0 0 (gI k 27 (nI b)) h' h28' (by omega) (by omega) (Or.inl ⟨rfl, by omega⟩) h3
    have hk27 : k2.1 27 = nI b := by rw [q4.1 27 (by simp)]; simp [rI]
    unfold f97
    rw [show (0 : Int64) = lN 0 from rfl, q1]
    unfold f97_73
    rw [m_cv_s]
    refine ⟨_, rfl, ?_, by simp [rI, hk27], by simp [rI, q3], fun z => ?_, C1.tr ((Chg.i 27 _ (by simp)).tr ((q4.mono (by simp) (by simp)).tr ((Chg.i 26 _ (by simp)).tr (Chg.i 29 _ (by simp)))))⟩
    · have q2' : (vm = cpd (k.2.1 32) b (st - b) 0 ∧ vm ≤ 2147483647) ∨ (cpd (k.2.1 32) b (st - b) 0 = 2147483648 ∧ 2147483647 < vm) := q2
      rcases h4 with ⟨c1, rfl, _⟩ | ⟨c1, rfl⟩ <;> rcases q2' with ⟨d1, d2⟩ | ⟨d1, d2⟩
      · simp [rI, d2, kd]
      · omega
      · omega
      · simp [rI, show ¬ vm ≤ 2147483647 by omega, kd]
    · have q2' : (vm = cpd (k.2.1 32) b (st - b) 0 ∧ vm ≤ 2147483647) ∨ (cpd (k.2.1 32) b (st - b) 0 = 2147483648 ∧ 2147483647 < vm) := q2
      rcases h4 with ⟨c1, rfl, c3⟩ | ⟨c1, rfl⟩
      · rcases q2' with ⟨d1, d2⟩ | ⟨d1, d2⟩
        · rw [c3, ← d1, ← l2i_N]; simp [rI]
        · omega
      · exact absurd z (by decide)
  · rw [if_pos (nI_lt h1 (by omega))]
    have h' : (gI k 27 (nI b)).1 25 = nI N := by simp [rI, hk25]
    have h27' : (gI k 27 (nI b)).1 27 = nI b := by simp [rI]
    have M := m98 (n := n) (g := gI k 27 (nI b)) (b := b) hN h' h1 h27'
    rw [m94n h' hN (by omega) (by rw [sg_lt h1]; exact h2), m_ci_s, if_pos rfl, h27', m95n h' hN (by omega) (by rw [sg_lt h1]; exact h3), m_ci_s, if_pos rfl, M, m_cv_s]
    have e32 : (gI k 27 (nI b)).2.1 32 = k.2.1 32 := rfl
    rw [e32, ← h4, ← h5]
    refine ⟨_, rfl, by simp [rI], by simp [rI], by simp [rI], fun z => ?_, C1.tr ((Chg.i 27 _ (by simp)).tr ((Chg.i 26 _ (by simp)).tr (Chg.i 28 _ (by simp))))⟩
    exfalso
    rw [z] at h4
    unfold sgK at h4
    by_cases hz : sgM (k.2.1 32 b) (sg (k.2.1 32) N (b + 1)) = 1
    · rw [if_pos hz] at h4
      exact (sg1_ne _).2 h4
    · rw [if_neg hz] at h4
      revert h4; generalize k.2.1 32 b = x; generalize sg (k.2.1 32) N (b + 1) = y; unfold sgM
      split <;> (try split) <;> (try split) <;> (try split) <;> (try split) <;> (try split) <;> decide
end Tok
