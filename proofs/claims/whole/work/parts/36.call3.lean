/-! call: class and reference alike -/
theorem m_ci_s (v : Int32) (g : mG) (k : Int32 → mG → mZ) : m_ci (some (.inl (some (.int v)), g)) k = k v g := rfl
theorem m_cv_s (g : mG) (k : mG → mZ) : m_cv (some (.inl none, g)) k = k g := rfl
section Call3
variable {n : Nat} {g : mG} {a b c : Int32}
theorem f90_ex (x y z : Int32) : ∃ v, (∀ n g, f90 n x y z g = some (.inl (some (.int v)), g)) ∧ ((v = 0 ∧ (x < y ∨ z < x)) ∨ (v = 1 ∧ ¬ x < y ∧ ¬ z < x)) := by
  by_cases h1 : x < y
  · exact ⟨0, fun n g => by unfold f90; rw [if_pos h1], Or.inl ⟨rfl, Or.inl h1⟩⟩
  · by_cases h2 : z < x
    · exact ⟨0, fun n g => by unfold f90; rw [if_neg h1, if_pos h2], Or.inl ⟨rfl, Or.inr h2⟩⟩
    · exact ⟨1, fun n g => by unfold f90; rw [if_neg h1, if_neg h2], Or.inr ⟨rfl, h1, h2⟩⟩
theorem m139_1 {f gas : Int32} (h : g.1 38 = 0) : f139 n f gas a b c g = some (.inl (some (.int 0)), gI g 24 1) := by
  obtain ⟨v, hv, -⟩ := f90_ex gas 0 50000
  unfold f139 f139_12 f139_37 f139_38 f139_51 f139_65 f139_66 f139_82
  rw [h]
  simp (decide := true) only [reduceIte, hv, m_ci, m88]
  by_cases h0 : v = 0 <;> simp [h0]
theorem m139_2 {q : Nat} {f gas : Int32} (hq : 1 ≤ q) (hq8 : q ≤ 8) (h : g.1 38 = nI q) (hf : f < 0 ∨ nI q ≤ f) : f139 n f gas a b c g = some (.inl (some (.int 0)), gI g 24 2) := by
  obtain ⟨v, hv, -⟩ := f90_ex gas 0 50000
  have n38' : ¬ g.1 38 ≤ 0 := by rw [h]; exact nI_nle (by omega) (by omega)
  have p38 : nI q - 1 = nI (q - 1) := by rw [show nI q = nI (q - 1 + 1) by rw [Nat.sub_add_cancel (by omega)], nI_pred]
  have e9 : f90 n f 0 (nI (q - 1)) g = some (.inl (some (.int 0)), g) := by
    unfold f90
    by_cases h1 : f < 0
    · rw [if_pos h1]
    · rw [if_neg h1]
      obtain ⟨j, hj, rfl⟩ := nI_of h1
      have h2 := hf.elim (fun z => absurd z h1) id
      rw [nI_leI (by omega) (by omega)] at h2
      rw [if_pos (nI_lt (by omega) (by omega))]
  unfold f139 f139_12 f139_37 f139_38 f139_51 f139_65 f139_66 f139_82
  rw [if_neg n38', if_neg (by decide), h, p38, e9]
  simp (decide := true) only [reduceIte, hv, m_ci, m88]
  by_cases h0 : v = 0 <;> simp [h0]
theorem m139_3 {q j : Nat} {gas : Int32} (hq8 : q ≤ 8) (h : g.1 38 = nI q) (hj : j < q) (hg : gas < 0 ∨ 50000 < gas) : f139 n (nI j) gas a b c g = some (.inl (some (.int 0)), gI g 24 3) := by
  obtain ⟨v, hv, hv2⟩ := f90_ex gas 0 50000
  have n38' : ¬ g.1 38 ≤ 0 := by rw [h]; exact nI_nle (by omega) (by omega)
  have p38 : nI q - 1 = nI (q - 1) := by rw [show nI q = nI (q - 1 + 1) by rw [Nat.sub_add_cancel (by omega)], nI_pred]
  have e9 : f90 n (nI j) 0 (nI (q - 1)) g = some (.inl (some (.int 1)), g) := by
    unfold f90
    rw [if_neg (nI_pos (by omega)), if_neg (nI_nlt (by omega) (by omega))]
  have v0 : v = 0 := by
    rcases hv2 with ⟨h1, -⟩ | ⟨-, h2, h3⟩
    · exact h1
    · rcases hg with z | z
      · exact absurd z h2
      · exact absurd z h3
  subst v0
  unfold f139 f139_12 f139_37 f139_38 f139_51 f139_65 f139_66 f139_82
  rw [if_neg n38', if_neg (by decide), h, p38, e9]
  simp (decide := true) only [reduceIte, hv, m_ci, m88]
abbrev SCt : List Nat := [2, 3, 4, 14, 15, 16, 17, 18, 19, 22, 23]
abbrev ACt : List Nat := [25, 26, 27, 28, 29, 30, 31]
abbrev SMt : List Nat := [24, 39, 40, 41, 42, 43, 44, 45]
abbrev AMt : List Nat := [49, 50, 51, 52, 53, 54, 55]
/-- what is kept of the invariant, whatever a transaction does -/
theorem J_of {g1 g2 : mG} (h : J g) (h1 : ∀ i, i ∉ SCt → g1.1 i = g.1 i) (h1a : ∀ x, x ∉ ACt → g1.2.1 x = g.2.1 x) (h2 : ∀ i, i ∉ SMt → g2.1 i = g1.1 i) (h2a : ∀ x, x ∉ AMt → g2.2.1 x = g1.2.1 x) (hK : ∃ s, VK g2 g2 s) (hR : JR g2) : J g2 := by
  obtain ⟨⟨N, hT⟩, -, -, hC⟩ := h
  have s : ∀ i, i ∉ SCt → i ∉ SMt → g2.1 i = g.1 i := fun i x y => (h2 i y).trans (h1 i x)
  have r : ∀ i, i ∉ ACt → i ∉ AMt → g2.2.1 i = g.2.1 i := fun i x y => (h2a i y).trans (h1a i x)
  exact ⟨⟨N, hT.kp (s 0 (by simp) (by simp)) (s 25 (by simp) (by simp)) (r 8 (by simp) (by simp)) (r 32 (by simp) (by simp))⟩, hK, hR, hC.kp (s 1 (by simp) (by simp)) (s 38 (by simp) (by simp)) (s 20 (by simp) (by simp)) (s 21 (by simp) (by simp)) (fun x z y => r x (by simp; omega) (by simp; omega)) (fun x z y => r x (by simp; omega) (by simp; omega))⟩
theorem p_call {f gas : Int32} (hn : 1000100 ≤ n) (h : J g) : PO (f153 n f gas a b c g) (f139 n f gas a b c) := by
  obtain ⟨⟨N, hT⟩, ⟨s, hK⟩, hR, hC⟩ := id h
  unfold f153 f84
  rcases hC with ⟨c1, c2⟩ | ⟨c1, C, m, q, ht, rk, hq1, c2, hA, hCo⟩
  · rw [if_neg (fun z => z c1)]
    exact ⟨1, 0, g, _, by simp [m_ti], m139_1 c2, by simp [rI], fun z => absurd z (by decide), h.thr 1⟩
  · rw [if_pos (by rw [c1]; decide)]
    have hq8 := hCo.2.1
    by_cases hf : f < 0 ∨ nI q ≤ f
    · have e36 : f36_5 n f g = some (.inl (some (.int 0)), g) := by
        unfold f36_5
        by_cases h1 : f < 0
        · rw [if_pos h1]
        · rw [if_neg h1, hA.2.1, if_pos (hf.elim (fun z => absurd z h1) id)]
      rw [e36]
      simp only [m_ci]
      rw [if_neg (by decide)]
      exact ⟨2, 0, g, _, by simp [m_ti], m139_2 hq1 hq8 c2 hf, by simp [rI], fun z => absurd z (by decide), h.thr 2⟩
    · have hf1 : ¬ f < 0 := fun z => hf (Or.inl z)
      obtain ⟨j, hj0, rfl⟩ := nI_of hf1
      have hj : j < q := by
        rcases Nat.lt_or_ge j q with z | z
        · exact z
        · exact absurd (Or.inr (nI_le z (by omega))) hf
      rw [c36 hA.2.1 hj hq8, m_ci_s]
      rw [if_pos (by decide)]
      by_cases hg : gas < 0 ∨ 50000 < gas
      · have ec : ∀ K : mZ, (if gas < 0 then f84_51 n g else if gas ≤ 50000 then K else f84_51 n g) = some (.inr 1, g) := by
          intro K
          unfold f84_51
          by_cases h1 : gas < 0
          · rw [if_pos h1]
          · rw [if_neg h1, if_neg (fun z => absurd (hg.elim (fun z => absurd z h1) id) (Int32.not_lt.mpr z))]
        rw [ec]
        exact ⟨3, 0, g, _, by simp [m_ti], m139_3 hq8 c2 hj hg, by simp [rI], fun z => absurd z (by decide), h.thr 3⟩
      · have hg1 : ¬ gas < 0 := fun z => hg (Or.inl z)
        have hg2 : ¬ 50000 < gas := fun z => hg (Or.inr z)
        obtain ⟨L, hL0, rfl⟩ := nI_of hg1
        have hL : L ≤ 50000 := by
          rcases Nat.lt_or_ge 50000 L with z | z
          · exact absurd (show (50000 : Int32) < nI L from nI_lt (a := 50000) (b := L) z hL0) hg2
          · exact z
        rw [if_neg hg1, if_pos (show nI L ≤ (50000 : Int32) from nI_le (b := 50000) hL (by decide))]
        obtain ⟨x1, x2, e, P, x3, x4, x5, x6, x7⟩ := hCo.2.2.2.2.1 j hj
        obtain ⟨k1, k2, k3, k4, k5, k6⟩ := id hK
        obtain ⟨gc, y1, y2, y3, y4, y5, y6, y7, y8, y9, y10⟩ := c_pre (n := n) (a := a) (b := b) (c := c) (gas := nI L) (by omega) hCo hA hj k1 k3 x3 x4 x6
        -- the reference begins alike in every state with its part the same
        have key : ∀ g1 : mG, (∀ i, 24 ≤ i → g1.1 i = g.1 i) → (∀ x, 32 ≤ x → g1.2.1 x = g.2.1 x) → ∃ gm, f139 n (nI j) (nI L) a b c g1 = f139_213 n n (nI L) (nI e) gm ∧ gm.1 24 = 0 ∧ gm.1 40 = nI s ∧ (∀ i, i < s → gm.2.1 51 i = g.2.1 28 i ∧ gm.2.1 52 i = g.2.1 29 i) ∧ ChgM [24, 40, 41, 42] [51, 52, 53, 54, 55] g1 gm ∧ VR C m q ht rk (fun _ => 0) gc gm 0 0 e 0 s := by
          intro g1 z1 z2
          obtain ⟨gm, w1, w2, w3, w4, w5, w6, w7, w8, w9, w10⟩ := m_pre (n := n) (g := g1) (a := a) (b := b) (c := c) (f := j) (s := s) (L := L) (by omega) hCo (by rw [z2 45 (by omega)]; exact hA.2.2.2.2.2.2.1) (by rw [z2 46 (by omega)]; exact hA.2.2.2.2.2.2.2.1) (by rw [z1 38 (by omega)]; exact c2) hj (by rw [z1 39 (by omega)]; exact k2) k3 hL x3 x4 x6
          refine ⟨gm, w1, w2, w7, fun i hi => ?_, w10, ⟨⟨?_, ?_, ?_, ?_, ?_, ?_, ?_, ?_, ?_, ?_⟩, ⟨y2, w3, fun i hi => by omega⟩, fun i hi => ?_, ⟨y3, w4, by omega, rfl, w5, fun i h1 h2 => by omega⟩, ⟨?_, ?_, k3, ?_, ?_, ?_⟩, y4, y6, w6, x5, by rw [x7]⟩⟩
          · rw [(w9 i hi).1, (w9 i hi).2, z2 49 (by omega), z2 50 (by omega), k4, k5]; exact ⟨rfl, rfl⟩
          · rw [y10.1 20 (by simp)]; exact hA.1
          · rw [y10.1 21 (by simp)]; exact hA.2.1
          · rw [y10.2.1 21 (by simp)]; exact hA.2.2.1
          · rw [y10.2.1 22 (by simp)]; exact hA.2.2.2.1
          · rw [y10.2.1 23 (by simp)]; exact hA.2.2.2.2.1
          · rw [y10.2.1 24 (by simp)]; exact hA.2.2.2.2.2.1
          · rw [w10.2.1 45 (by simp), z2 45 (by omega)]; exact hA.2.2.2.2.2.2.1
          · rw [w10.2.1 46 (by simp), z2 46 (by omega)]; exact hA.2.2.2.2.2.2.2.1
          · rw [w10.2.1 47 (by simp), z2 47 (by omega)]; exact hA.2.2.2.2.2.2.2.2.1
          · rw [w10.2.1 48 (by simp), z2 48 (by omega)]; exact hA.2.2.2.2.2.2.2.2.2
          · rw [y8 i (by omega), w8 i (by omega)]
          · rw [y10.1 22 (by simp)]; exact k1
          · rw [w10.1 39 (by simp), z1 39 (by omega)]; exact k2
          · rw [y10.2.1 28 (by simp), w10.2.1 49 (by simp), z2 49 (by omega)]; exact k4
          · rw [y10.2.1 29 (by simp), w10.2.1 50 (by simp), z2 50 (by omega)]; exact k5
          · rw [y10.2.1 28 (by simp)]; exact k6
        have rke := hCo.2.2.2.1 e
        have run : ∀ gm, VR C m q ht rk (fun _ => 0) gc gm 0 0 e 0 s → _ := fun gm hv => vm_loop (n := n) (L := L) (by omega) hCo hL 900018 gc gm 0 0 e 0 s (fun _ => 0) 0 n n hv y5 (by omega) (by omega) (by omega) (by omega) (by omega)
        obtain ⟨gm0, -, -, -, -, -, hv0⟩ := key g (fun _ _ => rfl) (fun _ _ => rfl)
        obtain ⟨g', gmx, cx, r1, r2, rx3, rx24, rx4, rx5, r6⟩ := run gm0 hv0
        have oc3 : g'.1 17 = 1 ∨ g'.1 17 = 2 ∨ g'.1 17 = 0 := by
          rcases r6 with z | z | z
          · exact Or.inl z.1
          · exact Or.inr (Or.inl z.1)
          · exact Or.inr (Or.inr z.1)
        have hcc : Chg SCt ACt g g' := (y10.mono (by simp) (by simp)).tr (r2.mono (by simp) (by simp))
        rw [y1]
        have r1' : f42_55 n n (nI L) 0 gc = some (.inl (some (.int (g'.1 17))), g') := r1
        rw [r1', m_ci_s]
        -- the second time, in the state that the class left
        have again : ∀ g1 : mG, (∀ i, 24 ≤ i → g1.1 i = g'.1 i) → (∀ x, 32 ≤ x → g1.2.1 x = g'.2.1 x) → ∃ gm gm' c3, f139 n (nI j) (nI L) a b c g1 = f139_213 n n (nI L) (nI e) gm ∧ gm.1 24 = 0 ∧ gm.1 40 = nI s ∧ (∀ i, i < s → gm.2.1 51 i = g.2.1 28 i ∧ gm.2.1 52 i = g.2.1 29 i) ∧ ChgM [24, 40, 41, 42] [51, 52, 53, 54, 55] g1 gm ∧ ChgM SM AM gm gm' ∧ (gm.1 24 = 0 → gm'.1 24 = 0) ∧ g'.2.1 28 = gm'.2.1 49 ∧ g'.2.1 29 = gm'.2.1 50 ∧
            ((g'.1 17 = 1 ∧ f139_213 n n (nI L) (nI e) gm = f139_213 n (c3 + 1) (nI L) (-2) gm') ∨ (g'.1 17 = 2 ∧ f139_213 n n (nI L) (nI e) gm = f139_213 n (c3 + 1) (nI L) (-3) gm') ∨
             (g'.1 17 = 0 ∧ f139_213 n n (nI L) (nI e) gm = f139_213 n (c3 + 1) (nI L) (-1) gm' ∧ ∃ c', g'.1 18 = nI c' ∧ gm'.2.2.1 = lN c' ∧ c' ≤ 50000 ∧ (∃ s', VK g' gm' s') ∧ ∃ t', t' < 2000 ∧ gm'.1 41 = nI (t' + 1) ∧ gm'.2.1 53 t' = g'.1 19)) := by
          intro g1 z1 z2
          obtain ⟨gm, w1, w2, w3, w4, w5, w6⟩ := key g1 (fun i hi => by rw [z1 i hi, hcc.1 i (by simp; omega)]) (fun x hx => by rw [z2 x hx, hcc.2.1 x (by simp; omega)])
          obtain ⟨g'', gm', c3, u1, u2, u3, u24, u4, u5, u6⟩ := run gm w6
          have e3 : g'' = g' := by
            have := u1.symm.trans r1
            simp only [Option.some.injEq, Prod.mk.injEq] at this
            exact this.2
          subst e3
          exact ⟨gm, gm', c3, w1, w2, w3, w4, w5, u3, u24, u4, u5, u6⟩
        by_cases hd : g'.1 17 = 0
        · -- done
          rw [if_neg (fun z => z hd)]
          have e84 : f84_97 n (nI L) (g'.1 17) 1 g' = some (.inl (some (.int (g'.1 17))), gI (gI (gI g' 2 (g'.1 19)) 3 (g'.1 18)) 4 (g'.1 4 + 1)) := by
            unfold f84_97 f84_114 f84_131 f84_151
            simp (decide := true) only [reduceIte]
            rfl
          rw [e84]
          simp only [m_ti]
          rw [if_neg w00]
          obtain ⟨gm, gm', c3, w1, w2, w3, w4, w5, w6, w24, w7, w8, w9⟩ := again (gO (gI (gI (gI g' 2 (g'.1 19)) 3 (g'.1 18)) 4 (g'.1 4 + 1)) (vp_updL g'.2.2.2 (Int32.toNatClampNeg 0) (Int32.toInt64 (g'.1 17)))) (fun i hi => by show (gI (gI (gI g' 2 (g'.1 19)) 3 (g'.1 18)) 4 (g'.1 4 + 1)).1 i = g'.1 i; rw [rI, if_neg (by omega), rI, if_neg (by omega), rI, if_neg (by omega)]) (fun x _ => rfl)
          rcases w9 with ⟨z, -⟩ | ⟨z, -⟩ | ⟨-, z1, c', z2, z3, z4, ⟨s', z5⟩, t', z6, z7, z8⟩
          · rw [hd] at z; exact absurd z (by decide)
          · rw [hd] at z; exact absurd z (by decide)
          · have em : f139_213 n (c3 + 1) (nI L) (-1) gm' = some (.inl (some (.int 0)), gI (gI (gI (gI gm' 45 (gm'.1 45 + 1)) 41 (nI t')) 43 (g'.1 19)) 44 (nI c')) := by
              rw [f139_213, if_pos (by decide), if_neg (fun z => z rfl), m142 (t := t') (by simp [rI, z7]) (by omega)]
              simp only [m_ci]
              unfold f139_289 f139_308
              rw [if_neg (fun z => z rfl), if_pos (by decide)]
              have e1 : (gI gm' 45 (gm'.1 45 + 1)).2.1 53 t' = g'.1 19 := z8
              have e2 : (gI (gI gm' 45 (gm'.1 45 + 1)) 41 (nI t')).2.2.1 = lN c' := z3
              rw [e1, e2, lN_i]
              rfl
            refine ⟨0, 0, _, _, rfl, w1.trans (z1.trans em), ?_, fun _ => ?_, ?_⟩
            · simp only [rI]; simp (decide := true) only [reduceIte]
              exact w24 w2
            · show gm'.2.2.2 0 = _
              rw [w6.2.2, w5.2.2, hd]; exact out0 g'.2.2.2 _
            · refine J_of (g1 := gI (gI (gI g' 2 (g'.1 19)) 3 (g'.1 18)) 4 (g'.1 4 + 1)) h ?_ ?_ ?_ ?_ ⟨s', ?_⟩ ⟨?_, ?_, ?_⟩
              · intro i hi
                simp at hi
                rw [rI, if_neg (by omega), rI, if_neg (by omega), rI, if_neg (by omega)]
                exact hcc.1 i (by simp; omega)
              · intro x hx; exact hcc.2.1 x hx
              · intro i hi
                simp at hi
                rw [rI, if_neg (by omega), rI, if_neg (by omega), rI, if_neg (by omega), rI, if_neg (by omega), w6.1 i (by simp; omega)]
                exact w5.1 i (by simp; omega)
              · intro x hx
                simp at hx
                show gm'.2.1 x = _
                rw [w6.2.1 x (by simp; omega)]
                exact w5.2.1 x (by simp; omega)
              · refine ⟨?_, ?_, z5.2.2.1, ?_, ?_, ?_⟩
                · simp only [rI]; simp (decide := true) only [reduceIte]; rw [w6.1 22 (by simp), w5.1 22 (by simp)]; exact z5.1
                · simp only [rI]; simp (decide := true) only [reduceIte]; exact z5.2.1
                · show gm'.2.1 28 = gm'.2.1 49; rw [w6.2.1 28 (by simp), w5.2.1 28 (by simp)]; exact z5.2.2.2.1
                · show gm'.2.1 29 = gm'.2.1 50; rw [w6.2.1 29 (by simp), w5.2.1 29 (by simp)]; exact z5.2.2.2.2.1
                · show Dst (gm'.2.1 28) s'; rw [w6.2.1 28 (by simp), w5.2.1 28 (by simp)]; exact z5.2.2.2.2.2
              · simp only [rI]; simp (decide := true) only [reduceIte]; rw [w6.1 2 (by simp), w5.1 2 (by simp)]; show (gI (gI (gI g' 2 (g'.1 19)) 3 (g'.1 18)) 4 (g'.1 4 + 1)).1 2 = _; simp [rI]
              · simp only [rI]; simp (decide := true) only [reduceIte]; rw [w6.1 3 (by simp), w5.1 3 (by simp)]; show (gI (gI (gI g' 2 (g'.1 19)) 3 (g'.1 18)) 4 (g'.1 4 + 1)).1 3 = _; simp [rI, z2]
              · simp only [rI]; simp (decide := true) only [reduceIte]; rw [w6.1 4 (by simp), w5.1 4 (by simp), w6.1 45 (by simp), w5.1 45 (by simp)]; show (gI (gI (gI g' 2 (g'.1 19)) 3 (g'.1 18)) 4 (g'.1 4 + 1)).1 4 = (gI (gI (gI g' 2 (g'.1 19)) 3 (g'.1 18)) 4 (g'.1 4 + 1)).1 45 + 1; simp only [rI]; simp (decide := true) only [reduceIte]; rw [r2.1 4 (by simp), y10.1 4 (by simp), r2.1 45 (by simp), y10.1 45 (by simp), hR.2.2]
        · -- failed or refused
          rw [if_pos hd]
          have h23 : g'.1 23 = nI s := by rw [r2.1 23 (by simp)]; exact y7
          obtain ⟨g6, q1, q2, q3, q4, q5⟩ := c60 (n := n) h23 k3
          have e84 : f84_97 n (nI L) (g'.1 17) 0 g' = some (.inl (some (.int (g'.1 17))), gI (gI (gI g6 2 0) 3 (nI L)) 4 (g6.1 4 + 1)) := by
            unfold f84_97 f84_114 f84_131 f84_151
            simp (decide := true) only [reduceIte, q1, m_cv]
            rfl
          rw [e84]
          simp only [m_ti]
          rw [if_neg w00]
          obtain ⟨gm, gm', c3, w1, w2, w3, w4, w5, w6, w24, w7, w8, w9⟩ := again (gO (gI (gI (gI g6 2 0) 3 (nI L)) 4 (g6.1 4 + 1)) (vp_updL g6.2.2.2 (Int32.toNatClampNeg 0) (Int32.toInt64 (g'.1 17)))) (fun i hi => by show (gI (gI (gI g6 2 0) 3 (nI L)) 4 (g6.1 4 + 1)).1 i = g'.1 i; rw [rI, if_neg (by omega), rI, if_neg (by omega), rI, if_neg (by omega)]; exact q5.1 i (by simp; omega)) (fun x hx => by show g6.2.1 x = g'.2.1 x; exact q5.2.1 x (by simp; omega))
          have m40 : gm'.1 40 = nI s := by rw [w6.1 40 (by simp)]; exact w3
          obtain ⟨x8, b8, hx8, e8⟩ : ∃ x8 b8 : Int32, (x8 = -2 ∧ g'.1 17 = 1 ∧ b8 = 1 ∨ x8 = -3 ∧ g'.1 17 = 2 ∧ b8 = 2) ∧ f139_213 n n (nI L) (nI e) gm = f139_213 n (c3 + 1) (nI L) x8 gm' := by
            rcases w9 with ⟨z, z1⟩ | ⟨z, z1⟩ | ⟨z, -⟩
            · exact ⟨-2, 1, Or.inl ⟨rfl, z, rfl⟩, z1⟩
            · exact ⟨-3, 2, Or.inr ⟨rfl, z, rfl⟩, z1⟩
            · exact absurd z hd
          obtain ⟨g9, v1, v2, v3, v4⟩ := m328 (n := n) (x8 := x8) k3 s 0 n (gI (gI (gI (gI gm' 45 (gm'.1 45 + 1)) 43 0) 44 (nI L)) 39 (nI s)) (by omega) (by omega) (by simp [rI])
          have em : f139_213 n (c3 + 1) (nI L) x8 gm' = some (.inl (some (.int b8)), g9) := by
            have hb : -1 - x8 = b8 := by rcases hx8 with ⟨rfl, -, rfl⟩ | ⟨rfl, -, rfl⟩ <;> decide
            have t1 : x8 < 0 := by rcases hx8 with ⟨rfl, -, rfl⟩ | ⟨rfl, -, rfl⟩ <;> decide
            have t2 : ¬ x8 = -1 := by rcases hx8 with ⟨rfl, -, rfl⟩ | ⟨rfl, -, rfl⟩ <;> decide
            have t3 : ¬ (-1 : Int32) ≤ x8 := by rcases hx8 with ⟨rfl, -, rfl⟩ | ⟨rfl, -, rfl⟩ <;> decide
            rw [f139_213, if_pos t1, if_pos t2]
            unfold f139_289 f139_308
            rw [if_pos t2, if_neg t3]
            have e40 : (gI (gI gm' 45 (gm'.1 45 + 1)) 43 0).1 40 = nI s := by simp [rI, m40]
            rw [e40, ← hb]
            exact v1
          have h0g : ∀ i, i < 24 → i ≠ 2 → i ≠ 3 → i ≠ 4 → g9.1 i = g6.1 i := by
            intro i hi n2 n3 n4
            rw [v4.1 i (by simp), rI, if_neg (by omega), rI, if_neg (by omega), rI, if_neg (by omega), rI, if_neg (by omega), w6.1 i (by simp; omega), w5.1 i (by simp; omega)]
            show (gI (gI (gI g6 2 0) 3 (nI L)) 4 (g6.1 4 + 1)).1 i = _
            rw [rI, if_neg (by omega), rI, if_neg (by omega), rI, if_neg (by omega)]
          have hK2 : ∀ x, x < 32 → g9.2.1 x = g6.2.1 x := by
            intro x hx
            rw [v4.2.1 x (by simp; omega)]
            show gm'.2.1 x = _
            rw [w6.2.1 x (by simp; omega), w5.2.1 x (by simp; omega)]
            rfl
          have k51 : ∀ i, i < s → gm'.2.1 51 i = g.2.1 28 i ∧ gm'.2.1 52 i = g.2.1 29 i := by
            intro i hi
            rw [w6.2.1 51 (by simp), w6.2.1 52 (by simp)]
            exact w4 i hi
          have k30 : ∀ i, i < s → g'.2.1 30 i = g.2.1 28 i ∧ g'.2.1 31 i = g.2.1 29 i := by
            intro i hi
            rw [r2.2.1 30 (by simp), r2.2.1 31 (by simp)]
            exact y9 i hi
          have f28 : g9.2.1 28 = g9.2.1 49 := by
            rw [hK2 28 (by omega), q3, v2]
            funext i
            by_cases hi : i < s
            · rw [if_pos hi, if_pos (by omega), (k30 i hi).1]; exact (k51 i hi).1.symm
            · rw [if_neg hi, if_neg (by omega), w7]; rfl
          have f29 : g9.2.1 29 = g9.2.1 50 := by
            rw [hK2 29 (by omega), q4, v3]
            funext i
            by_cases hi : i < s
            · rw [if_pos hi, if_pos (by omega), (k30 i hi).2]; exact (k51 i hi).2.symm
            · rw [if_neg hi, if_neg (by omega), w8]; rfl
          refine ⟨0, b8, _, g9, rfl, w1.trans (e8.trans em), ?_, fun _ => ?_, ?_⟩
          · rw [v4.1 24 (by simp)]; simp only [rI]; simp (decide := true) only [reduceIte]; exact w24 w2
          · rw [v4.2.2]
            show gm'.2.2.2 0 = _
            rw [w6.2.2, w5.2.2]
            have hb : g'.1 17 = b8 := by rcases hx8 with ⟨-, z, rfl⟩ | ⟨-, z, rfl⟩ <;> exact z
            rw [← hb]
            exact out0 g6.2.2.2 _
          · refine J_of (g1 := gI (gI (gI g6 2 0) 3 (nI L)) 4 (g6.1 4 + 1)) h ?_ ?_ ?_ ?_ ⟨s, ?_⟩ ⟨?_, ?_, ?_⟩
            · intro i hi
              simp at hi
              rw [rI, if_neg (by omega), rI, if_neg (by omega), rI, if_neg (by omega), q5.1 i (by simp; omega)]
              exact hcc.1 i (by simp; omega)
            · intro x hx
              simp at hx
              show g6.2.1 x = _
              rw [q5.2.1 x (by simp; omega)]
              exact hcc.2.1 x (by simp; omega)
            · intro i hi
              simp at hi
              rw [v4.1 i (by simp), rI, if_neg (by omega), rI, if_neg (by omega), rI, if_neg (by omega), rI, if_neg (by omega), w6.1 i (by simp; omega)]
              exact w5.1 i (by simp; omega)
            · intro x hx
              simp at hx
              rw [v4.2.1 x (by simp; omega)]
              show gm'.2.1 x = _
              rw [w6.2.1 x (by simp; omega)]
              exact w5.2.1 x (by simp; omega)
            · refine ⟨?_, ?_, k3, f28, f29, ?_⟩
              · rw [h0g 22 (by omega) (by omega) (by omega) (by omega)]; exact q2
              · rw [v4.1 39 (by simp)]; simp [rI]
              · intro i1 i2 h1 h2 e12
                rw [hK2 28 (by omega), q3] at e12
                simp only [if_pos h1, if_pos h2] at e12
                rw [(k30 i1 h1).1, (k30 i2 h2).1] at e12
                exact k6 i1 i2 h1 h2 e12
            · rw [v4.1 2 (by simp), v4.1 43 (by simp)]; simp only [rI]; simp (decide := true) only [reduceIte]; rw [w6.1 2 (by simp), w5.1 2 (by simp)]; show (gI (gI (gI g6 2 0) 3 (nI L)) 4 (g6.1 4 + 1)).1 2 = 0; simp [rI]
            · rw [v4.1 3 (by simp), v4.1 44 (by simp)]; simp only [rI]; simp (decide := true) only [reduceIte]; rw [w6.1 3 (by simp), w5.1 3 (by simp)]; show (gI (gI (gI g6 2 0) 3 (nI L)) 4 (g6.1 4 + 1)).1 3 = nI L; simp [rI]
            · rw [v4.1 4 (by simp), v4.1 45 (by simp)]; simp only [rI]; simp (decide := true) only [reduceIte]; rw [w6.1 4 (by simp), w5.1 4 (by simp), w6.1 45 (by simp), w5.1 45 (by simp)]; show (gI (gI (gI g6 2 0) 3 (nI L)) 4 (g6.1 4 + 1)).1 4 = (gI (gI (gI g6 2 0) 3 (nI L)) 4 (g6.1 4 + 1)).1 45 + 1; simp only [rI]; simp (decide := true) only [reduceIte]; rw [q5.1 4 (by simp), q5.1 45 (by simp), r2.1 4 (by simp), y10.1 4 (by simp), r2.1 45 (by simp), y10.1 45 (by simp), hR.2.2]
end Call3
