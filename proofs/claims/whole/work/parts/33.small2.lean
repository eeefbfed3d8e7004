/-! the invariant between calls, and the small calls -/
def JC (g : mG) : Prop := (g.1 1 = 0 ∧ g.1 38 = 0) ∨ (g.1 1 = 1 ∧ ∃ (C : Nat → Nat → Int32) (m q : Nat) (ht rk : Nat → Nat), 1 ≤ q ∧ g.1 38 = nI q ∧ VA C m q g g ∧ Code C m q ht rk)
def J (g : mG) : Prop := (∃ N, JT g N) ∧ (∃ s, VK g g s) ∧ JR g ∧ JC g
theorem J.thr {g : mG} (h : J g) (v : Int32) : J (gI g 24 v) := h
theorem J.out {g : mG} (h : J g) (f : Nat → Int64) : J (gO g f) := h
theorem JC.kp {g g' : mG} (h : JC g) (h1 : g'.1 1 = g.1 1) (h2 : g'.1 38 = g.1 38) (h3 : g'.1 20 = g.1 20) (h4 : g'.1 21 = g.1 21) (h5 : ∀ a, 21 ≤ a → a ≤ 24 → g'.2.1 a = g.2.1 a) (h6 : ∀ a, 45 ≤ a → a ≤ 48 → g'.2.1 a = g.2.1 a) : JC g' := by
  unfold JC VA
  rw [h1, h2, h3, h4, h5 21 (by omega) (by omega), h5 22 (by omega) (by omega), h5 23 (by omega) (by omega), h5 24 (by omega) (by omega), h6 45 (by omega) (by omega), h6 46 (by omega) (by omega), h6 47 (by omega) (by omega), h6 48 (by omega) (by omega)]
  exact h
theorem w00 : ¬ ((0 : Int32) < 0 ∨ 1 ≤ Int32.toNatClampNeg (0 : Int32)) := by decide
theorem out0 (f : Nat → Int64) (v : Int64) : vp_updL f (Int32.toNatClampNeg (0 : Int32)) v 0 = v := by
  have e : Int32.toNatClampNeg (0 : Int32) = 0 := by decide
  rw [e]
  simp [vp_updL]
/-- a call whose answer goes through the law's long: class, reference -/
def PO (rc : mZ) (rm : mG → mZ) : Prop := ∃ k b g1 g2, rc = some (.inl (some (.int k)), g1) ∧ rm g1 = some (.inl (some (.int b)), g2) ∧ g2.1 24 = k ∧ (k = 0 → g2.2.2.2 0 = Int32.toInt64 b) ∧ J g2
section Small
variable {n : Nat} {g : mG} {x : Int32}
theorem p_put (hn : 5 ≤ n) (h : J g) : PO (f150 n x g) (f87 n x) := by
  obtain ⟨⟨N, t1, t2, t3, t4⟩, ⟨s, hK⟩, hR, hC⟩ := id h
  unfold f150
  rcases c80 (x := x) hn t1 t3 with ⟨hb, e⟩ | ⟨hb, h6, e⟩ | ⟨hb, h6, g', e, e1, e2, e3⟩
  · rw [e]
    exact ⟨1, 0, g, _, by simp [m_ti], (m87 hn t2 t3).1 hb, by simp [rI], fun z => absurd z (by decide), h.thr 1⟩
  · rw [e]
    exact ⟨2, 0, g, _, by simp [m_ti], (m87 hn t2 t3).2.1 hb h6, by simp [rI], fun z => absurd z (by decide), h.thr 2⟩
  · rw [e]
    simp only [m_ti]
    rw [if_neg w00]
    have t2' : (gO g' (vp_updL g'.2.2.2 (Int32.toNatClampNeg 0) (Int32.toInt64 (nI (p4 x (g.2.1 8, N)).2)))).1 25 = nI N := by show g'.1 25 = nI N; rw [e3.1 25 (by simp)]; exact t2
    obtain ⟨g2, q1, q2, q3, q4, q5⟩ := (m87 (x := x) hn t2' t3).2.2 hb h6
    have ea : (gO g' (vp_updL g'.2.2.2 (Int32.toNatClampNeg 0) (Int32.toInt64 (nI (p4 x (g.2.1 8, N)).2)))).2.1 32 = g.2.1 8 := by show g'.2.1 32 = _; rw [e3.2.1 32 (by simp), t4]
    rw [ea] at q1 q3 q4
    refine ⟨0, _, _, g2, rfl, q1, q2, fun _ => ?_, ⟨(p4 x (g.2.1 8, N)).2, ?_, q3, ?_, ?_⟩, ⟨s, ?_⟩, ?_, ?_⟩
    · rw [q5.2.2]; exact out0 g'.2.2.2 _
    · rw [q5.1 0 (by simp)]; exact e1
    · rw [p4_2]; exact h6
    · rw [q5.2.1 8 (by simp), q4]; exact e2
    · exact hK.kp (by rw [q5.1 22 (by simp)]; exact e3.1 22 (by simp)) (by rw [q5.1 39 (by simp)]; exact e3.1 39 (by simp)) (by rw [q5.2.1 28 (by simp)]; exact e3.2.1 28 (by simp)) (by rw [q5.2.1 29 (by simp)]; exact e3.2.1 29 (by simp)) (by rw [q5.2.1 49 (by simp)]; exact e3.2.1 49 (by simp)) (by rw [q5.2.1 50 (by simp)]; exact e3.2.1 50 (by simp))
    · exact hR.kp (by rw [q5.1 2 (by simp)]; exact e3.1 2 (by simp)) (by rw [q5.1 43 (by simp)]; exact e3.1 43 (by simp)) (by rw [q5.1 3 (by simp)]; exact e3.1 3 (by simp)) (by rw [q5.1 44 (by simp)]; exact e3.1 44 (by simp)) (by rw [q5.1 4 (by simp)]; exact e3.1 4 (by simp)) (by rw [q5.1 45 (by simp)]; exact e3.1 45 (by simp))
    · exact hC.kp (by rw [q5.1 1 (by simp)]; exact e3.1 1 (by simp)) (by rw [q5.1 38 (by simp)]; exact e3.1 38 (by simp)) (by rw [q5.1 20 (by simp)]; exact e3.1 20 (by simp)) (by rw [q5.1 21 (by simp)]; exact e3.1 21 (by simp)) (fun a h1 h2 => by rw [q5.2.1 a (by simp; omega)]; exact e3.2.1 a (by simp; omega)) (fun a h1 h2 => by rw [q5.2.1 a (by simp; omega)]; exact e3.2.1 a (by simp; omega))
theorem p_end (h : J g) : ∃ k g1 g2, f151 n x g = some (.inl (some (.int k)), g1) ∧ f89 n x g1 = some (.inl none, g2) ∧ g2.1 24 = k ∧ J g2 := by
  obtain ⟨⟨N, t1, t2, t3, t4⟩, ⟨s, hK⟩, hR, hC⟩ := id h
  unfold f151 f82 f82_12
  by_cases h1 : x < 0
  · rw [if_pos h1]
    refine ⟨1, g, gI g 24 1, by simp [m_tv], ?_, by simp [rI], h.thr 1⟩
    unfold f89 f90 f89_18
    rw [if_pos h1]
    simp [m_ci, m88]
  · rw [if_neg h1, t1]
    obtain ⟨j, hj, rfl⟩ := nI_of h1
    by_cases h2 : j ≤ N
    · rw [if_pos (nI_le h2 (by omega))]
      refine ⟨0, _, gI (gI (gI g 0 (nI j)) 24 0) 25 (nI j), rfl, ?_, by simp [rI], ⟨j, by simp [rI], by simp [rI], by omega, t4⟩, ⟨s, hK⟩, hR, hC⟩
      unfold f89 f90 f89_18
      have e25 : (gI g 0 (nI j)).1 25 = nI N := by simp [rI, t2]
      rw [if_neg h1, e25, if_neg (nI_nlt (by omega) (by omega))]
      simp [m_ci, m88]
    · rw [if_neg (nI_ge (by omega) (by omega))]
      refine ⟨1, g, gI g 24 1, by simp [m_tv], ?_, by simp [rI], h.thr 1⟩
      unfold f89 f90 f89_18
      rw [if_neg h1, t2, if_pos (nI_lt (by omega) (by omega))]
      simp [m_ci, m88]
theorem p_result (h : J g) : PO (f154 n x g) (f149 n x) := by
  obtain ⟨hT, hK, ⟨r1, r2, r3⟩, hC⟩ := id h
  unfold f154 f85
  by_cases h0 : x = 0
  · subst h0
    rw [if_pos rfl]
    simp only [m_ti]
    rw [if_neg w00]
    refine ⟨0, g.1 43, _, gI (gO g (vp_updL g.2.2.2 (Int32.toNatClampNeg 0) (Int32.toInt64 (g.1 2)))) 24 0, rfl, ?_, by simp [rI], fun _ => by rw [← r1]; exact out0 g.2.2.2 _, (h.out _).thr 0⟩
    unfold f149 f90 f149_15
    simp (decide := true) only [reduceIte, m_ci, m88]
    rfl
  · rw [if_neg h0]
    by_cases h1 : x = 1
    · subst h1
      rw [if_pos rfl]
      simp only [m_ti]
      rw [if_neg w00]
      refine ⟨0, g.1 44, _, gI (gO g (vp_updL g.2.2.2 (Int32.toNatClampNeg 0) (Int32.toInt64 (g.1 3)))) 24 0, rfl, ?_, by simp [rI], fun _ => by rw [← r2]; exact out0 g.2.2.2 _, (h.out _).thr 0⟩
      unfold f149 f90 f149_15
      simp (decide := true) only [reduceIte, m_ci, m88]
      rfl
    · rw [if_neg h1]
      by_cases h2 : x = 2
      · subst h2
        rw [if_pos rfl]
        simp only [m_ti]
        rw [if_neg w00]
        refine ⟨0, g.1 45, _, gI (gO g (vp_updL g.2.2.2 (Int32.toNatClampNeg 0) (Int32.toInt64 (g.1 4)))) 24 0, rfl, ?_, by simp [rI], fun _ => by rw [← r3]; exact out0 g.2.2.2 _, (h.out _).thr 0⟩
        unfold f149 f90 f149_15
        simp (decide := true) only [reduceIte, m_ci, m88]
        rfl
      · rw [if_neg h2]
        refine ⟨1, 0, g, gI g 24 1, by simp [m_ti], ?_, by simp [rI], fun z => absurd z (by decide), h.thr 1⟩
        have h9 : f90 n x 0 2 g = some (.inl (some (.int 0)), g) := by
          unfold f90
          by_cases h3 : x < 0
          · rw [if_pos h3]
          · rw [if_neg h3]
            obtain ⟨j, hj, rfl⟩ := nI_of h3
            rw [if_pos (show (2 : Int32) < nI j from nI_lt (a := 2) (b := j) (by
              rcases Nat.lt_or_ge 2 j with h4 | h4
              · exact h4
              · have : j = 0 ∨ j = 1 ∨ j = 2 := by omega
                rcases this with rfl | rfl | rfl
                · exact absurd rfl h0
                · exact absurd rfl h1
                · exact absurd rfl h2) hj)]
        unfold f149 f149_15
        rw [h9]
        simp [m_ci, m88]
theorem p_load (hn : 40 ≤ n) (h : J g) : ∃ v g1, f78 n x g = some (.inl (some (.int v)), g) ∧ f137 n x g = some (.inl (some (.int v)), g1) ∧ J g1 := by
  obtain ⟨-, ⟨s, k1, k2, k3, k4, k5, k6⟩, -, -⟩ := id h
  obtain ⟨v, hv⟩ := stv_ex (g.2.1 28) (g.2.1 29) s x
  refine ⟨v, gI g 24 0, ?_, m137 hn k2 k3 (by rw [← k4]; exact k6) (by rw [← k4, ← k5]; exact hv), h.thr 0⟩
  unfold f78
  rw [c56 hn k1 k3 k6 hv]
  rfl
theorem p_stored (h : J g) : ∃ v g1, f79 n g = some (.inl (some (.int v)), g) ∧ f138 n g = some (.inl (some (.int v)), g1) ∧ J g1 := by
  obtain ⟨-, ⟨s, k1, k2, k3, k4, k5, k6⟩, -, -⟩ := id h
  refine ⟨nI s, gI g 24 0, ?_, ?_, h.thr 0⟩
  · unfold f79; rw [k1]
  · unfold f138; rw [k2]
theorem p_functions (h : J g) : PO (f152 n x g) (f136 n x) := by
  obtain ⟨-, -, -, hC⟩ := id h
  unfold f152 f83
  rcases hC with ⟨c1, c2⟩ | ⟨c1, C, m, q, ht, rk, hq1, c2, hA, hCo⟩
  · rw [if_neg (fun z => z c1)]
    refine ⟨1, 0, g, gI g 24 1, by simp [m_ti], ?_, by simp [rI], fun z => absurd z (by decide), h.thr 1⟩
    unfold f136 f136_13 f136_38 f136_39
    rw [c2]
    simp (decide := true) only [reduceIte, m88, m_ci]
  · rw [if_pos (by rw [c1]; decide)]
    have hq8 := hCo.2.1
    have n38 : ¬ g.1 38 = 0 := by rw [c2]; exact nI_ne0 (by omega) (by omega)
    have n38' : ¬ g.1 38 ≤ 0 := by rw [c2]; exact nI_nle (by omega) (by omega)
    have p38 : nI q - 1 = nI (q - 1) := by rw [show nI q = nI (q - 1 + 1) by rw [Nat.sub_add_cancel hq1], nI_pred]
    by_cases hx : x = -1
    · subst hx
      rw [if_neg (fun z => z rfl)]
      simp only [m_ti]
      rw [if_neg w00]
      refine ⟨0, g.1 38, _, gI (gO g (vp_updL g.2.2.2 (Int32.toNatClampNeg 0) (Int32.toInt64 (g.1 21)))) 24 0, rfl, ?_, by simp [rI], fun _ => by rw [c2, ← hA.2.1]; exact out0 g.2.2.2 _, (h.out _).thr 0⟩
      unfold f136 f136_13 f136_38 f136_39 f90
      show (if ¬ g.1 38 = 0 then _ else _) = _
      rw [if_pos n38]
      show (if g.1 38 ≤ 0 then _ else _) = _
      rw [if_neg n38', if_neg (by decide)]
      show m_ci (if g.1 38 - 1 < -1 then _ else _) _ = _
      rw [c2, p38, if_neg (fun z => by
        have h1 := nI_pos' (n := q - 1) (by omega)
        rw [Int32.lt_iff_toInt_lt, nI_toInt (by omega)] at z
        have : (-1 : Int32).toInt = -1 := by decide
        omega)]
      simp (decide := true) only [reduceIte, m88, m_ci]
      show some (Sum.inl (some (Value.int (g.1 38))), _) = _
      rw [c2]
    · rw [if_pos hx]
      by_cases h1 : x < 0
      · have e36 : f36_5 n x g = some (.inl (some (.int 0)), g) := by unfold f36_5; rw [if_pos h1]
        rw [e36]
        simp only [m_ci]
        rw [if_neg (by decide)]
        refine ⟨2, 0, g, gI g 24 2, by simp [m_ti], ?_, by simp [rI], fun z => absurd z (by decide), h.thr 2⟩
        unfold f136 f136_13 f136_38 f136_39 f90
        have hlt : x < -1 := by
          rw [Int32.lt_iff_toInt_lt] at h1 ⊢
          have a1 : (-1 : Int32).toInt = -1 := by decide
          have a2 : (0 : Int32).toInt = 0 := by decide
          have a3 : x.toInt ≠ -1 := fun z => hx (Int32.toInt_inj.mp (by rw [z, a1]))
          omega
        rw [if_pos n38, if_neg n38', if_pos hlt]
        simp (decide := true) only [reduceIte, m88, m_ci]
      · obtain ⟨j, hj, rfl⟩ := nI_of h1
        by_cases h2 : j < q
        · rw [c36 hA.2.1 h2 hq8]
          simp only [m_ci]
          rw [if_pos (by decide), c35 hA.2.1 h2 hq8]
          simp only [m_ti]
          rw [if_neg w00]
          obtain ⟨x1, x2, -⟩ := hCo.2.2.2.2.1 j h2
          refine ⟨0, g.2.1 46 j, _, gI (gO g (vp_updL g.2.2.2 (Int32.toNatClampNeg 0) (Int32.toInt64 (g.2.1 24 j)))) 24 0, rfl, ?_, by simp [rI], fun _ => by rw [hA.2.2.2.2.2.2.2.1, x2, ← hA.2.2.2.2.2.1]; exact out0 g.2.2.2 _, (h.out _).thr 0⟩
          unfold f136 f136_13 f136_38 f136_39 f90
          show (if ¬ g.1 38 = 0 then _ else _) = _
          rw [if_pos n38]
          show (if g.1 38 ≤ 0 then _ else _) = _
          rw [if_neg n38', if_neg (fun z => by
            rw [Int32.lt_iff_toInt_lt, nI_toInt (by omega)] at z
            have : (-1 : Int32).toInt = -1 := by decide
            omega)]
          show m_ci (if g.1 38 - 1 < nI j then _ else _) _ = _
          rw [c2, p38, if_neg (nI_nlt (by omega) (by omega))]
          simp (decide := true) only [reduceIte, m88, m_ci]
          rw [if_pos (nI_pos' (by omega)), if_neg (nI_in (by omega) (by decide)), nI_clamp (by omega)]
          rfl
        · have e36 : f36_5 n (nI j) g = some (.inl (some (.int 0)), g) := by unfold f36_5; rw [if_neg h1, hA.2.1, if_pos (nI_le (by omega) (by omega))]
          rw [e36]
          simp only [m_ci]
          rw [if_neg (by decide)]
          refine ⟨2, 0, g, gI g 24 2, by simp [m_ti], ?_, by simp [rI], fun z => absurd z (by decide), h.thr 2⟩
          unfold f136 f136_13 f136_38 f136_39 f90
          rw [if_pos n38, if_neg n38', if_neg (fun z => by
            rw [Int32.lt_iff_toInt_lt, nI_toInt (by omega)] at z
            have : (-1 : Int32).toInt = -1 := by decide
            omega), c2, p38, if_pos (nI_lt (by omega) (by omega))]
          simp (decide := true) only [reduceIte, m88, m_ci]
end Small
