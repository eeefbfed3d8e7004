/-! the law's loop answers 1 -/
section Law
variable {X : Nat × (Nat → Int32)} {n : Nat}
theorem law_lt {L i : Nat} (hL : L ≤ 3072) (hi : i < 10000) : (Int32.ofNat L - (6 : Int32) < nI i) ↔ L < i + 6 := by
  have e : (Int32.ofNat L - (6 : Int32)).toInt = (L : Int) - 6 := pk_sub_toInt (a := L) (b := 6) (by omega) (by omega)
  rw [Int32.lt_iff_toInt_lt, e, nI_toInt (by omega)]
  omega
theorem lg_eq0 (x : Int64) : lg_cmp x x = 0 := by
  unfold lg_cmp
  rw [if_neg (fun h => absurd h (by simp)), if_pos rfl]
theorem p_law (hn : 1000100 ≤ n) (hL : X.1 ≤ 3072) : ∀ (c i : Nat) (g : mG), J g → X.1 < i + 6 * c → i ≤ 3078 → 1 ≤ c → ∃ g', f157_23 X n c (nI i) g = some (.inl (some (.int 1)), g') := by
  intro c
  induction c with
  | zero => intro i g hJ h1 h2 h3; omega
  | succ c ih =>
    intro i g hJ h1 h2 h3
    by_cases hz : X.1 < i + 6
    · exact ⟨g, by rw [f157_23, if_pos ((law_lt hL (by omega)).mpr hz)]⟩
    have ih' : ∀ g, J g → ∃ g', f157_23 X n c (nI (i + 6)) g = some (.inl (some (.int 1)), g') := fun g hg => ih (i + 6) g hg (by omega) (by omega) (by omega)
    clear ih
    have e1 : nI i + (1 : Int32) = nI (i + 1) := nI_add i 1
    have e2 : nI i + (2 : Int32) = nI (i + 2) := nI_add i 2
    have e3 : nI i + (3 : Int32) = nI (i + 3) := nI_add i 3
    have e4 : nI i + (4 : Int32) = nI (i + 4) := nI_add i 4
    have e5 : nI i + (5 : Int32) = nI (i + 5) := nI_add i 5
    have e6 : nI i + (6 : Int32) = nI (i + 6) := nI_add i 6
    have b0 : ¬ (nI i < 0 ∨ X.1 ≤ (nI i).toNatClampNeg) := nI_in (by omega) (by omega)
    have b1 : ¬ (nI (i + 1) < 0 ∨ X.1 ≤ (nI (i + 1)).toNatClampNeg) := nI_in (by omega) (by omega)
    have b2 : ¬ (nI (i + 2) < 0 ∨ X.1 ≤ (nI (i + 2)).toNatClampNeg) := nI_in (by omega) (by omega)
    have b3 : ¬ (nI (i + 3) < 0 ∨ X.1 ≤ (nI (i + 3)).toNatClampNeg) := nI_in (by omega) (by omega)
    have b4 : ¬ (nI (i + 4) < 0 ∨ X.1 ≤ (nI (i + 4)).toNatClampNeg) := nI_in (by omega) (by omega)
    have b5 : ¬ (nI (i + 5) < 0 ∨ X.1 ≤ (nI (i + 5)).toNatClampNeg) := nI_in (by omega) (by omega)
    rw [f157_23, if_neg (fun w => hz ((law_lt hL (by omega)).mp w)), if_neg b0, e1, e2, e3, e4, e5, e6]
    simp only [b1, b2, b3, b4, b5, if_false]
    generalize X.2 (Int32.toNatClampNeg (nI i)) &&& (7 : Int32) = op
    generalize X.2 (Int32.toNatClampNeg (nI (i + 1))) = y1
    generalize X.2 (Int32.toNatClampNeg (nI (i + 2))) = y2
    generalize X.2 (Int32.toNatClampNeg (nI (i + 3))) = y3
    generalize X.2 (Int32.toNatClampNeg (nI (i + 4))) = y4
    generalize X.2 (Int32.toNatClampNeg (nI (i + 5))) = y5
    have po : ∀ (rc : mZ) (rm : mG → mZ), PO rc rm → ∃ g', m_ti rc (fun v6 g5 => m_ti (rm g5) (fun v11 g10 => m_ti (f86 n g10) (fun v15 g14 => if v15 = v6 then if ¬ v6 = 0 then f157_23 X n c (nI (i + 6)) g14 else if (0 : Int32) < 0 ∨ 1 ≤ Int32.toNatClampNeg (0 : Int32) then none else if (lg_cmp (g14.2.2.2 (Int32.toNatClampNeg (0 : Int32))) (Int32.toInt64 v11)) = 0 then f157_23 X n c (nI (i + 6)) g14 else some (.inl (some (.int (0 : Int32))), g14) else some (.inl (some (.int (0 : Int32))), g14)) (fun _ _ => none)) (fun _ _ => none)) (fun _ _ => none) = some (.inl (some (.int 1)), g') := fun rc rm hP => by
      obtain ⟨k, b, g1, g2, q1, q2, q3, q4, q5⟩ := hP
      obtain ⟨g', q6⟩ := ih' g2 q5
      refine ⟨g', ?_⟩
      have ef : f86 n g2 = some (.inl (some (.int k)), g2) := by unfold f86; rw [q3]
      rw [q1, m_ti_s, q2, m_ti_s, ef, m_ti_s, if_pos rfl]
      by_cases hk : k = 0
      · rw [if_neg (fun w => w hk), if_neg w00, show Int32.toNatClampNeg (0 : Int32) = 0 by decide, q4 hk, if_pos (lg_eq0 _)]
        exact q6
      · rw [if_pos hk]; exact q6
    by_cases o0 : op = 0
    · rw [if_pos o0]
      exact po _ _ (p_put (by omega) hJ)
    rw [if_neg o0]
    by_cases o1 : op = 1
    · rw [if_pos o1]
      obtain ⟨k, g1, g2, q1, q2, q3, q4⟩ := p_end (n := n) (x := y1) hJ
      obtain ⟨g', q6⟩ := ih' g2 q4
      refine ⟨g', ?_⟩
      have ef : f86 n g2 = some (.inl (some (.int k)), g2) := by unfold f86; rw [q3]
      rw [q1, m_ti_s, q2, m_tv_s, ef, m_ti_s, if_pos rfl]
      exact q6
    rw [if_neg o1]
    by_cases o2 : op = 2
    · rw [if_pos o2]
      obtain ⟨v, g1, g2, q1, q2, q3⟩ := p_compile (n := n) (by omega) hJ
      obtain ⟨g', q6⟩ := ih' g2 q3
      refine ⟨g', ?_⟩
      rw [q1, m_ti_s, q2, m_ti_s, if_pos rfl]
      exact q6
    rw [if_neg o2]
    by_cases o3 : op = 3
    · rw [if_pos o3]
      exact po _ _ (p_functions hJ)
    rw [if_neg o3]
    by_cases o4 : op = 4
    · rw [if_pos o4]
      exact po _ _ (p_call hn hJ)
    rw [if_neg o4]
    by_cases o5 : op = 5
    · rw [if_pos o5]
      exact po _ _ (p_result hJ)
    rw [if_neg o5]
    by_cases o6 : op = 6
    · rw [if_pos o6]
      obtain ⟨v, g1, q1, q2, q3⟩ := p_load (n := n) (x := y1) (by omega) hJ
      obtain ⟨g', q6⟩ := ih' g1 q3
      refine ⟨g', ?_⟩
      rw [q1, m_ti_s, q2, m_ti_s, if_pos rfl]
      exact q6
    rw [if_neg o6]
    by_cases o7 : op = 7
    · rw [if_pos o7]
      obtain ⟨v, g1, q1, q2, q3⟩ := p_stored (n := n) hJ
      obtain ⟨g', q6⟩ := ih' g1 q3
      refine ⟨g', ?_⟩
      rw [q1, m_ti_s, q2, m_ti_s, if_pos rfl]
      exact q6
    rw [if_neg o7]
    exact ih' g hJ
end Law
