/-! signs, and a token of both scanners -/
def sgM (x y : Int32) : Int32 := if x = 61 then (if y = 61 then 13 else 1) else if x = 33 then (if y = 61 then 14 else 1) else if x = 60 then (if y = 61 then 16 else 1) else if x = 38 then (if y = 38 then 23 else 1) else if x = 124 then (if y = 124 then 24 else 1) else 1
def sg1 (x : Int32) : Int32 := if x = 33 then 22 else if x = 37 then 21 else if x = 40 then 4 else if x = 41 then 5 else if x = 42 then 19 else if x = 43 then 17 else if x = 44 then 10 else if x = 45 then 18 else if x = 47 then 20 else if x = 59 then 11 else if x = 60 then 15 else if x = 61 then 12 else if x = 91 then 8 else if x = 93 then 9 else if x = 123 then 6 else if x = 125 then 7 else 1
def sgK (x y : Int32) : Int32 := if sgM x y = 1 then sg1 x else sgM x y
def sgL (x y : Int32) : Nat := if sgM x y = 1 then 1 else 2
def kd (m : Int32) : Int32 := if m = 0 then 0 else if m = 1 then 35 else m - 1
section Sign
variable {n N : Nat} {g : mG}
theorem c71 (x y : Int32) : f71 n x y g = some (.inl (some (.int (sgM x y))), g) := by
  unfold f71 f71_56 sgM
  by_cases h61 : x = 61
  · subst h61
    by_cases hy : y = 61
    · subst hy; simp (decide := true) only [reduceIte]
    · simp (decide := true) only [reduceIte, hy, not_false_eq_true]
  by_cases h33 : x = 33
  · subst h33
    by_cases hy : y = 61
    · subst hy; simp (decide := true) only [reduceIte]
    · simp (decide := true) only [reduceIte, hy, not_false_eq_true]
  by_cases h60 : x = 60
  · subst h60
    by_cases hy : y = 61
    · subst hy; simp (decide := true) only [reduceIte]
    · simp (decide := true) only [reduceIte, hy, not_false_eq_true]
  by_cases h38 : x = 38
  · subst h38
    by_cases hy : y = 61
    · subst hy; simp (decide := true) only [reduceIte]
    by_cases hy2 : y = 38
    · subst hy2; simp (decide := true) only [reduceIte]
    · simp (decide := true) only [reduceIte, hy, hy2, not_false_eq_true]
  by_cases h124 : x = 124
  · subst h124
    by_cases hy : y = 61
    · subst hy; simp (decide := true) only [reduceIte]
    by_cases hy2 : y = 124
    · subst hy2; simp (decide := true) only [reduceIte]
    · simp (decide := true) only [reduceIte, hy, hy2, not_false_eq_true]
  by_cases hy : y = 61
  · simp (decide := true) only [reduceIte, hy, h61, h33, h60, h38, h124, not_false_eq_true, not_true_eq_false]
  · simp (decide := true) only [reduceIte, hy, h61, h33, h60, h38, h124, not_false_eq_true]
theorem c72 (x : Int32) : f72 n x g = some (.inl (some (.int (sg1 x))), g) := by
  unfold f72 sg1
  by_cases h33 : x = 33
  · rw [if_pos h33, if_pos h33]
  rw [if_neg h33, if_neg h33]
  by_cases h37 : x = 37
  · rw [if_pos h37, if_pos h37]
  rw [if_neg h37, if_neg h37]
  by_cases h40 : x = 40
  · rw [if_pos h40, if_pos h40]
  rw [if_neg h40, if_neg h40]
  by_cases h41 : x = 41
  · rw [if_pos h41, if_pos h41]
  rw [if_neg h41, if_neg h41]
  by_cases h42 : x = 42
  · rw [if_pos h42, if_pos h42]
  rw [if_neg h42, if_neg h42]
  by_cases h43 : x = 43
  · rw [if_pos h43, if_pos h43]
  rw [if_neg h43, if_neg h43]
  by_cases h44 : x = 44
  · rw [if_pos h44, if_pos h44]
  rw [if_neg h44, if_neg h44]
  by_cases h45 : x = 45
  · rw [if_pos h45, if_pos h45]
  rw [if_neg h45, if_neg h45]
  by_cases h47 : x = 47
  · rw [if_pos h47, if_pos h47]
  rw [if_neg h47, if_neg h47]
  by_cases h59 : x = 59
  · rw [if_pos h59, if_pos h59]
  rw [if_neg h59, if_neg h59]
  by_cases h60 : x = 60
  · rw [if_pos h60, if_pos h60]
  rw [if_neg h60, if_neg h60]
  by_cases h61 : x = 61
  · rw [if_pos h61, if_pos h61]
  rw [if_neg h61, if_neg h61]
  by_cases h91 : x = 91
  · rw [if_pos h91, if_pos h91]
  rw [if_neg h91, if_neg h91]
  by_cases h93 : x = 93
  · rw [if_pos h93, if_pos h93]
  rw [if_neg h93, if_neg h93]
  by_cases h123 : x = 123
  · rw [if_pos h123, if_pos h123]
  rw [if_neg h123, if_neg h123]
  by_cases h125 : x = 125
  · rw [if_pos h125, if_pos h125]
  rw [if_neg h125, if_neg h125]
theorem m99a {b : Nat} {x1 x3 : Int32} (h27 : g.1 27 = nI b) : f99 n x1 0 x3 g = some (.inl none, gI (gI g 26 x1) 28 (nI (b + 1))) := by
  unfold f99 f99_22 f99_23 f99_36 f99_60
  rw [if_pos (by decide), if_pos rfl, if_pos rfl, h27, nI_1]
theorem m99b {b : Nat} {x1 x2 x3 : Int32} (hN : N ≤ 600) (h : g.1 25 = nI N) (hb : b ≤ 600) (h27 : g.1 27 = nI b) (hx : ¬ x2 ≤ 0) : f99 n x1 x2 x3 g = if sg (g.2.1 32) N (b + 1) = x2 then some (.inl none, gI (gI g 26 x3) 28 (nI (b + 2))) else some (.inl none, gI (gI g 26 x1) 28 (nI (b + 1))) := by
  unfold f99 f99_22 f99_23 f99_36 f99_60
  have e2 : nI b + 2 = nI (b + 2) := by rw [show (2 : Int32) = nI 2 from rfl, nI_add]
  rw [if_neg hx, h27, nI_1, m93 h hN (by omega), m_ci_s]
  by_cases hy : sg (g.2.1 32) N (b + 1) = x2
  · rw [if_neg (fun z => z hy), if_pos hy, if_neg (by decide), if_neg (by decide), h27, e2]
  · rw [if_pos hy, if_neg hy, if_pos rfl, if_pos rfl, h27, nI_1]
theorem m98 {b : Nat} (hN : N ≤ 600) (h : g.1 25 = nI N) (hb : b < N) (h27 : g.1 27 = nI b) : f98 n g = some (.inl none, gI (gI g 26 (kd (sgK (g.2.1 32 b) (sg (g.2.1 32) N (b + 1))))) 28 (nI (b + sgL (g.2.1 32 b) (sg (g.2.1 32) N (b + 1))))) := by
  unfold f98
  rw [h27, m93 h hN (by omega), m_ci_s, sg_lt hb]
  have B := fun (x1 x2 x3 : Int32) (hx : ¬ x2 ≤ 0) => m99b (n := n) (x1 := x1) (x3 := x3) hN h (b := b) (by omega) h27 hx
  generalize g.2.1 32 b = x
  generalize sg (g.2.1 32) N (b + 1) = y at B ⊢
  by_cases h33 : x = 33
  · subst h33
    rw [if_pos rfl, B 21 61 13 (by decide)]
    by_cases hy : y = 61
    · subst hy; rw [if_pos rfl, m_cv_s]; rfl
    · rw [if_neg hy, m_cv_s]
      have e : sgM 33 y = 1 := by unfold sgM; simp (decide := true) only [reduceIte, hy]
      unfold sgK sgL; rw [e, if_pos rfl, if_pos rfl]; rfl
  rw [if_neg h33]
  by_cases h37 : x = 37
  · subst h37
    have e : sgM 37 y = 1 := by unfold sgM; simp (decide := true) only [reduceIte]
    rw [if_pos rfl, m99a h27, m_cv_s]; unfold sgK sgL; rw [e, if_pos rfl, if_pos rfl]; rfl
  rw [if_neg h37]
  by_cases h38 : x = 38
  · subst h38
    rw [if_pos rfl, B 35 38 22 (by decide)]
    by_cases hy : y = 38
    · subst hy; rw [if_pos rfl, m_cv_s]; rfl
    · rw [if_neg hy, m_cv_s]
      have e : sgM 38 y = 1 := by unfold sgM; simp (decide := true) only [reduceIte, hy]
      unfold sgK sgL; rw [e, if_pos rfl, if_pos rfl]; rfl
  rw [if_neg h38]
  by_cases h40 : x = 40
  · subst h40
    have e : sgM 40 y = 1 := by unfold sgM; simp (decide := true) only [reduceIte]
    rw [if_pos rfl, m99a h27, m_cv_s]; unfold sgK sgL; rw [e, if_pos rfl, if_pos rfl]; rfl
  rw [if_neg h40]
  by_cases h41 : x = 41
  · subst h41
    have e : sgM 41 y = 1 := by unfold sgM; simp (decide := true) only [reduceIte]
    rw [if_pos rfl, m99a h27, m_cv_s]; unfold sgK sgL; rw [e, if_pos rfl, if_pos rfl]; rfl
  rw [if_neg h41]
  by_cases h42 : x = 42
  · subst h42
    have e : sgM 42 y = 1 := by unfold sgM; simp (decide := true) only [reduceIte]
    rw [if_pos rfl, m99a h27, m_cv_s]; unfold sgK sgL; rw [e, if_pos rfl, if_pos rfl]; rfl
  rw [if_neg h42]
  by_cases h43 : x = 43
  · subst h43
    have e : sgM 43 y = 1 := by unfold sgM; simp (decide := true) only [reduceIte]
    rw [if_pos rfl, m99a h27, m_cv_s]; unfold sgK sgL; rw [e, if_pos rfl, if_pos rfl]; rfl
  rw [if_neg h43]
  by_cases h44 : x = 44
  · subst h44
    have e : sgM 44 y = 1 := by unfold sgM; simp (decide := true) only [reduceIte]
    rw [if_pos rfl, m99a h27, m_cv_s]; unfold sgK sgL; rw [e, if_pos rfl, if_pos rfl]; rfl
  rw [if_neg h44]
  by_cases h45 : x = 45
  · subst h45
    have e : sgM 45 y = 1 := by unfold sgM; simp (decide := true) only [reduceIte]
    rw [if_pos rfl, m99a h27, m_cv_s]; unfold sgK sgL; rw [e, if_pos rfl, if_pos rfl]; rfl
  rw [if_neg h45]
  by_cases h47 : x = 47
  · subst h47
    have e : sgM 47 y = 1 := by unfold sgM; simp (decide := true) only [reduceIte]
    rw [if_pos rfl, m99a h27, m_cv_s]; unfold sgK sgL; rw [e, if_pos rfl, if_pos rfl]; rfl
  rw [if_neg h47]
  by_cases h59 : x = 59
  · subst h59
    have e : sgM 59 y = 1 := by unfold sgM; simp (decide := true) only [reduceIte]
    rw [if_pos rfl, m99a h27, m_cv_s]; unfold sgK sgL; rw [e, if_pos rfl, if_pos rfl]; rfl
  rw [if_neg h59]
  by_cases h60 : x = 60
  · subst h60
    rw [if_pos rfl, B 14 61 15 (by decide)]
    by_cases hy : y = 61
    · subst hy; rw [if_pos rfl, m_cv_s]; rfl
    · rw [if_neg hy, m_cv_s]
      have e : sgM 60 y = 1 := by unfold sgM; simp (decide := true) only [reduceIte, hy]
      unfold sgK sgL; rw [e, if_pos rfl, if_pos rfl]; rfl
  rw [if_neg h60]
  by_cases h61 : x = 61
  · subst h61
    rw [if_pos rfl, B 11 61 12 (by decide)]
    by_cases hy : y = 61
    · subst hy; rw [if_pos rfl, m_cv_s]; rfl
    · rw [if_neg hy, m_cv_s]
      have e : sgM 61 y = 1 := by unfold sgM; simp (decide := true) only [reduceIte, hy]
      unfold sgK sgL; rw [e, if_pos rfl, if_pos rfl]; rfl
  rw [if_neg h61]
  by_cases h91 : x = 91
  · subst h91
    have e : sgM 91 y = 1 := by unfold sgM; simp (decide := true) only [reduceIte]
    rw [if_pos rfl, m99a h27, m_cv_s]; unfold sgK sgL; rw [e, if_pos rfl, if_pos rfl]; rfl
  rw [if_neg h91]
  by_cases h93 : x = 93
  · subst h93
    have e : sgM 93 y = 1 := by unfold sgM; simp (decide := true) only [reduceIte]
    rw [if_pos rfl, m99a h27, m_cv_s]; unfold sgK sgL; rw [e, if_pos rfl, if_pos rfl]; rfl
  rw [if_neg h93]
  by_cases h123 : x = 123
  · subst h123
    have e : sgM 123 y = 1 := by unfold sgM; simp (decide := true) only [reduceIte]
    rw [if_pos rfl, m99a h27, m_cv_s]; unfold sgK sgL; rw [e, if_pos rfl, if_pos rfl]; rfl
  rw [if_neg h123]
  by_cases h124 : x = 124
  · subst h124
    rw [if_pos rfl, B 35 124 23 (by decide)]
    by_cases hy : y = 124
    · subst hy; rw [if_pos rfl, m_cv_s]; rfl
    · rw [if_neg hy, m_cv_s]
      have e : sgM 124 y = 1 := by unfold sgM; simp (decide := true) only [reduceIte, hy]
      unfold sgK sgL; rw [e, if_pos rfl, if_pos rfl]; rfl
  rw [if_neg h124]
  by_cases h125 : x = 125
  · subst h125
    have e : sgM 125 y = 1 := by unfold sgM; simp (decide := true) only [reduceIte]
    rw [if_pos rfl, m99a h27, m_cv_s]; unfold sgK sgL; rw [e, if_pos rfl, if_pos rfl]; rfl
  rw [if_neg h125]
  have e : sgM x y = 1 := by unfold sgM; rw [if_neg h61, if_neg h33, if_neg h60, if_neg h38, if_neg h124]
  have e1 : sg1 x = 1 := by unfold sg1; rw [if_neg h33, if_neg h37, if_neg h40, if_neg h41, if_neg h42, if_neg h43, if_neg h44, if_neg h45, if_neg h47, if_neg h59, if_neg h60, if_neg h61, if_neg h91, if_neg h93, if_neg h123, if_neg h125]
  unfold sgK sgL; rw [m99a h27, m_cv_s, e, if_pos rfl, if_pos rfl, e1]; rfl
end Sign
