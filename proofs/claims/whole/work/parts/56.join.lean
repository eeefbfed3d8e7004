/-! signs between parts: the reference's symbols, the class's tables -/
def tb : Nat → Int32
  | 0 => 70
  | 1 => 74
  | 2 => 78
  | 3 => 81
  | _ => 84
/-- a mark that binds so -/
def isop (b : Nat) (x : Int32) : Prop := (b = 0 ∧ x = 24) ∨ (b = 1 ∧ x = 23) ∨ (b = 2 ∧ (x = 13 ∨ x = 14 ∨ x = 15 ∨ x = 16)) ∨ (b = 3 ∧ (x = 17 ∨ x = 18)) ∨ (b = 4 ∧ (x = 19 ∨ x = 20 ∨ x = 21))
def bo (x : Int32) : Int32 := if x = 13 then 2 else if x = 14 then 2 else if x = 15 then 2 else if x = 16 then 2 else if x = 17 then 3 else if x = 18 then 3 else if x = 19 then 4 else if x = 20 then 4 else if x = 21 then 4 else if x = 23 then 1 else if x = 24 then 0 else -1
section Jn
variable {n N s a D v q m h k y H E b : Nat} {t g gm gx : mG}
theorem c23 (x : Int32) : f23 n x g = some (.inl (some (.int (bo x))), g) := by
  unfold f23 bo
  by_cases h13 : x = 13
  · rw [if_pos h13, if_pos h13]
  rw [if_neg h13, if_neg h13]
  by_cases h14 : x = 14
  · rw [if_pos h14, if_pos h14]
  rw [if_neg h14, if_neg h14]
  by_cases h15 : x = 15
  · rw [if_pos h15, if_pos h15]
  rw [if_neg h15, if_neg h15]
  by_cases h16 : x = 16
  · rw [if_pos h16, if_pos h16]
  rw [if_neg h16, if_neg h16]
  by_cases h17 : x = 17
  · rw [if_pos h17, if_pos h17]
  rw [if_neg h17, if_neg h17]
  by_cases h18 : x = 18
  · rw [if_pos h18, if_pos h18]
  rw [if_neg h18, if_neg h18]
  by_cases h19 : x = 19
  · rw [if_pos h19, if_pos h19]
  rw [if_neg h19, if_neg h19]
  by_cases h20 : x = 20
  · rw [if_pos h20, if_pos h20]
  rw [if_neg h20, if_neg h20]
  by_cases h21 : x = 21
  · rw [if_pos h21, if_pos h21]
  rw [if_neg h21, if_neg h21]
  by_cases h23 : x = 23
  · rw [if_pos h23, if_pos h23]
  rw [if_neg h23, if_neg h23]
  by_cases h24 : x = 24
  · rw [if_pos h24, if_pos h24]
  rw [if_neg h24, if_neg h24]
theorem bo_op {x : Int32} (hb : b ≤ 4) : bo x = nI b ↔ isop b x := by
  by_cases hx : x = 13 ∨ x = 14 ∨ x = 15 ∨ x = 16 ∨ x = 17 ∨ x = 18 ∨ x = 19 ∨ x = 20 ∨ x = 21 ∨ x = 23 ∨ x = 24
  · have hb' : b = 0 ∨ b = 1 ∨ b = 2 ∨ b = 3 ∨ b = 4 := by omega
    unfold isop
    rcases hx with rfl | rfl | rfl | rfl | rfl | rfl | rfl | rfl | rfl | rfl | rfl <;> rcases hb' with rfl | rfl | rfl | rfl | rfl <;> decide
  · have h1 : bo x = -1 := by
      unfold bo
      rw [if_neg (fun z => hx (by simp [z])), if_neg (fun z => hx (by simp [z])), if_neg (fun z => hx (by simp [z])), if_neg (fun z => hx (by simp [z])), if_neg (fun z => hx (by simp [z])), if_neg (fun z => hx (by simp [z])), if_neg (fun z => hx (by simp [z])), if_neg (fun z => hx (by simp [z])), if_neg (fun z => hx (by simp [z])), if_neg (fun z => hx (by simp [z])), if_neg (fun z => hx (by simp [z]))]
    rw [h1]
    refine ⟨fun z => ?_, fun z => absurd ?_ hx⟩
    · have := nI_pos (n := b) (by omega)
      rw [← z] at this; exact absurd (by decide) this
    · unfold isop at z
      rcases z with ⟨_, z⟩ | ⟨_, z⟩ | ⟨_, z | z | z | z⟩ | ⟨_, z | z⟩ | ⟨_, z | z | z⟩ <;> simp [z]
theorem s_down (hb : b < 5) (hh : h + 1 < 900) (e31 : gx.1 31 = nI h) : f101 n (sy b) gx = some (.inl none, pu (pu gx h (tb b)) (h + 1) (sy (b + 1))) := by
  have hb' : b = 0 ∨ b = 1 ∨ b = 2 ∨ b = 3 ∨ b = 4 := by omega
  rcases hb' with rfl | rfl | rfl | rfl | rfl <;> (unfold f101 f101_88 f119 sy tb; simp (decide := true) only [reduceIte]; rw [m108_2 (h := h) (by omega) e31 (by decide), m_cv_s, m_cv_s])
theorem rng_ex {x : Int32} {l u : Nat} (hl : l < 2 ^ 31) (hu : u < 2 ^ 31) (h1 : ¬ x < nI l) (h2 : ¬ nI u < x) : ∃ j, l ≤ j ∧ j ≤ u ∧ x = nI j := by
  have h0 : ¬ x < 0 := fun z => h1 (by
    rw [Int32.lt_iff_toInt_lt] at z ⊢
    rw [nI_toInt hl]
    have a2 : (0 : Int32).toInt = 0 := by decide
    omega)
  obtain ⟨j, hj, rfl⟩ := nI_of h0
  refine ⟨j, ?_, ?_, rfl⟩
  · rcases Nat.lt_or_ge j l with z | z
    · exact absurd (nI_lt z hl) h1
    · exact z
  · rcases Nat.lt_or_ge u j with z | z
    · exact absurd (nI_lt z hj) h2
    · exact z
theorem f90_no {x l u : Int32} (hx : ¬ (¬ x < l ∧ ¬ u < x)) : f90 n x l u g = some (.inl (some (.int 0)), g) := by
  unfold f90
  by_cases h1 : x < l
  · rw [if_pos h1]
  · rw [if_neg h1, if_pos (Decidable.byContradiction fun z => hx ⟨h1, z⟩)]
theorem f90_yes {x l u : Int32} (h1 : ¬ x < l) (h2 : ¬ u < x) : f90 n x l u g = some (.inl (some (.int 1)), g) := by
  unfold f90
  rw [if_neg h1, if_neg h2]
/-- no such sign -/
theorem s_none {x : Int32} (hb : b < 5) (e26 : gx.1 26 = kd x) (hx : ¬ isop b x) : f101 n (tb b) gx = some (.inl none, gx) := by
  have no : ∀ c : Int32, c ≠ 0 → c ≠ 35 → c ≠ -1 → ¬ x = c + 1 → ¬ gx.1 26 = c := fun c h0 h1 h2 h3 z => h3 ((kd_iff h0 h1 h2).mp (e26.symm.trans z))
  have hb' : b = 0 ∨ b = 1 ∨ b = 2 ∨ b = 3 ∨ b = 4 := by omega
  unfold isop at hx
  rcases hb' with rfl | rfl | rfl | rfl | rfl
  · have z := no 23 (by decide) (by decide) (by decide) (fun z => hx (by simp [z]))
    unfold f101 f101_88 f119 tb; simp (decide := true) only [reduceIte]
    rw [if_pos z]
    unfold f119_144 f120
    simp (decide := true) only [reduceIte]
    rfl
  · have z := no 22 (by decide) (by decide) (by decide) (fun z => hx (by simp [z]))
    unfold f101 f101_88 f119 tb; simp (decide := true) only [reduceIte]
    rw [if_pos z]
    unfold f119_186 f120
    simp (decide := true) only [reduceIte]
    rfl
  · have z : ¬ (¬ gx.1 26 < 12 ∧ ¬ 15 < gx.1 26) := fun ⟨h1, h2⟩ => by
      obtain ⟨j, j1, j2, j3⟩ := rng_ex (l := 12) (u := 15) (by decide) (by decide) h1 h2
      have hj : j = 12 ∨ j = 13 ∨ j = 14 ∨ j = 15 := by omega
      rcases hj with rfl | rfl | rfl | rfl
      · exact no 12 (by decide) (by decide) (by decide) (fun z => hx (by simp [z])) j3
      · exact no 13 (by decide) (by decide) (by decide) (fun z => hx (by simp [z])) j3
      · exact no 14 (by decide) (by decide) (by decide) (fun z => hx (by simp [z])) j3
      · exact no 15 (by decide) (by decide) (by decide) (fun z => hx (by simp [z])) j3
    unfold f101 f101_88 f119 tb; simp (decide := true) only [reduceIte]
    rw [f90_no z, m_ci_s]
    unfold f120
    simp (decide := true) only [reduceIte]
    rfl
  · have z1 := no 16 (by decide) (by decide) (by decide) (fun z => hx (by simp [z]))
    have z2 := no 17 (by decide) (by decide) (by decide) (fun z => hx (by simp [z]))
    unfold f101 f101_88 f119 tb; simp (decide := true) only [reduceIte]
    rw [if_neg z1, if_pos z2]
    unfold f119_274 f120
    simp (decide := true) only [reduceIte]
    rfl
  · have z : ¬ (¬ gx.1 26 < 18 ∧ ¬ 20 < gx.1 26) := fun ⟨h1, h2⟩ => by
      obtain ⟨j, j1, j2, j3⟩ := rng_ex (l := 18) (u := 20) (by decide) (by decide) h1 h2
      have hj : j = 18 ∨ j = 19 ∨ j = 20 := by omega
      rcases hj with rfl | rfl | rfl
      · exact no 18 (by decide) (by decide) (by decide) (fun z => hx (by simp [z])) j3
      · exact no 19 (by decide) (by decide) (by decide) (fun z => hx (by simp [z])) j3
      · exact no 20 (by decide) (by decide) (by decide) (fun z => hx (by simp [z])) j3
    unfold f101 f101_88 f119 tb; simp (decide := true) only [reduceIte]
    rw [f90_no z, m_ci_s]
    unfold f120
    simp (decide := true) only [reduceIte]
    rfl
/-- such a sign, of arithmetic or of order -/
theorem s_plain {kn : Int32} (hb : (b = 3 ∧ (kn = 16 ∨ kn = 17)) ∨ (b = 4 ∧ (kn = 18 ∨ kn = 19 ∨ kn = 20))) (hk : k + 1 < 600) (hh : h + 3 < 900) (e26 : gx.1 26 = kn) (e27 : gx.1 27 = nI a) (e31 : gx.1 31 = nI h) (e32 : gx.1 32 = nI k) : f101 n (tb b) gx = some (.inl none, pu (pu (pu (pu (nt (nt gx k kn) (k + 1) (nI a)) h (tb b)) (h + 1) 83) (h + 2) (sy (b + 1))) (h + 3) kn) := by
  have i27 : (nt gx k kn).1 27 = nI a := by rw [nt_c.1 27 (by simp)]; exact e27
  have i31 : (nt (nt gx k kn) (k + 1) (nI a)).1 31 = nI h := by rw [nt_c.1 31 (by simp), nt_c.1 31 (by simp)]; exact e31
  have i26 : ∀ w, (pu (nt (nt gx k kn) (k + 1) (nI a)) h w).1 26 = kn := fun w => by rw [pu_c.1 26 (by simp), nt_c.1 26 (by simp), nt_c.1 26 (by simp)]; exact e26
  rcases hb with ⟨rfl, hk'⟩ | ⟨rfl, hk'⟩
  · have T : f119_274 n 1 gx = some (.inl none, pu (pu (pu (pu (nt (nt gx k kn) (k + 1) (nI a)) h 81) (h + 1) 83) (h + 2) 82) (h + 3) kn) := by
      unfold f119_274 f120 f120_32
      simp (decide := true) only [reduceIte]
      rw [e26, m107 (by omega) e32, m_cv_s, i27, m107 (by omega) nt_h, m_cv_s, m100 (by omega) i31, m_cv_s, i26, m108_3 (h := h + 1) (by omega) pu_h (by decide) (by decide), m_cv_s, m_cv_s]
    unfold f101 f101_88 f119 f119_269 tb sy; simp (decide := true) only [reduceIte]
    rw [e26]
    rcases hk' with rfl | rfl
    · simp (decide := true) only [reduceIte]; rw [T]; rfl
    · simp (decide := true) only [reduceIte]; rw [T]; rfl
  · have T : f120 n 1 85 83 0 84 gx = some (.inl none, pu (pu (pu (pu (nt (nt gx k kn) (k + 1) (nI a)) h 84) (h + 1) 83) (h + 2) 85) (h + 3) kn) := by
      unfold f120 f120_32
      simp (decide := true) only [reduceIte]
      rw [e26, m107 (by omega) e32, m_cv_s, i27, m107 (by omega) nt_h, m_cv_s, m100 (by omega) i31, m_cv_s, i26, m108_3 (h := h + 1) (by omega) pu_h (by decide) (by decide), m_cv_s]
    have y : f90 n kn 18 20 gx = some (.inl (some (.int 1)), gx) := by rcases hk' with rfl | rfl | rfl <;> exact f90_yes (by decide) (by decide)
    unfold f101 f101_88 f119 tb sy; simp (decide := true) only [reduceIte]
    rw [e26, y, m_ci_s, T]; rfl
/-- a comparison -/
theorem s_cmp {kn : Int32} (hkn : kn = 12 ∨ kn = 13 ∨ kn = 14 ∨ kn = 15) (hk : k + 1 < 600) (hh : h + 3 < 900) (e26 : gx.1 26 = kn) (e27 : gx.1 27 = nI a) (e31 : gx.1 31 = nI h) (e32 : gx.1 32 = nI k) : f101 n 78 gx = some (.inl none, pu (pu (pu (nt (nt gx k kn) (k + 1) (nI a)) h 80) (h + 1) 79) (h + 2) kn) := by
  have i27 : (nt gx k kn).1 27 = nI a := by rw [nt_c.1 27 (by simp)]; exact e27
  have i31 : (nt (nt gx k kn) (k + 1) (nI a)).1 31 = nI h := by rw [nt_c.1 31 (by simp), nt_c.1 31 (by simp)]; exact e31
  have i26 : (nt (nt gx k kn) (k + 1) (nI a)).1 26 = kn := by rw [nt_c.1 26 (by simp), nt_c.1 26 (by simp)]; exact e26
  have T : f120 n 1 79 80 0 0 gx = some (.inl none, pu (pu (pu (nt (nt gx k kn) (k + 1) (nI a)) h 80) (h + 1) 79) (h + 2) kn) := by
    unfold f120 f120_32
    simp (decide := true) only [reduceIte]
    rw [e26, m107 (by omega) e32, m_cv_s, i27, m107 (by omega) nt_h, m_cv_s, i26, m108_3 (h := h) (by omega) i31 (by decide) (by decide), m_cv_s]
  have y : f90 n kn 12 15 gx = some (.inl (some (.int 1)), gx) := by rcases hkn with rfl | rfl | rfl | rfl <;> exact f90_yes (by decide) (by decide)
  unfold f101 f101_88 f119; simp (decide := true) only [reduceIte]
  rw [e26, y, m_ci_s, T]; rfl
/-- or, and -/
theorem s_andor {kn re te : Int32} (hb : (b = 0 ∧ kn = 23 ∧ re = 72 ∧ te = 73) ∨ (b = 1 ∧ kn = 22 ∧ re = 77 ∧ te = 76)) (hk : k + 1 < 600) (hh : h + 4 < 900) (e26 : gx.1 26 = kn) (e27 : gx.1 27 = nI a) (e31 : gx.1 31 = nI h) (e32 : gx.1 32 = nI k) : f101 n (tb b) gx = some (.inl none, pu (pu (pu (pu (pu (nt (nt gx k kn) (k + 1) (nI a)) h (tb b)) (h + 1) re) (h + 2) (sy (b + 1))) (h + 3) te) (h + 4) kn) := by
  have i27 : (nt gx k kn).1 27 = nI a := by rw [nt_c.1 27 (by simp)]; exact e27
  have i31 : (nt (nt gx k kn) (k + 1) (nI a)).1 31 = nI h := by rw [nt_c.1 31 (by simp), nt_c.1 31 (by simp)]; exact e31
  have i26 : ∀ w, (pu (nt (nt gx k kn) (k + 1) (nI a)) h w).1 26 = kn := fun w => by rw [pu_c.1 26 (by simp), nt_c.1 26 (by simp), nt_c.1 26 (by simp)]; exact e26
  rcases hb with ⟨rfl, rfl, rfl, rfl⟩ | ⟨rfl, rfl, rfl, rfl⟩
  · unfold f101 f101_88 f119 f119_144 f120 f120_32 tb sy
    simp (decide := true) only [reduceIte]
    rw [e26]
    simp (decide := true) only [reduceIte]
    rw [m107 (by omega) e32, m_cv_s, i27, m107 (by omega) nt_h, m_cv_s, m100 (by omega) i31, m_cv_s, i26, m108_4 (h := h + 1) (by omega) pu_h (by decide) (by decide) (by decide)]
    rfl
  · unfold f101 f101_88 f119 f119_186 f120 f120_32 tb sy
    simp (decide := true) only [reduceIte]
    rw [e26]
    simp (decide := true) only [reduceIte]
    rw [m107 (by omega) e32, m_cv_s, i27, m107 (by omega) nt_h, m_cv_s, m100 (by omega) i31, m_cv_s, i26, m108_4 (h := h + 1) (by omega) pu_h (by decide) (by decide) (by decide)]
    rfl
end Jn
