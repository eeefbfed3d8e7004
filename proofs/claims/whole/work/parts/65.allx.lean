/-! every expression and factor, at every depth -/
theorem p_X {n : Nat} (hn : 700 ≤ n) : ∀ d, (∀ (t g gm : mG) (N s a D v q m : Nat) (ht rk : Nat → Nat) (ho : Nat → Prop) (h k y H E b : Nat), PE t g gm N s a D v q m ht rk ho h k y H E b → 10 * (16 - D) + 3 + (5 - b) ≤ d → Pr n g gm E (m_P n d 15 (nI b) (nI D) 0 g) (QI (QE t g gm N s a D v q m ht rk ho h k y H E b))) ∧
    (∀ (t g gm : mG) (N s a D v q m : Nat) (ht rk : Nat → Nat) (ho : Nat → Prop) (h k y H E : Nat), PE t g gm N s a D v q m ht rk ho h k y H E 5 → 10 * (16 - D) + 2 ≤ d → Pr n g gm E (m_P n d 16 (nI D) 0 0 g) (QI (QE t g gm N s a D v q m ht rk ho h k y H E 5))) := by
  intro d
  induction d using Nat.strongRecOn with
  | ind d IH =>
    constructor
    · intro t g gm N s a D v q m ht rk ho h k y H E b hP hd
      obtain ⟨d, rfl⟩ : ∃ z, d = z + 1 := ⟨d - 1, by omega⟩
      have e : m_P n (d + 1) 15 (nI b) (nI D) 0 g = f15 n (m_P n d) (nI b) (nI D) g := by rw [m_P]; simp (decide := true) only [reduceIte]
      rw [e]
      have hb := hP.2.2.2.2.2.2.2.2.2.2.1
      by_cases h5 : b = 5
      · subst h5
        unfold f15
        rw [if_neg (by decide)]
        exact Pr.same ((IH d (by omega)).2 _ _ _ _ _ _ _ _ _ _ _ _ _ _ _ _ _ _ hP (by omega))
      · exact p_expr hn (by omega) hP (fun g gm a m ht ho h k y H E hp => (IH d (by omega)).1 _ _ _ _ _ _ _ _ _ _ _ _ _ _ _ _ _ _ _ hp (by omega))
    · intro t g gm N s a D v q m ht rk ho h k y H E hP hd
      obtain ⟨d, rfl⟩ : ∃ z, d = z + 1 + 1 := ⟨d - 2, by omega⟩
      have e : m_P n (d + 1 + 1) 16 (nI D) 0 0 g = f16 n (m_P n (d + 1)) (nI D) g := by rw [m_P]; simp (decide := true) only [reduceIte]
      have pD := hP.2.2.2.2.2.2.2.2.2.1
      rw [e]
      refine p_fac hn hP (fun z kn mk hk hm => ?_) (fun h2 h4 => ?_) (fun h28 => ?_) (fun g gm a h k y E hD hp => ?_)
      · have e17 : m_P n (d + 1) 17 (nI z) mk (nI D) g = f17 n (m_P n d) (nI z) mk (nI D) g := by rw [m_P]; simp (decide := true) only [reduceIte]
        rw [e17]
        exact p_sign hn hk hP hm (fun g gm a h k y E hD hp => (IH d (by omega)).2 _ _ _ _ _ _ _ _ _ _ _ _ _ _ _ _ _ _ hp (by omega))
      · have e19 : m_P n (d + 1) 19 (nI a) (nI D) 0 (gI g 5 (nI (a + 1))) = f19 n (m_P n d) (nI a) (nI D) (gI g 5 (nI (a + 1))) := by rw [m_P]; simp (decide := true) only [reduceIte]
        rw [e19]
        exact p_fcall hn hP h2 h4 (fun g gm a m ht h k y H E hD hp => (IH d (by omega)).1 _ _ _ _ _ _ _ _ _ _ _ _ _ _ _ _ _ _ 0 hp (by omega))
      · have e22 : m_P n (d + 1) 22 (nI D) 0 0 g = f22 n (m_P n d) (nI D) g := by rw [m_P]; simp (decide := true) only [reduceIte]
        rw [e22]
        exact p_fload hn hP h28 (fun g gm a h k y E hD hp => (IH d (by omega)).1 _ _ _ _ _ _ _ _ _ _ _ _ _ _ _ _ _ _ 0 hp (by omega))
      · exact (IH (d + 1) (by omega)).1 _ _ _ _ _ _ _ _ _ _ _ _ _ _ _ _ _ _ 0 hp (by omega)
