/-! every statement and block, at every depth -/
section AllS
variable {n N s a D v q m h k y E R : Nat} {t g gm gx : mG} {ht rk : Nat → Nat} {ho : Nat → Prop}
theorem Pr.samev {r : mZ} {Q : mG → mG → Nat → Prop} (h : Pr n g gm E r (QV Q)) : Pr n g gm E (m_cv r (fun g' => some (.inl none, g'))) (QV Q) :=
  Pr.cv h (fun _ _ _ _ _ hq => Pr.ret ⟨rfl, hq⟩)
theorem hx_P {d : Nat} (hn : 700 ≤ n) (hd : 168 ≤ d) : HX n (m_P n d) := fun _ _ _ _ _ _ _ _ _ _ _ _ _ _ _ _ _ _ hp => (p_X hn d).1 _ _ _ _ _ _ _ _ _ _ _ _ _ _ _ _ _ _ 0 hp (by omega)
theorem c13_no {rc : mRec} (hR : RR t g gm N s a D v q m ht rk ho) (hst : ¬ stm (t.2.1 12 a)) : f13 n rc (nI D) g = some (.inr 0, gI g 6 (nI (tp t a))) := by
  unfold stm at hst
  unfold f13
  rw [c1 hR.1 hR.2.1 hR.2.2.1, m_ci_s, if_neg (fun w => hst (by rw [w]; decide)), if_neg (fun w => hst (by rw [w]; decide)), if_neg (fun w => hst (by rw [w]; decide)), if_neg (fun w => hst (by rw [w]; decide)), if_neg (fun w => hst (by rw [w]; decide)), if_neg (fun w => hst (by rw [w]; decide)), if_neg (fun w => hst (by rw [w]; decide)), hR.2.2.1, c3 hR.1 hR.2.1, m_cv_f]
theorem p_B (hn : 700 ≤ n) : ∀ d, ∀ (t g gm : mG) (N s a D v q m : Nat) (ht rk : Nat → Nat) (ho : Nat → Prop) (h k y E : Nat), PS t g gm N s a D v q m ht rk ho h k y E (D + 1) 5 48 → 4 * (17 - D) + 175 ≤ d → Pr n g gm E (m_P n d 11 (nI D) 0 0 g) (QV (QS t g gm N s a D v q m ht rk ho h k y E (D + 1) 2)) := by
  intro d
  induction d using Nat.strongRecOn with
  | ind d IH =>
    intro t g gm N s a D v q m ht rk ho h k y E hP hd
    obtain ⟨d, rfl⟩ : ∃ z, d = z + 1 + 1 + 1 + 1 := ⟨d - 4, by omega⟩
    have pD := hP.2.2.2.2.2.2.2.2.2.1
    have e11 : m_P n (d + 1 + 1 + 1 + 1) 11 (nI D) 0 0 g = f11 n (m_P n (d + 1 + 1 + 1)) (nI D) g := by rw [m_P]; simp (decide := true) only [reduceIte]
    have e13 : ∀ x g, m_P n (d + 1 + 1 + 1) 13 x 0 0 g = f13 n (m_P n (d + 1 + 1)) x g := fun x g => by rw [m_P]; simp (decide := true) only [reduceIte]
    have e14 : ∀ x g, m_P n (d + 1 + 1) 14 x 0 0 g = f14 n (m_P n (d + 1)) x g := fun x g => by rw [m_P]; simp (decide := true) only [reduceIte]
    have e25 : ∀ x g, m_P n (d + 1 + 1) 25 x 0 0 g = f25 n (m_P n (d + 1)) x g := fun x g => by rw [m_P]; simp (decide := true) only [reduceIte]
    have e26 : ∀ x g, m_P n (d + 1 + 1) 26 x 0 0 g = f26 n (m_P n (d + 1)) x g := fun x g => by rw [m_P]; simp (decide := true) only [reduceIte]
    have e27 : ∀ x g, m_P n (d + 1 + 1) 27 x 0 0 g = f27 n (m_P n (d + 1)) x g := fun x g => by rw [m_P]; simp (decide := true) only [reduceIte]
    have e29 : ∀ x g, m_P n (d + 1 + 1) 29 x 0 0 g = f29 n (m_P n (d + 1)) x g := fun x g => by rw [m_P]; simp (decide := true) only [reduceIte]
    have e30 : ∀ x y g, m_P n (d + 1 + 1) 30 x y 0 g = f30 n (m_P n (d + 1)) x y g := fun x y g => by rw [m_P]; simp (decide := true) only [reduceIte]
    have e28 : ∀ x g, m_P n (d + 1) 28 x 0 0 g = f28 n (m_P n d) x g := fun x g => by rw [m_P]; simp (decide := true) only [reduceIte]
    rw [e11]
    refine p_block hn hP (fun g gm a v m ht rk h E hD hp hst => ?_) (fun g gm a v m ht rk hR hst => ?_)
    · rw [e13]
      have hR := hp.1
      have X1 : HX n (m_P n (d + 1)) := hx_P hn (by omega)
      have X0 : HX n (m_P n d) := hx_P hn (by omega)
      unfold f13
      rw [c1 hR.1 hR.2.1 hR.2.2.1, m_ci_s]
      rcases hst with w | w | w | w | w | w | w
      · rw [w]; simp (decide := true) only [reduceIte]
        rw [e25]
        exact Pr.samev (p_assign hn hp w X1)
      · rw [w]; simp (decide := true) only [reduceIte]
        rw [e14]
        exact Pr.samev (p_let hn hp w X1)
      · rw [w]; simp (decide := true) only [reduceIte]
        rw [e26]
        exact Pr.samev (p_store hn hp w X1)
      · rw [w]; simp (decide := true) only [reduceIte]
        rw [e27]
        exact Pr.samev (p_if hn hp w X0 (fun g => e28 _ g) (fun g gm a v m ht rk ho h k y E hq => IH (d + 1) (by omega) _ _ _ _ _ _ _ _ _ _ _ _ _ _ _ _ _ hq (by omega)))
      · rw [w]; simp (decide := true) only [reduceIte]
        rw [e29]
        exact Pr.samev (p_while hn hp w X0 (fun g => e28 _ g) (fun g gm a v m ht rk ho h k y E hq => IH (d + 1) (by omega) _ _ _ _ _ _ _ _ _ _ _ _ _ _ _ _ _ hq (by omega)))
      · rw [w]; simp (decide := true) only [reduceIte]
        rw [e30]
        exact Pr.samev (p_plain (z := 0) hn (Or.inl ⟨rfl, rfl, rfl, rfl⟩) hp w X1)
      · rw [w]; simp (decide := true) only [reduceIte]
        rw [e30]
        exact Pr.samev (p_plain (z := 1) hn (Or.inr ⟨rfl, rfl, rfl, rfl⟩) hp w X1)
    · rw [e13]
      exact c13_no hR hst
end AllS
