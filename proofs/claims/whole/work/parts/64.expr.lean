/-! every expression -/
section Ex
variable {n N s a D v q m h k y H E b : Nat} {t g gm : mG} {ht rk : Nat → Nat} {ho : Nat → Prop}
theorem p_expr {rc : mRec} (hn : 700 ≤ n) (hb : b < 5) (hP : PE t g gm N s a D v q m ht rk ho h k y H E b)
    (ih : ∀ (g gm : mG) (a m : Nat) (ht : Nat → Nat) (ho : Nat → Prop) (h k y H E : Nat), PE t g gm N s a D v q m ht rk ho h k y H E (b + 1) → Pr n g gm E (rc 15 (nI (b + 1)) (nI D) 0 g) (QI (QE t g gm N s a D v q m ht rk ho h k y H E (b + 1)))) :
    Pr n g gm E (f15 n rc (nI b) (nI D) g) (QI (QE t g gm N s a D v q m ht rk ho h k y H E b)) := by
  obtain ⟨hR, p31, p33, p32, py, pH, pr, ph, pm, pD, _, ph9, pk6, py4, pE⟩ := hP
  obtain ⟨b1, b2, b3, b4, b5, b6, b7, b8⟩ := id hR
  have hs := b1.s6
  have e := s_down (n := n) (gx := gI gm 31 (nI h)) (h := h) hb (by omega) (by simp [rI])
  have C1 : Chg [31] [33] gm (pu (pu (gI gm 31 (nI h)) h (tb b)) (h + 1) (sy (b + 1))) := (Chg.i 31 _ (by simp)).tr (pu_c.tr pu_c)
  have v31 := pu_h (gm := pu (gI gm 31 (nI h)) h (tb b)) (h := h + 1) (x := sy (b + 1))
  have v1 := pu_t (gm := pu (gI gm 31 (nI h)) h (tb b)) (h := h + 1) (x := sy (b + 1))
  have v0 : (pu (pu (gI gm 31 (nI h)) h (tb b)) (h + 1) (sy (b + 1))).2.1 33 h = tb b := by rw [pu_o (by omega)]; exact pu_t
  have vo : ∀ i, i < h → (pu (pu (gI gm 31 (nI h)) h (tb b)) (h + 1) (sy (b + 1))).2.1 33 i = gm.2.1 33 i := fun i hi => by rw [pu_o (by omega), pu_o hi]; rfl
  generalize pu (pu (gI gm 31 (nI h)) h (tb b)) (h + 1) (sy (b + 1)) = gm1 at e C1 v31 v1 v0 vo
  have R1 : RR t g gm1 N s a D v q m ht rk ho := hR.kp (Chg.rf _) (C1.mono (by simp) (by simp)) b3 b2 (b4.kp (fun x _ _ => C1.1 x (by simp; omega))) (by rw [C1.1 34 (by simp)]; exact b6)
  obtain ⟨E, rfl⟩ : ∃ e, E = e + 1 := ⟨E - 1, by omega⟩
  refine Pr.turn (fun c => m_top (by omega) p31 b5 p33 e c) (C1.mono (by simp) (by simp)) ?_
  unfold f15
  rw [if_pos (show nI b ≤ (4 : Int32) from nI_le (a := b) (b := 4) (by omega) (by decide)), nI_1]
  refine Pr.ci (ih g gm1 a m ht ho (h + 1) k y H E ⟨R1, v31, v1, by rw [C1.1 32 (by simp)]; exact p32, by rw [C1.1 33 (by simp)]; exact py, pH, pr, ph, pm, pD, by omega, by omega, by omega, by omega, by omega⟩) ?_
  rintro x g3 gm3 E3 _ _ ⟨a3, m3, ht3, z, rfl, hz, R3, ⟨y31, y32, y33⟩, F3, yt, A3, D3, M3, t1, t2, t3, t4, t5, t6⟩
  have ha3 := R3.2.1
  have hlv : lv (b + 1) ≤ lv b := (by decide : ∀ b, b < 5 → lv (b + 1) ≤ lv b) b hb
  have L : LSt t g gm g3 gm3 N s a D v q m ht rk ho h k y H b a3 m3 ht3 z := ⟨R3, y32, y33, yt, hz, ⟨fun i hi => by rw [F3.1 i (by omega)]; exact vo i hi, fun i hi => by rw [F3.2.1 i hi, C1.2.1 34 (by simp)], fun i hi => by rw [F3.2.2 i hi, C1.2.1 35 (by simp)]⟩, fun i hi => by
    obtain ⟨x1, x2, x3, x4⟩ := A3 i hi
    exact ⟨x1, x2, by rw [x3, C1.2.1 43 (by simp)], by rw [x4, C1.2.1 44 (by simp)]⟩, D3, (C1.mono (by simp) (by simp)).tr M3, t1, t2, fun i h1 h2 => by have := t3 i h1 h2; omega, t4, t5⟩
  have y0 : gm3.2.1 33 h = tb b := by rw [F3.1 h (by omega)]; exact v0
  unfold f15_32
  by_cases h2 : b = 2
  · subst h2
    rw [if_neg (fun w => w rfl)]
    obtain ⟨c, hc⟩ : ∃ c, n = c + 1 + 1 := ⟨n - 2, by omega⟩
    have T := p_tailc (c := c) (rc := rc) hn pm pr ph pD ph9 pk6 py4 (by omega) (fun g gm a m ht h k y H E hp => ih g gm a m ht ho h k y H E hp) L y31 y0 (E0 := E + 1) (E := E3) (by omega)
    rw [← hc] at T
    exact T
  · rw [if_pos (show ¬ nI b = (2 : Int32) from fun w => h2 ((nI_eq (a := b) (b := 2) (by omega) (by decide)).mp w))]
    by_cases h3 : b = 3 ∨ b = 4
    · exact p_tailp (E0 := E + 1) hn h3 pm pr ph pD ph9 pk6 py4 (by omega) (fun g gm a m ht h k y H E hp => ih g gm a m ht ho h k y H E hp) (s + 1) n a3 m3 0 E3 z g3 gm3 ht3 (by omega) (by omega) L y31 y0 (by omega) (by omega)
    · exact p_tailj (E0 := E + 1) hn (by omega) pm pr ph pD ph9 pk6 py4 (by omega) ih (s + 1) n a3 m3 0 E3 z g3 gm3 ht3 (by omega) (by omega) L y31 y0 (by omega) (by omega)
end Ex
