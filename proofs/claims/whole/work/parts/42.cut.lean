/-! the class's whole cut -/
def cl (x : Int32) : Nat := Int32.toNatClampNeg x
theorem cl_nI {a : Nat} (h : a < 2 ^ 31) : cl (nI a) = a := nI_clamp h
def tq (g : mG) : Nat → Nat
  | 0 => 0
  | i + 1 => cl (g.2.1 14 i)
def tp (g : mG) (i : Nat) : Nat := cl (g.2.1 13 i)
/-- a text of N signs is cut into tokens up to k -/
def Tk (g : mG) (N k : Nat) : Prop := ∀ i, i < k → TokR (g.2.1 8) N (tq g i) (g.2.1 12 i) (tp g i) (tq g (i + 1)) (g.2.1 15 i) ∧ g.2.1 13 i = nI (tp g i) ∧ g.2.1 14 i = nI (tq g (i + 1)) ∧ tp g i ≤ N
section Cut
variable {n N : Nat}
theorem c61_25 (hn : 700 ≤ n) (hN : N ≤ 600) : ∀ (d k c : Nat) (g : mG), k + d = 601 → d + 1 < c → g.1 9 = nI N → g.1 10 = nI (tq g k) → k ≤ tq g k → tq g k ≤ N → Tk g N k → (∀ i, i < k → ¬ g.2.1 12 i = 0 ∧ ¬ g.2.1 12 i = 1) → (∀ i, i < k → i ≤ tp g i) →
    ∃ g' s, f61_25 n c 1 (nI k) g = some (.inl none, g') ∧ s ≤ 600 ∧ g'.1 8 = nI (s + 1) ∧ Tk g' N (s + 1) ∧ (∀ i, i < s → ¬ g'.2.1 12 i = 0 ∧ ¬ g'.2.1 12 i = 1) ∧ (g'.2.1 12 s = 0 ∨ g'.2.1 12 s = 1) ∧ (∀ i, i ≤ s → i ≤ tp g' i) ∧ Chg [8, 10, 11] [12, 13, 14, 15] g g' := by
  intro d
  induction d with
  | zero => intro k c g hk hc h9 h10 hq hqN hT hM hP; omega
  | succ d ih =>
    intro k c g hk hc h9 h10 hq hqN hT hM hP
    obtain ⟨c, rfl⟩ : ∃ z, c = z + 1 := ⟨c - 1, by omega⟩
    obtain ⟨b, hb⟩ := IsR.ex (blk (g.2.1 8)) N (N - tq g k) (tq g k) (by omega)
    have hb' := hb
    obtain ⟨a1, a2, a3, a4⟩ := hb'
    obtain ⟨mk, st, nu, g1, e1, e2, e3, e4, e5⟩ := c64 (n := n) (g := g) (b := b) hn h9 hN a2
    have hst := e2.st
    have e0 : f62 n (nI (tq g k)) g = some (.inl (some (.int (nI b))), g) := c62_2 h9 hN (b - tq g k) (tq g k) n (by omega) (by omega) hb
    have hin : ¬ (nI k < 0 ∨ 601 ≤ Int32.toNatClampNeg (nI k)) := nI_in (c := k) (N := 601) (by omega) (by decide)
    have E : f61_25 n (c + 1) 1 (nI k) g = f61_25 n c (if mk = 0 then 0 else if mk = 1 then 0 else 1) (nI (k + 1)) (gI (gS (gS (gS (gS g1 12 (upd (g1.2.1 12) k mk)) 13 (upd (g1.2.1 13) k (nI b))) 14 (upd (g1.2.1 14) k (nI st))) 15 (upd (g1.2.1 15) k nu)) 8 (nI (k + 1))) := by
      rw [f61_25, if_neg (show ¬ (600 : Int32) < nI k from nI_nlt (a := 600) (b := k) (by omega) (by omega)), if_neg (show ¬ (1 : Int32) = 0 by decide), h10, e0, m_ci_s, e1, m_ci_s, if_neg hin, if_neg hin, if_neg hin, if_neg hin, nI_clamp (by omega), nI_1, e3, e4]
      by_cases hm0 : mk = 0
      · rw [if_pos hm0, if_pos hm0]
      · rw [if_neg hm0, if_neg hm0]
        by_cases hm1 : mk = 1
        · rw [if_pos hm1, if_pos hm1]
        · rw [if_neg hm1, if_neg hm1]
    rw [E]
    have C1 : Chg [8, 10, 11] [12, 13, 14, 15] g (gI (gS (gS (gS (gS g1 12 (upd (g1.2.1 12) k mk)) 13 (upd (g1.2.1 13) k (nI b))) 14 (upd (g1.2.1 14) k (nI st))) 15 (upd (g1.2.1 15) k nu)) 8 (nI (k + 1))) := (e5.mono (by simp) (by simp)).tr ((Chg.s 12 _ (by simp)).tr ((Chg.s 13 _ (by simp)).tr ((Chg.s 14 _ (by simp)).tr ((Chg.s 15 _ (by simp)).tr (Chg.i 8 _ (by simp))))))
    have x12 : g1.2.1 12 = g.2.1 12 := e5.2.1 12 (by simp)
    have x13 : g1.2.1 13 = g.2.1 13 := e5.2.1 13 (by simp)
    have x14 : g1.2.1 14 = g.2.1 14 := e5.2.1 14 (by simp)
    have x15 : g1.2.1 15 = g.2.1 15 := e5.2.1 15 (by simp)
    have y9 : (gI (gS (gS (gS (gS g1 12 (upd (g1.2.1 12) k mk)) 13 (upd (g1.2.1 13) k (nI b))) 14 (upd (g1.2.1 14) k (nI st))) 15 (upd (g1.2.1 15) k nu)) 8 (nI (k + 1))).1 9 = nI N := by simp [rI, rS1, e5.1 9 (by simp), h9]
    have y10 : (gI (gS (gS (gS (gS g1 12 (upd (g1.2.1 12) k mk)) 13 (upd (g1.2.1 13) k (nI b))) 14 (upd (g1.2.1 14) k (nI st))) 15 (upd (g1.2.1 15) k nu)) 8 (nI (k + 1))).1 10 = nI st := by simp [rI, rS1, e3]
    have y8 : (gI (gS (gS (gS (gS g1 12 (upd (g1.2.1 12) k mk)) 13 (upd (g1.2.1 13) k (nI b))) 14 (upd (g1.2.1 14) k (nI st))) 15 (upd (g1.2.1 15) k nu)) 8 (nI (k + 1))).1 8 = nI (k + 1) := by simp [rI]
    have z8 : (gI (gS (gS (gS (gS g1 12 (upd (g1.2.1 12) k mk)) 13 (upd (g1.2.1 13) k (nI b))) 14 (upd (g1.2.1 14) k (nI st))) 15 (upd (g1.2.1 15) k nu)) 8 (nI (k + 1))).2.1 8 = g.2.1 8 := C1.2.1 8 (by simp)
    have z12 : (gI (gS (gS (gS (gS g1 12 (upd (g1.2.1 12) k mk)) 13 (upd (g1.2.1 13) k (nI b))) 14 (upd (g1.2.1 14) k (nI st))) 15 (upd (g1.2.1 15) k nu)) 8 (nI (k + 1))).2.1 12 = upd (g.2.1 12) k mk := by simp [rI2, rS, x12]
    have z13 : (gI (gS (gS (gS (gS g1 12 (upd (g1.2.1 12) k mk)) 13 (upd (g1.2.1 13) k (nI b))) 14 (upd (g1.2.1 14) k (nI st))) 15 (upd (g1.2.1 15) k nu)) 8 (nI (k + 1))).2.1 13 = upd (g.2.1 13) k (nI b) := by simp [rI2, rS, x13]
    have z14 : (gI (gS (gS (gS (gS g1 12 (upd (g1.2.1 12) k mk)) 13 (upd (g1.2.1 13) k (nI b))) 14 (upd (g1.2.1 14) k (nI st))) 15 (upd (g1.2.1 15) k nu)) 8 (nI (k + 1))).2.1 14 = upd (g.2.1 14) k (nI st) := by simp [rI2, rS, x14]
    have z15 : (gI (gS (gS (gS (gS g1 12 (upd (g1.2.1 12) k mk)) 13 (upd (g1.2.1 13) k (nI b))) 14 (upd (g1.2.1 14) k (nI st))) 15 (upd (g1.2.1 15) k nu)) 8 (nI (k + 1))).2.1 15 = upd (g.2.1 15) k nu := by simp [rI2, rS, x15]
    generalize gI (gS (gS (gS (gS g1 12 (upd (g1.2.1 12) k mk)) 13 (upd (g1.2.1 13) k (nI b))) 14 (upd (g1.2.1 14) k (nI st))) 15 (upd (g1.2.1 15) k nu)) 8 (nI (k + 1)) = g2 at C1 y9 y10 y8 z8 z12 z13 z14 z15 ⊢
    have uo : ∀ (f : Nat → Int32) (v : Int32) (i : Nat), i < k → upd f k v i = f i := fun f v i hi => by simp [upd, show ¬ i = k by omega]
    have us : ∀ (f : Nat → Int32) (v : Int32), upd f k v k = v := fun f v => by simp [upd]
    have tqo : ∀ i, i ≤ k → tq g2 i = tq g i := fun i hi => by
      cases i with
      | zero => rfl
      | succ i => show cl (g2.2.1 14 i) = cl (g.2.1 14 i); rw [z14, uo _ _ _ (by omega)]
    have tqs : tq g2 (k + 1) = st := by show cl (g2.2.1 14 k) = st; rw [z14, us, cl_nI (by omega)]
    have tpo : ∀ i, i < k → tp g2 i = tp g i := fun i hi => by show cl (g2.2.1 13 i) = cl (g.2.1 13 i); rw [z13, uo _ _ _ hi]
    have tps : tp g2 k = b := by show cl (g2.2.1 13 k) = b; rw [z13, us, cl_nI (by omega)]
    have T2 : Tk g2 N (k + 1) := fun i hi => by
      by_cases hik : i = k
      · subst hik
        rw [tqs, tps, tqo i (Nat.le_refl _), z8, z12, z13, z14, z15, us, us, us, us]
        exact ⟨⟨hb, e2⟩, rfl, rfl, a2⟩
      · have := hT i (by omega)
        rw [tqo i (by omega), tqo (i + 1) (by omega), tpo i (by omega), z8, z12, z13, z14, z15, uo _ _ _ (by omega), uo _ _ _ (by omega), uo _ _ _ (by omega), uo _ _ _ (by omega)]
        exact this
    have P2 : ∀ i, i ≤ k → i ≤ tp g2 i := fun i hi => by
      by_cases hik : i = k
      · subst hik; rw [tps]; omega
      · rw [tpo i (by omega)]; exact hP i (by omega)
    have fin : (mk = 0 ∨ mk = 1) → (∃ g' s, f61_25 n c (if mk = 0 then 0 else if mk = 1 then 0 else 1) (nI (k + 1)) g2 = some (.inl none, g') ∧ s ≤ 600 ∧ g'.1 8 = nI (s + 1) ∧ Tk g' N (s + 1) ∧ (∀ i, i < s → ¬ g'.2.1 12 i = 0 ∧ ¬ g'.2.1 12 i = 1) ∧ (g'.2.1 12 s = 0 ∨ g'.2.1 12 s = 1) ∧ (∀ i, i ≤ s → i ≤ tp g' i) ∧ Chg [8, 10, 11] [12, 13, 14, 15] g g') := fun hm => by
      refine ⟨g2, k, ?_, by omega, y8, T2, fun i hi => ?_, ?_, P2, C1⟩
      · obtain ⟨c, rfl⟩ : ∃ z, c = z + 1 := ⟨c - 1, by omega⟩
        have e : (if mk = 0 then (0 : Int32) else if mk = 1 then 0 else 1) = 0 := by
          rcases hm with z | z
          · rw [if_pos z]
          · rw [z]; rfl
        rw [e, f61_25]
        by_cases hz : (600 : Int32) < nI (k + 1)
        · rw [if_pos hz]
        · rw [if_neg hz, if_pos rfl]
      · rw [z12, uo _ _ _ hi]; exact hM i hi
      · rw [z12, us]; exact hm
    by_cases hm0 : mk = 0
    · exact fin (Or.inl hm0)
    by_cases hm1 : mk = 1
    · exact fin (Or.inr hm1)
    rw [if_neg hm0, if_neg hm1]
    have hbN : b < N := by
      rcases Nat.lt_or_ge b N with z | z
      · exact z
      · exact absurd (hst.2.2.2.mpr (by omega)) hm0
    have hbs := hst.2.2.1 hbN
    obtain ⟨g', s, q1, q2, q3, q4, q5, q6, q7, q8⟩ := ih (k + 1) c g2 (by omega) (by omega) y9 (by rw [tqs]; exact y10) (by rw [tqs]; omega) (by rw [tqs]; exact hst.2.1) T2 (fun i hi => by
      by_cases hik : i = k
      · subst hik; rw [z12, us]; exact ⟨hm0, hm1⟩
      · rw [z12, uo _ _ _ (by omega)]; exact hM i (by omega)) (fun i hi => P2 i (by omega))
    exact ⟨g', s, q1, q2, q3, q4, q5, q6, q7, C1.tr q8⟩
/-- the tokens of a cut text -/
def Cut (g : mG) (N s : Nat) : Prop := s ≤ 600 ∧ g.1 8 = nI (s + 1) ∧ Tk g N (s + 1) ∧ (∀ i, i < s → ¬ g.2.1 12 i = 0 ∧ ¬ g.2.1 12 i = 1) ∧ (g.2.1 12 s = 0 ∨ g.2.1 12 s = 1) ∧ (∀ i, i ≤ s → i ≤ tp g i)
theorem c61 {g : mG} (hn : 700 ≤ n) (hN : N ≤ 600) : ∃ g' s, f61 n (nI N) g = some (.inl none, g') ∧ Cut g' N s ∧ g'.1 9 = nI N ∧ Chg [8, 9, 10, 11] [12, 13, 14, 15] g g' := by
  obtain ⟨g', s, q1, q2, q3, q4, q5, q6, q7, q8⟩ := c61_25 (n := n) hn hN 601 0 n (gI (gI (gI g 9 (nI N)) 8 (0 : Int32)) 10 (0 : Int32)) (by omega) (by omega) (by simp [rI]) (by simp [rI]; rfl) (Nat.zero_le _) (Nat.zero_le _) (fun i hi => by omega) (fun i hi => by omega) (fun i hi => by omega)
  exact ⟨g', s, q1, ⟨q2, q3, q4, q5, q6, q7⟩, by rw [q8.1 9 (by simp)]; simp [rI], ((Chg.i 9 _ (by simp)).tr ((Chg.i 8 _ (by simp)).tr (Chg.i 10 _ (by simp)))).tr (q8.mono (by simp) (by simp))⟩
end Cut
