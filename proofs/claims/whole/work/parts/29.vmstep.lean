/-! step by step -/
def f144B (n : Nat) (x1 w z : Int32) (g : mG) : mZ := if w = 1 then m_cv (f140 n z g) (fun g4 => some (.inl (some (.int (x1 + (1 : Int32)))), g4)) else if w = 2 then if (((8 : Int32) * ((g.1 42) - (1 : Int32))) + z) < 0 ∨ 104 ≤ Int32.toNatClampNeg (((8 : Int32) * ((g.1 42) - (1 : Int32))) + z) then none else m_cv (f140 n ((g.2.1 55) (Int32.toNatClampNeg (((8 : Int32) * ((g.1 42) - (1 : Int32))) + z))) g) (fun g10 => some (.inl (some (.int (x1 + (1 : Int32)))), g10)) else if w = 3 then m_ci (f142 n g) (fun v16 g15 => if ¬ z = (17 : Int32) then f144_143 n x1 ((1 : Int32) - v16) g15 else f144_143 n x1 (-v16) g15) else if w = 4 then m_ci (f142 n g) (fun v26 g25 => m_ci (f142 n g25) (fun v30 g29 => if ¬ v26 = 0 then f144_181 n x1 z v26 v30 g29 else if z = (19 : Int32) then some (.inl (some (.int (-2 : Int32))), g29) else if ¬ z = (20 : Int32) then f144_181 n x1 z v26 v30 g29 else some (.inl (some (.int (-2 : Int32))), g29))) else if w = 5 then if ((g.1 41) - (1 : Int32)) < 0 ∨ 3000 ≤ Int32.toNatClampNeg ((g.1 41) - (1 : Int32)) then none else if ¬ w = (6 : Int32) then f144_218 n x1 z ((g.2.1 53) (Int32.toNatClampNeg ((g.1 41) - (1 : Int32)))) (0 : Int32) g else f144_218 n x1 z ((g.2.1 53) (Int32.toNatClampNeg ((g.1 41) - (1 : Int32)))) (1 : Int32) g else if w = 6 then if ((g.1 41) - (1 : Int32)) < 0 ∨ 3000 ≤ Int32.toNatClampNeg ((g.1 41) - (1 : Int32)) then none else if ¬ w = (6 : Int32) then f144_218 n x1 z ((g.2.1 53) (Int32.toNatClampNeg ((g.1 41) - (1 : Int32)))) (0 : Int32) g else f144_218 n x1 z ((g.2.1 53) (Int32.toNatClampNeg ((g.1 41) - (1 : Int32)))) (1 : Int32) g else if w = 7 then m_ci (f142 n g) (fun v53 g52 => m_ci (f137 n v53 g52) (fun v57 g56 => m_cv (f140 n v57 g56) (fun g60 => some (.inl (some (.int (x1 + (1 : Int32)))), g60)))) else if w = 8 then if ¬ (g.1 42) = (12 : Int32) then m_ci (f141 n z (x1 + (1 : Int32)) g) (fun v67 g66 => some (.inl (some (.int v67)), g66)) else some (.inl (some (.int (-2 : Int32))), g) else if w = 9 then m_ci (f142 n g) (fun v72 g71 => if (((8 : Int32) * ((g.1 42) - (1 : Int32))) + z) < 0 ∨ 104 ≤ Int32.toNatClampNeg (((8 : Int32) * ((g.1 42) - (1 : Int32))) + z) then none else some (.inl (some (.int (x1 + (1 : Int32)))), (gS g71 55 (upd (g71.2.1 55) (Int32.toNatClampNeg (((8 : Int32) * ((g.1 42) - (1 : Int32))) + z)) v72)))) else if w = 10 then m_ci (f142 n g) (fun v78 g77 => m_ci (f142 n g77) (fun v82 g81 => m_ci (f147 n v82 v78 g81) (fun v86 g85 => if ¬ v86 = 0 then some (.inl (some (.int (x1 + (1 : Int32)))), g85) else some (.inl (some (.int (-2 : Int32))), g85)))) else if w = 11 then m_ci (f142 n g) (fun v92 g91 => if ¬ v92 = 0 then some (.inl (some (.int (x1 + (1 : Int32)))), g91) else some (.inl (some (.int z)), g91)) else if w = 12 then some (.inl (some (.int z)), g) else if w = 14 then m_ci (f142 n g) (fun v99 g98 => if ¬ v99 = 0 then some (.inl (some (.int (x1 + (1 : Int32)))), g98) else some (.inl (some (.int (-3 : Int32))), g98)) else m_ci (f148 n w g) (fun v104 g103 => some (.inl (some (.int v104)), g103))
theorem m144 {n p : Nat} {g : mG} (hp : p < 2400) : f144 n (nI p) g = f144B n (nI p) (g.2.1 47 p) (g.2.1 48 p) g := by
  unfold f144
  rw [if_neg (nI_in hp (by decide)), if_neg (nI_in hp (by decide)), nI_clamp (by omega)]
  rfl
section Steps
variable {n m q t k p c s : Nat} {C : Nat → Nat → Int32} {ht rk B : Nat → Nat} {g gm : mG}
/-- the state ahead of what an instruction does -/
def VP (C : Nat → Nat → Int32) (m q : Nat) (ht rk B : Nat → Nat) (g gm : mG) (t k p c s : Nat) : Prop := Code C m q ht rk ∧ VA C m q g gm ∧ VS g gm t ∧ VV g gm k ∧ VF m ht rk B g gm k ∧ VK g gm s ∧ g.1 16 = nI (p + 1) ∧ g.1 18 = nI c ∧ gm.2.2.1 = lN c ∧ p < m ∧ t = B k + ht p
theorem VP.tb (h : VP C m q ht rk B g gm t k p c s) : t ≤ 1056 ∧ p < 600 ∧ k < 12 ∧ s ≤ 32 := by
  obtain ⟨hC, -, -, -, hF, hK, -, -, -, hp, e⟩ := h
  have h1 := hF.le hC.2.2.1 k (Nat.le_refl k)
  have h2 := hC.2.2.1 p
  have h3 := hF.2.2.1
  have h4 := hC.1
  refine ⟨by omega, by omega, h3, hK.2.2.1⟩
theorem m144a {n p : Nat} {g : mG} (hp : p < 2400) : f144 n (nI p) g = f144B n (nI p) (g.2.1 47 p) (g.2.1 48 p) g := m144 hp
theorem VP.m144 (h : VP C m q ht rk B g gm t k p c s) : f144 n (nI p) gm = f144B n (nI p) (C 6 p) (C 7 p) gm := by
  have := h.tb
  rw [m144a (by omega), h.2.1.2.2.2.2.2.2.2.2.1, h.2.1.2.2.2.2.2.2.2.2.2]
/-- on, with stack and place changed alone -/
theorem VP.on {g' gm' : mG} {t' p' w : Nat} {rg rm : mZ} (h : VP C m q ht rk B g gm t k p c s) (e1 : rg = some (.inl none, g')) (e2 : rm = some (.inl (some (.int (nI p'))), gm')) (hg : Chg [14, 16] [25] g g') (hm : Chg [24, 41] [53] gm gm') (hS : VS g' gm' t') (h16 : g'.1 16 = nI p') (hp : p' < m) (ht' : t' = B k + ht p') (hw : w = 0 → rk p' < rk p) (h24 : gm'.1 24 = gm.1 24 ∨ gm'.1 24 = 0) : SR C m q ht rk g gm p c w rg rm := by
  obtain ⟨hC, hA, -, hV, hF, hK, -, h18, hc, -, -⟩ := h
  have g1 : Chg SC AC g g' := hg.mono (by simp) (by simp)
  have g2 : ChgM SM AM gm gm' := hm.m (by simp) (by simp)
  have hK' : VK g' gm' s := hK.kp (hg.1 22 (by simp)) (hm.1 39 (by simp)) (hg.2.1 28 (by simp)) (hg.2.1 29 (by simp)) (hm.2.1 49 (by simp)) (hm.2.1 50 (by simp))
  refine ⟨g', gm', e1, g1, g2, (fun z => h24.elim (fun e => e.trans z) id), hK'.2.2.2.1, hK'.2.2.2.2.1, Or.inl ⟨p', t', k, s, B, e2, ⟨hA.kp g1 g2, hS, hV.kp (hg.2.1 26 (by simp)) (hm.2.1 55 (by simp)), hF.kp (hg.1 15 (by simp)) (hm.1 42 (by simp)) (hg.2.1 27 (by simp)) (hm.2.1 54 (by simp)), hK', h16, ?_, ?_, hp, ht'⟩, hg.1 17 (by simp), hw⟩⟩
  · rw [hg.1 18 (by simp)]; exact h18
  · rw [hm.2.2]; exact hc
theorem VP.tt (h : VP C m q ht rk B g gm t k p c s) : t = B k + ht p := h.2.2.2.2.2.2.2.2.2.2
theorem VP.pc (h : VP C m q ht rk B g gm t k p c s) : g.1 16 = nI (p + 1) := h.2.2.2.2.2.2.1
theorem VP.psh {v : Int32} {w : Nat} {rg rm : mZ} (h : VP C m q ht rk B g gm t k p c s) (e1 : rg = some (.inl none, gI (gS g 25 (upd (g.2.1 25) t v)) 14 (nI (t + 1)))) (e2 : rm = some (.inl (some (.int (nI (p + 1)))), gI (gS gm 53 (upd (gm.2.1 53) t v)) 41 (nI (t + 1)))) (h4 : p + 1 < m) (h5 : ht (p + 1) = ht p + 1) (hw : w ≠ 0) : SR C m q ht rk g gm p c w rg rm :=
  h.on e1 e2 ((Chg.s 25 _ (by simp)).tr (Chg.i 14 _ (by simp))) ((Chg.s 53 _ (by simp)).tr (Chg.i 41 _ (by simp))) (h.2.2.1.push (v := v) (by simp [rI]) (by simp [rI]) (by simp [rI2, rS]) (by simp [rI2, rS])) (by simp [rI, rS1, h.pc]) h4 (by have := h.tt; omega) (fun z => absurd z hw) (Or.inl (by simp [rI, rS1]))
/-- the top taken and another value laid there -/
theorem VP.un {t : Nat} {v : Int32} {w : Nat} {rg rm : mZ} {gm1 : mG} (h : VP C m q ht rk B g gm (t + 1) k p c s) (hm1 : Chg [24] [] (gI gm 41 (nI t)) gm1) (h24 : gm1.1 24 = gm.1 24 ∨ gm1.1 24 = 0) (e1 : rg = some (.inl none, gI (gS (gI g 14 (nI t)) 25 (upd (g.2.1 25) t v)) 14 (nI (t + 1)))) (e2 : rm = some (.inl (some (.int (nI (p + 1)))), gI (gS gm1 53 (upd (gm.2.1 53) t v)) 41 (nI (t + 1)))) (h4 : p + 1 < m) (h5 : ht (p + 1) = ht p) (hw : w ≠ 0) : SR C m q ht rk g gm p c w rg rm := by
  have hS2 : VS (gI g 14 (nI t)) (gI gm 41 (nI t)) t := h.2.2.1.pop (by simp [rI]) (by simp [rI]) rfl rfl
  have hm2 : Chg [24, 41] [53] gm gm1 := (Chg.i 41 _ (by simp)).tr (hm1.mono (by simp) (by simp))
  exact h.on e1 e2 (((Chg.i 14 _ (by simp)).tr (Chg.s 25 _ (by simp))).tr (Chg.i 14 _ (by simp))) ((hm2.tr (Chg.s 53 _ (by simp))).tr (Chg.i 41 _ (by simp))) (hS2.push (v := v) (by simp [rI]) (by simp [rI]) (by simp [rI2, rS]) (by simp [rI2, rS])) (by simp [rI, rS1, h.pc]) h4 (by have := h.tt; omega) (fun z => absurd z hw) (by simpa [rI, rS1] using h24)
/-- the top taken, and on -/
theorem VP.dr {t p' : Nat} {w : Nat} {rg rm : mZ} {g' : mG} (h : VP C m q ht rk B g gm (t + 1) k p c s) (hg : Chg [16] [] (gI g 14 (nI t)) g') (h16 : g'.1 16 = nI p') (e1 : rg = some (.inl none, g')) (e2 : rm = some (.inl (some (.int (nI p'))), gI gm 41 (nI t))) (h4 : p' < m) (h5 : ht p = ht p' + 1) (hw : w ≠ 0) : SR C m q ht rk g gm p c w rg rm := by
  have hS2 : VS g' (gI gm 41 (nI t)) t := h.2.2.1.pop (by rw [hg.1 14 (by simp)]; simp [rI]) (by simp [rI]) (by rw [hg.2.1 25 (by simp)]; rfl) rfl
  exact h.on e1 e2 ((Chg.i 14 _ (by simp)).tr (hg.mono (by simp) (by simp))) (Chg.i 41 _ (by simp)) hS2 h16 h4 (by have := h.tt; omega) (fun z => absurd z hw) (Or.inl (by simp [rI]))
theorem VP.ge (h : VP C m q ht rk B g gm t k p c s) {d : Nat} (hd : d ≤ ht p) : ∃ z, t = z + d := ⟨t - d, by have := h.tt; omega⟩
theorem s_num (h : VP C m q ht rk B g gm t k p c s) (h1 : C 0 p = 3) (h2 : C 6 p = 1) (h3 : C 7 p = C 1 p) (h4 : p + 1 < m) (h5 : ht (p + 1) = ht p + 1) {w : Nat} (hw : w ≠ 0) : SR C m q ht rk g gm p c w (f49 n (C 0 p) (C 1 p) g) (f144 n (nI p) gm) := by
  have hb := h.tb
  have hS := h.2.2.1
  refine h.psh (v := C 1 p) ?_ ?_ h4 h5 hw
  · rw [h1]; unfold f49; rw [if_pos rfl, c44 hS.1 (by omega)]; rfl
  · rw [h.m144, h2, h3]; unfold f144B; rw [if_pos rfl, m140 hS.2.1 (by omega), nI_1 p]; rfl
theorem s_var {v : Nat} (h : VP C m q ht rk B g gm t k p c s) (h1 : C 0 p = 36) (h2 : C 6 p = 2) (h3 : C 7 p = C 1 p) (hv : v < 8) (h7 : C 1 p = nI v) (h4 : p + 1 < m) (h5 : ht (p + 1) = ht p + 1) {w : Nat} (hw : w ≠ 0) : SR C m q ht rk g gm p c w (f49 n (C 0 p) (C 1 p) g) (f144 n (nI p) gm) := by
  have hb := h.tb
  have hS := h.2.2.1
  have hF := h.2.2.2.2.1
  refine h.psh (v := g.2.1 26 (8 * k + v)) ?_ ?_ h4 h5 hw
  · rw [h1, h7]; unfold f49; simp only [reduceIte, show ((36 : Int32) = 3) = False by decide, show ((36 : Int32) = 22) = False by decide, show ((36 : Int32) = 23) = False by decide, show ((36 : Int32) = 24) = False by decide, show ((36 : Int32) = 27) = False by decide, show ((36 : Int32) = 28) = False by decide, show ((36 : Int32) = 32) = False by decide, show ((36 : Int32) = 33) = False by decide]
    rw [c50 hF.1 (by omega) hv]; simp only [m_ci]; rw [c44 hS.1 (by omega)]; rfl
  · rw [h.m144, h2, h3, h7]; unfold f144B; rw [if_neg (by decide), if_pos rfl, hF.2.1, slot_m, if_neg (nI_in (by omega) (by decide)), nI_clamp (by omega), ← h.2.2.2.1 (8 * k + v) (by omega), m140 hS.2.1 (by omega), nI_1 p]; rfl
theorem s_neg (h : VP C m q ht rk B g gm t k p c s) (h1 : C 0 p = 37) (h2 : C 6 p = 3) (h3 : C 7 p = 17) (h4 : p + 1 < m) (h5 : 1 ≤ ht p) (h6 : ht (p + 1) = ht p) {w : Nat} (hw : w ≠ 0) : SR C m q ht rk g gm p c w (f49 n (C 0 p) (C 1 p) g) (f144 n (nI p) gm) := by
  have hb := h.tb
  obtain ⟨t, rfl⟩ := h.ge h5
  have hS := h.2.2.1
  refine h.un (v := -(g.2.1 25 t)) (Chg.rf _) (Or.inl (by simp [rI])) ?_ ?_ h4 h6 hw
  · rw [h1]; unfold f49; simp (decide := true) only [reduceIte]
    rw [c46 hS.1 (by omega)]; simp only [m_ci]; rw [c44 (t := t) (by simp [rI]) (by omega)]; rfl
  · rw [h.m144, h2, h3, hS.2.2 t (by omega)]; unfold f144B; simp (decide := true) only [reduceIte]
    rw [m142 hS.2.1 (by omega)]; simp only [m_ci]; unfold f144_143; rw [m140 (t := t) (by simp [rI]) (by omega), nI_1 p]; rfl
theorem s_not (h : VP C m q ht rk B g gm t k p c s) (h1 : C 0 p = 22) (h2 : C 6 p = 3) (h3 : C 7 p = 21) (h4 : p + 1 < m) (h5 : 1 ≤ ht p) (h6 : ht (p + 1) = ht p) {w : Nat} (hw : w ≠ 0) : SR C m q ht rk g gm p c w (f49 n (C 0 p) (C 1 p) g) (f144 n (nI p) gm) := by
  have hb := h.tb
  obtain ⟨t, rfl⟩ := h.ge h5
  have hS := h.2.2.1
  refine h.un (v := 1 - g.2.1 25 t) (Chg.rf _) (Or.inl (by simp [rI])) ?_ ?_ h4 h6 hw
  · rw [h1]; unfold f49; simp (decide := true) only [reduceIte]
    rw [c46 hS.1 (by omega)]; simp only [m_ci]; rw [c44 (t := t) (by simp [rI]) (by omega)]; rfl
  · rw [h.m144, h2, h3, hS.2.2 t (by omega)]; unfold f144B; simp (decide := true) only [reduceIte]
    rw [m142 hS.2.1 (by omega)]; simp (decide := true) only [m_ci, reduceIte]; unfold f144_143; rw [m140 (t := t) (by simp [rI]) (by omega), nI_1 p]; rfl
theorem s_load (hn : 40 ≤ n) (h : VP C m q ht rk B g gm t k p c s) (h1 : C 0 p = 28) (h2 : C 6 p = 7) (h4 : p + 1 < m) (h5 : 1 ≤ ht p) (h6 : ht (p + 1) = ht p) {w : Nat} (hw : w ≠ 0) : SR C m q ht rk g gm p c w (f49 n (C 0 p) (C 1 p) g) (f144 n (nI p) gm) := by
  have hb := h.tb
  obtain ⟨t, rfl⟩ := h.ge h5
  have hS := h.2.2.1
  obtain ⟨k1, k2, k3, k4, k5, k6⟩ := h.2.2.2.2.2.1
  obtain ⟨v, hv⟩ := stv_ex (g.2.1 28) (g.2.1 29) s (g.2.1 25 t)
  refine h.un (v := v) (Chg.i 24 0 (by simp)) (Or.inr (by simp [rI])) ?_ ?_ h4 h6 hw
  · rw [h1]; unfold f49; simp (decide := true) only [reduceIte]
    rw [c46 hS.1 (by omega)]; simp only [m_ci]
    rw [c56 (g := gI g 14 (nI t)) (s := s) (v := v) hn (by simp [rI, k1]) k3 k6 hv]; simp only []; rw [c44 (t := t) (by simp [rI]) (by omega)]; rfl
  · rw [h.m144, h2]; unfold f144B; simp (decide := true) only [reduceIte]
    rw [m142 hS.2.1 (by omega)]; simp only [m_ci]
    rw [← hS.2.2 t (by omega), m137 (g := gI gm 41 (nI t)) (s := s) (v := v) hn (by simp [rI, k2]) k3 (by rw [rI2, ← k4]; exact k6) (by rw [rI2, ← k4, ← k5]; exact hv)]; simp only []; rw [m140 (t := t) (by simp [rI]) (by omega), nI_1 p]; rfl
theorem s_test {d : Nat} (h : VP C m q ht rk B g gm t k p c s) (h1 : C 0 p = 40) (h2 : C 6 p = 11) (h3 : C 7 p = C 1 p) (hd : d < m) (h7 : C 1 p = nI d) (h8 : ht p = ht d + 1) (h4 : p + 1 < m) (h5 : ht p = ht (p + 1) + 1) {w : Nat} (hw : w ≠ 0) : SR C m q ht rk g gm p c w (f49 n (C 0 p) (C 1 p) g) (f144 n (nI p) gm) := by
  have hb := h.tb
  obtain ⟨t, rfl⟩ := h.ge (d := 1) (by omega)
  have hS := h.2.2.1
  by_cases hz : g.2.1 25 t = 0
  · refine h.dr (p' := d) (g' := gI (gI g 14 (nI t)) 16 (nI d)) (Chg.i 16 _ (by simp)) (by simp [rI]) ?_ ?_ hd h8 hw
    · rw [h1, h7]; unfold f49; simp (decide := true) only [reduceIte]
      rw [c46 hS.1 (by omega)]; simp [m_ci, hz]
    · rw [h.m144, h2, h3, h7]; unfold f144B; simp (decide := true) only [reduceIte]
      rw [m142 hS.2.1 (by omega), ← hS.2.2 t (by omega)]; simp [m_ci, hz]
  · refine h.dr (p' := p + 1) (g' := gI g 14 (nI t)) (Chg.rf _) (by simp [rI, h.pc]) ?_ ?_ h4 h5 hw
    · rw [h1, h7]; unfold f49; simp (decide := true) only [reduceIte]
      rw [c46 hS.1 (by omega)]; simp [m_ci, hz]
    · rw [h.m144, h2, h3, h7]; unfold f144B; simp (decide := true) only [reduceIte]
      rw [m142 hS.2.1 (by omega), ← hS.2.2 t (by omega)]; simp [m_ci, hz, nI_1]
theorem s_req (h : VP C m q ht rk B g gm t k p c s) (h1 : C 0 p = 33) (h2 : C 6 p = 14) (h4 : p + 1 < m) (h5 : ht p = ht (p + 1) + 1) {w : Nat} (hw : w ≠ 0) : SR C m q ht rk g gm p c w (f49 n (C 0 p) (C 1 p) g) (f144 n (nI p) gm) := by
  have hb := h.tb
  obtain ⟨t, rfl⟩ := h.ge (d := 1) (by omega)
  have hS := h.2.2.1
  by_cases hz : g.2.1 25 t = 0
  · have e1 : f49 n (C 0 p) (C 1 p) g = some (.inl none, gI (gI g 14 (nI t)) 17 2) := by
      rw [h1]; unfold f49; simp (decide := true) only [reduceIte]
      rw [c46 hS.1 (by omega)]; simp [m_ci, hz]
    have e2 : f144 n (nI p) gm = some (.inl (some (.int (-3))), gI gm 41 (nI t)) := by
      rw [h.m144, h2]; unfold f144B; simp (decide := true) only [reduceIte]
      rw [m142 hS.2.1 (by omega), ← hS.2.2 t (by omega)]; simp [m_ci, hz]
    have hK := h.2.2.2.2.2.1
    exact ⟨_, _, e1, (Chg.i 14 _ (by simp)).tr (Chg.i 17 _ (by simp)), (Chg.i (S := SM) (A := AM) 41 _ (by simp)).m (by simp) (by simp), (fun z => by simp [rI, z]), hK.2.2.2.1, hK.2.2.2.2.1, Or.inr (Or.inr (Or.inl ⟨e2, by simp [rI]⟩))⟩
  · refine h.dr (p' := p + 1) (g' := gI g 14 (nI t)) (Chg.rf _) (by simp [rI, h.pc]) ?_ ?_ h4 h5 hw
    · rw [h1]; unfold f49; simp (decide := true) only [reduceIte]
      rw [c46 hS.1 (by omega)]; simp [m_ci, hz]
    · rw [h.m144, h2]; unfold f144B; simp (decide := true) only [reduceIte]
      rw [m142 hS.2.1 (by omega), ← hS.2.2 t (by omega)]; simp [m_ci, hz, nI_1]
theorem s_jump {d : Nat} (h : VP C m q ht rk B g gm t k p c s) (h1 : C 0 p = 41) (h2 : C 6 p = 12) (h3 : C 7 p = C 1 p) (hd : d < m) (h7 : C 1 p = nI d) (h8 : ht d = ht p) (h9 : rk d < rk p) {w : Nat} : SR C m q ht rk g gm p c w (f49 n (C 0 p) (C 1 p) g) (f144 n (nI p) gm) := by
  refine h.on (g' := gI g 16 (nI d)) (gm' := gm) (t' := t) (p' := d) ?_ ?_ (Chg.i 16 _ (by simp)) (Chg.rf _) (h.2.2.1.kp (by simp [rI]) rfl rfl rfl) (by simp [rI]) hd (by have := h.tt; omega) (fun _ => h9) (Or.inl rfl)
  · rw [h1, h7]; unfold f49; simp (decide := true) only [reduceIte]
  · rw [h.m144, h2, h3, h7]; unfold f144B; simp (decide := true) only [reduceIte]
theorem s_set {v : Nat} (h : VP C m q ht rk B g gm t k p c s) (h1 : C 0 p = 39) (h2 : C 6 p = 9) (h3 : C 7 p = C 1 p) (hv : v < 8) (h7 : C 1 p = nI v) (h4 : p + 1 < m) (h5 : ht p = ht (p + 1) + 1) {w : Nat} (hw : w ≠ 0) : SR C m q ht rk g gm p c w (f49 n (C 0 p) (C 1 p) g) (f144 n (nI p) gm) := by
  have hb := h.tb
  have hT := h.tt
  obtain ⟨t, rfl⟩ := h.ge (d := 1) (by omega)
  obtain ⟨hC, hA, hS, hV, hF, hK, h16, h18, hc, hp, -⟩ := id h
  have e1 : f49 n (C 0 p) (C 1 p) g = some (.inl none, gS (gI g 14 (nI t)) 26 (upd (g.2.1 26) (8 * k + v) (g.2.1 25 t))) := by
    rw [h1, h7]; unfold f49; simp (decide := true) only [reduceIte]
    rw [c46 hS.1 (by omega)]; simp only [m_ci]; rw [c47 (k := k) (by simp [rI, hF.1]) (by omega) hv]; rfl
  have e2 : f144 n (nI p) gm = some (.inl (some (.int (nI (p + 1)))), gS (gI gm 41 (nI t)) 55 (upd (gm.2.1 55) (8 * k + v) (g.2.1 25 t))) := by
    rw [h.m144, h2, h3, h7]; unfold f144B; simp (decide := true) only [reduceIte]
    rw [m142 hS.2.1 (by omega), ← hS.2.2 t (by omega)]; simp only [m_ci]; rw [hF.2.1, slot_m, if_neg (nI_in (by omega) (by decide)), nI_clamp (by omega), nI_1]; rfl
  have g1 : Chg SC AC g (gS (gI g 14 (nI t)) 26 (upd (g.2.1 26) (8 * k + v) (g.2.1 25 t))) := (Chg.i 14 _ (by simp)).tr (Chg.s 26 _ (by simp))
  have g2 : ChgM SM AM gm (gS (gI gm 41 (nI t)) 55 (upd (gm.2.1 55) (8 * k + v) (g.2.1 25 t))) := Chg.m (S := SM) (A := AM) ((Chg.i 41 _ (by simp)).tr (Chg.s 55 _ (by simp))) (by simp) (by simp)
  refine ⟨_, _, e1, g1, g2, (fun z => by simp [rI, rS1, z]), by simp [rS, rI2, hK.2.2.2.1], by simp [rS, rI2, hK.2.2.2.2.1], Or.inl ⟨p + 1, t, k, s, B, e2, ⟨hA.kp g1 g2, hS.pop (by simp [rI, rS1]) (by simp [rI, rS1]) (by simp [rS, rI2]) (by simp [rS, rI2]), ?_, hF.kp (by simp [rI, rS1]) (by simp [rI, rS1]) (by simp [rS, rI2]) (by simp [rS, rI2]), hK.kp (by simp [rI, rS1]) (by simp [rI, rS1]) (by simp [rS, rI2]) (by simp [rS, rI2]) (by simp [rS, rI2]) (by simp [rS, rI2]), by simp [rI, rS1, h16], by simp [rI, rS1, h18], by simp [rS2, rI2, hc], h4, by omega⟩, by simp [rI, rS1], fun z => absurd z hw⟩⟩
  intro i hi
  simp only [rS, if_true]
  unfold upd
  by_cases e : i = 8 * k + v
  · rw [if_pos e, if_pos e]
  · rw [if_neg e, if_neg e]; exact hV i hi
theorem s_and {d : Nat} (h : VP C m q ht rk B g gm t k p c s) {o u : Int32} {x : Int32} (h1 : C 0 p = o) (h2 : C 6 p = u) (ho : (o = 23 ∧ u = 5 ∧ x = 0) ∨ (o = 24 ∧ u = 6 ∧ x = 1)) (h3 : C 7 p = C 1 p) (hd : d < m) (h7 : C 1 p = nI d) (h8 : ht d = ht p) (h4 : p + 1 < m) (h5 : ht p = ht (p + 1) + 1) {w : Nat} (hw : w ≠ 0) : SR C m q ht rk g gm p c w (f49 n (C 0 p) (C 1 p) g) (f144 n (nI p) gm) := by
  have hb := h.tb
  have hT := h.tt
  obtain ⟨t, rfl⟩ := h.ge (d := 1) (by omega)
  have hS := h.2.2.1
  have hc1 : f49 n (C 0 p) (C 1 p) g = m_cv (f53 n x (nI d) g) (fun g' => some (.inl none, g')) := by
    rw [h1, h7]; unfold f49
    rcases ho with ⟨rfl, -, rfl⟩ | ⟨rfl, -, rfl⟩ <;> simp (decide := true) only [reduceIte]
  have hm1 : f144 n (nI p) gm = f144_218 n (nI p) (nI d) (gm.2.1 53 t) x gm := by
    rw [h.m144, h2, h3, h7]; unfold f144B
    rcases ho with ⟨-, rfl, rfl⟩ | ⟨-, rfl, rfl⟩ <;> simp (decide := true) only [reduceIte] <;> rw [hS.2.1, nI_pred, if_neg (nI_in (by omega) (by decide)), nI_clamp (by omega)]
  rw [hc1, hm1, ← hS.2.2 t (by omega)]
  unfold f53 f144_218
  rw [c46 hS.1 (by omega)]
  simp only [m_ci]
  by_cases hz : g.2.1 25 t = x
  · rw [if_neg (fun z => z hz), if_neg (fun z => z hz), c44 (t := t) (by simp [rI]) (by omega)]
    refine h.on (g' := gI (gI (gS (gI g 14 (nI t)) 25 (upd (g.2.1 25) t (g.2.1 25 t))) 14 (nI (t + 1))) 16 (nI d)) (gm' := gm) (t' := t + 1) (p' := d) rfl rfl ((((Chg.i 14 _ (by simp)).tr (Chg.s 25 _ (by simp))).tr (Chg.i 14 _ (by simp))).tr (Chg.i 16 _ (by simp))) (Chg.rf _) ⟨by simp [rI], hS.2.1, fun i hi => ?_⟩ (by simp [rI]) hd (by omega) (fun z => absurd z hw) (Or.inl rfl)
    simp only [rI2, rS, if_true]
    rw [upd_self rfl]
    exact hS.2.2 i hi
  · rw [if_pos hz, if_pos hz]
    refine h.dr (p' := p + 1) (g' := gI g 14 (nI t)) (Chg.rf _) (by simp [rI, h.pc]) rfl ?_ h4 h5 hw
    rw [hS.2.1, nI_pred, nI_1]
end Steps
