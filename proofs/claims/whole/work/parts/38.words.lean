/-! numbers and words of both scanners -/
theorem lb_toInt {a : Nat} (h : a < 2 ^ 62) : (lN a).toInt = (a : Int) := lg_ofNat_toInt (by omega)
theorem lb_lt {a b : Nat} (ha : a < 2 ^ 62) (hb : b < 2 ^ 62) : lN a < lN b ↔ a < b := by
  rw [Int64.lt_iff_toInt_lt, lb_toInt ha, lb_toInt hb]; omega
theorem lb_eq {a b : Nat} (ha : a < 2 ^ 62) (hb : b < 2 ^ 62) : lN a = lN b ↔ a = b := by
  rw [← Int64.toInt_inj, lb_toInt ha, lb_toInt hb]; omega
theorem lb_cmp {a b : Nat} (ha : a < 2 ^ 62) (hb : b < 2 ^ 62) : lg_cmp (lN a) (lN b) ≤ 0 ↔ a ≤ b := by
  unfold lg_cmp
  by_cases h1 : lN a > lN b
  · rw [if_pos h1]
    have := (lb_lt hb ha).mp h1
    exact ⟨fun z => absurd z (by decide), fun z => by omega⟩
  · rw [if_neg h1]
    have h2 : ¬ b < a := fun z => h1 ((lb_lt hb ha).mpr z)
    by_cases h3 : lN a = lN b
    · rw [if_pos h3]; exact ⟨fun _ => by omega, fun _ => by decide⟩
    · rw [if_neg h3]; exact ⟨fun _ => by omega, fun _ => by decide⟩
theorem cmp_eq (x y : Int64) : lg_cmp x y = 0 ↔ x = y := by
  unfold lg_cmp
  by_cases h1 : x > y
  · rw [if_pos h1]
    exact ⟨fun z => absurd z (by decide), fun z => by rw [z] at h1; exact (Int64.lt_irrefl h1).elim⟩
  · rw [if_neg h1]
    by_cases h3 : x = y
    · rw [if_pos h3]; exact ⟨fun _ => h3, fun _ => rfl⟩
    · rw [if_neg h3]; exact ⟨fun z => absurd z (by decide), fun z => absurd z h3⟩
theorem isD_ex {x : Int32} (h : isD x) : ∃ d, d ≤ 9 ∧ x = nI (48 + d) := by
  have h0 : ¬ x < 0 := fun z => h.1 (by
    rw [Int32.lt_iff_toInt_lt] at z ⊢
    have a1 : (48 : Int32).toInt = 48 := by decide
    have a2 : (0 : Int32).toInt = 0 := by decide
    omega)
  obtain ⟨j, hj, rfl⟩ := nI_of h0
  have h1 : 48 ≤ j := by
    rcases Nat.lt_or_ge j 48 with z | z
    · exact absurd (show nI j < (48 : Int32) from nI_lt (a := j) (b := 48) z (by decide)) h.1
    · exact z
  have h2 : j ≤ 57 := by
    rcases Nat.lt_or_ge 57 j with z | z
    · exact absurd (show (57 : Int32) < nI j from nI_lt (a := 57) (b := j) z hj) h.2
    · exact z
  exact ⟨j - 48, by omega, by rw [show 48 + (j - 48) = j by omega]⟩
theorem isL_ex {x : Int32} (h : isL x) : ∃ d, 1 ≤ d ∧ d ≤ 26 ∧ x = nI (96 + d) := by
  have h0 : ¬ x < 0 := fun z => h.1 (by
    rw [Int32.lt_iff_toInt_lt] at z ⊢
    have a1 : (97 : Int32).toInt = 97 := by decide
    have a2 : (0 : Int32).toInt = 0 := by decide
    omega)
  obtain ⟨j, hj, rfl⟩ := nI_of h0
  have h1 : 97 ≤ j := by
    rcases Nat.lt_or_ge j 97 with z | z
    · exact absurd (show nI j < (97 : Int32) from nI_lt (a := j) (b := 97) z (by decide)) h.1
    · exact z
  have h2 : j ≤ 122 := by
    rcases Nat.lt_or_ge 122 j with z | z
    · exact absurd (show (122 : Int32) < nI j from nI_lt (a := 122) (b := j) z hj) h.2
    · exact z
  exact ⟨j - 96, by omega, by omega, by rw [show 96 + (j - 96) = j by omega]⟩
theorem isLD {x : Int32} (h : isL x) : ¬ isD x := by
  obtain ⟨d, h1, h2, rfl⟩ := isL_ex h
  intro z
  exact z.2 (show (57 : Int32) < nI (96 + d) from nI_lt (a := 57) (b := 96 + d) (by omega) (by omega))
def dg (x : Int32) : Nat := (x.toInt - 48).toNat
def lt6 (x : Int32) : Nat := (x.toInt - 96).toNat
theorem dg_nI {d : Nat} (h : d ≤ 9) : dg (nI (48 + d)) = d := by unfold dg; rw [nI_toInt (by omega)]; omega
theorem lt_nI {d : Nat} (h : d ≤ 26) : lt6 (nI (96 + d)) = d := by unfold lt6; rw [nI_toInt (by omega)]; omega
/-- a number's value, held at the first that is too great -/
def cpd (T : Nat → Int32) : Nat → Nat → Nat → Nat
  | _, 0, v => v
  | p, d + 1, v => cpd T (p + 1) d (min (v * 10 + dg (T p)) 2147483648)
section Num
variable {n N : Nat} {g : mG}
theorem c70_5 {e : Nat} (h : g.1 9 = nI N) (hN : N ≤ 600) : ∀ (d p c v : Nat), p + d = e → d < c → v ≤ 2147483648 → IsR (dgc (g.2.1 8)) N p e → f70_5 n c (lN v) (nI p) g = f70_55 n (lN (cpd (g.2.1 8) p d v)) (nI e) g ∧ cpd (g.2.1 8) p d v ≤ 2147483648 := by
  intro d
  induction d with
  | zero =>
    intro p c v hp hc hv hR
    obtain ⟨c, rfl⟩ : ∃ z, c = z + 1 := ⟨c - 1, by omega⟩
    have hpe : p = e := by omega
    subst hpe
    obtain ⟨a1, a2, a3, a4⟩ := hR
    refine ⟨?_, hv⟩
    rw [f70_5, h]
    by_cases hpN : N ≤ p
    · rw [if_pos (nI_le hpN (by omega))]; rfl
    · have hb := a4 (by omega)
      rw [if_neg (nI_ge (by omega) (by omega)), c63 h hN (by omega), m_ci_s, sg_lt (by omega), c67n hb, m_ci_s, if_pos rfl]; rfl
  | succ d ih =>
    intro p c v hp hc hv hR
    obtain ⟨c, rfl⟩ : ∃ z, c = z + 1 := ⟨c - 1, by omega⟩
    obtain ⟨a1, a2, a3, a4⟩ := hR
    have hd := a3 p (Nat.le_refl _) (by omega)
    obtain ⟨w, hw, hx⟩ := isD_ex hd
    have hih := ih (p + 1) c (min (v * 10 + dg (g.2.1 8 p)) 2147483648) (by omega) (by omega) (Nat.min_le_right _ _) ⟨by omega, a2, fun i h1 h2 => a3 i (by omega) h2, a4⟩
    refine ⟨?_, hih.2⟩
    show _ = f70_55 n (lN (cpd (g.2.1 8) (p + 1) d (min (v * 10 + dg (g.2.1 8 p)) 2147483648))) (nI e) g
    rw [← hih.1, f70_5, h, if_neg (nI_ge (by omega) (by omega)), c63 h hN (by omega), m_ci_s, sg_lt (by omega), c67y hd, m_ci_s, if_neg (by decide), c63 h hN (by omega), m_ci_s, sg_lt (by omega), nI_1, hx, dg_nI hw]
    have e1 : nI (48 + w) - 48 = nI w := by rw [show (48 : Int32) = nI 48 from rfl, pk_sub (by omega), Nat.add_sub_cancel_left]
    have e2 : lN v * 10 + Int32.toInt64 (nI w) = lN (v * 10 + w) := by rw [nI_l (by omega), show (10 : Int64) = lN 10 from rfl, lN_mul, lN_add]
    rw [e1, e2]
    have e3 : (if (2147483648 : Int64) < lN (v * 10 + w) then (2147483648 : Int64) else lN (v * 10 + w)) = lN (min (v * 10 + w) 2147483648) := by
      by_cases hz : 2147483648 < v * 10 + w
      · rw [if_pos (show (2147483648 : Int64) < lN (v * 10 + w) from (lb_lt (a := 2147483648) (b := v * 10 + w) (by decide) (by omega)).mpr hz), Nat.min_eq_right (by omega)]; rfl
      · rw [if_neg (show ¬ (2147483648 : Int64) < lN (v * 10 + w) from fun z => hz ((lb_lt (a := 2147483648) (b := v * 10 + w) (by decide) (by omega)).mp z)), Nat.min_eq_left (by omega)]
    rw [e3]
theorem m97_2 {e : Nat} (hN : N ≤ 600) : ∀ (d p c v vm : Nat) (g : mG), g.1 25 = nI N → g.1 28 = nI p → p + d = e → d < c → ((vm = v ∧ v ≤ 2147483647) ∨ (v = 2147483648 ∧ 2147483647 < vm ∧ vm ≤ 21474836479)) → IsR (dgc (g.2.1 32)) N p e →
    ∃ g' vm', f97_2 n c (lN vm) g = f97_73 n (lN vm') (if vm' ≤ 2147483647 then 2 else 35) g' ∧ ((vm' = cpd (g.2.1 32) p d v ∧ vm' ≤ 2147483647) ∨ (cpd (g.2.1 32) p d v = 2147483648 ∧ 2147483647 < vm')) ∧ g'.1 28 = nI e ∧ Chg [28] [] g g' := by
  intro d
  induction d with
  | zero =>
    intro p c v vm g h h28 hp hc hv hR
    obtain ⟨c, rfl⟩ : ∃ z, c = z + 1 := ⟨c - 1, by omega⟩
    have hpe : p = e := by omega
    subst hpe
    obtain ⟨a1, a2, a3, a4⟩ := hR
    have hb : ¬ isD (sg (g.2.1 32) N p) := by
      by_cases hpN : p < N
      · rw [sg_lt hpN]; exact a4 hpN
      · rw [sg_ge (by omega)]; exact isD_0
    refine ⟨g, vm, ?_, ?_, h28, Chg.rf g⟩
    · rw [f97_2, h28, m95n h hN (by omega) hb, m_ci_s, if_pos rfl]
      by_cases hz : vm ≤ 2147483647
      · rw [if_pos (show lg_cmp (lN vm) (2147483647 : Int64) ≤ 0 from (lb_cmp (a := vm) (b := 2147483647) (by omega) (by decide)).mpr hz), if_pos hz]
      · rw [if_neg (show ¬ lg_cmp (lN vm) (2147483647 : Int64) ≤ 0 from fun z => hz ((lb_cmp (a := vm) (b := 2147483647) (by omega) (by decide)).mp z)), if_neg hz]
    · show (vm = v ∧ _) ∨ (v = _ ∧ _)
      rcases hv with ⟨h1, h2⟩ | ⟨h1, h2, h3⟩
      · exact Or.inl ⟨h1, by omega⟩
      · exact Or.inr ⟨h1, h2⟩
  | succ d ih =>
    intro p c v vm g h h28 hp hc hv hR
    obtain ⟨c, rfl⟩ : ∃ z, c = z + 1 := ⟨c - 1, by omega⟩
    obtain ⟨a1, a2, a3, a4⟩ := hR
    have hd := a3 p (Nat.le_refl _) (by omega)
    obtain ⟨w, hw, hx⟩ := isD_ex hd
    have hdg : dg (g.2.1 32 p) = w := by rw [hx]; exact dg_nI hw
    have hR' : IsR (dgc ((gI g 28 (nI (p + 1))).2.1 32)) N (p + 1) e := ⟨by omega, a2, fun i h1 h2 => a3 i (by omega) h2, a4⟩
    have e0 : f97_2 n (c + 1) (lN vm) g = (if lg_cmp (lN vm) (2147483647 : Int64) ≤ 0 then f97_2 n c (lN (vm * 10 + w)) (gI g 28 (nI (p + 1))) else f97_2 n c (lN vm) (gI g 28 (nI (p + 1)))) := by
      rw [f97_2, h28, m95y h hN (by omega) (by rw [sg_lt (by omega)]; exact hd), m_ci_s, if_neg (by decide), h28, m93 h hN (by omega), m_ci_s, sg_lt (by omega), h28, nI_1, hx]
      have e2 : lN vm * 10 + Int32.toInt64 (nI (48 + w)) - 48 = lN (vm * 10 + w) := by
        rw [nI_l (by omega), show (10 : Int64) = lN 10 from rfl, lN_mul, lN_add, show (48 : Int64) = lN 48 from rfl, lN_sub (by omega), show vm * 10 + (48 + w) - 48 = vm * 10 + w by omega]
      rw [e2]
    rcases hv with ⟨h1, h2⟩ | ⟨h1, h2, h3⟩
    · subst h1
      rw [e0, if_pos (show lg_cmp (lN vm) (2147483647 : Int64) ≤ 0 from (lb_cmp (a := vm) (b := 2147483647) (by omega) (by decide)).mpr h2)]
      obtain ⟨g', vm', q1, q2, q3, q4⟩ := ih (p + 1) c (min (vm * 10 + w) 2147483648) (vm * 10 + w) (gI g 28 (nI (p + 1))) (by simp [rI, h]) (by simp [rI]) (by omega) (by omega) (by
        by_cases hz : vm * 10 + w ≤ 2147483647
        · exact Or.inl ⟨by rw [Nat.min_eq_left (by omega)], by rw [Nat.min_eq_left (by omega)]; omega⟩
        · exact Or.inr ⟨by rw [Nat.min_eq_right (by omega)], by omega, by omega⟩) hR'
      refine ⟨g', vm', q1, ?_, q3, (Chg.i 28 _ (by simp)).tr q4⟩
      show (vm' = cpd (g.2.1 32) (p + 1) d (min (vm * 10 + dg (g.2.1 32 p)) 2147483648) ∧ _) ∨ (cpd (g.2.1 32) (p + 1) d (min (vm * 10 + dg (g.2.1 32 p)) 2147483648) = _ ∧ _)
      rw [hdg]; exact q2
    · rw [e0, if_neg (show ¬ lg_cmp (lN vm) (2147483647 : Int64) ≤ 0 from fun z => by have := (lb_cmp (a := vm) (b := 2147483647) (by omega) (by decide)).mp z; omega)]
      obtain ⟨g', vm', q1, q2, q3, q4⟩ := ih (p + 1) c 2147483648 vm (gI g 28 (nI (p + 1))) (by simp [rI, h]) (by simp [rI]) (by omega) (by omega) (Or.inr ⟨rfl, h2, h3⟩) hR'
      refine ⟨g', vm', q1, ?_, q3, (Chg.i 28 _ (by simp)).tr q4⟩
      show (vm' = cpd (g.2.1 32) (p + 1) d (min (v * 10 + dg (g.2.1 32 p)) 2147483648) ∧ _) ∨ (cpd (g.2.1 32) (p + 1) d (min (v * 10 + dg (g.2.1 32 p)) 2147483648) = _ ∧ _)
      rw [hdg, h1, Nat.min_eq_right (by omega)]; exact q2
/-! words -/
def spl (T : Nat → Int32) (N w p : Nat) : Prop := ∀ i, i < m_sLen.getD w 0 → sg T N (p + i) = m_ch w i
def mkw (w : Nat) : Int32 := ([25, 29, 26, 28, 30, 34, 27, 31, 35, 32, 33] : List Int32).getD w 2
theorem c69_2 {w p : Nat} (h : g.1 9 = nI N) (hN : N ≤ 600) (hw : w < 11) (hp : p ≤ 600) : ∀ (d i c : Nat), i + d = m_sLen.getD w 0 → d < c → (∀ z, z < i → sg (g.2.1 8) N (p + z) = m_ch w z) → ∃ v : Int32, f69_2 n c w (nI p) (nI i) g = some (.inl (some (.int v)), g) ∧ ((v = 1 ∧ spl (g.2.1 8) N w p) ∨ (v = 0 ∧ ¬ spl (g.2.1 8) N w p)) := by
  have h7 : m_sLen.getD w 0 ≤ 7 := (by decide +kernel : ∀ w, w < 11 → m_sLen.getD w 0 ≤ 7) w hw
  intro d
  induction d with
  | zero =>
    intro i c hi hc hz
    obtain ⟨c, rfl⟩ : ∃ z, c = z + 1 := ⟨c - 1, by omega⟩
    refine ⟨1, ?_, Or.inl ⟨rfl, fun z hz2 => hz z (by omega)⟩⟩
    rw [f69_2, if_pos hw, if_pos (show Int32.ofNat (m_sLen.getD w 0) ≤ nI i from nI_le (by omega) (by omega))]
  | succ d ih =>
    intro i c hi hc hz
    obtain ⟨c, rfl⟩ : ∃ z, c = z + 1 := ⟨c - 1, by omega⟩
    rw [f69_2, if_pos hw, if_neg (show ¬ Int32.ofNat (m_sLen.getD w 0) ≤ nI i from nI_ge (a := i) (b := m_sLen.getD w 0) (by omega) (by omega)), nI_add, c63 h hN (by omega), m_ci_s, if_pos ⟨hw, nI_pos (by omega), by rw [nI_clamp (by omega)]; omega⟩, nI_clamp (by omega), nI_1]
    by_cases he : sg (g.2.1 8) N (p + i) = m_ch w i
    · rw [if_pos he]
      exact ih (i + 1) c (by omega) (by omega) (fun z hz2 => by
        by_cases hzi : z = i
        · rw [hzi]; exact he
        · exact hz z (by omega))
    · rw [if_neg he]
      exact ⟨0, rfl, Or.inr ⟨rfl, fun hs => he (hs i (by omega))⟩⟩
theorem c69 {w p : Nat} (hn : 20 ≤ n) (h : g.1 9 = nI N) (hN : N ≤ 600) (hw : w < 11) (hp : p ≤ 600) : ∃ v : Int32, f69 n w (nI p) g = some (.inl (some (.int v)), g) ∧ ((v = 1 ∧ spl (g.2.1 8) N w p) ∨ (v = 0 ∧ ¬ spl (g.2.1 8) N w p)) := by
  have h7 : m_sLen.getD w 0 ≤ 7 := (by decide +kernel : ∀ w, w < 11 → m_sLen.getD w 0 ≤ 7) w hw
  exact c69_2 h hN hw hp (m_sLen.getD w 0) 0 n (by omega) (by omega) (fun z hz => by omega)
/-- the mark of a name of this length -/
def WM (T : Nat → Int32) (N p l : Nat) (mk : Int32) : Prop := (∃ w, w < 11 ∧ m_sLen.getD w 0 = l ∧ spl T N w p ∧ mk = mkw w) ∨ ((∀ w, w < 11 → m_sLen.getD w 0 = l → ¬ spl T N w p) ∧ mk = 2)
theorem c68 {p l : Nat} (hn : 20 ≤ n) (h : g.1 9 = nI N) (hN : N ≤ 600) (hp : p + l ≤ 600) : ∃ mk, f68 n (nI p) (nI (p + l)) g = some (.inl (some (.int mk)), g) ∧ WM (g.2.1 8) N p l mk := by
  have C := fun w (hw : w < 11) => c69 (n := n) (g := g) (p := p) hn h hN hw (by omega)
  have hl : nI (p + l) - nI p = nI l := by rw [pk_sub (by omega), Nat.add_sub_cancel_left]
  have le : ∀ k : Nat, k < 2 ^ 31 → (nI l = nI k ↔ l = k) := fun k hk => nI_eq (by omega) hk
  have no : ∀ l, (∀ w, w < 11 → m_sLen.getD w 0 = l → ¬ spl (g.2.1 8) N w p) → WM (g.2.1 8) N p l 2 := fun l h => Or.inr ⟨h, rfl⟩
  have yes : ∀ w, w < 11 → spl (g.2.1 8) N w p → WM (g.2.1 8) N p (m_sLen.getD w 0) (mkw w) := fun w hw hs => Or.inl ⟨w, hw, rfl, hs, rfl⟩
  have ws : ∀ w, w < 11 → w = 0 ∨ w = 1 ∨ w = 2 ∨ w = 3 ∨ w = 4 ∨ w = 5 ∨ w = 6 ∨ w = 7 ∨ w = 8 ∨ w = 9 ∨ w = 10 := fun w hw => by omega
  unfold f68
  rw [hl]
  by_cases h2 : l = 2
  · subst h2
    rw [if_pos (show nI 2 = 2 from rfl)]
    obtain ⟨v0, e0, q0⟩ := C 0 (by omega)
    obtain ⟨v1, e1, q1⟩ := C 1 (by omega)
    rw [e0, m_ci_s]
    rcases q0 with ⟨rfl, q0⟩ | ⟨rfl, q0⟩
    · exact ⟨25, by rw [if_neg (by decide)], yes 0 (by omega) q0⟩
    · rw [if_pos rfl, e1, m_ci_s]
      rcases q1 with ⟨rfl, q1⟩ | ⟨rfl, q1⟩
      · exact ⟨29, by rw [if_neg (by decide)], yes 1 (by omega) q1⟩
      · refine ⟨2, by rw [if_pos rfl], no 2 (fun w hw hwl => ?_)⟩
        rcases ws w hw with rfl | rfl | rfl | rfl | rfl | rfl | rfl | rfl | rfl | rfl | rfl <;> first | exact q0 | exact q1 | exact absurd hwl (by decide)
  · rw [if_neg (show ¬ nI l = 2 from fun z => h2 ((le 2 (by decide)).mp z))]
    by_cases h3 : l = 3
    · subst h3
      rw [if_pos (show nI 3 = 3 from rfl)]
      obtain ⟨v0, e0, q0⟩ := C 2 (by omega)
      rw [e0, m_ci_s]
      rcases q0 with ⟨rfl, q0⟩ | ⟨rfl, q0⟩
      · exact ⟨26, by rw [if_neg (by decide)], yes 2 (by omega) q0⟩
      · refine ⟨2, by rw [if_pos rfl], no 3 (fun w hw hwl => ?_)⟩
        rcases ws w hw with rfl | rfl | rfl | rfl | rfl | rfl | rfl | rfl | rfl | rfl | rfl <;> first | exact q0 | exact absurd hwl (by decide)
    · rw [if_neg (show ¬ nI l = 3 from fun z => h3 ((le 3 (by decide)).mp z))]
      by_cases h4 : l = 4
      · subst h4
        rw [if_pos (show nI 4 = 4 from rfl)]
        obtain ⟨v0, e0, q0⟩ := C 3 (by omega)
        obtain ⟨v1, e1, q1⟩ := C 4 (by omega)
        obtain ⟨v2, e2, q2⟩ := C 5 (by omega)
        rw [e0, m_ci_s]
        rcases q0 with ⟨rfl, q0⟩ | ⟨rfl, q0⟩
        · exact ⟨28, by rw [if_neg (by decide)], yes 3 (by omega) q0⟩
        · rw [if_pos rfl, e1, m_ci_s]
          rcases q1 with ⟨rfl, q1⟩ | ⟨rfl, q1⟩
          · exact ⟨30, by rw [if_neg (by decide)], yes 4 (by omega) q1⟩
          · rw [if_pos rfl, e2, m_ci_s]
            rcases q2 with ⟨rfl, q2⟩ | ⟨rfl, q2⟩
            · exact ⟨34, by rw [if_neg (by decide)], yes 5 (by omega) q2⟩
            · refine ⟨2, by rw [if_pos rfl], no 4 (fun w hw hwl => ?_)⟩
              rcases ws w hw with rfl | rfl | rfl | rfl | rfl | rfl | rfl | rfl | rfl | rfl | rfl <;> first | exact q0 | exact q1 | exact q2 | exact absurd hwl (by decide)
      · rw [if_neg (show ¬ nI l = 4 from fun z => h4 ((le 4 (by decide)).mp z))]
        by_cases h5 : l = 5
        · subst h5
          rw [if_pos (show nI 5 = 5 from rfl)]
          obtain ⟨v0, e0, q0⟩ := C 6 (by omega)
          obtain ⟨v1, e1, q1⟩ := C 7 (by omega)
          obtain ⟨v2, e2, q2⟩ := C 8 (by omega)
          rw [e0, m_ci_s]
          rcases q0 with ⟨rfl, q0⟩ | ⟨rfl, q0⟩
          · exact ⟨27, by rw [if_neg (by decide)], yes 6 (by omega) q0⟩
          · rw [if_pos rfl, e1, m_ci_s]
            rcases q1 with ⟨rfl, q1⟩ | ⟨rfl, q1⟩
            · exact ⟨31, by rw [if_neg (by decide)], yes 7 (by omega) q1⟩
            · rw [if_pos rfl, e2, m_ci_s]
              rcases q2 with ⟨rfl, q2⟩ | ⟨rfl, q2⟩
              · exact ⟨35, by rw [if_neg (by decide)], yes 8 (by omega) q2⟩
              · refine ⟨2, by rw [if_pos rfl], no 5 (fun w hw hwl => ?_)⟩
                rcases ws w hw with rfl | rfl | rfl | rfl | rfl | rfl | rfl | rfl | rfl | rfl | rfl <;> first | exact q0 | exact q1 | exact q2 | exact absurd hwl (by decide)
        · rw [if_neg (show ¬ nI l = 5 from fun z => h5 ((le 5 (by decide)).mp z))]
          by_cases h6 : l = 6
          · subst h6
            rw [if_pos (show nI 6 = 6 from rfl)]
            obtain ⟨v0, e0, q0⟩ := C 9 (by omega)
            rw [e0, m_ci_s]
            rcases q0 with ⟨rfl, q0⟩ | ⟨rfl, q0⟩
            · exact ⟨32, by rw [if_neg (by decide)], yes 9 (by omega) q0⟩
            · refine ⟨2, by rw [if_pos rfl], no 6 (fun w hw hwl => ?_)⟩
              rcases ws w hw with rfl | rfl | rfl | rfl | rfl | rfl | rfl | rfl | rfl | rfl | rfl <;> first | exact q0 | exact absurd hwl (by decide)
          · rw [if_neg (show ¬ nI l = 6 from fun z => h6 ((le 6 (by decide)).mp z))]
            by_cases h7 : l = 7
            · subst h7
              rw [if_pos (show nI 7 = 7 from rfl)]
              obtain ⟨v0, e0, q0⟩ := C 10 (by omega)
              rw [e0, m_ci_s]
              rcases q0 with ⟨rfl, q0⟩ | ⟨rfl, q0⟩
              · exact ⟨33, by rw [if_neg (by decide)], yes 10 (by omega) q0⟩
              · refine ⟨2, by rw [if_pos rfl], no 7 (fun w hw hwl => ?_)⟩
                rcases ws w hw with rfl | rfl | rfl | rfl | rfl | rfl | rfl | rfl | rfl | rfl | rfl <;> first | exact q0 | exact absurd hwl (by decide)
            · rw [if_neg (show ¬ nI l = 7 from fun z => h7 ((le 7 (by decide)).mp z))]
              refine ⟨2, rfl, no l (fun w hw hwl => ?_)⟩
              rcases ws w hw with rfl | rfl | rfl | rfl | rfl | rfl | rfl | rfl | rfl | rfl | rfl <;> (exfalso; revert hwl; simp [m_sLen]; omega)
end Num
