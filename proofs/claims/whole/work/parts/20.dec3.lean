section Dec
variable {X : Nat × (Nat → Int32)} {n : Nat}
def f63 (n : Nat) (x1 : Int32) (g : mG) : mZ := if x1 < 0 then some (.inl (some (.int (0 : Int32))), g) else if (g.1 9) ≤ x1 then some (.inl (some (.int (0 : Int32))), g) else if (600 : Int32) ≤ x1 then some (.inl (some (.int (0 : Int32))), g) else if x1 < 0 ∨ 600 ≤ Int32.toNatClampNeg x1 then none else some (.inl (some (.int ((g.2.1 8) (Int32.toNatClampNeg x1)))), g)
theorem Fr63 {x1 : Int32} {g g' : mG} {o : mO} (h : f63 n x1 g = some (o, g')) : m_Run X (0) (m_ko o) 63 0 [(0, .ref 2), (1, .int x1)] [] (hO 8 g) o (hO 8 g') := by
  unfold f63 at h
  refine m_gob (c := x1 < 0) (t := 30) (f := 4) (L := [(0, .iload_n 1, 1, 0, 0), (1, .ifCond .lt 29, 3, 0, 0)]) (lv1 := [(0, .ref 2), (1, .int x1)]) (st1 := []) (h1 := hO 8 g) (by decide +kernel) rfl (fun c1 => ?_) (fun c1 => ?_)
  · rw [if_pos c1] at h
    refine m_go (L := [(30, .iconst 0, 1, 0, 0)]) (pc1 := 31) (lv1 := [(0, .ref 2), (1, .int x1)]) (st1 := [.int (0 : Int32)]) (h1 := hO 8 g) (by decide +kernel) rfl ?_
    cases h
    exact m_ri (by decide +kernel)
  · rw [if_neg c1] at h
    refine m_gob (c := (g.1 9) ≤ x1) (t := 30) (f := 12) (L := [(4, .iload_n 1, 1, 0, 0), (5, .aload_n 0, 1, 0, 0), (6, .getfield 31, 3, 4, 6), (9, .if_icmp .ge 21, 3, 0, 0)]) (lv1 := [(0, .ref 2), (1, .int x1)]) (st1 := []) (h1 := hO 8 g) (by decide +kernel) rfl (fun c2 => ?_) (fun c2 => ?_)
    · rw [if_pos c2] at h
      refine m_go (L := [(30, .iconst 0, 1, 0, 0)]) (pc1 := 31) (lv1 := [(0, .ref 2), (1, .int x1)]) (st1 := [.int (0 : Int32)]) (h1 := hO 8 g) (by decide +kernel) rfl ?_
      cases h
      exact m_ri (by decide +kernel)
    · rw [if_neg c2] at h
      refine m_gob (c := (600 : Int32) ≤ x1) (t := 30) (f := 21) (L := [(12, .iload_n 1, 1, 0, 0), (13, .aload_n 0, 1, 0, 0), (14, .getfield 28, 3, 4, 5), (17, .arraylength, 1, 0, 0), (18, .if_icmp .ge 12, 3, 0, 0)]) (lv1 := [(0, .ref 2), (1, .int x1)]) (st1 := []) (h1 := hO 8 g) (by decide +kernel) rfl (fun c3 => ?_) (fun c3 => ?_)
      · rw [if_pos c3] at h
        refine m_go (L := [(30, .iconst 0, 1, 0, 0)]) (pc1 := 31) (lv1 := [(0, .ref 2), (1, .int x1)]) (st1 := [.int (0 : Int32)]) (h1 := hO 8 g) (by decide +kernel) rfl ?_
        cases h
        exact m_ri (by decide +kernel)
      · rw [if_neg c3] at h
        refine m_go (L := [(21, .aload_n 0, 1, 0, 0), (22, .getfield 28, 3, 4, 5), (25, .iload_n 1, 1, 0, 0)]) (pc1 := 26) (lv1 := [(0, .ref 2), (1, .int x1)]) (st1 := [.int x1, .ref 8]) (h1 := hO 8 g) (by decide +kernel) rfl ?_
        obtain ⟨c4, h⟩ := m_ifn_inv h
        refine m_go1 (q := (26, .iaload, 1, 0, 0)) (pc1 := 27) (lv1 := [(0, .ref 2), (1, .int x1)]) (st1 := [.int ((g.2.1 8) (Int32.toNatClampNeg x1))]) (h1 := hO 8 g) (by decide +kernel) (if_neg c4) ?_
        refine m_go (L := [(27, .goto 4, 3, 0, 0)]) (pc1 := 31) (lv1 := [(0, .ref 2), (1, .int x1)]) (st1 := [.int ((g.2.1 8) (Int32.toNatClampNeg x1))]) (h1 := hO 8 g) (by decide +kernel) rfl ?_
        cases h
        exact m_ri (by decide +kernel)
def f62_2 (n : Nat) : Nat → Int32 → mG → mZ
  | 0, _, _ => none
  | c + 1, x2, g => if (g.1 9) ≤ x2 then some (.inl (some (.int x2)), g) else m_ci (f63 n x2 g) (fun v3 g2 => if v3 = (32 : Int32) then f62_2 n c (x2 + (1 : Int32)) g2 else m_ci (f63 n x2 g2) (fun v8 g7 => if ¬ v8 = (10 : Int32) then some (.inl (some (.int x2)), g7) else f62_2 n c (x2 + (1 : Int32)) g7))
set_option maxRecDepth 20000 in
theorem Fr62_2 : ∀ (c : Nat) (x2 : Int32) (g g' : mG) (o : mO), f62_2 n c x2 g = some (o, g') → m_Run X (1) (m_ko o) 62 2 [(0, .ref 2), (2, .int x2)] [] (hO 8 g) o (hO 8 g') := by
  intro c
  induction c with
  | zero => intro x2 g g' o h; rw [f62_2] at h; cases h
  | succ c ih =>
    intro x2 g g' o h
    rw [f62_2] at h
    refine m_gob (c := (g.1 9) ≤ x2) (t := 36) (f := 10) (L := [(2, .iload_n 2, 1, 0, 0), (3, .aload_n 0, 1, 0, 0), (4, .getfield 31, 3, 4, 6), (7, .if_icmp .ge 29, 3, 0, 0)]) (lv1 := [(0, .ref 2), (2, .int x2)]) (st1 := []) (h1 := hO 8 g) (by decide +kernel) rfl (fun c1 => ?_) (fun c1 => ?_)
    · rw [if_pos c1] at h
      refine m_go (L := [(36, .iload_n 2, 1, 0, 0)]) (pc1 := 37) (lv1 := [(0, .ref 2), (2, .int x2)]) (st1 := [.int x2]) (h1 := hO 8 g) (by decide +kernel) rfl ?_
      cases h
      exact m_ri (by decide +kernel)
    · rw [if_neg c1] at h
      refine m_go (L := [(10, .aload_n 0, 1, 0, 0), (11, .iload_n 2, 1, 0, 0)]) (pc1 := 12) (lv1 := [(0, .ref 2), (2, .int x2)]) (st1 := [.int x2, .ref 2]) (h1 := hO 8 g) (by decide +kernel) rfl ?_
      rcases m_ci_inv h with ⟨v3, g2, e4, h⟩ | ⟨y5, g2, e4, rfl, rfl⟩
      · refine m_ca (q := (12, .invokevirtual 55, 3, 63, 1)) (a := 63) (vs := [.ref 2, .int x2]) (st := []) (d1 := 0) (by decide +kernel) rfl rfl rfl rfl (by decide) (Fr63 e4) ?_
        show m_Run X _ _ 62 15 [(0, .ref 2), (2, .int x2)] [.int v3] (hO 8 g2) _ _
        refine m_gob (c := v3 = (32 : Int32)) (t := 30) (f := 20) (L := [(15, .bipush 32, 2, 0, 0), (17, .if_icmp .eq 13, 3, 0, 0)]) (lv1 := [(0, .ref 2), (2, .int x2)]) (st1 := []) (h1 := hO 8 g2) (by decide +kernel) rfl (fun c6 => ?_) (fun c6 => ?_)
        · rw [if_pos c6] at h
          refine m_go (L := [(30, .iinc 2 1, 3, 0, 0), (33, .goto (-31), 3, 0, 0)]) (pc1 := 2) (lv1 := [(0, .ref 2), (2, .int (x2 + (1 : Int32)))]) (st1 := []) (h1 := hO 8 g2) (by decide +kernel) rfl ?_
          exact m_r0 _ _ _ _ _ _ _ _ _ _ (m_pick [0, 1] rfl) (ih _ _ _ _ h)
        · rw [if_neg c6] at h
          refine m_go (L := [(20, .aload_n 0, 1, 0, 0), (21, .iload_n 2, 1, 0, 0)]) (pc1 := 22) (lv1 := [(0, .ref 2), (2, .int x2)]) (st1 := [.int x2, .ref 2]) (h1 := hO 8 g2) (by decide +kernel) rfl ?_
          rcases m_ci_inv h with ⟨v8, g7, e9, h⟩ | ⟨y10, g7, e9, rfl, rfl⟩
          · refine m_ca (q := (22, .invokevirtual 55, 3, 63, 1)) (a := 63) (vs := [.ref 2, .int x2]) (st := []) (d1 := 0) (by decide +kernel) rfl rfl rfl rfl (by decide) (Fr63 e9) ?_
            show m_Run X _ _ 62 25 [(0, .ref 2), (2, .int x2)] [.int v8] (hO 8 g7) _ _
            refine m_gob (c := ¬ v8 = (10 : Int32)) (t := 36) (f := 30) (L := [(25, .bipush 10, 2, 0, 0), (27, .if_icmp .ne 9, 3, 0, 0)]) (lv1 := [(0, .ref 2), (2, .int x2)]) (st1 := []) (h1 := hO 8 g7) (by decide +kernel) rfl (fun c11 => ?_) (fun c11 => ?_)
            · rw [if_pos c11] at h
              refine m_go (L := [(36, .iload_n 2, 1, 0, 0)]) (pc1 := 37) (lv1 := [(0, .ref 2), (2, .int x2)]) (st1 := [.int x2]) (h1 := hO 8 g7) (by decide +kernel) rfl ?_
              cases h
              exact m_ri (by decide +kernel)
            · rw [if_neg c11] at h
              refine m_go (L := [(30, .iinc 2 1, 3, 0, 0), (33, .goto (-31), 3, 0, 0)]) (pc1 := 2) (lv1 := [(0, .ref 2), (2, .int (x2 + (1 : Int32)))]) (st1 := []) (h1 := hO 8 g7) (by decide +kernel) rfl ?_
              exact m_r0 _ _ _ _ _ _ _ _ _ _ (m_pick [0, 1] rfl) (ih _ _ _ _ h)
          · exact m_cx (q := (22, .invokevirtual 55, 3, 63, 1)) (a := 63) (vs := [.ref 2, .int x2]) (st := []) (d1 := 0) (by decide +kernel) (by decide +kernel) rfl rfl rfl rfl (by decide) (Fr63 e9)
      · exact m_cx (q := (12, .invokevirtual 55, 3, 63, 1)) (a := 63) (vs := [.ref 2, .int x2]) (st := []) (d1 := 0) (by decide +kernel) (by decide +kernel) rfl rfl rfl rfl (by decide) (Fr63 e4)
def f62 (n : Nat) (x1 : Int32) (g : mG) : mZ := f62_2 n n x1 g
theorem Fr62 {x1 : Int32} {g g' : mG} {o : mO} (h : f62 n x1 g = some (o, g')) : m_Run X (1) (m_ko o) 62 0 [(0, .ref 2), (1, .int x1)] [] (hO 8 g) o (hO 8 g') := by
  unfold f62 at h
  refine m_go (L := [(0, .iload_n 1, 1, 0, 0), (1, .istore_n 2, 1, 0, 0)]) (pc1 := 2) (lv1 := [(0, .ref 2), (1, .int x1), (2, .int x1)]) (st1 := []) (h1 := hO 8 g) (by decide +kernel) rfl ?_
  exact m_r0 _ _ _ _ _ _ _ _ _ _ (m_pick [0, 2] rfl) (Fr62_2 _ _ _ _ _ h)
def f65 (n : Nat) (x0 : Int32) (g : mG) : mZ := if x0 < (97 : Int32) then some (.inl (some (.int (0 : Int32))), g) else if (122 : Int32) < x0 then some (.inl (some (.int (0 : Int32))), g) else some (.inl (some (.int (1 : Int32))), g)
theorem Fr65 {R : Nat} {x0 : Int32} {g g' : mG} {o : mO} (h : f65 n x0 g = some (o, g')) : m_Run X (0) (m_ko o) 65 0 [(0, .int x0)] [] (hO R g) o (hO R g') := by
  unfold f65 at h
  refine m_gob (c := x0 < (97 : Int32)) (t := 16) (f := 6) (L := [(0, .iload_n 0, 1, 0, 0), (1, .bipush 97, 2, 0, 0), (3, .if_icmp .lt 13, 3, 0, 0)]) (lv1 := [(0, .int x0)]) (st1 := []) (h1 := hO R g) (by decide +kernel) rfl (fun c1 => ?_) (fun c1 => ?_)
  · rw [if_pos c1] at h
    refine m_go (L := [(16, .iconst 0, 1, 0, 0)]) (pc1 := 17) (lv1 := [(0, .int x0)]) (st1 := [.int (0 : Int32)]) (h1 := hO R g) (by decide +kernel) rfl ?_
    cases h
    exact m_rz (by decide +kernel) (Or.inl rfl)
  · rw [if_neg c1] at h
    refine m_gob (c := (122 : Int32) < x0) (t := 16) (f := 12) (L := [(6, .iload_n 0, 1, 0, 0), (7, .bipush 122, 2, 0, 0), (9, .if_icmp .gt 7, 3, 0, 0)]) (lv1 := [(0, .int x0)]) (st1 := []) (h1 := hO R g) (by decide +kernel) rfl (fun c2 => ?_) (fun c2 => ?_)
    · rw [if_pos c2] at h
      refine m_go (L := [(16, .iconst 0, 1, 0, 0)]) (pc1 := 17) (lv1 := [(0, .int x0)]) (st1 := [.int (0 : Int32)]) (h1 := hO R g) (by decide +kernel) rfl ?_
      cases h
      exact m_rz (by decide +kernel) (Or.inl rfl)
    · rw [if_neg c2] at h
      refine m_go (L := [(12, .iconst 1, 1, 0, 0), (13, .goto 4, 3, 0, 0)]) (pc1 := 17) (lv1 := [(0, .int x0)]) (st1 := [.int (1 : Int32)]) (h1 := hO R g) (by decide +kernel) rfl ?_
      cases h
      exact m_rz (by decide +kernel) (Or.inr rfl)
def f67 (n : Nat) (x0 : Int32) (g : mG) : mZ := if x0 < (48 : Int32) then some (.inl (some (.int (0 : Int32))), g) else if (57 : Int32) < x0 then some (.inl (some (.int (0 : Int32))), g) else some (.inl (some (.int (1 : Int32))), g)
theorem Fr67 {R : Nat} {x0 : Int32} {g g' : mG} {o : mO} (h : f67 n x0 g = some (o, g')) : m_Run X (0) (m_ko o) 67 0 [(0, .int x0)] [] (hO R g) o (hO R g') := by
  unfold f67 at h
  refine m_gob (c := x0 < (48 : Int32)) (t := 16) (f := 6) (L := [(0, .iload_n 0, 1, 0, 0), (1, .bipush 48, 2, 0, 0), (3, .if_icmp .lt 13, 3, 0, 0)]) (lv1 := [(0, .int x0)]) (st1 := []) (h1 := hO R g) (by decide +kernel) rfl (fun c1 => ?_) (fun c1 => ?_)
  · rw [if_pos c1] at h
    refine m_go (L := [(16, .iconst 0, 1, 0, 0)]) (pc1 := 17) (lv1 := [(0, .int x0)]) (st1 := [.int (0 : Int32)]) (h1 := hO R g) (by decide +kernel) rfl ?_
    cases h
    exact m_rz (by decide +kernel) (Or.inl rfl)
  · rw [if_neg c1] at h
    refine m_gob (c := (57 : Int32) < x0) (t := 16) (f := 12) (L := [(6, .iload_n 0, 1, 0, 0), (7, .bipush 57, 2, 0, 0), (9, .if_icmp .gt 7, 3, 0, 0)]) (lv1 := [(0, .int x0)]) (st1 := []) (h1 := hO R g) (by decide +kernel) rfl (fun c2 => ?_) (fun c2 => ?_)
    · rw [if_pos c2] at h
      refine m_go (L := [(16, .iconst 0, 1, 0, 0)]) (pc1 := 17) (lv1 := [(0, .int x0)]) (st1 := [.int (0 : Int32)]) (h1 := hO R g) (by decide +kernel) rfl ?_
      cases h
      exact m_rz (by decide +kernel) (Or.inl rfl)
    · rw [if_neg c2] at h
      refine m_go (L := [(12, .iconst 1, 1, 0, 0), (13, .goto 4, 3, 0, 0)]) (pc1 := 17) (lv1 := [(0, .int x0)]) (st1 := [.int (1 : Int32)]) (h1 := hO R g) (by decide +kernel) rfl ?_
      cases h
      exact m_rz (by decide +kernel) (Or.inr rfl)
def f71_56 (n : Nat) (x0 : Int32) (x1 : Int32) (g : mG) : mZ := if ¬ x0 = (124 : Int32) then some (.inl (some (.int (1 : Int32))), g) else if ¬ x1 = (124 : Int32) then some (.inl (some (.int (1 : Int32))), g) else some (.inl (some (.int (24 : Int32))), g)
theorem Fr71_56 {R : Nat} {x0 : Int32} {x1 : Int32} {g g' : mG} {o : mO} (h : f71_56 n x0 x1 g = some (o, g')) : m_Run X (0) (m_ko o) 71 56 [(0, .int x0), (1, .int x1)] [] (hO R g) o (hO R g') := by
  unfold f71_56 at h
  refine m_gob (c := ¬ x0 = (124 : Int32)) (t := 73) (f := 62) (L := [(56, .iload_n 0, 1, 0, 0), (57, .bipush 124, 2, 0, 0), (59, .if_icmp .ne 14, 3, 0, 0)]) (lv1 := [(0, .int x0), (1, .int x1)]) (st1 := []) (h1 := hO R g) (by decide +kernel) rfl (fun c3 => ?_) (fun c3 => ?_)
  · rw [if_pos c3] at h
    refine m_go (L := [(73, .iconst 1, 1, 0, 0)]) (pc1 := 74) (lv1 := [(0, .int x0), (1, .int x1)]) (st1 := [.int (1 : Int32)]) (h1 := hO R g) (by decide +kernel) rfl ?_
    cases h
    exact m_ri (by decide +kernel)
  · rw [if_neg c3] at h
    refine m_gob (c := ¬ x1 = (124 : Int32)) (t := 73) (f := 68) (L := [(62, .iload_n 1, 1, 0, 0), (63, .bipush 124, 2, 0, 0), (65, .if_icmp .ne 8, 3, 0, 0)]) (lv1 := [(0, .int x0), (1, .int x1)]) (st1 := []) (h1 := hO R g) (by decide +kernel) rfl (fun c4 => ?_) (fun c4 => ?_)
    · rw [if_pos c4] at h
      refine m_go (L := [(73, .iconst 1, 1, 0, 0)]) (pc1 := 74) (lv1 := [(0, .int x0), (1, .int x1)]) (st1 := [.int (1 : Int32)]) (h1 := hO R g) (by decide +kernel) rfl ?_
      cases h
      exact m_ri (by decide +kernel)
    · rw [if_neg c4] at h
      refine m_go (L := [(68, .bipush 24, 2, 0, 0), (70, .goto 4, 3, 0, 0)]) (pc1 := 74) (lv1 := [(0, .int x0), (1, .int x1)]) (st1 := [.int (24 : Int32)]) (h1 := hO R g) (by decide +kernel) rfl ?_
      cases h
      exact m_ri (by decide +kernel)
def f71 (n : Nat) (x0 : Int32) (x1 : Int32) (g : mG) : mZ := if ¬ x1 = (61 : Int32) then if ¬ x0 = (38 : Int32) then f71_56 n x0 x1 g else if ¬ x1 = (38 : Int32) then f71_56 n x0 x1 g else some (.inl (some (.int (23 : Int32))), g) else if ¬ x0 = (61 : Int32) then if ¬ x0 = (33 : Int32) then if ¬ x0 = (60 : Int32) then some (.inl (some (.int (1 : Int32))), g) else some (.inl (some (.int (16 : Int32))), g) else some (.inl (some (.int (14 : Int32))), g) else some (.inl (some (.int (13 : Int32))), g)
theorem Fr71 {R : Nat} {x0 : Int32} {x1 : Int32} {g g' : mG} {o : mO} (h : f71 n x0 x1 g = some (o, g')) : m_Run X (0) (m_ko o) 71 0 [(0, .int x0), (1, .int x1)] [] (hO R g) o (hO R g') := by
  unfold f71 at h
  refine m_gob (c := ¬ x1 = (61 : Int32)) (t := 41) (f := 6) (L := [(0, .iload_n 1, 1, 0, 0), (1, .bipush 61, 2, 0, 0), (3, .if_icmp .ne 38, 3, 0, 0)]) (lv1 := [(0, .int x0), (1, .int x1)]) (st1 := []) (h1 := hO R g) (by decide +kernel) rfl (fun c1 => ?_) (fun c1 => ?_)
  · rw [if_pos c1] at h
    refine m_gob (c := ¬ x0 = (38 : Int32)) (t := 56) (f := 47) (L := [(41, .iload_n 0, 1, 0, 0), (42, .bipush 38, 2, 0, 0), (44, .if_icmp .ne 12, 3, 0, 0)]) (lv1 := [(0, .int x0), (1, .int x1)]) (st1 := []) (h1 := hO R g) (by decide +kernel) rfl (fun c2 => ?_) (fun c2 => ?_)
    · rw [if_pos c2] at h
      exact m_r0 _ _ _ _ _ _ _ _ _ _ (m_pick [0, 1] rfl) (Fr71_56 h)
    · rw [if_neg c2] at h
      refine m_gob (c := ¬ x1 = (38 : Int32)) (t := 56) (f := 53) (L := [(47, .iload_n 1, 1, 0, 0), (48, .bipush 38, 2, 0, 0), (50, .if_icmp .ne 6, 3, 0, 0)]) (lv1 := [(0, .int x0), (1, .int x1)]) (st1 := []) (h1 := hO R g) (by decide +kernel) rfl (fun c5 => ?_) (fun c5 => ?_)
      · rw [if_pos c5] at h
        exact m_r0 _ _ _ _ _ _ _ _ _ _ (m_pick [0, 1] rfl) (Fr71_56 h)
      · rw [if_neg c5] at h
        refine m_go (L := [(53, .bipush 23, 2, 0, 0)]) (pc1 := 55) (lv1 := [(0, .int x0), (1, .int x1)]) (st1 := [.int (23 : Int32)]) (h1 := hO R g) (by decide +kernel) rfl ?_
        cases h
        exact m_ri (by decide +kernel)
  · rw [if_neg c1] at h
    refine m_gob (c := ¬ x0 = (61 : Int32)) (t := 17) (f := 12) (L := [(6, .iload_n 0, 1, 0, 0), (7, .bipush 61, 2, 0, 0), (9, .if_icmp .ne 8, 3, 0, 0)]) (lv1 := [(0, .int x0), (1, .int x1)]) (st1 := []) (h1 := hO R g) (by decide +kernel) rfl (fun c6 => ?_) (fun c6 => ?_)
    · rw [if_pos c6] at h
      refine m_gob (c := ¬ x0 = (33 : Int32)) (t := 28) (f := 23) (L := [(17, .iload_n 0, 1, 0, 0), (18, .bipush 33, 2, 0, 0), (20, .if_icmp .ne 8, 3, 0, 0)]) (lv1 := [(0, .int x0), (1, .int x1)]) (st1 := []) (h1 := hO R g) (by decide +kernel) rfl (fun c7 => ?_) (fun c7 => ?_)
      · rw [if_pos c7] at h
        refine m_gob (c := ¬ x0 = (60 : Int32)) (t := 39) (f := 34) (L := [(28, .iload_n 0, 1, 0, 0), (29, .bipush 60, 2, 0, 0), (31, .if_icmp .ne 8, 3, 0, 0)]) (lv1 := [(0, .int x0), (1, .int x1)]) (st1 := []) (h1 := hO R g) (by decide +kernel) rfl (fun c8 => ?_) (fun c8 => ?_)
        · rw [if_pos c8] at h
          refine m_go (L := [(39, .iconst 1, 1, 0, 0)]) (pc1 := 40) (lv1 := [(0, .int x0), (1, .int x1)]) (st1 := [.int (1 : Int32)]) (h1 := hO R g) (by decide +kernel) rfl ?_
          cases h
          exact m_ri (by decide +kernel)
        · rw [if_neg c8] at h
          refine m_go (L := [(34, .bipush 16, 2, 0, 0), (36, .goto 4, 3, 0, 0)]) (pc1 := 40) (lv1 := [(0, .int x0), (1, .int x1)]) (st1 := [.int (16 : Int32)]) (h1 := hO R g) (by decide +kernel) rfl ?_
          cases h
          exact m_ri (by decide +kernel)
      · rw [if_neg c7] at h
        refine m_go (L := [(23, .bipush 14, 2, 0, 0), (25, .goto 15, 3, 0, 0)]) (pc1 := 40) (lv1 := [(0, .int x0), (1, .int x1)]) (st1 := [.int (14 : Int32)]) (h1 := hO R g) (by decide +kernel) rfl ?_
        cases h
        exact m_ri (by decide +kernel)
    · rw [if_neg c6] at h
      refine m_go (L := [(12, .bipush 13, 2, 0, 0), (14, .goto 26, 3, 0, 0)]) (pc1 := 40) (lv1 := [(0, .int x0), (1, .int x1)]) (st1 := [.int (13 : Int32)]) (h1 := hO R g) (by decide +kernel) rfl ?_
      cases h
      exact m_ri (by decide +kernel)
def f72 (n : Nat) (x0 : Int32) (g : mG) : mZ := if x0 = 33 then some (.inl (some (.int (22 : Int32))), g) else if x0 = 37 then some (.inl (some (.int (21 : Int32))), g) else if x0 = 40 then some (.inl (some (.int (4 : Int32))), g) else if x0 = 41 then some (.inl (some (.int (5 : Int32))), g) else if x0 = 42 then some (.inl (some (.int (19 : Int32))), g) else if x0 = 43 then some (.inl (some (.int (17 : Int32))), g) else if x0 = 44 then some (.inl (some (.int (10 : Int32))), g) else if x0 = 45 then some (.inl (some (.int (18 : Int32))), g) else if x0 = 47 then some (.inl (some (.int (20 : Int32))), g) else if x0 = 59 then some (.inl (some (.int (11 : Int32))), g) else if x0 = 60 then some (.inl (some (.int (15 : Int32))), g) else if x0 = 61 then some (.inl (some (.int (12 : Int32))), g) else if x0 = 91 then some (.inl (some (.int (8 : Int32))), g) else if x0 = 93 then some (.inl (some (.int (9 : Int32))), g) else if x0 = 123 then some (.inl (some (.int (6 : Int32))), g) else if x0 = 125 then some (.inl (some (.int (7 : Int32))), g) else some (.inl (some (.int (1 : Int32))), g)
theorem Fr72 {R : Nat} {x0 : Int32} {g g' : mG} {o : mO} (h : f72 n x0 g = some (o, g')) : m_Run X (0) (m_ko o) 72 0 [(0, .int x0)] [] (hO R g) o (hO R g') := by
  unfold f72 at h
  refine m_go (L := [(0, .iload_n 0, 1, 0, 0)]) (pc1 := 1) (lv1 := [(0, .int x0)]) (st1 := [.int x0]) (h1 := hO R g) (by decide +kernel) rfl ?_
  by_cases c1 : x0 = 33
  · rw [if_pos c1] at h
    refine m_go1 (q := (1, .lookupswitch 185 #[(33, 182), (37, 179), (40, 139), (41, 141), (42, 173), (43, 167), (44, 155), (45, 170), (47, 176), (59, 158), (60, 164), (61, 161), (91, 149), (93, 152), (123, 143), (125, 146)], 139, 0, 0)) (pc1 := 183) (lv1 := [(0, .int x0)]) (st1 := []) (h1 := hO R g) (by decide +kernel) (m_swx (fun z => m_loc m_ft X (.lookupswitch 185 #[(33, 182), (37, 179), (40, 139), (41, 141), (42, 173), (43, 167), (44, 155), (45, 170), (47, 176), (59, 158), (60, 164), (61, 161), (91, 149), (93, 152), (123, 143), (125, 146)]) 0 0 1 [(0, .int x0)] (.int z :: []) (hO R g)) c1 rfl) ?_
    refine m_go (L := [(183, .bipush 22, 2, 0, 0)]) (pc1 := 185) (lv1 := [(0, .int x0)]) (st1 := [.int (22 : Int32)]) (h1 := hO R g) (by decide +kernel) rfl ?_
    cases h
    exact m_ri (by decide +kernel)
  · rw [if_neg c1] at h
    by_cases c2 : x0 = 37
    · rw [if_pos c2] at h
      refine m_go1 (q := (1, .lookupswitch 185 #[(33, 182), (37, 179), (40, 139), (41, 141), (42, 173), (43, 167), (44, 155), (45, 170), (47, 176), (59, 158), (60, 164), (61, 161), (91, 149), (93, 152), (123, 143), (125, 146)], 139, 0, 0)) (pc1 := 180) (lv1 := [(0, .int x0)]) (st1 := []) (h1 := hO R g) (by decide +kernel) (m_swx (fun z => m_loc m_ft X (.lookupswitch 185 #[(33, 182), (37, 179), (40, 139), (41, 141), (42, 173), (43, 167), (44, 155), (45, 170), (47, 176), (59, 158), (60, 164), (61, 161), (91, 149), (93, 152), (123, 143), (125, 146)]) 0 0 1 [(0, .int x0)] (.int z :: []) (hO R g)) c2 rfl) ?_
      refine m_go (L := [(180, .bipush 21, 2, 0, 0)]) (pc1 := 182) (lv1 := [(0, .int x0)]) (st1 := [.int (21 : Int32)]) (h1 := hO R g) (by decide +kernel) rfl ?_
      cases h
      exact m_ri (by decide +kernel)
    · rw [if_neg c2] at h
      by_cases c3 : x0 = 40
      · rw [if_pos c3] at h
        refine m_go1 (q := (1, .lookupswitch 185 #[(33, 182), (37, 179), (40, 139), (41, 141), (42, 173), (43, 167), (44, 155), (45, 170), (47, 176), (59, 158), (60, 164), (61, 161), (91, 149), (93, 152), (123, 143), (125, 146)], 139, 0, 0)) (pc1 := 140) (lv1 := [(0, .int x0)]) (st1 := []) (h1 := hO R g) (by decide +kernel) (m_swx (fun z => m_loc m_ft X (.lookupswitch 185 #[(33, 182), (37, 179), (40, 139), (41, 141), (42, 173), (43, 167), (44, 155), (45, 170), (47, 176), (59, 158), (60, 164), (61, 161), (91, 149), (93, 152), (123, 143), (125, 146)]) 0 0 1 [(0, .int x0)] (.int z :: []) (hO R g)) c3 rfl) ?_
        refine m_go (L := [(140, .iconst 4, 1, 0, 0)]) (pc1 := 141) (lv1 := [(0, .int x0)]) (st1 := [.int (4 : Int32)]) (h1 := hO R g) (by decide +kernel) rfl ?_
        cases h
        exact m_ri (by decide +kernel)
      · rw [if_neg c3] at h
        by_cases c4 : x0 = 41
        · rw [if_pos c4] at h
          refine m_go1 (q := (1, .lookupswitch 185 #[(33, 182), (37, 179), (40, 139), (41, 141), (42, 173), (43, 167), (44, 155), (45, 170), (47, 176), (59, 158), (60, 164), (61, 161), (91, 149), (93, 152), (123, 143), (125, 146)], 139, 0, 0)) (pc1 := 142) (lv1 := [(0, .int x0)]) (st1 := []) (h1 := hO R g) (by decide +kernel) (m_swx (fun z => m_loc m_ft X (.lookupswitch 185 #[(33, 182), (37, 179), (40, 139), (41, 141), (42, 173), (43, 167), (44, 155), (45, 170), (47, 176), (59, 158), (60, 164), (61, 161), (91, 149), (93, 152), (123, 143), (125, 146)]) 0 0 1 [(0, .int x0)] (.int z :: []) (hO R g)) c4 rfl) ?_
          refine m_go (L := [(142, .iconst 5, 1, 0, 0)]) (pc1 := 143) (lv1 := [(0, .int x0)]) (st1 := [.int (5 : Int32)]) (h1 := hO R g) (by decide +kernel) rfl ?_
          cases h
          exact m_ri (by decide +kernel)
        · rw [if_neg c4] at h
          by_cases c5 : x0 = 42
          · rw [if_pos c5] at h
            refine m_go1 (q := (1, .lookupswitch 185 #[(33, 182), (37, 179), (40, 139), (41, 141), (42, 173), (43, 167), (44, 155), (45, 170), (47, 176), (59, 158), (60, 164), (61, 161), (91, 149), (93, 152), (123, 143), (125, 146)], 139, 0, 0)) (pc1 := 174) (lv1 := [(0, .int x0)]) (st1 := []) (h1 := hO R g) (by decide +kernel) (m_swx (fun z => m_loc m_ft X (.lookupswitch 185 #[(33, 182), (37, 179), (40, 139), (41, 141), (42, 173), (43, 167), (44, 155), (45, 170), (47, 176), (59, 158), (60, 164), (61, 161), (91, 149), (93, 152), (123, 143), (125, 146)]) 0 0 1 [(0, .int x0)] (.int z :: []) (hO R g)) c5 rfl) ?_
            refine m_go (L := [(174, .bipush 19, 2, 0, 0)]) (pc1 := 176) (lv1 := [(0, .int x0)]) (st1 := [.int (19 : Int32)]) (h1 := hO R g) (by decide +kernel) rfl ?_
            cases h
            exact m_ri (by decide +kernel)
          · rw [if_neg c5] at h
            by_cases c6 : x0 = 43
            · rw [if_pos c6] at h
              refine m_go1 (q := (1, .lookupswitch 185 #[(33, 182), (37, 179), (40, 139), (41, 141), (42, 173), (43, 167), (44, 155), (45, 170), (47, 176), (59, 158), (60, 164), (61, 161), (91, 149), (93, 152), (123, 143), (125, 146)], 139, 0, 0)) (pc1 := 168) (lv1 := [(0, .int x0)]) (st1 := []) (h1 := hO R g) (by decide +kernel) (m_swx (fun z => m_loc m_ft X (.lookupswitch 185 #[(33, 182), (37, 179), (40, 139), (41, 141), (42, 173), (43, 167), (44, 155), (45, 170), (47, 176), (59, 158), (60, 164), (61, 161), (91, 149), (93, 152), (123, 143), (125, 146)]) 0 0 1 [(0, .int x0)] (.int z :: []) (hO R g)) c6 rfl) ?_
              refine m_go (L := [(168, .bipush 17, 2, 0, 0)]) (pc1 := 170) (lv1 := [(0, .int x0)]) (st1 := [.int (17 : Int32)]) (h1 := hO R g) (by decide +kernel) rfl ?_
              cases h
              exact m_ri (by decide +kernel)
            · rw [if_neg c6] at h
              by_cases c7 : x0 = 44
              · rw [if_pos c7] at h
                refine m_go1 (q := (1, .lookupswitch 185 #[(33, 182), (37, 179), (40, 139), (41, 141), (42, 173), (43, 167), (44, 155), (45, 170), (47, 176), (59, 158), (60, 164), (61, 161), (91, 149), (93, 152), (123, 143), (125, 146)], 139, 0, 0)) (pc1 := 156) (lv1 := [(0, .int x0)]) (st1 := []) (h1 := hO R g) (by decide +kernel) (m_swx (fun z => m_loc m_ft X (.lookupswitch 185 #[(33, 182), (37, 179), (40, 139), (41, 141), (42, 173), (43, 167), (44, 155), (45, 170), (47, 176), (59, 158), (60, 164), (61, 161), (91, 149), (93, 152), (123, 143), (125, 146)]) 0 0 1 [(0, .int x0)] (.int z :: []) (hO R g)) c7 rfl) ?_
                refine m_go (L := [(156, .bipush 10, 2, 0, 0)]) (pc1 := 158) (lv1 := [(0, .int x0)]) (st1 := [.int (10 : Int32)]) (h1 := hO R g) (by decide +kernel) rfl ?_
                cases h
                exact m_ri (by decide +kernel)
              · rw [if_neg c7] at h
                by_cases c8 : x0 = 45
                · rw [if_pos c8] at h
                  refine m_go1 (q := (1, .lookupswitch 185 #[(33, 182), (37, 179), (40, 139), (41, 141), (42, 173), (43, 167), (44, 155), (45, 170), (47, 176), (59, 158), (60, 164), (61, 161), (91, 149), (93, 152), (123, 143), (125, 146)], 139, 0, 0)) (pc1 := 171) (lv1 := [(0, .int x0)]) (st1 := []) (h1 := hO R g) (by decide +kernel) (m_swx (fun z => m_loc m_ft X (.lookupswitch 185 #[(33, 182), (37, 179), (40, 139), (41, 141), (42, 173), (43, 167), (44, 155), (45, 170), (47, 176), (59, 158), (60, 164), (61, 161), (91, 149), (93, 152), (123, 143), (125, 146)]) 0 0 1 [(0, .int x0)] (.int z :: []) (hO R g)) c8 rfl) ?_
                  refine m_go (L := [(171, .bipush 18, 2, 0, 0)]) (pc1 := 173) (lv1 := [(0, .int x0)]) (st1 := [.int (18 : Int32)]) (h1 := hO R g) (by decide +kernel) rfl ?_
                  cases h
                  exact m_ri (by decide +kernel)
                · rw [if_neg c8] at h
                  by_cases c9 : x0 = 47
                  · rw [if_pos c9] at h
                    refine m_go1 (q := (1, .lookupswitch 185 #[(33, 182), (37, 179), (40, 139), (41, 141), (42, 173), (43, 167), (44, 155), (45, 170), (47, 176), (59, 158), (60, 164), (61, 161), (91, 149), (93, 152), (123, 143), (125, 146)], 139, 0, 0)) (pc1 := 177) (lv1 := [(0, .int x0)]) (st1 := []) (h1 := hO R g) (by decide +kernel) (m_swx (fun z => m_loc m_ft X (.lookupswitch 185 #[(33, 182), (37, 179), (40, 139), (41, 141), (42, 173), (43, 167), (44, 155), (45, 170), (47, 176), (59, 158), (60, 164), (61, 161), (91, 149), (93, 152), (123, 143), (125, 146)]) 0 0 1 [(0, .int x0)] (.int z :: []) (hO R g)) c9 rfl) ?_
                    refine m_go (L := [(177, .bipush 20, 2, 0, 0)]) (pc1 := 179) (lv1 := [(0, .int x0)]) (st1 := [.int (20 : Int32)]) (h1 := hO R g) (by decide +kernel) rfl ?_
                    cases h
                    exact m_ri (by decide +kernel)
                  · rw [if_neg c9] at h
                    by_cases c10 : x0 = 59
                    · rw [if_pos c10] at h
                      refine m_go1 (q := (1, .lookupswitch 185 #[(33, 182), (37, 179), (40, 139), (41, 141), (42, 173), (43, 167), (44, 155), (45, 170), (47, 176), (59, 158), (60, 164), (61, 161), (91, 149), (93, 152), (123, 143), (125, 146)], 139, 0, 0)) (pc1 := 159) (lv1 := [(0, .int x0)]) (st1 := []) (h1 := hO R g) (by decide +kernel) (m_swx (fun z => m_loc m_ft X (.lookupswitch 185 #[(33, 182), (37, 179), (40, 139), (41, 141), (42, 173), (43, 167), (44, 155), (45, 170), (47, 176), (59, 158), (60, 164), (61, 161), (91, 149), (93, 152), (123, 143), (125, 146)]) 0 0 1 [(0, .int x0)] (.int z :: []) (hO R g)) c10 rfl) ?_
                      refine m_go (L := [(159, .bipush 11, 2, 0, 0)]) (pc1 := 161) (lv1 := [(0, .int x0)]) (st1 := [.int (11 : Int32)]) (h1 := hO R g) (by decide +kernel) rfl ?_
                      cases h
                      exact m_ri (by decide +kernel)
                    · rw [if_neg c10] at h
                      by_cases c11 : x0 = 60
                      · rw [if_pos c11] at h
                        refine m_go1 (q := (1, .lookupswitch 185 #[(33, 182), (37, 179), (40, 139), (41, 141), (42, 173), (43, 167), (44, 155), (45, 170), (47, 176), (59, 158), (60, 164), (61, 161), (91, 149), (93, 152), (123, 143), (125, 146)], 139, 0, 0)) (pc1 := 165) (lv1 := [(0, .int x0)]) (st1 := []) (h1 := hO R g) (by decide +kernel) (m_swx (fun z => m_loc m_ft X (.lookupswitch 185 #[(33, 182), (37, 179), (40, 139), (41, 141), (42, 173), (43, 167), (44, 155), (45, 170), (47, 176), (59, 158), (60, 164), (61, 161), (91, 149), (93, 152), (123, 143), (125, 146)]) 0 0 1 [(0, .int x0)] (.int z :: []) (hO R g)) c11 rfl) ?_
                        refine m_go (L := [(165, .bipush 15, 2, 0, 0)]) (pc1 := 167) (lv1 := [(0, .int x0)]) (st1 := [.int (15 : Int32)]) (h1 := hO R g) (by decide +kernel) rfl ?_
                        cases h
                        exact m_ri (by decide +kernel)
                      · rw [if_neg c11] at h
                        by_cases c12 : x0 = 61
                        · rw [if_pos c12] at h
                          refine m_go1 (q := (1, .lookupswitch 185 #[(33, 182), (37, 179), (40, 139), (41, 141), (42, 173), (43, 167), (44, 155), (45, 170), (47, 176), (59, 158), (60, 164), (61, 161), (91, 149), (93, 152), (123, 143), (125, 146)], 139, 0, 0)) (pc1 := 162) (lv1 := [(0, .int x0)]) (st1 := []) (h1 := hO R g) (by decide +kernel) (m_swx (fun z => m_loc m_ft X (.lookupswitch 185 #[(33, 182), (37, 179), (40, 139), (41, 141), (42, 173), (43, 167), (44, 155), (45, 170), (47, 176), (59, 158), (60, 164), (61, 161), (91, 149), (93, 152), (123, 143), (125, 146)]) 0 0 1 [(0, .int x0)] (.int z :: []) (hO R g)) c12 rfl) ?_
                          refine m_go (L := [(162, .bipush 12, 2, 0, 0)]) (pc1 := 164) (lv1 := [(0, .int x0)]) (st1 := [.int (12 : Int32)]) (h1 := hO R g) (by decide +kernel) rfl ?_
                          cases h
                          exact m_ri (by decide +kernel)
                        · rw [if_neg c12] at h
                          by_cases c13 : x0 = 91
                          · rw [if_pos c13] at h
                            refine m_go1 (q := (1, .lookupswitch 185 #[(33, 182), (37, 179), (40, 139), (41, 141), (42, 173), (43, 167), (44, 155), (45, 170), (47, 176), (59, 158), (60, 164), (61, 161), (91, 149), (93, 152), (123, 143), (125, 146)], 139, 0, 0)) (pc1 := 150) (lv1 := [(0, .int x0)]) (st1 := []) (h1 := hO R g) (by decide +kernel) (m_swx (fun z => m_loc m_ft X (.lookupswitch 185 #[(33, 182), (37, 179), (40, 139), (41, 141), (42, 173), (43, 167), (44, 155), (45, 170), (47, 176), (59, 158), (60, 164), (61, 161), (91, 149), (93, 152), (123, 143), (125, 146)]) 0 0 1 [(0, .int x0)] (.int z :: []) (hO R g)) c13 rfl) ?_
                            refine m_go (L := [(150, .bipush 8, 2, 0, 0)]) (pc1 := 152) (lv1 := [(0, .int x0)]) (st1 := [.int (8 : Int32)]) (h1 := hO R g) (by decide +kernel) rfl ?_
                            cases h
                            exact m_ri (by decide +kernel)
                          · rw [if_neg c13] at h
                            by_cases c14 : x0 = 93
                            · rw [if_pos c14] at h
                              refine m_go1 (q := (1, .lookupswitch 185 #[(33, 182), (37, 179), (40, 139), (41, 141), (42, 173), (43, 167), (44, 155), (45, 170), (47, 176), (59, 158), (60, 164), (61, 161), (91, 149), (93, 152), (123, 143), (125, 146)], 139, 0, 0)) (pc1 := 153) (lv1 := [(0, .int x0)]) (st1 := []) (h1 := hO R g) (by decide +kernel) (m_swx (fun z => m_loc m_ft X (.lookupswitch 185 #[(33, 182), (37, 179), (40, 139), (41, 141), (42, 173), (43, 167), (44, 155), (45, 170), (47, 176), (59, 158), (60, 164), (61, 161), (91, 149), (93, 152), (123, 143), (125, 146)]) 0 0 1 [(0, .int x0)] (.int z :: []) (hO R g)) c14 rfl) ?_
                              refine m_go (L := [(153, .bipush 9, 2, 0, 0)]) (pc1 := 155) (lv1 := [(0, .int x0)]) (st1 := [.int (9 : Int32)]) (h1 := hO R g) (by decide +kernel) rfl ?_
                              cases h
                              exact m_ri (by decide +kernel)
                            · rw [if_neg c14] at h
                              by_cases c15 : x0 = 123
                              · rw [if_pos c15] at h
                                refine m_go1 (q := (1, .lookupswitch 185 #[(33, 182), (37, 179), (40, 139), (41, 141), (42, 173), (43, 167), (44, 155), (45, 170), (47, 176), (59, 158), (60, 164), (61, 161), (91, 149), (93, 152), (123, 143), (125, 146)], 139, 0, 0)) (pc1 := 144) (lv1 := [(0, .int x0)]) (st1 := []) (h1 := hO R g) (by decide +kernel) (m_swx (fun z => m_loc m_ft X (.lookupswitch 185 #[(33, 182), (37, 179), (40, 139), (41, 141), (42, 173), (43, 167), (44, 155), (45, 170), (47, 176), (59, 158), (60, 164), (61, 161), (91, 149), (93, 152), (123, 143), (125, 146)]) 0 0 1 [(0, .int x0)] (.int z :: []) (hO R g)) c15 rfl) ?_
                                refine m_go (L := [(144, .bipush 6, 2, 0, 0)]) (pc1 := 146) (lv1 := [(0, .int x0)]) (st1 := [.int (6 : Int32)]) (h1 := hO R g) (by decide +kernel) rfl ?_
                                cases h
                                exact m_ri (by decide +kernel)
                              · rw [if_neg c15] at h
                                by_cases c16 : x0 = 125
                                · rw [if_pos c16] at h
                                  refine m_go1 (q := (1, .lookupswitch 185 #[(33, 182), (37, 179), (40, 139), (41, 141), (42, 173), (43, 167), (44, 155), (45, 170), (47, 176), (59, 158), (60, 164), (61, 161), (91, 149), (93, 152), (123, 143), (125, 146)], 139, 0, 0)) (pc1 := 147) (lv1 := [(0, .int x0)]) (st1 := []) (h1 := hO R g) (by decide +kernel) (m_swx (fun z => m_loc m_ft X (.lookupswitch 185 #[(33, 182), (37, 179), (40, 139), (41, 141), (42, 173), (43, 167), (44, 155), (45, 170), (47, 176), (59, 158), (60, 164), (61, 161), (91, 149), (93, 152), (123, 143), (125, 146)]) 0 0 1 [(0, .int x0)] (.int z :: []) (hO R g)) c16 rfl) ?_
                                  refine m_go (L := [(147, .bipush 7, 2, 0, 0)]) (pc1 := 149) (lv1 := [(0, .int x0)]) (st1 := [.int (7 : Int32)]) (h1 := hO R g) (by decide +kernel) rfl ?_
                                  cases h
                                  exact m_ri (by decide +kernel)
                                · rw [if_neg c16] at h
                                  refine m_go1 (q := (1, .lookupswitch 185 #[(33, 182), (37, 179), (40, 139), (41, 141), (42, 173), (43, 167), (44, 155), (45, 170), (47, 176), (59, 158), (60, 164), (61, 161), (91, 149), (93, 152), (123, 143), (125, 146)], 139, 0, 0)) (pc1 := 186) (lv1 := [(0, .int x0)]) (st1 := []) (h1 := hO R g) (by decide +kernel) (by show some (m_tg _ (Op.lookupswitch.offset _ _ _), _, _, _) = _; rw [m_lkd _ (List.forall_mem_cons.mpr ⟨m_ne (k := 33) (by decide) c1, List.forall_mem_cons.mpr ⟨m_ne (k := 37) (by decide) c2, List.forall_mem_cons.mpr ⟨m_ne (k := 40) (by decide) c3, List.forall_mem_cons.mpr ⟨m_ne (k := 41) (by decide) c4, List.forall_mem_cons.mpr ⟨m_ne (k := 42) (by decide) c5, List.forall_mem_cons.mpr ⟨m_ne (k := 43) (by decide) c6, List.forall_mem_cons.mpr ⟨m_ne (k := 44) (by decide) c7, List.forall_mem_cons.mpr ⟨m_ne (k := 45) (by decide) c8, List.forall_mem_cons.mpr ⟨m_ne (k := 47) (by decide) c9, List.forall_mem_cons.mpr ⟨m_ne (k := 59) (by decide) c10, List.forall_mem_cons.mpr ⟨m_ne (k := 60) (by decide) c11, List.forall_mem_cons.mpr ⟨m_ne (k := 61) (by decide) c12, List.forall_mem_cons.mpr ⟨m_ne (k := 91) (by decide) c13, List.forall_mem_cons.mpr ⟨m_ne (k := 93) (by decide) c14, List.forall_mem_cons.mpr ⟨m_ne (k := 123) (by decide) c15, List.forall_mem_cons.mpr ⟨m_ne (k := 125) (by decide) c16, fun _ hq => absurd hq List.not_mem_nil⟩⟩⟩⟩⟩⟩⟩⟩⟩⟩⟩⟩⟩⟩⟩⟩)]; rfl) ?_
                                  refine m_go (L := [(186, .iconst 1, 1, 0, 0)]) (pc1 := 187) (lv1 := [(0, .int x0)]) (st1 := [.int (1 : Int32)]) (h1 := hO R g) (by decide +kernel) rfl ?_
                                  cases h
                                  exact m_ri (by decide +kernel)
def f70_55 (n : Nat) (x2 : Int64) (x4 : Int32) (g : mG) : mZ := if (lg_cmp x2 (2147483647 : Int64)) ≤ 0 then some (.inl (some (.int (3 : Int32))), (gI (gI g 10 x4) 11 (Int64.toInt32 x2))) else some (.inl (some (.int (1 : Int32))), (gI g 10 x4))
theorem Fr70_55 {x2 : Int64} {x4 : Int32} {g g' : mG} {o : mO} (h : f70_55 n x2 x4 g = some (o, g')) : m_Run X (1) (m_ko o) 70 55 [(0, .ref 2), (2, .long x2), (4, .int x4)] [] (hO 8 g) o (hO 8 g') := by
  unfold f70_55 at h
  refine m_gob (c := (lg_cmp x2 (2147483647 : Int64)) ≤ 0) (t := 71) (f := 69) (L := [(55, .aload_n 0, 1, 0, 0), (56, .iload 4, 2, 0, 0), (58, .putfield 34, 3, 4, 7), (61, .lload_n 2, 1, 0, 0), (62, .ldc2_w 88, 3, 0, 2147483647), (65, .lcmp, 1, 0, 0), (66, .ifCond .le 5, 3, 0, 0)]) (lv1 := [(0, .ref 2), (2, .long x2), (4, .int x4)]) (st1 := []) (h1 := hO 8 (gI g 10 x4)) (by decide +kernel) rfl (fun c2 => ?_) (fun c2 => ?_)
  · rw [if_pos c2] at h
    refine m_go (L := [(71, .aload_n 0, 1, 0, 0), (72, .lload_n 2, 1, 0, 0), (73, .l2i, 1, 0, 0), (74, .putfield 37, 3, 4, 8), (77, .iconst 3, 1, 0, 0)]) (pc1 := 78) (lv1 := [(0, .ref 2), (2, .long x2), (4, .int x4)]) (st1 := [.int (3 : Int32)]) (h1 := hO 8 (gI (gI g 10 x4) 11 (Int64.toInt32 x2))) (by decide +kernel) rfl ?_
    cases h
    exact m_ri (by decide +kernel)
  · rw [if_neg c2] at h
    refine m_go (L := [(69, .iconst 1, 1, 0, 0)]) (pc1 := 70) (lv1 := [(0, .ref 2), (2, .long x2), (4, .int x4)]) (st1 := [.int (1 : Int32)]) (h1 := hO 8 (gI g 10 x4)) (by decide +kernel) rfl ?_
    cases h
    exact m_ri (by decide +kernel)
def f70_5 (n : Nat) : Nat → Int64 → Int32 → mG → mZ
  | 0, _, _, _ => none
  | c + 1, x2, x4, g => if (g.1 9) ≤ x4 then f70_55 n x2 x4 g else m_ci (f63 n x4 g) (fun v4 g3 => m_ci (f67 n v4 g3) (fun v8 g7 => if v8 = 0 then f70_55 n x2 x4 g7 else m_ci (f63 n x4 g7) (fun v13 g12 => f70_5 n c (if (2147483648 : Int64) < ((x2 * (10 : Int64)) + (Int32.toInt64 (v13 - (48 : Int32)))) then (2147483648 : Int64) else ((x2 * (10 : Int64)) + (Int32.toInt64 (v13 - (48 : Int32))))) (x4 + (1 : Int32)) g12)))
set_option maxRecDepth 20000 in
theorem Fr70_5 : ∀ (c : Nat) (x2 : Int64) (x4 : Int32) (g g' : mG) (o : mO), f70_5 n c x2 x4 g = some (o, g') → m_Run X (1) (m_ko o) 70 5 [(0, .ref 2), (2, .long x2), (4, .int x4)] [] (hO 8 g) o (hO 8 g') := by
  intro c
  induction c with
  | zero => intro x2 x4 g g' o h; rw [f70_5] at h; cases h
  | succ c ih =>
    intro x2 x4 g g' o h
    rw [f70_5] at h
    refine m_gob (c := (g.1 9) ≤ x4) (t := 55) (f := 14) (L := [(5, .iload 4, 2, 0, 0), (7, .aload_n 0, 1, 0, 0), (8, .getfield 31, 3, 4, 6), (11, .if_icmp .ge 44, 3, 0, 0)]) (lv1 := [(0, .ref 2), (2, .long x2), (4, .int x4)]) (st1 := []) (h1 := hO 8 g) (by decide +kernel) rfl (fun c1 => ?_) (fun c1 => ?_)
    · rw [if_pos c1] at h
      exact m_r0 _ _ _ _ _ _ _ _ _ _ (m_pick [0, 1, 2] rfl) (Fr70_55 h)
    · rw [if_neg c1] at h
      refine m_go (L := [(14, .aload_n 0, 1, 0, 0), (15, .iload 4, 2, 0, 0)]) (pc1 := 17) (lv1 := [(0, .ref 2), (2, .long x2), (4, .int x4)]) (st1 := [.int x4, .ref 2]) (h1 := hO 8 g) (by decide +kernel) rfl ?_
      rcases m_ci_inv h with ⟨v4, g3, e5, h⟩ | ⟨y6, g3, e5, rfl, rfl⟩
      · refine m_ca (q := (17, .invokevirtual 55, 3, 63, 1)) (a := 63) (vs := [.ref 2, .int x4]) (st := []) (d1 := 0) (by decide +kernel) rfl rfl rfl rfl (by decide) (Fr63 e5) ?_
        show m_Run X _ _ 70 20 [(0, .ref 2), (2, .long x2), (4, .int x4)] [.int v4] (hO 8 g3) _ _
        rcases m_ci_inv h with ⟨v8, g7, e9, h⟩ | ⟨y10, g7, e9, rfl, rfl⟩
        · refine m_ca (q := (20, .invokestatic 68, 3, 67, 1)) (a := 67) (vs := [.int v4]) (st := []) (d1 := 0) (by decide +kernel) rfl rfl rfl rfl (by decide) (Fr67 e9) ?_
          show m_Run X _ _ 70 23 [(0, .ref 2), (2, .long x2), (4, .int x4)] [.int v8] (hO 8 g7) _ _
          refine m_gob (c := v8 = 0) (t := 55) (f := 26) (L := [(23, .ifCond .eq 32, 3, 0, 0)]) (lv1 := [(0, .ref 2), (2, .long x2), (4, .int x4)]) (st1 := []) (h1 := hO 8 g7) (by decide +kernel) rfl (fun c11 => ?_) (fun c11 => ?_)
          · rw [if_pos c11] at h
            exact m_r0 _ _ _ _ _ _ _ _ _ _ (m_pick [0, 1, 2] rfl) (Fr70_55 h)
          · rw [if_neg c11] at h
            refine m_go (L := [(26, .lload_n 2, 1, 0, 0), (27, .ldc2_w 80, 3, 0, 10), (30, .lmul, 1, 0, 0), (31, .aload_n 0, 1, 0, 0), (32, .iload 4, 2, 0, 0)]) (pc1 := 34) (lv1 := [(0, .ref 2), (2, .long x2), (4, .int x4)]) (st1 := [.int x4, .ref 2, .long (x2 * (10 : Int64))]) (h1 := hO 8 g7) (by decide +kernel) rfl ?_
            rcases m_ci_inv h with ⟨v13, g12, e14, h⟩ | ⟨y15, g12, e14, rfl, rfl⟩
            · refine m_ca (q := (34, .invokevirtual 55, 3, 63, 1)) (a := 63) (vs := [.ref 2, .int x4]) (st := [.long (x2 * (10 : Int64))]) (d1 := 0) (by decide +kernel) rfl rfl rfl rfl (by decide) (Fr63 e14) ?_
              show m_Run X _ _ 70 37 [(0, .ref 2), (2, .long x2), (4, .int x4)] [.int v13, .long (x2 * (10 : Int64))] (hO 8 g12) _ _
              refine m_go (L := [(37, .bipush 48, 2, 0, 0), (39, .isub, 1, 0, 0), (40, .i2l, 1, 0, 0), (41, .ladd, 1, 0, 0), (42, .ldc2_w 82, 3, 0, 2147483648)]) (pc1 := 45) (lv1 := [(0, .ref 2), (2, .long x2), (4, .int x4)]) (st1 := [.long (2147483648 : Int64), .long ((x2 * (10 : Int64)) + (Int32.toInt64 (v13 - (48 : Int32))))]) (h1 := hO 8 g12) (by decide +kernel) rfl ?_
              refine m_r9 _ _ _ _ 84 _ [] _ _ _ _ _ (45, .invokestatic 84, 3, 1001, 2) (by decide +kernel) rfl rfl (Nat.le_of_ble_eq_true rfl) ?_
              show m_Run X _ _ 70 48 [(0, .ref 2), (2, .long x2), (4, .int x4)] [.long (if (2147483648 : Int64) < ((x2 * (10 : Int64)) + (Int32.toInt64 (v13 - (48 : Int32)))) then (2147483648 : Int64) else ((x2 * (10 : Int64)) + (Int32.toInt64 (v13 - (48 : Int32)))))] (hO 8 g12) _ _
              refine m_go (L := [(48, .lstore_n 2, 1, 0, 0), (49, .iinc 4 1, 3, 0, 0), (52, .goto (-47), 3, 0, 0)]) (pc1 := 5) (lv1 := [(0, .ref 2), (2, .long (if (2147483648 : Int64) < ((x2 * (10 : Int64)) + (Int32.toInt64 (v13 - (48 : Int32)))) then (2147483648 : Int64) else ((x2 * (10 : Int64)) + (Int32.toInt64 (v13 - (48 : Int32)))))), (4, .int (x4 + (1 : Int32)))]) (st1 := []) (h1 := hO 8 g12) (by decide +kernel) rfl ?_
              exact m_r0 _ _ _ _ _ _ _ _ _ _ (m_pick [0, 1, 2] rfl) (ih _ _ _ _ _ h)
            · exact m_cx (q := (34, .invokevirtual 55, 3, 63, 1)) (a := 63) (vs := [.ref 2, .int x4]) (st := [.long (x2 * (10 : Int64))]) (d1 := 0) (by decide +kernel) (by decide +kernel) rfl rfl rfl rfl (by decide) (Fr63 e14)
        · exact m_cx (q := (20, .invokestatic 68, 3, 67, 1)) (a := 67) (vs := [.int v4]) (st := []) (d1 := 0) (by decide +kernel) (by decide +kernel) rfl rfl rfl rfl (by decide) (Fr67 e9)
      · exact m_cx (q := (17, .invokevirtual 55, 3, 63, 1)) (a := 63) (vs := [.ref 2, .int x4]) (st := []) (d1 := 0) (by decide +kernel) (by decide +kernel) rfl rfl rfl rfl (by decide) (Fr63 e5)
def f70 (n : Nat) (x1 : Int32) (g : mG) : mZ := f70_5 n n (0 : Int64) x1 g
theorem Fr70 {x1 : Int32} {g g' : mG} {o : mO} (h : f70 n x1 g = some (o, g')) : m_Run X (1) (m_ko o) 70 0 [(0, .ref 2), (1, .int x1)] [] (hO 8 g) o (hO 8 g') := by
  unfold f70 at h
  refine m_go (L := [(0, .lconst 0, 1, 0, 0), (1, .lstore_n 2, 1, 0, 0), (2, .iload_n 1, 1, 0, 0), (3, .istore 4, 2, 0, 0)]) (pc1 := 5) (lv1 := [(0, .ref 2), (1, .int x1), (2, .long (0 : Int64)), (4, .int x1)]) (st1 := []) (h1 := hO 8 g) (by decide +kernel) rfl ?_
  exact m_r0 _ _ _ _ _ _ _ _ _ _ (m_pick [0, 2, 3] rfl) (Fr70_5 _ _ _ _ _ _ h)
def f66_2 (n : Nat) : Nat → Int32 → mG → mZ
  | 0, _, _ => none
  | c + 1, x2, g => if (g.1 9) ≤ x2 then some (.inl (some (.int x2)), g) else m_ci (f63 n x2 g) (fun v3 g2 => m_ci (f65 n v3 g2) (fun v7 g6 => if ¬ v7 = 0 then f66_2 n c (x2 + (1 : Int32)) g6 else m_ci (f63 n x2 g6) (fun v12 g11 => m_ci (f67 n v12 g11) (fun v16 g15 => if v16 = 0 then some (.inl (some (.int x2)), g15) else f66_2 n c (x2 + (1 : Int32)) g15))))
set_option maxRecDepth 20000 in
theorem Fr66_2 : ∀ (c : Nat) (x2 : Int32) (g g' : mG) (o : mO), f66_2 n c x2 g = some (o, g') → m_Run X (1) (m_ko o) 66 2 [(0, .ref 2), (2, .int x2)] [] (hO 8 g) o (hO 8 g') := by
  intro c
  induction c with
  | zero => intro x2 g g' o h; rw [f66_2] at h; cases h
  | succ c ih =>
    intro x2 g g' o h
    rw [f66_2] at h
    refine m_gob (c := (g.1 9) ≤ x2) (t := 38) (f := 10) (L := [(2, .iload_n 2, 1, 0, 0), (3, .aload_n 0, 1, 0, 0), (4, .getfield 31, 3, 4, 6), (7, .if_icmp .ge 31, 3, 0, 0)]) (lv1 := [(0, .ref 2), (2, .int x2)]) (st1 := []) (h1 := hO 8 g) (by decide +kernel) rfl (fun c1 => ?_) (fun c1 => ?_)
    · rw [if_pos c1] at h
      refine m_go (L := [(38, .iload_n 2, 1, 0, 0)]) (pc1 := 39) (lv1 := [(0, .ref 2), (2, .int x2)]) (st1 := [.int x2]) (h1 := hO 8 g) (by decide +kernel) rfl ?_
      cases h
      exact m_ri (by decide +kernel)
    · rw [if_neg c1] at h
      refine m_go (L := [(10, .aload_n 0, 1, 0, 0), (11, .iload_n 2, 1, 0, 0)]) (pc1 := 12) (lv1 := [(0, .ref 2), (2, .int x2)]) (st1 := [.int x2, .ref 2]) (h1 := hO 8 g) (by decide +kernel) rfl ?_
      rcases m_ci_inv h with ⟨v3, g2, e4, h⟩ | ⟨y5, g2, e4, rfl, rfl⟩
      · refine m_ca (q := (12, .invokevirtual 55, 3, 63, 1)) (a := 63) (vs := [.ref 2, .int x2]) (st := []) (d1 := 0) (by decide +kernel) rfl rfl rfl rfl (by decide) (Fr63 e4) ?_
        show m_Run X _ _ 66 15 [(0, .ref 2), (2, .int x2)] [.int v3] (hO 8 g2) _ _
        rcases m_ci_inv h with ⟨v7, g6, e8, h⟩ | ⟨y9, g6, e8, rfl, rfl⟩
        · refine m_ca (q := (15, .invokestatic 58, 3, 65, 1)) (a := 65) (vs := [.int v3]) (st := []) (d1 := 0) (by decide +kernel) rfl rfl rfl rfl (by decide) (Fr65 e8) ?_
          show m_Run X _ _ 66 18 [(0, .ref 2), (2, .int x2)] [.int v7] (hO 8 g6) _ _
          refine m_gob (c := ¬ v7 = 0) (t := 32) (f := 21) (L := [(18, .ifCond .ne 14, 3, 0, 0)]) (lv1 := [(0, .ref 2), (2, .int x2)]) (st1 := []) (h1 := hO 8 g6) (by decide +kernel) rfl (fun c10 => ?_) (fun c10 => ?_)
          · rw [if_pos c10] at h
            refine m_go (L := [(32, .iinc 2 1, 3, 0, 0), (35, .goto (-33), 3, 0, 0)]) (pc1 := 2) (lv1 := [(0, .ref 2), (2, .int (x2 + (1 : Int32)))]) (st1 := []) (h1 := hO 8 g6) (by decide +kernel) rfl ?_
            exact m_r0 _ _ _ _ _ _ _ _ _ _ (m_pick [0, 1] rfl) (ih _ _ _ _ h)
          · rw [if_neg c10] at h
            refine m_go (L := [(21, .aload_n 0, 1, 0, 0), (22, .iload_n 2, 1, 0, 0)]) (pc1 := 23) (lv1 := [(0, .ref 2), (2, .int x2)]) (st1 := [.int x2, .ref 2]) (h1 := hO 8 g6) (by decide +kernel) rfl ?_
            rcases m_ci_inv h with ⟨v12, g11, e13, h⟩ | ⟨y14, g11, e13, rfl, rfl⟩
            · refine m_ca (q := (23, .invokevirtual 55, 3, 63, 1)) (a := 63) (vs := [.ref 2, .int x2]) (st := []) (d1 := 0) (by decide +kernel) rfl rfl rfl rfl (by decide) (Fr63 e13) ?_
              show m_Run X _ _ 66 26 [(0, .ref 2), (2, .int x2)] [.int v12] (hO 8 g11) _ _
              rcases m_ci_inv h with ⟨v16, g15, e17, h⟩ | ⟨y18, g15, e17, rfl, rfl⟩
              · refine m_ca (q := (26, .invokestatic 68, 3, 67, 1)) (a := 67) (vs := [.int v12]) (st := []) (d1 := 0) (by decide +kernel) rfl rfl rfl rfl (by decide) (Fr67 e17) ?_
                show m_Run X _ _ 66 29 [(0, .ref 2), (2, .int x2)] [.int v16] (hO 8 g15) _ _
                refine m_gob (c := v16 = 0) (t := 38) (f := 32) (L := [(29, .ifCond .eq 9, 3, 0, 0)]) (lv1 := [(0, .ref 2), (2, .int x2)]) (st1 := []) (h1 := hO 8 g15) (by decide +kernel) rfl (fun c19 => ?_) (fun c19 => ?_)
                · rw [if_pos c19] at h
                  refine m_go (L := [(38, .iload_n 2, 1, 0, 0)]) (pc1 := 39) (lv1 := [(0, .ref 2), (2, .int x2)]) (st1 := [.int x2]) (h1 := hO 8 g15) (by decide +kernel) rfl ?_
                  cases h
                  exact m_ri (by decide +kernel)
                · rw [if_neg c19] at h
                  refine m_go (L := [(32, .iinc 2 1, 3, 0, 0), (35, .goto (-33), 3, 0, 0)]) (pc1 := 2) (lv1 := [(0, .ref 2), (2, .int (x2 + (1 : Int32)))]) (st1 := []) (h1 := hO 8 g15) (by decide +kernel) rfl ?_
                  exact m_r0 _ _ _ _ _ _ _ _ _ _ (m_pick [0, 1] rfl) (ih _ _ _ _ h)
              · exact m_cx (q := (26, .invokestatic 68, 3, 67, 1)) (a := 67) (vs := [.int v12]) (st := []) (d1 := 0) (by decide +kernel) (by decide +kernel) rfl rfl rfl rfl (by decide) (Fr67 e17)
            · exact m_cx (q := (23, .invokevirtual 55, 3, 63, 1)) (a := 63) (vs := [.ref 2, .int x2]) (st := []) (d1 := 0) (by decide +kernel) (by decide +kernel) rfl rfl rfl rfl (by decide) (Fr63 e13)
        · exact m_cx (q := (15, .invokestatic 58, 3, 65, 1)) (a := 65) (vs := [.int v3]) (st := []) (d1 := 0) (by decide +kernel) (by decide +kernel) rfl rfl rfl rfl (by decide) (Fr65 e8)
      · exact m_cx (q := (12, .invokevirtual 55, 3, 63, 1)) (a := 63) (vs := [.ref 2, .int x2]) (st := []) (d1 := 0) (by decide +kernel) (by decide +kernel) rfl rfl rfl rfl (by decide) (Fr63 e4)
def f66 (n : Nat) (x1 : Int32) (g : mG) : mZ := f66_2 n n x1 g
theorem Fr66 {x1 : Int32} {g g' : mG} {o : mO} (h : f66 n x1 g = some (o, g')) : m_Run X (1) (m_ko o) 66 0 [(0, .ref 2), (1, .int x1)] [] (hO 8 g) o (hO 8 g') := by
  unfold f66 at h
  refine m_go (L := [(0, .iload_n 1, 1, 0, 0), (1, .istore_n 2, 1, 0, 0)]) (pc1 := 2) (lv1 := [(0, .ref 2), (1, .int x1), (2, .int x1)]) (st1 := []) (h1 := hO 8 g) (by decide +kernel) rfl ?_
  exact m_r0 _ _ _ _ _ _ _ _ _ _ (m_pick [0, 2] rfl) (Fr66_2 _ _ _ _ _ h)
def f69_2 (n : Nat) : Nat → Nat → Int32 → Int32 → mG → mZ
  | 0, _, _, _, _ => none
  | c + 1, w, x2, x3, g => if w < 11 then if (Int32.ofNat (m_sLen.getD w 0)) ≤ x3 then some (.inl (some (.int (1 : Int32))), g) else m_ci (f63 n (x2 + x3) g) (fun v3 g2 => if w < 11 ∧ ¬ x3 < 0 ∧ (Int32.toNatClampNeg x3) < m_sLen.getD w 0 then if v3 = (m_ch w (Int32.toNatClampNeg x3)) then f69_2 n c w x2 (x3 + (1 : Int32)) g2 else some (.inl (some (.int (0 : Int32))), g2) else none) else none
set_option maxRecDepth 20000 in
theorem Fr69_2 : ∀ (c : Nat) (w : Nat) (x2 : Int32) (x3 : Int32) (g g' : mG) (o : mO), f69_2 n c w x2 x3 g = some (o, g') → m_Run X (1) (m_ko o) 69 2 [(0, .ref 2), (1, .ref (m_scr + 1 + w)), (2, .int x2), (3, .int x3)] [] (hO 8 g) o (hO 8 g') := by
  intro c
  induction c with
  | zero => intro w x2 x3 g g' o h; rw [f69_2] at h; cases h
  | succ c ih =>
    intro w x2 x3 g g' o h
    rw [f69_2] at h
    refine m_go (L := [(2, .iload_n 3, 1, 0, 0), (3, .aload_n 1, 1, 0, 0)]) (pc1 := 4) (lv1 := [(0, .ref 2), (1, .ref (m_scr + 1 + w)), (2, .int x2), (3, .int x3)]) (st1 := [.ref (m_scr + 1 + w), .int x3]) (h1 := hO 8 g) (by decide +kernel) rfl ?_
    obtain ⟨c1, h⟩ := m_if_inv h
    refine m_r10 _ _ _ _ 116 w _ [.int x3] _ _ _ (4, .invokevirtual 116, 3, 1002, 0) (by decide +kernel) rfl rfl c1 (Nat.le_of_ble_eq_true rfl) ?_
    show m_Run X _ _ 69 7 [(0, .ref 2), (1, .ref (m_scr + 1 + w)), (2, .int x2), (3, .int x3)] [.int (Int32.ofNat (m_sLen.getD w 0)), .int x3] (hO 8 g) _ _
    refine m_gob (c := (Int32.ofNat (m_sLen.getD w 0)) ≤ x3) (t := 33) (f := 10) (L := [(7, .if_icmp .ge 26, 3, 0, 0)]) (lv1 := [(0, .ref 2), (1, .ref (m_scr + 1 + w)), (2, .int x2), (3, .int x3)]) (st1 := []) (h1 := hO 8 g) (by decide +kernel) rfl (fun c1 => ?_) (fun c1 => ?_)
    · rw [if_pos c1] at h
      refine m_go (L := [(33, .iconst 1, 1, 0, 0)]) (pc1 := 34) (lv1 := [(0, .ref 2), (1, .ref (m_scr + 1 + w)), (2, .int x2), (3, .int x3)]) (st1 := [.int (1 : Int32)]) (h1 := hO 8 g) (by decide +kernel) rfl ?_
      cases h
      exact m_rz (by decide +kernel) (Or.inr rfl)
    · rw [if_neg c1] at h
      refine m_go (L := [(10, .aload_n 0, 1, 0, 0), (11, .iload_n 2, 1, 0, 0), (12, .iload_n 3, 1, 0, 0), (13, .iadd, 1, 0, 0)]) (pc1 := 14) (lv1 := [(0, .ref 2), (1, .ref (m_scr + 1 + w)), (2, .int x2), (3, .int x3)]) (st1 := [.int (x2 + x3), .ref 2]) (h1 := hO 8 g) (by decide +kernel) rfl ?_
      rcases m_ci_inv h with ⟨v3, g2, e4, h⟩ | ⟨y5, g2, e4, rfl, rfl⟩
      · refine m_ca (q := (14, .invokevirtual 55, 3, 63, 1)) (a := 63) (vs := [.ref 2, .int (x2 + x3)]) (st := []) (d1 := 0) (by decide +kernel) rfl rfl rfl rfl (by decide) (Fr63 e4) ?_
        show m_Run X _ _ 69 17 [(0, .ref 2), (1, .ref (m_scr + 1 + w)), (2, .int x2), (3, .int x3)] [.int v3] (hO 8 g2) _ _
        refine m_go (L := [(17, .aload_n 1, 1, 0, 0), (18, .iload_n 3, 1, 0, 0)]) (pc1 := 19) (lv1 := [(0, .ref 2), (1, .ref (m_scr + 1 + w)), (2, .int x2), (3, .int x3)]) (st1 := [.int x3, .ref (m_scr + 1 + w), .int v3]) (h1 := hO 8 g2) (by decide +kernel) rfl ?_
        obtain ⟨⟨c1, c2, c3⟩, h⟩ := m_if_inv h
        refine m_r11 _ _ _ _ 121 w _ _ [.int v3] _ _ _ (19, .invokevirtual 121, 3, 1003, 1) (by decide +kernel) rfl rfl c1 c2 c3 (Nat.le_of_ble_eq_true rfl) ?_
        show m_Run X _ _ 69 22 [(0, .ref 2), (1, .ref (m_scr + 1 + w)), (2, .int x2), (3, .int x3)] [.int (m_ch w (Int32.toNatClampNeg x3)), .int v3] (hO 8 g2) _ _
        refine m_gob (c := v3 = (m_ch w (Int32.toNatClampNeg x3))) (t := 27) (f := 25) (L := [(22, .if_icmp .eq 5, 3, 0, 0)]) (lv1 := [(0, .ref 2), (1, .ref (m_scr + 1 + w)), (2, .int x2), (3, .int x3)]) (st1 := []) (h1 := hO 8 g2) (by decide +kernel) rfl (fun c6 => ?_) (fun c6 => ?_)
        · rw [if_pos c6] at h
          refine m_go (L := [(27, .iinc 3 1, 3, 0, 0), (30, .goto (-28), 3, 0, 0)]) (pc1 := 2) (lv1 := [(0, .ref 2), (1, .ref (m_scr + 1 + w)), (2, .int x2), (3, .int (x3 + (1 : Int32)))]) (st1 := []) (h1 := hO 8 g2) (by decide +kernel) rfl ?_
          exact m_r0 _ _ _ _ _ _ _ _ _ _ (m_pick [0, 1, 2, 3] rfl) (ih _ _ _ _ _ _ h)
        · rw [if_neg c6] at h
          refine m_go (L := [(25, .iconst 0, 1, 0, 0)]) (pc1 := 26) (lv1 := [(0, .ref 2), (1, .ref (m_scr + 1 + w)), (2, .int x2), (3, .int x3)]) (st1 := [.int (0 : Int32)]) (h1 := hO 8 g2) (by decide +kernel) rfl ?_
          cases h
          exact m_rz (by decide +kernel) (Or.inl rfl)
      · exact m_cx (q := (14, .invokevirtual 55, 3, 63, 1)) (a := 63) (vs := [.ref 2, .int (x2 + x3)]) (st := []) (d1 := 0) (by decide +kernel) (by decide +kernel) rfl rfl rfl rfl (by decide) (Fr63 e4)
def f69 (n : Nat) (w : Nat) (x2 : Int32) (g : mG) : mZ := f69_2 n n w x2 (0 : Int32) g
theorem Fr69 {w : Nat} {x2 : Int32} {g g' : mG} {o : mO} (h : f69 n w x2 g = some (o, g')) : m_Run X (1) (m_ko o) 69 0 [(0, .ref 2), (1, .ref (m_scr + 1 + w)), (2, .int x2)] [] (hO 8 g) o (hO 8 g') := by
  unfold f69 at h
  refine m_go (L := [(0, .iconst 0, 1, 0, 0), (1, .istore_n 3, 1, 0, 0)]) (pc1 := 2) (lv1 := [(0, .ref 2), (1, .ref (m_scr + 1 + w)), (2, .int x2), (3, .int (0 : Int32))]) (st1 := []) (h1 := hO 8 g) (by decide +kernel) rfl ?_
  exact m_r0 _ _ _ _ _ _ _ _ _ _ (m_pick [0, 1, 2, 3] rfl) (Fr69_2 _ _ _ _ _ _ _ h)
def f68 (n : Nat) (x1 : Int32) (x2 : Int32) (g : mG) : mZ := if (x2 - x1) = 2 then m_ci (f69 n 0 x1 g) (fun v3 g2 => if v3 = 0 then m_ci (f69 n 1 x1 g2) (fun v8 g7 => if v8 = 0 then some (.inl (some (.int (2 : Int32))), g7) else some (.inl (some (.int (29 : Int32))), g7)) else some (.inl (some (.int (25 : Int32))), g2)) else if (x2 - x1) = 3 then m_ci (f69 n 2 x1 g) (fun v14 g13 => if v14 = 0 then some (.inl (some (.int (2 : Int32))), g13) else some (.inl (some (.int (26 : Int32))), g13)) else if (x2 - x1) = 4 then m_ci (f69 n 3 x1 g) (fun v20 g19 => if v20 = 0 then m_ci (f69 n 4 x1 g19) (fun v25 g24 => if v25 = 0 then m_ci (f69 n 5 x1 g24) (fun v30 g29 => if v30 = 0 then some (.inl (some (.int (2 : Int32))), g29) else some (.inl (some (.int (34 : Int32))), g29)) else some (.inl (some (.int (30 : Int32))), g24)) else some (.inl (some (.int (28 : Int32))), g19)) else if (x2 - x1) = 5 then m_ci (f69 n 6 x1 g) (fun v36 g35 => if v36 = 0 then m_ci (f69 n 7 x1 g35) (fun v41 g40 => if v41 = 0 then m_ci (f69 n 8 x1 g40) (fun v46 g45 => if v46 = 0 then some (.inl (some (.int (2 : Int32))), g45) else some (.inl (some (.int (35 : Int32))), g45)) else some (.inl (some (.int (31 : Int32))), g40)) else some (.inl (some (.int (27 : Int32))), g35)) else if (x2 - x1) = 6 then m_ci (f69 n 9 x1 g) (fun v52 g51 => if v52 = 0 then some (.inl (some (.int (2 : Int32))), g51) else some (.inl (some (.int (32 : Int32))), g51)) else if (x2 - x1) = 7 then m_ci (f69 n 10 x1 g) (fun v58 g57 => if v58 = 0 then some (.inl (some (.int (2 : Int32))), g57) else some (.inl (some (.int (33 : Int32))), g57)) else some (.inl (some (.int (2 : Int32))), g)
theorem Fr68 {x1 : Int32} {x2 : Int32} {g g' : mG} {o : mO} (h : f68 n x1 x2 g = some (o, g')) : m_Run X (2) (m_ko o) 68 0 [(0, .ref 2), (1, .int x1), (2, .int x2)] [] (hO 8 g) o (hO 8 g') := by
  unfold f68 at h
  refine m_go (L := [(0, .iload_n 2, 1, 0, 0), (1, .iload_n 1, 1, 0, 0), (2, .isub, 1, 0, 0)]) (pc1 := 3) (lv1 := [(0, .ref 2), (1, .int x1), (2, .int x2)]) (st1 := [.int (x2 - x1)]) (h1 := hO 8 g) (by decide +kernel) rfl ?_
  by_cases c1 : (x2 - x1) = 2
  · rw [if_pos c1] at h
    refine m_go1 (q := (3, .tableswitch 214 2 7 #[37, 69, 86, 133, 180, 197], 37, 0, 0)) (pc1 := 40) (lv1 := [(0, .ref 2), (1, .int x1), (2, .int x2)]) (st1 := []) (h1 := hO 8 g) (by decide +kernel) (m_swx (fun z => m_loc m_ft X (.tableswitch 214 2 7 #[37, 69, 86, 133, 180, 197]) 0 0 3 [(0, .ref 2), (1, .int x1), (2, .int x2)] (.int z :: []) (hO 8 g)) c1 rfl) ?_
    refine m_go (L := [(40, .aload_n 0, 1, 0, 0), (41, .ldc 90, 2, 1, 0), (43, .iload_n 1, 1, 0, 0)]) (pc1 := 44) (lv1 := [(0, .ref 2), (1, .int x1), (2, .int x2)]) (st1 := [.int x1, .ref (m_scr + 1 + 0), .ref 2]) (h1 := hO 8 g) (by decide +kernel) rfl ?_
    rcases m_ci_inv h with ⟨v3, g2, e4, h⟩ | ⟨y5, g2, e4, rfl, rfl⟩
    · refine m_ca (q := (44, .invokevirtual 92, 3, 69, 2)) (a := 69) (vs := [.ref 2, .ref (m_scr + 1 + 0), .int x1]) (st := []) (d1 := 1) (by decide +kernel) rfl rfl rfl rfl (by decide) (Fr69 e4) ?_
      show m_Run X _ _ 68 47 [(0, .ref 2), (1, .int x1), (2, .int x2)] [.int v3] (hO 8 g2) _ _
      refine m_gob (c := v3 = 0) (t := 55) (f := 50) (L := [(47, .ifCond .eq 8, 3, 0, 0)]) (lv1 := [(0, .ref 2), (1, .int x1), (2, .int x2)]) (st1 := []) (h1 := hO 8 g2) (by decide +kernel) rfl (fun c6 => ?_) (fun c6 => ?_)
      · rw [if_pos c6] at h
        refine m_go (L := [(55, .aload_n 0, 1, 0, 0), (56, .ldc 96, 2, 1, 1), (58, .iload_n 1, 1, 0, 0)]) (pc1 := 59) (lv1 := [(0, .ref 2), (1, .int x1), (2, .int x2)]) (st1 := [.int x1, .ref (m_scr + 1 + 1), .ref 2]) (h1 := hO 8 g2) (by decide +kernel) rfl ?_
        rcases m_ci_inv h with ⟨v8, g7, e9, h⟩ | ⟨y10, g7, e9, rfl, rfl⟩
        · refine m_ca (q := (59, .invokevirtual 92, 3, 69, 2)) (a := 69) (vs := [.ref 2, .ref (m_scr + 1 + 1), .int x1]) (st := []) (d1 := 1) (by decide +kernel) rfl rfl rfl rfl (by decide) (Fr69 e9) ?_
          show m_Run X _ _ 68 62 [(0, .ref 2), (1, .int x1), (2, .int x2)] [.int v8] (hO 8 g7) _ _
          refine m_gob (c := v8 = 0) (t := 70) (f := 65) (L := [(62, .ifCond .eq 8, 3, 0, 0)]) (lv1 := [(0, .ref 2), (1, .int x1), (2, .int x2)]) (st1 := []) (h1 := hO 8 g7) (by decide +kernel) rfl (fun c11 => ?_) (fun c11 => ?_)
          · rw [if_pos c11] at h
            refine m_go (L := [(70, .iconst 2, 1, 0, 0)]) (pc1 := 71) (lv1 := [(0, .ref 2), (1, .int x1), (2, .int x2)]) (st1 := [.int (2 : Int32)]) (h1 := hO 8 g7) (by decide +kernel) rfl ?_
            cases h
            exact m_ri (by decide +kernel)
          · rw [if_neg c11] at h
            refine m_go (L := [(65, .bipush 29, 2, 0, 0), (67, .goto 4, 3, 0, 0)]) (pc1 := 71) (lv1 := [(0, .ref 2), (1, .int x1), (2, .int x2)]) (st1 := [.int (29 : Int32)]) (h1 := hO 8 g7) (by decide +kernel) rfl ?_
            cases h
            exact m_ri (by decide +kernel)
        · exact m_cx (q := (59, .invokevirtual 92, 3, 69, 2)) (a := 69) (vs := [.ref 2, .ref (m_scr + 1 + 1), .int x1]) (st := []) (d1 := 1) (by decide +kernel) (by decide +kernel) rfl rfl rfl rfl (by decide) (Fr69 e9)
      · rw [if_neg c6] at h
        refine m_go (L := [(50, .bipush 25, 2, 0, 0), (52, .goto 19, 3, 0, 0)]) (pc1 := 71) (lv1 := [(0, .ref 2), (1, .int x1), (2, .int x2)]) (st1 := [.int (25 : Int32)]) (h1 := hO 8 g2) (by decide +kernel) rfl ?_
        cases h
        exact m_ri (by decide +kernel)
    · exact m_cx (q := (44, .invokevirtual 92, 3, 69, 2)) (a := 69) (vs := [.ref 2, .ref (m_scr + 1 + 0), .int x1]) (st := []) (d1 := 1) (by decide +kernel) (by decide +kernel) rfl rfl rfl rfl (by decide) (Fr69 e4)
  · rw [if_neg c1] at h
    by_cases c12 : (x2 - x1) = 3
    · rw [if_pos c12] at h
      refine m_go1 (q := (3, .tableswitch 214 2 7 #[37, 69, 86, 133, 180, 197], 37, 0, 0)) (pc1 := 72) (lv1 := [(0, .ref 2), (1, .int x1), (2, .int x2)]) (st1 := []) (h1 := hO 8 g) (by decide +kernel) (m_swx (fun z => m_loc m_ft X (.tableswitch 214 2 7 #[37, 69, 86, 133, 180, 197]) 0 0 3 [(0, .ref 2), (1, .int x1), (2, .int x2)] (.int z :: []) (hO 8 g)) c12 rfl) ?_
      refine m_go (L := [(72, .aload_n 0, 1, 0, 0), (73, .ldc 98, 2, 1, 2), (75, .iload_n 1, 1, 0, 0)]) (pc1 := 76) (lv1 := [(0, .ref 2), (1, .int x1), (2, .int x2)]) (st1 := [.int x1, .ref (m_scr + 1 + 2), .ref 2]) (h1 := hO 8 g) (by decide +kernel) rfl ?_
      rcases m_ci_inv h with ⟨v14, g13, e15, h⟩ | ⟨y16, g13, e15, rfl, rfl⟩
      · refine m_ca (q := (76, .invokevirtual 92, 3, 69, 2)) (a := 69) (vs := [.ref 2, .ref (m_scr + 1 + 2), .int x1]) (st := []) (d1 := 1) (by decide +kernel) rfl rfl rfl rfl (by decide) (Fr69 e15) ?_
        show m_Run X _ _ 68 79 [(0, .ref 2), (1, .int x1), (2, .int x2)] [.int v14] (hO 8 g13) _ _
        refine m_gob (c := v14 = 0) (t := 87) (f := 82) (L := [(79, .ifCond .eq 8, 3, 0, 0)]) (lv1 := [(0, .ref 2), (1, .int x1), (2, .int x2)]) (st1 := []) (h1 := hO 8 g13) (by decide +kernel) rfl (fun c17 => ?_) (fun c17 => ?_)
        · rw [if_pos c17] at h
          refine m_go (L := [(87, .iconst 2, 1, 0, 0)]) (pc1 := 88) (lv1 := [(0, .ref 2), (1, .int x1), (2, .int x2)]) (st1 := [.int (2 : Int32)]) (h1 := hO 8 g13) (by decide +kernel) rfl ?_
          cases h
          exact m_ri (by decide +kernel)
        · rw [if_neg c17] at h
          refine m_go (L := [(82, .bipush 26, 2, 0, 0), (84, .goto 4, 3, 0, 0)]) (pc1 := 88) (lv1 := [(0, .ref 2), (1, .int x1), (2, .int x2)]) (st1 := [.int (26 : Int32)]) (h1 := hO 8 g13) (by decide +kernel) rfl ?_
          cases h
          exact m_ri (by decide +kernel)
      · exact m_cx (q := (76, .invokevirtual 92, 3, 69, 2)) (a := 69) (vs := [.ref 2, .ref (m_scr + 1 + 2), .int x1]) (st := []) (d1 := 1) (by decide +kernel) (by decide +kernel) rfl rfl rfl rfl (by decide) (Fr69 e15)
    · rw [if_neg c12] at h
      by_cases c18 : (x2 - x1) = 4
      · rw [if_pos c18] at h
        refine m_go1 (q := (3, .tableswitch 214 2 7 #[37, 69, 86, 133, 180, 197], 37, 0, 0)) (pc1 := 89) (lv1 := [(0, .ref 2), (1, .int x1), (2, .int x2)]) (st1 := []) (h1 := hO 8 g) (by decide +kernel) (m_swx (fun z => m_loc m_ft X (.tableswitch 214 2 7 #[37, 69, 86, 133, 180, 197]) 0 0 3 [(0, .ref 2), (1, .int x1), (2, .int x2)] (.int z :: []) (hO 8 g)) c18 rfl) ?_
        refine m_go (L := [(89, .aload_n 0, 1, 0, 0), (90, .ldc 100, 2, 1, 3), (92, .iload_n 1, 1, 0, 0)]) (pc1 := 93) (lv1 := [(0, .ref 2), (1, .int x1), (2, .int x2)]) (st1 := [.int x1, .ref (m_scr + 1 + 3), .ref 2]) (h1 := hO 8 g) (by decide +kernel) rfl ?_
        rcases m_ci_inv h with ⟨v20, g19, e21, h⟩ | ⟨y22, g19, e21, rfl, rfl⟩
        · refine m_ca (q := (93, .invokevirtual 92, 3, 69, 2)) (a := 69) (vs := [.ref 2, .ref (m_scr + 1 + 3), .int x1]) (st := []) (d1 := 1) (by decide +kernel) rfl rfl rfl rfl (by decide) (Fr69 e21) ?_
          show m_Run X _ _ 68 96 [(0, .ref 2), (1, .int x1), (2, .int x2)] [.int v20] (hO 8 g19) _ _
          refine m_gob (c := v20 = 0) (t := 104) (f := 99) (L := [(96, .ifCond .eq 8, 3, 0, 0)]) (lv1 := [(0, .ref 2), (1, .int x1), (2, .int x2)]) (st1 := []) (h1 := hO 8 g19) (by decide +kernel) rfl (fun c23 => ?_) (fun c23 => ?_)
          · rw [if_pos c23] at h
            refine m_go (L := [(104, .aload_n 0, 1, 0, 0), (105, .ldc 102, 2, 1, 4), (107, .iload_n 1, 1, 0, 0)]) (pc1 := 108) (lv1 := [(0, .ref 2), (1, .int x1), (2, .int x2)]) (st1 := [.int x1, .ref (m_scr + 1 + 4), .ref 2]) (h1 := hO 8 g19) (by decide +kernel) rfl ?_
            rcases m_ci_inv h with ⟨v25, g24, e26, h⟩ | ⟨y27, g24, e26, rfl, rfl⟩
            · refine m_ca (q := (108, .invokevirtual 92, 3, 69, 2)) (a := 69) (vs := [.ref 2, .ref (m_scr + 1 + 4), .int x1]) (st := []) (d1 := 1) (by decide +kernel) rfl rfl rfl rfl (by decide) (Fr69 e26) ?_
              show m_Run X _ _ 68 111 [(0, .ref 2), (1, .int x1), (2, .int x2)] [.int v25] (hO 8 g24) _ _
              refine m_gob (c := v25 = 0) (t := 119) (f := 114) (L := [(111, .ifCond .eq 8, 3, 0, 0)]) (lv1 := [(0, .ref 2), (1, .int x1), (2, .int x2)]) (st1 := []) (h1 := hO 8 g24) (by decide +kernel) rfl (fun c28 => ?_) (fun c28 => ?_)
              · rw [if_pos c28] at h
                refine m_go (L := [(119, .aload_n 0, 1, 0, 0), (120, .ldc 104, 2, 1, 5), (122, .iload_n 1, 1, 0, 0)]) (pc1 := 123) (lv1 := [(0, .ref 2), (1, .int x1), (2, .int x2)]) (st1 := [.int x1, .ref (m_scr + 1 + 5), .ref 2]) (h1 := hO 8 g24) (by decide +kernel) rfl ?_
                rcases m_ci_inv h with ⟨v30, g29, e31, h⟩ | ⟨y32, g29, e31, rfl, rfl⟩
                · refine m_ca (q := (123, .invokevirtual 92, 3, 69, 2)) (a := 69) (vs := [.ref 2, .ref (m_scr + 1 + 5), .int x1]) (st := []) (d1 := 1) (by decide +kernel) rfl rfl rfl rfl (by decide) (Fr69 e31) ?_
                  show m_Run X _ _ 68 126 [(0, .ref 2), (1, .int x1), (2, .int x2)] [.int v30] (hO 8 g29) _ _
                  refine m_gob (c := v30 = 0) (t := 134) (f := 129) (L := [(126, .ifCond .eq 8, 3, 0, 0)]) (lv1 := [(0, .ref 2), (1, .int x1), (2, .int x2)]) (st1 := []) (h1 := hO 8 g29) (by decide +kernel) rfl (fun c33 => ?_) (fun c33 => ?_)
                  · rw [if_pos c33] at h
                    refine m_go (L := [(134, .iconst 2, 1, 0, 0)]) (pc1 := 135) (lv1 := [(0, .ref 2), (1, .int x1), (2, .int x2)]) (st1 := [.int (2 : Int32)]) (h1 := hO 8 g29) (by decide +kernel) rfl ?_
                    cases h
                    exact m_ri (by decide +kernel)
                  · rw [if_neg c33] at h
                    refine m_go (L := [(129, .bipush 34, 2, 0, 0), (131, .goto 4, 3, 0, 0)]) (pc1 := 135) (lv1 := [(0, .ref 2), (1, .int x1), (2, .int x2)]) (st1 := [.int (34 : Int32)]) (h1 := hO 8 g29) (by decide +kernel) rfl ?_
                    cases h
                    exact m_ri (by decide +kernel)
                · exact m_cx (q := (123, .invokevirtual 92, 3, 69, 2)) (a := 69) (vs := [.ref 2, .ref (m_scr + 1 + 5), .int x1]) (st := []) (d1 := 1) (by decide +kernel) (by decide +kernel) rfl rfl rfl rfl (by decide) (Fr69 e31)
              · rw [if_neg c28] at h
                refine m_go (L := [(114, .bipush 30, 2, 0, 0), (116, .goto 19, 3, 0, 0)]) (pc1 := 135) (lv1 := [(0, .ref 2), (1, .int x1), (2, .int x2)]) (st1 := [.int (30 : Int32)]) (h1 := hO 8 g24) (by decide +kernel) rfl ?_
                cases h
                exact m_ri (by decide +kernel)
            · exact m_cx (q := (108, .invokevirtual 92, 3, 69, 2)) (a := 69) (vs := [.ref 2, .ref (m_scr + 1 + 4), .int x1]) (st := []) (d1 := 1) (by decide +kernel) (by decide +kernel) rfl rfl rfl rfl (by decide) (Fr69 e26)
          · rw [if_neg c23] at h
            refine m_go (L := [(99, .bipush 28, 2, 0, 0), (101, .goto 34, 3, 0, 0)]) (pc1 := 135) (lv1 := [(0, .ref 2), (1, .int x1), (2, .int x2)]) (st1 := [.int (28 : Int32)]) (h1 := hO 8 g19) (by decide +kernel) rfl ?_
            cases h
            exact m_ri (by decide +kernel)
        · exact m_cx (q := (93, .invokevirtual 92, 3, 69, 2)) (a := 69) (vs := [.ref 2, .ref (m_scr + 1 + 3), .int x1]) (st := []) (d1 := 1) (by decide +kernel) (by decide +kernel) rfl rfl rfl rfl (by decide) (Fr69 e21)
      · rw [if_neg c18] at h
        by_cases c34 : (x2 - x1) = 5
        · rw [if_pos c34] at h
          refine m_go1 (q := (3, .tableswitch 214 2 7 #[37, 69, 86, 133, 180, 197], 37, 0, 0)) (pc1 := 136) (lv1 := [(0, .ref 2), (1, .int x1), (2, .int x2)]) (st1 := []) (h1 := hO 8 g) (by decide +kernel) (m_swx (fun z => m_loc m_ft X (.tableswitch 214 2 7 #[37, 69, 86, 133, 180, 197]) 0 0 3 [(0, .ref 2), (1, .int x1), (2, .int x2)] (.int z :: []) (hO 8 g)) c34 rfl) ?_
          refine m_go (L := [(136, .aload_n 0, 1, 0, 0), (137, .ldc 106, 2, 1, 6), (139, .iload_n 1, 1, 0, 0)]) (pc1 := 140) (lv1 := [(0, .ref 2), (1, .int x1), (2, .int x2)]) (st1 := [.int x1, .ref (m_scr + 1 + 6), .ref 2]) (h1 := hO 8 g) (by decide +kernel) rfl ?_
          rcases m_ci_inv h with ⟨v36, g35, e37, h⟩ | ⟨y38, g35, e37, rfl, rfl⟩
          · refine m_ca (q := (140, .invokevirtual 92, 3, 69, 2)) (a := 69) (vs := [.ref 2, .ref (m_scr + 1 + 6), .int x1]) (st := []) (d1 := 1) (by decide +kernel) rfl rfl rfl rfl (by decide) (Fr69 e37) ?_
            show m_Run X _ _ 68 143 [(0, .ref 2), (1, .int x1), (2, .int x2)] [.int v36] (hO 8 g35) _ _
            refine m_gob (c := v36 = 0) (t := 151) (f := 146) (L := [(143, .ifCond .eq 8, 3, 0, 0)]) (lv1 := [(0, .ref 2), (1, .int x1), (2, .int x2)]) (st1 := []) (h1 := hO 8 g35) (by decide +kernel) rfl (fun c39 => ?_) (fun c39 => ?_)
            · rw [if_pos c39] at h
              refine m_go (L := [(151, .aload_n 0, 1, 0, 0), (152, .ldc 108, 2, 1, 7), (154, .iload_n 1, 1, 0, 0)]) (pc1 := 155) (lv1 := [(0, .ref 2), (1, .int x1), (2, .int x2)]) (st1 := [.int x1, .ref (m_scr + 1 + 7), .ref 2]) (h1 := hO 8 g35) (by decide +kernel) rfl ?_
              rcases m_ci_inv h with ⟨v41, g40, e42, h⟩ | ⟨y43, g40, e42, rfl, rfl⟩
              · refine m_ca (q := (155, .invokevirtual 92, 3, 69, 2)) (a := 69) (vs := [.ref 2, .ref (m_scr + 1 + 7), .int x1]) (st := []) (d1 := 1) (by decide +kernel) rfl rfl rfl rfl (by decide) (Fr69 e42) ?_
                show m_Run X _ _ 68 158 [(0, .ref 2), (1, .int x1), (2, .int x2)] [.int v41] (hO 8 g40) _ _
                refine m_gob (c := v41 = 0) (t := 166) (f := 161) (L := [(158, .ifCond .eq 8, 3, 0, 0)]) (lv1 := [(0, .ref 2), (1, .int x1), (2, .int x2)]) (st1 := []) (h1 := hO 8 g40) (by decide +kernel) rfl (fun c44 => ?_) (fun c44 => ?_)
                · rw [if_pos c44] at h
                  refine m_go (L := [(166, .aload_n 0, 1, 0, 0), (167, .ldc 110, 2, 1, 8), (169, .iload_n 1, 1, 0, 0)]) (pc1 := 170) (lv1 := [(0, .ref 2), (1, .int x1), (2, .int x2)]) (st1 := [.int x1, .ref (m_scr + 1 + 8), .ref 2]) (h1 := hO 8 g40) (by decide +kernel) rfl ?_
                  rcases m_ci_inv h with ⟨v46, g45, e47, h⟩ | ⟨y48, g45, e47, rfl, rfl⟩
                  · refine m_ca (q := (170, .invokevirtual 92, 3, 69, 2)) (a := 69) (vs := [.ref 2, .ref (m_scr + 1 + 8), .int x1]) (st := []) (d1 := 1) (by decide +kernel) rfl rfl rfl rfl (by decide) (Fr69 e47) ?_
                    show m_Run X _ _ 68 173 [(0, .ref 2), (1, .int x1), (2, .int x2)] [.int v46] (hO 8 g45) _ _
                    refine m_gob (c := v46 = 0) (t := 181) (f := 176) (L := [(173, .ifCond .eq 8, 3, 0, 0)]) (lv1 := [(0, .ref 2), (1, .int x1), (2, .int x2)]) (st1 := []) (h1 := hO 8 g45) (by decide +kernel) rfl (fun c49 => ?_) (fun c49 => ?_)
                    · rw [if_pos c49] at h
                      refine m_go (L := [(181, .iconst 2, 1, 0, 0)]) (pc1 := 182) (lv1 := [(0, .ref 2), (1, .int x1), (2, .int x2)]) (st1 := [.int (2 : Int32)]) (h1 := hO 8 g45) (by decide +kernel) rfl ?_
                      cases h
                      exact m_ri (by decide +kernel)
                    · rw [if_neg c49] at h
                      refine m_go (L := [(176, .bipush 35, 2, 0, 0), (178, .goto 4, 3, 0, 0)]) (pc1 := 182) (lv1 := [(0, .ref 2), (1, .int x1), (2, .int x2)]) (st1 := [.int (35 : Int32)]) (h1 := hO 8 g45) (by decide +kernel) rfl ?_
                      cases h
                      exact m_ri (by decide +kernel)
                  · exact m_cx (q := (170, .invokevirtual 92, 3, 69, 2)) (a := 69) (vs := [.ref 2, .ref (m_scr + 1 + 8), .int x1]) (st := []) (d1 := 1) (by decide +kernel) (by decide +kernel) rfl rfl rfl rfl (by decide) (Fr69 e47)
                · rw [if_neg c44] at h
                  refine m_go (L := [(161, .bipush 31, 2, 0, 0), (163, .goto 19, 3, 0, 0)]) (pc1 := 182) (lv1 := [(0, .ref 2), (1, .int x1), (2, .int x2)]) (st1 := [.int (31 : Int32)]) (h1 := hO 8 g40) (by decide +kernel) rfl ?_
                  cases h
                  exact m_ri (by decide +kernel)
              · exact m_cx (q := (155, .invokevirtual 92, 3, 69, 2)) (a := 69) (vs := [.ref 2, .ref (m_scr + 1 + 7), .int x1]) (st := []) (d1 := 1) (by decide +kernel) (by decide +kernel) rfl rfl rfl rfl (by decide) (Fr69 e42)
            · rw [if_neg c39] at h
              refine m_go (L := [(146, .bipush 27, 2, 0, 0), (148, .goto 34, 3, 0, 0)]) (pc1 := 182) (lv1 := [(0, .ref 2), (1, .int x1), (2, .int x2)]) (st1 := [.int (27 : Int32)]) (h1 := hO 8 g35) (by decide +kernel) rfl ?_
              cases h
              exact m_ri (by decide +kernel)
          · exact m_cx (q := (140, .invokevirtual 92, 3, 69, 2)) (a := 69) (vs := [.ref 2, .ref (m_scr + 1 + 6), .int x1]) (st := []) (d1 := 1) (by decide +kernel) (by decide +kernel) rfl rfl rfl rfl (by decide) (Fr69 e37)
        · rw [if_neg c34] at h
          by_cases c50 : (x2 - x1) = 6
          · rw [if_pos c50] at h
            refine m_go1 (q := (3, .tableswitch 214 2 7 #[37, 69, 86, 133, 180, 197], 37, 0, 0)) (pc1 := 183) (lv1 := [(0, .ref 2), (1, .int x1), (2, .int x2)]) (st1 := []) (h1 := hO 8 g) (by decide +kernel) (m_swx (fun z => m_loc m_ft X (.tableswitch 214 2 7 #[37, 69, 86, 133, 180, 197]) 0 0 3 [(0, .ref 2), (1, .int x1), (2, .int x2)] (.int z :: []) (hO 8 g)) c50 rfl) ?_
            refine m_go (L := [(183, .aload_n 0, 1, 0, 0), (184, .ldc 112, 2, 1, 9), (186, .iload_n 1, 1, 0, 0)]) (pc1 := 187) (lv1 := [(0, .ref 2), (1, .int x1), (2, .int x2)]) (st1 := [.int x1, .ref (m_scr + 1 + 9), .ref 2]) (h1 := hO 8 g) (by decide +kernel) rfl ?_
            rcases m_ci_inv h with ⟨v52, g51, e53, h⟩ | ⟨y54, g51, e53, rfl, rfl⟩
            · refine m_ca (q := (187, .invokevirtual 92, 3, 69, 2)) (a := 69) (vs := [.ref 2, .ref (m_scr + 1 + 9), .int x1]) (st := []) (d1 := 1) (by decide +kernel) rfl rfl rfl rfl (by decide) (Fr69 e53) ?_
              show m_Run X _ _ 68 190 [(0, .ref 2), (1, .int x1), (2, .int x2)] [.int v52] (hO 8 g51) _ _
              refine m_gob (c := v52 = 0) (t := 198) (f := 193) (L := [(190, .ifCond .eq 8, 3, 0, 0)]) (lv1 := [(0, .ref 2), (1, .int x1), (2, .int x2)]) (st1 := []) (h1 := hO 8 g51) (by decide +kernel) rfl (fun c55 => ?_) (fun c55 => ?_)
              · rw [if_pos c55] at h
                refine m_go (L := [(198, .iconst 2, 1, 0, 0)]) (pc1 := 199) (lv1 := [(0, .ref 2), (1, .int x1), (2, .int x2)]) (st1 := [.int (2 : Int32)]) (h1 := hO 8 g51) (by decide +kernel) rfl ?_
                cases h
                exact m_ri (by decide +kernel)
              · rw [if_neg c55] at h
                refine m_go (L := [(193, .bipush 32, 2, 0, 0), (195, .goto 4, 3, 0, 0)]) (pc1 := 199) (lv1 := [(0, .ref 2), (1, .int x1), (2, .int x2)]) (st1 := [.int (32 : Int32)]) (h1 := hO 8 g51) (by decide +kernel) rfl ?_
                cases h
                exact m_ri (by decide +kernel)
            · exact m_cx (q := (187, .invokevirtual 92, 3, 69, 2)) (a := 69) (vs := [.ref 2, .ref (m_scr + 1 + 9), .int x1]) (st := []) (d1 := 1) (by decide +kernel) (by decide +kernel) rfl rfl rfl rfl (by decide) (Fr69 e53)
          · rw [if_neg c50] at h
            by_cases c56 : (x2 - x1) = 7
            · rw [if_pos c56] at h
              refine m_go1 (q := (3, .tableswitch 214 2 7 #[37, 69, 86, 133, 180, 197], 37, 0, 0)) (pc1 := 200) (lv1 := [(0, .ref 2), (1, .int x1), (2, .int x2)]) (st1 := []) (h1 := hO 8 g) (by decide +kernel) (m_swx (fun z => m_loc m_ft X (.tableswitch 214 2 7 #[37, 69, 86, 133, 180, 197]) 0 0 3 [(0, .ref 2), (1, .int x1), (2, .int x2)] (.int z :: []) (hO 8 g)) c56 rfl) ?_
              refine m_go (L := [(200, .aload_n 0, 1, 0, 0), (201, .ldc 114, 2, 1, 10), (203, .iload_n 1, 1, 0, 0)]) (pc1 := 204) (lv1 := [(0, .ref 2), (1, .int x1), (2, .int x2)]) (st1 := [.int x1, .ref (m_scr + 1 + 10), .ref 2]) (h1 := hO 8 g) (by decide +kernel) rfl ?_
              rcases m_ci_inv h with ⟨v58, g57, e59, h⟩ | ⟨y60, g57, e59, rfl, rfl⟩
              · refine m_ca (q := (204, .invokevirtual 92, 3, 69, 2)) (a := 69) (vs := [.ref 2, .ref (m_scr + 1 + 10), .int x1]) (st := []) (d1 := 1) (by decide +kernel) rfl rfl rfl rfl (by decide) (Fr69 e59) ?_
                show m_Run X _ _ 68 207 [(0, .ref 2), (1, .int x1), (2, .int x2)] [.int v58] (hO 8 g57) _ _
                refine m_gob (c := v58 = 0) (t := 215) (f := 210) (L := [(207, .ifCond .eq 8, 3, 0, 0)]) (lv1 := [(0, .ref 2), (1, .int x1), (2, .int x2)]) (st1 := []) (h1 := hO 8 g57) (by decide +kernel) rfl (fun c61 => ?_) (fun c61 => ?_)
                · rw [if_pos c61] at h
                  refine m_go (L := [(215, .iconst 2, 1, 0, 0)]) (pc1 := 216) (lv1 := [(0, .ref 2), (1, .int x1), (2, .int x2)]) (st1 := [.int (2 : Int32)]) (h1 := hO 8 g57) (by decide +kernel) rfl ?_
                  cases h
                  exact m_ri (by decide +kernel)
                · rw [if_neg c61] at h
                  refine m_go (L := [(210, .bipush 33, 2, 0, 0), (212, .goto 4, 3, 0, 0)]) (pc1 := 216) (lv1 := [(0, .ref 2), (1, .int x1), (2, .int x2)]) (st1 := [.int (33 : Int32)]) (h1 := hO 8 g57) (by decide +kernel) rfl ?_
                  cases h
                  exact m_ri (by decide +kernel)
              · exact m_cx (q := (204, .invokevirtual 92, 3, 69, 2)) (a := 69) (vs := [.ref 2, .ref (m_scr + 1 + 10), .int x1]) (st := []) (d1 := 1) (by decide +kernel) (by decide +kernel) rfl rfl rfl rfl (by decide) (Fr69 e59)
            · rw [if_neg c56] at h
              have hx : m_loc m_ft X (.tableswitch 214 2 7 #[37, 69, 86, 133, 180, 197]) 0 0 3 [(0, .ref 2), (1, .int x1), (2, .int x2)] ([.int (x2 - x1)]) (hO 8 g) = some (217, [(0, .ref 2), (1, .int x1), (2, .int x2)], [], hO 8 g) := by
                by_cases hz : Int32.toInt (x2 - x1) < 2 ∨ 7 < Int32.toInt (x2 - x1)
                · exact if_pos hz
                · exfalso; have z0 := m_ne (k := 2) (z := 2) (by decide) c1; have z1 := m_ne (k := 3) (z := 3) (by decide) c12; have z2 := m_ne (k := 4) (z := 4) (by decide) c18; have z3 := m_ne (k := 5) (z := 5) (by decide) c34; have z4 := m_ne (k := 6) (z := 6) (by decide) c50; have z5 := m_ne (k := 7) (z := 7) (by decide) c56; omega
              refine m_go1 (q := (3, .tableswitch 214 2 7 #[37, 69, 86, 133, 180, 197], 37, 0, 0)) (by decide +kernel) hx ?_
              refine m_go (L := [(217, .iconst 2, 1, 0, 0)]) (pc1 := 218) (lv1 := [(0, .ref 2), (1, .int x1), (2, .int x2)]) (st1 := [.int (2 : Int32)]) (h1 := hO 8 g) (by decide +kernel) rfl ?_
              cases h
              exact m_ri (by decide +kernel)
def f64 (n : Nat) (x1 : Int32) (g : mG) : mZ := m_ci (f63 n x1 g) (fun v2 g1 => if x1 < (g1.1 9) then m_ci (f65 n v2 (gI (gI g1 11 (0 : Int32)) 10 x1)) (fun v7 g6 => if v7 = 0 then m_ci (f67 n v2 g6) (fun v12 g11 => if v12 = 0 then m_ci (f63 n (x1 + (1 : Int32)) g11) (fun v17 g16 => m_ci (f71 n v2 v17 g16) (fun v21 g20 => if v21 = (1 : Int32) then m_ci (f72 n v2 (gI g20 10 (x1 + (1 : Int32)))) (fun v26 g25 => some (.inl (some (.int v26)), g25)) else some (.inl (some (.int v21)), (gI g20 10 (x1 + (2 : Int32)))))) else m_ci (f70 n x1 g11) (fun v30 g29 => some (.inl (some (.int v30)), g29))) else m_ci (f66 n x1 g6) (fun v34 g33 => m_ci (f68 n x1 v34 (gI g33 10 v34)) (fun v38 g37 => some (.inl (some (.int v38)), g37)))) else some (.inl (some (.int (0 : Int32))), (gI (gI g1 11 (0 : Int32)) 10 x1)))
theorem Fr64 {x1 : Int32} {g g' : mG} {o : mO} (h : f64 n x1 g = some (o, g')) : m_Run X (3) (m_ko o) 64 0 [(0, .ref 2), (1, .int x1)] [] (hO 8 g) o (hO 8 g') := by
  unfold f64 at h
  refine m_go (L := [(0, .aload_n 0, 1, 0, 0), (1, .iload_n 1, 1, 0, 0)]) (pc1 := 2) (lv1 := [(0, .ref 2), (1, .int x1)]) (st1 := [.int x1, .ref 2]) (h1 := hO 8 g) (by decide +kernel) rfl ?_
  rcases m_ci_inv h with ⟨v2, g1, e3, h⟩ | ⟨y4, g1, e3, rfl, rfl⟩
  · refine m_ca (q := (2, .invokevirtual 55, 3, 63, 1)) (a := 63) (vs := [.ref 2, .int x1]) (st := []) (d1 := 0) (by decide +kernel) rfl rfl rfl rfl (by decide) (Fr63 e3) ?_
    show m_Run X _ _ 64 5 [(0, .ref 2), (1, .int x1)] [.int v2] (hO 8 g1) _ _
    refine m_gob (c := x1 < (g1.1 9)) (t := 26) (f := 24) (L := [(5, .istore_n 2, 1, 0, 0), (6, .aload_n 0, 1, 0, 0), (7, .iconst 0, 1, 0, 0), (8, .putfield 37, 3, 4, 8), (11, .aload_n 0, 1, 0, 0), (12, .iload_n 1, 1, 0, 0), (13, .putfield 34, 3, 4, 7), (16, .iload_n 1, 1, 0, 0), (17, .aload_n 0, 1, 0, 0), (18, .getfield 31, 3, 4, 6), (21, .if_icmp .lt 5, 3, 0, 0)]) (lv1 := [(0, .ref 2), (1, .int x1), (2, .int v2)]) (st1 := []) (h1 := hO 8 (gI (gI g1 11 (0 : Int32)) 10 x1)) (by decide +kernel) rfl (fun c5 => ?_) (fun c5 => ?_)
    · rw [if_pos c5] at h
      refine m_go (L := [(26, .iload_n 2, 1, 0, 0)]) (pc1 := 27) (lv1 := [(0, .ref 2), (1, .int x1), (2, .int v2)]) (st1 := [.int v2]) (h1 := hO 8 (gI (gI g1 11 (0 : Int32)) 10 x1)) (by decide +kernel) rfl ?_
      rcases m_ci_inv h with ⟨v7, g6, e8, h⟩ | ⟨y9, g6, e8, rfl, rfl⟩
      · refine m_ca (q := (27, .invokestatic 58, 3, 65, 1)) (a := 65) (vs := [.int v2]) (st := []) (d1 := 0) (by decide +kernel) rfl rfl rfl rfl (by decide) (Fr65 e8) ?_
        show m_Run X _ _ 64 30 [(0, .ref 2), (1, .int x1), (2, .int v2)] [.int v7] (hO 8 g6) _ _
        refine m_gob (c := v7 = 0) (t := 52) (f := 33) (L := [(30, .ifCond .eq 22, 3, 0, 0)]) (lv1 := [(0, .ref 2), (1, .int x1), (2, .int v2)]) (st1 := []) (h1 := hO 8 g6) (by decide +kernel) rfl (fun c10 => ?_) (fun c10 => ?_)
        · rw [if_pos c10] at h
          refine m_go (L := [(52, .iload_n 2, 1, 0, 0)]) (pc1 := 53) (lv1 := [(0, .ref 2), (1, .int x1), (2, .int v2)]) (st1 := [.int v2]) (h1 := hO 8 g6) (by decide +kernel) rfl ?_
          rcases m_ci_inv h with ⟨v12, g11, e13, h⟩ | ⟨y14, g11, e13, rfl, rfl⟩
          · refine m_ca (q := (53, .invokestatic 68, 3, 67, 1)) (a := 67) (vs := [.int v2]) (st := []) (d1 := 0) (by decide +kernel) rfl rfl rfl rfl (by decide) (Fr67 e13) ?_
            show m_Run X _ _ 64 56 [(0, .ref 2), (1, .int x1), (2, .int v2)] [.int v12] (hO 8 g11) _ _
            refine m_gob (c := v12 = 0) (t := 65) (f := 59) (L := [(56, .ifCond .eq 9, 3, 0, 0)]) (lv1 := [(0, .ref 2), (1, .int x1), (2, .int v2)]) (st1 := []) (h1 := hO 8 g11) (by decide +kernel) rfl (fun c15 => ?_) (fun c15 => ?_)
            · rw [if_pos c15] at h
              refine m_go (L := [(65, .iload_n 2, 1, 0, 0), (66, .aload_n 0, 1, 0, 0), (67, .iload_n 1, 1, 0, 0), (68, .iconst 1, 1, 0, 0), (69, .iadd, 1, 0, 0)]) (pc1 := 70) (lv1 := [(0, .ref 2), (1, .int x1), (2, .int v2)]) (st1 := [.int (x1 + (1 : Int32)), .ref 2, .int v2]) (h1 := hO 8 g11) (by decide +kernel) rfl ?_
              rcases m_ci_inv h with ⟨v17, g16, e18, h⟩ | ⟨y19, g16, e18, rfl, rfl⟩
              · refine m_ca (q := (70, .invokevirtual 55, 3, 63, 1)) (a := 63) (vs := [.ref 2, .int (x1 + (1 : Int32))]) (st := [.int v2]) (d1 := 0) (by decide +kernel) rfl rfl rfl rfl (by decide) (Fr63 e18) ?_
                show m_Run X _ _ 64 73 [(0, .ref 2), (1, .int x1), (2, .int v2)] [.int v17, .int v2] (hO 8 g16) _ _
                rcases m_ci_inv h with ⟨v21, g20, e22, h⟩ | ⟨y23, g20, e22, rfl, rfl⟩
                · refine m_ca (q := (73, .invokestatic 74, 3, 71, 2)) (a := 71) (vs := [.int v2, .int v17]) (st := []) (d1 := 0) (by decide +kernel) rfl rfl rfl rfl (by decide) (Fr71 e22) ?_
                  show m_Run X _ _ 64 76 [(0, .ref 2), (1, .int x1), (2, .int v2)] [.int v21] (hO 8 g20) _ _
                  refine m_gob (c := v21 = (1 : Int32)) (t := 91) (f := 82) (L := [(76, .istore_n 3, 1, 0, 0), (77, .iload_n 3, 1, 0, 0), (78, .iconst 1, 1, 0, 0), (79, .if_icmp .eq 12, 3, 0, 0)]) (lv1 := [(0, .ref 2), (1, .int x1), (2, .int v2), (3, .int v21)]) (st1 := []) (h1 := hO 8 g20) (by decide +kernel) rfl (fun c24 => ?_) (fun c24 => ?_)
                  · rw [if_pos c24] at h
                    refine m_go (L := [(91, .aload_n 0, 1, 0, 0), (92, .iload_n 1, 1, 0, 0), (93, .iconst 1, 1, 0, 0), (94, .iadd, 1, 0, 0), (95, .putfield 34, 3, 4, 7), (98, .iload_n 2, 1, 0, 0)]) (pc1 := 99) (lv1 := [(0, .ref 2), (1, .int x1), (2, .int v2), (3, .int v21)]) (st1 := [.int v2]) (h1 := hO 8 (gI g20 10 (x1 + (1 : Int32)))) (by decide +kernel) rfl ?_
                    rcases m_ci_inv h with ⟨v26, g25, e27, h⟩ | ⟨y28, g25, e27, rfl, rfl⟩
                    · refine m_ca (q := (99, .invokestatic 77, 3, 72, 1)) (a := 72) (vs := [.int v2]) (st := []) (d1 := 0) (by decide +kernel) rfl rfl rfl rfl (by decide) (Fr72 e27) ?_
                      show m_Run X _ _ 64 102 [(0, .ref 2), (1, .int x1), (2, .int v2), (3, .int v21)] [.int v26] (hO 8 g25) _ _
                      cases h
                      exact m_ri (by decide +kernel)
                    · exact m_cx (q := (99, .invokestatic 77, 3, 72, 1)) (a := 72) (vs := [.int v2]) (st := []) (d1 := 0) (by decide +kernel) (by decide +kernel) rfl rfl rfl rfl (by decide) (Fr72 e27)
                  · rw [if_neg c24] at h
                    refine m_go (L := [(82, .aload_n 0, 1, 0, 0), (83, .iload_n 1, 1, 0, 0), (84, .iconst 2, 1, 0, 0), (85, .iadd, 1, 0, 0), (86, .putfield 34, 3, 4, 7), (89, .iload_n 3, 1, 0, 0)]) (pc1 := 90) (lv1 := [(0, .ref 2), (1, .int x1), (2, .int v2), (3, .int v21)]) (st1 := [.int v21]) (h1 := hO 8 (gI g20 10 (x1 + (2 : Int32)))) (by decide +kernel) rfl ?_
                    cases h
                    exact m_ri (by decide +kernel)
                · exact m_cx (q := (73, .invokestatic 74, 3, 71, 2)) (a := 71) (vs := [.int v2, .int v17]) (st := []) (d1 := 0) (by decide +kernel) (by decide +kernel) rfl rfl rfl rfl (by decide) (Fr71 e22)
              · exact m_cx (q := (70, .invokevirtual 55, 3, 63, 1)) (a := 63) (vs := [.ref 2, .int (x1 + (1 : Int32))]) (st := [.int v2]) (d1 := 0) (by decide +kernel) (by decide +kernel) rfl rfl rfl rfl (by decide) (Fr63 e18)
            · rw [if_neg c15] at h
              refine m_go (L := [(59, .aload_n 0, 1, 0, 0), (60, .iload_n 1, 1, 0, 0)]) (pc1 := 61) (lv1 := [(0, .ref 2), (1, .int x1), (2, .int v2)]) (st1 := [.int x1, .ref 2]) (h1 := hO 8 g11) (by decide +kernel) rfl ?_
              rcases m_ci_inv h with ⟨v30, g29, e31, h⟩ | ⟨y32, g29, e31, rfl, rfl⟩
              · refine m_ca (q := (61, .invokevirtual 71, 3, 70, 1)) (a := 70) (vs := [.ref 2, .int x1]) (st := []) (d1 := 1) (by decide +kernel) rfl rfl rfl rfl (by decide) (Fr70 e31) ?_
                show m_Run X _ _ 64 64 [(0, .ref 2), (1, .int x1), (2, .int v2)] [.int v30] (hO 8 g29) _ _
                cases h
                exact m_ri (by decide +kernel)
              · exact m_cx (q := (61, .invokevirtual 71, 3, 70, 1)) (a := 70) (vs := [.ref 2, .int x1]) (st := []) (d1 := 1) (by decide +kernel) (by decide +kernel) rfl rfl rfl rfl (by decide) (Fr70 e31)
          · exact m_cx (q := (53, .invokestatic 68, 3, 67, 1)) (a := 67) (vs := [.int v2]) (st := []) (d1 := 0) (by decide +kernel) (by decide +kernel) rfl rfl rfl rfl (by decide) (Fr67 e13)
        · rw [if_neg c10] at h
          refine m_go (L := [(33, .aload_n 0, 1, 0, 0), (34, .aload_n 0, 1, 0, 0), (35, .iload_n 1, 1, 0, 0)]) (pc1 := 36) (lv1 := [(0, .ref 2), (1, .int x1), (2, .int v2)]) (st1 := [.int x1, .ref 2, .ref 2]) (h1 := hO 8 g6) (by decide +kernel) rfl ?_
          rcases m_ci_inv h with ⟨v34, g33, e35, h⟩ | ⟨y36, g33, e35, rfl, rfl⟩
          · refine m_ca (q := (36, .invokevirtual 62, 3, 66, 1)) (a := 66) (vs := [.ref 2, .int x1]) (st := [.ref 2]) (d1 := 1) (by decide +kernel) rfl rfl rfl rfl (by decide) (Fr66 e35) ?_
            show m_Run X _ _ 64 39 [(0, .ref 2), (1, .int x1), (2, .int v2)] [.int v34, .ref 2] (hO 8 g33) _ _
            refine m_go (L := [(39, .putfield 34, 3, 4, 7), (42, .aload_n 0, 1, 0, 0), (43, .iload_n 1, 1, 0, 0), (44, .aload_n 0, 1, 0, 0), (45, .getfield 34, 3, 4, 7)]) (pc1 := 48) (lv1 := [(0, .ref 2), (1, .int x1), (2, .int v2)]) (st1 := [.int v34, .int x1, .ref 2]) (h1 := hO 8 (gI g33 10 v34)) (by decide +kernel) rfl ?_
            rcases m_ci_inv h with ⟨v38, g37, e39, h⟩ | ⟨y40, g37, e39, rfl, rfl⟩
            · refine m_ca (q := (48, .invokevirtual 65, 3, 68, 2)) (a := 68) (vs := [.ref 2, .int x1, .int v34]) (st := []) (d1 := 2) (by decide +kernel) rfl rfl rfl rfl (by decide) (Fr68 e39) ?_
              show m_Run X _ _ 64 51 [(0, .ref 2), (1, .int x1), (2, .int v2)] [.int v38] (hO 8 g37) _ _
              cases h
              exact m_ri (by decide +kernel)
            · exact m_cx (q := (48, .invokevirtual 65, 3, 68, 2)) (a := 68) (vs := [.ref 2, .int x1, .int v34]) (st := []) (d1 := 2) (by decide +kernel) (by decide +kernel) rfl rfl rfl rfl (by decide) (Fr68 e39)
          · exact m_cx (q := (36, .invokevirtual 62, 3, 66, 1)) (a := 66) (vs := [.ref 2, .int x1]) (st := [.ref 2]) (d1 := 1) (by decide +kernel) (by decide +kernel) rfl rfl rfl rfl (by decide) (Fr66 e35)
      · exact m_cx (q := (27, .invokestatic 58, 3, 65, 1)) (a := 65) (vs := [.int v2]) (st := []) (d1 := 0) (by decide +kernel) (by decide +kernel) rfl rfl rfl rfl (by decide) (Fr65 e8)
    · rw [if_neg c5] at h
      refine m_go (L := [(24, .iconst 0, 1, 0, 0)]) (pc1 := 25) (lv1 := [(0, .ref 2), (1, .int x1), (2, .int v2)]) (st1 := [.int (0 : Int32)]) (h1 := hO 8 (gI (gI g1 11 (0 : Int32)) 10 x1)) (by decide +kernel) rfl ?_
      cases h
      exact m_ri (by decide +kernel)
  · exact m_cx (q := (2, .invokevirtual 55, 3, 63, 1)) (a := 63) (vs := [.ref 2, .int x1]) (st := []) (d1 := 0) (by decide +kernel) (by decide +kernel) rfl rfl rfl rfl (by decide) (Fr63 e3)
def f61_25 (n : Nat) : Nat → Int32 → Int32 → mG → mZ
  | 0, _, _, _ => none
  | c + 1, x3, x4, g => if (600 : Int32) < x4 then some (.inl none, g) else if x3 = 0 then some (.inl none, g) else m_ci (f62 n (g.1 10) g) (fun v4 g3 => m_ci (f64 n v4 g3) (fun v8 g7 => if x4 < 0 ∨ 601 ≤ Int32.toNatClampNeg x4 then none else if x4 < 0 ∨ 601 ≤ Int32.toNatClampNeg x4 then none else if x4 < 0 ∨ 601 ≤ Int32.toNatClampNeg x4 then none else if x4 < 0 ∨ 601 ≤ Int32.toNatClampNeg x4 then none else if v8 = 0 then f61_25 n c (0 : Int32) (x4 + (1 : Int32)) (gI (gS (gS (gS (gS g7 12 (upd (g7.2.1 12) (Int32.toNatClampNeg x4) v8)) 13 (upd (g7.2.1 13) (Int32.toNatClampNeg x4) v4)) 14 (upd (g7.2.1 14) (Int32.toNatClampNeg x4) (g7.1 10))) 15 (upd (g7.2.1 15) (Int32.toNatClampNeg x4) (g7.1 11))) 8 (x4 + (1 : Int32))) else if v8 = (1 : Int32) then f61_25 n c (0 : Int32) (x4 + (1 : Int32)) (gI (gS (gS (gS (gS g7 12 (upd (g7.2.1 12) (Int32.toNatClampNeg x4) v8)) 13 (upd (g7.2.1 13) (Int32.toNatClampNeg x4) v4)) 14 (upd (g7.2.1 14) (Int32.toNatClampNeg x4) (g7.1 10))) 15 (upd (g7.2.1 15) (Int32.toNatClampNeg x4) (g7.1 11))) 8 (x4 + (1 : Int32))) else f61_25 n c (1 : Int32) (x4 + (1 : Int32)) (gI (gS (gS (gS (gS g7 12 (upd (g7.2.1 12) (Int32.toNatClampNeg x4) v8)) 13 (upd (g7.2.1 13) (Int32.toNatClampNeg x4) v4)) 14 (upd (g7.2.1 14) (Int32.toNatClampNeg x4) (g7.1 10))) 15 (upd (g7.2.1 15) (Int32.toNatClampNeg x4) (g7.1 11))) 8 (x4 + (1 : Int32)))))
set_option maxRecDepth 20000 in
theorem Fr61_25 : ∀ (c : Nat) (x3 : Int32) (x4 : Int32) (g g' : mG) (o : mO), f61_25 n c x3 x4 g = some (o, g') → m_Run X (4) (m_ko o) 61 25 [(0, .ref 2), (3, .int x3), (4, .int x4)] [] (hO 8 g) o (hO 8 g') := by
  intro c
  induction c with
  | zero => intro x3 x4 g g' o h; rw [f61_25] at h; cases h
  | succ c ih =>
    intro x3 x4 g g' o h
    rw [f61_25] at h
    refine m_gob (c := (600 : Int32) < x4) (t := 126) (f := 33) (L := [(25, .iload 4, 2, 0, 0), (27, .sipush 600, 3, 0, 0), (30, .if_icmp .gt 96, 3, 0, 0)]) (lv1 := [(0, .ref 2), (3, .int x3), (4, .int x4)]) (st1 := []) (h1 := hO 8 g) (by decide +kernel) rfl (fun c1 => ?_) (fun c1 => ?_)
    · rw [if_pos c1] at h
      cases h
      exact m_rv (by decide +kernel)
    · rw [if_neg c1] at h
      refine m_gob (c := x3 = 0) (t := 126) (f := 37) (L := [(33, .iload_n 3, 1, 0, 0), (34, .ifCond .eq 92, 3, 0, 0)]) (lv1 := [(0, .ref 2), (3, .int x3), (4, .int x4)]) (st1 := []) (h1 := hO 8 g) (by decide +kernel) rfl (fun c2 => ?_) (fun c2 => ?_)
      · rw [if_pos c2] at h
        cases h
        exact m_rv (by decide +kernel)
      · rw [if_neg c2] at h
        refine m_go (L := [(37, .aload_n 0, 1, 0, 0), (38, .aload_n 0, 1, 0, 0), (39, .getfield 34, 3, 4, 7)]) (pc1 := 42) (lv1 := [(0, .ref 2), (3, .int x3), (4, .int x4)]) (st1 := [.int (g.1 10), .ref 2]) (h1 := hO 8 g) (by decide +kernel) rfl ?_
        rcases m_ci_inv h with ⟨v4, g3, e5, h⟩ | ⟨y6, g3, e5, rfl, rfl⟩
        · refine m_ca (q := (42, .invokevirtual 40, 3, 62, 1)) (a := 62) (vs := [.ref 2, .int (g.1 10)]) (st := []) (d1 := 1) (by decide +kernel) rfl rfl rfl rfl (by decide) (Fr62 e5) ?_
          show m_Run X _ _ 61 45 [(0, .ref 2), (3, .int x3), (4, .int x4)] [.int v4] (hO 8 g3) _ _
          refine m_go (L := [(45, .istore 5, 2, 0, 0), (47, .aload_n 0, 1, 0, 0), (48, .iload 5, 2, 0, 0)]) (pc1 := 50) (lv1 := [(0, .ref 2), (3, .int x3), (4, .int x4), (5, .int v4)]) (st1 := [.int v4, .ref 2]) (h1 := hO 8 g3) (by decide +kernel) rfl ?_
          rcases m_ci_inv h with ⟨v8, g7, e9, h⟩ | ⟨y10, g7, e9, rfl, rfl⟩
          · refine m_ca (q := (50, .invokevirtual 44, 3, 64, 1)) (a := 64) (vs := [.ref 2, .int v4]) (st := []) (d1 := 3) (by decide +kernel) rfl rfl rfl rfl (by decide) (Fr64 e9) ?_
            show m_Run X _ _ 61 53 [(0, .ref 2), (3, .int x3), (4, .int x4), (5, .int v4)] [.int v8] (hO 8 g7) _ _
            refine m_go (L := [(53, .istore 6, 2, 0, 0), (55, .aload_n 0, 1, 0, 0), (56, .getfield 9, 3, 4, 0), (59, .iload 4, 2, 0, 0), (61, .iload 6, 2, 0, 0)]) (pc1 := 63) (lv1 := [(0, .ref 2), (3, .int x3), (4, .int x4), (5, .int v4), (6, .int v8)]) (st1 := [.int v8, .int x4, .ref 12]) (h1 := hO 8 g7) (by decide +kernel) rfl ?_
            obtain ⟨c11, h⟩ := m_ifn_inv h
            refine m_go1 (q := (63, .iastore, 1, 0, 0)) (pc1 := 64) (lv1 := [(0, .ref 2), (3, .int x3), (4, .int x4), (5, .int v4), (6, .int v8)]) (st1 := []) (h1 := hO 8 (gS g7 12 (upd (g7.2.1 12) (Int32.toNatClampNeg x4) v8))) (by decide +kernel) (if_neg c11) ?_
            refine m_go (L := [(64, .aload_n 0, 1, 0, 0), (65, .getfield 15, 3, 4, 1), (68, .iload 4, 2, 0, 0), (70, .iload 5, 2, 0, 0)]) (pc1 := 72) (lv1 := [(0, .ref 2), (3, .int x3), (4, .int x4), (5, .int v4), (6, .int v8)]) (st1 := [.int v4, .int x4, .ref 13]) (h1 := hO 8 (gS g7 12 (upd (g7.2.1 12) (Int32.toNatClampNeg x4) v8))) (by decide +kernel) rfl ?_
            obtain ⟨c12, h⟩ := m_ifn_inv h
            refine m_go1 (q := (72, .iastore, 1, 0, 0)) (pc1 := 73) (lv1 := [(0, .ref 2), (3, .int x3), (4, .int x4), (5, .int v4), (6, .int v8)]) (st1 := []) (h1 := hO 8 (gS (gS g7 12 (upd (g7.2.1 12) (Int32.toNatClampNeg x4) v8)) 13 (upd (g7.2.1 13) (Int32.toNatClampNeg x4) v4))) (by decide +kernel) (if_neg c12) ?_
            refine m_go (L := [(73, .aload_n 0, 1, 0, 0), (74, .getfield 18, 3, 4, 2), (77, .iload 4, 2, 0, 0), (79, .aload_n 0, 1, 0, 0), (80, .getfield 34, 3, 4, 7)]) (pc1 := 83) (lv1 := [(0, .ref 2), (3, .int x3), (4, .int x4), (5, .int v4), (6, .int v8)]) (st1 := [.int (g7.1 10), .int x4, .ref 14]) (h1 := hO 8 (gS (gS g7 12 (upd (g7.2.1 12) (Int32.toNatClampNeg x4) v8)) 13 (upd (g7.2.1 13) (Int32.toNatClampNeg x4) v4))) (by decide +kernel) rfl ?_
            obtain ⟨c13, h⟩ := m_ifn_inv h
            refine m_go1 (q := (83, .iastore, 1, 0, 0)) (pc1 := 84) (lv1 := [(0, .ref 2), (3, .int x3), (4, .int x4), (5, .int v4), (6, .int v8)]) (st1 := []) (h1 := hO 8 (gS (gS (gS g7 12 (upd (g7.2.1 12) (Int32.toNatClampNeg x4) v8)) 13 (upd (g7.2.1 13) (Int32.toNatClampNeg x4) v4)) 14 (upd (g7.2.1 14) (Int32.toNatClampNeg x4) (g7.1 10)))) (by decide +kernel) (if_neg c13) ?_
            refine m_go (L := [(84, .aload_n 0, 1, 0, 0), (85, .getfield 21, 3, 4, 3), (88, .iload 4, 2, 0, 0), (90, .aload_n 0, 1, 0, 0), (91, .getfield 37, 3, 4, 8)]) (pc1 := 94) (lv1 := [(0, .ref 2), (3, .int x3), (4, .int x4), (5, .int v4), (6, .int v8)]) (st1 := [.int (g7.1 11), .int x4, .ref 15]) (h1 := hO 8 (gS (gS (gS g7 12 (upd (g7.2.1 12) (Int32.toNatClampNeg x4) v8)) 13 (upd (g7.2.1 13) (Int32.toNatClampNeg x4) v4)) 14 (upd (g7.2.1 14) (Int32.toNatClampNeg x4) (g7.1 10)))) (by decide +kernel) rfl ?_
            obtain ⟨c14, h⟩ := m_ifn_inv h
            refine m_go1 (q := (94, .iastore, 1, 0, 0)) (pc1 := 95) (lv1 := [(0, .ref 2), (3, .int x3), (4, .int x4), (5, .int v4), (6, .int v8)]) (st1 := []) (h1 := hO 8 (gS (gS (gS (gS g7 12 (upd (g7.2.1 12) (Int32.toNatClampNeg x4) v8)) 13 (upd (g7.2.1 13) (Int32.toNatClampNeg x4) v4)) 14 (upd (g7.2.1 14) (Int32.toNatClampNeg x4) (g7.1 10))) 15 (upd (g7.2.1 15) (Int32.toNatClampNeg x4) (g7.1 11)))) (by decide +kernel) (if_neg c14) ?_
            refine m_gob (c := v8 = 0) (t := 118) (f := 108) (L := [(95, .aload_n 0, 1, 0, 0), (96, .iload 4, 2, 0, 0), (98, .iconst 1, 1, 0, 0), (99, .iadd, 1, 0, 0), (100, .putfield 24, 3, 4, 4), (103, .iload 6, 2, 0, 0), (105, .ifCond .eq 13, 3, 0, 0)]) (lv1 := [(0, .ref 2), (3, .int x3), (4, .int x4), (5, .int v4), (6, .int v8)]) (st1 := []) (h1 := hO 8 (gI (gS (gS (gS (gS g7 12 (upd (g7.2.1 12) (Int32.toNatClampNeg x4) v8)) 13 (upd (g7.2.1 13) (Int32.toNatClampNeg x4) v4)) 14 (upd (g7.2.1 14) (Int32.toNatClampNeg x4) (g7.1 10))) 15 (upd (g7.2.1 15) (Int32.toNatClampNeg x4) (g7.1 11))) 8 (x4 + (1 : Int32)))) (by decide +kernel) rfl (fun c15 => ?_) (fun c15 => ?_)
            · rw [if_pos c15] at h
              refine m_go (L := [(118, .iconst 0, 1, 0, 0), (119, .istore_n 3, 1, 0, 0), (120, .iinc 4 1, 3, 0, 0), (123, .goto (-98), 3, 0, 0)]) (pc1 := 25) (lv1 := [(0, .ref 2), (3, .int (0 : Int32)), (4, .int (x4 + (1 : Int32))), (5, .int v4), (6, .int v8)]) (st1 := []) (h1 := hO 8 (gI (gS (gS (gS (gS g7 12 (upd (g7.2.1 12) (Int32.toNatClampNeg x4) v8)) 13 (upd (g7.2.1 13) (Int32.toNatClampNeg x4) v4)) 14 (upd (g7.2.1 14) (Int32.toNatClampNeg x4) (g7.1 10))) 15 (upd (g7.2.1 15) (Int32.toNatClampNeg x4) (g7.1 11))) 8 (x4 + (1 : Int32)))) (by decide +kernel) rfl ?_
              exact m_r0 _ _ _ _ _ _ _ _ _ _ (m_pick [0, 1, 2] rfl) (ih _ _ _ _ _ h)
            · rw [if_neg c15] at h
              refine m_gob (c := v8 = (1 : Int32)) (t := 118) (f := 114) (L := [(108, .iload 6, 2, 0, 0), (110, .iconst 1, 1, 0, 0), (111, .if_icmp .eq 7, 3, 0, 0)]) (lv1 := [(0, .ref 2), (3, .int x3), (4, .int x4), (5, .int v4), (6, .int v8)]) (st1 := []) (h1 := hO 8 (gI (gS (gS (gS (gS g7 12 (upd (g7.2.1 12) (Int32.toNatClampNeg x4) v8)) 13 (upd (g7.2.1 13) (Int32.toNatClampNeg x4) v4)) 14 (upd (g7.2.1 14) (Int32.toNatClampNeg x4) (g7.1 10))) 15 (upd (g7.2.1 15) (Int32.toNatClampNeg x4) (g7.1 11))) 8 (x4 + (1 : Int32)))) (by decide +kernel) rfl (fun c16 => ?_) (fun c16 => ?_)
              · rw [if_pos c16] at h
                refine m_go (L := [(118, .iconst 0, 1, 0, 0), (119, .istore_n 3, 1, 0, 0), (120, .iinc 4 1, 3, 0, 0), (123, .goto (-98), 3, 0, 0)]) (pc1 := 25) (lv1 := [(0, .ref 2), (3, .int (0 : Int32)), (4, .int (x4 + (1 : Int32))), (5, .int v4), (6, .int v8)]) (st1 := []) (h1 := hO 8 (gI (gS (gS (gS (gS g7 12 (upd (g7.2.1 12) (Int32.toNatClampNeg x4) v8)) 13 (upd (g7.2.1 13) (Int32.toNatClampNeg x4) v4)) 14 (upd (g7.2.1 14) (Int32.toNatClampNeg x4) (g7.1 10))) 15 (upd (g7.2.1 15) (Int32.toNatClampNeg x4) (g7.1 11))) 8 (x4 + (1 : Int32)))) (by decide +kernel) rfl ?_
                exact m_r0 _ _ _ _ _ _ _ _ _ _ (m_pick [0, 1, 2] rfl) (ih _ _ _ _ _ h)
              · rw [if_neg c16] at h
                refine m_go (L := [(114, .iconst 1, 1, 0, 0), (115, .goto 4, 3, 0, 0), (119, .istore_n 3, 1, 0, 0), (120, .iinc 4 1, 3, 0, 0), (123, .goto (-98), 3, 0, 0)]) (pc1 := 25) (lv1 := [(0, .ref 2), (3, .int (1 : Int32)), (4, .int (x4 + (1 : Int32))), (5, .int v4), (6, .int v8)]) (st1 := []) (h1 := hO 8 (gI (gS (gS (gS (gS g7 12 (upd (g7.2.1 12) (Int32.toNatClampNeg x4) v8)) 13 (upd (g7.2.1 13) (Int32.toNatClampNeg x4) v4)) 14 (upd (g7.2.1 14) (Int32.toNatClampNeg x4) (g7.1 10))) 15 (upd (g7.2.1 15) (Int32.toNatClampNeg x4) (g7.1 11))) 8 (x4 + (1 : Int32)))) (by decide +kernel) rfl ?_
                exact m_r0 _ _ _ _ _ _ _ _ _ _ (m_pick [0, 1, 2] rfl) (ih _ _ _ _ _ h)
          · exact m_cx (q := (50, .invokevirtual 44, 3, 64, 1)) (a := 64) (vs := [.ref 2, .int v4]) (st := []) (d1 := 3) (by decide +kernel) (by decide +kernel) rfl rfl rfl rfl (by decide) (Fr64 e9)
        · exact m_cx (q := (42, .invokevirtual 40, 3, 62, 1)) (a := 62) (vs := [.ref 2, .int (g.1 10)]) (st := []) (d1 := 1) (by decide +kernel) (by decide +kernel) rfl rfl rfl rfl (by decide) (Fr62 e5)
def f61 (n : Nat) (x2 : Int32) (g : mG) : mZ := f61_25 n n (1 : Int32) (0 : Int32) (gI (gI (gI g 9 x2) 8 (0 : Int32)) 10 (0 : Int32))
theorem Fr61 {R : Nat} {x2 : Int32} {g g' : mG} {o : mO} (h : f61 n x2 g = some (o, g')) : m_Run X (4) (m_ko o) 61 0 [(0, .ref 2), (1, .ref 8), (2, .int x2)] [] (hO R g) o (hO 8 g') := by
  unfold f61 at h
  refine m_go (L := [(0, .aload_n 0, 1, 0, 0), (1, .aload_n 1, 1, 0, 0), (2, .putfield 28, 3, 4, 5), (5, .aload_n 0, 1, 0, 0), (6, .iload_n 2, 1, 0, 0), (7, .putfield 31, 3, 4, 6), (10, .aload_n 0, 1, 0, 0), (11, .iconst 0, 1, 0, 0), (12, .putfield 24, 3, 4, 4), (15, .aload_n 0, 1, 0, 0), (16, .iconst 0, 1, 0, 0), (17, .putfield 34, 3, 4, 7), (20, .iconst 1, 1, 0, 0), (21, .istore_n 3, 1, 0, 0), (22, .iconst 0, 1, 0, 0), (23, .istore 4, 2, 0, 0)]) (pc1 := 25) (lv1 := [(0, .ref 2), (1, .ref 8), (2, .int x2), (3, .int (1 : Int32)), (4, .int (0 : Int32))]) (st1 := []) (h1 := hO 8 (gI (gI (gI g 9 x2) 8 (0 : Int32)) 10 (0 : Int32))) (by decide +kernel) rfl ?_
  exact m_r0 _ _ _ _ _ _ _ _ _ _ (m_pick [0, 3, 4] rfl) (Fr61_25 _ _ _ _ _ _ h)
def f31_3 (n : Nat) (g : mG) : mZ := some (.inl none, (gI (gI g 12 (0 : Int32)) 13 (0 : Int32)))
theorem Fr31_3 {R : Nat} {g g' : mG} {o : mO} (h : f31_3 n g = some (o, g')) : m_Run X (0) (m_ko o) 31 0 [(0, .ref 3)] [] (hO R g) o (hO R g') := by
  unfold f31_3 at h
  refine m_go (L := [(0, .aload_n 0, 1, 0, 0), (1, .iconst 0, 1, 0, 0), (2, .putfield 18, 3, 1, 2), (5, .aload_n 0, 1, 0, 0), (6, .iconst 0, 1, 0, 0), (7, .putfield 28, 3, 1, 5)]) (pc1 := 10) (lv1 := [(0, .ref 3)]) (st1 := []) (h1 := hO R (gI (gI g 12 (0 : Int32)) 13 (0 : Int32))) (by decide +kernel) rfl ?_
  cases h
  exact m_rv (by decide +kernel)
def f32_3 (n : Nat) (g : mG) : mZ := if (8 : Int32) ≤ (g.1 13) then some (.inl none, g) else if (g.1 13) < 0 ∨ 8 ≤ Int32.toNatClampNeg (g.1 13) then none else if (g.1 13) < 0 ∨ 8 ≤ Int32.toNatClampNeg (g.1 13) then none else some (.inl none, (gI (gS (gS g 19 (upd (g.2.1 19) (Int32.toNatClampNeg (g.1 13)) (g.1 12))) 20 (upd (g.2.1 20) (Int32.toNatClampNeg (g.1 13)) (0 : Int32))) 13 ((g.1 13) + (1 : Int32))))
theorem Fr32_3 {R : Nat} {g g' : mG} {o : mO} (h : f32_3 n g = some (o, g')) : m_Run X (0) (m_ko o) 32 0 [(0, .ref 3)] [] (hO R g) o (hO R g') := by
  unfold f32_3 at h
  refine m_gob (c := (8 : Int32) ≤ (g.1 13)) (t := 42) (f := 9) (L := [(0, .aload_n 0, 1, 0, 0), (1, .getfield 28, 3, 1, 5), (4, .bipush 8, 2, 0, 0), (6, .if_icmp .ge 36, 3, 0, 0)]) (lv1 := [(0, .ref 3)]) (st1 := []) (h1 := hO R g) (by decide +kernel) rfl (fun c1 => ?_) (fun c1 => ?_)
  · rw [if_pos c1] at h
    cases h
    exact m_rv (by decide +kernel)
  · rw [if_neg c1] at h
    refine m_go (L := [(9, .aload_n 0, 1, 0, 0), (10, .getfield 22, 3, 1, 3), (13, .aload_n 0, 1, 0, 0), (14, .getfield 28, 3, 1, 5), (17, .aload_n 0, 1, 0, 0), (18, .getfield 18, 3, 1, 2)]) (pc1 := 21) (lv1 := [(0, .ref 3)]) (st1 := [.int (g.1 12), .int (g.1 13), .ref 19]) (h1 := hO R g) (by decide +kernel) rfl ?_
    obtain ⟨c2, h⟩ := m_ifn_inv h
    refine m_go1 (q := (21, .iastore, 1, 0, 0)) (pc1 := 22) (lv1 := [(0, .ref 3)]) (st1 := []) (h1 := hO R (gS g 19 (upd (g.2.1 19) (Int32.toNatClampNeg (g.1 13)) (g.1 12)))) (by decide +kernel) (if_neg c2) ?_
    refine m_go (L := [(22, .aload_n 0, 1, 0, 0), (23, .getfield 25, 3, 1, 4), (26, .aload_n 0, 1, 0, 0), (27, .getfield 28, 3, 1, 5), (30, .iconst 0, 1, 0, 0)]) (pc1 := 31) (lv1 := [(0, .ref 3)]) (st1 := [.int (0 : Int32), .int (g.1 13), .ref 20]) (h1 := hO R (gS g 19 (upd (g.2.1 19) (Int32.toNatClampNeg (g.1 13)) (g.1 12)))) (by decide +kernel) rfl ?_
    obtain ⟨c3, h⟩ := m_ifn_inv h
    refine m_go1 (q := (31, .iastore, 1, 0, 0)) (pc1 := 32) (lv1 := [(0, .ref 3)]) (st1 := []) (h1 := hO R (gS (gS g 19 (upd (g.2.1 19) (Int32.toNatClampNeg (g.1 13)) (g.1 12))) 20 (upd (g.2.1 20) (Int32.toNatClampNeg (g.1 13)) (0 : Int32)))) (by decide +kernel) (if_neg c3) ?_
    refine m_go (L := [(32, .aload_n 0, 1, 0, 0), (33, .dup, 1, 0, 0), (34, .getfield 28, 3, 1, 5), (37, .iconst 1, 1, 0, 0), (38, .iadd, 1, 0, 0), (39, .putfield 28, 3, 1, 5)]) (pc1 := 42) (lv1 := [(0, .ref 3)]) (st1 := []) (h1 := hO R (gI (gS (gS g 19 (upd (g.2.1 19) (Int32.toNatClampNeg (g.1 13)) (g.1 12))) 20 (upd (g.2.1 20) (Int32.toNatClampNeg (g.1 13)) (0 : Int32))) 13 ((g.1 13) + (1 : Int32)))) (by decide +kernel) rfl ?_
    cases h
    exact m_rv (by decide +kernel)
def f2_23 (n : Nat) (g : mG) : mZ := m_cv (f3 n (g.1 5) g) (fun g6 => some (.inl none, g6))
theorem Fr2_23 {g g' : mG} {o : mO} (h : f2_23 n g = some (o, g')) : m_Run X (2) (m_ko o) 2 23 [(0, .ref 1)] [] (hO 8 g) o (hO 8 g') := by
  unfold f2_23 at h
  refine m_go (L := [(23, .aload_n 0, 1, 0, 0), (24, .aload_n 0, 1, 0, 0), (25, .getfield 25, 3, 0, 2)]) (pc1 := 28) (lv1 := [(0, .ref 1)]) (st1 := [.int (g.1 5), .ref 1]) (h1 := hO 8 g) (by decide +kernel) rfl ?_
  rcases m_cv_inv h with ⟨g6, e8, h⟩ | ⟨y9, g6, e8, rfl, rfl⟩
  · refine m_ca (q := (28, .invokevirtual 77, 3, 3, 1)) (a := 3) (vs := [.ref 1, .int (g.1 5)]) (st := []) (d1 := 1) (by decide +kernel) rfl rfl rfl rfl (by decide) (Fr3 e8) ?_
    show m_Run X _ _ 2 31 [(0, .ref 1)] [] (hO 8 g6) _ _
    cases h
    exact m_rv (by decide +kernel)
  · exact m_cx (q := (28, .invokevirtual 77, 3, 3, 1)) (a := 3) (vs := [.ref 1, .int (g.1 5)]) (st := []) (d1 := 1) (by decide +kernel) (by decide +kernel) rfl rfl rfl rfl (by decide) (Fr3 e8)
def f2_70 (n : Nat) (x1 : Int32) (g : mG) : mZ := if x1 < 0 ∨ 8 ≤ Int32.toNatClampNeg x1 then none else m_cv (f32_3 n (gS g 9 (upd (g.2.1 9) (Int32.toNatClampNeg x1) (g.1 5)))) (fun g21 => some (.inl none, (gI (gI g21 7 (0 : Int32)) 5 ((g21.1 5) + (1 : Int32)))))
theorem Fr2_70 {x1 : Int32} {g g' : mG} {o : mO} (h : f2_70 n x1 g = some (o, g')) : m_Run X (2) (m_ko o) 2 70 [(0, .ref 1), (1, .int x1)] [] (hO 8 g) o (hO 8 g') := by
  unfold f2_70 at h
  refine m_go (L := [(70, .aload_n 0, 1, 0, 0), (71, .getfield 32, 3, 0, 4), (74, .iload_n 1, 1, 0, 0), (75, .aload_n 0, 1, 0, 0), (76, .getfield 25, 3, 0, 2)]) (pc1 := 79) (lv1 := [(0, .ref 1), (1, .int x1)]) (st1 := [.int (g.1 5), .int x1, .ref 9]) (h1 := hO 8 g) (by decide +kernel) rfl ?_
  obtain ⟨c20, h⟩ := m_ifn_inv h
  refine m_go1 (q := (79, .iastore, 1, 0, 0)) (pc1 := 80) (lv1 := [(0, .ref 1), (1, .int x1)]) (st1 := []) (h1 := hO 8 (gS g 9 (upd (g.2.1 9) (Int32.toNatClampNeg x1) (g.1 5)))) (by decide +kernel) (if_neg c20) ?_
  refine m_go (L := [(80, .aload_n 0, 1, 0, 0), (81, .getfield 21, 3, 0, 1)]) (pc1 := 84) (lv1 := [(0, .ref 1), (1, .int x1)]) (st1 := [.ref 3]) (h1 := hO 8 (gS g 9 (upd (g.2.1 9) (Int32.toNatClampNeg x1) (g.1 5)))) (by decide +kernel) rfl ?_
  rcases m_cv_inv h with ⟨g21, e23, h⟩ | ⟨y24, g21, e23, rfl, rfl⟩
  · refine m_ca (q := (84, .invokevirtual 84, 3, 32, 0)) (a := 32) (vs := [.ref 3]) (st := []) (d1 := 0) (by decide +kernel) rfl rfl rfl rfl (by decide) (Fr32_3 e23) ?_
    show m_Run X _ _ 2 87 [(0, .ref 1), (1, .int x1)] [] (hO 8 g21) _ _
    refine m_go (L := [(87, .aload_n 0, 1, 0, 0), (88, .iconst 0, 1, 0, 0), (89, .putfield 42, 3, 0, 7), (92, .aload_n 0, 1, 0, 0), (93, .dup, 1, 0, 0), (94, .getfield 25, 3, 0, 2), (97, .iconst 1, 1, 0, 0), (98, .iadd, 1, 0, 0), (99, .putfield 25, 3, 0, 2)]) (pc1 := 102) (lv1 := [(0, .ref 1), (1, .int x1)]) (st1 := []) (h1 := hO 8 (gI (gI g21 7 (0 : Int32)) 5 ((g21.1 5) + (1 : Int32)))) (by decide +kernel) rfl ?_
    cases h
    exact m_rv (by decide +kernel)
  · exact m_cx (q := (84, .invokevirtual 84, 3, 32, 0)) (a := 32) (vs := [.ref 3]) (st := []) (d1 := 0) (by decide +kernel) (by decide +kernel) rfl rfl rfl rfl (by decide) (Fr32_3 e23)
def f2_62 (n : Nat) (x1 : Int32) (g : mG) : mZ := m_cv (f3 n (g.1 5) g) (fun g16 => f2_70 n x1 g16)
theorem Fr2_62 {x1 : Int32} {g g' : mG} {o : mO} (h : f2_62 n x1 g = some (o, g')) : m_Run X (2) (m_ko o) 2 62 [(0, .ref 1), (1, .int x1)] [] (hO 8 g) o (hO 8 g') := by
  unfold f2_62 at h
  refine m_go (L := [(62, .aload_n 0, 1, 0, 0), (63, .aload_n 0, 1, 0, 0), (64, .getfield 25, 3, 0, 2)]) (pc1 := 67) (lv1 := [(0, .ref 1), (1, .int x1)]) (st1 := [.int (g.1 5), .ref 1]) (h1 := hO 8 g) (by decide +kernel) rfl ?_
  rcases m_cv_inv h with ⟨g16, e18, h⟩ | ⟨y19, g16, e18, rfl, rfl⟩
  · refine m_ca (q := (67, .invokevirtual 77, 3, 3, 1)) (a := 3) (vs := [.ref 1, .int (g.1 5)]) (st := []) (d1 := 1) (by decide +kernel) rfl rfl rfl rfl (by decide) (Fr3 e18) ?_
    show m_Run X _ _ 2 70 [(0, .ref 1), (1, .int x1)] [] (hO 8 g16) _ _
    exact m_r0 _ _ _ _ _ _ _ _ _ _ (m_pick [0, 1] rfl) (Fr2_70 h)
  · exact m_cx (q := (67, .invokevirtual 77, 3, 3, 1)) (a := 3) (vs := [.ref 1, .int (g.1 5)]) (st := []) (d1 := 1) (by decide +kernel) (by decide +kernel) rfl rfl rfl rfl (by decide) (Fr3 e18)
def f2 (n : Nat) (g : mG) : mZ := m_ci (f1 n g) (fun v2 g1 => if ¬ v2 = (25 : Int32) then f2_23 n g1 else if (g.1 13) < (8 : Int32) then m_ci (f1 n (gI g1 5 ((g1.1 5) + (1 : Int32)))) (fun v12 g11 => if ¬ v12 = (2 : Int32) then f2_62 n (g.1 13) g11 else m_ci (f4 n (g11.1 5) g11) (fun v26 g25 => if v26 = (-1 : Int32) then f2_70 n (g.1 13) g25 else f2_62 n (g.1 13) g25)) else f2_23 n g1)
theorem Fr2 {g g' : mG} {o : mO} (h : f2 n g = some (o, g')) : m_Run X (2) (m_ko o) 2 0 [(0, .ref 1)] [] (hO 8 g) o (hO 8 g') := by
  unfold f2 at h
  refine m_go (L := [(0, .aload_n 0, 1, 0, 0), (1, .getfield 21, 3, 0, 1), (4, .getfield 74, 3, 1, 5), (7, .istore_n 1, 1, 0, 0), (8, .aload_n 0, 1, 0, 0)]) (pc1 := 9) (lv1 := [(0, .ref 1), (1, .int (g.1 13))]) (st1 := [.ref 1]) (h1 := hO 8 g) (by decide +kernel) rfl ?_
  rcases m_ci_inv h with ⟨v2, g1, e3, h⟩ | ⟨y4, g1, e3, rfl, rfl⟩
  · refine m_ca (q := (9, .invokevirtual 52, 3, 1, 0)) (a := 1) (vs := [.ref 1]) (st := []) (d1 := 1) (by decide +kernel) rfl rfl rfl rfl (by decide) (Fr1 e3) ?_
    show m_Run X _ _ 2 12 [(0, .ref 1), (1, .int (g.1 13))] [.int v2] (hO 8 g1) _ _
    refine m_gob (c := ¬ v2 = (25 : Int32)) (t := 23) (f := 17) (L := [(12, .bipush 25, 2, 0, 0), (14, .if_icmp .ne 9, 3, 0, 0)]) (lv1 := [(0, .ref 1), (1, .int (g.1 13))]) (st1 := []) (h1 := hO 8 g1) (by decide +kernel) rfl (fun c5 => ?_) (fun c5 => ?_)
    · rw [if_pos c5] at h
      exact m_r0 _ _ _ _ _ _ _ _ _ _ (m_pick [0] rfl) (Fr2_23 h)
    · rw [if_neg c5] at h
      refine m_gob (c := (g.1 13) < (8 : Int32)) (t := 32) (f := 23) (L := [(17, .iload_n 1, 1, 0, 0), (18, .bipush 8, 2, 0, 0), (20, .if_icmp .lt 12, 3, 0, 0)]) (lv1 := [(0, .ref 1), (1, .int (g.1 13))]) (st1 := []) (h1 := hO 8 g1) (by decide +kernel) rfl (fun c10 => ?_) (fun c10 => ?_)
      · rw [if_pos c10] at h
        refine m_go (L := [(32, .aload_n 0, 1, 0, 0), (33, .dup, 1, 0, 0), (34, .getfield 25, 3, 0, 2), (37, .iconst 1, 1, 0, 0), (38, .iadd, 1, 0, 0), (39, .putfield 25, 3, 0, 2), (42, .aload_n 0, 1, 0, 0)]) (pc1 := 43) (lv1 := [(0, .ref 1), (1, .int (g.1 13))]) (st1 := [.ref 1]) (h1 := hO 8 (gI g1 5 ((g1.1 5) + (1 : Int32)))) (by decide +kernel) rfl ?_
        rcases m_ci_inv h with ⟨v12, g11, e13, h⟩ | ⟨y14, g11, e13, rfl, rfl⟩
        · refine m_ca (q := (43, .invokevirtual 52, 3, 1, 0)) (a := 1) (vs := [.ref 1]) (st := []) (d1 := 1) (by decide +kernel) rfl rfl rfl rfl (by decide) (Fr1 e13) ?_
          show m_Run X _ _ 2 46 [(0, .ref 1), (1, .int (g.1 13))] [.int v12] (hO 8 g11) _ _
          refine m_gob (c := ¬ v12 = (2 : Int32)) (t := 62) (f := 50) (L := [(46, .iconst 2, 1, 0, 0), (47, .if_icmp .ne 15, 3, 0, 0)]) (lv1 := [(0, .ref 1), (1, .int (g.1 13))]) (st1 := []) (h1 := hO 8 g11) (by decide +kernel) rfl (fun c15 => ?_) (fun c15 => ?_)
          · rw [if_pos c15] at h
            exact m_r0 _ _ _ _ _ _ _ _ _ _ (m_pick [0, 1] rfl) (Fr2_62 h)
          · rw [if_neg c15] at h
            refine m_go (L := [(50, .aload_n 0, 1, 0, 0), (51, .aload_n 0, 1, 0, 0), (52, .getfield 25, 3, 0, 2)]) (pc1 := 55) (lv1 := [(0, .ref 1), (1, .int (g.1 13))]) (st1 := [.int (g11.1 5), .ref 1]) (h1 := hO 8 g11) (by decide +kernel) rfl ?_
            rcases m_ci_inv h with ⟨v26, g25, e27, h⟩ | ⟨y28, g25, e27, rfl, rfl⟩
            · refine m_ca (q := (55, .invokevirtual 80, 3, 4, 1)) (a := 4) (vs := [.ref 1, .int (g11.1 5)]) (st := []) (d1 := 1) (by decide +kernel) rfl rfl rfl rfl (by decide) (Fr4 e27) ?_
              show m_Run X _ _ 2 58 [(0, .ref 1), (1, .int (g.1 13))] [.int v26] (hO 8 g25) _ _
              refine m_gob (c := v26 = (-1 : Int32)) (t := 70) (f := 62) (L := [(58, .iconst (-1), 1, 0, 0), (59, .if_icmp .eq 11, 3, 0, 0)]) (lv1 := [(0, .ref 1), (1, .int (g.1 13))]) (st1 := []) (h1 := hO 8 g25) (by decide +kernel) rfl (fun c29 => ?_) (fun c29 => ?_)
              · rw [if_pos c29] at h
                exact m_r0 _ _ _ _ _ _ _ _ _ _ (m_pick [0, 1] rfl) (Fr2_70 h)
              · rw [if_neg c29] at h
                exact m_r0 _ _ _ _ _ _ _ _ _ _ (m_pick [0, 1] rfl) (Fr2_62 h)
            · exact m_cx (q := (55, .invokevirtual 80, 3, 4, 1)) (a := 4) (vs := [.ref 1, .int (g11.1 5)]) (st := []) (d1 := 1) (by decide +kernel) (by decide +kernel) rfl rfl rfl rfl (by decide) (Fr4 e27)
        · exact m_cx (q := (43, .invokevirtual 52, 3, 1, 0)) (a := 1) (vs := [.ref 1]) (st := []) (d1 := 1) (by decide +kernel) (by decide +kernel) rfl rfl rfl rfl (by decide) (Fr1 e13)
      · rw [if_neg c10] at h
        exact m_r0 _ _ _ _ _ _ _ _ _ _ (m_pick [0] rfl) (Fr2_23 h)
  · exact m_cx (q := (9, .invokevirtual 52, 3, 1, 0)) (a := 1) (vs := [.ref 1]) (st := []) (d1 := 1) (by decide +kernel) (by decide +kernel) rfl rfl rfl rfl (by decide) (Fr1 e3)
def f33_3 (n : Nat) (g : mG) : mZ := if (g.1 13) ≤ 0 then some (.inl none, g) else if ((g.1 13) - (1 : Int32)) < 0 ∨ 8 ≤ Int32.toNatClampNeg ((g.1 13) - (1 : Int32)) then none else if ((g.1 13) - (1 : Int32)) < 0 ∨ 8 ≤ Int32.toNatClampNeg ((g.1 13) - (1 : Int32)) then none else some (.inl none, (gS g 20 (upd (g.2.1 20) (Int32.toNatClampNeg ((g.1 13) - (1 : Int32))) (((g.2.1 20) (Int32.toNatClampNeg ((g.1 13) - (1 : Int32)))) + (1 : Int32)))))
theorem Fr33_3 {R : Nat} {g g' : mG} {o : mO} (h : f33_3 n g = some (o, g')) : m_Run X (0) (m_ko o) 33 0 [(0, .ref 3)] [] (hO R g) o (hO R g') := by
  unfold f33_3 at h
  refine m_gob (c := (g.1 13) ≤ 0) (t := 22) (f := 7) (L := [(0, .aload_n 0, 1, 0, 0), (1, .getfield 28, 3, 1, 5), (4, .ifCond .le 18, 3, 0, 0)]) (lv1 := [(0, .ref 3)]) (st1 := []) (h1 := hO R g) (by decide +kernel) rfl (fun c1 => ?_) (fun c1 => ?_)
  · rw [if_pos c1] at h
    cases h
    exact m_rv (by decide +kernel)
  · rw [if_neg c1] at h
    refine m_go (L := [(7, .aload_n 0, 1, 0, 0), (8, .getfield 25, 3, 1, 4), (11, .aload_n 0, 1, 0, 0), (12, .getfield 28, 3, 1, 5), (15, .iconst 1, 1, 0, 0), (16, .isub, 1, 0, 0), (17, .dup2, 1, 0, 0)]) (pc1 := 18) (lv1 := [(0, .ref 3)]) (st1 := [.int ((g.1 13) - (1 : Int32)), .ref 20, .int ((g.1 13) - (1 : Int32)), .ref 20]) (h1 := hO R g) (by decide +kernel) rfl ?_
    obtain ⟨c2, h⟩ := m_ifn_inv h
    refine m_go1 (q := (18, .iaload, 1, 0, 0)) (pc1 := 19) (lv1 := [(0, .ref 3)]) (st1 := [.int ((g.2.1 20) (Int32.toNatClampNeg ((g.1 13) - (1 : Int32)))), .int ((g.1 13) - (1 : Int32)), .ref 20]) (h1 := hO R g) (by decide +kernel) (if_neg c2) ?_
    refine m_go (L := [(19, .iconst 1, 1, 0, 0), (20, .iadd, 1, 0, 0)]) (pc1 := 21) (lv1 := [(0, .ref 3)]) (st1 := [.int (((g.2.1 20) (Int32.toNatClampNeg ((g.1 13) - (1 : Int32)))) + (1 : Int32)), .int ((g.1 13) - (1 : Int32)), .ref 20]) (h1 := hO R g) (by decide +kernel) rfl ?_
    obtain ⟨c3, h⟩ := m_ifn_inv h
    refine m_go1 (q := (21, .iastore, 1, 0, 0)) (pc1 := 22) (lv1 := [(0, .ref 3)]) (st1 := []) (h1 := hO R (gS g 20 (upd (g.2.1 20) (Int32.toNatClampNeg ((g.1 13) - (1 : Int32))) (((g.2.1 20) (Int32.toNatClampNeg ((g.1 13) - (1 : Int32)))) + (1 : Int32))))) (by decide +kernel) (if_neg c3) ?_
    cases h
    exact m_rv (by decide +kernel)
def f7 (n : Nat) (g : mG) : mZ := m_cv (f8 n g) (fun g1 => m_cv (f10 n (g1.1 5) (0 : Int32) g1) (fun g5 => m_cv (f33_3 n g5) (fun g9 => some (.inl none, (gI g9 5 ((g9.1 5) + (1 : Int32)))))))
theorem Fr7 {g g' : mG} {o : mO} (h : f7 n g = some (o, g')) : m_Run X (3) (m_ko o) 7 0 [(0, .ref 1)] [] (hO 8 g) o (hO 8 g') := by
  unfold f7 at h
  refine m_go (L := [(0, .aload_n 0, 1, 0, 0)]) (pc1 := 1) (lv1 := [(0, .ref 1)]) (st1 := [.ref 1]) (h1 := hO 8 g) (by decide +kernel) rfl ?_
  rcases m_cv_inv h with ⟨g1, e3, h⟩ | ⟨y4, g1, e3, rfl, rfl⟩
  · refine m_ca (q := (1, .invokevirtual 93, 3, 8, 0)) (a := 8) (vs := [.ref 1]) (st := []) (d1 := 2) (by decide +kernel) rfl rfl rfl rfl (by decide) (Fr8 e3) ?_
    show m_Run X _ _ 7 4 [(0, .ref 1)] [] (hO 8 g1) _ _
    refine m_go (L := [(4, .aload_n 0, 1, 0, 0), (5, .aload_n 0, 1, 0, 0), (6, .getfield 25, 3, 0, 2), (9, .iconst 0, 1, 0, 0)]) (pc1 := 10) (lv1 := [(0, .ref 1)]) (st1 := [.int (0 : Int32), .int (g1.1 5), .ref 1]) (h1 := hO 8 g1) (by decide +kernel) rfl ?_
    rcases m_cv_inv h with ⟨g5, e7, h⟩ | ⟨y8, g5, e7, rfl, rfl⟩
    · refine m_ca (q := (10, .invokevirtual 96, 3, 10, 2)) (a := 10) (vs := [.ref 1, .int (g1.1 5), .int (0 : Int32)]) (st := []) (d1 := 0) (by decide +kernel) rfl rfl rfl rfl (by decide) (Fr10 e7) ?_
      show m_Run X _ _ 7 13 [(0, .ref 1)] [] (hO 8 g5) _ _
      refine m_go (L := [(13, .aload_n 0, 1, 0, 0), (14, .getfield 21, 3, 0, 1)]) (pc1 := 17) (lv1 := [(0, .ref 1)]) (st1 := [.ref 3]) (h1 := hO 8 g5) (by decide +kernel) rfl ?_
      rcases m_cv_inv h with ⟨g9, e11, h⟩ | ⟨y12, g9, e11, rfl, rfl⟩
      · refine m_ca (q := (17, .invokevirtual 100, 3, 33, 0)) (a := 33) (vs := [.ref 3]) (st := []) (d1 := 0) (by decide +kernel) rfl rfl rfl rfl (by decide) (Fr33_3 e11) ?_
        show m_Run X _ _ 7 20 [(0, .ref 1)] [] (hO 8 g9) _ _
        refine m_go (L := [(20, .aload_n 0, 1, 0, 0), (21, .dup, 1, 0, 0), (22, .getfield 25, 3, 0, 2), (25, .iconst 1, 1, 0, 0), (26, .iadd, 1, 0, 0), (27, .putfield 25, 3, 0, 2)]) (pc1 := 30) (lv1 := [(0, .ref 1)]) (st1 := []) (h1 := hO 8 (gI g9 5 ((g9.1 5) + (1 : Int32)))) (by decide +kernel) rfl ?_
        cases h
        exact m_rv (by decide +kernel)
      · exact m_cx (q := (17, .invokevirtual 100, 3, 33, 0)) (a := 33) (vs := [.ref 3]) (st := []) (d1 := 0) (by decide +kernel) (by decide +kernel) rfl rfl rfl rfl (by decide) (Fr33_3 e11)
    · exact m_cx (q := (10, .invokevirtual 96, 3, 10, 2)) (a := 10) (vs := [.ref 1, .int (g1.1 5), .int (0 : Int32)]) (st := []) (d1 := 0) (by decide +kernel) (by decide +kernel) rfl rfl rfl rfl (by decide) (Fr10 e7)
  · exact m_cx (q := (1, .invokevirtual 93, 3, 8, 0)) (a := 8) (vs := [.ref 1]) (st := []) (d1 := 2) (by decide +kernel) (by decide +kernel) rfl rfl rfl rfl (by decide) (Fr8 e3)
def f5_53 (n : Nat) (g : mG) : mZ := m_cv (f6 n (5 : Int32) g) (fun g10 => some (.inl none, g10))
theorem Fr5_53 {g g' : mG} {o : mO} (h : f5_53 n g = some (o, g')) : m_Run X (4) (m_ko o) 5 53 [(0, .ref 1)] [] (hO 8 g) o (hO 8 g') := by
  unfold f5_53 at h
  refine m_go (L := [(53, .aload_n 0, 1, 0, 0), (54, .iconst 5, 1, 0, 0)]) (pc1 := 55) (lv1 := [(0, .ref 1)]) (st1 := [.int (5 : Int32), .ref 1]) (h1 := hO 8 g) (by decide +kernel) rfl ?_
  rcases m_cv_inv h with ⟨g10, e12, h⟩ | ⟨y13, g10, e12, rfl, rfl⟩
  · refine m_ca (q := (55, .invokevirtual 87, 3, 6, 1)) (a := 6) (vs := [.ref 1, .int (5 : Int32)]) (st := []) (d1 := 2) (by decide +kernel) rfl rfl rfl rfl (by decide) (Fr6 e12) ?_
    show m_Run X _ _ 5 58 [(0, .ref 1)] [] (hO 8 g10) _ _
    cases h
    exact m_rv (by decide +kernel)
  · exact m_cx (q := (55, .invokevirtual 87, 3, 6, 1)) (a := 6) (vs := [.ref 1, .int (5 : Int32)]) (st := []) (d1 := 2) (by decide +kernel) (by decide +kernel) rfl rfl rfl rfl (by decide) (Fr6 e12)
def f5_19 (n : Nat) : Nat → Int32 → mG → mZ
  | 0, _, _ => none
  | c + 1, x1, g => if (3 : Int32) ≤ x1 then f5_53 n g else m_ci (f1 n g) (fun v20 g19 => if ¬ v20 = (10 : Int32) then f5_53 n g19 else m_cv (f7 n (gI g19 5 ((g19.1 5) + (1 : Int32)))) (fun g24 => f5_19 n c (x1 + (1 : Int32)) g24))
set_option maxRecDepth 20000 in
theorem Fr5_19 : ∀ (c : Nat) (x1 : Int32) (g g' : mG) (o : mO), f5_19 n c x1 g = some (o, g') → m_Run X (4) (m_ko o) 5 19 [(0, .ref 1), (1, .int x1)] [] (hO 8 g) o (hO 8 g') := by
  intro c
  induction c with
  | zero => intro x1 g g' o h; rw [f5_19] at h; cases h
  | succ c ih =>
    intro x1 g g' o h
    rw [f5_19] at h
    refine m_gob (c := (3 : Int32) ≤ x1) (t := 53) (f := 24) (L := [(19, .iload_n 1, 1, 0, 0), (20, .iconst 3, 1, 0, 0), (21, .if_icmp .ge 32, 3, 0, 0)]) (lv1 := [(0, .ref 1), (1, .int x1)]) (st1 := []) (h1 := hO 8 g) (by decide +kernel) rfl (fun c18 => ?_) (fun c18 => ?_)
    · rw [if_pos c18] at h
      exact m_r0 _ _ _ _ _ _ _ _ _ _ (m_pick [0] rfl) (Fr5_53 h)
    · rw [if_neg c18] at h
      refine m_go (L := [(24, .aload_n 0, 1, 0, 0)]) (pc1 := 25) (lv1 := [(0, .ref 1), (1, .int x1)]) (st1 := [.ref 1]) (h1 := hO 8 g) (by decide +kernel) rfl ?_
      rcases m_ci_inv h with ⟨v20, g19, e21, h⟩ | ⟨y22, g19, e21, rfl, rfl⟩
      · refine m_ca (q := (25, .invokevirtual 52, 3, 1, 0)) (a := 1) (vs := [.ref 1]) (st := []) (d1 := 1) (by decide +kernel) rfl rfl rfl rfl (by decide) (Fr1 e21) ?_
        show m_Run X _ _ 5 28 [(0, .ref 1), (1, .int x1)] [.int v20] (hO 8 g19) _ _
        refine m_gob (c := ¬ v20 = (10 : Int32)) (t := 53) (f := 33) (L := [(28, .bipush 10, 2, 0, 0), (30, .if_icmp .ne 23, 3, 0, 0)]) (lv1 := [(0, .ref 1), (1, .int x1)]) (st1 := []) (h1 := hO 8 g19) (by decide +kernel) rfl (fun c23 => ?_) (fun c23 => ?_)
        · rw [if_pos c23] at h
          exact m_r0 _ _ _ _ _ _ _ _ _ _ (m_pick [0] rfl) (Fr5_53 h)
        · rw [if_neg c23] at h
          refine m_go (L := [(33, .aload_n 0, 1, 0, 0), (34, .dup, 1, 0, 0), (35, .getfield 25, 3, 0, 2), (38, .iconst 1, 1, 0, 0), (39, .iadd, 1, 0, 0), (40, .putfield 25, 3, 0, 2), (43, .aload_n 0, 1, 0, 0)]) (pc1 := 44) (lv1 := [(0, .ref 1), (1, .int x1)]) (st1 := [.ref 1]) (h1 := hO 8 (gI g19 5 ((g19.1 5) + (1 : Int32)))) (by decide +kernel) rfl ?_
          rcases m_cv_inv h with ⟨g24, e26, h⟩ | ⟨y27, g24, e26, rfl, rfl⟩
          · refine m_ca (q := (44, .invokevirtual 90, 3, 7, 0)) (a := 7) (vs := [.ref 1]) (st := []) (d1 := 3) (by decide +kernel) rfl rfl rfl rfl (by decide) (Fr7 e26) ?_
            show m_Run X _ _ 5 47 [(0, .ref 1), (1, .int x1)] [] (hO 8 g24) _ _
            refine m_go (L := [(47, .iinc 1 1, 3, 0, 0), (50, .goto (-31), 3, 0, 0)]) (pc1 := 19) (lv1 := [(0, .ref 1), (1, .int (x1 + (1 : Int32)))]) (st1 := []) (h1 := hO 8 g24) (by decide +kernel) rfl ?_
            exact m_r0 _ _ _ _ _ _ _ _ _ _ (m_pick [0, 1] rfl) (ih _ _ _ _ h)
          · exact m_cx (q := (44, .invokevirtual 90, 3, 7, 0)) (a := 7) (vs := [.ref 1]) (st := []) (d1 := 3) (by decide +kernel) (by decide +kernel) rfl rfl rfl rfl (by decide) (Fr7 e26)
      · exact m_cx (q := (25, .invokevirtual 52, 3, 1, 0)) (a := 1) (vs := [.ref 1]) (st := []) (d1 := 1) (by decide +kernel) (by decide +kernel) rfl rfl rfl rfl (by decide) (Fr1 e21)
def f5 (n : Nat) (g : mG) : mZ := m_cv (f6 n (4 : Int32) g) (fun g1 => m_ci (f1 n g1) (fun v6 g5 => if ¬ v6 = (2 : Int32) then f5_53 n g5 else m_cv (f7 n g5) (fun g14 => f5_19 n n (1 : Int32) g14)))
theorem Fr5 {g g' : mG} {o : mO} (h : f5 n g = some (o, g')) : m_Run X (4) (m_ko o) 5 0 [(0, .ref 1)] [] (hO 8 g) o (hO 8 g') := by
  unfold f5 at h
  refine m_go (L := [(0, .aload_n 0, 1, 0, 0), (1, .iconst 4, 1, 0, 0)]) (pc1 := 2) (lv1 := [(0, .ref 1)]) (st1 := [.int (4 : Int32), .ref 1]) (h1 := hO 8 g) (by decide +kernel) rfl ?_
  rcases m_cv_inv h with ⟨g1, e3, h⟩ | ⟨y4, g1, e3, rfl, rfl⟩
  · refine m_ca (q := (2, .invokevirtual 87, 3, 6, 1)) (a := 6) (vs := [.ref 1, .int (4 : Int32)]) (st := []) (d1 := 2) (by decide +kernel) rfl rfl rfl rfl (by decide) (Fr6 e3) ?_
    show m_Run X _ _ 5 5 [(0, .ref 1)] [] (hO 8 g1) _ _
    refine m_go (L := [(5, .aload_n 0, 1, 0, 0)]) (pc1 := 6) (lv1 := [(0, .ref 1)]) (st1 := [.ref 1]) (h1 := hO 8 g1) (by decide +kernel) rfl ?_
    rcases m_ci_inv h with ⟨v6, g5, e7, h⟩ | ⟨y8, g5, e7, rfl, rfl⟩
    · refine m_ca (q := (6, .invokevirtual 52, 3, 1, 0)) (a := 1) (vs := [.ref 1]) (st := []) (d1 := 1) (by decide +kernel) rfl rfl rfl rfl (by decide) (Fr1 e7) ?_
      show m_Run X _ _ 5 9 [(0, .ref 1)] [.int v6] (hO 8 g5) _ _
      refine m_gob (c := ¬ v6 = (2 : Int32)) (t := 53) (f := 13) (L := [(9, .iconst 2, 1, 0, 0), (10, .if_icmp .ne 43, 3, 0, 0)]) (lv1 := [(0, .ref 1)]) (st1 := []) (h1 := hO 8 g5) (by decide +kernel) rfl (fun c9 => ?_) (fun c9 => ?_)
      · rw [if_pos c9] at h
        exact m_r0 _ _ _ _ _ _ _ _ _ _ (m_pick [0] rfl) (Fr5_53 h)
      · rw [if_neg c9] at h
        refine m_go (L := [(13, .aload_n 0, 1, 0, 0)]) (pc1 := 14) (lv1 := [(0, .ref 1)]) (st1 := [.ref 1]) (h1 := hO 8 g5) (by decide +kernel) rfl ?_
        rcases m_cv_inv h with ⟨g14, e16, h⟩ | ⟨y17, g14, e16, rfl, rfl⟩
        · refine m_ca (q := (14, .invokevirtual 90, 3, 7, 0)) (a := 7) (vs := [.ref 1]) (st := []) (d1 := 3) (by decide +kernel) rfl rfl rfl rfl (by decide) (Fr7 e16) ?_
          show m_Run X _ _ 5 17 [(0, .ref 1)] [] (hO 8 g14) _ _
          refine m_go (L := [(17, .iconst 1, 1, 0, 0), (18, .istore_n 1, 1, 0, 0)]) (pc1 := 19) (lv1 := [(0, .ref 1), (1, .int (1 : Int32))]) (st1 := []) (h1 := hO 8 g14) (by decide +kernel) rfl ?_
          exact m_r0 _ _ _ _ _ _ _ _ _ _ (m_pick [0, 1] rfl) (Fr5_19 _ _ _ _ _ h)
        · exact m_cx (q := (14, .invokevirtual 90, 3, 7, 0)) (a := 7) (vs := [.ref 1]) (st := []) (d1 := 3) (by decide +kernel) (by decide +kernel) rfl rfl rfl rfl (by decide) (Fr7 e16)
    · exact m_cx (q := (6, .invokevirtual 52, 3, 1, 0)) (a := 1) (vs := [.ref 1]) (st := []) (d1 := 1) (by decide +kernel) (by decide +kernel) rfl rfl rfl rfl (by decide) (Fr1 e7)
  · exact m_cx (q := (2, .invokevirtual 87, 3, 6, 1)) (a := 6) (vs := [.ref 1, .int (4 : Int32)]) (st := []) (d1 := 2) (by decide +kernel) (by decide +kernel) rfl rfl rfl rfl (by decide) (Fr6 e3)
def f0_28 (n : Nat) : Nat → Int32 → mG → mZ
  | 0, _, _ => none
  | c + 1, x3, g => if (8 : Int32) < x3 then some (.inl (some (.int (-1 : Int32))), g) else if x3 = 0 then m_tv (f2 n g) (fun g11 => m_tv (f5 n g11) (fun g15 => m_tv (m_P n 300 11 (0 : Int32) 0 0 g15) (fun g19 => m_ti (f34_3 n (42 : Int32) (0 : Int32) g19) (fun v24 g23 => f0_28 n c (x3 + (1 : Int32)) g23) (fun y26 g23 => if y26 = 0 then some (.inl (some (.int (g23.1 6))), g23) else none)) (fun y22 g19 => if y22 = 0 then some (.inl (some (.int (g19.1 6))), g19) else none)) (fun y18 g15 => if y18 = 0 then some (.inl (some (.int (g15.1 6))), g15) else none)) (fun y14 g11 => if y14 = 0 then some (.inl (some (.int (g11.1 6))), g11) else none) else m_ti (f1 n g) (fun v32 g31 => if v32 = 0 then some (.inl (some (.int (-1 : Int32))), g31) else m_tv (f2 n g31) (fun g36 => m_tv (f5 n g36) (fun g40 => m_tv (m_P n 300 11 (0 : Int32) 0 0 g40) (fun g44 => m_ti (f34_3 n (42 : Int32) (0 : Int32) g44) (fun v49 g48 => f0_28 n c (x3 + (1 : Int32)) g48) (fun y51 g48 => if y51 = 0 then some (.inl (some (.int (g48.1 6))), g48) else none)) (fun y47 g44 => if y47 = 0 then some (.inl (some (.int (g44.1 6))), g44) else none)) (fun y43 g40 => if y43 = 0 then some (.inl (some (.int (g40.1 6))), g40) else none)) (fun y39 g36 => if y39 = 0 then some (.inl (some (.int (g36.1 6))), g36) else none)) (fun y34 g31 => if y34 = 0 then some (.inl (some (.int (g31.1 6))), g31) else none)
set_option maxRecDepth 20000 in
theorem Fr0_28 : ∀ (c : Nat) (x3 : Int32) (g g' : mG) (o : mO), f0_28 n c x3 g = some (o, g') → m_Run X (331) (1) 0 28 [(0, .ref 1), (3, .int x3)] [] (hO 8 g) o (hO 8 g') := by
  intro c
  induction c with
  | zero => intro x3 g g' o h; rw [f0_28] at h; cases h
  | succ c ih =>
    intro x3 g g' o h
    rw [f0_28] at h
    refine m_gob (c := (8 : Int32) < x3) (t := 75) (f := 34) (L := [(28, .iload_n 3, 1, 0, 0), (29, .bipush 8, 2, 0, 0), (31, .if_icmp .gt 44, 3, 0, 0)]) (lv1 := [(0, .ref 1), (3, .int x3)]) (st1 := []) (h1 := hO 8 g) (by decide +kernel) rfl (fun c9 => ?_) (fun c9 => ?_)
    · rw [if_pos c9] at h
      refine m_go (L := [(75, .goto 9, 3, 0, 0), (84, .iconst (-1), 1, 0, 0)]) (pc1 := 85) (lv1 := [(0, .ref 1), (3, .int x3)]) (st1 := [.int (-1 : Int32)]) (h1 := hO 8 g) (by decide +kernel) rfl ?_
      cases h
      exact m_ri (by decide +kernel)
    · rw [if_neg c9] at h
      refine m_gob (c := x3 = 0) (t := 45) (f := 38) (L := [(34, .iload_n 3, 1, 0, 0), (35, .ifCond .eq 10, 3, 0, 0)]) (lv1 := [(0, .ref 1), (3, .int x3)]) (st1 := []) (h1 := hO 8 g) (by decide +kernel) rfl (fun c10 => ?_) (fun c10 => ?_)
      · rw [if_pos c10] at h
        refine m_go (L := [(45, .aload_n 0, 1, 0, 0)]) (pc1 := 46) (lv1 := [(0, .ref 1), (3, .int x3)]) (st1 := [.ref 1]) (h1 := hO 8 g) (by decide +kernel) rfl ?_
        rcases m_tv_inv h with ⟨g11, e13, h⟩ | ⟨y14, g11, e13, h⟩
        · refine m_ca (q := (46, .invokevirtual 56, 3, 2, 0)) (a := 2) (vs := [.ref 1]) (st := []) (d1 := 2) (by decide +kernel) rfl rfl rfl rfl (by decide) (Fr2 e13) ?_
          show m_Run X _ _ 0 49 [(0, .ref 1), (3, .int x3)] [] (hO 8 g11) _ _
          refine m_go (L := [(49, .aload_n 0, 1, 0, 0)]) (pc1 := 50) (lv1 := [(0, .ref 1), (3, .int x3)]) (st1 := [.ref 1]) (h1 := hO 8 g11) (by decide +kernel) rfl ?_
          rcases m_tv_inv h with ⟨g15, e17, h⟩ | ⟨y18, g15, e17, h⟩
          · refine m_ca (q := (50, .invokevirtual 59, 3, 5, 0)) (a := 5) (vs := [.ref 1]) (st := []) (d1 := 4) (by decide +kernel) rfl rfl rfl rfl (by decide) (Fr5 e17) ?_
            show m_Run X _ _ 0 53 [(0, .ref 1), (3, .int x3)] [] (hO 8 g15) _ _
            refine m_go (L := [(53, .aload_n 0, 1, 0, 0), (54, .iconst 0, 1, 0, 0)]) (pc1 := 55) (lv1 := [(0, .ref 1), (3, .int x3)]) (st1 := [.int (0 : Int32), .ref 1]) (h1 := hO 8 g15) (by decide +kernel) rfl ?_
            rcases m_tv_inv h with ⟨g19, e21, h⟩ | ⟨y22, g19, e21, h⟩
            · refine m_ca (q := (55, .invokevirtual 62, 3, 11, 1)) (a := 11) (vs := [.ref 1, .int (0 : Int32)]) (st := []) (d1 := 330) (by decide +kernel) rfl rfl rfl rfl (by decide) (m_P_ok 300 _ _ _ _ _ _ _ e21) ?_
              show m_Run X _ _ 0 58 [(0, .ref 1), (3, .int x3)] [] (hO 8 g19) _ _
              refine m_go (L := [(58, .aload_n 0, 1, 0, 0), (59, .getfield 21, 3, 0, 1), (62, .bipush 42, 2, 0, 0), (64, .iconst 0, 1, 0, 0)]) (pc1 := 65) (lv1 := [(0, .ref 1), (3, .int x3)]) (st1 := [.int (0 : Int32), .int (42 : Int32), .ref 3]) (h1 := hO 8 g19) (by decide +kernel) rfl ?_
              rcases m_ti_inv h with ⟨v24, g23, e25, h⟩ | ⟨y26, g23, e25, h⟩
              · refine m_ca (q := (65, .invokevirtual 68, 3, 34, 2)) (a := 34) (vs := [.ref 3, .int (42 : Int32), .int (0 : Int32)]) (st := []) (d1 := 0) (by decide +kernel) rfl rfl rfl rfl (by decide) (Fr34_3 e25) ?_
                show m_Run X _ _ 0 68 [(0, .ref 1), (3, .int x3)] [.int v24] (hO 8 g23) _ _
                refine m_go (L := [(68, .pop, 1, 0, 0), (69, .iinc 3 1, 3, 0, 0), (72, .goto (-44), 3, 0, 0)]) (pc1 := 28) (lv1 := [(0, .ref 1), (3, .int (x3 + (1 : Int32)))]) (st1 := []) (h1 := hO 8 g23) (by decide +kernel) rfl ?_
                exact m_r0 _ _ _ _ _ _ _ _ _ _ (m_pick [0, 1] rfl) (ih _ _ _ _ h)
              · skip
                by_cases c27 : y26 = 0
                · rw [if_pos c27] at h
                  subst c27
                  refine m_ct (q := (65, .invokevirtual 68, 3, 34, 2)) (a := 34) (vs := [.ref 3, .int (42 : Int32), .int (0 : Int32)]) (st := []) (d1 := 0) (x := 0) (hp := 78) (i := 3) (len := 1) (by decide +kernel) (by decide +kernel) rfl rfl rfl rfl (by decide) (Fr34_3 e25) rfl ?_
                  show m_Run X _ _ 0 79 [(0, .ref 1)] [] (hO 8 g23) _ _
                  refine m_go (L := [(79, .aload_n 0, 1, 0, 0), (80, .getfield 29, 3, 0, 3)]) (pc1 := 83) (lv1 := [(0, .ref 1)]) (st1 := [.int (g23.1 6)]) (h1 := hO 8 g23) (by decide +kernel) rfl ?_
                  cases h
                  exact m_ri (by decide +kernel)
                · rw [if_neg c27] at h
                  cases h
            · skip
              by_cases c28 : y22 = 0
              · rw [if_pos c28] at h
                subst c28
                refine m_ct (q := (55, .invokevirtual 62, 3, 11, 1)) (a := 11) (vs := [.ref 1, .int (0 : Int32)]) (st := []) (d1 := 330) (x := 0) (hp := 78) (i := 3) (len := 1) (by decide +kernel) (by decide +kernel) rfl rfl rfl rfl (by decide) (m_P_ok 300 _ _ _ _ _ _ _ e21) rfl ?_
                show m_Run X _ _ 0 79 [(0, .ref 1)] [] (hO 8 g19) _ _
                refine m_go (L := [(79, .aload_n 0, 1, 0, 0), (80, .getfield 29, 3, 0, 3)]) (pc1 := 83) (lv1 := [(0, .ref 1)]) (st1 := [.int (g19.1 6)]) (h1 := hO 8 g19) (by decide +kernel) rfl ?_
                cases h
                exact m_ri (by decide +kernel)
              · rw [if_neg c28] at h
                cases h
          · skip
            by_cases c29 : y18 = 0
            · rw [if_pos c29] at h
              subst c29
              refine m_ct (q := (50, .invokevirtual 59, 3, 5, 0)) (a := 5) (vs := [.ref 1]) (st := []) (d1 := 4) (x := 0) (hp := 78) (i := 3) (len := 1) (by decide +kernel) (by decide +kernel) rfl rfl rfl rfl (by decide) (Fr5 e17) rfl ?_
              show m_Run X _ _ 0 79 [(0, .ref 1)] [] (hO 8 g15) _ _
              refine m_go (L := [(79, .aload_n 0, 1, 0, 0), (80, .getfield 29, 3, 0, 3)]) (pc1 := 83) (lv1 := [(0, .ref 1)]) (st1 := [.int (g15.1 6)]) (h1 := hO 8 g15) (by decide +kernel) rfl ?_
              cases h
              exact m_ri (by decide +kernel)
            · rw [if_neg c29] at h
              cases h
        · skip
          by_cases c30 : y14 = 0
          · rw [if_pos c30] at h
            subst c30
            refine m_ct (q := (46, .invokevirtual 56, 3, 2, 0)) (a := 2) (vs := [.ref 1]) (st := []) (d1 := 2) (x := 0) (hp := 78) (i := 3) (len := 1) (by decide +kernel) (by decide +kernel) rfl rfl rfl rfl (by decide) (Fr2 e13) rfl ?_
            show m_Run X _ _ 0 79 [(0, .ref 1)] [] (hO 8 g11) _ _
            refine m_go (L := [(79, .aload_n 0, 1, 0, 0), (80, .getfield 29, 3, 0, 3)]) (pc1 := 83) (lv1 := [(0, .ref 1)]) (st1 := [.int (g11.1 6)]) (h1 := hO 8 g11) (by decide +kernel) rfl ?_
            cases h
            exact m_ri (by decide +kernel)
          · rw [if_neg c30] at h
            cases h
      · rw [if_neg c10] at h
        refine m_go (L := [(38, .aload_n 0, 1, 0, 0)]) (pc1 := 39) (lv1 := [(0, .ref 1), (3, .int x3)]) (st1 := [.ref 1]) (h1 := hO 8 g) (by decide +kernel) rfl ?_
        rcases m_ti_inv h with ⟨v32, g31, e33, h⟩ | ⟨y34, g31, e33, h⟩
        · refine m_ca (q := (39, .invokevirtual 52, 3, 1, 0)) (a := 1) (vs := [.ref 1]) (st := []) (d1 := 1) (by decide +kernel) rfl rfl rfl rfl (by decide) (Fr1 e33) ?_
          show m_Run X _ _ 0 42 [(0, .ref 1), (3, .int x3)] [.int v32] (hO 8 g31) _ _
          refine m_gob (c := v32 = 0) (t := 75) (f := 45) (L := [(42, .ifCond .eq 33, 3, 0, 0)]) (lv1 := [(0, .ref 1), (3, .int x3)]) (st1 := []) (h1 := hO 8 g31) (by decide +kernel) rfl (fun c35 => ?_) (fun c35 => ?_)
          · rw [if_pos c35] at h
            refine m_go (L := [(75, .goto 9, 3, 0, 0), (84, .iconst (-1), 1, 0, 0)]) (pc1 := 85) (lv1 := [(0, .ref 1), (3, .int x3)]) (st1 := [.int (-1 : Int32)]) (h1 := hO 8 g31) (by decide +kernel) rfl ?_
            cases h
            exact m_ri (by decide +kernel)
          · rw [if_neg c35] at h
            refine m_go (L := [(45, .aload_n 0, 1, 0, 0)]) (pc1 := 46) (lv1 := [(0, .ref 1), (3, .int x3)]) (st1 := [.ref 1]) (h1 := hO 8 g31) (by decide +kernel) rfl ?_
            rcases m_tv_inv h with ⟨g36, e38, h⟩ | ⟨y39, g36, e38, h⟩
            · refine m_ca (q := (46, .invokevirtual 56, 3, 2, 0)) (a := 2) (vs := [.ref 1]) (st := []) (d1 := 2) (by decide +kernel) rfl rfl rfl rfl (by decide) (Fr2 e38) ?_
              show m_Run X _ _ 0 49 [(0, .ref 1), (3, .int x3)] [] (hO 8 g36) _ _
              refine m_go (L := [(49, .aload_n 0, 1, 0, 0)]) (pc1 := 50) (lv1 := [(0, .ref 1), (3, .int x3)]) (st1 := [.ref 1]) (h1 := hO 8 g36) (by decide +kernel) rfl ?_
              rcases m_tv_inv h with ⟨g40, e42, h⟩ | ⟨y43, g40, e42, h⟩
              · refine m_ca (q := (50, .invokevirtual 59, 3, 5, 0)) (a := 5) (vs := [.ref 1]) (st := []) (d1 := 4) (by decide +kernel) rfl rfl rfl rfl (by decide) (Fr5 e42) ?_
                show m_Run X _ _ 0 53 [(0, .ref 1), (3, .int x3)] [] (hO 8 g40) _ _
                refine m_go (L := [(53, .aload_n 0, 1, 0, 0), (54, .iconst 0, 1, 0, 0)]) (pc1 := 55) (lv1 := [(0, .ref 1), (3, .int x3)]) (st1 := [.int (0 : Int32), .ref 1]) (h1 := hO 8 g40) (by decide +kernel) rfl ?_
                rcases m_tv_inv h with ⟨g44, e46, h⟩ | ⟨y47, g44, e46, h⟩
                · refine m_ca (q := (55, .invokevirtual 62, 3, 11, 1)) (a := 11) (vs := [.ref 1, .int (0 : Int32)]) (st := []) (d1 := 330) (by decide +kernel) rfl rfl rfl rfl (by decide) (m_P_ok 300 _ _ _ _ _ _ _ e46) ?_
                  show m_Run X _ _ 0 58 [(0, .ref 1), (3, .int x3)] [] (hO 8 g44) _ _
                  refine m_go (L := [(58, .aload_n 0, 1, 0, 0), (59, .getfield 21, 3, 0, 1), (62, .bipush 42, 2, 0, 0), (64, .iconst 0, 1, 0, 0)]) (pc1 := 65) (lv1 := [(0, .ref 1), (3, .int x3)]) (st1 := [.int (0 : Int32), .int (42 : Int32), .ref 3]) (h1 := hO 8 g44) (by decide +kernel) rfl ?_
                  rcases m_ti_inv h with ⟨v49, g48, e50, h⟩ | ⟨y51, g48, e50, h⟩
                  · refine m_ca (q := (65, .invokevirtual 68, 3, 34, 2)) (a := 34) (vs := [.ref 3, .int (42 : Int32), .int (0 : Int32)]) (st := []) (d1 := 0) (by decide +kernel) rfl rfl rfl rfl (by decide) (Fr34_3 e50) ?_
                    show m_Run X _ _ 0 68 [(0, .ref 1), (3, .int x3)] [.int v49] (hO 8 g48) _ _
                    refine m_go (L := [(68, .pop, 1, 0, 0), (69, .iinc 3 1, 3, 0, 0), (72, .goto (-44), 3, 0, 0)]) (pc1 := 28) (lv1 := [(0, .ref 1), (3, .int (x3 + (1 : Int32)))]) (st1 := []) (h1 := hO 8 g48) (by decide +kernel) rfl ?_
                    exact m_r0 _ _ _ _ _ _ _ _ _ _ (m_pick [0, 1] rfl) (ih _ _ _ _ h)
                  · skip
                    by_cases c52 : y51 = 0
                    · rw [if_pos c52] at h
                      subst c52
                      refine m_ct (q := (65, .invokevirtual 68, 3, 34, 2)) (a := 34) (vs := [.ref 3, .int (42 : Int32), .int (0 : Int32)]) (st := []) (d1 := 0) (x := 0) (hp := 78) (i := 3) (len := 1) (by decide +kernel) (by decide +kernel) rfl rfl rfl rfl (by decide) (Fr34_3 e50) rfl ?_
                      show m_Run X _ _ 0 79 [(0, .ref 1)] [] (hO 8 g48) _ _
                      refine m_go (L := [(79, .aload_n 0, 1, 0, 0), (80, .getfield 29, 3, 0, 3)]) (pc1 := 83) (lv1 := [(0, .ref 1)]) (st1 := [.int (g48.1 6)]) (h1 := hO 8 g48) (by decide +kernel) rfl ?_
                      cases h
                      exact m_ri (by decide +kernel)
                    · rw [if_neg c52] at h
                      cases h
                · skip
                  by_cases c53 : y47 = 0
                  · rw [if_pos c53] at h
                    subst c53
                    refine m_ct (q := (55, .invokevirtual 62, 3, 11, 1)) (a := 11) (vs := [.ref 1, .int (0 : Int32)]) (st := []) (d1 := 330) (x := 0) (hp := 78) (i := 3) (len := 1) (by decide +kernel) (by decide +kernel) rfl rfl rfl rfl (by decide) (m_P_ok 300 _ _ _ _ _ _ _ e46) rfl ?_
                    show m_Run X _ _ 0 79 [(0, .ref 1)] [] (hO 8 g44) _ _
                    refine m_go (L := [(79, .aload_n 0, 1, 0, 0), (80, .getfield 29, 3, 0, 3)]) (pc1 := 83) (lv1 := [(0, .ref 1)]) (st1 := [.int (g44.1 6)]) (h1 := hO 8 g44) (by decide +kernel) rfl ?_
                    cases h
                    exact m_ri (by decide +kernel)
                  · rw [if_neg c53] at h
                    cases h
              · skip
                by_cases c54 : y43 = 0
                · rw [if_pos c54] at h
                  subst c54
                  refine m_ct (q := (50, .invokevirtual 59, 3, 5, 0)) (a := 5) (vs := [.ref 1]) (st := []) (d1 := 4) (x := 0) (hp := 78) (i := 3) (len := 1) (by decide +kernel) (by decide +kernel) rfl rfl rfl rfl (by decide) (Fr5 e42) rfl ?_
                  show m_Run X _ _ 0 79 [(0, .ref 1)] [] (hO 8 g40) _ _
                  refine m_go (L := [(79, .aload_n 0, 1, 0, 0), (80, .getfield 29, 3, 0, 3)]) (pc1 := 83) (lv1 := [(0, .ref 1)]) (st1 := [.int (g40.1 6)]) (h1 := hO 8 g40) (by decide +kernel) rfl ?_
                  cases h
                  exact m_ri (by decide +kernel)
                · rw [if_neg c54] at h
                  cases h
            · skip
              by_cases c55 : y39 = 0
              · rw [if_pos c55] at h
                subst c55
                refine m_ct (q := (46, .invokevirtual 56, 3, 2, 0)) (a := 2) (vs := [.ref 1]) (st := []) (d1 := 2) (x := 0) (hp := 78) (i := 3) (len := 1) (by decide +kernel) (by decide +kernel) rfl rfl rfl rfl (by decide) (Fr2 e38) rfl ?_
                show m_Run X _ _ 0 79 [(0, .ref 1)] [] (hO 8 g36) _ _
                refine m_go (L := [(79, .aload_n 0, 1, 0, 0), (80, .getfield 29, 3, 0, 3)]) (pc1 := 83) (lv1 := [(0, .ref 1)]) (st1 := [.int (g36.1 6)]) (h1 := hO 8 g36) (by decide +kernel) rfl ?_
                cases h
                exact m_ri (by decide +kernel)
              · rw [if_neg c55] at h
                cases h
        · skip
          by_cases c56 : y34 = 0
          · rw [if_pos c56] at h
            subst c56
            refine m_ct (q := (39, .invokevirtual 52, 3, 1, 0)) (a := 1) (vs := [.ref 1]) (st := []) (d1 := 1) (x := 0) (hp := 78) (i := 3) (len := 1) (by decide +kernel) (by decide +kernel) rfl rfl rfl rfl (by decide) (Fr1 e33) rfl ?_
            show m_Run X _ _ 0 79 [(0, .ref 1)] [] (hO 8 g31) _ _
            refine m_go (L := [(79, .aload_n 0, 1, 0, 0), (80, .getfield 29, 3, 0, 3)]) (pc1 := 83) (lv1 := [(0, .ref 1)]) (st1 := [.int (g31.1 6)]) (h1 := hO 8 g31) (by decide +kernel) rfl ?_
            cases h
            exact m_ri (by decide +kernel)
          · rw [if_neg c56] at h
            cases h
def f0 (n : Nat) (x2 : Int32) (g : mG) : mZ := m_tv (f61 n x2 g) (fun g1 => m_tv (f31_3 n g1) (fun g5 => f0_28 n n (0 : Int32) (gI (gI g5 5 (0 : Int32)) 6 (-1 : Int32))) (fun _ _ => none)) (fun _ _ => none)
theorem Fr0 {R : Nat} {x2 : Int32} {g g' : mG} {o : mO} (h : f0 n x2 g = some (o, g')) : m_Run X (331) (1) 0 0 [(0, .ref 1), (1, .ref 8), (2, .int x2)] [] (hO R g) o (hO 8 g') := by
  unfold f0 at h
  refine m_go (L := [(0, .aload_n 0, 1, 0, 0), (1, .getfield 12, 3, 0, 0), (4, .aload_n 1, 1, 0, 0), (5, .iload_n 2, 1, 0, 0)]) (pc1 := 6) (lv1 := [(0, .ref 1), (1, .ref 8), (2, .int x2)]) (st1 := [.int x2, .ref 8, .ref 2]) (h1 := hO R g) (by decide +kernel) rfl ?_
  rcases m_tv_inv h with ⟨g1, e3, h⟩ | ⟨y4, g1, e3, h⟩
  · refine m_ca (q := (6, .invokevirtual 45, 3, 61, 2)) (a := 61) (vs := [.ref 2, .ref 8, .int x2]) (st := []) (d1 := 4) (by decide +kernel) rfl rfl rfl rfl (by decide) (Fr61 e3) ?_
    show m_Run X _ _ 0 9 [(0, .ref 1), (1, .ref 8), (2, .int x2)] [] (hO 8 g1) _ _
    refine m_go (L := [(9, .aload_n 0, 1, 0, 0), (10, .getfield 21, 3, 0, 1)]) (pc1 := 13) (lv1 := [(0, .ref 1), (1, .ref 8), (2, .int x2)]) (st1 := [.ref 3]) (h1 := hO 8 g1) (by decide +kernel) rfl ?_
    rcases m_tv_inv h with ⟨g5, e7, h⟩ | ⟨y8, g5, e7, h⟩
    · refine m_ca (q := (13, .invokevirtual 49, 3, 31, 0)) (a := 31) (vs := [.ref 3]) (st := []) (d1 := 0) (by decide +kernel) rfl rfl rfl rfl (by decide) (Fr31_3 e7) ?_
      show m_Run X _ _ 0 16 [(0, .ref 1), (1, .ref 8), (2, .int x2)] [] (hO 8 g5) _ _
      refine m_go (L := [(16, .aload_n 0, 1, 0, 0), (17, .iconst 0, 1, 0, 0), (18, .putfield 25, 3, 0, 2), (21, .aload_n 0, 1, 0, 0), (22, .iconst (-1), 1, 0, 0), (23, .putfield 29, 3, 0, 3), (26, .iconst 0, 1, 0, 0), (27, .istore_n 3, 1, 0, 0)]) (pc1 := 28) (lv1 := [(0, .ref 1), (1, .ref 8), (2, .int x2), (3, .int (0 : Int32))]) (st1 := []) (h1 := hO 8 (gI (gI g5 5 (0 : Int32)) 6 (-1 : Int32))) (by decide +kernel) rfl ?_
      exact m_r0 _ _ _ _ _ _ _ _ _ _ (m_pick [0, 3] rfl) (Fr0_28 _ _ _ _ _ h)
    · cases h
  · cases h
def f38_5_3 (n : Nat) (g : mG) : mZ := if ¬ (0 : Int32) < 0 ∧ ¬ (0 : Int32) < 0 ∧ ¬ (600 : Int32) < 0 ∧ (Int32.toNatClampNeg (0 : Int32)) + (Int32.toNatClampNeg (600 : Int32)) ≤ 600 ∧ (Int32.toNatClampNeg (0 : Int32)) + (Int32.toNatClampNeg (600 : Int32)) ≤ 600 then if ¬ (0 : Int32) < 0 ∧ ¬ (0 : Int32) < 0 ∧ ¬ (600 : Int32) < 0 ∧ (Int32.toNatClampNeg (0 : Int32)) + (Int32.toNatClampNeg (600 : Int32)) ≤ 600 ∧ (Int32.toNatClampNeg (0 : Int32)) + (Int32.toNatClampNeg (600 : Int32)) ≤ 600 then if ¬ (0 : Int32) < 0 ∧ ¬ (0 : Int32) < 0 ∧ ¬ (8 : Int32) < 0 ∧ (Int32.toNatClampNeg (0 : Int32)) + (Int32.toNatClampNeg (8 : Int32)) ≤ 8 ∧ (Int32.toNatClampNeg (0 : Int32)) + (Int32.toNatClampNeg (8 : Int32)) ≤ 8 then if ¬ (0 : Int32) < 0 ∧ ¬ (0 : Int32) < 0 ∧ ¬ (8 : Int32) < 0 ∧ (Int32.toNatClampNeg (0 : Int32)) + (Int32.toNatClampNeg (8 : Int32)) ≤ 8 ∧ (Int32.toNatClampNeg (0 : Int32)) + (Int32.toNatClampNeg (8 : Int32)) ≤ 8 then some (.inl none, (gS (gS (gS (gS (gI (gI g 20 (g.1 12)) 21 (g.1 13)) 21 (va_cpy (g.2.1 17) (g.2.1 21) (Int32.toNatClampNeg (0 : Int32)) (Int32.toNatClampNeg (0 : Int32)) (Int32.toNatClampNeg (600 : Int32)))) 22 (va_cpy (g.2.1 18) (g.2.1 22) (Int32.toNatClampNeg (0 : Int32)) (Int32.toNatClampNeg (0 : Int32)) (Int32.toNatClampNeg (600 : Int32)))) 23 (va_cpy (g.2.1 19) (g.2.1 23) (Int32.toNatClampNeg (0 : Int32)) (Int32.toNatClampNeg (0 : Int32)) (Int32.toNatClampNeg (8 : Int32)))) 24 (va_cpy (g.2.1 20) (g.2.1 24) (Int32.toNatClampNeg (0 : Int32)) (Int32.toNatClampNeg (0 : Int32)) (Int32.toNatClampNeg (8 : Int32))))) else none else none else none else none
theorem Fr38_5_3 {R : Nat} {g g' : mG} {o : mO} (h : f38_5_3 n g = some (o, g')) : m_Run X (0) (m_ko o) 38 0 [(0, .ref 5), (1, .ref 3)] [] (hO R g) o (hO R g') := by
  unfold f38_5_3 at h
  refine m_go (L := [(0, .aload_n 0, 1, 0, 0), (1, .aload_n 1, 1, 0, 0), (2, .getfield 18, 3, 1, 2), (5, .putfield 18, 3, 1, 2), (8, .aload_n 0, 1, 0, 0), (9, .aload_n 1, 1, 0, 0), (10, .getfield 28, 3, 1, 5), (13, .putfield 28, 3, 1, 5), (16, .aload_n 1, 1, 0, 0), (17, .getfield 9, 3, 1, 0), (20, .iconst 0, 1, 0, 0), (21, .aload_n 0, 1, 0, 0), (22, .getfield 9, 3, 1, 0), (25, .iconst 0, 1, 0, 0), (26, .sipush 600, 3, 0, 0)]) (pc1 := 29) (lv1 := [(0, .ref 5), (1, .ref 3)]) (st1 := [.int (600 : Int32), .int (0 : Int32), .ref 21, .int (0 : Int32), .ref 17]) (h1 := hO R (gI (gI g 20 (g.1 12)) 21 (g.1 13))) (by decide +kernel) rfl ?_
  obtain ⟨⟨c1, c2, c3, c4, c5⟩, h⟩ := m_if_inv h
  refine m_r8 _ _ _ _ 31 17 21 600 600 _ [] _ _ _ _ _ _ _ _ (29, .invokestatic 31, 3, 1000, 5) (by decide +kernel) rfl rfl rfl rfl c1 c2 c3 c4 c5 (Nat.le_of_ble_eq_true rfl) ?_
  show m_Run X _ _ 38 32 [(0, .ref 5), (1, .ref 3)] [] (hO R (gS (gI (gI g 20 (g.1 12)) 21 (g.1 13)) 21 (va_cpy (g.2.1 17) (g.2.1 21) (Int32.toNatClampNeg (0 : Int32)) (Int32.toNatClampNeg (0 : Int32)) (Int32.toNatClampNeg (600 : Int32))))) _ _
  refine m_go (L := [(32, .aload_n 1, 1, 0, 0), (33, .getfield 15, 3, 1, 1), (36, .iconst 0, 1, 0, 0), (37, .aload_n 0, 1, 0, 0), (38, .getfield 15, 3, 1, 1), (41, .iconst 0, 1, 0, 0), (42, .sipush 600, 3, 0, 0)]) (pc1 := 45) (lv1 := [(0, .ref 5), (1, .ref 3)]) (st1 := [.int (600 : Int32), .int (0 : Int32), .ref 22, .int (0 : Int32), .ref 18]) (h1 := hO R (gS (gI (gI g 20 (g.1 12)) 21 (g.1 13)) 21 (va_cpy (g.2.1 17) (g.2.1 21) (Int32.toNatClampNeg (0 : Int32)) (Int32.toNatClampNeg (0 : Int32)) (Int32.toNatClampNeg (600 : Int32))))) (by decide +kernel) rfl ?_
  obtain ⟨⟨c1, c2, c3, c4, c5⟩, h⟩ := m_if_inv h
  refine m_r8 _ _ _ _ 31 18 22 600 600 _ [] _ _ _ _ _ _ _ _ (45, .invokestatic 31, 3, 1000, 5) (by decide +kernel) rfl rfl rfl rfl c1 c2 c3 c4 c5 (Nat.le_of_ble_eq_true rfl) ?_
  show m_Run X _ _ 38 48 [(0, .ref 5), (1, .ref 3)] [] (hO R (gS (gS (gI (gI g 20 (g.1 12)) 21 (g.1 13)) 21 (va_cpy (g.2.1 17) (g.2.1 21) (Int32.toNatClampNeg (0 : Int32)) (Int32.toNatClampNeg (0 : Int32)) (Int32.toNatClampNeg (600 : Int32)))) 22 (va_cpy (g.2.1 18) (g.2.1 22) (Int32.toNatClampNeg (0 : Int32)) (Int32.toNatClampNeg (0 : Int32)) (Int32.toNatClampNeg (600 : Int32))))) _ _
  refine m_go (L := [(48, .aload_n 1, 1, 0, 0), (49, .getfield 22, 3, 1, 3), (52, .iconst 0, 1, 0, 0), (53, .aload_n 0, 1, 0, 0), (54, .getfield 22, 3, 1, 3), (57, .iconst 0, 1, 0, 0), (58, .bipush 8, 2, 0, 0)]) (pc1 := 60) (lv1 := [(0, .ref 5), (1, .ref 3)]) (st1 := [.int (8 : Int32), .int (0 : Int32), .ref 23, .int (0 : Int32), .ref 19]) (h1 := hO R (gS (gS (gI (gI g 20 (g.1 12)) 21 (g.1 13)) 21 (va_cpy (g.2.1 17) (g.2.1 21) (Int32.toNatClampNeg (0 : Int32)) (Int32.toNatClampNeg (0 : Int32)) (Int32.toNatClampNeg (600 : Int32)))) 22 (va_cpy (g.2.1 18) (g.2.1 22) (Int32.toNatClampNeg (0 : Int32)) (Int32.toNatClampNeg (0 : Int32)) (Int32.toNatClampNeg (600 : Int32))))) (by decide +kernel) rfl ?_
  obtain ⟨⟨c1, c2, c3, c4, c5⟩, h⟩ := m_if_inv h
  refine m_r8 _ _ _ _ 31 19 23 8 8 _ [] _ _ _ _ _ _ _ _ (60, .invokestatic 31, 3, 1000, 5) (by decide +kernel) rfl rfl rfl rfl c1 c2 c3 c4 c5 (Nat.le_of_ble_eq_true rfl) ?_
  show m_Run X _ _ 38 63 [(0, .ref 5), (1, .ref 3)] [] (hO R (gS (gS (gS (gI (gI g 20 (g.1 12)) 21 (g.1 13)) 21 (va_cpy (g.2.1 17) (g.2.1 21) (Int32.toNatClampNeg (0 : Int32)) (Int32.toNatClampNeg (0 : Int32)) (Int32.toNatClampNeg (600 : Int32)))) 22 (va_cpy (g.2.1 18) (g.2.1 22) (Int32.toNatClampNeg (0 : Int32)) (Int32.toNatClampNeg (0 : Int32)) (Int32.toNatClampNeg (600 : Int32)))) 23 (va_cpy (g.2.1 19) (g.2.1 23) (Int32.toNatClampNeg (0 : Int32)) (Int32.toNatClampNeg (0 : Int32)) (Int32.toNatClampNeg (8 : Int32))))) _ _
  refine m_go (L := [(63, .aload_n 1, 1, 0, 0), (64, .getfield 25, 3, 1, 4), (67, .iconst 0, 1, 0, 0), (68, .aload_n 0, 1, 0, 0), (69, .getfield 25, 3, 1, 4), (72, .iconst 0, 1, 0, 0), (73, .bipush 8, 2, 0, 0)]) (pc1 := 75) (lv1 := [(0, .ref 5), (1, .ref 3)]) (st1 := [.int (8 : Int32), .int (0 : Int32), .ref 24, .int (0 : Int32), .ref 20]) (h1 := hO R (gS (gS (gS (gI (gI g 20 (g.1 12)) 21 (g.1 13)) 21 (va_cpy (g.2.1 17) (g.2.1 21) (Int32.toNatClampNeg (0 : Int32)) (Int32.toNatClampNeg (0 : Int32)) (Int32.toNatClampNeg (600 : Int32)))) 22 (va_cpy (g.2.1 18) (g.2.1 22) (Int32.toNatClampNeg (0 : Int32)) (Int32.toNatClampNeg (0 : Int32)) (Int32.toNatClampNeg (600 : Int32)))) 23 (va_cpy (g.2.1 19) (g.2.1 23) (Int32.toNatClampNeg (0 : Int32)) (Int32.toNatClampNeg (0 : Int32)) (Int32.toNatClampNeg (8 : Int32))))) (by decide +kernel) rfl ?_
  obtain ⟨⟨c1, c2, c3, c4, c5⟩, h⟩ := m_if_inv h
  refine m_r8 _ _ _ _ 31 20 24 8 8 _ [] _ _ _ _ _ _ _ _ (75, .invokestatic 31, 3, 1000, 5) (by decide +kernel) rfl rfl rfl rfl c1 c2 c3 c4 c5 (Nat.le_of_ble_eq_true rfl) ?_
  show m_Run X _ _ 38 78 [(0, .ref 5), (1, .ref 3)] [] (hO R (gS (gS (gS (gS (gI (gI g 20 (g.1 12)) 21 (g.1 13)) 21 (va_cpy (g.2.1 17) (g.2.1 21) (Int32.toNatClampNeg (0 : Int32)) (Int32.toNatClampNeg (0 : Int32)) (Int32.toNatClampNeg (600 : Int32)))) 22 (va_cpy (g.2.1 18) (g.2.1 22) (Int32.toNatClampNeg (0 : Int32)) (Int32.toNatClampNeg (0 : Int32)) (Int32.toNatClampNeg (600 : Int32)))) 23 (va_cpy (g.2.1 19) (g.2.1 23) (Int32.toNatClampNeg (0 : Int32)) (Int32.toNatClampNeg (0 : Int32)) (Int32.toNatClampNeg (8 : Int32)))) 24 (va_cpy (g.2.1 20) (g.2.1 24) (Int32.toNatClampNeg (0 : Int32)) (Int32.toNatClampNeg (0 : Int32)) (Int32.toNatClampNeg (8 : Int32))))) _ _
  cases h
  exact m_rv (by decide +kernel)
def f77 (n : Nat) (g : mG) : mZ := m_ti (f0 n (g.1 0) g) (fun v2 g1 => if ¬ v2 = (-1 : Int32) then some (.inl (some (.int v2)), g1) else m_tv (f38_5_3 n g1) (fun g6 => some (.inl (some (.int v2)), (gI g6 1 (1 : Int32)))) (fun _ _ => none)) (fun _ _ => none)
theorem Fr77 {R : Nat} {g g' : mG} {o : mO} (h : f77 n g = some (o, g')) : m_Run X (332) (1) 77 0 [(0, .ref 0)] [] (hO R g) o (hO 8 g') := by
  unfold f77 at h
  refine m_go (L := [(0, .aload_n 0, 1, 0, 0), (1, .getfield 20, 3, 5, 2), (4, .aload_n 0, 1, 0, 0), (5, .getfield 9, 3, 5, 0), (8, .aload_n 0, 1, 0, 0), (9, .getfield 13, 3, 5, 1)]) (pc1 := 12) (lv1 := [(0, .ref 0)]) (st1 := [.int (g.1 0), .ref 8, .ref 1]) (h1 := hO R g) (by decide +kernel) rfl ?_
  rcases m_ti_inv h with ⟨v2, g1, e3, h⟩ | ⟨y4, g1, e3, h⟩
  · refine m_ca1 (q := (12, .invokevirtual 62, 3, 0, 2)) (a := 0) (vs := [.ref 1, .ref 8, .int (g.1 0)]) (st := []) (d1 := 331) (by decide +kernel) rfl rfl rfl rfl (by decide) (Fr0 e3) ?_
    show m_Run X _ _ 77 15 [(0, .ref 0)] [.int v2] (hO 8 g1) _ _
    refine m_gob (c := ¬ v2 = (-1 : Int32)) (t := 43) (f := 21) (L := [(15, .istore_n 1, 1, 0, 0), (16, .iload_n 1, 1, 0, 0), (17, .iconst (-1), 1, 0, 0), (18, .if_icmp .ne 25, 3, 0, 0)]) (lv1 := [(0, .ref 0), (1, .int v2)]) (st1 := []) (h1 := hO 8 g1) (by decide +kernel) rfl (fun c5 => ?_) (fun c5 => ?_)
    · rw [if_pos c5] at h
      refine m_go (L := [(43, .iload_n 1, 1, 0, 0)]) (pc1 := 44) (lv1 := [(0, .ref 0), (1, .int v2)]) (st1 := [.int v2]) (h1 := hO 8 g1) (by decide +kernel) rfl ?_
      cases h
      exact m_ri (by decide +kernel)
    · rw [if_neg c5] at h
      refine m_go (L := [(21, .aload_n 0, 1, 0, 0), (22, .getfield 27, 3, 5, 3), (25, .getfield 66, 3, 2, 1), (28, .aload_n 0, 1, 0, 0), (29, .getfield 20, 3, 5, 2), (32, .getfield 70, 3, 0, 1)]) (pc1 := 35) (lv1 := [(0, .ref 0), (1, .int v2)]) (st1 := [.ref 3, .ref 5]) (h1 := hO 8 g1) (by decide +kernel) rfl ?_
      rcases m_tv_inv h with ⟨g6, e8, h⟩ | ⟨y9, g6, e8, h⟩
      · refine m_ca (q := (35, .invokevirtual 73, 3, 38, 1)) (a := 38) (vs := [.ref 5, .ref 3]) (st := []) (d1 := 0) (by decide +kernel) rfl rfl rfl rfl (by decide) (Fr38_5_3 e8) ?_
        show m_Run X _ _ 77 38 [(0, .ref 0), (1, .int v2)] [] (hO 8 g6) _ _
        refine m_go (L := [(38, .aload_n 0, 1, 0, 0), (39, .iconst 1, 1, 0, 0), (40, .putfield 31, 3, 5, 4), (43, .iload_n 1, 1, 0, 0)]) (pc1 := 44) (lv1 := [(0, .ref 0), (1, .int v2)]) (st1 := [.int v2]) (h1 := hO 8 (gI g6 1 (1 : Int32))) (by decide +kernel) rfl ?_
        cases h
        exact m_ri (by decide +kernel)
      · cases h
  · cases h
def f57_2 (n : Nat) : Nat → Int32 → Int32 → mG → mZ
  | 0, _, _, _ => none
  | c + 1, x1, x2, g => if (g.1 22) ≤ x2 then some (.inl (some (.int (-1 : Int32))), g) else if x2 < 0 ∨ 32 ≤ Int32.toNatClampNeg x2 then none else if ¬ ((g.2.1 28) (Int32.toNatClampNeg x2)) = x1 then f57_2 n c x1 (x2 + (1 : Int32)) g else some (.inl (some (.int x2)), g)
set_option maxRecDepth 20000 in
theorem Fr57_2 {R : Nat} : ∀ (c : Nat) (x1 : Int32) (x2 : Int32) (g g' : mG) (o : mO), f57_2 n c x1 x2 g = some (o, g') → m_Run X (0) (m_ko o) 57 2 [(0, .ref 6), (1, .int x1), (2, .int x2)] [] (hO R g) o (hO R g') := by
  intro c
  induction c with
  | zero => intro x1 x2 g g' o h; rw [f57_2] at h; cases h
  | succ c ih =>
    intro x1 x2 g g' o h
    rw [f57_2] at h
    refine m_gob (c := (g.1 22) ≤ x2) (t := 28) (f := 10) (L := [(2, .iload_n 2, 1, 0, 0), (3, .aload_n 0, 1, 0, 0), (4, .getfield 18, 3, 3, 2), (7, .if_icmp .ge 21, 3, 0, 0)]) (lv1 := [(0, .ref 6), (1, .int x1), (2, .int x2)]) (st1 := []) (h1 := hO R g) (by decide +kernel) rfl (fun c1 => ?_) (fun c1 => ?_)
    · rw [if_pos c1] at h
      refine m_go (L := [(28, .iconst (-1), 1, 0, 0)]) (pc1 := 29) (lv1 := [(0, .ref 6), (1, .int x1), (2, .int x2)]) (st1 := [.int (-1 : Int32)]) (h1 := hO R g) (by decide +kernel) rfl ?_
      cases h
      exact m_ri (by decide +kernel)
    · rw [if_neg c1] at h
      refine m_go (L := [(10, .aload_n 0, 1, 0, 0), (11, .getfield 9, 3, 3, 0), (14, .iload_n 2, 1, 0, 0)]) (pc1 := 15) (lv1 := [(0, .ref 6), (1, .int x1), (2, .int x2)]) (st1 := [.int x2, .ref 28]) (h1 := hO R g) (by decide +kernel) rfl ?_
      obtain ⟨c2, h⟩ := m_ifn_inv h
      refine m_go1 (q := (15, .iaload, 1, 0, 0)) (pc1 := 16) (lv1 := [(0, .ref 6), (1, .int x1), (2, .int x2)]) (st1 := [.int ((g.2.1 28) (Int32.toNatClampNeg x2))]) (h1 := hO R g) (by decide +kernel) (if_neg c2) ?_
      refine m_gob (c := ¬ ((g.2.1 28) (Int32.toNatClampNeg x2)) = x1) (t := 22) (f := 20) (L := [(16, .iload_n 1, 1, 0, 0), (17, .if_icmp .ne 5, 3, 0, 0)]) (lv1 := [(0, .ref 6), (1, .int x1), (2, .int x2)]) (st1 := []) (h1 := hO R g) (by decide +kernel) rfl (fun c3 => ?_) (fun c3 => ?_)
      · rw [if_pos c3] at h
        refine m_go (L := [(22, .iinc 2 1, 3, 0, 0), (25, .goto (-23), 3, 0, 0)]) (pc1 := 2) (lv1 := [(0, .ref 6), (1, .int x1), (2, .int (x2 + (1 : Int32)))]) (st1 := []) (h1 := hO R g) (by decide +kernel) rfl ?_
        exact m_r0 _ _ _ _ _ _ _ _ _ _ (m_pick [0, 1, 2] rfl) (ih _ _ _ _ _ h)
      · rw [if_neg c3] at h
        refine m_go (L := [(20, .iload_n 2, 1, 0, 0)]) (pc1 := 21) (lv1 := [(0, .ref 6), (1, .int x1), (2, .int x2)]) (st1 := [.int x2]) (h1 := hO R g) (by decide +kernel) rfl ?_
        cases h
        exact m_ri (by decide +kernel)
def f57 (n : Nat) (x1 : Int32) (g : mG) : mZ := f57_2 n n x1 (0 : Int32) g
theorem Fr57 {R : Nat} {x1 : Int32} {g g' : mG} {o : mO} (h : f57 n x1 g = some (o, g')) : m_Run X (0) (m_ko o) 57 0 [(0, .ref 6), (1, .int x1)] [] (hO R g) o (hO R g') := by
  unfold f57 at h
  refine m_go (L := [(0, .iconst 0, 1, 0, 0), (1, .istore_n 2, 1, 0, 0)]) (pc1 := 2) (lv1 := [(0, .ref 6), (1, .int x1), (2, .int (0 : Int32))]) (st1 := []) (h1 := hO R g) (by decide +kernel) rfl ?_
  exact m_r0 _ _ _ _ _ _ _ _ _ _ (m_pick [0, 1, 2] rfl) (Fr57_2 _ _ _ _ _ _ h)
def f56 (n : Nat) (x1 : Int32) (g : mG) : mZ := m_ci (f57 n x1 g) (fun v2 g1 => if ¬ v2 = (-1 : Int32) then if v2 < 0 ∨ 32 ≤ Int32.toNatClampNeg v2 then none else some (.inl (some (.int ((g1.2.1 29) (Int32.toNatClampNeg v2)))), g1) else some (.inl (some (.int (0 : Int32))), g1))
theorem Fr56 {R : Nat} {x1 : Int32} {g g' : mG} {o : mO} (h : f56 n x1 g = some (o, g')) : m_Run X (1) (m_ko o) 56 0 [(0, .ref 6), (1, .int x1)] [] (hO R g) o (hO R g') := by
  unfold f56 at h
  refine m_go (L := [(0, .aload_n 0, 1, 0, 0), (1, .iload_n 1, 1, 0, 0)]) (pc1 := 2) (lv1 := [(0, .ref 6), (1, .int x1)]) (st1 := [.int x1, .ref 6]) (h1 := hO R g) (by decide +kernel) rfl ?_
  rcases m_ci_inv h with ⟨v2, g1, e3, h⟩ | ⟨y4, g1, e3, rfl, rfl⟩
  · refine m_ca (q := (2, .invokevirtual 31, 3, 57, 1)) (a := 57) (vs := [.ref 6, .int x1]) (st := []) (d1 := 0) (by decide +kernel) rfl rfl rfl rfl (by decide) (Fr57 e3) ?_
    show m_Run X _ _ 56 5 [(0, .ref 6), (1, .int x1)] [.int v2] (hO R g1) _ _
    refine m_gob (c := ¬ v2 = (-1 : Int32)) (t := 15) (f := 11) (L := [(5, .istore_n 2, 1, 0, 0), (6, .iload_n 2, 1, 0, 0), (7, .iconst (-1), 1, 0, 0), (8, .if_icmp .ne 7, 3, 0, 0)]) (lv1 := [(0, .ref 6), (1, .int x1), (2, .int v2)]) (st1 := []) (h1 := hO R g1) (by decide +kernel) rfl (fun c5 => ?_) (fun c5 => ?_)
    · rw [if_pos c5] at h
      refine m_go (L := [(15, .aload_n 0, 1, 0, 0), (16, .getfield 15, 3, 3, 1), (19, .iload_n 2, 1, 0, 0)]) (pc1 := 20) (lv1 := [(0, .ref 6), (1, .int x1), (2, .int v2)]) (st1 := [.int v2, .ref 29]) (h1 := hO R g1) (by decide +kernel) rfl ?_
      obtain ⟨c6, h⟩ := m_ifn_inv h
      refine m_go1 (q := (20, .iaload, 1, 0, 0)) (pc1 := 21) (lv1 := [(0, .ref 6), (1, .int x1), (2, .int v2)]) (st1 := [.int ((g1.2.1 29) (Int32.toNatClampNeg v2))]) (h1 := hO R g1) (by decide +kernel) (if_neg c6) ?_
      cases h
      exact m_ri (by decide +kernel)
    · rw [if_neg c5] at h
      refine m_go (L := [(11, .iconst 0, 1, 0, 0), (12, .goto 9, 3, 0, 0)]) (pc1 := 21) (lv1 := [(0, .ref 6), (1, .int x1), (2, .int v2)]) (st1 := [.int (0 : Int32)]) (h1 := hO R g1) (by decide +kernel) rfl ?_
      cases h
      exact m_ri (by decide +kernel)
  · exact m_cx (q := (2, .invokevirtual 31, 3, 57, 1)) (a := 57) (vs := [.ref 6, .int x1]) (st := []) (d1 := 0) (by decide +kernel) (by decide +kernel) rfl rfl rfl rfl (by decide) (Fr57 e3)
def f78 (n : Nat) (x1 : Int32) (g : mG) : mZ := m_ci (f56 n x1 g) (fun v2 g1 => some (.inl (some (.int v2)), g1))
theorem Fr78 {R : Nat} {x1 : Int32} {g g' : mG} {o : mO} (h : f78 n x1 g = some (o, g')) : m_Run X (2) (m_ko o) 78 0 [(0, .ref 0), (1, .int x1)] [] (hO R g) o (hO R g') := by
  unfold f78 at h
  refine m_go (L := [(0, .aload_n 0, 1, 0, 0), (1, .getfield 27, 3, 5, 3), (4, .getfield 103, 3, 2, 0), (7, .iload_n 1, 1, 0, 0)]) (pc1 := 8) (lv1 := [(0, .ref 0), (1, .int x1)]) (st1 := [.int x1, .ref 6]) (h1 := hO R g) (by decide +kernel) rfl ?_
  rcases m_ci_inv h with ⟨v2, g1, e3, h⟩ | ⟨y4, g1, e3, rfl, rfl⟩
  · refine m_ca (q := (8, .invokevirtual 125, 3, 56, 1)) (a := 56) (vs := [.ref 6, .int x1]) (st := []) (d1 := 1) (by decide +kernel) rfl rfl rfl rfl (by decide) (Fr56 e3) ?_
    show m_Run X _ _ 78 11 [(0, .ref 0), (1, .int x1)] [.int v2] (hO R g1) _ _
    cases h
    exact m_ri (by decide +kernel)
  · exact m_cx (q := (8, .invokevirtual 125, 3, 56, 1)) (a := 56) (vs := [.ref 6, .int x1]) (st := []) (d1 := 1) (by decide +kernel) (by decide +kernel) rfl rfl rfl rfl (by decide) (Fr56 e3)
def f79 (n : Nat) (g : mG) : mZ := some (.inl (some (.int (g.1 22))), g)
theorem Fr79 {R : Nat} {g g' : mG} {o : mO} (h : f79 n g = some (o, g')) : m_Run X (0) (m_ko o) 79 0 [(0, .ref 0)] [] (hO R g) o (hO R g') := by
  unfold f79 at h
  refine m_go (L := [(0, .aload_n 0, 1, 0, 0), (1, .getfield 27, 3, 5, 3), (4, .getfield 103, 3, 2, 0), (7, .getfield 128, 3, 3, 2)]) (pc1 := 10) (lv1 := [(0, .ref 0)]) (st1 := [.int (g.1 22)]) (h1 := hO R g) (by decide +kernel) rfl ?_
  cases h
  exact m_ri (by decide +kernel)
def f81 (n : Nat) (x1 : Int32) (g : mG) : mZ := if x1 = 0 then some (.inl none, g) else if (600 : Int32) ≤ (g.1 0) then some (.inl none, g) else if (g.1 0) < 0 ∨ 600 ≤ Int32.toNatClampNeg (g.1 0) then none else some (.inl none, (gI (gS g 8 (upd (g.2.1 8) (Int32.toNatClampNeg (g.1 0)) x1)) 0 ((g.1 0) + (1 : Int32))))
theorem Fr81 {R : Nat} {x1 : Int32} {g g' : mG} {o : mO} (h : f81 n x1 g = some (o, g')) : m_Run X (0) (m_ko o) 81 0 [(0, .ref 0), (1, .int x1)] [] (hO R g) o (hO R g') := by
  unfold f81 at h
  refine m_gob (c := x1 = 0) (t := 34) (f := 4) (L := [(0, .iload_n 1, 1, 0, 0), (1, .ifCond .eq 33, 3, 0, 0)]) (lv1 := [(0, .ref 0), (1, .int x1)]) (st1 := []) (h1 := hO R g) (by decide +kernel) rfl (fun c1 => ?_) (fun c1 => ?_)
  · rw [if_pos c1] at h
    cases h
    exact m_rv (by decide +kernel)
  · rw [if_neg c1] at h
    refine m_gob (c := (600 : Int32) ≤ (g.1 0)) (t := 34) (f := 14) (L := [(4, .aload_n 0, 1, 0, 0), (5, .getfield 13, 3, 5, 1), (8, .sipush 600, 3, 0, 0), (11, .if_icmp .ge 23, 3, 0, 0)]) (lv1 := [(0, .ref 0), (1, .int x1)]) (st1 := []) (h1 := hO R g) (by decide +kernel) rfl (fun c2 => ?_) (fun c2 => ?_)
    · rw [if_pos c2] at h
      cases h
      exact m_rv (by decide +kernel)
    · rw [if_neg c2] at h
      refine m_go (L := [(14, .aload_n 0, 1, 0, 0), (15, .getfield 9, 3, 5, 0), (18, .aload_n 0, 1, 0, 0), (19, .getfield 13, 3, 5, 1), (22, .iload_n 1, 1, 0, 0)]) (pc1 := 23) (lv1 := [(0, .ref 0), (1, .int x1)]) (st1 := [.int x1, .int (g.1 0), .ref 8]) (h1 := hO R g) (by decide +kernel) rfl ?_
      obtain ⟨c3, h⟩ := m_ifn_inv h
      refine m_go1 (q := (23, .iastore, 1, 0, 0)) (pc1 := 24) (lv1 := [(0, .ref 0), (1, .int x1)]) (st1 := []) (h1 := hO R (gS g 8 (upd (g.2.1 8) (Int32.toNatClampNeg (g.1 0)) x1))) (by decide +kernel) (if_neg c3) ?_
      refine m_go (L := [(24, .aload_n 0, 1, 0, 0), (25, .dup, 1, 0, 0), (26, .getfield 13, 3, 5, 1), (29, .iconst 1, 1, 0, 0), (30, .iadd, 1, 0, 0), (31, .putfield 13, 3, 5, 1)]) (pc1 := 34) (lv1 := [(0, .ref 0), (1, .int x1)]) (st1 := []) (h1 := hO R (gI (gS g 8 (upd (g.2.1 8) (Int32.toNatClampNeg (g.1 0)) x1)) 0 ((g.1 0) + (1 : Int32)))) (by decide +kernel) rfl ?_
      cases h
      exact m_rv (by decide +kernel)
def f80_74 (n : Nat) : Nat → Int32 → Int32 → mG → mZ
  | 0, _, _, _ => none
  | c + 1, x1, x3, g => if (32 : Int32) ≤ x3 then some (.inl (some (.int (g.1 0))), g) else m_cv (f81 n ((x1 >>> (x3 &&& 31)) &&& (255 : Int32)) g) (fun g4 => f80_74 n c x1 (x3 + (8 : Int32)) g4)
set_option maxRecDepth 20000 in
theorem Fr80_74 {R : Nat} : ∀ (c : Nat) (x1 : Int32) (x3 : Int32) (g g' : mG) (o : mO), f80_74 n c x1 x3 g = some (o, g') → m_Run X (1) (m_ko o) 80 74 [(0, .ref 0), (1, .int x1), (3, .int x3)] [] (hO R g) o (hO R g') := by
  intro c
  induction c with
  | zero => intro x1 x3 g g' o h; rw [f80_74] at h; cases h
  | succ c ih =>
    intro x1 x3 g g' o h
    rw [f80_74] at h
    refine m_gob (c := (32 : Int32) ≤ x3) (t := 97) (f := 80) (L := [(74, .iload_n 3, 1, 0, 0), (75, .bipush 32, 2, 0, 0), (77, .if_icmp .ge 20, 3, 0, 0)]) (lv1 := [(0, .ref 0), (1, .int x1), (3, .int x3)]) (st1 := []) (h1 := hO R g) (by decide +kernel) rfl (fun c3 => ?_) (fun c3 => ?_)
    · rw [if_pos c3] at h
      refine m_go (L := [(97, .aload_n 0, 1, 0, 0), (98, .getfield 13, 3, 5, 1)]) (pc1 := 101) (lv1 := [(0, .ref 0), (1, .int x1), (3, .int x3)]) (st1 := [.int (g.1 0)]) (h1 := hO R g) (by decide +kernel) rfl ?_
      cases h
      exact m_ri (by decide +kernel)
    · rw [if_neg c3] at h
      refine m_go (L := [(80, .aload_n 0, 1, 0, 0), (81, .iload_n 1, 1, 0, 0), (82, .iload_n 3, 1, 0, 0), (83, .ishr, 1, 0, 0), (84, .sipush 255, 3, 0, 0), (87, .iand, 1, 0, 0)]) (pc1 := 88) (lv1 := [(0, .ref 0), (1, .int x1), (3, .int x3)]) (st1 := [.int ((x1 >>> (x3 &&& 31)) &&& (255 : Int32)), .ref 0]) (h1 := hO R g) (by decide +kernel) rfl ?_
      rcases m_cv_inv h with ⟨g4, e6, h⟩ | ⟨y7, g4, e6, rfl, rfl⟩
      · refine m_ca (q := (88, .invokevirtual 56, 3, 81, 1)) (a := 81) (vs := [.ref 0, .int ((x1 >>> (x3 &&& 31)) &&& (255 : Int32))]) (st := []) (d1 := 0) (by decide +kernel) rfl rfl rfl rfl (by decide) (Fr81 e6) ?_
        show m_Run X _ _ 80 91 [(0, .ref 0), (1, .int x1), (3, .int x3)] [] (hO R g4) _ _
        refine m_go (L := [(91, .iinc 3 8, 3, 0, 0), (94, .goto (-20), 3, 0, 0)]) (pc1 := 74) (lv1 := [(0, .ref 0), (1, .int x1), (3, .int (x3 + (8 : Int32)))]) (st1 := []) (h1 := hO R g4) (by decide +kernel) rfl ?_
        exact m_r0 _ _ _ _ _ _ _ _ _ _ (m_pick [0, 1, 2] rfl) (ih _ _ _ _ _ h)
      · exact m_cx (q := (88, .invokevirtual 56, 3, 81, 1)) (a := 81) (vs := [.ref 0, .int ((x1 >>> (x3 &&& 31)) &&& (255 : Int32))]) (st := []) (d1 := 0) (by decide +kernel) (by decide +kernel) rfl rfl rfl rfl (by decide) (Fr81 e6)
def f80_4 (n : Nat) : Nat → Int32 → Int32 → Int32 → mG → mZ
  | 0, _, _, _, _ => none
  | c + 1, x1, x2, x3, g => if (32 : Int32) ≤ x3 then if ((g.1 0) + x2) ≤ (600 : Int32) then f80_74 n n x1 (0 : Int32) g else some (.inr 2, g) else if ((x1 >>> (x3 &&& 31)) &&& (255 : Int32)) ≤ (127 : Int32) then if ((x1 >>> (x3 &&& 31)) &&& (255 : Int32)) = 0 then f80_4 n c x1 x2 (x3 + (8 : Int32)) g else f80_4 n c x1 (x2 + (1 : Int32)) (x3 + (8 : Int32)) g else some (.inr 1, g)
set_option maxRecDepth 20000 in
theorem Fr80_4 {R : Nat} : ∀ (c : Nat) (x1 : Int32) (x2 : Int32) (x3 : Int32) (g g' : mG) (o : mO), f80_4 n c x1 x2 x3 g = some (o, g') → m_Run X (1) (m_ko o) 80 4 [(0, .ref 0), (1, .int x1), (2, .int x2), (3, .int x3)] [] (hO R g) o (hO R g') := by
  intro c
  induction c with
  | zero => intro x1 x2 x3 g g' o h; rw [f80_4] at h; cases h
  | succ c ih =>
    intro x1 x2 x3 g g' o h
    rw [f80_4] at h
    refine m_gob (c := (32 : Int32) ≤ x3) (t := 50) (f := 10) (L := [(4, .iload_n 3, 1, 0, 0), (5, .bipush 32, 2, 0, 0), (7, .if_icmp .ge 43, 3, 0, 0)]) (lv1 := [(0, .ref 0), (1, .int x1), (2, .int x2), (3, .int x3)]) (st1 := []) (h1 := hO R g) (by decide +kernel) rfl (fun c1 => ?_) (fun c1 => ?_)
    · rw [if_pos c1] at h
      refine m_gob (c := ((g.1 0) + x2) ≤ (600 : Int32)) (t := 72) (f := 62) (L := [(50, .aload_n 0, 1, 0, 0), (51, .getfield 13, 3, 5, 1), (54, .iload_n 2, 1, 0, 0), (55, .iadd, 1, 0, 0), (56, .sipush 600, 3, 0, 0), (59, .if_icmp .le 13, 3, 0, 0)]) (lv1 := [(0, .ref 0), (1, .int x1), (2, .int x2), (3, .int x3)]) (st1 := []) (h1 := hO R g) (by decide +kernel) rfl (fun c2 => ?_) (fun c2 => ?_)
      · rw [if_pos c2] at h
        refine m_go (L := [(72, .iconst 0, 1, 0, 0), (73, .istore_n 3, 1, 0, 0)]) (pc1 := 74) (lv1 := [(0, .ref 0), (1, .int x1), (2, .int x2), (3, .int (0 : Int32))]) (st1 := []) (h1 := hO R g) (by decide +kernel) rfl ?_
        exact m_r0 _ _ _ _ _ _ _ _ _ _ (m_pick [0, 1, 3] rfl) (Fr80_74 _ _ _ _ _ _ h)
      · rw [if_neg c2] at h
        cases h
        exact m_th (by decide +kernel) (by decide +kernel) rfl
    · rw [if_neg c1] at h
      refine m_gob (c := ((x1 >>> (x3 &&& 31)) &&& (255 : Int32)) ≤ (127 : Int32)) (t := 36) (f := 26) (L := [(10, .iload_n 1, 1, 0, 0), (11, .iload_n 3, 1, 0, 0), (12, .ishr, 1, 0, 0), (13, .sipush 255, 3, 0, 0), (16, .iand, 1, 0, 0), (17, .istore 4, 2, 0, 0), (19, .iload 4, 2, 0, 0), (21, .bipush 127, 2, 0, 0), (23, .if_icmp .le 13, 3, 0, 0)]) (lv1 := [(0, .ref 0), (1, .int x1), (2, .int x2), (3, .int x3), (4, .int ((x1 >>> (x3 &&& 31)) &&& (255 : Int32)))]) (st1 := []) (h1 := hO R g) (by decide +kernel) rfl (fun c8 => ?_) (fun c8 => ?_)
      · rw [if_pos c8] at h
        refine m_gob (c := ((x1 >>> (x3 &&& 31)) &&& (255 : Int32)) = 0) (t := 44) (f := 41) (L := [(36, .iload 4, 2, 0, 0), (38, .ifCond .eq 6, 3, 0, 0)]) (lv1 := [(0, .ref 0), (1, .int x1), (2, .int x2), (3, .int x3), (4, .int ((x1 >>> (x3 &&& 31)) &&& (255 : Int32)))]) (st1 := []) (h1 := hO R g) (by decide +kernel) rfl (fun c9 => ?_) (fun c9 => ?_)
        · rw [if_pos c9] at h
          refine m_go (L := [(44, .iinc 3 8, 3, 0, 0), (47, .goto (-43), 3, 0, 0)]) (pc1 := 4) (lv1 := [(0, .ref 0), (1, .int x1), (2, .int x2), (3, .int (x3 + (8 : Int32))), (4, .int ((x1 >>> (x3 &&& 31)) &&& (255 : Int32)))]) (st1 := []) (h1 := hO R g) (by decide +kernel) rfl ?_
          exact m_r0 _ _ _ _ _ _ _ _ _ _ (m_pick [0, 1, 2, 3] rfl) (ih _ _ _ _ _ _ h)
        · rw [if_neg c9] at h
          refine m_go (L := [(41, .iinc 2 1, 3, 0, 0), (44, .iinc 3 8, 3, 0, 0), (47, .goto (-43), 3, 0, 0)]) (pc1 := 4) (lv1 := [(0, .ref 0), (1, .int x1), (2, .int (x2 + (1 : Int32))), (3, .int (x3 + (8 : Int32))), (4, .int ((x1 >>> (x3 &&& 31)) &&& (255 : Int32)))]) (st1 := []) (h1 := hO R g) (by decide +kernel) rfl ?_
          exact m_r0 _ _ _ _ _ _ _ _ _ _ (m_pick [0, 1, 2, 3] rfl) (ih _ _ _ _ _ _ h)
      · rw [if_neg c8] at h
        cases h
        exact m_th (by decide +kernel) (by decide +kernel) rfl
def f80 (n : Nat) (x1 : Int32) (g : mG) : mZ := f80_4 n n x1 (0 : Int32) (0 : Int32) g
theorem Fr80 {R : Nat} {x1 : Int32} {g g' : mG} {o : mO} (h : f80 n x1 g = some (o, g')) : m_Run X (1) (m_ko o) 80 0 [(0, .ref 0), (1, .int x1)] [] (hO R g) o (hO R g') := by
  unfold f80 at h
  refine m_go (L := [(0, .iconst 0, 1, 0, 0), (1, .istore_n 2, 1, 0, 0), (2, .iconst 0, 1, 0, 0), (3, .istore_n 3, 1, 0, 0)]) (pc1 := 4) (lv1 := [(0, .ref 0), (1, .int x1), (2, .int (0 : Int32)), (3, .int (0 : Int32))]) (st1 := []) (h1 := hO R g) (by decide +kernel) rfl ?_
  exact m_r0 _ _ _ _ _ _ _ _ _ _ (m_pick [0, 1, 2, 3] rfl) (Fr80_4 _ _ _ _ _ _ _ h)
def f82_12 (n : Nat) (g : mG) : mZ := some (.inr 1, g)
theorem Fr82_12 {R : Nat} {g g' : mG} {o : mO} (h : f82_12 n g = some (o, g')) : m_Run X (0) (m_ko o) 82 12 [] [] (hO R g) o (hO R g') := by
  unfold f82_12 at h
  cases h
  exact m_th (by decide +kernel) (by decide +kernel) rfl
def f82 (n : Nat) (x1 : Int32) (g : mG) : mZ := if x1 < 0 then f82_12 n g else if x1 ≤ (g.1 0) then some (.inl none, (gI g 0 x1)) else f82_12 n g
theorem Fr82 {R : Nat} {x1 : Int32} {g g' : mG} {o : mO} (h : f82 n x1 g = some (o, g')) : m_Run X (0) (m_ko o) 82 0 [(0, .ref 0), (1, .int x1)] [] (hO R g) o (hO R g') := by
  unfold f82 at h
  refine m_gob (c := x1 < 0) (t := 12) (f := 4) (L := [(0, .iload_n 1, 1, 0, 0), (1, .ifCond .lt 11, 3, 0, 0)]) (lv1 := [(0, .ref 0), (1, .int x1)]) (st1 := []) (h1 := hO R g) (by decide +kernel) rfl (fun c1 => ?_) (fun c1 => ?_)
  · rw [if_pos c1] at h
    exact m_r0 _ _ _ _ _ _ _ _ _ _ (m_pick [] rfl) (Fr82_12 h)
  · rw [if_neg c1] at h
    refine m_gob (c := x1 ≤ (g.1 0)) (t := 22) (f := 12) (L := [(4, .iload_n 1, 1, 0, 0), (5, .aload_n 0, 1, 0, 0), (6, .getfield 13, 3, 5, 1), (9, .if_icmp .le 13, 3, 0, 0)]) (lv1 := [(0, .ref 0), (1, .int x1)]) (st1 := []) (h1 := hO R g) (by decide +kernel) rfl (fun c2 => ?_) (fun c2 => ?_)
    · rw [if_pos c2] at h
      refine m_go (L := [(22, .aload_n 0, 1, 0, 0), (23, .iload_n 1, 1, 0, 0), (24, .putfield 13, 3, 5, 1)]) (pc1 := 27) (lv1 := [(0, .ref 0), (1, .int x1)]) (st1 := []) (h1 := hO R (gI g 0 x1)) (by decide +kernel) rfl ?_
      cases h
      exact m_rv (by decide +kernel)
    · rw [if_neg c2] at h
      exact m_r0 _ _ _ _ _ _ _ _ _ _ (m_pick [] rfl) (Fr82_12 h)
def f36_5 (n : Nat) (x1 : Int32) (g : mG) : mZ := if x1 < 0 then some (.inl (some (.int (0 : Int32))), g) else if (g.1 21) ≤ x1 then some (.inl (some (.int (0 : Int32))), g) else some (.inl (some (.int (1 : Int32))), g)
theorem Fr36_5 {R : Nat} {x1 : Int32} {g g' : mG} {o : mO} (h : f36_5 n x1 g = some (o, g')) : m_Run X (0) (m_ko o) 36 0 [(0, .ref 5), (1, .int x1)] [] (hO R g) o (hO R g') := by
  unfold f36_5 at h
  refine m_gob (c := x1 < 0) (t := 16) (f := 4) (L := [(0, .iload_n 1, 1, 0, 0), (1, .ifCond .lt 15, 3, 0, 0)]) (lv1 := [(0, .ref 5), (1, .int x1)]) (st1 := []) (h1 := hO R g) (by decide +kernel) rfl (fun c1 => ?_) (fun c1 => ?_)
  · rw [if_pos c1] at h
    refine m_go (L := [(16, .iconst 0, 1, 0, 0)]) (pc1 := 17) (lv1 := [(0, .ref 5), (1, .int x1)]) (st1 := [.int (0 : Int32)]) (h1 := hO R g) (by decide +kernel) rfl ?_
    cases h
    exact m_rz (by decide +kernel) (Or.inl rfl)
  · rw [if_neg c1] at h
    refine m_gob (c := (g.1 21) ≤ x1) (t := 16) (f := 12) (L := [(4, .iload_n 1, 1, 0, 0), (5, .aload_n 0, 1, 0, 0), (6, .getfield 28, 3, 1, 5), (9, .if_icmp .ge 7, 3, 0, 0)]) (lv1 := [(0, .ref 5), (1, .int x1)]) (st1 := []) (h1 := hO R g) (by decide +kernel) rfl (fun c2 => ?_) (fun c2 => ?_)
    · rw [if_pos c2] at h
      refine m_go (L := [(16, .iconst 0, 1, 0, 0)]) (pc1 := 17) (lv1 := [(0, .ref 5), (1, .int x1)]) (st1 := [.int (0 : Int32)]) (h1 := hO R g) (by decide +kernel) rfl ?_
      cases h
      exact m_rz (by decide +kernel) (Or.inl rfl)
    · rw [if_neg c2] at h
      refine m_go (L := [(12, .iconst 1, 1, 0, 0), (13, .goto 4, 3, 0, 0)]) (pc1 := 17) (lv1 := [(0, .ref 5), (1, .int x1)]) (st1 := [.int (1 : Int32)]) (h1 := hO R g) (by decide +kernel) rfl ?_
      cases h
      exact m_rz (by decide +kernel) (Or.inr rfl)
def f35_5 (n : Nat) (x1 : Int32) (g : mG) : mZ := m_ci (f36_5 n x1 g) (fun v2 g1 => if v2 = 0 then some (.inl (some (.int (0 : Int32))), g1) else if x1 < 0 ∨ 8 ≤ Int32.toNatClampNeg x1 then none else some (.inl (some (.int ((g1.2.1 24) (Int32.toNatClampNeg x1)))), g1))
theorem Fr35_5 {R : Nat} {x1 : Int32} {g g' : mG} {o : mO} (h : f35_5 n x1 g = some (o, g')) : m_Run X (1) (m_ko o) 35 0 [(0, .ref 5), (1, .int x1)] [] (hO R g) o (hO R g') := by
  unfold f35_5 at h
  refine m_go (L := [(0, .aload_n 0, 1, 0, 0), (1, .iload_n 1, 1, 0, 0)]) (pc1 := 2) (lv1 := [(0, .ref 5), (1, .int x1)]) (st1 := [.int x1, .ref 5]) (h1 := hO R g) (by decide +kernel) rfl ?_
  rcases m_ci_inv h with ⟨v2, g1, e3, h⟩ | ⟨y4, g1, e3, rfl, rfl⟩
  · refine m_ca (q := (2, .invokevirtual 37, 3, 36, 1)) (a := 36) (vs := [.ref 5, .int x1]) (st := []) (d1 := 0) (by decide +kernel) rfl rfl rfl rfl (by decide) (Fr36_5 e3) ?_
    show m_Run X _ _ 35 5 [(0, .ref 5), (1, .int x1)] [.int v2] (hO R g1) _ _
    refine m_gob (c := v2 = 0) (t := 17) (f := 8) (L := [(5, .ifCond .eq 12, 3, 0, 0)]) (lv1 := [(0, .ref 5), (1, .int x1)]) (st1 := []) (h1 := hO R g1) (by decide +kernel) rfl (fun c5 => ?_) (fun c5 => ?_)
    · rw [if_pos c5] at h
      refine m_go (L := [(17, .iconst 0, 1, 0, 0)]) (pc1 := 18) (lv1 := [(0, .ref 5), (1, .int x1)]) (st1 := [.int (0 : Int32)]) (h1 := hO R g1) (by decide +kernel) rfl ?_
      cases h
      exact m_ri (by decide +kernel)
    · rw [if_neg c5] at h
      refine m_go (L := [(8, .aload_n 0, 1, 0, 0), (9, .getfield 25, 3, 1, 4), (12, .iload_n 1, 1, 0, 0)]) (pc1 := 13) (lv1 := [(0, .ref 5), (1, .int x1)]) (st1 := [.int x1, .ref 24]) (h1 := hO R g1) (by decide +kernel) rfl ?_
      obtain ⟨c6, h⟩ := m_ifn_inv h
      refine m_go1 (q := (13, .iaload, 1, 0, 0)) (pc1 := 14) (lv1 := [(0, .ref 5), (1, .int x1)]) (st1 := [.int ((g1.2.1 24) (Int32.toNatClampNeg x1))]) (h1 := hO R g1) (by decide +kernel) (if_neg c6) ?_
      refine m_go (L := [(14, .goto 4, 3, 0, 0)]) (pc1 := 18) (lv1 := [(0, .ref 5), (1, .int x1)]) (st1 := [.int ((g1.2.1 24) (Int32.toNatClampNeg x1))]) (h1 := hO R g1) (by decide +kernel) rfl ?_
      cases h
      exact m_ri (by decide +kernel)
  · exact m_cx (q := (2, .invokevirtual 37, 3, 36, 1)) (a := 36) (vs := [.ref 5, .int x1]) (st := []) (d1 := 0) (by decide +kernel) (by decide +kernel) rfl rfl rfl rfl (by decide) (Fr36_5 e3)
def f83 (n : Nat) (x1 : Int32) (g : mG) : mZ := if ¬ (g.1 1) = 0 then if ¬ x1 = (-1 : Int32) then m_ci (f36_5 n x1 g) (fun v4 g3 => if ¬ v4 = 0 then m_ci (f35_5 n x1 g3) (fun v9 g8 => some (.inl (some (.int v9)), g8)) else some (.inr 3, g3)) else some (.inl (some (.int (g.1 21))), g) else some (.inr 0, g)
theorem Fr83 {R : Nat} {x1 : Int32} {g g' : mG} {o : mO} (h : f83 n x1 g = some (o, g')) : m_Run X (2) (m_ko o) 83 0 [(0, .ref 0), (1, .int x1)] [] (hO R g) o (hO R g') := by
  unfold f83 at h
  refine m_gob (c := ¬ (g.1 1) = 0) (t := 17) (f := 7) (L := [(0, .aload_n 0, 1, 0, 0), (1, .getfield 31, 3, 5, 4), (4, .ifCond .ne 13, 3, 0, 0)]) (lv1 := [(0, .ref 0), (1, .int x1)]) (st1 := []) (h1 := hO R g) (by decide +kernel) rfl (fun c1 => ?_) (fun c1 => ?_)
  · rw [if_pos c1] at h
    refine m_gob (c := ¬ x1 = (-1 : Int32)) (t := 33) (f := 22) (L := [(17, .iload_n 1, 1, 0, 0), (18, .iconst (-1), 1, 0, 0), (19, .if_icmp .ne 14, 3, 0, 0)]) (lv1 := [(0, .ref 0), (1, .int x1)]) (st1 := []) (h1 := hO R g) (by decide +kernel) rfl (fun c2 => ?_) (fun c2 => ?_)
    · rw [if_pos c2] at h
      refine m_go (L := [(33, .aload_n 0, 1, 0, 0), (34, .getfield 27, 3, 5, 3), (37, .getfield 66, 3, 2, 1), (40, .iload_n 1, 1, 0, 0)]) (pc1 := 41) (lv1 := [(0, .ref 0), (1, .int x1)]) (st1 := [.int x1, .ref 5]) (h1 := hO R g) (by decide +kernel) rfl ?_
      rcases m_ci_inv h with ⟨v4, g3, e5, h⟩ | ⟨y6, g3, e5, rfl, rfl⟩
      · refine m_ca (q := (41, .invokevirtual 87, 3, 36, 1)) (a := 36) (vs := [.ref 5, .int x1]) (st := []) (d1 := 0) (by decide +kernel) rfl rfl rfl rfl (by decide) (Fr36_5 e5) ?_
        show m_Run X _ _ 83 44 [(0, .ref 0), (1, .int x1)] [.int v4] (hO R g3) _ _
        refine m_gob (c := ¬ v4 = 0) (t := 57) (f := 47) (L := [(44, .ifCond .ne 13, 3, 0, 0)]) (lv1 := [(0, .ref 0), (1, .int x1)]) (st1 := []) (h1 := hO R g3) (by decide +kernel) rfl (fun c7 => ?_) (fun c7 => ?_)
        · rw [if_pos c7] at h
          refine m_go (L := [(57, .aload_n 0, 1, 0, 0), (58, .getfield 27, 3, 5, 3), (61, .getfield 66, 3, 2, 1), (64, .iload_n 1, 1, 0, 0)]) (pc1 := 65) (lv1 := [(0, .ref 0), (1, .int x1)]) (st1 := [.int x1, .ref 5]) (h1 := hO R g3) (by decide +kernel) rfl ?_
          rcases m_ci_inv h with ⟨v9, g8, e10, h⟩ | ⟨y11, g8, e10, rfl, rfl⟩
          · refine m_ca (q := (65, .invokevirtual 96, 3, 35, 1)) (a := 35) (vs := [.ref 5, .int x1]) (st := []) (d1 := 1) (by decide +kernel) rfl rfl rfl rfl (by decide) (Fr35_5 e10) ?_
            show m_Run X _ _ 83 68 [(0, .ref 0), (1, .int x1)] [.int v9] (hO R g8) _ _
            cases h
            exact m_ri (by decide +kernel)
          · exact m_cx (q := (65, .invokevirtual 96, 3, 35, 1)) (a := 35) (vs := [.ref 5, .int x1]) (st := []) (d1 := 1) (by decide +kernel) (by decide +kernel) rfl rfl rfl rfl (by decide) (Fr35_5 e10)
        · rw [if_neg c7] at h
          cases h
          exact m_th (by decide +kernel) (by decide +kernel) rfl
      · exact m_cx (q := (41, .invokevirtual 87, 3, 36, 1)) (a := 36) (vs := [.ref 5, .int x1]) (st := []) (d1 := 0) (by decide +kernel) (by decide +kernel) rfl rfl rfl rfl (by decide) (Fr36_5 e5)
    · rw [if_neg c2] at h
      refine m_go (L := [(22, .aload_n 0, 1, 0, 0), (23, .getfield 27, 3, 5, 3), (26, .getfield 66, 3, 2, 1), (29, .getfield 84, 3, 1, 5)]) (pc1 := 32) (lv1 := [(0, .ref 0), (1, .int x1)]) (st1 := [.int (g.1 21)]) (h1 := hO R g) (by decide +kernel) rfl ?_
      cases h
      exact m_ri (by decide +kernel)
  · rw [if_neg c1] at h
    cases h
    exact m_th (by decide +kernel) (by decide +kernel) rfl
def f58 (n : Nat) (g : mG) : mZ := if ¬ (0 : Int32) < 0 ∧ ¬ (0 : Int32) < 0 ∧ ¬ (g.1 22) < 0 ∧ (Int32.toNatClampNeg (0 : Int32)) + (Int32.toNatClampNeg (g.1 22)) ≤ 32 ∧ (Int32.toNatClampNeg (0 : Int32)) + (Int32.toNatClampNeg (g.1 22)) ≤ 32 then if ¬ (0 : Int32) < 0 ∧ ¬ (0 : Int32) < 0 ∧ ¬ (g.1 22) < 0 ∧ (Int32.toNatClampNeg (0 : Int32)) + (Int32.toNatClampNeg (g.1 22)) ≤ 32 ∧ (Int32.toNatClampNeg (0 : Int32)) + (Int32.toNatClampNeg (g.1 22)) ≤ 32 then some (.inl none, (gI (gS (gS g 30 (va_cpy (g.2.1 28) (g.2.1 30) (Int32.toNatClampNeg (0 : Int32)) (Int32.toNatClampNeg (0 : Int32)) (Int32.toNatClampNeg (g.1 22)))) 31 (va_cpy (g.2.1 29) (g.2.1 31) (Int32.toNatClampNeg (0 : Int32)) (Int32.toNatClampNeg (0 : Int32)) (Int32.toNatClampNeg (g.1 22)))) 23 (g.1 22))) else none else none
theorem Fr58 {R : Nat} {g g' : mG} {o : mO} (h : f58 n g = some (o, g')) : m_Run X (0) (m_ko o) 58 0 [(0, .ref 6)] [] (hO R g) o (hO R g') := by
  unfold f58 at h
  refine m_go (L := [(0, .aload_n 0, 1, 0, 0), (1, .getfield 9, 3, 3, 0), (4, .iconst 0, 1, 0, 0), (5, .aload_n 0, 1, 0, 0), (6, .getfield 22, 3, 3, 3), (9, .iconst 0, 1, 0, 0), (10, .aload_n 0, 1, 0, 0), (11, .getfield 18, 3, 3, 2)]) (pc1 := 14) (lv1 := [(0, .ref 6)]) (st1 := [.int (g.1 22), .int (0 : Int32), .ref 30, .int (0 : Int32), .ref 28]) (h1 := hO R g) (by decide +kernel) rfl ?_
  obtain ⟨⟨c1, c2, c3, c4, c5⟩, h⟩ := m_if_inv h
  refine m_r8 _ _ _ _ 35 28 30 32 32 _ [] _ _ _ _ _ _ _ _ (14, .invokestatic 35, 3, 1000, 5) (by decide +kernel) rfl rfl rfl rfl c1 c2 c3 c4 c5 (Nat.le_of_ble_eq_true rfl) ?_
  show m_Run X _ _ 58 17 [(0, .ref 6)] [] (hO R (gS g 30 (va_cpy (g.2.1 28) (g.2.1 30) (Int32.toNatClampNeg (0 : Int32)) (Int32.toNatClampNeg (0 : Int32)) (Int32.toNatClampNeg (g.1 22))))) _ _
  refine m_go (L := [(17, .aload_n 0, 1, 0, 0), (18, .getfield 15, 3, 3, 1), (21, .iconst 0, 1, 0, 0), (22, .aload_n 0, 1, 0, 0), (23, .getfield 25, 3, 3, 4), (26, .iconst 0, 1, 0, 0), (27, .aload_n 0, 1, 0, 0), (28, .getfield 18, 3, 3, 2)]) (pc1 := 31) (lv1 := [(0, .ref 6)]) (st1 := [.int (g.1 22), .int (0 : Int32), .ref 31, .int (0 : Int32), .ref 29]) (h1 := hO R (gS g 30 (va_cpy (g.2.1 28) (g.2.1 30) (Int32.toNatClampNeg (0 : Int32)) (Int32.toNatClampNeg (0 : Int32)) (Int32.toNatClampNeg (g.1 22))))) (by decide +kernel) rfl ?_
  obtain ⟨⟨c1, c2, c3, c4, c5⟩, h⟩ := m_if_inv h
  refine m_r8 _ _ _ _ 35 29 31 32 32 _ [] _ _ _ _ _ _ _ _ (31, .invokestatic 35, 3, 1000, 5) (by decide +kernel) rfl rfl rfl rfl c1 c2 c3 c4 c5 (Nat.le_of_ble_eq_true rfl) ?_
  show m_Run X _ _ 58 34 [(0, .ref 6)] [] (hO R (gS (gS g 30 (va_cpy (g.2.1 28) (g.2.1 30) (Int32.toNatClampNeg (0 : Int32)) (Int32.toNatClampNeg (0 : Int32)) (Int32.toNatClampNeg (g.1 22)))) 31 (va_cpy (g.2.1 29) (g.2.1 31) (Int32.toNatClampNeg (0 : Int32)) (Int32.toNatClampNeg (0 : Int32)) (Int32.toNatClampNeg (g.1 22))))) _ _
  refine m_go (L := [(34, .aload_n 0, 1, 0, 0), (35, .aload_n 0, 1, 0, 0), (36, .getfield 18, 3, 3, 2), (39, .putfield 28, 3, 3, 5)]) (pc1 := 42) (lv1 := [(0, .ref 6)]) (st1 := []) (h1 := hO R (gI (gS (gS g 30 (va_cpy (g.2.1 28) (g.2.1 30) (Int32.toNatClampNeg (0 : Int32)) (Int32.toNatClampNeg (0 : Int32)) (Int32.toNatClampNeg (g.1 22)))) 31 (va_cpy (g.2.1 29) (g.2.1 31) (Int32.toNatClampNeg (0 : Int32)) (Int32.toNatClampNeg (0 : Int32)) (Int32.toNatClampNeg (g.1 22)))) 23 (g.1 22))) (by decide +kernel) rfl ?_
  cases h
  exact m_rv (by decide +kernel)
def f44 (n : Nat) (x1 : Int32) (g : mG) : mZ := if (1080 : Int32) ≤ (g.1 14) then some (.inl none, g) else if (g.1 14) < 0 ∨ 1080 ≤ Int32.toNatClampNeg (g.1 14) then none else some (.inl none, (gI (gS g 25 (upd (g.2.1 25) (Int32.toNatClampNeg (g.1 14)) x1)) 14 ((g.1 14) + (1 : Int32))))
theorem Fr44 {R : Nat} {x1 : Int32} {g g' : mG} {o : mO} (h : f44 n x1 g = some (o, g')) : m_Run X (0) (m_ko o) 44 0 [(0, .ref 4), (1, .int x1)] [] (hO R g) o (hO R g') := by
  unfold f44 at h
  refine m_gob (c := (1080 : Int32) ≤ (g.1 14)) (t := 32) (f := 12) (L := [(0, .aload_n 0, 1, 0, 0), (1, .getfield 29, 3, 2, 3), (4, .aload_n 0, 1, 0, 0), (5, .getfield 25, 3, 2, 2), (8, .arraylength, 1, 0, 0), (9, .if_icmp .ge 23, 3, 0, 0)]) (lv1 := [(0, .ref 4), (1, .int x1)]) (st1 := []) (h1 := hO R g) (by decide +kernel) rfl (fun c1 => ?_) (fun c1 => ?_)
  · rw [if_pos c1] at h
    cases h
    exact m_rv (by decide +kernel)
  · rw [if_neg c1] at h
    refine m_go (L := [(12, .aload_n 0, 1, 0, 0), (13, .getfield 25, 3, 2, 2), (16, .aload_n 0, 1, 0, 0), (17, .getfield 29, 3, 2, 3), (20, .iload_n 1, 1, 0, 0)]) (pc1 := 21) (lv1 := [(0, .ref 4), (1, .int x1)]) (st1 := [.int x1, .int (g.1 14), .ref 25]) (h1 := hO R g) (by decide +kernel) rfl ?_
    obtain ⟨c2, h⟩ := m_ifn_inv h
    refine m_go1 (q := (21, .iastore, 1, 0, 0)) (pc1 := 22) (lv1 := [(0, .ref 4), (1, .int x1)]) (st1 := []) (h1 := hO R (gS g 25 (upd (g.2.1 25) (Int32.toNatClampNeg (g.1 14)) x1))) (by decide +kernel) (if_neg c2) ?_
    refine m_go (L := [(22, .aload_n 0, 1, 0, 0), (23, .dup, 1, 0, 0), (24, .getfield 29, 3, 2, 3), (27, .iconst 1, 1, 0, 0), (28, .iadd, 1, 0, 0), (29, .putfield 29, 3, 2, 3)]) (pc1 := 32) (lv1 := [(0, .ref 4), (1, .int x1)]) (st1 := []) (h1 := hO R (gI (gS g 25 (upd (g.2.1 25) (Int32.toNatClampNeg (g.1 14)) x1)) 14 ((g.1 14) + (1 : Int32)))) (by decide +kernel) rfl ?_
    cases h
    exact m_rv (by decide +kernel)
def f43_19 (n : Nat) (x1 : Int32) (x4 : Int32) (g : mG) : mZ := if x1 ≤ (2 : Int32) then some (.inl none, g) else m_cv (f44 n x4 g) (fun g4 => some (.inl none, g4))
theorem Fr43_19 {R : Nat} {x1 : Int32} {x4 : Int32} {g g' : mG} {o : mO} (h : f43_19 n x1 x4 g = some (o, g')) : m_Run X (1) (m_ko o) 43 19 [(0, .ref 4), (1, .int x1), (4, .int x4)] [] (hO R g) o (hO R g') := by
  unfold f43_19 at h
  refine m_gob (c := x1 ≤ (2 : Int32)) (t := 30) (f := 24) (L := [(19, .iload_n 1, 1, 0, 0), (20, .iconst 2, 1, 0, 0), (21, .if_icmp .le 9, 3, 0, 0)]) (lv1 := [(0, .ref 4), (1, .int x1), (4, .int x4)]) (st1 := []) (h1 := hO R g) (by decide +kernel) rfl (fun c3 => ?_) (fun c3 => ?_)
  · rw [if_pos c3] at h
    cases h
    exact m_rv (by decide +kernel)
  · rw [if_neg c3] at h
    refine m_go (L := [(24, .aload_n 0, 1, 0, 0), (25, .iload 4, 2, 0, 0)]) (pc1 := 27) (lv1 := [(0, .ref 4), (1, .int x1), (4, .int x4)]) (st1 := [.int x4, .ref 4]) (h1 := hO R g) (by decide +kernel) rfl ?_
    rcases m_cv_inv h with ⟨g4, e6, h⟩ | ⟨y7, g4, e6, rfl, rfl⟩
    · refine m_ca (q := (27, .invokevirtual 80, 3, 44, 1)) (a := 44) (vs := [.ref 4, .int x4]) (st := []) (d1 := 0) (by decide +kernel) rfl rfl rfl rfl (by decide) (Fr44 e6) ?_
      show m_Run X _ _ 43 30 [(0, .ref 4), (1, .int x1), (4, .int x4)] [] (hO R g4) _ _
      cases h
      exact m_rv (by decide +kernel)
    · exact m_cx (q := (27, .invokevirtual 80, 3, 44, 1)) (a := 44) (vs := [.ref 4, .int x4]) (st := []) (d1 := 0) (by decide +kernel) (by decide +kernel) rfl rfl rfl rfl (by decide) (Fr44 e6)
def f43_9 (n : Nat) (x1 : Int32) (x3 : Int32) (x4 : Int32) (g : mG) : mZ := if x1 ≤ (1 : Int32) then f43_19 n x1 x4 g else m_cv (f44 n x3 g) (fun g8 => f43_19 n x1 x4 g8)
theorem Fr43_9 {R : Nat} {x1 : Int32} {x3 : Int32} {x4 : Int32} {g g' : mG} {o : mO} (h : f43_9 n x1 x3 x4 g = some (o, g')) : m_Run X (1) (m_ko o) 43 9 [(0, .ref 4), (1, .int x1), (3, .int x3), (4, .int x4)] [] (hO R g) o (hO R g') := by
  unfold f43_9 at h
  refine m_gob (c := x1 ≤ (1 : Int32)) (t := 19) (f := 14) (L := [(9, .iload_n 1, 1, 0, 0), (10, .iconst 1, 1, 0, 0), (11, .if_icmp .le 8, 3, 0, 0)]) (lv1 := [(0, .ref 4), (1, .int x1), (3, .int x3), (4, .int x4)]) (st1 := []) (h1 := hO R g) (by decide +kernel) rfl (fun c2 => ?_) (fun c2 => ?_)
  · rw [if_pos c2] at h
    exact m_r0 _ _ _ _ _ _ _ _ _ _ (m_pick [0, 1, 3] rfl) (Fr43_19 h)
  · rw [if_neg c2] at h
    refine m_go (L := [(14, .aload_n 0, 1, 0, 0), (15, .iload_n 3, 1, 0, 0)]) (pc1 := 16) (lv1 := [(0, .ref 4), (1, .int x1), (3, .int x3), (4, .int x4)]) (st1 := [.int x3, .ref 4]) (h1 := hO R g) (by decide +kernel) rfl ?_
    rcases m_cv_inv h with ⟨g8, e10, h⟩ | ⟨y11, g8, e10, rfl, rfl⟩
    · refine m_ca (q := (16, .invokevirtual 80, 3, 44, 1)) (a := 44) (vs := [.ref 4, .int x3]) (st := []) (d1 := 0) (by decide +kernel) rfl rfl rfl rfl (by decide) (Fr44 e10) ?_
      show m_Run X _ _ 43 19 [(0, .ref 4), (1, .int x1), (3, .int x3), (4, .int x4)] [] (hO R g8) _ _
      exact m_r0 _ _ _ _ _ _ _ _ _ _ (m_pick [0, 1, 3] rfl) (Fr43_19 h)
    · exact m_cx (q := (16, .invokevirtual 80, 3, 44, 1)) (a := 44) (vs := [.ref 4, .int x3]) (st := []) (d1 := 0) (by decide +kernel) (by decide +kernel) rfl rfl rfl rfl (by decide) (Fr44 e10)
def f43 (n : Nat) (x1 : Int32) (x2 : Int32) (x3 : Int32) (x4 : Int32) (g : mG) : mZ := if x1 ≤ 0 then f43_9 n x1 x3 x4 g else m_cv (f44 n x2 g) (fun g12 => f43_9 n x1 x3 x4 g12)
theorem Fr43 {R : Nat} {x1 : Int32} {x2 : Int32} {x3 : Int32} {x4 : Int32} {g g' : mG} {o : mO} (h : f43 n x1 x2 x3 x4 g = some (o, g')) : m_Run X (1) (m_ko o) 43 0 [(0, .ref 4), (1, .int x1), (2, .int x2), (3, .int x3), (4, .int x4)] [] (hO R g) o (hO R g') := by
  unfold f43 at h
  refine m_gob (c := x1 ≤ 0) (t := 9) (f := 4) (L := [(0, .iload_n 1, 1, 0, 0), (1, .ifCond .le 8, 3, 0, 0)]) (lv1 := [(0, .ref 4), (1, .int x1), (2, .int x2), (3, .int x3), (4, .int x4)]) (st1 := []) (h1 := hO R g) (by decide +kernel) rfl (fun c1 => ?_) (fun c1 => ?_)
  · rw [if_pos c1] at h
    exact m_r0 _ _ _ _ _ _ _ _ _ _ (m_pick [0, 1, 3, 4] rfl) (Fr43_9 h)
  · rw [if_neg c1] at h
    refine m_go (L := [(4, .aload_n 0, 1, 0, 0), (5, .iload_n 2, 1, 0, 0)]) (pc1 := 6) (lv1 := [(0, .ref 4), (1, .int x1), (2, .int x2), (3, .int x3), (4, .int x4)]) (st1 := [.int x2, .ref 4]) (h1 := hO R g) (by decide +kernel) rfl ?_
    rcases m_cv_inv h with ⟨g12, e14, h⟩ | ⟨y15, g12, e14, rfl, rfl⟩
    · refine m_ca (q := (6, .invokevirtual 80, 3, 44, 1)) (a := 44) (vs := [.ref 4, .int x2]) (st := []) (d1 := 0) (by decide +kernel) rfl rfl rfl rfl (by decide) (Fr44 e14) ?_
      show m_Run X _ _ 43 9 [(0, .ref 4), (1, .int x1), (2, .int x2), (3, .int x3), (4, .int x4)] [] (hO R g12) _ _
      exact m_r0 _ _ _ _ _ _ _ _ _ _ (m_pick [0, 1, 3, 4] rfl) (Fr43_9 h)
    · exact m_cx (q := (6, .invokevirtual 80, 3, 44, 1)) (a := 44) (vs := [.ref 4, .int x2]) (st := []) (d1 := 0) (by decide +kernel) (by decide +kernel) rfl rfl rfl rfl (by decide) (Fr44 e14)
def f156 (n : Nat) (x0 : Int32) (x1 : Int32) (x2 : Int32) (g : mG) : mZ := if x1 ≤ x2 then if 0 ≤ x1 then if x2 ≤ x0 then some (.inl none, g) else none else none else none
theorem Fr156 {R : Nat} {x0 : Int32} {x1 : Int32} {x2 : Int32} {g g' : mG} {o : mO} (h : f156 n x0 x1 x2 g = some (o, g')) : m_Run X (0) (m_ko o) 156 0 [(0, .int x0), (1, .int x1), (2, .int x2)] [] (hO R g) o (hO R g') := by
  unfold f156 at h
  refine m_gob (c := x1 ≤ x2) (t := 46) (f := 5) (L := [(0, .iload_n 1, 1, 0, 0), (1, .iload_n 2, 1, 0, 0), (2, .if_icmp .le 44, 3, 0, 0)]) (lv1 := [(0, .int x0), (1, .int x1), (2, .int x2)]) (st1 := []) (h1 := hO R g) (by decide +kernel) rfl (fun c1 => ?_) (fun c1 => ?_)
  · rw [if_pos c1] at h
    refine m_gob (c := 0 ≤ x1) (t := 59) (f := 50) (L := [(46, .iload_n 1, 1, 0, 0), (47, .ifCond .ge 12, 3, 0, 0)]) (lv1 := [(0, .int x0), (1, .int x1), (2, .int x2)]) (st1 := []) (h1 := hO R g) (by decide +kernel) rfl (fun c2 => ?_) (fun c2 => ?_)
    · rw [if_pos c2] at h
      refine m_gob (c := x2 ≤ x0) (t := 73) (f := 64) (L := [(59, .iload_n 2, 1, 0, 0), (60, .iload_n 0, 1, 0, 0), (61, .if_icmp .le 12, 3, 0, 0)]) (lv1 := [(0, .int x0), (1, .int x1), (2, .int x2)]) (st1 := []) (h1 := hO R g) (by decide +kernel) rfl (fun c3 => ?_) (fun c3 => ?_)
      · rw [if_pos c3] at h
        cases h
        exact m_rv (by decide +kernel)
      · rw [if_neg c3] at h
        cases h
    · rw [if_neg c2] at h
      cases h
  · rw [if_neg c1] at h
    cases h
def f155_10 (n : Nat) : Nat → Int32 → Int32 → Int32 → mG → mZ
  | 0, _, _, _, _ => none
  | c + 1, x2, x3, x4, g => if x2 ≤ x4 then some (.inl none, g) else if x4 < 0 ∨ 96 ≤ Int32.toNatClampNeg x4 then none else f155_10 n c x2 x3 (x4 + (1 : Int32)) (gS g 26 (upd (g.2.1 26) (Int32.toNatClampNeg x4) x3))
set_option maxRecDepth 20000 in
theorem Fr155_10 {R : Nat} : ∀ (c : Nat) (x2 : Int32) (x3 : Int32) (x4 : Int32) (g g' : mG) (o : mO), f155_10 n c x2 x3 x4 g = some (o, g') → m_Run X (1) (m_ko o) 155 10 [(0, .ref 26), (2, .int x2), (3, .int x3), (4, .int x4)] [] (hO R g) o (hO R g') := by
  intro c
  induction c with
  | zero => intro x2 x3 x4 g g' o h; rw [f155_10] at h; cases h
  | succ c ih =>
    intro x2 x3 x4 g g' o h
    rw [f155_10] at h
    refine m_gob (c := x2 ≤ x4) (t := 27) (f := 16) (L := [(10, .iload 4, 2, 0, 0), (12, .iload_n 2, 1, 0, 0), (13, .if_icmp .ge 14, 3, 0, 0)]) (lv1 := [(0, .ref 26), (2, .int x2), (3, .int x3), (4, .int x4)]) (st1 := []) (h1 := hO R g) (by decide +kernel) rfl (fun c5 => ?_) (fun c5 => ?_)
    · rw [if_pos c5] at h
      cases h
      exact m_rv (by decide +kernel)
    · rw [if_neg c5] at h
      refine m_go (L := [(16, .aload_n 0, 1, 0, 0), (17, .iload 4, 2, 0, 0), (19, .iload_n 3, 1, 0, 0)]) (pc1 := 20) (lv1 := [(0, .ref 26), (2, .int x2), (3, .int x3), (4, .int x4)]) (st1 := [.int x3, .int x4, .ref 26]) (h1 := hO R g) (by decide +kernel) rfl ?_
      obtain ⟨c6, h⟩ := m_ifn_inv h
      refine m_go1 (q := (20, .iastore, 1, 0, 0)) (pc1 := 21) (lv1 := [(0, .ref 26), (2, .int x2), (3, .int x3), (4, .int x4)]) (st1 := []) (h1 := hO R (gS g 26 (upd (g.2.1 26) (Int32.toNatClampNeg x4) x3))) (by decide +kernel) (if_neg c6) ?_
      refine m_go (L := [(21, .iinc 4 1, 3, 0, 0), (24, .goto (-14), 3, 0, 0)]) (pc1 := 10) (lv1 := [(0, .ref 26), (2, .int x2), (3, .int x3), (4, .int (x4 + (1 : Int32)))]) (st1 := []) (h1 := hO R (gS g 26 (upd (g.2.1 26) (Int32.toNatClampNeg x4) x3))) (by decide +kernel) rfl ?_
      exact m_r0 _ _ _ _ _ _ _ _ _ _ (m_pick [0, 1, 2, 3] rfl) (ih _ _ _ _ _ _ h)
def f155 (n : Nat) (x1 : Int32) (x2 : Int32) (x3 : Int32) (g : mG) : mZ := m_cv (f156 n (96 : Int32) x1 x2 g) (fun g1 => f155_10 n n x2 x3 x1 g1)
theorem Fr155 {R : Nat} {x1 : Int32} {x2 : Int32} {x3 : Int32} {g g' : mG} {o : mO} (h : f155 n x1 x2 x3 g = some (o, g')) : m_Run X (1) (m_ko o) 155 0 [(0, .ref 26), (1, .int x1), (2, .int x2), (3, .int x3)] [] (hO R g) o (hO R g') := by
  unfold f155 at h
  refine m_go (L := [(0, .aload_n 0, 1, 0, 0), (1, .arraylength, 1, 0, 0), (2, .iload_n 1, 1, 0, 0), (3, .iload_n 2, 1, 0, 0)]) (pc1 := 4) (lv1 := [(0, .ref 26), (1, .int x1), (2, .int x2), (3, .int x3)]) (st1 := [.int x2, .int x1, .int (96 : Int32)]) (h1 := hO R g) (by decide +kernel) rfl ?_
  rcases m_cv_inv h with ⟨g1, e3, h⟩ | ⟨y4, g1, e3, rfl, rfl⟩
  · refine m_ca (q := (4, .invokestatic 13, 3, 156, 3)) (a := 156) (vs := [.int (96 : Int32), .int x1, .int x2]) (st := []) (d1 := 0) (by decide +kernel) rfl rfl rfl rfl (by decide) (Fr156 e3) ?_
    show m_Run X _ _ 155 7 [(0, .ref 26), (1, .int x1), (2, .int x2), (3, .int x3)] [] (hO R g1) _ _
    refine m_go (L := [(7, .iload_n 1, 1, 0, 0), (8, .istore 4, 2, 0, 0)]) (pc1 := 10) (lv1 := [(0, .ref 26), (1, .int x1), (2, .int x2), (3, .int x3), (4, .int x1)]) (st1 := []) (h1 := hO R g1) (by decide +kernel) rfl ?_
    exact m_r0 _ _ _ _ _ _ _ _ _ _ (m_pick [0, 2, 3, 4] rfl) (Fr155_10 _ _ _ _ _ _ _ h)
  · exact m_cx (q := (4, .invokestatic 13, 3, 156, 3)) (a := 156) (vs := [.int (96 : Int32), .int x1, .int x2]) (st := []) (d1 := 0) (by decide +kernel) (by decide +kernel) rfl rfl rfl rfl (by decide) (Fr156 e3)
def f39_5 (n : Nat) (x1 : Int32) (g : mG) : mZ := m_ci (f36_5 n x1 g) (fun v2 g1 => if v2 = 0 then some (.inl (some (.int (0 : Int32))), g1) else if x1 < 0 ∨ 8 ≤ Int32.toNatClampNeg x1 then none else some (.inl (some (.int ((g1.2.1 23) (Int32.toNatClampNeg x1)))), g1))
theorem Fr39_5 {R : Nat} {x1 : Int32} {g g' : mG} {o : mO} (h : f39_5 n x1 g = some (o, g')) : m_Run X (1) (m_ko o) 39 0 [(0, .ref 5), (1, .int x1)] [] (hO R g) o (hO R g') := by
  unfold f39_5 at h
  refine m_go (L := [(0, .aload_n 0, 1, 0, 0), (1, .iload_n 1, 1, 0, 0)]) (pc1 := 2) (lv1 := [(0, .ref 5), (1, .int x1)]) (st1 := [.int x1, .ref 5]) (h1 := hO R g) (by decide +kernel) rfl ?_
  rcases m_ci_inv h with ⟨v2, g1, e3, h⟩ | ⟨y4, g1, e3, rfl, rfl⟩
  · refine m_ca (q := (2, .invokevirtual 37, 3, 36, 1)) (a := 36) (vs := [.ref 5, .int x1]) (st := []) (d1 := 0) (by decide +kernel) rfl rfl rfl rfl (by decide) (Fr36_5 e3) ?_
    show m_Run X _ _ 39 5 [(0, .ref 5), (1, .int x1)] [.int v2] (hO R g1) _ _
    refine m_gob (c := v2 = 0) (t := 17) (f := 8) (L := [(5, .ifCond .eq 12, 3, 0, 0)]) (lv1 := [(0, .ref 5), (1, .int x1)]) (st1 := []) (h1 := hO R g1) (by decide +kernel) rfl (fun c5 => ?_) (fun c5 => ?_)
    · rw [if_pos c5] at h
      refine m_go (L := [(17, .iconst 0, 1, 0, 0)]) (pc1 := 18) (lv1 := [(0, .ref 5), (1, .int x1)]) (st1 := [.int (0 : Int32)]) (h1 := hO R g1) (by decide +kernel) rfl ?_
      cases h
      exact m_ri (by decide +kernel)
    · rw [if_neg c5] at h
      refine m_go (L := [(8, .aload_n 0, 1, 0, 0), (9, .getfield 22, 3, 1, 3), (12, .iload_n 1, 1, 0, 0)]) (pc1 := 13) (lv1 := [(0, .ref 5), (1, .int x1)]) (st1 := [.int x1, .ref 23]) (h1 := hO R g1) (by decide +kernel) rfl ?_
      obtain ⟨c6, h⟩ := m_ifn_inv h
      refine m_go1 (q := (13, .iaload, 1, 0, 0)) (pc1 := 14) (lv1 := [(0, .ref 5), (1, .int x1)]) (st1 := [.int ((g1.2.1 23) (Int32.toNatClampNeg x1))]) (h1 := hO R g1) (by decide +kernel) (if_neg c6) ?_
      refine m_go (L := [(14, .goto 4, 3, 0, 0)]) (pc1 := 18) (lv1 := [(0, .ref 5), (1, .int x1)]) (st1 := [.int ((g1.2.1 23) (Int32.toNatClampNeg x1))]) (h1 := hO R g1) (by decide +kernel) rfl ?_
      cases h
      exact m_ri (by decide +kernel)
  · exact m_cx (q := (2, .invokevirtual 37, 3, 36, 1)) (a := 36) (vs := [.ref 5, .int x1]) (st := []) (d1 := 0) (by decide +kernel) (by decide +kernel) rfl rfl rfl rfl (by decide) (Fr36_5 e3)
def f46 (n : Nat) (g : mG) : mZ := if 0 < (g.1 14) then if ((g.1 14) - (1 : Int32)) < 0 ∨ 1080 ≤ Int32.toNatClampNeg ((g.1 14) - (1 : Int32)) then none else some (.inl (some (.int ((g.2.1 25) (Int32.toNatClampNeg ((g.1 14) - (1 : Int32)))))), (gI g 14 ((g.1 14) - (1 : Int32)))) else some (.inl (some (.int (0 : Int32))), g)
theorem Fr46 {R : Nat} {g g' : mG} {o : mO} (h : f46 n g = some (o, g')) : m_Run X (0) (m_ko o) 46 0 [(0, .ref 4)] [] (hO R g) o (hO R g') := by
  unfold f46 at h
  refine m_gob (c := 0 < (g.1 14)) (t := 9) (f := 7) (L := [(0, .aload_n 0, 1, 0, 0), (1, .getfield 29, 3, 2, 3), (4, .ifCond .gt 5, 3, 0, 0)]) (lv1 := [(0, .ref 4)]) (st1 := []) (h1 := hO R g) (by decide +kernel) rfl (fun c1 => ?_) (fun c1 => ?_)
  · rw [if_pos c1] at h
    refine m_go (L := [(9, .aload_n 0, 1, 0, 0), (10, .dup, 1, 0, 0), (11, .getfield 29, 3, 2, 3), (14, .iconst 1, 1, 0, 0), (15, .isub, 1, 0, 0), (16, .putfield 29, 3, 2, 3), (19, .aload_n 0, 1, 0, 0), (20, .getfield 25, 3, 2, 2), (23, .aload_n 0, 1, 0, 0), (24, .getfield 29, 3, 2, 3)]) (pc1 := 27) (lv1 := [(0, .ref 4)]) (st1 := [.int ((g.1 14) - (1 : Int32)), .ref 25]) (h1 := hO R (gI g 14 ((g.1 14) - (1 : Int32)))) (by decide +kernel) rfl ?_
    obtain ⟨c2, h⟩ := m_ifn_inv h
    refine m_go1 (q := (27, .iaload, 1, 0, 0)) (pc1 := 28) (lv1 := [(0, .ref 4)]) (st1 := [.int ((g.2.1 25) (Int32.toNatClampNeg ((g.1 14) - (1 : Int32))))]) (h1 := hO R (gI g 14 ((g.1 14) - (1 : Int32)))) (by decide +kernel) (if_neg c2) ?_
    cases h
    exact m_ri (by decide +kernel)
  · rw [if_neg c1] at h
    refine m_go (L := [(7, .iconst 0, 1, 0, 0)]) (pc1 := 8) (lv1 := [(0, .ref 4)]) (st1 := [.int (0 : Int32)]) (h1 := hO R g) (by decide +kernel) rfl ?_
    cases h
    exact m_ri (by decide +kernel)
def f47 (n : Nat) (x1 : Int32) (x2 : Int32) (g : mG) : mZ := if ((((g.1 15) - (1 : Int32)) * (8 : Int32)) + x1) < 0 then some (.inl none, g) else if (96 : Int32) ≤ ((((g.1 15) - (1 : Int32)) * (8 : Int32)) + x1) then some (.inl none, g) else if ((((g.1 15) - (1 : Int32)) * (8 : Int32)) + x1) < 0 ∨ 96 ≤ Int32.toNatClampNeg ((((g.1 15) - (1 : Int32)) * (8 : Int32)) + x1) then none else some (.inl none, (gS g 26 (upd (g.2.1 26) (Int32.toNatClampNeg ((((g.1 15) - (1 : Int32)) * (8 : Int32)) + x1)) x2)))
theorem Fr47 {R : Nat} {x1 : Int32} {x2 : Int32} {g g' : mG} {o : mO} (h : f47 n x1 x2 g = some (o, g')) : m_Run X (0) (m_ko o) 47 0 [(0, .ref 4), (1, .int x1), (2, .int x2)] [] (hO R g) o (hO R g') := by
  unfold f47 at h
  refine m_gob (c := ((((g.1 15) - (1 : Int32)) * (8 : Int32)) + x1) < 0) (t := 32) (f := 16) (L := [(0, .aload_n 0, 1, 0, 0), (1, .getfield 39, 3, 2, 6), (4, .iconst 1, 1, 0, 0), (5, .isub, 1, 0, 0), (6, .bipush 8, 2, 0, 0), (8, .imul, 1, 0, 0), (9, .iload_n 1, 1, 0, 0), (10, .iadd, 1, 0, 0), (11, .istore_n 3, 1, 0, 0), (12, .iload_n 3, 1, 0, 0), (13, .ifCond .lt 19, 3, 0, 0)]) (lv1 := [(0, .ref 4), (1, .int x1), (2, .int x2), (3, .int ((((g.1 15) - (1 : Int32)) * (8 : Int32)) + x1))]) (st1 := []) (h1 := hO R g) (by decide +kernel) rfl (fun c1 => ?_) (fun c1 => ?_)
  · rw [if_pos c1] at h
    cases h
    exact m_rv (by decide +kernel)
  · rw [if_neg c1] at h
    refine m_gob (c := (96 : Int32) ≤ ((((g.1 15) - (1 : Int32)) * (8 : Int32)) + x1)) (t := 32) (f := 25) (L := [(16, .iload_n 3, 1, 0, 0), (17, .aload_n 0, 1, 0, 0), (18, .getfield 33, 3, 2, 4), (21, .arraylength, 1, 0, 0), (22, .if_icmp .ge 10, 3, 0, 0)]) (lv1 := [(0, .ref 4), (1, .int x1), (2, .int x2), (3, .int ((((g.1 15) - (1 : Int32)) * (8 : Int32)) + x1))]) (st1 := []) (h1 := hO R g) (by decide +kernel) rfl (fun c2 => ?_) (fun c2 => ?_)
    · rw [if_pos c2] at h
      cases h
      exact m_rv (by decide +kernel)
    · rw [if_neg c2] at h
      refine m_go (L := [(25, .aload_n 0, 1, 0, 0), (26, .getfield 33, 3, 2, 4), (29, .iload_n 3, 1, 0, 0), (30, .iload_n 2, 1, 0, 0)]) (pc1 := 31) (lv1 := [(0, .ref 4), (1, .int x1), (2, .int x2), (3, .int ((((g.1 15) - (1 : Int32)) * (8 : Int32)) + x1))]) (st1 := [.int x2, .int ((((g.1 15) - (1 : Int32)) * (8 : Int32)) + x1), .ref 26]) (h1 := hO R g) (by decide +kernel) rfl ?_
      obtain ⟨c3, h⟩ := m_ifn_inv h
      refine m_go1 (q := (31, .iastore, 1, 0, 0)) (pc1 := 32) (lv1 := [(0, .ref 4), (1, .int x1), (2, .int x2), (3, .int ((((g.1 15) - (1 : Int32)) * (8 : Int32)) + x1))]) (st1 := []) (h1 := hO R (gS g 26 (upd (g.2.1 26) (Int32.toNatClampNeg ((((g.1 15) - (1 : Int32)) * (8 : Int32)) + x1)) x2))) (by decide +kernel) (if_neg c3) ?_
      cases h
      exact m_rv (by decide +kernel)
def f45_72 (n : Nat) : Nat → Int32 → Int32 → mG → mZ
  | 0, _, _, _ => none
  | c + 1, x1, x3, g => if x3 < 0 then m_ci (f39_5 n x1 g) (fun v13 g12 => some (.inl none, (gI g12 16 v13))) else m_ci (f46 n g) (fun v17 g16 => m_cv (f47 n x3 v17 g16) (fun g20 => f45_72 n c x1 (x3 + (-1 : Int32)) g20))
set_option maxRecDepth 20000 in
theorem Fr45_72 {R : Nat} : ∀ (c : Nat) (x1 : Int32) (x3 : Int32) (g g' : mG) (o : mO), f45_72 n c x1 x3 g = some (o, g') → m_Run X (2) (m_ko o) 45 72 [(0, .ref 4), (1, .int x1), (3, .int x3)] [] (hO R g) o (hO R g') := by
  intro c
  induction c with
  | zero => intro x1 x3 g g' o h; rw [f45_72] at h; cases h
  | succ c ih =>
    intro x1 x3 g g' o h
    rw [f45_72] at h
    refine m_gob (c := x3 < 0) (t := 91) (f := 76) (L := [(72, .iload_n 3, 1, 0, 0), (73, .ifCond .lt 18, 3, 0, 0)]) (lv1 := [(0, .ref 4), (1, .int x1), (3, .int x3)]) (st1 := []) (h1 := hO R g) (by decide +kernel) rfl (fun c11 => ?_) (fun c11 => ?_)
    · rw [if_pos c11] at h
      refine m_go (L := [(91, .aload_n 0, 1, 0, 0), (92, .aload_n 0, 1, 0, 0), (93, .getfield 21, 3, 2, 1), (96, .iload_n 1, 1, 0, 0)]) (pc1 := 97) (lv1 := [(0, .ref 4), (1, .int x1), (3, .int x3)]) (st1 := [.int x1, .ref 5, .ref 4]) (h1 := hO R g) (by decide +kernel) rfl ?_
      rcases m_ci_inv h with ⟨v13, g12, e14, h⟩ | ⟨y15, g12, e14, rfl, rfl⟩
      · refine m_ca (q := (97, .invokevirtual 123, 3, 39, 1)) (a := 39) (vs := [.ref 5, .int x1]) (st := [.ref 4]) (d1 := 1) (by decide +kernel) rfl rfl rfl rfl (by decide) (Fr39_5 e14) ?_
        show m_Run X _ _ 45 100 [(0, .ref 4), (1, .int x1), (3, .int x3)] [.int v13, .ref 4] (hO R g12) _ _
        refine m_go (L := [(100, .putfield 42, 3, 2, 7)]) (pc1 := 103) (lv1 := [(0, .ref 4), (1, .int x1), (3, .int x3)]) (st1 := []) (h1 := hO R (gI g12 16 v13)) (by decide +kernel) rfl ?_
        cases h
        exact m_rv (by decide +kernel)
      · exact m_cx (q := (97, .invokevirtual 123, 3, 39, 1)) (a := 39) (vs := [.ref 5, .int x1]) (st := [.ref 4]) (d1 := 1) (by decide +kernel) (by decide +kernel) rfl rfl rfl rfl (by decide) (Fr39_5 e14)
    · rw [if_neg c11] at h
      refine m_go (L := [(76, .aload_n 0, 1, 0, 0), (77, .iload_n 3, 1, 0, 0), (78, .aload_n 0, 1, 0, 0)]) (pc1 := 79) (lv1 := [(0, .ref 4), (1, .int x1), (3, .int x3)]) (st1 := [.ref 4, .int x3, .ref 4]) (h1 := hO R g) (by decide +kernel) rfl ?_
      rcases m_ci_inv h with ⟨v17, g16, e18, h⟩ | ⟨y19, g16, e18, rfl, rfl⟩
      · refine m_ca (q := (79, .invokevirtual 86, 3, 46, 0)) (a := 46) (vs := [.ref 4]) (st := [.int x3, .ref 4]) (d1 := 0) (by decide +kernel) rfl rfl rfl rfl (by decide) (Fr46 e18) ?_
        show m_Run X _ _ 45 82 [(0, .ref 4), (1, .int x1), (3, .int x3)] [.int v17, .int x3, .ref 4] (hO R g16) _ _
        rcases m_cv_inv h with ⟨g20, e22, h⟩ | ⟨y23, g20, e22, rfl, rfl⟩
        · refine m_ca (q := (82, .invokevirtual 90, 3, 47, 2)) (a := 47) (vs := [.ref 4, .int x3, .int v17]) (st := []) (d1 := 0) (by decide +kernel) rfl rfl rfl rfl (by decide) (Fr47 e22) ?_
          show m_Run X _ _ 45 85 [(0, .ref 4), (1, .int x1), (3, .int x3)] [] (hO R g20) _ _
          refine m_go (L := [(85, .iinc 3 (-1), 3, 0, 0), (88, .goto (-16), 3, 0, 0)]) (pc1 := 72) (lv1 := [(0, .ref 4), (1, .int x1), (3, .int (x3 + (-1 : Int32)))]) (st1 := []) (h1 := hO R g20) (by decide +kernel) rfl ?_
          exact m_r0 _ _ _ _ _ _ _ _ _ _ (m_pick [0, 1, 2] rfl) (ih _ _ _ _ _ h)
        · exact m_cx (q := (82, .invokevirtual 90, 3, 47, 2)) (a := 47) (vs := [.ref 4, .int x3, .int v17]) (st := []) (d1 := 0) (by decide +kernel) (by decide +kernel) rfl rfl rfl rfl (by decide) (Fr47 e22)
      · exact m_cx (q := (79, .invokevirtual 86, 3, 46, 0)) (a := 46) (vs := [.ref 4]) (st := [.int x3, .ref 4]) (d1 := 0) (by decide +kernel) (by decide +kernel) rfl rfl rfl rfl (by decide) (Fr46 e18)
def f45 (n : Nat) (x1 : Int32) (g : mG) : mZ := if (g.1 15) < (12 : Int32) then if (g.1 15) < 0 ∨ 12 ≤ Int32.toNatClampNeg (g.1 15) then none else m_cv (f155 n ((((g.1 15) + (1 : Int32)) - (1 : Int32)) * (8 : Int32)) (((((g.1 15) + (1 : Int32)) - (1 : Int32)) * (8 : Int32)) + (8 : Int32)) (0 : Int32) (gI (gS g 27 (upd (g.2.1 27) (Int32.toNatClampNeg (g.1 15)) (g.1 16))) 15 ((g.1 15) + (1 : Int32)))) (fun g3 => m_ci (f35_5 n x1 g3) (fun v8 g7 => f45_72 n n x1 (v8 - (1 : Int32)) g7)) else some (.inl none, (gI g 17 (1 : Int32)))
theorem Fr45 {R : Nat} {x1 : Int32} {g g' : mG} {o : mO} (h : f45 n x1 g = some (o, g')) : m_Run X (2) (m_ko o) 45 0 [(0, .ref 4), (1, .int x1)] [] (hO R g) o (hO R g') := by
  unfold f45 at h
  refine m_gob (c := (g.1 15) < (12 : Int32)) (t := 15) (f := 9) (L := [(0, .aload_n 0, 1, 0, 0), (1, .getfield 39, 3, 2, 6), (4, .bipush 12, 2, 0, 0), (6, .if_icmp .lt 9, 3, 0, 0)]) (lv1 := [(0, .ref 4), (1, .int x1)]) (st1 := []) (h1 := hO R g) (by decide +kernel) rfl (fun c1 => ?_) (fun c1 => ?_)
  · rw [if_pos c1] at h
    refine m_go (L := [(15, .aload_n 0, 1, 0, 0), (16, .getfield 36, 3, 2, 5), (19, .aload_n 0, 1, 0, 0), (20, .getfield 39, 3, 2, 6), (23, .aload_n 0, 1, 0, 0), (24, .getfield 42, 3, 2, 7)]) (pc1 := 27) (lv1 := [(0, .ref 4), (1, .int x1)]) (st1 := [.int (g.1 16), .int (g.1 15), .ref 27]) (h1 := hO R g) (by decide +kernel) rfl ?_
    obtain ⟨c2, h⟩ := m_ifn_inv h
    refine m_go1 (q := (27, .iastore, 1, 0, 0)) (pc1 := 28) (lv1 := [(0, .ref 4), (1, .int x1)]) (st1 := []) (h1 := hO R (gS g 27 (upd (g.2.1 27) (Int32.toNatClampNeg (g.1 15)) (g.1 16)))) (by decide +kernel) (if_neg c2) ?_
    refine m_go (L := [(28, .aload_n 0, 1, 0, 0), (29, .dup, 1, 0, 0), (30, .getfield 39, 3, 2, 6), (33, .iconst 1, 1, 0, 0), (34, .iadd, 1, 0, 0), (35, .putfield 39, 3, 2, 6), (38, .aload_n 0, 1, 0, 0), (39, .getfield 39, 3, 2, 6), (42, .iconst 1, 1, 0, 0), (43, .isub, 1, 0, 0), (44, .bipush 8, 2, 0, 0), (46, .imul, 1, 0, 0), (47, .istore_n 2, 1, 0, 0), (48, .aload_n 0, 1, 0, 0), (49, .getfield 33, 3, 2, 4), (52, .iload_n 2, 1, 0, 0), (53, .iload_n 2, 1, 0, 0), (54, .bipush 8, 2, 0, 0), (56, .iadd, 1, 0, 0), (57, .iconst 0, 1, 0, 0)]) (pc1 := 58) (lv1 := [(0, .ref 4), (1, .int x1), (2, .int ((((g.1 15) + (1 : Int32)) - (1 : Int32)) * (8 : Int32)))]) (st1 := [.int (0 : Int32), .int (((((g.1 15) + (1 : Int32)) - (1 : Int32)) * (8 : Int32)) + (8 : Int32)), .int ((((g.1 15) + (1 : Int32)) - (1 : Int32)) * (8 : Int32)), .ref 26]) (h1 := hO R (gI (gS g 27 (upd (g.2.1 27) (Int32.toNatClampNeg (g.1 15)) (g.1 16))) 15 ((g.1 15) + (1 : Int32)))) (by decide +kernel) rfl ?_
    rcases m_cv_inv h with ⟨g3, e5, h⟩ | ⟨y6, g3, e5, rfl, rfl⟩
    · refine m_ca (q := (58, .invokestatic 117, 3, 155, 4)) (a := 155) (vs := [.ref 26, .int ((((g.1 15) + (1 : Int32)) - (1 : Int32)) * (8 : Int32)), .int (((((g.1 15) + (1 : Int32)) - (1 : Int32)) * (8 : Int32)) + (8 : Int32)), .int (0 : Int32)]) (st := []) (d1 := 1) (by decide +kernel) rfl rfl rfl rfl (by decide) (Fr155 e5) ?_
      show m_Run X _ _ 45 61 [(0, .ref 4), (1, .int x1), (2, .int ((((g.1 15) + (1 : Int32)) - (1 : Int32)) * (8 : Int32)))] [] (hO R g3) _ _
      refine m_go (L := [(61, .aload_n 0, 1, 0, 0), (62, .getfield 21, 3, 2, 1), (65, .iload_n 1, 1, 0, 0)]) (pc1 := 66) (lv1 := [(0, .ref 4), (1, .int x1), (2, .int ((((g.1 15) + (1 : Int32)) - (1 : Int32)) * (8 : Int32)))]) (st1 := [.int x1, .ref 5]) (h1 := hO R g3) (by decide +kernel) rfl ?_
      rcases m_ci_inv h with ⟨v8, g7, e9, h⟩ | ⟨y10, g7, e9, rfl, rfl⟩
      · refine m_ca (q := (66, .invokevirtual 54, 3, 35, 1)) (a := 35) (vs := [.ref 5, .int x1]) (st := []) (d1 := 1) (by decide +kernel) rfl rfl rfl rfl (by decide) (Fr35_5 e9) ?_
        show m_Run X _ _ 45 69 [(0, .ref 4), (1, .int x1), (2, .int ((((g.1 15) + (1 : Int32)) - (1 : Int32)) * (8 : Int32)))] [.int v8] (hO R g7) _ _
        refine m_go (L := [(69, .iconst 1, 1, 0, 0), (70, .isub, 1, 0, 0), (71, .istore_n 3, 1, 0, 0)]) (pc1 := 72) (lv1 := [(0, .ref 4), (1, .int x1), (2, .int ((((g.1 15) + (1 : Int32)) - (1 : Int32)) * (8 : Int32))), (3, .int (v8 - (1 : Int32)))]) (st1 := []) (h1 := hO R g7) (by decide +kernel) rfl ?_
        exact m_r0 _ _ _ _ _ _ _ _ _ _ (m_pick [0, 1, 3] rfl) (Fr45_72 _ _ _ _ _ _ h)
      · exact m_cx (q := (66, .invokevirtual 54, 3, 35, 1)) (a := 35) (vs := [.ref 5, .int x1]) (st := []) (d1 := 1) (by decide +kernel) (by decide +kernel) rfl rfl rfl rfl (by decide) (Fr35_5 e9)
    · exact m_cx (q := (58, .invokestatic 117, 3, 155, 4)) (a := 155) (vs := [.ref 26, .int ((((g.1 15) + (1 : Int32)) - (1 : Int32)) * (8 : Int32)), .int (((((g.1 15) + (1 : Int32)) - (1 : Int32)) * (8 : Int32)) + (8 : Int32)), .int (0 : Int32)]) (st := []) (d1 := 1) (by decide +kernel) (by decide +kernel) rfl rfl rfl rfl (by decide) (Fr155 e5)
  · rw [if_neg c1] at h
    refine m_go (L := [(9, .aload_n 0, 1, 0, 0), (10, .iconst 1, 1, 0, 0), (11, .putfield 45, 3, 2, 8)]) (pc1 := 14) (lv1 := [(0, .ref 4), (1, .int x1)]) (st1 := []) (h1 := hO R (gI g 17 (1 : Int32))) (by decide +kernel) rfl ?_
    cases h
    exact m_rv (by decide +kernel)
def f40_5 (n : Nat) (x1 : Int32) (g : mG) : mZ := if x1 < 0 then some (.inl (some (.int (42 : Int32))), g) else if (g.1 20) ≤ x1 then some (.inl (some (.int (42 : Int32))), g) else if x1 < 0 ∨ 600 ≤ Int32.toNatClampNeg x1 then none else some (.inl (some (.int ((g.2.1 21) (Int32.toNatClampNeg x1)))), g)
theorem Fr40_5 {R : Nat} {x1 : Int32} {g g' : mG} {o : mO} (h : f40_5 n x1 g = some (o, g')) : m_Run X (0) (m_ko o) 40 0 [(0, .ref 5), (1, .int x1)] [] (hO R g) o (hO R g') := by
  unfold f40_5 at h
  refine m_gob (c := x1 < 0) (t := 21) (f := 4) (L := [(0, .iload_n 1, 1, 0, 0), (1, .ifCond .lt 20, 3, 0, 0)]) (lv1 := [(0, .ref 5), (1, .int x1)]) (st1 := []) (h1 := hO R g) (by decide +kernel) rfl (fun c1 => ?_) (fun c1 => ?_)
  · rw [if_pos c1] at h
    refine m_go (L := [(21, .bipush 42, 2, 0, 0)]) (pc1 := 23) (lv1 := [(0, .ref 5), (1, .int x1)]) (st1 := [.int (42 : Int32)]) (h1 := hO R g) (by decide +kernel) rfl ?_
    cases h
    exact m_ri (by decide +kernel)
  · rw [if_neg c1] at h
    refine m_gob (c := (g.1 20) ≤ x1) (t := 21) (f := 12) (L := [(4, .iload_n 1, 1, 0, 0), (5, .aload_n 0, 1, 0, 0), (6, .getfield 18, 3, 1, 2), (9, .if_icmp .ge 12, 3, 0, 0)]) (lv1 := [(0, .ref 5), (1, .int x1)]) (st1 := []) (h1 := hO R g) (by decide +kernel) rfl (fun c2 => ?_) (fun c2 => ?_)
    · rw [if_pos c2] at h
      refine m_go (L := [(21, .bipush 42, 2, 0, 0)]) (pc1 := 23) (lv1 := [(0, .ref 5), (1, .int x1)]) (st1 := [.int (42 : Int32)]) (h1 := hO R g) (by decide +kernel) rfl ?_
      cases h
      exact m_ri (by decide +kernel)
    · rw [if_neg c2] at h
      refine m_go (L := [(12, .aload_n 0, 1, 0, 0), (13, .getfield 9, 3, 1, 0), (16, .iload_n 1, 1, 0, 0)]) (pc1 := 17) (lv1 := [(0, .ref 5), (1, .int x1)]) (st1 := [.int x1, .ref 21]) (h1 := hO R g) (by decide +kernel) rfl ?_
      obtain ⟨c3, h⟩ := m_ifn_inv h
      refine m_go1 (q := (17, .iaload, 1, 0, 0)) (pc1 := 18) (lv1 := [(0, .ref 5), (1, .int x1)]) (st1 := [.int ((g.2.1 21) (Int32.toNatClampNeg x1))]) (h1 := hO R g) (by decide +kernel) (if_neg c3) ?_
      refine m_go (L := [(18, .goto 5, 3, 0, 0)]) (pc1 := 23) (lv1 := [(0, .ref 5), (1, .int x1)]) (st1 := [.int ((g.2.1 21) (Int32.toNatClampNeg x1))]) (h1 := hO R g) (by decide +kernel) rfl ?_
      cases h
      exact m_ri (by decide +kernel)
def f41_5 (n : Nat) (x1 : Int32) (g : mG) : mZ := if x1 < 0 then some (.inl (some (.int (0 : Int32))), g) else if (g.1 20) ≤ x1 then some (.inl (some (.int (0 : Int32))), g) else if x1 < 0 ∨ 600 ≤ Int32.toNatClampNeg x1 then none else some (.inl (some (.int ((g.2.1 22) (Int32.toNatClampNeg x1)))), g)
theorem Fr41_5 {R : Nat} {x1 : Int32} {g g' : mG} {o : mO} (h : f41_5 n x1 g = some (o, g')) : m_Run X (0) (m_ko o) 41 0 [(0, .ref 5), (1, .int x1)] [] (hO R g) o (hO R g') := by
  unfold f41_5 at h
  refine m_gob (c := x1 < 0) (t := 21) (f := 4) (L := [(0, .iload_n 1, 1, 0, 0), (1, .ifCond .lt 20, 3, 0, 0)]) (lv1 := [(0, .ref 5), (1, .int x1)]) (st1 := []) (h1 := hO R g) (by decide +kernel) rfl (fun c1 => ?_) (fun c1 => ?_)
  · rw [if_pos c1] at h
    refine m_go (L := [(21, .iconst 0, 1, 0, 0)]) (pc1 := 22) (lv1 := [(0, .ref 5), (1, .int x1)]) (st1 := [.int (0 : Int32)]) (h1 := hO R g) (by decide +kernel) rfl ?_
    cases h
    exact m_ri (by decide +kernel)
  · rw [if_neg c1] at h
    refine m_gob (c := (g.1 20) ≤ x1) (t := 21) (f := 12) (L := [(4, .iload_n 1, 1, 0, 0), (5, .aload_n 0, 1, 0, 0), (6, .getfield 18, 3, 1, 2), (9, .if_icmp .ge 12, 3, 0, 0)]) (lv1 := [(0, .ref 5), (1, .int x1)]) (st1 := []) (h1 := hO R g) (by decide +kernel) rfl (fun c2 => ?_) (fun c2 => ?_)
    · rw [if_pos c2] at h
      refine m_go (L := [(21, .iconst 0, 1, 0, 0)]) (pc1 := 22) (lv1 := [(0, .ref 5), (1, .int x1)]) (st1 := [.int (0 : Int32)]) (h1 := hO R g) (by decide +kernel) rfl ?_
      cases h
      exact m_ri (by decide +kernel)
    · rw [if_neg c2] at h
      refine m_go (L := [(12, .aload_n 0, 1, 0, 0), (13, .getfield 15, 3, 1, 1), (16, .iload_n 1, 1, 0, 0)]) (pc1 := 17) (lv1 := [(0, .ref 5), (1, .int x1)]) (st1 := [.int x1, .ref 22]) (h1 := hO R g) (by decide +kernel) rfl ?_
      obtain ⟨c3, h⟩ := m_ifn_inv h
      refine m_go1 (q := (17, .iaload, 1, 0, 0)) (pc1 := 18) (lv1 := [(0, .ref 5), (1, .int x1)]) (st1 := [.int ((g.2.1 22) (Int32.toNatClampNeg x1))]) (h1 := hO R g) (by decide +kernel) (if_neg c3) ?_
      refine m_go (L := [(18, .goto 4, 3, 0, 0)]) (pc1 := 22) (lv1 := [(0, .ref 5), (1, .int x1)]) (st1 := [.int ((g.2.1 22) (Int32.toNatClampNeg x1))]) (h1 := hO R g) (by decide +kernel) rfl ?_
      cases h
      exact m_ri (by decide +kernel)
def f48 (n : Nat) (x0 : Int32) (g : mG) : mZ := if x0 = 3 then some (.inl (some (.int (1 : Int32))), g) else if x0 = 27 then some (.inl (some (.int (40 : Int32))), g) else if x0 = 28 then some (.inl (some (.int (20 : Int32))), g) else if x0 = 36 then some (.inl (some (.int (1 : Int32))), g) else if x0 = 38 then some (.inl (some (.int (10 : Int32))), g) else if x0 = 41 then some (.inl (some (.int (0 : Int32))), g) else if x0 = 42 then some (.inl (some (.int (0 : Int32))), g) else some (.inl (some (.int (2 : Int32))), g)
theorem Fr48 {R : Nat} {x0 : Int32} {g g' : mG} {o : mO} (h : f48 n x0 g = some (o, g')) : m_Run X (0) (m_ko o) 48 0 [(0, .int x0)] [] (hO R g) o (hO R g') := by
  unfold f48 at h
  refine m_go (L := [(0, .iload_n 0, 1, 0, 0)]) (pc1 := 1) (lv1 := [(0, .int x0)]) (st1 := [.int x0]) (h1 := hO R g) (by decide +kernel) rfl ?_
  by_cases c1 : x0 = 3
  · rw [if_pos c1] at h
    refine m_go1 (q := (1, .lookupswitch 80 #[(3, 67), (27, 75), (28, 69), (36, 67), (38, 72), (41, 78), (42, 78)], 67, 0, 0)) (pc1 := 68) (lv1 := [(0, .int x0)]) (st1 := []) (h1 := hO R g) (by decide +kernel) (m_swx (fun z => m_loc m_ft X (.lookupswitch 80 #[(3, 67), (27, 75), (28, 69), (36, 67), (38, 72), (41, 78), (42, 78)]) 0 0 1 [(0, .int x0)] (.int z :: []) (hO R g)) c1 rfl) ?_
    refine m_go (L := [(68, .iconst 1, 1, 0, 0)]) (pc1 := 69) (lv1 := [(0, .int x0)]) (st1 := [.int (1 : Int32)]) (h1 := hO R g) (by decide +kernel) rfl ?_
    cases h
    exact m_ri (by decide +kernel)
  · rw [if_neg c1] at h
    by_cases c2 : x0 = 27
    · rw [if_pos c2] at h
      refine m_go1 (q := (1, .lookupswitch 80 #[(3, 67), (27, 75), (28, 69), (36, 67), (38, 72), (41, 78), (42, 78)], 67, 0, 0)) (pc1 := 76) (lv1 := [(0, .int x0)]) (st1 := []) (h1 := hO R g) (by decide +kernel) (m_swx (fun z => m_loc m_ft X (.lookupswitch 80 #[(3, 67), (27, 75), (28, 69), (36, 67), (38, 72), (41, 78), (42, 78)]) 0 0 1 [(0, .int x0)] (.int z :: []) (hO R g)) c2 rfl) ?_
      refine m_go (L := [(76, .bipush 40, 2, 0, 0)]) (pc1 := 78) (lv1 := [(0, .int x0)]) (st1 := [.int (40 : Int32)]) (h1 := hO R g) (by decide +kernel) rfl ?_
      cases h
      exact m_ri (by decide +kernel)
    · rw [if_neg c2] at h
      by_cases c3 : x0 = 28
      · rw [if_pos c3] at h
        refine m_go1 (q := (1, .lookupswitch 80 #[(3, 67), (27, 75), (28, 69), (36, 67), (38, 72), (41, 78), (42, 78)], 67, 0, 0)) (pc1 := 70) (lv1 := [(0, .int x0)]) (st1 := []) (h1 := hO R g) (by decide +kernel) (m_swx (fun z => m_loc m_ft X (.lookupswitch 80 #[(3, 67), (27, 75), (28, 69), (36, 67), (38, 72), (41, 78), (42, 78)]) 0 0 1 [(0, .int x0)] (.int z :: []) (hO R g)) c3 rfl) ?_
        refine m_go (L := [(70, .bipush 20, 2, 0, 0)]) (pc1 := 72) (lv1 := [(0, .int x0)]) (st1 := [.int (20 : Int32)]) (h1 := hO R g) (by decide +kernel) rfl ?_
        cases h
        exact m_ri (by decide +kernel)
      · rw [if_neg c3] at h
        by_cases c4 : x0 = 36
        · rw [if_pos c4] at h
          refine m_go1 (q := (1, .lookupswitch 80 #[(3, 67), (27, 75), (28, 69), (36, 67), (38, 72), (41, 78), (42, 78)], 67, 0, 0)) (pc1 := 68) (lv1 := [(0, .int x0)]) (st1 := []) (h1 := hO R g) (by decide +kernel) (m_swx (fun z => m_loc m_ft X (.lookupswitch 80 #[(3, 67), (27, 75), (28, 69), (36, 67), (38, 72), (41, 78), (42, 78)]) 0 0 1 [(0, .int x0)] (.int z :: []) (hO R g)) c4 rfl) ?_
          refine m_go (L := [(68, .iconst 1, 1, 0, 0)]) (pc1 := 69) (lv1 := [(0, .int x0)]) (st1 := [.int (1 : Int32)]) (h1 := hO R g) (by decide +kernel) rfl ?_
          cases h
          exact m_ri (by decide +kernel)
        · rw [if_neg c4] at h
          by_cases c5 : x0 = 38
          · rw [if_pos c5] at h
            refine m_go1 (q := (1, .lookupswitch 80 #[(3, 67), (27, 75), (28, 69), (36, 67), (38, 72), (41, 78), (42, 78)], 67, 0, 0)) (pc1 := 73) (lv1 := [(0, .int x0)]) (st1 := []) (h1 := hO R g) (by decide +kernel) (m_swx (fun z => m_loc m_ft X (.lookupswitch 80 #[(3, 67), (27, 75), (28, 69), (36, 67), (38, 72), (41, 78), (42, 78)]) 0 0 1 [(0, .int x0)] (.int z :: []) (hO R g)) c5 rfl) ?_
            refine m_go (L := [(73, .bipush 10, 2, 0, 0)]) (pc1 := 75) (lv1 := [(0, .int x0)]) (st1 := [.int (10 : Int32)]) (h1 := hO R g) (by decide +kernel) rfl ?_
            cases h
            exact m_ri (by decide +kernel)
          · rw [if_neg c5] at h
            by_cases c6 : x0 = 41
            · rw [if_pos c6] at h
              refine m_go1 (q := (1, .lookupswitch 80 #[(3, 67), (27, 75), (28, 69), (36, 67), (38, 72), (41, 78), (42, 78)], 67, 0, 0)) (pc1 := 79) (lv1 := [(0, .int x0)]) (st1 := []) (h1 := hO R g) (by decide +kernel) (m_swx (fun z => m_loc m_ft X (.lookupswitch 80 #[(3, 67), (27, 75), (28, 69), (36, 67), (38, 72), (41, 78), (42, 78)]) 0 0 1 [(0, .int x0)] (.int z :: []) (hO R g)) c6 rfl) ?_
              refine m_go (L := [(79, .iconst 0, 1, 0, 0)]) (pc1 := 80) (lv1 := [(0, .int x0)]) (st1 := [.int (0 : Int32)]) (h1 := hO R g) (by decide +kernel) rfl ?_
              cases h
              exact m_ri (by decide +kernel)
            · rw [if_neg c6] at h
              by_cases c7 : x0 = 42
              · rw [if_pos c7] at h
                refine m_go1 (q := (1, .lookupswitch 80 #[(3, 67), (27, 75), (28, 69), (36, 67), (38, 72), (41, 78), (42, 78)], 67, 0, 0)) (pc1 := 79) (lv1 := [(0, .int x0)]) (st1 := []) (h1 := hO R g) (by decide +kernel) (m_swx (fun z => m_loc m_ft X (.lookupswitch 80 #[(3, 67), (27, 75), (28, 69), (36, 67), (38, 72), (41, 78), (42, 78)]) 0 0 1 [(0, .int x0)] (.int z :: []) (hO R g)) c7 rfl) ?_
                refine m_go (L := [(79, .iconst 0, 1, 0, 0)]) (pc1 := 80) (lv1 := [(0, .int x0)]) (st1 := [.int (0 : Int32)]) (h1 := hO R g) (by decide +kernel) rfl ?_
                cases h
                exact m_ri (by decide +kernel)
              · rw [if_neg c7] at h
                refine m_go1 (q := (1, .lookupswitch 80 #[(3, 67), (27, 75), (28, 69), (36, 67), (38, 72), (41, 78), (42, 78)], 67, 0, 0)) (pc1 := 81) (lv1 := [(0, .int x0)]) (st1 := []) (h1 := hO R g) (by decide +kernel) (by show some (m_tg _ (Op.lookupswitch.offset _ _ _), _, _, _) = _; rw [m_lkd _ (List.forall_mem_cons.mpr ⟨m_ne (k := 3) (by decide) c1, List.forall_mem_cons.mpr ⟨m_ne (k := 27) (by decide) c2, List.forall_mem_cons.mpr ⟨m_ne (k := 28) (by decide) c3, List.forall_mem_cons.mpr ⟨m_ne (k := 36) (by decide) c4, List.forall_mem_cons.mpr ⟨m_ne (k := 38) (by decide) c5, List.forall_mem_cons.mpr ⟨m_ne (k := 41) (by decide) c6, List.forall_mem_cons.mpr ⟨m_ne (k := 42) (by decide) c7, fun _ hq => absurd hq List.not_mem_nil⟩⟩⟩⟩⟩⟩⟩)]; rfl) ?_
                refine m_go (L := [(81, .iconst 2, 1, 0, 0)]) (pc1 := 82) (lv1 := [(0, .int x0)]) (st1 := [.int (2 : Int32)]) (h1 := hO R g) (by decide +kernel) rfl ?_
                cases h
                exact m_ri (by decide +kernel)
def f53 (n : Nat) (x1 : Int32) (x2 : Int32) (g : mG) : mZ := m_ci (f46 n g) (fun v2 g1 => if ¬ v2 = x1 then some (.inl none, g1) else m_cv (f44 n v2 g1) (fun g6 => some (.inl none, (gI g6 16 x2))))
theorem Fr53 {R : Nat} {x1 : Int32} {x2 : Int32} {g g' : mG} {o : mO} (h : f53 n x1 x2 g = some (o, g')) : m_Run X (1) (m_ko o) 53 0 [(0, .ref 4), (1, .int x1), (2, .int x2)] [] (hO R g) o (hO R g') := by
  unfold f53 at h
  refine m_go (L := [(0, .aload_n 0, 1, 0, 0)]) (pc1 := 1) (lv1 := [(0, .ref 4), (1, .int x1), (2, .int x2)]) (st1 := [.ref 4]) (h1 := hO R g) (by decide +kernel) rfl ?_
  rcases m_ci_inv h with ⟨v2, g1, e3, h⟩ | ⟨y4, g1, e3, rfl, rfl⟩
  · refine m_ca (q := (1, .invokevirtual 86, 3, 46, 0)) (a := 46) (vs := [.ref 4]) (st := []) (d1 := 0) (by decide +kernel) rfl rfl rfl rfl (by decide) (Fr46 e3) ?_
    show m_Run X _ _ 53 4 [(0, .ref 4), (1, .int x1), (2, .int x2)] [.int v2] (hO R g1) _ _
    refine m_gob (c := ¬ v2 = x1) (t := 20) (f := 10) (L := [(4, .istore_n 3, 1, 0, 0), (5, .iload_n 3, 1, 0, 0), (6, .iload_n 1, 1, 0, 0), (7, .if_icmp .ne 13, 3, 0, 0)]) (lv1 := [(0, .ref 4), (1, .int x1), (2, .int x2), (3, .int v2)]) (st1 := []) (h1 := hO R g1) (by decide +kernel) rfl (fun c5 => ?_) (fun c5 => ?_)
    · rw [if_pos c5] at h
      cases h
      exact m_rv (by decide +kernel)
    · rw [if_neg c5] at h
      refine m_go (L := [(10, .aload_n 0, 1, 0, 0), (11, .iload_n 3, 1, 0, 0)]) (pc1 := 12) (lv1 := [(0, .ref 4), (1, .int x1), (2, .int x2), (3, .int v2)]) (st1 := [.int v2, .ref 4]) (h1 := hO R g1) (by decide +kernel) rfl ?_
      rcases m_cv_inv h with ⟨g6, e8, h⟩ | ⟨y9, g6, e8, rfl, rfl⟩
      · refine m_ca (q := (12, .invokevirtual 80, 3, 44, 1)) (a := 44) (vs := [.ref 4, .int v2]) (st := []) (d1 := 0) (by decide +kernel) rfl rfl rfl rfl (by decide) (Fr44 e8) ?_
        show m_Run X _ _ 53 15 [(0, .ref 4), (1, .int x1), (2, .int x2), (3, .int v2)] [] (hO R g6) _ _
        refine m_go (L := [(15, .aload_n 0, 1, 0, 0), (16, .iload_n 2, 1, 0, 0), (17, .putfield 42, 3, 2, 7)]) (pc1 := 20) (lv1 := [(0, .ref 4), (1, .int x1), (2, .int x2), (3, .int v2)]) (st1 := []) (h1 := hO R (gI g6 16 x2)) (by decide +kernel) rfl ?_
        cases h
        exact m_rv (by decide +kernel)
      · exact m_cx (q := (12, .invokevirtual 80, 3, 44, 1)) (a := 44) (vs := [.ref 4, .int v2]) (st := []) (d1 := 0) (by decide +kernel) (by decide +kernel) rfl rfl rfl rfl (by decide) (Fr44 e8)
  · exact m_cx (q := (1, .invokevirtual 86, 3, 46, 0)) (a := 46) (vs := [.ref 4]) (st := []) (d1 := 0) (by decide +kernel) (by decide +kernel) rfl rfl rfl rfl (by decide) (Fr46 e3)
def f59 (n : Nat) (x1 : Int32) (x2 : Int32) (g : mG) : mZ := m_ci (f57 n x1 g) (fun v2 g1 => if v2 = (-1 : Int32) then if ¬ x2 = 0 then if (g1.1 22) < (32 : Int32) then if (g1.1 22) < 0 ∨ 32 ≤ Int32.toNatClampNeg (g1.1 22) then none else if (g1.1 22) < 0 ∨ 32 ≤ Int32.toNatClampNeg (g1.1 22) then none else some (.inl (some (.int (1 : Int32))), (gI (gS (gS g1 28 (upd (g1.2.1 28) (Int32.toNatClampNeg (g1.1 22)) x1)) 29 (upd (g1.2.1 29) (Int32.toNatClampNeg (g1.1 22)) x2)) 22 ((g1.1 22) + (1 : Int32)))) else some (.inl (some (.int (0 : Int32))), g1) else some (.inl (some (.int (1 : Int32))), g1) else if ¬ x2 = 0 then if v2 < 0 ∨ 32 ≤ Int32.toNatClampNeg v2 then none else some (.inl (some (.int (1 : Int32))), (gS g1 29 (upd (g1.2.1 29) (Int32.toNatClampNeg v2) x2))) else if ((g1.1 22) - (1 : Int32)) < 0 ∨ 32 ≤ Int32.toNatClampNeg ((g1.1 22) - (1 : Int32)) then none else if v2 < 0 ∨ 32 ≤ Int32.toNatClampNeg v2 then none else if ((g1.1 22) - (1 : Int32)) < 0 ∨ 32 ≤ Int32.toNatClampNeg ((g1.1 22) - (1 : Int32)) then none else if v2 < 0 ∨ 32 ≤ Int32.toNatClampNeg v2 then none else some (.inl (some (.int (1 : Int32))), (gS (gS (gI g1 22 ((g1.1 22) - (1 : Int32))) 28 (upd (g1.2.1 28) (Int32.toNatClampNeg v2) ((g1.2.1 28) (Int32.toNatClampNeg ((g1.1 22) - (1 : Int32)))))) 29 (upd (g1.2.1 29) (Int32.toNatClampNeg v2) ((g1.2.1 29) (Int32.toNatClampNeg ((g1.1 22) - (1 : Int32))))))))
theorem Fr59 {R : Nat} {x1 : Int32} {x2 : Int32} {g g' : mG} {o : mO} (h : f59 n x1 x2 g = some (o, g')) : m_Run X (1) (m_ko o) 59 0 [(0, .ref 6), (1, .int x1), (2, .int x2)] [] (hO R g) o (hO R g') := by
  unfold f59 at h
  refine m_go (L := [(0, .aload_n 0, 1, 0, 0), (1, .iload_n 1, 1, 0, 0)]) (pc1 := 2) (lv1 := [(0, .ref 6), (1, .int x1), (2, .int x2)]) (st1 := [.int x1, .ref 6]) (h1 := hO R g) (by decide +kernel) rfl ?_
  rcases m_ci_inv h with ⟨v2, g1, e3, h⟩ | ⟨y4, g1, e3, rfl, rfl⟩
  · refine m_ca (q := (2, .invokevirtual 31, 3, 57, 1)) (a := 57) (vs := [.ref 6, .int x1]) (st := []) (d1 := 0) (by decide +kernel) rfl rfl rfl rfl (by decide) (Fr57 e3) ?_
    show m_Run X _ _ 59 5 [(0, .ref 6), (1, .int x1), (2, .int x2)] [.int v2] (hO R g1) _ _
    refine m_gob (c := v2 = (-1 : Int32)) (t := 67) (f := 11) (L := [(5, .istore_n 3, 1, 0, 0), (6, .iload_n 3, 1, 0, 0), (7, .iconst (-1), 1, 0, 0), (8, .if_icmp .eq 59, 3, 0, 0)]) (lv1 := [(0, .ref 6), (1, .int x1), (2, .int x2), (3, .int v2)]) (st1 := []) (h1 := hO R g1) (by decide +kernel) rfl (fun c5 => ?_) (fun c5 => ?_)
    · rw [if_pos c5] at h
      refine m_gob (c := ¬ x2 = 0) (t := 73) (f := 71) (L := [(67, .iload_n 2, 1, 0, 0), (68, .ifCond .ne 5, 3, 0, 0)]) (lv1 := [(0, .ref 6), (1, .int x1), (2, .int x2), (3, .int v2)]) (st1 := []) (h1 := hO R g1) (by decide +kernel) rfl (fun c6 => ?_) (fun c6 => ?_)
      · rw [if_pos c6] at h
        refine m_gob (c := (g1.1 22) < (32 : Int32)) (t := 84) (f := 82) (L := [(73, .aload_n 0, 1, 0, 0), (74, .getfield 18, 3, 3, 2), (77, .bipush 32, 2, 0, 0), (79, .if_icmp .lt 5, 3, 0, 0)]) (lv1 := [(0, .ref 6), (1, .int x1), (2, .int x2), (3, .int v2)]) (st1 := []) (h1 := hO R g1) (by decide +kernel) rfl (fun c7 => ?_) (fun c7 => ?_)
        · rw [if_pos c7] at h
          refine m_go (L := [(84, .aload_n 0, 1, 0, 0), (85, .getfield 9, 3, 3, 0), (88, .aload_n 0, 1, 0, 0), (89, .getfield 18, 3, 3, 2), (92, .iload_n 1, 1, 0, 0)]) (pc1 := 93) (lv1 := [(0, .ref 6), (1, .int x1), (2, .int x2), (3, .int v2)]) (st1 := [.int x1, .int (g1.1 22), .ref 28]) (h1 := hO R g1) (by decide +kernel) rfl ?_
          obtain ⟨c8, h⟩ := m_ifn_inv h
          refine m_go1 (q := (93, .iastore, 1, 0, 0)) (pc1 := 94) (lv1 := [(0, .ref 6), (1, .int x1), (2, .int x2), (3, .int v2)]) (st1 := []) (h1 := hO R (gS g1 28 (upd (g1.2.1 28) (Int32.toNatClampNeg (g1.1 22)) x1))) (by decide +kernel) (if_neg c8) ?_
          refine m_go (L := [(94, .aload_n 0, 1, 0, 0), (95, .getfield 15, 3, 3, 1), (98, .aload_n 0, 1, 0, 0), (99, .getfield 18, 3, 3, 2), (102, .iload_n 2, 1, 0, 0)]) (pc1 := 103) (lv1 := [(0, .ref 6), (1, .int x1), (2, .int x2), (3, .int v2)]) (st1 := [.int x2, .int (g1.1 22), .ref 29]) (h1 := hO R (gS g1 28 (upd (g1.2.1 28) (Int32.toNatClampNeg (g1.1 22)) x1))) (by decide +kernel) rfl ?_
          obtain ⟨c9, h⟩ := m_ifn_inv h
          refine m_go1 (q := (103, .iastore, 1, 0, 0)) (pc1 := 104) (lv1 := [(0, .ref 6), (1, .int x1), (2, .int x2), (3, .int v2)]) (st1 := []) (h1 := hO R (gS (gS g1 28 (upd (g1.2.1 28) (Int32.toNatClampNeg (g1.1 22)) x1)) 29 (upd (g1.2.1 29) (Int32.toNatClampNeg (g1.1 22)) x2))) (by decide +kernel) (if_neg c9) ?_
          refine m_go (L := [(104, .aload_n 0, 1, 0, 0), (105, .dup, 1, 0, 0), (106, .getfield 18, 3, 3, 2), (109, .iconst 1, 1, 0, 0), (110, .iadd, 1, 0, 0), (111, .putfield 18, 3, 3, 2), (114, .iconst 1, 1, 0, 0)]) (pc1 := 115) (lv1 := [(0, .ref 6), (1, .int x1), (2, .int x2), (3, .int v2)]) (st1 := [.int (1 : Int32)]) (h1 := hO R (gI (gS (gS g1 28 (upd (g1.2.1 28) (Int32.toNatClampNeg (g1.1 22)) x1)) 29 (upd (g1.2.1 29) (Int32.toNatClampNeg (g1.1 22)) x2)) 22 ((g1.1 22) + (1 : Int32)))) (by decide +kernel) rfl ?_
          cases h
          exact m_rz (by decide +kernel) (Or.inr rfl)
        · rw [if_neg c7] at h
          refine m_go (L := [(82, .iconst 0, 1, 0, 0)]) (pc1 := 83) (lv1 := [(0, .ref 6), (1, .int x1), (2, .int x2), (3, .int v2)]) (st1 := [.int (0 : Int32)]) (h1 := hO R g1) (by decide +kernel) rfl ?_
          cases h
          exact m_rz (by decide +kernel) (Or.inl rfl)
      · rw [if_neg c6] at h
        refine m_go (L := [(71, .iconst 1, 1, 0, 0)]) (pc1 := 72) (lv1 := [(0, .ref 6), (1, .int x1), (2, .int x2), (3, .int v2)]) (st1 := [.int (1 : Int32)]) (h1 := hO R g1) (by decide +kernel) rfl ?_
        cases h
        exact m_rz (by decide +kernel) (Or.inr rfl)
    · rw [if_neg c5] at h
      refine m_gob (c := ¬ x2 = 0) (t := 58) (f := 15) (L := [(11, .iload_n 2, 1, 0, 0), (12, .ifCond .ne 46, 3, 0, 0)]) (lv1 := [(0, .ref 6), (1, .int x1), (2, .int x2), (3, .int v2)]) (st1 := []) (h1 := hO R g1) (by decide +kernel) rfl (fun c10 => ?_) (fun c10 => ?_)
      · rw [if_pos c10] at h
        refine m_go (L := [(58, .aload_n 0, 1, 0, 0), (59, .getfield 15, 3, 3, 1), (62, .iload_n 3, 1, 0, 0), (63, .iload_n 2, 1, 0, 0)]) (pc1 := 64) (lv1 := [(0, .ref 6), (1, .int x1), (2, .int x2), (3, .int v2)]) (st1 := [.int x2, .int v2, .ref 29]) (h1 := hO R g1) (by decide +kernel) rfl ?_
        obtain ⟨c11, h⟩ := m_ifn_inv h
        refine m_go1 (q := (64, .iastore, 1, 0, 0)) (pc1 := 65) (lv1 := [(0, .ref 6), (1, .int x1), (2, .int x2), (3, .int v2)]) (st1 := []) (h1 := hO R (gS g1 29 (upd (g1.2.1 29) (Int32.toNatClampNeg v2) x2))) (by decide +kernel) (if_neg c11) ?_
        refine m_go (L := [(65, .iconst 1, 1, 0, 0)]) (pc1 := 66) (lv1 := [(0, .ref 6), (1, .int x1), (2, .int x2), (3, .int v2)]) (st1 := [.int (1 : Int32)]) (h1 := hO R (gS g1 29 (upd (g1.2.1 29) (Int32.toNatClampNeg v2) x2))) (by decide +kernel) rfl ?_
        cases h
        exact m_rz (by decide +kernel) (Or.inr rfl)
      · rw [if_neg c10] at h
        refine m_go (L := [(15, .aload_n 0, 1, 0, 0), (16, .dup, 1, 0, 0), (17, .getfield 18, 3, 3, 2), (20, .iconst 1, 1, 0, 0), (21, .isub, 1, 0, 0), (22, .putfield 18, 3, 3, 2), (25, .aload_n 0, 1, 0, 0), (26, .getfield 9, 3, 3, 0), (29, .iload_n 3, 1, 0, 0), (30, .aload_n 0, 1, 0, 0), (31, .getfield 9, 3, 3, 0), (34, .aload_n 0, 1, 0, 0), (35, .getfield 18, 3, 3, 2)]) (pc1 := 38) (lv1 := [(0, .ref 6), (1, .int x1), (2, .int x2), (3, .int v2)]) (st1 := [.int ((g1.1 22) - (1 : Int32)), .ref 28, .int v2, .ref 28]) (h1 := hO R (gI g1 22 ((g1.1 22) - (1 : Int32)))) (by decide +kernel) rfl ?_
        obtain ⟨c12, h⟩ := m_ifn_inv h
        refine m_go1 (q := (38, .iaload, 1, 0, 0)) (pc1 := 39) (lv1 := [(0, .ref 6), (1, .int x1), (2, .int x2), (3, .int v2)]) (st1 := [.int ((g1.2.1 28) (Int32.toNatClampNeg ((g1.1 22) - (1 : Int32)))), .int v2, .ref 28]) (h1 := hO R (gI g1 22 ((g1.1 22) - (1 : Int32)))) (by decide +kernel) (if_neg c12) ?_
        obtain ⟨c13, h⟩ := m_ifn_inv h
        refine m_go1 (q := (39, .iastore, 1, 0, 0)) (pc1 := 40) (lv1 := [(0, .ref 6), (1, .int x1), (2, .int x2), (3, .int v2)]) (st1 := []) (h1 := hO R (gS (gI g1 22 ((g1.1 22) - (1 : Int32))) 28 (upd (g1.2.1 28) (Int32.toNatClampNeg v2) ((g1.2.1 28) (Int32.toNatClampNeg ((g1.1 22) - (1 : Int32))))))) (by decide +kernel) (if_neg c13) ?_
        refine m_go (L := [(40, .aload_n 0, 1, 0, 0), (41, .getfield 15, 3, 3, 1), (44, .iload_n 3, 1, 0, 0), (45, .aload_n 0, 1, 0, 0), (46, .getfield 15, 3, 3, 1), (49, .aload_n 0, 1, 0, 0), (50, .getfield 18, 3, 3, 2)]) (pc1 := 53) (lv1 := [(0, .ref 6), (1, .int x1), (2, .int x2), (3, .int v2)]) (st1 := [.int ((g1.1 22) - (1 : Int32)), .ref 29, .int v2, .ref 29]) (h1 := hO R (gS (gI g1 22 ((g1.1 22) - (1 : Int32))) 28 (upd (g1.2.1 28) (Int32.toNatClampNeg v2) ((g1.2.1 28) (Int32.toNatClampNeg ((g1.1 22) - (1 : Int32))))))) (by decide +kernel) rfl ?_
        obtain ⟨c14, h⟩ := m_ifn_inv h
        refine m_go1 (q := (53, .iaload, 1, 0, 0)) (pc1 := 54) (lv1 := [(0, .ref 6), (1, .int x1), (2, .int x2), (3, .int v2)]) (st1 := [.int ((g1.2.1 29) (Int32.toNatClampNeg ((g1.1 22) - (1 : Int32)))), .int v2, .ref 29]) (h1 := hO R (gS (gI g1 22 ((g1.1 22) - (1 : Int32))) 28 (upd (g1.2.1 28) (Int32.toNatClampNeg v2) ((g1.2.1 28) (Int32.toNatClampNeg ((g1.1 22) - (1 : Int32))))))) (by decide +kernel) (if_neg c14) ?_
        obtain ⟨c15, h⟩ := m_ifn_inv h
        refine m_go1 (q := (54, .iastore, 1, 0, 0)) (pc1 := 55) (lv1 := [(0, .ref 6), (1, .int x1), (2, .int x2), (3, .int v2)]) (st1 := []) (h1 := hO R (gS (gS (gI g1 22 ((g1.1 22) - (1 : Int32))) 28 (upd (g1.2.1 28) (Int32.toNatClampNeg v2) ((g1.2.1 28) (Int32.toNatClampNeg ((g1.1 22) - (1 : Int32)))))) 29 (upd (g1.2.1 29) (Int32.toNatClampNeg v2) ((g1.2.1 29) (Int32.toNatClampNeg ((g1.1 22) - (1 : Int32))))))) (by decide +kernel) (if_neg c15) ?_
        refine m_go (L := [(55, .goto 10, 3, 0, 0), (65, .iconst 1, 1, 0, 0)]) (pc1 := 66) (lv1 := [(0, .ref 6), (1, .int x1), (2, .int x2), (3, .int v2)]) (st1 := [.int (1 : Int32)]) (h1 := hO R (gS (gS (gI g1 22 ((g1.1 22) - (1 : Int32))) 28 (upd (g1.2.1 28) (Int32.toNatClampNeg v2) ((g1.2.1 28) (Int32.toNatClampNeg ((g1.1 22) - (1 : Int32)))))) 29 (upd (g1.2.1 29) (Int32.toNatClampNeg v2) ((g1.2.1 29) (Int32.toNatClampNeg ((g1.1 22) - (1 : Int32))))))) (by decide +kernel) rfl ?_
        cases h
        exact m_rz (by decide +kernel) (Or.inr rfl)
  · exact m_cx (q := (2, .invokevirtual 31, 3, 57, 1)) (a := 57) (vs := [.ref 6, .int x1]) (st := []) (d1 := 0) (by decide +kernel) (by decide +kernel) rfl rfl rfl rfl (by decide) (Fr57 e3)
def f51 (n : Nat) (g : mG) : mZ := m_ci (f46 n g) (fun v2 g1 => m_ci (f46 n g1) (fun v6 g5 => m_ci (f59 n v6 v2 g5) (fun v10 g9 => if ¬ v10 = 0 then some (.inl none, g9) else some (.inl none, (gI g9 17 (1 : Int32))))))
theorem Fr51 {R : Nat} {g g' : mG} {o : mO} (h : f51 n g = some (o, g')) : m_Run X (2) (m_ko o) 51 0 [(0, .ref 4)] [] (hO R g) o (hO R g') := by
  unfold f51 at h
  refine m_go (L := [(0, .aload_n 0, 1, 0, 0)]) (pc1 := 1) (lv1 := [(0, .ref 4)]) (st1 := [.ref 4]) (h1 := hO R g) (by decide +kernel) rfl ?_
  rcases m_ci_inv h with ⟨v2, g1, e3, h⟩ | ⟨y4, g1, e3, rfl, rfl⟩
  · refine m_ca (q := (1, .invokevirtual 86, 3, 46, 0)) (a := 46) (vs := [.ref 4]) (st := []) (d1 := 0) (by decide +kernel) rfl rfl rfl rfl (by decide) (Fr46 e3) ?_
    show m_Run X _ _ 51 4 [(0, .ref 4)] [.int v2] (hO R g1) _ _
    refine m_go (L := [(4, .istore_n 1, 1, 0, 0), (5, .aload_n 0, 1, 0, 0)]) (pc1 := 6) (lv1 := [(0, .ref 4), (1, .int v2)]) (st1 := [.ref 4]) (h1 := hO R g1) (by decide +kernel) rfl ?_
    rcases m_ci_inv h with ⟨v6, g5, e7, h⟩ | ⟨y8, g5, e7, rfl, rfl⟩
    · refine m_ca (q := (6, .invokevirtual 86, 3, 46, 0)) (a := 46) (vs := [.ref 4]) (st := []) (d1 := 0) (by decide +kernel) rfl rfl rfl rfl (by decide) (Fr46 e7) ?_
      show m_Run X _ _ 51 9 [(0, .ref 4), (1, .int v2)] [.int v6] (hO R g5) _ _
      refine m_go (L := [(9, .istore_n 2, 1, 0, 0), (10, .aload_n 0, 1, 0, 0), (11, .getfield 12, 3, 2, 0), (14, .iload_n 2, 1, 0, 0), (15, .iload_n 1, 1, 0, 0)]) (pc1 := 16) (lv1 := [(0, .ref 4), (1, .int v2), (2, .int v6)]) (st1 := [.int v2, .int v6, .ref 6]) (h1 := hO R g5) (by decide +kernel) rfl ?_
      rcases m_ci_inv h with ⟨v10, g9, e11, h⟩ | ⟨y12, g9, e11, rfl, rfl⟩
      · refine m_ca (q := (16, .invokevirtual 114, 3, 59, 2)) (a := 59) (vs := [.ref 6, .int v6, .int v2]) (st := []) (d1 := 1) (by decide +kernel) rfl rfl rfl rfl (by decide) (Fr59 e11) ?_
        show m_Run X _ _ 51 19 [(0, .ref 4), (1, .int v2), (2, .int v6)] [.int v10] (hO R g9) _ _
        refine m_gob (c := ¬ v10 = 0) (t := 27) (f := 22) (L := [(19, .ifCond .ne 8, 3, 0, 0)]) (lv1 := [(0, .ref 4), (1, .int v2), (2, .int v6)]) (st1 := []) (h1 := hO R g9) (by decide +kernel) rfl (fun c13 => ?_) (fun c13 => ?_)
        · rw [if_pos c13] at h
          cases h
          exact m_rv (by decide +kernel)
        · rw [if_neg c13] at h
          refine m_go (L := [(22, .aload_n 0, 1, 0, 0), (23, .iconst 1, 1, 0, 0), (24, .putfield 45, 3, 2, 8)]) (pc1 := 27) (lv1 := [(0, .ref 4), (1, .int v2), (2, .int v6)]) (st1 := []) (h1 := hO R (gI g9 17 (1 : Int32))) (by decide +kernel) rfl ?_
          cases h
          exact m_rv (by decide +kernel)
      · exact m_cx (q := (16, .invokevirtual 114, 3, 59, 2)) (a := 59) (vs := [.ref 6, .int v6, .int v2]) (st := []) (d1 := 1) (by decide +kernel) (by decide +kernel) rfl rfl rfl rfl (by decide) (Fr59 e11)
    · exact m_cx (q := (6, .invokevirtual 86, 3, 46, 0)) (a := 46) (vs := [.ref 4]) (st := []) (d1 := 0) (by decide +kernel) (by decide +kernel) rfl rfl rfl rfl (by decide) (Fr46 e7)
  · exact m_cx (q := (1, .invokevirtual 86, 3, 46, 0)) (a := 46) (vs := [.ref 4]) (st := []) (d1 := 0) (by decide +kernel) (by decide +kernel) rfl rfl rfl rfl (by decide) (Fr46 e3)
def f52 (n : Nat) (x1 : Int32) (g : mG) : mZ := if 0 < ((g.1 15) - (1 : Int32)) then m_cv (f44 n x1 (gI g 15 ((g.1 15) - (1 : Int32)))) (fun g2 => if (g2.1 15) < 0 ∨ 12 ≤ Int32.toNatClampNeg (g2.1 15) then none else some (.inl none, (gI g2 16 ((g2.2.1 27) (Int32.toNatClampNeg (g2.1 15)))))) else some (.inl none, (gI (gI (gI g 15 ((g.1 15) - (1 : Int32))) 19 x1) 17 (0 : Int32)))
theorem Fr52 {R : Nat} {x1 : Int32} {g g' : mG} {o : mO} (h : f52 n x1 g = some (o, g')) : m_Run X (1) (m_ko o) 52 0 [(0, .ref 4), (1, .int x1)] [] (hO R g) o (hO R g') := by
  unfold f52 at h
  refine m_gob (c := 0 < ((g.1 15) - (1 : Int32))) (t := 28) (f := 17) (L := [(0, .aload_n 0, 1, 0, 0), (1, .dup, 1, 0, 0), (2, .getfield 39, 3, 2, 6), (5, .iconst 1, 1, 0, 0), (6, .isub, 1, 0, 0), (7, .putfield 39, 3, 2, 6), (10, .aload_n 0, 1, 0, 0), (11, .getfield 39, 3, 2, 6), (14, .ifCond .gt 14, 3, 0, 0)]) (lv1 := [(0, .ref 4), (1, .int x1)]) (st1 := []) (h1 := hO R (gI g 15 ((g.1 15) - (1 : Int32)))) (by decide +kernel) rfl (fun c1 => ?_) (fun c1 => ?_)
  · rw [if_pos c1] at h
    refine m_go (L := [(28, .aload_n 0, 1, 0, 0), (29, .iload_n 1, 1, 0, 0)]) (pc1 := 30) (lv1 := [(0, .ref 4), (1, .int x1)]) (st1 := [.int x1, .ref 4]) (h1 := hO R (gI g 15 ((g.1 15) - (1 : Int32)))) (by decide +kernel) rfl ?_
    rcases m_cv_inv h with ⟨g2, e4, h⟩ | ⟨y5, g2, e4, rfl, rfl⟩
    · refine m_ca (q := (30, .invokevirtual 80, 3, 44, 1)) (a := 44) (vs := [.ref 4, .int x1]) (st := []) (d1 := 0) (by decide +kernel) rfl rfl rfl rfl (by decide) (Fr44 e4) ?_
      show m_Run X _ _ 52 33 [(0, .ref 4), (1, .int x1)] [] (hO R g2) _ _
      refine m_go (L := [(33, .aload_n 0, 1, 0, 0), (34, .aload_n 0, 1, 0, 0), (35, .getfield 36, 3, 2, 5), (38, .aload_n 0, 1, 0, 0), (39, .getfield 39, 3, 2, 6)]) (pc1 := 42) (lv1 := [(0, .ref 4), (1, .int x1)]) (st1 := [.int (g2.1 15), .ref 27, .ref 4]) (h1 := hO R g2) (by decide +kernel) rfl ?_
      obtain ⟨c6, h⟩ := m_ifn_inv h
      refine m_go1 (q := (42, .iaload, 1, 0, 0)) (pc1 := 43) (lv1 := [(0, .ref 4), (1, .int x1)]) (st1 := [.int ((g2.2.1 27) (Int32.toNatClampNeg (g2.1 15))), .ref 4]) (h1 := hO R g2) (by decide +kernel) (if_neg c6) ?_
      refine m_go (L := [(43, .putfield 42, 3, 2, 7)]) (pc1 := 46) (lv1 := [(0, .ref 4), (1, .int x1)]) (st1 := []) (h1 := hO R (gI g2 16 ((g2.2.1 27) (Int32.toNatClampNeg (g2.1 15))))) (by decide +kernel) rfl ?_
      cases h
      exact m_rv (by decide +kernel)
    · exact m_cx (q := (30, .invokevirtual 80, 3, 44, 1)) (a := 44) (vs := [.ref 4, .int x1]) (st := []) (d1 := 0) (by decide +kernel) (by decide +kernel) rfl rfl rfl rfl (by decide) (Fr44 e4)
  · rw [if_neg c1] at h
    refine m_go (L := [(17, .aload_n 0, 1, 0, 0), (18, .iload_n 1, 1, 0, 0), (19, .putfield 51, 3, 2, 10), (22, .aload_n 0, 1, 0, 0), (23, .iconst 0, 1, 0, 0), (24, .putfield 45, 3, 2, 8)]) (pc1 := 27) (lv1 := [(0, .ref 4), (1, .int x1)]) (st1 := []) (h1 := hO R (gI (gI (gI g 15 ((g.1 15) - (1 : Int32))) 19 x1) 17 (0 : Int32))) (by decide +kernel) rfl ?_
    cases h
    exact m_rv (by decide +kernel)
def f50 (n : Nat) (x1 : Int32) (g : mG) : mZ := if ((((g.1 15) - (1 : Int32)) * (8 : Int32)) + x1) < 0 then some (.inl (some (.int (0 : Int32))), g) else if (96 : Int32) ≤ ((((g.1 15) - (1 : Int32)) * (8 : Int32)) + x1) then some (.inl (some (.int (0 : Int32))), g) else if ((((g.1 15) - (1 : Int32)) * (8 : Int32)) + x1) < 0 ∨ 96 ≤ Int32.toNatClampNeg ((((g.1 15) - (1 : Int32)) * (8 : Int32)) + x1) then none else some (.inl (some (.int ((g.2.1 26) (Int32.toNatClampNeg ((((g.1 15) - (1 : Int32)) * (8 : Int32)) + x1))))), g)
theorem Fr50 {R : Nat} {x1 : Int32} {g g' : mG} {o : mO} (h : f50 n x1 g = some (o, g')) : m_Run X (0) (m_ko o) 50 0 [(0, .ref 4), (1, .int x1)] [] (hO R g) o (hO R g') := by
  unfold f50 at h
  refine m_gob (c := ((((g.1 15) - (1 : Int32)) * (8 : Int32)) + x1) < 0) (t := 34) (f := 16) (L := [(0, .aload_n 0, 1, 0, 0), (1, .getfield 39, 3, 2, 6), (4, .iconst 1, 1, 0, 0), (5, .isub, 1, 0, 0), (6, .bipush 8, 2, 0, 0), (8, .imul, 1, 0, 0), (9, .iload_n 1, 1, 0, 0), (10, .iadd, 1, 0, 0), (11, .istore_n 2, 1, 0, 0), (12, .iload_n 2, 1, 0, 0), (13, .ifCond .lt 21, 3, 0, 0)]) (lv1 := [(0, .ref 4), (1, .int x1), (2, .int ((((g.1 15) - (1 : Int32)) * (8 : Int32)) + x1))]) (st1 := []) (h1 := hO R g) (by decide +kernel) rfl (fun c1 => ?_) (fun c1 => ?_)
  · rw [if_pos c1] at h
    refine m_go (L := [(34, .iconst 0, 1, 0, 0)]) (pc1 := 35) (lv1 := [(0, .ref 4), (1, .int x1), (2, .int ((((g.1 15) - (1 : Int32)) * (8 : Int32)) + x1))]) (st1 := [.int (0 : Int32)]) (h1 := hO R g) (by decide +kernel) rfl ?_
    cases h
    exact m_ri (by decide +kernel)
  · rw [if_neg c1] at h
    refine m_gob (c := (96 : Int32) ≤ ((((g.1 15) - (1 : Int32)) * (8 : Int32)) + x1)) (t := 34) (f := 25) (L := [(16, .iload_n 2, 1, 0, 0), (17, .aload_n 0, 1, 0, 0), (18, .getfield 33, 3, 2, 4), (21, .arraylength, 1, 0, 0), (22, .if_icmp .ge 12, 3, 0, 0)]) (lv1 := [(0, .ref 4), (1, .int x1), (2, .int ((((g.1 15) - (1 : Int32)) * (8 : Int32)) + x1))]) (st1 := []) (h1 := hO R g) (by decide +kernel) rfl (fun c2 => ?_) (fun c2 => ?_)
    · rw [if_pos c2] at h
      refine m_go (L := [(34, .iconst 0, 1, 0, 0)]) (pc1 := 35) (lv1 := [(0, .ref 4), (1, .int x1), (2, .int ((((g.1 15) - (1 : Int32)) * (8 : Int32)) + x1))]) (st1 := [.int (0 : Int32)]) (h1 := hO R g) (by decide +kernel) rfl ?_
      cases h
      exact m_ri (by decide +kernel)
    · rw [if_neg c2] at h
      refine m_go (L := [(25, .aload_n 0, 1, 0, 0), (26, .getfield 33, 3, 2, 4), (29, .iload_n 2, 1, 0, 0)]) (pc1 := 30) (lv1 := [(0, .ref 4), (1, .int x1), (2, .int ((((g.1 15) - (1 : Int32)) * (8 : Int32)) + x1))]) (st1 := [.int ((((g.1 15) - (1 : Int32)) * (8 : Int32)) + x1), .ref 26]) (h1 := hO R g) (by decide +kernel) rfl ?_
      obtain ⟨c3, h⟩ := m_ifn_inv h
      refine m_go1 (q := (30, .iaload, 1, 0, 0)) (pc1 := 31) (lv1 := [(0, .ref 4), (1, .int x1), (2, .int ((((g.1 15) - (1 : Int32)) * (8 : Int32)) + x1))]) (st1 := [.int ((g.2.1 26) (Int32.toNatClampNeg ((((g.1 15) - (1 : Int32)) * (8 : Int32)) + x1)))]) (h1 := hO R g) (by decide +kernel) (if_neg c3) ?_
      refine m_go (L := [(31, .goto 4, 3, 0, 0)]) (pc1 := 35) (lv1 := [(0, .ref 4), (1, .int x1), (2, .int ((((g.1 15) - (1 : Int32)) * (8 : Int32)) + x1))]) (st1 := [.int ((g.2.1 26) (Int32.toNatClampNeg ((((g.1 15) - (1 : Int32)) * (8 : Int32)) + x1)))]) (h1 := hO R g) (by decide +kernel) rfl ?_
      cases h
      exact m_ri (by decide +kernel)
def f55 (n : Nat) (x0 : Int32) (x1 : Int32) (x2 : Int32) (g : mG) : mZ := if x0 = 13 then if ¬ x1 = x2 then some (.inl (some (.int (0 : Int32))), g) else some (.inl (some (.int (1 : Int32))), g) else if x0 = 14 then if x1 = x2 then some (.inl (some (.int (0 : Int32))), g) else some (.inl (some (.int (1 : Int32))), g) else if x0 = 15 then if x2 ≤ x1 then some (.inl (some (.int (0 : Int32))), g) else some (.inl (some (.int (1 : Int32))), g) else if x0 = 16 then if x2 < x1 then some (.inl (some (.int (0 : Int32))), g) else some (.inl (some (.int (1 : Int32))), g) else if x0 = 17 then some (.inl (some (.int (x1 + x2))), g) else if x0 = 18 then some (.inl (some (.int (x1 - x2))), g) else if x0 = 19 then some (.inl (some (.int (x1 * x2))), g) else if x0 = 20 then if ¬ x2 = 0 then if x2 = 0 then none else some (.inl (some (.int (x1 / x2))), g) else some (.inl (some (.int (0 : Int32))), g) else if x0 = 21 then if ¬ x2 = 0 then if x2 = 0 then none else some (.inl (some (.int (x1 - x1 / x2 * x2))), g) else some (.inl (some (.int (0 : Int32))), g) else some (.inl (some (.int (0 : Int32))), g)
theorem Fr55 {R : Nat} {x0 : Int32} {x1 : Int32} {x2 : Int32} {g g' : mG} {o : mO} (h : f55 n x0 x1 x2 g = some (o, g')) : m_Run X (0) (m_ko o) 55 0 [(0, .int x0), (1, .int x1), (2, .int x2)] [] (hO R g) o (hO R g') := by
  unfold f55 at h
  refine m_go (L := [(0, .iload_n 0, 1, 0, 0)]) (pc1 := 1) (lv1 := [(0, .int x0), (1, .int x1), (2, .int x2)]) (st1 := [.int x0]) (h1 := hO R g) (by decide +kernel) rfl ?_
  by_cases c1 : x0 = 13
  · rw [if_pos c1] at h
    refine m_go1 (q := (1, .tableswitch 131 13 21 #[87, 98, 109, 120, 51, 55, 59, 63, 75], 51, 0, 0)) (pc1 := 88) (lv1 := [(0, .int x0), (1, .int x1), (2, .int x2)]) (st1 := []) (h1 := hO R g) (by decide +kernel) (m_swx (fun z => m_loc m_ft X (.tableswitch 131 13 21 #[87, 98, 109, 120, 51, 55, 59, 63, 75]) 0 0 1 [(0, .int x0), (1, .int x1), (2, .int x2)] (.int z :: []) (hO R g)) c1 rfl) ?_
    refine m_gob (c := ¬ x1 = x2) (t := 97) (f := 93) (L := [(88, .iload_n 1, 1, 0, 0), (89, .iload_n 2, 1, 0, 0), (90, .if_icmp .ne 7, 3, 0, 0)]) (lv1 := [(0, .int x0), (1, .int x1), (2, .int x2)]) (st1 := []) (h1 := hO R g) (by decide +kernel) rfl (fun c2 => ?_) (fun c2 => ?_)
    · rw [if_pos c2] at h
      refine m_go (L := [(97, .iconst 0, 1, 0, 0)]) (pc1 := 98) (lv1 := [(0, .int x0), (1, .int x1), (2, .int x2)]) (st1 := [.int (0 : Int32)]) (h1 := hO R g) (by decide +kernel) rfl ?_
      cases h
      exact m_ri (by decide +kernel)
    · rw [if_neg c2] at h
      refine m_go (L := [(93, .iconst 1, 1, 0, 0), (94, .goto 4, 3, 0, 0)]) (pc1 := 98) (lv1 := [(0, .int x0), (1, .int x1), (2, .int x2)]) (st1 := [.int (1 : Int32)]) (h1 := hO R g) (by decide +kernel) rfl ?_
      cases h
      exact m_ri (by decide +kernel)
  · rw [if_neg c1] at h
    by_cases c3 : x0 = 14
    · rw [if_pos c3] at h
      refine m_go1 (q := (1, .tableswitch 131 13 21 #[87, 98, 109, 120, 51, 55, 59, 63, 75], 51, 0, 0)) (pc1 := 99) (lv1 := [(0, .int x0), (1, .int x1), (2, .int x2)]) (st1 := []) (h1 := hO R g) (by decide +kernel) (m_swx (fun z => m_loc m_ft X (.tableswitch 131 13 21 #[87, 98, 109, 120, 51, 55, 59, 63, 75]) 0 0 1 [(0, .int x0), (1, .int x1), (2, .int x2)] (.int z :: []) (hO R g)) c3 rfl) ?_
      refine m_gob (c := x1 = x2) (t := 108) (f := 104) (L := [(99, .iload_n 1, 1, 0, 0), (100, .iload_n 2, 1, 0, 0), (101, .if_icmp .eq 7, 3, 0, 0)]) (lv1 := [(0, .int x0), (1, .int x1), (2, .int x2)]) (st1 := []) (h1 := hO R g) (by decide +kernel) rfl (fun c4 => ?_) (fun c4 => ?_)
      · rw [if_pos c4] at h
        refine m_go (L := [(108, .iconst 0, 1, 0, 0)]) (pc1 := 109) (lv1 := [(0, .int x0), (1, .int x1), (2, .int x2)]) (st1 := [.int (0 : Int32)]) (h1 := hO R g) (by decide +kernel) rfl ?_
        cases h
        exact m_ri (by decide +kernel)
      · rw [if_neg c4] at h
        refine m_go (L := [(104, .iconst 1, 1, 0, 0), (105, .goto 4, 3, 0, 0)]) (pc1 := 109) (lv1 := [(0, .int x0), (1, .int x1), (2, .int x2)]) (st1 := [.int (1 : Int32)]) (h1 := hO R g) (by decide +kernel) rfl ?_
        cases h
        exact m_ri (by decide +kernel)
    · rw [if_neg c3] at h
      by_cases c5 : x0 = 15
      · rw [if_pos c5] at h
        refine m_go1 (q := (1, .tableswitch 131 13 21 #[87, 98, 109, 120, 51, 55, 59, 63, 75], 51, 0, 0)) (pc1 := 110) (lv1 := [(0, .int x0), (1, .int x1), (2, .int x2)]) (st1 := []) (h1 := hO R g) (by decide +kernel) (m_swx (fun z => m_loc m_ft X (.tableswitch 131 13 21 #[87, 98, 109, 120, 51, 55, 59, 63, 75]) 0 0 1 [(0, .int x0), (1, .int x1), (2, .int x2)] (.int z :: []) (hO R g)) c5 rfl) ?_
        refine m_gob (c := x2 ≤ x1) (t := 119) (f := 115) (L := [(110, .iload_n 1, 1, 0, 0), (111, .iload_n 2, 1, 0, 0), (112, .if_icmp .ge 7, 3, 0, 0)]) (lv1 := [(0, .int x0), (1, .int x1), (2, .int x2)]) (st1 := []) (h1 := hO R g) (by decide +kernel) rfl (fun c6 => ?_) (fun c6 => ?_)
        · rw [if_pos c6] at h
          refine m_go (L := [(119, .iconst 0, 1, 0, 0)]) (pc1 := 120) (lv1 := [(0, .int x0), (1, .int x1), (2, .int x2)]) (st1 := [.int (0 : Int32)]) (h1 := hO R g) (by decide +kernel) rfl ?_
          cases h
          exact m_ri (by decide +kernel)
        · rw [if_neg c6] at h
          refine m_go (L := [(115, .iconst 1, 1, 0, 0), (116, .goto 4, 3, 0, 0)]) (pc1 := 120) (lv1 := [(0, .int x0), (1, .int x1), (2, .int x2)]) (st1 := [.int (1 : Int32)]) (h1 := hO R g) (by decide +kernel) rfl ?_
          cases h
          exact m_ri (by decide +kernel)
      · rw [if_neg c5] at h
        by_cases c7 : x0 = 16
        · rw [if_pos c7] at h
          refine m_go1 (q := (1, .tableswitch 131 13 21 #[87, 98, 109, 120, 51, 55, 59, 63, 75], 51, 0, 0)) (pc1 := 121) (lv1 := [(0, .int x0), (1, .int x1), (2, .int x2)]) (st1 := []) (h1 := hO R g) (by decide +kernel) (m_swx (fun z => m_loc m_ft X (.tableswitch 131 13 21 #[87, 98, 109, 120, 51, 55, 59, 63, 75]) 0 0 1 [(0, .int x0), (1, .int x1), (2, .int x2)] (.int z :: []) (hO R g)) c7 rfl) ?_
          refine m_gob (c := x2 < x1) (t := 130) (f := 126) (L := [(121, .iload_n 1, 1, 0, 0), (122, .iload_n 2, 1, 0, 0), (123, .if_icmp .gt 7, 3, 0, 0)]) (lv1 := [(0, .int x0), (1, .int x1), (2, .int x2)]) (st1 := []) (h1 := hO R g) (by decide +kernel) rfl (fun c8 => ?_) (fun c8 => ?_)
          · rw [if_pos c8] at h
            refine m_go (L := [(130, .iconst 0, 1, 0, 0)]) (pc1 := 131) (lv1 := [(0, .int x0), (1, .int x1), (2, .int x2)]) (st1 := [.int (0 : Int32)]) (h1 := hO R g) (by decide +kernel) rfl ?_
            cases h
            exact m_ri (by decide +kernel)
          · rw [if_neg c8] at h
            refine m_go (L := [(126, .iconst 1, 1, 0, 0), (127, .goto 4, 3, 0, 0)]) (pc1 := 131) (lv1 := [(0, .int x0), (1, .int x1), (2, .int x2)]) (st1 := [.int (1 : Int32)]) (h1 := hO R g) (by decide +kernel) rfl ?_
            cases h
            exact m_ri (by decide +kernel)
        · rw [if_neg c7] at h
          by_cases c9 : x0 = 17
          · rw [if_pos c9] at h
            refine m_go1 (q := (1, .tableswitch 131 13 21 #[87, 98, 109, 120, 51, 55, 59, 63, 75], 51, 0, 0)) (pc1 := 52) (lv1 := [(0, .int x0), (1, .int x1), (2, .int x2)]) (st1 := []) (h1 := hO R g) (by decide +kernel) (m_swx (fun z => m_loc m_ft X (.tableswitch 131 13 21 #[87, 98, 109, 120, 51, 55, 59, 63, 75]) 0 0 1 [(0, .int x0), (1, .int x1), (2, .int x2)] (.int z :: []) (hO R g)) c9 rfl) ?_
            refine m_go (L := [(52, .iload_n 1, 1, 0, 0), (53, .iload_n 2, 1, 0, 0), (54, .iadd, 1, 0, 0)]) (pc1 := 55) (lv1 := [(0, .int x0), (1, .int x1), (2, .int x2)]) (st1 := [.int (x1 + x2)]) (h1 := hO R g) (by decide +kernel) rfl ?_
            cases h
            exact m_ri (by decide +kernel)
          · rw [if_neg c9] at h
            by_cases c10 : x0 = 18
            · rw [if_pos c10] at h
              refine m_go1 (q := (1, .tableswitch 131 13 21 #[87, 98, 109, 120, 51, 55, 59, 63, 75], 51, 0, 0)) (pc1 := 56) (lv1 := [(0, .int x0), (1, .int x1), (2, .int x2)]) (st1 := []) (h1 := hO R g) (by decide +kernel) (m_swx (fun z => m_loc m_ft X (.tableswitch 131 13 21 #[87, 98, 109, 120, 51, 55, 59, 63, 75]) 0 0 1 [(0, .int x0), (1, .int x1), (2, .int x2)] (.int z :: []) (hO R g)) c10 rfl) ?_
              refine m_go (L := [(56, .iload_n 1, 1, 0, 0), (57, .iload_n 2, 1, 0, 0), (58, .isub, 1, 0, 0)]) (pc1 := 59) (lv1 := [(0, .int x0), (1, .int x1), (2, .int x2)]) (st1 := [.int (x1 - x2)]) (h1 := hO R g) (by decide +kernel) rfl ?_
              cases h
              exact m_ri (by decide +kernel)
            · rw [if_neg c10] at h
              by_cases c11 : x0 = 19
              · rw [if_pos c11] at h
                refine m_go1 (q := (1, .tableswitch 131 13 21 #[87, 98, 109, 120, 51, 55, 59, 63, 75], 51, 0, 0)) (pc1 := 60) (lv1 := [(0, .int x0), (1, .int x1), (2, .int x2)]) (st1 := []) (h1 := hO R g) (by decide +kernel) (m_swx (fun z => m_loc m_ft X (.tableswitch 131 13 21 #[87, 98, 109, 120, 51, 55, 59, 63, 75]) 0 0 1 [(0, .int x0), (1, .int x1), (2, .int x2)] (.int z :: []) (hO R g)) c11 rfl) ?_
                refine m_go (L := [(60, .iload_n 1, 1, 0, 0), (61, .iload_n 2, 1, 0, 0), (62, .imul, 1, 0, 0)]) (pc1 := 63) (lv1 := [(0, .int x0), (1, .int x1), (2, .int x2)]) (st1 := [.int (x1 * x2)]) (h1 := hO R g) (by decide +kernel) rfl ?_
                cases h
                exact m_ri (by decide +kernel)
              · rw [if_neg c11] at h
                by_cases c12 : x0 = 20
                · rw [if_pos c12] at h
                  refine m_go1 (q := (1, .tableswitch 131 13 21 #[87, 98, 109, 120, 51, 55, 59, 63, 75], 51, 0, 0)) (pc1 := 64) (lv1 := [(0, .int x0), (1, .int x1), (2, .int x2)]) (st1 := []) (h1 := hO R g) (by decide +kernel) (m_swx (fun z => m_loc m_ft X (.tableswitch 131 13 21 #[87, 98, 109, 120, 51, 55, 59, 63, 75]) 0 0 1 [(0, .int x0), (1, .int x1), (2, .int x2)] (.int z :: []) (hO R g)) c12 rfl) ?_
                  refine m_gob (c := ¬ x2 = 0) (t := 72) (f := 68) (L := [(64, .iload_n 2, 1, 0, 0), (65, .ifCond .ne 7, 3, 0, 0)]) (lv1 := [(0, .int x0), (1, .int x1), (2, .int x2)]) (st1 := []) (h1 := hO R g) (by decide +kernel) rfl (fun c13 => ?_) (fun c13 => ?_)
                  · rw [if_pos c13] at h
                    refine m_go (L := [(72, .iload_n 1, 1, 0, 0), (73, .iload_n 2, 1, 0, 0)]) (pc1 := 74) (lv1 := [(0, .int x0), (1, .int x1), (2, .int x2)]) (st1 := [.int x2, .int x1]) (h1 := hO R g) (by decide +kernel) rfl ?_
                    obtain ⟨c14, h⟩ := m_ifn_inv h
                    refine m_go1 (q := (74, .idiv, 1, 0, 0)) (pc1 := 75) (lv1 := [(0, .int x0), (1, .int x1), (2, .int x2)]) (st1 := [.int (x1 / x2)]) (h1 := hO R g) (by decide +kernel) (if_neg c14) ?_
                    cases h
                    exact m_ri (by decide +kernel)
                  · rw [if_neg c13] at h
                    refine m_go (L := [(68, .iconst 0, 1, 0, 0), (69, .goto 6, 3, 0, 0)]) (pc1 := 75) (lv1 := [(0, .int x0), (1, .int x1), (2, .int x2)]) (st1 := [.int (0 : Int32)]) (h1 := hO R g) (by decide +kernel) rfl ?_
                    cases h
                    exact m_ri (by decide +kernel)
                · rw [if_neg c12] at h
                  by_cases c15 : x0 = 21
                  · rw [if_pos c15] at h
                    refine m_go1 (q := (1, .tableswitch 131 13 21 #[87, 98, 109, 120, 51, 55, 59, 63, 75], 51, 0, 0)) (pc1 := 76) (lv1 := [(0, .int x0), (1, .int x1), (2, .int x2)]) (st1 := []) (h1 := hO R g) (by decide +kernel) (m_swx (fun z => m_loc m_ft X (.tableswitch 131 13 21 #[87, 98, 109, 120, 51, 55, 59, 63, 75]) 0 0 1 [(0, .int x0), (1, .int x1), (2, .int x2)] (.int z :: []) (hO R g)) c15 rfl) ?_
                    refine m_gob (c := ¬ x2 = 0) (t := 84) (f := 80) (L := [(76, .iload_n 2, 1, 0, 0), (77, .ifCond .ne 7, 3, 0, 0)]) (lv1 := [(0, .int x0), (1, .int x1), (2, .int x2)]) (st1 := []) (h1 := hO R g) (by decide +kernel) rfl (fun c16 => ?_) (fun c16 => ?_)
                    · rw [if_pos c16] at h
                      refine m_go (L := [(84, .iload_n 1, 1, 0, 0), (85, .iload_n 2, 1, 0, 0)]) (pc1 := 86) (lv1 := [(0, .int x0), (1, .int x1), (2, .int x2)]) (st1 := [.int x2, .int x1]) (h1 := hO R g) (by decide +kernel) rfl ?_
                      obtain ⟨c17, h⟩ := m_ifn_inv h
                      refine m_go1 (q := (86, .irem, 1, 0, 0)) (pc1 := 87) (lv1 := [(0, .int x0), (1, .int x1), (2, .int x2)]) (st1 := [.int (x1 - x1 / x2 * x2)]) (h1 := hO R g) (by decide +kernel) (if_neg c17) ?_
                      cases h
                      exact m_ri (by decide +kernel)
                    · rw [if_neg c16] at h
                      refine m_go (L := [(80, .iconst 0, 1, 0, 0), (81, .goto 6, 3, 0, 0)]) (pc1 := 87) (lv1 := [(0, .int x0), (1, .int x1), (2, .int x2)]) (st1 := [.int (0 : Int32)]) (h1 := hO R g) (by decide +kernel) rfl ?_
                      cases h
                      exact m_ri (by decide +kernel)
                  · rw [if_neg c15] at h
                    have hx : m_loc m_ft X (.tableswitch 131 13 21 #[87, 98, 109, 120, 51, 55, 59, 63, 75]) 0 0 1 [(0, .int x0), (1, .int x1), (2, .int x2)] ([.int x0]) (hO R g) = some (132, [(0, .int x0), (1, .int x1), (2, .int x2)], [], hO R g) := by
                      by_cases hz : Int32.toInt x0 < 13 ∨ 21 < Int32.toInt x0
                      · exact if_pos hz
                      · exfalso; have z0 := m_ne (k := 13) (z := 13) (by decide) c1; have z1 := m_ne (k := 14) (z := 14) (by decide) c3; have z2 := m_ne (k := 15) (z := 15) (by decide) c5; have z3 := m_ne (k := 16) (z := 16) (by decide) c7; have z4 := m_ne (k := 17) (z := 17) (by decide) c9; have z5 := m_ne (k := 18) (z := 18) (by decide) c10; have z6 := m_ne (k := 19) (z := 19) (by decide) c11; have z7 := m_ne (k := 20) (z := 20) (by decide) c12; have z8 := m_ne (k := 21) (z := 21) (by decide) c15; omega
                    refine m_go1 (q := (1, .tableswitch 131 13 21 #[87, 98, 109, 120, 51, 55, 59, 63, 75], 51, 0, 0)) (by decide +kernel) hx ?_
                    refine m_go (L := [(132, .iconst 0, 1, 0, 0)]) (pc1 := 133) (lv1 := [(0, .int x0), (1, .int x1), (2, .int x2)]) (st1 := [.int (0 : Int32)]) (h1 := hO R g) (by decide +kernel) rfl ?_
                    cases h
                    exact m_ri (by decide +kernel)
def f54_34 (n : Nat) (x1 : Int32) (x2 : Int32) (x3 : Int32) (g : mG) : mZ := m_ci (f55 n x1 x3 x2 g) (fun v11 g10 => m_cv (f44 n v11 g10) (fun g14 => some (.inl none, g14)))
theorem Fr54_34 {R : Nat} {x1 : Int32} {x2 : Int32} {x3 : Int32} {g g' : mG} {o : mO} (h : f54_34 n x1 x2 x3 g = some (o, g')) : m_Run X (1) (m_ko o) 54 34 [(0, .ref 4), (1, .int x1), (2, .int x2), (3, .int x3)] [] (hO R g) o (hO R g') := by
  unfold f54_34 at h
  refine m_go (L := [(34, .aload_n 0, 1, 0, 0), (35, .iload_n 1, 1, 0, 0), (36, .iload_n 3, 1, 0, 0), (37, .iload_n 2, 1, 0, 0)]) (pc1 := 38) (lv1 := [(0, .ref 4), (1, .int x1), (2, .int x2), (3, .int x3)]) (st1 := [.int x2, .int x3, .int x1, .ref 4]) (h1 := hO R g) (by decide +kernel) rfl ?_
  rcases m_ci_inv h with ⟨v11, g10, e12, h⟩ | ⟨y13, g10, e12, rfl, rfl⟩
  · refine m_ca (q := (38, .invokestatic 110, 3, 55, 3)) (a := 55) (vs := [.int x1, .int x3, .int x2]) (st := [.ref 4]) (d1 := 0) (by decide +kernel) rfl rfl rfl rfl (by decide) (Fr55 e12) ?_
    show m_Run X _ _ 54 41 [(0, .ref 4), (1, .int x1), (2, .int x2), (3, .int x3)] [.int v11, .ref 4] (hO R g10) _ _
    rcases m_cv_inv h with ⟨g14, e16, h⟩ | ⟨y17, g14, e16, rfl, rfl⟩
    · refine m_ca (q := (41, .invokevirtual 80, 3, 44, 1)) (a := 44) (vs := [.ref 4, .int v11]) (st := []) (d1 := 0) (by decide +kernel) rfl rfl rfl rfl (by decide) (Fr44 e16) ?_
      show m_Run X _ _ 54 44 [(0, .ref 4), (1, .int x1), (2, .int x2), (3, .int x3)] [] (hO R g14) _ _
      cases h
      exact m_rv (by decide +kernel)
    · exact m_cx (q := (41, .invokevirtual 80, 3, 44, 1)) (a := 44) (vs := [.ref 4, .int v11]) (st := []) (d1 := 0) (by decide +kernel) (by decide +kernel) rfl rfl rfl rfl (by decide) (Fr44 e16)
  · exact m_cx (q := (38, .invokestatic 110, 3, 55, 3)) (a := 55) (vs := [.int x1, .int x3, .int x2]) (st := [.ref 4]) (d1 := 0) (by decide +kernel) (by decide +kernel) rfl rfl rfl rfl (by decide) (Fr55 e12)
def f54_26 (n : Nat) (g : mG) : mZ := some (.inl none, (gI g 17 (1 : Int32)))
theorem Fr54_26 {R : Nat} {g g' : mG} {o : mO} (h : f54_26 n g = some (o, g')) : m_Run X (1) (m_ko o) 54 26 [(0, .ref 4)] [] (hO R g) o (hO R g') := by
  unfold f54_26 at h
  refine m_go (L := [(26, .aload_n 0, 1, 0, 0), (27, .iconst 1, 1, 0, 0), (28, .putfield 45, 3, 2, 8), (31, .goto 13, 3, 0, 0)]) (pc1 := 44) (lv1 := [(0, .ref 4)]) (st1 := []) (h1 := hO R (gI g 17 (1 : Int32))) (by decide +kernel) rfl ?_
  cases h
  exact m_rv (by decide +kernel)
def f54 (n : Nat) (x1 : Int32) (g : mG) : mZ := m_ci (f46 n g) (fun v2 g1 => m_ci (f46 n g1) (fun v6 g5 => if ¬ v2 = 0 then f54_34 n x1 v2 v6 g5 else if x1 = (20 : Int32) then f54_26 n g5 else if ¬ x1 = (21 : Int32) then f54_34 n x1 v2 v6 g5 else f54_26 n g5))
theorem Fr54 {R : Nat} {x1 : Int32} {g g' : mG} {o : mO} (h : f54 n x1 g = some (o, g')) : m_Run X (1) (m_ko o) 54 0 [(0, .ref 4), (1, .int x1)] [] (hO R g) o (hO R g') := by
  unfold f54 at h
  refine m_go (L := [(0, .aload_n 0, 1, 0, 0)]) (pc1 := 1) (lv1 := [(0, .ref 4), (1, .int x1)]) (st1 := [.ref 4]) (h1 := hO R g) (by decide +kernel) rfl ?_
  rcases m_ci_inv h with ⟨v2, g1, e3, h⟩ | ⟨y4, g1, e3, rfl, rfl⟩
  · refine m_ca (q := (1, .invokevirtual 86, 3, 46, 0)) (a := 46) (vs := [.ref 4]) (st := []) (d1 := 0) (by decide +kernel) rfl rfl rfl rfl (by decide) (Fr46 e3) ?_
    show m_Run X _ _ 54 4 [(0, .ref 4), (1, .int x1)] [.int v2] (hO R g1) _ _
    refine m_go (L := [(4, .istore_n 2, 1, 0, 0), (5, .aload_n 0, 1, 0, 0)]) (pc1 := 6) (lv1 := [(0, .ref 4), (1, .int x1), (2, .int v2)]) (st1 := [.ref 4]) (h1 := hO R g1) (by decide +kernel) rfl ?_
    rcases m_ci_inv h with ⟨v6, g5, e7, h⟩ | ⟨y8, g5, e7, rfl, rfl⟩
    · refine m_ca (q := (6, .invokevirtual 86, 3, 46, 0)) (a := 46) (vs := [.ref 4]) (st := []) (d1 := 0) (by decide +kernel) rfl rfl rfl rfl (by decide) (Fr46 e7) ?_
      show m_Run X _ _ 54 9 [(0, .ref 4), (1, .int x1), (2, .int v2)] [.int v6] (hO R g5) _ _
      refine m_gob (c := ¬ v2 = 0) (t := 34) (f := 14) (L := [(9, .istore_n 3, 1, 0, 0), (10, .iload_n 2, 1, 0, 0), (11, .ifCond .ne 23, 3, 0, 0)]) (lv1 := [(0, .ref 4), (1, .int x1), (2, .int v2), (3, .int v6)]) (st1 := []) (h1 := hO R g5) (by decide +kernel) rfl (fun c9 => ?_) (fun c9 => ?_)
      · rw [if_pos c9] at h
        exact m_r0 _ _ _ _ _ _ _ _ _ _ (m_pick [0, 1, 2, 3] rfl) (Fr54_34 h)
      · rw [if_neg c9] at h
        refine m_gob (c := x1 = (20 : Int32)) (t := 26) (f := 20) (L := [(14, .iload_n 1, 1, 0, 0), (15, .bipush 20, 2, 0, 0), (17, .if_icmp .eq 9, 3, 0, 0)]) (lv1 := [(0, .ref 4), (1, .int x1), (2, .int v2), (3, .int v6)]) (st1 := []) (h1 := hO R g5) (by decide +kernel) rfl (fun c18 => ?_) (fun c18 => ?_)
        · rw [if_pos c18] at h
          exact m_r0 _ _ _ _ _ _ _ _ _ _ (m_pick [0] rfl) (Fr54_26 h)
        · rw [if_neg c18] at h
          refine m_gob (c := ¬ x1 = (21 : Int32)) (t := 34) (f := 26) (L := [(20, .iload_n 1, 1, 0, 0), (21, .bipush 21, 2, 0, 0), (23, .if_icmp .ne 11, 3, 0, 0)]) (lv1 := [(0, .ref 4), (1, .int x1), (2, .int v2), (3, .int v6)]) (st1 := []) (h1 := hO R g5) (by decide +kernel) rfl (fun c19 => ?_) (fun c19 => ?_)
          · rw [if_pos c19] at h
            exact m_r0 _ _ _ _ _ _ _ _ _ _ (m_pick [0, 1, 2, 3] rfl) (Fr54_34 h)
          · rw [if_neg c19] at h
            exact m_r0 _ _ _ _ _ _ _ _ _ _ (m_pick [0] rfl) (Fr54_26 h)
    · exact m_cx (q := (6, .invokevirtual 86, 3, 46, 0)) (a := 46) (vs := [.ref 4]) (st := []) (d1 := 0) (by decide +kernel) (by decide +kernel) rfl rfl rfl rfl (by decide) (Fr46 e7)
  · exact m_cx (q := (1, .invokevirtual 86, 3, 46, 0)) (a := 46) (vs := [.ref 4]) (st := []) (d1 := 0) (by decide +kernel) (by decide +kernel) rfl rfl rfl rfl (by decide) (Fr46 e3)
def f49 (n : Nat) (x1 : Int32) (x2 : Int32) (g : mG) : mZ := if x1 = 3 then m_cv (f44 n x2 g) (fun g2 => some (.inl none, g2)) else if x1 = 22 then m_ci (f46 n g) (fun v8 g7 => m_cv (f44 n ((1 : Int32) - v8) g7) (fun g11 => some (.inl none, g11))) else if x1 = 23 then m_cv (f53 n (0 : Int32) x2 g) (fun g16 => some (.inl none, g16)) else if x1 = 24 then m_cv (f53 n (1 : Int32) x2 g) (fun g21 => some (.inl none, g21)) else if x1 = 27 then m_cv (f51 n g) (fun g26 => some (.inl none, g26)) else if x1 = 28 then m_ci (f46 n g) (fun v32 g31 => m_ci (f56 n v32 g31) (fun v36 g35 => m_cv (f44 n v36 g35) (fun g39 => some (.inl none, g39)))) else if x1 = 32 then m_ci (f46 n g) (fun v45 g44 => m_cv (f52 n v45 g44) (fun g48 => some (.inl none, g48))) else if x1 = 33 then m_ci (f46 n g) (fun v54 g53 => if ¬ v54 = 0 then some (.inl none, g53) else some (.inl none, (gI g53 17 (2 : Int32)))) else if x1 = 36 then m_ci (f50 n x2 g) (fun v60 g59 => m_cv (f44 n v60 g59) (fun g63 => some (.inl none, g63))) else if x1 = 37 then m_ci (f46 n g) (fun v69 g68 => m_cv (f44 n (-v69) g68) (fun g72 => some (.inl none, g72))) else if x1 = 38 then m_cv (f45 n x2 g) (fun g77 => some (.inl none, g77)) else if x1 = 39 then m_ci (f46 n g) (fun v83 g82 => m_cv (f47 n x2 v83 g82) (fun g86 => some (.inl none, g86))) else if x1 = 40 then m_ci (f46 n g) (fun v92 g91 => if ¬ v92 = 0 then some (.inl none, g91) else some (.inl none, (gI g91 16 x2))) else if x1 = 41 then some (.inl none, (gI g 16 x2)) else if x1 = 42 then m_cv (f52 n (0 : Int32) g) (fun g98 => some (.inl none, g98)) else m_cv (f54 n x1 g) (fun g102 => some (.inl none, g102))
theorem Fr49 {R : Nat} {x1 : Int32} {x2 : Int32} {g g' : mG} {o : mO} (h : f49 n x1 x2 g = some (o, g')) : m_Run X (3) (m_ko o) 49 0 [(0, .ref 4), (1, .int x1), (2, .int x2)] [] (hO R g) o (hO R g') := by
  unfold f49 at h
  refine m_go (L := [(0, .iload_n 1, 1, 0, 0)]) (pc1 := 1) (lv1 := [(0, .ref 4), (1, .int x1), (2, .int x2)]) (st1 := [.int x1]) (h1 := hO R g) (by decide +kernel) rfl ?_
  by_cases c1 : x1 = 3
  · rw [if_pos c1] at h
    refine m_go1 (q := (1, .tableswitch 340 3 42 #[175, 340, 340, 340, 340, 340, 340, 340, 340, 340, 340, 340, 340, 340, 340, 340, 340, 340, 340, 219, 322, 331, 340, 340, 250, 232, 340, 340, 340, 265, 284, 340, 340, 183, 207, 257, 195, 307, 299, 276], 175, 0, 0)) (pc1 := 176) (lv1 := [(0, .ref 4), (1, .int x1), (2, .int x2)]) (st1 := []) (h1 := hO R g) (by decide +kernel) (m_swx (fun z => m_loc m_ft X (.tableswitch 340 3 42 #[175, 340, 340, 340, 340, 340, 340, 340, 340, 340, 340, 340, 340, 340, 340, 340, 340, 340, 340, 219, 322, 331, 340, 340, 250, 232, 340, 340, 340, 265, 284, 340, 340, 183, 207, 257, 195, 307, 299, 276]) 0 0 1 [(0, .ref 4), (1, .int x1), (2, .int x2)] (.int z :: []) (hO R g)) c1 rfl) ?_
    refine m_go (L := [(176, .aload_n 0, 1, 0, 0), (177, .iload_n 2, 1, 0, 0)]) (pc1 := 178) (lv1 := [(0, .ref 4), (1, .int x1), (2, .int x2)]) (st1 := [.int x2, .ref 4]) (h1 := hO R g) (by decide +kernel) rfl ?_
    rcases m_cv_inv h with ⟨g2, e4, h⟩ | ⟨y5, g2, e4, rfl, rfl⟩
    · refine m_ca (q := (178, .invokevirtual 80, 3, 44, 1)) (a := 44) (vs := [.ref 4, .int x2]) (st := []) (d1 := 0) (by decide +kernel) rfl rfl rfl rfl (by decide) (Fr44 e4) ?_
      show m_Run X _ _ 49 181 [(0, .ref 4), (1, .int x1), (2, .int x2)] [] (hO R g2) _ _
      refine m_go (L := [(181, .goto 165, 3, 0, 0)]) (pc1 := 346) (lv1 := [(0, .ref 4), (1, .int x1), (2, .int x2)]) (st1 := []) (h1 := hO R g2) (by decide +kernel) rfl ?_
      cases h
      exact m_rv (by decide +kernel)
    · exact m_cx (q := (178, .invokevirtual 80, 3, 44, 1)) (a := 44) (vs := [.ref 4, .int x2]) (st := []) (d1 := 0) (by decide +kernel) (by decide +kernel) rfl rfl rfl rfl (by decide) (Fr44 e4)
  · rw [if_neg c1] at h
    by_cases c6 : x1 = 22
    · rw [if_pos c6] at h
      refine m_go1 (q := (1, .tableswitch 340 3 42 #[175, 340, 340, 340, 340, 340, 340, 340, 340, 340, 340, 340, 340, 340, 340, 340, 340, 340, 340, 219, 322, 331, 340, 340, 250, 232, 340, 340, 340, 265, 284, 340, 340, 183, 207, 257, 195, 307, 299, 276], 175, 0, 0)) (pc1 := 220) (lv1 := [(0, .ref 4), (1, .int x1), (2, .int x2)]) (st1 := []) (h1 := hO R g) (by decide +kernel) (m_swx (fun z => m_loc m_ft X (.tableswitch 340 3 42 #[175, 340, 340, 340, 340, 340, 340, 340, 340, 340, 340, 340, 340, 340, 340, 340, 340, 340, 340, 219, 322, 331, 340, 340, 250, 232, 340, 340, 340, 265, 284, 340, 340, 183, 207, 257, 195, 307, 299, 276]) 0 0 1 [(0, .ref 4), (1, .int x1), (2, .int x2)] (.int z :: []) (hO R g)) c6 rfl) ?_
      refine m_go (L := [(220, .aload_n 0, 1, 0, 0), (221, .iconst 1, 1, 0, 0), (222, .aload_n 0, 1, 0, 0)]) (pc1 := 223) (lv1 := [(0, .ref 4), (1, .int x1), (2, .int x2)]) (st1 := [.ref 4, .int (1 : Int32), .ref 4]) (h1 := hO R g) (by decide +kernel) rfl ?_
      rcases m_ci_inv h with ⟨v8, g7, e9, h⟩ | ⟨y10, g7, e9, rfl, rfl⟩
      · refine m_ca (q := (223, .invokevirtual 86, 3, 46, 0)) (a := 46) (vs := [.ref 4]) (st := [.int (1 : Int32), .ref 4]) (d1 := 0) (by decide +kernel) rfl rfl rfl rfl (by decide) (Fr46 e9) ?_
        show m_Run X _ _ 49 226 [(0, .ref 4), (1, .int x1), (2, .int x2)] [.int v8, .int (1 : Int32), .ref 4] (hO R g7) _ _
        refine m_go (L := [(226, .isub, 1, 0, 0)]) (pc1 := 227) (lv1 := [(0, .ref 4), (1, .int x1), (2, .int x2)]) (st1 := [.int ((1 : Int32) - v8), .ref 4]) (h1 := hO R g7) (by decide +kernel) rfl ?_
        rcases m_cv_inv h with ⟨g11, e13, h⟩ | ⟨y14, g11, e13, rfl, rfl⟩
        · refine m_ca (q := (227, .invokevirtual 80, 3, 44, 1)) (a := 44) (vs := [.ref 4, .int ((1 : Int32) - v8)]) (st := []) (d1 := 0) (by decide +kernel) rfl rfl rfl rfl (by decide) (Fr44 e13) ?_
          show m_Run X _ _ 49 230 [(0, .ref 4), (1, .int x1), (2, .int x2)] [] (hO R g11) _ _
          refine m_go (L := [(230, .goto 116, 3, 0, 0)]) (pc1 := 346) (lv1 := [(0, .ref 4), (1, .int x1), (2, .int x2)]) (st1 := []) (h1 := hO R g11) (by decide +kernel) rfl ?_
          cases h
          exact m_rv (by decide +kernel)
        · exact m_cx (q := (227, .invokevirtual 80, 3, 44, 1)) (a := 44) (vs := [.ref 4, .int ((1 : Int32) - v8)]) (st := []) (d1 := 0) (by decide +kernel) (by decide +kernel) rfl rfl rfl rfl (by decide) (Fr44 e13)
      · exact m_cx (q := (223, .invokevirtual 86, 3, 46, 0)) (a := 46) (vs := [.ref 4]) (st := [.int (1 : Int32), .ref 4]) (d1 := 0) (by decide +kernel) (by decide +kernel) rfl rfl rfl rfl (by decide) (Fr46 e9)
    · rw [if_neg c6] at h
      by_cases c15 : x1 = 23
      · rw [if_pos c15] at h
        refine m_go1 (q := (1, .tableswitch 340 3 42 #[175, 340, 340, 340, 340, 340, 340, 340, 340, 340, 340, 340, 340, 340, 340, 340, 340, 340, 340, 219, 322, 331, 340, 340, 250, 232, 340, 340, 340, 265, 284, 340, 340, 183, 207, 257, 195, 307, 299, 276], 175, 0, 0)) (pc1 := 323) (lv1 := [(0, .ref 4), (1, .int x1), (2, .int x2)]) (st1 := []) (h1 := hO R g) (by decide +kernel) (m_swx (fun z => m_loc m_ft X (.tableswitch 340 3 42 #[175, 340, 340, 340, 340, 340, 340, 340, 340, 340, 340, 340, 340, 340, 340, 340, 340, 340, 340, 219, 322, 331, 340, 340, 250, 232, 340, 340, 340, 265, 284, 340, 340, 183, 207, 257, 195, 307, 299, 276]) 0 0 1 [(0, .ref 4), (1, .int x1), (2, .int x2)] (.int z :: []) (hO R g)) c15 rfl) ?_
        refine m_go (L := [(323, .aload_n 0, 1, 0, 0), (324, .iconst 0, 1, 0, 0), (325, .iload_n 2, 1, 0, 0)]) (pc1 := 326) (lv1 := [(0, .ref 4), (1, .int x1), (2, .int x2)]) (st1 := [.int x2, .int (0 : Int32), .ref 4]) (h1 := hO R g) (by decide +kernel) rfl ?_
        rcases m_cv_inv h with ⟨g16, e18, h⟩ | ⟨y19, g16, e18, rfl, rfl⟩
        · refine m_ca (q := (326, .invokevirtual 102, 3, 53, 2)) (a := 53) (vs := [.ref 4, .int (0 : Int32), .int x2]) (st := []) (d1 := 1) (by decide +kernel) rfl rfl rfl rfl (by decide) (Fr53 e18) ?_
          show m_Run X _ _ 49 329 [(0, .ref 4), (1, .int x1), (2, .int x2)] [] (hO R g16) _ _
          refine m_go (L := [(329, .goto 17, 3, 0, 0)]) (pc1 := 346) (lv1 := [(0, .ref 4), (1, .int x1), (2, .int x2)]) (st1 := []) (h1 := hO R g16) (by decide +kernel) rfl ?_
          cases h
          exact m_rv (by decide +kernel)
        · exact m_cx (q := (326, .invokevirtual 102, 3, 53, 2)) (a := 53) (vs := [.ref 4, .int (0 : Int32), .int x2]) (st := []) (d1 := 1) (by decide +kernel) (by decide +kernel) rfl rfl rfl rfl (by decide) (Fr53 e18)
      · rw [if_neg c15] at h
        by_cases c20 : x1 = 24
        · rw [if_pos c20] at h
          refine m_go1 (q := (1, .tableswitch 340 3 42 #[175, 340, 340, 340, 340, 340, 340, 340, 340, 340, 340, 340, 340, 340, 340, 340, 340, 340, 340, 219, 322, 331, 340, 340, 250, 232, 340, 340, 340, 265, 284, 340, 340, 183, 207, 257, 195, 307, 299, 276], 175, 0, 0)) (pc1 := 332) (lv1 := [(0, .ref 4), (1, .int x1), (2, .int x2)]) (st1 := []) (h1 := hO R g) (by decide +kernel) (m_swx (fun z => m_loc m_ft X (.tableswitch 340 3 42 #[175, 340, 340, 340, 340, 340, 340, 340, 340, 340, 340, 340, 340, 340, 340, 340, 340, 340, 340, 219, 322, 331, 340, 340, 250, 232, 340, 340, 340, 265, 284, 340, 340, 183, 207, 257, 195, 307, 299, 276]) 0 0 1 [(0, .ref 4), (1, .int x1), (2, .int x2)] (.int z :: []) (hO R g)) c20 rfl) ?_
          refine m_go (L := [(332, .aload_n 0, 1, 0, 0), (333, .iconst 1, 1, 0, 0), (334, .iload_n 2, 1, 0, 0)]) (pc1 := 335) (lv1 := [(0, .ref 4), (1, .int x1), (2, .int x2)]) (st1 := [.int x2, .int (1 : Int32), .ref 4]) (h1 := hO R g) (by decide +kernel) rfl ?_
          rcases m_cv_inv h with ⟨g21, e23, h⟩ | ⟨y24, g21, e23, rfl, rfl⟩
          · refine m_ca (q := (335, .invokevirtual 102, 3, 53, 2)) (a := 53) (vs := [.ref 4, .int (1 : Int32), .int x2]) (st := []) (d1 := 1) (by decide +kernel) rfl rfl rfl rfl (by decide) (Fr53 e23) ?_
            show m_Run X _ _ 49 338 [(0, .ref 4), (1, .int x1), (2, .int x2)] [] (hO R g21) _ _
            refine m_go (L := [(338, .goto 8, 3, 0, 0)]) (pc1 := 346) (lv1 := [(0, .ref 4), (1, .int x1), (2, .int x2)]) (st1 := []) (h1 := hO R g21) (by decide +kernel) rfl ?_
            cases h
            exact m_rv (by decide +kernel)
          · exact m_cx (q := (335, .invokevirtual 102, 3, 53, 2)) (a := 53) (vs := [.ref 4, .int (1 : Int32), .int x2]) (st := []) (d1 := 1) (by decide +kernel) (by decide +kernel) rfl rfl rfl rfl (by decide) (Fr53 e23)
        · rw [if_neg c20] at h
          by_cases c25 : x1 = 27
          · rw [if_pos c25] at h
            refine m_go1 (q := (1, .tableswitch 340 3 42 #[175, 340, 340, 340, 340, 340, 340, 340, 340, 340, 340, 340, 340, 340, 340, 340, 340, 340, 340, 219, 322, 331, 340, 340, 250, 232, 340, 340, 340, 265, 284, 340, 340, 183, 207, 257, 195, 307, 299, 276], 175, 0, 0)) (pc1 := 251) (lv1 := [(0, .ref 4), (1, .int x1), (2, .int x2)]) (st1 := []) (h1 := hO R g) (by decide +kernel) (m_swx (fun z => m_loc m_ft X (.tableswitch 340 3 42 #[175, 340, 340, 340, 340, 340, 340, 340, 340, 340, 340, 340, 340, 340, 340, 340, 340, 340, 340, 219, 322, 331, 340, 340, 250, 232, 340, 340, 340, 265, 284, 340, 340, 183, 207, 257, 195, 307, 299, 276]) 0 0 1 [(0, .ref 4), (1, .int x1), (2, .int x2)] (.int z :: []) (hO R g)) c25 rfl) ?_
            refine m_go (L := [(251, .aload_n 0, 1, 0, 0)]) (pc1 := 252) (lv1 := [(0, .ref 4), (1, .int x1), (2, .int x2)]) (st1 := [.ref 4]) (h1 := hO R g) (by decide +kernel) rfl ?_
            rcases m_cv_inv h with ⟨g26, e28, h⟩ | ⟨y29, g26, e28, rfl, rfl⟩
            · refine m_ca (q := (252, .invokevirtual 96, 3, 51, 0)) (a := 51) (vs := [.ref 4]) (st := []) (d1 := 2) (by decide +kernel) rfl rfl rfl rfl (by decide) (Fr51 e28) ?_
              show m_Run X _ _ 49 255 [(0, .ref 4), (1, .int x1), (2, .int x2)] [] (hO R g26) _ _
              refine m_go (L := [(255, .goto 91, 3, 0, 0)]) (pc1 := 346) (lv1 := [(0, .ref 4), (1, .int x1), (2, .int x2)]) (st1 := []) (h1 := hO R g26) (by decide +kernel) rfl ?_
              cases h
              exact m_rv (by decide +kernel)
            · exact m_cx (q := (252, .invokevirtual 96, 3, 51, 0)) (a := 51) (vs := [.ref 4]) (st := []) (d1 := 2) (by decide +kernel) (by decide +kernel) rfl rfl rfl rfl (by decide) (Fr51 e28)
          · rw [if_neg c25] at h
            by_cases c30 : x1 = 28
            · rw [if_pos c30] at h
              refine m_go1 (q := (1, .tableswitch 340 3 42 #[175, 340, 340, 340, 340, 340, 340, 340, 340, 340, 340, 340, 340, 340, 340, 340, 340, 340, 340, 219, 322, 331, 340, 340, 250, 232, 340, 340, 340, 265, 284, 340, 340, 183, 207, 257, 195, 307, 299, 276], 175, 0, 0)) (pc1 := 233) (lv1 := [(0, .ref 4), (1, .int x1), (2, .int x2)]) (st1 := []) (h1 := hO R g) (by decide +kernel) (m_swx (fun z => m_loc m_ft X (.tableswitch 340 3 42 #[175, 340, 340, 340, 340, 340, 340, 340, 340, 340, 340, 340, 340, 340, 340, 340, 340, 340, 340, 219, 322, 331, 340, 340, 250, 232, 340, 340, 340, 265, 284, 340, 340, 183, 207, 257, 195, 307, 299, 276]) 0 0 1 [(0, .ref 4), (1, .int x1), (2, .int x2)] (.int z :: []) (hO R g)) c30 rfl) ?_
              refine m_go (L := [(233, .aload_n 0, 1, 0, 0), (234, .aload_n 0, 1, 0, 0), (235, .getfield 12, 3, 2, 0), (238, .aload_n 0, 1, 0, 0)]) (pc1 := 239) (lv1 := [(0, .ref 4), (1, .int x1), (2, .int x2)]) (st1 := [.ref 4, .ref 6, .ref 4]) (h1 := hO R g) (by decide +kernel) rfl ?_
              rcases m_ci_inv h with ⟨v32, g31, e33, h⟩ | ⟨y34, g31, e33, rfl, rfl⟩
              · refine m_ca (q := (239, .invokevirtual 86, 3, 46, 0)) (a := 46) (vs := [.ref 4]) (st := [.ref 6, .ref 4]) (d1 := 0) (by decide +kernel) rfl rfl rfl rfl (by decide) (Fr46 e33) ?_
                show m_Run X _ _ 49 242 [(0, .ref 4), (1, .int x1), (2, .int x2)] [.int v32, .ref 6, .ref 4] (hO R g31) _ _
                rcases m_ci_inv h with ⟨v36, g35, e37, h⟩ | ⟨y38, g35, e37, rfl, rfl⟩
                · refine m_ca (q := (242, .invokevirtual 93, 3, 56, 1)) (a := 56) (vs := [.ref 6, .int v32]) (st := [.ref 4]) (d1 := 1) (by decide +kernel) rfl rfl rfl rfl (by decide) (Fr56 e37) ?_
                  show m_Run X _ _ 49 245 [(0, .ref 4), (1, .int x1), (2, .int x2)] [.int v36, .ref 4] (hO R g35) _ _
                  rcases m_cv_inv h with ⟨g39, e41, h⟩ | ⟨y42, g39, e41, rfl, rfl⟩
                  · refine m_ca (q := (245, .invokevirtual 80, 3, 44, 1)) (a := 44) (vs := [.ref 4, .int v36]) (st := []) (d1 := 0) (by decide +kernel) rfl rfl rfl rfl (by decide) (Fr44 e41) ?_
                    show m_Run X _ _ 49 248 [(0, .ref 4), (1, .int x1), (2, .int x2)] [] (hO R g39) _ _
                    refine m_go (L := [(248, .goto 98, 3, 0, 0)]) (pc1 := 346) (lv1 := [(0, .ref 4), (1, .int x1), (2, .int x2)]) (st1 := []) (h1 := hO R g39) (by decide +kernel) rfl ?_
                    cases h
                    exact m_rv (by decide +kernel)
                  · exact m_cx (q := (245, .invokevirtual 80, 3, 44, 1)) (a := 44) (vs := [.ref 4, .int v36]) (st := []) (d1 := 0) (by decide +kernel) (by decide +kernel) rfl rfl rfl rfl (by decide) (Fr44 e41)
                · exact m_cx (q := (242, .invokevirtual 93, 3, 56, 1)) (a := 56) (vs := [.ref 6, .int v32]) (st := [.ref 4]) (d1 := 1) (by decide +kernel) (by decide +kernel) rfl rfl rfl rfl (by decide) (Fr56 e37)
              · exact m_cx (q := (239, .invokevirtual 86, 3, 46, 0)) (a := 46) (vs := [.ref 4]) (st := [.ref 6, .ref 4]) (d1 := 0) (by decide +kernel) (by decide +kernel) rfl rfl rfl rfl (by decide) (Fr46 e33)
            · rw [if_neg c30] at h
              by_cases c43 : x1 = 32
              · rw [if_pos c43] at h
                refine m_go1 (q := (1, .tableswitch 340 3 42 #[175, 340, 340, 340, 340, 340, 340, 340, 340, 340, 340, 340, 340, 340, 340, 340, 340, 340, 340, 219, 322, 331, 340, 340, 250, 232, 340, 340, 340, 265, 284, 340, 340, 183, 207, 257, 195, 307, 299, 276], 175, 0, 0)) (pc1 := 266) (lv1 := [(0, .ref 4), (1, .int x1), (2, .int x2)]) (st1 := []) (h1 := hO R g) (by decide +kernel) (m_swx (fun z => m_loc m_ft X (.tableswitch 340 3 42 #[175, 340, 340, 340, 340, 340, 340, 340, 340, 340, 340, 340, 340, 340, 340, 340, 340, 340, 340, 219, 322, 331, 340, 340, 250, 232, 340, 340, 340, 265, 284, 340, 340, 183, 207, 257, 195, 307, 299, 276]) 0 0 1 [(0, .ref 4), (1, .int x1), (2, .int x2)] (.int z :: []) (hO R g)) c43 rfl) ?_
                refine m_go (L := [(266, .aload_n 0, 1, 0, 0), (267, .aload_n 0, 1, 0, 0)]) (pc1 := 268) (lv1 := [(0, .ref 4), (1, .int x1), (2, .int x2)]) (st1 := [.ref 4, .ref 4]) (h1 := hO R g) (by decide +kernel) rfl ?_
                rcases m_ci_inv h with ⟨v45, g44, e46, h⟩ | ⟨y47, g44, e46, rfl, rfl⟩
                · refine m_ca (q := (268, .invokevirtual 86, 3, 46, 0)) (a := 46) (vs := [.ref 4]) (st := [.ref 4]) (d1 := 0) (by decide +kernel) rfl rfl rfl rfl (by decide) (Fr46 e46) ?_
                  show m_Run X _ _ 49 271 [(0, .ref 4), (1, .int x1), (2, .int x2)] [.int v45, .ref 4] (hO R g44) _ _
                  rcases m_cv_inv h with ⟨g48, e50, h⟩ | ⟨y51, g48, e50, rfl, rfl⟩
                  · refine m_ca (q := (271, .invokevirtual 99, 3, 52, 1)) (a := 52) (vs := [.ref 4, .int v45]) (st := []) (d1 := 1) (by decide +kernel) rfl rfl rfl rfl (by decide) (Fr52 e50) ?_
                    show m_Run X _ _ 49 274 [(0, .ref 4), (1, .int x1), (2, .int x2)] [] (hO R g48) _ _
                    refine m_go (L := [(274, .goto 72, 3, 0, 0)]) (pc1 := 346) (lv1 := [(0, .ref 4), (1, .int x1), (2, .int x2)]) (st1 := []) (h1 := hO R g48) (by decide +kernel) rfl ?_
                    cases h
                    exact m_rv (by decide +kernel)
                  · exact m_cx (q := (271, .invokevirtual 99, 3, 52, 1)) (a := 52) (vs := [.ref 4, .int v45]) (st := []) (d1 := 1) (by decide +kernel) (by decide +kernel) rfl rfl rfl rfl (by decide) (Fr52 e50)
                · exact m_cx (q := (268, .invokevirtual 86, 3, 46, 0)) (a := 46) (vs := [.ref 4]) (st := [.ref 4]) (d1 := 0) (by decide +kernel) (by decide +kernel) rfl rfl rfl rfl (by decide) (Fr46 e46)
              · rw [if_neg c43] at h
                by_cases c52 : x1 = 33
                · rw [if_pos c52] at h
                  refine m_go1 (q := (1, .tableswitch 340 3 42 #[175, 340, 340, 340, 340, 340, 340, 340, 340, 340, 340, 340, 340, 340, 340, 340, 340, 340, 340, 219, 322, 331, 340, 340, 250, 232, 340, 340, 340, 265, 284, 340, 340, 183, 207, 257, 195, 307, 299, 276], 175, 0, 0)) (pc1 := 285) (lv1 := [(0, .ref 4), (1, .int x1), (2, .int x2)]) (st1 := []) (h1 := hO R g) (by decide +kernel) (m_swx (fun z => m_loc m_ft X (.tableswitch 340 3 42 #[175, 340, 340, 340, 340, 340, 340, 340, 340, 340, 340, 340, 340, 340, 340, 340, 340, 340, 340, 219, 322, 331, 340, 340, 250, 232, 340, 340, 340, 265, 284, 340, 340, 183, 207, 257, 195, 307, 299, 276]) 0 0 1 [(0, .ref 4), (1, .int x1), (2, .int x2)] (.int z :: []) (hO R g)) c52 rfl) ?_
                  refine m_go (L := [(285, .aload_n 0, 1, 0, 0)]) (pc1 := 286) (lv1 := [(0, .ref 4), (1, .int x1), (2, .int x2)]) (st1 := [.ref 4]) (h1 := hO R g) (by decide +kernel) rfl ?_
                  rcases m_ci_inv h with ⟨v54, g53, e55, h⟩ | ⟨y56, g53, e55, rfl, rfl⟩
                  · refine m_ca (q := (286, .invokevirtual 86, 3, 46, 0)) (a := 46) (vs := [.ref 4]) (st := []) (d1 := 0) (by decide +kernel) rfl rfl rfl rfl (by decide) (Fr46 e55) ?_
                    show m_Run X _ _ 49 289 [(0, .ref 4), (1, .int x1), (2, .int x2)] [.int v54] (hO R g53) _ _
                    refine m_gob (c := ¬ v54 = 0) (t := 346) (f := 292) (L := [(289, .ifCond .ne 57, 3, 0, 0)]) (lv1 := [(0, .ref 4), (1, .int x1), (2, .int x2)]) (st1 := []) (h1 := hO R g53) (by decide +kernel) rfl (fun c57 => ?_) (fun c57 => ?_)
                    · rw [if_pos c57] at h
                      cases h
                      exact m_rv (by decide +kernel)
                    · rw [if_neg c57] at h
                      refine m_go (L := [(292, .aload_n 0, 1, 0, 0), (293, .iconst 2, 1, 0, 0), (294, .putfield 45, 3, 2, 8), (297, .goto 49, 3, 0, 0)]) (pc1 := 346) (lv1 := [(0, .ref 4), (1, .int x1), (2, .int x2)]) (st1 := []) (h1 := hO R (gI g53 17 (2 : Int32))) (by decide +kernel) rfl ?_
                      cases h
                      exact m_rv (by decide +kernel)
                  · exact m_cx (q := (286, .invokevirtual 86, 3, 46, 0)) (a := 46) (vs := [.ref 4]) (st := []) (d1 := 0) (by decide +kernel) (by decide +kernel) rfl rfl rfl rfl (by decide) (Fr46 e55)
                · rw [if_neg c52] at h
                  by_cases c58 : x1 = 36
                  · rw [if_pos c58] at h
                    refine m_go1 (q := (1, .tableswitch 340 3 42 #[175, 340, 340, 340, 340, 340, 340, 340, 340, 340, 340, 340, 340, 340, 340, 340, 340, 340, 340, 219, 322, 331, 340, 340, 250, 232, 340, 340, 340, 265, 284, 340, 340, 183, 207, 257, 195, 307, 299, 276], 175, 0, 0)) (pc1 := 184) (lv1 := [(0, .ref 4), (1, .int x1), (2, .int x2)]) (st1 := []) (h1 := hO R g) (by decide +kernel) (m_swx (fun z => m_loc m_ft X (.tableswitch 340 3 42 #[175, 340, 340, 340, 340, 340, 340, 340, 340, 340, 340, 340, 340, 340, 340, 340, 340, 340, 340, 219, 322, 331, 340, 340, 250, 232, 340, 340, 340, 265, 284, 340, 340, 183, 207, 257, 195, 307, 299, 276]) 0 0 1 [(0, .ref 4), (1, .int x1), (2, .int x2)] (.int z :: []) (hO R g)) c58 rfl) ?_
                    refine m_go (L := [(184, .aload_n 0, 1, 0, 0), (185, .aload_n 0, 1, 0, 0), (186, .iload_n 2, 1, 0, 0)]) (pc1 := 187) (lv1 := [(0, .ref 4), (1, .int x1), (2, .int x2)]) (st1 := [.int x2, .ref 4, .ref 4]) (h1 := hO R g) (by decide +kernel) rfl ?_
                    rcases m_ci_inv h with ⟨v60, g59, e61, h⟩ | ⟨y62, g59, e61, rfl, rfl⟩
                    · refine m_ca (q := (187, .invokevirtual 83, 3, 50, 1)) (a := 50) (vs := [.ref 4, .int x2]) (st := [.ref 4]) (d1 := 0) (by decide +kernel) rfl rfl rfl rfl (by decide) (Fr50 e61) ?_
                      show m_Run X _ _ 49 190 [(0, .ref 4), (1, .int x1), (2, .int x2)] [.int v60, .ref 4] (hO R g59) _ _
                      rcases m_cv_inv h with ⟨g63, e65, h⟩ | ⟨y66, g63, e65, rfl, rfl⟩
                      · refine m_ca (q := (190, .invokevirtual 80, 3, 44, 1)) (a := 44) (vs := [.ref 4, .int v60]) (st := []) (d1 := 0) (by decide +kernel) rfl rfl rfl rfl (by decide) (Fr44 e65) ?_
                        show m_Run X _ _ 49 193 [(0, .ref 4), (1, .int x1), (2, .int x2)] [] (hO R g63) _ _
                        refine m_go (L := [(193, .goto 153, 3, 0, 0)]) (pc1 := 346) (lv1 := [(0, .ref 4), (1, .int x1), (2, .int x2)]) (st1 := []) (h1 := hO R g63) (by decide +kernel) rfl ?_
                        cases h
                        exact m_rv (by decide +kernel)
                      · exact m_cx (q := (190, .invokevirtual 80, 3, 44, 1)) (a := 44) (vs := [.ref 4, .int v60]) (st := []) (d1 := 0) (by decide +kernel) (by decide +kernel) rfl rfl rfl rfl (by decide) (Fr44 e65)
                    · exact m_cx (q := (187, .invokevirtual 83, 3, 50, 1)) (a := 50) (vs := [.ref 4, .int x2]) (st := [.ref 4]) (d1 := 0) (by decide +kernel) (by decide +kernel) rfl rfl rfl rfl (by decide) (Fr50 e61)
                  · rw [if_neg c58] at h
                    by_cases c67 : x1 = 37
                    · rw [if_pos c67] at h
                      refine m_go1 (q := (1, .tableswitch 340 3 42 #[175, 340, 340, 340, 340, 340, 340, 340, 340, 340, 340, 340, 340, 340, 340, 340, 340, 340, 340, 219, 322, 331, 340, 340, 250, 232, 340, 340, 340, 265, 284, 340, 340, 183, 207, 257, 195, 307, 299, 276], 175, 0, 0)) (pc1 := 208) (lv1 := [(0, .ref 4), (1, .int x1), (2, .int x2)]) (st1 := []) (h1 := hO R g) (by decide +kernel) (m_swx (fun z => m_loc m_ft X (.tableswitch 340 3 42 #[175, 340, 340, 340, 340, 340, 340, 340, 340, 340, 340, 340, 340, 340, 340, 340, 340, 340, 340, 219, 322, 331, 340, 340, 250, 232, 340, 340, 340, 265, 284, 340, 340, 183, 207, 257, 195, 307, 299, 276]) 0 0 1 [(0, .ref 4), (1, .int x1), (2, .int x2)] (.int z :: []) (hO R g)) c67 rfl) ?_
                      refine m_go (L := [(208, .aload_n 0, 1, 0, 0), (209, .aload_n 0, 1, 0, 0)]) (pc1 := 210) (lv1 := [(0, .ref 4), (1, .int x1), (2, .int x2)]) (st1 := [.ref 4, .ref 4]) (h1 := hO R g) (by decide +kernel) rfl ?_
                      rcases m_ci_inv h with ⟨v69, g68, e70, h⟩ | ⟨y71, g68, e70, rfl, rfl⟩
                      · refine m_ca (q := (210, .invokevirtual 86, 3, 46, 0)) (a := 46) (vs := [.ref 4]) (st := [.ref 4]) (d1 := 0) (by decide +kernel) rfl rfl rfl rfl (by decide) (Fr46 e70) ?_
                        show m_Run X _ _ 49 213 [(0, .ref 4), (1, .int x1), (2, .int x2)] [.int v69, .ref 4] (hO R g68) _ _
                        refine m_go (L := [(213, .ineg, 1, 0, 0)]) (pc1 := 214) (lv1 := [(0, .ref 4), (1, .int x1), (2, .int x2)]) (st1 := [.int (-v69), .ref 4]) (h1 := hO R g68) (by decide +kernel) rfl ?_
                        rcases m_cv_inv h with ⟨g72, e74, h⟩ | ⟨y75, g72, e74, rfl, rfl⟩
                        · refine m_ca (q := (214, .invokevirtual 80, 3, 44, 1)) (a := 44) (vs := [.ref 4, .int (-v69)]) (st := []) (d1 := 0) (by decide +kernel) rfl rfl rfl rfl (by decide) (Fr44 e74) ?_
                          show m_Run X _ _ 49 217 [(0, .ref 4), (1, .int x1), (2, .int x2)] [] (hO R g72) _ _
                          refine m_go (L := [(217, .goto 129, 3, 0, 0)]) (pc1 := 346) (lv1 := [(0, .ref 4), (1, .int x1), (2, .int x2)]) (st1 := []) (h1 := hO R g72) (by decide +kernel) rfl ?_
                          cases h
                          exact m_rv (by decide +kernel)
                        · exact m_cx (q := (214, .invokevirtual 80, 3, 44, 1)) (a := 44) (vs := [.ref 4, .int (-v69)]) (st := []) (d1 := 0) (by decide +kernel) (by decide +kernel) rfl rfl rfl rfl (by decide) (Fr44 e74)
                      · exact m_cx (q := (210, .invokevirtual 86, 3, 46, 0)) (a := 46) (vs := [.ref 4]) (st := [.ref 4]) (d1 := 0) (by decide +kernel) (by decide +kernel) rfl rfl rfl rfl (by decide) (Fr46 e70)
                    · rw [if_neg c67] at h
                      by_cases c76 : x1 = 38
                      · rw [if_pos c76] at h
                        refine m_go1 (q := (1, .tableswitch 340 3 42 #[175, 340, 340, 340, 340, 340, 340, 340, 340, 340, 340, 340, 340, 340, 340, 340, 340, 340, 340, 219, 322, 331, 340, 340, 250, 232, 340, 340, 340, 265, 284, 340, 340, 183, 207, 257, 195, 307, 299, 276], 175, 0, 0)) (pc1 := 258) (lv1 := [(0, .ref 4), (1, .int x1), (2, .int x2)]) (st1 := []) (h1 := hO R g) (by decide +kernel) (m_swx (fun z => m_loc m_ft X (.tableswitch 340 3 42 #[175, 340, 340, 340, 340, 340, 340, 340, 340, 340, 340, 340, 340, 340, 340, 340, 340, 340, 340, 219, 322, 331, 340, 340, 250, 232, 340, 340, 340, 265, 284, 340, 340, 183, 207, 257, 195, 307, 299, 276]) 0 0 1 [(0, .ref 4), (1, .int x1), (2, .int x2)] (.int z :: []) (hO R g)) c76 rfl) ?_
                        refine m_go (L := [(258, .aload_n 0, 1, 0, 0), (259, .iload_n 2, 1, 0, 0)]) (pc1 := 260) (lv1 := [(0, .ref 4), (1, .int x1), (2, .int x2)]) (st1 := [.int x2, .ref 4]) (h1 := hO R g) (by decide +kernel) rfl ?_
                        rcases m_cv_inv h with ⟨g77, e79, h⟩ | ⟨y80, g77, e79, rfl, rfl⟩
                        · refine m_ca (q := (260, .invokevirtual 62, 3, 45, 1)) (a := 45) (vs := [.ref 4, .int x2]) (st := []) (d1 := 2) (by decide +kernel) rfl rfl rfl rfl (by decide) (Fr45 e79) ?_
                          show m_Run X _ _ 49 263 [(0, .ref 4), (1, .int x1), (2, .int x2)] [] (hO R g77) _ _
                          refine m_go (L := [(263, .goto 83, 3, 0, 0)]) (pc1 := 346) (lv1 := [(0, .ref 4), (1, .int x1), (2, .int x2)]) (st1 := []) (h1 := hO R g77) (by decide +kernel) rfl ?_
                          cases h
                          exact m_rv (by decide +kernel)
                        · exact m_cx (q := (260, .invokevirtual 62, 3, 45, 1)) (a := 45) (vs := [.ref 4, .int x2]) (st := []) (d1 := 2) (by decide +kernel) (by decide +kernel) rfl rfl rfl rfl (by decide) (Fr45 e79)
                      · rw [if_neg c76] at h
                        by_cases c81 : x1 = 39
                        · rw [if_pos c81] at h
                          refine m_go1 (q := (1, .tableswitch 340 3 42 #[175, 340, 340, 340, 340, 340, 340, 340, 340, 340, 340, 340, 340, 340, 340, 340, 340, 340, 340, 219, 322, 331, 340, 340, 250, 232, 340, 340, 340, 265, 284, 340, 340, 183, 207, 257, 195, 307, 299, 276], 175, 0, 0)) (pc1 := 196) (lv1 := [(0, .ref 4), (1, .int x1), (2, .int x2)]) (st1 := []) (h1 := hO R g) (by decide +kernel) (m_swx (fun z => m_loc m_ft X (.tableswitch 340 3 42 #[175, 340, 340, 340, 340, 340, 340, 340, 340, 340, 340, 340, 340, 340, 340, 340, 340, 340, 340, 219, 322, 331, 340, 340, 250, 232, 340, 340, 340, 265, 284, 340, 340, 183, 207, 257, 195, 307, 299, 276]) 0 0 1 [(0, .ref 4), (1, .int x1), (2, .int x2)] (.int z :: []) (hO R g)) c81 rfl) ?_
                          refine m_go (L := [(196, .aload_n 0, 1, 0, 0), (197, .iload_n 2, 1, 0, 0), (198, .aload_n 0, 1, 0, 0)]) (pc1 := 199) (lv1 := [(0, .ref 4), (1, .int x1), (2, .int x2)]) (st1 := [.ref 4, .int x2, .ref 4]) (h1 := hO R g) (by decide +kernel) rfl ?_
                          rcases m_ci_inv h with ⟨v83, g82, e84, h⟩ | ⟨y85, g82, e84, rfl, rfl⟩
                          · refine m_ca (q := (199, .invokevirtual 86, 3, 46, 0)) (a := 46) (vs := [.ref 4]) (st := [.int x2, .ref 4]) (d1 := 0) (by decide +kernel) rfl rfl rfl rfl (by decide) (Fr46 e84) ?_
                            show m_Run X _ _ 49 202 [(0, .ref 4), (1, .int x1), (2, .int x2)] [.int v83, .int x2, .ref 4] (hO R g82) _ _
                            rcases m_cv_inv h with ⟨g86, e88, h⟩ | ⟨y89, g86, e88, rfl, rfl⟩
                            · refine m_ca (q := (202, .invokevirtual 90, 3, 47, 2)) (a := 47) (vs := [.ref 4, .int x2, .int v83]) (st := []) (d1 := 0) (by decide +kernel) rfl rfl rfl rfl (by decide) (Fr47 e88) ?_
                              show m_Run X _ _ 49 205 [(0, .ref 4), (1, .int x1), (2, .int x2)] [] (hO R g86) _ _
                              refine m_go (L := [(205, .goto 141, 3, 0, 0)]) (pc1 := 346) (lv1 := [(0, .ref 4), (1, .int x1), (2, .int x2)]) (st1 := []) (h1 := hO R g86) (by decide +kernel) rfl ?_
                              cases h
                              exact m_rv (by decide +kernel)
                            · exact m_cx (q := (202, .invokevirtual 90, 3, 47, 2)) (a := 47) (vs := [.ref 4, .int x2, .int v83]) (st := []) (d1 := 0) (by decide +kernel) (by decide +kernel) rfl rfl rfl rfl (by decide) (Fr47 e88)
                          · exact m_cx (q := (199, .invokevirtual 86, 3, 46, 0)) (a := 46) (vs := [.ref 4]) (st := [.int x2, .ref 4]) (d1 := 0) (by decide +kernel) (by decide +kernel) rfl rfl rfl rfl (by decide) (Fr46 e84)
                        · rw [if_neg c81] at h
                          by_cases c90 : x1 = 40
                          · rw [if_pos c90] at h
                            refine m_go1 (q := (1, .tableswitch 340 3 42 #[175, 340, 340, 340, 340, 340, 340, 340, 340, 340, 340, 340, 340, 340, 340, 340, 340, 340, 340, 219, 322, 331, 340, 340, 250, 232, 340, 340, 340, 265, 284, 340, 340, 183, 207, 257, 195, 307, 299, 276], 175, 0, 0)) (pc1 := 308) (lv1 := [(0, .ref 4), (1, .int x1), (2, .int x2)]) (st1 := []) (h1 := hO R g) (by decide +kernel) (m_swx (fun z => m_loc m_ft X (.tableswitch 340 3 42 #[175, 340, 340, 340, 340, 340, 340, 340, 340, 340, 340, 340, 340, 340, 340, 340, 340, 340, 340, 219, 322, 331, 340, 340, 250, 232, 340, 340, 340, 265, 284, 340, 340, 183, 207, 257, 195, 307, 299, 276]) 0 0 1 [(0, .ref 4), (1, .int x1), (2, .int x2)] (.int z :: []) (hO R g)) c90 rfl) ?_
                            refine m_go (L := [(308, .aload_n 0, 1, 0, 0)]) (pc1 := 309) (lv1 := [(0, .ref 4), (1, .int x1), (2, .int x2)]) (st1 := [.ref 4]) (h1 := hO R g) (by decide +kernel) rfl ?_
                            rcases m_ci_inv h with ⟨v92, g91, e93, h⟩ | ⟨y94, g91, e93, rfl, rfl⟩
                            · refine m_ca (q := (309, .invokevirtual 86, 3, 46, 0)) (a := 46) (vs := [.ref 4]) (st := []) (d1 := 0) (by decide +kernel) rfl rfl rfl rfl (by decide) (Fr46 e93) ?_
                              show m_Run X _ _ 49 312 [(0, .ref 4), (1, .int x1), (2, .int x2)] [.int v92] (hO R g91) _ _
                              refine m_gob (c := ¬ v92 = 0) (t := 346) (f := 315) (L := [(312, .ifCond .ne 34, 3, 0, 0)]) (lv1 := [(0, .ref 4), (1, .int x1), (2, .int x2)]) (st1 := []) (h1 := hO R g91) (by decide +kernel) rfl (fun c95 => ?_) (fun c95 => ?_)
                              · rw [if_pos c95] at h
                                cases h
                                exact m_rv (by decide +kernel)
                              · rw [if_neg c95] at h
                                refine m_go (L := [(315, .aload_n 0, 1, 0, 0), (316, .iload_n 2, 1, 0, 0), (317, .putfield 42, 3, 2, 7), (320, .goto 26, 3, 0, 0)]) (pc1 := 346) (lv1 := [(0, .ref 4), (1, .int x1), (2, .int x2)]) (st1 := []) (h1 := hO R (gI g91 16 x2)) (by decide +kernel) rfl ?_
                                cases h
                                exact m_rv (by decide +kernel)
                            · exact m_cx (q := (309, .invokevirtual 86, 3, 46, 0)) (a := 46) (vs := [.ref 4]) (st := []) (d1 := 0) (by decide +kernel) (by decide +kernel) rfl rfl rfl rfl (by decide) (Fr46 e93)
                          · rw [if_neg c90] at h
                            by_cases c96 : x1 = 41
                            · rw [if_pos c96] at h
                              refine m_go1 (q := (1, .tableswitch 340 3 42 #[175, 340, 340, 340, 340, 340, 340, 340, 340, 340, 340, 340, 340, 340, 340, 340, 340, 340, 340, 219, 322, 331, 340, 340, 250, 232, 340, 340, 340, 265, 284, 340, 340, 183, 207, 257, 195, 307, 299, 276], 175, 0, 0)) (pc1 := 300) (lv1 := [(0, .ref 4), (1, .int x1), (2, .int x2)]) (st1 := []) (h1 := hO R g) (by decide +kernel) (m_swx (fun z => m_loc m_ft X (.tableswitch 340 3 42 #[175, 340, 340, 340, 340, 340, 340, 340, 340, 340, 340, 340, 340, 340, 340, 340, 340, 340, 340, 219, 322, 331, 340, 340, 250, 232, 340, 340, 340, 265, 284, 340, 340, 183, 207, 257, 195, 307, 299, 276]) 0 0 1 [(0, .ref 4), (1, .int x1), (2, .int x2)] (.int z :: []) (hO R g)) c96 rfl) ?_
                              refine m_go (L := [(300, .aload_n 0, 1, 0, 0), (301, .iload_n 2, 1, 0, 0), (302, .putfield 42, 3, 2, 7), (305, .goto 41, 3, 0, 0)]) (pc1 := 346) (lv1 := [(0, .ref 4), (1, .int x1), (2, .int x2)]) (st1 := []) (h1 := hO R (gI g 16 x2)) (by decide +kernel) rfl ?_
                              cases h
                              exact m_rv (by decide +kernel)
                            · rw [if_neg c96] at h
                              by_cases c97 : x1 = 42
                              · rw [if_pos c97] at h
                                refine m_go1 (q := (1, .tableswitch 340 3 42 #[175, 340, 340, 340, 340, 340, 340, 340, 340, 340, 340, 340, 340, 340, 340, 340, 340, 340, 340, 219, 322, 331, 340, 340, 250, 232, 340, 340, 340, 265, 284, 340, 340, 183, 207, 257, 195, 307, 299, 276], 175, 0, 0)) (pc1 := 277) (lv1 := [(0, .ref 4), (1, .int x1), (2, .int x2)]) (st1 := []) (h1 := hO R g) (by decide +kernel) (m_swx (fun z => m_loc m_ft X (.tableswitch 340 3 42 #[175, 340, 340, 340, 340, 340, 340, 340, 340, 340, 340, 340, 340, 340, 340, 340, 340, 340, 340, 219, 322, 331, 340, 340, 250, 232, 340, 340, 340, 265, 284, 340, 340, 183, 207, 257, 195, 307, 299, 276]) 0 0 1 [(0, .ref 4), (1, .int x1), (2, .int x2)] (.int z :: []) (hO R g)) c97 rfl) ?_
                                refine m_go (L := [(277, .aload_n 0, 1, 0, 0), (278, .iconst 0, 1, 0, 0)]) (pc1 := 279) (lv1 := [(0, .ref 4), (1, .int x1), (2, .int x2)]) (st1 := [.int (0 : Int32), .ref 4]) (h1 := hO R g) (by decide +kernel) rfl ?_
                                rcases m_cv_inv h with ⟨g98, e100, h⟩ | ⟨y101, g98, e100, rfl, rfl⟩
                                · refine m_ca (q := (279, .invokevirtual 99, 3, 52, 1)) (a := 52) (vs := [.ref 4, .int (0 : Int32)]) (st := []) (d1 := 1) (by decide +kernel) rfl rfl rfl rfl (by decide) (Fr52 e100) ?_
                                  show m_Run X _ _ 49 282 [(0, .ref 4), (1, .int x1), (2, .int x2)] [] (hO R g98) _ _
                                  refine m_go (L := [(282, .goto 64, 3, 0, 0)]) (pc1 := 346) (lv1 := [(0, .ref 4), (1, .int x1), (2, .int x2)]) (st1 := []) (h1 := hO R g98) (by decide +kernel) rfl ?_
                                  cases h
                                  exact m_rv (by decide +kernel)
                                · exact m_cx (q := (279, .invokevirtual 99, 3, 52, 1)) (a := 52) (vs := [.ref 4, .int (0 : Int32)]) (st := []) (d1 := 1) (by decide +kernel) (by decide +kernel) rfl rfl rfl rfl (by decide) (Fr52 e100)
                              · rw [if_neg c97] at h
                                have hx : m_loc m_ft X (.tableswitch 340 3 42 #[175, 340, 340, 340, 340, 340, 340, 340, 340, 340, 340, 340, 340, 340, 340, 340, 340, 340, 340, 219, 322, 331, 340, 340, 250, 232, 340, 340, 340, 265, 284, 340, 340, 183, 207, 257, 195, 307, 299, 276]) 0 0 1 [(0, .ref 4), (1, .int x1), (2, .int x2)] ([.int x1]) (hO R g) = some (341, [(0, .ref 4), (1, .int x1), (2, .int x2)], [], hO R g) := by
                                  by_cases hz : Int32.toInt x1 < 3 ∨ 42 < Int32.toInt x1
                                  · exact if_pos hz
                                  · have z0 := m_ne (k := 3) (z := 3) (by decide) c1; have z1 := m_ne (k := 22) (z := 22) (by decide) c6; have z2 := m_ne (k := 23) (z := 23) (by decide) c15; have z3 := m_ne (k := 24) (z := 24) (by decide) c20; have z4 := m_ne (k := 27) (z := 27) (by decide) c25; have z5 := m_ne (k := 28) (z := 28) (by decide) c30; have z6 := m_ne (k := 32) (z := 32) (by decide) c43; have z7 := m_ne (k := 33) (z := 33) (by decide) c52; have z8 := m_ne (k := 36) (z := 36) (by decide) c58; have z9 := m_ne (k := 37) (z := 37) (by decide) c67; have z10 := m_ne (k := 38) (z := 38) (by decide) c76; have z11 := m_ne (k := 39) (z := 39) (by decide) c81; have z12 := m_ne (k := 40) (z := 40) (by decide) c90; have z13 := m_ne (k := 41) (z := 41) (by decide) c96; have z14 := m_ne (k := 42) (z := 42) (by decide) c97; have hw : x1 = 4 ∨ x1 = 5 ∨ x1 = 6 ∨ x1 = 7 ∨ x1 = 8 ∨ x1 = 9 ∨ x1 = 10 ∨ x1 = 11 ∨ x1 = 12 ∨ x1 = 13 ∨ x1 = 14 ∨ x1 = 15 ∨ x1 = 16 ∨ x1 = 17 ∨ x1 = 18 ∨ x1 = 19 ∨ x1 = 20 ∨ x1 = 21 ∨ x1 = 25 ∨ x1 = 26 ∨ x1 = 29 ∨ x1 = 30 ∨ x1 = 31 ∨ x1 = 34 ∨ x1 = 35 := by
                                      have hv : Int32.toInt x1 = 4 ∨ Int32.toInt x1 = 5 ∨ Int32.toInt x1 = 6 ∨ Int32.toInt x1 = 7 ∨ Int32.toInt x1 = 8 ∨ Int32.toInt x1 = 9 ∨ Int32.toInt x1 = 10 ∨ Int32.toInt x1 = 11 ∨ Int32.toInt x1 = 12 ∨ Int32.toInt x1 = 13 ∨ Int32.toInt x1 = 14 ∨ Int32.toInt x1 = 15 ∨ Int32.toInt x1 = 16 ∨ Int32.toInt x1 = 17 ∨ Int32.toInt x1 = 18 ∨ Int32.toInt x1 = 19 ∨ Int32.toInt x1 = 20 ∨ Int32.toInt x1 = 21 ∨ Int32.toInt x1 = 25 ∨ Int32.toInt x1 = 26 ∨ Int32.toInt x1 = 29 ∨ Int32.toInt x1 = 30 ∨ Int32.toInt x1 = 31 ∨ Int32.toInt x1 = 34 ∨ Int32.toInt x1 = 35 := by omega
                                      rcases hv with hv | hv | hv | hv | hv | hv | hv | hv | hv | hv | hv | hv | hv | hv | hv | hv | hv | hv | hv | hv | hv | hv | hv | hv | hv
                                      · exact Or.inl (Int32.toInt_inj.mp hv)
                                      · exact Or.inr (Or.inl (Int32.toInt_inj.mp hv))
                                      · exact Or.inr (Or.inr (Or.inl (Int32.toInt_inj.mp hv)))
                                      · exact Or.inr (Or.inr (Or.inr (Or.inl (Int32.toInt_inj.mp hv))))
                                      · exact Or.inr (Or.inr (Or.inr (Or.inr (Or.inl (Int32.toInt_inj.mp hv)))))
                                      · exact Or.inr (Or.inr (Or.inr (Or.inr (Or.inr (Or.inl (Int32.toInt_inj.mp hv))))))
                                      · exact Or.inr (Or.inr (Or.inr (Or.inr (Or.inr (Or.inr (Or.inl (Int32.toInt_inj.mp hv)))))))
                                      · exact Or.inr (Or.inr (Or.inr (Or.inr (Or.inr (Or.inr (Or.inr (Or.inl (Int32.toInt_inj.mp hv))))))))
                                      · exact Or.inr (Or.inr (Or.inr (Or.inr (Or.inr (Or.inr (Or.inr (Or.inr (Or.inl (Int32.toInt_inj.mp hv)))))))))
                                      · exact Or.inr (Or.inr (Or.inr (Or.inr (Or.inr (Or.inr (Or.inr (Or.inr (Or.inr (Or.inl (Int32.toInt_inj.mp hv))))))))))
                                      · exact Or.inr (Or.inr (Or.inr (Or.inr (Or.inr (Or.inr (Or.inr (Or.inr (Or.inr (Or.inr (Or.inl (Int32.toInt_inj.mp hv)))))))))))
                                      · exact Or.inr (Or.inr (Or.inr (Or.inr (Or.inr (Or.inr (Or.inr (Or.inr (Or.inr (Or.inr (Or.inr (Or.inl (Int32.toInt_inj.mp hv))))))))))))
                                      · exact Or.inr (Or.inr (Or.inr (Or.inr (Or.inr (Or.inr (Or.inr (Or.inr (Or.inr (Or.inr (Or.inr (Or.inr (Or.inl (Int32.toInt_inj.mp hv)))))))))))))
                                      · exact Or.inr (Or.inr (Or.inr (Or.inr (Or.inr (Or.inr (Or.inr (Or.inr (Or.inr (Or.inr (Or.inr (Or.inr (Or.inr (Or.inl (Int32.toInt_inj.mp hv))))))))))))))
                                      · exact Or.inr (Or.inr (Or.inr (Or.inr (Or.inr (Or.inr (Or.inr (Or.inr (Or.inr (Or.inr (Or.inr (Or.inr (Or.inr (Or.inr (Or.inl (Int32.toInt_inj.mp hv)))))))))))))))
                                      · exact Or.inr (Or.inr (Or.inr (Or.inr (Or.inr (Or.inr (Or.inr (Or.inr (Or.inr (Or.inr (Or.inr (Or.inr (Or.inr (Or.inr (Or.inr (Or.inl (Int32.toInt_inj.mp hv))))))))))))))))
                                      · exact Or.inr (Or.inr (Or.inr (Or.inr (Or.inr (Or.inr (Or.inr (Or.inr (Or.inr (Or.inr (Or.inr (Or.inr (Or.inr (Or.inr (Or.inr (Or.inr (Or.inl (Int32.toInt_inj.mp hv)))))))))))))))))
                                      · exact Or.inr (Or.inr (Or.inr (Or.inr (Or.inr (Or.inr (Or.inr (Or.inr (Or.inr (Or.inr (Or.inr (Or.inr (Or.inr (Or.inr (Or.inr (Or.inr (Or.inr (Or.inl (Int32.toInt_inj.mp hv))))))))))))))))))
                                      · exact Or.inr (Or.inr (Or.inr (Or.inr (Or.inr (Or.inr (Or.inr (Or.inr (Or.inr (Or.inr (Or.inr (Or.inr (Or.inr (Or.inr (Or.inr (Or.inr (Or.inr (Or.inr (Or.inl (Int32.toInt_inj.mp hv)))))))))))))))))))
                                      · exact Or.inr (Or.inr (Or.inr (Or.inr (Or.inr (Or.inr (Or.inr (Or.inr (Or.inr (Or.inr (Or.inr (Or.inr (Or.inr (Or.inr (Or.inr (Or.inr (Or.inr (Or.inr (Or.inr (Or.inl (Int32.toInt_inj.mp hv))))))))))))))))))))
                                      · exact Or.inr (Or.inr (Or.inr (Or.inr (Or.inr (Or.inr (Or.inr (Or.inr (Or.inr (Or.inr (Or.inr (Or.inr (Or.inr (Or.inr (Or.inr (Or.inr (Or.inr (Or.inr (Or.inr (Or.inr (Or.inl (Int32.toInt_inj.mp hv)))))))))))))))))))))
                                      · exact Or.inr (Or.inr (Or.inr (Or.inr (Or.inr (Or.inr (Or.inr (Or.inr (Or.inr (Or.inr (Or.inr (Or.inr (Or.inr (Or.inr (Or.inr (Or.inr (Or.inr (Or.inr (Or.inr (Or.inr (Or.inr (Or.inl (Int32.toInt_inj.mp hv))))))))))))))))))))))
                                      · exact Or.inr (Or.inr (Or.inr (Or.inr (Or.inr (Or.inr (Or.inr (Or.inr (Or.inr (Or.inr (Or.inr (Or.inr (Or.inr (Or.inr (Or.inr (Or.inr (Or.inr (Or.inr (Or.inr (Or.inr (Or.inr (Or.inr (Or.inl (Int32.toInt_inj.mp hv)))))))))))))))))))))))
                                      · exact Or.inr (Or.inr (Or.inr (Or.inr (Or.inr (Or.inr (Or.inr (Or.inr (Or.inr (Or.inr (Or.inr (Or.inr (Or.inr (Or.inr (Or.inr (Or.inr (Or.inr (Or.inr (Or.inr (Or.inr (Or.inr (Or.inr (Or.inr (Or.inl (Int32.toInt_inj.mp hv))))))))))))))))))))))))
                                      · exact Or.inr (Or.inr (Or.inr (Or.inr (Or.inr (Or.inr (Or.inr (Or.inr (Or.inr (Or.inr (Or.inr (Or.inr (Or.inr (Or.inr (Or.inr (Or.inr (Or.inr (Or.inr (Or.inr (Or.inr (Or.inr (Or.inr (Or.inr (Or.inr (Int32.toInt_inj.mp hv))))))))))))))))))))))))
                                    rcases hw with hw | hw | hw | hw | hw | hw | hw | hw | hw | hw | hw | hw | hw | hw | hw | hw | hw | hw | hw | hw | hw | hw | hw | hw | hw
                                    · exact m_swx (fun z => m_loc m_ft X (.tableswitch 340 3 42 #[175, 340, 340, 340, 340, 340, 340, 340, 340, 340, 340, 340, 340, 340, 340, 340, 340, 340, 340, 219, 322, 331, 340, 340, 250, 232, 340, 340, 340, 265, 284, 340, 340, 183, 207, 257, 195, 307, 299, 276]) 0 0 1 [(0, .ref 4), (1, .int x1), (2, .int x2)] (.int z :: []) (hO R g)) hw rfl
                                    · exact m_swx (fun z => m_loc m_ft X (.tableswitch 340 3 42 #[175, 340, 340, 340, 340, 340, 340, 340, 340, 340, 340, 340, 340, 340, 340, 340, 340, 340, 340, 219, 322, 331, 340, 340, 250, 232, 340, 340, 340, 265, 284, 340, 340, 183, 207, 257, 195, 307, 299, 276]) 0 0 1 [(0, .ref 4), (1, .int x1), (2, .int x2)] (.int z :: []) (hO R g)) hw rfl
                                    · exact m_swx (fun z => m_loc m_ft X (.tableswitch 340 3 42 #[175, 340, 340, 340, 340, 340, 340, 340, 340, 340, 340, 340, 340, 340, 340, 340, 340, 340, 340, 219, 322, 331, 340, 340, 250, 232, 340, 340, 340, 265, 284, 340, 340, 183, 207, 257, 195, 307, 299, 276]) 0 0 1 [(0, .ref 4), (1, .int x1), (2, .int x2)] (.int z :: []) (hO R g)) hw rfl
                                    · exact m_swx (fun z => m_loc m_ft X (.tableswitch 340 3 42 #[175, 340, 340, 340, 340, 340, 340, 340, 340, 340, 340, 340, 340, 340, 340, 340, 340, 340, 340, 219, 322, 331, 340, 340, 250, 232, 340, 340, 340, 265, 284, 340, 340, 183, 207, 257, 195, 307, 299, 276]) 0 0 1 [(0, .ref 4), (1, .int x1), (2, .int x2)] (.int z :: []) (hO R g)) hw rfl
                                    · exact m_swx (fun z => m_loc m_ft X (.tableswitch 340 3 42 #[175, 340, 340, 340, 340, 340, 340, 340, 340, 340, 340, 340, 340, 340, 340, 340, 340, 340, 340, 219, 322, 331, 340, 340, 250, 232, 340, 340, 340, 265, 284, 340, 340, 183, 207, 257, 195, 307, 299, 276]) 0 0 1 [(0, .ref 4), (1, .int x1), (2, .int x2)] (.int z :: []) (hO R g)) hw rfl
                                    · exact m_swx (fun z => m_loc m_ft X (.tableswitch 340 3 42 #[175, 340, 340, 340, 340, 340, 340, 340, 340, 340, 340, 340, 340, 340, 340, 340, 340, 340, 340, 219, 322, 331, 340, 340, 250, 232, 340, 340, 340, 265, 284, 340, 340, 183, 207, 257, 195, 307, 299, 276]) 0 0 1 [(0, .ref 4), (1, .int x1), (2, .int x2)] (.int z :: []) (hO R g)) hw rfl
                                    · exact m_swx (fun z => m_loc m_ft X (.tableswitch 340 3 42 #[175, 340, 340, 340, 340, 340, 340, 340, 340, 340, 340, 340, 340, 340, 340, 340, 340, 340, 340, 219, 322, 331, 340, 340, 250, 232, 340, 340, 340, 265, 284, 340, 340, 183, 207, 257, 195, 307, 299, 276]) 0 0 1 [(0, .ref 4), (1, .int x1), (2, .int x2)] (.int z :: []) (hO R g)) hw rfl
                                    · exact m_swx (fun z => m_loc m_ft X (.tableswitch 340 3 42 #[175, 340, 340, 340, 340, 340, 340, 340, 340, 340, 340, 340, 340, 340, 340, 340, 340, 340, 340, 219, 322, 331, 340, 340, 250, 232, 340, 340, 340, 265, 284, 340, 340, 183, 207, 257, 195, 307, 299, 276]) 0 0 1 [(0, .ref 4), (1, .int x1), (2, .int x2)] (.int z :: []) (hO R g)) hw rfl
                                    · exact m_swx (fun z => m_loc m_ft X (.tableswitch 340 3 42 #[175, 340, 340, 340, 340, 340, 340, 340, 340, 340, 340, 340, 340, 340, 340, 340, 340, 340, 340, 219, 322, 331, 340, 340, 250, 232, 340, 340, 340, 265, 284, 340, 340, 183, 207, 257, 195, 307, 299, 276]) 0 0 1 [(0, .ref 4), (1, .int x1), (2, .int x2)] (.int z :: []) (hO R g)) hw rfl
                                    · exact m_swx (fun z => m_loc m_ft X (.tableswitch 340 3 42 #[175, 340, 340, 340, 340, 340, 340, 340, 340, 340, 340, 340, 340, 340, 340, 340, 340, 340, 340, 219, 322, 331, 340, 340, 250, 232, 340, 340, 340, 265, 284, 340, 340, 183, 207, 257, 195, 307, 299, 276]) 0 0 1 [(0, .ref 4), (1, .int x1), (2, .int x2)] (.int z :: []) (hO R g)) hw rfl
                                    · exact m_swx (fun z => m_loc m_ft X (.tableswitch 340 3 42 #[175, 340, 340, 340, 340, 340, 340, 340, 340, 340, 340, 340, 340, 340, 340, 340, 340, 340, 340, 219, 322, 331, 340, 340, 250, 232, 340, 340, 340, 265, 284, 340, 340, 183, 207, 257, 195, 307, 299, 276]) 0 0 1 [(0, .ref 4), (1, .int x1), (2, .int x2)] (.int z :: []) (hO R g)) hw rfl
                                    · exact m_swx (fun z => m_loc m_ft X (.tableswitch 340 3 42 #[175, 340, 340, 340, 340, 340, 340, 340, 340, 340, 340, 340, 340, 340, 340, 340, 340, 340, 340, 219, 322, 331, 340, 340, 250, 232, 340, 340, 340, 265, 284, 340, 340, 183, 207, 257, 195, 307, 299, 276]) 0 0 1 [(0, .ref 4), (1, .int x1), (2, .int x2)] (.int z :: []) (hO R g)) hw rfl
                                    · exact m_swx (fun z => m_loc m_ft X (.tableswitch 340 3 42 #[175, 340, 340, 340, 340, 340, 340, 340, 340, 340, 340, 340, 340, 340, 340, 340, 340, 340, 340, 219, 322, 331, 340, 340, 250, 232, 340, 340, 340, 265, 284, 340, 340, 183, 207, 257, 195, 307, 299, 276]) 0 0 1 [(0, .ref 4), (1, .int x1), (2, .int x2)] (.int z :: []) (hO R g)) hw rfl
                                    · exact m_swx (fun z => m_loc m_ft X (.tableswitch 340 3 42 #[175, 340, 340, 340, 340, 340, 340, 340, 340, 340, 340, 340, 340, 340, 340, 340, 340, 340, 340, 219, 322, 331, 340, 340, 250, 232, 340, 340, 340, 265, 284, 340, 340, 183, 207, 257, 195, 307, 299, 276]) 0 0 1 [(0, .ref 4), (1, .int x1), (2, .int x2)] (.int z :: []) (hO R g)) hw rfl
                                    · exact m_swx (fun z => m_loc m_ft X (.tableswitch 340 3 42 #[175, 340, 340, 340, 340, 340, 340, 340, 340, 340, 340, 340, 340, 340, 340, 340, 340, 340, 340, 219, 322, 331, 340, 340, 250, 232, 340, 340, 340, 265, 284, 340, 340, 183, 207, 257, 195, 307, 299, 276]) 0 0 1 [(0, .ref 4), (1, .int x1), (2, .int x2)] (.int z :: []) (hO R g)) hw rfl
                                    · exact m_swx (fun z => m_loc m_ft X (.tableswitch 340 3 42 #[175, 340, 340, 340, 340, 340, 340, 340, 340, 340, 340, 340, 340, 340, 340, 340, 340, 340, 340, 219, 322, 331, 340, 340, 250, 232, 340, 340, 340, 265, 284, 340, 340, 183, 207, 257, 195, 307, 299, 276]) 0 0 1 [(0, .ref 4), (1, .int x1), (2, .int x2)] (.int z :: []) (hO R g)) hw rfl
                                    · exact m_swx (fun z => m_loc m_ft X (.tableswitch 340 3 42 #[175, 340, 340, 340, 340, 340, 340, 340, 340, 340, 340, 340, 340, 340, 340, 340, 340, 340, 340, 219, 322, 331, 340, 340, 250, 232, 340, 340, 340, 265, 284, 340, 340, 183, 207, 257, 195, 307, 299, 276]) 0 0 1 [(0, .ref 4), (1, .int x1), (2, .int x2)] (.int z :: []) (hO R g)) hw rfl
                                    · exact m_swx (fun z => m_loc m_ft X (.tableswitch 340 3 42 #[175, 340, 340, 340, 340, 340, 340, 340, 340, 340, 340, 340, 340, 340, 340, 340, 340, 340, 340, 219, 322, 331, 340, 340, 250, 232, 340, 340, 340, 265, 284, 340, 340, 183, 207, 257, 195, 307, 299, 276]) 0 0 1 [(0, .ref 4), (1, .int x1), (2, .int x2)] (.int z :: []) (hO R g)) hw rfl
                                    · exact m_swx (fun z => m_loc m_ft X (.tableswitch 340 3 42 #[175, 340, 340, 340, 340, 340, 340, 340, 340, 340, 340, 340, 340, 340, 340, 340, 340, 340, 340, 219, 322, 331, 340, 340, 250, 232, 340, 340, 340, 265, 284, 340, 340, 183, 207, 257, 195, 307, 299, 276]) 0 0 1 [(0, .ref 4), (1, .int x1), (2, .int x2)] (.int z :: []) (hO R g)) hw rfl
                                    · exact m_swx (fun z => m_loc m_ft X (.tableswitch 340 3 42 #[175, 340, 340, 340, 340, 340, 340, 340, 340, 340, 340, 340, 340, 340, 340, 340, 340, 340, 340, 219, 322, 331, 340, 340, 250, 232, 340, 340, 340, 265, 284, 340, 340, 183, 207, 257, 195, 307, 299, 276]) 0 0 1 [(0, .ref 4), (1, .int x1), (2, .int x2)] (.int z :: []) (hO R g)) hw rfl
                                    · exact m_swx (fun z => m_loc m_ft X (.tableswitch 340 3 42 #[175, 340, 340, 340, 340, 340, 340, 340, 340, 340, 340, 340, 340, 340, 340, 340, 340, 340, 340, 219, 322, 331, 340, 340, 250, 232, 340, 340, 340, 265, 284, 340, 340, 183, 207, 257, 195, 307, 299, 276]) 0 0 1 [(0, .ref 4), (1, .int x1), (2, .int x2)] (.int z :: []) (hO R g)) hw rfl
                                    · exact m_swx (fun z => m_loc m_ft X (.tableswitch 340 3 42 #[175, 340, 340, 340, 340, 340, 340, 340, 340, 340, 340, 340, 340, 340, 340, 340, 340, 340, 340, 219, 322, 331, 340, 340, 250, 232, 340, 340, 340, 265, 284, 340, 340, 183, 207, 257, 195, 307, 299, 276]) 0 0 1 [(0, .ref 4), (1, .int x1), (2, .int x2)] (.int z :: []) (hO R g)) hw rfl
                                    · exact m_swx (fun z => m_loc m_ft X (.tableswitch 340 3 42 #[175, 340, 340, 340, 340, 340, 340, 340, 340, 340, 340, 340, 340, 340, 340, 340, 340, 340, 340, 219, 322, 331, 340, 340, 250, 232, 340, 340, 340, 265, 284, 340, 340, 183, 207, 257, 195, 307, 299, 276]) 0 0 1 [(0, .ref 4), (1, .int x1), (2, .int x2)] (.int z :: []) (hO R g)) hw rfl
                                    · exact m_swx (fun z => m_loc m_ft X (.tableswitch 340 3 42 #[175, 340, 340, 340, 340, 340, 340, 340, 340, 340, 340, 340, 340, 340, 340, 340, 340, 340, 340, 219, 322, 331, 340, 340, 250, 232, 340, 340, 340, 265, 284, 340, 340, 183, 207, 257, 195, 307, 299, 276]) 0 0 1 [(0, .ref 4), (1, .int x1), (2, .int x2)] (.int z :: []) (hO R g)) hw rfl
                                    · exact m_swx (fun z => m_loc m_ft X (.tableswitch 340 3 42 #[175, 340, 340, 340, 340, 340, 340, 340, 340, 340, 340, 340, 340, 340, 340, 340, 340, 340, 340, 219, 322, 331, 340, 340, 250, 232, 340, 340, 340, 265, 284, 340, 340, 183, 207, 257, 195, 307, 299, 276]) 0 0 1 [(0, .ref 4), (1, .int x1), (2, .int x2)] (.int z :: []) (hO R g)) hw rfl
                                refine m_go1 (q := (1, .tableswitch 340 3 42 #[175, 340, 340, 340, 340, 340, 340, 340, 340, 340, 340, 340, 340, 340, 340, 340, 340, 340, 340, 219, 322, 331, 340, 340, 250, 232, 340, 340, 340, 265, 284, 340, 340, 183, 207, 257, 195, 307, 299, 276], 175, 0, 0)) (by decide +kernel) hx ?_
                                refine m_go (L := [(341, .aload_n 0, 1, 0, 0), (342, .iload_n 1, 1, 0, 0)]) (pc1 := 343) (lv1 := [(0, .ref 4), (1, .int x1), (2, .int x2)]) (st1 := [.int x1, .ref 4]) (h1 := hO R g) (by decide +kernel) rfl ?_
                                rcases m_cv_inv h with ⟨g102, e104, h⟩ | ⟨y105, g102, e104, rfl, rfl⟩
                                · refine m_ca (q := (343, .invokevirtual 105, 3, 54, 1)) (a := 54) (vs := [.ref 4, .int x1]) (st := []) (d1 := 1) (by decide +kernel) rfl rfl rfl rfl (by decide) (Fr54 e104) ?_
                                  show m_Run X _ _ 49 346 [(0, .ref 4), (1, .int x1), (2, .int x2)] [] (hO R g102) _ _
                                  cases h
                                  exact m_rv (by decide +kernel)
                                · exact m_cx (q := (343, .invokevirtual 105, 3, 54, 1)) (a := 54) (vs := [.ref 4, .int x1]) (st := []) (d1 := 1) (by decide +kernel) (by decide +kernel) rfl rfl rfl rfl (by decide) (Fr54 e104)
def f42_150 (n : Nat) (g : mG) : mZ := if ¬ (g.1 17) = (3 : Int32) then some (.inl (some (.int (g.1 17))), g) else some (.inl (some (.int (1 : Int32))), g)
theorem Fr42_150 {R : Nat} {g g' : mG} {o : mO} (h : f42_150 n g = some (o, g')) : m_Run X (4) (m_ko o) 42 150 [(0, .ref 4)] [] (hO R g) o (hO R g') := by
  unfold f42_150 at h
  refine m_gob (c := ¬ (g.1 17) = (3 : Int32)) (t := 162) (f := 158) (L := [(150, .aload_n 0, 1, 0, 0), (151, .getfield 45, 3, 2, 8), (154, .iconst 3, 1, 0, 0), (155, .if_icmp .ne 7, 3, 0, 0)]) (lv1 := [(0, .ref 4)]) (st1 := []) (h1 := hO R g) (by decide +kernel) rfl (fun c14 => ?_) (fun c14 => ?_)
  · rw [if_pos c14] at h
    refine m_go (L := [(162, .aload_n 0, 1, 0, 0), (163, .getfield 45, 3, 2, 8)]) (pc1 := 166) (lv1 := [(0, .ref 4)]) (st1 := [.int (g.1 17)]) (h1 := hO R g) (by decide +kernel) rfl ?_
    cases h
    exact m_ri (by decide +kernel)
  · rw [if_neg c14] at h
    refine m_go (L := [(158, .iconst 1, 1, 0, 0), (159, .goto 7, 3, 0, 0)]) (pc1 := 166) (lv1 := [(0, .ref 4)]) (st1 := [.int (1 : Int32)]) (h1 := hO R g) (by decide +kernel) rfl ?_
    cases h
    exact m_ri (by decide +kernel)
def f42_55 (n : Nat) : Nat → Int32 → Int32 → mG → mZ
  | 0, _, _, _ => none
  | c + 1, x2, x6, g => if (1000000 : Int32) ≤ x6 then f42_150 n g else if ¬ (g.1 17) = (3 : Int32) then f42_150 n g else m_ci (f40_5 n (g.1 16) g) (fun v17 g16 => m_ci (f41_5 n (g16.1 16) g16) (fun v21 g20 => m_ci (f48 n v17 (gI g20 16 ((g20.1 16) + (1 : Int32)))) (fun v25 g24 => if ((g20.1 18) + v25) ≤ x2 then m_cv (f49 n v17 v21 (gI g24 18 ((g20.1 18) + v25))) (fun g29 => f42_55 n c x2 (x6 + (1 : Int32)) g29) else f42_55 n c x2 (x6 + (1 : Int32)) (gI (gI g24 18 ((g20.1 18) + v25)) 17 (1 : Int32)))))
set_option maxRecDepth 20000 in
theorem Fr42_55 {R : Nat} : ∀ (c : Nat) (x2 : Int32) (x6 : Int32) (g g' : mG) (o : mO), f42_55 n c x2 x6 g = some (o, g') → m_Run X (4) (m_ko o) 42 55 [(0, .ref 4), (2, .int x2), (6, .int x6)] [] (hO R g) o (hO R g') := by
  intro c
  induction c with
  | zero => intro x2 x6 g g' o h; rw [f42_55] at h; cases h
  | succ c ih =>
    intro x2 x6 g g' o h
    rw [f42_55] at h
    refine m_gob (c := (1000000 : Int32) ≤ x6) (t := 150) (f := 62) (L := [(55, .iload 6, 2, 0, 0), (57, .ldc 66, 2, 0, 1000000), (59, .if_icmp .ge 91, 3, 0, 0)]) (lv1 := [(0, .ref 4), (2, .int x2), (6, .int x6)]) (st1 := []) (h1 := hO R g) (by decide +kernel) rfl (fun c13 => ?_) (fun c13 => ?_)
    · rw [if_pos c13] at h
      exact m_r0 _ _ _ _ _ _ _ _ _ _ (m_pick [0] rfl) (Fr42_150 h)
    · rw [if_neg c13] at h
      refine m_gob (c := ¬ (g.1 17) = (3 : Int32)) (t := 150) (f := 70) (L := [(62, .aload_n 0, 1, 0, 0), (63, .getfield 45, 3, 2, 8), (66, .iconst 3, 1, 0, 0), (67, .if_icmp .ne 83, 3, 0, 0)]) (lv1 := [(0, .ref 4), (2, .int x2), (6, .int x6)]) (st1 := []) (h1 := hO R g) (by decide +kernel) rfl (fun c15 => ?_) (fun c15 => ?_)
      · rw [if_pos c15] at h
        exact m_r0 _ _ _ _ _ _ _ _ _ _ (m_pick [0] rfl) (Fr42_150 h)
      · rw [if_neg c15] at h
        refine m_go (L := [(70, .aload_n 0, 1, 0, 0), (71, .getfield 21, 3, 2, 1), (74, .aload_n 0, 1, 0, 0), (75, .getfield 42, 3, 2, 7)]) (pc1 := 78) (lv1 := [(0, .ref 4), (2, .int x2), (6, .int x6)]) (st1 := [.int (g.1 16), .ref 5]) (h1 := hO R g) (by decide +kernel) rfl ?_
        rcases m_ci_inv h with ⟨v17, g16, e18, h⟩ | ⟨y19, g16, e18, rfl, rfl⟩
        · refine m_ca (q := (78, .invokevirtual 67, 3, 40, 1)) (a := 40) (vs := [.ref 5, .int (g.1 16)]) (st := []) (d1 := 0) (by decide +kernel) rfl rfl rfl rfl (by decide) (Fr40_5 e18) ?_
          show m_Run X _ _ 42 81 [(0, .ref 4), (2, .int x2), (6, .int x6)] [.int v17] (hO R g16) _ _
          refine m_go (L := [(81, .istore 7, 2, 0, 0), (83, .aload_n 0, 1, 0, 0), (84, .getfield 21, 3, 2, 1), (87, .aload_n 0, 1, 0, 0), (88, .getfield 42, 3, 2, 7)]) (pc1 := 91) (lv1 := [(0, .ref 4), (2, .int x2), (6, .int x6), (7, .int v17)]) (st1 := [.int (g16.1 16), .ref 5]) (h1 := hO R g16) (by decide +kernel) rfl ?_
          rcases m_ci_inv h with ⟨v21, g20, e22, h⟩ | ⟨y23, g20, e22, rfl, rfl⟩
          · refine m_ca (q := (91, .invokevirtual 70, 3, 41, 1)) (a := 41) (vs := [.ref 5, .int (g16.1 16)]) (st := []) (d1 := 0) (by decide +kernel) rfl rfl rfl rfl (by decide) (Fr41_5 e22) ?_
            show m_Run X _ _ 42 94 [(0, .ref 4), (2, .int x2), (6, .int x6), (7, .int v17)] [.int v21] (hO R g20) _ _
            refine m_go (L := [(94, .istore 8, 2, 0, 0), (96, .aload_n 0, 1, 0, 0), (97, .dup, 1, 0, 0), (98, .getfield 42, 3, 2, 7), (101, .iconst 1, 1, 0, 0), (102, .iadd, 1, 0, 0), (103, .putfield 42, 3, 2, 7), (106, .aload_n 0, 1, 0, 0), (107, .dup, 1, 0, 0), (108, .getfield 48, 3, 2, 9), (111, .iload 7, 2, 0, 0)]) (pc1 := 113) (lv1 := [(0, .ref 4), (2, .int x2), (6, .int x6), (7, .int v17), (8, .int v21)]) (st1 := [.int v17, .int (g20.1 18), .ref 4]) (h1 := hO R (gI g20 16 ((g20.1 16) + (1 : Int32)))) (by decide +kernel) rfl ?_
            rcases m_ci_inv h with ⟨v25, g24, e26, h⟩ | ⟨y27, g24, e26, rfl, rfl⟩
            · refine m_ca (q := (113, .invokestatic 73, 3, 48, 1)) (a := 48) (vs := [.int v17]) (st := [.int (g20.1 18), .ref 4]) (d1 := 0) (by decide +kernel) rfl rfl rfl rfl (by decide) (Fr48 e26) ?_
              show m_Run X _ _ 42 116 [(0, .ref 4), (2, .int x2), (6, .int x6), (7, .int v17), (8, .int v21)] [.int v25, .int (g20.1 18), .ref 4] (hO R g24) _ _
              refine m_gob (c := ((g20.1 18) + v25) ≤ x2) (t := 136) (f := 128) (L := [(116, .iadd, 1, 0, 0), (117, .putfield 48, 3, 2, 9), (120, .aload_n 0, 1, 0, 0), (121, .getfield 48, 3, 2, 9), (124, .iload_n 2, 1, 0, 0), (125, .if_icmp .le 11, 3, 0, 0)]) (lv1 := [(0, .ref 4), (2, .int x2), (6, .int x6), (7, .int v17), (8, .int v21)]) (st1 := []) (h1 := hO R (gI g24 18 ((g20.1 18) + v25))) (by decide +kernel) rfl (fun c28 => ?_) (fun c28 => ?_)
              · rw [if_pos c28] at h
                refine m_go (L := [(136, .aload_n 0, 1, 0, 0), (137, .iload 7, 2, 0, 0), (139, .iload 8, 2, 0, 0)]) (pc1 := 141) (lv1 := [(0, .ref 4), (2, .int x2), (6, .int x6), (7, .int v17), (8, .int v21)]) (st1 := [.int v21, .int v17, .ref 4]) (h1 := hO R (gI g24 18 ((g20.1 18) + v25))) (by decide +kernel) rfl ?_
                rcases m_cv_inv h with ⟨g29, e31, h⟩ | ⟨y32, g29, e31, rfl, rfl⟩
                · refine m_ca (q := (141, .invokevirtual 76, 3, 49, 2)) (a := 49) (vs := [.ref 4, .int v17, .int v21]) (st := []) (d1 := 3) (by decide +kernel) rfl rfl rfl rfl (by decide) (Fr49 e31) ?_
                  show m_Run X _ _ 42 144 [(0, .ref 4), (2, .int x2), (6, .int x6), (7, .int v17), (8, .int v21)] [] (hO R g29) _ _
                  refine m_go (L := [(144, .iinc 6 1, 3, 0, 0), (147, .goto (-92), 3, 0, 0)]) (pc1 := 55) (lv1 := [(0, .ref 4), (2, .int x2), (6, .int (x6 + (1 : Int32))), (7, .int v17), (8, .int v21)]) (st1 := []) (h1 := hO R g29) (by decide +kernel) rfl ?_
                  exact m_r0 _ _ _ _ _ _ _ _ _ _ (m_pick [0, 1, 2] rfl) (ih _ _ _ _ _ h)
                · exact m_cx (q := (141, .invokevirtual 76, 3, 49, 2)) (a := 49) (vs := [.ref 4, .int v17, .int v21]) (st := []) (d1 := 3) (by decide +kernel) (by decide +kernel) rfl rfl rfl rfl (by decide) (Fr49 e31)
              · rw [if_neg c28] at h
                refine m_go (L := [(128, .aload_n 0, 1, 0, 0), (129, .iconst 1, 1, 0, 0), (130, .putfield 45, 3, 2, 8), (133, .goto 11, 3, 0, 0), (144, .iinc 6 1, 3, 0, 0), (147, .goto (-92), 3, 0, 0)]) (pc1 := 55) (lv1 := [(0, .ref 4), (2, .int x2), (6, .int (x6 + (1 : Int32))), (7, .int v17), (8, .int v21)]) (st1 := []) (h1 := hO R (gI (gI g24 18 ((g20.1 18) + v25)) 17 (1 : Int32))) (by decide +kernel) rfl ?_
                exact m_r0 _ _ _ _ _ _ _ _ _ _ (m_pick [0, 1, 2] rfl) (ih _ _ _ _ _ h)
            · exact m_cx (q := (113, .invokestatic 73, 3, 48, 1)) (a := 48) (vs := [.int v17]) (st := [.int (g20.1 18), .ref 4]) (d1 := 0) (by decide +kernel) (by decide +kernel) rfl rfl rfl rfl (by decide) (Fr48 e26)
          · exact m_cx (q := (91, .invokevirtual 70, 3, 41, 1)) (a := 41) (vs := [.ref 5, .int (g16.1 16)]) (st := []) (d1 := 0) (by decide +kernel) (by decide +kernel) rfl rfl rfl rfl (by decide) (Fr41_5 e22)
        · exact m_cx (q := (78, .invokevirtual 67, 3, 40, 1)) (a := 40) (vs := [.ref 5, .int (g.1 16)]) (st := []) (d1 := 0) (by decide +kernel) (by decide +kernel) rfl rfl rfl rfl (by decide) (Fr40_5 e18)
def f42 (n : Nat) (x1 : Int32) (x2 : Int32) (x3 : Int32) (x4 : Int32) (x5 : Int32) (g : mG) : mZ := m_ci (f35_5 n x1 (gI (gI (gI (gI (gI (gI g 14 (0 : Int32)) 15 (0 : Int32)) 16 (0 : Int32)) 18 (0 : Int32)) 19 (0 : Int32)) 17 (3 : Int32))) (fun v2 g1 => m_cv (f43 n v2 x3 x4 x5 g1) (fun g5 => m_cv (f45 n x1 g5) (fun g9 => f42_55 n n x2 (0 : Int32) g9)))
theorem Fr42 {R : Nat} {x1 : Int32} {x2 : Int32} {x3 : Int32} {x4 : Int32} {x5 : Int32} {g g' : mG} {o : mO} (h : f42 n x1 x2 x3 x4 x5 g = some (o, g')) : m_Run X (4) (m_ko o) 42 0 [(0, .ref 4), (1, .int x1), (2, .int x2), (3, .int x3), (4, .int x4), (5, .int x5)] [] (hO R g) o (hO R g') := by
  unfold f42 at h
  refine m_go (L := [(0, .aload_n 0, 1, 0, 0), (1, .iconst 0, 1, 0, 0), (2, .putfield 29, 3, 2, 3), (5, .aload_n 0, 1, 0, 0), (6, .iconst 0, 1, 0, 0), (7, .putfield 39, 3, 2, 6), (10, .aload_n 0, 1, 0, 0), (11, .iconst 0, 1, 0, 0), (12, .putfield 42, 3, 2, 7), (15, .aload_n 0, 1, 0, 0), (16, .iconst 0, 1, 0, 0), (17, .putfield 48, 3, 2, 9), (20, .aload_n 0, 1, 0, 0), (21, .iconst 0, 1, 0, 0), (22, .putfield 51, 3, 2, 10), (25, .aload_n 0, 1, 0, 0), (26, .iconst 3, 1, 0, 0), (27, .putfield 45, 3, 2, 8), (30, .aload_n 0, 1, 0, 0), (31, .aload_n 0, 1, 0, 0), (32, .getfield 21, 3, 2, 1), (35, .iload_n 1, 1, 0, 0)]) (pc1 := 36) (lv1 := [(0, .ref 4), (1, .int x1), (2, .int x2), (3, .int x3), (4, .int x4), (5, .int x5)]) (st1 := [.int x1, .ref 5, .ref 4]) (h1 := hO R (gI (gI (gI (gI (gI (gI g 14 (0 : Int32)) 15 (0 : Int32)) 16 (0 : Int32)) 18 (0 : Int32)) 19 (0 : Int32)) 17 (3 : Int32))) (by decide +kernel) rfl ?_
  rcases m_ci_inv h with ⟨v2, g1, e3, h⟩ | ⟨y4, g1, e3, rfl, rfl⟩
  · refine m_ca (q := (36, .invokevirtual 54, 3, 35, 1)) (a := 35) (vs := [.ref 5, .int x1]) (st := [.ref 4]) (d1 := 1) (by decide +kernel) rfl rfl rfl rfl (by decide) (Fr35_5 e3) ?_
    show m_Run X _ _ 42 39 [(0, .ref 4), (1, .int x1), (2, .int x2), (3, .int x3), (4, .int x4), (5, .int x5)] [.int v2, .ref 4] (hO R g1) _ _
    refine m_go (L := [(39, .iload_n 3, 1, 0, 0), (40, .iload 4, 2, 0, 0), (42, .iload 5, 2, 0, 0)]) (pc1 := 44) (lv1 := [(0, .ref 4), (1, .int x1), (2, .int x2), (3, .int x3), (4, .int x4), (5, .int x5)]) (st1 := [.int x5, .int x4, .int x3, .int v2, .ref 4]) (h1 := hO R g1) (by decide +kernel) rfl ?_
    rcases m_cv_inv h with ⟨g5, e7, h⟩ | ⟨y8, g5, e7, rfl, rfl⟩
    · refine m_ca (q := (44, .invokevirtual 58, 3, 43, 4)) (a := 43) (vs := [.ref 4, .int v2, .int x3, .int x4, .int x5]) (st := []) (d1 := 1) (by decide +kernel) rfl rfl rfl rfl (by decide) (Fr43 e7) ?_
      show m_Run X _ _ 42 47 [(0, .ref 4), (1, .int x1), (2, .int x2), (3, .int x3), (4, .int x4), (5, .int x5)] [] (hO R g5) _ _
      refine m_go (L := [(47, .aload_n 0, 1, 0, 0), (48, .iload_n 1, 1, 0, 0)]) (pc1 := 49) (lv1 := [(0, .ref 4), (1, .int x1), (2, .int x2), (3, .int x3), (4, .int x4), (5, .int x5)]) (st1 := [.int x1, .ref 4]) (h1 := hO R g5) (by decide +kernel) rfl ?_
      rcases m_cv_inv h with ⟨g9, e11, h⟩ | ⟨y12, g9, e11, rfl, rfl⟩
      · refine m_ca (q := (49, .invokevirtual 62, 3, 45, 1)) (a := 45) (vs := [.ref 4, .int x1]) (st := []) (d1 := 2) (by decide +kernel) rfl rfl rfl rfl (by decide) (Fr45 e11) ?_
        show m_Run X _ _ 42 52 [(0, .ref 4), (1, .int x1), (2, .int x2), (3, .int x3), (4, .int x4), (5, .int x5)] [] (hO R g9) _ _
        refine m_go (L := [(52, .iconst 0, 1, 0, 0), (53, .istore 6, 2, 0, 0)]) (pc1 := 55) (lv1 := [(0, .ref 4), (1, .int x1), (2, .int x2), (3, .int x3), (4, .int x4), (5, .int x5), (6, .int (0 : Int32))]) (st1 := []) (h1 := hO R g9) (by decide +kernel) rfl ?_
        exact m_r0 _ _ _ _ _ _ _ _ _ _ (m_pick [0, 2, 6] rfl) (Fr42_55 _ _ _ _ _ _ h)
      · exact m_cx (q := (49, .invokevirtual 62, 3, 45, 1)) (a := 45) (vs := [.ref 4, .int x1]) (st := []) (d1 := 2) (by decide +kernel) (by decide +kernel) rfl rfl rfl rfl (by decide) (Fr45 e11)
    · exact m_cx (q := (44, .invokevirtual 58, 3, 43, 4)) (a := 43) (vs := [.ref 4, .int v2, .int x3, .int x4, .int x5]) (st := []) (d1 := 1) (by decide +kernel) (by decide +kernel) rfl rfl rfl rfl (by decide) (Fr43 e7)
  · exact m_cx (q := (36, .invokevirtual 54, 3, 35, 1)) (a := 35) (vs := [.ref 5, .int x1]) (st := [.ref 4]) (d1 := 1) (by decide +kernel) (by decide +kernel) rfl rfl rfl rfl (by decide) (Fr35_5 e3)
def f60 (n : Nat) (g : mG) : mZ := if ¬ (0 : Int32) < 0 ∧ ¬ (0 : Int32) < 0 ∧ ¬ (g.1 23) < 0 ∧ (Int32.toNatClampNeg (0 : Int32)) + (Int32.toNatClampNeg (g.1 23)) ≤ 32 ∧ (Int32.toNatClampNeg (0 : Int32)) + (Int32.toNatClampNeg (g.1 23)) ≤ 32 then if ¬ (0 : Int32) < 0 ∧ ¬ (0 : Int32) < 0 ∧ ¬ (g.1 23) < 0 ∧ (Int32.toNatClampNeg (0 : Int32)) + (Int32.toNatClampNeg (g.1 23)) ≤ 32 ∧ (Int32.toNatClampNeg (0 : Int32)) + (Int32.toNatClampNeg (g.1 23)) ≤ 32 then some (.inl none, (gI (gS (gS g 28 (va_cpy (g.2.1 30) (g.2.1 28) (Int32.toNatClampNeg (0 : Int32)) (Int32.toNatClampNeg (0 : Int32)) (Int32.toNatClampNeg (g.1 23)))) 29 (va_cpy (g.2.1 31) (g.2.1 29) (Int32.toNatClampNeg (0 : Int32)) (Int32.toNatClampNeg (0 : Int32)) (Int32.toNatClampNeg (g.1 23)))) 22 (g.1 23))) else none else none
theorem Fr60 {R : Nat} {g g' : mG} {o : mO} (h : f60 n g = some (o, g')) : m_Run X (0) (m_ko o) 60 0 [(0, .ref 6)] [] (hO R g) o (hO R g') := by
  unfold f60 at h
  refine m_go (L := [(0, .aload_n 0, 1, 0, 0), (1, .getfield 22, 3, 3, 3), (4, .iconst 0, 1, 0, 0), (5, .aload_n 0, 1, 0, 0), (6, .getfield 9, 3, 3, 0), (9, .iconst 0, 1, 0, 0), (10, .aload_n 0, 1, 0, 0), (11, .getfield 28, 3, 3, 5)]) (pc1 := 14) (lv1 := [(0, .ref 6)]) (st1 := [.int (g.1 23), .int (0 : Int32), .ref 28, .int (0 : Int32), .ref 30]) (h1 := hO R g) (by decide +kernel) rfl ?_
  obtain ⟨⟨c1, c2, c3, c4, c5⟩, h⟩ := m_if_inv h
  refine m_r8 _ _ _ _ 35 30 28 32 32 _ [] _ _ _ _ _ _ _ _ (14, .invokestatic 35, 3, 1000, 5) (by decide +kernel) rfl rfl rfl rfl c1 c2 c3 c4 c5 (Nat.le_of_ble_eq_true rfl) ?_
  show m_Run X _ _ 60 17 [(0, .ref 6)] [] (hO R (gS g 28 (va_cpy (g.2.1 30) (g.2.1 28) (Int32.toNatClampNeg (0 : Int32)) (Int32.toNatClampNeg (0 : Int32)) (Int32.toNatClampNeg (g.1 23))))) _ _
  refine m_go (L := [(17, .aload_n 0, 1, 0, 0), (18, .getfield 25, 3, 3, 4), (21, .iconst 0, 1, 0, 0), (22, .aload_n 0, 1, 0, 0), (23, .getfield 15, 3, 3, 1), (26, .iconst 0, 1, 0, 0), (27, .aload_n 0, 1, 0, 0), (28, .getfield 28, 3, 3, 5)]) (pc1 := 31) (lv1 := [(0, .ref 6)]) (st1 := [.int (g.1 23), .int (0 : Int32), .ref 29, .int (0 : Int32), .ref 31]) (h1 := hO R (gS g 28 (va_cpy (g.2.1 30) (g.2.1 28) (Int32.toNatClampNeg (0 : Int32)) (Int32.toNatClampNeg (0 : Int32)) (Int32.toNatClampNeg (g.1 23))))) (by decide +kernel) rfl ?_
  obtain ⟨⟨c1, c2, c3, c4, c5⟩, h⟩ := m_if_inv h
  refine m_r8 _ _ _ _ 35 31 29 32 32 _ [] _ _ _ _ _ _ _ _ (31, .invokestatic 35, 3, 1000, 5) (by decide +kernel) rfl rfl rfl rfl c1 c2 c3 c4 c5 (Nat.le_of_ble_eq_true rfl) ?_
  show m_Run X _ _ 60 34 [(0, .ref 6)] [] (hO R (gS (gS g 28 (va_cpy (g.2.1 30) (g.2.1 28) (Int32.toNatClampNeg (0 : Int32)) (Int32.toNatClampNeg (0 : Int32)) (Int32.toNatClampNeg (g.1 23)))) 29 (va_cpy (g.2.1 31) (g.2.1 29) (Int32.toNatClampNeg (0 : Int32)) (Int32.toNatClampNeg (0 : Int32)) (Int32.toNatClampNeg (g.1 23))))) _ _
  refine m_go (L := [(34, .aload_n 0, 1, 0, 0), (35, .aload_n 0, 1, 0, 0), (36, .getfield 28, 3, 3, 5), (39, .putfield 18, 3, 3, 2)]) (pc1 := 42) (lv1 := [(0, .ref 6)]) (st1 := []) (h1 := hO R (gI (gS (gS g 28 (va_cpy (g.2.1 30) (g.2.1 28) (Int32.toNatClampNeg (0 : Int32)) (Int32.toNatClampNeg (0 : Int32)) (Int32.toNatClampNeg (g.1 23)))) 29 (va_cpy (g.2.1 31) (g.2.1 29) (Int32.toNatClampNeg (0 : Int32)) (Int32.toNatClampNeg (0 : Int32)) (Int32.toNatClampNeg (g.1 23)))) 22 (g.1 23))) (by decide +kernel) rfl ?_
  cases h
  exact m_rv (by decide +kernel)
def f84_51 (n : Nat) (g : mG) : mZ := some (.inr 1, g)
theorem Fr84_51 {R : Nat} {g g' : mG} {o : mO} (h : f84_51 n g = some (o, g')) : m_Run X (5) (m_ko o) 84 51 [] [] (hO R g) o (hO R g') := by
  unfold f84_51 at h
  cases h
  exact m_th (by decide +kernel) (by decide +kernel) rfl
def f84_151 (n : Nat) (x6 : Int32) (s1 : Int32) (g : mG) : mZ := some (.inl (some (.int x6)), (gI (gI g 3 s1) 4 ((g.1 4) + (1 : Int32))))
theorem Fr84_151 {R : Nat} {x6 : Int32} {s1 : Int32} {g g' : mG} {o : mO} (h : f84_151 n x6 s1 g = some (o, g')) : m_Run X (5) (m_ko o) 84 151 [(0, .ref 0), (6, .int x6)] [.int s1, .ref 0] (hO R g) o (hO R g') := by
  unfold f84_151 at h
  refine m_go (L := [(151, .putfield 38, 3, 5, 6), (154, .aload_n 0, 1, 0, 0), (155, .dup, 1, 0, 0), (156, .getfield 41, 3, 5, 7), (159, .iconst 1, 1, 0, 0), (160, .iadd, 1, 0, 0), (161, .putfield 41, 3, 5, 7), (164, .iload 6, 2, 0, 0)]) (pc1 := 166) (lv1 := [(0, .ref 0), (6, .int x6)]) (st1 := [.int x6]) (h1 := hO R (gI (gI g 3 s1) 4 ((g.1 4) + (1 : Int32)))) (by decide +kernel) rfl ?_
  cases h
  exact m_ri (by decide +kernel)
def f84_131 (n : Nat) (x2 : Int32) (x6 : Int32) (x7 : Int32) (s1 : Int32) (g : mG) : mZ := if x7 = 0 then f84_151 n x6 x2 (gI g 2 s1) else f84_151 n x6 (g.1 18) (gI g 2 s1)
theorem Fr84_131 {R : Nat} {x2 : Int32} {x6 : Int32} {x7 : Int32} {s1 : Int32} {g g' : mG} {o : mO} (h : f84_131 n x2 x6 x7 s1 g = some (o, g')) : m_Run X (5) (m_ko o) 84 131 [(0, .ref 0), (2, .int x2), (6, .int x6), (7, .int x7)] [.int s1, .ref 0] (hO R g) o (hO R g') := by
  unfold f84_131 at h
  refine m_gob (c := x7 = 0) (t := 150) (f := 140) (L := [(131, .putfield 35, 3, 5, 5), (134, .aload_n 0, 1, 0, 0), (135, .iload 7, 2, 0, 0), (137, .ifCond .eq 13, 3, 0, 0)]) (lv1 := [(0, .ref 0), (2, .int x2), (6, .int x6), (7, .int x7)]) (st1 := [.ref 0]) (h1 := hO R (gI g 2 s1)) (by decide +kernel) rfl (fun c20 => ?_) (fun c20 => ?_)
  · rw [if_pos c20] at h
    refine m_go (L := [(150, .iload_n 2, 1, 0, 0)]) (pc1 := 151) (lv1 := [(0, .ref 0), (2, .int x2), (6, .int x6), (7, .int x7)]) (st1 := [.int x2, .ref 0]) (h1 := hO R (gI g 2 s1)) (by decide +kernel) rfl ?_
    exact m_r0 _ _ _ _ _ _ _ _ _ _ (m_pick [0, 2] rfl) (Fr84_151 h)
  · rw [if_neg c20] at h
    refine m_go (L := [(140, .aload_n 0, 1, 0, 0), (141, .getfield 27, 3, 5, 3), (144, .getfield 120, 3, 2, 9), (147, .goto 4, 3, 0, 0)]) (pc1 := 151) (lv1 := [(0, .ref 0), (2, .int x2), (6, .int x6), (7, .int x7)]) (st1 := [.int (g.1 18), .ref 0]) (h1 := hO R (gI g 2 s1)) (by decide +kernel) rfl ?_
    exact m_r0 _ _ _ _ _ _ _ _ _ _ (m_pick [0, 2] rfl) (Fr84_151 h)
def f84_114 (n : Nat) (x2 : Int32) (x6 : Int32) (x7 : Int32) (g : mG) : mZ := if x7 = 0 then f84_131 n x2 x6 x7 (0 : Int32) g else f84_131 n x2 x6 x7 (g.1 19) g
theorem Fr84_114 {R : Nat} {x2 : Int32} {x6 : Int32} {x7 : Int32} {g g' : mG} {o : mO} (h : f84_114 n x2 x6 x7 g = some (o, g')) : m_Run X (5) (m_ko o) 84 114 [(0, .ref 0), (2, .int x2), (6, .int x6), (7, .int x7)] [] (hO R g) o (hO R g') := by
  unfold f84_114 at h
  refine m_gob (c := x7 = 0) (t := 130) (f := 120) (L := [(114, .aload_n 0, 1, 0, 0), (115, .iload 7, 2, 0, 0), (117, .ifCond .eq 13, 3, 0, 0)]) (lv1 := [(0, .ref 0), (2, .int x2), (6, .int x6), (7, .int x7)]) (st1 := [.ref 0]) (h1 := hO R g) (by decide +kernel) rfl (fun c19 => ?_) (fun c19 => ?_)
  · rw [if_pos c19] at h
    refine m_go (L := [(130, .iconst 0, 1, 0, 0)]) (pc1 := 131) (lv1 := [(0, .ref 0), (2, .int x2), (6, .int x6), (7, .int x7)]) (st1 := [.int (0 : Int32), .ref 0]) (h1 := hO R g) (by decide +kernel) rfl ?_
    exact m_r0 _ _ _ _ _ _ _ _ _ _ (m_pick [0, 1, 2, 3] rfl) (Fr84_131 h)
  · rw [if_neg c19] at h
    refine m_go (L := [(120, .aload_n 0, 1, 0, 0), (121, .getfield 27, 3, 5, 3), (124, .getfield 119, 3, 2, 10), (127, .goto 4, 3, 0, 0)]) (pc1 := 131) (lv1 := [(0, .ref 0), (2, .int x2), (6, .int x6), (7, .int x7)]) (st1 := [.int (g.1 19), .ref 0]) (h1 := hO R g) (by decide +kernel) rfl ?_
    exact m_r0 _ _ _ _ _ _ _ _ _ _ (m_pick [0, 1, 2, 3] rfl) (Fr84_131 h)
def f84_97 (n : Nat) (x2 : Int32) (x6 : Int32) (s0 : Int32) (g : mG) : mZ := if ¬ s0 = 0 then f84_114 n x2 x6 s0 g else m_cv (f60 n g) (fun g21 => f84_114 n x2 x6 s0 g21)
theorem Fr84_97 {R : Nat} {x2 : Int32} {x6 : Int32} {s0 : Int32} {g g' : mG} {o : mO} (h : f84_97 n x2 x6 s0 g = some (o, g')) : m_Run X (5) (m_ko o) 84 97 [(0, .ref 0), (2, .int x2), (6, .int x6)] [.int s0] (hO R g) o (hO R g') := by
  unfold f84_97 at h
  refine m_gob (c := ¬ s0 = 0) (t := 114) (f := 104) (L := [(97, .istore 7, 2, 0, 0), (99, .iload 7, 2, 0, 0), (101, .ifCond .ne 13, 3, 0, 0)]) (lv1 := [(0, .ref 0), (2, .int x2), (6, .int x6), (7, .int s0)]) (st1 := []) (h1 := hO R g) (by decide +kernel) rfl (fun c18 => ?_) (fun c18 => ?_)
  · rw [if_pos c18] at h
    exact m_r0 _ _ _ _ _ _ _ _ _ _ (m_pick [0, 1, 2, 3] rfl) (Fr84_114 h)
  · rw [if_neg c18] at h
    refine m_go (L := [(104, .aload_n 0, 1, 0, 0), (105, .getfield 27, 3, 5, 3), (108, .getfield 103, 3, 2, 0)]) (pc1 := 111) (lv1 := [(0, .ref 0), (2, .int x2), (6, .int x6), (7, .int s0)]) (st1 := [.ref 6]) (h1 := hO R g) (by decide +kernel) rfl ?_
    rcases m_cv_inv h with ⟨g21, e23, h⟩ | ⟨y24, g21, e23, rfl, rfl⟩
    · refine m_ca (q := (111, .invokevirtual 116, 3, 60, 0)) (a := 60) (vs := [.ref 6]) (st := []) (d1 := 0) (by decide +kernel) rfl rfl rfl rfl (by decide) (Fr60 e23) ?_
      show m_Run X _ _ 84 114 [(0, .ref 0), (2, .int x2), (6, .int x6), (7, .int s0)] [] (hO R g21) _ _
      exact m_r0 _ _ _ _ _ _ _ _ _ _ (m_pick [0, 1, 2, 3] rfl) (Fr84_114 h)
    · exact m_cx (q := (111, .invokevirtual 116, 3, 60, 0)) (a := 60) (vs := [.ref 6]) (st := []) (d1 := 0) (by decide +kernel) (by decide +kernel) rfl rfl rfl rfl (by decide) (Fr60 e23)
def f84 (n : Nat) (x1 : Int32) (x2 : Int32) (x3 : Int32) (x4 : Int32) (x5 : Int32) (g : mG) : mZ := if ¬ (g.1 1) = 0 then m_ci (f36_5 n x1 g) (fun v3 g2 => if ¬ v3 = 0 then if x2 < 0 then f84_51 n g2 else if x2 ≤ (50000 : Int32) then m_cv (f58 n g2) (fun g9 => m_ci (f42 n x1 x2 x3 x4 x5 g9) (fun v14 g13 => if ¬ v14 = 0 then f84_97 n x2 v14 (0 : Int32) g13 else f84_97 n x2 v14 (1 : Int32) g13)) else f84_51 n g2 else some (.inr 3, g2)) else some (.inr 0, g)
theorem Fr84 {R : Nat} {x1 : Int32} {x2 : Int32} {x3 : Int32} {x4 : Int32} {x5 : Int32} {g g' : mG} {o : mO} (h : f84 n x1 x2 x3 x4 x5 g = some (o, g')) : m_Run X (5) (m_ko o) 84 0 [(0, .ref 0), (1, .int x1), (2, .int x2), (3, .int x3), (4, .int x4), (5, .int x5)] [] (hO R g) o (hO R g') := by
  unfold f84 at h
  refine m_gob (c := ¬ (g.1 1) = 0) (t := 17) (f := 7) (L := [(0, .aload_n 0, 1, 0, 0), (1, .getfield 31, 3, 5, 4), (4, .ifCond .ne 13, 3, 0, 0)]) (lv1 := [(0, .ref 0), (1, .int x1), (2, .int x2), (3, .int x3), (4, .int x4), (5, .int x5)]) (st1 := []) (h1 := hO R g) (by decide +kernel) rfl (fun c1 => ?_) (fun c1 => ?_)
  · rw [if_pos c1] at h
    refine m_go (L := [(17, .aload_n 0, 1, 0, 0), (18, .getfield 27, 3, 5, 3), (21, .getfield 66, 3, 2, 1), (24, .iload_n 1, 1, 0, 0)]) (pc1 := 25) (lv1 := [(0, .ref 0), (1, .int x1), (2, .int x2), (3, .int x3), (4, .int x4), (5, .int x5)]) (st1 := [.int x1, .ref 5]) (h1 := hO R g) (by decide +kernel) rfl ?_
    rcases m_ci_inv h with ⟨v3, g2, e4, h⟩ | ⟨y5, g2, e4, rfl, rfl⟩
    · refine m_ca (q := (25, .invokevirtual 87, 3, 36, 1)) (a := 36) (vs := [.ref 5, .int x1]) (st := []) (d1 := 0) (by decide +kernel) rfl rfl rfl rfl (by decide) (Fr36_5 e4) ?_
      show m_Run X _ _ 84 28 [(0, .ref 0), (1, .int x1), (2, .int x2), (3, .int x3), (4, .int x4), (5, .int x5)] [.int v3] (hO R g2) _ _
      refine m_gob (c := ¬ v3 = 0) (t := 41) (f := 31) (L := [(28, .ifCond .ne 13, 3, 0, 0)]) (lv1 := [(0, .ref 0), (1, .int x1), (2, .int x2), (3, .int x3), (4, .int x4), (5, .int x5)]) (st1 := []) (h1 := hO R g2) (by decide +kernel) rfl (fun c6 => ?_) (fun c6 => ?_)
      · rw [if_pos c6] at h
        refine m_gob (c := x2 < 0) (t := 51) (f := 45) (L := [(41, .iload_n 2, 1, 0, 0), (42, .ifCond .lt 9, 3, 0, 0)]) (lv1 := [(0, .ref 0), (1, .int x1), (2, .int x2), (3, .int x3), (4, .int x4), (5, .int x5)]) (st1 := []) (h1 := hO R g2) (by decide +kernel) rfl (fun c7 => ?_) (fun c7 => ?_)
        · rw [if_pos c7] at h
          exact m_r0 _ _ _ _ _ _ _ _ _ _ (m_pick [] rfl) (Fr84_51 h)
        · rw [if_neg c7] at h
          refine m_gob (c := x2 ≤ (50000 : Int32)) (t := 61) (f := 51) (L := [(45, .iload_n 2, 1, 0, 0), (46, .ldc 100, 2, 0, 50000), (48, .if_icmp .le 13, 3, 0, 0)]) (lv1 := [(0, .ref 0), (1, .int x1), (2, .int x2), (3, .int x3), (4, .int x4), (5, .int x5)]) (st1 := []) (h1 := hO R g2) (by decide +kernel) rfl (fun c8 => ?_) (fun c8 => ?_)
          · rw [if_pos c8] at h
            refine m_go (L := [(61, .aload_n 0, 1, 0, 0), (62, .getfield 27, 3, 5, 3), (65, .getfield 103, 3, 2, 0)]) (pc1 := 68) (lv1 := [(0, .ref 0), (1, .int x1), (2, .int x2), (3, .int x3), (4, .int x4), (5, .int x5)]) (st1 := [.ref 6]) (h1 := hO R g2) (by decide +kernel) rfl ?_
            rcases m_cv_inv h with ⟨g9, e11, h⟩ | ⟨y12, g9, e11, rfl, rfl⟩
            · refine m_ca (q := (68, .invokevirtual 107, 3, 58, 0)) (a := 58) (vs := [.ref 6]) (st := []) (d1 := 0) (by decide +kernel) rfl rfl rfl rfl (by decide) (Fr58 e11) ?_
              show m_Run X _ _ 84 71 [(0, .ref 0), (1, .int x1), (2, .int x2), (3, .int x3), (4, .int x4), (5, .int x5)] [] (hO R g9) _ _
              refine m_go (L := [(71, .aload_n 0, 1, 0, 0), (72, .getfield 27, 3, 5, 3), (75, .iload_n 1, 1, 0, 0), (76, .iload_n 2, 1, 0, 0), (77, .iload_n 3, 1, 0, 0), (78, .iload 4, 2, 0, 0), (80, .iload 5, 2, 0, 0)]) (pc1 := 82) (lv1 := [(0, .ref 0), (1, .int x1), (2, .int x2), (3, .int x3), (4, .int x4), (5, .int x5)]) (st1 := [.int x5, .int x4, .int x3, .int x2, .int x1, .ref 4]) (h1 := hO R g9) (by decide +kernel) rfl ?_
              rcases m_ci_inv h with ⟨v14, g13, e15, h⟩ | ⟨y16, g13, e15, rfl, rfl⟩
              · refine m_ca (q := (82, .invokevirtual 112, 3, 42, 5)) (a := 42) (vs := [.ref 4, .int x1, .int x2, .int x3, .int x4, .int x5]) (st := []) (d1 := 4) (by decide +kernel) rfl rfl rfl rfl (by decide) (Fr42 e15) ?_
                show m_Run X _ _ 84 85 [(0, .ref 0), (1, .int x1), (2, .int x2), (3, .int x3), (4, .int x4), (5, .int x5)] [.int v14] (hO R g13) _ _
                refine m_gob (c := ¬ v14 = 0) (t := 96) (f := 92) (L := [(85, .istore 6, 2, 0, 0), (87, .iload 6, 2, 0, 0), (89, .ifCond .ne 7, 3, 0, 0)]) (lv1 := [(0, .ref 0), (1, .int x1), (2, .int x2), (3, .int x3), (4, .int x4), (5, .int x5), (6, .int v14)]) (st1 := []) (h1 := hO R g13) (by decide +kernel) rfl (fun c17 => ?_) (fun c17 => ?_)
                · rw [if_pos c17] at h
                  refine m_go (L := [(96, .iconst 0, 1, 0, 0)]) (pc1 := 97) (lv1 := [(0, .ref 0), (1, .int x1), (2, .int x2), (3, .int x3), (4, .int x4), (5, .int x5), (6, .int v14)]) (st1 := [.int (0 : Int32)]) (h1 := hO R g13) (by decide +kernel) rfl ?_
                  exact m_r0 _ _ _ _ _ _ _ _ _ _ (m_pick [0, 2, 6] rfl) (Fr84_97 h)
                · rw [if_neg c17] at h
                  refine m_go (L := [(92, .iconst 1, 1, 0, 0), (93, .goto 4, 3, 0, 0)]) (pc1 := 97) (lv1 := [(0, .ref 0), (1, .int x1), (2, .int x2), (3, .int x3), (4, .int x4), (5, .int x5), (6, .int v14)]) (st1 := [.int (1 : Int32)]) (h1 := hO R g13) (by decide +kernel) rfl ?_
                  exact m_r0 _ _ _ _ _ _ _ _ _ _ (m_pick [0, 2, 6] rfl) (Fr84_97 h)
              · exact m_cx (q := (82, .invokevirtual 112, 3, 42, 5)) (a := 42) (vs := [.ref 4, .int x1, .int x2, .int x3, .int x4, .int x5]) (st := []) (d1 := 4) (by decide +kernel) (by decide +kernel) rfl rfl rfl rfl (by decide) (Fr42 e15)
            · exact m_cx (q := (68, .invokevirtual 107, 3, 58, 0)) (a := 58) (vs := [.ref 6]) (st := []) (d1 := 0) (by decide +kernel) (by decide +kernel) rfl rfl rfl rfl (by decide) (Fr58 e11)
          · rw [if_neg c8] at h
            exact m_r0 _ _ _ _ _ _ _ _ _ _ (m_pick [] rfl) (Fr84_51 h)
      · rw [if_neg c6] at h
        cases h
        exact m_th (by decide +kernel) (by decide +kernel) rfl
    · exact m_cx (q := (25, .invokevirtual 87, 3, 36, 1)) (a := 36) (vs := [.ref 5, .int x1]) (st := []) (d1 := 0) (by decide +kernel) (by decide +kernel) rfl rfl rfl rfl (by decide) (Fr36_5 e4)
  · rw [if_neg c1] at h
    cases h
    exact m_th (by decide +kernel) (by decide +kernel) rfl
def f85 (n : Nat) (x1 : Int32) (g : mG) : mZ := if x1 = 0 then some (.inl (some (.int (g.1 2))), g) else if x1 = 1 then some (.inl (some (.int (g.1 3))), g) else if x1 = 2 then some (.inl (some (.int (g.1 4))), g) else some (.inr 1, g)
theorem Fr85 {R : Nat} {x1 : Int32} {g g' : mG} {o : mO} (h : f85 n x1 g = some (o, g')) : m_Run X (0) (m_ko o) 85 0 [(0, .ref 0), (1, .int x1)] [] (hO R g) o (hO R g') := by
  unfold f85 at h
  refine m_go (L := [(0, .iload_n 1, 1, 0, 0)]) (pc1 := 1) (lv1 := [(0, .ref 0), (1, .int x1)]) (st1 := [.int x1]) (h1 := hO R g) (by decide +kernel) rfl ?_
  by_cases c1 : x1 = 0
  · rw [if_pos c1] at h
    refine m_go1 (q := (1, .tableswitch 42 0 2 #[27, 32, 37], 27, 0, 0)) (pc1 := 28) (lv1 := [(0, .ref 0), (1, .int x1)]) (st1 := []) (h1 := hO R g) (by decide +kernel) (m_swx (fun z => m_loc m_ft X (.tableswitch 42 0 2 #[27, 32, 37]) 0 0 1 [(0, .ref 0), (1, .int x1)] (.int z :: []) (hO R g)) c1 rfl) ?_
    refine m_go (L := [(28, .aload_n 0, 1, 0, 0), (29, .getfield 35, 3, 5, 5)]) (pc1 := 32) (lv1 := [(0, .ref 0), (1, .int x1)]) (st1 := [.int (g.1 2)]) (h1 := hO R g) (by decide +kernel) rfl ?_
    cases h
    exact m_ri (by decide +kernel)
  · rw [if_neg c1] at h
    by_cases c2 : x1 = 1
    · rw [if_pos c2] at h
      refine m_go1 (q := (1, .tableswitch 42 0 2 #[27, 32, 37], 27, 0, 0)) (pc1 := 33) (lv1 := [(0, .ref 0), (1, .int x1)]) (st1 := []) (h1 := hO R g) (by decide +kernel) (m_swx (fun z => m_loc m_ft X (.tableswitch 42 0 2 #[27, 32, 37]) 0 0 1 [(0, .ref 0), (1, .int x1)] (.int z :: []) (hO R g)) c2 rfl) ?_
      refine m_go (L := [(33, .aload_n 0, 1, 0, 0), (34, .getfield 38, 3, 5, 6)]) (pc1 := 37) (lv1 := [(0, .ref 0), (1, .int x1)]) (st1 := [.int (g.1 3)]) (h1 := hO R g) (by decide +kernel) rfl ?_
      cases h
      exact m_ri (by decide +kernel)
    · rw [if_neg c2] at h
      by_cases c3 : x1 = 2
      · rw [if_pos c3] at h
        refine m_go1 (q := (1, .tableswitch 42 0 2 #[27, 32, 37], 27, 0, 0)) (pc1 := 38) (lv1 := [(0, .ref 0), (1, .int x1)]) (st1 := []) (h1 := hO R g) (by decide +kernel) (m_swx (fun z => m_loc m_ft X (.tableswitch 42 0 2 #[27, 32, 37]) 0 0 1 [(0, .ref 0), (1, .int x1)] (.int z :: []) (hO R g)) c3 rfl) ?_
        refine m_go (L := [(38, .aload_n 0, 1, 0, 0), (39, .getfield 41, 3, 5, 7)]) (pc1 := 42) (lv1 := [(0, .ref 0), (1, .int x1)]) (st1 := [.int (g.1 4)]) (h1 := hO R g) (by decide +kernel) rfl ?_
        cases h
        exact m_ri (by decide +kernel)
      · rw [if_neg c3] at h
        have hx : m_loc m_ft X (.tableswitch 42 0 2 #[27, 32, 37]) 0 0 1 [(0, .ref 0), (1, .int x1)] ([.int x1]) (hO R g) = some (43, [(0, .ref 0), (1, .int x1)], [], hO R g) := by
          by_cases hz : Int32.toInt x1 < 0 ∨ 2 < Int32.toInt x1
          · exact if_pos hz
          · exfalso; have z0 := m_ne (k := 0) (z := 0) (by decide) c1; have z1 := m_ne (k := 1) (z := 1) (by decide) c2; have z2 := m_ne (k := 2) (z := 2) (by decide) c3; omega
        refine m_go1 (q := (1, .tableswitch 42 0 2 #[27, 32, 37], 27, 0, 0)) (by decide +kernel) hx ?_
        cases h
        exact m_th (by decide +kernel) (by decide +kernel) rfl
end Dec
