section Dec
variable {X : Nat × (Nat → Int32)} {n : Nat}
def f73 (n : Nat) (x1 : Int32) (g : mG) : mZ := if x1 < 0 then some (.inl (some (.int (0 : Int32))), g) else if (g.1 8) ≤ x1 then some (.inl (some (.int (0 : Int32))), g) else if x1 < 0 ∨ 601 ≤ Int32.toNatClampNeg x1 then none else some (.inl (some (.int ((g.2.1 12) (Int32.toNatClampNeg x1)))), g)
theorem Fr73 {R : Nat} {x1 : Int32} {g g' : mG} {o : mO} (h : f73 n x1 g = some (o, g')) : m_Run X (0) (m_ko o) 73 0 [(0, .ref 2), (1, .int x1)] [] (hO R g) o (hO R g') := by
  unfold f73 at h
  refine m_gob (c := x1 < 0) (t := 21) (f := 4) (L := [(0, .iload_n 1, 1, 0, 0), (1, .ifCond .lt 20, 3, 0, 0)]) (lv1 := [(0, .ref 2), (1, .int x1)]) (st1 := []) (h1 := hO R g) (by decide +kernel) rfl (fun c1 => ?_) (fun c1 => ?_)
  · rw [if_pos c1] at h
    refine m_go (L := [(21, .iconst 0, 1, 0, 0)]) (pc1 := 22) (lv1 := [(0, .ref 2), (1, .int x1)]) (st1 := [.int (0 : Int32)]) (h1 := hO R g) (by decide +kernel) rfl ?_
    cases h
    exact m_ri (by decide +kernel)
  · rw [if_neg c1] at h
    refine m_gob (c := (g.1 8) ≤ x1) (t := 21) (f := 12) (L := [(4, .iload_n 1, 1, 0, 0), (5, .aload_n 0, 1, 0, 0), (6, .getfield 24, 3, 4, 4), (9, .if_icmp .ge 12, 3, 0, 0)]) (lv1 := [(0, .ref 2), (1, .int x1)]) (st1 := []) (h1 := hO R g) (by decide +kernel) rfl (fun c2 => ?_) (fun c2 => ?_)
    · rw [if_pos c2] at h
      refine m_go (L := [(21, .iconst 0, 1, 0, 0)]) (pc1 := 22) (lv1 := [(0, .ref 2), (1, .int x1)]) (st1 := [.int (0 : Int32)]) (h1 := hO R g) (by decide +kernel) rfl ?_
      cases h
      exact m_ri (by decide +kernel)
    · rw [if_neg c2] at h
      refine m_go (L := [(12, .aload_n 0, 1, 0, 0), (13, .getfield 9, 3, 4, 0), (16, .iload_n 1, 1, 0, 0)]) (pc1 := 17) (lv1 := [(0, .ref 2), (1, .int x1)]) (st1 := [.int x1, .ref 12]) (h1 := hO R g) (by decide +kernel) rfl ?_
      obtain ⟨c3, h⟩ := m_ifn_inv h
      refine m_go1 (q := (17, .iaload, 1, 0, 0)) (pc1 := 18) (lv1 := [(0, .ref 2), (1, .int x1)]) (st1 := [.int ((g.2.1 12) (Int32.toNatClampNeg x1))]) (h1 := hO R g) (by decide +kernel) (if_neg c3) ?_
      refine m_go (L := [(18, .goto 4, 3, 0, 0)]) (pc1 := 22) (lv1 := [(0, .ref 2), (1, .int x1)]) (st1 := [.int ((g.2.1 12) (Int32.toNatClampNeg x1))]) (h1 := hO R g) (by decide +kernel) rfl ?_
      cases h
      exact m_ri (by decide +kernel)
def f1 (n : Nat) (g : mG) : mZ := m_ci (f73 n (g.1 5) g) (fun v2 g1 => some (.inl (some (.int v2)), g1))
theorem Fr1 {R : Nat} {g g' : mG} {o : mO} (h : f1 n g = some (o, g')) : m_Run X (1) (m_ko o) 1 0 [(0, .ref 1)] [] (hO R g) o (hO R g') := by
  unfold f1 at h
  refine m_go (L := [(0, .aload_n 0, 1, 0, 0), (1, .getfield 12, 3, 0, 0), (4, .aload_n 0, 1, 0, 0), (5, .getfield 25, 3, 0, 2)]) (pc1 := 8) (lv1 := [(0, .ref 1)]) (st1 := [.int (g.1 5), .ref 2]) (h1 := hO R g) (by decide +kernel) rfl ?_
  rcases m_ci_inv h with ⟨v2, g1, e3, h⟩ | ⟨y4, g1, e3, rfl, rfl⟩
  · refine m_ca (q := (8, .invokevirtual 149, 3, 73, 1)) (a := 73) (vs := [.ref 2, .int (g.1 5)]) (st := []) (d1 := 0) (by decide +kernel) rfl rfl rfl rfl (by decide) (Fr73 e3) ?_
    show m_Run X _ _ 1 11 [(0, .ref 1)] [.int v2] (hO R g1) _ _
    cases h
    exact m_ri (by decide +kernel)
  · exact m_cx (q := (8, .invokevirtual 149, 3, 73, 1)) (a := 73) (vs := [.ref 2, .int (g.1 5)]) (st := []) (d1 := 0) (by decide +kernel) (by decide +kernel) rfl rfl rfl rfl (by decide) (Fr73 e3)
def f74 (n : Nat) (x1 : Int32) (g : mG) : mZ := if x1 < 0 then some (.inl (some (.int (g.1 9))), g) else if (g.1 8) ≤ x1 then some (.inl (some (.int (g.1 9))), g) else if x1 < 0 ∨ 601 ≤ Int32.toNatClampNeg x1 then none else some (.inl (some (.int ((g.2.1 13) (Int32.toNatClampNeg x1)))), g)
theorem Fr74 {R : Nat} {x1 : Int32} {g g' : mG} {o : mO} (h : f74 n x1 g = some (o, g')) : m_Run X (0) (m_ko o) 74 0 [(0, .ref 2), (1, .int x1)] [] (hO R g) o (hO R g') := by
  unfold f74 at h
  refine m_gob (c := x1 < 0) (t := 21) (f := 4) (L := [(0, .iload_n 1, 1, 0, 0), (1, .ifCond .lt 20, 3, 0, 0)]) (lv1 := [(0, .ref 2), (1, .int x1)]) (st1 := []) (h1 := hO R g) (by decide +kernel) rfl (fun c1 => ?_) (fun c1 => ?_)
  · rw [if_pos c1] at h
    refine m_go (L := [(21, .aload_n 0, 1, 0, 0), (22, .getfield 31, 3, 4, 6)]) (pc1 := 25) (lv1 := [(0, .ref 2), (1, .int x1)]) (st1 := [.int (g.1 9)]) (h1 := hO R g) (by decide +kernel) rfl ?_
    cases h
    exact m_ri (by decide +kernel)
  · rw [if_neg c1] at h
    refine m_gob (c := (g.1 8) ≤ x1) (t := 21) (f := 12) (L := [(4, .iload_n 1, 1, 0, 0), (5, .aload_n 0, 1, 0, 0), (6, .getfield 24, 3, 4, 4), (9, .if_icmp .ge 12, 3, 0, 0)]) (lv1 := [(0, .ref 2), (1, .int x1)]) (st1 := []) (h1 := hO R g) (by decide +kernel) rfl (fun c2 => ?_) (fun c2 => ?_)
    · rw [if_pos c2] at h
      refine m_go (L := [(21, .aload_n 0, 1, 0, 0), (22, .getfield 31, 3, 4, 6)]) (pc1 := 25) (lv1 := [(0, .ref 2), (1, .int x1)]) (st1 := [.int (g.1 9)]) (h1 := hO R g) (by decide +kernel) rfl ?_
      cases h
      exact m_ri (by decide +kernel)
    · rw [if_neg c2] at h
      refine m_go (L := [(12, .aload_n 0, 1, 0, 0), (13, .getfield 15, 3, 4, 1), (16, .iload_n 1, 1, 0, 0)]) (pc1 := 17) (lv1 := [(0, .ref 2), (1, .int x1)]) (st1 := [.int x1, .ref 13]) (h1 := hO R g) (by decide +kernel) rfl ?_
      obtain ⟨c3, h⟩ := m_ifn_inv h
      refine m_go1 (q := (17, .iaload, 1, 0, 0)) (pc1 := 18) (lv1 := [(0, .ref 2), (1, .int x1)]) (st1 := [.int ((g.2.1 13) (Int32.toNatClampNeg x1))]) (h1 := hO R g) (by decide +kernel) (if_neg c3) ?_
      refine m_go (L := [(18, .goto 7, 3, 0, 0)]) (pc1 := 25) (lv1 := [(0, .ref 2), (1, .int x1)]) (st1 := [.int ((g.2.1 13) (Int32.toNatClampNeg x1))]) (h1 := hO R g) (by decide +kernel) rfl ?_
      cases h
      exact m_ri (by decide +kernel)
def f3 (n : Nat) (x1 : Int32) (g : mG) : mZ := m_ci (f74 n x1 g) (fun v2 g1 => some (.inr 0, (gI g1 6 v2)))
theorem Fr3 {R : Nat} {x1 : Int32} {g g' : mG} {o : mO} (h : f3 n x1 g = some (o, g')) : m_Run X (1) (m_ko o) 3 0 [(0, .ref 1), (1, .int x1)] [] (hO R g) o (hO R g') := by
  unfold f3 at h
  refine m_go (L := [(0, .aload_n 0, 1, 0, 0), (1, .aload_n 0, 1, 0, 0), (2, .getfield 12, 3, 0, 0), (5, .iload_n 1, 1, 0, 0)]) (pc1 := 6) (lv1 := [(0, .ref 1), (1, .int x1)]) (st1 := [.int x1, .ref 2, .ref 1]) (h1 := hO R g) (by decide +kernel) rfl ?_
  rcases m_ci_inv h with ⟨v2, g1, e3, h⟩ | ⟨y4, g1, e3, rfl, rfl⟩
  · refine m_ca (q := (6, .invokevirtual 184, 3, 74, 1)) (a := 74) (vs := [.ref 2, .int x1]) (st := [.ref 1]) (d1 := 0) (by decide +kernel) rfl rfl rfl rfl (by decide) (Fr74 e3) ?_
    show m_Run X _ _ 3 9 [(0, .ref 1), (1, .int x1)] [.int v2, .ref 1] (hO R g1) _ _
    refine m_go (L := [(9, .putfield 29, 3, 0, 3)]) (pc1 := 12) (lv1 := [(0, .ref 1), (1, .int x1)]) (st1 := []) (h1 := hO R (gI g1 6 v2)) (by decide +kernel) rfl ?_
    cases h
    exact m_th (by decide +kernel) (by decide +kernel) rfl
  · exact m_cx (q := (6, .invokevirtual 184, 3, 74, 1)) (a := 74) (vs := [.ref 2, .int x1]) (st := [.ref 1]) (d1 := 0) (by decide +kernel) (by decide +kernel) rfl rfl rfl rfl (by decide) (Fr74 e3)
def f12_22 (n : Nat) (x2 : Int32) (g : mG) : mZ := some (.inl (some (.int (x2 + (1 : Int32)))), (gI g 5 ((g.1 5) + (1 : Int32))))
theorem Fr12_22 {R : Nat} {x2 : Int32} {g g' : mG} {o : mO} (h : f12_22 n x2 g = some (o, g')) : m_Run X (2) (m_ko o) 12 22 [(0, .ref 1), (2, .int x2)] [] (hO R g) o (hO R g') := by
  unfold f12_22 at h
  refine m_go (L := [(22, .aload_n 0, 1, 0, 0), (23, .dup, 1, 0, 0), (24, .getfield 25, 3, 0, 2), (27, .iconst 1, 1, 0, 0), (28, .iadd, 1, 0, 0), (29, .putfield 25, 3, 0, 2), (32, .iload_n 2, 1, 0, 0), (33, .iconst 1, 1, 0, 0), (34, .iadd, 1, 0, 0)]) (pc1 := 35) (lv1 := [(0, .ref 1), (2, .int x2)]) (st1 := [.int (x2 + (1 : Int32))]) (h1 := hO R (gI g 5 ((g.1 5) + (1 : Int32)))) (by decide +kernel) rfl ?_
  cases h
  exact m_ri (by decide +kernel)
def f12_14 (n : Nat) (x2 : Int32) (g : mG) : mZ := m_cv (f3 n (g.1 5) g) (fun g6 => f12_22 n x2 g6)
theorem Fr12_14 {R : Nat} {x2 : Int32} {g g' : mG} {o : mO} (h : f12_14 n x2 g = some (o, g')) : m_Run X (2) (m_ko o) 12 14 [(0, .ref 1), (2, .int x2)] [] (hO R g) o (hO R g') := by
  unfold f12_14 at h
  refine m_go (L := [(14, .aload_n 0, 1, 0, 0), (15, .aload_n 0, 1, 0, 0), (16, .getfield 25, 3, 0, 2)]) (pc1 := 19) (lv1 := [(0, .ref 1), (2, .int x2)]) (st1 := [.int (g.1 5), .ref 1]) (h1 := hO R g) (by decide +kernel) rfl ?_
  rcases m_cv_inv h with ⟨g6, e8, h⟩ | ⟨y9, g6, e8, rfl, rfl⟩
  · refine m_ca (q := (19, .invokevirtual 77, 3, 3, 1)) (a := 3) (vs := [.ref 1, .int (g.1 5)]) (st := []) (d1 := 1) (by decide +kernel) rfl rfl rfl rfl (by decide) (Fr3 e8) ?_
    show m_Run X _ _ 12 22 [(0, .ref 1), (2, .int x2)] [] (hO R g6) _ _
    exact m_r0 _ _ _ _ _ _ _ _ _ _ (m_pick [0, 1] rfl) (Fr12_22 h)
  · exact m_cx (q := (19, .invokevirtual 77, 3, 3, 1)) (a := 3) (vs := [.ref 1, .int (g.1 5)]) (st := []) (d1 := 1) (by decide +kernel) (by decide +kernel) rfl rfl rfl rfl (by decide) (Fr3 e8)
def f12 (n : Nat) (x1 : Int32) (x2 : Int32) (g : mG) : mZ := m_ci (f1 n g) (fun v2 g1 => if ¬ v2 = x1 then f12_14 n x2 g1 else if x2 < (16 : Int32) then f12_22 n x2 g1 else f12_14 n x2 g1)
theorem Fr12 {R : Nat} {x1 : Int32} {x2 : Int32} {g g' : mG} {o : mO} (h : f12 n x1 x2 g = some (o, g')) : m_Run X (2) (m_ko o) 12 0 [(0, .ref 1), (1, .int x1), (2, .int x2)] [] (hO R g) o (hO R g') := by
  unfold f12 at h
  refine m_go (L := [(0, .aload_n 0, 1, 0, 0)]) (pc1 := 1) (lv1 := [(0, .ref 1), (1, .int x1), (2, .int x2)]) (st1 := [.ref 1]) (h1 := hO R g) (by decide +kernel) rfl ?_
  rcases m_ci_inv h with ⟨v2, g1, e3, h⟩ | ⟨y4, g1, e3, rfl, rfl⟩
  · refine m_ca (q := (1, .invokevirtual 52, 3, 1, 0)) (a := 1) (vs := [.ref 1]) (st := []) (d1 := 1) (by decide +kernel) rfl rfl rfl rfl (by decide) (Fr1 e3) ?_
    show m_Run X _ _ 12 4 [(0, .ref 1), (1, .int x1), (2, .int x2)] [.int v2] (hO R g1) _ _
    refine m_gob (c := ¬ v2 = x1) (t := 14) (f := 8) (L := [(4, .iload_n 1, 1, 0, 0), (5, .if_icmp .ne 9, 3, 0, 0)]) (lv1 := [(0, .ref 1), (1, .int x1), (2, .int x2)]) (st1 := []) (h1 := hO R g1) (by decide +kernel) rfl (fun c5 => ?_) (fun c5 => ?_)
    · rw [if_pos c5] at h
      exact m_r0 _ _ _ _ _ _ _ _ _ _ (m_pick [0, 2] rfl) (Fr12_14 h)
    · rw [if_neg c5] at h
      refine m_gob (c := x2 < (16 : Int32)) (t := 22) (f := 14) (L := [(8, .iload_n 2, 1, 0, 0), (9, .bipush 16, 2, 0, 0), (11, .if_icmp .lt 11, 3, 0, 0)]) (lv1 := [(0, .ref 1), (1, .int x1), (2, .int x2)]) (st1 := []) (h1 := hO R g1) (by decide +kernel) rfl (fun c10 => ?_) (fun c10 => ?_)
      · rw [if_pos c10] at h
        exact m_r0 _ _ _ _ _ _ _ _ _ _ (m_pick [0, 2] rfl) (Fr12_22 h)
      · rw [if_neg c10] at h
        exact m_r0 _ _ _ _ _ _ _ _ _ _ (m_pick [0, 2] rfl) (Fr12_14 h)
  · exact m_cx (q := (1, .invokevirtual 52, 3, 1, 0)) (a := 1) (vs := [.ref 1]) (st := []) (d1 := 1) (by decide +kernel) (by decide +kernel) rfl rfl rfl rfl (by decide) (Fr1 e3)
def f6_16 (n : Nat) (g : mG) : mZ := some (.inl none, (gI g 5 ((g.1 5) + (1 : Int32))))
theorem Fr6_16 {R : Nat} {g g' : mG} {o : mO} (h : f6_16 n g = some (o, g')) : m_Run X (2) (m_ko o) 6 16 [(0, .ref 1)] [] (hO R g) o (hO R g') := by
  unfold f6_16 at h
  refine m_go (L := [(16, .aload_n 0, 1, 0, 0), (17, .dup, 1, 0, 0), (18, .getfield 25, 3, 0, 2), (21, .iconst 1, 1, 0, 0), (22, .iadd, 1, 0, 0), (23, .putfield 25, 3, 0, 2)]) (pc1 := 26) (lv1 := [(0, .ref 1)]) (st1 := []) (h1 := hO R (gI g 5 ((g.1 5) + (1 : Int32)))) (by decide +kernel) rfl ?_
  cases h
  exact m_rv (by decide +kernel)
def f6 (n : Nat) (x1 : Int32) (g : mG) : mZ := m_ci (f1 n g) (fun v2 g1 => if v2 = x1 then f6_16 n g1 else m_cv (f3 n (g1.1 5) g1) (fun g6 => f6_16 n g6))
theorem Fr6 {R : Nat} {x1 : Int32} {g g' : mG} {o : mO} (h : f6 n x1 g = some (o, g')) : m_Run X (2) (m_ko o) 6 0 [(0, .ref 1), (1, .int x1)] [] (hO R g) o (hO R g') := by
  unfold f6 at h
  refine m_go (L := [(0, .aload_n 0, 1, 0, 0)]) (pc1 := 1) (lv1 := [(0, .ref 1), (1, .int x1)]) (st1 := [.ref 1]) (h1 := hO R g) (by decide +kernel) rfl ?_
  rcases m_ci_inv h with ⟨v2, g1, e3, h⟩ | ⟨y4, g1, e3, rfl, rfl⟩
  · refine m_ca (q := (1, .invokevirtual 52, 3, 1, 0)) (a := 1) (vs := [.ref 1]) (st := []) (d1 := 1) (by decide +kernel) rfl rfl rfl rfl (by decide) (Fr1 e3) ?_
    show m_Run X _ _ 6 4 [(0, .ref 1), (1, .int x1)] [.int v2] (hO R g1) _ _
    refine m_gob (c := v2 = x1) (t := 16) (f := 8) (L := [(4, .iload_n 1, 1, 0, 0), (5, .if_icmp .eq 11, 3, 0, 0)]) (lv1 := [(0, .ref 1), (1, .int x1)]) (st1 := []) (h1 := hO R g1) (by decide +kernel) rfl (fun c5 => ?_) (fun c5 => ?_)
    · rw [if_pos c5] at h
      exact m_r0 _ _ _ _ _ _ _ _ _ _ (m_pick [0] rfl) (Fr6_16 h)
    · rw [if_neg c5] at h
      refine m_go (L := [(8, .aload_n 0, 1, 0, 0), (9, .aload_n 0, 1, 0, 0), (10, .getfield 25, 3, 0, 2)]) (pc1 := 13) (lv1 := [(0, .ref 1), (1, .int x1)]) (st1 := [.int (g1.1 5), .ref 1]) (h1 := hO R g1) (by decide +kernel) rfl ?_
      rcases m_cv_inv h with ⟨g6, e8, h⟩ | ⟨y9, g6, e8, rfl, rfl⟩
      · refine m_ca (q := (13, .invokevirtual 77, 3, 3, 1)) (a := 3) (vs := [.ref 1, .int (g1.1 5)]) (st := []) (d1 := 1) (by decide +kernel) rfl rfl rfl rfl (by decide) (Fr3 e8) ?_
        show m_Run X _ _ 6 16 [(0, .ref 1), (1, .int x1)] [] (hO R g6) _ _
        exact m_r0 _ _ _ _ _ _ _ _ _ _ (m_pick [0] rfl) (Fr6_16 h)
      · exact m_cx (q := (13, .invokevirtual 77, 3, 3, 1)) (a := 3) (vs := [.ref 1, .int (g1.1 5)]) (st := []) (d1 := 1) (by decide +kernel) (by decide +kernel) rfl rfl rfl rfl (by decide) (Fr3 e8)
  · exact m_cx (q := (1, .invokevirtual 52, 3, 1, 0)) (a := 1) (vs := [.ref 1]) (st := []) (d1 := 1) (by decide +kernel) (by decide +kernel) rfl rfl rfl rfl (by decide) (Fr1 e3)
def f75_70 (n : Nat) : Nat → Int32 → Int32 → Int32 → Int32 → mG → mZ
  | 0, _, _, _, _, _ => none
  | c + 1, x3, x4, x5, x6, g => if x5 ≤ x6 then some (.inl (some (.int (1 : Int32))), g) else if (600 : Int32) ≤ ((if x3 < x4 then x4 else x3) + x6) then some (.inl (some (.int (1 : Int32))), g) else if (x3 + x6) < 0 ∨ 600 ≤ Int32.toNatClampNeg (x3 + x6) then none else if (x4 + x6) < 0 ∨ 600 ≤ Int32.toNatClampNeg (x4 + x6) then none else if ((g.2.1 8) (Int32.toNatClampNeg (x3 + x6))) = ((g.2.1 8) (Int32.toNatClampNeg (x4 + x6))) then f75_70 n c x3 x4 x5 (x6 + (1 : Int32)) g else some (.inl (some (.int (0 : Int32))), g)
set_option maxRecDepth 20000 in
theorem Fr75_70 : ∀ (c : Nat) (x3 : Int32) (x4 : Int32) (x5 : Int32) (x6 : Int32) (g g' : mG) (o : mO), f75_70 n c x3 x4 x5 x6 g = some (o, g') → m_Run X (0) (m_ko o) 75 70 [(0, .ref 2), (3, .int x3), (4, .int x4), (5, .int x5), (6, .int x6)] [] (hO 8 g) o (hO 8 g') := by
  intro c
  induction c with
  | zero => intro x3 x4 x5 x6 g g' o h; rw [f75_70] at h; cases h
  | succ c ih =>
    intro x3 x4 x5 x6 g g' o h
    rw [f75_70] at h
    refine m_gob (c := x5 ≤ x6) (t := 124) (f := 77) (L := [(70, .iload 6, 2, 0, 0), (72, .iload 5, 2, 0, 0), (74, .if_icmp .ge 50, 3, 0, 0)]) (lv1 := [(0, .ref 2), (3, .int x3), (4, .int x4), (5, .int x5), (6, .int x6)]) (st1 := []) (h1 := hO 8 g) (by decide +kernel) rfl (fun c10 => ?_) (fun c10 => ?_)
    · rw [if_pos c10] at h
      refine m_go (L := [(124, .iconst 1, 1, 0, 0)]) (pc1 := 125) (lv1 := [(0, .ref 2), (3, .int x3), (4, .int x4), (5, .int x5), (6, .int x6)]) (st1 := [.int (1 : Int32)]) (h1 := hO 8 g) (by decide +kernel) rfl ?_
      cases h
      exact m_rz (by decide +kernel) (Or.inr rfl)
    · rw [if_neg c10] at h
      refine m_go (L := [(77, .iload_n 3, 1, 0, 0), (78, .iload 4, 2, 0, 0)]) (pc1 := 80) (lv1 := [(0, .ref 2), (3, .int x3), (4, .int x4), (5, .int x5), (6, .int x6)]) (st1 := [.int x4, .int x3]) (h1 := hO 8 g) (by decide +kernel) rfl ?_
      refine m_r13 _ _ _ _ 49 _ [] _ _ _ _ _ (80, .invokestatic 49, 3, 1004, 2) (by decide +kernel) rfl rfl (Nat.le_of_ble_eq_true rfl) ?_
      show m_Run X _ _ 75 83 [(0, .ref 2), (3, .int x3), (4, .int x4), (5, .int x5), (6, .int x6)] [.int (if x3 < x4 then x4 else x3)] (hO 8 g) _ _
      refine m_gob (c := (600 : Int32) ≤ ((if x3 < x4 then x4 else x3) + x6)) (t := 124) (f := 94) (L := [(83, .iload 6, 2, 0, 0), (85, .iadd, 1, 0, 0), (86, .aload_n 0, 1, 0, 0), (87, .getfield 28, 3, 4, 5), (90, .arraylength, 1, 0, 0), (91, .if_icmp .ge 33, 3, 0, 0)]) (lv1 := [(0, .ref 2), (3, .int x3), (4, .int x4), (5, .int x5), (6, .int x6)]) (st1 := []) (h1 := hO 8 g) (by decide +kernel) rfl (fun c11 => ?_) (fun c11 => ?_)
      · rw [if_pos c11] at h
        refine m_go (L := [(124, .iconst 1, 1, 0, 0)]) (pc1 := 125) (lv1 := [(0, .ref 2), (3, .int x3), (4, .int x4), (5, .int x5), (6, .int x6)]) (st1 := [.int (1 : Int32)]) (h1 := hO 8 g) (by decide +kernel) rfl ?_
        cases h
        exact m_rz (by decide +kernel) (Or.inr rfl)
      · rw [if_neg c11] at h
        refine m_go (L := [(94, .aload_n 0, 1, 0, 0), (95, .getfield 28, 3, 4, 5), (98, .iload_n 3, 1, 0, 0), (99, .iload 6, 2, 0, 0), (101, .iadd, 1, 0, 0)]) (pc1 := 102) (lv1 := [(0, .ref 2), (3, .int x3), (4, .int x4), (5, .int x5), (6, .int x6)]) (st1 := [.int (x3 + x6), .ref 8]) (h1 := hO 8 g) (by decide +kernel) rfl ?_
        obtain ⟨c12, h⟩ := m_ifn_inv h
        refine m_go1 (q := (102, .iaload, 1, 0, 0)) (pc1 := 103) (lv1 := [(0, .ref 2), (3, .int x3), (4, .int x4), (5, .int x5), (6, .int x6)]) (st1 := [.int ((g.2.1 8) (Int32.toNatClampNeg (x3 + x6)))]) (h1 := hO 8 g) (by decide +kernel) (if_neg c12) ?_
        refine m_go (L := [(103, .aload_n 0, 1, 0, 0), (104, .getfield 28, 3, 4, 5), (107, .iload 4, 2, 0, 0), (109, .iload 6, 2, 0, 0), (111, .iadd, 1, 0, 0)]) (pc1 := 112) (lv1 := [(0, .ref 2), (3, .int x3), (4, .int x4), (5, .int x5), (6, .int x6)]) (st1 := [.int (x4 + x6), .ref 8, .int ((g.2.1 8) (Int32.toNatClampNeg (x3 + x6)))]) (h1 := hO 8 g) (by decide +kernel) rfl ?_
        obtain ⟨c13, h⟩ := m_ifn_inv h
        refine m_go1 (q := (112, .iaload, 1, 0, 0)) (pc1 := 113) (lv1 := [(0, .ref 2), (3, .int x3), (4, .int x4), (5, .int x5), (6, .int x6)]) (st1 := [.int ((g.2.1 8) (Int32.toNatClampNeg (x4 + x6))), .int ((g.2.1 8) (Int32.toNatClampNeg (x3 + x6)))]) (h1 := hO 8 g) (by decide +kernel) (if_neg c13) ?_
        refine m_gob (c := ((g.2.1 8) (Int32.toNatClampNeg (x3 + x6))) = ((g.2.1 8) (Int32.toNatClampNeg (x4 + x6)))) (t := 118) (f := 116) (L := [(113, .if_icmp .eq 5, 3, 0, 0)]) (lv1 := [(0, .ref 2), (3, .int x3), (4, .int x4), (5, .int x5), (6, .int x6)]) (st1 := []) (h1 := hO 8 g) (by decide +kernel) rfl (fun c14 => ?_) (fun c14 => ?_)
        · rw [if_pos c14] at h
          refine m_go (L := [(118, .iinc 6 1, 3, 0, 0), (121, .goto (-51), 3, 0, 0)]) (pc1 := 70) (lv1 := [(0, .ref 2), (3, .int x3), (4, .int x4), (5, .int x5), (6, .int (x6 + (1 : Int32)))]) (st1 := []) (h1 := hO 8 g) (by decide +kernel) rfl ?_
          exact m_r0 _ _ _ _ _ _ _ _ _ _ (m_pick [0, 1, 2, 3, 4] rfl) (ih _ _ _ _ _ _ _ h)
        · rw [if_neg c14] at h
          refine m_go (L := [(116, .iconst 0, 1, 0, 0)]) (pc1 := 117) (lv1 := [(0, .ref 2), (3, .int x3), (4, .int x4), (5, .int x5), (6, .int x6)]) (st1 := [.int (0 : Int32)]) (h1 := hO 8 g) (by decide +kernel) rfl ?_
          cases h
          exact m_rz (by decide +kernel) (Or.inl rfl)
def f75 (n : Nat) (x1 : Int32) (x2 : Int32) (g : mG) : mZ := if x1 < 0 then some (.inl (some (.int (0 : Int32))), g) else if (g.1 8) ≤ x1 then some (.inl (some (.int (0 : Int32))), g) else if x2 < 0 then some (.inl (some (.int (0 : Int32))), g) else if x2 < (g.1 8) then if x1 < 0 ∨ 601 ≤ Int32.toNatClampNeg x1 then none else if x2 < 0 ∨ 601 ≤ Int32.toNatClampNeg x2 then none else if x1 < 0 ∨ 601 ≤ Int32.toNatClampNeg x1 then none else if x2 < 0 ∨ 601 ≤ Int32.toNatClampNeg x2 then none else if (((g.2.1 14) (Int32.toNatClampNeg x2)) - ((g.2.1 13) (Int32.toNatClampNeg x2))) = (((g.2.1 14) (Int32.toNatClampNeg x1)) - ((g.2.1 13) (Int32.toNatClampNeg x1))) then f75_70 n n ((g.2.1 13) (Int32.toNatClampNeg x1)) ((g.2.1 13) (Int32.toNatClampNeg x2)) (((g.2.1 14) (Int32.toNatClampNeg x1)) - ((g.2.1 13) (Int32.toNatClampNeg x1))) (0 : Int32) g else some (.inl (some (.int (0 : Int32))), g) else some (.inl (some (.int (0 : Int32))), g)
theorem Fr75 {x1 : Int32} {x2 : Int32} {g g' : mG} {o : mO} (h : f75 n x1 x2 g = some (o, g')) : m_Run X (0) (m_ko o) 75 0 [(0, .ref 2), (1, .int x1), (2, .int x2)] [] (hO 8 g) o (hO 8 g') := by
  unfold f75 at h
  refine m_gob (c := x1 < 0) (t := 24) (f := 4) (L := [(0, .iload_n 1, 1, 0, 0), (1, .ifCond .lt 23, 3, 0, 0)]) (lv1 := [(0, .ref 2), (1, .int x1), (2, .int x2)]) (st1 := []) (h1 := hO 8 g) (by decide +kernel) rfl (fun c1 => ?_) (fun c1 => ?_)
  · rw [if_pos c1] at h
    refine m_go (L := [(24, .iconst 0, 1, 0, 0)]) (pc1 := 25) (lv1 := [(0, .ref 2), (1, .int x1), (2, .int x2)]) (st1 := [.int (0 : Int32)]) (h1 := hO 8 g) (by decide +kernel) rfl ?_
    cases h
    exact m_rz (by decide +kernel) (Or.inl rfl)
  · rw [if_neg c1] at h
    refine m_gob (c := (g.1 8) ≤ x1) (t := 24) (f := 12) (L := [(4, .iload_n 1, 1, 0, 0), (5, .aload_n 0, 1, 0, 0), (6, .getfield 24, 3, 4, 4), (9, .if_icmp .ge 15, 3, 0, 0)]) (lv1 := [(0, .ref 2), (1, .int x1), (2, .int x2)]) (st1 := []) (h1 := hO 8 g) (by decide +kernel) rfl (fun c2 => ?_) (fun c2 => ?_)
    · rw [if_pos c2] at h
      refine m_go (L := [(24, .iconst 0, 1, 0, 0)]) (pc1 := 25) (lv1 := [(0, .ref 2), (1, .int x1), (2, .int x2)]) (st1 := [.int (0 : Int32)]) (h1 := hO 8 g) (by decide +kernel) rfl ?_
      cases h
      exact m_rz (by decide +kernel) (Or.inl rfl)
    · rw [if_neg c2] at h
      refine m_gob (c := x2 < 0) (t := 24) (f := 16) (L := [(12, .iload_n 2, 1, 0, 0), (13, .ifCond .lt 11, 3, 0, 0)]) (lv1 := [(0, .ref 2), (1, .int x1), (2, .int x2)]) (st1 := []) (h1 := hO 8 g) (by decide +kernel) rfl (fun c3 => ?_) (fun c3 => ?_)
      · rw [if_pos c3] at h
        refine m_go (L := [(24, .iconst 0, 1, 0, 0)]) (pc1 := 25) (lv1 := [(0, .ref 2), (1, .int x1), (2, .int x2)]) (st1 := [.int (0 : Int32)]) (h1 := hO 8 g) (by decide +kernel) rfl ?_
        cases h
        exact m_rz (by decide +kernel) (Or.inl rfl)
      · rw [if_neg c3] at h
        refine m_gob (c := x2 < (g.1 8)) (t := 26) (f := 24) (L := [(16, .iload_n 2, 1, 0, 0), (17, .aload_n 0, 1, 0, 0), (18, .getfield 24, 3, 4, 4), (21, .if_icmp .lt 5, 3, 0, 0)]) (lv1 := [(0, .ref 2), (1, .int x1), (2, .int x2)]) (st1 := []) (h1 := hO 8 g) (by decide +kernel) rfl (fun c4 => ?_) (fun c4 => ?_)
        · rw [if_pos c4] at h
          refine m_go (L := [(26, .aload_n 0, 1, 0, 0), (27, .getfield 15, 3, 4, 1), (30, .iload_n 1, 1, 0, 0)]) (pc1 := 31) (lv1 := [(0, .ref 2), (1, .int x1), (2, .int x2)]) (st1 := [.int x1, .ref 13]) (h1 := hO 8 g) (by decide +kernel) rfl ?_
          obtain ⟨c5, h⟩ := m_ifn_inv h
          refine m_go1 (q := (31, .iaload, 1, 0, 0)) (pc1 := 32) (lv1 := [(0, .ref 2), (1, .int x1), (2, .int x2)]) (st1 := [.int ((g.2.1 13) (Int32.toNatClampNeg x1))]) (h1 := hO 8 g) (by decide +kernel) (if_neg c5) ?_
          refine m_go (L := [(32, .istore_n 3, 1, 0, 0), (33, .aload_n 0, 1, 0, 0), (34, .getfield 15, 3, 4, 1), (37, .iload_n 2, 1, 0, 0)]) (pc1 := 38) (lv1 := [(0, .ref 2), (1, .int x1), (2, .int x2), (3, .int ((g.2.1 13) (Int32.toNatClampNeg x1)))]) (st1 := [.int x2, .ref 13]) (h1 := hO 8 g) (by decide +kernel) rfl ?_
          obtain ⟨c6, h⟩ := m_ifn_inv h
          refine m_go1 (q := (38, .iaload, 1, 0, 0)) (pc1 := 39) (lv1 := [(0, .ref 2), (1, .int x1), (2, .int x2), (3, .int ((g.2.1 13) (Int32.toNatClampNeg x1)))]) (st1 := [.int ((g.2.1 13) (Int32.toNatClampNeg x2))]) (h1 := hO 8 g) (by decide +kernel) (if_neg c6) ?_
          refine m_go (L := [(39, .istore 4, 2, 0, 0), (41, .aload_n 0, 1, 0, 0), (42, .getfield 18, 3, 4, 2), (45, .iload_n 1, 1, 0, 0)]) (pc1 := 46) (lv1 := [(0, .ref 2), (1, .int x1), (2, .int x2), (3, .int ((g.2.1 13) (Int32.toNatClampNeg x1))), (4, .int ((g.2.1 13) (Int32.toNatClampNeg x2)))]) (st1 := [.int x1, .ref 14]) (h1 := hO 8 g) (by decide +kernel) rfl ?_
          obtain ⟨c7, h⟩ := m_ifn_inv h
          refine m_go1 (q := (46, .iaload, 1, 0, 0)) (pc1 := 47) (lv1 := [(0, .ref 2), (1, .int x1), (2, .int x2), (3, .int ((g.2.1 13) (Int32.toNatClampNeg x1))), (4, .int ((g.2.1 13) (Int32.toNatClampNeg x2)))]) (st1 := [.int ((g.2.1 14) (Int32.toNatClampNeg x1))]) (h1 := hO 8 g) (by decide +kernel) (if_neg c7) ?_
          refine m_go (L := [(47, .iload_n 3, 1, 0, 0), (48, .isub, 1, 0, 0), (49, .istore 5, 2, 0, 0), (51, .aload_n 0, 1, 0, 0), (52, .getfield 18, 3, 4, 2), (55, .iload_n 2, 1, 0, 0)]) (pc1 := 56) (lv1 := [(0, .ref 2), (1, .int x1), (2, .int x2), (3, .int ((g.2.1 13) (Int32.toNatClampNeg x1))), (4, .int ((g.2.1 13) (Int32.toNatClampNeg x2))), (5, .int (((g.2.1 14) (Int32.toNatClampNeg x1)) - ((g.2.1 13) (Int32.toNatClampNeg x1))))]) (st1 := [.int x2, .ref 14]) (h1 := hO 8 g) (by decide +kernel) rfl ?_
          obtain ⟨c8, h⟩ := m_ifn_inv h
          refine m_go1 (q := (56, .iaload, 1, 0, 0)) (pc1 := 57) (lv1 := [(0, .ref 2), (1, .int x1), (2, .int x2), (3, .int ((g.2.1 13) (Int32.toNatClampNeg x1))), (4, .int ((g.2.1 13) (Int32.toNatClampNeg x2))), (5, .int (((g.2.1 14) (Int32.toNatClampNeg x1)) - ((g.2.1 13) (Int32.toNatClampNeg x1))))]) (st1 := [.int ((g.2.1 14) (Int32.toNatClampNeg x2))]) (h1 := hO 8 g) (by decide +kernel) (if_neg c8) ?_
          refine m_gob (c := (((g.2.1 14) (Int32.toNatClampNeg x2)) - ((g.2.1 13) (Int32.toNatClampNeg x2))) = (((g.2.1 14) (Int32.toNatClampNeg x1)) - ((g.2.1 13) (Int32.toNatClampNeg x1)))) (t := 67) (f := 65) (L := [(57, .iload 4, 2, 0, 0), (59, .isub, 1, 0, 0), (60, .iload 5, 2, 0, 0), (62, .if_icmp .eq 5, 3, 0, 0)]) (lv1 := [(0, .ref 2), (1, .int x1), (2, .int x2), (3, .int ((g.2.1 13) (Int32.toNatClampNeg x1))), (4, .int ((g.2.1 13) (Int32.toNatClampNeg x2))), (5, .int (((g.2.1 14) (Int32.toNatClampNeg x1)) - ((g.2.1 13) (Int32.toNatClampNeg x1))))]) (st1 := []) (h1 := hO 8 g) (by decide +kernel) rfl (fun c9 => ?_) (fun c9 => ?_)
          · rw [if_pos c9] at h
            refine m_go (L := [(67, .iconst 0, 1, 0, 0), (68, .istore 6, 2, 0, 0)]) (pc1 := 70) (lv1 := [(0, .ref 2), (1, .int x1), (2, .int x2), (3, .int ((g.2.1 13) (Int32.toNatClampNeg x1))), (4, .int ((g.2.1 13) (Int32.toNatClampNeg x2))), (5, .int (((g.2.1 14) (Int32.toNatClampNeg x1)) - ((g.2.1 13) (Int32.toNatClampNeg x1)))), (6, .int (0 : Int32))]) (st1 := []) (h1 := hO 8 g) (by decide +kernel) rfl ?_
            exact m_r0 _ _ _ _ _ _ _ _ _ _ (m_pick [0, 3, 4, 5, 6] rfl) (Fr75_70 _ _ _ _ _ _ _ _ h)
          · rw [if_neg c9] at h
            refine m_go (L := [(65, .iconst 0, 1, 0, 0)]) (pc1 := 66) (lv1 := [(0, .ref 2), (1, .int x1), (2, .int x2), (3, .int ((g.2.1 13) (Int32.toNatClampNeg x1))), (4, .int ((g.2.1 13) (Int32.toNatClampNeg x2))), (5, .int (((g.2.1 14) (Int32.toNatClampNeg x1)) - ((g.2.1 13) (Int32.toNatClampNeg x1))))]) (st1 := [.int (0 : Int32)]) (h1 := hO 8 g) (by decide +kernel) rfl ?_
            cases h
            exact m_rz (by decide +kernel) (Or.inl rfl)
        · rw [if_neg c4] at h
          refine m_go (L := [(24, .iconst 0, 1, 0, 0)]) (pc1 := 25) (lv1 := [(0, .ref 2), (1, .int x1), (2, .int x2)]) (st1 := [.int (0 : Int32)]) (h1 := hO 8 g) (by decide +kernel) rfl ?_
          cases h
          exact m_rz (by decide +kernel) (Or.inl rfl)
def f9_2 (n : Nat) : Nat → Int32 → Int32 → mG → mZ
  | 0, _, _, _ => none
  | c + 1, x1, x2, g => if (g.1 7) ≤ x2 then some (.inl (some (.int (-1 : Int32))), g) else if x2 < 0 ∨ 8 ≤ Int32.toNatClampNeg x2 then none else m_ci (f75 n ((g.2.1 10) (Int32.toNatClampNeg x2)) x1 g) (fun v4 g3 => if v4 = 0 then f9_2 n c x1 (x2 + (1 : Int32)) g3 else some (.inl (some (.int x2)), g3))
set_option maxRecDepth 20000 in
theorem Fr9_2 : ∀ (c : Nat) (x1 : Int32) (x2 : Int32) (g g' : mG) (o : mO), f9_2 n c x1 x2 g = some (o, g') → m_Run X (1) (m_ko o) 9 2 [(0, .ref 1), (1, .int x1), (2, .int x2)] [] (hO 8 g) o (hO 8 g') := by
  intro c
  induction c with
  | zero => intro x1 x2 g g' o h; rw [f9_2] at h; cases h
  | succ c ih =>
    intro x1 x2 g g' o h
    rw [f9_2] at h
    refine m_gob (c := (g.1 7) ≤ x2) (t := 35) (f := 10) (L := [(2, .iload_n 2, 1, 0, 0), (3, .aload_n 0, 1, 0, 0), (4, .getfield 42, 3, 0, 7), (7, .if_icmp .ge 28, 3, 0, 0)]) (lv1 := [(0, .ref 1), (1, .int x1), (2, .int x2)]) (st1 := []) (h1 := hO 8 g) (by decide +kernel) rfl (fun c1 => ?_) (fun c1 => ?_)
    · rw [if_pos c1] at h
      refine m_go (L := [(35, .iconst (-1), 1, 0, 0)]) (pc1 := 36) (lv1 := [(0, .ref 1), (1, .int x1), (2, .int x2)]) (st1 := [.int (-1 : Int32)]) (h1 := hO 8 g) (by decide +kernel) rfl ?_
      cases h
      exact m_ri (by decide +kernel)
    · rw [if_neg c1] at h
      refine m_go (L := [(10, .aload_n 0, 1, 0, 0), (11, .getfield 12, 3, 0, 0), (14, .aload_n 0, 1, 0, 0), (15, .getfield 36, 3, 0, 5), (18, .iload_n 2, 1, 0, 0)]) (pc1 := 19) (lv1 := [(0, .ref 1), (1, .int x1), (2, .int x2)]) (st1 := [.int x2, .ref 10, .ref 2]) (h1 := hO 8 g) (by decide +kernel) rfl ?_
      obtain ⟨c2, h⟩ := m_ifn_inv h
      refine m_go1 (q := (19, .iaload, 1, 0, 0)) (pc1 := 20) (lv1 := [(0, .ref 1), (1, .int x1), (2, .int x2)]) (st1 := [.int ((g.2.1 10) (Int32.toNatClampNeg x2)), .ref 2]) (h1 := hO 8 g) (by decide +kernel) (if_neg c2) ?_
      refine m_go (L := [(20, .iload_n 1, 1, 0, 0)]) (pc1 := 21) (lv1 := [(0, .ref 1), (1, .int x1), (2, .int x2)]) (st1 := [.int x1, .int ((g.2.1 10) (Int32.toNatClampNeg x2)), .ref 2]) (h1 := hO 8 g) (by decide +kernel) rfl ?_
      rcases m_ci_inv h with ⟨v4, g3, e5, h⟩ | ⟨y6, g3, e5, rfl, rfl⟩
      · refine m_ca (q := (21, .invokevirtual 180, 3, 75, 2)) (a := 75) (vs := [.ref 2, .int ((g.2.1 10) (Int32.toNatClampNeg x2)), .int x1]) (st := []) (d1 := 0) (by decide +kernel) rfl rfl rfl rfl (by decide) (Fr75 e5) ?_
        show m_Run X _ _ 9 24 [(0, .ref 1), (1, .int x1), (2, .int x2)] [.int v4] (hO 8 g3) _ _
        refine m_gob (c := v4 = 0) (t := 29) (f := 27) (L := [(24, .ifCond .eq 5, 3, 0, 0)]) (lv1 := [(0, .ref 1), (1, .int x1), (2, .int x2)]) (st1 := []) (h1 := hO 8 g3) (by decide +kernel) rfl (fun c7 => ?_) (fun c7 => ?_)
        · rw [if_pos c7] at h
          refine m_go (L := [(29, .iinc 2 1, 3, 0, 0), (32, .goto (-30), 3, 0, 0)]) (pc1 := 2) (lv1 := [(0, .ref 1), (1, .int x1), (2, .int (x2 + (1 : Int32)))]) (st1 := []) (h1 := hO 8 g3) (by decide +kernel) rfl ?_
          exact m_r0 _ _ _ _ _ _ _ _ _ _ (m_pick [0, 1, 2] rfl) (ih _ _ _ _ _ h)
        · rw [if_neg c7] at h
          refine m_go (L := [(27, .iload_n 2, 1, 0, 0)]) (pc1 := 28) (lv1 := [(0, .ref 1), (1, .int x1), (2, .int x2)]) (st1 := [.int x2]) (h1 := hO 8 g3) (by decide +kernel) rfl ?_
          cases h
          exact m_ri (by decide +kernel)
      · exact m_cx (q := (21, .invokevirtual 180, 3, 75, 2)) (a := 75) (vs := [.ref 2, .int ((g.2.1 10) (Int32.toNatClampNeg x2)), .int x1]) (st := []) (d1 := 0) (by decide +kernel) (by decide +kernel) rfl rfl rfl rfl (by decide) (Fr75 e5)
def f9 (n : Nat) (x1 : Int32) (g : mG) : mZ := f9_2 n n x1 (0 : Int32) g
theorem Fr9 {x1 : Int32} {g g' : mG} {o : mO} (h : f9 n x1 g = some (o, g')) : m_Run X (1) (m_ko o) 9 0 [(0, .ref 1), (1, .int x1)] [] (hO 8 g) o (hO 8 g') := by
  unfold f9 at h
  refine m_go (L := [(0, .iconst 0, 1, 0, 0), (1, .istore_n 2, 1, 0, 0)]) (pc1 := 2) (lv1 := [(0, .ref 1), (1, .int x1), (2, .int (0 : Int32))]) (st1 := []) (h1 := hO 8 g) (by decide +kernel) rfl ?_
  exact m_r0 _ _ _ _ _ _ _ _ _ _ (m_pick [0, 1, 2] rfl) (Fr9_2 _ _ _ _ _ _ h)
def f8_29 (n : Nat) (g : mG) : mZ := m_cv (f3 n (g.1 5) g) (fun g6 => some (.inl none, g6))
theorem Fr8_29 {g g' : mG} {o : mO} (h : f8_29 n g = some (o, g')) : m_Run X (2) (m_ko o) 8 29 [(0, .ref 1)] [] (hO 8 g) o (hO 8 g') := by
  unfold f8_29 at h
  refine m_go (L := [(29, .aload_n 0, 1, 0, 0), (30, .aload_n 0, 1, 0, 0), (31, .getfield 25, 3, 0, 2)]) (pc1 := 34) (lv1 := [(0, .ref 1)]) (st1 := [.int (g.1 5), .ref 1]) (h1 := hO 8 g) (by decide +kernel) rfl ?_
  rcases m_cv_inv h with ⟨g6, e8, h⟩ | ⟨y9, g6, e8, rfl, rfl⟩
  · refine m_ca (q := (34, .invokevirtual 77, 3, 3, 1)) (a := 3) (vs := [.ref 1, .int (g.1 5)]) (st := []) (d1 := 1) (by decide +kernel) rfl rfl rfl rfl (by decide) (Fr3 e8) ?_
    show m_Run X _ _ 8 37 [(0, .ref 1)] [] (hO 8 g6) _ _
    cases h
    exact m_rv (by decide +kernel)
  · exact m_cx (q := (34, .invokevirtual 77, 3, 3, 1)) (a := 3) (vs := [.ref 1, .int (g.1 5)]) (st := []) (d1 := 1) (by decide +kernel) (by decide +kernel) rfl rfl rfl rfl (by decide) (Fr3 e8)
def f8 (n : Nat) (g : mG) : mZ := m_ci (f1 n g) (fun v2 g1 => if ¬ v2 = (2 : Int32) then f8_29 n g1 else m_ci (f9 n (g1.1 5) g1) (fun v11 g10 => if ¬ v11 = (-1 : Int32) then f8_29 n g10 else if (g10.1 7) < (8 : Int32) then some (.inl none, g10) else f8_29 n g10))
theorem Fr8 {g g' : mG} {o : mO} (h : f8 n g = some (o, g')) : m_Run X (2) (m_ko o) 8 0 [(0, .ref 1)] [] (hO 8 g) o (hO 8 g') := by
  unfold f8 at h
  refine m_go (L := [(0, .aload_n 0, 1, 0, 0)]) (pc1 := 1) (lv1 := [(0, .ref 1)]) (st1 := [.ref 1]) (h1 := hO 8 g) (by decide +kernel) rfl ?_
  rcases m_ci_inv h with ⟨v2, g1, e3, h⟩ | ⟨y4, g1, e3, rfl, rfl⟩
  · refine m_ca (q := (1, .invokevirtual 52, 3, 1, 0)) (a := 1) (vs := [.ref 1]) (st := []) (d1 := 1) (by decide +kernel) rfl rfl rfl rfl (by decide) (Fr1 e3) ?_
    show m_Run X _ _ 8 4 [(0, .ref 1)] [.int v2] (hO 8 g1) _ _
    refine m_gob (c := ¬ v2 = (2 : Int32)) (t := 29) (f := 8) (L := [(4, .iconst 2, 1, 0, 0), (5, .if_icmp .ne 24, 3, 0, 0)]) (lv1 := [(0, .ref 1)]) (st1 := []) (h1 := hO 8 g1) (by decide +kernel) rfl (fun c5 => ?_) (fun c5 => ?_)
    · rw [if_pos c5] at h
      exact m_r0 _ _ _ _ _ _ _ _ _ _ (m_pick [0] rfl) (Fr8_29 h)
    · rw [if_neg c5] at h
      refine m_go (L := [(8, .aload_n 0, 1, 0, 0), (9, .aload_n 0, 1, 0, 0), (10, .getfield 25, 3, 0, 2)]) (pc1 := 13) (lv1 := [(0, .ref 1)]) (st1 := [.int (g1.1 5), .ref 1]) (h1 := hO 8 g1) (by decide +kernel) rfl ?_
      rcases m_ci_inv h with ⟨v11, g10, e12, h⟩ | ⟨y13, g10, e12, rfl, rfl⟩
      · refine m_ca (q := (13, .invokevirtual 130, 3, 9, 1)) (a := 9) (vs := [.ref 1, .int (g1.1 5)]) (st := []) (d1 := 1) (by decide +kernel) rfl rfl rfl rfl (by decide) (Fr9 e12) ?_
        show m_Run X _ _ 8 16 [(0, .ref 1)] [.int v11] (hO 8 g10) _ _
        refine m_gob (c := ¬ v11 = (-1 : Int32)) (t := 29) (f := 20) (L := [(16, .iconst (-1), 1, 0, 0), (17, .if_icmp .ne 12, 3, 0, 0)]) (lv1 := [(0, .ref 1)]) (st1 := []) (h1 := hO 8 g10) (by decide +kernel) rfl (fun c14 => ?_) (fun c14 => ?_)
        · rw [if_pos c14] at h
          exact m_r0 _ _ _ _ _ _ _ _ _ _ (m_pick [0] rfl) (Fr8_29 h)
        · rw [if_neg c14] at h
          refine m_gob (c := (g10.1 7) < (8 : Int32)) (t := 37) (f := 29) (L := [(20, .aload_n 0, 1, 0, 0), (21, .getfield 42, 3, 0, 7), (24, .bipush 8, 2, 0, 0), (26, .if_icmp .lt 11, 3, 0, 0)]) (lv1 := [(0, .ref 1)]) (st1 := []) (h1 := hO 8 g10) (by decide +kernel) rfl (fun c15 => ?_) (fun c15 => ?_)
          · rw [if_pos c15] at h
            cases h
            exact m_rv (by decide +kernel)
          · rw [if_neg c15] at h
            exact m_r0 _ _ _ _ _ _ _ _ _ _ (m_pick [0] rfl) (Fr8_29 h)
      · exact m_cx (q := (13, .invokevirtual 130, 3, 9, 1)) (a := 9) (vs := [.ref 1, .int (g1.1 5)]) (st := []) (d1 := 1) (by decide +kernel) (by decide +kernel) rfl rfl rfl rfl (by decide) (Fr9 e12)
  · exact m_cx (q := (1, .invokevirtual 52, 3, 1, 0)) (a := 1) (vs := [.ref 1]) (st := []) (d1 := 1) (by decide +kernel) (by decide +kernel) rfl rfl rfl rfl (by decide) (Fr1 e3)
def f10 (n : Nat) (x1 : Int32) (x2 : Int32) (g : mG) : mZ := if (8 : Int32) ≤ (g.1 7) then some (.inl none, g) else if (g.1 7) < 0 ∨ 8 ≤ Int32.toNatClampNeg (g.1 7) then none else if (g.1 7) < 0 ∨ 8 ≤ Int32.toNatClampNeg (g.1 7) then none else some (.inl none, (gI (gS (gS g 10 (upd (g.2.1 10) (Int32.toNatClampNeg (g.1 7)) x1)) 11 (upd (g.2.1 11) (Int32.toNatClampNeg (g.1 7)) x2)) 7 ((g.1 7) + (1 : Int32))))
theorem Fr10 {R : Nat} {x1 : Int32} {x2 : Int32} {g g' : mG} {o : mO} (h : f10 n x1 x2 g = some (o, g')) : m_Run X (0) (m_ko o) 10 0 [(0, .ref 1), (1, .int x1), (2, .int x2)] [] (hO R g) o (hO R g') := by
  unfold f10 at h
  refine m_gob (c := (8 : Int32) ≤ (g.1 7)) (t := 39) (f := 9) (L := [(0, .aload_n 0, 1, 0, 0), (1, .getfield 42, 3, 0, 7), (4, .bipush 8, 2, 0, 0), (6, .if_icmp .ge 33, 3, 0, 0)]) (lv1 := [(0, .ref 1), (1, .int x1), (2, .int x2)]) (st1 := []) (h1 := hO R g) (by decide +kernel) rfl (fun c1 => ?_) (fun c1 => ?_)
  · rw [if_pos c1] at h
    cases h
    exact m_rv (by decide +kernel)
  · rw [if_neg c1] at h
    refine m_go (L := [(9, .aload_n 0, 1, 0, 0), (10, .getfield 36, 3, 0, 5), (13, .aload_n 0, 1, 0, 0), (14, .getfield 42, 3, 0, 7), (17, .iload_n 1, 1, 0, 0)]) (pc1 := 18) (lv1 := [(0, .ref 1), (1, .int x1), (2, .int x2)]) (st1 := [.int x1, .int (g.1 7), .ref 10]) (h1 := hO R g) (by decide +kernel) rfl ?_
    obtain ⟨c2, h⟩ := m_ifn_inv h
    refine m_go1 (q := (18, .iastore, 1, 0, 0)) (pc1 := 19) (lv1 := [(0, .ref 1), (1, .int x1), (2, .int x2)]) (st1 := []) (h1 := hO R (gS g 10 (upd (g.2.1 10) (Int32.toNatClampNeg (g.1 7)) x1))) (by decide +kernel) (if_neg c2) ?_
    refine m_go (L := [(19, .aload_n 0, 1, 0, 0), (20, .getfield 39, 3, 0, 6), (23, .aload_n 0, 1, 0, 0), (24, .getfield 42, 3, 0, 7), (27, .iload_n 2, 1, 0, 0)]) (pc1 := 28) (lv1 := [(0, .ref 1), (1, .int x1), (2, .int x2)]) (st1 := [.int x2, .int (g.1 7), .ref 11]) (h1 := hO R (gS g 10 (upd (g.2.1 10) (Int32.toNatClampNeg (g.1 7)) x1))) (by decide +kernel) rfl ?_
    obtain ⟨c3, h⟩ := m_ifn_inv h
    refine m_go1 (q := (28, .iastore, 1, 0, 0)) (pc1 := 29) (lv1 := [(0, .ref 1), (1, .int x1), (2, .int x2)]) (st1 := []) (h1 := hO R (gS (gS g 10 (upd (g.2.1 10) (Int32.toNatClampNeg (g.1 7)) x1)) 11 (upd (g.2.1 11) (Int32.toNatClampNeg (g.1 7)) x2))) (by decide +kernel) (if_neg c3) ?_
    refine m_go (L := [(29, .aload_n 0, 1, 0, 0), (30, .dup, 1, 0, 0), (31, .getfield 42, 3, 0, 7), (34, .iconst 1, 1, 0, 0), (35, .iadd, 1, 0, 0), (36, .putfield 42, 3, 0, 7)]) (pc1 := 39) (lv1 := [(0, .ref 1), (1, .int x1), (2, .int x2)]) (st1 := []) (h1 := hO R (gI (gS (gS g 10 (upd (g.2.1 10) (Int32.toNatClampNeg (g.1 7)) x1)) 11 (upd (g.2.1 11) (Int32.toNatClampNeg (g.1 7)) x2)) 7 ((g.1 7) + (1 : Int32)))) (by decide +kernel) rfl ?_
    cases h
    exact m_rv (by decide +kernel)
def f34_3 (n : Nat) (x1 : Int32) (x2 : Int32) (g : mG) : mZ := if (600 : Int32) ≤ (g.1 12) then some (.inl (some (.int ((g.1 12) - (1 : Int32)))), g) else if (g.1 12) < 0 ∨ 600 ≤ Int32.toNatClampNeg (g.1 12) then none else if (g.1 12) < 0 ∨ 600 ≤ Int32.toNatClampNeg (g.1 12) then none else some (.inl (some (.int (((g.1 12) + (1 : Int32)) - (1 : Int32)))), (gI (gS (gS g 17 (upd (g.2.1 17) (Int32.toNatClampNeg (g.1 12)) x1)) 18 (upd (g.2.1 18) (Int32.toNatClampNeg (g.1 12)) x2)) 12 ((g.1 12) + (1 : Int32))))
theorem Fr34_3 {R : Nat} {x1 : Int32} {x2 : Int32} {g g' : mG} {o : mO} (h : f34_3 n x1 x2 g = some (o, g')) : m_Run X (0) (m_ko o) 34 0 [(0, .ref 3), (1, .int x1), (2, .int x2)] [] (hO R g) o (hO R g') := by
  unfold f34_3 at h
  refine m_gob (c := (600 : Int32) ≤ (g.1 12)) (t := 40) (f := 10) (L := [(0, .aload_n 0, 1, 0, 0), (1, .getfield 18, 3, 1, 2), (4, .sipush 600, 3, 0, 0), (7, .if_icmp .ge 33, 3, 0, 0)]) (lv1 := [(0, .ref 3), (1, .int x1), (2, .int x2)]) (st1 := []) (h1 := hO R g) (by decide +kernel) rfl (fun c1 => ?_) (fun c1 => ?_)
  · rw [if_pos c1] at h
    refine m_go (L := [(40, .aload_n 0, 1, 0, 0), (41, .getfield 18, 3, 1, 2), (44, .iconst 1, 1, 0, 0), (45, .isub, 1, 0, 0)]) (pc1 := 46) (lv1 := [(0, .ref 3), (1, .int x1), (2, .int x2)]) (st1 := [.int ((g.1 12) - (1 : Int32))]) (h1 := hO R g) (by decide +kernel) rfl ?_
    cases h
    exact m_ri (by decide +kernel)
  · rw [if_neg c1] at h
    refine m_go (L := [(10, .aload_n 0, 1, 0, 0), (11, .getfield 9, 3, 1, 0), (14, .aload_n 0, 1, 0, 0), (15, .getfield 18, 3, 1, 2), (18, .iload_n 1, 1, 0, 0)]) (pc1 := 19) (lv1 := [(0, .ref 3), (1, .int x1), (2, .int x2)]) (st1 := [.int x1, .int (g.1 12), .ref 17]) (h1 := hO R g) (by decide +kernel) rfl ?_
    obtain ⟨c2, h⟩ := m_ifn_inv h
    refine m_go1 (q := (19, .iastore, 1, 0, 0)) (pc1 := 20) (lv1 := [(0, .ref 3), (1, .int x1), (2, .int x2)]) (st1 := []) (h1 := hO R (gS g 17 (upd (g.2.1 17) (Int32.toNatClampNeg (g.1 12)) x1))) (by decide +kernel) (if_neg c2) ?_
    refine m_go (L := [(20, .aload_n 0, 1, 0, 0), (21, .getfield 15, 3, 1, 1), (24, .aload_n 0, 1, 0, 0), (25, .getfield 18, 3, 1, 2), (28, .iload_n 2, 1, 0, 0)]) (pc1 := 29) (lv1 := [(0, .ref 3), (1, .int x1), (2, .int x2)]) (st1 := [.int x2, .int (g.1 12), .ref 18]) (h1 := hO R (gS g 17 (upd (g.2.1 17) (Int32.toNatClampNeg (g.1 12)) x1))) (by decide +kernel) rfl ?_
    obtain ⟨c3, h⟩ := m_ifn_inv h
    refine m_go1 (q := (29, .iastore, 1, 0, 0)) (pc1 := 30) (lv1 := [(0, .ref 3), (1, .int x1), (2, .int x2)]) (st1 := []) (h1 := hO R (gS (gS g 17 (upd (g.2.1 17) (Int32.toNatClampNeg (g.1 12)) x1)) 18 (upd (g.2.1 18) (Int32.toNatClampNeg (g.1 12)) x2))) (by decide +kernel) (if_neg c3) ?_
    refine m_go (L := [(30, .aload_n 0, 1, 0, 0), (31, .dup, 1, 0, 0), (32, .getfield 18, 3, 1, 2), (35, .iconst 1, 1, 0, 0), (36, .iadd, 1, 0, 0), (37, .putfield 18, 3, 1, 2), (40, .aload_n 0, 1, 0, 0), (41, .getfield 18, 3, 1, 2), (44, .iconst 1, 1, 0, 0), (45, .isub, 1, 0, 0)]) (pc1 := 46) (lv1 := [(0, .ref 3), (1, .int x1), (2, .int x2)]) (st1 := [.int (((g.1 12) + (1 : Int32)) - (1 : Int32))]) (h1 := hO R (gI (gS (gS g 17 (upd (g.2.1 17) (Int32.toNatClampNeg (g.1 12)) x1)) 18 (upd (g.2.1 18) (Int32.toNatClampNeg (g.1 12)) x2)) 12 ((g.1 12) + (1 : Int32)))) (by decide +kernel) rfl ?_
    cases h
    exact m_ri (by decide +kernel)
def f23 (n : Nat) (x0 : Int32) (g : mG) : mZ := if x0 = 13 then some (.inl (some (.int (2 : Int32))), g) else if x0 = 14 then some (.inl (some (.int (2 : Int32))), g) else if x0 = 15 then some (.inl (some (.int (2 : Int32))), g) else if x0 = 16 then some (.inl (some (.int (2 : Int32))), g) else if x0 = 17 then some (.inl (some (.int (3 : Int32))), g) else if x0 = 18 then some (.inl (some (.int (3 : Int32))), g) else if x0 = 19 then some (.inl (some (.int (4 : Int32))), g) else if x0 = 20 then some (.inl (some (.int (4 : Int32))), g) else if x0 = 21 then some (.inl (some (.int (4 : Int32))), g) else if x0 = 23 then some (.inl (some (.int (1 : Int32))), g) else if x0 = 24 then some (.inl (some (.int (0 : Int32))), g) else some (.inl (some (.int (-1 : Int32))), g)
theorem Fr23 {R : Nat} {x0 : Int32} {g g' : mG} {o : mO} (h : f23 n x0 g = some (o, g')) : m_Run X (0) (m_ko o) 23 0 [(0, .int x0)] [] (hO R g) o (hO R g') := by
  unfold f23 at h
  refine m_go (L := [(0, .iload_n 0, 1, 0, 0)]) (pc1 := 1) (lv1 := [(0, .int x0)]) (st1 := [.int x0]) (h1 := hO R g) (by decide +kernel) rfl ?_
  by_cases c1 : x0 = 13
  · rw [if_pos c1] at h
    refine m_go1 (q := (1, .tableswitch 73 13 24 #[67, 67, 67, 67, 69, 69, 71, 71, 71, 73, 65, 63], 63, 0, 0)) (pc1 := 68) (lv1 := [(0, .int x0)]) (st1 := []) (h1 := hO R g) (by decide +kernel) (m_swx (fun z => m_loc m_ft X (.tableswitch 73 13 24 #[67, 67, 67, 67, 69, 69, 71, 71, 71, 73, 65, 63]) 0 0 1 [(0, .int x0)] (.int z :: []) (hO R g)) c1 rfl) ?_
    refine m_go (L := [(68, .iconst 2, 1, 0, 0)]) (pc1 := 69) (lv1 := [(0, .int x0)]) (st1 := [.int (2 : Int32)]) (h1 := hO R g) (by decide +kernel) rfl ?_
    cases h
    exact m_ri (by decide +kernel)
  · rw [if_neg c1] at h
    by_cases c2 : x0 = 14
    · rw [if_pos c2] at h
      refine m_go1 (q := (1, .tableswitch 73 13 24 #[67, 67, 67, 67, 69, 69, 71, 71, 71, 73, 65, 63], 63, 0, 0)) (pc1 := 68) (lv1 := [(0, .int x0)]) (st1 := []) (h1 := hO R g) (by decide +kernel) (m_swx (fun z => m_loc m_ft X (.tableswitch 73 13 24 #[67, 67, 67, 67, 69, 69, 71, 71, 71, 73, 65, 63]) 0 0 1 [(0, .int x0)] (.int z :: []) (hO R g)) c2 rfl) ?_
      refine m_go (L := [(68, .iconst 2, 1, 0, 0)]) (pc1 := 69) (lv1 := [(0, .int x0)]) (st1 := [.int (2 : Int32)]) (h1 := hO R g) (by decide +kernel) rfl ?_
      cases h
      exact m_ri (by decide +kernel)
    · rw [if_neg c2] at h
      by_cases c3 : x0 = 15
      · rw [if_pos c3] at h
        refine m_go1 (q := (1, .tableswitch 73 13 24 #[67, 67, 67, 67, 69, 69, 71, 71, 71, 73, 65, 63], 63, 0, 0)) (pc1 := 68) (lv1 := [(0, .int x0)]) (st1 := []) (h1 := hO R g) (by decide +kernel) (m_swx (fun z => m_loc m_ft X (.tableswitch 73 13 24 #[67, 67, 67, 67, 69, 69, 71, 71, 71, 73, 65, 63]) 0 0 1 [(0, .int x0)] (.int z :: []) (hO R g)) c3 rfl) ?_
        refine m_go (L := [(68, .iconst 2, 1, 0, 0)]) (pc1 := 69) (lv1 := [(0, .int x0)]) (st1 := [.int (2 : Int32)]) (h1 := hO R g) (by decide +kernel) rfl ?_
        cases h
        exact m_ri (by decide +kernel)
      · rw [if_neg c3] at h
        by_cases c4 : x0 = 16
        · rw [if_pos c4] at h
          refine m_go1 (q := (1, .tableswitch 73 13 24 #[67, 67, 67, 67, 69, 69, 71, 71, 71, 73, 65, 63], 63, 0, 0)) (pc1 := 68) (lv1 := [(0, .int x0)]) (st1 := []) (h1 := hO R g) (by decide +kernel) (m_swx (fun z => m_loc m_ft X (.tableswitch 73 13 24 #[67, 67, 67, 67, 69, 69, 71, 71, 71, 73, 65, 63]) 0 0 1 [(0, .int x0)] (.int z :: []) (hO R g)) c4 rfl) ?_
          refine m_go (L := [(68, .iconst 2, 1, 0, 0)]) (pc1 := 69) (lv1 := [(0, .int x0)]) (st1 := [.int (2 : Int32)]) (h1 := hO R g) (by decide +kernel) rfl ?_
          cases h
          exact m_ri (by decide +kernel)
        · rw [if_neg c4] at h
          by_cases c5 : x0 = 17
          · rw [if_pos c5] at h
            refine m_go1 (q := (1, .tableswitch 73 13 24 #[67, 67, 67, 67, 69, 69, 71, 71, 71, 73, 65, 63], 63, 0, 0)) (pc1 := 70) (lv1 := [(0, .int x0)]) (st1 := []) (h1 := hO R g) (by decide +kernel) (m_swx (fun z => m_loc m_ft X (.tableswitch 73 13 24 #[67, 67, 67, 67, 69, 69, 71, 71, 71, 73, 65, 63]) 0 0 1 [(0, .int x0)] (.int z :: []) (hO R g)) c5 rfl) ?_
            refine m_go (L := [(70, .iconst 3, 1, 0, 0)]) (pc1 := 71) (lv1 := [(0, .int x0)]) (st1 := [.int (3 : Int32)]) (h1 := hO R g) (by decide +kernel) rfl ?_
            cases h
            exact m_ri (by decide +kernel)
          · rw [if_neg c5] at h
            by_cases c6 : x0 = 18
            · rw [if_pos c6] at h
              refine m_go1 (q := (1, .tableswitch 73 13 24 #[67, 67, 67, 67, 69, 69, 71, 71, 71, 73, 65, 63], 63, 0, 0)) (pc1 := 70) (lv1 := [(0, .int x0)]) (st1 := []) (h1 := hO R g) (by decide +kernel) (m_swx (fun z => m_loc m_ft X (.tableswitch 73 13 24 #[67, 67, 67, 67, 69, 69, 71, 71, 71, 73, 65, 63]) 0 0 1 [(0, .int x0)] (.int z :: []) (hO R g)) c6 rfl) ?_
              refine m_go (L := [(70, .iconst 3, 1, 0, 0)]) (pc1 := 71) (lv1 := [(0, .int x0)]) (st1 := [.int (3 : Int32)]) (h1 := hO R g) (by decide +kernel) rfl ?_
              cases h
              exact m_ri (by decide +kernel)
            · rw [if_neg c6] at h
              by_cases c7 : x0 = 19
              · rw [if_pos c7] at h
                refine m_go1 (q := (1, .tableswitch 73 13 24 #[67, 67, 67, 67, 69, 69, 71, 71, 71, 73, 65, 63], 63, 0, 0)) (pc1 := 72) (lv1 := [(0, .int x0)]) (st1 := []) (h1 := hO R g) (by decide +kernel) (m_swx (fun z => m_loc m_ft X (.tableswitch 73 13 24 #[67, 67, 67, 67, 69, 69, 71, 71, 71, 73, 65, 63]) 0 0 1 [(0, .int x0)] (.int z :: []) (hO R g)) c7 rfl) ?_
                refine m_go (L := [(72, .iconst 4, 1, 0, 0)]) (pc1 := 73) (lv1 := [(0, .int x0)]) (st1 := [.int (4 : Int32)]) (h1 := hO R g) (by decide +kernel) rfl ?_
                cases h
                exact m_ri (by decide +kernel)
              · rw [if_neg c7] at h
                by_cases c8 : x0 = 20
                · rw [if_pos c8] at h
                  refine m_go1 (q := (1, .tableswitch 73 13 24 #[67, 67, 67, 67, 69, 69, 71, 71, 71, 73, 65, 63], 63, 0, 0)) (pc1 := 72) (lv1 := [(0, .int x0)]) (st1 := []) (h1 := hO R g) (by decide +kernel) (m_swx (fun z => m_loc m_ft X (.tableswitch 73 13 24 #[67, 67, 67, 67, 69, 69, 71, 71, 71, 73, 65, 63]) 0 0 1 [(0, .int x0)] (.int z :: []) (hO R g)) c8 rfl) ?_
                  refine m_go (L := [(72, .iconst 4, 1, 0, 0)]) (pc1 := 73) (lv1 := [(0, .int x0)]) (st1 := [.int (4 : Int32)]) (h1 := hO R g) (by decide +kernel) rfl ?_
                  cases h
                  exact m_ri (by decide +kernel)
                · rw [if_neg c8] at h
                  by_cases c9 : x0 = 21
                  · rw [if_pos c9] at h
                    refine m_go1 (q := (1, .tableswitch 73 13 24 #[67, 67, 67, 67, 69, 69, 71, 71, 71, 73, 65, 63], 63, 0, 0)) (pc1 := 72) (lv1 := [(0, .int x0)]) (st1 := []) (h1 := hO R g) (by decide +kernel) (m_swx (fun z => m_loc m_ft X (.tableswitch 73 13 24 #[67, 67, 67, 67, 69, 69, 71, 71, 71, 73, 65, 63]) 0 0 1 [(0, .int x0)] (.int z :: []) (hO R g)) c9 rfl) ?_
                    refine m_go (L := [(72, .iconst 4, 1, 0, 0)]) (pc1 := 73) (lv1 := [(0, .int x0)]) (st1 := [.int (4 : Int32)]) (h1 := hO R g) (by decide +kernel) rfl ?_
                    cases h
                    exact m_ri (by decide +kernel)
                  · rw [if_neg c9] at h
                    by_cases c10 : x0 = 23
                    · rw [if_pos c10] at h
                      refine m_go1 (q := (1, .tableswitch 73 13 24 #[67, 67, 67, 67, 69, 69, 71, 71, 71, 73, 65, 63], 63, 0, 0)) (pc1 := 66) (lv1 := [(0, .int x0)]) (st1 := []) (h1 := hO R g) (by decide +kernel) (m_swx (fun z => m_loc m_ft X (.tableswitch 73 13 24 #[67, 67, 67, 67, 69, 69, 71, 71, 71, 73, 65, 63]) 0 0 1 [(0, .int x0)] (.int z :: []) (hO R g)) c10 rfl) ?_
                      refine m_go (L := [(66, .iconst 1, 1, 0, 0)]) (pc1 := 67) (lv1 := [(0, .int x0)]) (st1 := [.int (1 : Int32)]) (h1 := hO R g) (by decide +kernel) rfl ?_
                      cases h
                      exact m_ri (by decide +kernel)
                    · rw [if_neg c10] at h
                      by_cases c11 : x0 = 24
                      · rw [if_pos c11] at h
                        refine m_go1 (q := (1, .tableswitch 73 13 24 #[67, 67, 67, 67, 69, 69, 71, 71, 71, 73, 65, 63], 63, 0, 0)) (pc1 := 64) (lv1 := [(0, .int x0)]) (st1 := []) (h1 := hO R g) (by decide +kernel) (m_swx (fun z => m_loc m_ft X (.tableswitch 73 13 24 #[67, 67, 67, 67, 69, 69, 71, 71, 71, 73, 65, 63]) 0 0 1 [(0, .int x0)] (.int z :: []) (hO R g)) c11 rfl) ?_
                        refine m_go (L := [(64, .iconst 0, 1, 0, 0)]) (pc1 := 65) (lv1 := [(0, .int x0)]) (st1 := [.int (0 : Int32)]) (h1 := hO R g) (by decide +kernel) rfl ?_
                        cases h
                        exact m_ri (by decide +kernel)
                      · rw [if_neg c11] at h
                        have hx : m_loc m_ft X (.tableswitch 73 13 24 #[67, 67, 67, 67, 69, 69, 71, 71, 71, 73, 65, 63]) 0 0 1 [(0, .int x0)] ([.int x0]) (hO R g) = some (74, [(0, .int x0)], [], hO R g) := by
                          by_cases hz : Int32.toInt x0 < 13 ∨ 24 < Int32.toInt x0
                          · exact if_pos hz
                          · have z0 := m_ne (k := 13) (z := 13) (by decide) c1; have z1 := m_ne (k := 14) (z := 14) (by decide) c2; have z2 := m_ne (k := 15) (z := 15) (by decide) c3; have z3 := m_ne (k := 16) (z := 16) (by decide) c4; have z4 := m_ne (k := 17) (z := 17) (by decide) c5; have z5 := m_ne (k := 18) (z := 18) (by decide) c6; have z6 := m_ne (k := 19) (z := 19) (by decide) c7; have z7 := m_ne (k := 20) (z := 20) (by decide) c8; have z8 := m_ne (k := 21) (z := 21) (by decide) c9; have z9 := m_ne (k := 23) (z := 23) (by decide) c10; have z10 := m_ne (k := 24) (z := 24) (by decide) c11; have hw : x0 = 22 := by
                              have hv : Int32.toInt x0 = 22 := by omega
                              exact Int32.toInt_inj.mp hv
                            exact m_swx (fun z => m_loc m_ft X (.tableswitch 73 13 24 #[67, 67, 67, 67, 69, 69, 71, 71, 71, 73, 65, 63]) 0 0 1 [(0, .int x0)] (.int z :: []) (hO R g)) hw rfl
                        refine m_go1 (q := (1, .tableswitch 73 13 24 #[67, 67, 67, 67, 69, 69, 71, 71, 71, 73, 65, 63], 63, 0, 0)) (by decide +kernel) hx ?_
                        refine m_go (L := [(74, .iconst (-1), 1, 0, 0)]) (pc1 := 75) (lv1 := [(0, .int x0)]) (st1 := [.int (-1 : Int32)]) (h1 := hO R g) (by decide +kernel) rfl ?_
                        cases h
                        exact m_ri (by decide +kernel)
def f24 (n : Nat) (x0 : Int32) (x1 : Int32) (x2 : Int32) (g : mG) : mZ := if x1 = x2 then if x0 = 13 then some (.inl (some (.int (1 : Int32))), g) else if x0 = 14 then some (.inl (some (.int (1 : Int32))), g) else if x0 = 15 then if ¬ x1 = 0 then some (.inl (some (.int (-1 : Int32))), g) else some (.inl (some (.int (1 : Int32))), g) else if x0 = 16 then if ¬ x1 = 0 then some (.inl (some (.int (-1 : Int32))), g) else some (.inl (some (.int (1 : Int32))), g) else if x0 = 23 then if ¬ x1 = (1 : Int32) then some (.inl (some (.int (-1 : Int32))), g) else some (.inl (some (.int (1 : Int32))), g) else if x0 = 24 then if ¬ x1 = (1 : Int32) then some (.inl (some (.int (-1 : Int32))), g) else some (.inl (some (.int (1 : Int32))), g) else if ¬ x1 = 0 then some (.inl (some (.int (-1 : Int32))), g) else some (.inl (some (.int (0 : Int32))), g) else some (.inl (some (.int (-1 : Int32))), g)
theorem Fr24 {R : Nat} {x0 : Int32} {x1 : Int32} {x2 : Int32} {g g' : mG} {o : mO} (h : f24 n x0 x1 x2 g = some (o, g')) : m_Run X (0) (m_ko o) 24 0 [(0, .int x0), (1, .int x1), (2, .int x2)] [] (hO R g) o (hO R g') := by
  unfold f24 at h
  refine m_gob (c := x1 = x2) (t := 7) (f := 5) (L := [(0, .iload_n 1, 1, 0, 0), (1, .iload_n 2, 1, 0, 0), (2, .if_icmp .eq 5, 3, 0, 0)]) (lv1 := [(0, .int x0), (1, .int x1), (2, .int x2)]) (st1 := []) (h1 := hO R g) (by decide +kernel) rfl (fun c1 => ?_) (fun c1 => ?_)
  · rw [if_pos c1] at h
    refine m_go (L := [(7, .iload_n 0, 1, 0, 0)]) (pc1 := 8) (lv1 := [(0, .int x0), (1, .int x1), (2, .int x2)]) (st1 := [.int x0]) (h1 := hO R g) (by decide +kernel) rfl ?_
    by_cases c2 : x0 = 13
    · rw [if_pos c2] at h
      refine m_go1 (q := (8, .tableswitch 87 13 24 #[64, 64, 77, 77, 87, 87, 87, 87, 87, 87, 66, 66], 64, 0, 0)) (pc1 := 72) (lv1 := [(0, .int x0), (1, .int x1), (2, .int x2)]) (st1 := []) (h1 := hO R g) (by decide +kernel) (m_swx (fun z => m_loc m_ft X (.tableswitch 87 13 24 #[64, 64, 77, 77, 87, 87, 87, 87, 87, 87, 66, 66]) 0 0 8 [(0, .int x0), (1, .int x1), (2, .int x2)] (.int z :: []) (hO R g)) c2 rfl) ?_
      refine m_go (L := [(72, .iconst 1, 1, 0, 0)]) (pc1 := 73) (lv1 := [(0, .int x0), (1, .int x1), (2, .int x2)]) (st1 := [.int (1 : Int32)]) (h1 := hO R g) (by decide +kernel) rfl ?_
      cases h
      exact m_ri (by decide +kernel)
    · rw [if_neg c2] at h
      by_cases c3 : x0 = 14
      · rw [if_pos c3] at h
        refine m_go1 (q := (8, .tableswitch 87 13 24 #[64, 64, 77, 77, 87, 87, 87, 87, 87, 87, 66, 66], 64, 0, 0)) (pc1 := 72) (lv1 := [(0, .int x0), (1, .int x1), (2, .int x2)]) (st1 := []) (h1 := hO R g) (by decide +kernel) (m_swx (fun z => m_loc m_ft X (.tableswitch 87 13 24 #[64, 64, 77, 77, 87, 87, 87, 87, 87, 87, 66, 66]) 0 0 8 [(0, .int x0), (1, .int x1), (2, .int x2)] (.int z :: []) (hO R g)) c3 rfl) ?_
        refine m_go (L := [(72, .iconst 1, 1, 0, 0)]) (pc1 := 73) (lv1 := [(0, .int x0), (1, .int x1), (2, .int x2)]) (st1 := [.int (1 : Int32)]) (h1 := hO R g) (by decide +kernel) rfl ?_
        cases h
        exact m_ri (by decide +kernel)
      · rw [if_neg c3] at h
        by_cases c4 : x0 = 15
        · rw [if_pos c4] at h
          refine m_go1 (q := (8, .tableswitch 87 13 24 #[64, 64, 77, 77, 87, 87, 87, 87, 87, 87, 66, 66], 64, 0, 0)) (pc1 := 85) (lv1 := [(0, .int x0), (1, .int x1), (2, .int x2)]) (st1 := []) (h1 := hO R g) (by decide +kernel) (m_swx (fun z => m_loc m_ft X (.tableswitch 87 13 24 #[64, 64, 77, 77, 87, 87, 87, 87, 87, 87, 66, 66]) 0 0 8 [(0, .int x0), (1, .int x1), (2, .int x2)] (.int z :: []) (hO R g)) c4 rfl) ?_
          refine m_gob (c := ¬ x1 = 0) (t := 93) (f := 89) (L := [(85, .iload_n 1, 1, 0, 0), (86, .ifCond .ne 7, 3, 0, 0)]) (lv1 := [(0, .int x0), (1, .int x1), (2, .int x2)]) (st1 := []) (h1 := hO R g) (by decide +kernel) rfl (fun c5 => ?_) (fun c5 => ?_)
          · rw [if_pos c5] at h
            refine m_go (L := [(93, .iconst (-1), 1, 0, 0)]) (pc1 := 94) (lv1 := [(0, .int x0), (1, .int x1), (2, .int x2)]) (st1 := [.int (-1 : Int32)]) (h1 := hO R g) (by decide +kernel) rfl ?_
            cases h
            exact m_ri (by decide +kernel)
          · rw [if_neg c5] at h
            refine m_go (L := [(89, .iconst 1, 1, 0, 0), (90, .goto 4, 3, 0, 0)]) (pc1 := 94) (lv1 := [(0, .int x0), (1, .int x1), (2, .int x2)]) (st1 := [.int (1 : Int32)]) (h1 := hO R g) (by decide +kernel) rfl ?_
            cases h
            exact m_ri (by decide +kernel)
        · rw [if_neg c4] at h
          by_cases c6 : x0 = 16
          · rw [if_pos c6] at h
            refine m_go1 (q := (8, .tableswitch 87 13 24 #[64, 64, 77, 77, 87, 87, 87, 87, 87, 87, 66, 66], 64, 0, 0)) (pc1 := 85) (lv1 := [(0, .int x0), (1, .int x1), (2, .int x2)]) (st1 := []) (h1 := hO R g) (by decide +kernel) (m_swx (fun z => m_loc m_ft X (.tableswitch 87 13 24 #[64, 64, 77, 77, 87, 87, 87, 87, 87, 87, 66, 66]) 0 0 8 [(0, .int x0), (1, .int x1), (2, .int x2)] (.int z :: []) (hO R g)) c6 rfl) ?_
            refine m_gob (c := ¬ x1 = 0) (t := 93) (f := 89) (L := [(85, .iload_n 1, 1, 0, 0), (86, .ifCond .ne 7, 3, 0, 0)]) (lv1 := [(0, .int x0), (1, .int x1), (2, .int x2)]) (st1 := []) (h1 := hO R g) (by decide +kernel) rfl (fun c7 => ?_) (fun c7 => ?_)
            · rw [if_pos c7] at h
              refine m_go (L := [(93, .iconst (-1), 1, 0, 0)]) (pc1 := 94) (lv1 := [(0, .int x0), (1, .int x1), (2, .int x2)]) (st1 := [.int (-1 : Int32)]) (h1 := hO R g) (by decide +kernel) rfl ?_
              cases h
              exact m_ri (by decide +kernel)
            · rw [if_neg c7] at h
              refine m_go (L := [(89, .iconst 1, 1, 0, 0), (90, .goto 4, 3, 0, 0)]) (pc1 := 94) (lv1 := [(0, .int x0), (1, .int x1), (2, .int x2)]) (st1 := [.int (1 : Int32)]) (h1 := hO R g) (by decide +kernel) rfl ?_
              cases h
              exact m_ri (by decide +kernel)
          · rw [if_neg c6] at h
            by_cases c8 : x0 = 23
            · rw [if_pos c8] at h
              refine m_go1 (q := (8, .tableswitch 87 13 24 #[64, 64, 77, 77, 87, 87, 87, 87, 87, 87, 66, 66], 64, 0, 0)) (pc1 := 74) (lv1 := [(0, .int x0), (1, .int x1), (2, .int x2)]) (st1 := []) (h1 := hO R g) (by decide +kernel) (m_swx (fun z => m_loc m_ft X (.tableswitch 87 13 24 #[64, 64, 77, 77, 87, 87, 87, 87, 87, 87, 66, 66]) 0 0 8 [(0, .int x0), (1, .int x1), (2, .int x2)] (.int z :: []) (hO R g)) c8 rfl) ?_
              refine m_gob (c := ¬ x1 = (1 : Int32)) (t := 83) (f := 79) (L := [(74, .iload_n 1, 1, 0, 0), (75, .iconst 1, 1, 0, 0), (76, .if_icmp .ne 7, 3, 0, 0)]) (lv1 := [(0, .int x0), (1, .int x1), (2, .int x2)]) (st1 := []) (h1 := hO R g) (by decide +kernel) rfl (fun c9 => ?_) (fun c9 => ?_)
              · rw [if_pos c9] at h
                refine m_go (L := [(83, .iconst (-1), 1, 0, 0)]) (pc1 := 84) (lv1 := [(0, .int x0), (1, .int x1), (2, .int x2)]) (st1 := [.int (-1 : Int32)]) (h1 := hO R g) (by decide +kernel) rfl ?_
                cases h
                exact m_ri (by decide +kernel)
              · rw [if_neg c9] at h
                refine m_go (L := [(79, .iconst 1, 1, 0, 0), (80, .goto 4, 3, 0, 0)]) (pc1 := 84) (lv1 := [(0, .int x0), (1, .int x1), (2, .int x2)]) (st1 := [.int (1 : Int32)]) (h1 := hO R g) (by decide +kernel) rfl ?_
                cases h
                exact m_ri (by decide +kernel)
            · rw [if_neg c8] at h
              by_cases c10 : x0 = 24
              · rw [if_pos c10] at h
                refine m_go1 (q := (8, .tableswitch 87 13 24 #[64, 64, 77, 77, 87, 87, 87, 87, 87, 87, 66, 66], 64, 0, 0)) (pc1 := 74) (lv1 := [(0, .int x0), (1, .int x1), (2, .int x2)]) (st1 := []) (h1 := hO R g) (by decide +kernel) (m_swx (fun z => m_loc m_ft X (.tableswitch 87 13 24 #[64, 64, 77, 77, 87, 87, 87, 87, 87, 87, 66, 66]) 0 0 8 [(0, .int x0), (1, .int x1), (2, .int x2)] (.int z :: []) (hO R g)) c10 rfl) ?_
                refine m_gob (c := ¬ x1 = (1 : Int32)) (t := 83) (f := 79) (L := [(74, .iload_n 1, 1, 0, 0), (75, .iconst 1, 1, 0, 0), (76, .if_icmp .ne 7, 3, 0, 0)]) (lv1 := [(0, .int x0), (1, .int x1), (2, .int x2)]) (st1 := []) (h1 := hO R g) (by decide +kernel) rfl (fun c11 => ?_) (fun c11 => ?_)
                · rw [if_pos c11] at h
                  refine m_go (L := [(83, .iconst (-1), 1, 0, 0)]) (pc1 := 84) (lv1 := [(0, .int x0), (1, .int x1), (2, .int x2)]) (st1 := [.int (-1 : Int32)]) (h1 := hO R g) (by decide +kernel) rfl ?_
                  cases h
                  exact m_ri (by decide +kernel)
                · rw [if_neg c11] at h
                  refine m_go (L := [(79, .iconst 1, 1, 0, 0), (80, .goto 4, 3, 0, 0)]) (pc1 := 84) (lv1 := [(0, .int x0), (1, .int x1), (2, .int x2)]) (st1 := [.int (1 : Int32)]) (h1 := hO R g) (by decide +kernel) rfl ?_
                  cases h
                  exact m_ri (by decide +kernel)
              · rw [if_neg c10] at h
                have hx : m_loc m_ft X (.tableswitch 87 13 24 #[64, 64, 77, 77, 87, 87, 87, 87, 87, 87, 66, 66]) 0 0 8 [(0, .int x0), (1, .int x1), (2, .int x2)] ([.int x0]) (hO R g) = some (95, [(0, .int x0), (1, .int x1), (2, .int x2)], [], hO R g) := by
                  by_cases hz : Int32.toInt x0 < 13 ∨ 24 < Int32.toInt x0
                  · exact if_pos hz
                  · have z0 := m_ne (k := 13) (z := 13) (by decide) c2; have z1 := m_ne (k := 14) (z := 14) (by decide) c3; have z2 := m_ne (k := 15) (z := 15) (by decide) c4; have z3 := m_ne (k := 16) (z := 16) (by decide) c6; have z4 := m_ne (k := 23) (z := 23) (by decide) c8; have z5 := m_ne (k := 24) (z := 24) (by decide) c10; have hw : x0 = 17 ∨ x0 = 18 ∨ x0 = 19 ∨ x0 = 20 ∨ x0 = 21 ∨ x0 = 22 := by
                      have hv : Int32.toInt x0 = 17 ∨ Int32.toInt x0 = 18 ∨ Int32.toInt x0 = 19 ∨ Int32.toInt x0 = 20 ∨ Int32.toInt x0 = 21 ∨ Int32.toInt x0 = 22 := by omega
                      rcases hv with hv | hv | hv | hv | hv | hv
                      · exact Or.inl (Int32.toInt_inj.mp hv)
                      · exact Or.inr (Or.inl (Int32.toInt_inj.mp hv))
                      · exact Or.inr (Or.inr (Or.inl (Int32.toInt_inj.mp hv)))
                      · exact Or.inr (Or.inr (Or.inr (Or.inl (Int32.toInt_inj.mp hv))))
                      · exact Or.inr (Or.inr (Or.inr (Or.inr (Or.inl (Int32.toInt_inj.mp hv)))))
                      · exact Or.inr (Or.inr (Or.inr (Or.inr (Or.inr (Int32.toInt_inj.mp hv)))))
                    rcases hw with hw | hw | hw | hw | hw | hw
                    · exact m_swx (fun z => m_loc m_ft X (.tableswitch 87 13 24 #[64, 64, 77, 77, 87, 87, 87, 87, 87, 87, 66, 66]) 0 0 8 [(0, .int x0), (1, .int x1), (2, .int x2)] (.int z :: []) (hO R g)) hw rfl
                    · exact m_swx (fun z => m_loc m_ft X (.tableswitch 87 13 24 #[64, 64, 77, 77, 87, 87, 87, 87, 87, 87, 66, 66]) 0 0 8 [(0, .int x0), (1, .int x1), (2, .int x2)] (.int z :: []) (hO R g)) hw rfl
                    · exact m_swx (fun z => m_loc m_ft X (.tableswitch 87 13 24 #[64, 64, 77, 77, 87, 87, 87, 87, 87, 87, 66, 66]) 0 0 8 [(0, .int x0), (1, .int x1), (2, .int x2)] (.int z :: []) (hO R g)) hw rfl
                    · exact m_swx (fun z => m_loc m_ft X (.tableswitch 87 13 24 #[64, 64, 77, 77, 87, 87, 87, 87, 87, 87, 66, 66]) 0 0 8 [(0, .int x0), (1, .int x1), (2, .int x2)] (.int z :: []) (hO R g)) hw rfl
                    · exact m_swx (fun z => m_loc m_ft X (.tableswitch 87 13 24 #[64, 64, 77, 77, 87, 87, 87, 87, 87, 87, 66, 66]) 0 0 8 [(0, .int x0), (1, .int x1), (2, .int x2)] (.int z :: []) (hO R g)) hw rfl
                    · exact m_swx (fun z => m_loc m_ft X (.tableswitch 87 13 24 #[64, 64, 77, 77, 87, 87, 87, 87, 87, 87, 66, 66]) 0 0 8 [(0, .int x0), (1, .int x1), (2, .int x2)] (.int z :: []) (hO R g)) hw rfl
                refine m_go1 (q := (8, .tableswitch 87 13 24 #[64, 64, 77, 77, 87, 87, 87, 87, 87, 87, 66, 66], 64, 0, 0)) (by decide +kernel) hx ?_
                refine m_gob (c := ¬ x1 = 0) (t := 103) (f := 99) (L := [(95, .iload_n 1, 1, 0, 0), (96, .ifCond .ne 7, 3, 0, 0)]) (lv1 := [(0, .int x0), (1, .int x1), (2, .int x2)]) (st1 := []) (h1 := hO R g) (by decide +kernel) rfl (fun c12 => ?_) (fun c12 => ?_)
                · rw [if_pos c12] at h
                  refine m_go (L := [(103, .iconst (-1), 1, 0, 0)]) (pc1 := 104) (lv1 := [(0, .int x0), (1, .int x1), (2, .int x2)]) (st1 := [.int (-1 : Int32)]) (h1 := hO R g) (by decide +kernel) rfl ?_
                  cases h
                  exact m_ri (by decide +kernel)
                · rw [if_neg c12] at h
                  refine m_go (L := [(99, .iconst 0, 1, 0, 0), (100, .goto 4, 3, 0, 0)]) (pc1 := 104) (lv1 := [(0, .int x0), (1, .int x1), (2, .int x2)]) (st1 := [.int (0 : Int32)]) (h1 := hO R g) (by decide +kernel) rfl ?_
                  cases h
                  exact m_ri (by decide +kernel)
  · rw [if_neg c1] at h
    refine m_go (L := [(5, .iconst (-1), 1, 0, 0)]) (pc1 := 6) (lv1 := [(0, .int x0), (1, .int x1), (2, .int x2)]) (st1 := [.int (-1 : Int32)]) (h1 := hO R g) (by decide +kernel) rfl ?_
    cases h
    exact m_ri (by decide +kernel)
def f37_3 (n : Nat) (x1 : Int32) (g : mG) : mZ := if x1 < 0 then some (.inl none, g) else if (g.1 12) ≤ x1 then some (.inl none, g) else if x1 < 0 ∨ 600 ≤ Int32.toNatClampNeg x1 then none else some (.inl none, (gS g 18 (upd (g.2.1 18) (Int32.toNatClampNeg x1) (g.1 12))))
theorem Fr37_3 {R : Nat} {x1 : Int32} {g g' : mG} {o : mO} (h : f37_3 n x1 g = some (o, g')) : m_Run X (0) (m_ko o) 37 0 [(0, .ref 3), (1, .int x1)] [] (hO R g) o (hO R g') := by
  unfold f37_3 at h
  refine m_gob (c := x1 < 0) (t := 22) (f := 4) (L := [(0, .iload_n 1, 1, 0, 0), (1, .ifCond .lt 21, 3, 0, 0)]) (lv1 := [(0, .ref 3), (1, .int x1)]) (st1 := []) (h1 := hO R g) (by decide +kernel) rfl (fun c1 => ?_) (fun c1 => ?_)
  · rw [if_pos c1] at h
    cases h
    exact m_rv (by decide +kernel)
  · rw [if_neg c1] at h
    refine m_gob (c := (g.1 12) ≤ x1) (t := 22) (f := 12) (L := [(4, .iload_n 1, 1, 0, 0), (5, .aload_n 0, 1, 0, 0), (6, .getfield 18, 3, 1, 2), (9, .if_icmp .ge 13, 3, 0, 0)]) (lv1 := [(0, .ref 3), (1, .int x1)]) (st1 := []) (h1 := hO R g) (by decide +kernel) rfl (fun c2 => ?_) (fun c2 => ?_)
    · rw [if_pos c2] at h
      cases h
      exact m_rv (by decide +kernel)
    · rw [if_neg c2] at h
      refine m_go (L := [(12, .aload_n 0, 1, 0, 0), (13, .getfield 15, 3, 1, 1), (16, .iload_n 1, 1, 0, 0), (17, .aload_n 0, 1, 0, 0), (18, .getfield 18, 3, 1, 2)]) (pc1 := 21) (lv1 := [(0, .ref 3), (1, .int x1)]) (st1 := [.int (g.1 12), .int x1, .ref 18]) (h1 := hO R g) (by decide +kernel) rfl ?_
      obtain ⟨c3, h⟩ := m_ifn_inv h
      refine m_go1 (q := (21, .iastore, 1, 0, 0)) (pc1 := 22) (lv1 := [(0, .ref 3), (1, .int x1)]) (st1 := []) (h1 := hO R (gS g 18 (upd (g.2.1 18) (Int32.toNatClampNeg x1) (g.1 12)))) (by decide +kernel) (if_neg c3) ?_
      cases h
      exact m_rv (by decide +kernel)
def f76 (n : Nat) (x1 : Int32) (g : mG) : mZ := if x1 < 0 then some (.inl (some (.int (0 : Int32))), g) else if (g.1 8) ≤ x1 then some (.inl (some (.int (0 : Int32))), g) else if x1 < 0 ∨ 601 ≤ Int32.toNatClampNeg x1 then none else some (.inl (some (.int ((g.2.1 15) (Int32.toNatClampNeg x1)))), g)
theorem Fr76 {R : Nat} {x1 : Int32} {g g' : mG} {o : mO} (h : f76 n x1 g = some (o, g')) : m_Run X (0) (m_ko o) 76 0 [(0, .ref 2), (1, .int x1)] [] (hO R g) o (hO R g') := by
  unfold f76 at h
  refine m_gob (c := x1 < 0) (t := 21) (f := 4) (L := [(0, .iload_n 1, 1, 0, 0), (1, .ifCond .lt 20, 3, 0, 0)]) (lv1 := [(0, .ref 2), (1, .int x1)]) (st1 := []) (h1 := hO R g) (by decide +kernel) rfl (fun c1 => ?_) (fun c1 => ?_)
  · rw [if_pos c1] at h
    refine m_go (L := [(21, .iconst 0, 1, 0, 0)]) (pc1 := 22) (lv1 := [(0, .ref 2), (1, .int x1)]) (st1 := [.int (0 : Int32)]) (h1 := hO R g) (by decide +kernel) rfl ?_
    cases h
    exact m_ri (by decide +kernel)
  · rw [if_neg c1] at h
    refine m_gob (c := (g.1 8) ≤ x1) (t := 21) (f := 12) (L := [(4, .iload_n 1, 1, 0, 0), (5, .aload_n 0, 1, 0, 0), (6, .getfield 24, 3, 4, 4), (9, .if_icmp .ge 12, 3, 0, 0)]) (lv1 := [(0, .ref 2), (1, .int x1)]) (st1 := []) (h1 := hO R g) (by decide +kernel) rfl (fun c2 => ?_) (fun c2 => ?_)
    · rw [if_pos c2] at h
      refine m_go (L := [(21, .iconst 0, 1, 0, 0)]) (pc1 := 22) (lv1 := [(0, .ref 2), (1, .int x1)]) (st1 := [.int (0 : Int32)]) (h1 := hO R g) (by decide +kernel) rfl ?_
      cases h
      exact m_ri (by decide +kernel)
    · rw [if_neg c2] at h
      refine m_go (L := [(12, .aload_n 0, 1, 0, 0), (13, .getfield 21, 3, 4, 3), (16, .iload_n 1, 1, 0, 0)]) (pc1 := 17) (lv1 := [(0, .ref 2), (1, .int x1)]) (st1 := [.int x1, .ref 15]) (h1 := hO R g) (by decide +kernel) rfl ?_
      obtain ⟨c3, h⟩ := m_ifn_inv h
      refine m_go1 (q := (17, .iaload, 1, 0, 0)) (pc1 := 18) (lv1 := [(0, .ref 2), (1, .int x1)]) (st1 := [.int ((g.2.1 15) (Int32.toNatClampNeg x1))]) (h1 := hO R g) (by decide +kernel) (if_neg c3) ?_
      refine m_go (L := [(18, .goto 4, 3, 0, 0)]) (pc1 := 22) (lv1 := [(0, .ref 2), (1, .int x1)]) (st1 := [.int ((g.2.1 15) (Int32.toNatClampNeg x1))]) (h1 := hO R g) (by decide +kernel) rfl ?_
      cases h
      exact m_ri (by decide +kernel)
def f21 (n : Nat) (x1 : Int32) (g : mG) : mZ := if x1 < 0 then some (.inl (some (.int (0 : Int32))), g) else if (g.1 7) ≤ x1 then some (.inl (some (.int (0 : Int32))), g) else if x1 < 0 ∨ 8 ≤ Int32.toNatClampNeg x1 then none else some (.inl (some (.int ((g.2.1 11) (Int32.toNatClampNeg x1)))), g)
theorem Fr21 {R : Nat} {x1 : Int32} {g g' : mG} {o : mO} (h : f21 n x1 g = some (o, g')) : m_Run X (0) (m_ko o) 21 0 [(0, .ref 1), (1, .int x1)] [] (hO R g) o (hO R g') := by
  unfold f21 at h
  refine m_gob (c := x1 < 0) (t := 21) (f := 4) (L := [(0, .iload_n 1, 1, 0, 0), (1, .ifCond .lt 20, 3, 0, 0)]) (lv1 := [(0, .ref 1), (1, .int x1)]) (st1 := []) (h1 := hO R g) (by decide +kernel) rfl (fun c1 => ?_) (fun c1 => ?_)
  · rw [if_pos c1] at h
    refine m_go (L := [(21, .iconst 0, 1, 0, 0)]) (pc1 := 22) (lv1 := [(0, .ref 1), (1, .int x1)]) (st1 := [.int (0 : Int32)]) (h1 := hO R g) (by decide +kernel) rfl ?_
    cases h
    exact m_ri (by decide +kernel)
  · rw [if_neg c1] at h
    refine m_gob (c := (g.1 7) ≤ x1) (t := 21) (f := 12) (L := [(4, .iload_n 1, 1, 0, 0), (5, .aload_n 0, 1, 0, 0), (6, .getfield 42, 3, 0, 7), (9, .if_icmp .ge 12, 3, 0, 0)]) (lv1 := [(0, .ref 1), (1, .int x1)]) (st1 := []) (h1 := hO R g) (by decide +kernel) rfl (fun c2 => ?_) (fun c2 => ?_)
    · rw [if_pos c2] at h
      refine m_go (L := [(21, .iconst 0, 1, 0, 0)]) (pc1 := 22) (lv1 := [(0, .ref 1), (1, .int x1)]) (st1 := [.int (0 : Int32)]) (h1 := hO R g) (by decide +kernel) rfl ?_
      cases h
      exact m_ri (by decide +kernel)
    · rw [if_neg c2] at h
      refine m_go (L := [(12, .aload_n 0, 1, 0, 0), (13, .getfield 39, 3, 0, 6), (16, .iload_n 1, 1, 0, 0)]) (pc1 := 17) (lv1 := [(0, .ref 1), (1, .int x1)]) (st1 := [.int x1, .ref 11]) (h1 := hO R g) (by decide +kernel) rfl ?_
      obtain ⟨c3, h⟩ := m_ifn_inv h
      refine m_go1 (q := (17, .iaload, 1, 0, 0)) (pc1 := 18) (lv1 := [(0, .ref 1), (1, .int x1)]) (st1 := [.int ((g.2.1 11) (Int32.toNatClampNeg x1))]) (h1 := hO R g) (by decide +kernel) (if_neg c3) ?_
      refine m_go (L := [(18, .goto 4, 3, 0, 0)]) (pc1 := 22) (lv1 := [(0, .ref 1), (1, .int x1)]) (st1 := [.int ((g.2.1 11) (Int32.toNatClampNeg x1))]) (h1 := hO R g) (by decide +kernel) rfl ?_
      cases h
      exact m_ri (by decide +kernel)
def f20_16 (n : Nat) (x2 : Int32) (g : mG) : mZ := m_ci (f34_3 n (36 : Int32) x2 g) (fun v7 g6 => m_ci (f21 n x2 g6) (fun v11 g10 => some (.inl (some (.int v11)), g10)))
theorem Fr20_16 {x2 : Int32} {g g' : mG} {o : mO} (h : f20_16 n x2 g = some (o, g')) : m_Run X (2) (m_ko o) 20 16 [(0, .ref 1), (2, .int x2)] [] (hO 8 g) o (hO 8 g') := by
  unfold f20_16 at h
  refine m_go (L := [(16, .aload_n 0, 1, 0, 0), (17, .getfield 21, 3, 0, 1), (20, .bipush 36, 2, 0, 0), (22, .iload_n 2, 1, 0, 0)]) (pc1 := 23) (lv1 := [(0, .ref 1), (2, .int x2)]) (st1 := [.int x2, .int (36 : Int32), .ref 3]) (h1 := hO 8 g) (by decide +kernel) rfl ?_
  rcases m_ci_inv h with ⟨v7, g6, e8, h⟩ | ⟨y9, g6, e8, rfl, rfl⟩
  · refine m_ca (q := (23, .invokevirtual 68, 3, 34, 2)) (a := 34) (vs := [.ref 3, .int (36 : Int32), .int x2]) (st := []) (d1 := 0) (by decide +kernel) rfl rfl rfl rfl (by decide) (Fr34_3 e8) ?_
    show m_Run X _ _ 20 26 [(0, .ref 1), (2, .int x2)] [.int v7] (hO 8 g6) _ _
    refine m_go (L := [(26, .pop, 1, 0, 0), (27, .aload_n 0, 1, 0, 0), (28, .iload_n 2, 1, 0, 0)]) (pc1 := 29) (lv1 := [(0, .ref 1), (2, .int x2)]) (st1 := [.int x2, .ref 1]) (h1 := hO 8 g6) (by decide +kernel) rfl ?_
    rcases m_ci_inv h with ⟨v11, g10, e12, h⟩ | ⟨y13, g10, e12, rfl, rfl⟩
    · refine m_ca (q := (29, .invokevirtual 133, 3, 21, 1)) (a := 21) (vs := [.ref 1, .int x2]) (st := []) (d1 := 0) (by decide +kernel) rfl rfl rfl rfl (by decide) (Fr21 e12) ?_
      show m_Run X _ _ 20 32 [(0, .ref 1), (2, .int x2)] [.int v11] (hO 8 g10) _ _
      cases h
      exact m_ri (by decide +kernel)
    · exact m_cx (q := (29, .invokevirtual 133, 3, 21, 1)) (a := 21) (vs := [.ref 1, .int x2]) (st := []) (d1 := 0) (by decide +kernel) (by decide +kernel) rfl rfl rfl rfl (by decide) (Fr21 e12)
  · exact m_cx (q := (23, .invokevirtual 68, 3, 34, 2)) (a := 34) (vs := [.ref 3, .int (36 : Int32), .int x2]) (st := []) (d1 := 0) (by decide +kernel) (by decide +kernel) rfl rfl rfl rfl (by decide) (Fr34_3 e8)
def f20 (n : Nat) (x1 : Int32) (g : mG) : mZ := m_ci (f9 n x1 g) (fun v2 g1 => if ¬ v2 = (-1 : Int32) then f20_16 n v2 g1 else m_cv (f3 n x1 g1) (fun g14 => f20_16 n v2 g14))
theorem Fr20 {x1 : Int32} {g g' : mG} {o : mO} (h : f20 n x1 g = some (o, g')) : m_Run X (2) (m_ko o) 20 0 [(0, .ref 1), (1, .int x1)] [] (hO 8 g) o (hO 8 g') := by
  unfold f20 at h
  refine m_go (L := [(0, .aload_n 0, 1, 0, 0), (1, .iload_n 1, 1, 0, 0)]) (pc1 := 2) (lv1 := [(0, .ref 1), (1, .int x1)]) (st1 := [.int x1, .ref 1]) (h1 := hO 8 g) (by decide +kernel) rfl ?_
  rcases m_ci_inv h with ⟨v2, g1, e3, h⟩ | ⟨y4, g1, e3, rfl, rfl⟩
  · refine m_ca (q := (2, .invokevirtual 130, 3, 9, 1)) (a := 9) (vs := [.ref 1, .int x1]) (st := []) (d1 := 1) (by decide +kernel) rfl rfl rfl rfl (by decide) (Fr9 e3) ?_
    show m_Run X _ _ 20 5 [(0, .ref 1), (1, .int x1)] [.int v2] (hO 8 g1) _ _
    refine m_gob (c := ¬ v2 = (-1 : Int32)) (t := 16) (f := 11) (L := [(5, .istore_n 2, 1, 0, 0), (6, .iload_n 2, 1, 0, 0), (7, .iconst (-1), 1, 0, 0), (8, .if_icmp .ne 8, 3, 0, 0)]) (lv1 := [(0, .ref 1), (1, .int x1), (2, .int v2)]) (st1 := []) (h1 := hO 8 g1) (by decide +kernel) rfl (fun c5 => ?_) (fun c5 => ?_)
    · rw [if_pos c5] at h
      exact m_r0 _ _ _ _ _ _ _ _ _ _ (m_pick [0, 2] rfl) (Fr20_16 h)
    · rw [if_neg c5] at h
      refine m_go (L := [(11, .aload_n 0, 1, 0, 0), (12, .iload_n 1, 1, 0, 0)]) (pc1 := 13) (lv1 := [(0, .ref 1), (1, .int x1), (2, .int v2)]) (st1 := [.int x1, .ref 1]) (h1 := hO 8 g1) (by decide +kernel) rfl ?_
      rcases m_cv_inv h with ⟨g14, e16, h⟩ | ⟨y17, g14, e16, rfl, rfl⟩
      · refine m_ca (q := (13, .invokevirtual 77, 3, 3, 1)) (a := 3) (vs := [.ref 1, .int x1]) (st := []) (d1 := 1) (by decide +kernel) rfl rfl rfl rfl (by decide) (Fr3 e16) ?_
        show m_Run X _ _ 20 16 [(0, .ref 1), (1, .int x1), (2, .int v2)] [] (hO 8 g14) _ _
        exact m_r0 _ _ _ _ _ _ _ _ _ _ (m_pick [0, 2] rfl) (Fr20_16 h)
      · exact m_cx (q := (13, .invokevirtual 77, 3, 3, 1)) (a := 3) (vs := [.ref 1, .int x1]) (st := []) (d1 := 1) (by decide +kernel) (by decide +kernel) rfl rfl rfl rfl (by decide) (Fr3 e16)
  · exact m_cx (q := (2, .invokevirtual 130, 3, 9, 1)) (a := 9) (vs := [.ref 1, .int x1]) (st := []) (d1 := 1) (by decide +kernel) (by decide +kernel) rfl rfl rfl rfl (by decide) (Fr9 e3)
def f18 (n : Nat) (x1 : Int32) (x2 : Int32) (x3 : Int32) (g : mG) : mZ := if x2 = x1 then some (.inl none, g) else m_cv (f3 n x3 g) (fun g2 => some (.inl none, g2))
theorem Fr18 {R : Nat} {x1 : Int32} {x2 : Int32} {x3 : Int32} {g g' : mG} {o : mO} (h : f18 n x1 x2 x3 g = some (o, g')) : m_Run X (2) (m_ko o) 18 0 [(0, .ref 1), (1, .int x1), (2, .int x2), (3, .int x3)] [] (hO R g) o (hO R g') := by
  unfold f18 at h
  refine m_gob (c := x2 = x1) (t := 10) (f := 5) (L := [(0, .iload_n 2, 1, 0, 0), (1, .iload_n 1, 1, 0, 0), (2, .if_icmp .eq 8, 3, 0, 0)]) (lv1 := [(0, .ref 1), (1, .int x1), (2, .int x2), (3, .int x3)]) (st1 := []) (h1 := hO R g) (by decide +kernel) rfl (fun c1 => ?_) (fun c1 => ?_)
  · rw [if_pos c1] at h
    cases h
    exact m_rv (by decide +kernel)
  · rw [if_neg c1] at h
    refine m_go (L := [(5, .aload_n 0, 1, 0, 0), (6, .iload_n 3, 1, 0, 0)]) (pc1 := 7) (lv1 := [(0, .ref 1), (1, .int x1), (2, .int x2), (3, .int x3)]) (st1 := [.int x3, .ref 1]) (h1 := hO R g) (by decide +kernel) rfl ?_
    rcases m_cv_inv h with ⟨g2, e4, h⟩ | ⟨y5, g2, e4, rfl, rfl⟩
    · refine m_ca (q := (7, .invokevirtual 77, 3, 3, 1)) (a := 3) (vs := [.ref 1, .int x3]) (st := []) (d1 := 1) (by decide +kernel) rfl rfl rfl rfl (by decide) (Fr3 e4) ?_
      show m_Run X _ _ 18 10 [(0, .ref 1), (1, .int x1), (2, .int x2), (3, .int x3)] [] (hO R g2) _ _
      cases h
      exact m_rv (by decide +kernel)
    · exact m_cx (q := (7, .invokevirtual 77, 3, 3, 1)) (a := 3) (vs := [.ref 1, .int x3]) (st := []) (d1 := 1) (by decide +kernel) (by decide +kernel) rfl rfl rfl rfl (by decide) (Fr3 e4)
def f4_2 (n : Nat) : Nat → Int32 → Int32 → mG → mZ
  | 0, _, _, _ => none
  | c + 1, x1, x2, g => if (g.1 13) ≤ x2 then some (.inl (some (.int (-1 : Int32))), g) else if x2 < 0 ∨ 8 ≤ Int32.toNatClampNeg x2 then none else m_ci (f75 n ((g.2.1 9) (Int32.toNatClampNeg x2)) x1 g) (fun v4 g3 => if v4 = 0 then f4_2 n c x1 (x2 + (1 : Int32)) g3 else some (.inl (some (.int x2)), g3))
set_option maxRecDepth 20000 in
theorem Fr4_2 : ∀ (c : Nat) (x1 : Int32) (x2 : Int32) (g g' : mG) (o : mO), f4_2 n c x1 x2 g = some (o, g') → m_Run X (1) (m_ko o) 4 2 [(0, .ref 1), (1, .int x1), (2, .int x2)] [] (hO 8 g) o (hO 8 g') := by
  intro c
  induction c with
  | zero => intro x1 x2 g g' o h; rw [f4_2] at h; cases h
  | succ c ih =>
    intro x1 x2 g g' o h
    rw [f4_2] at h
    refine m_gob (c := (g.1 13) ≤ x2) (t := 38) (f := 13) (L := [(2, .iload_n 2, 1, 0, 0), (3, .aload_n 0, 1, 0, 0), (4, .getfield 21, 3, 0, 1), (7, .getfield 74, 3, 1, 5), (10, .if_icmp .ge 28, 3, 0, 0)]) (lv1 := [(0, .ref 1), (1, .int x1), (2, .int x2)]) (st1 := []) (h1 := hO 8 g) (by decide +kernel) rfl (fun c1 => ?_) (fun c1 => ?_)
    · rw [if_pos c1] at h
      refine m_go (L := [(38, .iconst (-1), 1, 0, 0)]) (pc1 := 39) (lv1 := [(0, .ref 1), (1, .int x1), (2, .int x2)]) (st1 := [.int (-1 : Int32)]) (h1 := hO 8 g) (by decide +kernel) rfl ?_
      cases h
      exact m_ri (by decide +kernel)
    · rw [if_neg c1] at h
      refine m_go (L := [(13, .aload_n 0, 1, 0, 0), (14, .getfield 12, 3, 0, 0), (17, .aload_n 0, 1, 0, 0), (18, .getfield 32, 3, 0, 4), (21, .iload_n 2, 1, 0, 0)]) (pc1 := 22) (lv1 := [(0, .ref 1), (1, .int x1), (2, .int x2)]) (st1 := [.int x2, .ref 9, .ref 2]) (h1 := hO 8 g) (by decide +kernel) rfl ?_
      obtain ⟨c2, h⟩ := m_ifn_inv h
      refine m_go1 (q := (22, .iaload, 1, 0, 0)) (pc1 := 23) (lv1 := [(0, .ref 1), (1, .int x1), (2, .int x2)]) (st1 := [.int ((g.2.1 9) (Int32.toNatClampNeg x2)), .ref 2]) (h1 := hO 8 g) (by decide +kernel) (if_neg c2) ?_
      refine m_go (L := [(23, .iload_n 1, 1, 0, 0)]) (pc1 := 24) (lv1 := [(0, .ref 1), (1, .int x1), (2, .int x2)]) (st1 := [.int x1, .int ((g.2.1 9) (Int32.toNatClampNeg x2)), .ref 2]) (h1 := hO 8 g) (by decide +kernel) rfl ?_
      rcases m_ci_inv h with ⟨v4, g3, e5, h⟩ | ⟨y6, g3, e5, rfl, rfl⟩
      · refine m_ca (q := (24, .invokevirtual 180, 3, 75, 2)) (a := 75) (vs := [.ref 2, .int ((g.2.1 9) (Int32.toNatClampNeg x2)), .int x1]) (st := []) (d1 := 0) (by decide +kernel) rfl rfl rfl rfl (by decide) (Fr75 e5) ?_
        show m_Run X _ _ 4 27 [(0, .ref 1), (1, .int x1), (2, .int x2)] [.int v4] (hO 8 g3) _ _
        refine m_gob (c := v4 = 0) (t := 32) (f := 30) (L := [(27, .ifCond .eq 5, 3, 0, 0)]) (lv1 := [(0, .ref 1), (1, .int x1), (2, .int x2)]) (st1 := []) (h1 := hO 8 g3) (by decide +kernel) rfl (fun c7 => ?_) (fun c7 => ?_)
        · rw [if_pos c7] at h
          refine m_go (L := [(32, .iinc 2 1, 3, 0, 0), (35, .goto (-33), 3, 0, 0)]) (pc1 := 2) (lv1 := [(0, .ref 1), (1, .int x1), (2, .int (x2 + (1 : Int32)))]) (st1 := []) (h1 := hO 8 g3) (by decide +kernel) rfl ?_
          exact m_r0 _ _ _ _ _ _ _ _ _ _ (m_pick [0, 1, 2] rfl) (ih _ _ _ _ _ h)
        · rw [if_neg c7] at h
          refine m_go (L := [(30, .iload_n 2, 1, 0, 0)]) (pc1 := 31) (lv1 := [(0, .ref 1), (1, .int x1), (2, .int x2)]) (st1 := [.int x2]) (h1 := hO 8 g3) (by decide +kernel) rfl ?_
          cases h
          exact m_ri (by decide +kernel)
      · exact m_cx (q := (24, .invokevirtual 180, 3, 75, 2)) (a := 75) (vs := [.ref 2, .int ((g.2.1 9) (Int32.toNatClampNeg x2)), .int x1]) (st := []) (d1 := 0) (by decide +kernel) (by decide +kernel) rfl rfl rfl rfl (by decide) (Fr75 e5)
def f4 (n : Nat) (x1 : Int32) (g : mG) : mZ := f4_2 n n x1 (0 : Int32) g
theorem Fr4 {x1 : Int32} {g g' : mG} {o : mO} (h : f4 n x1 g = some (o, g')) : m_Run X (1) (m_ko o) 4 0 [(0, .ref 1), (1, .int x1)] [] (hO 8 g) o (hO 8 g') := by
  unfold f4 at h
  refine m_go (L := [(0, .iconst 0, 1, 0, 0), (1, .istore_n 2, 1, 0, 0)]) (pc1 := 2) (lv1 := [(0, .ref 1), (1, .int x1), (2, .int (0 : Int32))]) (st1 := []) (h1 := hO 8 g) (by decide +kernel) rfl ?_
  exact m_r0 _ _ _ _ _ _ _ _ _ _ (m_pick [0, 1, 2] rfl) (Fr4_2 _ _ _ _ _ _ h)
def f36_3 (n : Nat) (x1 : Int32) (g : mG) : mZ := if x1 < 0 then some (.inl (some (.int (0 : Int32))), g) else if (g.1 13) ≤ x1 then some (.inl (some (.int (0 : Int32))), g) else some (.inl (some (.int (1 : Int32))), g)
theorem Fr36_3 {R : Nat} {x1 : Int32} {g g' : mG} {o : mO} (h : f36_3 n x1 g = some (o, g')) : m_Run X (0) (m_ko o) 36 0 [(0, .ref 3), (1, .int x1)] [] (hO R g) o (hO R g') := by
  unfold f36_3 at h
  refine m_gob (c := x1 < 0) (t := 16) (f := 4) (L := [(0, .iload_n 1, 1, 0, 0), (1, .ifCond .lt 15, 3, 0, 0)]) (lv1 := [(0, .ref 3), (1, .int x1)]) (st1 := []) (h1 := hO R g) (by decide +kernel) rfl (fun c1 => ?_) (fun c1 => ?_)
  · rw [if_pos c1] at h
    refine m_go (L := [(16, .iconst 0, 1, 0, 0)]) (pc1 := 17) (lv1 := [(0, .ref 3), (1, .int x1)]) (st1 := [.int (0 : Int32)]) (h1 := hO R g) (by decide +kernel) rfl ?_
    cases h
    exact m_rz (by decide +kernel) (Or.inl rfl)
  · rw [if_neg c1] at h
    refine m_gob (c := (g.1 13) ≤ x1) (t := 16) (f := 12) (L := [(4, .iload_n 1, 1, 0, 0), (5, .aload_n 0, 1, 0, 0), (6, .getfield 28, 3, 1, 5), (9, .if_icmp .ge 7, 3, 0, 0)]) (lv1 := [(0, .ref 3), (1, .int x1)]) (st1 := []) (h1 := hO R g) (by decide +kernel) rfl (fun c2 => ?_) (fun c2 => ?_)
    · rw [if_pos c2] at h
      refine m_go (L := [(16, .iconst 0, 1, 0, 0)]) (pc1 := 17) (lv1 := [(0, .ref 3), (1, .int x1)]) (st1 := [.int (0 : Int32)]) (h1 := hO R g) (by decide +kernel) rfl ?_
      cases h
      exact m_rz (by decide +kernel) (Or.inl rfl)
    · rw [if_neg c2] at h
      refine m_go (L := [(12, .iconst 1, 1, 0, 0), (13, .goto 4, 3, 0, 0)]) (pc1 := 17) (lv1 := [(0, .ref 3), (1, .int x1)]) (st1 := [.int (1 : Int32)]) (h1 := hO R g) (by decide +kernel) rfl ?_
      cases h
      exact m_rz (by decide +kernel) (Or.inr rfl)
def f35_3 (n : Nat) (x1 : Int32) (g : mG) : mZ := m_ci (f36_3 n x1 g) (fun v2 g1 => if v2 = 0 then some (.inl (some (.int (0 : Int32))), g1) else if x1 < 0 ∨ 8 ≤ Int32.toNatClampNeg x1 then none else some (.inl (some (.int ((g1.2.1 20) (Int32.toNatClampNeg x1)))), g1))
theorem Fr35_3 {R : Nat} {x1 : Int32} {g g' : mG} {o : mO} (h : f35_3 n x1 g = some (o, g')) : m_Run X (1) (m_ko o) 35 0 [(0, .ref 3), (1, .int x1)] [] (hO R g) o (hO R g') := by
  unfold f35_3 at h
  refine m_go (L := [(0, .aload_n 0, 1, 0, 0), (1, .iload_n 1, 1, 0, 0)]) (pc1 := 2) (lv1 := [(0, .ref 3), (1, .int x1)]) (st1 := [.int x1, .ref 3]) (h1 := hO R g) (by decide +kernel) rfl ?_
  rcases m_ci_inv h with ⟨v2, g1, e3, h⟩ | ⟨y4, g1, e3, rfl, rfl⟩
  · refine m_ca (q := (2, .invokevirtual 37, 3, 36, 1)) (a := 36) (vs := [.ref 3, .int x1]) (st := []) (d1 := 0) (by decide +kernel) rfl rfl rfl rfl (by decide) (Fr36_3 e3) ?_
    show m_Run X _ _ 35 5 [(0, .ref 3), (1, .int x1)] [.int v2] (hO R g1) _ _
    refine m_gob (c := v2 = 0) (t := 17) (f := 8) (L := [(5, .ifCond .eq 12, 3, 0, 0)]) (lv1 := [(0, .ref 3), (1, .int x1)]) (st1 := []) (h1 := hO R g1) (by decide +kernel) rfl (fun c5 => ?_) (fun c5 => ?_)
    · rw [if_pos c5] at h
      refine m_go (L := [(17, .iconst 0, 1, 0, 0)]) (pc1 := 18) (lv1 := [(0, .ref 3), (1, .int x1)]) (st1 := [.int (0 : Int32)]) (h1 := hO R g1) (by decide +kernel) rfl ?_
      cases h
      exact m_ri (by decide +kernel)
    · rw [if_neg c5] at h
      refine m_go (L := [(8, .aload_n 0, 1, 0, 0), (9, .getfield 25, 3, 1, 4), (12, .iload_n 1, 1, 0, 0)]) (pc1 := 13) (lv1 := [(0, .ref 3), (1, .int x1)]) (st1 := [.int x1, .ref 20]) (h1 := hO R g1) (by decide +kernel) rfl ?_
      obtain ⟨c6, h⟩ := m_ifn_inv h
      refine m_go1 (q := (13, .iaload, 1, 0, 0)) (pc1 := 14) (lv1 := [(0, .ref 3), (1, .int x1)]) (st1 := [.int ((g1.2.1 20) (Int32.toNatClampNeg x1))]) (h1 := hO R g1) (by decide +kernel) (if_neg c6) ?_
      refine m_go (L := [(14, .goto 4, 3, 0, 0)]) (pc1 := 18) (lv1 := [(0, .ref 3), (1, .int x1)]) (st1 := [.int ((g1.2.1 20) (Int32.toNatClampNeg x1))]) (h1 := hO R g1) (by decide +kernel) rfl ?_
      cases h
      exact m_ri (by decide +kernel)
  · exact m_cx (q := (2, .invokevirtual 37, 3, 36, 1)) (a := 36) (vs := [.ref 3, .int x1]) (st := []) (d1 := 0) (by decide +kernel) (by decide +kernel) rfl rfl rfl rfl (by decide) (Fr36_3 e3)
end Dec
