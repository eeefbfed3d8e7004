section Dec
variable {X : Nat × (Nat → Int32)} {n : Nat}
def f150 (n : Nat) (x1 : Int32) (g : mG) : mZ := m_ti (f80 n x1 g) (fun v2 g1 => if (0 : Int32) < 0 ∨ 1 ≤ Int32.toNatClampNeg (0 : Int32) then none else some (.inl (some (.int (0 : Int32))), (gO g1 (vp_updL g1.2.2.2 (Int32.toNatClampNeg (0 : Int32)) (Int32.toInt64 v2))))) (fun y4 g1 => if y4 = 1 then some (.inl (some (.int (1 : Int32))), g1) else if y4 = 2 then some (.inl (some (.int (2 : Int32))), g1) else none)
theorem Fr150 {R : Nat} {x1 : Int32} {g g' : mG} {o : mO} (h : f150 n x1 g = some (o, g')) : m_Run X (2) (1) 150 0 [(0, .ref 0), (1, .int x1), (2, .ref 56)] [] (hO R g) o (hO R g') := by
  unfold f150 at h
  refine m_go (L := [(0, .aload_n 2, 1, 0, 0), (1, .iconst 0, 1, 0, 0), (2, .aload_n 0, 1, 0, 0), (3, .iload_n 1, 1, 0, 0)]) (pc1 := 4) (lv1 := [(0, .ref 0), (1, .int x1), (2, .ref 56)]) (st1 := [.int x1, .ref 0, .int (0 : Int32), .ref 56]) (h1 := hO R g) (by decide +kernel) rfl ?_
  rcases m_ti_inv h with ⟨v2, g1, e3, h⟩ | ⟨y4, g1, e3, h⟩
  · refine m_ca (q := (4, .invokevirtual 7, 3, 80, 1)) (a := 80) (vs := [.ref 0, .int x1]) (st := [.int (0 : Int32), .ref 56]) (d1 := 1) (by decide +kernel) rfl rfl rfl rfl (by decide) (Fr80 e3) ?_
    show m_Run X _ _ 150 7 [(0, .ref 0), (1, .int x1), (2, .ref 56)] [.int v2, .int (0 : Int32), .ref 56] (hO R g1) _ _
    refine m_go (L := [(7, .i2l, 1, 0, 0)]) (pc1 := 8) (lv1 := [(0, .ref 0), (1, .int x1), (2, .ref 56)]) (st1 := [.long (Int32.toInt64 v2), .int (0 : Int32), .ref 56]) (h1 := hO R g1) (by decide +kernel) rfl ?_
    obtain ⟨c5, h⟩ := m_ifn_inv h
    refine m_go1 (q := (8, .lastore, 1, 0, 0)) (pc1 := 9) (lv1 := [(0, .ref 0), (1, .int x1), (2, .ref 56)]) (st1 := []) (h1 := hO R (gO g1 (vp_updL g1.2.2.2 (Int32.toNatClampNeg (0 : Int32)) (Int32.toInt64 v2)))) (by decide +kernel) (if_neg (t := none) c5) ?_
    refine m_go (L := [(9, .goto 9, 3, 0, 0), (18, .iconst 0, 1, 0, 0)]) (pc1 := 19) (lv1 := [(0, .ref 0), (1, .int x1), (2, .ref 56)]) (st1 := [.int (0 : Int32)]) (h1 := hO R (gO g1 (vp_updL g1.2.2.2 (Int32.toNatClampNeg (0 : Int32)) (Int32.toInt64 v2)))) (by decide +kernel) rfl ?_
    cases h
    exact m_ri (by decide +kernel)
  · skip
    by_cases c6 : y4 = 1
    · rw [if_pos c6] at h
      subst c6
      refine m_ct (q := (4, .invokevirtual 7, 3, 80, 1)) (a := 80) (vs := [.ref 0, .int x1]) (st := [.int (0 : Int32), .ref 56]) (d1 := 1) (x := 1) (hp := 12) (i := 3) (len := 1) (by decide +kernel) (by decide +kernel) rfl rfl rfl rfl (by decide) (Fr80 e3) rfl ?_
      show m_Run X _ _ 150 13 [(0, .ref 0), (1, .int x1), (2, .ref 56)] [] (hO R g1) _ _
      refine m_go (L := [(13, .iconst 1, 1, 0, 0)]) (pc1 := 14) (lv1 := [(0, .ref 0), (1, .int x1), (2, .ref 56)]) (st1 := [.int (1 : Int32)]) (h1 := hO R g1) (by decide +kernel) rfl ?_
      cases h
      exact m_ri (by decide +kernel)
    · rw [if_neg c6] at h
      by_cases c7 : y4 = 2
      · rw [if_pos c7] at h
        subst c7
        refine m_ct (q := (4, .invokevirtual 7, 3, 80, 1)) (a := 80) (vs := [.ref 0, .int x1]) (st := [.int (0 : Int32), .ref 56]) (d1 := 1) (x := 2) (hp := 15) (i := 3) (len := 1) (by decide +kernel) (by decide +kernel) rfl rfl rfl rfl (by decide) (Fr80 e3) rfl ?_
        show m_Run X _ _ 150 16 [(0, .ref 0), (1, .int x1), (2, .ref 56)] [] (hO R g1) _ _
        refine m_go (L := [(16, .iconst 2, 1, 0, 0)]) (pc1 := 17) (lv1 := [(0, .ref 0), (1, .int x1), (2, .ref 56)]) (st1 := [.int (2 : Int32)]) (h1 := hO R g1) (by decide +kernel) rfl ?_
        cases h
        exact m_ri (by decide +kernel)
      · rw [if_neg c7] at h
        cases h
def f151 (n : Nat) (x1 : Int32) (g : mG) : mZ := m_tv (f82 n x1 g) (fun g1 => some (.inl (some (.int (0 : Int32))), g1)) (fun y4 g1 => if y4 = 1 then some (.inl (some (.int (1 : Int32))), g1) else none)
theorem Fr151 {R : Nat} {x1 : Int32} {g g' : mG} {o : mO} (h : f151 n x1 g = some (o, g')) : m_Run X (1) (1) 151 0 [(0, .ref 0), (1, .int x1)] [] (hO R g) o (hO R g') := by
  unfold f151 at h
  refine m_go (L := [(0, .aload_n 0, 1, 0, 0), (1, .iload_n 1, 1, 0, 0)]) (pc1 := 2) (lv1 := [(0, .ref 0), (1, .int x1)]) (st1 := [.int x1, .ref 0]) (h1 := hO R g) (by decide +kernel) rfl ?_
  rcases m_tv_inv h with ⟨g1, e3, h⟩ | ⟨y4, g1, e3, h⟩
  · refine m_ca (q := (2, .invokevirtual 17, 3, 82, 1)) (a := 82) (vs := [.ref 0, .int x1]) (st := []) (d1 := 0) (by decide +kernel) rfl rfl rfl rfl (by decide) (Fr82 e3) ?_
    show m_Run X _ _ 151 5 [(0, .ref 0), (1, .int x1)] [] (hO R g1) _ _
    refine m_go (L := [(5, .goto 6, 3, 0, 0), (11, .iconst 0, 1, 0, 0)]) (pc1 := 12) (lv1 := [(0, .ref 0), (1, .int x1)]) (st1 := [.int (0 : Int32)]) (h1 := hO R g1) (by decide +kernel) rfl ?_
    cases h
    exact m_ri (by decide +kernel)
  · skip
    by_cases c5 : y4 = 1
    · rw [if_pos c5] at h
      subst c5
      refine m_ct (q := (2, .invokevirtual 17, 3, 82, 1)) (a := 82) (vs := [.ref 0, .int x1]) (st := []) (d1 := 0) (x := 1) (hp := 8) (i := 2) (len := 1) (by decide +kernel) (by decide +kernel) rfl rfl rfl rfl (by decide) (Fr82 e3) rfl ?_
      show m_Run X _ _ 151 9 [(0, .ref 0), (1, .int x1)] [] (hO R g1) _ _
      refine m_go (L := [(9, .iconst 1, 1, 0, 0)]) (pc1 := 10) (lv1 := [(0, .ref 0), (1, .int x1)]) (st1 := [.int (1 : Int32)]) (h1 := hO R g1) (by decide +kernel) rfl ?_
      cases h
      exact m_ri (by decide +kernel)
    · rw [if_neg c5] at h
      cases h
def f152 (n : Nat) (x1 : Int32) (g : mG) : mZ := m_ti (f83 n x1 g) (fun v2 g1 => if (0 : Int32) < 0 ∨ 1 ≤ Int32.toNatClampNeg (0 : Int32) then none else some (.inl (some (.int (0 : Int32))), (gO g1 (vp_updL g1.2.2.2 (Int32.toNatClampNeg (0 : Int32)) (Int32.toInt64 v2))))) (fun y4 g1 => if y4 = 0 then some (.inl (some (.int (1 : Int32))), g1) else if y4 = 3 then some (.inl (some (.int (2 : Int32))), g1) else none)
theorem Fr152 {R : Nat} {x1 : Int32} {g g' : mG} {o : mO} (h : f152 n x1 g = some (o, g')) : m_Run X (3) (1) 152 0 [(0, .ref 0), (1, .int x1), (2, .ref 56)] [] (hO R g) o (hO R g') := by
  unfold f152 at h
  refine m_go (L := [(0, .aload_n 2, 1, 0, 0), (1, .iconst 0, 1, 0, 0), (2, .aload_n 0, 1, 0, 0), (3, .iload_n 1, 1, 0, 0)]) (pc1 := 4) (lv1 := [(0, .ref 0), (1, .int x1), (2, .ref 56)]) (st1 := [.int x1, .ref 0, .int (0 : Int32), .ref 56]) (h1 := hO R g) (by decide +kernel) rfl ?_
  rcases m_ti_inv h with ⟨v2, g1, e3, h⟩ | ⟨y4, g1, e3, h⟩
  · refine m_ca (q := (4, .invokevirtual 21, 3, 83, 1)) (a := 83) (vs := [.ref 0, .int x1]) (st := [.int (0 : Int32), .ref 56]) (d1 := 2) (by decide +kernel) rfl rfl rfl rfl (by decide) (Fr83 e3) ?_
    show m_Run X _ _ 152 7 [(0, .ref 0), (1, .int x1), (2, .ref 56)] [.int v2, .int (0 : Int32), .ref 56] (hO R g1) _ _
    refine m_go (L := [(7, .i2l, 1, 0, 0)]) (pc1 := 8) (lv1 := [(0, .ref 0), (1, .int x1), (2, .ref 56)]) (st1 := [.long (Int32.toInt64 v2), .int (0 : Int32), .ref 56]) (h1 := hO R g1) (by decide +kernel) rfl ?_
    obtain ⟨c5, h⟩ := m_ifn_inv h
    refine m_go1 (q := (8, .lastore, 1, 0, 0)) (pc1 := 9) (lv1 := [(0, .ref 0), (1, .int x1), (2, .ref 56)]) (st1 := []) (h1 := hO R (gO g1 (vp_updL g1.2.2.2 (Int32.toNatClampNeg (0 : Int32)) (Int32.toInt64 v2)))) (by decide +kernel) (if_neg (t := none) c5) ?_
    refine m_go (L := [(9, .goto 9, 3, 0, 0), (18, .iconst 0, 1, 0, 0)]) (pc1 := 19) (lv1 := [(0, .ref 0), (1, .int x1), (2, .ref 56)]) (st1 := [.int (0 : Int32)]) (h1 := hO R (gO g1 (vp_updL g1.2.2.2 (Int32.toNatClampNeg (0 : Int32)) (Int32.toInt64 v2)))) (by decide +kernel) rfl ?_
    cases h
    exact m_ri (by decide +kernel)
  · skip
    by_cases c6 : y4 = 0
    · rw [if_pos c6] at h
      subst c6
      refine m_ct (q := (4, .invokevirtual 21, 3, 83, 1)) (a := 83) (vs := [.ref 0, .int x1]) (st := [.int (0 : Int32), .ref 56]) (d1 := 2) (x := 0) (hp := 12) (i := 3) (len := 1) (by decide +kernel) (by decide +kernel) rfl rfl rfl rfl (by decide) (Fr83 e3) rfl ?_
      show m_Run X _ _ 152 13 [(0, .ref 0), (1, .int x1), (2, .ref 56)] [] (hO R g1) _ _
      refine m_go (L := [(13, .iconst 1, 1, 0, 0)]) (pc1 := 14) (lv1 := [(0, .ref 0), (1, .int x1), (2, .ref 56)]) (st1 := [.int (1 : Int32)]) (h1 := hO R g1) (by decide +kernel) rfl ?_
      cases h
      exact m_ri (by decide +kernel)
    · rw [if_neg c6] at h
      by_cases c7 : y4 = 3
      · rw [if_pos c7] at h
        subst c7
        refine m_ct (q := (4, .invokevirtual 21, 3, 83, 1)) (a := 83) (vs := [.ref 0, .int x1]) (st := [.int (0 : Int32), .ref 56]) (d1 := 2) (x := 3) (hp := 15) (i := 3) (len := 1) (by decide +kernel) (by decide +kernel) rfl rfl rfl rfl (by decide) (Fr83 e3) rfl ?_
        show m_Run X _ _ 152 16 [(0, .ref 0), (1, .int x1), (2, .ref 56)] [] (hO R g1) _ _
        refine m_go (L := [(16, .iconst 2, 1, 0, 0)]) (pc1 := 17) (lv1 := [(0, .ref 0), (1, .int x1), (2, .ref 56)]) (st1 := [.int (2 : Int32)]) (h1 := hO R g1) (by decide +kernel) rfl ?_
        cases h
        exact m_ri (by decide +kernel)
      · rw [if_neg c7] at h
        cases h
def f153 (n : Nat) (x1 : Int32) (x2 : Int32) (x3 : Int32) (x4 : Int32) (x5 : Int32) (g : mG) : mZ := m_ti (f84 n x1 x2 x3 x4 x5 g) (fun v2 g1 => if (0 : Int32) < 0 ∨ 1 ≤ Int32.toNatClampNeg (0 : Int32) then none else some (.inl (some (.int (0 : Int32))), (gO g1 (vp_updL g1.2.2.2 (Int32.toNatClampNeg (0 : Int32)) (Int32.toInt64 v2))))) (fun y4 g1 => if y4 = 0 then some (.inl (some (.int (1 : Int32))), g1) else if y4 = 3 then some (.inl (some (.int (2 : Int32))), g1) else if y4 = 1 then some (.inl (some (.int (3 : Int32))), g1) else none)
theorem Fr153 {R : Nat} {x1 : Int32} {x2 : Int32} {x3 : Int32} {x4 : Int32} {x5 : Int32} {g g' : mG} {o : mO} (h : f153 n x1 x2 x3 x4 x5 g = some (o, g')) : m_Run X (6) (1) 153 0 [(0, .ref 0), (1, .int x1), (2, .int x2), (3, .int x3), (4, .int x4), (5, .int x5), (6, .ref 56)] [] (hO R g) o (hO R g') := by
  unfold f153 at h
  refine m_go (L := [(0, .aload 6, 2, 0, 0), (2, .iconst 0, 1, 0, 0), (3, .aload_n 0, 1, 0, 0), (4, .iload_n 1, 1, 0, 0), (5, .iload_n 2, 1, 0, 0), (6, .iload_n 3, 1, 0, 0), (7, .iload 4, 2, 0, 0), (9, .iload 5, 2, 0, 0)]) (pc1 := 11) (lv1 := [(0, .ref 0), (1, .int x1), (2, .int x2), (3, .int x3), (4, .int x4), (5, .int x5), (6, .ref 56)]) (st1 := [.int x5, .int x4, .int x3, .int x2, .int x1, .ref 0, .int (0 : Int32), .ref 56]) (h1 := hO R g) (by decide +kernel) rfl ?_
  rcases m_ti_inv h with ⟨v2, g1, e3, h⟩ | ⟨y4, g1, e3, h⟩
  · refine m_ca (q := (11, .invokevirtual 28, 3, 84, 5)) (a := 84) (vs := [.ref 0, .int x1, .int x2, .int x3, .int x4, .int x5]) (st := [.int (0 : Int32), .ref 56]) (d1 := 5) (by decide +kernel) rfl rfl rfl rfl (by decide) (Fr84 e3) ?_
    show m_Run X _ _ 153 14 [(0, .ref 0), (1, .int x1), (2, .int x2), (3, .int x3), (4, .int x4), (5, .int x5), (6, .ref 56)] [.int v2, .int (0 : Int32), .ref 56] (hO R g1) _ _
    refine m_go (L := [(14, .i2l, 1, 0, 0)]) (pc1 := 15) (lv1 := [(0, .ref 0), (1, .int x1), (2, .int x2), (3, .int x3), (4, .int x4), (5, .int x5), (6, .ref 56)]) (st1 := [.long (Int32.toInt64 v2), .int (0 : Int32), .ref 56]) (h1 := hO R g1) (by decide +kernel) rfl ?_
    obtain ⟨c5, h⟩ := m_ifn_inv h
    refine m_go1 (q := (15, .lastore, 1, 0, 0)) (pc1 := 16) (lv1 := [(0, .ref 0), (1, .int x1), (2, .int x2), (3, .int x3), (4, .int x4), (5, .int x5), (6, .ref 56)]) (st1 := []) (h1 := hO R (gO g1 (vp_updL g1.2.2.2 (Int32.toNatClampNeg (0 : Int32)) (Int32.toInt64 v2)))) (by decide +kernel) (if_neg (t := none) c5) ?_
    refine m_go (L := [(16, .goto 15, 3, 0, 0), (31, .iconst 0, 1, 0, 0)]) (pc1 := 32) (lv1 := [(0, .ref 0), (1, .int x1), (2, .int x2), (3, .int x3), (4, .int x4), (5, .int x5), (6, .ref 56)]) (st1 := [.int (0 : Int32)]) (h1 := hO R (gO g1 (vp_updL g1.2.2.2 (Int32.toNatClampNeg (0 : Int32)) (Int32.toInt64 v2)))) (by decide +kernel) rfl ?_
    cases h
    exact m_ri (by decide +kernel)
  · skip
    by_cases c6 : y4 = 0
    · rw [if_pos c6] at h
      subst c6
      refine m_ct (q := (11, .invokevirtual 28, 3, 84, 5)) (a := 84) (vs := [.ref 0, .int x1, .int x2, .int x3, .int x4, .int x5]) (st := [.int (0 : Int32), .ref 56]) (d1 := 5) (x := 0) (hp := 19) (i := 7) (len := 2) (by decide +kernel) (by decide +kernel) rfl rfl rfl rfl (by decide) (Fr84 e3) rfl ?_
      show m_Run X _ _ 153 21 [(0, .ref 0), (1, .int x1), (2, .int x2), (3, .int x3), (4, .int x4), (5, .int x5), (6, .ref 56)] [] (hO R g1) _ _
      refine m_go (L := [(21, .iconst 1, 1, 0, 0)]) (pc1 := 22) (lv1 := [(0, .ref 0), (1, .int x1), (2, .int x2), (3, .int x3), (4, .int x4), (5, .int x5), (6, .ref 56)]) (st1 := [.int (1 : Int32)]) (h1 := hO R g1) (by decide +kernel) rfl ?_
      cases h
      exact m_ri (by decide +kernel)
    · rw [if_neg c6] at h
      by_cases c7 : y4 = 3
      · rw [if_pos c7] at h
        subst c7
        refine m_ct (q := (11, .invokevirtual 28, 3, 84, 5)) (a := 84) (vs := [.ref 0, .int x1, .int x2, .int x3, .int x4, .int x5]) (st := [.int (0 : Int32), .ref 56]) (d1 := 5) (x := 3) (hp := 23) (i := 7) (len := 2) (by decide +kernel) (by decide +kernel) rfl rfl rfl rfl (by decide) (Fr84 e3) rfl ?_
        show m_Run X _ _ 153 25 [(0, .ref 0), (1, .int x1), (2, .int x2), (3, .int x3), (4, .int x4), (5, .int x5), (6, .ref 56)] [] (hO R g1) _ _
        refine m_go (L := [(25, .iconst 2, 1, 0, 0)]) (pc1 := 26) (lv1 := [(0, .ref 0), (1, .int x1), (2, .int x2), (3, .int x3), (4, .int x4), (5, .int x5), (6, .ref 56)]) (st1 := [.int (2 : Int32)]) (h1 := hO R g1) (by decide +kernel) rfl ?_
        cases h
        exact m_ri (by decide +kernel)
      · rw [if_neg c7] at h
        by_cases c8 : y4 = 1
        · rw [if_pos c8] at h
          subst c8
          refine m_ct (q := (11, .invokevirtual 28, 3, 84, 5)) (a := 84) (vs := [.ref 0, .int x1, .int x2, .int x3, .int x4, .int x5]) (st := [.int (0 : Int32), .ref 56]) (d1 := 5) (x := 1) (hp := 27) (i := 7) (len := 2) (by decide +kernel) (by decide +kernel) rfl rfl rfl rfl (by decide) (Fr84 e3) rfl ?_
          show m_Run X _ _ 153 29 [(0, .ref 0), (1, .int x1), (2, .int x2), (3, .int x3), (4, .int x4), (5, .int x5), (6, .ref 56)] [] (hO R g1) _ _
          refine m_go (L := [(29, .iconst 3, 1, 0, 0)]) (pc1 := 30) (lv1 := [(0, .ref 0), (1, .int x1), (2, .int x2), (3, .int x3), (4, .int x4), (5, .int x5), (6, .ref 56)]) (st1 := [.int (3 : Int32)]) (h1 := hO R g1) (by decide +kernel) rfl ?_
          cases h
          exact m_ri (by decide +kernel)
        · rw [if_neg c8] at h
          cases h
def f154 (n : Nat) (x1 : Int32) (g : mG) : mZ := m_ti (f85 n x1 g) (fun v2 g1 => if (0 : Int32) < 0 ∨ 1 ≤ Int32.toNatClampNeg (0 : Int32) then none else some (.inl (some (.int (0 : Int32))), (gO g1 (vp_updL g1.2.2.2 (Int32.toNatClampNeg (0 : Int32)) (Int32.toInt64 v2))))) (fun y4 g1 => if y4 = 1 then some (.inl (some (.int (1 : Int32))), g1) else none)
theorem Fr154 {R : Nat} {x1 : Int32} {g g' : mG} {o : mO} (h : f154 n x1 g = some (o, g')) : m_Run X (1) (1) 154 0 [(0, .ref 0), (1, .int x1), (2, .ref 56)] [] (hO R g) o (hO R g') := by
  unfold f154 at h
  refine m_go (L := [(0, .aload_n 2, 1, 0, 0), (1, .iconst 0, 1, 0, 0), (2, .aload_n 0, 1, 0, 0), (3, .iload_n 1, 1, 0, 0)]) (pc1 := 4) (lv1 := [(0, .ref 0), (1, .int x1), (2, .ref 56)]) (st1 := [.int x1, .ref 0, .int (0 : Int32), .ref 56]) (h1 := hO R g) (by decide +kernel) rfl ?_
  rcases m_ti_inv h with ⟨v2, g1, e3, h⟩ | ⟨y4, g1, e3, h⟩
  · refine m_ca (q := (4, .invokevirtual 32, 3, 85, 1)) (a := 85) (vs := [.ref 0, .int x1]) (st := [.int (0 : Int32), .ref 56]) (d1 := 0) (by decide +kernel) rfl rfl rfl rfl (by decide) (Fr85 e3) ?_
    show m_Run X _ _ 154 7 [(0, .ref 0), (1, .int x1), (2, .ref 56)] [.int v2, .int (0 : Int32), .ref 56] (hO R g1) _ _
    refine m_go (L := [(7, .i2l, 1, 0, 0)]) (pc1 := 8) (lv1 := [(0, .ref 0), (1, .int x1), (2, .ref 56)]) (st1 := [.long (Int32.toInt64 v2), .int (0 : Int32), .ref 56]) (h1 := hO R g1) (by decide +kernel) rfl ?_
    obtain ⟨c5, h⟩ := m_ifn_inv h
    refine m_go1 (q := (8, .lastore, 1, 0, 0)) (pc1 := 9) (lv1 := [(0, .ref 0), (1, .int x1), (2, .ref 56)]) (st1 := []) (h1 := hO R (gO g1 (vp_updL g1.2.2.2 (Int32.toNatClampNeg (0 : Int32)) (Int32.toInt64 v2)))) (by decide +kernel) (if_neg (t := none) c5) ?_
    refine m_go (L := [(9, .goto 6, 3, 0, 0), (15, .iconst 0, 1, 0, 0)]) (pc1 := 16) (lv1 := [(0, .ref 0), (1, .int x1), (2, .ref 56)]) (st1 := [.int (0 : Int32)]) (h1 := hO R (gO g1 (vp_updL g1.2.2.2 (Int32.toNatClampNeg (0 : Int32)) (Int32.toInt64 v2)))) (by decide +kernel) rfl ?_
    cases h
    exact m_ri (by decide +kernel)
  · skip
    by_cases c6 : y4 = 1
    · rw [if_pos c6] at h
      subst c6
      refine m_ct (q := (4, .invokevirtual 32, 3, 85, 1)) (a := 85) (vs := [.ref 0, .int x1]) (st := [.int (0 : Int32), .ref 56]) (d1 := 0) (x := 1) (hp := 12) (i := 3) (len := 1) (by decide +kernel) (by decide +kernel) rfl rfl rfl rfl (by decide) (Fr85 e3) rfl ?_
      show m_Run X _ _ 154 13 [(0, .ref 0), (1, .int x1), (2, .ref 56)] [] (hO R g1) _ _
      refine m_go (L := [(13, .iconst 1, 1, 0, 0)]) (pc1 := 14) (lv1 := [(0, .ref 0), (1, .int x1), (2, .ref 56)]) (st1 := [.int (1 : Int32)]) (h1 := hO R g1) (by decide +kernel) rfl ?_
      cases h
      exact m_ri (by decide +kernel)
    · rw [if_neg c6] at h
      cases h
end Dec
