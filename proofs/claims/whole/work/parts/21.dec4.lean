section Dec
variable {X : Nat × (Nat → Int32)} {n : Nat}
def f86 (n : Nat) (g : mG) : mZ := some (.inl (some (.int (g.1 24))), g)
theorem Fr86 {R : Nat} {g g' : mG} {o : mO} (h : f86 n g = some (o, g')) : m_Run X (0) (m_ko o) 86 0 [(0, .ref 7)] [] (hO R g) o (hO R g') := by
  unfold f86 at h
  refine m_go (L := [(0, .aload_n 0, 1, 0, 0), (1, .getfield 82, 3, 6, 0)]) (pc1 := 4) (lv1 := [(0, .ref 7)]) (st1 := [.int (g.1 24)]) (h1 := hO R g) (by decide +kernel) rfl ?_
  cases h
  exact m_ri (by decide +kernel)
def f88_26 (n : Nat) (s1 : Int32) (g : mG) : mZ := if s1 ≤ 0 then some (.inl (some (.int (0 : Int32))), (gI g 24 s1)) else some (.inl (some (.int (1 : Int32))), (gI g 24 s1))
theorem Fr88_26 {R : Nat} {s1 : Int32} {g g' : mG} {o : mO} (h : f88_26 n s1 g = some (o, g')) : m_Run X (0) (m_ko o) 88 26 [(0, .ref 7)] [.int s1, .ref 7] (hO R g) o (hO R g') := by
  unfold f88_26 at h
  refine m_gob (c := s1 ≤ 0) (t := 40) (f := 36) (L := [(26, .putfield 82, 3, 6, 0), (29, .aload_n 0, 1, 0, 0), (30, .getfield 82, 3, 6, 0), (33, .ifCond .le 7, 3, 0, 0)]) (lv1 := [(0, .ref 7)]) (st1 := []) (h1 := hO R (gI g 24 s1)) (by decide +kernel) rfl (fun c4 => ?_) (fun c4 => ?_)
  · rw [if_pos c4] at h
    refine m_go (L := [(40, .iconst 0, 1, 0, 0)]) (pc1 := 41) (lv1 := [(0, .ref 7)]) (st1 := [.int (0 : Int32)]) (h1 := hO R (gI g 24 s1)) (by decide +kernel) rfl ?_
    cases h
    exact m_rz (by decide +kernel) (Or.inl rfl)
  · rw [if_neg c4] at h
    refine m_go (L := [(36, .iconst 1, 1, 0, 0), (37, .goto 4, 3, 0, 0)]) (pc1 := 41) (lv1 := [(0, .ref 7)]) (st1 := [.int (1 : Int32)]) (h1 := hO R (gI g 24 s1)) (by decide +kernel) rfl ?_
    cases h
    exact m_rz (by decide +kernel) (Or.inr rfl)
def f88 (n : Nat) (x1 : Int32) (x2 : Int32) (x3 : Int32) (g : mG) : mZ := if x1 = 0 then if x2 = 0 then if x3 = 0 then f88_26 n (0 : Int32) g else f88_26 n (3 : Int32) g else f88_26 n (2 : Int32) g else f88_26 n (1 : Int32) g
theorem Fr88 {R : Nat} {x1 : Int32} {x2 : Int32} {x3 : Int32} {g g' : mG} {o : mO} (h : f88 n x1 x2 x3 g = some (o, g')) : m_Run X (0) (m_ko o) 88 0 [(0, .ref 7), (1, .int x1), (2, .int x2), (3, .int x3)] [] (hO R g) o (hO R g') := by
  unfold f88 at h
  refine m_gob (c := x1 = 0) (t := 9) (f := 5) (L := [(0, .aload_n 0, 1, 0, 0), (1, .iload_n 1, 1, 0, 0), (2, .ifCond .eq 7, 3, 0, 0)]) (lv1 := [(0, .ref 7), (1, .int x1), (2, .int x2), (3, .int x3)]) (st1 := [.ref 7]) (h1 := hO R g) (by decide +kernel) rfl (fun c1 => ?_) (fun c1 => ?_)
  · rw [if_pos c1] at h
    refine m_gob (c := x2 = 0) (t := 17) (f := 13) (L := [(9, .iload_n 2, 1, 0, 0), (10, .ifCond .eq 7, 3, 0, 0)]) (lv1 := [(0, .ref 7), (1, .int x1), (2, .int x2), (3, .int x3)]) (st1 := [.ref 7]) (h1 := hO R g) (by decide +kernel) rfl (fun c2 => ?_) (fun c2 => ?_)
    · rw [if_pos c2] at h
      refine m_gob (c := x3 = 0) (t := 25) (f := 21) (L := [(17, .iload_n 3, 1, 0, 0), (18, .ifCond .eq 7, 3, 0, 0)]) (lv1 := [(0, .ref 7), (1, .int x1), (2, .int x2), (3, .int x3)]) (st1 := [.ref 7]) (h1 := hO R g) (by decide +kernel) rfl (fun c3 => ?_) (fun c3 => ?_)
      · rw [if_pos c3] at h
        refine m_go (L := [(25, .iconst 0, 1, 0, 0)]) (pc1 := 26) (lv1 := [(0, .ref 7), (1, .int x1), (2, .int x2), (3, .int x3)]) (st1 := [.int (0 : Int32), .ref 7]) (h1 := hO R g) (by decide +kernel) rfl ?_
        exact m_r0 _ _ _ _ _ _ _ _ _ _ (m_pick [0] rfl) (Fr88_26 h)
      · rw [if_neg c3] at h
        refine m_go (L := [(21, .iconst 3, 1, 0, 0), (22, .goto 4, 3, 0, 0)]) (pc1 := 26) (lv1 := [(0, .ref 7), (1, .int x1), (2, .int x2), (3, .int x3)]) (st1 := [.int (3 : Int32), .ref 7]) (h1 := hO R g) (by decide +kernel) rfl ?_
        exact m_r0 _ _ _ _ _ _ _ _ _ _ (m_pick [0] rfl) (Fr88_26 h)
    · rw [if_neg c2] at h
      refine m_go (L := [(13, .iconst 2, 1, 0, 0), (14, .goto 12, 3, 0, 0)]) (pc1 := 26) (lv1 := [(0, .ref 7), (1, .int x1), (2, .int x2), (3, .int x3)]) (st1 := [.int (2 : Int32), .ref 7]) (h1 := hO R g) (by decide +kernel) rfl ?_
      exact m_r0 _ _ _ _ _ _ _ _ _ _ (m_pick [0] rfl) (Fr88_26 h)
  · rw [if_neg c1] at h
    refine m_go (L := [(5, .iconst 1, 1, 0, 0), (6, .goto 20, 3, 0, 0)]) (pc1 := 26) (lv1 := [(0, .ref 7), (1, .int x1), (2, .int x2), (3, .int x3)]) (st1 := [.int (1 : Int32), .ref 7]) (h1 := hO R g) (by decide +kernel) rfl ?_
    exact m_r0 _ _ _ _ _ _ _ _ _ _ (m_pick [0] rfl) (Fr88_26 h)
def f87_102 (n : Nat) : Nat → Int32 → Int32 → mG → mZ
  | 0, _, _, _ => none
  | c + 1, x1, x4, g => if (4 : Int32) ≤ x4 then some (.inl (some (.int (g.1 25))), g) else if ((x1 >>> (((8 : Int32) * x4) &&& 31)) &&& (255 : Int32)) ≤ 0 then f87_102 n c x1 (x4 + (1 : Int32)) g else if (g.1 25) < 0 ∨ 600 ≤ Int32.toNatClampNeg (g.1 25) then none else f87_102 n c x1 (x4 + (1 : Int32)) (gI (gS g 32 (upd (g.2.1 32) (Int32.toNatClampNeg (g.1 25)) ((x1 >>> (((8 : Int32) * x4) &&& 31)) &&& (255 : Int32)))) 25 ((g.1 25) + (1 : Int32)))
set_option maxRecDepth 20000 in
theorem Fr87_102 {R : Nat} : ∀ (c : Nat) (x1 : Int32) (x4 : Int32) (g g' : mG) (o : mO), f87_102 n c x1 x4 g = some (o, g') → m_Run X (1) (m_ko o) 87 102 [(0, .ref 7), (1, .int x1), (4, .int x4)] [] (hO R g) o (hO R g') := by
  intro c
  induction c with
  | zero => intro x1 x4 g g' o h; rw [f87_102] at h; cases h
  | succ c ih =>
    intro x1 x4 g g' o h
    rw [f87_102] at h
    refine m_gob (c := (4 : Int32) ≤ x4) (t := 153) (f := 108) (L := [(102, .iload 4, 2, 0, 0), (104, .iconst 4, 1, 0, 0), (105, .if_icmp .ge 48, 3, 0, 0)]) (lv1 := [(0, .ref 7), (1, .int x1), (4, .int x4)]) (st1 := []) (h1 := hO R g) (by decide +kernel) rfl (fun c9 => ?_) (fun c9 => ?_)
    · rw [if_pos c9] at h
      refine m_go (L := [(153, .aload_n 0, 1, 0, 0), (154, .getfield 86, 3, 6, 2)]) (pc1 := 157) (lv1 := [(0, .ref 7), (1, .int x1), (4, .int x4)]) (st1 := [.int (g.1 25)]) (h1 := hO R g) (by decide +kernel) rfl ?_
      cases h
      exact m_ri (by decide +kernel)
    · rw [if_neg c9] at h
      refine m_gob (c := ((x1 >>> (((8 : Int32) * x4) &&& 31)) &&& (255 : Int32)) ≤ 0) (t := 147) (f := 126) (L := [(108, .iload_n 1, 1, 0, 0), (109, .bipush 8, 2, 0, 0), (111, .iload 4, 2, 0, 0), (113, .imul, 1, 0, 0), (114, .ishr, 1, 0, 0), (115, .sipush 255, 3, 0, 0), (118, .iand, 1, 0, 0), (119, .istore 5, 2, 0, 0), (121, .iload 5, 2, 0, 0), (123, .ifCond .le 24, 3, 0, 0)]) (lv1 := [(0, .ref 7), (1, .int x1), (4, .int x4), (5, .int ((x1 >>> (((8 : Int32) * x4) &&& 31)) &&& (255 : Int32)))]) (st1 := []) (h1 := hO R g) (by decide +kernel) rfl (fun c10 => ?_) (fun c10 => ?_)
      · rw [if_pos c10] at h
        refine m_go (L := [(147, .iinc 4 1, 3, 0, 0), (150, .goto (-48), 3, 0, 0)]) (pc1 := 102) (lv1 := [(0, .ref 7), (1, .int x1), (4, .int (x4 + (1 : Int32))), (5, .int ((x1 >>> (((8 : Int32) * x4) &&& 31)) &&& (255 : Int32)))]) (st1 := []) (h1 := hO R g) (by decide +kernel) rfl ?_
        exact m_r0 _ _ _ _ _ _ _ _ _ _ (m_pick [0, 1, 2] rfl) (ih _ _ _ _ _ h)
      · rw [if_neg c10] at h
        refine m_go (L := [(126, .aload_n 0, 1, 0, 0), (127, .getfield 7, 3, 6, 1), (130, .aload_n 0, 1, 0, 0), (131, .getfield 86, 3, 6, 2), (134, .iload 5, 2, 0, 0)]) (pc1 := 136) (lv1 := [(0, .ref 7), (1, .int x1), (4, .int x4), (5, .int ((x1 >>> (((8 : Int32) * x4) &&& 31)) &&& (255 : Int32)))]) (st1 := [.int ((x1 >>> (((8 : Int32) * x4) &&& 31)) &&& (255 : Int32)), .int (g.1 25), .ref 32]) (h1 := hO R g) (by decide +kernel) rfl ?_
        obtain ⟨c11, h⟩ := m_ifn_inv h
        refine m_go1 (q := (136, .iastore, 1, 0, 0)) (pc1 := 137) (lv1 := [(0, .ref 7), (1, .int x1), (4, .int x4), (5, .int ((x1 >>> (((8 : Int32) * x4) &&& 31)) &&& (255 : Int32)))]) (st1 := []) (h1 := hO R (gS g 32 (upd (g.2.1 32) (Int32.toNatClampNeg (g.1 25)) ((x1 >>> (((8 : Int32) * x4) &&& 31)) &&& (255 : Int32))))) (by decide +kernel) (if_neg c11) ?_
        refine m_go (L := [(137, .aload_n 0, 1, 0, 0), (138, .dup, 1, 0, 0), (139, .getfield 86, 3, 6, 2), (142, .iconst 1, 1, 0, 0), (143, .iadd, 1, 0, 0), (144, .putfield 86, 3, 6, 2), (147, .iinc 4 1, 3, 0, 0), (150, .goto (-48), 3, 0, 0)]) (pc1 := 102) (lv1 := [(0, .ref 7), (1, .int x1), (4, .int (x4 + (1 : Int32))), (5, .int ((x1 >>> (((8 : Int32) * x4) &&& 31)) &&& (255 : Int32)))]) (st1 := []) (h1 := hO R (gI (gS g 32 (upd (g.2.1 32) (Int32.toNatClampNeg (g.1 25)) ((x1 >>> (((8 : Int32) * x4) &&& 31)) &&& (255 : Int32)))) 25 ((g.1 25) + (1 : Int32)))) (by decide +kernel) rfl ?_
        exact m_r0 _ _ _ _ _ _ _ _ _ _ (m_pick [0, 1, 2] rfl) (ih _ _ _ _ _ h)
def f87_90 (n : Nat) (x1 : Int32) (s1 : Int32) (s2 : Int32) (g : mG) : mZ := m_ci (f88 n s1 s2 (0 : Int32) g) (fun v5 g4 => if v5 = 0 then f87_102 n n x1 (0 : Int32) g4 else some (.inl (some (.int (0 : Int32))), g4))
theorem Fr87_90 {R : Nat} {x1 : Int32} {s1 : Int32} {s2 : Int32} {g g' : mG} {o : mO} (h : f87_90 n x1 s1 s2 g = some (o, g')) : m_Run X (1) (m_ko o) 87 90 [(0, .ref 7), (1, .int x1)] [.int s2, .int s1, .ref 7] (hO R g) o (hO R g') := by
  unfold f87_90 at h
  refine m_go (L := [(90, .iconst 0, 1, 0, 0)]) (pc1 := 91) (lv1 := [(0, .ref 7), (1, .int x1)]) (st1 := [.int (0 : Int32), .int s2, .int s1, .ref 7]) (h1 := hO R g) (by decide +kernel) rfl ?_
  rcases m_ci_inv h with ⟨v5, g4, e6, h⟩ | ⟨y7, g4, e6, rfl, rfl⟩
  · refine m_ca (q := (91, .invokevirtual 89, 3, 88, 3)) (a := 88) (vs := [.ref 7, .int s1, .int s2, .int (0 : Int32)]) (st := []) (d1 := 0) (by decide +kernel) rfl rfl rfl rfl (by decide) (Fr88 e6) ?_
    show m_Run X _ _ 87 94 [(0, .ref 7), (1, .int x1)] [.int v5] (hO R g4) _ _
    refine m_gob (c := v5 = 0) (t := 99) (f := 97) (L := [(94, .ifCond .eq 5, 3, 0, 0)]) (lv1 := [(0, .ref 7), (1, .int x1)]) (st1 := []) (h1 := hO R g4) (by decide +kernel) rfl (fun c8 => ?_) (fun c8 => ?_)
    · rw [if_pos c8] at h
      refine m_go (L := [(99, .iconst 0, 1, 0, 0), (100, .istore 4, 2, 0, 0)]) (pc1 := 102) (lv1 := [(0, .ref 7), (1, .int x1), (4, .int (0 : Int32))]) (st1 := []) (h1 := hO R g4) (by decide +kernel) rfl ?_
      exact m_r0 _ _ _ _ _ _ _ _ _ _ (m_pick [0, 1, 2] rfl) (Fr87_102 _ _ _ _ _ _ h)
    · rw [if_neg c8] at h
      refine m_go (L := [(97, .iconst 0, 1, 0, 0)]) (pc1 := 98) (lv1 := [(0, .ref 7), (1, .int x1)]) (st1 := [.int (0 : Int32)]) (h1 := hO R g4) (by decide +kernel) rfl ?_
      cases h
      exact m_ri (by decide +kernel)
  · exact m_cx (q := (91, .invokevirtual 89, 3, 88, 3)) (a := 88) (vs := [.ref 7, .int s1, .int s2, .int (0 : Int32)]) (st := []) (d1 := 0) (by decide +kernel) (by decide +kernel) rfl rfl rfl rfl (by decide) (Fr88 e6)
def f87_73 (n : Nat) (x1 : Int32) (x2 : Int32) (s1 : Int32) (g : mG) : mZ := if ((g.1 25) + x2) ≤ (600 : Int32) then f87_90 n x1 s1 (0 : Int32) g else f87_90 n x1 s1 (1 : Int32) g
theorem Fr87_73 {R : Nat} {x1 : Int32} {x2 : Int32} {s1 : Int32} {g g' : mG} {o : mO} (h : f87_73 n x1 x2 s1 g = some (o, g')) : m_Run X (1) (m_ko o) 87 73 [(0, .ref 7), (1, .int x1), (2, .int x2)] [.int s1, .ref 7] (hO R g) o (hO R g') := by
  unfold f87_73 at h
  refine m_gob (c := ((g.1 25) + x2) ≤ (600 : Int32)) (t := 89) (f := 85) (L := [(73, .aload_n 0, 1, 0, 0), (74, .getfield 86, 3, 6, 2), (77, .iload_n 2, 1, 0, 0), (78, .iadd, 1, 0, 0), (79, .sipush 600, 3, 0, 0), (82, .if_icmp .le 7, 3, 0, 0)]) (lv1 := [(0, .ref 7), (1, .int x1), (2, .int x2)]) (st1 := [.int s1, .ref 7]) (h1 := hO R g) (by decide +kernel) rfl (fun c3 => ?_) (fun c3 => ?_)
  · rw [if_pos c3] at h
    refine m_go (L := [(89, .iconst 0, 1, 0, 0)]) (pc1 := 90) (lv1 := [(0, .ref 7), (1, .int x1), (2, .int x2)]) (st1 := [.int (0 : Int32), .int s1, .ref 7]) (h1 := hO R g) (by decide +kernel) rfl ?_
    exact m_r0 _ _ _ _ _ _ _ _ _ _ (m_pick [0, 1] rfl) (Fr87_90 h)
  · rw [if_neg c3] at h
    refine m_go (L := [(85, .iconst 1, 1, 0, 0), (86, .goto 4, 3, 0, 0)]) (pc1 := 90) (lv1 := [(0, .ref 7), (1, .int x1), (2, .int x2)]) (st1 := [.int (1 : Int32), .int s1, .ref 7]) (h1 := hO R g) (by decide +kernel) rfl ?_
    exact m_r0 _ _ _ _ _ _ _ _ _ _ (m_pick [0, 1] rfl) (Fr87_90 h)
def f87_7 (n : Nat) : Nat → Int32 → Int32 → Int32 → Int32 → mG → mZ
  | 0, _, _, _, _, _ => none
  | c + 1, x1, x2, x3, x4, g => if (4 : Int32) ≤ x4 then if ¬ x3 = 0 then f87_73 n x1 x2 (0 : Int32) g else f87_73 n x1 x2 (1 : Int32) g else if x3 = 0 then if ((x1 >>> (((8 : Int32) * x4) &&& 31)) &&& (255 : Int32)) ≤ 0 then f87_7 n c x1 x2 (0 : Int32) (x4 + (1 : Int32)) g else f87_7 n c x1 (x2 + (1 : Int32)) (0 : Int32) (x4 + (1 : Int32)) g else if (128 : Int32) ≤ ((x1 >>> (((8 : Int32) * x4) &&& 31)) &&& (255 : Int32)) then if ((x1 >>> (((8 : Int32) * x4) &&& 31)) &&& (255 : Int32)) ≤ 0 then f87_7 n c x1 x2 (0 : Int32) (x4 + (1 : Int32)) g else f87_7 n c x1 (x2 + (1 : Int32)) (0 : Int32) (x4 + (1 : Int32)) g else if ((x1 >>> (((8 : Int32) * x4) &&& 31)) &&& (255 : Int32)) ≤ 0 then f87_7 n c x1 x2 (1 : Int32) (x4 + (1 : Int32)) g else f87_7 n c x1 (x2 + (1 : Int32)) (1 : Int32) (x4 + (1 : Int32)) g
set_option maxRecDepth 20000 in
theorem Fr87_7 {R : Nat} : ∀ (c : Nat) (x1 : Int32) (x2 : Int32) (x3 : Int32) (x4 : Int32) (g g' : mG) (o : mO), f87_7 n c x1 x2 x3 x4 g = some (o, g') → m_Run X (1) (m_ko o) 87 7 [(0, .ref 7), (1, .int x1), (2, .int x2), (3, .int x3), (4, .int x4)] [] (hO R g) o (hO R g') := by
  intro c
  induction c with
  | zero => intro x1 x2 x3 x4 g g' o h; rw [f87_7] at h; cases h
  | succ c ih =>
    intro x1 x2 x3 x4 g g' o h
    rw [f87_7] at h
    refine m_gob (c := (4 : Int32) ≤ x4) (t := 63) (f := 13) (L := [(7, .iload 4, 2, 0, 0), (9, .iconst 4, 1, 0, 0), (10, .if_icmp .ge 53, 3, 0, 0)]) (lv1 := [(0, .ref 7), (1, .int x1), (2, .int x2), (3, .int x3), (4, .int x4)]) (st1 := []) (h1 := hO R g) (by decide +kernel) rfl (fun c1 => ?_) (fun c1 => ?_)
    · rw [if_pos c1] at h
      refine m_gob (c := ¬ x3 = 0) (t := 72) (f := 68) (L := [(63, .aload_n 0, 1, 0, 0), (64, .iload_n 3, 1, 0, 0), (65, .ifCond .ne 7, 3, 0, 0)]) (lv1 := [(0, .ref 7), (1, .int x1), (2, .int x2), (3, .int x3), (4, .int x4)]) (st1 := [.ref 7]) (h1 := hO R g) (by decide +kernel) rfl (fun c2 => ?_) (fun c2 => ?_)
      · rw [if_pos c2] at h
        refine m_go (L := [(72, .iconst 0, 1, 0, 0)]) (pc1 := 73) (lv1 := [(0, .ref 7), (1, .int x1), (2, .int x2), (3, .int x3), (4, .int x4)]) (st1 := [.int (0 : Int32), .ref 7]) (h1 := hO R g) (by decide +kernel) rfl ?_
        exact m_r0 _ _ _ _ _ _ _ _ _ _ (m_pick [0, 1, 2] rfl) (Fr87_73 h)
      · rw [if_neg c2] at h
        refine m_go (L := [(68, .iconst 1, 1, 0, 0), (69, .goto 4, 3, 0, 0)]) (pc1 := 73) (lv1 := [(0, .ref 7), (1, .int x1), (2, .int x2), (3, .int x3), (4, .int x4)]) (st1 := [.int (1 : Int32), .ref 7]) (h1 := hO R g) (by decide +kernel) rfl ?_
        exact m_r0 _ _ _ _ _ _ _ _ _ _ (m_pick [0, 1, 2] rfl) (Fr87_73 h)
    · rw [if_neg c1] at h
      refine m_gob (c := x3 = 0) (t := 42) (f := 30) (L := [(13, .iload_n 1, 1, 0, 0), (14, .bipush 8, 2, 0, 0), (16, .iload 4, 2, 0, 0), (18, .imul, 1, 0, 0), (19, .ishr, 1, 0, 0), (20, .sipush 255, 3, 0, 0), (23, .iand, 1, 0, 0), (24, .istore 5, 2, 0, 0), (26, .iload_n 3, 1, 0, 0), (27, .ifCond .eq 15, 3, 0, 0)]) (lv1 := [(0, .ref 7), (1, .int x1), (2, .int x2), (3, .int x3), (4, .int x4), (5, .int ((x1 >>> (((8 : Int32) * x4) &&& 31)) &&& (255 : Int32)))]) (st1 := []) (h1 := hO R g) (by decide +kernel) rfl (fun c12 => ?_) (fun c12 => ?_)
      · rw [if_pos c12] at h
        refine m_gob (c := ((x1 >>> (((8 : Int32) * x4) &&& 31)) &&& (255 : Int32)) ≤ 0) (t := 55) (f := 49) (L := [(42, .iconst 0, 1, 0, 0), (43, .istore_n 3, 1, 0, 0), (44, .iload 5, 2, 0, 0), (46, .ifCond .le 9, 3, 0, 0)]) (lv1 := [(0, .ref 7), (1, .int x1), (2, .int x2), (3, .int (0 : Int32)), (4, .int x4), (5, .int ((x1 >>> (((8 : Int32) * x4) &&& 31)) &&& (255 : Int32)))]) (st1 := []) (h1 := hO R g) (by decide +kernel) rfl (fun c13 => ?_) (fun c13 => ?_)
        · rw [if_pos c13] at h
          refine m_go (L := [(55, .iload_n 2, 1, 0, 0), (56, .istore_n 2, 1, 0, 0), (57, .iinc 4 1, 3, 0, 0), (60, .goto (-53), 3, 0, 0)]) (pc1 := 7) (lv1 := [(0, .ref 7), (1, .int x1), (2, .int x2), (3, .int (0 : Int32)), (4, .int (x4 + (1 : Int32))), (5, .int ((x1 >>> (((8 : Int32) * x4) &&& 31)) &&& (255 : Int32)))]) (st1 := []) (h1 := hO R g) (by decide +kernel) rfl ?_
          exact m_r0 _ _ _ _ _ _ _ _ _ _ (m_pick [0, 1, 2, 3, 4] rfl) (ih _ _ _ _ _ _ _ h)
        · rw [if_neg c13] at h
          refine m_go (L := [(49, .iload_n 2, 1, 0, 0), (50, .iconst 1, 1, 0, 0), (51, .iadd, 1, 0, 0), (52, .goto 4, 3, 0, 0), (56, .istore_n 2, 1, 0, 0), (57, .iinc 4 1, 3, 0, 0), (60, .goto (-53), 3, 0, 0)]) (pc1 := 7) (lv1 := [(0, .ref 7), (1, .int x1), (2, .int (x2 + (1 : Int32))), (3, .int (0 : Int32)), (4, .int (x4 + (1 : Int32))), (5, .int ((x1 >>> (((8 : Int32) * x4) &&& 31)) &&& (255 : Int32)))]) (st1 := []) (h1 := hO R g) (by decide +kernel) rfl ?_
          exact m_r0 _ _ _ _ _ _ _ _ _ _ (m_pick [0, 1, 2, 3, 4] rfl) (ih _ _ _ _ _ _ _ h)
      · rw [if_neg c12] at h
        refine m_gob (c := (128 : Int32) ≤ ((x1 >>> (((8 : Int32) * x4) &&& 31)) &&& (255 : Int32))) (t := 42) (f := 38) (L := [(30, .iload 5, 2, 0, 0), (32, .sipush 128, 3, 0, 0), (35, .if_icmp .ge 7, 3, 0, 0)]) (lv1 := [(0, .ref 7), (1, .int x1), (2, .int x2), (3, .int x3), (4, .int x4), (5, .int ((x1 >>> (((8 : Int32) * x4) &&& 31)) &&& (255 : Int32)))]) (st1 := []) (h1 := hO R g) (by decide +kernel) rfl (fun c14 => ?_) (fun c14 => ?_)
        · rw [if_pos c14] at h
          refine m_gob (c := ((x1 >>> (((8 : Int32) * x4) &&& 31)) &&& (255 : Int32)) ≤ 0) (t := 55) (f := 49) (L := [(42, .iconst 0, 1, 0, 0), (43, .istore_n 3, 1, 0, 0), (44, .iload 5, 2, 0, 0), (46, .ifCond .le 9, 3, 0, 0)]) (lv1 := [(0, .ref 7), (1, .int x1), (2, .int x2), (3, .int (0 : Int32)), (4, .int x4), (5, .int ((x1 >>> (((8 : Int32) * x4) &&& 31)) &&& (255 : Int32)))]) (st1 := []) (h1 := hO R g) (by decide +kernel) rfl (fun c15 => ?_) (fun c15 => ?_)
          · rw [if_pos c15] at h
            refine m_go (L := [(55, .iload_n 2, 1, 0, 0), (56, .istore_n 2, 1, 0, 0), (57, .iinc 4 1, 3, 0, 0), (60, .goto (-53), 3, 0, 0)]) (pc1 := 7) (lv1 := [(0, .ref 7), (1, .int x1), (2, .int x2), (3, .int (0 : Int32)), (4, .int (x4 + (1 : Int32))), (5, .int ((x1 >>> (((8 : Int32) * x4) &&& 31)) &&& (255 : Int32)))]) (st1 := []) (h1 := hO R g) (by decide +kernel) rfl ?_
            exact m_r0 _ _ _ _ _ _ _ _ _ _ (m_pick [0, 1, 2, 3, 4] rfl) (ih _ _ _ _ _ _ _ h)
          · rw [if_neg c15] at h
            refine m_go (L := [(49, .iload_n 2, 1, 0, 0), (50, .iconst 1, 1, 0, 0), (51, .iadd, 1, 0, 0), (52, .goto 4, 3, 0, 0), (56, .istore_n 2, 1, 0, 0), (57, .iinc 4 1, 3, 0, 0), (60, .goto (-53), 3, 0, 0)]) (pc1 := 7) (lv1 := [(0, .ref 7), (1, .int x1), (2, .int (x2 + (1 : Int32))), (3, .int (0 : Int32)), (4, .int (x4 + (1 : Int32))), (5, .int ((x1 >>> (((8 : Int32) * x4) &&& 31)) &&& (255 : Int32)))]) (st1 := []) (h1 := hO R g) (by decide +kernel) rfl ?_
            exact m_r0 _ _ _ _ _ _ _ _ _ _ (m_pick [0, 1, 2, 3, 4] rfl) (ih _ _ _ _ _ _ _ h)
        · rw [if_neg c14] at h
          refine m_gob (c := ((x1 >>> (((8 : Int32) * x4) &&& 31)) &&& (255 : Int32)) ≤ 0) (t := 55) (f := 49) (L := [(38, .iconst 1, 1, 0, 0), (39, .goto 4, 3, 0, 0), (43, .istore_n 3, 1, 0, 0), (44, .iload 5, 2, 0, 0), (46, .ifCond .le 9, 3, 0, 0)]) (lv1 := [(0, .ref 7), (1, .int x1), (2, .int x2), (3, .int (1 : Int32)), (4, .int x4), (5, .int ((x1 >>> (((8 : Int32) * x4) &&& 31)) &&& (255 : Int32)))]) (st1 := []) (h1 := hO R g) (by decide +kernel) rfl (fun c16 => ?_) (fun c16 => ?_)
          · rw [if_pos c16] at h
            refine m_go (L := [(55, .iload_n 2, 1, 0, 0), (56, .istore_n 2, 1, 0, 0), (57, .iinc 4 1, 3, 0, 0), (60, .goto (-53), 3, 0, 0)]) (pc1 := 7) (lv1 := [(0, .ref 7), (1, .int x1), (2, .int x2), (3, .int (1 : Int32)), (4, .int (x4 + (1 : Int32))), (5, .int ((x1 >>> (((8 : Int32) * x4) &&& 31)) &&& (255 : Int32)))]) (st1 := []) (h1 := hO R g) (by decide +kernel) rfl ?_
            exact m_r0 _ _ _ _ _ _ _ _ _ _ (m_pick [0, 1, 2, 3, 4] rfl) (ih _ _ _ _ _ _ _ h)
          · rw [if_neg c16] at h
            refine m_go (L := [(49, .iload_n 2, 1, 0, 0), (50, .iconst 1, 1, 0, 0), (51, .iadd, 1, 0, 0), (52, .goto 4, 3, 0, 0), (56, .istore_n 2, 1, 0, 0), (57, .iinc 4 1, 3, 0, 0), (60, .goto (-53), 3, 0, 0)]) (pc1 := 7) (lv1 := [(0, .ref 7), (1, .int x1), (2, .int (x2 + (1 : Int32))), (3, .int (1 : Int32)), (4, .int (x4 + (1 : Int32))), (5, .int ((x1 >>> (((8 : Int32) * x4) &&& 31)) &&& (255 : Int32)))]) (st1 := []) (h1 := hO R g) (by decide +kernel) rfl ?_
            exact m_r0 _ _ _ _ _ _ _ _ _ _ (m_pick [0, 1, 2, 3, 4] rfl) (ih _ _ _ _ _ _ _ h)
def f87 (n : Nat) (x1 : Int32) (g : mG) : mZ := f87_7 n n x1 (0 : Int32) (1 : Int32) (0 : Int32) g
theorem Fr87 {R : Nat} {x1 : Int32} {g g' : mG} {o : mO} (h : f87 n x1 g = some (o, g')) : m_Run X (1) (m_ko o) 87 0 [(0, .ref 7), (1, .int x1)] [] (hO R g) o (hO R g') := by
  unfold f87 at h
  refine m_go (L := [(0, .iconst 0, 1, 0, 0), (1, .istore_n 2, 1, 0, 0), (2, .iconst 1, 1, 0, 0), (3, .istore_n 3, 1, 0, 0), (4, .iconst 0, 1, 0, 0), (5, .istore 4, 2, 0, 0)]) (pc1 := 7) (lv1 := [(0, .ref 7), (1, .int x1), (2, .int (0 : Int32)), (3, .int (1 : Int32)), (4, .int (0 : Int32))]) (st1 := []) (h1 := hO R g) (by decide +kernel) rfl ?_
  exact m_r0 _ _ _ _ _ _ _ _ _ _ (m_pick [0, 1, 2, 3, 4] rfl) (Fr87_7 _ _ _ _ _ _ _ _ h)
def f90 (n : Nat) (x0 : Int32) (x1 : Int32) (x2 : Int32) (g : mG) : mZ := if x0 < x1 then some (.inl (some (.int (0 : Int32))), g) else if x2 < x0 then some (.inl (some (.int (0 : Int32))), g) else some (.inl (some (.int (1 : Int32))), g)
theorem Fr90 {R : Nat} {x0 : Int32} {x1 : Int32} {x2 : Int32} {g g' : mG} {o : mO} (h : f90 n x0 x1 x2 g = some (o, g')) : m_Run X (0) (m_ko o) 90 0 [(0, .int x0), (1, .int x1), (2, .int x2)] [] (hO R g) o (hO R g') := by
  unfold f90 at h
  refine m_gob (c := x0 < x1) (t := 14) (f := 5) (L := [(0, .iload_n 0, 1, 0, 0), (1, .iload_n 1, 1, 0, 0), (2, .if_icmp .lt 12, 3, 0, 0)]) (lv1 := [(0, .int x0), (1, .int x1), (2, .int x2)]) (st1 := []) (h1 := hO R g) (by decide +kernel) rfl (fun c1 => ?_) (fun c1 => ?_)
  · rw [if_pos c1] at h
    refine m_go (L := [(14, .iconst 0, 1, 0, 0)]) (pc1 := 15) (lv1 := [(0, .int x0), (1, .int x1), (2, .int x2)]) (st1 := [.int (0 : Int32)]) (h1 := hO R g) (by decide +kernel) rfl ?_
    cases h
    exact m_rz (by decide +kernel) (Or.inl rfl)
  · rw [if_neg c1] at h
    refine m_gob (c := x2 < x0) (t := 14) (f := 10) (L := [(5, .iload_n 0, 1, 0, 0), (6, .iload_n 2, 1, 0, 0), (7, .if_icmp .gt 7, 3, 0, 0)]) (lv1 := [(0, .int x0), (1, .int x1), (2, .int x2)]) (st1 := []) (h1 := hO R g) (by decide +kernel) rfl (fun c2 => ?_) (fun c2 => ?_)
    · rw [if_pos c2] at h
      refine m_go (L := [(14, .iconst 0, 1, 0, 0)]) (pc1 := 15) (lv1 := [(0, .int x0), (1, .int x1), (2, .int x2)]) (st1 := [.int (0 : Int32)]) (h1 := hO R g) (by decide +kernel) rfl ?_
      cases h
      exact m_rz (by decide +kernel) (Or.inl rfl)
    · rw [if_neg c2] at h
      refine m_go (L := [(10, .iconst 1, 1, 0, 0), (11, .goto 4, 3, 0, 0)]) (pc1 := 15) (lv1 := [(0, .int x0), (1, .int x1), (2, .int x2)]) (st1 := [.int (1 : Int32)]) (h1 := hO R g) (by decide +kernel) rfl ?_
      cases h
      exact m_rz (by decide +kernel) (Or.inr rfl)
def f89_18 (n : Nat) (x1 : Int32) (s1 : Int32) (g : mG) : mZ := m_ci (f88 n s1 (0 : Int32) (0 : Int32) g) (fun v7 g6 => if ¬ v7 = 0 then some (.inl none, g6) else some (.inl none, (gI g6 25 x1)))
theorem Fr89_18 {R : Nat} {x1 : Int32} {s1 : Int32} {g g' : mG} {o : mO} (h : f89_18 n x1 s1 g = some (o, g')) : m_Run X (1) (m_ko o) 89 18 [(0, .ref 7), (1, .int x1)] [.int s1, .ref 7] (hO R g) o (hO R g') := by
  unfold f89_18 at h
  refine m_go (L := [(18, .iconst 0, 1, 0, 0), (19, .iconst 0, 1, 0, 0)]) (pc1 := 20) (lv1 := [(0, .ref 7), (1, .int x1)]) (st1 := [.int (0 : Int32), .int (0 : Int32), .int s1, .ref 7]) (h1 := hO R g) (by decide +kernel) rfl ?_
  rcases m_ci_inv h with ⟨v7, g6, e8, h⟩ | ⟨y9, g6, e8, rfl, rfl⟩
  · refine m_ca (q := (20, .invokevirtual 89, 3, 88, 3)) (a := 88) (vs := [.ref 7, .int s1, .int (0 : Int32), .int (0 : Int32)]) (st := []) (d1 := 0) (by decide +kernel) rfl rfl rfl rfl (by decide) (Fr88 e8) ?_
    show m_Run X _ _ 89 23 [(0, .ref 7), (1, .int x1)] [.int v7] (hO R g6) _ _
    refine m_gob (c := ¬ v7 = 0) (t := 31) (f := 26) (L := [(23, .ifCond .ne 8, 3, 0, 0)]) (lv1 := [(0, .ref 7), (1, .int x1)]) (st1 := []) (h1 := hO R g6) (by decide +kernel) rfl (fun c10 => ?_) (fun c10 => ?_)
    · rw [if_pos c10] at h
      cases h
      exact m_rv (by decide +kernel)
    · rw [if_neg c10] at h
      refine m_go (L := [(26, .aload_n 0, 1, 0, 0), (27, .iload_n 1, 1, 0, 0), (28, .putfield 86, 3, 6, 2)]) (pc1 := 31) (lv1 := [(0, .ref 7), (1, .int x1)]) (st1 := []) (h1 := hO R (gI g6 25 x1)) (by decide +kernel) rfl ?_
      cases h
      exact m_rv (by decide +kernel)
  · exact m_cx (q := (20, .invokevirtual 89, 3, 88, 3)) (a := 88) (vs := [.ref 7, .int s1, .int (0 : Int32), .int (0 : Int32)]) (st := []) (d1 := 0) (by decide +kernel) (by decide +kernel) rfl rfl rfl rfl (by decide) (Fr88 e8)
def f89 (n : Nat) (x1 : Int32) (g : mG) : mZ := m_ci (f90 n x1 (0 : Int32) (g.1 25) g) (fun v2 g1 => if ¬ v2 = 0 then f89_18 n x1 (0 : Int32) g1 else f89_18 n x1 (1 : Int32) g1)
theorem Fr89 {R : Nat} {x1 : Int32} {g g' : mG} {o : mO} (h : f89 n x1 g = some (o, g')) : m_Run X (1) (m_ko o) 89 0 [(0, .ref 7), (1, .int x1)] [] (hO R g) o (hO R g') := by
  unfold f89 at h
  refine m_go (L := [(0, .aload_n 0, 1, 0, 0), (1, .iload_n 1, 1, 0, 0), (2, .iconst 0, 1, 0, 0), (3, .aload_n 0, 1, 0, 0), (4, .getfield 86, 3, 6, 2)]) (pc1 := 7) (lv1 := [(0, .ref 7), (1, .int x1)]) (st1 := [.int (g.1 25), .int (0 : Int32), .int x1, .ref 7]) (h1 := hO R g) (by decide +kernel) rfl ?_
  rcases m_ci_inv h with ⟨v2, g1, e3, h⟩ | ⟨y4, g1, e3, rfl, rfl⟩
  · refine m_ca (q := (7, .invokestatic 93, 3, 90, 3)) (a := 90) (vs := [.int x1, .int (0 : Int32), .int (g.1 25)]) (st := [.ref 7]) (d1 := 0) (by decide +kernel) rfl rfl rfl rfl (by decide) (Fr90 e3) ?_
    show m_Run X _ _ 89 10 [(0, .ref 7), (1, .int x1)] [.int v2, .ref 7] (hO R g1) _ _
    refine m_gob (c := ¬ v2 = 0) (t := 17) (f := 13) (L := [(10, .ifCond .ne 7, 3, 0, 0)]) (lv1 := [(0, .ref 7), (1, .int x1)]) (st1 := [.ref 7]) (h1 := hO R g1) (by decide +kernel) rfl (fun c5 => ?_) (fun c5 => ?_)
    · rw [if_pos c5] at h
      refine m_go (L := [(17, .iconst 0, 1, 0, 0)]) (pc1 := 18) (lv1 := [(0, .ref 7), (1, .int x1)]) (st1 := [.int (0 : Int32), .ref 7]) (h1 := hO R g1) (by decide +kernel) rfl ?_
      exact m_r0 _ _ _ _ _ _ _ _ _ _ (m_pick [0, 1] rfl) (Fr89_18 h)
    · rw [if_neg c5] at h
      refine m_go (L := [(13, .iconst 1, 1, 0, 0), (14, .goto 4, 3, 0, 0)]) (pc1 := 18) (lv1 := [(0, .ref 7), (1, .int x1)]) (st1 := [.int (1 : Int32), .ref 7]) (h1 := hO R g1) (by decide +kernel) rfl ?_
      exact m_r0 _ _ _ _ _ _ _ _ _ _ (m_pick [0, 1] rfl) (Fr89_18 h)
  · exact m_cx (q := (7, .invokestatic 93, 3, 90, 3)) (a := 90) (vs := [.int x1, .int (0 : Int32), .int (g.1 25)]) (st := [.ref 7]) (d1 := 0) (by decide +kernel) (by decide +kernel) rfl rfl rfl rfl (by decide) (Fr90 e3)
def f93 (n : Nat) (x1 : Int32) (g : mG) : mZ := if (g.1 25) ≤ x1 then some (.inl (some (.int (0 : Int32))), g) else if x1 < 0 ∨ 600 ≤ Int32.toNatClampNeg x1 then none else some (.inl (some (.int ((g.2.1 32) (Int32.toNatClampNeg x1)))), g)
theorem Fr93 {R : Nat} {x1 : Int32} {g g' : mG} {o : mO} (h : f93 n x1 g = some (o, g')) : m_Run X (0) (m_ko o) 93 0 [(0, .ref 7), (1, .int x1)] [] (hO R g) o (hO R g') := by
  unfold f93 at h
  refine m_gob (c := (g.1 25) ≤ x1) (t := 17) (f := 8) (L := [(0, .iload_n 1, 1, 0, 0), (1, .aload_n 0, 1, 0, 0), (2, .getfield 86, 3, 6, 2), (5, .if_icmp .ge 12, 3, 0, 0)]) (lv1 := [(0, .ref 7), (1, .int x1)]) (st1 := []) (h1 := hO R g) (by decide +kernel) rfl (fun c1 => ?_) (fun c1 => ?_)
  · rw [if_pos c1] at h
    refine m_go (L := [(17, .iconst 0, 1, 0, 0)]) (pc1 := 18) (lv1 := [(0, .ref 7), (1, .int x1)]) (st1 := [.int (0 : Int32)]) (h1 := hO R g) (by decide +kernel) rfl ?_
    cases h
    exact m_ri (by decide +kernel)
  · rw [if_neg c1] at h
    refine m_go (L := [(8, .aload_n 0, 1, 0, 0), (9, .getfield 7, 3, 6, 1), (12, .iload_n 1, 1, 0, 0)]) (pc1 := 13) (lv1 := [(0, .ref 7), (1, .int x1)]) (st1 := [.int x1, .ref 32]) (h1 := hO R g) (by decide +kernel) rfl ?_
    obtain ⟨c2, h⟩ := m_ifn_inv h
    refine m_go1 (q := (13, .iaload, 1, 0, 0)) (pc1 := 14) (lv1 := [(0, .ref 7), (1, .int x1)]) (st1 := [.int ((g.2.1 32) (Int32.toNatClampNeg x1))]) (h1 := hO R g) (by decide +kernel) (if_neg c2) ?_
    refine m_go (L := [(14, .goto 4, 3, 0, 0)]) (pc1 := 18) (lv1 := [(0, .ref 7), (1, .int x1)]) (st1 := [.int ((g.2.1 32) (Int32.toNatClampNeg x1))]) (h1 := hO R g) (by decide +kernel) rfl ?_
    cases h
    exact m_ri (by decide +kernel)
def f94 (n : Nat) (x1 : Int32) (g : mG) : mZ := m_ci (f93 n x1 g) (fun v2 g1 => m_ci (f90 n v2 (97 : Int32) (122 : Int32) g1) (fun v6 g5 => if v6 = 0 ∨ v6 = 1 then some (.inl (some (.int v6)), g5) else none))
theorem Fr94 {R : Nat} {x1 : Int32} {g g' : mG} {o : mO} (h : f94 n x1 g = some (o, g')) : m_Run X (1) (m_ko o) 94 0 [(0, .ref 7), (1, .int x1)] [] (hO R g) o (hO R g') := by
  unfold f94 at h
  refine m_go (L := [(0, .aload_n 0, 1, 0, 0), (1, .iload_n 1, 1, 0, 0)]) (pc1 := 2) (lv1 := [(0, .ref 7), (1, .int x1)]) (st1 := [.int x1, .ref 7]) (h1 := hO R g) (by decide +kernel) rfl ?_
  rcases m_ci_inv h with ⟨v2, g1, e3, h⟩ | ⟨y4, g1, e3, rfl, rfl⟩
  · refine m_ca (q := (2, .invokevirtual 97, 3, 93, 1)) (a := 93) (vs := [.ref 7, .int x1]) (st := []) (d1 := 0) (by decide +kernel) rfl rfl rfl rfl (by decide) (Fr93 e3) ?_
    show m_Run X _ _ 94 5 [(0, .ref 7), (1, .int x1)] [.int v2] (hO R g1) _ _
    refine m_go (L := [(5, .bipush 97, 2, 0, 0), (7, .bipush 122, 2, 0, 0)]) (pc1 := 9) (lv1 := [(0, .ref 7), (1, .int x1)]) (st1 := [.int (122 : Int32), .int (97 : Int32), .int v2]) (h1 := hO R g1) (by decide +kernel) rfl ?_
    rcases m_ci_inv h with ⟨v6, g5, e7, h⟩ | ⟨y8, g5, e7, rfl, rfl⟩
    · refine m_ca (q := (9, .invokestatic 93, 3, 90, 3)) (a := 90) (vs := [.int v2, .int (97 : Int32), .int (122 : Int32)]) (st := []) (d1 := 0) (by decide +kernel) rfl rfl rfl rfl (by decide) (Fr90 e7) ?_
      show m_Run X _ _ 94 12 [(0, .ref 7), (1, .int x1)] [.int v6] (hO R g5) _ _
      obtain ⟨c9, h⟩ := m_if_inv h
      cases h
      exact m_rz (by decide +kernel) c9
    · exact m_cx (q := (9, .invokestatic 93, 3, 90, 3)) (a := 90) (vs := [.int v2, .int (97 : Int32), .int (122 : Int32)]) (st := []) (d1 := 0) (by decide +kernel) (by decide +kernel) rfl rfl rfl rfl (by decide) (Fr90 e7)
  · exact m_cx (q := (2, .invokevirtual 97, 3, 93, 1)) (a := 93) (vs := [.ref 7, .int x1]) (st := []) (d1 := 0) (by decide +kernel) (by decide +kernel) rfl rfl rfl rfl (by decide) (Fr93 e3)
def f95 (n : Nat) (x1 : Int32) (g : mG) : mZ := m_ci (f93 n x1 g) (fun v2 g1 => m_ci (f90 n v2 (48 : Int32) (57 : Int32) g1) (fun v6 g5 => if v6 = 0 ∨ v6 = 1 then some (.inl (some (.int v6)), g5) else none))
theorem Fr95 {R : Nat} {x1 : Int32} {g g' : mG} {o : mO} (h : f95 n x1 g = some (o, g')) : m_Run X (1) (m_ko o) 95 0 [(0, .ref 7), (1, .int x1)] [] (hO R g) o (hO R g') := by
  unfold f95 at h
  refine m_go (L := [(0, .aload_n 0, 1, 0, 0), (1, .iload_n 1, 1, 0, 0)]) (pc1 := 2) (lv1 := [(0, .ref 7), (1, .int x1)]) (st1 := [.int x1, .ref 7]) (h1 := hO R g) (by decide +kernel) rfl ?_
  rcases m_ci_inv h with ⟨v2, g1, e3, h⟩ | ⟨y4, g1, e3, rfl, rfl⟩
  · refine m_ca (q := (2, .invokevirtual 97, 3, 93, 1)) (a := 93) (vs := [.ref 7, .int x1]) (st := []) (d1 := 0) (by decide +kernel) rfl rfl rfl rfl (by decide) (Fr93 e3) ?_
    show m_Run X _ _ 95 5 [(0, .ref 7), (1, .int x1)] [.int v2] (hO R g1) _ _
    refine m_go (L := [(5, .bipush 48, 2, 0, 0), (7, .bipush 57, 2, 0, 0)]) (pc1 := 9) (lv1 := [(0, .ref 7), (1, .int x1)]) (st1 := [.int (57 : Int32), .int (48 : Int32), .int v2]) (h1 := hO R g1) (by decide +kernel) rfl ?_
    rcases m_ci_inv h with ⟨v6, g5, e7, h⟩ | ⟨y8, g5, e7, rfl, rfl⟩
    · refine m_ca (q := (9, .invokestatic 93, 3, 90, 3)) (a := 90) (vs := [.int v2, .int (48 : Int32), .int (57 : Int32)]) (st := []) (d1 := 0) (by decide +kernel) rfl rfl rfl rfl (by decide) (Fr90 e7) ?_
      show m_Run X _ _ 95 12 [(0, .ref 7), (1, .int x1)] [.int v6] (hO R g5) _ _
      obtain ⟨c9, h⟩ := m_if_inv h
      cases h
      exact m_rz (by decide +kernel) c9
    · exact m_cx (q := (9, .invokestatic 93, 3, 90, 3)) (a := 90) (vs := [.int v2, .int (48 : Int32), .int (57 : Int32)]) (st := []) (d1 := 0) (by decide +kernel) (by decide +kernel) rfl rfl rfl rfl (by decide) (Fr90 e7)
  · exact m_cx (q := (2, .invokevirtual 97, 3, 93, 1)) (a := 93) (vs := [.ref 7, .int x1]) (st := []) (d1 := 0) (by decide +kernel) (by decide +kernel) rfl rfl rfl rfl (by decide) (Fr93 e3)
def f99_60 (n : Nat) (s1 : Int32) (g : mG) : mZ := some (.inl none, (gI g 28 s1))
theorem Fr99_60 {R : Nat} {s1 : Int32} {g g' : mG} {o : mO} (h : f99_60 n s1 g = some (o, g')) : m_Run X (1) (m_ko o) 99 60 [] [.int s1, .ref 7] (hO R g) o (hO R g') := by
  unfold f99_60 at h
  refine m_go (L := [(60, .putfield 133, 3, 6, 5)]) (pc1 := 63) (lv1 := []) (st1 := []) (h1 := hO R (gI g 28 s1)) (by decide +kernel) rfl ?_
  cases h
  exact m_rv (by decide +kernel)
def f99_36 (n : Nat) (x4 : Int32) (s1 : Int32) (g : mG) : mZ := if x4 = 0 then f99_60 n ((g.1 27) + (1 : Int32)) (gI g 26 s1) else f99_60 n ((g.1 27) + (2 : Int32)) (gI g 26 s1)
theorem Fr99_36 {R : Nat} {x4 : Int32} {s1 : Int32} {g g' : mG} {o : mO} (h : f99_36 n x4 s1 g = some (o, g')) : m_Run X (1) (m_ko o) 99 36 [(0, .ref 7), (4, .int x4)] [.int s1, .ref 7] (hO R g) o (hO R g') := by
  unfold f99_36 at h
  refine m_gob (c := x4 = 0) (t := 54) (f := 45) (L := [(36, .putfield 142, 3, 6, 3), (39, .aload_n 0, 1, 0, 0), (40, .iload 4, 2, 0, 0), (42, .ifCond .eq 12, 3, 0, 0)]) (lv1 := [(0, .ref 7), (4, .int x4)]) (st1 := [.ref 7]) (h1 := hO R (gI g 26 s1)) (by decide +kernel) rfl (fun c3 => ?_) (fun c3 => ?_)
  · rw [if_pos c3] at h
    refine m_go (L := [(54, .aload_n 0, 1, 0, 0), (55, .getfield 148, 3, 6, 4), (58, .iconst 1, 1, 0, 0), (59, .iadd, 1, 0, 0)]) (pc1 := 60) (lv1 := [(0, .ref 7), (4, .int x4)]) (st1 := [.int ((g.1 27) + (1 : Int32)), .ref 7]) (h1 := hO R (gI g 26 s1)) (by decide +kernel) rfl ?_
    exact m_r0 _ _ _ _ _ _ _ _ _ _ (m_pick [] rfl) (Fr99_60 h)
  · rw [if_neg c3] at h
    refine m_go (L := [(45, .aload_n 0, 1, 0, 0), (46, .getfield 148, 3, 6, 4), (49, .iconst 2, 1, 0, 0), (50, .iadd, 1, 0, 0), (51, .goto 9, 3, 0, 0)]) (pc1 := 60) (lv1 := [(0, .ref 7), (4, .int x4)]) (st1 := [.int ((g.1 27) + (2 : Int32)), .ref 7]) (h1 := hO R (gI g 26 s1)) (by decide +kernel) rfl ?_
    exact m_r0 _ _ _ _ _ _ _ _ _ _ (m_pick [] rfl) (Fr99_60 h)
def f99_23 (n : Nat) (x1 : Int32) (x3 : Int32) (s0 : Int32) (g : mG) : mZ := if s0 = 0 then f99_36 n s0 x1 g else f99_36 n s0 x3 g
theorem Fr99_23 {R : Nat} {x1 : Int32} {x3 : Int32} {s0 : Int32} {g g' : mG} {o : mO} (h : f99_23 n x1 x3 s0 g = some (o, g')) : m_Run X (1) (m_ko o) 99 23 [(0, .ref 7), (1, .int x1), (3, .int x3)] [.int s0] (hO R g) o (hO R g') := by
  unfold f99_23 at h
  refine m_gob (c := s0 = 0) (t := 35) (f := 31) (L := [(23, .istore 4, 2, 0, 0), (25, .aload_n 0, 1, 0, 0), (26, .iload 4, 2, 0, 0), (28, .ifCond .eq 7, 3, 0, 0)]) (lv1 := [(0, .ref 7), (1, .int x1), (3, .int x3), (4, .int s0)]) (st1 := [.ref 7]) (h1 := hO R g) (by decide +kernel) rfl (fun c2 => ?_) (fun c2 => ?_)
  · rw [if_pos c2] at h
    refine m_go (L := [(35, .iload_n 1, 1, 0, 0)]) (pc1 := 36) (lv1 := [(0, .ref 7), (1, .int x1), (3, .int x3), (4, .int s0)]) (st1 := [.int x1, .ref 7]) (h1 := hO R g) (by decide +kernel) rfl ?_
    exact m_r0 _ _ _ _ _ _ _ _ _ _ (m_pick [0, 3] rfl) (Fr99_36 h)
  · rw [if_neg c2] at h
    refine m_go (L := [(31, .iload_n 3, 1, 0, 0), (32, .goto 4, 3, 0, 0)]) (pc1 := 36) (lv1 := [(0, .ref 7), (1, .int x1), (3, .int x3), (4, .int s0)]) (st1 := [.int x3, .ref 7]) (h1 := hO R g) (by decide +kernel) rfl ?_
    exact m_r0 _ _ _ _ _ _ _ _ _ _ (m_pick [0, 3] rfl) (Fr99_36 h)
def f99_22 (n : Nat) (x1 : Int32) (x3 : Int32) (g : mG) : mZ := f99_23 n x1 x3 (0 : Int32) g
theorem Fr99_22 {R : Nat} {x1 : Int32} {x3 : Int32} {g g' : mG} {o : mO} (h : f99_22 n x1 x3 g = some (o, g')) : m_Run X (1) (m_ko o) 99 22 [(0, .ref 7), (1, .int x1), (3, .int x3)] [] (hO R g) o (hO R g') := by
  unfold f99_22 at h
  refine m_go (L := [(22, .iconst 0, 1, 0, 0)]) (pc1 := 23) (lv1 := [(0, .ref 7), (1, .int x1), (3, .int x3)]) (st1 := [.int (0 : Int32)]) (h1 := hO R g) (by decide +kernel) rfl ?_
  exact m_r0 _ _ _ _ _ _ _ _ _ _ (m_pick [0, 1, 2] rfl) (Fr99_23 h)
def f99 (n : Nat) (x1 : Int32) (x2 : Int32) (x3 : Int32) (g : mG) : mZ := if x2 ≤ 0 then f99_22 n x1 x3 g else m_ci (f93 n ((g.1 27) + (1 : Int32)) g) (fun v5 g4 => if ¬ v5 = x2 then f99_22 n x1 x3 g4 else f99_23 n x1 x3 (1 : Int32) g4)
theorem Fr99 {R : Nat} {x1 : Int32} {x2 : Int32} {x3 : Int32} {g g' : mG} {o : mO} (h : f99 n x1 x2 x3 g = some (o, g')) : m_Run X (1) (m_ko o) 99 0 [(0, .ref 7), (1, .int x1), (2, .int x2), (3, .int x3)] [] (hO R g) o (hO R g') := by
  unfold f99 at h
  refine m_gob (c := x2 ≤ 0) (t := 22) (f := 4) (L := [(0, .iload_n 2, 1, 0, 0), (1, .ifCond .le 21, 3, 0, 0)]) (lv1 := [(0, .ref 7), (1, .int x1), (2, .int x2), (3, .int x3)]) (st1 := []) (h1 := hO R g) (by decide +kernel) rfl (fun c1 => ?_) (fun c1 => ?_)
  · rw [if_pos c1] at h
    exact m_r0 _ _ _ _ _ _ _ _ _ _ (m_pick [0, 1, 3] rfl) (Fr99_22 h)
  · rw [if_neg c1] at h
    refine m_go (L := [(4, .aload_n 0, 1, 0, 0), (5, .aload_n 0, 1, 0, 0), (6, .getfield 148, 3, 6, 4), (9, .iconst 1, 1, 0, 0), (10, .iadd, 1, 0, 0)]) (pc1 := 11) (lv1 := [(0, .ref 7), (1, .int x1), (2, .int x2), (3, .int x3)]) (st1 := [.int ((g.1 27) + (1 : Int32)), .ref 7]) (h1 := hO R g) (by decide +kernel) rfl ?_
    rcases m_ci_inv h with ⟨v5, g4, e6, h⟩ | ⟨y7, g4, e6, rfl, rfl⟩
    · refine m_ca (q := (11, .invokevirtual 97, 3, 93, 1)) (a := 93) (vs := [.ref 7, .int ((g.1 27) + (1 : Int32))]) (st := []) (d1 := 0) (by decide +kernel) rfl rfl rfl rfl (by decide) (Fr93 e6) ?_
      show m_Run X _ _ 99 14 [(0, .ref 7), (1, .int x1), (2, .int x2), (3, .int x3)] [.int v5] (hO R g4) _ _
      refine m_gob (c := ¬ v5 = x2) (t := 22) (f := 18) (L := [(14, .iload_n 2, 1, 0, 0), (15, .if_icmp .ne 7, 3, 0, 0)]) (lv1 := [(0, .ref 7), (1, .int x1), (2, .int x2), (3, .int x3)]) (st1 := []) (h1 := hO R g4) (by decide +kernel) rfl (fun c8 => ?_) (fun c8 => ?_)
      · rw [if_pos c8] at h
        exact m_r0 _ _ _ _ _ _ _ _ _ _ (m_pick [0, 1, 3] rfl) (Fr99_22 h)
      · rw [if_neg c8] at h
        refine m_go (L := [(18, .iconst 1, 1, 0, 0), (19, .goto 4, 3, 0, 0)]) (pc1 := 23) (lv1 := [(0, .ref 7), (1, .int x1), (2, .int x2), (3, .int x3)]) (st1 := [.int (1 : Int32)]) (h1 := hO R g4) (by decide +kernel) rfl ?_
        exact m_r0 _ _ _ _ _ _ _ _ _ _ (m_pick [0, 1, 3] rfl) (Fr99_23 h)
    · exact m_cx (q := (11, .invokevirtual 97, 3, 93, 1)) (a := 93) (vs := [.ref 7, .int ((g.1 27) + (1 : Int32))]) (st := []) (d1 := 0) (by decide +kernel) (by decide +kernel) rfl rfl rfl rfl (by decide) (Fr93 e6)
def f98 (n : Nat) (g : mG) : mZ := m_ci (f93 n (g.1 27) g) (fun v2 g1 => if v2 = 33 then m_cv (f99 n (21 : Int32) (61 : Int32) (13 : Int32) g1) (fun g6 => some (.inl none, g6)) else if v2 = 37 then m_cv (f99 n (20 : Int32) (0 : Int32) (0 : Int32) g1) (fun g11 => some (.inl none, g11)) else if v2 = 38 then m_cv (f99 n (35 : Int32) (38 : Int32) (22 : Int32) g1) (fun g16 => some (.inl none, g16)) else if v2 = 40 then m_cv (f99 n (3 : Int32) (0 : Int32) (0 : Int32) g1) (fun g21 => some (.inl none, g21)) else if v2 = 41 then m_cv (f99 n (4 : Int32) (0 : Int32) (0 : Int32) g1) (fun g26 => some (.inl none, g26)) else if v2 = 42 then m_cv (f99 n (18 : Int32) (0 : Int32) (0 : Int32) g1) (fun g31 => some (.inl none, g31)) else if v2 = 43 then m_cv (f99 n (16 : Int32) (0 : Int32) (0 : Int32) g1) (fun g36 => some (.inl none, g36)) else if v2 = 44 then m_cv (f99 n (9 : Int32) (0 : Int32) (0 : Int32) g1) (fun g41 => some (.inl none, g41)) else if v2 = 45 then m_cv (f99 n (17 : Int32) (0 : Int32) (0 : Int32) g1) (fun g46 => some (.inl none, g46)) else if v2 = 47 then m_cv (f99 n (19 : Int32) (0 : Int32) (0 : Int32) g1) (fun g51 => some (.inl none, g51)) else if v2 = 59 then m_cv (f99 n (10 : Int32) (0 : Int32) (0 : Int32) g1) (fun g56 => some (.inl none, g56)) else if v2 = 60 then m_cv (f99 n (14 : Int32) (61 : Int32) (15 : Int32) g1) (fun g61 => some (.inl none, g61)) else if v2 = 61 then m_cv (f99 n (11 : Int32) (61 : Int32) (12 : Int32) g1) (fun g66 => some (.inl none, g66)) else if v2 = 91 then m_cv (f99 n (7 : Int32) (0 : Int32) (0 : Int32) g1) (fun g71 => some (.inl none, g71)) else if v2 = 93 then m_cv (f99 n (8 : Int32) (0 : Int32) (0 : Int32) g1) (fun g76 => some (.inl none, g76)) else if v2 = 123 then m_cv (f99 n (5 : Int32) (0 : Int32) (0 : Int32) g1) (fun g81 => some (.inl none, g81)) else if v2 = 124 then m_cv (f99 n (35 : Int32) (124 : Int32) (23 : Int32) g1) (fun g86 => some (.inl none, g86)) else if v2 = 125 then m_cv (f99 n (6 : Int32) (0 : Int32) (0 : Int32) g1) (fun g91 => some (.inl none, g91)) else m_cv (f99 n (35 : Int32) (0 : Int32) (0 : Int32) g1) (fun g95 => some (.inl none, g95)))
theorem Fr98 {R : Nat} {g g' : mG} {o : mO} (h : f98 n g = some (o, g')) : m_Run X (2) (m_ko o) 98 0 [(0, .ref 7)] [] (hO R g) o (hO R g') := by
  unfold f98 at h
  refine m_go (L := [(0, .aload_n 0, 1, 0, 0), (1, .aload_n 0, 1, 0, 0), (2, .getfield 148, 3, 6, 4)]) (pc1 := 5) (lv1 := [(0, .ref 7)]) (st1 := [.int (g.1 27), .ref 7]) (h1 := hO R g) (by decide +kernel) rfl ?_
  rcases m_ci_inv h with ⟨v2, g1, e3, h⟩ | ⟨y4, g1, e3, rfl, rfl⟩
  · refine m_ca (q := (5, .invokevirtual 97, 3, 93, 1)) (a := 93) (vs := [.ref 7, .int (g.1 27)]) (st := []) (d1 := 0) (by decide +kernel) rfl rfl rfl rfl (by decide) (Fr93 e3) ?_
    show m_Run X _ _ 98 8 [(0, .ref 7)] [.int v2] (hO R g1) _ _
    by_cases c5 : v2 = 33
    · rw [if_pos c5] at h
      refine m_go1 (q := (8, .lookupswitch 361 #[(33, 254), (37, 324), (38, 335), (40, 156), (41, 166), (42, 302), (43, 280), (44, 219), (45, 291), (47, 313), (59, 230), (60, 267), (61, 241), (91, 197), (93, 208), (123, 176), (124, 348), (125, 186)], 156, 0, 0)) (pc1 := 262) (lv1 := [(0, .ref 7)]) (st1 := []) (h1 := hO R g1) (by decide +kernel) (m_swx (fun z => m_loc m_ft X (.lookupswitch 361 #[(33, 254), (37, 324), (38, 335), (40, 156), (41, 166), (42, 302), (43, 280), (44, 219), (45, 291), (47, 313), (59, 230), (60, 267), (61, 241), (91, 197), (93, 208), (123, 176), (124, 348), (125, 186)]) 0 0 8 [(0, .ref 7)] (.int z :: []) (hO R g1)) c5 rfl) ?_
      refine m_go (L := [(262, .aload_n 0, 1, 0, 0), (263, .bipush 21, 2, 0, 0), (265, .bipush 61, 2, 0, 0), (267, .bipush 13, 2, 0, 0)]) (pc1 := 269) (lv1 := [(0, .ref 7)]) (st1 := [.int (13 : Int32), .int (61 : Int32), .int (21 : Int32), .ref 7]) (h1 := hO R g1) (by decide +kernel) rfl ?_
      rcases m_cv_inv h with ⟨g6, e8, h⟩ | ⟨y9, g6, e8, rfl, rfl⟩
      · refine m_ca (q := (269, .invokevirtual 151, 3, 99, 3)) (a := 99) (vs := [.ref 7, .int (21 : Int32), .int (61 : Int32), .int (13 : Int32)]) (st := []) (d1 := 1) (by decide +kernel) rfl rfl rfl rfl (by decide) (Fr99 e8) ?_
        show m_Run X _ _ 98 272 [(0, .ref 7)] [] (hO R g6) _ _
        refine m_go (L := [(272, .goto 105, 3, 0, 0)]) (pc1 := 377) (lv1 := [(0, .ref 7)]) (st1 := []) (h1 := hO R g6) (by decide +kernel) rfl ?_
        cases h
        exact m_rv (by decide +kernel)
      · exact m_cx (q := (269, .invokevirtual 151, 3, 99, 3)) (a := 99) (vs := [.ref 7, .int (21 : Int32), .int (61 : Int32), .int (13 : Int32)]) (st := []) (d1 := 1) (by decide +kernel) (by decide +kernel) rfl rfl rfl rfl (by decide) (Fr99 e8)
    · rw [if_neg c5] at h
      by_cases c10 : v2 = 37
      · rw [if_pos c10] at h
        refine m_go1 (q := (8, .lookupswitch 361 #[(33, 254), (37, 324), (38, 335), (40, 156), (41, 166), (42, 302), (43, 280), (44, 219), (45, 291), (47, 313), (59, 230), (60, 267), (61, 241), (91, 197), (93, 208), (123, 176), (124, 348), (125, 186)], 156, 0, 0)) (pc1 := 332) (lv1 := [(0, .ref 7)]) (st1 := []) (h1 := hO R g1) (by decide +kernel) (m_swx (fun z => m_loc m_ft X (.lookupswitch 361 #[(33, 254), (37, 324), (38, 335), (40, 156), (41, 166), (42, 302), (43, 280), (44, 219), (45, 291), (47, 313), (59, 230), (60, 267), (61, 241), (91, 197), (93, 208), (123, 176), (124, 348), (125, 186)]) 0 0 8 [(0, .ref 7)] (.int z :: []) (hO R g1)) c10 rfl) ?_
        refine m_go (L := [(332, .aload_n 0, 1, 0, 0), (333, .bipush 20, 2, 0, 0), (335, .iconst 0, 1, 0, 0), (336, .iconst 0, 1, 0, 0)]) (pc1 := 337) (lv1 := [(0, .ref 7)]) (st1 := [.int (0 : Int32), .int (0 : Int32), .int (20 : Int32), .ref 7]) (h1 := hO R g1) (by decide +kernel) rfl ?_
        rcases m_cv_inv h with ⟨g11, e13, h⟩ | ⟨y14, g11, e13, rfl, rfl⟩
        · refine m_ca (q := (337, .invokevirtual 151, 3, 99, 3)) (a := 99) (vs := [.ref 7, .int (20 : Int32), .int (0 : Int32), .int (0 : Int32)]) (st := []) (d1 := 1) (by decide +kernel) rfl rfl rfl rfl (by decide) (Fr99 e13) ?_
          show m_Run X _ _ 98 340 [(0, .ref 7)] [] (hO R g11) _ _
          refine m_go (L := [(340, .goto 37, 3, 0, 0)]) (pc1 := 377) (lv1 := [(0, .ref 7)]) (st1 := []) (h1 := hO R g11) (by decide +kernel) rfl ?_
          cases h
          exact m_rv (by decide +kernel)
        · exact m_cx (q := (337, .invokevirtual 151, 3, 99, 3)) (a := 99) (vs := [.ref 7, .int (20 : Int32), .int (0 : Int32), .int (0 : Int32)]) (st := []) (d1 := 1) (by decide +kernel) (by decide +kernel) rfl rfl rfl rfl (by decide) (Fr99 e13)
      · rw [if_neg c10] at h
        by_cases c15 : v2 = 38
        · rw [if_pos c15] at h
          refine m_go1 (q := (8, .lookupswitch 361 #[(33, 254), (37, 324), (38, 335), (40, 156), (41, 166), (42, 302), (43, 280), (44, 219), (45, 291), (47, 313), (59, 230), (60, 267), (61, 241), (91, 197), (93, 208), (123, 176), (124, 348), (125, 186)], 156, 0, 0)) (pc1 := 343) (lv1 := [(0, .ref 7)]) (st1 := []) (h1 := hO R g1) (by decide +kernel) (m_swx (fun z => m_loc m_ft X (.lookupswitch 361 #[(33, 254), (37, 324), (38, 335), (40, 156), (41, 166), (42, 302), (43, 280), (44, 219), (45, 291), (47, 313), (59, 230), (60, 267), (61, 241), (91, 197), (93, 208), (123, 176), (124, 348), (125, 186)]) 0 0 8 [(0, .ref 7)] (.int z :: []) (hO R g1)) c15 rfl) ?_
          refine m_go (L := [(343, .aload_n 0, 1, 0, 0), (344, .bipush 35, 2, 0, 0), (346, .bipush 38, 2, 0, 0), (348, .bipush 22, 2, 0, 0)]) (pc1 := 350) (lv1 := [(0, .ref 7)]) (st1 := [.int (22 : Int32), .int (38 : Int32), .int (35 : Int32), .ref 7]) (h1 := hO R g1) (by decide +kernel) rfl ?_
          rcases m_cv_inv h with ⟨g16, e18, h⟩ | ⟨y19, g16, e18, rfl, rfl⟩
          · refine m_ca (q := (350, .invokevirtual 151, 3, 99, 3)) (a := 99) (vs := [.ref 7, .int (35 : Int32), .int (38 : Int32), .int (22 : Int32)]) (st := []) (d1 := 1) (by decide +kernel) rfl rfl rfl rfl (by decide) (Fr99 e18) ?_
            show m_Run X _ _ 98 353 [(0, .ref 7)] [] (hO R g16) _ _
            refine m_go (L := [(353, .goto 24, 3, 0, 0)]) (pc1 := 377) (lv1 := [(0, .ref 7)]) (st1 := []) (h1 := hO R g16) (by decide +kernel) rfl ?_
            cases h
            exact m_rv (by decide +kernel)
          · exact m_cx (q := (350, .invokevirtual 151, 3, 99, 3)) (a := 99) (vs := [.ref 7, .int (35 : Int32), .int (38 : Int32), .int (22 : Int32)]) (st := []) (d1 := 1) (by decide +kernel) (by decide +kernel) rfl rfl rfl rfl (by decide) (Fr99 e18)
        · rw [if_neg c15] at h
          by_cases c20 : v2 = 40
          · rw [if_pos c20] at h
            refine m_go1 (q := (8, .lookupswitch 361 #[(33, 254), (37, 324), (38, 335), (40, 156), (41, 166), (42, 302), (43, 280), (44, 219), (45, 291), (47, 313), (59, 230), (60, 267), (61, 241), (91, 197), (93, 208), (123, 176), (124, 348), (125, 186)], 156, 0, 0)) (pc1 := 164) (lv1 := [(0, .ref 7)]) (st1 := []) (h1 := hO R g1) (by decide +kernel) (m_swx (fun z => m_loc m_ft X (.lookupswitch 361 #[(33, 254), (37, 324), (38, 335), (40, 156), (41, 166), (42, 302), (43, 280), (44, 219), (45, 291), (47, 313), (59, 230), (60, 267), (61, 241), (91, 197), (93, 208), (123, 176), (124, 348), (125, 186)]) 0 0 8 [(0, .ref 7)] (.int z :: []) (hO R g1)) c20 rfl) ?_
            refine m_go (L := [(164, .aload_n 0, 1, 0, 0), (165, .iconst 3, 1, 0, 0), (166, .iconst 0, 1, 0, 0), (167, .iconst 0, 1, 0, 0)]) (pc1 := 168) (lv1 := [(0, .ref 7)]) (st1 := [.int (0 : Int32), .int (0 : Int32), .int (3 : Int32), .ref 7]) (h1 := hO R g1) (by decide +kernel) rfl ?_
            rcases m_cv_inv h with ⟨g21, e23, h⟩ | ⟨y24, g21, e23, rfl, rfl⟩
            · refine m_ca (q := (168, .invokevirtual 151, 3, 99, 3)) (a := 99) (vs := [.ref 7, .int (3 : Int32), .int (0 : Int32), .int (0 : Int32)]) (st := []) (d1 := 1) (by decide +kernel) rfl rfl rfl rfl (by decide) (Fr99 e23) ?_
              show m_Run X _ _ 98 171 [(0, .ref 7)] [] (hO R g21) _ _
              refine m_go (L := [(171, .goto 206, 3, 0, 0)]) (pc1 := 377) (lv1 := [(0, .ref 7)]) (st1 := []) (h1 := hO R g21) (by decide +kernel) rfl ?_
              cases h
              exact m_rv (by decide +kernel)
            · exact m_cx (q := (168, .invokevirtual 151, 3, 99, 3)) (a := 99) (vs := [.ref 7, .int (3 : Int32), .int (0 : Int32), .int (0 : Int32)]) (st := []) (d1 := 1) (by decide +kernel) (by decide +kernel) rfl rfl rfl rfl (by decide) (Fr99 e23)
          · rw [if_neg c20] at h
            by_cases c25 : v2 = 41
            · rw [if_pos c25] at h
              refine m_go1 (q := (8, .lookupswitch 361 #[(33, 254), (37, 324), (38, 335), (40, 156), (41, 166), (42, 302), (43, 280), (44, 219), (45, 291), (47, 313), (59, 230), (60, 267), (61, 241), (91, 197), (93, 208), (123, 176), (124, 348), (125, 186)], 156, 0, 0)) (pc1 := 174) (lv1 := [(0, .ref 7)]) (st1 := []) (h1 := hO R g1) (by decide +kernel) (m_swx (fun z => m_loc m_ft X (.lookupswitch 361 #[(33, 254), (37, 324), (38, 335), (40, 156), (41, 166), (42, 302), (43, 280), (44, 219), (45, 291), (47, 313), (59, 230), (60, 267), (61, 241), (91, 197), (93, 208), (123, 176), (124, 348), (125, 186)]) 0 0 8 [(0, .ref 7)] (.int z :: []) (hO R g1)) c25 rfl) ?_
              refine m_go (L := [(174, .aload_n 0, 1, 0, 0), (175, .iconst 4, 1, 0, 0), (176, .iconst 0, 1, 0, 0), (177, .iconst 0, 1, 0, 0)]) (pc1 := 178) (lv1 := [(0, .ref 7)]) (st1 := [.int (0 : Int32), .int (0 : Int32), .int (4 : Int32), .ref 7]) (h1 := hO R g1) (by decide +kernel) rfl ?_
              rcases m_cv_inv h with ⟨g26, e28, h⟩ | ⟨y29, g26, e28, rfl, rfl⟩
              · refine m_ca (q := (178, .invokevirtual 151, 3, 99, 3)) (a := 99) (vs := [.ref 7, .int (4 : Int32), .int (0 : Int32), .int (0 : Int32)]) (st := []) (d1 := 1) (by decide +kernel) rfl rfl rfl rfl (by decide) (Fr99 e28) ?_
                show m_Run X _ _ 98 181 [(0, .ref 7)] [] (hO R g26) _ _
                refine m_go (L := [(181, .goto 196, 3, 0, 0)]) (pc1 := 377) (lv1 := [(0, .ref 7)]) (st1 := []) (h1 := hO R g26) (by decide +kernel) rfl ?_
                cases h
                exact m_rv (by decide +kernel)
              · exact m_cx (q := (178, .invokevirtual 151, 3, 99, 3)) (a := 99) (vs := [.ref 7, .int (4 : Int32), .int (0 : Int32), .int (0 : Int32)]) (st := []) (d1 := 1) (by decide +kernel) (by decide +kernel) rfl rfl rfl rfl (by decide) (Fr99 e28)
            · rw [if_neg c25] at h
              by_cases c30 : v2 = 42
              · rw [if_pos c30] at h
                refine m_go1 (q := (8, .lookupswitch 361 #[(33, 254), (37, 324), (38, 335), (40, 156), (41, 166), (42, 302), (43, 280), (44, 219), (45, 291), (47, 313), (59, 230), (60, 267), (61, 241), (91, 197), (93, 208), (123, 176), (124, 348), (125, 186)], 156, 0, 0)) (pc1 := 310) (lv1 := [(0, .ref 7)]) (st1 := []) (h1 := hO R g1) (by decide +kernel) (m_swx (fun z => m_loc m_ft X (.lookupswitch 361 #[(33, 254), (37, 324), (38, 335), (40, 156), (41, 166), (42, 302), (43, 280), (44, 219), (45, 291), (47, 313), (59, 230), (60, 267), (61, 241), (91, 197), (93, 208), (123, 176), (124, 348), (125, 186)]) 0 0 8 [(0, .ref 7)] (.int z :: []) (hO R g1)) c30 rfl) ?_
                refine m_go (L := [(310, .aload_n 0, 1, 0, 0), (311, .bipush 18, 2, 0, 0), (313, .iconst 0, 1, 0, 0), (314, .iconst 0, 1, 0, 0)]) (pc1 := 315) (lv1 := [(0, .ref 7)]) (st1 := [.int (0 : Int32), .int (0 : Int32), .int (18 : Int32), .ref 7]) (h1 := hO R g1) (by decide +kernel) rfl ?_
                rcases m_cv_inv h with ⟨g31, e33, h⟩ | ⟨y34, g31, e33, rfl, rfl⟩
                · refine m_ca (q := (315, .invokevirtual 151, 3, 99, 3)) (a := 99) (vs := [.ref 7, .int (18 : Int32), .int (0 : Int32), .int (0 : Int32)]) (st := []) (d1 := 1) (by decide +kernel) rfl rfl rfl rfl (by decide) (Fr99 e33) ?_
                  show m_Run X _ _ 98 318 [(0, .ref 7)] [] (hO R g31) _ _
                  refine m_go (L := [(318, .goto 59, 3, 0, 0)]) (pc1 := 377) (lv1 := [(0, .ref 7)]) (st1 := []) (h1 := hO R g31) (by decide +kernel) rfl ?_
                  cases h
                  exact m_rv (by decide +kernel)
                · exact m_cx (q := (315, .invokevirtual 151, 3, 99, 3)) (a := 99) (vs := [.ref 7, .int (18 : Int32), .int (0 : Int32), .int (0 : Int32)]) (st := []) (d1 := 1) (by decide +kernel) (by decide +kernel) rfl rfl rfl rfl (by decide) (Fr99 e33)
              · rw [if_neg c30] at h
                by_cases c35 : v2 = 43
                · rw [if_pos c35] at h
                  refine m_go1 (q := (8, .lookupswitch 361 #[(33, 254), (37, 324), (38, 335), (40, 156), (41, 166), (42, 302), (43, 280), (44, 219), (45, 291), (47, 313), (59, 230), (60, 267), (61, 241), (91, 197), (93, 208), (123, 176), (124, 348), (125, 186)], 156, 0, 0)) (pc1 := 288) (lv1 := [(0, .ref 7)]) (st1 := []) (h1 := hO R g1) (by decide +kernel) (m_swx (fun z => m_loc m_ft X (.lookupswitch 361 #[(33, 254), (37, 324), (38, 335), (40, 156), (41, 166), (42, 302), (43, 280), (44, 219), (45, 291), (47, 313), (59, 230), (60, 267), (61, 241), (91, 197), (93, 208), (123, 176), (124, 348), (125, 186)]) 0 0 8 [(0, .ref 7)] (.int z :: []) (hO R g1)) c35 rfl) ?_
                  refine m_go (L := [(288, .aload_n 0, 1, 0, 0), (289, .bipush 16, 2, 0, 0), (291, .iconst 0, 1, 0, 0), (292, .iconst 0, 1, 0, 0)]) (pc1 := 293) (lv1 := [(0, .ref 7)]) (st1 := [.int (0 : Int32), .int (0 : Int32), .int (16 : Int32), .ref 7]) (h1 := hO R g1) (by decide +kernel) rfl ?_
                  rcases m_cv_inv h with ⟨g36, e38, h⟩ | ⟨y39, g36, e38, rfl, rfl⟩
                  · refine m_ca (q := (293, .invokevirtual 151, 3, 99, 3)) (a := 99) (vs := [.ref 7, .int (16 : Int32), .int (0 : Int32), .int (0 : Int32)]) (st := []) (d1 := 1) (by decide +kernel) rfl rfl rfl rfl (by decide) (Fr99 e38) ?_
                    show m_Run X _ _ 98 296 [(0, .ref 7)] [] (hO R g36) _ _
                    refine m_go (L := [(296, .goto 81, 3, 0, 0)]) (pc1 := 377) (lv1 := [(0, .ref 7)]) (st1 := []) (h1 := hO R g36) (by decide +kernel) rfl ?_
                    cases h
                    exact m_rv (by decide +kernel)
                  · exact m_cx (q := (293, .invokevirtual 151, 3, 99, 3)) (a := 99) (vs := [.ref 7, .int (16 : Int32), .int (0 : Int32), .int (0 : Int32)]) (st := []) (d1 := 1) (by decide +kernel) (by decide +kernel) rfl rfl rfl rfl (by decide) (Fr99 e38)
                · rw [if_neg c35] at h
                  by_cases c40 : v2 = 44
                  · rw [if_pos c40] at h
                    refine m_go1 (q := (8, .lookupswitch 361 #[(33, 254), (37, 324), (38, 335), (40, 156), (41, 166), (42, 302), (43, 280), (44, 219), (45, 291), (47, 313), (59, 230), (60, 267), (61, 241), (91, 197), (93, 208), (123, 176), (124, 348), (125, 186)], 156, 0, 0)) (pc1 := 227) (lv1 := [(0, .ref 7)]) (st1 := []) (h1 := hO R g1) (by decide +kernel) (m_swx (fun z => m_loc m_ft X (.lookupswitch 361 #[(33, 254), (37, 324), (38, 335), (40, 156), (41, 166), (42, 302), (43, 280), (44, 219), (45, 291), (47, 313), (59, 230), (60, 267), (61, 241), (91, 197), (93, 208), (123, 176), (124, 348), (125, 186)]) 0 0 8 [(0, .ref 7)] (.int z :: []) (hO R g1)) c40 rfl) ?_
                    refine m_go (L := [(227, .aload_n 0, 1, 0, 0), (228, .bipush 9, 2, 0, 0), (230, .iconst 0, 1, 0, 0), (231, .iconst 0, 1, 0, 0)]) (pc1 := 232) (lv1 := [(0, .ref 7)]) (st1 := [.int (0 : Int32), .int (0 : Int32), .int (9 : Int32), .ref 7]) (h1 := hO R g1) (by decide +kernel) rfl ?_
                    rcases m_cv_inv h with ⟨g41, e43, h⟩ | ⟨y44, g41, e43, rfl, rfl⟩
                    · refine m_ca (q := (232, .invokevirtual 151, 3, 99, 3)) (a := 99) (vs := [.ref 7, .int (9 : Int32), .int (0 : Int32), .int (0 : Int32)]) (st := []) (d1 := 1) (by decide +kernel) rfl rfl rfl rfl (by decide) (Fr99 e43) ?_
                      show m_Run X _ _ 98 235 [(0, .ref 7)] [] (hO R g41) _ _
                      refine m_go (L := [(235, .goto 142, 3, 0, 0)]) (pc1 := 377) (lv1 := [(0, .ref 7)]) (st1 := []) (h1 := hO R g41) (by decide +kernel) rfl ?_
                      cases h
                      exact m_rv (by decide +kernel)
                    · exact m_cx (q := (232, .invokevirtual 151, 3, 99, 3)) (a := 99) (vs := [.ref 7, .int (9 : Int32), .int (0 : Int32), .int (0 : Int32)]) (st := []) (d1 := 1) (by decide +kernel) (by decide +kernel) rfl rfl rfl rfl (by decide) (Fr99 e43)
                  · rw [if_neg c40] at h
                    by_cases c45 : v2 = 45
                    · rw [if_pos c45] at h
                      refine m_go1 (q := (8, .lookupswitch 361 #[(33, 254), (37, 324), (38, 335), (40, 156), (41, 166), (42, 302), (43, 280), (44, 219), (45, 291), (47, 313), (59, 230), (60, 267), (61, 241), (91, 197), (93, 208), (123, 176), (124, 348), (125, 186)], 156, 0, 0)) (pc1 := 299) (lv1 := [(0, .ref 7)]) (st1 := []) (h1 := hO R g1) (by decide +kernel) (m_swx (fun z => m_loc m_ft X (.lookupswitch 361 #[(33, 254), (37, 324), (38, 335), (40, 156), (41, 166), (42, 302), (43, 280), (44, 219), (45, 291), (47, 313), (59, 230), (60, 267), (61, 241), (91, 197), (93, 208), (123, 176), (124, 348), (125, 186)]) 0 0 8 [(0, .ref 7)] (.int z :: []) (hO R g1)) c45 rfl) ?_
                      refine m_go (L := [(299, .aload_n 0, 1, 0, 0), (300, .bipush 17, 2, 0, 0), (302, .iconst 0, 1, 0, 0), (303, .iconst 0, 1, 0, 0)]) (pc1 := 304) (lv1 := [(0, .ref 7)]) (st1 := [.int (0 : Int32), .int (0 : Int32), .int (17 : Int32), .ref 7]) (h1 := hO R g1) (by decide +kernel) rfl ?_
                      rcases m_cv_inv h with ⟨g46, e48, h⟩ | ⟨y49, g46, e48, rfl, rfl⟩
                      · refine m_ca (q := (304, .invokevirtual 151, 3, 99, 3)) (a := 99) (vs := [.ref 7, .int (17 : Int32), .int (0 : Int32), .int (0 : Int32)]) (st := []) (d1 := 1) (by decide +kernel) rfl rfl rfl rfl (by decide) (Fr99 e48) ?_
                        show m_Run X _ _ 98 307 [(0, .ref 7)] [] (hO R g46) _ _
                        refine m_go (L := [(307, .goto 70, 3, 0, 0)]) (pc1 := 377) (lv1 := [(0, .ref 7)]) (st1 := []) (h1 := hO R g46) (by decide +kernel) rfl ?_
                        cases h
                        exact m_rv (by decide +kernel)
                      · exact m_cx (q := (304, .invokevirtual 151, 3, 99, 3)) (a := 99) (vs := [.ref 7, .int (17 : Int32), .int (0 : Int32), .int (0 : Int32)]) (st := []) (d1 := 1) (by decide +kernel) (by decide +kernel) rfl rfl rfl rfl (by decide) (Fr99 e48)
                    · rw [if_neg c45] at h
                      by_cases c50 : v2 = 47
                      · rw [if_pos c50] at h
                        refine m_go1 (q := (8, .lookupswitch 361 #[(33, 254), (37, 324), (38, 335), (40, 156), (41, 166), (42, 302), (43, 280), (44, 219), (45, 291), (47, 313), (59, 230), (60, 267), (61, 241), (91, 197), (93, 208), (123, 176), (124, 348), (125, 186)], 156, 0, 0)) (pc1 := 321) (lv1 := [(0, .ref 7)]) (st1 := []) (h1 := hO R g1) (by decide +kernel) (m_swx (fun z => m_loc m_ft X (.lookupswitch 361 #[(33, 254), (37, 324), (38, 335), (40, 156), (41, 166), (42, 302), (43, 280), (44, 219), (45, 291), (47, 313), (59, 230), (60, 267), (61, 241), (91, 197), (93, 208), (123, 176), (124, 348), (125, 186)]) 0 0 8 [(0, .ref 7)] (.int z :: []) (hO R g1)) c50 rfl) ?_
                        refine m_go (L := [(321, .aload_n 0, 1, 0, 0), (322, .bipush 19, 2, 0, 0), (324, .iconst 0, 1, 0, 0), (325, .iconst 0, 1, 0, 0)]) (pc1 := 326) (lv1 := [(0, .ref 7)]) (st1 := [.int (0 : Int32), .int (0 : Int32), .int (19 : Int32), .ref 7]) (h1 := hO R g1) (by decide +kernel) rfl ?_
                        rcases m_cv_inv h with ⟨g51, e53, h⟩ | ⟨y54, g51, e53, rfl, rfl⟩
                        · refine m_ca (q := (326, .invokevirtual 151, 3, 99, 3)) (a := 99) (vs := [.ref 7, .int (19 : Int32), .int (0 : Int32), .int (0 : Int32)]) (st := []) (d1 := 1) (by decide +kernel) rfl rfl rfl rfl (by decide) (Fr99 e53) ?_
                          show m_Run X _ _ 98 329 [(0, .ref 7)] [] (hO R g51) _ _
                          refine m_go (L := [(329, .goto 48, 3, 0, 0)]) (pc1 := 377) (lv1 := [(0, .ref 7)]) (st1 := []) (h1 := hO R g51) (by decide +kernel) rfl ?_
                          cases h
                          exact m_rv (by decide +kernel)
                        · exact m_cx (q := (326, .invokevirtual 151, 3, 99, 3)) (a := 99) (vs := [.ref 7, .int (19 : Int32), .int (0 : Int32), .int (0 : Int32)]) (st := []) (d1 := 1) (by decide +kernel) (by decide +kernel) rfl rfl rfl rfl (by decide) (Fr99 e53)
                      · rw [if_neg c50] at h
                        by_cases c55 : v2 = 59
                        · rw [if_pos c55] at h
                          refine m_go1 (q := (8, .lookupswitch 361 #[(33, 254), (37, 324), (38, 335), (40, 156), (41, 166), (42, 302), (43, 280), (44, 219), (45, 291), (47, 313), (59, 230), (60, 267), (61, 241), (91, 197), (93, 208), (123, 176), (124, 348), (125, 186)], 156, 0, 0)) (pc1 := 238) (lv1 := [(0, .ref 7)]) (st1 := []) (h1 := hO R g1) (by decide +kernel) (m_swx (fun z => m_loc m_ft X (.lookupswitch 361 #[(33, 254), (37, 324), (38, 335), (40, 156), (41, 166), (42, 302), (43, 280), (44, 219), (45, 291), (47, 313), (59, 230), (60, 267), (61, 241), (91, 197), (93, 208), (123, 176), (124, 348), (125, 186)]) 0 0 8 [(0, .ref 7)] (.int z :: []) (hO R g1)) c55 rfl) ?_
                          refine m_go (L := [(238, .aload_n 0, 1, 0, 0), (239, .bipush 10, 2, 0, 0), (241, .iconst 0, 1, 0, 0), (242, .iconst 0, 1, 0, 0)]) (pc1 := 243) (lv1 := [(0, .ref 7)]) (st1 := [.int (0 : Int32), .int (0 : Int32), .int (10 : Int32), .ref 7]) (h1 := hO R g1) (by decide +kernel) rfl ?_
                          rcases m_cv_inv h with ⟨g56, e58, h⟩ | ⟨y59, g56, e58, rfl, rfl⟩
                          · refine m_ca (q := (243, .invokevirtual 151, 3, 99, 3)) (a := 99) (vs := [.ref 7, .int (10 : Int32), .int (0 : Int32), .int (0 : Int32)]) (st := []) (d1 := 1) (by decide +kernel) rfl rfl rfl rfl (by decide) (Fr99 e58) ?_
                            show m_Run X _ _ 98 246 [(0, .ref 7)] [] (hO R g56) _ _
                            refine m_go (L := [(246, .goto 131, 3, 0, 0)]) (pc1 := 377) (lv1 := [(0, .ref 7)]) (st1 := []) (h1 := hO R g56) (by decide +kernel) rfl ?_
                            cases h
                            exact m_rv (by decide +kernel)
                          · exact m_cx (q := (243, .invokevirtual 151, 3, 99, 3)) (a := 99) (vs := [.ref 7, .int (10 : Int32), .int (0 : Int32), .int (0 : Int32)]) (st := []) (d1 := 1) (by decide +kernel) (by decide +kernel) rfl rfl rfl rfl (by decide) (Fr99 e58)
                        · rw [if_neg c55] at h
                          by_cases c60 : v2 = 60
                          · rw [if_pos c60] at h
                            refine m_go1 (q := (8, .lookupswitch 361 #[(33, 254), (37, 324), (38, 335), (40, 156), (41, 166), (42, 302), (43, 280), (44, 219), (45, 291), (47, 313), (59, 230), (60, 267), (61, 241), (91, 197), (93, 208), (123, 176), (124, 348), (125, 186)], 156, 0, 0)) (pc1 := 275) (lv1 := [(0, .ref 7)]) (st1 := []) (h1 := hO R g1) (by decide +kernel) (m_swx (fun z => m_loc m_ft X (.lookupswitch 361 #[(33, 254), (37, 324), (38, 335), (40, 156), (41, 166), (42, 302), (43, 280), (44, 219), (45, 291), (47, 313), (59, 230), (60, 267), (61, 241), (91, 197), (93, 208), (123, 176), (124, 348), (125, 186)]) 0 0 8 [(0, .ref 7)] (.int z :: []) (hO R g1)) c60 rfl) ?_
                            refine m_go (L := [(275, .aload_n 0, 1, 0, 0), (276, .bipush 14, 2, 0, 0), (278, .bipush 61, 2, 0, 0), (280, .bipush 15, 2, 0, 0)]) (pc1 := 282) (lv1 := [(0, .ref 7)]) (st1 := [.int (15 : Int32), .int (61 : Int32), .int (14 : Int32), .ref 7]) (h1 := hO R g1) (by decide +kernel) rfl ?_
                            rcases m_cv_inv h with ⟨g61, e63, h⟩ | ⟨y64, g61, e63, rfl, rfl⟩
                            · refine m_ca (q := (282, .invokevirtual 151, 3, 99, 3)) (a := 99) (vs := [.ref 7, .int (14 : Int32), .int (61 : Int32), .int (15 : Int32)]) (st := []) (d1 := 1) (by decide +kernel) rfl rfl rfl rfl (by decide) (Fr99 e63) ?_
                              show m_Run X _ _ 98 285 [(0, .ref 7)] [] (hO R g61) _ _
                              refine m_go (L := [(285, .goto 92, 3, 0, 0)]) (pc1 := 377) (lv1 := [(0, .ref 7)]) (st1 := []) (h1 := hO R g61) (by decide +kernel) rfl ?_
                              cases h
                              exact m_rv (by decide +kernel)
                            · exact m_cx (q := (282, .invokevirtual 151, 3, 99, 3)) (a := 99) (vs := [.ref 7, .int (14 : Int32), .int (61 : Int32), .int (15 : Int32)]) (st := []) (d1 := 1) (by decide +kernel) (by decide +kernel) rfl rfl rfl rfl (by decide) (Fr99 e63)
                          · rw [if_neg c60] at h
                            by_cases c65 : v2 = 61
                            · rw [if_pos c65] at h
                              refine m_go1 (q := (8, .lookupswitch 361 #[(33, 254), (37, 324), (38, 335), (40, 156), (41, 166), (42, 302), (43, 280), (44, 219), (45, 291), (47, 313), (59, 230), (60, 267), (61, 241), (91, 197), (93, 208), (123, 176), (124, 348), (125, 186)], 156, 0, 0)) (pc1 := 249) (lv1 := [(0, .ref 7)]) (st1 := []) (h1 := hO R g1) (by decide +kernel) (m_swx (fun z => m_loc m_ft X (.lookupswitch 361 #[(33, 254), (37, 324), (38, 335), (40, 156), (41, 166), (42, 302), (43, 280), (44, 219), (45, 291), (47, 313), (59, 230), (60, 267), (61, 241), (91, 197), (93, 208), (123, 176), (124, 348), (125, 186)]) 0 0 8 [(0, .ref 7)] (.int z :: []) (hO R g1)) c65 rfl) ?_
                              refine m_go (L := [(249, .aload_n 0, 1, 0, 0), (250, .bipush 11, 2, 0, 0), (252, .bipush 61, 2, 0, 0), (254, .bipush 12, 2, 0, 0)]) (pc1 := 256) (lv1 := [(0, .ref 7)]) (st1 := [.int (12 : Int32), .int (61 : Int32), .int (11 : Int32), .ref 7]) (h1 := hO R g1) (by decide +kernel) rfl ?_
                              rcases m_cv_inv h with ⟨g66, e68, h⟩ | ⟨y69, g66, e68, rfl, rfl⟩
                              · refine m_ca (q := (256, .invokevirtual 151, 3, 99, 3)) (a := 99) (vs := [.ref 7, .int (11 : Int32), .int (61 : Int32), .int (12 : Int32)]) (st := []) (d1 := 1) (by decide +kernel) rfl rfl rfl rfl (by decide) (Fr99 e68) ?_
                                show m_Run X _ _ 98 259 [(0, .ref 7)] [] (hO R g66) _ _
                                refine m_go (L := [(259, .goto 118, 3, 0, 0)]) (pc1 := 377) (lv1 := [(0, .ref 7)]) (st1 := []) (h1 := hO R g66) (by decide +kernel) rfl ?_
                                cases h
                                exact m_rv (by decide +kernel)
                              · exact m_cx (q := (256, .invokevirtual 151, 3, 99, 3)) (a := 99) (vs := [.ref 7, .int (11 : Int32), .int (61 : Int32), .int (12 : Int32)]) (st := []) (d1 := 1) (by decide +kernel) (by decide +kernel) rfl rfl rfl rfl (by decide) (Fr99 e68)
                            · rw [if_neg c65] at h
                              by_cases c70 : v2 = 91
                              · rw [if_pos c70] at h
                                refine m_go1 (q := (8, .lookupswitch 361 #[(33, 254), (37, 324), (38, 335), (40, 156), (41, 166), (42, 302), (43, 280), (44, 219), (45, 291), (47, 313), (59, 230), (60, 267), (61, 241), (91, 197), (93, 208), (123, 176), (124, 348), (125, 186)], 156, 0, 0)) (pc1 := 205) (lv1 := [(0, .ref 7)]) (st1 := []) (h1 := hO R g1) (by decide +kernel) (m_swx (fun z => m_loc m_ft X (.lookupswitch 361 #[(33, 254), (37, 324), (38, 335), (40, 156), (41, 166), (42, 302), (43, 280), (44, 219), (45, 291), (47, 313), (59, 230), (60, 267), (61, 241), (91, 197), (93, 208), (123, 176), (124, 348), (125, 186)]) 0 0 8 [(0, .ref 7)] (.int z :: []) (hO R g1)) c70 rfl) ?_
                                refine m_go (L := [(205, .aload_n 0, 1, 0, 0), (206, .bipush 7, 2, 0, 0), (208, .iconst 0, 1, 0, 0), (209, .iconst 0, 1, 0, 0)]) (pc1 := 210) (lv1 := [(0, .ref 7)]) (st1 := [.int (0 : Int32), .int (0 : Int32), .int (7 : Int32), .ref 7]) (h1 := hO R g1) (by decide +kernel) rfl ?_
                                rcases m_cv_inv h with ⟨g71, e73, h⟩ | ⟨y74, g71, e73, rfl, rfl⟩
                                · refine m_ca (q := (210, .invokevirtual 151, 3, 99, 3)) (a := 99) (vs := [.ref 7, .int (7 : Int32), .int (0 : Int32), .int (0 : Int32)]) (st := []) (d1 := 1) (by decide +kernel) rfl rfl rfl rfl (by decide) (Fr99 e73) ?_
                                  show m_Run X _ _ 98 213 [(0, .ref 7)] [] (hO R g71) _ _
                                  refine m_go (L := [(213, .goto 164, 3, 0, 0)]) (pc1 := 377) (lv1 := [(0, .ref 7)]) (st1 := []) (h1 := hO R g71) (by decide +kernel) rfl ?_
                                  cases h
                                  exact m_rv (by decide +kernel)
                                · exact m_cx (q := (210, .invokevirtual 151, 3, 99, 3)) (a := 99) (vs := [.ref 7, .int (7 : Int32), .int (0 : Int32), .int (0 : Int32)]) (st := []) (d1 := 1) (by decide +kernel) (by decide +kernel) rfl rfl rfl rfl (by decide) (Fr99 e73)
                              · rw [if_neg c70] at h
                                by_cases c75 : v2 = 93
                                · rw [if_pos c75] at h
                                  refine m_go1 (q := (8, .lookupswitch 361 #[(33, 254), (37, 324), (38, 335), (40, 156), (41, 166), (42, 302), (43, 280), (44, 219), (45, 291), (47, 313), (59, 230), (60, 267), (61, 241), (91, 197), (93, 208), (123, 176), (124, 348), (125, 186)], 156, 0, 0)) (pc1 := 216) (lv1 := [(0, .ref 7)]) (st1 := []) (h1 := hO R g1) (by decide +kernel) (m_swx (fun z => m_loc m_ft X (.lookupswitch 361 #[(33, 254), (37, 324), (38, 335), (40, 156), (41, 166), (42, 302), (43, 280), (44, 219), (45, 291), (47, 313), (59, 230), (60, 267), (61, 241), (91, 197), (93, 208), (123, 176), (124, 348), (125, 186)]) 0 0 8 [(0, .ref 7)] (.int z :: []) (hO R g1)) c75 rfl) ?_
                                  refine m_go (L := [(216, .aload_n 0, 1, 0, 0), (217, .bipush 8, 2, 0, 0), (219, .iconst 0, 1, 0, 0), (220, .iconst 0, 1, 0, 0)]) (pc1 := 221) (lv1 := [(0, .ref 7)]) (st1 := [.int (0 : Int32), .int (0 : Int32), .int (8 : Int32), .ref 7]) (h1 := hO R g1) (by decide +kernel) rfl ?_
                                  rcases m_cv_inv h with ⟨g76, e78, h⟩ | ⟨y79, g76, e78, rfl, rfl⟩
                                  · refine m_ca (q := (221, .invokevirtual 151, 3, 99, 3)) (a := 99) (vs := [.ref 7, .int (8 : Int32), .int (0 : Int32), .int (0 : Int32)]) (st := []) (d1 := 1) (by decide +kernel) rfl rfl rfl rfl (by decide) (Fr99 e78) ?_
                                    show m_Run X _ _ 98 224 [(0, .ref 7)] [] (hO R g76) _ _
                                    refine m_go (L := [(224, .goto 153, 3, 0, 0)]) (pc1 := 377) (lv1 := [(0, .ref 7)]) (st1 := []) (h1 := hO R g76) (by decide +kernel) rfl ?_
                                    cases h
                                    exact m_rv (by decide +kernel)
                                  · exact m_cx (q := (221, .invokevirtual 151, 3, 99, 3)) (a := 99) (vs := [.ref 7, .int (8 : Int32), .int (0 : Int32), .int (0 : Int32)]) (st := []) (d1 := 1) (by decide +kernel) (by decide +kernel) rfl rfl rfl rfl (by decide) (Fr99 e78)
                                · rw [if_neg c75] at h
                                  by_cases c80 : v2 = 123
                                  · rw [if_pos c80] at h
                                    refine m_go1 (q := (8, .lookupswitch 361 #[(33, 254), (37, 324), (38, 335), (40, 156), (41, 166), (42, 302), (43, 280), (44, 219), (45, 291), (47, 313), (59, 230), (60, 267), (61, 241), (91, 197), (93, 208), (123, 176), (124, 348), (125, 186)], 156, 0, 0)) (pc1 := 184) (lv1 := [(0, .ref 7)]) (st1 := []) (h1 := hO R g1) (by decide +kernel) (m_swx (fun z => m_loc m_ft X (.lookupswitch 361 #[(33, 254), (37, 324), (38, 335), (40, 156), (41, 166), (42, 302), (43, 280), (44, 219), (45, 291), (47, 313), (59, 230), (60, 267), (61, 241), (91, 197), (93, 208), (123, 176), (124, 348), (125, 186)]) 0 0 8 [(0, .ref 7)] (.int z :: []) (hO R g1)) c80 rfl) ?_
                                    refine m_go (L := [(184, .aload_n 0, 1, 0, 0), (185, .iconst 5, 1, 0, 0), (186, .iconst 0, 1, 0, 0), (187, .iconst 0, 1, 0, 0)]) (pc1 := 188) (lv1 := [(0, .ref 7)]) (st1 := [.int (0 : Int32), .int (0 : Int32), .int (5 : Int32), .ref 7]) (h1 := hO R g1) (by decide +kernel) rfl ?_
                                    rcases m_cv_inv h with ⟨g81, e83, h⟩ | ⟨y84, g81, e83, rfl, rfl⟩
                                    · refine m_ca (q := (188, .invokevirtual 151, 3, 99, 3)) (a := 99) (vs := [.ref 7, .int (5 : Int32), .int (0 : Int32), .int (0 : Int32)]) (st := []) (d1 := 1) (by decide +kernel) rfl rfl rfl rfl (by decide) (Fr99 e83) ?_
                                      show m_Run X _ _ 98 191 [(0, .ref 7)] [] (hO R g81) _ _
                                      refine m_go (L := [(191, .goto 186, 3, 0, 0)]) (pc1 := 377) (lv1 := [(0, .ref 7)]) (st1 := []) (h1 := hO R g81) (by decide +kernel) rfl ?_
                                      cases h
                                      exact m_rv (by decide +kernel)
                                    · exact m_cx (q := (188, .invokevirtual 151, 3, 99, 3)) (a := 99) (vs := [.ref 7, .int (5 : Int32), .int (0 : Int32), .int (0 : Int32)]) (st := []) (d1 := 1) (by decide +kernel) (by decide +kernel) rfl rfl rfl rfl (by decide) (Fr99 e83)
                                  · rw [if_neg c80] at h
                                    by_cases c85 : v2 = 124
                                    · rw [if_pos c85] at h
                                      refine m_go1 (q := (8, .lookupswitch 361 #[(33, 254), (37, 324), (38, 335), (40, 156), (41, 166), (42, 302), (43, 280), (44, 219), (45, 291), (47, 313), (59, 230), (60, 267), (61, 241), (91, 197), (93, 208), (123, 176), (124, 348), (125, 186)], 156, 0, 0)) (pc1 := 356) (lv1 := [(0, .ref 7)]) (st1 := []) (h1 := hO R g1) (by decide +kernel) (m_swx (fun z => m_loc m_ft X (.lookupswitch 361 #[(33, 254), (37, 324), (38, 335), (40, 156), (41, 166), (42, 302), (43, 280), (44, 219), (45, 291), (47, 313), (59, 230), (60, 267), (61, 241), (91, 197), (93, 208), (123, 176), (124, 348), (125, 186)]) 0 0 8 [(0, .ref 7)] (.int z :: []) (hO R g1)) c85 rfl) ?_
                                      refine m_go (L := [(356, .aload_n 0, 1, 0, 0), (357, .bipush 35, 2, 0, 0), (359, .bipush 124, 2, 0, 0), (361, .bipush 23, 2, 0, 0)]) (pc1 := 363) (lv1 := [(0, .ref 7)]) (st1 := [.int (23 : Int32), .int (124 : Int32), .int (35 : Int32), .ref 7]) (h1 := hO R g1) (by decide +kernel) rfl ?_
                                      rcases m_cv_inv h with ⟨g86, e88, h⟩ | ⟨y89, g86, e88, rfl, rfl⟩
                                      · refine m_ca (q := (363, .invokevirtual 151, 3, 99, 3)) (a := 99) (vs := [.ref 7, .int (35 : Int32), .int (124 : Int32), .int (23 : Int32)]) (st := []) (d1 := 1) (by decide +kernel) rfl rfl rfl rfl (by decide) (Fr99 e88) ?_
                                        show m_Run X _ _ 98 366 [(0, .ref 7)] [] (hO R g86) _ _
                                        refine m_go (L := [(366, .goto 11, 3, 0, 0)]) (pc1 := 377) (lv1 := [(0, .ref 7)]) (st1 := []) (h1 := hO R g86) (by decide +kernel) rfl ?_
                                        cases h
                                        exact m_rv (by decide +kernel)
                                      · exact m_cx (q := (363, .invokevirtual 151, 3, 99, 3)) (a := 99) (vs := [.ref 7, .int (35 : Int32), .int (124 : Int32), .int (23 : Int32)]) (st := []) (d1 := 1) (by decide +kernel) (by decide +kernel) rfl rfl rfl rfl (by decide) (Fr99 e88)
                                    · rw [if_neg c85] at h
                                      by_cases c90 : v2 = 125
                                      · rw [if_pos c90] at h
                                        refine m_go1 (q := (8, .lookupswitch 361 #[(33, 254), (37, 324), (38, 335), (40, 156), (41, 166), (42, 302), (43, 280), (44, 219), (45, 291), (47, 313), (59, 230), (60, 267), (61, 241), (91, 197), (93, 208), (123, 176), (124, 348), (125, 186)], 156, 0, 0)) (pc1 := 194) (lv1 := [(0, .ref 7)]) (st1 := []) (h1 := hO R g1) (by decide +kernel) (m_swx (fun z => m_loc m_ft X (.lookupswitch 361 #[(33, 254), (37, 324), (38, 335), (40, 156), (41, 166), (42, 302), (43, 280), (44, 219), (45, 291), (47, 313), (59, 230), (60, 267), (61, 241), (91, 197), (93, 208), (123, 176), (124, 348), (125, 186)]) 0 0 8 [(0, .ref 7)] (.int z :: []) (hO R g1)) c90 rfl) ?_
                                        refine m_go (L := [(194, .aload_n 0, 1, 0, 0), (195, .bipush 6, 2, 0, 0), (197, .iconst 0, 1, 0, 0), (198, .iconst 0, 1, 0, 0)]) (pc1 := 199) (lv1 := [(0, .ref 7)]) (st1 := [.int (0 : Int32), .int (0 : Int32), .int (6 : Int32), .ref 7]) (h1 := hO R g1) (by decide +kernel) rfl ?_
                                        rcases m_cv_inv h with ⟨g91, e93, h⟩ | ⟨y94, g91, e93, rfl, rfl⟩
                                        · refine m_ca (q := (199, .invokevirtual 151, 3, 99, 3)) (a := 99) (vs := [.ref 7, .int (6 : Int32), .int (0 : Int32), .int (0 : Int32)]) (st := []) (d1 := 1) (by decide +kernel) rfl rfl rfl rfl (by decide) (Fr99 e93) ?_
                                          show m_Run X _ _ 98 202 [(0, .ref 7)] [] (hO R g91) _ _
                                          refine m_go (L := [(202, .goto 175, 3, 0, 0)]) (pc1 := 377) (lv1 := [(0, .ref 7)]) (st1 := []) (h1 := hO R g91) (by decide +kernel) rfl ?_
                                          cases h
                                          exact m_rv (by decide +kernel)
                                        · exact m_cx (q := (199, .invokevirtual 151, 3, 99, 3)) (a := 99) (vs := [.ref 7, .int (6 : Int32), .int (0 : Int32), .int (0 : Int32)]) (st := []) (d1 := 1) (by decide +kernel) (by decide +kernel) rfl rfl rfl rfl (by decide) (Fr99 e93)
                                      · rw [if_neg c90] at h
                                        refine m_go1 (q := (8, .lookupswitch 361 #[(33, 254), (37, 324), (38, 335), (40, 156), (41, 166), (42, 302), (43, 280), (44, 219), (45, 291), (47, 313), (59, 230), (60, 267), (61, 241), (91, 197), (93, 208), (123, 176), (124, 348), (125, 186)], 156, 0, 0)) (pc1 := 369) (lv1 := [(0, .ref 7)]) (st1 := []) (h1 := hO R g1) (by decide +kernel) (by show some (m_tg _ (Op.lookupswitch.offset _ _ _), _, _, _) = _; rw [m_lkd _ (List.forall_mem_cons.mpr ⟨m_ne (k := 33) (by decide) c5, List.forall_mem_cons.mpr ⟨m_ne (k := 37) (by decide) c10, List.forall_mem_cons.mpr ⟨m_ne (k := 38) (by decide) c15, List.forall_mem_cons.mpr ⟨m_ne (k := 40) (by decide) c20, List.forall_mem_cons.mpr ⟨m_ne (k := 41) (by decide) c25, List.forall_mem_cons.mpr ⟨m_ne (k := 42) (by decide) c30, List.forall_mem_cons.mpr ⟨m_ne (k := 43) (by decide) c35, List.forall_mem_cons.mpr ⟨m_ne (k := 44) (by decide) c40, List.forall_mem_cons.mpr ⟨m_ne (k := 45) (by decide) c45, List.forall_mem_cons.mpr ⟨m_ne (k := 47) (by decide) c50, List.forall_mem_cons.mpr ⟨m_ne (k := 59) (by decide) c55, List.forall_mem_cons.mpr ⟨m_ne (k := 60) (by decide) c60, List.forall_mem_cons.mpr ⟨m_ne (k := 61) (by decide) c65, List.forall_mem_cons.mpr ⟨m_ne (k := 91) (by decide) c70, List.forall_mem_cons.mpr ⟨m_ne (k := 93) (by decide) c75, List.forall_mem_cons.mpr ⟨m_ne (k := 123) (by decide) c80, List.forall_mem_cons.mpr ⟨m_ne (k := 124) (by decide) c85, List.forall_mem_cons.mpr ⟨m_ne (k := 125) (by decide) c90, fun _ hq => absurd hq List.not_mem_nil⟩⟩⟩⟩⟩⟩⟩⟩⟩⟩⟩⟩⟩⟩⟩⟩⟩⟩)]; rfl) ?_
                                        refine m_go (L := [(369, .aload_n 0, 1, 0, 0), (370, .bipush 35, 2, 0, 0), (372, .iconst 0, 1, 0, 0), (373, .iconst 0, 1, 0, 0)]) (pc1 := 374) (lv1 := [(0, .ref 7)]) (st1 := [.int (0 : Int32), .int (0 : Int32), .int (35 : Int32), .ref 7]) (h1 := hO R g1) (by decide +kernel) rfl ?_
                                        rcases m_cv_inv h with ⟨g95, e97, h⟩ | ⟨y98, g95, e97, rfl, rfl⟩
                                        · refine m_ca (q := (374, .invokevirtual 151, 3, 99, 3)) (a := 99) (vs := [.ref 7, .int (35 : Int32), .int (0 : Int32), .int (0 : Int32)]) (st := []) (d1 := 1) (by decide +kernel) rfl rfl rfl rfl (by decide) (Fr99 e97) ?_
                                          show m_Run X _ _ 98 377 [(0, .ref 7)] [] (hO R g95) _ _
                                          cases h
                                          exact m_rv (by decide +kernel)
                                        · exact m_cx (q := (374, .invokevirtual 151, 3, 99, 3)) (a := 99) (vs := [.ref 7, .int (35 : Int32), .int (0 : Int32), .int (0 : Int32)]) (st := []) (d1 := 1) (by decide +kernel) (by decide +kernel) rfl rfl rfl rfl (by decide) (Fr99 e97)
  · exact m_cx (q := (5, .invokevirtual 97, 3, 93, 1)) (a := 93) (vs := [.ref 7, .int (g.1 27)]) (st := []) (d1 := 0) (by decide +kernel) (by decide +kernel) rfl rfl rfl rfl (by decide) (Fr93 e3)
def f97_73 (n : Nat) (x1 : Int64) (s1 : Int32) (g : mG) : mZ := some (.inl none, (gI (gI g 26 s1) 29 (Int64.toInt32 x1)))
theorem Fr97_73 {R : Nat} {x1 : Int64} {s1 : Int32} {g g' : mG} {o : mO} (h : f97_73 n x1 s1 g = some (o, g')) : m_Run X (2) (m_ko o) 97 73 [(0, .ref 7), (1, .long x1)] [.int s1, .ref 7] (hO R g) o (hO R g') := by
  unfold f97_73 at h
  refine m_go (L := [(73, .putfield 142, 3, 6, 3), (76, .aload_n 0, 1, 0, 0), (77, .lload_n 1, 1, 0, 0), (78, .l2i, 1, 0, 0), (79, .putfield 145, 3, 6, 6)]) (pc1 := 82) (lv1 := [(0, .ref 7), (1, .long x1)]) (st1 := []) (h1 := hO R (gI (gI g 26 s1) 29 (Int64.toInt32 x1))) (by decide +kernel) rfl ?_
  cases h
  exact m_rv (by decide +kernel)
def f97_2 (n : Nat) : Nat → Int64 → mG → mZ
  | 0, _, _ => none
  | c + 1, x1, g => m_ci (f95 n (g.1 28) g) (fun v2 g1 => if v2 = 0 then if (lg_cmp x1 (2147483647 : Int64)) ≤ 0 then f97_73 n x1 (2 : Int32) g1 else f97_73 n x1 (35 : Int32) g1 else if (lg_cmp x1 (2147483647 : Int64)) ≤ 0 then m_ci (f93 n (g1.1 28) g1) (fun v9 g8 => f97_2 n c (((x1 * (10 : Int64)) + (Int32.toInt64 v9)) - (48 : Int64)) (gI g8 28 ((g8.1 28) + (1 : Int32)))) else f97_2 n c x1 (gI g1 28 ((g1.1 28) + (1 : Int32))))
set_option maxRecDepth 20000 in
theorem Fr97_2 {R : Nat} : ∀ (c : Nat) (x1 : Int64) (g g' : mG) (o : mO), f97_2 n c x1 g = some (o, g') → m_Run X (2) (m_ko o) 97 2 [(0, .ref 7), (1, .long x1)] [] (hO R g) o (hO R g') := by
  intro c
  induction c with
  | zero => intro x1 g g' o h; rw [f97_2] at h; cases h
  | succ c ih =>
    intro x1 g g' o h
    rw [f97_2] at h
    refine m_go (L := [(2, .aload_n 0, 1, 0, 0), (3, .aload_n 0, 1, 0, 0), (4, .getfield 133, 3, 6, 5)]) (pc1 := 7) (lv1 := [(0, .ref 7), (1, .long x1)]) (st1 := [.int (g.1 28), .ref 7]) (h1 := hO R g) (by decide +kernel) rfl ?_
    rcases m_ci_inv h with ⟨v2, g1, e3, h⟩ | ⟨y4, g1, e3, rfl, rfl⟩
    · refine m_ca (q := (7, .invokevirtual 101, 3, 95, 1)) (a := 95) (vs := [.ref 7, .int (g.1 28)]) (st := []) (d1 := 1) (by decide +kernel) rfl rfl rfl rfl (by decide) (Fr95 e3) ?_
      show m_Run X _ _ 97 10 [(0, .ref 7), (1, .long x1)] [.int v2] (hO R g1) _ _
      refine m_gob (c := v2 = 0) (t := 58) (f := 13) (L := [(10, .ifCond .eq 48, 3, 0, 0)]) (lv1 := [(0, .ref 7), (1, .long x1)]) (st1 := []) (h1 := hO R g1) (by decide +kernel) rfl (fun c5 => ?_) (fun c5 => ?_)
      · rw [if_pos c5] at h
        refine m_gob (c := (lg_cmp x1 (2147483647 : Int64)) ≤ 0) (t := 72) (f := 67) (L := [(58, .aload_n 0, 1, 0, 0), (59, .lload_n 1, 1, 0, 0), (60, .ldc2_w 136, 3, 0, 2147483647), (63, .lcmp, 1, 0, 0), (64, .ifCond .le 8, 3, 0, 0)]) (lv1 := [(0, .ref 7), (1, .long x1)]) (st1 := [.ref 7]) (h1 := hO R g1) (by decide +kernel) rfl (fun c6 => ?_) (fun c6 => ?_)
        · rw [if_pos c6] at h
          refine m_go (L := [(72, .iconst 2, 1, 0, 0)]) (pc1 := 73) (lv1 := [(0, .ref 7), (1, .long x1)]) (st1 := [.int (2 : Int32), .ref 7]) (h1 := hO R g1) (by decide +kernel) rfl ?_
          exact m_r0 _ _ _ _ _ _ _ _ _ _ (m_pick [0, 1] rfl) (Fr97_73 h)
        · rw [if_neg c6] at h
          refine m_go (L := [(67, .bipush 35, 2, 0, 0), (69, .goto 4, 3, 0, 0)]) (pc1 := 73) (lv1 := [(0, .ref 7), (1, .long x1)]) (st1 := [.int (35 : Int32), .ref 7]) (h1 := hO R g1) (by decide +kernel) rfl ?_
          exact m_r0 _ _ _ _ _ _ _ _ _ _ (m_pick [0, 1] rfl) (Fr97_73 h)
      · rw [if_neg c5] at h
        refine m_gob (c := (lg_cmp x1 (2147483647 : Int64)) ≤ 0) (t := 25) (f := 21) (L := [(13, .lload_n 1, 1, 0, 0), (14, .ldc2_w 136, 3, 0, 2147483647), (17, .lcmp, 1, 0, 0), (18, .ifCond .le 7, 3, 0, 0)]) (lv1 := [(0, .ref 7), (1, .long x1)]) (st1 := []) (h1 := hO R g1) (by decide +kernel) rfl (fun c7 => ?_) (fun c7 => ?_)
        · rw [if_pos c7] at h
          refine m_go (L := [(25, .lload_n 1, 1, 0, 0), (26, .ldc2_w 138, 3, 0, 10), (29, .lmul, 1, 0, 0), (30, .aload_n 0, 1, 0, 0), (31, .aload_n 0, 1, 0, 0), (32, .getfield 133, 3, 6, 5)]) (pc1 := 35) (lv1 := [(0, .ref 7), (1, .long x1)]) (st1 := [.int (g1.1 28), .ref 7, .long (x1 * (10 : Int64))]) (h1 := hO R g1) (by decide +kernel) rfl ?_
          rcases m_ci_inv h with ⟨v9, g8, e10, h⟩ | ⟨y11, g8, e10, rfl, rfl⟩
          · refine m_ca (q := (35, .invokevirtual 97, 3, 93, 1)) (a := 93) (vs := [.ref 7, .int (g1.1 28)]) (st := [.long (x1 * (10 : Int64))]) (d1 := 0) (by decide +kernel) rfl rfl rfl rfl (by decide) (Fr93 e10) ?_
            show m_Run X _ _ 97 38 [(0, .ref 7), (1, .long x1)] [.int v9, .long (x1 * (10 : Int64))] (hO R g8) _ _
            refine m_go (L := [(38, .i2l, 1, 0, 0), (39, .ladd, 1, 0, 0), (40, .ldc2_w 140, 3, 0, 48), (43, .lsub, 1, 0, 0), (44, .lstore_n 1, 1, 0, 0), (45, .aload_n 0, 1, 0, 0), (46, .dup, 1, 0, 0), (47, .getfield 133, 3, 6, 5), (50, .iconst 1, 1, 0, 0), (51, .iadd, 1, 0, 0), (52, .putfield 133, 3, 6, 5), (55, .goto (-53), 3, 0, 0)]) (pc1 := 2) (lv1 := [(0, .ref 7), (1, .long (((x1 * (10 : Int64)) + (Int32.toInt64 v9)) - (48 : Int64)))]) (st1 := []) (h1 := hO R (gI g8 28 ((g8.1 28) + (1 : Int32)))) (by decide +kernel) rfl ?_
            exact m_r0 _ _ _ _ _ _ _ _ _ _ (m_pick [0, 1] rfl) (ih _ _ _ _ h)
          · exact m_cx (q := (35, .invokevirtual 97, 3, 93, 1)) (a := 93) (vs := [.ref 7, .int (g1.1 28)]) (st := [.long (x1 * (10 : Int64))]) (d1 := 0) (by decide +kernel) (by decide +kernel) rfl rfl rfl rfl (by decide) (Fr93 e10)
        · rw [if_neg c7] at h
          refine m_go (L := [(21, .lload_n 1, 1, 0, 0), (22, .goto 22, 3, 0, 0), (44, .lstore_n 1, 1, 0, 0), (45, .aload_n 0, 1, 0, 0), (46, .dup, 1, 0, 0), (47, .getfield 133, 3, 6, 5), (50, .iconst 1, 1, 0, 0), (51, .iadd, 1, 0, 0), (52, .putfield 133, 3, 6, 5), (55, .goto (-53), 3, 0, 0)]) (pc1 := 2) (lv1 := [(0, .ref 7), (1, .long x1)]) (st1 := []) (h1 := hO R (gI g1 28 ((g1.1 28) + (1 : Int32)))) (by decide +kernel) rfl ?_
          exact m_r0 _ _ _ _ _ _ _ _ _ _ (m_pick [0, 1] rfl) (ih _ _ _ _ h)
    · exact m_cx (q := (7, .invokevirtual 101, 3, 95, 1)) (a := 95) (vs := [.ref 7, .int (g.1 28)]) (st := []) (d1 := 1) (by decide +kernel) (by decide +kernel) rfl rfl rfl rfl (by decide) (Fr95 e3)
def f97 (n : Nat) (g : mG) : mZ := f97_2 n n (0 : Int64) g
theorem Fr97 {R : Nat} {g g' : mG} {o : mO} (h : f97 n g = some (o, g')) : m_Run X (2) (m_ko o) 97 0 [(0, .ref 7)] [] (hO R g) o (hO R g') := by
  unfold f97 at h
  refine m_go (L := [(0, .lconst 0, 1, 0, 0), (1, .lstore_n 1, 1, 0, 0)]) (pc1 := 2) (lv1 := [(0, .ref 7), (1, .long (0 : Int64))]) (st1 := []) (h1 := hO R g) (by decide +kernel) rfl ?_
  exact m_r0 _ _ _ _ _ _ _ _ _ _ (m_pick [0, 1] rfl) (Fr97_2 _ _ _ _ _ h)
def f96_5 (n : Nat) : Nat → Int32 → Int32 → Int64 → Int32 → mG → mZ
  | 0, _, _, _, _, _ => none
  | c + 1, x1, x2, x3, x5, g => if x2 ≤ x5 then if ¬ (lg_cmp x3 (176 : Int64)) = 0 then if ¬ (lg_cmp x3 (8903 : Int64)) = 0 then if ¬ (lg_cmp x3 (10502465 : Int64)) = 0 then if ¬ (lg_cmp x3 (247162 : Int64)) = 0 then if ¬ (lg_cmp x3 (249 : Int64)) = 0 then if ¬ (lg_cmp x3 (107681 : Int64)) = 0 then if ¬ (lg_cmp x3 (12387497 : Int64)) = 0 then if ¬ (lg_cmp x3 (261347000 : Int64)) = 0 then if ¬ (lg_cmp x3 (7054768229 : Int64)) = 0 then if ¬ (lg_cmp x3 (407354 : Int64)) = 0 then if ¬ (lg_cmp x3 (3217595 : Int64)) = 0 then some (.inl (some (.int (1 : Int32))), g) else some (.inl (some (.int (34 : Int32))), g) else some (.inl (some (.int (33 : Int32))), g) else some (.inl (some (.int (32 : Int32))), g) else some (.inl (some (.int (31 : Int32))), g) else some (.inl (some (.int (30 : Int32))), g) else some (.inl (some (.int (29 : Int32))), g) else some (.inl (some (.int (28 : Int32))), g) else some (.inl (some (.int (27 : Int32))), g) else some (.inl (some (.int (26 : Int32))), g) else some (.inl (some (.int (25 : Int32))), g) else some (.inl (some (.int (24 : Int32))), g) else if (7 : Int32) < (x2 - x1) then f96_5 n c x1 x2 (-1 : Int64) (x5 + (1 : Int32)) g else m_ci (f95 n x5 g) (fun v15 g14 => if v15 = 0 then if 0 ≤ (lg_cmp x3 (0 : Int64)) then m_ci (f93 n x5 g14) (fun v21 g20 => f96_5 n c x1 x2 (((x3 * (27 : Int64)) + (Int32.toInt64 v21)) - (96 : Int64)) (x5 + (1 : Int32)) g20) else f96_5 n c x1 x2 x3 (x5 + (1 : Int32)) g14 else f96_5 n c x1 x2 (-1 : Int64) (x5 + (1 : Int32)) g14)
set_option maxRecDepth 20000 in
theorem Fr96_5 {R : Nat} : ∀ (c : Nat) (x1 : Int32) (x2 : Int32) (x3 : Int64) (x5 : Int32) (g g' : mG) (o : mO), f96_5 n c x1 x2 x3 x5 g = some (o, g') → m_Run X (2) (m_ko o) 96 5 [(0, .ref 7), (1, .int x1), (2, .int x2), (3, .long x3), (5, .int x5)] [] (hO R g) o (hO R g') := by
  intro c
  induction c with
  | zero => intro x1 x2 x3 x5 g g' o h; rw [f96_5] at h; cases h
  | succ c ih =>
    intro x1 x2 x3 x5 g g' o h
    rw [f96_5] at h
    refine m_gob (c := x2 ≤ x5) (t := 68) (f := 11) (L := [(5, .iload 5, 2, 0, 0), (7, .iload_n 2, 1, 0, 0), (8, .if_icmp .ge 60, 3, 0, 0)]) (lv1 := [(0, .ref 7), (1, .int x1), (2, .int x2), (3, .long x3), (5, .int x5)]) (st1 := []) (h1 := hO R g) (by decide +kernel) rfl (fun c1 => ?_) (fun c1 => ?_)
    · rw [if_pos c1] at h
      refine m_gob (c := ¬ (lg_cmp x3 (176 : Int64)) = 0) (t := 79) (f := 76) (L := [(68, .lload_n 3, 1, 0, 0), (69, .ldc2_w 111, 3, 0, 176), (72, .lcmp, 1, 0, 0), (73, .ifCond .ne 6, 3, 0, 0)]) (lv1 := [(0, .ref 7), (1, .int x1), (2, .int x2), (3, .long x3), (5, .int x5)]) (st1 := []) (h1 := hO R g) (by decide +kernel) rfl (fun c2 => ?_) (fun c2 => ?_)
      · rw [if_pos c2] at h
        refine m_gob (c := ¬ (lg_cmp x3 (8903 : Int64)) = 0) (t := 90) (f := 87) (L := [(79, .lload_n 3, 1, 0, 0), (80, .ldc2_w 113, 3, 0, 8903), (83, .lcmp, 1, 0, 0), (84, .ifCond .ne 6, 3, 0, 0)]) (lv1 := [(0, .ref 7), (1, .int x1), (2, .int x2), (3, .long x3), (5, .int x5)]) (st1 := []) (h1 := hO R g) (by decide +kernel) rfl (fun c3 => ?_) (fun c3 => ?_)
        · rw [if_pos c3] at h
          refine m_gob (c := ¬ (lg_cmp x3 (10502465 : Int64)) = 0) (t := 101) (f := 98) (L := [(90, .lload_n 3, 1, 0, 0), (91, .ldc2_w 115, 3, 0, 10502465), (94, .lcmp, 1, 0, 0), (95, .ifCond .ne 6, 3, 0, 0)]) (lv1 := [(0, .ref 7), (1, .int x1), (2, .int x2), (3, .long x3), (5, .int x5)]) (st1 := []) (h1 := hO R g) (by decide +kernel) rfl (fun c4 => ?_) (fun c4 => ?_)
          · rw [if_pos c4] at h
            refine m_gob (c := ¬ (lg_cmp x3 (247162 : Int64)) = 0) (t := 112) (f := 109) (L := [(101, .lload_n 3, 1, 0, 0), (102, .ldc2_w 117, 3, 0, 247162), (105, .lcmp, 1, 0, 0), (106, .ifCond .ne 6, 3, 0, 0)]) (lv1 := [(0, .ref 7), (1, .int x1), (2, .int x2), (3, .long x3), (5, .int x5)]) (st1 := []) (h1 := hO R g) (by decide +kernel) rfl (fun c5 => ?_) (fun c5 => ?_)
            · rw [if_pos c5] at h
              refine m_gob (c := ¬ (lg_cmp x3 (249 : Int64)) = 0) (t := 123) (f := 120) (L := [(112, .lload_n 3, 1, 0, 0), (113, .ldc2_w 119, 3, 0, 249), (116, .lcmp, 1, 0, 0), (117, .ifCond .ne 6, 3, 0, 0)]) (lv1 := [(0, .ref 7), (1, .int x1), (2, .int x2), (3, .long x3), (5, .int x5)]) (st1 := []) (h1 := hO R g) (by decide +kernel) rfl (fun c6 => ?_) (fun c6 => ?_)
              · rw [if_pos c6] at h
                refine m_gob (c := ¬ (lg_cmp x3 (107681 : Int64)) = 0) (t := 134) (f := 131) (L := [(123, .lload_n 3, 1, 0, 0), (124, .ldc2_w 121, 3, 0, 107681), (127, .lcmp, 1, 0, 0), (128, .ifCond .ne 6, 3, 0, 0)]) (lv1 := [(0, .ref 7), (1, .int x1), (2, .int x2), (3, .long x3), (5, .int x5)]) (st1 := []) (h1 := hO R g) (by decide +kernel) rfl (fun c7 => ?_) (fun c7 => ?_)
                · rw [if_pos c7] at h
                  refine m_gob (c := ¬ (lg_cmp x3 (12387497 : Int64)) = 0) (t := 145) (f := 142) (L := [(134, .lload_n 3, 1, 0, 0), (135, .ldc2_w 123, 3, 0, 12387497), (138, .lcmp, 1, 0, 0), (139, .ifCond .ne 6, 3, 0, 0)]) (lv1 := [(0, .ref 7), (1, .int x1), (2, .int x2), (3, .long x3), (5, .int x5)]) (st1 := []) (h1 := hO R g) (by decide +kernel) rfl (fun c8 => ?_) (fun c8 => ?_)
                  · rw [if_pos c8] at h
                    refine m_gob (c := ¬ (lg_cmp x3 (261347000 : Int64)) = 0) (t := 156) (f := 153) (L := [(145, .lload_n 3, 1, 0, 0), (146, .ldc2_w 125, 3, 0, 261347000), (149, .lcmp, 1, 0, 0), (150, .ifCond .ne 6, 3, 0, 0)]) (lv1 := [(0, .ref 7), (1, .int x1), (2, .int x2), (3, .long x3), (5, .int x5)]) (st1 := []) (h1 := hO R g) (by decide +kernel) rfl (fun c9 => ?_) (fun c9 => ?_)
                    · rw [if_pos c9] at h
                      refine m_gob (c := ¬ (lg_cmp x3 (7054768229 : Int64)) = 0) (t := 167) (f := 164) (L := [(156, .lload_n 3, 1, 0, 0), (157, .ldc2_w 127, 3, 0, 7054768229), (160, .lcmp, 1, 0, 0), (161, .ifCond .ne 6, 3, 0, 0)]) (lv1 := [(0, .ref 7), (1, .int x1), (2, .int x2), (3, .long x3), (5, .int x5)]) (st1 := []) (h1 := hO R g) (by decide +kernel) rfl (fun c10 => ?_) (fun c10 => ?_)
                      · rw [if_pos c10] at h
                        refine m_gob (c := ¬ (lg_cmp x3 (407354 : Int64)) = 0) (t := 178) (f := 175) (L := [(167, .lload_n 3, 1, 0, 0), (168, .ldc2_w 129, 3, 0, 407354), (171, .lcmp, 1, 0, 0), (172, .ifCond .ne 6, 3, 0, 0)]) (lv1 := [(0, .ref 7), (1, .int x1), (2, .int x2), (3, .long x3), (5, .int x5)]) (st1 := []) (h1 := hO R g) (by decide +kernel) rfl (fun c11 => ?_) (fun c11 => ?_)
                        · rw [if_pos c11] at h
                          refine m_gob (c := ¬ (lg_cmp x3 (3217595 : Int64)) = 0) (t := 189) (f := 186) (L := [(178, .lload_n 3, 1, 0, 0), (179, .ldc2_w 131, 3, 0, 3217595), (182, .lcmp, 1, 0, 0), (183, .ifCond .ne 6, 3, 0, 0)]) (lv1 := [(0, .ref 7), (1, .int x1), (2, .int x2), (3, .long x3), (5, .int x5)]) (st1 := []) (h1 := hO R g) (by decide +kernel) rfl (fun c12 => ?_) (fun c12 => ?_)
                          · rw [if_pos c12] at h
                            refine m_go (L := [(189, .iconst 1, 1, 0, 0)]) (pc1 := 190) (lv1 := [(0, .ref 7), (1, .int x1), (2, .int x2), (3, .long x3), (5, .int x5)]) (st1 := [.int (1 : Int32)]) (h1 := hO R g) (by decide +kernel) rfl ?_
                            cases h
                            exact m_ri (by decide +kernel)
                          · rw [if_neg c12] at h
                            refine m_go (L := [(186, .bipush 34, 2, 0, 0)]) (pc1 := 188) (lv1 := [(0, .ref 7), (1, .int x1), (2, .int x2), (3, .long x3), (5, .int x5)]) (st1 := [.int (34 : Int32)]) (h1 := hO R g) (by decide +kernel) rfl ?_
                            cases h
                            exact m_ri (by decide +kernel)
                        · rw [if_neg c11] at h
                          refine m_go (L := [(175, .bipush 33, 2, 0, 0)]) (pc1 := 177) (lv1 := [(0, .ref 7), (1, .int x1), (2, .int x2), (3, .long x3), (5, .int x5)]) (st1 := [.int (33 : Int32)]) (h1 := hO R g) (by decide +kernel) rfl ?_
                          cases h
                          exact m_ri (by decide +kernel)
                      · rw [if_neg c10] at h
                        refine m_go (L := [(164, .bipush 32, 2, 0, 0)]) (pc1 := 166) (lv1 := [(0, .ref 7), (1, .int x1), (2, .int x2), (3, .long x3), (5, .int x5)]) (st1 := [.int (32 : Int32)]) (h1 := hO R g) (by decide +kernel) rfl ?_
                        cases h
                        exact m_ri (by decide +kernel)
                    · rw [if_neg c9] at h
                      refine m_go (L := [(153, .bipush 31, 2, 0, 0)]) (pc1 := 155) (lv1 := [(0, .ref 7), (1, .int x1), (2, .int x2), (3, .long x3), (5, .int x5)]) (st1 := [.int (31 : Int32)]) (h1 := hO R g) (by decide +kernel) rfl ?_
                      cases h
                      exact m_ri (by decide +kernel)
                  · rw [if_neg c8] at h
                    refine m_go (L := [(142, .bipush 30, 2, 0, 0)]) (pc1 := 144) (lv1 := [(0, .ref 7), (1, .int x1), (2, .int x2), (3, .long x3), (5, .int x5)]) (st1 := [.int (30 : Int32)]) (h1 := hO R g) (by decide +kernel) rfl ?_
                    cases h
                    exact m_ri (by decide +kernel)
                · rw [if_neg c7] at h
                  refine m_go (L := [(131, .bipush 29, 2, 0, 0)]) (pc1 := 133) (lv1 := [(0, .ref 7), (1, .int x1), (2, .int x2), (3, .long x3), (5, .int x5)]) (st1 := [.int (29 : Int32)]) (h1 := hO R g) (by decide +kernel) rfl ?_
                  cases h
                  exact m_ri (by decide +kernel)
              · rw [if_neg c6] at h
                refine m_go (L := [(120, .bipush 28, 2, 0, 0)]) (pc1 := 122) (lv1 := [(0, .ref 7), (1, .int x1), (2, .int x2), (3, .long x3), (5, .int x5)]) (st1 := [.int (28 : Int32)]) (h1 := hO R g) (by decide +kernel) rfl ?_
                cases h
                exact m_ri (by decide +kernel)
            · rw [if_neg c5] at h
              refine m_go (L := [(109, .bipush 27, 2, 0, 0)]) (pc1 := 111) (lv1 := [(0, .ref 7), (1, .int x1), (2, .int x2), (3, .long x3), (5, .int x5)]) (st1 := [.int (27 : Int32)]) (h1 := hO R g) (by decide +kernel) rfl ?_
              cases h
              exact m_ri (by decide +kernel)
          · rw [if_neg c4] at h
            refine m_go (L := [(98, .bipush 26, 2, 0, 0)]) (pc1 := 100) (lv1 := [(0, .ref 7), (1, .int x1), (2, .int x2), (3, .long x3), (5, .int x5)]) (st1 := [.int (26 : Int32)]) (h1 := hO R g) (by decide +kernel) rfl ?_
            cases h
            exact m_ri (by decide +kernel)
        · rw [if_neg c3] at h
          refine m_go (L := [(87, .bipush 25, 2, 0, 0)]) (pc1 := 89) (lv1 := [(0, .ref 7), (1, .int x1), (2, .int x2), (3, .long x3), (5, .int x5)]) (st1 := [.int (25 : Int32)]) (h1 := hO R g) (by decide +kernel) rfl ?_
          cases h
          exact m_ri (by decide +kernel)
      · rw [if_neg c2] at h
        refine m_go (L := [(76, .bipush 24, 2, 0, 0)]) (pc1 := 78) (lv1 := [(0, .ref 7), (1, .int x1), (2, .int x2), (3, .long x3), (5, .int x5)]) (st1 := [.int (24 : Int32)]) (h1 := hO R g) (by decide +kernel) rfl ?_
        cases h
        exact m_ri (by decide +kernel)
    · rw [if_neg c1] at h
      refine m_gob (c := (7 : Int32) < (x2 - x1)) (t := 28) (f := 19) (L := [(11, .iload_n 2, 1, 0, 0), (12, .iload_n 1, 1, 0, 0), (13, .isub, 1, 0, 0), (14, .bipush 7, 2, 0, 0), (16, .if_icmp .gt 12, 3, 0, 0)]) (lv1 := [(0, .ref 7), (1, .int x1), (2, .int x2), (3, .long x3), (5, .int x5)]) (st1 := []) (h1 := hO R g) (by decide +kernel) rfl (fun c13 => ?_) (fun c13 => ?_)
      · rw [if_pos c13] at h
        refine m_go (L := [(28, .ldc2_w 105, 3, 1, 0), (31, .goto 30, 3, 0, 0), (61, .lstore_n 3, 1, 0, 0), (62, .iinc 5 1, 3, 0, 0), (65, .goto (-60), 3, 0, 0)]) (pc1 := 5) (lv1 := [(0, .ref 7), (1, .int x1), (2, .int x2), (3, .long (-1 : Int64)), (5, .int (x5 + (1 : Int32)))]) (st1 := []) (h1 := hO R g) (by decide +kernel) rfl ?_
        exact m_r0 _ _ _ _ _ _ _ _ _ _ (m_pick [0, 1, 2, 3, 4] rfl) (ih _ _ _ _ _ _ _ h)
      · rw [if_neg c13] at h
        refine m_go (L := [(19, .aload_n 0, 1, 0, 0), (20, .iload 5, 2, 0, 0)]) (pc1 := 22) (lv1 := [(0, .ref 7), (1, .int x1), (2, .int x2), (3, .long x3), (5, .int x5)]) (st1 := [.int x5, .ref 7]) (h1 := hO R g) (by decide +kernel) rfl ?_
        rcases m_ci_inv h with ⟨v15, g14, e16, h⟩ | ⟨y17, g14, e16, rfl, rfl⟩
        · refine m_ca (q := (22, .invokevirtual 101, 3, 95, 1)) (a := 95) (vs := [.ref 7, .int x5]) (st := []) (d1 := 1) (by decide +kernel) rfl rfl rfl rfl (by decide) (Fr95 e16) ?_
          show m_Run X _ _ 96 25 [(0, .ref 7), (1, .int x1), (2, .int x2), (3, .long x3), (5, .int x5)] [.int v15] (hO R g14) _ _
          refine m_gob (c := v15 = 0) (t := 34) (f := 28) (L := [(25, .ifCond .eq 9, 3, 0, 0)]) (lv1 := [(0, .ref 7), (1, .int x1), (2, .int x2), (3, .long x3), (5, .int x5)]) (st1 := []) (h1 := hO R g14) (by decide +kernel) rfl (fun c18 => ?_) (fun c18 => ?_)
          · rw [if_pos c18] at h
            refine m_gob (c := 0 ≤ (lg_cmp x3 (0 : Int64))) (t := 44) (f := 40) (L := [(34, .lload_n 3, 1, 0, 0), (35, .lconst 0, 1, 0, 0), (36, .lcmp, 1, 0, 0), (37, .ifCond .ge 7, 3, 0, 0)]) (lv1 := [(0, .ref 7), (1, .int x1), (2, .int x2), (3, .long x3), (5, .int x5)]) (st1 := []) (h1 := hO R g14) (by decide +kernel) rfl (fun c19 => ?_) (fun c19 => ?_)
            · rw [if_pos c19] at h
              refine m_go (L := [(44, .lload_n 3, 1, 0, 0), (45, .ldc2_w 107, 3, 0, 27), (48, .lmul, 1, 0, 0), (49, .aload_n 0, 1, 0, 0), (50, .iload 5, 2, 0, 0)]) (pc1 := 52) (lv1 := [(0, .ref 7), (1, .int x1), (2, .int x2), (3, .long x3), (5, .int x5)]) (st1 := [.int x5, .ref 7, .long (x3 * (27 : Int64))]) (h1 := hO R g14) (by decide +kernel) rfl ?_
              rcases m_ci_inv h with ⟨v21, g20, e22, h⟩ | ⟨y23, g20, e22, rfl, rfl⟩
              · refine m_ca (q := (52, .invokevirtual 97, 3, 93, 1)) (a := 93) (vs := [.ref 7, .int x5]) (st := [.long (x3 * (27 : Int64))]) (d1 := 0) (by decide +kernel) rfl rfl rfl rfl (by decide) (Fr93 e22) ?_
                show m_Run X _ _ 96 55 [(0, .ref 7), (1, .int x1), (2, .int x2), (3, .long x3), (5, .int x5)] [.int v21, .long (x3 * (27 : Int64))] (hO R g20) _ _
                refine m_go (L := [(55, .i2l, 1, 0, 0), (56, .ladd, 1, 0, 0), (57, .ldc2_w 109, 3, 0, 96), (60, .lsub, 1, 0, 0), (61, .lstore_n 3, 1, 0, 0), (62, .iinc 5 1, 3, 0, 0), (65, .goto (-60), 3, 0, 0)]) (pc1 := 5) (lv1 := [(0, .ref 7), (1, .int x1), (2, .int x2), (3, .long (((x3 * (27 : Int64)) + (Int32.toInt64 v21)) - (96 : Int64))), (5, .int (x5 + (1 : Int32)))]) (st1 := []) (h1 := hO R g20) (by decide +kernel) rfl ?_
                exact m_r0 _ _ _ _ _ _ _ _ _ _ (m_pick [0, 1, 2, 3, 4] rfl) (ih _ _ _ _ _ _ _ h)
              · exact m_cx (q := (52, .invokevirtual 97, 3, 93, 1)) (a := 93) (vs := [.ref 7, .int x5]) (st := [.long (x3 * (27 : Int64))]) (d1 := 0) (by decide +kernel) (by decide +kernel) rfl rfl rfl rfl (by decide) (Fr93 e22)
            · rw [if_neg c19] at h
              refine m_go (L := [(40, .lload_n 3, 1, 0, 0), (41, .goto 20, 3, 0, 0), (61, .lstore_n 3, 1, 0, 0), (62, .iinc 5 1, 3, 0, 0), (65, .goto (-60), 3, 0, 0)]) (pc1 := 5) (lv1 := [(0, .ref 7), (1, .int x1), (2, .int x2), (3, .long x3), (5, .int (x5 + (1 : Int32)))]) (st1 := []) (h1 := hO R g14) (by decide +kernel) rfl ?_
              exact m_r0 _ _ _ _ _ _ _ _ _ _ (m_pick [0, 1, 2, 3, 4] rfl) (ih _ _ _ _ _ _ _ h)
          · rw [if_neg c18] at h
            refine m_go (L := [(28, .ldc2_w 105, 3, 1, 0), (31, .goto 30, 3, 0, 0), (61, .lstore_n 3, 1, 0, 0), (62, .iinc 5 1, 3, 0, 0), (65, .goto (-60), 3, 0, 0)]) (pc1 := 5) (lv1 := [(0, .ref 7), (1, .int x1), (2, .int x2), (3, .long (-1 : Int64)), (5, .int (x5 + (1 : Int32)))]) (st1 := []) (h1 := hO R g14) (by decide +kernel) rfl ?_
            exact m_r0 _ _ _ _ _ _ _ _ _ _ (m_pick [0, 1, 2, 3, 4] rfl) (ih _ _ _ _ _ _ _ h)
        · exact m_cx (q := (22, .invokevirtual 101, 3, 95, 1)) (a := 95) (vs := [.ref 7, .int x5]) (st := []) (d1 := 1) (by decide +kernel) (by decide +kernel) rfl rfl rfl rfl (by decide) (Fr95 e16)
def f96 (n : Nat) (x1 : Int32) (x2 : Int32) (g : mG) : mZ := f96_5 n n x1 x2 (0 : Int64) x1 g
theorem Fr96 {R : Nat} {x1 : Int32} {x2 : Int32} {g g' : mG} {o : mO} (h : f96 n x1 x2 g = some (o, g')) : m_Run X (2) (m_ko o) 96 0 [(0, .ref 7), (1, .int x1), (2, .int x2)] [] (hO R g) o (hO R g') := by
  unfold f96 at h
  refine m_go (L := [(0, .lconst 0, 1, 0, 0), (1, .lstore_n 3, 1, 0, 0), (2, .iload_n 1, 1, 0, 0), (3, .istore 5, 2, 0, 0)]) (pc1 := 5) (lv1 := [(0, .ref 7), (1, .int x1), (2, .int x2), (3, .long (0 : Int64)), (5, .int x1)]) (st1 := []) (h1 := hO R g) (by decide +kernel) rfl ?_
  exact m_r0 _ _ _ _ _ _ _ _ _ _ (m_pick [0, 1, 2, 3, 4] rfl) (Fr96_5 _ _ _ _ _ _ _ _ h)
def f92_85 (n : Nat) : Nat → mG → mZ
  | 0, _ => none
  | c + 1, g => m_ci (f94 n (g.1 28) g) (fun v31 g30 => if ¬ v31 = 0 then f92_85 n c (gI g30 28 ((g30.1 28) + (1 : Int32))) else m_ci (f95 n (g30.1 28) g30) (fun v36 g35 => if v36 = 0 then m_ci (f96 n (g35.1 27) (g35.1 28) g35) (fun v41 g40 => some (.inl none, (gI g40 26 v41))) else f92_85 n c (gI g35 28 ((g35.1 28) + (1 : Int32)))))
set_option maxRecDepth 20000 in
theorem Fr92_85 {R : Nat} : ∀ (c : Nat) (g g' : mG) (o : mO), f92_85 n c g = some (o, g') → m_Run X (3) (m_ko o) 92 85 [(0, .ref 7)] [] (hO R g) o (hO R g') := by
  intro c
  induction c with
  | zero => intro g g' o h; rw [f92_85] at h; cases h
  | succ c ih =>
    intro g g' o h
    rw [f92_85] at h
    refine m_go (L := [(85, .aload_n 0, 1, 0, 0), (86, .aload_n 0, 1, 0, 0), (87, .getfield 133, 3, 6, 5)]) (pc1 := 90) (lv1 := [(0, .ref 7)]) (st1 := [.int (g.1 28), .ref 7]) (h1 := hO R g) (by decide +kernel) rfl ?_
    rcases m_ci_inv h with ⟨v31, g30, e32, h⟩ | ⟨y33, g30, e32, rfl, rfl⟩
    · refine m_ca (q := (90, .invokevirtual 155, 3, 94, 1)) (a := 94) (vs := [.ref 7, .int (g.1 28)]) (st := []) (d1 := 1) (by decide +kernel) rfl rfl rfl rfl (by decide) (Fr94 e32) ?_
      show m_Run X _ _ 92 93 [(0, .ref 7)] [.int v31] (hO R g30) _ _
      refine m_gob (c := ¬ v31 = 0) (t := 107) (f := 96) (L := [(93, .ifCond .ne 14, 3, 0, 0)]) (lv1 := [(0, .ref 7)]) (st1 := []) (h1 := hO R g30) (by decide +kernel) rfl (fun c34 => ?_) (fun c34 => ?_)
      · rw [if_pos c34] at h
        refine m_go (L := [(107, .aload_n 0, 1, 0, 0), (108, .dup, 1, 0, 0), (109, .getfield 133, 3, 6, 5), (112, .iconst 1, 1, 0, 0), (113, .iadd, 1, 0, 0), (114, .putfield 133, 3, 6, 5), (117, .goto (-32), 3, 0, 0)]) (pc1 := 85) (lv1 := [(0, .ref 7)]) (st1 := []) (h1 := hO R (gI g30 28 ((g30.1 28) + (1 : Int32)))) (by decide +kernel) rfl ?_
        exact m_r0 _ _ _ _ _ _ _ _ _ _ (m_pick [0] rfl) (ih _ _ _ h)
      · rw [if_neg c34] at h
        refine m_go (L := [(96, .aload_n 0, 1, 0, 0), (97, .aload_n 0, 1, 0, 0), (98, .getfield 133, 3, 6, 5)]) (pc1 := 101) (lv1 := [(0, .ref 7)]) (st1 := [.int (g30.1 28), .ref 7]) (h1 := hO R g30) (by decide +kernel) rfl ?_
        rcases m_ci_inv h with ⟨v36, g35, e37, h⟩ | ⟨y38, g35, e37, rfl, rfl⟩
        · refine m_ca (q := (101, .invokevirtual 101, 3, 95, 1)) (a := 95) (vs := [.ref 7, .int (g30.1 28)]) (st := []) (d1 := 1) (by decide +kernel) rfl rfl rfl rfl (by decide) (Fr95 e37) ?_
          show m_Run X _ _ 92 104 [(0, .ref 7)] [.int v36] (hO R g35) _ _
          refine m_gob (c := v36 = 0) (t := 120) (f := 107) (L := [(104, .ifCond .eq 16, 3, 0, 0)]) (lv1 := [(0, .ref 7)]) (st1 := []) (h1 := hO R g35) (by decide +kernel) rfl (fun c39 => ?_) (fun c39 => ?_)
          · rw [if_pos c39] at h
            refine m_go (L := [(120, .aload_n 0, 1, 0, 0), (121, .aload_n 0, 1, 0, 0), (122, .aload_n 0, 1, 0, 0), (123, .getfield 148, 3, 6, 4), (126, .aload_n 0, 1, 0, 0), (127, .getfield 133, 3, 6, 5)]) (pc1 := 130) (lv1 := [(0, .ref 7)]) (st1 := [.int (g35.1 28), .int (g35.1 27), .ref 7, .ref 7]) (h1 := hO R g35) (by decide +kernel) rfl ?_
            rcases m_ci_inv h with ⟨v41, g40, e42, h⟩ | ⟨y43, g40, e42, rfl, rfl⟩
            · refine m_ca (q := (130, .invokevirtual 158, 3, 96, 2)) (a := 96) (vs := [.ref 7, .int (g35.1 27), .int (g35.1 28)]) (st := [.ref 7]) (d1 := 2) (by decide +kernel) rfl rfl rfl rfl (by decide) (Fr96 e42) ?_
              show m_Run X _ _ 92 133 [(0, .ref 7)] [.int v41, .ref 7] (hO R g40) _ _
              refine m_go (L := [(133, .putfield 142, 3, 6, 3), (136, .goto 25, 3, 0, 0)]) (pc1 := 161) (lv1 := [(0, .ref 7)]) (st1 := []) (h1 := hO R (gI g40 26 v41)) (by decide +kernel) rfl ?_
              cases h
              exact m_rv (by decide +kernel)
            · exact m_cx (q := (130, .invokevirtual 158, 3, 96, 2)) (a := 96) (vs := [.ref 7, .int (g35.1 27), .int (g35.1 28)]) (st := [.ref 7]) (d1 := 2) (by decide +kernel) (by decide +kernel) rfl rfl rfl rfl (by decide) (Fr96 e42)
          · rw [if_neg c39] at h
            refine m_go (L := [(107, .aload_n 0, 1, 0, 0), (108, .dup, 1, 0, 0), (109, .getfield 133, 3, 6, 5), (112, .iconst 1, 1, 0, 0), (113, .iadd, 1, 0, 0), (114, .putfield 133, 3, 6, 5), (117, .goto (-32), 3, 0, 0)]) (pc1 := 85) (lv1 := [(0, .ref 7)]) (st1 := []) (h1 := hO R (gI g35 28 ((g35.1 28) + (1 : Int32)))) (by decide +kernel) rfl ?_
            exact m_r0 _ _ _ _ _ _ _ _ _ _ (m_pick [0] rfl) (ih _ _ _ h)
        · exact m_cx (q := (101, .invokevirtual 101, 3, 95, 1)) (a := 95) (vs := [.ref 7, .int (g30.1 28)]) (st := []) (d1 := 1) (by decide +kernel) (by decide +kernel) rfl rfl rfl rfl (by decide) (Fr95 e37)
    · exact m_cx (q := (90, .invokevirtual 155, 3, 94, 1)) (a := 94) (vs := [.ref 7, .int (g.1 28)]) (st := []) (d1 := 1) (by decide +kernel) (by decide +kernel) rfl rfl rfl rfl (by decide) (Fr94 e32)
def f92_0 (n : Nat) : Nat → mG → mZ
  | 0, _ => none
  | c + 1, g => m_ci (f93 n (g.1 28) g) (fun v2 g1 => if v2 = (32 : Int32) then f92_0 n c (gI g1 28 ((g1.1 28) + (1 : Int32))) else m_ci (f93 n (g1.1 28) g1) (fun v7 g6 => if ¬ v7 = (10 : Int32) then if (g6.1 28) < (g6.1 25) then m_ci (f94 n (g6.1 28) (gI g6 27 (g6.1 28))) (fun v13 g12 => if v13 = 0 then m_ci (f95 n (g12.1 27) g12) (fun v18 g17 => if v18 = 0 then m_cv (f98 n g17) (fun g22 => some (.inl none, g22)) else m_cv (f97 n g17) (fun g26 => some (.inl none, g26))) else f92_85 n n g12) else some (.inl none, (gI (gI g6 27 (g6.1 25)) 26 (0 : Int32))) else f92_0 n c (gI g6 28 ((g6.1 28) + (1 : Int32)))))
set_option maxRecDepth 20000 in
theorem Fr92_0 {R : Nat} : ∀ (c : Nat) (g g' : mG) (o : mO), f92_0 n c g = some (o, g') → m_Run X (3) (m_ko o) 92 0 [(0, .ref 7)] [] (hO R g) o (hO R g') := by
  intro c
  induction c with
  | zero => intro g g' o h; rw [f92_0] at h; cases h
  | succ c ih =>
    intro g g' o h
    rw [f92_0] at h
    refine m_go (L := [(0, .aload_n 0, 1, 0, 0), (1, .aload_n 0, 1, 0, 0), (2, .getfield 133, 3, 6, 5)]) (pc1 := 5) (lv1 := [(0, .ref 7)]) (st1 := [.int (g.1 28), .ref 7]) (h1 := hO R g) (by decide +kernel) rfl ?_
    rcases m_ci_inv h with ⟨v2, g1, e3, h⟩ | ⟨y4, g1, e3, rfl, rfl⟩
    · refine m_ca (q := (5, .invokevirtual 97, 3, 93, 1)) (a := 93) (vs := [.ref 7, .int (g.1 28)]) (st := []) (d1 := 0) (by decide +kernel) rfl rfl rfl rfl (by decide) (Fr93 e3) ?_
      show m_Run X _ _ 92 8 [(0, .ref 7)] [.int v2] (hO R g1) _ _
      refine m_gob (c := v2 = (32 : Int32)) (t := 26) (f := 13) (L := [(8, .bipush 32, 2, 0, 0), (10, .if_icmp .eq 16, 3, 0, 0)]) (lv1 := [(0, .ref 7)]) (st1 := []) (h1 := hO R g1) (by decide +kernel) rfl (fun c5 => ?_) (fun c5 => ?_)
      · rw [if_pos c5] at h
        refine m_go (L := [(26, .aload_n 0, 1, 0, 0), (27, .dup, 1, 0, 0), (28, .getfield 133, 3, 6, 5), (31, .iconst 1, 1, 0, 0), (32, .iadd, 1, 0, 0), (33, .putfield 133, 3, 6, 5), (36, .goto (-36), 3, 0, 0)]) (pc1 := 0) (lv1 := [(0, .ref 7)]) (st1 := []) (h1 := hO R (gI g1 28 ((g1.1 28) + (1 : Int32)))) (by decide +kernel) rfl ?_
        exact m_r0 _ _ _ _ _ _ _ _ _ _ (m_pick [0] rfl) (ih _ _ _ h)
      · rw [if_neg c5] at h
        refine m_go (L := [(13, .aload_n 0, 1, 0, 0), (14, .aload_n 0, 1, 0, 0), (15, .getfield 133, 3, 6, 5)]) (pc1 := 18) (lv1 := [(0, .ref 7)]) (st1 := [.int (g1.1 28), .ref 7]) (h1 := hO R g1) (by decide +kernel) rfl ?_
        rcases m_ci_inv h with ⟨v7, g6, e8, h⟩ | ⟨y9, g6, e8, rfl, rfl⟩
        · refine m_ca (q := (18, .invokevirtual 97, 3, 93, 1)) (a := 93) (vs := [.ref 7, .int (g1.1 28)]) (st := []) (d1 := 0) (by decide +kernel) rfl rfl rfl rfl (by decide) (Fr93 e8) ?_
          show m_Run X _ _ 92 21 [(0, .ref 7)] [.int v7] (hO R g6) _ _
          refine m_gob (c := ¬ v7 = (10 : Int32)) (t := 39) (f := 26) (L := [(21, .bipush 10, 2, 0, 0), (23, .if_icmp .ne 16, 3, 0, 0)]) (lv1 := [(0, .ref 7)]) (st1 := []) (h1 := hO R g6) (by decide +kernel) rfl (fun c10 => ?_) (fun c10 => ?_)
          · rw [if_pos c10] at h
            refine m_gob (c := (g6.1 28) < (g6.1 25)) (t := 74) (f := 58) (L := [(39, .aload_n 0, 1, 0, 0), (40, .aload_n 0, 1, 0, 0), (41, .getfield 133, 3, 6, 5), (44, .putfield 148, 3, 6, 4), (47, .aload_n 0, 1, 0, 0), (48, .getfield 148, 3, 6, 4), (51, .aload_n 0, 1, 0, 0), (52, .getfield 86, 3, 6, 2), (55, .if_icmp .lt 19, 3, 0, 0)]) (lv1 := [(0, .ref 7)]) (st1 := []) (h1 := hO R (gI g6 27 (g6.1 28))) (by decide +kernel) rfl (fun c11 => ?_) (fun c11 => ?_)
            · rw [if_pos c11] at h
              refine m_go (L := [(74, .aload_n 0, 1, 0, 0), (75, .aload_n 0, 1, 0, 0), (76, .getfield 148, 3, 6, 4)]) (pc1 := 79) (lv1 := [(0, .ref 7)]) (st1 := [.int (g6.1 28), .ref 7]) (h1 := hO R (gI g6 27 (g6.1 28))) (by decide +kernel) rfl ?_
              rcases m_ci_inv h with ⟨v13, g12, e14, h⟩ | ⟨y15, g12, e14, rfl, rfl⟩
              · refine m_ca (q := (79, .invokevirtual 155, 3, 94, 1)) (a := 94) (vs := [.ref 7, .int (g6.1 28)]) (st := []) (d1 := 1) (by decide +kernel) rfl rfl rfl rfl (by decide) (Fr94 e14) ?_
                show m_Run X _ _ 92 82 [(0, .ref 7)] [.int v13] (hO R g12) _ _
                refine m_gob (c := v13 = 0) (t := 139) (f := 85) (L := [(82, .ifCond .eq 57, 3, 0, 0)]) (lv1 := [(0, .ref 7)]) (st1 := []) (h1 := hO R g12) (by decide +kernel) rfl (fun c16 => ?_) (fun c16 => ?_)
                · rw [if_pos c16] at h
                  refine m_go (L := [(139, .aload_n 0, 1, 0, 0), (140, .aload_n 0, 1, 0, 0), (141, .getfield 148, 3, 6, 4)]) (pc1 := 144) (lv1 := [(0, .ref 7)]) (st1 := [.int (g12.1 27), .ref 7]) (h1 := hO R g12) (by decide +kernel) rfl ?_
                  rcases m_ci_inv h with ⟨v18, g17, e19, h⟩ | ⟨y20, g17, e19, rfl, rfl⟩
                  · refine m_ca (q := (144, .invokevirtual 101, 3, 95, 1)) (a := 95) (vs := [.ref 7, .int (g12.1 27)]) (st := []) (d1 := 1) (by decide +kernel) rfl rfl rfl rfl (by decide) (Fr95 e19) ?_
                    show m_Run X _ _ 92 147 [(0, .ref 7)] [.int v18] (hO R g17) _ _
                    refine m_gob (c := v18 = 0) (t := 157) (f := 150) (L := [(147, .ifCond .eq 10, 3, 0, 0)]) (lv1 := [(0, .ref 7)]) (st1 := []) (h1 := hO R g17) (by decide +kernel) rfl (fun c21 => ?_) (fun c21 => ?_)
                    · rw [if_pos c21] at h
                      refine m_go (L := [(157, .aload_n 0, 1, 0, 0)]) (pc1 := 158) (lv1 := [(0, .ref 7)]) (st1 := [.ref 7]) (h1 := hO R g17) (by decide +kernel) rfl ?_
                      rcases m_cv_inv h with ⟨g22, e24, h⟩ | ⟨y25, g22, e24, rfl, rfl⟩
                      · refine m_ca (q := (158, .invokevirtual 165, 3, 98, 0)) (a := 98) (vs := [.ref 7]) (st := []) (d1 := 2) (by decide +kernel) rfl rfl rfl rfl (by decide) (Fr98 e24) ?_
                        show m_Run X _ _ 92 161 [(0, .ref 7)] [] (hO R g22) _ _
                        cases h
                        exact m_rv (by decide +kernel)
                      · exact m_cx (q := (158, .invokevirtual 165, 3, 98, 0)) (a := 98) (vs := [.ref 7]) (st := []) (d1 := 2) (by decide +kernel) (by decide +kernel) rfl rfl rfl rfl (by decide) (Fr98 e24)
                    · rw [if_neg c21] at h
                      refine m_go (L := [(150, .aload_n 0, 1, 0, 0)]) (pc1 := 151) (lv1 := [(0, .ref 7)]) (st1 := [.ref 7]) (h1 := hO R g17) (by decide +kernel) rfl ?_
                      rcases m_cv_inv h with ⟨g26, e28, h⟩ | ⟨y29, g26, e28, rfl, rfl⟩
                      · refine m_ca (q := (151, .invokevirtual 162, 3, 97, 0)) (a := 97) (vs := [.ref 7]) (st := []) (d1 := 2) (by decide +kernel) rfl rfl rfl rfl (by decide) (Fr97 e28) ?_
                        show m_Run X _ _ 92 154 [(0, .ref 7)] [] (hO R g26) _ _
                        refine m_go (L := [(154, .goto 7, 3, 0, 0)]) (pc1 := 161) (lv1 := [(0, .ref 7)]) (st1 := []) (h1 := hO R g26) (by decide +kernel) rfl ?_
                        cases h
                        exact m_rv (by decide +kernel)
                      · exact m_cx (q := (151, .invokevirtual 162, 3, 97, 0)) (a := 97) (vs := [.ref 7]) (st := []) (d1 := 2) (by decide +kernel) (by decide +kernel) rfl rfl rfl rfl (by decide) (Fr97 e28)
                  · exact m_cx (q := (144, .invokevirtual 101, 3, 95, 1)) (a := 95) (vs := [.ref 7, .int (g12.1 27)]) (st := []) (d1 := 1) (by decide +kernel) (by decide +kernel) rfl rfl rfl rfl (by decide) (Fr95 e19)
                · rw [if_neg c16] at h
                  exact m_r0 _ _ _ _ _ _ _ _ _ _ (m_pick [0] rfl) (Fr92_85 _ _ _ _ h)
              · exact m_cx (q := (79, .invokevirtual 155, 3, 94, 1)) (a := 94) (vs := [.ref 7, .int (g6.1 28)]) (st := []) (d1 := 1) (by decide +kernel) (by decide +kernel) rfl rfl rfl rfl (by decide) (Fr94 e14)
            · rw [if_neg c11] at h
              refine m_go (L := [(58, .aload_n 0, 1, 0, 0), (59, .iconst 0, 1, 0, 0), (60, .putfield 142, 3, 6, 3), (63, .aload_n 0, 1, 0, 0), (64, .aload_n 0, 1, 0, 0), (65, .getfield 86, 3, 6, 2), (68, .putfield 148, 3, 6, 4), (71, .goto 90, 3, 0, 0)]) (pc1 := 161) (lv1 := [(0, .ref 7)]) (st1 := []) (h1 := hO R (gI (gI g6 27 (g6.1 25)) 26 (0 : Int32))) (by decide +kernel) rfl ?_
              cases h
              exact m_rv (by decide +kernel)
          · rw [if_neg c10] at h
            refine m_go (L := [(26, .aload_n 0, 1, 0, 0), (27, .dup, 1, 0, 0), (28, .getfield 133, 3, 6, 5), (31, .iconst 1, 1, 0, 0), (32, .iadd, 1, 0, 0), (33, .putfield 133, 3, 6, 5), (36, .goto (-36), 3, 0, 0)]) (pc1 := 0) (lv1 := [(0, .ref 7)]) (st1 := []) (h1 := hO R (gI g6 28 ((g6.1 28) + (1 : Int32)))) (by decide +kernel) rfl ?_
            exact m_r0 _ _ _ _ _ _ _ _ _ _ (m_pick [0] rfl) (ih _ _ _ h)
        · exact m_cx (q := (18, .invokevirtual 97, 3, 93, 1)) (a := 93) (vs := [.ref 7, .int (g1.1 28)]) (st := []) (d1 := 0) (by decide +kernel) (by decide +kernel) rfl rfl rfl rfl (by decide) (Fr93 e8)
    · exact m_cx (q := (5, .invokevirtual 97, 3, 93, 1)) (a := 93) (vs := [.ref 7, .int (g.1 28)]) (st := []) (d1 := 0) (by decide +kernel) (by decide +kernel) rfl rfl rfl rfl (by decide) (Fr93 e3)
def f92 (n : Nat) (g : mG) : mZ := f92_0 n n g
theorem Fr92 {R : Nat} {g g' : mG} {o : mO} (h : f92 n g = some (o, g')) : m_Run X (3) (m_ko o) 92 0 [(0, .ref 7)] [] (hO R g) o (hO R g') := by
  unfold f92 at h
  exact m_r0 _ _ _ _ _ _ _ _ _ _ (m_pick [0] rfl) (Fr92_0 _ _ _ _ h)
def f100 (n : Nat) (x1 : Int32) (g : mG) : mZ := if (g.1 31) < 0 ∨ 900 ≤ Int32.toNatClampNeg (g.1 31) then none else some (.inl none, (gI (gS g 33 (upd (g.2.1 33) (Int32.toNatClampNeg (g.1 31)) x1)) 31 ((g.1 31) + (1 : Int32))))
theorem Fr100 {R : Nat} {x1 : Int32} {g g' : mG} {o : mO} (h : f100 n x1 g = some (o, g')) : m_Run X (0) (m_ko o) 100 0 [(0, .ref 7), (1, .int x1)] [] (hO R g) o (hO R g') := by
  unfold f100 at h
  refine m_go (L := [(0, .aload_n 0, 1, 0, 0), (1, .getfield 13, 3, 6, 8), (4, .aload_n 0, 1, 0, 0), (5, .getfield 171, 3, 6, 9), (8, .iload_n 1, 1, 0, 0)]) (pc1 := 9) (lv1 := [(0, .ref 7), (1, .int x1)]) (st1 := [.int x1, .int (g.1 31), .ref 33]) (h1 := hO R g) (by decide +kernel) rfl ?_
  obtain ⟨c1, h⟩ := m_ifn_inv h
  refine m_go1 (q := (9, .iastore, 1, 0, 0)) (pc1 := 10) (lv1 := [(0, .ref 7), (1, .int x1)]) (st1 := []) (h1 := hO R (gS g 33 (upd (g.2.1 33) (Int32.toNatClampNeg (g.1 31)) x1))) (by decide +kernel) (if_neg c1) ?_
  refine m_go (L := [(10, .aload_n 0, 1, 0, 0), (11, .dup, 1, 0, 0), (12, .getfield 171, 3, 6, 9), (15, .iconst 1, 1, 0, 0), (16, .iadd, 1, 0, 0), (17, .putfield 171, 3, 6, 9)]) (pc1 := 20) (lv1 := [(0, .ref 7), (1, .int x1)]) (st1 := []) (h1 := hO R (gI (gS g 33 (upd (g.2.1 33) (Int32.toNatClampNeg (g.1 31)) x1)) 31 ((g.1 31) + (1 : Int32)))) (by decide +kernel) rfl ?_
  cases h
  exact m_rv (by decide +kernel)
def f108_29 (n : Nat) (x1 : Int32) (g : mG) : mZ := m_cv (f100 n x1 g) (fun g4 => some (.inl none, g4))
theorem Fr108_29 {R : Nat} {x1 : Int32} {g g' : mG} {o : mO} (h : f108_29 n x1 g = some (o, g')) : m_Run X (1) (m_ko o) 108 29 [(0, .ref 7), (1, .int x1)] [] (hO R g) o (hO R g') := by
  unfold f108_29 at h
  refine m_go (L := [(29, .aload_n 0, 1, 0, 0), (30, .iload_n 1, 1, 0, 0)]) (pc1 := 31) (lv1 := [(0, .ref 7), (1, .int x1)]) (st1 := [.int x1, .ref 7]) (h1 := hO R g) (by decide +kernel) rfl ?_
  rcases m_cv_inv h with ⟨g4, e6, h⟩ | ⟨y7, g4, e6, rfl, rfl⟩
  · refine m_ca (q := (31, .invokevirtual 174, 3, 100, 1)) (a := 100) (vs := [.ref 7, .int x1]) (st := []) (d1 := 0) (by decide +kernel) rfl rfl rfl rfl (by decide) (Fr100 e6) ?_
    show m_Run X _ _ 108 34 [(0, .ref 7), (1, .int x1)] [] (hO R g4) _ _
    cases h
    exact m_rv (by decide +kernel)
  · exact m_cx (q := (31, .invokevirtual 174, 3, 100, 1)) (a := 100) (vs := [.ref 7, .int x1]) (st := []) (d1 := 0) (by decide +kernel) (by decide +kernel) rfl rfl rfl rfl (by decide) (Fr100 e6)
def f108_20 (n : Nat) (x1 : Int32) (x2 : Int32) (g : mG) : mZ := if x2 ≤ 0 then f108_29 n x1 g else m_cv (f100 n x2 g) (fun g8 => f108_29 n x1 g8)
theorem Fr108_20 {R : Nat} {x1 : Int32} {x2 : Int32} {g g' : mG} {o : mO} (h : f108_20 n x1 x2 g = some (o, g')) : m_Run X (1) (m_ko o) 108 20 [(0, .ref 7), (1, .int x1), (2, .int x2)] [] (hO R g) o (hO R g') := by
  unfold f108_20 at h
  refine m_gob (c := x2 ≤ 0) (t := 29) (f := 24) (L := [(20, .iload_n 2, 1, 0, 0), (21, .ifCond .le 8, 3, 0, 0)]) (lv1 := [(0, .ref 7), (1, .int x1), (2, .int x2)]) (st1 := []) (h1 := hO R g) (by decide +kernel) rfl (fun c3 => ?_) (fun c3 => ?_)
  · rw [if_pos c3] at h
    exact m_r0 _ _ _ _ _ _ _ _ _ _ (m_pick [0, 1] rfl) (Fr108_29 h)
  · rw [if_neg c3] at h
    refine m_go (L := [(24, .aload_n 0, 1, 0, 0), (25, .iload_n 2, 1, 0, 0)]) (pc1 := 26) (lv1 := [(0, .ref 7), (1, .int x1), (2, .int x2)]) (st1 := [.int x2, .ref 7]) (h1 := hO R g) (by decide +kernel) rfl ?_
    rcases m_cv_inv h with ⟨g8, e10, h⟩ | ⟨y11, g8, e10, rfl, rfl⟩
    · refine m_ca (q := (26, .invokevirtual 174, 3, 100, 1)) (a := 100) (vs := [.ref 7, .int x2]) (st := []) (d1 := 0) (by decide +kernel) rfl rfl rfl rfl (by decide) (Fr100 e10) ?_
      show m_Run X _ _ 108 29 [(0, .ref 7), (1, .int x1), (2, .int x2)] [] (hO R g8) _ _
      exact m_r0 _ _ _ _ _ _ _ _ _ _ (m_pick [0, 1] rfl) (Fr108_29 h)
    · exact m_cx (q := (26, .invokevirtual 174, 3, 100, 1)) (a := 100) (vs := [.ref 7, .int x2]) (st := []) (d1 := 0) (by decide +kernel) (by decide +kernel) rfl rfl rfl rfl (by decide) (Fr100 e10)
def f108_11 (n : Nat) (x1 : Int32) (x2 : Int32) (x3 : Int32) (g : mG) : mZ := if x3 ≤ 0 then f108_20 n x1 x2 g else m_cv (f100 n x3 g) (fun g12 => f108_20 n x1 x2 g12)
theorem Fr108_11 {R : Nat} {x1 : Int32} {x2 : Int32} {x3 : Int32} {g g' : mG} {o : mO} (h : f108_11 n x1 x2 x3 g = some (o, g')) : m_Run X (1) (m_ko o) 108 11 [(0, .ref 7), (1, .int x1), (2, .int x2), (3, .int x3)] [] (hO R g) o (hO R g') := by
  unfold f108_11 at h
  refine m_gob (c := x3 ≤ 0) (t := 20) (f := 15) (L := [(11, .iload_n 3, 1, 0, 0), (12, .ifCond .le 8, 3, 0, 0)]) (lv1 := [(0, .ref 7), (1, .int x1), (2, .int x2), (3, .int x3)]) (st1 := []) (h1 := hO R g) (by decide +kernel) rfl (fun c2 => ?_) (fun c2 => ?_)
  · rw [if_pos c2] at h
    exact m_r0 _ _ _ _ _ _ _ _ _ _ (m_pick [0, 1, 2] rfl) (Fr108_20 h)
  · rw [if_neg c2] at h
    refine m_go (L := [(15, .aload_n 0, 1, 0, 0), (16, .iload_n 3, 1, 0, 0)]) (pc1 := 17) (lv1 := [(0, .ref 7), (1, .int x1), (2, .int x2), (3, .int x3)]) (st1 := [.int x3, .ref 7]) (h1 := hO R g) (by decide +kernel) rfl ?_
    rcases m_cv_inv h with ⟨g12, e14, h⟩ | ⟨y15, g12, e14, rfl, rfl⟩
    · refine m_ca (q := (17, .invokevirtual 174, 3, 100, 1)) (a := 100) (vs := [.ref 7, .int x3]) (st := []) (d1 := 0) (by decide +kernel) rfl rfl rfl rfl (by decide) (Fr100 e14) ?_
      show m_Run X _ _ 108 20 [(0, .ref 7), (1, .int x1), (2, .int x2), (3, .int x3)] [] (hO R g12) _ _
      exact m_r0 _ _ _ _ _ _ _ _ _ _ (m_pick [0, 1, 2] rfl) (Fr108_20 h)
    · exact m_cx (q := (17, .invokevirtual 174, 3, 100, 1)) (a := 100) (vs := [.ref 7, .int x3]) (st := []) (d1 := 0) (by decide +kernel) (by decide +kernel) rfl rfl rfl rfl (by decide) (Fr100 e14)
def f108 (n : Nat) (x1 : Int32) (x2 : Int32) (x3 : Int32) (x4 : Int32) (g : mG) : mZ := if x4 ≤ 0 then f108_11 n x1 x2 x3 g else m_cv (f100 n x4 g) (fun g16 => f108_11 n x1 x2 x3 g16)
theorem Fr108 {R : Nat} {x1 : Int32} {x2 : Int32} {x3 : Int32} {x4 : Int32} {g g' : mG} {o : mO} (h : f108 n x1 x2 x3 x4 g = some (o, g')) : m_Run X (1) (m_ko o) 108 0 [(0, .ref 7), (1, .int x1), (2, .int x2), (3, .int x3), (4, .int x4)] [] (hO R g) o (hO R g') := by
  unfold f108 at h
  refine m_gob (c := x4 ≤ 0) (t := 11) (f := 5) (L := [(0, .iload 4, 2, 0, 0), (2, .ifCond .le 9, 3, 0, 0)]) (lv1 := [(0, .ref 7), (1, .int x1), (2, .int x2), (3, .int x3), (4, .int x4)]) (st1 := []) (h1 := hO R g) (by decide +kernel) rfl (fun c1 => ?_) (fun c1 => ?_)
  · rw [if_pos c1] at h
    exact m_r0 _ _ _ _ _ _ _ _ _ _ (m_pick [0, 1, 2, 3] rfl) (Fr108_11 h)
  · rw [if_neg c1] at h
    refine m_go (L := [(5, .aload_n 0, 1, 0, 0), (6, .iload 4, 2, 0, 0)]) (pc1 := 8) (lv1 := [(0, .ref 7), (1, .int x1), (2, .int x2), (3, .int x3), (4, .int x4)]) (st1 := [.int x4, .ref 7]) (h1 := hO R g) (by decide +kernel) rfl ?_
    rcases m_cv_inv h with ⟨g16, e18, h⟩ | ⟨y19, g16, e18, rfl, rfl⟩
    · refine m_ca (q := (8, .invokevirtual 174, 3, 100, 1)) (a := 100) (vs := [.ref 7, .int x4]) (st := []) (d1 := 0) (by decide +kernel) rfl rfl rfl rfl (by decide) (Fr100 e18) ?_
      show m_Run X _ _ 108 11 [(0, .ref 7), (1, .int x1), (2, .int x2), (3, .int x3), (4, .int x4)] [] (hO R g16) _ _
      exact m_r0 _ _ _ _ _ _ _ _ _ _ (m_pick [0, 1, 2, 3] rfl) (Fr108_11 h)
    · exact m_cx (q := (8, .invokevirtual 174, 3, 100, 1)) (a := 100) (vs := [.ref 7, .int x4]) (st := []) (d1 := 0) (by decide +kernel) (by decide +kernel) rfl rfl rfl rfl (by decide) (Fr100 e18)
def f107 (n : Nat) (x1 : Int32) (g : mG) : mZ := if (g.1 32) < 0 ∨ 600 ≤ Int32.toNatClampNeg (g.1 32) then none else some (.inl none, (gI (gS g 34 (upd (g.2.1 34) (Int32.toNatClampNeg (g.1 32)) x1)) 32 ((g.1 32) + (1 : Int32))))
theorem Fr107 {R : Nat} {x1 : Int32} {g g' : mG} {o : mO} (h : f107 n x1 g = some (o, g')) : m_Run X (0) (m_ko o) 107 0 [(0, .ref 7), (1, .int x1)] [] (hO R g) o (hO R g') := by
  unfold f107 at h
  refine m_go (L := [(0, .aload_n 0, 1, 0, 0), (1, .getfield 16, 3, 6, 10), (4, .aload_n 0, 1, 0, 0), (5, .getfield 178, 3, 6, 11), (8, .iload_n 1, 1, 0, 0)]) (pc1 := 9) (lv1 := [(0, .ref 7), (1, .int x1)]) (st1 := [.int x1, .int (g.1 32), .ref 34]) (h1 := hO R g) (by decide +kernel) rfl ?_
  obtain ⟨c1, h⟩ := m_ifn_inv h
  refine m_go1 (q := (9, .iastore, 1, 0, 0)) (pc1 := 10) (lv1 := [(0, .ref 7), (1, .int x1)]) (st1 := []) (h1 := hO R (gS g 34 (upd (g.2.1 34) (Int32.toNatClampNeg (g.1 32)) x1))) (by decide +kernel) (if_neg c1) ?_
  refine m_go (L := [(10, .aload_n 0, 1, 0, 0), (11, .dup, 1, 0, 0), (12, .getfield 178, 3, 6, 11), (15, .iconst 1, 1, 0, 0), (16, .iadd, 1, 0, 0), (17, .putfield 178, 3, 6, 11)]) (pc1 := 20) (lv1 := [(0, .ref 7), (1, .int x1)]) (st1 := []) (h1 := hO R (gI (gS g 34 (upd (g.2.1 34) (Int32.toNatClampNeg (g.1 32)) x1)) 32 ((g.1 32) + (1 : Int32)))) (by decide +kernel) rfl ?_
  cases h
  exact m_rv (by decide +kernel)
def f120_32 (n : Nat) (x2 : Int32) (x3 : Int32) (x4 : Int32) (g : mG) : mZ := m_cv (f108 n (g.1 26) x2 x3 x4 g) (fun g11 => some (.inl none, g11))
theorem Fr120_32 {R : Nat} {x2 : Int32} {x3 : Int32} {x4 : Int32} {g g' : mG} {o : mO} (h : f120_32 n x2 x3 x4 g = some (o, g')) : m_Run X (2) (m_ko o) 120 32 [(0, .ref 7), (2, .int x2), (3, .int x3), (4, .int x4)] [] (hO R g) o (hO R g') := by
  unfold f120_32 at h
  refine m_go (L := [(32, .aload_n 0, 1, 0, 0), (33, .aload_n 0, 1, 0, 0), (34, .getfield 142, 3, 6, 3), (37, .iload_n 2, 1, 0, 0), (38, .iload_n 3, 1, 0, 0), (39, .iload 4, 2, 0, 0)]) (pc1 := 41) (lv1 := [(0, .ref 7), (2, .int x2), (3, .int x3), (4, .int x4)]) (st1 := [.int x4, .int x3, .int x2, .int (g.1 26), .ref 7]) (h1 := hO R g) (by decide +kernel) rfl ?_
  rcases m_cv_inv h with ⟨g11, e13, h⟩ | ⟨y14, g11, e13, rfl, rfl⟩
  · refine m_ca (q := (41, .invokevirtual 217, 3, 108, 4)) (a := 108) (vs := [.ref 7, .int (g.1 26), .int x2, .int x3, .int x4]) (st := []) (d1 := 1) (by decide +kernel) rfl rfl rfl rfl (by decide) (Fr108 e13) ?_
    show m_Run X _ _ 120 44 [(0, .ref 7), (2, .int x2), (3, .int x3), (4, .int x4)] [] (hO R g11) _ _
    cases h
    exact m_rv (by decide +kernel)
  · exact m_cx (q := (41, .invokevirtual 217, 3, 108, 4)) (a := 108) (vs := [.ref 7, .int (g.1 26), .int x2, .int x3, .int x4]) (st := []) (d1 := 1) (by decide +kernel) (by decide +kernel) rfl rfl rfl rfl (by decide) (Fr108 e13)
def f120 (n : Nat) (x1 : Int32) (x2 : Int32) (x3 : Int32) (x4 : Int32) (x5 : Int32) (g : mG) : mZ := if ¬ x1 = 0 then m_cv (f107 n (g.1 26) g) (fun g2 => m_cv (f107 n (g2.1 27) g2) (fun g6 => if x5 ≤ 0 then f120_32 n x2 x3 x4 g6 else m_cv (f100 n x5 g6) (fun g15 => f120_32 n x2 x3 x4 g15))) else some (.inl none, g)
theorem Fr120 {R : Nat} {x1 : Int32} {x2 : Int32} {x3 : Int32} {x4 : Int32} {x5 : Int32} {g g' : mG} {o : mO} (h : f120 n x1 x2 x3 x4 x5 g = some (o, g')) : m_Run X (2) (m_ko o) 120 0 [(0, .ref 7), (1, .int x1), (2, .int x2), (3, .int x3), (4, .int x4), (5, .int x5)] [] (hO R g) o (hO R g') := by
  unfold f120 at h
  refine m_gob (c := ¬ x1 = 0) (t := 5) (f := 4) (L := [(0, .iload_n 1, 1, 0, 0), (1, .ifCond .ne 4, 3, 0, 0)]) (lv1 := [(0, .ref 7), (1, .int x1), (2, .int x2), (3, .int x3), (4, .int x4), (5, .int x5)]) (st1 := []) (h1 := hO R g) (by decide +kernel) rfl (fun c1 => ?_) (fun c1 => ?_)
  · rw [if_pos c1] at h
    refine m_go (L := [(5, .aload_n 0, 1, 0, 0), (6, .aload_n 0, 1, 0, 0), (7, .getfield 142, 3, 6, 3)]) (pc1 := 10) (lv1 := [(0, .ref 7), (1, .int x1), (2, .int x2), (3, .int x3), (4, .int x4), (5, .int x5)]) (st1 := [.int (g.1 26), .ref 7]) (h1 := hO R g) (by decide +kernel) rfl ?_
    rcases m_cv_inv h with ⟨g2, e4, h⟩ | ⟨y5, g2, e4, rfl, rfl⟩
    · refine m_ca (q := (10, .invokevirtual 214, 3, 107, 1)) (a := 107) (vs := [.ref 7, .int (g.1 26)]) (st := []) (d1 := 0) (by decide +kernel) rfl rfl rfl rfl (by decide) (Fr107 e4) ?_
      show m_Run X _ _ 120 13 [(0, .ref 7), (1, .int x1), (2, .int x2), (3, .int x3), (4, .int x4), (5, .int x5)] [] (hO R g2) _ _
      refine m_go (L := [(13, .aload_n 0, 1, 0, 0), (14, .aload_n 0, 1, 0, 0), (15, .getfield 148, 3, 6, 4)]) (pc1 := 18) (lv1 := [(0, .ref 7), (1, .int x1), (2, .int x2), (3, .int x3), (4, .int x4), (5, .int x5)]) (st1 := [.int (g2.1 27), .ref 7]) (h1 := hO R g2) (by decide +kernel) rfl ?_
      rcases m_cv_inv h with ⟨g6, e8, h⟩ | ⟨y9, g6, e8, rfl, rfl⟩
      · refine m_ca (q := (18, .invokevirtual 214, 3, 107, 1)) (a := 107) (vs := [.ref 7, .int (g2.1 27)]) (st := []) (d1 := 0) (by decide +kernel) rfl rfl rfl rfl (by decide) (Fr107 e8) ?_
        show m_Run X _ _ 120 21 [(0, .ref 7), (1, .int x1), (2, .int x2), (3, .int x3), (4, .int x4), (5, .int x5)] [] (hO R g6) _ _
        refine m_gob (c := x5 ≤ 0) (t := 32) (f := 26) (L := [(21, .iload 5, 2, 0, 0), (23, .ifCond .le 9, 3, 0, 0)]) (lv1 := [(0, .ref 7), (1, .int x1), (2, .int x2), (3, .int x3), (4, .int x4), (5, .int x5)]) (st1 := []) (h1 := hO R g6) (by decide +kernel) rfl (fun c10 => ?_) (fun c10 => ?_)
        · rw [if_pos c10] at h
          exact m_r0 _ _ _ _ _ _ _ _ _ _ (m_pick [0, 2, 3, 4] rfl) (Fr120_32 h)
        · rw [if_neg c10] at h
          refine m_go (L := [(26, .aload_n 0, 1, 0, 0), (27, .iload 5, 2, 0, 0)]) (pc1 := 29) (lv1 := [(0, .ref 7), (1, .int x1), (2, .int x2), (3, .int x3), (4, .int x4), (5, .int x5)]) (st1 := [.int x5, .ref 7]) (h1 := hO R g6) (by decide +kernel) rfl ?_
          rcases m_cv_inv h with ⟨g15, e17, h⟩ | ⟨y18, g15, e17, rfl, rfl⟩
          · refine m_ca (q := (29, .invokevirtual 174, 3, 100, 1)) (a := 100) (vs := [.ref 7, .int x5]) (st := []) (d1 := 0) (by decide +kernel) rfl rfl rfl rfl (by decide) (Fr100 e17) ?_
            show m_Run X _ _ 120 32 [(0, .ref 7), (1, .int x1), (2, .int x2), (3, .int x3), (4, .int x4), (5, .int x5)] [] (hO R g15) _ _
            exact m_r0 _ _ _ _ _ _ _ _ _ _ (m_pick [0, 2, 3, 4] rfl) (Fr120_32 h)
          · exact m_cx (q := (29, .invokevirtual 174, 3, 100, 1)) (a := 100) (vs := [.ref 7, .int x5]) (st := []) (d1 := 0) (by decide +kernel) (by decide +kernel) rfl rfl rfl rfl (by decide) (Fr100 e17)
      · exact m_cx (q := (18, .invokevirtual 214, 3, 107, 1)) (a := 107) (vs := [.ref 7, .int (g2.1 27)]) (st := []) (d1 := 0) (by decide +kernel) (by decide +kernel) rfl rfl rfl rfl (by decide) (Fr107 e8)
    · exact m_cx (q := (10, .invokevirtual 214, 3, 107, 1)) (a := 107) (vs := [.ref 7, .int (g.1 26)]) (st := []) (d1 := 0) (by decide +kernel) (by decide +kernel) rfl rfl rfl rfl (by decide) (Fr107 e4)
  · rw [if_neg c1] at h
    cases h
    exact m_rv (by decide +kernel)
def f109 (n : Nat) (x1 : Int32) (x2 : Int32) (g : mG) : mZ := if (g.1 37) < 0 ∨ 2400 ≤ Int32.toNatClampNeg (g.1 37) then none else if (g.1 37) < 0 ∨ 2400 ≤ Int32.toNatClampNeg (g.1 37) then none else some (.inl none, (gI (gS (gS g 43 (upd (g.2.1 43) (Int32.toNatClampNeg (g.1 37)) x1)) 44 (upd (g.2.1 44) (Int32.toNatClampNeg (g.1 37)) x2)) 37 ((g.1 37) + (1 : Int32))))
theorem Fr109 {R : Nat} {x1 : Int32} {x2 : Int32} {g g' : mG} {o : mO} (h : f109 n x1 x2 g = some (o, g')) : m_Run X (0) (m_ko o) 109 0 [(0, .ref 7), (1, .int x1), (2, .int x2)] [] (hO R g) o (hO R g') := by
  unfold f109 at h
  refine m_go (L := [(0, .aload_n 0, 1, 0, 0), (1, .getfield 43, 3, 6, 25), (4, .aload_n 0, 1, 0, 0), (5, .getfield 184, 3, 6, 24), (8, .iload_n 1, 1, 0, 0)]) (pc1 := 9) (lv1 := [(0, .ref 7), (1, .int x1), (2, .int x2)]) (st1 := [.int x1, .int (g.1 37), .ref 43]) (h1 := hO R g) (by decide +kernel) rfl ?_
  obtain ⟨c1, h⟩ := m_ifn_inv h
  refine m_go1 (q := (9, .iastore, 1, 0, 0)) (pc1 := 10) (lv1 := [(0, .ref 7), (1, .int x1), (2, .int x2)]) (st1 := []) (h1 := hO R (gS g 43 (upd (g.2.1 43) (Int32.toNatClampNeg (g.1 37)) x1))) (by decide +kernel) (if_neg c1) ?_
  refine m_go (L := [(10, .aload_n 0, 1, 0, 0), (11, .getfield 46, 3, 6, 26), (14, .aload_n 0, 1, 0, 0), (15, .getfield 184, 3, 6, 24), (18, .iload_n 2, 1, 0, 0)]) (pc1 := 19) (lv1 := [(0, .ref 7), (1, .int x1), (2, .int x2)]) (st1 := [.int x2, .int (g.1 37), .ref 44]) (h1 := hO R (gS g 43 (upd (g.2.1 43) (Int32.toNatClampNeg (g.1 37)) x1))) (by decide +kernel) rfl ?_
  obtain ⟨c2, h⟩ := m_ifn_inv h
  refine m_go1 (q := (19, .iastore, 1, 0, 0)) (pc1 := 20) (lv1 := [(0, .ref 7), (1, .int x1), (2, .int x2)]) (st1 := []) (h1 := hO R (gS (gS g 43 (upd (g.2.1 43) (Int32.toNatClampNeg (g.1 37)) x1)) 44 (upd (g.2.1 44) (Int32.toNatClampNeg (g.1 37)) x2))) (by decide +kernel) (if_neg c2) ?_
  refine m_go (L := [(20, .aload_n 0, 1, 0, 0), (21, .dup, 1, 0, 0), (22, .getfield 184, 3, 6, 24), (25, .iconst 1, 1, 0, 0), (26, .iadd, 1, 0, 0), (27, .putfield 184, 3, 6, 24)]) (pc1 := 30) (lv1 := [(0, .ref 7), (1, .int x1), (2, .int x2)]) (st1 := []) (h1 := hO R (gI (gS (gS g 43 (upd (g.2.1 43) (Int32.toNatClampNeg (g.1 37)) x1)) 44 (upd (g.2.1 44) (Int32.toNatClampNeg (g.1 37)) x2)) 37 ((g.1 37) + (1 : Int32)))) (by decide +kernel) rfl ?_
  cases h
  exact m_rv (by decide +kernel)
def f121 (n : Nat) (x1 : Int32) (g : mG) : mZ := m_cv (f107 n (g.1 37) g) (fun g1 => m_cv (f109 n x1 (0 : Int32) g1) (fun g5 => some (.inl none, g5)))
theorem Fr121 {R : Nat} {x1 : Int32} {g g' : mG} {o : mO} (h : f121 n x1 g = some (o, g')) : m_Run X (1) (m_ko o) 121 0 [(0, .ref 7), (1, .int x1)] [] (hO R g) o (hO R g') := by
  unfold f121 at h
  refine m_go (L := [(0, .aload_n 0, 1, 0, 0), (1, .aload_n 0, 1, 0, 0), (2, .getfield 184, 3, 6, 24)]) (pc1 := 5) (lv1 := [(0, .ref 7), (1, .int x1)]) (st1 := [.int (g.1 37), .ref 7]) (h1 := hO R g) (by decide +kernel) rfl ?_
  rcases m_cv_inv h with ⟨g1, e3, h⟩ | ⟨y4, g1, e3, rfl, rfl⟩
  · refine m_ca (q := (5, .invokevirtual 214, 3, 107, 1)) (a := 107) (vs := [.ref 7, .int (g.1 37)]) (st := []) (d1 := 0) (by decide +kernel) rfl rfl rfl rfl (by decide) (Fr107 e3) ?_
    show m_Run X _ _ 121 8 [(0, .ref 7), (1, .int x1)] [] (hO R g1) _ _
    refine m_go (L := [(8, .aload_n 0, 1, 0, 0), (9, .iload_n 1, 1, 0, 0), (10, .iconst 0, 1, 0, 0)]) (pc1 := 11) (lv1 := [(0, .ref 7), (1, .int x1)]) (st1 := [.int (0 : Int32), .int x1, .ref 7]) (h1 := hO R g1) (by decide +kernel) rfl ?_
    rcases m_cv_inv h with ⟨g5, e7, h⟩ | ⟨y8, g5, e7, rfl, rfl⟩
    · refine m_ca (q := (11, .invokevirtual 221, 3, 109, 2)) (a := 109) (vs := [.ref 7, .int x1, .int (0 : Int32)]) (st := []) (d1 := 0) (by decide +kernel) rfl rfl rfl rfl (by decide) (Fr109 e7) ?_
      show m_Run X _ _ 121 14 [(0, .ref 7), (1, .int x1)] [] (hO R g5) _ _
      cases h
      exact m_rv (by decide +kernel)
    · exact m_cx (q := (11, .invokevirtual 221, 3, 109, 2)) (a := 109) (vs := [.ref 7, .int x1, .int (0 : Int32)]) (st := []) (d1 := 0) (by decide +kernel) (by decide +kernel) rfl rfl rfl rfl (by decide) (Fr109 e7)
  · exact m_cx (q := (5, .invokevirtual 214, 3, 107, 1)) (a := 107) (vs := [.ref 7, .int (g.1 37)]) (st := []) (d1 := 0) (by decide +kernel) (by decide +kernel) rfl rfl rfl rfl (by decide) (Fr107 e3)
def f115 (n : Nat) (g : mG) : mZ := if ((g.1 32) - (1 : Int32)) < 0 ∨ 600 ≤ Int32.toNatClampNeg ((g.1 32) - (1 : Int32)) then none else some (.inl (some (.int ((g.2.1 34) (Int32.toNatClampNeg ((g.1 32) - (1 : Int32)))))), (gI g 32 ((g.1 32) - (1 : Int32))))
theorem Fr115 {R : Nat} {g g' : mG} {o : mO} (h : f115 n g = some (o, g')) : m_Run X (0) (m_ko o) 115 0 [(0, .ref 7)] [] (hO R g) o (hO R g') := by
  unfold f115 at h
  refine m_go (L := [(0, .aload_n 0, 1, 0, 0), (1, .dup, 1, 0, 0), (2, .getfield 178, 3, 6, 11), (5, .iconst 1, 1, 0, 0), (6, .isub, 1, 0, 0), (7, .putfield 178, 3, 6, 11), (10, .aload_n 0, 1, 0, 0), (11, .getfield 16, 3, 6, 10), (14, .aload_n 0, 1, 0, 0), (15, .getfield 178, 3, 6, 11)]) (pc1 := 18) (lv1 := [(0, .ref 7)]) (st1 := [.int ((g.1 32) - (1 : Int32)), .ref 34]) (h1 := hO R (gI g 32 ((g.1 32) - (1 : Int32)))) (by decide +kernel) rfl ?_
  obtain ⟨c1, h⟩ := m_ifn_inv h
  refine m_go1 (q := (18, .iaload, 1, 0, 0)) (pc1 := 19) (lv1 := [(0, .ref 7)]) (st1 := [.int ((g.2.1 34) (Int32.toNatClampNeg ((g.1 32) - (1 : Int32))))]) (h1 := hO R (gI g 32 ((g.1 32) - (1 : Int32)))) (by decide +kernel) (if_neg c1) ?_
  cases h
  exact m_ri (by decide +kernel)
def f117 (n : Nat) (g : mG) : mZ := if ((g.1 33) - (1 : Int32)) < 0 ∨ 400 ≤ Int32.toNatClampNeg ((g.1 33) - (1 : Int32)) then none else some (.inl (some (.int ((g.2.1 35) (Int32.toNatClampNeg ((g.1 33) - (1 : Int32)))))), (gI g 33 ((g.1 33) - (1 : Int32))))
theorem Fr117 {R : Nat} {g g' : mG} {o : mO} (h : f117 n g = some (o, g')) : m_Run X (0) (m_ko o) 117 0 [(0, .ref 7)] [] (hO R g) o (hO R g') := by
  unfold f117 at h
  refine m_go (L := [(0, .aload_n 0, 1, 0, 0), (1, .dup, 1, 0, 0), (2, .getfield 181, 3, 6, 13), (5, .iconst 1, 1, 0, 0), (6, .isub, 1, 0, 0), (7, .putfield 181, 3, 6, 13), (10, .aload_n 0, 1, 0, 0), (11, .getfield 19, 3, 6, 12), (14, .aload_n 0, 1, 0, 0), (15, .getfield 181, 3, 6, 13)]) (pc1 := 18) (lv1 := [(0, .ref 7)]) (st1 := [.int ((g.1 33) - (1 : Int32)), .ref 35]) (h1 := hO R (gI g 33 ((g.1 33) - (1 : Int32)))) (by decide +kernel) rfl ?_
  obtain ⟨c1, h⟩ := m_ifn_inv h
  refine m_go1 (q := (18, .iaload, 1, 0, 0)) (pc1 := 19) (lv1 := [(0, .ref 7)]) (st1 := [.int ((g.2.1 35) (Int32.toNatClampNeg ((g.1 33) - (1 : Int32))))]) (h1 := hO R (gI g 33 ((g.1 33) - (1 : Int32)))) (by decide +kernel) (if_neg c1) ?_
  cases h
  exact m_ri (by decide +kernel)
def f103_16 (n : Nat) (s1 : Int32) (g : mG) : mZ := some (.inl none, (gI g 30 s1))
theorem Fr103_16 {R : Nat} {s1 : Int32} {g g' : mG} {o : mO} (h : f103_16 n s1 g = some (o, g')) : m_Run X (0) (m_ko o) 103 16 [] [.int s1, .ref 7] (hO R g) o (hO R g') := by
  unfold f103_16 at h
  refine m_go (L := [(16, .putfield 168, 3, 6, 7)]) (pc1 := 19) (lv1 := []) (st1 := []) (h1 := hO R (gI g 30 s1)) (by decide +kernel) rfl ?_
  cases h
  exact m_rv (by decide +kernel)
def f103 (n : Nat) (x1 : Int32) (g : mG) : mZ := if 0 ≤ (g.1 30) then f103_16 n (g.1 30) g else f103_16 n x1 g
theorem Fr103 {R : Nat} {x1 : Int32} {g g' : mG} {o : mO} (h : f103 n x1 g = some (o, g')) : m_Run X (0) (m_ko o) 103 0 [(0, .ref 7), (1, .int x1)] [] (hO R g) o (hO R g') := by
  unfold f103 at h
  refine m_gob (c := 0 ≤ (g.1 30)) (t := 12) (f := 8) (L := [(0, .aload_n 0, 1, 0, 0), (1, .aload_n 0, 1, 0, 0), (2, .getfield 168, 3, 6, 7), (5, .ifCond .ge 7, 3, 0, 0)]) (lv1 := [(0, .ref 7), (1, .int x1)]) (st1 := [.ref 7]) (h1 := hO R g) (by decide +kernel) rfl (fun c1 => ?_) (fun c1 => ?_)
  · rw [if_pos c1] at h
    refine m_go (L := [(12, .aload_n 0, 1, 0, 0), (13, .getfield 168, 3, 6, 7)]) (pc1 := 16) (lv1 := [(0, .ref 7), (1, .int x1)]) (st1 := [.int (g.1 30), .ref 7]) (h1 := hO R g) (by decide +kernel) rfl ?_
    exact m_r0 _ _ _ _ _ _ _ _ _ _ (m_pick [] rfl) (Fr103_16 h)
  · rw [if_neg c1] at h
    refine m_go (L := [(8, .iload_n 1, 1, 0, 0), (9, .goto 7, 3, 0, 0)]) (pc1 := 16) (lv1 := [(0, .ref 7), (1, .int x1)]) (st1 := [.int x1, .ref 7]) (h1 := hO R g) (by decide +kernel) rfl ?_
    exact m_r0 _ _ _ _ _ _ _ _ _ _ (m_pick [] rfl) (Fr103_16 h)
def f110 (n : Nat) (x1 : Int32) (g : mG) : mZ := if (g.1 33) < 0 ∨ 400 ≤ Int32.toNatClampNeg (g.1 33) then none else some (.inl none, (gI (gS g 35 (upd (g.2.1 35) (Int32.toNatClampNeg (g.1 33)) x1)) 33 ((g.1 33) + (1 : Int32))))
theorem Fr110 {R : Nat} {x1 : Int32} {g g' : mG} {o : mO} (h : f110 n x1 g = some (o, g')) : m_Run X (0) (m_ko o) 110 0 [(0, .ref 7), (1, .int x1)] [] (hO R g) o (hO R g') := by
  unfold f110 at h
  refine m_go (L := [(0, .aload_n 0, 1, 0, 0), (1, .getfield 19, 3, 6, 12), (4, .aload_n 0, 1, 0, 0), (5, .getfield 181, 3, 6, 13), (8, .iload_n 1, 1, 0, 0)]) (pc1 := 9) (lv1 := [(0, .ref 7), (1, .int x1)]) (st1 := [.int x1, .int (g.1 33), .ref 35]) (h1 := hO R g) (by decide +kernel) rfl ?_
  obtain ⟨c1, h⟩ := m_ifn_inv h
  refine m_go1 (q := (9, .iastore, 1, 0, 0)) (pc1 := 10) (lv1 := [(0, .ref 7), (1, .int x1)]) (st1 := []) (h1 := hO R (gS g 35 (upd (g.2.1 35) (Int32.toNatClampNeg (g.1 33)) x1))) (by decide +kernel) (if_neg c1) ?_
  refine m_go (L := [(10, .aload_n 0, 1, 0, 0), (11, .dup, 1, 0, 0), (12, .getfield 181, 3, 6, 13), (15, .iconst 1, 1, 0, 0), (16, .iadd, 1, 0, 0), (17, .putfield 181, 3, 6, 13)]) (pc1 := 20) (lv1 := [(0, .ref 7), (1, .int x1)]) (st1 := []) (h1 := hO R (gI (gS g 35 (upd (g.2.1 35) (Int32.toNatClampNeg (g.1 33)) x1)) 33 ((g.1 33) + (1 : Int32)))) (by decide +kernel) rfl ?_
  cases h
  exact m_rv (by decide +kernel)
def f123 (n : Nat) (x1 : Int32) (g : mG) : mZ := if x1 < 0 ∨ 2400 ≤ Int32.toNatClampNeg x1 then none else some (.inl none, (gS g 44 (upd (g.2.1 44) (Int32.toNatClampNeg x1) (g.1 37))))
theorem Fr123 {R : Nat} {x1 : Int32} {g g' : mG} {o : mO} (h : f123 n x1 g = some (o, g')) : m_Run X (0) (m_ko o) 123 0 [(0, .ref 7), (1, .int x1)] [] (hO R g) o (hO R g') := by
  unfold f123 at h
  refine m_go (L := [(0, .aload_n 0, 1, 0, 0), (1, .getfield 46, 3, 6, 26), (4, .iload_n 1, 1, 0, 0), (5, .aload_n 0, 1, 0, 0), (6, .getfield 184, 3, 6, 24)]) (pc1 := 9) (lv1 := [(0, .ref 7), (1, .int x1)]) (st1 := [.int (g.1 37), .int x1, .ref 44]) (h1 := hO R g) (by decide +kernel) rfl ?_
  obtain ⟨c1, h⟩ := m_ifn_inv h
  refine m_go1 (q := (9, .iastore, 1, 0, 0)) (pc1 := 10) (lv1 := [(0, .ref 7), (1, .int x1)]) (st1 := []) (h1 := hO R (gS g 44 (upd (g.2.1 44) (Int32.toNatClampNeg x1) (g.1 37)))) (by decide +kernel) (if_neg c1) ?_
  cases h
  exact m_rv (by decide +kernel)
def f122_141 (n : Nat) (s1 : Int32) (g : mG) : mZ := m_cv (f110 n s1 g) (fun g36 => some (.inl none, g36))
theorem Fr122_141 {R : Nat} {s1 : Int32} {g g' : mG} {o : mO} (h : f122_141 n s1 g = some (o, g')) : m_Run X (1) (m_ko o) 122 141 [] [.int s1, .ref 7] (hO R g) o (hO R g') := by
  unfold f122_141 at h
  rcases m_cv_inv h with ⟨g36, e38, h⟩ | ⟨y39, g36, e38, rfl, rfl⟩
  · refine m_ca (q := (141, .invokevirtual 275, 3, 110, 1)) (a := 110) (vs := [.ref 7, .int s1]) (st := []) (d1 := 0) (by decide +kernel) rfl rfl rfl rfl (by decide) (Fr110 e38) ?_
    show m_Run X _ _ 122 144 [] [] (hO R g36) _ _
    cases h
    exact m_rv (by decide +kernel)
  · exact m_cx (q := (141, .invokevirtual 275, 3, 110, 1)) (a := 110) (vs := [.ref 7, .int s1]) (st := []) (d1 := 0) (by decide +kernel) (by decide +kernel) rfl rfl rfl rfl (by decide) (Fr110 e38)
def f122_129 (n : Nat) (x1 : Int32) (g : mG) : mZ := if ¬ x1 = (83 : Int32) then f122_141 n (2 : Int32) g else f122_141 n (1 : Int32) g
theorem Fr122_129 {R : Nat} {x1 : Int32} {g g' : mG} {o : mO} (h : f122_129 n x1 g = some (o, g')) : m_Run X (1) (m_ko o) 122 129 [(0, .ref 7), (1, .int x1)] [] (hO R g) o (hO R g') := by
  unfold f122_129 at h
  refine m_gob (c := ¬ x1 = (83 : Int32)) (t := 140) (f := 136) (L := [(129, .aload_n 0, 1, 0, 0), (130, .iload_n 1, 1, 0, 0), (131, .bipush 83, 2, 0, 0), (133, .if_icmp .ne 7, 3, 0, 0)]) (lv1 := [(0, .ref 7), (1, .int x1)]) (st1 := [.ref 7]) (h1 := hO R g) (by decide +kernel) rfl (fun c35 => ?_) (fun c35 => ?_)
  · rw [if_pos c35] at h
    refine m_go (L := [(140, .iconst 2, 1, 0, 0)]) (pc1 := 141) (lv1 := [(0, .ref 7), (1, .int x1)]) (st1 := [.int (2 : Int32), .ref 7]) (h1 := hO R g) (by decide +kernel) rfl ?_
    exact m_r0 _ _ _ _ _ _ _ _ _ _ (m_pick [] rfl) (Fr122_141 h)
  · rw [if_neg c35] at h
    refine m_go (L := [(136, .iconst 1, 1, 0, 0), (137, .goto 4, 3, 0, 0)]) (pc1 := 141) (lv1 := [(0, .ref 7), (1, .int x1)]) (st1 := [.int (1 : Int32), .ref 7]) (h1 := hO R g) (by decide +kernel) rfl ?_
    exact m_r0 _ _ _ _ _ _ _ _ _ _ (m_pick [] rfl) (Fr122_141 h)
def f122_110 (n : Nat) (x1 : Int32) (x2 : Int32) (x4 : Int32) (g : mG) : mZ := if x2 < 0 then m_cv (f109 n (4 : Int32) x4 g) (fun g31 => f122_129 n x1 g31) else m_cv (f123 n x2 g) (fun g40 => f122_129 n x1 g40)
theorem Fr122_110 {R : Nat} {x1 : Int32} {x2 : Int32} {x4 : Int32} {g g' : mG} {o : mO} (h : f122_110 n x1 x2 x4 g = some (o, g')) : m_Run X (1) (m_ko o) 122 110 [(0, .ref 7), (1, .int x1), (2, .int x2), (4, .int x4)] [] (hO R g) o (hO R g') := by
  unfold f122_110 at h
  refine m_gob (c := x2 < 0) (t := 122) (f := 114) (L := [(110, .iload_n 2, 1, 0, 0), (111, .ifCond .lt 11, 3, 0, 0)]) (lv1 := [(0, .ref 7), (1, .int x1), (2, .int x2), (4, .int x4)]) (st1 := []) (h1 := hO R g) (by decide +kernel) rfl (fun c30 => ?_) (fun c30 => ?_)
  · rw [if_pos c30] at h
    refine m_go (L := [(122, .aload_n 0, 1, 0, 0), (123, .iconst 4, 1, 0, 0), (124, .iload 4, 2, 0, 0)]) (pc1 := 126) (lv1 := [(0, .ref 7), (1, .int x1), (2, .int x2), (4, .int x4)]) (st1 := [.int x4, .int (4 : Int32), .ref 7]) (h1 := hO R g) (by decide +kernel) rfl ?_
    rcases m_cv_inv h with ⟨g31, e33, h⟩ | ⟨y34, g31, e33, rfl, rfl⟩
    · refine m_ca (q := (126, .invokevirtual 221, 3, 109, 2)) (a := 109) (vs := [.ref 7, .int (4 : Int32), .int x4]) (st := []) (d1 := 0) (by decide +kernel) rfl rfl rfl rfl (by decide) (Fr109 e33) ?_
      show m_Run X _ _ 122 129 [(0, .ref 7), (1, .int x1), (2, .int x2), (4, .int x4)] [] (hO R g31) _ _
      exact m_r0 _ _ _ _ _ _ _ _ _ _ (m_pick [0, 1] rfl) (Fr122_129 h)
    · exact m_cx (q := (126, .invokevirtual 221, 3, 109, 2)) (a := 109) (vs := [.ref 7, .int (4 : Int32), .int x4]) (st := []) (d1 := 0) (by decide +kernel) (by decide +kernel) rfl rfl rfl rfl (by decide) (Fr109 e33)
  · rw [if_neg c30] at h
    refine m_go (L := [(114, .aload_n 0, 1, 0, 0), (115, .iload_n 2, 1, 0, 0)]) (pc1 := 116) (lv1 := [(0, .ref 7), (1, .int x1), (2, .int x2), (4, .int x4)]) (st1 := [.int x2, .ref 7]) (h1 := hO R g) (by decide +kernel) rfl ?_
    rcases m_cv_inv h with ⟨g40, e42, h⟩ | ⟨y43, g40, e42, rfl, rfl⟩
    · refine m_ca (q := (116, .invokevirtual 247, 3, 123, 1)) (a := 123) (vs := [.ref 7, .int x2]) (st := []) (d1 := 0) (by decide +kernel) rfl rfl rfl rfl (by decide) (Fr123 e42) ?_
      show m_Run X _ _ 122 119 [(0, .ref 7), (1, .int x1), (2, .int x2), (4, .int x4)] [] (hO R g40) _ _
      refine m_go (L := [(119, .goto 10, 3, 0, 0)]) (pc1 := 129) (lv1 := [(0, .ref 7), (1, .int x1), (2, .int x2), (4, .int x4)]) (st1 := []) (h1 := hO R g40) (by decide +kernel) rfl ?_
      exact m_r0 _ _ _ _ _ _ _ _ _ _ (m_pick [0, 1] rfl) (Fr122_129 h)
    · exact m_cx (q := (116, .invokevirtual 247, 3, 123, 1)) (a := 123) (vs := [.ref 7, .int x2]) (st := []) (d1 := 0) (by decide +kernel) (by decide +kernel) rfl rfl rfl rfl (by decide) (Fr123 e42)
def f122_105 (n : Nat) (x1 : Int32) (x2 : Int32) (x3 : Int32) (x4 : Int32) (g : mG) : mZ := m_cv (f103 n x3 g) (fun g26 => f122_110 n x1 x2 x4 g26)
theorem Fr122_105 {R : Nat} {x1 : Int32} {x2 : Int32} {x3 : Int32} {x4 : Int32} {g g' : mG} {o : mO} (h : f122_105 n x1 x2 x3 x4 g = some (o, g')) : m_Run X (1) (m_ko o) 122 105 [(0, .ref 7), (1, .int x1), (2, .int x2), (3, .int x3), (4, .int x4)] [] (hO R g) o (hO R g') := by
  unfold f122_105 at h
  refine m_go (L := [(105, .aload_n 0, 1, 0, 0), (106, .iload_n 3, 1, 0, 0)]) (pc1 := 107) (lv1 := [(0, .ref 7), (1, .int x1), (2, .int x2), (3, .int x3), (4, .int x4)]) (st1 := [.int x3, .ref 7]) (h1 := hO R g) (by decide +kernel) rfl ?_
  rcases m_cv_inv h with ⟨g26, e28, h⟩ | ⟨y29, g26, e28, rfl, rfl⟩
  · refine m_ca (q := (107, .invokevirtual 190, 3, 103, 1)) (a := 103) (vs := [.ref 7, .int x3]) (st := []) (d1 := 0) (by decide +kernel) rfl rfl rfl rfl (by decide) (Fr103 e28) ?_
    show m_Run X _ _ 122 110 [(0, .ref 7), (1, .int x1), (2, .int x2), (3, .int x3), (4, .int x4)] [] (hO R g26) _ _
    exact m_r0 _ _ _ _ _ _ _ _ _ _ (m_pick [0, 1, 2, 4] rfl) (Fr122_110 h)
  · exact m_cx (q := (107, .invokevirtual 190, 3, 103, 1)) (a := 103) (vs := [.ref 7, .int x3]) (st := []) (d1 := 0) (by decide +kernel) (by decide +kernel) rfl rfl rfl rfl (by decide) (Fr103 e28)
def f122_74 (n : Nat) (x1 : Int32) (x2 : Int32) (x3 : Int32) (x4 : Int32) (x5 : Int32) (x6 : Int32) (x7 : Int32) (s0 : Int32) (g : mG) : mZ := if x7 = 0 then if ¬ x6 = s0 then f122_105 n x1 x2 x3 x4 g else if x5 = s0 then f122_110 n x1 x2 x4 g else f122_105 n x1 x2 x3 x4 g else if x6 = x5 then f122_110 n x1 x2 x4 g else f122_105 n x1 x2 x3 x4 g
theorem Fr122_74 {R : Nat} {x1 : Int32} {x2 : Int32} {x3 : Int32} {x4 : Int32} {x5 : Int32} {x6 : Int32} {x7 : Int32} {s0 : Int32} {g g' : mG} {o : mO} (h : f122_74 n x1 x2 x3 x4 x5 x6 x7 s0 g = some (o, g')) : m_Run X (1) (m_ko o) 122 74 [(0, .ref 7), (1, .int x1), (2, .int x2), (3, .int x3), (4, .int x4), (5, .int x5), (6, .int x6), (7, .int x7)] [.int s0] (hO R g) o (hO R g') := by
  unfold f122_74 at h
  refine m_gob (c := x7 = 0) (t := 91) (f := 81) (L := [(74, .istore 8, 2, 0, 0), (76, .iload 7, 2, 0, 0), (78, .ifCond .eq 13, 3, 0, 0)]) (lv1 := [(0, .ref 7), (1, .int x1), (2, .int x2), (3, .int x3), (4, .int x4), (5, .int x5), (6, .int x6), (7, .int x7), (8, .int s0)]) (st1 := []) (h1 := hO R g) (by decide +kernel) rfl (fun c24 => ?_) (fun c24 => ?_)
  · rw [if_pos c24] at h
    refine m_gob (c := ¬ x6 = s0) (t := 105) (f := 98) (L := [(91, .iload 6, 2, 0, 0), (93, .iload 8, 2, 0, 0), (95, .if_icmp .ne 10, 3, 0, 0)]) (lv1 := [(0, .ref 7), (1, .int x1), (2, .int x2), (3, .int x3), (4, .int x4), (5, .int x5), (6, .int x6), (7, .int x7), (8, .int s0)]) (st1 := []) (h1 := hO R g) (by decide +kernel) rfl (fun c25 => ?_) (fun c25 => ?_)
    · rw [if_pos c25] at h
      exact m_r0 _ _ _ _ _ _ _ _ _ _ (m_pick [0, 1, 2, 3, 4] rfl) (Fr122_105 h)
    · rw [if_neg c25] at h
      refine m_gob (c := x5 = s0) (t := 110) (f := 105) (L := [(98, .iload 5, 2, 0, 0), (100, .iload 8, 2, 0, 0), (102, .if_icmp .eq 8, 3, 0, 0)]) (lv1 := [(0, .ref 7), (1, .int x1), (2, .int x2), (3, .int x3), (4, .int x4), (5, .int x5), (6, .int x6), (7, .int x7), (8, .int s0)]) (st1 := []) (h1 := hO R g) (by decide +kernel) rfl (fun c44 => ?_) (fun c44 => ?_)
      · rw [if_pos c44] at h
        exact m_r0 _ _ _ _ _ _ _ _ _ _ (m_pick [0, 1, 2, 4] rfl) (Fr122_110 h)
      · rw [if_neg c44] at h
        exact m_r0 _ _ _ _ _ _ _ _ _ _ (m_pick [0, 1, 2, 3, 4] rfl) (Fr122_105 h)
  · rw [if_neg c24] at h
    refine m_gob (c := x6 = x5) (t := 110) (f := 88) (L := [(81, .iload 6, 2, 0, 0), (83, .iload 5, 2, 0, 0), (85, .if_icmp .eq 25, 3, 0, 0)]) (lv1 := [(0, .ref 7), (1, .int x1), (2, .int x2), (3, .int x3), (4, .int x4), (5, .int x5), (6, .int x6), (7, .int x7), (8, .int s0)]) (st1 := []) (h1 := hO R g) (by decide +kernel) rfl (fun c45 => ?_) (fun c45 => ?_)
    · rw [if_pos c45] at h
      exact m_r0 _ _ _ _ _ _ _ _ _ _ (m_pick [0, 1, 2, 4] rfl) (Fr122_110 h)
    · rw [if_neg c45] at h
      refine m_go (L := [(88, .goto 17, 3, 0, 0)]) (pc1 := 105) (lv1 := [(0, .ref 7), (1, .int x1), (2, .int x2), (3, .int x3), (4, .int x4), (5, .int x5), (6, .int x6), (7, .int x7), (8, .int s0)]) (st1 := []) (h1 := hO R g) (by decide +kernel) rfl ?_
      exact m_r0 _ _ _ _ _ _ _ _ _ _ (m_pick [0, 1, 2, 3, 4] rfl) (Fr122_105 h)
def f122_63 (n : Nat) (x1 : Int32) (x2 : Int32) (x3 : Int32) (x4 : Int32) (x5 : Int32) (x6 : Int32) (s0 : Int32) (g : mG) : mZ := if x2 < 0 then f122_74 n x1 x2 x3 x4 x5 x6 s0 (1 : Int32) g else f122_74 n x1 x2 x3 x4 x5 x6 s0 (2 : Int32) g
theorem Fr122_63 {R : Nat} {x1 : Int32} {x2 : Int32} {x3 : Int32} {x4 : Int32} {x5 : Int32} {x6 : Int32} {s0 : Int32} {g g' : mG} {o : mO} (h : f122_63 n x1 x2 x3 x4 x5 x6 s0 g = some (o, g')) : m_Run X (1) (m_ko o) 122 63 [(0, .ref 7), (1, .int x1), (2, .int x2), (3, .int x3), (4, .int x4), (5, .int x5), (6, .int x6)] [.int s0] (hO R g) o (hO R g') := by
  unfold f122_63 at h
  refine m_gob (c := x2 < 0) (t := 73) (f := 69) (L := [(63, .istore 7, 2, 0, 0), (65, .iload_n 2, 1, 0, 0), (66, .ifCond .lt 7, 3, 0, 0)]) (lv1 := [(0, .ref 7), (1, .int x1), (2, .int x2), (3, .int x3), (4, .int x4), (5, .int x5), (6, .int x6), (7, .int s0)]) (st1 := []) (h1 := hO R g) (by decide +kernel) rfl (fun c23 => ?_) (fun c23 => ?_)
  · rw [if_pos c23] at h
    refine m_go (L := [(73, .iconst 1, 1, 0, 0)]) (pc1 := 74) (lv1 := [(0, .ref 7), (1, .int x1), (2, .int x2), (3, .int x3), (4, .int x4), (5, .int x5), (6, .int x6), (7, .int s0)]) (st1 := [.int (1 : Int32)]) (h1 := hO R g) (by decide +kernel) rfl ?_
    exact m_r0 _ _ _ _ _ _ _ _ _ _ (m_pick [0, 1, 2, 3, 4, 5, 6, 7] rfl) (Fr122_74 h)
  · rw [if_neg c23] at h
    refine m_go (L := [(69, .iconst 2, 1, 0, 0), (70, .goto 4, 3, 0, 0)]) (pc1 := 74) (lv1 := [(0, .ref 7), (1, .int x1), (2, .int x2), (3, .int x3), (4, .int x4), (5, .int x5), (6, .int x6), (7, .int s0)]) (st1 := [.int (2 : Int32)]) (h1 := hO R g) (by decide +kernel) rfl ?_
    exact m_r0 _ _ _ _ _ _ _ _ _ _ (m_pick [0, 1, 2, 3, 4, 5, 6, 7] rfl) (Fr122_74 h)
def f122_58 (n : Nat) (x1 : Int32) (x2 : Int32) (x3 : Int32) (x4 : Int32) (x5 : Int32) (x6 : Int32) (g : mG) : mZ := f122_63 n x1 x2 x3 x4 x5 x6 (1 : Int32) g
theorem Fr122_58 {R : Nat} {x1 : Int32} {x2 : Int32} {x3 : Int32} {x4 : Int32} {x5 : Int32} {x6 : Int32} {g g' : mG} {o : mO} (h : f122_58 n x1 x2 x3 x4 x5 x6 g = some (o, g')) : m_Run X (1) (m_ko o) 122 58 [(0, .ref 7), (1, .int x1), (2, .int x2), (3, .int x3), (4, .int x4), (5, .int x5), (6, .int x6)] [] (hO R g) o (hO R g') := by
  unfold f122_58 at h
  refine m_go (L := [(58, .iconst 1, 1, 0, 0), (59, .goto 4, 3, 0, 0)]) (pc1 := 63) (lv1 := [(0, .ref 7), (1, .int x1), (2, .int x2), (3, .int x3), (4, .int x4), (5, .int x5), (6, .int x6)]) (st1 := [.int (1 : Int32)]) (h1 := hO R g) (by decide +kernel) rfl ?_
  exact m_r0 _ _ _ _ _ _ _ _ _ _ (m_pick [0, 1, 2, 3, 4, 5, 6] rfl) (Fr122_63 h)
def f122_20 (n : Nat) (x1 : Int32) (s0 : Int32) (g : mG) : mZ := m_ci (f115 n g) (fun v7 g6 => m_ci (f115 n g6) (fun v11 g10 => m_ci (f117 n g10) (fun v15 g14 => m_ci (f117 n g14) (fun v19 g18 => if v11 = (12 : Int32) then f122_58 n x1 s0 v7 v11 v15 v19 g18 else if ¬ v11 = (13 : Int32) then f122_63 n x1 s0 v7 v11 v15 v19 (0 : Int32) g18 else f122_58 n x1 s0 v7 v11 v15 v19 g18))))
theorem Fr122_20 {R : Nat} {x1 : Int32} {s0 : Int32} {g g' : mG} {o : mO} (h : f122_20 n x1 s0 g = some (o, g')) : m_Run X (1) (m_ko o) 122 20 [(0, .ref 7), (1, .int x1)] [.int s0] (hO R g) o (hO R g') := by
  unfold f122_20 at h
  refine m_go (L := [(20, .istore_n 2, 1, 0, 0), (21, .aload_n 0, 1, 0, 0)]) (pc1 := 22) (lv1 := [(0, .ref 7), (1, .int x1), (2, .int s0)]) (st1 := [.ref 7]) (h1 := hO R g) (by decide +kernel) rfl ?_
  rcases m_ci_inv h with ⟨v7, g6, e8, h⟩ | ⟨y9, g6, e8, rfl, rfl⟩
  · refine m_ca (q := (22, .invokevirtual 238, 3, 115, 0)) (a := 115) (vs := [.ref 7]) (st := []) (d1 := 0) (by decide +kernel) rfl rfl rfl rfl (by decide) (Fr115 e8) ?_
    show m_Run X _ _ 122 25 [(0, .ref 7), (1, .int x1), (2, .int s0)] [.int v7] (hO R g6) _ _
    refine m_go (L := [(25, .istore_n 3, 1, 0, 0), (26, .aload_n 0, 1, 0, 0)]) (pc1 := 27) (lv1 := [(0, .ref 7), (1, .int x1), (2, .int s0), (3, .int v7)]) (st1 := [.ref 7]) (h1 := hO R g6) (by decide +kernel) rfl ?_
    rcases m_ci_inv h with ⟨v11, g10, e12, h⟩ | ⟨y13, g10, e12, rfl, rfl⟩
    · refine m_ca (q := (27, .invokevirtual 238, 3, 115, 0)) (a := 115) (vs := [.ref 7]) (st := []) (d1 := 0) (by decide +kernel) rfl rfl rfl rfl (by decide) (Fr115 e12) ?_
      show m_Run X _ _ 122 30 [(0, .ref 7), (1, .int x1), (2, .int s0), (3, .int v7)] [.int v11] (hO R g10) _ _
      refine m_go (L := [(30, .istore 4, 2, 0, 0), (32, .aload_n 0, 1, 0, 0)]) (pc1 := 33) (lv1 := [(0, .ref 7), (1, .int x1), (2, .int s0), (3, .int v7), (4, .int v11)]) (st1 := [.ref 7]) (h1 := hO R g10) (by decide +kernel) rfl ?_
      rcases m_ci_inv h with ⟨v15, g14, e16, h⟩ | ⟨y17, g14, e16, rfl, rfl⟩
      · refine m_ca (q := (33, .invokevirtual 234, 3, 117, 0)) (a := 117) (vs := [.ref 7]) (st := []) (d1 := 0) (by decide +kernel) rfl rfl rfl rfl (by decide) (Fr117 e16) ?_
        show m_Run X _ _ 122 36 [(0, .ref 7), (1, .int x1), (2, .int s0), (3, .int v7), (4, .int v11)] [.int v15] (hO R g14) _ _
        refine m_go (L := [(36, .istore 5, 2, 0, 0), (38, .aload_n 0, 1, 0, 0)]) (pc1 := 39) (lv1 := [(0, .ref 7), (1, .int x1), (2, .int s0), (3, .int v7), (4, .int v11), (5, .int v15)]) (st1 := [.ref 7]) (h1 := hO R g14) (by decide +kernel) rfl ?_
        rcases m_ci_inv h with ⟨v19, g18, e20, h⟩ | ⟨y21, g18, e20, rfl, rfl⟩
        · refine m_ca (q := (39, .invokevirtual 234, 3, 117, 0)) (a := 117) (vs := [.ref 7]) (st := []) (d1 := 0) (by decide +kernel) rfl rfl rfl rfl (by decide) (Fr117 e20) ?_
          show m_Run X _ _ 122 42 [(0, .ref 7), (1, .int x1), (2, .int s0), (3, .int v7), (4, .int v11), (5, .int v15)] [.int v19] (hO R g18) _ _
          refine m_gob (c := v11 = (12 : Int32)) (t := 58) (f := 51) (L := [(42, .istore 6, 2, 0, 0), (44, .iload 4, 2, 0, 0), (46, .bipush 12, 2, 0, 0), (48, .if_icmp .eq 10, 3, 0, 0)]) (lv1 := [(0, .ref 7), (1, .int x1), (2, .int s0), (3, .int v7), (4, .int v11), (5, .int v15), (6, .int v19)]) (st1 := []) (h1 := hO R g18) (by decide +kernel) rfl (fun c22 => ?_) (fun c22 => ?_)
          · rw [if_pos c22] at h
            exact m_r0 _ _ _ _ _ _ _ _ _ _ (m_pick [0, 1, 2, 3, 4, 5, 6] rfl) (Fr122_58 h)
          · rw [if_neg c22] at h
            refine m_gob (c := ¬ v11 = (13 : Int32)) (t := 62) (f := 58) (L := [(51, .iload 4, 2, 0, 0), (53, .bipush 13, 2, 0, 0), (55, .if_icmp .ne 7, 3, 0, 0)]) (lv1 := [(0, .ref 7), (1, .int x1), (2, .int s0), (3, .int v7), (4, .int v11), (5, .int v15), (6, .int v19)]) (st1 := []) (h1 := hO R g18) (by decide +kernel) rfl (fun c46 => ?_) (fun c46 => ?_)
            · rw [if_pos c46] at h
              refine m_go (L := [(62, .iconst 0, 1, 0, 0)]) (pc1 := 63) (lv1 := [(0, .ref 7), (1, .int x1), (2, .int s0), (3, .int v7), (4, .int v11), (5, .int v15), (6, .int v19)]) (st1 := [.int (0 : Int32)]) (h1 := hO R g18) (by decide +kernel) rfl ?_
              exact m_r0 _ _ _ _ _ _ _ _ _ _ (m_pick [0, 1, 2, 3, 4, 5, 6] rfl) (Fr122_63 h)
            · rw [if_neg c46] at h
              exact m_r0 _ _ _ _ _ _ _ _ _ _ (m_pick [0, 1, 2, 3, 4, 5, 6] rfl) (Fr122_58 h)
        · exact m_cx (q := (39, .invokevirtual 234, 3, 117, 0)) (a := 117) (vs := [.ref 7]) (st := []) (d1 := 0) (by decide +kernel) (by decide +kernel) rfl rfl rfl rfl (by decide) (Fr117 e20)
      · exact m_cx (q := (33, .invokevirtual 234, 3, 117, 0)) (a := 117) (vs := [.ref 7]) (st := []) (d1 := 0) (by decide +kernel) (by decide +kernel) rfl rfl rfl rfl (by decide) (Fr117 e16)
    · exact m_cx (q := (27, .invokevirtual 238, 3, 115, 0)) (a := 115) (vs := [.ref 7]) (st := []) (d1 := 0) (by decide +kernel) (by decide +kernel) rfl rfl rfl rfl (by decide) (Fr115 e12)
  · exact m_cx (q := (22, .invokevirtual 238, 3, 115, 0)) (a := 115) (vs := [.ref 7]) (st := []) (d1 := 0) (by decide +kernel) (by decide +kernel) rfl rfl rfl rfl (by decide) (Fr115 e8)
def f122_12 (n : Nat) (x1 : Int32) (g : mG) : mZ := m_ci (f115 n g) (fun v3 g2 => f122_20 n x1 v3 g2)
theorem Fr122_12 {R : Nat} {x1 : Int32} {g g' : mG} {o : mO} (h : f122_12 n x1 g = some (o, g')) : m_Run X (1) (m_ko o) 122 12 [(0, .ref 7), (1, .int x1)] [] (hO R g) o (hO R g') := by
  unfold f122_12 at h
  refine m_go (L := [(12, .aload_n 0, 1, 0, 0)]) (pc1 := 13) (lv1 := [(0, .ref 7), (1, .int x1)]) (st1 := [.ref 7]) (h1 := hO R g) (by decide +kernel) rfl ?_
  rcases m_ci_inv h with ⟨v3, g2, e4, h⟩ | ⟨y5, g2, e4, rfl, rfl⟩
  · refine m_ca (q := (13, .invokevirtual 238, 3, 115, 0)) (a := 115) (vs := [.ref 7]) (st := []) (d1 := 0) (by decide +kernel) rfl rfl rfl rfl (by decide) (Fr115 e4) ?_
    show m_Run X _ _ 122 16 [(0, .ref 7), (1, .int x1)] [.int v3] (hO R g2) _ _
    refine m_go (L := [(16, .goto 4, 3, 0, 0)]) (pc1 := 20) (lv1 := [(0, .ref 7), (1, .int x1)]) (st1 := [.int v3]) (h1 := hO R g2) (by decide +kernel) rfl ?_
    exact m_r0 _ _ _ _ _ _ _ _ _ _ (m_pick [0, 1] rfl) (Fr122_20 h)
  · exact m_cx (q := (13, .invokevirtual 238, 3, 115, 0)) (a := 115) (vs := [.ref 7]) (st := []) (d1 := 0) (by decide +kernel) (by decide +kernel) rfl rfl rfl rfl (by decide) (Fr115 e4)
def f122 (n : Nat) (x1 : Int32) (g : mG) : mZ := if x1 = (72 : Int32) then f122_12 n x1 g else if ¬ x1 = (77 : Int32) then f122_20 n x1 (-1 : Int32) g else f122_12 n x1 g
theorem Fr122 {R : Nat} {x1 : Int32} {g g' : mG} {o : mO} (h : f122 n x1 g = some (o, g')) : m_Run X (1) (m_ko o) 122 0 [(0, .ref 7), (1, .int x1)] [] (hO R g) o (hO R g') := by
  unfold f122 at h
  refine m_gob (c := x1 = (72 : Int32)) (t := 12) (f := 6) (L := [(0, .iload_n 1, 1, 0, 0), (1, .bipush 72, 2, 0, 0), (3, .if_icmp .eq 9, 3, 0, 0)]) (lv1 := [(0, .ref 7), (1, .int x1)]) (st1 := []) (h1 := hO R g) (by decide +kernel) rfl (fun c1 => ?_) (fun c1 => ?_)
  · rw [if_pos c1] at h
    exact m_r0 _ _ _ _ _ _ _ _ _ _ (m_pick [0, 1] rfl) (Fr122_12 h)
  · rw [if_neg c1] at h
    refine m_gob (c := ¬ x1 = (77 : Int32)) (t := 19) (f := 12) (L := [(6, .iload_n 1, 1, 0, 0), (7, .bipush 77, 2, 0, 0), (9, .if_icmp .ne 10, 3, 0, 0)]) (lv1 := [(0, .ref 7), (1, .int x1)]) (st1 := []) (h1 := hO R g) (by decide +kernel) rfl (fun c47 => ?_) (fun c47 => ?_)
    · rw [if_pos c47] at h
      refine m_go (L := [(19, .iconst (-1), 1, 0, 0)]) (pc1 := 20) (lv1 := [(0, .ref 7), (1, .int x1)]) (st1 := [.int (-1 : Int32)]) (h1 := hO R g) (by decide +kernel) rfl ?_
      exact m_r0 _ _ _ _ _ _ _ _ _ _ (m_pick [0, 1] rfl) (Fr122_20 h)
    · rw [if_neg c47] at h
      exact m_r0 _ _ _ _ _ _ _ _ _ _ (m_pick [0, 1] rfl) (Fr122_12 h)
def f119_144 (n : Nat) (s1 : Int32) (g : mG) : mZ := m_cv (f120 n s1 (73 : Int32) (71 : Int32) (72 : Int32) (70 : Int32) g) (fun g8 => some (.inl none, g8))
theorem Fr119_144 {R : Nat} {s1 : Int32} {g g' : mG} {o : mO} (h : f119_144 n s1 g = some (o, g')) : m_Run X (3) (m_ko o) 119 144 [] [.int s1, .ref 7] (hO R g) o (hO R g') := by
  unfold f119_144 at h
  refine m_go (L := [(144, .bipush 73, 2, 0, 0), (146, .bipush 71, 2, 0, 0), (148, .bipush 72, 2, 0, 0), (150, .bipush 70, 2, 0, 0)]) (pc1 := 152) (lv1 := []) (st1 := [.int (70 : Int32), .int (72 : Int32), .int (71 : Int32), .int (73 : Int32), .int s1, .ref 7]) (h1 := hO R g) (by decide +kernel) rfl ?_
  rcases m_cv_inv h with ⟨g8, e10, h⟩ | ⟨y11, g8, e10, rfl, rfl⟩
  · refine m_ca (q := (152, .invokevirtual 268, 3, 120, 5)) (a := 120) (vs := [.ref 7, .int s1, .int (73 : Int32), .int (71 : Int32), .int (72 : Int32), .int (70 : Int32)]) (st := []) (d1 := 2) (by decide +kernel) rfl rfl rfl rfl (by decide) (Fr120 e10) ?_
    show m_Run X _ _ 119 155 [] [] (hO R g8) _ _
    refine m_go (L := [(155, .goto 192, 3, 0, 0)]) (pc1 := 347) (lv1 := []) (st1 := []) (h1 := hO R g8) (by decide +kernel) rfl ?_
    cases h
    exact m_rv (by decide +kernel)
  · exact m_cx (q := (152, .invokevirtual 268, 3, 120, 5)) (a := 120) (vs := [.ref 7, .int s1, .int (73 : Int32), .int (71 : Int32), .int (72 : Int32), .int (70 : Int32)]) (st := []) (d1 := 2) (by decide +kernel) (by decide +kernel) rfl rfl rfl rfl (by decide) (Fr120 e10)
def f119_186 (n : Nat) (s1 : Int32) (g : mG) : mZ := m_cv (f120 n s1 (76 : Int32) (75 : Int32) (77 : Int32) (74 : Int32) g) (fun g24 => some (.inl none, g24))
theorem Fr119_186 {R : Nat} {s1 : Int32} {g g' : mG} {o : mO} (h : f119_186 n s1 g = some (o, g')) : m_Run X (3) (m_ko o) 119 186 [] [.int s1, .ref 7] (hO R g) o (hO R g') := by
  unfold f119_186 at h
  refine m_go (L := [(186, .bipush 76, 2, 0, 0), (188, .bipush 75, 2, 0, 0), (190, .bipush 77, 2, 0, 0), (192, .bipush 74, 2, 0, 0)]) (pc1 := 194) (lv1 := []) (st1 := [.int (74 : Int32), .int (77 : Int32), .int (75 : Int32), .int (76 : Int32), .int s1, .ref 7]) (h1 := hO R g) (by decide +kernel) rfl ?_
  rcases m_cv_inv h with ⟨g24, e26, h⟩ | ⟨y27, g24, e26, rfl, rfl⟩
  · refine m_ca (q := (194, .invokevirtual 268, 3, 120, 5)) (a := 120) (vs := [.ref 7, .int s1, .int (76 : Int32), .int (75 : Int32), .int (77 : Int32), .int (74 : Int32)]) (st := []) (d1 := 2) (by decide +kernel) rfl rfl rfl rfl (by decide) (Fr120 e26) ?_
    show m_Run X _ _ 119 197 [] [] (hO R g24) _ _
    refine m_go (L := [(197, .goto 150, 3, 0, 0)]) (pc1 := 347) (lv1 := []) (st1 := []) (h1 := hO R g24) (by decide +kernel) rfl ?_
    cases h
    exact m_rv (by decide +kernel)
  · exact m_cx (q := (194, .invokevirtual 268, 3, 120, 5)) (a := 120) (vs := [.ref 7, .int s1, .int (76 : Int32), .int (75 : Int32), .int (77 : Int32), .int (74 : Int32)]) (st := []) (d1 := 2) (by decide +kernel) (by decide +kernel) rfl rfl rfl rfl (by decide) (Fr120 e26)
def f119_274 (n : Nat) (s1 : Int32) (g : mG) : mZ := m_cv (f120 n s1 (82 : Int32) (83 : Int32) (0 : Int32) (81 : Int32) g) (fun g54 => some (.inl none, g54))
theorem Fr119_274 {R : Nat} {s1 : Int32} {g g' : mG} {o : mO} (h : f119_274 n s1 g = some (o, g')) : m_Run X (3) (m_ko o) 119 274 [] [.int s1, .ref 7] (hO R g) o (hO R g') := by
  unfold f119_274 at h
  refine m_go (L := [(274, .bipush 82, 2, 0, 0), (276, .bipush 83, 2, 0, 0), (278, .iconst 0, 1, 0, 0), (279, .bipush 81, 2, 0, 0)]) (pc1 := 281) (lv1 := []) (st1 := [.int (81 : Int32), .int (0 : Int32), .int (83 : Int32), .int (82 : Int32), .int s1, .ref 7]) (h1 := hO R g) (by decide +kernel) rfl ?_
  rcases m_cv_inv h with ⟨g54, e56, h⟩ | ⟨y57, g54, e56, rfl, rfl⟩
  · refine m_ca (q := (281, .invokevirtual 268, 3, 120, 5)) (a := 120) (vs := [.ref 7, .int s1, .int (82 : Int32), .int (83 : Int32), .int (0 : Int32), .int (81 : Int32)]) (st := []) (d1 := 2) (by decide +kernel) rfl rfl rfl rfl (by decide) (Fr120 e56) ?_
    show m_Run X _ _ 119 284 [] [] (hO R g54) _ _
    refine m_go (L := [(284, .goto 63, 3, 0, 0)]) (pc1 := 347) (lv1 := []) (st1 := []) (h1 := hO R g54) (by decide +kernel) rfl ?_
    cases h
    exact m_rv (by decide +kernel)
  · exact m_cx (q := (281, .invokevirtual 268, 3, 120, 5)) (a := 120) (vs := [.ref 7, .int s1, .int (82 : Int32), .int (83 : Int32), .int (0 : Int32), .int (81 : Int32)]) (st := []) (d1 := 2) (by decide +kernel) (by decide +kernel) rfl rfl rfl rfl (by decide) (Fr120 e56)
def f119_269 (n : Nat) (g : mG) : mZ := f119_274 n (1 : Int32) g
theorem Fr119_269 {R : Nat} {g g' : mG} {o : mO} (h : f119_269 n g = some (o, g')) : m_Run X (3) (m_ko o) 119 269 [] [.ref 7] (hO R g) o (hO R g') := by
  unfold f119_269 at h
  refine m_go (L := [(269, .iconst 1, 1, 0, 0), (270, .goto 4, 3, 0, 0)]) (pc1 := 274) (lv1 := []) (st1 := [.int (1 : Int32), .ref 7]) (h1 := hO R g) (by decide +kernel) rfl ?_
  exact m_r0 _ _ _ _ _ _ _ _ _ _ (m_pick [] rfl) (Fr119_274 h)
def f119 (n : Nat) (x1 : Int32) (g : mG) : mZ := if x1 = 60 then m_cv (f108 n (71 : Int32) (70 : Int32) (0 : Int32) (0 : Int32) g) (fun g2 => some (.inl none, g2)) else if x1 = 70 then if ¬ (g.1 26) = (23 : Int32) then f119_144 n (0 : Int32) g else f119_144 n (1 : Int32) g else if x1 = 71 then m_cv (f108 n (75 : Int32) (74 : Int32) (0 : Int32) (0 : Int32) g) (fun g13 => some (.inl none, g13)) else if x1 = 73 then m_cv (f121 n (6 : Int32) g) (fun g18 => some (.inl none, g18)) else if x1 = 74 then if ¬ (g.1 26) = (22 : Int32) then f119_186 n (0 : Int32) g else f119_186 n (1 : Int32) g else if x1 = 75 then m_cv (f108 n (79 : Int32) (78 : Int32) (0 : Int32) (0 : Int32) g) (fun g29 => some (.inl none, g29)) else if x1 = 76 then m_cv (f121 n (5 : Int32) g) (fun g34 => some (.inl none, g34)) else if x1 = 78 then m_ci (f90 n (g.1 26) (12 : Int32) (15 : Int32) g) (fun v40 g39 => m_cv (f120 n v40 (79 : Int32) (80 : Int32) (0 : Int32) (0 : Int32) g39) (fun g43 => some (.inl none, g43))) else if x1 = 79 then m_cv (f108 n (82 : Int32) (81 : Int32) (0 : Int32) (0 : Int32) g) (fun g48 => some (.inl none, g48)) else if x1 = 81 then if (g.1 26) = (16 : Int32) then f119_269 n g else if ¬ (g.1 26) = (17 : Int32) then f119_274 n (0 : Int32) g else f119_269 n g else if x1 = 82 then m_cv (f108 n (85 : Int32) (84 : Int32) (0 : Int32) (0 : Int32) g) (fun g60 => some (.inl none, g60)) else if x1 = 84 then m_ci (f90 n (g.1 26) (18 : Int32) (20 : Int32) g) (fun v66 g65 => m_cv (f120 n v66 (85 : Int32) (83 : Int32) (0 : Int32) (84 : Int32) g65) (fun g69 => some (.inl none, g69))) else m_cv (f122 n x1 g) (fun g73 => some (.inl none, g73))
theorem Fr119 {R : Nat} {x1 : Int32} {g g' : mG} {o : mO} (h : f119 n x1 g = some (o, g')) : m_Run X (3) (m_ko o) 119 0 [(0, .ref 7), (1, .int x1)] [] (hO R g) o (hO R g') := by
  unfold f119 at h
  refine m_go (L := [(0, .iload_n 1, 1, 0, 0)]) (pc1 := 1) (lv1 := [(0, .ref 7), (1, .int x1)]) (st1 := [.int x1]) (h1 := hO R g) (by decide +kernel) rfl ?_
  by_cases c1 : x1 = 60
  · rw [if_pos c1] at h
    refine m_go1 (q := (1, .tableswitch 341 60 84 #[115, 341, 341, 341, 341, 341, 341, 341, 341, 341, 128, 157, 341, 324, 170, 199, 333, 341, 212, 236, 341, 249, 286, 341, 299], 115, 0, 0)) (pc1 := 116) (lv1 := [(0, .ref 7), (1, .int x1)]) (st1 := []) (h1 := hO R g) (by decide +kernel) (m_swx (fun z => m_loc m_ft X (.tableswitch 341 60 84 #[115, 341, 341, 341, 341, 341, 341, 341, 341, 341, 128, 157, 341, 324, 170, 199, 333, 341, 212, 236, 341, 249, 286, 341, 299]) 0 0 1 [(0, .ref 7), (1, .int x1)] (.int z :: []) (hO R g)) c1 rfl) ?_
    refine m_go (L := [(116, .aload_n 0, 1, 0, 0), (117, .bipush 71, 2, 0, 0), (119, .bipush 70, 2, 0, 0), (121, .iconst 0, 1, 0, 0), (122, .iconst 0, 1, 0, 0)]) (pc1 := 123) (lv1 := [(0, .ref 7), (1, .int x1)]) (st1 := [.int (0 : Int32), .int (0 : Int32), .int (70 : Int32), .int (71 : Int32), .ref 7]) (h1 := hO R g) (by decide +kernel) rfl ?_
    rcases m_cv_inv h with ⟨g2, e4, h⟩ | ⟨y5, g2, e4, rfl, rfl⟩
    · refine m_ca (q := (123, .invokevirtual 217, 3, 108, 4)) (a := 108) (vs := [.ref 7, .int (71 : Int32), .int (70 : Int32), .int (0 : Int32), .int (0 : Int32)]) (st := []) (d1 := 1) (by decide +kernel) rfl rfl rfl rfl (by decide) (Fr108 e4) ?_
      show m_Run X _ _ 119 126 [(0, .ref 7), (1, .int x1)] [] (hO R g2) _ _
      refine m_go (L := [(126, .goto 221, 3, 0, 0)]) (pc1 := 347) (lv1 := [(0, .ref 7), (1, .int x1)]) (st1 := []) (h1 := hO R g2) (by decide +kernel) rfl ?_
      cases h
      exact m_rv (by decide +kernel)
    · exact m_cx (q := (123, .invokevirtual 217, 3, 108, 4)) (a := 108) (vs := [.ref 7, .int (71 : Int32), .int (70 : Int32), .int (0 : Int32), .int (0 : Int32)]) (st := []) (d1 := 1) (by decide +kernel) (by decide +kernel) rfl rfl rfl rfl (by decide) (Fr108 e4)
  · rw [if_neg c1] at h
    by_cases c6 : x1 = 70
    · rw [if_pos c6] at h
      refine m_go1 (q := (1, .tableswitch 341 60 84 #[115, 341, 341, 341, 341, 341, 341, 341, 341, 341, 128, 157, 341, 324, 170, 199, 333, 341, 212, 236, 341, 249, 286, 341, 299], 115, 0, 0)) (pc1 := 129) (lv1 := [(0, .ref 7), (1, .int x1)]) (st1 := []) (h1 := hO R g) (by decide +kernel) (m_swx (fun z => m_loc m_ft X (.tableswitch 341 60 84 #[115, 341, 341, 341, 341, 341, 341, 341, 341, 341, 128, 157, 341, 324, 170, 199, 333, 341, 212, 236, 341, 249, 286, 341, 299]) 0 0 1 [(0, .ref 7), (1, .int x1)] (.int z :: []) (hO R g)) c6 rfl) ?_
      refine m_gob (c := ¬ (g.1 26) = (23 : Int32)) (t := 143) (f := 139) (L := [(129, .aload_n 0, 1, 0, 0), (130, .aload_n 0, 1, 0, 0), (131, .getfield 142, 3, 6, 3), (134, .bipush 23, 2, 0, 0), (136, .if_icmp .ne 7, 3, 0, 0)]) (lv1 := [(0, .ref 7), (1, .int x1)]) (st1 := [.ref 7]) (h1 := hO R g) (by decide +kernel) rfl (fun c7 => ?_) (fun c7 => ?_)
      · rw [if_pos c7] at h
        refine m_go (L := [(143, .iconst 0, 1, 0, 0)]) (pc1 := 144) (lv1 := [(0, .ref 7), (1, .int x1)]) (st1 := [.int (0 : Int32), .ref 7]) (h1 := hO R g) (by decide +kernel) rfl ?_
        exact m_r0 _ _ _ _ _ _ _ _ _ _ (m_pick [] rfl) (Fr119_144 h)
      · rw [if_neg c7] at h
        refine m_go (L := [(139, .iconst 1, 1, 0, 0), (140, .goto 4, 3, 0, 0)]) (pc1 := 144) (lv1 := [(0, .ref 7), (1, .int x1)]) (st1 := [.int (1 : Int32), .ref 7]) (h1 := hO R g) (by decide +kernel) rfl ?_
        exact m_r0 _ _ _ _ _ _ _ _ _ _ (m_pick [] rfl) (Fr119_144 h)
    · rw [if_neg c6] at h
      by_cases c12 : x1 = 71
      · rw [if_pos c12] at h
        refine m_go1 (q := (1, .tableswitch 341 60 84 #[115, 341, 341, 341, 341, 341, 341, 341, 341, 341, 128, 157, 341, 324, 170, 199, 333, 341, 212, 236, 341, 249, 286, 341, 299], 115, 0, 0)) (pc1 := 158) (lv1 := [(0, .ref 7), (1, .int x1)]) (st1 := []) (h1 := hO R g) (by decide +kernel) (m_swx (fun z => m_loc m_ft X (.tableswitch 341 60 84 #[115, 341, 341, 341, 341, 341, 341, 341, 341, 341, 128, 157, 341, 324, 170, 199, 333, 341, 212, 236, 341, 249, 286, 341, 299]) 0 0 1 [(0, .ref 7), (1, .int x1)] (.int z :: []) (hO R g)) c12 rfl) ?_
        refine m_go (L := [(158, .aload_n 0, 1, 0, 0), (159, .bipush 75, 2, 0, 0), (161, .bipush 74, 2, 0, 0), (163, .iconst 0, 1, 0, 0), (164, .iconst 0, 1, 0, 0)]) (pc1 := 165) (lv1 := [(0, .ref 7), (1, .int x1)]) (st1 := [.int (0 : Int32), .int (0 : Int32), .int (74 : Int32), .int (75 : Int32), .ref 7]) (h1 := hO R g) (by decide +kernel) rfl ?_
        rcases m_cv_inv h with ⟨g13, e15, h⟩ | ⟨y16, g13, e15, rfl, rfl⟩
        · refine m_ca (q := (165, .invokevirtual 217, 3, 108, 4)) (a := 108) (vs := [.ref 7, .int (75 : Int32), .int (74 : Int32), .int (0 : Int32), .int (0 : Int32)]) (st := []) (d1 := 1) (by decide +kernel) rfl rfl rfl rfl (by decide) (Fr108 e15) ?_
          show m_Run X _ _ 119 168 [(0, .ref 7), (1, .int x1)] [] (hO R g13) _ _
          refine m_go (L := [(168, .goto 179, 3, 0, 0)]) (pc1 := 347) (lv1 := [(0, .ref 7), (1, .int x1)]) (st1 := []) (h1 := hO R g13) (by decide +kernel) rfl ?_
          cases h
          exact m_rv (by decide +kernel)
        · exact m_cx (q := (165, .invokevirtual 217, 3, 108, 4)) (a := 108) (vs := [.ref 7, .int (75 : Int32), .int (74 : Int32), .int (0 : Int32), .int (0 : Int32)]) (st := []) (d1 := 1) (by decide +kernel) (by decide +kernel) rfl rfl rfl rfl (by decide) (Fr108 e15)
      · rw [if_neg c12] at h
        by_cases c17 : x1 = 73
        · rw [if_pos c17] at h
          refine m_go1 (q := (1, .tableswitch 341 60 84 #[115, 341, 341, 341, 341, 341, 341, 341, 341, 341, 128, 157, 341, 324, 170, 199, 333, 341, 212, 236, 341, 249, 286, 341, 299], 115, 0, 0)) (pc1 := 325) (lv1 := [(0, .ref 7), (1, .int x1)]) (st1 := []) (h1 := hO R g) (by decide +kernel) (m_swx (fun z => m_loc m_ft X (.tableswitch 341 60 84 #[115, 341, 341, 341, 341, 341, 341, 341, 341, 341, 128, 157, 341, 324, 170, 199, 333, 341, 212, 236, 341, 249, 286, 341, 299]) 0 0 1 [(0, .ref 7), (1, .int x1)] (.int z :: []) (hO R g)) c17 rfl) ?_
          refine m_go (L := [(325, .aload_n 0, 1, 0, 0), (326, .bipush 6, 2, 0, 0)]) (pc1 := 328) (lv1 := [(0, .ref 7), (1, .int x1)]) (st1 := [.int (6 : Int32), .ref 7]) (h1 := hO R g) (by decide +kernel) rfl ?_
          rcases m_cv_inv h with ⟨g18, e20, h⟩ | ⟨y21, g18, e20, rfl, rfl⟩
          · refine m_ca (q := (328, .invokevirtual 244, 3, 121, 1)) (a := 121) (vs := [.ref 7, .int (6 : Int32)]) (st := []) (d1 := 1) (by decide +kernel) rfl rfl rfl rfl (by decide) (Fr121 e20) ?_
            show m_Run X _ _ 119 331 [(0, .ref 7), (1, .int x1)] [] (hO R g18) _ _
            refine m_go (L := [(331, .goto 16, 3, 0, 0)]) (pc1 := 347) (lv1 := [(0, .ref 7), (1, .int x1)]) (st1 := []) (h1 := hO R g18) (by decide +kernel) rfl ?_
            cases h
            exact m_rv (by decide +kernel)
          · exact m_cx (q := (328, .invokevirtual 244, 3, 121, 1)) (a := 121) (vs := [.ref 7, .int (6 : Int32)]) (st := []) (d1 := 1) (by decide +kernel) (by decide +kernel) rfl rfl rfl rfl (by decide) (Fr121 e20)
        · rw [if_neg c17] at h
          by_cases c22 : x1 = 74
          · rw [if_pos c22] at h
            refine m_go1 (q := (1, .tableswitch 341 60 84 #[115, 341, 341, 341, 341, 341, 341, 341, 341, 341, 128, 157, 341, 324, 170, 199, 333, 341, 212, 236, 341, 249, 286, 341, 299], 115, 0, 0)) (pc1 := 171) (lv1 := [(0, .ref 7), (1, .int x1)]) (st1 := []) (h1 := hO R g) (by decide +kernel) (m_swx (fun z => m_loc m_ft X (.tableswitch 341 60 84 #[115, 341, 341, 341, 341, 341, 341, 341, 341, 341, 128, 157, 341, 324, 170, 199, 333, 341, 212, 236, 341, 249, 286, 341, 299]) 0 0 1 [(0, .ref 7), (1, .int x1)] (.int z :: []) (hO R g)) c22 rfl) ?_
            refine m_gob (c := ¬ (g.1 26) = (22 : Int32)) (t := 185) (f := 181) (L := [(171, .aload_n 0, 1, 0, 0), (172, .aload_n 0, 1, 0, 0), (173, .getfield 142, 3, 6, 3), (176, .bipush 22, 2, 0, 0), (178, .if_icmp .ne 7, 3, 0, 0)]) (lv1 := [(0, .ref 7), (1, .int x1)]) (st1 := [.ref 7]) (h1 := hO R g) (by decide +kernel) rfl (fun c23 => ?_) (fun c23 => ?_)
            · rw [if_pos c23] at h
              refine m_go (L := [(185, .iconst 0, 1, 0, 0)]) (pc1 := 186) (lv1 := [(0, .ref 7), (1, .int x1)]) (st1 := [.int (0 : Int32), .ref 7]) (h1 := hO R g) (by decide +kernel) rfl ?_
              exact m_r0 _ _ _ _ _ _ _ _ _ _ (m_pick [] rfl) (Fr119_186 h)
            · rw [if_neg c23] at h
              refine m_go (L := [(181, .iconst 1, 1, 0, 0), (182, .goto 4, 3, 0, 0)]) (pc1 := 186) (lv1 := [(0, .ref 7), (1, .int x1)]) (st1 := [.int (1 : Int32), .ref 7]) (h1 := hO R g) (by decide +kernel) rfl ?_
              exact m_r0 _ _ _ _ _ _ _ _ _ _ (m_pick [] rfl) (Fr119_186 h)
          · rw [if_neg c22] at h
            by_cases c28 : x1 = 75
            · rw [if_pos c28] at h
              refine m_go1 (q := (1, .tableswitch 341 60 84 #[115, 341, 341, 341, 341, 341, 341, 341, 341, 341, 128, 157, 341, 324, 170, 199, 333, 341, 212, 236, 341, 249, 286, 341, 299], 115, 0, 0)) (pc1 := 200) (lv1 := [(0, .ref 7), (1, .int x1)]) (st1 := []) (h1 := hO R g) (by decide +kernel) (m_swx (fun z => m_loc m_ft X (.tableswitch 341 60 84 #[115, 341, 341, 341, 341, 341, 341, 341, 341, 341, 128, 157, 341, 324, 170, 199, 333, 341, 212, 236, 341, 249, 286, 341, 299]) 0 0 1 [(0, .ref 7), (1, .int x1)] (.int z :: []) (hO R g)) c28 rfl) ?_
              refine m_go (L := [(200, .aload_n 0, 1, 0, 0), (201, .bipush 79, 2, 0, 0), (203, .bipush 78, 2, 0, 0), (205, .iconst 0, 1, 0, 0), (206, .iconst 0, 1, 0, 0)]) (pc1 := 207) (lv1 := [(0, .ref 7), (1, .int x1)]) (st1 := [.int (0 : Int32), .int (0 : Int32), .int (78 : Int32), .int (79 : Int32), .ref 7]) (h1 := hO R g) (by decide +kernel) rfl ?_
              rcases m_cv_inv h with ⟨g29, e31, h⟩ | ⟨y32, g29, e31, rfl, rfl⟩
              · refine m_ca (q := (207, .invokevirtual 217, 3, 108, 4)) (a := 108) (vs := [.ref 7, .int (79 : Int32), .int (78 : Int32), .int (0 : Int32), .int (0 : Int32)]) (st := []) (d1 := 1) (by decide +kernel) rfl rfl rfl rfl (by decide) (Fr108 e31) ?_
                show m_Run X _ _ 119 210 [(0, .ref 7), (1, .int x1)] [] (hO R g29) _ _
                refine m_go (L := [(210, .goto 137, 3, 0, 0)]) (pc1 := 347) (lv1 := [(0, .ref 7), (1, .int x1)]) (st1 := []) (h1 := hO R g29) (by decide +kernel) rfl ?_
                cases h
                exact m_rv (by decide +kernel)
              · exact m_cx (q := (207, .invokevirtual 217, 3, 108, 4)) (a := 108) (vs := [.ref 7, .int (79 : Int32), .int (78 : Int32), .int (0 : Int32), .int (0 : Int32)]) (st := []) (d1 := 1) (by decide +kernel) (by decide +kernel) rfl rfl rfl rfl (by decide) (Fr108 e31)
            · rw [if_neg c28] at h
              by_cases c33 : x1 = 76
              · rw [if_pos c33] at h
                refine m_go1 (q := (1, .tableswitch 341 60 84 #[115, 341, 341, 341, 341, 341, 341, 341, 341, 341, 128, 157, 341, 324, 170, 199, 333, 341, 212, 236, 341, 249, 286, 341, 299], 115, 0, 0)) (pc1 := 334) (lv1 := [(0, .ref 7), (1, .int x1)]) (st1 := []) (h1 := hO R g) (by decide +kernel) (m_swx (fun z => m_loc m_ft X (.tableswitch 341 60 84 #[115, 341, 341, 341, 341, 341, 341, 341, 341, 341, 128, 157, 341, 324, 170, 199, 333, 341, 212, 236, 341, 249, 286, 341, 299]) 0 0 1 [(0, .ref 7), (1, .int x1)] (.int z :: []) (hO R g)) c33 rfl) ?_
                refine m_go (L := [(334, .aload_n 0, 1, 0, 0), (335, .iconst 5, 1, 0, 0)]) (pc1 := 336) (lv1 := [(0, .ref 7), (1, .int x1)]) (st1 := [.int (5 : Int32), .ref 7]) (h1 := hO R g) (by decide +kernel) rfl ?_
                rcases m_cv_inv h with ⟨g34, e36, h⟩ | ⟨y37, g34, e36, rfl, rfl⟩
                · refine m_ca (q := (336, .invokevirtual 244, 3, 121, 1)) (a := 121) (vs := [.ref 7, .int (5 : Int32)]) (st := []) (d1 := 1) (by decide +kernel) rfl rfl rfl rfl (by decide) (Fr121 e36) ?_
                  show m_Run X _ _ 119 339 [(0, .ref 7), (1, .int x1)] [] (hO R g34) _ _
                  refine m_go (L := [(339, .goto 8, 3, 0, 0)]) (pc1 := 347) (lv1 := [(0, .ref 7), (1, .int x1)]) (st1 := []) (h1 := hO R g34) (by decide +kernel) rfl ?_
                  cases h
                  exact m_rv (by decide +kernel)
                · exact m_cx (q := (336, .invokevirtual 244, 3, 121, 1)) (a := 121) (vs := [.ref 7, .int (5 : Int32)]) (st := []) (d1 := 1) (by decide +kernel) (by decide +kernel) rfl rfl rfl rfl (by decide) (Fr121 e36)
              · rw [if_neg c33] at h
                by_cases c38 : x1 = 78
                · rw [if_pos c38] at h
                  refine m_go1 (q := (1, .tableswitch 341 60 84 #[115, 341, 341, 341, 341, 341, 341, 341, 341, 341, 128, 157, 341, 324, 170, 199, 333, 341, 212, 236, 341, 249, 286, 341, 299], 115, 0, 0)) (pc1 := 213) (lv1 := [(0, .ref 7), (1, .int x1)]) (st1 := []) (h1 := hO R g) (by decide +kernel) (m_swx (fun z => m_loc m_ft X (.tableswitch 341 60 84 #[115, 341, 341, 341, 341, 341, 341, 341, 341, 341, 128, 157, 341, 324, 170, 199, 333, 341, 212, 236, 341, 249, 286, 341, 299]) 0 0 1 [(0, .ref 7), (1, .int x1)] (.int z :: []) (hO R g)) c38 rfl) ?_
                  refine m_go (L := [(213, .aload_n 0, 1, 0, 0), (214, .aload_n 0, 1, 0, 0), (215, .getfield 142, 3, 6, 3), (218, .bipush 12, 2, 0, 0), (220, .bipush 15, 2, 0, 0)]) (pc1 := 222) (lv1 := [(0, .ref 7), (1, .int x1)]) (st1 := [.int (15 : Int32), .int (12 : Int32), .int (g.1 26), .ref 7]) (h1 := hO R g) (by decide +kernel) rfl ?_
                  rcases m_ci_inv h with ⟨v40, g39, e41, h⟩ | ⟨y42, g39, e41, rfl, rfl⟩
                  · refine m_ca (q := (222, .invokestatic 93, 3, 90, 3)) (a := 90) (vs := [.int (g.1 26), .int (12 : Int32), .int (15 : Int32)]) (st := [.ref 7]) (d1 := 0) (by decide +kernel) rfl rfl rfl rfl (by decide) (Fr90 e41) ?_
                    show m_Run X _ _ 119 225 [(0, .ref 7), (1, .int x1)] [.int v40, .ref 7] (hO R g39) _ _
                    refine m_go (L := [(225, .bipush 79, 2, 0, 0), (227, .bipush 80, 2, 0, 0), (229, .iconst 0, 1, 0, 0), (230, .iconst 0, 1, 0, 0)]) (pc1 := 231) (lv1 := [(0, .ref 7), (1, .int x1)]) (st1 := [.int (0 : Int32), .int (0 : Int32), .int (80 : Int32), .int (79 : Int32), .int v40, .ref 7]) (h1 := hO R g39) (by decide +kernel) rfl ?_
                    rcases m_cv_inv h with ⟨g43, e45, h⟩ | ⟨y46, g43, e45, rfl, rfl⟩
                    · refine m_ca (q := (231, .invokevirtual 268, 3, 120, 5)) (a := 120) (vs := [.ref 7, .int v40, .int (79 : Int32), .int (80 : Int32), .int (0 : Int32), .int (0 : Int32)]) (st := []) (d1 := 2) (by decide +kernel) rfl rfl rfl rfl (by decide) (Fr120 e45) ?_
                      show m_Run X _ _ 119 234 [(0, .ref 7), (1, .int x1)] [] (hO R g43) _ _
                      refine m_go (L := [(234, .goto 113, 3, 0, 0)]) (pc1 := 347) (lv1 := [(0, .ref 7), (1, .int x1)]) (st1 := []) (h1 := hO R g43) (by decide +kernel) rfl ?_
                      cases h
                      exact m_rv (by decide +kernel)
                    · exact m_cx (q := (231, .invokevirtual 268, 3, 120, 5)) (a := 120) (vs := [.ref 7, .int v40, .int (79 : Int32), .int (80 : Int32), .int (0 : Int32), .int (0 : Int32)]) (st := []) (d1 := 2) (by decide +kernel) (by decide +kernel) rfl rfl rfl rfl (by decide) (Fr120 e45)
                  · exact m_cx (q := (222, .invokestatic 93, 3, 90, 3)) (a := 90) (vs := [.int (g.1 26), .int (12 : Int32), .int (15 : Int32)]) (st := [.ref 7]) (d1 := 0) (by decide +kernel) (by decide +kernel) rfl rfl rfl rfl (by decide) (Fr90 e41)
                · rw [if_neg c38] at h
                  by_cases c47 : x1 = 79
                  · rw [if_pos c47] at h
                    refine m_go1 (q := (1, .tableswitch 341 60 84 #[115, 341, 341, 341, 341, 341, 341, 341, 341, 341, 128, 157, 341, 324, 170, 199, 333, 341, 212, 236, 341, 249, 286, 341, 299], 115, 0, 0)) (pc1 := 237) (lv1 := [(0, .ref 7), (1, .int x1)]) (st1 := []) (h1 := hO R g) (by decide +kernel) (m_swx (fun z => m_loc m_ft X (.tableswitch 341 60 84 #[115, 341, 341, 341, 341, 341, 341, 341, 341, 341, 128, 157, 341, 324, 170, 199, 333, 341, 212, 236, 341, 249, 286, 341, 299]) 0 0 1 [(0, .ref 7), (1, .int x1)] (.int z :: []) (hO R g)) c47 rfl) ?_
                    refine m_go (L := [(237, .aload_n 0, 1, 0, 0), (238, .bipush 82, 2, 0, 0), (240, .bipush 81, 2, 0, 0), (242, .iconst 0, 1, 0, 0), (243, .iconst 0, 1, 0, 0)]) (pc1 := 244) (lv1 := [(0, .ref 7), (1, .int x1)]) (st1 := [.int (0 : Int32), .int (0 : Int32), .int (81 : Int32), .int (82 : Int32), .ref 7]) (h1 := hO R g) (by decide +kernel) rfl ?_
                    rcases m_cv_inv h with ⟨g48, e50, h⟩ | ⟨y51, g48, e50, rfl, rfl⟩
                    · refine m_ca (q := (244, .invokevirtual 217, 3, 108, 4)) (a := 108) (vs := [.ref 7, .int (82 : Int32), .int (81 : Int32), .int (0 : Int32), .int (0 : Int32)]) (st := []) (d1 := 1) (by decide +kernel) rfl rfl rfl rfl (by decide) (Fr108 e50) ?_
                      show m_Run X _ _ 119 247 [(0, .ref 7), (1, .int x1)] [] (hO R g48) _ _
                      refine m_go (L := [(247, .goto 100, 3, 0, 0)]) (pc1 := 347) (lv1 := [(0, .ref 7), (1, .int x1)]) (st1 := []) (h1 := hO R g48) (by decide +kernel) rfl ?_
                      cases h
                      exact m_rv (by decide +kernel)
                    · exact m_cx (q := (244, .invokevirtual 217, 3, 108, 4)) (a := 108) (vs := [.ref 7, .int (82 : Int32), .int (81 : Int32), .int (0 : Int32), .int (0 : Int32)]) (st := []) (d1 := 1) (by decide +kernel) (by decide +kernel) rfl rfl rfl rfl (by decide) (Fr108 e50)
                  · rw [if_neg c47] at h
                    by_cases c52 : x1 = 81
                    · rw [if_pos c52] at h
                      refine m_go1 (q := (1, .tableswitch 341 60 84 #[115, 341, 341, 341, 341, 341, 341, 341, 341, 341, 128, 157, 341, 324, 170, 199, 333, 341, 212, 236, 341, 249, 286, 341, 299], 115, 0, 0)) (pc1 := 250) (lv1 := [(0, .ref 7), (1, .int x1)]) (st1 := []) (h1 := hO R g) (by decide +kernel) (m_swx (fun z => m_loc m_ft X (.tableswitch 341 60 84 #[115, 341, 341, 341, 341, 341, 341, 341, 341, 341, 128, 157, 341, 324, 170, 199, 333, 341, 212, 236, 341, 249, 286, 341, 299]) 0 0 1 [(0, .ref 7), (1, .int x1)] (.int z :: []) (hO R g)) c52 rfl) ?_
                      refine m_gob (c := (g.1 26) = (16 : Int32)) (t := 269) (f := 260) (L := [(250, .aload_n 0, 1, 0, 0), (251, .aload_n 0, 1, 0, 0), (252, .getfield 142, 3, 6, 3), (255, .bipush 16, 2, 0, 0), (257, .if_icmp .eq 12, 3, 0, 0)]) (lv1 := [(0, .ref 7), (1, .int x1)]) (st1 := [.ref 7]) (h1 := hO R g) (by decide +kernel) rfl (fun c53 => ?_) (fun c53 => ?_)
                      · rw [if_pos c53] at h
                        exact m_r0 _ _ _ _ _ _ _ _ _ _ (m_pick [] rfl) (Fr119_269 h)
                      · rw [if_neg c53] at h
                        refine m_gob (c := ¬ (g.1 26) = (17 : Int32)) (t := 273) (f := 269) (L := [(260, .aload_n 0, 1, 0, 0), (261, .getfield 142, 3, 6, 3), (264, .bipush 17, 2, 0, 0), (266, .if_icmp .ne 7, 3, 0, 0)]) (lv1 := [(0, .ref 7), (1, .int x1)]) (st1 := [.ref 7]) (h1 := hO R g) (by decide +kernel) rfl (fun c58 => ?_) (fun c58 => ?_)
                        · rw [if_pos c58] at h
                          refine m_go (L := [(273, .iconst 0, 1, 0, 0)]) (pc1 := 274) (lv1 := [(0, .ref 7), (1, .int x1)]) (st1 := [.int (0 : Int32), .ref 7]) (h1 := hO R g) (by decide +kernel) rfl ?_
                          exact m_r0 _ _ _ _ _ _ _ _ _ _ (m_pick [] rfl) (Fr119_274 h)
                        · rw [if_neg c58] at h
                          exact m_r0 _ _ _ _ _ _ _ _ _ _ (m_pick [] rfl) (Fr119_269 h)
                    · rw [if_neg c52] at h
                      by_cases c59 : x1 = 82
                      · rw [if_pos c59] at h
                        refine m_go1 (q := (1, .tableswitch 341 60 84 #[115, 341, 341, 341, 341, 341, 341, 341, 341, 341, 128, 157, 341, 324, 170, 199, 333, 341, 212, 236, 341, 249, 286, 341, 299], 115, 0, 0)) (pc1 := 287) (lv1 := [(0, .ref 7), (1, .int x1)]) (st1 := []) (h1 := hO R g) (by decide +kernel) (m_swx (fun z => m_loc m_ft X (.tableswitch 341 60 84 #[115, 341, 341, 341, 341, 341, 341, 341, 341, 341, 128, 157, 341, 324, 170, 199, 333, 341, 212, 236, 341, 249, 286, 341, 299]) 0 0 1 [(0, .ref 7), (1, .int x1)] (.int z :: []) (hO R g)) c59 rfl) ?_
                        refine m_go (L := [(287, .aload_n 0, 1, 0, 0), (288, .bipush 85, 2, 0, 0), (290, .bipush 84, 2, 0, 0), (292, .iconst 0, 1, 0, 0), (293, .iconst 0, 1, 0, 0)]) (pc1 := 294) (lv1 := [(0, .ref 7), (1, .int x1)]) (st1 := [.int (0 : Int32), .int (0 : Int32), .int (84 : Int32), .int (85 : Int32), .ref 7]) (h1 := hO R g) (by decide +kernel) rfl ?_
                        rcases m_cv_inv h with ⟨g60, e62, h⟩ | ⟨y63, g60, e62, rfl, rfl⟩
                        · refine m_ca (q := (294, .invokevirtual 217, 3, 108, 4)) (a := 108) (vs := [.ref 7, .int (85 : Int32), .int (84 : Int32), .int (0 : Int32), .int (0 : Int32)]) (st := []) (d1 := 1) (by decide +kernel) rfl rfl rfl rfl (by decide) (Fr108 e62) ?_
                          show m_Run X _ _ 119 297 [(0, .ref 7), (1, .int x1)] [] (hO R g60) _ _
                          refine m_go (L := [(297, .goto 50, 3, 0, 0)]) (pc1 := 347) (lv1 := [(0, .ref 7), (1, .int x1)]) (st1 := []) (h1 := hO R g60) (by decide +kernel) rfl ?_
                          cases h
                          exact m_rv (by decide +kernel)
                        · exact m_cx (q := (294, .invokevirtual 217, 3, 108, 4)) (a := 108) (vs := [.ref 7, .int (85 : Int32), .int (84 : Int32), .int (0 : Int32), .int (0 : Int32)]) (st := []) (d1 := 1) (by decide +kernel) (by decide +kernel) rfl rfl rfl rfl (by decide) (Fr108 e62)
                      · rw [if_neg c59] at h
                        by_cases c64 : x1 = 84
                        · rw [if_pos c64] at h
                          refine m_go1 (q := (1, .tableswitch 341 60 84 #[115, 341, 341, 341, 341, 341, 341, 341, 341, 341, 128, 157, 341, 324, 170, 199, 333, 341, 212, 236, 341, 249, 286, 341, 299], 115, 0, 0)) (pc1 := 300) (lv1 := [(0, .ref 7), (1, .int x1)]) (st1 := []) (h1 := hO R g) (by decide +kernel) (m_swx (fun z => m_loc m_ft X (.tableswitch 341 60 84 #[115, 341, 341, 341, 341, 341, 341, 341, 341, 341, 128, 157, 341, 324, 170, 199, 333, 341, 212, 236, 341, 249, 286, 341, 299]) 0 0 1 [(0, .ref 7), (1, .int x1)] (.int z :: []) (hO R g)) c64 rfl) ?_
                          refine m_go (L := [(300, .aload_n 0, 1, 0, 0), (301, .aload_n 0, 1, 0, 0), (302, .getfield 142, 3, 6, 3), (305, .bipush 18, 2, 0, 0), (307, .bipush 20, 2, 0, 0)]) (pc1 := 309) (lv1 := [(0, .ref 7), (1, .int x1)]) (st1 := [.int (20 : Int32), .int (18 : Int32), .int (g.1 26), .ref 7]) (h1 := hO R g) (by decide +kernel) rfl ?_
                          rcases m_ci_inv h with ⟨v66, g65, e67, h⟩ | ⟨y68, g65, e67, rfl, rfl⟩
                          · refine m_ca (q := (309, .invokestatic 93, 3, 90, 3)) (a := 90) (vs := [.int (g.1 26), .int (18 : Int32), .int (20 : Int32)]) (st := [.ref 7]) (d1 := 0) (by decide +kernel) rfl rfl rfl rfl (by decide) (Fr90 e67) ?_
                            show m_Run X _ _ 119 312 [(0, .ref 7), (1, .int x1)] [.int v66, .ref 7] (hO R g65) _ _
                            refine m_go (L := [(312, .bipush 85, 2, 0, 0), (314, .bipush 83, 2, 0, 0), (316, .iconst 0, 1, 0, 0), (317, .bipush 84, 2, 0, 0)]) (pc1 := 319) (lv1 := [(0, .ref 7), (1, .int x1)]) (st1 := [.int (84 : Int32), .int (0 : Int32), .int (83 : Int32), .int (85 : Int32), .int v66, .ref 7]) (h1 := hO R g65) (by decide +kernel) rfl ?_
                            rcases m_cv_inv h with ⟨g69, e71, h⟩ | ⟨y72, g69, e71, rfl, rfl⟩
                            · refine m_ca (q := (319, .invokevirtual 268, 3, 120, 5)) (a := 120) (vs := [.ref 7, .int v66, .int (85 : Int32), .int (83 : Int32), .int (0 : Int32), .int (84 : Int32)]) (st := []) (d1 := 2) (by decide +kernel) rfl rfl rfl rfl (by decide) (Fr120 e71) ?_
                              show m_Run X _ _ 119 322 [(0, .ref 7), (1, .int x1)] [] (hO R g69) _ _
                              refine m_go (L := [(322, .goto 25, 3, 0, 0)]) (pc1 := 347) (lv1 := [(0, .ref 7), (1, .int x1)]) (st1 := []) (h1 := hO R g69) (by decide +kernel) rfl ?_
                              cases h
                              exact m_rv (by decide +kernel)
                            · exact m_cx (q := (319, .invokevirtual 268, 3, 120, 5)) (a := 120) (vs := [.ref 7, .int v66, .int (85 : Int32), .int (83 : Int32), .int (0 : Int32), .int (84 : Int32)]) (st := []) (d1 := 2) (by decide +kernel) (by decide +kernel) rfl rfl rfl rfl (by decide) (Fr120 e71)
                          · exact m_cx (q := (309, .invokestatic 93, 3, 90, 3)) (a := 90) (vs := [.int (g.1 26), .int (18 : Int32), .int (20 : Int32)]) (st := [.ref 7]) (d1 := 0) (by decide +kernel) (by decide +kernel) rfl rfl rfl rfl (by decide) (Fr90 e67)
                        · rw [if_neg c64] at h
                          have hx : m_loc m_ft X (.tableswitch 341 60 84 #[115, 341, 341, 341, 341, 341, 341, 341, 341, 341, 128, 157, 341, 324, 170, 199, 333, 341, 212, 236, 341, 249, 286, 341, 299]) 0 0 1 [(0, .ref 7), (1, .int x1)] ([.int x1]) (hO R g) = some (342, [(0, .ref 7), (1, .int x1)], [], hO R g) := by
                            by_cases hz : Int32.toInt x1 < 60 ∨ 84 < Int32.toInt x1
                            · exact if_pos hz
                            · have z0 := m_ne (k := 60) (z := 60) (by decide) c1; have z1 := m_ne (k := 70) (z := 70) (by decide) c6; have z2 := m_ne (k := 71) (z := 71) (by decide) c12; have z3 := m_ne (k := 73) (z := 73) (by decide) c17; have z4 := m_ne (k := 74) (z := 74) (by decide) c22; have z5 := m_ne (k := 75) (z := 75) (by decide) c28; have z6 := m_ne (k := 76) (z := 76) (by decide) c33; have z7 := m_ne (k := 78) (z := 78) (by decide) c38; have z8 := m_ne (k := 79) (z := 79) (by decide) c47; have z9 := m_ne (k := 81) (z := 81) (by decide) c52; have z10 := m_ne (k := 82) (z := 82) (by decide) c59; have z11 := m_ne (k := 84) (z := 84) (by decide) c64; have hw : x1 = 61 ∨ x1 = 62 ∨ x1 = 63 ∨ x1 = 64 ∨ x1 = 65 ∨ x1 = 66 ∨ x1 = 67 ∨ x1 = 68 ∨ x1 = 69 ∨ x1 = 72 ∨ x1 = 77 ∨ x1 = 80 ∨ x1 = 83 := by
                                have hv : Int32.toInt x1 = 61 ∨ Int32.toInt x1 = 62 ∨ Int32.toInt x1 = 63 ∨ Int32.toInt x1 = 64 ∨ Int32.toInt x1 = 65 ∨ Int32.toInt x1 = 66 ∨ Int32.toInt x1 = 67 ∨ Int32.toInt x1 = 68 ∨ Int32.toInt x1 = 69 ∨ Int32.toInt x1 = 72 ∨ Int32.toInt x1 = 77 ∨ Int32.toInt x1 = 80 ∨ Int32.toInt x1 = 83 := by omega
                                rcases hv with hv | hv | hv | hv | hv | hv | hv | hv | hv | hv | hv | hv | hv
                                · exact Or.inl (Int32.toInt_inj.mp hv)
                                · exact Or.inr (Or.inl (Int32.toInt_inj.mp hv))
                                · exact Or.inr (Or.inr (Or.inl (Int32.toInt_inj.mp hv)))
                                · exact Or.inr (Or.inr (Or.inr (Or.inl (Int32.toInt_inj.mp hv))))
                                · exact Or.inr (Or.inr (Or.inr (Or.inr (Or.inl (Int32.toInt_inj.mp hv)))))
                                · exact Or.inr (Or.inr (Or.inr (Or.inr (Or.inr (Or.inl (Int32.toInt_inj.mp hv))))))
                                · exact Or.inr (Or.inr (Or.inr (Or.inr (Or.inr (Or.inr (Or.inl (Int32.toInt_inj.mp hv)))))))
                                · exact Or.inr (Or.inr (Or.inr (Or.inr (Or.inr (Or.inr (Or.inr (Or.inl (Int32.toInt_inj.mp hv))))))))
                                · exact Or.inr (Or.inr (Or.inr (Or.inr (Or.inr (Or.inr (Or.inr (Or.inr (Or.inl (Int32.toInt_inj.mp hv)))))))))
                                · exact Or.inr (Or.inr (Or.inr (Or.inr (Or.inr (Or.inr (Or.inr (Or.inr (Or.inr (Or.inl (Int32.toInt_inj.mp hv))))))))))
                                · exact Or.inr (Or.inr (Or.inr (Or.inr (Or.inr (Or.inr (Or.inr (Or.inr (Or.inr (Or.inr (Or.inl (Int32.toInt_inj.mp hv)))))))))))
                                · exact Or.inr (Or.inr (Or.inr (Or.inr (Or.inr (Or.inr (Or.inr (Or.inr (Or.inr (Or.inr (Or.inr (Or.inl (Int32.toInt_inj.mp hv))))))))))))
                                · exact Or.inr (Or.inr (Or.inr (Or.inr (Or.inr (Or.inr (Or.inr (Or.inr (Or.inr (Or.inr (Or.inr (Or.inr (Int32.toInt_inj.mp hv))))))))))))
                              rcases hw with hw | hw | hw | hw | hw | hw | hw | hw | hw | hw | hw | hw | hw
                              · exact m_swx (fun z => m_loc m_ft X (.tableswitch 341 60 84 #[115, 341, 341, 341, 341, 341, 341, 341, 341, 341, 128, 157, 341, 324, 170, 199, 333, 341, 212, 236, 341, 249, 286, 341, 299]) 0 0 1 [(0, .ref 7), (1, .int x1)] (.int z :: []) (hO R g)) hw rfl
                              · exact m_swx (fun z => m_loc m_ft X (.tableswitch 341 60 84 #[115, 341, 341, 341, 341, 341, 341, 341, 341, 341, 128, 157, 341, 324, 170, 199, 333, 341, 212, 236, 341, 249, 286, 341, 299]) 0 0 1 [(0, .ref 7), (1, .int x1)] (.int z :: []) (hO R g)) hw rfl
                              · exact m_swx (fun z => m_loc m_ft X (.tableswitch 341 60 84 #[115, 341, 341, 341, 341, 341, 341, 341, 341, 341, 128, 157, 341, 324, 170, 199, 333, 341, 212, 236, 341, 249, 286, 341, 299]) 0 0 1 [(0, .ref 7), (1, .int x1)] (.int z :: []) (hO R g)) hw rfl
                              · exact m_swx (fun z => m_loc m_ft X (.tableswitch 341 60 84 #[115, 341, 341, 341, 341, 341, 341, 341, 341, 341, 128, 157, 341, 324, 170, 199, 333, 341, 212, 236, 341, 249, 286, 341, 299]) 0 0 1 [(0, .ref 7), (1, .int x1)] (.int z :: []) (hO R g)) hw rfl
                              · exact m_swx (fun z => m_loc m_ft X (.tableswitch 341 60 84 #[115, 341, 341, 341, 341, 341, 341, 341, 341, 341, 128, 157, 341, 324, 170, 199, 333, 341, 212, 236, 341, 249, 286, 341, 299]) 0 0 1 [(0, .ref 7), (1, .int x1)] (.int z :: []) (hO R g)) hw rfl
                              · exact m_swx (fun z => m_loc m_ft X (.tableswitch 341 60 84 #[115, 341, 341, 341, 341, 341, 341, 341, 341, 341, 128, 157, 341, 324, 170, 199, 333, 341, 212, 236, 341, 249, 286, 341, 299]) 0 0 1 [(0, .ref 7), (1, .int x1)] (.int z :: []) (hO R g)) hw rfl
                              · exact m_swx (fun z => m_loc m_ft X (.tableswitch 341 60 84 #[115, 341, 341, 341, 341, 341, 341, 341, 341, 341, 128, 157, 341, 324, 170, 199, 333, 341, 212, 236, 341, 249, 286, 341, 299]) 0 0 1 [(0, .ref 7), (1, .int x1)] (.int z :: []) (hO R g)) hw rfl
                              · exact m_swx (fun z => m_loc m_ft X (.tableswitch 341 60 84 #[115, 341, 341, 341, 341, 341, 341, 341, 341, 341, 128, 157, 341, 324, 170, 199, 333, 341, 212, 236, 341, 249, 286, 341, 299]) 0 0 1 [(0, .ref 7), (1, .int x1)] (.int z :: []) (hO R g)) hw rfl
                              · exact m_swx (fun z => m_loc m_ft X (.tableswitch 341 60 84 #[115, 341, 341, 341, 341, 341, 341, 341, 341, 341, 128, 157, 341, 324, 170, 199, 333, 341, 212, 236, 341, 249, 286, 341, 299]) 0 0 1 [(0, .ref 7), (1, .int x1)] (.int z :: []) (hO R g)) hw rfl
                              · exact m_swx (fun z => m_loc m_ft X (.tableswitch 341 60 84 #[115, 341, 341, 341, 341, 341, 341, 341, 341, 341, 128, 157, 341, 324, 170, 199, 333, 341, 212, 236, 341, 249, 286, 341, 299]) 0 0 1 [(0, .ref 7), (1, .int x1)] (.int z :: []) (hO R g)) hw rfl
                              · exact m_swx (fun z => m_loc m_ft X (.tableswitch 341 60 84 #[115, 341, 341, 341, 341, 341, 341, 341, 341, 341, 128, 157, 341, 324, 170, 199, 333, 341, 212, 236, 341, 249, 286, 341, 299]) 0 0 1 [(0, .ref 7), (1, .int x1)] (.int z :: []) (hO R g)) hw rfl
                              · exact m_swx (fun z => m_loc m_ft X (.tableswitch 341 60 84 #[115, 341, 341, 341, 341, 341, 341, 341, 341, 341, 128, 157, 341, 324, 170, 199, 333, 341, 212, 236, 341, 249, 286, 341, 299]) 0 0 1 [(0, .ref 7), (1, .int x1)] (.int z :: []) (hO R g)) hw rfl
                              · exact m_swx (fun z => m_loc m_ft X (.tableswitch 341 60 84 #[115, 341, 341, 341, 341, 341, 341, 341, 341, 341, 128, 157, 341, 324, 170, 199, 333, 341, 212, 236, 341, 249, 286, 341, 299]) 0 0 1 [(0, .ref 7), (1, .int x1)] (.int z :: []) (hO R g)) hw rfl
                          refine m_go1 (q := (1, .tableswitch 341 60 84 #[115, 341, 341, 341, 341, 341, 341, 341, 341, 341, 128, 157, 341, 324, 170, 199, 333, 341, 212, 236, 341, 249, 286, 341, 299], 115, 0, 0)) (by decide +kernel) hx ?_
                          refine m_go (L := [(342, .aload_n 0, 1, 0, 0), (343, .iload_n 1, 1, 0, 0)]) (pc1 := 344) (lv1 := [(0, .ref 7), (1, .int x1)]) (st1 := [.int x1, .ref 7]) (h1 := hO R g) (by decide +kernel) rfl ?_
                          rcases m_cv_inv h with ⟨g73, e75, h⟩ | ⟨y76, g73, e75, rfl, rfl⟩
                          · refine m_ca (q := (344, .invokevirtual 272, 3, 122, 1)) (a := 122) (vs := [.ref 7, .int x1]) (st := []) (d1 := 1) (by decide +kernel) rfl rfl rfl rfl (by decide) (Fr122 e75) ?_
                            show m_Run X _ _ 119 347 [(0, .ref 7), (1, .int x1)] [] (hO R g73) _ _
                            cases h
                            exact m_rv (by decide +kernel)
                          · exact m_cx (q := (344, .invokevirtual 272, 3, 122, 1)) (a := 122) (vs := [.ref 7, .int x1]) (st := []) (d1 := 1) (by decide +kernel) (by decide +kernel) rfl rfl rfl rfl (by decide) (Fr122 e75)
def f113_6 (n : Nat) : Nat → Int32 → Int32 → Int32 → Int32 → Int32 → mG → mZ
  | 0, _, _, _, _, _, _ => none
  | c + 1, x1, x2, x3, x4, x5, g => if x3 ≤ x5 then if x4 = 0 ∨ x4 = 1 then some (.inl (some (.int x4)), g) else none else if x4 = 0 then f113_6 n c x1 x2 x3 (0 : Int32) (x5 + (1 : Int32)) g else if (x1 + x5) < 0 ∨ 600 ≤ Int32.toNatClampNeg (x1 + x5) then none else if (x2 + x5) < 0 ∨ 600 ≤ Int32.toNatClampNeg (x2 + x5) then none else if ¬ ((g.2.1 32) (Int32.toNatClampNeg (x1 + x5))) = ((g.2.1 32) (Int32.toNatClampNeg (x2 + x5))) then f113_6 n c x1 x2 x3 (0 : Int32) (x5 + (1 : Int32)) g else f113_6 n c x1 x2 x3 (1 : Int32) (x5 + (1 : Int32)) g
set_option maxRecDepth 20000 in
theorem Fr113_6 {R : Nat} : ∀ (c : Nat) (x1 : Int32) (x2 : Int32) (x3 : Int32) (x4 : Int32) (x5 : Int32) (g g' : mG) (o : mO), f113_6 n c x1 x2 x3 x4 x5 g = some (o, g') → m_Run X (0) (m_ko o) 113 6 [(0, .ref 7), (1, .int x1), (2, .int x2), (3, .int x3), (4, .int x4), (5, .int x5)] [] (hO R g) o (hO R g') := by
  intro c
  induction c with
  | zero => intro x1 x2 x3 x4 x5 g g' o h; rw [f113_6] at h; cases h
  | succ c ih =>
    intro x1 x2 x3 x4 x5 g g' o h
    rw [f113_6] at h
    refine m_gob (c := x3 ≤ x5) (t := 51) (f := 12) (L := [(6, .iload 5, 2, 0, 0), (8, .iload_n 3, 1, 0, 0), (9, .if_icmp .ge 42, 3, 0, 0)]) (lv1 := [(0, .ref 7), (1, .int x1), (2, .int x2), (3, .int x3), (4, .int x4), (5, .int x5)]) (st1 := []) (h1 := hO R g) (by decide +kernel) rfl (fun c1 => ?_) (fun c1 => ?_)
    · rw [if_pos c1] at h
      refine m_go (L := [(51, .iload 4, 2, 0, 0)]) (pc1 := 53) (lv1 := [(0, .ref 7), (1, .int x1), (2, .int x2), (3, .int x3), (4, .int x4), (5, .int x5)]) (st1 := [.int x4]) (h1 := hO R g) (by decide +kernel) rfl ?_
      obtain ⟨c2, h⟩ := m_if_inv h
      cases h
      exact m_rz (by decide +kernel) c2
    · rw [if_neg c1] at h
      refine m_gob (c := x4 = 0) (t := 42) (f := 17) (L := [(12, .iload 4, 2, 0, 0), (14, .ifCond .eq 28, 3, 0, 0)]) (lv1 := [(0, .ref 7), (1, .int x1), (2, .int x2), (3, .int x3), (4, .int x4), (5, .int x5)]) (st1 := []) (h1 := hO R g) (by decide +kernel) rfl (fun c3 => ?_) (fun c3 => ?_)
      · rw [if_pos c3] at h
        refine m_go (L := [(42, .iconst 0, 1, 0, 0), (43, .istore 4, 2, 0, 0), (45, .iinc 5 1, 3, 0, 0), (48, .goto (-42), 3, 0, 0)]) (pc1 := 6) (lv1 := [(0, .ref 7), (1, .int x1), (2, .int x2), (3, .int x3), (4, .int (0 : Int32)), (5, .int (x5 + (1 : Int32)))]) (st1 := []) (h1 := hO R g) (by decide +kernel) rfl ?_
        exact m_r0 _ _ _ _ _ _ _ _ _ _ (m_pick [0, 1, 2, 3, 4, 5] rfl) (ih _ _ _ _ _ _ _ _ h)
      · rw [if_neg c3] at h
        refine m_go (L := [(17, .aload_n 0, 1, 0, 0), (18, .getfield 7, 3, 6, 1), (21, .iload_n 1, 1, 0, 0), (22, .iload 5, 2, 0, 0), (24, .iadd, 1, 0, 0)]) (pc1 := 25) (lv1 := [(0, .ref 7), (1, .int x1), (2, .int x2), (3, .int x3), (4, .int x4), (5, .int x5)]) (st1 := [.int (x1 + x5), .ref 32]) (h1 := hO R g) (by decide +kernel) rfl ?_
        obtain ⟨c4, h⟩ := m_ifn_inv h
        refine m_go1 (q := (25, .iaload, 1, 0, 0)) (pc1 := 26) (lv1 := [(0, .ref 7), (1, .int x1), (2, .int x2), (3, .int x3), (4, .int x4), (5, .int x5)]) (st1 := [.int ((g.2.1 32) (Int32.toNatClampNeg (x1 + x5)))]) (h1 := hO R g) (by decide +kernel) (if_neg c4) ?_
        refine m_go (L := [(26, .aload_n 0, 1, 0, 0), (27, .getfield 7, 3, 6, 1), (30, .iload_n 2, 1, 0, 0), (31, .iload 5, 2, 0, 0), (33, .iadd, 1, 0, 0)]) (pc1 := 34) (lv1 := [(0, .ref 7), (1, .int x1), (2, .int x2), (3, .int x3), (4, .int x4), (5, .int x5)]) (st1 := [.int (x2 + x5), .ref 32, .int ((g.2.1 32) (Int32.toNatClampNeg (x1 + x5)))]) (h1 := hO R g) (by decide +kernel) rfl ?_
        obtain ⟨c5, h⟩ := m_ifn_inv h
        refine m_go1 (q := (34, .iaload, 1, 0, 0)) (pc1 := 35) (lv1 := [(0, .ref 7), (1, .int x1), (2, .int x2), (3, .int x3), (4, .int x4), (5, .int x5)]) (st1 := [.int ((g.2.1 32) (Int32.toNatClampNeg (x2 + x5))), .int ((g.2.1 32) (Int32.toNatClampNeg (x1 + x5)))]) (h1 := hO R g) (by decide +kernel) (if_neg c5) ?_
        refine m_gob (c := ¬ ((g.2.1 32) (Int32.toNatClampNeg (x1 + x5))) = ((g.2.1 32) (Int32.toNatClampNeg (x2 + x5)))) (t := 42) (f := 38) (L := [(35, .if_icmp .ne 7, 3, 0, 0)]) (lv1 := [(0, .ref 7), (1, .int x1), (2, .int x2), (3, .int x3), (4, .int x4), (5, .int x5)]) (st1 := []) (h1 := hO R g) (by decide +kernel) rfl (fun c6 => ?_) (fun c6 => ?_)
        · rw [if_pos c6] at h
          refine m_go (L := [(42, .iconst 0, 1, 0, 0), (43, .istore 4, 2, 0, 0), (45, .iinc 5 1, 3, 0, 0), (48, .goto (-42), 3, 0, 0)]) (pc1 := 6) (lv1 := [(0, .ref 7), (1, .int x1), (2, .int x2), (3, .int x3), (4, .int (0 : Int32)), (5, .int (x5 + (1 : Int32)))]) (st1 := []) (h1 := hO R g) (by decide +kernel) rfl ?_
          exact m_r0 _ _ _ _ _ _ _ _ _ _ (m_pick [0, 1, 2, 3, 4, 5] rfl) (ih _ _ _ _ _ _ _ _ h)
        · rw [if_neg c6] at h
          refine m_go (L := [(38, .iconst 1, 1, 0, 0), (39, .goto 4, 3, 0, 0), (43, .istore 4, 2, 0, 0), (45, .iinc 5 1, 3, 0, 0), (48, .goto (-42), 3, 0, 0)]) (pc1 := 6) (lv1 := [(0, .ref 7), (1, .int x1), (2, .int x2), (3, .int x3), (4, .int (1 : Int32)), (5, .int (x5 + (1 : Int32)))]) (st1 := []) (h1 := hO R g) (by decide +kernel) rfl ?_
          exact m_r0 _ _ _ _ _ _ _ _ _ _ (m_pick [0, 1, 2, 3, 4, 5] rfl) (ih _ _ _ _ _ _ _ _ h)
def f113 (n : Nat) (x1 : Int32) (x2 : Int32) (x3 : Int32) (g : mG) : mZ := f113_6 n n x1 x2 x3 (1 : Int32) (0 : Int32) g
theorem Fr113 {R : Nat} {x1 : Int32} {x2 : Int32} {x3 : Int32} {g g' : mG} {o : mO} (h : f113 n x1 x2 x3 g = some (o, g')) : m_Run X (0) (m_ko o) 113 0 [(0, .ref 7), (1, .int x1), (2, .int x2), (3, .int x3)] [] (hO R g) o (hO R g') := by
  unfold f113 at h
  refine m_go (L := [(0, .iconst 1, 1, 0, 0), (1, .istore 4, 2, 0, 0), (3, .iconst 0, 1, 0, 0), (4, .istore 5, 2, 0, 0)]) (pc1 := 6) (lv1 := [(0, .ref 7), (1, .int x1), (2, .int x2), (3, .int x3), (4, .int (1 : Int32)), (5, .int (0 : Int32))]) (st1 := []) (h1 := hO R g) (by decide +kernel) rfl ?_
  exact m_r0 _ _ _ _ _ _ _ _ _ _ (m_pick [0, 1, 2, 3, 4, 5] rfl) (Fr113_6 _ _ _ _ _ _ _ _ _ h)
def f114_5 (n : Nat) : Nat → Int32 → Int32 → Int32 → Int32 → mG → mZ
  | 0, _, _, _, _, _ => none
  | c + 1, x1, x2, x3, x4, g => if (g.1 35) ≤ x4 then some (.inl (some (.int x3)), g) else if x4 < 0 ∨ 9 ≤ Int32.toNatClampNeg x4 then none else if ¬ ((g.2.1 37) (Int32.toNatClampNeg x4)) = x2 then f114_5 n c x1 x2 x3 (x4 + (1 : Int32)) g else if x4 < 0 ∨ 9 ≤ Int32.toNatClampNeg x4 then none else m_ci (f113 n ((g.2.1 36) (Int32.toNatClampNeg x4)) x1 x2 g) (fun v6 g5 => if v6 = 0 then f114_5 n c x1 x2 x3 (x4 + (1 : Int32)) g5 else f114_5 n c x1 x2 x4 (x4 + (1 : Int32)) g5)
set_option maxRecDepth 20000 in
theorem Fr114_5 {R : Nat} : ∀ (c : Nat) (x1 : Int32) (x2 : Int32) (x3 : Int32) (x4 : Int32) (g g' : mG) (o : mO), f114_5 n c x1 x2 x3 x4 g = some (o, g') → m_Run X (1) (m_ko o) 114 5 [(0, .ref 7), (1, .int x1), (2, .int x2), (3, .int x3), (4, .int x4)] [] (hO R g) o (hO R g') := by
  intro c
  induction c with
  | zero => intro x1 x2 x3 x4 g g' o h; rw [f114_5] at h; cases h
  | succ c ih =>
    intro x1 x2 x3 x4 g g' o h
    rw [f114_5] at h
    refine m_gob (c := (g.1 35) ≤ x4) (t := 54) (f := 14) (L := [(5, .iload 4, 2, 0, 0), (7, .aload_n 0, 1, 0, 0), (8, .getfield 196, 3, 6, 15), (11, .if_icmp .ge 43, 3, 0, 0)]) (lv1 := [(0, .ref 7), (1, .int x1), (2, .int x2), (3, .int x3), (4, .int x4)]) (st1 := []) (h1 := hO R g) (by decide +kernel) rfl (fun c1 => ?_) (fun c1 => ?_)
    · rw [if_pos c1] at h
      refine m_go (L := [(54, .iload_n 3, 1, 0, 0)]) (pc1 := 55) (lv1 := [(0, .ref 7), (1, .int x1), (2, .int x2), (3, .int x3), (4, .int x4)]) (st1 := [.int x3]) (h1 := hO R g) (by decide +kernel) rfl ?_
      cases h
      exact m_ri (by decide +kernel)
    · rw [if_neg c1] at h
      refine m_go (L := [(14, .aload_n 0, 1, 0, 0), (15, .getfield 25, 3, 6, 17), (18, .iload 4, 2, 0, 0)]) (pc1 := 20) (lv1 := [(0, .ref 7), (1, .int x1), (2, .int x2), (3, .int x3), (4, .int x4)]) (st1 := [.int x4, .ref 37]) (h1 := hO R g) (by decide +kernel) rfl ?_
      obtain ⟨c2, h⟩ := m_ifn_inv h
      refine m_go1 (q := (20, .iaload, 1, 0, 0)) (pc1 := 21) (lv1 := [(0, .ref 7), (1, .int x1), (2, .int x2), (3, .int x3), (4, .int x4)]) (st1 := [.int ((g.2.1 37) (Int32.toNatClampNeg x4))]) (h1 := hO R g) (by decide +kernel) (if_neg c2) ?_
      refine m_gob (c := ¬ ((g.2.1 37) (Int32.toNatClampNeg x4)) = x2) (t := 46) (f := 25) (L := [(21, .iload_n 2, 1, 0, 0), (22, .if_icmp .ne 24, 3, 0, 0)]) (lv1 := [(0, .ref 7), (1, .int x1), (2, .int x2), (3, .int x3), (4, .int x4)]) (st1 := []) (h1 := hO R g) (by decide +kernel) rfl (fun c3 => ?_) (fun c3 => ?_)
      · rw [if_pos c3] at h
        refine m_go (L := [(46, .iload_n 3, 1, 0, 0), (47, .istore_n 3, 1, 0, 0), (48, .iinc 4 1, 3, 0, 0), (51, .goto (-46), 3, 0, 0)]) (pc1 := 5) (lv1 := [(0, .ref 7), (1, .int x1), (2, .int x2), (3, .int x3), (4, .int (x4 + (1 : Int32)))]) (st1 := []) (h1 := hO R g) (by decide +kernel) rfl ?_
        exact m_r0 _ _ _ _ _ _ _ _ _ _ (m_pick [0, 1, 2, 3, 4] rfl) (ih _ _ _ _ _ _ _ h)
      · rw [if_neg c3] at h
        refine m_go (L := [(25, .aload_n 0, 1, 0, 0), (26, .aload_n 0, 1, 0, 0), (27, .getfield 22, 3, 6, 16), (30, .iload 4, 2, 0, 0)]) (pc1 := 32) (lv1 := [(0, .ref 7), (1, .int x1), (2, .int x2), (3, .int x3), (4, .int x4)]) (st1 := [.int x4, .ref 36, .ref 7]) (h1 := hO R g) (by decide +kernel) rfl ?_
        obtain ⟨c4, h⟩ := m_ifn_inv h
        refine m_go1 (q := (32, .iaload, 1, 0, 0)) (pc1 := 33) (lv1 := [(0, .ref 7), (1, .int x1), (2, .int x2), (3, .int x3), (4, .int x4)]) (st1 := [.int ((g.2.1 36) (Int32.toNatClampNeg x4)), .ref 7]) (h1 := hO R g) (by decide +kernel) (if_neg c4) ?_
        refine m_go (L := [(33, .iload_n 1, 1, 0, 0), (34, .iload_n 2, 1, 0, 0)]) (pc1 := 35) (lv1 := [(0, .ref 7), (1, .int x1), (2, .int x2), (3, .int x3), (4, .int x4)]) (st1 := [.int x2, .int x1, .int ((g.2.1 36) (Int32.toNatClampNeg x4)), .ref 7]) (h1 := hO R g) (by decide +kernel) rfl ?_
        rcases m_ci_inv h with ⟨v6, g5, e7, h⟩ | ⟨y8, g5, e7, rfl, rfl⟩
        · refine m_ca (q := (35, .invokevirtual 199, 3, 113, 3)) (a := 113) (vs := [.ref 7, .int ((g.2.1 36) (Int32.toNatClampNeg x4)), .int x1, .int x2]) (st := []) (d1 := 0) (by decide +kernel) rfl rfl rfl rfl (by decide) (Fr113 e7) ?_
          show m_Run X _ _ 114 38 [(0, .ref 7), (1, .int x1), (2, .int x2), (3, .int x3), (4, .int x4)] [.int v6] (hO R g5) _ _
          refine m_gob (c := v6 = 0) (t := 46) (f := 41) (L := [(38, .ifCond .eq 8, 3, 0, 0)]) (lv1 := [(0, .ref 7), (1, .int x1), (2, .int x2), (3, .int x3), (4, .int x4)]) (st1 := []) (h1 := hO R g5) (by decide +kernel) rfl (fun c9 => ?_) (fun c9 => ?_)
          · rw [if_pos c9] at h
            refine m_go (L := [(46, .iload_n 3, 1, 0, 0), (47, .istore_n 3, 1, 0, 0), (48, .iinc 4 1, 3, 0, 0), (51, .goto (-46), 3, 0, 0)]) (pc1 := 5) (lv1 := [(0, .ref 7), (1, .int x1), (2, .int x2), (3, .int x3), (4, .int (x4 + (1 : Int32)))]) (st1 := []) (h1 := hO R g5) (by decide +kernel) rfl ?_
            exact m_r0 _ _ _ _ _ _ _ _ _ _ (m_pick [0, 1, 2, 3, 4] rfl) (ih _ _ _ _ _ _ _ h)
          · rw [if_neg c9] at h
            refine m_go (L := [(41, .iload 4, 2, 0, 0), (43, .goto 4, 3, 0, 0), (47, .istore_n 3, 1, 0, 0), (48, .iinc 4 1, 3, 0, 0), (51, .goto (-46), 3, 0, 0)]) (pc1 := 5) (lv1 := [(0, .ref 7), (1, .int x1), (2, .int x2), (3, .int x4), (4, .int (x4 + (1 : Int32)))]) (st1 := []) (h1 := hO R g5) (by decide +kernel) rfl ?_
            exact m_r0 _ _ _ _ _ _ _ _ _ _ (m_pick [0, 1, 2, 3, 4] rfl) (ih _ _ _ _ _ _ _ h)
        · exact m_cx (q := (35, .invokevirtual 199, 3, 113, 3)) (a := 113) (vs := [.ref 7, .int ((g.2.1 36) (Int32.toNatClampNeg x4)), .int x1, .int x2]) (st := []) (d1 := 0) (by decide +kernel) (by decide +kernel) rfl rfl rfl rfl (by decide) (Fr113 e7)
def f114 (n : Nat) (x1 : Int32) (x2 : Int32) (g : mG) : mZ := f114_5 n n x1 x2 (-1 : Int32) (0 : Int32) g
theorem Fr114 {R : Nat} {x1 : Int32} {x2 : Int32} {g g' : mG} {o : mO} (h : f114 n x1 x2 g = some (o, g')) : m_Run X (1) (m_ko o) 114 0 [(0, .ref 7), (1, .int x1), (2, .int x2)] [] (hO R g) o (hO R g') := by
  unfold f114 at h
  refine m_go (L := [(0, .iconst (-1), 1, 0, 0), (1, .istore_n 3, 1, 0, 0), (2, .iconst 0, 1, 0, 0), (3, .istore 4, 2, 0, 0)]) (pc1 := 5) (lv1 := [(0, .ref 7), (1, .int x1), (2, .int x2), (3, .int (-1 : Int32)), (4, .int (0 : Int32))]) (st1 := []) (h1 := hO R g) (by decide +kernel) rfl ?_
  exact m_r0 _ _ _ _ _ _ _ _ _ _ (m_pick [0, 1, 2, 3, 4] rfl) (Fr114_5 _ _ _ _ _ _ _ _ h)
def f133_28 (n : Nat) (g : mG) : mZ := m_cv (f103 n (g.1 27) g) (fun g2 => some (.inl none, g2))
theorem Fr133_28 {R : Nat} {g g' : mG} {o : mO} (h : f133_28 n g = some (o, g')) : m_Run X (4) (m_ko o) 133 28 [(0, .ref 7)] [] (hO R g) o (hO R g') := by
  unfold f133_28 at h
  refine m_go (L := [(28, .aload_n 0, 1, 0, 0), (29, .aload_n 0, 1, 0, 0), (30, .getfield 148, 3, 6, 4)]) (pc1 := 33) (lv1 := [(0, .ref 7)]) (st1 := [.int (g.1 27), .ref 7]) (h1 := hO R g) (by decide +kernel) rfl ?_
  rcases m_cv_inv h with ⟨g2, e4, h⟩ | ⟨y5, g2, e4, rfl, rfl⟩
  · refine m_ca (q := (33, .invokevirtual 190, 3, 103, 1)) (a := 103) (vs := [.ref 7, .int (g.1 27)]) (st := []) (d1 := 0) (by decide +kernel) rfl rfl rfl rfl (by decide) (Fr103 e4) ?_
    show m_Run X _ _ 133 36 [(0, .ref 7)] [] (hO R g2) _ _
    cases h
    exact m_rv (by decide +kernel)
  · exact m_cx (q := (33, .invokevirtual 190, 3, 103, 1)) (a := 103) (vs := [.ref 7, .int (g.1 27)]) (st := []) (d1 := 0) (by decide +kernel) (by decide +kernel) rfl rfl rfl rfl (by decide) (Fr103 e4)
def f133 (n : Nat) (g : mG) : mZ := if ¬ (g.1 26) = (1 : Int32) then f133_28 n g else m_ci (f114 n (g.1 27) ((g.1 28) - (g.1 27)) g) (fun v7 g6 => if v7 < 0 then if (g6.1 35) < 0 ∨ 9 ≤ Int32.toNatClampNeg (g6.1 35) then none else if (g6.1 35) < 0 ∨ 9 ≤ Int32.toNatClampNeg (g6.1 35) then none else if (g6.1 35) < 0 ∨ 9 ≤ Int32.toNatClampNeg (g6.1 35) then none else if (g6.1 35) < 0 ∨ 9 ≤ Int32.toNatClampNeg (g6.1 35) then none else m_cv (f92 n (gI (gI (gS (gS (gS (gS g6 36 (upd (g6.2.1 36) (Int32.toNatClampNeg (g6.1 35)) (g6.1 27))) 37 (upd (g6.2.1 37) (Int32.toNatClampNeg (g6.1 35)) ((g6.1 28) - (g6.1 27)))) 38 (upd (g6.2.1 38) (Int32.toNatClampNeg (g6.1 35)) (g6.1 37))) 39 (upd (g6.2.1 39) (Int32.toNatClampNeg (g6.1 35)) (0 : Int32))) 35 ((g6.1 35) + (1 : Int32))) 36 (0 : Int32))) (fun g15 => some (.inl none, g15)) else f133_28 n g6)
theorem Fr133 {R : Nat} {g g' : mG} {o : mO} (h : f133 n g = some (o, g')) : m_Run X (4) (m_ko o) 133 0 [(0, .ref 7)] [] (hO R g) o (hO R g') := by
  unfold f133 at h
  refine m_gob (c := ¬ (g.1 26) = (1 : Int32)) (t := 28) (f := 8) (L := [(0, .aload_n 0, 1, 0, 0), (1, .getfield 142, 3, 6, 3), (4, .iconst 1, 1, 0, 0), (5, .if_icmp .ne 23, 3, 0, 0)]) (lv1 := [(0, .ref 7)]) (st1 := []) (h1 := hO R g) (by decide +kernel) rfl (fun c1 => ?_) (fun c1 => ?_)
  · rw [if_pos c1] at h
    exact m_r0 _ _ _ _ _ _ _ _ _ _ (m_pick [0] rfl) (Fr133_28 h)
  · rw [if_neg c1] at h
    refine m_go (L := [(8, .aload_n 0, 1, 0, 0), (9, .aload_n 0, 1, 0, 0), (10, .getfield 148, 3, 6, 4), (13, .aload_n 0, 1, 0, 0), (14, .getfield 133, 3, 6, 5), (17, .aload_n 0, 1, 0, 0), (18, .getfield 148, 3, 6, 4), (21, .isub, 1, 0, 0)]) (pc1 := 22) (lv1 := [(0, .ref 7)]) (st1 := [.int ((g.1 28) - (g.1 27)), .int (g.1 27), .ref 7]) (h1 := hO R g) (by decide +kernel) rfl ?_
    rcases m_ci_inv h with ⟨v7, g6, e8, h⟩ | ⟨y9, g6, e8, rfl, rfl⟩
    · refine m_ca (q := (22, .invokevirtual 205, 3, 114, 2)) (a := 114) (vs := [.ref 7, .int (g.1 27), .int ((g.1 28) - (g.1 27))]) (st := []) (d1 := 1) (by decide +kernel) rfl rfl rfl rfl (by decide) (Fr114 e8) ?_
      show m_Run X _ _ 133 25 [(0, .ref 7)] [.int v7] (hO R g6) _ _
      refine m_gob (c := v7 < 0) (t := 37) (f := 28) (L := [(25, .ifCond .lt 12, 3, 0, 0)]) (lv1 := [(0, .ref 7)]) (st1 := []) (h1 := hO R g6) (by decide +kernel) rfl (fun c10 => ?_) (fun c10 => ?_)
      · rw [if_pos c10] at h
        refine m_go (L := [(37, .aload_n 0, 1, 0, 0), (38, .getfield 22, 3, 6, 16), (41, .aload_n 0, 1, 0, 0), (42, .getfield 196, 3, 6, 15), (45, .aload_n 0, 1, 0, 0), (46, .getfield 148, 3, 6, 4)]) (pc1 := 49) (lv1 := [(0, .ref 7)]) (st1 := [.int (g6.1 27), .int (g6.1 35), .ref 36]) (h1 := hO R g6) (by decide +kernel) rfl ?_
        obtain ⟨c11, h⟩ := m_ifn_inv h
        refine m_go1 (q := (49, .iastore, 1, 0, 0)) (pc1 := 50) (lv1 := [(0, .ref 7)]) (st1 := []) (h1 := hO R (gS g6 36 (upd (g6.2.1 36) (Int32.toNatClampNeg (g6.1 35)) (g6.1 27)))) (by decide +kernel) (if_neg c11) ?_
        refine m_go (L := [(50, .aload_n 0, 1, 0, 0), (51, .getfield 25, 3, 6, 17), (54, .aload_n 0, 1, 0, 0), (55, .getfield 196, 3, 6, 15), (58, .aload_n 0, 1, 0, 0), (59, .getfield 133, 3, 6, 5), (62, .aload_n 0, 1, 0, 0), (63, .getfield 148, 3, 6, 4), (66, .isub, 1, 0, 0)]) (pc1 := 67) (lv1 := [(0, .ref 7)]) (st1 := [.int ((g6.1 28) - (g6.1 27)), .int (g6.1 35), .ref 37]) (h1 := hO R (gS g6 36 (upd (g6.2.1 36) (Int32.toNatClampNeg (g6.1 35)) (g6.1 27)))) (by decide +kernel) rfl ?_
        obtain ⟨c12, h⟩ := m_ifn_inv h
        refine m_go1 (q := (67, .iastore, 1, 0, 0)) (pc1 := 68) (lv1 := [(0, .ref 7)]) (st1 := []) (h1 := hO R (gS (gS g6 36 (upd (g6.2.1 36) (Int32.toNatClampNeg (g6.1 35)) (g6.1 27))) 37 (upd (g6.2.1 37) (Int32.toNatClampNeg (g6.1 35)) ((g6.1 28) - (g6.1 27))))) (by decide +kernel) (if_neg c12) ?_
        refine m_go (L := [(68, .aload_n 0, 1, 0, 0), (69, .getfield 28, 3, 6, 18), (72, .aload_n 0, 1, 0, 0), (73, .getfield 196, 3, 6, 15), (76, .aload_n 0, 1, 0, 0), (77, .getfield 184, 3, 6, 24)]) (pc1 := 80) (lv1 := [(0, .ref 7)]) (st1 := [.int (g6.1 37), .int (g6.1 35), .ref 38]) (h1 := hO R (gS (gS g6 36 (upd (g6.2.1 36) (Int32.toNatClampNeg (g6.1 35)) (g6.1 27))) 37 (upd (g6.2.1 37) (Int32.toNatClampNeg (g6.1 35)) ((g6.1 28) - (g6.1 27))))) (by decide +kernel) rfl ?_
        obtain ⟨c13, h⟩ := m_ifn_inv h
        refine m_go1 (q := (80, .iastore, 1, 0, 0)) (pc1 := 81) (lv1 := [(0, .ref 7)]) (st1 := []) (h1 := hO R (gS (gS (gS g6 36 (upd (g6.2.1 36) (Int32.toNatClampNeg (g6.1 35)) (g6.1 27))) 37 (upd (g6.2.1 37) (Int32.toNatClampNeg (g6.1 35)) ((g6.1 28) - (g6.1 27)))) 38 (upd (g6.2.1 38) (Int32.toNatClampNeg (g6.1 35)) (g6.1 37)))) (by decide +kernel) (if_neg c13) ?_
        refine m_go (L := [(81, .aload_n 0, 1, 0, 0), (82, .getfield 31, 3, 6, 19), (85, .aload_n 0, 1, 0, 0), (86, .getfield 196, 3, 6, 15), (89, .iconst 0, 1, 0, 0)]) (pc1 := 90) (lv1 := [(0, .ref 7)]) (st1 := [.int (0 : Int32), .int (g6.1 35), .ref 39]) (h1 := hO R (gS (gS (gS g6 36 (upd (g6.2.1 36) (Int32.toNatClampNeg (g6.1 35)) (g6.1 27))) 37 (upd (g6.2.1 37) (Int32.toNatClampNeg (g6.1 35)) ((g6.1 28) - (g6.1 27)))) 38 (upd (g6.2.1 38) (Int32.toNatClampNeg (g6.1 35)) (g6.1 37)))) (by decide +kernel) rfl ?_
        obtain ⟨c14, h⟩ := m_ifn_inv h
        refine m_go1 (q := (90, .iastore, 1, 0, 0)) (pc1 := 91) (lv1 := [(0, .ref 7)]) (st1 := []) (h1 := hO R (gS (gS (gS (gS g6 36 (upd (g6.2.1 36) (Int32.toNatClampNeg (g6.1 35)) (g6.1 27))) 37 (upd (g6.2.1 37) (Int32.toNatClampNeg (g6.1 35)) ((g6.1 28) - (g6.1 27)))) 38 (upd (g6.2.1 38) (Int32.toNatClampNeg (g6.1 35)) (g6.1 37))) 39 (upd (g6.2.1 39) (Int32.toNatClampNeg (g6.1 35)) (0 : Int32)))) (by decide +kernel) (if_neg c14) ?_
        refine m_go (L := [(91, .aload_n 0, 1, 0, 0), (92, .dup, 1, 0, 0), (93, .getfield 196, 3, 6, 15), (96, .iconst 1, 1, 0, 0), (97, .iadd, 1, 0, 0), (98, .putfield 196, 3, 6, 15), (101, .aload_n 0, 1, 0, 0), (102, .iconst 0, 1, 0, 0), (103, .putfield 202, 3, 6, 20), (106, .aload_n 0, 1, 0, 0)]) (pc1 := 107) (lv1 := [(0, .ref 7)]) (st1 := [.ref 7]) (h1 := hO R (gI (gI (gS (gS (gS (gS g6 36 (upd (g6.2.1 36) (Int32.toNatClampNeg (g6.1 35)) (g6.1 27))) 37 (upd (g6.2.1 37) (Int32.toNatClampNeg (g6.1 35)) ((g6.1 28) - (g6.1 27)))) 38 (upd (g6.2.1 38) (Int32.toNatClampNeg (g6.1 35)) (g6.1 37))) 39 (upd (g6.2.1 39) (Int32.toNatClampNeg (g6.1 35)) (0 : Int32))) 35 ((g6.1 35) + (1 : Int32))) 36 (0 : Int32))) (by decide +kernel) rfl ?_
        rcases m_cv_inv h with ⟨g15, e17, h⟩ | ⟨y18, g15, e17, rfl, rfl⟩
        · refine m_ca (q := (107, .invokevirtual 187, 3, 92, 0)) (a := 92) (vs := [.ref 7]) (st := []) (d1 := 3) (by decide +kernel) rfl rfl rfl rfl (by decide) (Fr92 e17) ?_
          show m_Run X _ _ 133 110 [(0, .ref 7)] [] (hO R g15) _ _
          cases h
          exact m_rv (by decide +kernel)
        · exact m_cx (q := (107, .invokevirtual 187, 3, 92, 0)) (a := 92) (vs := [.ref 7]) (st := []) (d1 := 3) (by decide +kernel) (by decide +kernel) rfl rfl rfl rfl (by decide) (Fr92 e17)
      · rw [if_neg c10] at h
        exact m_r0 _ _ _ _ _ _ _ _ _ _ (m_pick [0] rfl) (Fr133_28 h)
    · exact m_cx (q := (22, .invokevirtual 205, 3, 114, 2)) (a := 114) (vs := [.ref 7, .int (g.1 27), .int ((g.1 28) - (g.1 27))]) (st := []) (d1 := 1) (by decide +kernel) (by decide +kernel) rfl rfl rfl rfl (by decide) (Fr114 e8)
def f112_5 (n : Nat) : Nat → Int32 → Int32 → Int32 → Int32 → mG → mZ
  | 0, _, _, _, _, _ => none
  | c + 1, x1, x2, x3, x4, g => if (g.1 36) ≤ x4 then some (.inl (some (.int x3)), g) else if x4 < 0 ∨ 8 ≤ Int32.toNatClampNeg x4 then none else if ¬ ((g.2.1 41) (Int32.toNatClampNeg x4)) = x2 then f112_5 n c x1 x2 x3 (x4 + (1 : Int32)) g else if x4 < 0 ∨ 8 ≤ Int32.toNatClampNeg x4 then none else m_ci (f113 n ((g.2.1 40) (Int32.toNatClampNeg x4)) x1 x2 g) (fun v6 g5 => if v6 = 0 then f112_5 n c x1 x2 x3 (x4 + (1 : Int32)) g5 else f112_5 n c x1 x2 x4 (x4 + (1 : Int32)) g5)
set_option maxRecDepth 20000 in
theorem Fr112_5 {R : Nat} : ∀ (c : Nat) (x1 : Int32) (x2 : Int32) (x3 : Int32) (x4 : Int32) (g g' : mG) (o : mO), f112_5 n c x1 x2 x3 x4 g = some (o, g') → m_Run X (1) (m_ko o) 112 5 [(0, .ref 7), (1, .int x1), (2, .int x2), (3, .int x3), (4, .int x4)] [] (hO R g) o (hO R g') := by
  intro c
  induction c with
  | zero => intro x1 x2 x3 x4 g g' o h; rw [f112_5] at h; cases h
  | succ c ih =>
    intro x1 x2 x3 x4 g g' o h
    rw [f112_5] at h
    refine m_gob (c := (g.1 36) ≤ x4) (t := 54) (f := 14) (L := [(5, .iload 4, 2, 0, 0), (7, .aload_n 0, 1, 0, 0), (8, .getfield 202, 3, 6, 20), (11, .if_icmp .ge 43, 3, 0, 0)]) (lv1 := [(0, .ref 7), (1, .int x1), (2, .int x2), (3, .int x3), (4, .int x4)]) (st1 := []) (h1 := hO R g) (by decide +kernel) rfl (fun c1 => ?_) (fun c1 => ?_)
    · rw [if_pos c1] at h
      refine m_go (L := [(54, .iload_n 3, 1, 0, 0)]) (pc1 := 55) (lv1 := [(0, .ref 7), (1, .int x1), (2, .int x2), (3, .int x3), (4, .int x4)]) (st1 := [.int x3]) (h1 := hO R g) (by decide +kernel) rfl ?_
      cases h
      exact m_ri (by decide +kernel)
    · rw [if_neg c1] at h
      refine m_go (L := [(14, .aload_n 0, 1, 0, 0), (15, .getfield 37, 3, 6, 22), (18, .iload 4, 2, 0, 0)]) (pc1 := 20) (lv1 := [(0, .ref 7), (1, .int x1), (2, .int x2), (3, .int x3), (4, .int x4)]) (st1 := [.int x4, .ref 41]) (h1 := hO R g) (by decide +kernel) rfl ?_
      obtain ⟨c2, h⟩ := m_ifn_inv h
      refine m_go1 (q := (20, .iaload, 1, 0, 0)) (pc1 := 21) (lv1 := [(0, .ref 7), (1, .int x1), (2, .int x2), (3, .int x3), (4, .int x4)]) (st1 := [.int ((g.2.1 41) (Int32.toNatClampNeg x4))]) (h1 := hO R g) (by decide +kernel) (if_neg c2) ?_
      refine m_gob (c := ¬ ((g.2.1 41) (Int32.toNatClampNeg x4)) = x2) (t := 46) (f := 25) (L := [(21, .iload_n 2, 1, 0, 0), (22, .if_icmp .ne 24, 3, 0, 0)]) (lv1 := [(0, .ref 7), (1, .int x1), (2, .int x2), (3, .int x3), (4, .int x4)]) (st1 := []) (h1 := hO R g) (by decide +kernel) rfl (fun c3 => ?_) (fun c3 => ?_)
      · rw [if_pos c3] at h
        refine m_go (L := [(46, .iload_n 3, 1, 0, 0), (47, .istore_n 3, 1, 0, 0), (48, .iinc 4 1, 3, 0, 0), (51, .goto (-46), 3, 0, 0)]) (pc1 := 5) (lv1 := [(0, .ref 7), (1, .int x1), (2, .int x2), (3, .int x3), (4, .int (x4 + (1 : Int32)))]) (st1 := []) (h1 := hO R g) (by decide +kernel) rfl ?_
        exact m_r0 _ _ _ _ _ _ _ _ _ _ (m_pick [0, 1, 2, 3, 4] rfl) (ih _ _ _ _ _ _ _ h)
      · rw [if_neg c3] at h
        refine m_go (L := [(25, .aload_n 0, 1, 0, 0), (26, .aload_n 0, 1, 0, 0), (27, .getfield 34, 3, 6, 21), (30, .iload 4, 2, 0, 0)]) (pc1 := 32) (lv1 := [(0, .ref 7), (1, .int x1), (2, .int x2), (3, .int x3), (4, .int x4)]) (st1 := [.int x4, .ref 40, .ref 7]) (h1 := hO R g) (by decide +kernel) rfl ?_
        obtain ⟨c4, h⟩ := m_ifn_inv h
        refine m_go1 (q := (32, .iaload, 1, 0, 0)) (pc1 := 33) (lv1 := [(0, .ref 7), (1, .int x1), (2, .int x2), (3, .int x3), (4, .int x4)]) (st1 := [.int ((g.2.1 40) (Int32.toNatClampNeg x4)), .ref 7]) (h1 := hO R g) (by decide +kernel) (if_neg c4) ?_
        refine m_go (L := [(33, .iload_n 1, 1, 0, 0), (34, .iload_n 2, 1, 0, 0)]) (pc1 := 35) (lv1 := [(0, .ref 7), (1, .int x1), (2, .int x2), (3, .int x3), (4, .int x4)]) (st1 := [.int x2, .int x1, .int ((g.2.1 40) (Int32.toNatClampNeg x4)), .ref 7]) (h1 := hO R g) (by decide +kernel) rfl ?_
        rcases m_ci_inv h with ⟨v6, g5, e7, h⟩ | ⟨y8, g5, e7, rfl, rfl⟩
        · refine m_ca (q := (35, .invokevirtual 199, 3, 113, 3)) (a := 113) (vs := [.ref 7, .int ((g.2.1 40) (Int32.toNatClampNeg x4)), .int x1, .int x2]) (st := []) (d1 := 0) (by decide +kernel) rfl rfl rfl rfl (by decide) (Fr113 e7) ?_
          show m_Run X _ _ 112 38 [(0, .ref 7), (1, .int x1), (2, .int x2), (3, .int x3), (4, .int x4)] [.int v6] (hO R g5) _ _
          refine m_gob (c := v6 = 0) (t := 46) (f := 41) (L := [(38, .ifCond .eq 8, 3, 0, 0)]) (lv1 := [(0, .ref 7), (1, .int x1), (2, .int x2), (3, .int x3), (4, .int x4)]) (st1 := []) (h1 := hO R g5) (by decide +kernel) rfl (fun c9 => ?_) (fun c9 => ?_)
          · rw [if_pos c9] at h
            refine m_go (L := [(46, .iload_n 3, 1, 0, 0), (47, .istore_n 3, 1, 0, 0), (48, .iinc 4 1, 3, 0, 0), (51, .goto (-46), 3, 0, 0)]) (pc1 := 5) (lv1 := [(0, .ref 7), (1, .int x1), (2, .int x2), (3, .int x3), (4, .int (x4 + (1 : Int32)))]) (st1 := []) (h1 := hO R g5) (by decide +kernel) rfl ?_
            exact m_r0 _ _ _ _ _ _ _ _ _ _ (m_pick [0, 1, 2, 3, 4] rfl) (ih _ _ _ _ _ _ _ h)
          · rw [if_neg c9] at h
            refine m_go (L := [(41, .iload 4, 2, 0, 0), (43, .goto 4, 3, 0, 0), (47, .istore_n 3, 1, 0, 0), (48, .iinc 4 1, 3, 0, 0), (51, .goto (-46), 3, 0, 0)]) (pc1 := 5) (lv1 := [(0, .ref 7), (1, .int x1), (2, .int x2), (3, .int x4), (4, .int (x4 + (1 : Int32)))]) (st1 := []) (h1 := hO R g5) (by decide +kernel) rfl ?_
            exact m_r0 _ _ _ _ _ _ _ _ _ _ (m_pick [0, 1, 2, 3, 4] rfl) (ih _ _ _ _ _ _ _ h)
        · exact m_cx (q := (35, .invokevirtual 199, 3, 113, 3)) (a := 113) (vs := [.ref 7, .int ((g.2.1 40) (Int32.toNatClampNeg x4)), .int x1, .int x2]) (st := []) (d1 := 0) (by decide +kernel) (by decide +kernel) rfl rfl rfl rfl (by decide) (Fr113 e7)
def f112 (n : Nat) (x1 : Int32) (x2 : Int32) (g : mG) : mZ := f112_5 n n x1 x2 (-1 : Int32) (0 : Int32) g
theorem Fr112 {R : Nat} {x1 : Int32} {x2 : Int32} {g g' : mG} {o : mO} (h : f112 n x1 x2 g = some (o, g')) : m_Run X (1) (m_ko o) 112 0 [(0, .ref 7), (1, .int x1), (2, .int x2)] [] (hO R g) o (hO R g') := by
  unfold f112 at h
  refine m_go (L := [(0, .iconst (-1), 1, 0, 0), (1, .istore_n 3, 1, 0, 0), (2, .iconst 0, 1, 0, 0), (3, .istore 4, 2, 0, 0)]) (pc1 := 5) (lv1 := [(0, .ref 7), (1, .int x1), (2, .int x2), (3, .int (-1 : Int32)), (4, .int (0 : Int32))]) (st1 := []) (h1 := hO R g) (by decide +kernel) rfl ?_
  exact m_r0 _ _ _ _ _ _ _ _ _ _ (m_pick [0, 1, 2, 3, 4] rfl) (Fr112_5 _ _ _ _ _ _ _ _ h)
def f126 (n : Nat) (x1 : Int32) (x2 : Int32) (x3 : Int32) (g : mG) : mZ := if (g.1 36) < 0 ∨ 8 ≤ Int32.toNatClampNeg (g.1 36) then none else if (g.1 36) < 0 ∨ 8 ≤ Int32.toNatClampNeg (g.1 36) then none else if (g.1 36) < 0 ∨ 8 ≤ Int32.toNatClampNeg (g.1 36) then none else some (.inl none, (gI (gS (gS (gS g 40 (upd (g.2.1 40) (Int32.toNatClampNeg (g.1 36)) x1)) 41 (upd (g.2.1 41) (Int32.toNatClampNeg (g.1 36)) x2)) 42 (upd (g.2.1 42) (Int32.toNatClampNeg (g.1 36)) x3)) 36 ((g.1 36) + (1 : Int32))))
theorem Fr126 {R : Nat} {x1 : Int32} {x2 : Int32} {x3 : Int32} {g g' : mG} {o : mO} (h : f126 n x1 x2 x3 g = some (o, g')) : m_Run X (0) (m_ko o) 126 0 [(0, .ref 7), (1, .int x1), (2, .int x2), (3, .int x3)] [] (hO R g) o (hO R g') := by
  unfold f126 at h
  refine m_go (L := [(0, .aload_n 0, 1, 0, 0), (1, .getfield 34, 3, 6, 21), (4, .aload_n 0, 1, 0, 0), (5, .getfield 202, 3, 6, 20), (8, .iload_n 1, 1, 0, 0)]) (pc1 := 9) (lv1 := [(0, .ref 7), (1, .int x1), (2, .int x2), (3, .int x3)]) (st1 := [.int x1, .int (g.1 36), .ref 40]) (h1 := hO R g) (by decide +kernel) rfl ?_
  obtain ⟨c1, h⟩ := m_ifn_inv h
  refine m_go1 (q := (9, .iastore, 1, 0, 0)) (pc1 := 10) (lv1 := [(0, .ref 7), (1, .int x1), (2, .int x2), (3, .int x3)]) (st1 := []) (h1 := hO R (gS g 40 (upd (g.2.1 40) (Int32.toNatClampNeg (g.1 36)) x1))) (by decide +kernel) (if_neg c1) ?_
  refine m_go (L := [(10, .aload_n 0, 1, 0, 0), (11, .getfield 37, 3, 6, 22), (14, .aload_n 0, 1, 0, 0), (15, .getfield 202, 3, 6, 20), (18, .iload_n 2, 1, 0, 0)]) (pc1 := 19) (lv1 := [(0, .ref 7), (1, .int x1), (2, .int x2), (3, .int x3)]) (st1 := [.int x2, .int (g.1 36), .ref 41]) (h1 := hO R (gS g 40 (upd (g.2.1 40) (Int32.toNatClampNeg (g.1 36)) x1))) (by decide +kernel) rfl ?_
  obtain ⟨c2, h⟩ := m_ifn_inv h
  refine m_go1 (q := (19, .iastore, 1, 0, 0)) (pc1 := 20) (lv1 := [(0, .ref 7), (1, .int x1), (2, .int x2), (3, .int x3)]) (st1 := []) (h1 := hO R (gS (gS g 40 (upd (g.2.1 40) (Int32.toNatClampNeg (g.1 36)) x1)) 41 (upd (g.2.1 41) (Int32.toNatClampNeg (g.1 36)) x2))) (by decide +kernel) (if_neg c2) ?_
  refine m_go (L := [(20, .aload_n 0, 1, 0, 0), (21, .getfield 40, 3, 6, 23), (24, .aload_n 0, 1, 0, 0), (25, .getfield 202, 3, 6, 20), (28, .iload_n 3, 1, 0, 0)]) (pc1 := 29) (lv1 := [(0, .ref 7), (1, .int x1), (2, .int x2), (3, .int x3)]) (st1 := [.int x3, .int (g.1 36), .ref 42]) (h1 := hO R (gS (gS g 40 (upd (g.2.1 40) (Int32.toNatClampNeg (g.1 36)) x1)) 41 (upd (g.2.1 41) (Int32.toNatClampNeg (g.1 36)) x2))) (by decide +kernel) rfl ?_
  obtain ⟨c3, h⟩ := m_ifn_inv h
  refine m_go1 (q := (29, .iastore, 1, 0, 0)) (pc1 := 30) (lv1 := [(0, .ref 7), (1, .int x1), (2, .int x2), (3, .int x3)]) (st1 := []) (h1 := hO R (gS (gS (gS g 40 (upd (g.2.1 40) (Int32.toNatClampNeg (g.1 36)) x1)) 41 (upd (g.2.1 41) (Int32.toNatClampNeg (g.1 36)) x2)) 42 (upd (g.2.1 42) (Int32.toNatClampNeg (g.1 36)) x3))) (by decide +kernel) (if_neg c3) ?_
  refine m_go (L := [(30, .aload_n 0, 1, 0, 0), (31, .dup, 1, 0, 0), (32, .getfield 202, 3, 6, 20), (35, .iconst 1, 1, 0, 0), (36, .iadd, 1, 0, 0), (37, .putfield 202, 3, 6, 20)]) (pc1 := 40) (lv1 := [(0, .ref 7), (1, .int x1), (2, .int x2), (3, .int x3)]) (st1 := []) (h1 := hO R (gI (gS (gS (gS g 40 (upd (g.2.1 40) (Int32.toNatClampNeg (g.1 36)) x1)) 41 (upd (g.2.1 41) (Int32.toNatClampNeg (g.1 36)) x2)) 42 (upd (g.2.1 42) (Int32.toNatClampNeg (g.1 36)) x3)) 36 ((g.1 36) + (1 : Int32)))) (by decide +kernel) rfl ?_
  cases h
  exact m_rv (by decide +kernel)
def f134_28 (n : Nat) (g : mG) : mZ := m_cv (f103 n (g.1 27) g) (fun g2 => some (.inl none, g2))
theorem Fr134_28 {R : Nat} {g g' : mG} {o : mO} (h : f134_28 n g = some (o, g')) : m_Run X (4) (m_ko o) 134 28 [(0, .ref 7)] [] (hO R g) o (hO R g') := by
  unfold f134_28 at h
  refine m_go (L := [(28, .aload_n 0, 1, 0, 0), (29, .aload_n 0, 1, 0, 0), (30, .getfield 148, 3, 6, 4)]) (pc1 := 33) (lv1 := [(0, .ref 7)]) (st1 := [.int (g.1 27), .ref 7]) (h1 := hO R g) (by decide +kernel) rfl ?_
  rcases m_cv_inv h with ⟨g2, e4, h⟩ | ⟨y5, g2, e4, rfl, rfl⟩
  · refine m_ca (q := (33, .invokevirtual 190, 3, 103, 1)) (a := 103) (vs := [.ref 7, .int (g.1 27)]) (st := []) (d1 := 0) (by decide +kernel) rfl rfl rfl rfl (by decide) (Fr103 e4) ?_
    show m_Run X _ _ 134 36 [(0, .ref 7)] [] (hO R g2) _ _
    cases h
    exact m_rv (by decide +kernel)
  · exact m_cx (q := (33, .invokevirtual 190, 3, 103, 1)) (a := 103) (vs := [.ref 7, .int (g.1 27)]) (st := []) (d1 := 0) (by decide +kernel) (by decide +kernel) rfl rfl rfl rfl (by decide) (Fr103 e4)
def f134 (n : Nat) (g : mG) : mZ := if ¬ (g.1 26) = (1 : Int32) then f134_28 n g else m_ci (f112 n (g.1 27) ((g.1 28) - (g.1 27)) g) (fun v7 g6 => if v7 < 0 then m_cv (f126 n (g6.1 27) ((g6.1 28) - (g6.1 27)) (1 : Int32) g6) (fun g11 => if ((g11.1 35) - (1 : Int32)) < 0 ∨ 9 ≤ Int32.toNatClampNeg ((g11.1 35) - (1 : Int32)) then none else if ((g11.1 35) - (1 : Int32)) < 0 ∨ 9 ≤ Int32.toNatClampNeg ((g11.1 35) - (1 : Int32)) then none else m_cv (f92 n (gS g11 39 (upd (g11.2.1 39) (Int32.toNatClampNeg ((g11.1 35) - (1 : Int32))) (((g11.2.1 39) (Int32.toNatClampNeg ((g11.1 35) - (1 : Int32)))) + (1 : Int32))))) (fun g17 => some (.inl none, g17))) else f134_28 n g6)
theorem Fr134 {R : Nat} {g g' : mG} {o : mO} (h : f134 n g = some (o, g')) : m_Run X (4) (m_ko o) 134 0 [(0, .ref 7)] [] (hO R g) o (hO R g') := by
  unfold f134 at h
  refine m_gob (c := ¬ (g.1 26) = (1 : Int32)) (t := 28) (f := 8) (L := [(0, .aload_n 0, 1, 0, 0), (1, .getfield 142, 3, 6, 3), (4, .iconst 1, 1, 0, 0), (5, .if_icmp .ne 23, 3, 0, 0)]) (lv1 := [(0, .ref 7)]) (st1 := []) (h1 := hO R g) (by decide +kernel) rfl (fun c1 => ?_) (fun c1 => ?_)
  · rw [if_pos c1] at h
    exact m_r0 _ _ _ _ _ _ _ _ _ _ (m_pick [0] rfl) (Fr134_28 h)
  · rw [if_neg c1] at h
    refine m_go (L := [(8, .aload_n 0, 1, 0, 0), (9, .aload_n 0, 1, 0, 0), (10, .getfield 148, 3, 6, 4), (13, .aload_n 0, 1, 0, 0), (14, .getfield 133, 3, 6, 5), (17, .aload_n 0, 1, 0, 0), (18, .getfield 148, 3, 6, 4), (21, .isub, 1, 0, 0)]) (pc1 := 22) (lv1 := [(0, .ref 7)]) (st1 := [.int ((g.1 28) - (g.1 27)), .int (g.1 27), .ref 7]) (h1 := hO R g) (by decide +kernel) rfl ?_
    rcases m_ci_inv h with ⟨v7, g6, e8, h⟩ | ⟨y9, g6, e8, rfl, rfl⟩
    · refine m_ca (q := (22, .invokevirtual 208, 3, 112, 2)) (a := 112) (vs := [.ref 7, .int (g.1 27), .int ((g.1 28) - (g.1 27))]) (st := []) (d1 := 1) (by decide +kernel) rfl rfl rfl rfl (by decide) (Fr112 e8) ?_
      show m_Run X _ _ 134 25 [(0, .ref 7)] [.int v7] (hO R g6) _ _
      refine m_gob (c := v7 < 0) (t := 37) (f := 28) (L := [(25, .ifCond .lt 12, 3, 0, 0)]) (lv1 := [(0, .ref 7)]) (st1 := []) (h1 := hO R g6) (by decide +kernel) rfl (fun c10 => ?_) (fun c10 => ?_)
      · rw [if_pos c10] at h
        refine m_go (L := [(37, .aload_n 0, 1, 0, 0), (38, .aload_n 0, 1, 0, 0), (39, .getfield 148, 3, 6, 4), (42, .aload_n 0, 1, 0, 0), (43, .getfield 133, 3, 6, 5), (46, .aload_n 0, 1, 0, 0), (47, .getfield 148, 3, 6, 4), (50, .isub, 1, 0, 0), (51, .iconst 1, 1, 0, 0)]) (pc1 := 52) (lv1 := [(0, .ref 7)]) (st1 := [.int (1 : Int32), .int ((g6.1 28) - (g6.1 27)), .int (g6.1 27), .ref 7]) (h1 := hO R g6) (by decide +kernel) rfl ?_
        rcases m_cv_inv h with ⟨g11, e13, h⟩ | ⟨y14, g11, e13, rfl, rfl⟩
        · refine m_ca (q := (52, .invokevirtual 211, 3, 126, 3)) (a := 126) (vs := [.ref 7, .int (g6.1 27), .int ((g6.1 28) - (g6.1 27)), .int (1 : Int32)]) (st := []) (d1 := 0) (by decide +kernel) rfl rfl rfl rfl (by decide) (Fr126 e13) ?_
          show m_Run X _ _ 134 55 [(0, .ref 7)] [] (hO R g11) _ _
          refine m_go (L := [(55, .aload_n 0, 1, 0, 0), (56, .getfield 31, 3, 6, 19), (59, .aload_n 0, 1, 0, 0), (60, .getfield 196, 3, 6, 15), (63, .iconst 1, 1, 0, 0), (64, .isub, 1, 0, 0), (65, .dup2, 1, 0, 0)]) (pc1 := 66) (lv1 := [(0, .ref 7)]) (st1 := [.int ((g11.1 35) - (1 : Int32)), .ref 39, .int ((g11.1 35) - (1 : Int32)), .ref 39]) (h1 := hO R g11) (by decide +kernel) rfl ?_
          obtain ⟨c15, h⟩ := m_ifn_inv h
          refine m_go1 (q := (66, .iaload, 1, 0, 0)) (pc1 := 67) (lv1 := [(0, .ref 7)]) (st1 := [.int ((g11.2.1 39) (Int32.toNatClampNeg ((g11.1 35) - (1 : Int32)))), .int ((g11.1 35) - (1 : Int32)), .ref 39]) (h1 := hO R g11) (by decide +kernel) (if_neg c15) ?_
          refine m_go (L := [(67, .iconst 1, 1, 0, 0), (68, .iadd, 1, 0, 0)]) (pc1 := 69) (lv1 := [(0, .ref 7)]) (st1 := [.int (((g11.2.1 39) (Int32.toNatClampNeg ((g11.1 35) - (1 : Int32)))) + (1 : Int32)), .int ((g11.1 35) - (1 : Int32)), .ref 39]) (h1 := hO R g11) (by decide +kernel) rfl ?_
          obtain ⟨c16, h⟩ := m_ifn_inv h
          refine m_go1 (q := (69, .iastore, 1, 0, 0)) (pc1 := 70) (lv1 := [(0, .ref 7)]) (st1 := []) (h1 := hO R (gS g11 39 (upd (g11.2.1 39) (Int32.toNatClampNeg ((g11.1 35) - (1 : Int32))) (((g11.2.1 39) (Int32.toNatClampNeg ((g11.1 35) - (1 : Int32)))) + (1 : Int32))))) (by decide +kernel) (if_neg c16) ?_
          refine m_go (L := [(70, .aload_n 0, 1, 0, 0)]) (pc1 := 71) (lv1 := [(0, .ref 7)]) (st1 := [.ref 7]) (h1 := hO R (gS g11 39 (upd (g11.2.1 39) (Int32.toNatClampNeg ((g11.1 35) - (1 : Int32))) (((g11.2.1 39) (Int32.toNatClampNeg ((g11.1 35) - (1 : Int32)))) + (1 : Int32))))) (by decide +kernel) rfl ?_
          rcases m_cv_inv h with ⟨g17, e19, h⟩ | ⟨y20, g17, e19, rfl, rfl⟩
          · refine m_ca (q := (71, .invokevirtual 187, 3, 92, 0)) (a := 92) (vs := [.ref 7]) (st := []) (d1 := 3) (by decide +kernel) rfl rfl rfl rfl (by decide) (Fr92 e19) ?_
            show m_Run X _ _ 134 74 [(0, .ref 7)] [] (hO R g17) _ _
            cases h
            exact m_rv (by decide +kernel)
          · exact m_cx (q := (71, .invokevirtual 187, 3, 92, 0)) (a := 92) (vs := [.ref 7]) (st := []) (d1 := 3) (by decide +kernel) (by decide +kernel) rfl rfl rfl rfl (by decide) (Fr92 e19)
        · exact m_cx (q := (52, .invokevirtual 211, 3, 126, 3)) (a := 126) (vs := [.ref 7, .int (g6.1 27), .int ((g6.1 28) - (g6.1 27)), .int (1 : Int32)]) (st := []) (d1 := 0) (by decide +kernel) (by decide +kernel) rfl rfl rfl rfl (by decide) (Fr126 e13)
      · rw [if_neg c10] at h
        exact m_r0 _ _ _ _ _ _ _ _ _ _ (m_pick [0] rfl) (Fr134_28 h)
    · exact m_cx (q := (22, .invokevirtual 208, 3, 112, 2)) (a := 112) (vs := [.ref 7, .int (g.1 27), .int ((g.1 28) - (g.1 27))]) (st := []) (d1 := 1) (by decide +kernel) (by decide +kernel) rfl rfl rfl rfl (by decide) (Fr112 e8)
def f135_25 (n : Nat) (g : mG) : mZ := if (g.1 26) = 1 then m_cv (f108 n (55 : Int32) (10 : Int32) (0 : Int32) (0 : Int32) g) (fun g3 => m_cv (f108 n (56 : Int32) (11 : Int32) (60 : Int32) (0 : Int32) g3) (fun g7 => some (.inl none, g7))) else if (g.1 26) = 25 then m_cv (f108 n (60 : Int32) (53 : Int32) (10 : Int32) (0 : Int32) g) (fun g12 => m_cv (f108 n (25 : Int32) (54 : Int32) (11 : Int32) (0 : Int32) g12) (fun g16 => some (.inl none, g16))) else if (g.1 26) = 26 then m_cv (f108 n (60 : Int32) (57 : Int32) (10 : Int32) (0 : Int32) g) (fun g21 => m_cv (f108 n (58 : Int32) (308 : Int32) (11 : Int32) (0 : Int32) g21) (fun g25 => m_cv (f108 n (26 : Int32) (207 : Int32) (60 : Int32) (0 : Int32) g25) (fun g29 => some (.inl none, g29)))) else if (g.1 26) = 28 then m_cv (f108 n (48 : Int32) (59 : Int32) (0 : Int32) (0 : Int32) g) (fun g34 => m_cv (f108 n (28 : Int32) (60 : Int32) (61 : Int32) (0 : Int32) g34) (fun g38 => some (.inl none, g38))) else if (g.1 26) = 30 then m_cv (f107 n (g.1 37) g) (fun g43 => m_cv (f108 n (48 : Int32) (62 : Int32) (0 : Int32) (0 : Int32) g43) (fun g47 => m_cv (f108 n (30 : Int32) (60 : Int32) (63 : Int32) (0 : Int32) g47) (fun g51 => some (.inl none, g51)))) else if (g.1 26) = 31 then m_cv (f108 n (31 : Int32) (60 : Int32) (64 : Int32) (10 : Int32) g) (fun g56 => some (.inl none, g56)) else m_cv (f108 n (32 : Int32) (60 : Int32) (65 : Int32) (10 : Int32) g) (fun g60 => some (.inl none, g60))
theorem Fr135_25 {R : Nat} {g g' : mG} {o : mO} (h : f135_25 n g = some (o, g')) : m_Run X (2) (m_ko o) 135 25 [(0, .ref 7)] [] (hO R g) o (hO R g') := by
  unfold f135_25 at h
  refine m_go (L := [(25, .aload_n 0, 1, 0, 0), (26, .getfield 142, 3, 6, 3)]) (pc1 := 29) (lv1 := [(0, .ref 7)]) (st1 := [.int (g.1 26)]) (h1 := hO R g) (by decide +kernel) rfl ?_
  by_cases c2 : (g.1 26) = 1
  · rw [if_pos c2] at h
    refine m_go1 (q := (29, .lookupswitch 217 #[(1, 84), (25, 59), (26, 108), (28, 146), (30, 170), (31, 202)], 59, 0, 0)) (pc1 := 113) (lv1 := [(0, .ref 7)]) (st1 := []) (h1 := hO R g) (by decide +kernel) (m_swx (fun z => m_loc m_ft X (.lookupswitch 217 #[(1, 84), (25, 59), (26, 108), (28, 146), (30, 170), (31, 202)]) 0 0 29 [(0, .ref 7)] (.int z :: []) (hO R g)) c2 rfl) ?_
    refine m_go (L := [(113, .aload_n 0, 1, 0, 0), (114, .bipush 55, 2, 0, 0), (116, .bipush 10, 2, 0, 0), (118, .iconst 0, 1, 0, 0), (119, .iconst 0, 1, 0, 0)]) (pc1 := 120) (lv1 := [(0, .ref 7)]) (st1 := [.int (0 : Int32), .int (0 : Int32), .int (10 : Int32), .int (55 : Int32), .ref 7]) (h1 := hO R g) (by decide +kernel) rfl ?_
    rcases m_cv_inv h with ⟨g3, e5, h⟩ | ⟨y6, g3, e5, rfl, rfl⟩
    · refine m_ca (q := (120, .invokevirtual 217, 3, 108, 4)) (a := 108) (vs := [.ref 7, .int (55 : Int32), .int (10 : Int32), .int (0 : Int32), .int (0 : Int32)]) (st := []) (d1 := 1) (by decide +kernel) rfl rfl rfl rfl (by decide) (Fr108 e5) ?_
      show m_Run X _ _ 135 123 [(0, .ref 7)] [] (hO R g3) _ _
      refine m_go (L := [(123, .aload_n 0, 1, 0, 0), (124, .bipush 56, 2, 0, 0), (126, .bipush 11, 2, 0, 0), (128, .bipush 60, 2, 0, 0), (130, .iconst 0, 1, 0, 0)]) (pc1 := 131) (lv1 := [(0, .ref 7)]) (st1 := [.int (0 : Int32), .int (60 : Int32), .int (11 : Int32), .int (56 : Int32), .ref 7]) (h1 := hO R g3) (by decide +kernel) rfl ?_
      rcases m_cv_inv h with ⟨g7, e9, h⟩ | ⟨y10, g7, e9, rfl, rfl⟩
      · refine m_ca (q := (131, .invokevirtual 217, 3, 108, 4)) (a := 108) (vs := [.ref 7, .int (56 : Int32), .int (11 : Int32), .int (60 : Int32), .int (0 : Int32)]) (st := []) (d1 := 1) (by decide +kernel) rfl rfl rfl rfl (by decide) (Fr108 e9) ?_
        show m_Run X _ _ 135 134 [(0, .ref 7)] [] (hO R g7) _ _
        refine m_go (L := [(134, .goto 124, 3, 0, 0)]) (pc1 := 258) (lv1 := [(0, .ref 7)]) (st1 := []) (h1 := hO R g7) (by decide +kernel) rfl ?_
        cases h
        exact m_rv (by decide +kernel)
      · exact m_cx (q := (131, .invokevirtual 217, 3, 108, 4)) (a := 108) (vs := [.ref 7, .int (56 : Int32), .int (11 : Int32), .int (60 : Int32), .int (0 : Int32)]) (st := []) (d1 := 1) (by decide +kernel) (by decide +kernel) rfl rfl rfl rfl (by decide) (Fr108 e9)
    · exact m_cx (q := (120, .invokevirtual 217, 3, 108, 4)) (a := 108) (vs := [.ref 7, .int (55 : Int32), .int (10 : Int32), .int (0 : Int32), .int (0 : Int32)]) (st := []) (d1 := 1) (by decide +kernel) (by decide +kernel) rfl rfl rfl rfl (by decide) (Fr108 e5)
  · rw [if_neg c2] at h
    by_cases c11 : (g.1 26) = 25
    · rw [if_pos c11] at h
      refine m_go1 (q := (29, .lookupswitch 217 #[(1, 84), (25, 59), (26, 108), (28, 146), (30, 170), (31, 202)], 59, 0, 0)) (pc1 := 88) (lv1 := [(0, .ref 7)]) (st1 := []) (h1 := hO R g) (by decide +kernel) (m_swx (fun z => m_loc m_ft X (.lookupswitch 217 #[(1, 84), (25, 59), (26, 108), (28, 146), (30, 170), (31, 202)]) 0 0 29 [(0, .ref 7)] (.int z :: []) (hO R g)) c11 rfl) ?_
      refine m_go (L := [(88, .aload_n 0, 1, 0, 0), (89, .bipush 60, 2, 0, 0), (91, .bipush 53, 2, 0, 0), (93, .bipush 10, 2, 0, 0), (95, .iconst 0, 1, 0, 0)]) (pc1 := 96) (lv1 := [(0, .ref 7)]) (st1 := [.int (0 : Int32), .int (10 : Int32), .int (53 : Int32), .int (60 : Int32), .ref 7]) (h1 := hO R g) (by decide +kernel) rfl ?_
      rcases m_cv_inv h with ⟨g12, e14, h⟩ | ⟨y15, g12, e14, rfl, rfl⟩
      · refine m_ca (q := (96, .invokevirtual 217, 3, 108, 4)) (a := 108) (vs := [.ref 7, .int (60 : Int32), .int (53 : Int32), .int (10 : Int32), .int (0 : Int32)]) (st := []) (d1 := 1) (by decide +kernel) rfl rfl rfl rfl (by decide) (Fr108 e14) ?_
        show m_Run X _ _ 135 99 [(0, .ref 7)] [] (hO R g12) _ _
        refine m_go (L := [(99, .aload_n 0, 1, 0, 0), (100, .bipush 25, 2, 0, 0), (102, .bipush 54, 2, 0, 0), (104, .bipush 11, 2, 0, 0), (106, .iconst 0, 1, 0, 0)]) (pc1 := 107) (lv1 := [(0, .ref 7)]) (st1 := [.int (0 : Int32), .int (11 : Int32), .int (54 : Int32), .int (25 : Int32), .ref 7]) (h1 := hO R g12) (by decide +kernel) rfl ?_
        rcases m_cv_inv h with ⟨g16, e18, h⟩ | ⟨y19, g16, e18, rfl, rfl⟩
        · refine m_ca (q := (107, .invokevirtual 217, 3, 108, 4)) (a := 108) (vs := [.ref 7, .int (25 : Int32), .int (54 : Int32), .int (11 : Int32), .int (0 : Int32)]) (st := []) (d1 := 1) (by decide +kernel) rfl rfl rfl rfl (by decide) (Fr108 e18) ?_
          show m_Run X _ _ 135 110 [(0, .ref 7)] [] (hO R g16) _ _
          refine m_go (L := [(110, .goto 148, 3, 0, 0)]) (pc1 := 258) (lv1 := [(0, .ref 7)]) (st1 := []) (h1 := hO R g16) (by decide +kernel) rfl ?_
          cases h
          exact m_rv (by decide +kernel)
        · exact m_cx (q := (107, .invokevirtual 217, 3, 108, 4)) (a := 108) (vs := [.ref 7, .int (25 : Int32), .int (54 : Int32), .int (11 : Int32), .int (0 : Int32)]) (st := []) (d1 := 1) (by decide +kernel) (by decide +kernel) rfl rfl rfl rfl (by decide) (Fr108 e18)
      · exact m_cx (q := (96, .invokevirtual 217, 3, 108, 4)) (a := 108) (vs := [.ref 7, .int (60 : Int32), .int (53 : Int32), .int (10 : Int32), .int (0 : Int32)]) (st := []) (d1 := 1) (by decide +kernel) (by decide +kernel) rfl rfl rfl rfl (by decide) (Fr108 e14)
    · rw [if_neg c11] at h
      by_cases c20 : (g.1 26) = 26
      · rw [if_pos c20] at h
        refine m_go1 (q := (29, .lookupswitch 217 #[(1, 84), (25, 59), (26, 108), (28, 146), (30, 170), (31, 202)], 59, 0, 0)) (pc1 := 137) (lv1 := [(0, .ref 7)]) (st1 := []) (h1 := hO R g) (by decide +kernel) (m_swx (fun z => m_loc m_ft X (.lookupswitch 217 #[(1, 84), (25, 59), (26, 108), (28, 146), (30, 170), (31, 202)]) 0 0 29 [(0, .ref 7)] (.int z :: []) (hO R g)) c20 rfl) ?_
        refine m_go (L := [(137, .aload_n 0, 1, 0, 0), (138, .bipush 60, 2, 0, 0), (140, .bipush 57, 2, 0, 0), (142, .bipush 10, 2, 0, 0), (144, .iconst 0, 1, 0, 0)]) (pc1 := 145) (lv1 := [(0, .ref 7)]) (st1 := [.int (0 : Int32), .int (10 : Int32), .int (57 : Int32), .int (60 : Int32), .ref 7]) (h1 := hO R g) (by decide +kernel) rfl ?_
        rcases m_cv_inv h with ⟨g21, e23, h⟩ | ⟨y24, g21, e23, rfl, rfl⟩
        · refine m_ca (q := (145, .invokevirtual 217, 3, 108, 4)) (a := 108) (vs := [.ref 7, .int (60 : Int32), .int (57 : Int32), .int (10 : Int32), .int (0 : Int32)]) (st := []) (d1 := 1) (by decide +kernel) rfl rfl rfl rfl (by decide) (Fr108 e23) ?_
          show m_Run X _ _ 135 148 [(0, .ref 7)] [] (hO R g21) _ _
          refine m_go (L := [(148, .aload_n 0, 1, 0, 0), (149, .bipush 58, 2, 0, 0), (151, .sipush 308, 3, 0, 0), (154, .bipush 11, 2, 0, 0), (156, .iconst 0, 1, 0, 0)]) (pc1 := 157) (lv1 := [(0, .ref 7)]) (st1 := [.int (0 : Int32), .int (11 : Int32), .int (308 : Int32), .int (58 : Int32), .ref 7]) (h1 := hO R g21) (by decide +kernel) rfl ?_
          rcases m_cv_inv h with ⟨g25, e27, h⟩ | ⟨y28, g25, e27, rfl, rfl⟩
          · refine m_ca (q := (157, .invokevirtual 217, 3, 108, 4)) (a := 108) (vs := [.ref 7, .int (58 : Int32), .int (308 : Int32), .int (11 : Int32), .int (0 : Int32)]) (st := []) (d1 := 1) (by decide +kernel) rfl rfl rfl rfl (by decide) (Fr108 e27) ?_
            show m_Run X _ _ 135 160 [(0, .ref 7)] [] (hO R g25) _ _
            refine m_go (L := [(160, .aload_n 0, 1, 0, 0), (161, .bipush 26, 2, 0, 0), (163, .sipush 207, 3, 0, 0), (166, .bipush 60, 2, 0, 0), (168, .iconst 0, 1, 0, 0)]) (pc1 := 169) (lv1 := [(0, .ref 7)]) (st1 := [.int (0 : Int32), .int (60 : Int32), .int (207 : Int32), .int (26 : Int32), .ref 7]) (h1 := hO R g25) (by decide +kernel) rfl ?_
            rcases m_cv_inv h with ⟨g29, e31, h⟩ | ⟨y32, g29, e31, rfl, rfl⟩
            · refine m_ca (q := (169, .invokevirtual 217, 3, 108, 4)) (a := 108) (vs := [.ref 7, .int (26 : Int32), .int (207 : Int32), .int (60 : Int32), .int (0 : Int32)]) (st := []) (d1 := 1) (by decide +kernel) rfl rfl rfl rfl (by decide) (Fr108 e31) ?_
              show m_Run X _ _ 135 172 [(0, .ref 7)] [] (hO R g29) _ _
              refine m_go (L := [(172, .goto 86, 3, 0, 0)]) (pc1 := 258) (lv1 := [(0, .ref 7)]) (st1 := []) (h1 := hO R g29) (by decide +kernel) rfl ?_
              cases h
              exact m_rv (by decide +kernel)
            · exact m_cx (q := (169, .invokevirtual 217, 3, 108, 4)) (a := 108) (vs := [.ref 7, .int (26 : Int32), .int (207 : Int32), .int (60 : Int32), .int (0 : Int32)]) (st := []) (d1 := 1) (by decide +kernel) (by decide +kernel) rfl rfl rfl rfl (by decide) (Fr108 e31)
          · exact m_cx (q := (157, .invokevirtual 217, 3, 108, 4)) (a := 108) (vs := [.ref 7, .int (58 : Int32), .int (308 : Int32), .int (11 : Int32), .int (0 : Int32)]) (st := []) (d1 := 1) (by decide +kernel) (by decide +kernel) rfl rfl rfl rfl (by decide) (Fr108 e27)
        · exact m_cx (q := (145, .invokevirtual 217, 3, 108, 4)) (a := 108) (vs := [.ref 7, .int (60 : Int32), .int (57 : Int32), .int (10 : Int32), .int (0 : Int32)]) (st := []) (d1 := 1) (by decide +kernel) (by decide +kernel) rfl rfl rfl rfl (by decide) (Fr108 e23)
      · rw [if_neg c20] at h
        by_cases c33 : (g.1 26) = 28
        · rw [if_pos c33] at h
          refine m_go1 (q := (29, .lookupswitch 217 #[(1, 84), (25, 59), (26, 108), (28, 146), (30, 170), (31, 202)], 59, 0, 0)) (pc1 := 175) (lv1 := [(0, .ref 7)]) (st1 := []) (h1 := hO R g) (by decide +kernel) (m_swx (fun z => m_loc m_ft X (.lookupswitch 217 #[(1, 84), (25, 59), (26, 108), (28, 146), (30, 170), (31, 202)]) 0 0 29 [(0, .ref 7)] (.int z :: []) (hO R g)) c33 rfl) ?_
          refine m_go (L := [(175, .aload_n 0, 1, 0, 0), (176, .bipush 48, 2, 0, 0), (178, .bipush 59, 2, 0, 0), (180, .iconst 0, 1, 0, 0), (181, .iconst 0, 1, 0, 0)]) (pc1 := 182) (lv1 := [(0, .ref 7)]) (st1 := [.int (0 : Int32), .int (0 : Int32), .int (59 : Int32), .int (48 : Int32), .ref 7]) (h1 := hO R g) (by decide +kernel) rfl ?_
          rcases m_cv_inv h with ⟨g34, e36, h⟩ | ⟨y37, g34, e36, rfl, rfl⟩
          · refine m_ca (q := (182, .invokevirtual 217, 3, 108, 4)) (a := 108) (vs := [.ref 7, .int (48 : Int32), .int (59 : Int32), .int (0 : Int32), .int (0 : Int32)]) (st := []) (d1 := 1) (by decide +kernel) rfl rfl rfl rfl (by decide) (Fr108 e36) ?_
            show m_Run X _ _ 135 185 [(0, .ref 7)] [] (hO R g34) _ _
            refine m_go (L := [(185, .aload_n 0, 1, 0, 0), (186, .bipush 28, 2, 0, 0), (188, .bipush 60, 2, 0, 0), (190, .bipush 61, 2, 0, 0), (192, .iconst 0, 1, 0, 0)]) (pc1 := 193) (lv1 := [(0, .ref 7)]) (st1 := [.int (0 : Int32), .int (61 : Int32), .int (60 : Int32), .int (28 : Int32), .ref 7]) (h1 := hO R g34) (by decide +kernel) rfl ?_
            rcases m_cv_inv h with ⟨g38, e40, h⟩ | ⟨y41, g38, e40, rfl, rfl⟩
            · refine m_ca (q := (193, .invokevirtual 217, 3, 108, 4)) (a := 108) (vs := [.ref 7, .int (28 : Int32), .int (60 : Int32), .int (61 : Int32), .int (0 : Int32)]) (st := []) (d1 := 1) (by decide +kernel) rfl rfl rfl rfl (by decide) (Fr108 e40) ?_
              show m_Run X _ _ 135 196 [(0, .ref 7)] [] (hO R g38) _ _
              refine m_go (L := [(196, .goto 62, 3, 0, 0)]) (pc1 := 258) (lv1 := [(0, .ref 7)]) (st1 := []) (h1 := hO R g38) (by decide +kernel) rfl ?_
              cases h
              exact m_rv (by decide +kernel)
            · exact m_cx (q := (193, .invokevirtual 217, 3, 108, 4)) (a := 108) (vs := [.ref 7, .int (28 : Int32), .int (60 : Int32), .int (61 : Int32), .int (0 : Int32)]) (st := []) (d1 := 1) (by decide +kernel) (by decide +kernel) rfl rfl rfl rfl (by decide) (Fr108 e40)
          · exact m_cx (q := (182, .invokevirtual 217, 3, 108, 4)) (a := 108) (vs := [.ref 7, .int (48 : Int32), .int (59 : Int32), .int (0 : Int32), .int (0 : Int32)]) (st := []) (d1 := 1) (by decide +kernel) (by decide +kernel) rfl rfl rfl rfl (by decide) (Fr108 e36)
        · rw [if_neg c33] at h
          by_cases c42 : (g.1 26) = 30
          · rw [if_pos c42] at h
            refine m_go1 (q := (29, .lookupswitch 217 #[(1, 84), (25, 59), (26, 108), (28, 146), (30, 170), (31, 202)], 59, 0, 0)) (pc1 := 199) (lv1 := [(0, .ref 7)]) (st1 := []) (h1 := hO R g) (by decide +kernel) (m_swx (fun z => m_loc m_ft X (.lookupswitch 217 #[(1, 84), (25, 59), (26, 108), (28, 146), (30, 170), (31, 202)]) 0 0 29 [(0, .ref 7)] (.int z :: []) (hO R g)) c42 rfl) ?_
            refine m_go (L := [(199, .aload_n 0, 1, 0, 0), (200, .aload_n 0, 1, 0, 0), (201, .getfield 184, 3, 6, 24)]) (pc1 := 204) (lv1 := [(0, .ref 7)]) (st1 := [.int (g.1 37), .ref 7]) (h1 := hO R g) (by decide +kernel) rfl ?_
            rcases m_cv_inv h with ⟨g43, e45, h⟩ | ⟨y46, g43, e45, rfl, rfl⟩
            · refine m_ca (q := (204, .invokevirtual 214, 3, 107, 1)) (a := 107) (vs := [.ref 7, .int (g.1 37)]) (st := []) (d1 := 0) (by decide +kernel) rfl rfl rfl rfl (by decide) (Fr107 e45) ?_
              show m_Run X _ _ 135 207 [(0, .ref 7)] [] (hO R g43) _ _
              refine m_go (L := [(207, .aload_n 0, 1, 0, 0), (208, .bipush 48, 2, 0, 0), (210, .bipush 62, 2, 0, 0), (212, .iconst 0, 1, 0, 0), (213, .iconst 0, 1, 0, 0)]) (pc1 := 214) (lv1 := [(0, .ref 7)]) (st1 := [.int (0 : Int32), .int (0 : Int32), .int (62 : Int32), .int (48 : Int32), .ref 7]) (h1 := hO R g43) (by decide +kernel) rfl ?_
              rcases m_cv_inv h with ⟨g47, e49, h⟩ | ⟨y50, g47, e49, rfl, rfl⟩
              · refine m_ca (q := (214, .invokevirtual 217, 3, 108, 4)) (a := 108) (vs := [.ref 7, .int (48 : Int32), .int (62 : Int32), .int (0 : Int32), .int (0 : Int32)]) (st := []) (d1 := 1) (by decide +kernel) rfl rfl rfl rfl (by decide) (Fr108 e49) ?_
                show m_Run X _ _ 135 217 [(0, .ref 7)] [] (hO R g47) _ _
                refine m_go (L := [(217, .aload_n 0, 1, 0, 0), (218, .bipush 30, 2, 0, 0), (220, .bipush 60, 2, 0, 0), (222, .bipush 63, 2, 0, 0), (224, .iconst 0, 1, 0, 0)]) (pc1 := 225) (lv1 := [(0, .ref 7)]) (st1 := [.int (0 : Int32), .int (63 : Int32), .int (60 : Int32), .int (30 : Int32), .ref 7]) (h1 := hO R g47) (by decide +kernel) rfl ?_
                rcases m_cv_inv h with ⟨g51, e53, h⟩ | ⟨y54, g51, e53, rfl, rfl⟩
                · refine m_ca (q := (225, .invokevirtual 217, 3, 108, 4)) (a := 108) (vs := [.ref 7, .int (30 : Int32), .int (60 : Int32), .int (63 : Int32), .int (0 : Int32)]) (st := []) (d1 := 1) (by decide +kernel) rfl rfl rfl rfl (by decide) (Fr108 e53) ?_
                  show m_Run X _ _ 135 228 [(0, .ref 7)] [] (hO R g51) _ _
                  refine m_go (L := [(228, .goto 30, 3, 0, 0)]) (pc1 := 258) (lv1 := [(0, .ref 7)]) (st1 := []) (h1 := hO R g51) (by decide +kernel) rfl ?_
                  cases h
                  exact m_rv (by decide +kernel)
                · exact m_cx (q := (225, .invokevirtual 217, 3, 108, 4)) (a := 108) (vs := [.ref 7, .int (30 : Int32), .int (60 : Int32), .int (63 : Int32), .int (0 : Int32)]) (st := []) (d1 := 1) (by decide +kernel) (by decide +kernel) rfl rfl rfl rfl (by decide) (Fr108 e53)
              · exact m_cx (q := (214, .invokevirtual 217, 3, 108, 4)) (a := 108) (vs := [.ref 7, .int (48 : Int32), .int (62 : Int32), .int (0 : Int32), .int (0 : Int32)]) (st := []) (d1 := 1) (by decide +kernel) (by decide +kernel) rfl rfl rfl rfl (by decide) (Fr108 e49)
            · exact m_cx (q := (204, .invokevirtual 214, 3, 107, 1)) (a := 107) (vs := [.ref 7, .int (g.1 37)]) (st := []) (d1 := 0) (by decide +kernel) (by decide +kernel) rfl rfl rfl rfl (by decide) (Fr107 e45)
          · rw [if_neg c42] at h
            by_cases c55 : (g.1 26) = 31
            · rw [if_pos c55] at h
              refine m_go1 (q := (29, .lookupswitch 217 #[(1, 84), (25, 59), (26, 108), (28, 146), (30, 170), (31, 202)], 59, 0, 0)) (pc1 := 231) (lv1 := [(0, .ref 7)]) (st1 := []) (h1 := hO R g) (by decide +kernel) (m_swx (fun z => m_loc m_ft X (.lookupswitch 217 #[(1, 84), (25, 59), (26, 108), (28, 146), (30, 170), (31, 202)]) 0 0 29 [(0, .ref 7)] (.int z :: []) (hO R g)) c55 rfl) ?_
              refine m_go (L := [(231, .aload_n 0, 1, 0, 0), (232, .bipush 31, 2, 0, 0), (234, .bipush 60, 2, 0, 0), (236, .bipush 64, 2, 0, 0), (238, .bipush 10, 2, 0, 0)]) (pc1 := 240) (lv1 := [(0, .ref 7)]) (st1 := [.int (10 : Int32), .int (64 : Int32), .int (60 : Int32), .int (31 : Int32), .ref 7]) (h1 := hO R g) (by decide +kernel) rfl ?_
              rcases m_cv_inv h with ⟨g56, e58, h⟩ | ⟨y59, g56, e58, rfl, rfl⟩
              · refine m_ca (q := (240, .invokevirtual 217, 3, 108, 4)) (a := 108) (vs := [.ref 7, .int (31 : Int32), .int (60 : Int32), .int (64 : Int32), .int (10 : Int32)]) (st := []) (d1 := 1) (by decide +kernel) rfl rfl rfl rfl (by decide) (Fr108 e58) ?_
                show m_Run X _ _ 135 243 [(0, .ref 7)] [] (hO R g56) _ _
                refine m_go (L := [(243, .goto 15, 3, 0, 0)]) (pc1 := 258) (lv1 := [(0, .ref 7)]) (st1 := []) (h1 := hO R g56) (by decide +kernel) rfl ?_
                cases h
                exact m_rv (by decide +kernel)
              · exact m_cx (q := (240, .invokevirtual 217, 3, 108, 4)) (a := 108) (vs := [.ref 7, .int (31 : Int32), .int (60 : Int32), .int (64 : Int32), .int (10 : Int32)]) (st := []) (d1 := 1) (by decide +kernel) (by decide +kernel) rfl rfl rfl rfl (by decide) (Fr108 e58)
            · rw [if_neg c55] at h
              refine m_go1 (q := (29, .lookupswitch 217 #[(1, 84), (25, 59), (26, 108), (28, 146), (30, 170), (31, 202)], 59, 0, 0)) (pc1 := 246) (lv1 := [(0, .ref 7)]) (st1 := []) (h1 := hO R g) (by decide +kernel) (by show some (m_tg _ (Op.lookupswitch.offset _ _ _), _, _, _) = _; rw [m_lkd _ (List.forall_mem_cons.mpr ⟨m_ne (k := 1) (by decide) c2, List.forall_mem_cons.mpr ⟨m_ne (k := 25) (by decide) c11, List.forall_mem_cons.mpr ⟨m_ne (k := 26) (by decide) c20, List.forall_mem_cons.mpr ⟨m_ne (k := 28) (by decide) c33, List.forall_mem_cons.mpr ⟨m_ne (k := 30) (by decide) c42, List.forall_mem_cons.mpr ⟨m_ne (k := 31) (by decide) c55, fun _ hq => absurd hq List.not_mem_nil⟩⟩⟩⟩⟩⟩)]; rfl) ?_
              refine m_go (L := [(246, .aload_n 0, 1, 0, 0), (247, .bipush 32, 2, 0, 0), (249, .bipush 60, 2, 0, 0), (251, .bipush 65, 2, 0, 0), (253, .bipush 10, 2, 0, 0)]) (pc1 := 255) (lv1 := [(0, .ref 7)]) (st1 := [.int (10 : Int32), .int (65 : Int32), .int (60 : Int32), .int (32 : Int32), .ref 7]) (h1 := hO R g) (by decide +kernel) rfl ?_
              rcases m_cv_inv h with ⟨g60, e62, h⟩ | ⟨y63, g60, e62, rfl, rfl⟩
              · refine m_ca (q := (255, .invokevirtual 217, 3, 108, 4)) (a := 108) (vs := [.ref 7, .int (32 : Int32), .int (60 : Int32), .int (65 : Int32), .int (10 : Int32)]) (st := []) (d1 := 1) (by decide +kernel) rfl rfl rfl rfl (by decide) (Fr108 e62) ?_
                show m_Run X _ _ 135 258 [(0, .ref 7)] [] (hO R g60) _ _
                cases h
                exact m_rv (by decide +kernel)
              · exact m_cx (q := (255, .invokevirtual 217, 3, 108, 4)) (a := 108) (vs := [.ref 7, .int (32 : Int32), .int (60 : Int32), .int (65 : Int32), .int (10 : Int32)]) (st := []) (d1 := 1) (by decide +kernel) (by decide +kernel) rfl rfl rfl rfl (by decide) (Fr108 e62)
def f135 (n : Nat) (g : mG) : mZ := if (g.1 26) = (25 : Int32) then f135_25 n g else if (g.1 26) = (1 : Int32) then f135_25 n g else m_cv (f107 n (g.1 27) g) (fun g65 => f135_25 n g65)
theorem Fr135 {R : Nat} {g g' : mG} {o : mO} (h : f135 n g = some (o, g')) : m_Run X (2) (m_ko o) 135 0 [(0, .ref 7)] [] (hO R g) o (hO R g') := by
  unfold f135 at h
  refine m_gob (c := (g.1 26) = (25 : Int32)) (t := 25) (f := 9) (L := [(0, .aload_n 0, 1, 0, 0), (1, .getfield 142, 3, 6, 3), (4, .bipush 25, 2, 0, 0), (6, .if_icmp .eq 19, 3, 0, 0)]) (lv1 := [(0, .ref 7)]) (st1 := []) (h1 := hO R g) (by decide +kernel) rfl (fun c1 => ?_) (fun c1 => ?_)
  · rw [if_pos c1] at h
    exact m_r0 _ _ _ _ _ _ _ _ _ _ (m_pick [0] rfl) (Fr135_25 h)
  · rw [if_neg c1] at h
    refine m_gob (c := (g.1 26) = (1 : Int32)) (t := 25) (f := 17) (L := [(9, .aload_n 0, 1, 0, 0), (10, .getfield 142, 3, 6, 3), (13, .iconst 1, 1, 0, 0), (14, .if_icmp .eq 11, 3, 0, 0)]) (lv1 := [(0, .ref 7)]) (st1 := []) (h1 := hO R g) (by decide +kernel) rfl (fun c64 => ?_) (fun c64 => ?_)
    · rw [if_pos c64] at h
      exact m_r0 _ _ _ _ _ _ _ _ _ _ (m_pick [0] rfl) (Fr135_25 h)
    · rw [if_neg c64] at h
      refine m_go (L := [(17, .aload_n 0, 1, 0, 0), (18, .aload_n 0, 1, 0, 0), (19, .getfield 148, 3, 6, 4)]) (pc1 := 22) (lv1 := [(0, .ref 7)]) (st1 := [.int (g.1 27), .ref 7]) (h1 := hO R g) (by decide +kernel) rfl ?_
      rcases m_cv_inv h with ⟨g65, e67, h⟩ | ⟨y68, g65, e67, rfl, rfl⟩
      · refine m_ca (q := (22, .invokevirtual 214, 3, 107, 1)) (a := 107) (vs := [.ref 7, .int (g.1 27)]) (st := []) (d1 := 0) (by decide +kernel) rfl rfl rfl rfl (by decide) (Fr107 e67) ?_
        show m_Run X _ _ 135 25 [(0, .ref 7)] [] (hO R g65) _ _
        exact m_r0 _ _ _ _ _ _ _ _ _ _ (m_pick [0] rfl) (Fr135_25 h)
      · exact m_cx (q := (22, .invokevirtual 214, 3, 107, 1)) (a := 107) (vs := [.ref 7, .int (g.1 27)]) (st := []) (d1 := 0) (by decide +kernel) (by decide +kernel) rfl rfl rfl rfl (by decide) (Fr107 e67)
def f132_129 (n : Nat) (g : mG) : mZ := m_cv (f108 n (4 : Int32) (48 : Int32) (43 : Int32) (0 : Int32) g) (fun g18 => m_cv (f108 n (24 : Int32) (44 : Int32) (3 : Int32) (45 : Int32) g18) (fun g22 => some (.inl none, g22)))
theorem Fr132_129 {R : Nat} {g g' : mG} {o : mO} (h : f132_129 n g = some (o, g')) : m_Run X (5) (m_ko o) 132 129 [(0, .ref 7)] [] (hO R g) o (hO R g') := by
  unfold f132_129 at h
  refine m_go (L := [(129, .aload_n 0, 1, 0, 0), (130, .iconst 4, 1, 0, 0), (131, .bipush 48, 2, 0, 0), (133, .bipush 43, 2, 0, 0), (135, .iconst 0, 1, 0, 0)]) (pc1 := 136) (lv1 := [(0, .ref 7)]) (st1 := [.int (0 : Int32), .int (43 : Int32), .int (48 : Int32), .int (4 : Int32), .ref 7]) (h1 := hO R g) (by decide +kernel) rfl ?_
  rcases m_cv_inv h with ⟨g18, e20, h⟩ | ⟨y21, g18, e20, rfl, rfl⟩
  · refine m_ca (q := (136, .invokevirtual 217, 3, 108, 4)) (a := 108) (vs := [.ref 7, .int (4 : Int32), .int (48 : Int32), .int (43 : Int32), .int (0 : Int32)]) (st := []) (d1 := 1) (by decide +kernel) rfl rfl rfl rfl (by decide) (Fr108 e20) ?_
    show m_Run X _ _ 132 139 [(0, .ref 7)] [] (hO R g18) _ _
    refine m_go (L := [(139, .aload_n 0, 1, 0, 0), (140, .bipush 24, 2, 0, 0), (142, .bipush 44, 2, 0, 0), (144, .iconst 3, 1, 0, 0), (145, .bipush 45, 2, 0, 0)]) (pc1 := 147) (lv1 := [(0, .ref 7)]) (st1 := [.int (45 : Int32), .int (3 : Int32), .int (44 : Int32), .int (24 : Int32), .ref 7]) (h1 := hO R g18) (by decide +kernel) rfl ?_
    rcases m_cv_inv h with ⟨g22, e24, h⟩ | ⟨y25, g22, e24, rfl, rfl⟩
    · refine m_ca (q := (147, .invokevirtual 217, 3, 108, 4)) (a := 108) (vs := [.ref 7, .int (24 : Int32), .int (44 : Int32), .int (3 : Int32), .int (45 : Int32)]) (st := []) (d1 := 1) (by decide +kernel) rfl rfl rfl rfl (by decide) (Fr108 e24) ?_
      show m_Run X _ _ 132 150 [(0, .ref 7)] [] (hO R g22) _ _
      refine m_go (L := [(150, .goto 181, 3, 0, 0)]) (pc1 := 331) (lv1 := [(0, .ref 7)]) (st1 := []) (h1 := hO R g22) (by decide +kernel) rfl ?_
      cases h
      exact m_rv (by decide +kernel)
    · exact m_cx (q := (147, .invokevirtual 217, 3, 108, 4)) (a := 108) (vs := [.ref 7, .int (24 : Int32), .int (44 : Int32), .int (3 : Int32), .int (45 : Int32)]) (st := []) (d1 := 1) (by decide +kernel) (by decide +kernel) rfl rfl rfl rfl (by decide) (Fr108 e24)
  · exact m_cx (q := (136, .invokevirtual 217, 3, 108, 4)) (a := 108) (vs := [.ref 7, .int (4 : Int32), .int (48 : Int32), .int (43 : Int32), .int (0 : Int32)]) (st := []) (d1 := 1) (by decide +kernel) (by decide +kernel) rfl rfl rfl rfl (by decide) (Fr108 e20)
def f132_314 (n : Nat) (g : mG) : mZ := m_cv (f108 n (52 : Int32) (50 : Int32) (0 : Int32) (0 : Int32) g) (fun g67 => some (.inl none, g67))
theorem Fr132_314 {R : Nat} {g g' : mG} {o : mO} (h : f132_314 n g = some (o, g')) : m_Run X (5) (m_ko o) 132 314 [(0, .ref 7)] [] (hO R g) o (hO R g') := by
  unfold f132_314 at h
  refine m_go (L := [(314, .aload_n 0, 1, 0, 0), (315, .bipush 52, 2, 0, 0), (317, .bipush 50, 2, 0, 0), (319, .iconst 0, 1, 0, 0), (320, .iconst 0, 1, 0, 0)]) (pc1 := 321) (lv1 := [(0, .ref 7)]) (st1 := [.int (0 : Int32), .int (0 : Int32), .int (50 : Int32), .int (52 : Int32), .ref 7]) (h1 := hO R g) (by decide +kernel) rfl ?_
  rcases m_cv_inv h with ⟨g67, e69, h⟩ | ⟨y70, g67, e69, rfl, rfl⟩
  · refine m_ca (q := (321, .invokevirtual 217, 3, 108, 4)) (a := 108) (vs := [.ref 7, .int (52 : Int32), .int (50 : Int32), .int (0 : Int32), .int (0 : Int32)]) (st := []) (d1 := 1) (by decide +kernel) rfl rfl rfl rfl (by decide) (Fr108 e69) ?_
    show m_Run X _ _ 132 324 [(0, .ref 7)] [] (hO R g67) _ _
    refine m_go (L := [(324, .goto 7, 3, 0, 0)]) (pc1 := 331) (lv1 := [(0, .ref 7)]) (st1 := []) (h1 := hO R g67) (by decide +kernel) rfl ?_
    cases h
    exact m_rv (by decide +kernel)
  · exact m_cx (q := (321, .invokevirtual 217, 3, 108, 4)) (a := 108) (vs := [.ref 7, .int (52 : Int32), .int (50 : Int32), .int (0 : Int32), .int (0 : Int32)]) (st := []) (d1 := 1) (by decide +kernel) (by decide +kernel) rfl rfl rfl rfl (by decide) (Fr108 e69)
def f132 (n : Nat) (x1 : Int32) (g : mG) : mZ := if x1 = 40 then m_cv (f108 n (42 : Int32) (41 : Int32) (0 : Int32) (0 : Int32) g) (fun g2 => some (.inl none, g2)) else if x1 = 41 then if ¬ (g.1 26) = (24 : Int32) then m_cv (f100 n (0 : Int32) g) (fun g8 => some (.inl none, g8)) else m_cv (f108 n (42 : Int32) (41 : Int32) (0 : Int32) (0 : Int32) g) (fun g12 => some (.inl none, g12)) else if x1 = 42 then if ¬ (g.1 26) = (24 : Int32) then f132_129 n g else if ¬ (g.1 35) = (8 : Int32) then f132_129 n g else m_cv (f103 n (g.1 27) g) (fun g27 => f132_129 n g27) else if x1 = 43 then m_cv (f109 n (15 : Int32) (0 : Int32) g) (fun g32 => some (.inl none, g32)) else if x1 = 44 then m_cv (f133 n g) (fun g37 => some (.inl none, g37)) else if x1 = 45 then if ¬ (g.1 26) = (1 : Int32) then some (.inl none, g) else m_cv (f108 n (46 : Int32) (47 : Int32) (0 : Int32) (0 : Int32) g) (fun g43 => some (.inl none, g43)) else if x1 = 46 then m_cv (f134 n g) (fun g48 => some (.inl none, g48)) else if x1 = 47 then if ¬ (g.1 26) = (9 : Int32) then some (.inl none, g) else if ((g.1 35) - (1 : Int32)) < 0 ∨ 9 ≤ Int32.toNatClampNeg ((g.1 35) - (1 : Int32)) then none else if (3 : Int32) ≤ ((g.2.1 39) (Int32.toNatClampNeg ((g.1 35) - (1 : Int32)))) then some (.inl none, g) else m_cv (f108 n (9 : Int32) (46 : Int32) (47 : Int32) (0 : Int32) g) (fun g56 => some (.inl none, g56)) else if x1 = 48 then m_cv (f108 n (205 : Int32) (50 : Int32) (306 : Int32) (0 : Int32) g) (fun g61 => some (.inl none, g61)) else if x1 = 50 then if (g.1 26) = (25 : Int32) then f132_314 n g else if (g.1 26) = (1 : Int32) then f132_314 n g else if (g.1 26) = (26 : Int32) then f132_314 n g else if (g.1 26) = (28 : Int32) then f132_314 n g else if (g.1 26) = (30 : Int32) then f132_314 n g else if (g.1 26) = (31 : Int32) then f132_314 n g else if ¬ (g.1 26) = (32 : Int32) then some (.inl none, g) else f132_314 n g else m_cv (f135 n g) (fun g77 => some (.inl none, g77))
theorem Fr132 {R : Nat} {x1 : Int32} {g g' : mG} {o : mO} (h : f132 n x1 g = some (o, g')) : m_Run X (5) (m_ko o) 132 0 [(0, .ref 7), (1, .int x1)] [] (hO R g) o (hO R g') := by
  unfold f132 at h
  refine m_go (L := [(0, .iload_n 1, 1, 0, 0)]) (pc1 := 1) (lv1 := [(0, .ref 7), (1, .int x1)]) (st1 := [.int x1]) (h1 := hO R g) (by decide +kernel) rfl ?_
  by_cases c1 : x1 = 40
  · rw [if_pos c1] at h
    refine m_go1 (q := (1, .tableswitch 326 40 50 #[59, 72, 102, 152, 162, 169, 190, 197, 235, 326, 251], 59, 0, 0)) (pc1 := 60) (lv1 := [(0, .ref 7), (1, .int x1)]) (st1 := []) (h1 := hO R g) (by decide +kernel) (m_swx (fun z => m_loc m_ft X (.tableswitch 326 40 50 #[59, 72, 102, 152, 162, 169, 190, 197, 235, 326, 251]) 0 0 1 [(0, .ref 7), (1, .int x1)] (.int z :: []) (hO R g)) c1 rfl) ?_
    refine m_go (L := [(60, .aload_n 0, 1, 0, 0), (61, .bipush 42, 2, 0, 0), (63, .bipush 41, 2, 0, 0), (65, .iconst 0, 1, 0, 0), (66, .iconst 0, 1, 0, 0)]) (pc1 := 67) (lv1 := [(0, .ref 7), (1, .int x1)]) (st1 := [.int (0 : Int32), .int (0 : Int32), .int (41 : Int32), .int (42 : Int32), .ref 7]) (h1 := hO R g) (by decide +kernel) rfl ?_
    rcases m_cv_inv h with ⟨g2, e4, h⟩ | ⟨y5, g2, e4, rfl, rfl⟩
    · refine m_ca (q := (67, .invokevirtual 217, 3, 108, 4)) (a := 108) (vs := [.ref 7, .int (42 : Int32), .int (41 : Int32), .int (0 : Int32), .int (0 : Int32)]) (st := []) (d1 := 1) (by decide +kernel) rfl rfl rfl rfl (by decide) (Fr108 e4) ?_
      show m_Run X _ _ 132 70 [(0, .ref 7), (1, .int x1)] [] (hO R g2) _ _
      refine m_go (L := [(70, .goto 261, 3, 0, 0)]) (pc1 := 331) (lv1 := [(0, .ref 7), (1, .int x1)]) (st1 := []) (h1 := hO R g2) (by decide +kernel) rfl ?_
      cases h
      exact m_rv (by decide +kernel)
    · exact m_cx (q := (67, .invokevirtual 217, 3, 108, 4)) (a := 108) (vs := [.ref 7, .int (42 : Int32), .int (41 : Int32), .int (0 : Int32), .int (0 : Int32)]) (st := []) (d1 := 1) (by decide +kernel) (by decide +kernel) rfl rfl rfl rfl (by decide) (Fr108 e4)
  · rw [if_neg c1] at h
    by_cases c6 : x1 = 41
    · rw [if_pos c6] at h
      refine m_go1 (q := (1, .tableswitch 326 40 50 #[59, 72, 102, 152, 162, 169, 190, 197, 235, 326, 251], 59, 0, 0)) (pc1 := 73) (lv1 := [(0, .ref 7), (1, .int x1)]) (st1 := []) (h1 := hO R g) (by decide +kernel) (m_swx (fun z => m_loc m_ft X (.tableswitch 326 40 50 #[59, 72, 102, 152, 162, 169, 190, 197, 235, 326, 251]) 0 0 1 [(0, .ref 7), (1, .int x1)] (.int z :: []) (hO R g)) c6 rfl) ?_
      refine m_gob (c := ¬ (g.1 26) = (24 : Int32)) (t := 95) (f := 82) (L := [(73, .aload_n 0, 1, 0, 0), (74, .getfield 142, 3, 6, 3), (77, .bipush 24, 2, 0, 0), (79, .if_icmp .ne 16, 3, 0, 0)]) (lv1 := [(0, .ref 7), (1, .int x1)]) (st1 := []) (h1 := hO R g) (by decide +kernel) rfl (fun c7 => ?_) (fun c7 => ?_)
      · rw [if_pos c7] at h
        refine m_go (L := [(95, .aload_n 0, 1, 0, 0), (96, .iconst 0, 1, 0, 0)]) (pc1 := 97) (lv1 := [(0, .ref 7), (1, .int x1)]) (st1 := [.int (0 : Int32), .ref 7]) (h1 := hO R g) (by decide +kernel) rfl ?_
        rcases m_cv_inv h with ⟨g8, e10, h⟩ | ⟨y11, g8, e10, rfl, rfl⟩
        · refine m_ca (q := (97, .invokevirtual 174, 3, 100, 1)) (a := 100) (vs := [.ref 7, .int (0 : Int32)]) (st := []) (d1 := 0) (by decide +kernel) rfl rfl rfl rfl (by decide) (Fr100 e10) ?_
          show m_Run X _ _ 132 100 [(0, .ref 7), (1, .int x1)] [] (hO R g8) _ _
          refine m_go (L := [(100, .goto 231, 3, 0, 0)]) (pc1 := 331) (lv1 := [(0, .ref 7), (1, .int x1)]) (st1 := []) (h1 := hO R g8) (by decide +kernel) rfl ?_
          cases h
          exact m_rv (by decide +kernel)
        · exact m_cx (q := (97, .invokevirtual 174, 3, 100, 1)) (a := 100) (vs := [.ref 7, .int (0 : Int32)]) (st := []) (d1 := 0) (by decide +kernel) (by decide +kernel) rfl rfl rfl rfl (by decide) (Fr100 e10)
      · rw [if_neg c7] at h
        refine m_go (L := [(82, .aload_n 0, 1, 0, 0), (83, .bipush 42, 2, 0, 0), (85, .bipush 41, 2, 0, 0), (87, .iconst 0, 1, 0, 0), (88, .iconst 0, 1, 0, 0)]) (pc1 := 89) (lv1 := [(0, .ref 7), (1, .int x1)]) (st1 := [.int (0 : Int32), .int (0 : Int32), .int (41 : Int32), .int (42 : Int32), .ref 7]) (h1 := hO R g) (by decide +kernel) rfl ?_
        rcases m_cv_inv h with ⟨g12, e14, h⟩ | ⟨y15, g12, e14, rfl, rfl⟩
        · refine m_ca (q := (89, .invokevirtual 217, 3, 108, 4)) (a := 108) (vs := [.ref 7, .int (42 : Int32), .int (41 : Int32), .int (0 : Int32), .int (0 : Int32)]) (st := []) (d1 := 1) (by decide +kernel) rfl rfl rfl rfl (by decide) (Fr108 e14) ?_
          show m_Run X _ _ 132 92 [(0, .ref 7), (1, .int x1)] [] (hO R g12) _ _
          refine m_go (L := [(92, .goto 239, 3, 0, 0)]) (pc1 := 331) (lv1 := [(0, .ref 7), (1, .int x1)]) (st1 := []) (h1 := hO R g12) (by decide +kernel) rfl ?_
          cases h
          exact m_rv (by decide +kernel)
        · exact m_cx (q := (89, .invokevirtual 217, 3, 108, 4)) (a := 108) (vs := [.ref 7, .int (42 : Int32), .int (41 : Int32), .int (0 : Int32), .int (0 : Int32)]) (st := []) (d1 := 1) (by decide +kernel) (by decide +kernel) rfl rfl rfl rfl (by decide) (Fr108 e14)
    · rw [if_neg c6] at h
      by_cases c16 : x1 = 42
      · rw [if_pos c16] at h
        refine m_go1 (q := (1, .tableswitch 326 40 50 #[59, 72, 102, 152, 162, 169, 190, 197, 235, 326, 251], 59, 0, 0)) (pc1 := 103) (lv1 := [(0, .ref 7), (1, .int x1)]) (st1 := []) (h1 := hO R g) (by decide +kernel) (m_swx (fun z => m_loc m_ft X (.tableswitch 326 40 50 #[59, 72, 102, 152, 162, 169, 190, 197, 235, 326, 251]) 0 0 1 [(0, .ref 7), (1, .int x1)] (.int z :: []) (hO R g)) c16 rfl) ?_
        refine m_gob (c := ¬ (g.1 26) = (24 : Int32)) (t := 129) (f := 112) (L := [(103, .aload_n 0, 1, 0, 0), (104, .getfield 142, 3, 6, 3), (107, .bipush 24, 2, 0, 0), (109, .if_icmp .ne 20, 3, 0, 0)]) (lv1 := [(0, .ref 7), (1, .int x1)]) (st1 := []) (h1 := hO R g) (by decide +kernel) rfl (fun c17 => ?_) (fun c17 => ?_)
        · rw [if_pos c17] at h
          exact m_r0 _ _ _ _ _ _ _ _ _ _ (m_pick [0] rfl) (Fr132_129 h)
        · rw [if_neg c17] at h
          refine m_gob (c := ¬ (g.1 35) = (8 : Int32)) (t := 129) (f := 121) (L := [(112, .aload_n 0, 1, 0, 0), (113, .getfield 196, 3, 6, 15), (116, .bipush 8, 2, 0, 0), (118, .if_icmp .ne 11, 3, 0, 0)]) (lv1 := [(0, .ref 7), (1, .int x1)]) (st1 := []) (h1 := hO R g) (by decide +kernel) rfl (fun c26 => ?_) (fun c26 => ?_)
          · rw [if_pos c26] at h
            exact m_r0 _ _ _ _ _ _ _ _ _ _ (m_pick [0] rfl) (Fr132_129 h)
          · rw [if_neg c26] at h
            refine m_go (L := [(121, .aload_n 0, 1, 0, 0), (122, .aload_n 0, 1, 0, 0), (123, .getfield 148, 3, 6, 4)]) (pc1 := 126) (lv1 := [(0, .ref 7), (1, .int x1)]) (st1 := [.int (g.1 27), .ref 7]) (h1 := hO R g) (by decide +kernel) rfl ?_
            rcases m_cv_inv h with ⟨g27, e29, h⟩ | ⟨y30, g27, e29, rfl, rfl⟩
            · refine m_ca (q := (126, .invokevirtual 190, 3, 103, 1)) (a := 103) (vs := [.ref 7, .int (g.1 27)]) (st := []) (d1 := 0) (by decide +kernel) rfl rfl rfl rfl (by decide) (Fr103 e29) ?_
              show m_Run X _ _ 132 129 [(0, .ref 7), (1, .int x1)] [] (hO R g27) _ _
              exact m_r0 _ _ _ _ _ _ _ _ _ _ (m_pick [0] rfl) (Fr132_129 h)
            · exact m_cx (q := (126, .invokevirtual 190, 3, 103, 1)) (a := 103) (vs := [.ref 7, .int (g.1 27)]) (st := []) (d1 := 0) (by decide +kernel) (by decide +kernel) rfl rfl rfl rfl (by decide) (Fr103 e29)
      · rw [if_neg c16] at h
        by_cases c31 : x1 = 43
        · rw [if_pos c31] at h
          refine m_go1 (q := (1, .tableswitch 326 40 50 #[59, 72, 102, 152, 162, 169, 190, 197, 235, 326, 251], 59, 0, 0)) (pc1 := 153) (lv1 := [(0, .ref 7), (1, .int x1)]) (st1 := []) (h1 := hO R g) (by decide +kernel) (m_swx (fun z => m_loc m_ft X (.tableswitch 326 40 50 #[59, 72, 102, 152, 162, 169, 190, 197, 235, 326, 251]) 0 0 1 [(0, .ref 7), (1, .int x1)] (.int z :: []) (hO R g)) c31 rfl) ?_
          refine m_go (L := [(153, .aload_n 0, 1, 0, 0), (154, .bipush 15, 2, 0, 0), (156, .iconst 0, 1, 0, 0)]) (pc1 := 157) (lv1 := [(0, .ref 7), (1, .int x1)]) (st1 := [.int (0 : Int32), .int (15 : Int32), .ref 7]) (h1 := hO R g) (by decide +kernel) rfl ?_
          rcases m_cv_inv h with ⟨g32, e34, h⟩ | ⟨y35, g32, e34, rfl, rfl⟩
          · refine m_ca (q := (157, .invokevirtual 221, 3, 109, 2)) (a := 109) (vs := [.ref 7, .int (15 : Int32), .int (0 : Int32)]) (st := []) (d1 := 0) (by decide +kernel) rfl rfl rfl rfl (by decide) (Fr109 e34) ?_
            show m_Run X _ _ 132 160 [(0, .ref 7), (1, .int x1)] [] (hO R g32) _ _
            refine m_go (L := [(160, .goto 171, 3, 0, 0)]) (pc1 := 331) (lv1 := [(0, .ref 7), (1, .int x1)]) (st1 := []) (h1 := hO R g32) (by decide +kernel) rfl ?_
            cases h
            exact m_rv (by decide +kernel)
          · exact m_cx (q := (157, .invokevirtual 221, 3, 109, 2)) (a := 109) (vs := [.ref 7, .int (15 : Int32), .int (0 : Int32)]) (st := []) (d1 := 0) (by decide +kernel) (by decide +kernel) rfl rfl rfl rfl (by decide) (Fr109 e34)
        · rw [if_neg c31] at h
          by_cases c36 : x1 = 44
          · rw [if_pos c36] at h
            refine m_go1 (q := (1, .tableswitch 326 40 50 #[59, 72, 102, 152, 162, 169, 190, 197, 235, 326, 251], 59, 0, 0)) (pc1 := 163) (lv1 := [(0, .ref 7), (1, .int x1)]) (st1 := []) (h1 := hO R g) (by decide +kernel) (m_swx (fun z => m_loc m_ft X (.tableswitch 326 40 50 #[59, 72, 102, 152, 162, 169, 190, 197, 235, 326, 251]) 0 0 1 [(0, .ref 7), (1, .int x1)] (.int z :: []) (hO R g)) c36 rfl) ?_
            refine m_go (L := [(163, .aload_n 0, 1, 0, 0)]) (pc1 := 164) (lv1 := [(0, .ref 7), (1, .int x1)]) (st1 := [.ref 7]) (h1 := hO R g) (by decide +kernel) rfl ?_
            rcases m_cv_inv h with ⟨g37, e39, h⟩ | ⟨y40, g37, e39, rfl, rfl⟩
            · refine m_ca (q := (164, .invokevirtual 225, 3, 133, 0)) (a := 133) (vs := [.ref 7]) (st := []) (d1 := 4) (by decide +kernel) rfl rfl rfl rfl (by decide) (Fr133 e39) ?_
              show m_Run X _ _ 132 167 [(0, .ref 7), (1, .int x1)] [] (hO R g37) _ _
              refine m_go (L := [(167, .goto 164, 3, 0, 0)]) (pc1 := 331) (lv1 := [(0, .ref 7), (1, .int x1)]) (st1 := []) (h1 := hO R g37) (by decide +kernel) rfl ?_
              cases h
              exact m_rv (by decide +kernel)
            · exact m_cx (q := (164, .invokevirtual 225, 3, 133, 0)) (a := 133) (vs := [.ref 7]) (st := []) (d1 := 4) (by decide +kernel) (by decide +kernel) rfl rfl rfl rfl (by decide) (Fr133 e39)
          · rw [if_neg c36] at h
            by_cases c41 : x1 = 45
            · rw [if_pos c41] at h
              refine m_go1 (q := (1, .tableswitch 326 40 50 #[59, 72, 102, 152, 162, 169, 190, 197, 235, 326, 251], 59, 0, 0)) (pc1 := 170) (lv1 := [(0, .ref 7), (1, .int x1)]) (st1 := []) (h1 := hO R g) (by decide +kernel) (m_swx (fun z => m_loc m_ft X (.tableswitch 326 40 50 #[59, 72, 102, 152, 162, 169, 190, 197, 235, 326, 251]) 0 0 1 [(0, .ref 7), (1, .int x1)] (.int z :: []) (hO R g)) c41 rfl) ?_
              refine m_gob (c := ¬ (g.1 26) = (1 : Int32)) (t := 331) (f := 178) (L := [(170, .aload_n 0, 1, 0, 0), (171, .getfield 142, 3, 6, 3), (174, .iconst 1, 1, 0, 0), (175, .if_icmp .ne 156, 3, 0, 0)]) (lv1 := [(0, .ref 7), (1, .int x1)]) (st1 := []) (h1 := hO R g) (by decide +kernel) rfl (fun c42 => ?_) (fun c42 => ?_)
              · rw [if_pos c42] at h
                cases h
                exact m_rv (by decide +kernel)
              · rw [if_neg c42] at h
                refine m_go (L := [(178, .aload_n 0, 1, 0, 0), (179, .bipush 46, 2, 0, 0), (181, .bipush 47, 2, 0, 0), (183, .iconst 0, 1, 0, 0), (184, .iconst 0, 1, 0, 0)]) (pc1 := 185) (lv1 := [(0, .ref 7), (1, .int x1)]) (st1 := [.int (0 : Int32), .int (0 : Int32), .int (47 : Int32), .int (46 : Int32), .ref 7]) (h1 := hO R g) (by decide +kernel) rfl ?_
                rcases m_cv_inv h with ⟨g43, e45, h⟩ | ⟨y46, g43, e45, rfl, rfl⟩
                · refine m_ca (q := (185, .invokevirtual 217, 3, 108, 4)) (a := 108) (vs := [.ref 7, .int (46 : Int32), .int (47 : Int32), .int (0 : Int32), .int (0 : Int32)]) (st := []) (d1 := 1) (by decide +kernel) rfl rfl rfl rfl (by decide) (Fr108 e45) ?_
                  show m_Run X _ _ 132 188 [(0, .ref 7), (1, .int x1)] [] (hO R g43) _ _
                  refine m_go (L := [(188, .goto 143, 3, 0, 0)]) (pc1 := 331) (lv1 := [(0, .ref 7), (1, .int x1)]) (st1 := []) (h1 := hO R g43) (by decide +kernel) rfl ?_
                  cases h
                  exact m_rv (by decide +kernel)
                · exact m_cx (q := (185, .invokevirtual 217, 3, 108, 4)) (a := 108) (vs := [.ref 7, .int (46 : Int32), .int (47 : Int32), .int (0 : Int32), .int (0 : Int32)]) (st := []) (d1 := 1) (by decide +kernel) (by decide +kernel) rfl rfl rfl rfl (by decide) (Fr108 e45)
            · rw [if_neg c41] at h
              by_cases c47 : x1 = 46
              · rw [if_pos c47] at h
                refine m_go1 (q := (1, .tableswitch 326 40 50 #[59, 72, 102, 152, 162, 169, 190, 197, 235, 326, 251], 59, 0, 0)) (pc1 := 191) (lv1 := [(0, .ref 7), (1, .int x1)]) (st1 := []) (h1 := hO R g) (by decide +kernel) (m_swx (fun z => m_loc m_ft X (.tableswitch 326 40 50 #[59, 72, 102, 152, 162, 169, 190, 197, 235, 326, 251]) 0 0 1 [(0, .ref 7), (1, .int x1)] (.int z :: []) (hO R g)) c47 rfl) ?_
                refine m_go (L := [(191, .aload_n 0, 1, 0, 0)]) (pc1 := 192) (lv1 := [(0, .ref 7), (1, .int x1)]) (st1 := [.ref 7]) (h1 := hO R g) (by decide +kernel) rfl ?_
                rcases m_cv_inv h with ⟨g48, e50, h⟩ | ⟨y51, g48, e50, rfl, rfl⟩
                · refine m_ca (q := (192, .invokevirtual 228, 3, 134, 0)) (a := 134) (vs := [.ref 7]) (st := []) (d1 := 4) (by decide +kernel) rfl rfl rfl rfl (by decide) (Fr134 e50) ?_
                  show m_Run X _ _ 132 195 [(0, .ref 7), (1, .int x1)] [] (hO R g48) _ _
                  refine m_go (L := [(195, .goto 136, 3, 0, 0)]) (pc1 := 331) (lv1 := [(0, .ref 7), (1, .int x1)]) (st1 := []) (h1 := hO R g48) (by decide +kernel) rfl ?_
                  cases h
                  exact m_rv (by decide +kernel)
                · exact m_cx (q := (192, .invokevirtual 228, 3, 134, 0)) (a := 134) (vs := [.ref 7]) (st := []) (d1 := 4) (by decide +kernel) (by decide +kernel) rfl rfl rfl rfl (by decide) (Fr134 e50)
              · rw [if_neg c47] at h
                by_cases c52 : x1 = 47
                · rw [if_pos c52] at h
                  refine m_go1 (q := (1, .tableswitch 326 40 50 #[59, 72, 102, 152, 162, 169, 190, 197, 235, 326, 251], 59, 0, 0)) (pc1 := 198) (lv1 := [(0, .ref 7), (1, .int x1)]) (st1 := []) (h1 := hO R g) (by decide +kernel) (m_swx (fun z => m_loc m_ft X (.tableswitch 326 40 50 #[59, 72, 102, 152, 162, 169, 190, 197, 235, 326, 251]) 0 0 1 [(0, .ref 7), (1, .int x1)] (.int z :: []) (hO R g)) c52 rfl) ?_
                  refine m_gob (c := ¬ (g.1 26) = (9 : Int32)) (t := 331) (f := 207) (L := [(198, .aload_n 0, 1, 0, 0), (199, .getfield 142, 3, 6, 3), (202, .bipush 9, 2, 0, 0), (204, .if_icmp .ne 127, 3, 0, 0)]) (lv1 := [(0, .ref 7), (1, .int x1)]) (st1 := []) (h1 := hO R g) (by decide +kernel) rfl (fun c53 => ?_) (fun c53 => ?_)
                  · rw [if_pos c53] at h
                    cases h
                    exact m_rv (by decide +kernel)
                  · rw [if_neg c53] at h
                    refine m_go (L := [(207, .aload_n 0, 1, 0, 0), (208, .getfield 31, 3, 6, 19), (211, .aload_n 0, 1, 0, 0), (212, .getfield 196, 3, 6, 15), (215, .iconst 1, 1, 0, 0), (216, .isub, 1, 0, 0)]) (pc1 := 217) (lv1 := [(0, .ref 7), (1, .int x1)]) (st1 := [.int ((g.1 35) - (1 : Int32)), .ref 39]) (h1 := hO R g) (by decide +kernel) rfl ?_
                    obtain ⟨c54, h⟩ := m_ifn_inv h
                    refine m_go1 (q := (217, .iaload, 1, 0, 0)) (pc1 := 218) (lv1 := [(0, .ref 7), (1, .int x1)]) (st1 := [.int ((g.2.1 39) (Int32.toNatClampNeg ((g.1 35) - (1 : Int32))))]) (h1 := hO R g) (by decide +kernel) (if_neg c54) ?_
                    refine m_gob (c := (3 : Int32) ≤ ((g.2.1 39) (Int32.toNatClampNeg ((g.1 35) - (1 : Int32))))) (t := 331) (f := 222) (L := [(218, .iconst 3, 1, 0, 0), (219, .if_icmp .ge 112, 3, 0, 0)]) (lv1 := [(0, .ref 7), (1, .int x1)]) (st1 := []) (h1 := hO R g) (by decide +kernel) rfl (fun c55 => ?_) (fun c55 => ?_)
                    · rw [if_pos c55] at h
                      cases h
                      exact m_rv (by decide +kernel)
                    · rw [if_neg c55] at h
                      refine m_go (L := [(222, .aload_n 0, 1, 0, 0), (223, .bipush 9, 2, 0, 0), (225, .bipush 46, 2, 0, 0), (227, .bipush 47, 2, 0, 0), (229, .iconst 0, 1, 0, 0)]) (pc1 := 230) (lv1 := [(0, .ref 7), (1, .int x1)]) (st1 := [.int (0 : Int32), .int (47 : Int32), .int (46 : Int32), .int (9 : Int32), .ref 7]) (h1 := hO R g) (by decide +kernel) rfl ?_
                      rcases m_cv_inv h with ⟨g56, e58, h⟩ | ⟨y59, g56, e58, rfl, rfl⟩
                      · refine m_ca (q := (230, .invokevirtual 217, 3, 108, 4)) (a := 108) (vs := [.ref 7, .int (9 : Int32), .int (46 : Int32), .int (47 : Int32), .int (0 : Int32)]) (st := []) (d1 := 1) (by decide +kernel) rfl rfl rfl rfl (by decide) (Fr108 e58) ?_
                        show m_Run X _ _ 132 233 [(0, .ref 7), (1, .int x1)] [] (hO R g56) _ _
                        refine m_go (L := [(233, .goto 98, 3, 0, 0)]) (pc1 := 331) (lv1 := [(0, .ref 7), (1, .int x1)]) (st1 := []) (h1 := hO R g56) (by decide +kernel) rfl ?_
                        cases h
                        exact m_rv (by decide +kernel)
                      · exact m_cx (q := (230, .invokevirtual 217, 3, 108, 4)) (a := 108) (vs := [.ref 7, .int (9 : Int32), .int (46 : Int32), .int (47 : Int32), .int (0 : Int32)]) (st := []) (d1 := 1) (by decide +kernel) (by decide +kernel) rfl rfl rfl rfl (by decide) (Fr108 e58)
                · rw [if_neg c52] at h
                  by_cases c60 : x1 = 48
                  · rw [if_pos c60] at h
                    refine m_go1 (q := (1, .tableswitch 326 40 50 #[59, 72, 102, 152, 162, 169, 190, 197, 235, 326, 251], 59, 0, 0)) (pc1 := 236) (lv1 := [(0, .ref 7), (1, .int x1)]) (st1 := []) (h1 := hO R g) (by decide +kernel) (m_swx (fun z => m_loc m_ft X (.tableswitch 326 40 50 #[59, 72, 102, 152, 162, 169, 190, 197, 235, 326, 251]) 0 0 1 [(0, .ref 7), (1, .int x1)] (.int z :: []) (hO R g)) c60 rfl) ?_
                    refine m_go (L := [(236, .aload_n 0, 1, 0, 0), (237, .sipush 205, 3, 0, 0), (240, .bipush 50, 2, 0, 0), (242, .sipush 306, 3, 0, 0), (245, .iconst 0, 1, 0, 0)]) (pc1 := 246) (lv1 := [(0, .ref 7), (1, .int x1)]) (st1 := [.int (0 : Int32), .int (306 : Int32), .int (50 : Int32), .int (205 : Int32), .ref 7]) (h1 := hO R g) (by decide +kernel) rfl ?_
                    rcases m_cv_inv h with ⟨g61, e63, h⟩ | ⟨y64, g61, e63, rfl, rfl⟩
                    · refine m_ca (q := (246, .invokevirtual 217, 3, 108, 4)) (a := 108) (vs := [.ref 7, .int (205 : Int32), .int (50 : Int32), .int (306 : Int32), .int (0 : Int32)]) (st := []) (d1 := 1) (by decide +kernel) rfl rfl rfl rfl (by decide) (Fr108 e63) ?_
                      show m_Run X _ _ 132 249 [(0, .ref 7), (1, .int x1)] [] (hO R g61) _ _
                      refine m_go (L := [(249, .goto 82, 3, 0, 0)]) (pc1 := 331) (lv1 := [(0, .ref 7), (1, .int x1)]) (st1 := []) (h1 := hO R g61) (by decide +kernel) rfl ?_
                      cases h
                      exact m_rv (by decide +kernel)
                    · exact m_cx (q := (246, .invokevirtual 217, 3, 108, 4)) (a := 108) (vs := [.ref 7, .int (205 : Int32), .int (50 : Int32), .int (306 : Int32), .int (0 : Int32)]) (st := []) (d1 := 1) (by decide +kernel) (by decide +kernel) rfl rfl rfl rfl (by decide) (Fr108 e63)
                  · rw [if_neg c60] at h
                    by_cases c65 : x1 = 50
                    · rw [if_pos c65] at h
                      refine m_go1 (q := (1, .tableswitch 326 40 50 #[59, 72, 102, 152, 162, 169, 190, 197, 235, 326, 251], 59, 0, 0)) (pc1 := 252) (lv1 := [(0, .ref 7), (1, .int x1)]) (st1 := []) (h1 := hO R g) (by decide +kernel) (m_swx (fun z => m_loc m_ft X (.tableswitch 326 40 50 #[59, 72, 102, 152, 162, 169, 190, 197, 235, 326, 251]) 0 0 1 [(0, .ref 7), (1, .int x1)] (.int z :: []) (hO R g)) c65 rfl) ?_
                      refine m_gob (c := (g.1 26) = (25 : Int32)) (t := 314) (f := 261) (L := [(252, .aload_n 0, 1, 0, 0), (253, .getfield 142, 3, 6, 3), (256, .bipush 25, 2, 0, 0), (258, .if_icmp .eq 56, 3, 0, 0)]) (lv1 := [(0, .ref 7), (1, .int x1)]) (st1 := []) (h1 := hO R g) (by decide +kernel) rfl (fun c66 => ?_) (fun c66 => ?_)
                      · rw [if_pos c66] at h
                        exact m_r0 _ _ _ _ _ _ _ _ _ _ (m_pick [0] rfl) (Fr132_314 h)
                      · rw [if_neg c66] at h
                        refine m_gob (c := (g.1 26) = (1 : Int32)) (t := 314) (f := 269) (L := [(261, .aload_n 0, 1, 0, 0), (262, .getfield 142, 3, 6, 3), (265, .iconst 1, 1, 0, 0), (266, .if_icmp .eq 48, 3, 0, 0)]) (lv1 := [(0, .ref 7), (1, .int x1)]) (st1 := []) (h1 := hO R g) (by decide +kernel) rfl (fun c71 => ?_) (fun c71 => ?_)
                        · rw [if_pos c71] at h
                          exact m_r0 _ _ _ _ _ _ _ _ _ _ (m_pick [0] rfl) (Fr132_314 h)
                        · rw [if_neg c71] at h
                          refine m_gob (c := (g.1 26) = (26 : Int32)) (t := 314) (f := 278) (L := [(269, .aload_n 0, 1, 0, 0), (270, .getfield 142, 3, 6, 3), (273, .bipush 26, 2, 0, 0), (275, .if_icmp .eq 39, 3, 0, 0)]) (lv1 := [(0, .ref 7), (1, .int x1)]) (st1 := []) (h1 := hO R g) (by decide +kernel) rfl (fun c72 => ?_) (fun c72 => ?_)
                          · rw [if_pos c72] at h
                            exact m_r0 _ _ _ _ _ _ _ _ _ _ (m_pick [0] rfl) (Fr132_314 h)
                          · rw [if_neg c72] at h
                            refine m_gob (c := (g.1 26) = (28 : Int32)) (t := 314) (f := 287) (L := [(278, .aload_n 0, 1, 0, 0), (279, .getfield 142, 3, 6, 3), (282, .bipush 28, 2, 0, 0), (284, .if_icmp .eq 30, 3, 0, 0)]) (lv1 := [(0, .ref 7), (1, .int x1)]) (st1 := []) (h1 := hO R g) (by decide +kernel) rfl (fun c73 => ?_) (fun c73 => ?_)
                            · rw [if_pos c73] at h
                              exact m_r0 _ _ _ _ _ _ _ _ _ _ (m_pick [0] rfl) (Fr132_314 h)
                            · rw [if_neg c73] at h
                              refine m_gob (c := (g.1 26) = (30 : Int32)) (t := 314) (f := 296) (L := [(287, .aload_n 0, 1, 0, 0), (288, .getfield 142, 3, 6, 3), (291, .bipush 30, 2, 0, 0), (293, .if_icmp .eq 21, 3, 0, 0)]) (lv1 := [(0, .ref 7), (1, .int x1)]) (st1 := []) (h1 := hO R g) (by decide +kernel) rfl (fun c74 => ?_) (fun c74 => ?_)
                              · rw [if_pos c74] at h
                                exact m_r0 _ _ _ _ _ _ _ _ _ _ (m_pick [0] rfl) (Fr132_314 h)
                              · rw [if_neg c74] at h
                                refine m_gob (c := (g.1 26) = (31 : Int32)) (t := 314) (f := 305) (L := [(296, .aload_n 0, 1, 0, 0), (297, .getfield 142, 3, 6, 3), (300, .bipush 31, 2, 0, 0), (302, .if_icmp .eq 12, 3, 0, 0)]) (lv1 := [(0, .ref 7), (1, .int x1)]) (st1 := []) (h1 := hO R g) (by decide +kernel) rfl (fun c75 => ?_) (fun c75 => ?_)
                                · rw [if_pos c75] at h
                                  exact m_r0 _ _ _ _ _ _ _ _ _ _ (m_pick [0] rfl) (Fr132_314 h)
                                · rw [if_neg c75] at h
                                  refine m_gob (c := ¬ (g.1 26) = (32 : Int32)) (t := 331) (f := 314) (L := [(305, .aload_n 0, 1, 0, 0), (306, .getfield 142, 3, 6, 3), (309, .bipush 32, 2, 0, 0), (311, .if_icmp .ne 20, 3, 0, 0)]) (lv1 := [(0, .ref 7), (1, .int x1)]) (st1 := []) (h1 := hO R g) (by decide +kernel) rfl (fun c76 => ?_) (fun c76 => ?_)
                                  · rw [if_pos c76] at h
                                    cases h
                                    exact m_rv (by decide +kernel)
                                  · rw [if_neg c76] at h
                                    exact m_r0 _ _ _ _ _ _ _ _ _ _ (m_pick [0] rfl) (Fr132_314 h)
                    · rw [if_neg c65] at h
                      have hx : m_loc m_ft X (.tableswitch 326 40 50 #[59, 72, 102, 152, 162, 169, 190, 197, 235, 326, 251]) 0 0 1 [(0, .ref 7), (1, .int x1)] ([.int x1]) (hO R g) = some (327, [(0, .ref 7), (1, .int x1)], [], hO R g) := by
                        by_cases hz : Int32.toInt x1 < 40 ∨ 50 < Int32.toInt x1
                        · exact if_pos hz
                        · have z0 := m_ne (k := 40) (z := 40) (by decide) c1; have z1 := m_ne (k := 41) (z := 41) (by decide) c6; have z2 := m_ne (k := 42) (z := 42) (by decide) c16; have z3 := m_ne (k := 43) (z := 43) (by decide) c31; have z4 := m_ne (k := 44) (z := 44) (by decide) c36; have z5 := m_ne (k := 45) (z := 45) (by decide) c41; have z6 := m_ne (k := 46) (z := 46) (by decide) c47; have z7 := m_ne (k := 47) (z := 47) (by decide) c52; have z8 := m_ne (k := 48) (z := 48) (by decide) c60; have z9 := m_ne (k := 50) (z := 50) (by decide) c65; have hw : x1 = 49 := by
                            have hv : Int32.toInt x1 = 49 := by omega
                            exact Int32.toInt_inj.mp hv
                          exact m_swx (fun z => m_loc m_ft X (.tableswitch 326 40 50 #[59, 72, 102, 152, 162, 169, 190, 197, 235, 326, 251]) 0 0 1 [(0, .ref 7), (1, .int x1)] (.int z :: []) (hO R g)) hw rfl
                      refine m_go1 (q := (1, .tableswitch 326 40 50 #[59, 72, 102, 152, 162, 169, 190, 197, 235, 326, 251], 59, 0, 0)) (by decide +kernel) hx ?_
                      refine m_go (L := [(327, .aload_n 0, 1, 0, 0)]) (pc1 := 328) (lv1 := [(0, .ref 7), (1, .int x1)]) (st1 := [.ref 7]) (h1 := hO R g) (by decide +kernel) rfl ?_
                      rcases m_cv_inv h with ⟨g77, e79, h⟩ | ⟨y80, g77, e79, rfl, rfl⟩
                      · refine m_ca (q := (328, .invokevirtual 231, 3, 135, 0)) (a := 135) (vs := [.ref 7]) (st := []) (d1 := 2) (by decide +kernel) rfl rfl rfl rfl (by decide) (Fr135 e79) ?_
                        show m_Run X _ _ 132 331 [(0, .ref 7), (1, .int x1)] [] (hO R g77) _ _
                        cases h
                        exact m_rv (by decide +kernel)
                      · exact m_cx (q := (328, .invokevirtual 231, 3, 135, 0)) (a := 135) (vs := [.ref 7]) (st := []) (d1 := 2) (by decide +kernel) (by decide +kernel) rfl rfl rfl rfl (by decide) (Fr135 e79)
def f125 (n : Nat) (g : mG) : mZ := m_ci (f115 n g) (fun v2 g1 => m_ci (f115 n g1) (fun v6 g5 => m_ci (f117 n g5) (fun v10 g9 => m_cv (f126 n v6 v2 v10 g9) (fun g13 => m_cv (f109 n (9 : Int32) ((g13.1 36) - (1 : Int32)) g13) (fun g17 => some (.inl none, g17))))))
theorem Fr125 {R : Nat} {g g' : mG} {o : mO} (h : f125 n g = some (o, g')) : m_Run X (1) (m_ko o) 125 0 [(0, .ref 7)] [] (hO R g) o (hO R g') := by
  unfold f125 at h
  refine m_go (L := [(0, .aload_n 0, 1, 0, 0)]) (pc1 := 1) (lv1 := [(0, .ref 7)]) (st1 := [.ref 7]) (h1 := hO R g) (by decide +kernel) rfl ?_
  rcases m_ci_inv h with ⟨v2, g1, e3, h⟩ | ⟨y4, g1, e3, rfl, rfl⟩
  · refine m_ca (q := (1, .invokevirtual 238, 3, 115, 0)) (a := 115) (vs := [.ref 7]) (st := []) (d1 := 0) (by decide +kernel) rfl rfl rfl rfl (by decide) (Fr115 e3) ?_
    show m_Run X _ _ 125 4 [(0, .ref 7)] [.int v2] (hO R g1) _ _
    refine m_go (L := [(4, .istore_n 1, 1, 0, 0), (5, .aload_n 0, 1, 0, 0)]) (pc1 := 6) (lv1 := [(0, .ref 7), (1, .int v2)]) (st1 := [.ref 7]) (h1 := hO R g1) (by decide +kernel) rfl ?_
    rcases m_ci_inv h with ⟨v6, g5, e7, h⟩ | ⟨y8, g5, e7, rfl, rfl⟩
    · refine m_ca (q := (6, .invokevirtual 238, 3, 115, 0)) (a := 115) (vs := [.ref 7]) (st := []) (d1 := 0) (by decide +kernel) rfl rfl rfl rfl (by decide) (Fr115 e7) ?_
      show m_Run X _ _ 125 9 [(0, .ref 7), (1, .int v2)] [.int v6] (hO R g5) _ _
      refine m_go (L := [(9, .istore_n 2, 1, 0, 0), (10, .aload_n 0, 1, 0, 0)]) (pc1 := 11) (lv1 := [(0, .ref 7), (1, .int v2), (2, .int v6)]) (st1 := [.ref 7]) (h1 := hO R g5) (by decide +kernel) rfl ?_
      rcases m_ci_inv h with ⟨v10, g9, e11, h⟩ | ⟨y12, g9, e11, rfl, rfl⟩
      · refine m_ca (q := (11, .invokevirtual 234, 3, 117, 0)) (a := 117) (vs := [.ref 7]) (st := []) (d1 := 0) (by decide +kernel) rfl rfl rfl rfl (by decide) (Fr117 e11) ?_
        show m_Run X _ _ 125 14 [(0, .ref 7), (1, .int v2), (2, .int v6)] [.int v10] (hO R g9) _ _
        refine m_go (L := [(14, .istore_n 3, 1, 0, 0), (15, .aload_n 0, 1, 0, 0), (16, .iload_n 2, 1, 0, 0), (17, .iload_n 1, 1, 0, 0), (18, .iload_n 3, 1, 0, 0)]) (pc1 := 19) (lv1 := [(0, .ref 7), (1, .int v2), (2, .int v6), (3, .int v10)]) (st1 := [.int v10, .int v2, .int v6, .ref 7]) (h1 := hO R g9) (by decide +kernel) rfl ?_
        rcases m_cv_inv h with ⟨g13, e15, h⟩ | ⟨y16, g13, e15, rfl, rfl⟩
        · refine m_ca (q := (19, .invokevirtual 211, 3, 126, 3)) (a := 126) (vs := [.ref 7, .int v6, .int v2, .int v10]) (st := []) (d1 := 0) (by decide +kernel) rfl rfl rfl rfl (by decide) (Fr126 e15) ?_
          show m_Run X _ _ 125 22 [(0, .ref 7), (1, .int v2), (2, .int v6), (3, .int v10)] [] (hO R g13) _ _
          refine m_go (L := [(22, .aload_n 0, 1, 0, 0), (23, .bipush 9, 2, 0, 0), (25, .aload_n 0, 1, 0, 0), (26, .getfield 202, 3, 6, 20), (29, .iconst 1, 1, 0, 0), (30, .isub, 1, 0, 0)]) (pc1 := 31) (lv1 := [(0, .ref 7), (1, .int v2), (2, .int v6), (3, .int v10)]) (st1 := [.int ((g13.1 36) - (1 : Int32)), .int (9 : Int32), .ref 7]) (h1 := hO R g13) (by decide +kernel) rfl ?_
          rcases m_cv_inv h with ⟨g17, e19, h⟩ | ⟨y20, g17, e19, rfl, rfl⟩
          · refine m_ca (q := (31, .invokevirtual 221, 3, 109, 2)) (a := 109) (vs := [.ref 7, .int (9 : Int32), .int ((g13.1 36) - (1 : Int32))]) (st := []) (d1 := 0) (by decide +kernel) rfl rfl rfl rfl (by decide) (Fr109 e19) ?_
            show m_Run X _ _ 125 34 [(0, .ref 7), (1, .int v2), (2, .int v6), (3, .int v10)] [] (hO R g17) _ _
            cases h
            exact m_rv (by decide +kernel)
          · exact m_cx (q := (31, .invokevirtual 221, 3, 109, 2)) (a := 109) (vs := [.ref 7, .int (9 : Int32), .int ((g13.1 36) - (1 : Int32))]) (st := []) (d1 := 0) (by decide +kernel) (by decide +kernel) rfl rfl rfl rfl (by decide) (Fr109 e19)
        · exact m_cx (q := (19, .invokevirtual 211, 3, 126, 3)) (a := 126) (vs := [.ref 7, .int v6, .int v2, .int v10]) (st := []) (d1 := 0) (by decide +kernel) (by decide +kernel) rfl rfl rfl rfl (by decide) (Fr126 e15)
      · exact m_cx (q := (11, .invokevirtual 234, 3, 117, 0)) (a := 117) (vs := [.ref 7]) (st := []) (d1 := 0) (by decide +kernel) (by decide +kernel) rfl rfl rfl rfl (by decide) (Fr117 e11)
    · exact m_cx (q := (6, .invokevirtual 238, 3, 115, 0)) (a := 115) (vs := [.ref 7]) (st := []) (d1 := 0) (by decide +kernel) (by decide +kernel) rfl rfl rfl rfl (by decide) (Fr115 e7)
  · exact m_cx (q := (1, .invokevirtual 238, 3, 115, 0)) (a := 115) (vs := [.ref 7]) (st := []) (d1 := 0) (by decide +kernel) (by decide +kernel) rfl rfl rfl rfl (by decide) (Fr115 e3)
def f127_37 (n : Nat) (g : mG) : mZ := m_cv (f103 n (g.1 27) g) (fun g2 => some (.inl none, g2))
theorem Fr127_37 {R : Nat} {g g' : mG} {o : mO} (h : f127_37 n g = some (o, g')) : m_Run X (4) (m_ko o) 127 37 [(0, .ref 7)] [] (hO R g) o (hO R g') := by
  unfold f127_37 at h
  refine m_go (L := [(37, .aload_n 0, 1, 0, 0), (38, .aload_n 0, 1, 0, 0), (39, .getfield 148, 3, 6, 4)]) (pc1 := 42) (lv1 := [(0, .ref 7)]) (st1 := [.int (g.1 27), .ref 7]) (h1 := hO R g) (by decide +kernel) rfl ?_
  rcases m_cv_inv h with ⟨g2, e4, h⟩ | ⟨y5, g2, e4, rfl, rfl⟩
  · refine m_ca (q := (42, .invokevirtual 190, 3, 103, 1)) (a := 103) (vs := [.ref 7, .int (g.1 27)]) (st := []) (d1 := 0) (by decide +kernel) rfl rfl rfl rfl (by decide) (Fr103 e4) ?_
    show m_Run X _ _ 127 45 [(0, .ref 7)] [] (hO R g2) _ _
    cases h
    exact m_rv (by decide +kernel)
  · exact m_cx (q := (42, .invokevirtual 190, 3, 103, 1)) (a := 103) (vs := [.ref 7, .int (g.1 27)]) (st := []) (d1 := 0) (by decide +kernel) (by decide +kernel) rfl rfl rfl rfl (by decide) (Fr103 e4)
def f127 (n : Nat) (g : mG) : mZ := if ¬ (g.1 26) = (1 : Int32) then f127_37 n g else m_ci (f112 n (g.1 27) ((g.1 28) - (g.1 27)) g) (fun v7 g6 => if 0 ≤ v7 then f127_37 n g6 else if ¬ (g6.1 36) = (8 : Int32) then m_cv (f107 n (g6.1 27) g6) (fun g12 => m_cv (f107 n ((g12.1 28) - (g12.1 27)) g12) (fun g16 => m_cv (f92 n g16) (fun g20 => some (.inl none, g20)))) else f127_37 n g6)
theorem Fr127 {R : Nat} {g g' : mG} {o : mO} (h : f127 n g = some (o, g')) : m_Run X (4) (m_ko o) 127 0 [(0, .ref 7)] [] (hO R g) o (hO R g') := by
  unfold f127 at h
  refine m_gob (c := ¬ (g.1 26) = (1 : Int32)) (t := 37) (f := 8) (L := [(0, .aload_n 0, 1, 0, 0), (1, .getfield 142, 3, 6, 3), (4, .iconst 1, 1, 0, 0), (5, .if_icmp .ne 32, 3, 0, 0)]) (lv1 := [(0, .ref 7)]) (st1 := []) (h1 := hO R g) (by decide +kernel) rfl (fun c1 => ?_) (fun c1 => ?_)
  · rw [if_pos c1] at h
    exact m_r0 _ _ _ _ _ _ _ _ _ _ (m_pick [0] rfl) (Fr127_37 h)
  · rw [if_neg c1] at h
    refine m_go (L := [(8, .aload_n 0, 1, 0, 0), (9, .aload_n 0, 1, 0, 0), (10, .getfield 148, 3, 6, 4), (13, .aload_n 0, 1, 0, 0), (14, .getfield 133, 3, 6, 5), (17, .aload_n 0, 1, 0, 0), (18, .getfield 148, 3, 6, 4), (21, .isub, 1, 0, 0)]) (pc1 := 22) (lv1 := [(0, .ref 7)]) (st1 := [.int ((g.1 28) - (g.1 27)), .int (g.1 27), .ref 7]) (h1 := hO R g) (by decide +kernel) rfl ?_
    rcases m_ci_inv h with ⟨v7, g6, e8, h⟩ | ⟨y9, g6, e8, rfl, rfl⟩
    · refine m_ca (q := (22, .invokevirtual 208, 3, 112, 2)) (a := 112) (vs := [.ref 7, .int (g.1 27), .int ((g.1 28) - (g.1 27))]) (st := []) (d1 := 1) (by decide +kernel) rfl rfl rfl rfl (by decide) (Fr112 e8) ?_
      show m_Run X _ _ 127 25 [(0, .ref 7)] [.int v7] (hO R g6) _ _
      refine m_gob (c := 0 ≤ v7) (t := 37) (f := 28) (L := [(25, .ifCond .ge 12, 3, 0, 0)]) (lv1 := [(0, .ref 7)]) (st1 := []) (h1 := hO R g6) (by decide +kernel) rfl (fun c10 => ?_) (fun c10 => ?_)
      · rw [if_pos c10] at h
        exact m_r0 _ _ _ _ _ _ _ _ _ _ (m_pick [0] rfl) (Fr127_37 h)
      · rw [if_neg c10] at h
        refine m_gob (c := ¬ (g6.1 36) = (8 : Int32)) (t := 46) (f := 37) (L := [(28, .aload_n 0, 1, 0, 0), (29, .getfield 202, 3, 6, 20), (32, .bipush 8, 2, 0, 0), (34, .if_icmp .ne 12, 3, 0, 0)]) (lv1 := [(0, .ref 7)]) (st1 := []) (h1 := hO R g6) (by decide +kernel) rfl (fun c11 => ?_) (fun c11 => ?_)
        · rw [if_pos c11] at h
          refine m_go (L := [(46, .aload_n 0, 1, 0, 0), (47, .aload_n 0, 1, 0, 0), (48, .getfield 148, 3, 6, 4)]) (pc1 := 51) (lv1 := [(0, .ref 7)]) (st1 := [.int (g6.1 27), .ref 7]) (h1 := hO R g6) (by decide +kernel) rfl ?_
          rcases m_cv_inv h with ⟨g12, e14, h⟩ | ⟨y15, g12, e14, rfl, rfl⟩
          · refine m_ca (q := (51, .invokevirtual 214, 3, 107, 1)) (a := 107) (vs := [.ref 7, .int (g6.1 27)]) (st := []) (d1 := 0) (by decide +kernel) rfl rfl rfl rfl (by decide) (Fr107 e14) ?_
            show m_Run X _ _ 127 54 [(0, .ref 7)] [] (hO R g12) _ _
            refine m_go (L := [(54, .aload_n 0, 1, 0, 0), (55, .aload_n 0, 1, 0, 0), (56, .getfield 133, 3, 6, 5), (59, .aload_n 0, 1, 0, 0), (60, .getfield 148, 3, 6, 4), (63, .isub, 1, 0, 0)]) (pc1 := 64) (lv1 := [(0, .ref 7)]) (st1 := [.int ((g12.1 28) - (g12.1 27)), .ref 7]) (h1 := hO R g12) (by decide +kernel) rfl ?_
            rcases m_cv_inv h with ⟨g16, e18, h⟩ | ⟨y19, g16, e18, rfl, rfl⟩
            · refine m_ca (q := (64, .invokevirtual 214, 3, 107, 1)) (a := 107) (vs := [.ref 7, .int ((g12.1 28) - (g12.1 27))]) (st := []) (d1 := 0) (by decide +kernel) rfl rfl rfl rfl (by decide) (Fr107 e18) ?_
              show m_Run X _ _ 127 67 [(0, .ref 7)] [] (hO R g16) _ _
              refine m_go (L := [(67, .aload_n 0, 1, 0, 0)]) (pc1 := 68) (lv1 := [(0, .ref 7)]) (st1 := [.ref 7]) (h1 := hO R g16) (by decide +kernel) rfl ?_
              rcases m_cv_inv h with ⟨g20, e22, h⟩ | ⟨y23, g20, e22, rfl, rfl⟩
              · refine m_ca (q := (68, .invokevirtual 187, 3, 92, 0)) (a := 92) (vs := [.ref 7]) (st := []) (d1 := 3) (by decide +kernel) rfl rfl rfl rfl (by decide) (Fr92 e22) ?_
                show m_Run X _ _ 127 71 [(0, .ref 7)] [] (hO R g20) _ _
                cases h
                exact m_rv (by decide +kernel)
              · exact m_cx (q := (68, .invokevirtual 187, 3, 92, 0)) (a := 92) (vs := [.ref 7]) (st := []) (d1 := 3) (by decide +kernel) (by decide +kernel) rfl rfl rfl rfl (by decide) (Fr92 e22)
            · exact m_cx (q := (64, .invokevirtual 214, 3, 107, 1)) (a := 107) (vs := [.ref 7, .int ((g12.1 28) - (g12.1 27))]) (st := []) (d1 := 0) (by decide +kernel) (by decide +kernel) rfl rfl rfl rfl (by decide) (Fr107 e18)
          · exact m_cx (q := (51, .invokevirtual 214, 3, 107, 1)) (a := 107) (vs := [.ref 7, .int (g6.1 27)]) (st := []) (d1 := 0) (by decide +kernel) (by decide +kernel) rfl rfl rfl rfl (by decide) (Fr107 e14)
        · rw [if_neg c11] at h
          exact m_r0 _ _ _ _ _ _ _ _ _ _ (m_pick [0] rfl) (Fr127_37 h)
    · exact m_cx (q := (22, .invokevirtual 208, 3, 112, 2)) (a := 112) (vs := [.ref 7, .int (g.1 27), .int ((g.1 28) - (g.1 27))]) (st := []) (d1 := 1) (by decide +kernel) (by decide +kernel) rfl rfl rfl rfl (by decide) (Fr112 e8)
def f116 (n : Nat) (x1 : Int32) (x2 : Int32) (g : mG) : mZ := m_ci (f117 n g) (fun v2 g1 => if v2 = x1 then some (.inl none, g1) else m_cv (f103 n x2 g1) (fun g6 => some (.inl none, g6)))
theorem Fr116 {R : Nat} {x1 : Int32} {x2 : Int32} {g g' : mG} {o : mO} (h : f116 n x1 x2 g = some (o, g')) : m_Run X (1) (m_ko o) 116 0 [(0, .ref 7), (1, .int x1), (2, .int x2)] [] (hO R g) o (hO R g') := by
  unfold f116 at h
  refine m_go (L := [(0, .aload_n 0, 1, 0, 0)]) (pc1 := 1) (lv1 := [(0, .ref 7), (1, .int x1), (2, .int x2)]) (st1 := [.ref 7]) (h1 := hO R g) (by decide +kernel) rfl ?_
  rcases m_ci_inv h with ⟨v2, g1, e3, h⟩ | ⟨y4, g1, e3, rfl, rfl⟩
  · refine m_ca (q := (1, .invokevirtual 234, 3, 117, 0)) (a := 117) (vs := [.ref 7]) (st := []) (d1 := 0) (by decide +kernel) rfl rfl rfl rfl (by decide) (Fr117 e3) ?_
    show m_Run X _ _ 116 4 [(0, .ref 7), (1, .int x1), (2, .int x2)] [.int v2] (hO R g1) _ _
    refine m_gob (c := v2 = x1) (t := 13) (f := 8) (L := [(4, .iload_n 1, 1, 0, 0), (5, .if_icmp .eq 8, 3, 0, 0)]) (lv1 := [(0, .ref 7), (1, .int x1), (2, .int x2)]) (st1 := []) (h1 := hO R g1) (by decide +kernel) rfl (fun c5 => ?_) (fun c5 => ?_)
    · rw [if_pos c5] at h
      cases h
      exact m_rv (by decide +kernel)
    · rw [if_neg c5] at h
      refine m_go (L := [(8, .aload_n 0, 1, 0, 0), (9, .iload_n 2, 1, 0, 0)]) (pc1 := 10) (lv1 := [(0, .ref 7), (1, .int x1), (2, .int x2)]) (st1 := [.int x2, .ref 7]) (h1 := hO R g1) (by decide +kernel) rfl ?_
      rcases m_cv_inv h with ⟨g6, e8, h⟩ | ⟨y9, g6, e8, rfl, rfl⟩
      · refine m_ca (q := (10, .invokevirtual 190, 3, 103, 1)) (a := 103) (vs := [.ref 7, .int x2]) (st := []) (d1 := 0) (by decide +kernel) rfl rfl rfl rfl (by decide) (Fr103 e8) ?_
        show m_Run X _ _ 116 13 [(0, .ref 7), (1, .int x1), (2, .int x2)] [] (hO R g6) _ _
        cases h
        exact m_rv (by decide +kernel)
      · exact m_cx (q := (10, .invokevirtual 190, 3, 103, 1)) (a := 103) (vs := [.ref 7, .int x2]) (st := []) (d1 := 0) (by decide +kernel) (by decide +kernel) rfl rfl rfl rfl (by decide) (Fr103 e8)
  · exact m_cx (q := (1, .invokevirtual 234, 3, 117, 0)) (a := 117) (vs := [.ref 7]) (st := []) (d1 := 0) (by decide +kernel) (by decide +kernel) rfl rfl rfl rfl (by decide) (Fr117 e3)
def f128 (n : Nat) (g : mG) : mZ := m_ci (f112 n (g.1 27) ((g.1 28) - (g.1 27)) g) (fun v2 g1 => if 0 ≤ v2 then m_cv (f107 n v2 g1) (fun g6 => m_cv (f107 n (g6.1 27) g6) (fun g10 => m_cv (f92 n g10) (fun g14 => some (.inl none, g14)))) else m_cv (f103 n (g1.1 27) g1) (fun g18 => some (.inl none, g18)))
theorem Fr128 {R : Nat} {g g' : mG} {o : mO} (h : f128 n g = some (o, g')) : m_Run X (4) (m_ko o) 128 0 [(0, .ref 7)] [] (hO R g) o (hO R g') := by
  unfold f128 at h
  refine m_go (L := [(0, .aload_n 0, 1, 0, 0), (1, .aload_n 0, 1, 0, 0), (2, .getfield 148, 3, 6, 4), (5, .aload_n 0, 1, 0, 0), (6, .getfield 133, 3, 6, 5), (9, .aload_n 0, 1, 0, 0), (10, .getfield 148, 3, 6, 4), (13, .isub, 1, 0, 0)]) (pc1 := 14) (lv1 := [(0, .ref 7)]) (st1 := [.int ((g.1 28) - (g.1 27)), .int (g.1 27), .ref 7]) (h1 := hO R g) (by decide +kernel) rfl ?_
  rcases m_ci_inv h with ⟨v2, g1, e3, h⟩ | ⟨y4, g1, e3, rfl, rfl⟩
  · refine m_ca (q := (14, .invokevirtual 208, 3, 112, 2)) (a := 112) (vs := [.ref 7, .int (g.1 27), .int ((g.1 28) - (g.1 27))]) (st := []) (d1 := 1) (by decide +kernel) rfl rfl rfl rfl (by decide) (Fr112 e3) ?_
    show m_Run X _ _ 128 17 [(0, .ref 7)] [.int v2] (hO R g1) _ _
    refine m_gob (c := 0 ≤ v2) (t := 31) (f := 22) (L := [(17, .istore_n 1, 1, 0, 0), (18, .iload_n 1, 1, 0, 0), (19, .ifCond .ge 12, 3, 0, 0)]) (lv1 := [(0, .ref 7), (1, .int v2)]) (st1 := []) (h1 := hO R g1) (by decide +kernel) rfl (fun c5 => ?_) (fun c5 => ?_)
    · rw [if_pos c5] at h
      refine m_go (L := [(31, .aload_n 0, 1, 0, 0), (32, .iload_n 1, 1, 0, 0)]) (pc1 := 33) (lv1 := [(0, .ref 7), (1, .int v2)]) (st1 := [.int v2, .ref 7]) (h1 := hO R g1) (by decide +kernel) rfl ?_
      rcases m_cv_inv h with ⟨g6, e8, h⟩ | ⟨y9, g6, e8, rfl, rfl⟩
      · refine m_ca (q := (33, .invokevirtual 214, 3, 107, 1)) (a := 107) (vs := [.ref 7, .int v2]) (st := []) (d1 := 0) (by decide +kernel) rfl rfl rfl rfl (by decide) (Fr107 e8) ?_
        show m_Run X _ _ 128 36 [(0, .ref 7), (1, .int v2)] [] (hO R g6) _ _
        refine m_go (L := [(36, .aload_n 0, 1, 0, 0), (37, .aload_n 0, 1, 0, 0), (38, .getfield 148, 3, 6, 4)]) (pc1 := 41) (lv1 := [(0, .ref 7), (1, .int v2)]) (st1 := [.int (g6.1 27), .ref 7]) (h1 := hO R g6) (by decide +kernel) rfl ?_
        rcases m_cv_inv h with ⟨g10, e12, h⟩ | ⟨y13, g10, e12, rfl, rfl⟩
        · refine m_ca (q := (41, .invokevirtual 214, 3, 107, 1)) (a := 107) (vs := [.ref 7, .int (g6.1 27)]) (st := []) (d1 := 0) (by decide +kernel) rfl rfl rfl rfl (by decide) (Fr107 e12) ?_
          show m_Run X _ _ 128 44 [(0, .ref 7), (1, .int v2)] [] (hO R g10) _ _
          refine m_go (L := [(44, .aload_n 0, 1, 0, 0)]) (pc1 := 45) (lv1 := [(0, .ref 7), (1, .int v2)]) (st1 := [.ref 7]) (h1 := hO R g10) (by decide +kernel) rfl ?_
          rcases m_cv_inv h with ⟨g14, e16, h⟩ | ⟨y17, g14, e16, rfl, rfl⟩
          · refine m_ca (q := (45, .invokevirtual 187, 3, 92, 0)) (a := 92) (vs := [.ref 7]) (st := []) (d1 := 3) (by decide +kernel) rfl rfl rfl rfl (by decide) (Fr92 e16) ?_
            show m_Run X _ _ 128 48 [(0, .ref 7), (1, .int v2)] [] (hO R g14) _ _
            cases h
            exact m_rv (by decide +kernel)
          · exact m_cx (q := (45, .invokevirtual 187, 3, 92, 0)) (a := 92) (vs := [.ref 7]) (st := []) (d1 := 3) (by decide +kernel) (by decide +kernel) rfl rfl rfl rfl (by decide) (Fr92 e16)
        · exact m_cx (q := (41, .invokevirtual 214, 3, 107, 1)) (a := 107) (vs := [.ref 7, .int (g6.1 27)]) (st := []) (d1 := 0) (by decide +kernel) (by decide +kernel) rfl rfl rfl rfl (by decide) (Fr107 e12)
      · exact m_cx (q := (33, .invokevirtual 214, 3, 107, 1)) (a := 107) (vs := [.ref 7, .int v2]) (st := []) (d1 := 0) (by decide +kernel) (by decide +kernel) rfl rfl rfl rfl (by decide) (Fr107 e8)
    · rw [if_neg c5] at h
      refine m_go (L := [(22, .aload_n 0, 1, 0, 0), (23, .aload_n 0, 1, 0, 0), (24, .getfield 148, 3, 6, 4)]) (pc1 := 27) (lv1 := [(0, .ref 7), (1, .int v2)]) (st1 := [.int (g1.1 27), .ref 7]) (h1 := hO R g1) (by decide +kernel) rfl ?_
      rcases m_cv_inv h with ⟨g18, e20, h⟩ | ⟨y21, g18, e20, rfl, rfl⟩
      · refine m_ca (q := (27, .invokevirtual 190, 3, 103, 1)) (a := 103) (vs := [.ref 7, .int (g1.1 27)]) (st := []) (d1 := 0) (by decide +kernel) rfl rfl rfl rfl (by decide) (Fr103 e20) ?_
        show m_Run X _ _ 128 30 [(0, .ref 7), (1, .int v2)] [] (hO R g18) _ _
        cases h
        exact m_rv (by decide +kernel)
      · exact m_cx (q := (27, .invokevirtual 190, 3, 103, 1)) (a := 103) (vs := [.ref 7, .int (g1.1 27)]) (st := []) (d1 := 0) (by decide +kernel) (by decide +kernel) rfl rfl rfl rfl (by decide) (Fr103 e20)
  · exact m_cx (q := (14, .invokevirtual 208, 3, 112, 2)) (a := 112) (vs := [.ref 7, .int (g.1 27), .int ((g.1 28) - (g.1 27))]) (st := []) (d1 := 1) (by decide +kernel) (by decide +kernel) rfl rfl rfl rfl (by decide) (Fr112 e3)
def f131 (n : Nat) (g : mG) : mZ := m_ci (f115 n g) (fun v2 g1 => m_ci (f115 n g1) (fun v6 g5 => m_cv (f109 n (12 : Int32) v6 g5) (fun g9 => m_cv (f123 n v2 g9) (fun g13 => some (.inl none, g13)))))
theorem Fr131 {R : Nat} {g g' : mG} {o : mO} (h : f131 n g = some (o, g')) : m_Run X (1) (m_ko o) 131 0 [(0, .ref 7)] [] (hO R g) o (hO R g') := by
  unfold f131 at h
  refine m_go (L := [(0, .aload_n 0, 1, 0, 0)]) (pc1 := 1) (lv1 := [(0, .ref 7)]) (st1 := [.ref 7]) (h1 := hO R g) (by decide +kernel) rfl ?_
  rcases m_ci_inv h with ⟨v2, g1, e3, h⟩ | ⟨y4, g1, e3, rfl, rfl⟩
  · refine m_ca (q := (1, .invokevirtual 238, 3, 115, 0)) (a := 115) (vs := [.ref 7]) (st := []) (d1 := 0) (by decide +kernel) rfl rfl rfl rfl (by decide) (Fr115 e3) ?_
    show m_Run X _ _ 131 4 [(0, .ref 7)] [.int v2] (hO R g1) _ _
    refine m_go (L := [(4, .istore_n 1, 1, 0, 0), (5, .aload_n 0, 1, 0, 0), (6, .bipush 12, 2, 0, 0), (8, .aload_n 0, 1, 0, 0)]) (pc1 := 9) (lv1 := [(0, .ref 7), (1, .int v2)]) (st1 := [.ref 7, .int (12 : Int32), .ref 7]) (h1 := hO R g1) (by decide +kernel) rfl ?_
    rcases m_ci_inv h with ⟨v6, g5, e7, h⟩ | ⟨y8, g5, e7, rfl, rfl⟩
    · refine m_ca (q := (9, .invokevirtual 238, 3, 115, 0)) (a := 115) (vs := [.ref 7]) (st := [.int (12 : Int32), .ref 7]) (d1 := 0) (by decide +kernel) rfl rfl rfl rfl (by decide) (Fr115 e7) ?_
      show m_Run X _ _ 131 12 [(0, .ref 7), (1, .int v2)] [.int v6, .int (12 : Int32), .ref 7] (hO R g5) _ _
      rcases m_cv_inv h with ⟨g9, e11, h⟩ | ⟨y12, g9, e11, rfl, rfl⟩
      · refine m_ca (q := (12, .invokevirtual 221, 3, 109, 2)) (a := 109) (vs := [.ref 7, .int (12 : Int32), .int v6]) (st := []) (d1 := 0) (by decide +kernel) rfl rfl rfl rfl (by decide) (Fr109 e11) ?_
        show m_Run X _ _ 131 15 [(0, .ref 7), (1, .int v2)] [] (hO R g9) _ _
        refine m_go (L := [(15, .aload_n 0, 1, 0, 0), (16, .iload_n 1, 1, 0, 0)]) (pc1 := 17) (lv1 := [(0, .ref 7), (1, .int v2)]) (st1 := [.int v2, .ref 7]) (h1 := hO R g9) (by decide +kernel) rfl ?_
        rcases m_cv_inv h with ⟨g13, e15, h⟩ | ⟨y16, g13, e15, rfl, rfl⟩
        · refine m_ca (q := (17, .invokevirtual 247, 3, 123, 1)) (a := 123) (vs := [.ref 7, .int v2]) (st := []) (d1 := 0) (by decide +kernel) rfl rfl rfl rfl (by decide) (Fr123 e15) ?_
          show m_Run X _ _ 131 20 [(0, .ref 7), (1, .int v2)] [] (hO R g13) _ _
          cases h
          exact m_rv (by decide +kernel)
        · exact m_cx (q := (17, .invokevirtual 247, 3, 123, 1)) (a := 123) (vs := [.ref 7, .int v2]) (st := []) (d1 := 0) (by decide +kernel) (by decide +kernel) rfl rfl rfl rfl (by decide) (Fr123 e15)
      · exact m_cx (q := (12, .invokevirtual 221, 3, 109, 2)) (a := 109) (vs := [.ref 7, .int (12 : Int32), .int v6]) (st := []) (d1 := 0) (by decide +kernel) (by decide +kernel) rfl rfl rfl rfl (by decide) (Fr109 e11)
    · exact m_cx (q := (9, .invokevirtual 238, 3, 115, 0)) (a := 115) (vs := [.ref 7]) (st := [.int (12 : Int32), .ref 7]) (d1 := 0) (by decide +kernel) (by decide +kernel) rfl rfl rfl rfl (by decide) (Fr115 e7)
  · exact m_cx (q := (1, .invokevirtual 238, 3, 115, 0)) (a := 115) (vs := [.ref 7]) (st := []) (d1 := 0) (by decide +kernel) (by decide +kernel) rfl rfl rfl rfl (by decide) (Fr115 e3)
def f130 (n : Nat) (g : mG) : mZ := m_ci (f115 n g) (fun v2 g1 => m_ci (f115 n g1) (fun v6 g5 => m_cv (f116 n (2 : Int32) v6 g5) (fun g9 => m_cv (f107 n v2 g9) (fun g13 => m_cv (f121 n (11 : Int32) g13) (fun g17 => some (.inl none, g17))))))
theorem Fr130 {R : Nat} {g g' : mG} {o : mO} (h : f130 n g = some (o, g')) : m_Run X (2) (m_ko o) 130 0 [(0, .ref 7)] [] (hO R g) o (hO R g') := by
  unfold f130 at h
  refine m_go (L := [(0, .aload_n 0, 1, 0, 0)]) (pc1 := 1) (lv1 := [(0, .ref 7)]) (st1 := [.ref 7]) (h1 := hO R g) (by decide +kernel) rfl ?_
  rcases m_ci_inv h with ⟨v2, g1, e3, h⟩ | ⟨y4, g1, e3, rfl, rfl⟩
  · refine m_ca (q := (1, .invokevirtual 238, 3, 115, 0)) (a := 115) (vs := [.ref 7]) (st := []) (d1 := 0) (by decide +kernel) rfl rfl rfl rfl (by decide) (Fr115 e3) ?_
    show m_Run X _ _ 130 4 [(0, .ref 7)] [.int v2] (hO R g1) _ _
    refine m_go (L := [(4, .istore_n 1, 1, 0, 0), (5, .aload_n 0, 1, 0, 0), (6, .iconst 2, 1, 0, 0), (7, .aload_n 0, 1, 0, 0)]) (pc1 := 8) (lv1 := [(0, .ref 7), (1, .int v2)]) (st1 := [.ref 7, .int (2 : Int32), .ref 7]) (h1 := hO R g1) (by decide +kernel) rfl ?_
    rcases m_ci_inv h with ⟨v6, g5, e7, h⟩ | ⟨y8, g5, e7, rfl, rfl⟩
    · refine m_ca (q := (8, .invokevirtual 238, 3, 115, 0)) (a := 115) (vs := [.ref 7]) (st := [.int (2 : Int32), .ref 7]) (d1 := 0) (by decide +kernel) rfl rfl rfl rfl (by decide) (Fr115 e7) ?_
      show m_Run X _ _ 130 11 [(0, .ref 7), (1, .int v2)] [.int v6, .int (2 : Int32), .ref 7] (hO R g5) _ _
      rcases m_cv_inv h with ⟨g9, e11, h⟩ | ⟨y12, g9, e11, rfl, rfl⟩
      · refine m_ca (q := (11, .invokevirtual 241, 3, 116, 2)) (a := 116) (vs := [.ref 7, .int (2 : Int32), .int v6]) (st := []) (d1 := 1) (by decide +kernel) rfl rfl rfl rfl (by decide) (Fr116 e11) ?_
        show m_Run X _ _ 130 14 [(0, .ref 7), (1, .int v2)] [] (hO R g9) _ _
        refine m_go (L := [(14, .aload_n 0, 1, 0, 0), (15, .iload_n 1, 1, 0, 0)]) (pc1 := 16) (lv1 := [(0, .ref 7), (1, .int v2)]) (st1 := [.int v2, .ref 7]) (h1 := hO R g9) (by decide +kernel) rfl ?_
        rcases m_cv_inv h with ⟨g13, e15, h⟩ | ⟨y16, g13, e15, rfl, rfl⟩
        · refine m_ca (q := (16, .invokevirtual 214, 3, 107, 1)) (a := 107) (vs := [.ref 7, .int v2]) (st := []) (d1 := 0) (by decide +kernel) rfl rfl rfl rfl (by decide) (Fr107 e15) ?_
          show m_Run X _ _ 130 19 [(0, .ref 7), (1, .int v2)] [] (hO R g13) _ _
          refine m_go (L := [(19, .aload_n 0, 1, 0, 0), (20, .bipush 11, 2, 0, 0)]) (pc1 := 22) (lv1 := [(0, .ref 7), (1, .int v2)]) (st1 := [.int (11 : Int32), .ref 7]) (h1 := hO R g13) (by decide +kernel) rfl ?_
          rcases m_cv_inv h with ⟨g17, e19, h⟩ | ⟨y20, g17, e19, rfl, rfl⟩
          · refine m_ca (q := (22, .invokevirtual 244, 3, 121, 1)) (a := 121) (vs := [.ref 7, .int (11 : Int32)]) (st := []) (d1 := 1) (by decide +kernel) rfl rfl rfl rfl (by decide) (Fr121 e19) ?_
            show m_Run X _ _ 130 25 [(0, .ref 7), (1, .int v2)] [] (hO R g17) _ _
            cases h
            exact m_rv (by decide +kernel)
          · exact m_cx (q := (22, .invokevirtual 244, 3, 121, 1)) (a := 121) (vs := [.ref 7, .int (11 : Int32)]) (st := []) (d1 := 1) (by decide +kernel) (by decide +kernel) rfl rfl rfl rfl (by decide) (Fr121 e19)
        · exact m_cx (q := (16, .invokevirtual 214, 3, 107, 1)) (a := 107) (vs := [.ref 7, .int v2]) (st := []) (d1 := 0) (by decide +kernel) (by decide +kernel) rfl rfl rfl rfl (by decide) (Fr107 e15)
      · exact m_cx (q := (11, .invokevirtual 241, 3, 116, 2)) (a := 116) (vs := [.ref 7, .int (2 : Int32), .int v6]) (st := []) (d1 := 1) (by decide +kernel) (by decide +kernel) rfl rfl rfl rfl (by decide) (Fr116 e11)
    · exact m_cx (q := (8, .invokevirtual 238, 3, 115, 0)) (a := 115) (vs := [.ref 7]) (st := [.int (2 : Int32), .ref 7]) (d1 := 0) (by decide +kernel) (by decide +kernel) rfl rfl rfl rfl (by decide) (Fr115 e7)
  · exact m_cx (q := (1, .invokevirtual 238, 3, 115, 0)) (a := 115) (vs := [.ref 7]) (st := []) (d1 := 0) (by decide +kernel) (by decide +kernel) rfl rfl rfl rfl (by decide) (Fr115 e3)
def f129 (n : Nat) (g : mG) : mZ := m_ci (f115 n g) (fun v2 g1 => m_cv (f121 n (12 : Int32) g1) (fun g5 => m_cv (f123 n v2 g5) (fun g9 => some (.inl none, g9))))
theorem Fr129 {R : Nat} {g g' : mG} {o : mO} (h : f129 n g = some (o, g')) : m_Run X (2) (m_ko o) 129 0 [(0, .ref 7)] [] (hO R g) o (hO R g') := by
  unfold f129 at h
  refine m_go (L := [(0, .aload_n 0, 1, 0, 0)]) (pc1 := 1) (lv1 := [(0, .ref 7)]) (st1 := [.ref 7]) (h1 := hO R g) (by decide +kernel) rfl ?_
  rcases m_ci_inv h with ⟨v2, g1, e3, h⟩ | ⟨y4, g1, e3, rfl, rfl⟩
  · refine m_ca (q := (1, .invokevirtual 238, 3, 115, 0)) (a := 115) (vs := [.ref 7]) (st := []) (d1 := 0) (by decide +kernel) rfl rfl rfl rfl (by decide) (Fr115 e3) ?_
    show m_Run X _ _ 129 4 [(0, .ref 7)] [.int v2] (hO R g1) _ _
    refine m_go (L := [(4, .istore_n 1, 1, 0, 0), (5, .aload_n 0, 1, 0, 0), (6, .bipush 12, 2, 0, 0)]) (pc1 := 8) (lv1 := [(0, .ref 7), (1, .int v2)]) (st1 := [.int (12 : Int32), .ref 7]) (h1 := hO R g1) (by decide +kernel) rfl ?_
    rcases m_cv_inv h with ⟨g5, e7, h⟩ | ⟨y8, g5, e7, rfl, rfl⟩
    · refine m_ca (q := (8, .invokevirtual 244, 3, 121, 1)) (a := 121) (vs := [.ref 7, .int (12 : Int32)]) (st := []) (d1 := 1) (by decide +kernel) rfl rfl rfl rfl (by decide) (Fr121 e7) ?_
      show m_Run X _ _ 129 11 [(0, .ref 7), (1, .int v2)] [] (hO R g5) _ _
      refine m_go (L := [(11, .aload_n 0, 1, 0, 0), (12, .iload_n 1, 1, 0, 0)]) (pc1 := 13) (lv1 := [(0, .ref 7), (1, .int v2)]) (st1 := [.int v2, .ref 7]) (h1 := hO R g5) (by decide +kernel) rfl ?_
      rcases m_cv_inv h with ⟨g9, e11, h⟩ | ⟨y12, g9, e11, rfl, rfl⟩
      · refine m_ca (q := (13, .invokevirtual 247, 3, 123, 1)) (a := 123) (vs := [.ref 7, .int v2]) (st := []) (d1 := 0) (by decide +kernel) rfl rfl rfl rfl (by decide) (Fr123 e11) ?_
        show m_Run X _ _ 129 16 [(0, .ref 7), (1, .int v2)] [] (hO R g9) _ _
        cases h
        exact m_rv (by decide +kernel)
      · exact m_cx (q := (13, .invokevirtual 247, 3, 123, 1)) (a := 123) (vs := [.ref 7, .int v2]) (st := []) (d1 := 0) (by decide +kernel) (by decide +kernel) rfl rfl rfl rfl (by decide) (Fr123 e11)
    · exact m_cx (q := (8, .invokevirtual 244, 3, 121, 1)) (a := 121) (vs := [.ref 7, .int (12 : Int32)]) (st := []) (d1 := 1) (by decide +kernel) (by decide +kernel) rfl rfl rfl rfl (by decide) (Fr121 e7)
  · exact m_cx (q := (1, .invokevirtual 238, 3, 115, 0)) (a := 115) (vs := [.ref 7]) (st := []) (d1 := 0) (by decide +kernel) (by decide +kernel) rfl rfl rfl rfl (by decide) (Fr115 e3)
def f124 (n : Nat) (x1 : Int32) (g : mG) : mZ := if x1 = 53 then m_cv (f125 n g) (fun g2 => some (.inl none, g2)) else if x1 = 54 then m_cv (f127 n g) (fun g7 => some (.inl none, g7)) else if x1 = 55 then m_ci (f115 n g) (fun v13 g12 => m_ci (f115 n g12) (fun v17 g16 => if v17 < 0 ∨ 8 ≤ Int32.toNatClampNeg v17 then none else m_cv (f116 n ((g16.2.1 42) (Int32.toNatClampNeg v17)) v13 g16) (fun g21 => m_cv (f109 n (9 : Int32) v17 g21) (fun g25 => some (.inl none, g25))))) else if x1 = 56 then m_cv (f128 n g) (fun g30 => some (.inl none, g30)) else if x1 = 57 then m_ci (f115 n g) (fun v36 g35 => m_cv (f116 n (1 : Int32) v36 g35) (fun g39 => m_cv (f109 n (10 : Int32) (0 : Int32) g39) (fun g43 => some (.inl none, g43)))) else if x1 = 58 then if ((g.1 32) - (1 : Int32)) < 0 ∨ 600 ≤ Int32.toNatClampNeg ((g.1 32) - (1 : Int32)) then none else m_cv (f116 n (1 : Int32) ((g.2.1 34) (Int32.toNatClampNeg ((g.1 32) - (1 : Int32)))) g) (fun g49 => some (.inl none, g49)) else if x1 = 59 then if ¬ (g.1 26) = (29 : Int32) then m_cv (f100 n (66 : Int32) g) (fun g55 => some (.inl none, g55)) else m_cv (f108 n (29 : Int32) (67 : Int32) (48 : Int32) (66 : Int32) g) (fun g59 => some (.inl none, g59)) else if x1 = 61 then m_ci (f115 n g) (fun v65 g64 => m_cv (f116 n (2 : Int32) v65 g64) (fun g68 => m_cv (f121 n (11 : Int32) g68) (fun g72 => some (.inl none, g72)))) else if x1 = 62 then m_cv (f131 n g) (fun g77 => some (.inl none, g77)) else if x1 = 63 then m_cv (f130 n g) (fun g82 => some (.inl none, g82)) else if x1 = 64 then m_ci (f115 n g) (fun v88 g87 => m_cv (f116 n (1 : Int32) v88 g87) (fun g91 => m_cv (f109 n (13 : Int32) (0 : Int32) g91) (fun g95 => some (.inl none, g95)))) else if x1 = 66 then m_ci (f115 n g) (fun v101 g100 => m_cv (f123 n v101 g100) (fun g104 => some (.inl none, g104))) else if x1 = 67 then m_cv (f129 n g) (fun g109 => some (.inl none, g109)) else m_ci (f115 n g) (fun v114 g113 => m_cv (f116 n (2 : Int32) v114 g113) (fun g117 => m_cv (f109 n (14 : Int32) (0 : Int32) g117) (fun g121 => some (.inl none, g121))))
theorem Fr124 {R : Nat} {x1 : Int32} {g g' : mG} {o : mO} (h : f124 n x1 g = some (o, g')) : m_Run X (5) (m_ko o) 124 0 [(0, .ref 7), (1, .int x1)] [] (hO R g) o (hO R g') := by
  unfold f124 at h
  refine m_go (L := [(0, .iload_n 1, 1, 0, 0)]) (pc1 := 1) (lv1 := [(0, .ref 7), (1, .int x1)]) (st1 := [.int x1]) (h1 := hO R g) (by decide +kernel) rfl ?_
  by_cases c1 : x1 = 53
  · rw [if_pos c1] at h
    refine m_go1 (q := (1, .tableswitch 267 53 67 #[75, 82, 89, 120, 146, 127, 183, 267, 165, 241, 234, 248, 267, 223, 216], 75, 0, 0)) (pc1 := 76) (lv1 := [(0, .ref 7), (1, .int x1)]) (st1 := []) (h1 := hO R g) (by decide +kernel) (m_swx (fun z => m_loc m_ft X (.tableswitch 267 53 67 #[75, 82, 89, 120, 146, 127, 183, 267, 165, 241, 234, 248, 267, 223, 216]) 0 0 1 [(0, .ref 7), (1, .int x1)] (.int z :: []) (hO R g)) c1 rfl) ?_
    refine m_go (L := [(76, .aload_n 0, 1, 0, 0)]) (pc1 := 77) (lv1 := [(0, .ref 7), (1, .int x1)]) (st1 := [.ref 7]) (h1 := hO R g) (by decide +kernel) rfl ?_
    rcases m_cv_inv h with ⟨g2, e4, h⟩ | ⟨y5, g2, e4, rfl, rfl⟩
    · refine m_ca (q := (77, .invokevirtual 250, 3, 125, 0)) (a := 125) (vs := [.ref 7]) (st := []) (d1 := 1) (by decide +kernel) rfl rfl rfl rfl (by decide) (Fr125 e4) ?_
      show m_Run X _ _ 124 80 [(0, .ref 7), (1, .int x1)] [] (hO R g2) _ _
      refine m_go (L := [(80, .goto 204, 3, 0, 0)]) (pc1 := 284) (lv1 := [(0, .ref 7), (1, .int x1)]) (st1 := []) (h1 := hO R g2) (by decide +kernel) rfl ?_
      cases h
      exact m_rv (by decide +kernel)
    · exact m_cx (q := (77, .invokevirtual 250, 3, 125, 0)) (a := 125) (vs := [.ref 7]) (st := []) (d1 := 1) (by decide +kernel) (by decide +kernel) rfl rfl rfl rfl (by decide) (Fr125 e4)
  · rw [if_neg c1] at h
    by_cases c6 : x1 = 54
    · rw [if_pos c6] at h
      refine m_go1 (q := (1, .tableswitch 267 53 67 #[75, 82, 89, 120, 146, 127, 183, 267, 165, 241, 234, 248, 267, 223, 216], 75, 0, 0)) (pc1 := 83) (lv1 := [(0, .ref 7), (1, .int x1)]) (st1 := []) (h1 := hO R g) (by decide +kernel) (m_swx (fun z => m_loc m_ft X (.tableswitch 267 53 67 #[75, 82, 89, 120, 146, 127, 183, 267, 165, 241, 234, 248, 267, 223, 216]) 0 0 1 [(0, .ref 7), (1, .int x1)] (.int z :: []) (hO R g)) c6 rfl) ?_
      refine m_go (L := [(83, .aload_n 0, 1, 0, 0)]) (pc1 := 84) (lv1 := [(0, .ref 7), (1, .int x1)]) (st1 := [.ref 7]) (h1 := hO R g) (by decide +kernel) rfl ?_
      rcases m_cv_inv h with ⟨g7, e9, h⟩ | ⟨y10, g7, e9, rfl, rfl⟩
      · refine m_ca (q := (84, .invokevirtual 253, 3, 127, 0)) (a := 127) (vs := [.ref 7]) (st := []) (d1 := 4) (by decide +kernel) rfl rfl rfl rfl (by decide) (Fr127 e9) ?_
        show m_Run X _ _ 124 87 [(0, .ref 7), (1, .int x1)] [] (hO R g7) _ _
        refine m_go (L := [(87, .goto 197, 3, 0, 0)]) (pc1 := 284) (lv1 := [(0, .ref 7), (1, .int x1)]) (st1 := []) (h1 := hO R g7) (by decide +kernel) rfl ?_
        cases h
        exact m_rv (by decide +kernel)
      · exact m_cx (q := (84, .invokevirtual 253, 3, 127, 0)) (a := 127) (vs := [.ref 7]) (st := []) (d1 := 4) (by decide +kernel) (by decide +kernel) rfl rfl rfl rfl (by decide) (Fr127 e9)
    · rw [if_neg c6] at h
      by_cases c11 : x1 = 55
      · rw [if_pos c11] at h
        refine m_go1 (q := (1, .tableswitch 267 53 67 #[75, 82, 89, 120, 146, 127, 183, 267, 165, 241, 234, 248, 267, 223, 216], 75, 0, 0)) (pc1 := 90) (lv1 := [(0, .ref 7), (1, .int x1)]) (st1 := []) (h1 := hO R g) (by decide +kernel) (m_swx (fun z => m_loc m_ft X (.tableswitch 267 53 67 #[75, 82, 89, 120, 146, 127, 183, 267, 165, 241, 234, 248, 267, 223, 216]) 0 0 1 [(0, .ref 7), (1, .int x1)] (.int z :: []) (hO R g)) c11 rfl) ?_
        refine m_go (L := [(90, .aload_n 0, 1, 0, 0)]) (pc1 := 91) (lv1 := [(0, .ref 7), (1, .int x1)]) (st1 := [.ref 7]) (h1 := hO R g) (by decide +kernel) rfl ?_
        rcases m_ci_inv h with ⟨v13, g12, e14, h⟩ | ⟨y15, g12, e14, rfl, rfl⟩
        · refine m_ca (q := (91, .invokevirtual 238, 3, 115, 0)) (a := 115) (vs := [.ref 7]) (st := []) (d1 := 0) (by decide +kernel) rfl rfl rfl rfl (by decide) (Fr115 e14) ?_
          show m_Run X _ _ 124 94 [(0, .ref 7), (1, .int x1)] [.int v13] (hO R g12) _ _
          refine m_go (L := [(94, .istore_n 2, 1, 0, 0), (95, .aload_n 0, 1, 0, 0)]) (pc1 := 96) (lv1 := [(0, .ref 7), (1, .int x1), (2, .int v13)]) (st1 := [.ref 7]) (h1 := hO R g12) (by decide +kernel) rfl ?_
          rcases m_ci_inv h with ⟨v17, g16, e18, h⟩ | ⟨y19, g16, e18, rfl, rfl⟩
          · refine m_ca (q := (96, .invokevirtual 238, 3, 115, 0)) (a := 115) (vs := [.ref 7]) (st := []) (d1 := 0) (by decide +kernel) rfl rfl rfl rfl (by decide) (Fr115 e18) ?_
            show m_Run X _ _ 124 99 [(0, .ref 7), (1, .int x1), (2, .int v13)] [.int v17] (hO R g16) _ _
            refine m_go (L := [(99, .istore_n 3, 1, 0, 0), (100, .aload_n 0, 1, 0, 0), (101, .aload_n 0, 1, 0, 0), (102, .getfield 40, 3, 6, 23), (105, .iload_n 3, 1, 0, 0)]) (pc1 := 106) (lv1 := [(0, .ref 7), (1, .int x1), (2, .int v13), (3, .int v17)]) (st1 := [.int v17, .ref 42, .ref 7]) (h1 := hO R g16) (by decide +kernel) rfl ?_
            obtain ⟨c20, h⟩ := m_ifn_inv h
            refine m_go1 (q := (106, .iaload, 1, 0, 0)) (pc1 := 107) (lv1 := [(0, .ref 7), (1, .int x1), (2, .int v13), (3, .int v17)]) (st1 := [.int ((g16.2.1 42) (Int32.toNatClampNeg v17)), .ref 7]) (h1 := hO R g16) (by decide +kernel) (if_neg c20) ?_
            refine m_go (L := [(107, .iload_n 2, 1, 0, 0)]) (pc1 := 108) (lv1 := [(0, .ref 7), (1, .int x1), (2, .int v13), (3, .int v17)]) (st1 := [.int v13, .int ((g16.2.1 42) (Int32.toNatClampNeg v17)), .ref 7]) (h1 := hO R g16) (by decide +kernel) rfl ?_
            rcases m_cv_inv h with ⟨g21, e23, h⟩ | ⟨y24, g21, e23, rfl, rfl⟩
            · refine m_ca (q := (108, .invokevirtual 241, 3, 116, 2)) (a := 116) (vs := [.ref 7, .int ((g16.2.1 42) (Int32.toNatClampNeg v17)), .int v13]) (st := []) (d1 := 1) (by decide +kernel) rfl rfl rfl rfl (by decide) (Fr116 e23) ?_
              show m_Run X _ _ 124 111 [(0, .ref 7), (1, .int x1), (2, .int v13), (3, .int v17)] [] (hO R g21) _ _
              refine m_go (L := [(111, .aload_n 0, 1, 0, 0), (112, .bipush 9, 2, 0, 0), (114, .iload_n 3, 1, 0, 0)]) (pc1 := 115) (lv1 := [(0, .ref 7), (1, .int x1), (2, .int v13), (3, .int v17)]) (st1 := [.int v17, .int (9 : Int32), .ref 7]) (h1 := hO R g21) (by decide +kernel) rfl ?_
              rcases m_cv_inv h with ⟨g25, e27, h⟩ | ⟨y28, g25, e27, rfl, rfl⟩
              · refine m_ca (q := (115, .invokevirtual 221, 3, 109, 2)) (a := 109) (vs := [.ref 7, .int (9 : Int32), .int v17]) (st := []) (d1 := 0) (by decide +kernel) rfl rfl rfl rfl (by decide) (Fr109 e27) ?_
                show m_Run X _ _ 124 118 [(0, .ref 7), (1, .int x1), (2, .int v13), (3, .int v17)] [] (hO R g25) _ _
                refine m_go (L := [(118, .goto 166, 3, 0, 0)]) (pc1 := 284) (lv1 := [(0, .ref 7), (1, .int x1), (2, .int v13), (3, .int v17)]) (st1 := []) (h1 := hO R g25) (by decide +kernel) rfl ?_
                cases h
                exact m_rv (by decide +kernel)
              · exact m_cx (q := (115, .invokevirtual 221, 3, 109, 2)) (a := 109) (vs := [.ref 7, .int (9 : Int32), .int v17]) (st := []) (d1 := 0) (by decide +kernel) (by decide +kernel) rfl rfl rfl rfl (by decide) (Fr109 e27)
            · exact m_cx (q := (108, .invokevirtual 241, 3, 116, 2)) (a := 116) (vs := [.ref 7, .int ((g16.2.1 42) (Int32.toNatClampNeg v17)), .int v13]) (st := []) (d1 := 1) (by decide +kernel) (by decide +kernel) rfl rfl rfl rfl (by decide) (Fr116 e23)
          · exact m_cx (q := (96, .invokevirtual 238, 3, 115, 0)) (a := 115) (vs := [.ref 7]) (st := []) (d1 := 0) (by decide +kernel) (by decide +kernel) rfl rfl rfl rfl (by decide) (Fr115 e18)
        · exact m_cx (q := (91, .invokevirtual 238, 3, 115, 0)) (a := 115) (vs := [.ref 7]) (st := []) (d1 := 0) (by decide +kernel) (by decide +kernel) rfl rfl rfl rfl (by decide) (Fr115 e14)
      · rw [if_neg c11] at h
        by_cases c29 : x1 = 56
        · rw [if_pos c29] at h
          refine m_go1 (q := (1, .tableswitch 267 53 67 #[75, 82, 89, 120, 146, 127, 183, 267, 165, 241, 234, 248, 267, 223, 216], 75, 0, 0)) (pc1 := 121) (lv1 := [(0, .ref 7), (1, .int x1)]) (st1 := []) (h1 := hO R g) (by decide +kernel) (m_swx (fun z => m_loc m_ft X (.tableswitch 267 53 67 #[75, 82, 89, 120, 146, 127, 183, 267, 165, 241, 234, 248, 267, 223, 216]) 0 0 1 [(0, .ref 7), (1, .int x1)] (.int z :: []) (hO R g)) c29 rfl) ?_
          refine m_go (L := [(121, .aload_n 0, 1, 0, 0)]) (pc1 := 122) (lv1 := [(0, .ref 7), (1, .int x1)]) (st1 := [.ref 7]) (h1 := hO R g) (by decide +kernel) rfl ?_
          rcases m_cv_inv h with ⟨g30, e32, h⟩ | ⟨y33, g30, e32, rfl, rfl⟩
          · refine m_ca (q := (122, .invokevirtual 256, 3, 128, 0)) (a := 128) (vs := [.ref 7]) (st := []) (d1 := 4) (by decide +kernel) rfl rfl rfl rfl (by decide) (Fr128 e32) ?_
            show m_Run X _ _ 124 125 [(0, .ref 7), (1, .int x1)] [] (hO R g30) _ _
            refine m_go (L := [(125, .goto 159, 3, 0, 0)]) (pc1 := 284) (lv1 := [(0, .ref 7), (1, .int x1)]) (st1 := []) (h1 := hO R g30) (by decide +kernel) rfl ?_
            cases h
            exact m_rv (by decide +kernel)
          · exact m_cx (q := (122, .invokevirtual 256, 3, 128, 0)) (a := 128) (vs := [.ref 7]) (st := []) (d1 := 4) (by decide +kernel) (by decide +kernel) rfl rfl rfl rfl (by decide) (Fr128 e32)
        · rw [if_neg c29] at h
          by_cases c34 : x1 = 57
          · rw [if_pos c34] at h
            refine m_go1 (q := (1, .tableswitch 267 53 67 #[75, 82, 89, 120, 146, 127, 183, 267, 165, 241, 234, 248, 267, 223, 216], 75, 0, 0)) (pc1 := 147) (lv1 := [(0, .ref 7), (1, .int x1)]) (st1 := []) (h1 := hO R g) (by decide +kernel) (m_swx (fun z => m_loc m_ft X (.tableswitch 267 53 67 #[75, 82, 89, 120, 146, 127, 183, 267, 165, 241, 234, 248, 267, 223, 216]) 0 0 1 [(0, .ref 7), (1, .int x1)] (.int z :: []) (hO R g)) c34 rfl) ?_
            refine m_go (L := [(147, .aload_n 0, 1, 0, 0), (148, .iconst 1, 1, 0, 0), (149, .aload_n 0, 1, 0, 0)]) (pc1 := 150) (lv1 := [(0, .ref 7), (1, .int x1)]) (st1 := [.ref 7, .int (1 : Int32), .ref 7]) (h1 := hO R g) (by decide +kernel) rfl ?_
            rcases m_ci_inv h with ⟨v36, g35, e37, h⟩ | ⟨y38, g35, e37, rfl, rfl⟩
            · refine m_ca (q := (150, .invokevirtual 238, 3, 115, 0)) (a := 115) (vs := [.ref 7]) (st := [.int (1 : Int32), .ref 7]) (d1 := 0) (by decide +kernel) rfl rfl rfl rfl (by decide) (Fr115 e37) ?_
              show m_Run X _ _ 124 153 [(0, .ref 7), (1, .int x1)] [.int v36, .int (1 : Int32), .ref 7] (hO R g35) _ _
              rcases m_cv_inv h with ⟨g39, e41, h⟩ | ⟨y42, g39, e41, rfl, rfl⟩
              · refine m_ca (q := (153, .invokevirtual 241, 3, 116, 2)) (a := 116) (vs := [.ref 7, .int (1 : Int32), .int v36]) (st := []) (d1 := 1) (by decide +kernel) rfl rfl rfl rfl (by decide) (Fr116 e41) ?_
                show m_Run X _ _ 124 156 [(0, .ref 7), (1, .int x1)] [] (hO R g39) _ _
                refine m_go (L := [(156, .aload_n 0, 1, 0, 0), (157, .bipush 10, 2, 0, 0), (159, .iconst 0, 1, 0, 0)]) (pc1 := 160) (lv1 := [(0, .ref 7), (1, .int x1)]) (st1 := [.int (0 : Int32), .int (10 : Int32), .ref 7]) (h1 := hO R g39) (by decide +kernel) rfl ?_
                rcases m_cv_inv h with ⟨g43, e45, h⟩ | ⟨y46, g43, e45, rfl, rfl⟩
                · refine m_ca (q := (160, .invokevirtual 221, 3, 109, 2)) (a := 109) (vs := [.ref 7, .int (10 : Int32), .int (0 : Int32)]) (st := []) (d1 := 0) (by decide +kernel) rfl rfl rfl rfl (by decide) (Fr109 e45) ?_
                  show m_Run X _ _ 124 163 [(0, .ref 7), (1, .int x1)] [] (hO R g43) _ _
                  refine m_go (L := [(163, .goto 121, 3, 0, 0)]) (pc1 := 284) (lv1 := [(0, .ref 7), (1, .int x1)]) (st1 := []) (h1 := hO R g43) (by decide +kernel) rfl ?_
                  cases h
                  exact m_rv (by decide +kernel)
                · exact m_cx (q := (160, .invokevirtual 221, 3, 109, 2)) (a := 109) (vs := [.ref 7, .int (10 : Int32), .int (0 : Int32)]) (st := []) (d1 := 0) (by decide +kernel) (by decide +kernel) rfl rfl rfl rfl (by decide) (Fr109 e45)
              · exact m_cx (q := (153, .invokevirtual 241, 3, 116, 2)) (a := 116) (vs := [.ref 7, .int (1 : Int32), .int v36]) (st := []) (d1 := 1) (by decide +kernel) (by decide +kernel) rfl rfl rfl rfl (by decide) (Fr116 e41)
            · exact m_cx (q := (150, .invokevirtual 238, 3, 115, 0)) (a := 115) (vs := [.ref 7]) (st := [.int (1 : Int32), .ref 7]) (d1 := 0) (by decide +kernel) (by decide +kernel) rfl rfl rfl rfl (by decide) (Fr115 e37)
          · rw [if_neg c34] at h
            by_cases c47 : x1 = 58
            · rw [if_pos c47] at h
              refine m_go1 (q := (1, .tableswitch 267 53 67 #[75, 82, 89, 120, 146, 127, 183, 267, 165, 241, 234, 248, 267, 223, 216], 75, 0, 0)) (pc1 := 128) (lv1 := [(0, .ref 7), (1, .int x1)]) (st1 := []) (h1 := hO R g) (by decide +kernel) (m_swx (fun z => m_loc m_ft X (.tableswitch 267 53 67 #[75, 82, 89, 120, 146, 127, 183, 267, 165, 241, 234, 248, 267, 223, 216]) 0 0 1 [(0, .ref 7), (1, .int x1)] (.int z :: []) (hO R g)) c47 rfl) ?_
              refine m_go (L := [(128, .aload_n 0, 1, 0, 0), (129, .iconst 1, 1, 0, 0), (130, .aload_n 0, 1, 0, 0), (131, .getfield 16, 3, 6, 10), (134, .aload_n 0, 1, 0, 0), (135, .getfield 178, 3, 6, 11), (138, .iconst 1, 1, 0, 0), (139, .isub, 1, 0, 0)]) (pc1 := 140) (lv1 := [(0, .ref 7), (1, .int x1)]) (st1 := [.int ((g.1 32) - (1 : Int32)), .ref 34, .int (1 : Int32), .ref 7]) (h1 := hO R g) (by decide +kernel) rfl ?_
              obtain ⟨c48, h⟩ := m_ifn_inv h
              refine m_go1 (q := (140, .iaload, 1, 0, 0)) (pc1 := 141) (lv1 := [(0, .ref 7), (1, .int x1)]) (st1 := [.int ((g.2.1 34) (Int32.toNatClampNeg ((g.1 32) - (1 : Int32)))), .int (1 : Int32), .ref 7]) (h1 := hO R g) (by decide +kernel) (if_neg c48) ?_
              rcases m_cv_inv h with ⟨g49, e51, h⟩ | ⟨y52, g49, e51, rfl, rfl⟩
              · refine m_ca (q := (141, .invokevirtual 241, 3, 116, 2)) (a := 116) (vs := [.ref 7, .int (1 : Int32), .int ((g.2.1 34) (Int32.toNatClampNeg ((g.1 32) - (1 : Int32))))]) (st := []) (d1 := 1) (by decide +kernel) rfl rfl rfl rfl (by decide) (Fr116 e51) ?_
                show m_Run X _ _ 124 144 [(0, .ref 7), (1, .int x1)] [] (hO R g49) _ _
                refine m_go (L := [(144, .goto 140, 3, 0, 0)]) (pc1 := 284) (lv1 := [(0, .ref 7), (1, .int x1)]) (st1 := []) (h1 := hO R g49) (by decide +kernel) rfl ?_
                cases h
                exact m_rv (by decide +kernel)
              · exact m_cx (q := (141, .invokevirtual 241, 3, 116, 2)) (a := 116) (vs := [.ref 7, .int (1 : Int32), .int ((g.2.1 34) (Int32.toNatClampNeg ((g.1 32) - (1 : Int32))))]) (st := []) (d1 := 1) (by decide +kernel) (by decide +kernel) rfl rfl rfl rfl (by decide) (Fr116 e51)
            · rw [if_neg c47] at h
              by_cases c53 : x1 = 59
              · rw [if_pos c53] at h
                refine m_go1 (q := (1, .tableswitch 267 53 67 #[75, 82, 89, 120, 146, 127, 183, 267, 165, 241, 234, 248, 267, 223, 216], 75, 0, 0)) (pc1 := 184) (lv1 := [(0, .ref 7), (1, .int x1)]) (st1 := []) (h1 := hO R g) (by decide +kernel) (m_swx (fun z => m_loc m_ft X (.tableswitch 267 53 67 #[75, 82, 89, 120, 146, 127, 183, 267, 165, 241, 234, 248, 267, 223, 216]) 0 0 1 [(0, .ref 7), (1, .int x1)] (.int z :: []) (hO R g)) c53 rfl) ?_
                refine m_gob (c := ¬ (g.1 26) = (29 : Int32)) (t := 208) (f := 193) (L := [(184, .aload_n 0, 1, 0, 0), (185, .getfield 142, 3, 6, 3), (188, .bipush 29, 2, 0, 0), (190, .if_icmp .ne 18, 3, 0, 0)]) (lv1 := [(0, .ref 7), (1, .int x1)]) (st1 := []) (h1 := hO R g) (by decide +kernel) rfl (fun c54 => ?_) (fun c54 => ?_)
                · rw [if_pos c54] at h
                  refine m_go (L := [(208, .aload_n 0, 1, 0, 0), (209, .bipush 66, 2, 0, 0)]) (pc1 := 211) (lv1 := [(0, .ref 7), (1, .int x1)]) (st1 := [.int (66 : Int32), .ref 7]) (h1 := hO R g) (by decide +kernel) rfl ?_
                  rcases m_cv_inv h with ⟨g55, e57, h⟩ | ⟨y58, g55, e57, rfl, rfl⟩
                  · refine m_ca (q := (211, .invokevirtual 174, 3, 100, 1)) (a := 100) (vs := [.ref 7, .int (66 : Int32)]) (st := []) (d1 := 0) (by decide +kernel) rfl rfl rfl rfl (by decide) (Fr100 e57) ?_
                    show m_Run X _ _ 124 214 [(0, .ref 7), (1, .int x1)] [] (hO R g55) _ _
                    refine m_go (L := [(214, .goto 70, 3, 0, 0)]) (pc1 := 284) (lv1 := [(0, .ref 7), (1, .int x1)]) (st1 := []) (h1 := hO R g55) (by decide +kernel) rfl ?_
                    cases h
                    exact m_rv (by decide +kernel)
                  · exact m_cx (q := (211, .invokevirtual 174, 3, 100, 1)) (a := 100) (vs := [.ref 7, .int (66 : Int32)]) (st := []) (d1 := 0) (by decide +kernel) (by decide +kernel) rfl rfl rfl rfl (by decide) (Fr100 e57)
                · rw [if_neg c54] at h
                  refine m_go (L := [(193, .aload_n 0, 1, 0, 0), (194, .bipush 29, 2, 0, 0), (196, .bipush 67, 2, 0, 0), (198, .bipush 48, 2, 0, 0), (200, .bipush 66, 2, 0, 0)]) (pc1 := 202) (lv1 := [(0, .ref 7), (1, .int x1)]) (st1 := [.int (66 : Int32), .int (48 : Int32), .int (67 : Int32), .int (29 : Int32), .ref 7]) (h1 := hO R g) (by decide +kernel) rfl ?_
                  rcases m_cv_inv h with ⟨g59, e61, h⟩ | ⟨y62, g59, e61, rfl, rfl⟩
                  · refine m_ca (q := (202, .invokevirtual 217, 3, 108, 4)) (a := 108) (vs := [.ref 7, .int (29 : Int32), .int (67 : Int32), .int (48 : Int32), .int (66 : Int32)]) (st := []) (d1 := 1) (by decide +kernel) rfl rfl rfl rfl (by decide) (Fr108 e61) ?_
                    show m_Run X _ _ 124 205 [(0, .ref 7), (1, .int x1)] [] (hO R g59) _ _
                    refine m_go (L := [(205, .goto 79, 3, 0, 0)]) (pc1 := 284) (lv1 := [(0, .ref 7), (1, .int x1)]) (st1 := []) (h1 := hO R g59) (by decide +kernel) rfl ?_
                    cases h
                    exact m_rv (by decide +kernel)
                  · exact m_cx (q := (202, .invokevirtual 217, 3, 108, 4)) (a := 108) (vs := [.ref 7, .int (29 : Int32), .int (67 : Int32), .int (48 : Int32), .int (66 : Int32)]) (st := []) (d1 := 1) (by decide +kernel) (by decide +kernel) rfl rfl rfl rfl (by decide) (Fr108 e61)
              · rw [if_neg c53] at h
                by_cases c63 : x1 = 61
                · rw [if_pos c63] at h
                  refine m_go1 (q := (1, .tableswitch 267 53 67 #[75, 82, 89, 120, 146, 127, 183, 267, 165, 241, 234, 248, 267, 223, 216], 75, 0, 0)) (pc1 := 166) (lv1 := [(0, .ref 7), (1, .int x1)]) (st1 := []) (h1 := hO R g) (by decide +kernel) (m_swx (fun z => m_loc m_ft X (.tableswitch 267 53 67 #[75, 82, 89, 120, 146, 127, 183, 267, 165, 241, 234, 248, 267, 223, 216]) 0 0 1 [(0, .ref 7), (1, .int x1)] (.int z :: []) (hO R g)) c63 rfl) ?_
                  refine m_go (L := [(166, .aload_n 0, 1, 0, 0), (167, .iconst 2, 1, 0, 0), (168, .aload_n 0, 1, 0, 0)]) (pc1 := 169) (lv1 := [(0, .ref 7), (1, .int x1)]) (st1 := [.ref 7, .int (2 : Int32), .ref 7]) (h1 := hO R g) (by decide +kernel) rfl ?_
                  rcases m_ci_inv h with ⟨v65, g64, e66, h⟩ | ⟨y67, g64, e66, rfl, rfl⟩
                  · refine m_ca (q := (169, .invokevirtual 238, 3, 115, 0)) (a := 115) (vs := [.ref 7]) (st := [.int (2 : Int32), .ref 7]) (d1 := 0) (by decide +kernel) rfl rfl rfl rfl (by decide) (Fr115 e66) ?_
                    show m_Run X _ _ 124 172 [(0, .ref 7), (1, .int x1)] [.int v65, .int (2 : Int32), .ref 7] (hO R g64) _ _
                    rcases m_cv_inv h with ⟨g68, e70, h⟩ | ⟨y71, g68, e70, rfl, rfl⟩
                    · refine m_ca (q := (172, .invokevirtual 241, 3, 116, 2)) (a := 116) (vs := [.ref 7, .int (2 : Int32), .int v65]) (st := []) (d1 := 1) (by decide +kernel) rfl rfl rfl rfl (by decide) (Fr116 e70) ?_
                      show m_Run X _ _ 124 175 [(0, .ref 7), (1, .int x1)] [] (hO R g68) _ _
                      refine m_go (L := [(175, .aload_n 0, 1, 0, 0), (176, .bipush 11, 2, 0, 0)]) (pc1 := 178) (lv1 := [(0, .ref 7), (1, .int x1)]) (st1 := [.int (11 : Int32), .ref 7]) (h1 := hO R g68) (by decide +kernel) rfl ?_
                      rcases m_cv_inv h with ⟨g72, e74, h⟩ | ⟨y75, g72, e74, rfl, rfl⟩
                      · refine m_ca (q := (178, .invokevirtual 244, 3, 121, 1)) (a := 121) (vs := [.ref 7, .int (11 : Int32)]) (st := []) (d1 := 1) (by decide +kernel) rfl rfl rfl rfl (by decide) (Fr121 e74) ?_
                        show m_Run X _ _ 124 181 [(0, .ref 7), (1, .int x1)] [] (hO R g72) _ _
                        refine m_go (L := [(181, .goto 103, 3, 0, 0)]) (pc1 := 284) (lv1 := [(0, .ref 7), (1, .int x1)]) (st1 := []) (h1 := hO R g72) (by decide +kernel) rfl ?_
                        cases h
                        exact m_rv (by decide +kernel)
                      · exact m_cx (q := (178, .invokevirtual 244, 3, 121, 1)) (a := 121) (vs := [.ref 7, .int (11 : Int32)]) (st := []) (d1 := 1) (by decide +kernel) (by decide +kernel) rfl rfl rfl rfl (by decide) (Fr121 e74)
                    · exact m_cx (q := (172, .invokevirtual 241, 3, 116, 2)) (a := 116) (vs := [.ref 7, .int (2 : Int32), .int v65]) (st := []) (d1 := 1) (by decide +kernel) (by decide +kernel) rfl rfl rfl rfl (by decide) (Fr116 e70)
                  · exact m_cx (q := (169, .invokevirtual 238, 3, 115, 0)) (a := 115) (vs := [.ref 7]) (st := [.int (2 : Int32), .ref 7]) (d1 := 0) (by decide +kernel) (by decide +kernel) rfl rfl rfl rfl (by decide) (Fr115 e66)
                · rw [if_neg c63] at h
                  by_cases c76 : x1 = 62
                  · rw [if_pos c76] at h
                    refine m_go1 (q := (1, .tableswitch 267 53 67 #[75, 82, 89, 120, 146, 127, 183, 267, 165, 241, 234, 248, 267, 223, 216], 75, 0, 0)) (pc1 := 242) (lv1 := [(0, .ref 7), (1, .int x1)]) (st1 := []) (h1 := hO R g) (by decide +kernel) (m_swx (fun z => m_loc m_ft X (.tableswitch 267 53 67 #[75, 82, 89, 120, 146, 127, 183, 267, 165, 241, 234, 248, 267, 223, 216]) 0 0 1 [(0, .ref 7), (1, .int x1)] (.int z :: []) (hO R g)) c76 rfl) ?_
                    refine m_go (L := [(242, .aload_n 0, 1, 0, 0)]) (pc1 := 243) (lv1 := [(0, .ref 7), (1, .int x1)]) (st1 := [.ref 7]) (h1 := hO R g) (by decide +kernel) rfl ?_
                    rcases m_cv_inv h with ⟨g77, e79, h⟩ | ⟨y80, g77, e79, rfl, rfl⟩
                    · refine m_ca (q := (243, .invokevirtual 265, 3, 131, 0)) (a := 131) (vs := [.ref 7]) (st := []) (d1 := 1) (by decide +kernel) rfl rfl rfl rfl (by decide) (Fr131 e79) ?_
                      show m_Run X _ _ 124 246 [(0, .ref 7), (1, .int x1)] [] (hO R g77) _ _
                      refine m_go (L := [(246, .goto 38, 3, 0, 0)]) (pc1 := 284) (lv1 := [(0, .ref 7), (1, .int x1)]) (st1 := []) (h1 := hO R g77) (by decide +kernel) rfl ?_
                      cases h
                      exact m_rv (by decide +kernel)
                    · exact m_cx (q := (243, .invokevirtual 265, 3, 131, 0)) (a := 131) (vs := [.ref 7]) (st := []) (d1 := 1) (by decide +kernel) (by decide +kernel) rfl rfl rfl rfl (by decide) (Fr131 e79)
                  · rw [if_neg c76] at h
                    by_cases c81 : x1 = 63
                    · rw [if_pos c81] at h
                      refine m_go1 (q := (1, .tableswitch 267 53 67 #[75, 82, 89, 120, 146, 127, 183, 267, 165, 241, 234, 248, 267, 223, 216], 75, 0, 0)) (pc1 := 235) (lv1 := [(0, .ref 7), (1, .int x1)]) (st1 := []) (h1 := hO R g) (by decide +kernel) (m_swx (fun z => m_loc m_ft X (.tableswitch 267 53 67 #[75, 82, 89, 120, 146, 127, 183, 267, 165, 241, 234, 248, 267, 223, 216]) 0 0 1 [(0, .ref 7), (1, .int x1)] (.int z :: []) (hO R g)) c81 rfl) ?_
                      refine m_go (L := [(235, .aload_n 0, 1, 0, 0)]) (pc1 := 236) (lv1 := [(0, .ref 7), (1, .int x1)]) (st1 := [.ref 7]) (h1 := hO R g) (by decide +kernel) rfl ?_
                      rcases m_cv_inv h with ⟨g82, e84, h⟩ | ⟨y85, g82, e84, rfl, rfl⟩
                      · refine m_ca (q := (236, .invokevirtual 262, 3, 130, 0)) (a := 130) (vs := [.ref 7]) (st := []) (d1 := 2) (by decide +kernel) rfl rfl rfl rfl (by decide) (Fr130 e84) ?_
                        show m_Run X _ _ 124 239 [(0, .ref 7), (1, .int x1)] [] (hO R g82) _ _
                        refine m_go (L := [(239, .goto 45, 3, 0, 0)]) (pc1 := 284) (lv1 := [(0, .ref 7), (1, .int x1)]) (st1 := []) (h1 := hO R g82) (by decide +kernel) rfl ?_
                        cases h
                        exact m_rv (by decide +kernel)
                      · exact m_cx (q := (236, .invokevirtual 262, 3, 130, 0)) (a := 130) (vs := [.ref 7]) (st := []) (d1 := 2) (by decide +kernel) (by decide +kernel) rfl rfl rfl rfl (by decide) (Fr130 e84)
                    · rw [if_neg c81] at h
                      by_cases c86 : x1 = 64
                      · rw [if_pos c86] at h
                        refine m_go1 (q := (1, .tableswitch 267 53 67 #[75, 82, 89, 120, 146, 127, 183, 267, 165, 241, 234, 248, 267, 223, 216], 75, 0, 0)) (pc1 := 249) (lv1 := [(0, .ref 7), (1, .int x1)]) (st1 := []) (h1 := hO R g) (by decide +kernel) (m_swx (fun z => m_loc m_ft X (.tableswitch 267 53 67 #[75, 82, 89, 120, 146, 127, 183, 267, 165, 241, 234, 248, 267, 223, 216]) 0 0 1 [(0, .ref 7), (1, .int x1)] (.int z :: []) (hO R g)) c86 rfl) ?_
                        refine m_go (L := [(249, .aload_n 0, 1, 0, 0), (250, .iconst 1, 1, 0, 0), (251, .aload_n 0, 1, 0, 0)]) (pc1 := 252) (lv1 := [(0, .ref 7), (1, .int x1)]) (st1 := [.ref 7, .int (1 : Int32), .ref 7]) (h1 := hO R g) (by decide +kernel) rfl ?_
                        rcases m_ci_inv h with ⟨v88, g87, e89, h⟩ | ⟨y90, g87, e89, rfl, rfl⟩
                        · refine m_ca (q := (252, .invokevirtual 238, 3, 115, 0)) (a := 115) (vs := [.ref 7]) (st := [.int (1 : Int32), .ref 7]) (d1 := 0) (by decide +kernel) rfl rfl rfl rfl (by decide) (Fr115 e89) ?_
                          show m_Run X _ _ 124 255 [(0, .ref 7), (1, .int x1)] [.int v88, .int (1 : Int32), .ref 7] (hO R g87) _ _
                          rcases m_cv_inv h with ⟨g91, e93, h⟩ | ⟨y94, g91, e93, rfl, rfl⟩
                          · refine m_ca (q := (255, .invokevirtual 241, 3, 116, 2)) (a := 116) (vs := [.ref 7, .int (1 : Int32), .int v88]) (st := []) (d1 := 1) (by decide +kernel) rfl rfl rfl rfl (by decide) (Fr116 e93) ?_
                            show m_Run X _ _ 124 258 [(0, .ref 7), (1, .int x1)] [] (hO R g91) _ _
                            refine m_go (L := [(258, .aload_n 0, 1, 0, 0), (259, .bipush 13, 2, 0, 0), (261, .iconst 0, 1, 0, 0)]) (pc1 := 262) (lv1 := [(0, .ref 7), (1, .int x1)]) (st1 := [.int (0 : Int32), .int (13 : Int32), .ref 7]) (h1 := hO R g91) (by decide +kernel) rfl ?_
                            rcases m_cv_inv h with ⟨g95, e97, h⟩ | ⟨y98, g95, e97, rfl, rfl⟩
                            · refine m_ca (q := (262, .invokevirtual 221, 3, 109, 2)) (a := 109) (vs := [.ref 7, .int (13 : Int32), .int (0 : Int32)]) (st := []) (d1 := 0) (by decide +kernel) rfl rfl rfl rfl (by decide) (Fr109 e97) ?_
                              show m_Run X _ _ 124 265 [(0, .ref 7), (1, .int x1)] [] (hO R g95) _ _
                              refine m_go (L := [(265, .goto 19, 3, 0, 0)]) (pc1 := 284) (lv1 := [(0, .ref 7), (1, .int x1)]) (st1 := []) (h1 := hO R g95) (by decide +kernel) rfl ?_
                              cases h
                              exact m_rv (by decide +kernel)
                            · exact m_cx (q := (262, .invokevirtual 221, 3, 109, 2)) (a := 109) (vs := [.ref 7, .int (13 : Int32), .int (0 : Int32)]) (st := []) (d1 := 0) (by decide +kernel) (by decide +kernel) rfl rfl rfl rfl (by decide) (Fr109 e97)
                          · exact m_cx (q := (255, .invokevirtual 241, 3, 116, 2)) (a := 116) (vs := [.ref 7, .int (1 : Int32), .int v88]) (st := []) (d1 := 1) (by decide +kernel) (by decide +kernel) rfl rfl rfl rfl (by decide) (Fr116 e93)
                        · exact m_cx (q := (252, .invokevirtual 238, 3, 115, 0)) (a := 115) (vs := [.ref 7]) (st := [.int (1 : Int32), .ref 7]) (d1 := 0) (by decide +kernel) (by decide +kernel) rfl rfl rfl rfl (by decide) (Fr115 e89)
                      · rw [if_neg c86] at h
                        by_cases c99 : x1 = 66
                        · rw [if_pos c99] at h
                          refine m_go1 (q := (1, .tableswitch 267 53 67 #[75, 82, 89, 120, 146, 127, 183, 267, 165, 241, 234, 248, 267, 223, 216], 75, 0, 0)) (pc1 := 224) (lv1 := [(0, .ref 7), (1, .int x1)]) (st1 := []) (h1 := hO R g) (by decide +kernel) (m_swx (fun z => m_loc m_ft X (.tableswitch 267 53 67 #[75, 82, 89, 120, 146, 127, 183, 267, 165, 241, 234, 248, 267, 223, 216]) 0 0 1 [(0, .ref 7), (1, .int x1)] (.int z :: []) (hO R g)) c99 rfl) ?_
                          refine m_go (L := [(224, .aload_n 0, 1, 0, 0), (225, .aload_n 0, 1, 0, 0)]) (pc1 := 226) (lv1 := [(0, .ref 7), (1, .int x1)]) (st1 := [.ref 7, .ref 7]) (h1 := hO R g) (by decide +kernel) rfl ?_
                          rcases m_ci_inv h with ⟨v101, g100, e102, h⟩ | ⟨y103, g100, e102, rfl, rfl⟩
                          · refine m_ca (q := (226, .invokevirtual 238, 3, 115, 0)) (a := 115) (vs := [.ref 7]) (st := [.ref 7]) (d1 := 0) (by decide +kernel) rfl rfl rfl rfl (by decide) (Fr115 e102) ?_
                            show m_Run X _ _ 124 229 [(0, .ref 7), (1, .int x1)] [.int v101, .ref 7] (hO R g100) _ _
                            rcases m_cv_inv h with ⟨g104, e106, h⟩ | ⟨y107, g104, e106, rfl, rfl⟩
                            · refine m_ca (q := (229, .invokevirtual 247, 3, 123, 1)) (a := 123) (vs := [.ref 7, .int v101]) (st := []) (d1 := 0) (by decide +kernel) rfl rfl rfl rfl (by decide) (Fr123 e106) ?_
                              show m_Run X _ _ 124 232 [(0, .ref 7), (1, .int x1)] [] (hO R g104) _ _
                              refine m_go (L := [(232, .goto 52, 3, 0, 0)]) (pc1 := 284) (lv1 := [(0, .ref 7), (1, .int x1)]) (st1 := []) (h1 := hO R g104) (by decide +kernel) rfl ?_
                              cases h
                              exact m_rv (by decide +kernel)
                            · exact m_cx (q := (229, .invokevirtual 247, 3, 123, 1)) (a := 123) (vs := [.ref 7, .int v101]) (st := []) (d1 := 0) (by decide +kernel) (by decide +kernel) rfl rfl rfl rfl (by decide) (Fr123 e106)
                          · exact m_cx (q := (226, .invokevirtual 238, 3, 115, 0)) (a := 115) (vs := [.ref 7]) (st := [.ref 7]) (d1 := 0) (by decide +kernel) (by decide +kernel) rfl rfl rfl rfl (by decide) (Fr115 e102)
                        · rw [if_neg c99] at h
                          by_cases c108 : x1 = 67
                          · rw [if_pos c108] at h
                            refine m_go1 (q := (1, .tableswitch 267 53 67 #[75, 82, 89, 120, 146, 127, 183, 267, 165, 241, 234, 248, 267, 223, 216], 75, 0, 0)) (pc1 := 217) (lv1 := [(0, .ref 7), (1, .int x1)]) (st1 := []) (h1 := hO R g) (by decide +kernel) (m_swx (fun z => m_loc m_ft X (.tableswitch 267 53 67 #[75, 82, 89, 120, 146, 127, 183, 267, 165, 241, 234, 248, 267, 223, 216]) 0 0 1 [(0, .ref 7), (1, .int x1)] (.int z :: []) (hO R g)) c108 rfl) ?_
                            refine m_go (L := [(217, .aload_n 0, 1, 0, 0)]) (pc1 := 218) (lv1 := [(0, .ref 7), (1, .int x1)]) (st1 := [.ref 7]) (h1 := hO R g) (by decide +kernel) rfl ?_
                            rcases m_cv_inv h with ⟨g109, e111, h⟩ | ⟨y112, g109, e111, rfl, rfl⟩
                            · refine m_ca (q := (218, .invokevirtual 259, 3, 129, 0)) (a := 129) (vs := [.ref 7]) (st := []) (d1 := 2) (by decide +kernel) rfl rfl rfl rfl (by decide) (Fr129 e111) ?_
                              show m_Run X _ _ 124 221 [(0, .ref 7), (1, .int x1)] [] (hO R g109) _ _
                              refine m_go (L := [(221, .goto 63, 3, 0, 0)]) (pc1 := 284) (lv1 := [(0, .ref 7), (1, .int x1)]) (st1 := []) (h1 := hO R g109) (by decide +kernel) rfl ?_
                              cases h
                              exact m_rv (by decide +kernel)
                            · exact m_cx (q := (218, .invokevirtual 259, 3, 129, 0)) (a := 129) (vs := [.ref 7]) (st := []) (d1 := 2) (by decide +kernel) (by decide +kernel) rfl rfl rfl rfl (by decide) (Fr129 e111)
                          · rw [if_neg c108] at h
                            have hx : m_loc m_ft X (.tableswitch 267 53 67 #[75, 82, 89, 120, 146, 127, 183, 267, 165, 241, 234, 248, 267, 223, 216]) 0 0 1 [(0, .ref 7), (1, .int x1)] ([.int x1]) (hO R g) = some (268, [(0, .ref 7), (1, .int x1)], [], hO R g) := by
                              by_cases hz : Int32.toInt x1 < 53 ∨ 67 < Int32.toInt x1
                              · exact if_pos hz
                              · have z0 := m_ne (k := 53) (z := 53) (by decide) c1; have z1 := m_ne (k := 54) (z := 54) (by decide) c6; have z2 := m_ne (k := 55) (z := 55) (by decide) c11; have z3 := m_ne (k := 56) (z := 56) (by decide) c29; have z4 := m_ne (k := 57) (z := 57) (by decide) c34; have z5 := m_ne (k := 58) (z := 58) (by decide) c47; have z6 := m_ne (k := 59) (z := 59) (by decide) c53; have z7 := m_ne (k := 61) (z := 61) (by decide) c63; have z8 := m_ne (k := 62) (z := 62) (by decide) c76; have z9 := m_ne (k := 63) (z := 63) (by decide) c81; have z10 := m_ne (k := 64) (z := 64) (by decide) c86; have z11 := m_ne (k := 66) (z := 66) (by decide) c99; have z12 := m_ne (k := 67) (z := 67) (by decide) c108; have hw : x1 = 60 ∨ x1 = 65 := by
                                  have hv : Int32.toInt x1 = 60 ∨ Int32.toInt x1 = 65 := by omega
                                  rcases hv with hv | hv
                                  · exact Or.inl (Int32.toInt_inj.mp hv)
                                  · exact Or.inr (Int32.toInt_inj.mp hv)
                                rcases hw with hw | hw
                                · exact m_swx (fun z => m_loc m_ft X (.tableswitch 267 53 67 #[75, 82, 89, 120, 146, 127, 183, 267, 165, 241, 234, 248, 267, 223, 216]) 0 0 1 [(0, .ref 7), (1, .int x1)] (.int z :: []) (hO R g)) hw rfl
                                · exact m_swx (fun z => m_loc m_ft X (.tableswitch 267 53 67 #[75, 82, 89, 120, 146, 127, 183, 267, 165, 241, 234, 248, 267, 223, 216]) 0 0 1 [(0, .ref 7), (1, .int x1)] (.int z :: []) (hO R g)) hw rfl
                            refine m_go1 (q := (1, .tableswitch 267 53 67 #[75, 82, 89, 120, 146, 127, 183, 267, 165, 241, 234, 248, 267, 223, 216], 75, 0, 0)) (by decide +kernel) hx ?_
                            refine m_go (L := [(268, .aload_n 0, 1, 0, 0), (269, .iconst 2, 1, 0, 0), (270, .aload_n 0, 1, 0, 0)]) (pc1 := 271) (lv1 := [(0, .ref 7), (1, .int x1)]) (st1 := [.ref 7, .int (2 : Int32), .ref 7]) (h1 := hO R g) (by decide +kernel) rfl ?_
                            rcases m_ci_inv h with ⟨v114, g113, e115, h⟩ | ⟨y116, g113, e115, rfl, rfl⟩
                            · refine m_ca (q := (271, .invokevirtual 238, 3, 115, 0)) (a := 115) (vs := [.ref 7]) (st := [.int (2 : Int32), .ref 7]) (d1 := 0) (by decide +kernel) rfl rfl rfl rfl (by decide) (Fr115 e115) ?_
                              show m_Run X _ _ 124 274 [(0, .ref 7), (1, .int x1)] [.int v114, .int (2 : Int32), .ref 7] (hO R g113) _ _
                              rcases m_cv_inv h with ⟨g117, e119, h⟩ | ⟨y120, g117, e119, rfl, rfl⟩
                              · refine m_ca (q := (274, .invokevirtual 241, 3, 116, 2)) (a := 116) (vs := [.ref 7, .int (2 : Int32), .int v114]) (st := []) (d1 := 1) (by decide +kernel) rfl rfl rfl rfl (by decide) (Fr116 e119) ?_
                                show m_Run X _ _ 124 277 [(0, .ref 7), (1, .int x1)] [] (hO R g117) _ _
                                refine m_go (L := [(277, .aload_n 0, 1, 0, 0), (278, .bipush 14, 2, 0, 0), (280, .iconst 0, 1, 0, 0)]) (pc1 := 281) (lv1 := [(0, .ref 7), (1, .int x1)]) (st1 := [.int (0 : Int32), .int (14 : Int32), .ref 7]) (h1 := hO R g117) (by decide +kernel) rfl ?_
                                rcases m_cv_inv h with ⟨g121, e123, h⟩ | ⟨y124, g121, e123, rfl, rfl⟩
                                · refine m_ca (q := (281, .invokevirtual 221, 3, 109, 2)) (a := 109) (vs := [.ref 7, .int (14 : Int32), .int (0 : Int32)]) (st := []) (d1 := 0) (by decide +kernel) rfl rfl rfl rfl (by decide) (Fr109 e123) ?_
                                  show m_Run X _ _ 124 284 [(0, .ref 7), (1, .int x1)] [] (hO R g121) _ _
                                  cases h
                                  exact m_rv (by decide +kernel)
                                · exact m_cx (q := (281, .invokevirtual 221, 3, 109, 2)) (a := 109) (vs := [.ref 7, .int (14 : Int32), .int (0 : Int32)]) (st := []) (d1 := 0) (by decide +kernel) (by decide +kernel) rfl rfl rfl rfl (by decide) (Fr109 e123)
                              · exact m_cx (q := (274, .invokevirtual 241, 3, 116, 2)) (a := 116) (vs := [.ref 7, .int (2 : Int32), .int v114]) (st := []) (d1 := 1) (by decide +kernel) (by decide +kernel) rfl rfl rfl rfl (by decide) (Fr116 e119)
                            · exact m_cx (q := (271, .invokevirtual 238, 3, 115, 0)) (a := 115) (vs := [.ref 7]) (st := [.int (2 : Int32), .ref 7]) (d1 := 0) (by decide +kernel) (by decide +kernel) rfl rfl rfl rfl (by decide) (Fr115 e115)
def f111 (n : Nat) (g : mG) : mZ := m_cv (f92 n g) (fun g1 => if (g1.1 26) = (3 : Int32) then m_ci (f114 n (g.1 27) ((g.1 28) - (g.1 27)) g1) (fun v7 g6 => if 0 ≤ v7 then m_cv (f107 n v7 g6) (fun g11 => m_cv (f107 n (g.1 27) g11) (fun g15 => m_cv (f107 n (0 : Int32) g15) (fun g19 => m_cv (f108 n (203 : Int32) (88 : Int32) (87 : Int32) (0 : Int32) g19) (fun g23 => some (.inl none, g23))))) else m_cv (f103 n (g.1 27) g6) (fun g27 => some (.inl none, g27))) else m_ci (f112 n (g.1 27) ((g.1 28) - (g.1 27)) g1) (fun v32 g31 => if 0 ≤ v32 then m_cv (f109 n (2 : Int32) v32 g31) (fun g36 => if v32 < 0 ∨ 8 ≤ Int32.toNatClampNeg v32 then none else m_cv (f110 n ((g36.2.1 42) (Int32.toNatClampNeg v32)) g36) (fun g41 => some (.inl none, g41))) else m_cv (f103 n (g.1 27) g31) (fun g45 => some (.inl none, g45))))
theorem Fr111 {R : Nat} {g g' : mG} {o : mO} (h : f111 n g = some (o, g')) : m_Run X (4) (m_ko o) 111 0 [(0, .ref 7)] [] (hO R g) o (hO R g') := by
  unfold f111 at h
  refine m_go (L := [(0, .aload_n 0, 1, 0, 0), (1, .getfield 148, 3, 6, 4), (4, .istore_n 1, 1, 0, 0), (5, .aload_n 0, 1, 0, 0), (6, .getfield 133, 3, 6, 5), (9, .aload_n 0, 1, 0, 0), (10, .getfield 148, 3, 6, 4), (13, .isub, 1, 0, 0), (14, .istore_n 2, 1, 0, 0), (15, .aload_n 0, 1, 0, 0)]) (pc1 := 16) (lv1 := [(0, .ref 7), (1, .int (g.1 27)), (2, .int ((g.1 28) - (g.1 27)))]) (st1 := [.ref 7]) (h1 := hO R g) (by decide +kernel) rfl ?_
  rcases m_cv_inv h with ⟨g1, e3, h⟩ | ⟨y4, g1, e3, rfl, rfl⟩
  · refine m_ca (q := (16, .invokevirtual 187, 3, 92, 0)) (a := 92) (vs := [.ref 7]) (st := []) (d1 := 3) (by decide +kernel) rfl rfl rfl rfl (by decide) (Fr92 e3) ?_
    show m_Run X _ _ 111 19 [(0, .ref 7), (1, .int (g.1 27)), (2, .int ((g.1 28) - (g.1 27)))] [] (hO R g1) _ _
    refine m_gob (c := (g1.1 26) = (3 : Int32)) (t := 61) (f := 27) (L := [(19, .aload_n 0, 1, 0, 0), (20, .getfield 142, 3, 6, 3), (23, .iconst 3, 1, 0, 0), (24, .if_icmp .eq 37, 3, 0, 0)]) (lv1 := [(0, .ref 7), (1, .int (g.1 27)), (2, .int ((g.1 28) - (g.1 27)))]) (st1 := []) (h1 := hO R g1) (by decide +kernel) rfl (fun c5 => ?_) (fun c5 => ?_)
    · rw [if_pos c5] at h
      refine m_go (L := [(61, .aload_n 0, 1, 0, 0), (62, .iload_n 1, 1, 0, 0), (63, .iload_n 2, 1, 0, 0)]) (pc1 := 64) (lv1 := [(0, .ref 7), (1, .int (g.1 27)), (2, .int ((g.1 28) - (g.1 27)))]) (st1 := [.int ((g.1 28) - (g.1 27)), .int (g.1 27), .ref 7]) (h1 := hO R g1) (by decide +kernel) rfl ?_
      rcases m_ci_inv h with ⟨v7, g6, e8, h⟩ | ⟨y9, g6, e8, rfl, rfl⟩
      · refine m_ca (q := (64, .invokevirtual 205, 3, 114, 2)) (a := 114) (vs := [.ref 7, .int (g.1 27), .int ((g.1 28) - (g.1 27))]) (st := []) (d1 := 1) (by decide +kernel) rfl rfl rfl rfl (by decide) (Fr114 e8) ?_
        show m_Run X _ _ 111 67 [(0, .ref 7), (1, .int (g.1 27)), (2, .int ((g.1 28) - (g.1 27)))] [.int v7] (hO R g6) _ _
        refine m_gob (c := 0 ≤ v7) (t := 78) (f := 72) (L := [(67, .istore_n 3, 1, 0, 0), (68, .iload_n 3, 1, 0, 0), (69, .ifCond .ge 9, 3, 0, 0)]) (lv1 := [(0, .ref 7), (1, .int (g.1 27)), (2, .int ((g.1 28) - (g.1 27))), (3, .int v7)]) (st1 := []) (h1 := hO R g6) (by decide +kernel) rfl (fun c10 => ?_) (fun c10 => ?_)
        · rw [if_pos c10] at h
          refine m_go (L := [(78, .aload_n 0, 1, 0, 0), (79, .iload_n 3, 1, 0, 0)]) (pc1 := 80) (lv1 := [(0, .ref 7), (1, .int (g.1 27)), (2, .int ((g.1 28) - (g.1 27))), (3, .int v7)]) (st1 := [.int v7, .ref 7]) (h1 := hO R g6) (by decide +kernel) rfl ?_
          rcases m_cv_inv h with ⟨g11, e13, h⟩ | ⟨y14, g11, e13, rfl, rfl⟩
          · refine m_ca (q := (80, .invokevirtual 214, 3, 107, 1)) (a := 107) (vs := [.ref 7, .int v7]) (st := []) (d1 := 0) (by decide +kernel) rfl rfl rfl rfl (by decide) (Fr107 e13) ?_
            show m_Run X _ _ 111 83 [(0, .ref 7), (1, .int (g.1 27)), (2, .int ((g.1 28) - (g.1 27))), (3, .int v7)] [] (hO R g11) _ _
            refine m_go (L := [(83, .aload_n 0, 1, 0, 0), (84, .iload_n 1, 1, 0, 0)]) (pc1 := 85) (lv1 := [(0, .ref 7), (1, .int (g.1 27)), (2, .int ((g.1 28) - (g.1 27))), (3, .int v7)]) (st1 := [.int (g.1 27), .ref 7]) (h1 := hO R g11) (by decide +kernel) rfl ?_
            rcases m_cv_inv h with ⟨g15, e17, h⟩ | ⟨y18, g15, e17, rfl, rfl⟩
            · refine m_ca (q := (85, .invokevirtual 214, 3, 107, 1)) (a := 107) (vs := [.ref 7, .int (g.1 27)]) (st := []) (d1 := 0) (by decide +kernel) rfl rfl rfl rfl (by decide) (Fr107 e17) ?_
              show m_Run X _ _ 111 88 [(0, .ref 7), (1, .int (g.1 27)), (2, .int ((g.1 28) - (g.1 27))), (3, .int v7)] [] (hO R g15) _ _
              refine m_go (L := [(88, .aload_n 0, 1, 0, 0), (89, .iconst 0, 1, 0, 0)]) (pc1 := 90) (lv1 := [(0, .ref 7), (1, .int (g.1 27)), (2, .int ((g.1 28) - (g.1 27))), (3, .int v7)]) (st1 := [.int (0 : Int32), .ref 7]) (h1 := hO R g15) (by decide +kernel) rfl ?_
              rcases m_cv_inv h with ⟨g19, e21, h⟩ | ⟨y22, g19, e21, rfl, rfl⟩
              · refine m_ca (q := (90, .invokevirtual 214, 3, 107, 1)) (a := 107) (vs := [.ref 7, .int (0 : Int32)]) (st := []) (d1 := 0) (by decide +kernel) rfl rfl rfl rfl (by decide) (Fr107 e21) ?_
                show m_Run X _ _ 111 93 [(0, .ref 7), (1, .int (g.1 27)), (2, .int ((g.1 28) - (g.1 27))), (3, .int v7)] [] (hO R g19) _ _
                refine m_go (L := [(93, .aload_n 0, 1, 0, 0), (94, .sipush 203, 3, 0, 0), (97, .bipush 88, 2, 0, 0), (99, .bipush 87, 2, 0, 0), (101, .iconst 0, 1, 0, 0)]) (pc1 := 102) (lv1 := [(0, .ref 7), (1, .int (g.1 27)), (2, .int ((g.1 28) - (g.1 27))), (3, .int v7)]) (st1 := [.int (0 : Int32), .int (87 : Int32), .int (88 : Int32), .int (203 : Int32), .ref 7]) (h1 := hO R g19) (by decide +kernel) rfl ?_
                rcases m_cv_inv h with ⟨g23, e25, h⟩ | ⟨y26, g23, e25, rfl, rfl⟩
                · refine m_ca (q := (102, .invokevirtual 217, 3, 108, 4)) (a := 108) (vs := [.ref 7, .int (203 : Int32), .int (88 : Int32), .int (87 : Int32), .int (0 : Int32)]) (st := []) (d1 := 1) (by decide +kernel) rfl rfl rfl rfl (by decide) (Fr108 e25) ?_
                  show m_Run X _ _ 111 105 [(0, .ref 7), (1, .int (g.1 27)), (2, .int ((g.1 28) - (g.1 27))), (3, .int v7)] [] (hO R g23) _ _
                  cases h
                  exact m_rv (by decide +kernel)
                · exact m_cx (q := (102, .invokevirtual 217, 3, 108, 4)) (a := 108) (vs := [.ref 7, .int (203 : Int32), .int (88 : Int32), .int (87 : Int32), .int (0 : Int32)]) (st := []) (d1 := 1) (by decide +kernel) (by decide +kernel) rfl rfl rfl rfl (by decide) (Fr108 e25)
              · exact m_cx (q := (90, .invokevirtual 214, 3, 107, 1)) (a := 107) (vs := [.ref 7, .int (0 : Int32)]) (st := []) (d1 := 0) (by decide +kernel) (by decide +kernel) rfl rfl rfl rfl (by decide) (Fr107 e21)
            · exact m_cx (q := (85, .invokevirtual 214, 3, 107, 1)) (a := 107) (vs := [.ref 7, .int (g.1 27)]) (st := []) (d1 := 0) (by decide +kernel) (by decide +kernel) rfl rfl rfl rfl (by decide) (Fr107 e17)
          · exact m_cx (q := (80, .invokevirtual 214, 3, 107, 1)) (a := 107) (vs := [.ref 7, .int v7]) (st := []) (d1 := 0) (by decide +kernel) (by decide +kernel) rfl rfl rfl rfl (by decide) (Fr107 e13)
        · rw [if_neg c10] at h
          refine m_go (L := [(72, .aload_n 0, 1, 0, 0), (73, .iload_n 1, 1, 0, 0)]) (pc1 := 74) (lv1 := [(0, .ref 7), (1, .int (g.1 27)), (2, .int ((g.1 28) - (g.1 27))), (3, .int v7)]) (st1 := [.int (g.1 27), .ref 7]) (h1 := hO R g6) (by decide +kernel) rfl ?_
          rcases m_cv_inv h with ⟨g27, e29, h⟩ | ⟨y30, g27, e29, rfl, rfl⟩
          · refine m_ca (q := (74, .invokevirtual 190, 3, 103, 1)) (a := 103) (vs := [.ref 7, .int (g.1 27)]) (st := []) (d1 := 0) (by decide +kernel) rfl rfl rfl rfl (by decide) (Fr103 e29) ?_
            show m_Run X _ _ 111 77 [(0, .ref 7), (1, .int (g.1 27)), (2, .int ((g.1 28) - (g.1 27))), (3, .int v7)] [] (hO R g27) _ _
            cases h
            exact m_rv (by decide +kernel)
          · exact m_cx (q := (74, .invokevirtual 190, 3, 103, 1)) (a := 103) (vs := [.ref 7, .int (g.1 27)]) (st := []) (d1 := 0) (by decide +kernel) (by decide +kernel) rfl rfl rfl rfl (by decide) (Fr103 e29)
      · exact m_cx (q := (64, .invokevirtual 205, 3, 114, 2)) (a := 114) (vs := [.ref 7, .int (g.1 27), .int ((g.1 28) - (g.1 27))]) (st := []) (d1 := 1) (by decide +kernel) (by decide +kernel) rfl rfl rfl rfl (by decide) (Fr114 e8)
    · rw [if_neg c5] at h
      refine m_go (L := [(27, .aload_n 0, 1, 0, 0), (28, .iload_n 1, 1, 0, 0), (29, .iload_n 2, 1, 0, 0)]) (pc1 := 30) (lv1 := [(0, .ref 7), (1, .int (g.1 27)), (2, .int ((g.1 28) - (g.1 27)))]) (st1 := [.int ((g.1 28) - (g.1 27)), .int (g.1 27), .ref 7]) (h1 := hO R g1) (by decide +kernel) rfl ?_
      rcases m_ci_inv h with ⟨v32, g31, e33, h⟩ | ⟨y34, g31, e33, rfl, rfl⟩
      · refine m_ca (q := (30, .invokevirtual 208, 3, 112, 2)) (a := 112) (vs := [.ref 7, .int (g.1 27), .int ((g.1 28) - (g.1 27))]) (st := []) (d1 := 1) (by decide +kernel) rfl rfl rfl rfl (by decide) (Fr112 e33) ?_
        show m_Run X _ _ 111 33 [(0, .ref 7), (1, .int (g.1 27)), (2, .int ((g.1 28) - (g.1 27)))] [.int v32] (hO R g31) _ _
        refine m_gob (c := 0 ≤ v32) (t := 44) (f := 38) (L := [(33, .istore_n 3, 1, 0, 0), (34, .iload_n 3, 1, 0, 0), (35, .ifCond .ge 9, 3, 0, 0)]) (lv1 := [(0, .ref 7), (1, .int (g.1 27)), (2, .int ((g.1 28) - (g.1 27))), (3, .int v32)]) (st1 := []) (h1 := hO R g31) (by decide +kernel) rfl (fun c35 => ?_) (fun c35 => ?_)
        · rw [if_pos c35] at h
          refine m_go (L := [(44, .aload_n 0, 1, 0, 0), (45, .iconst 2, 1, 0, 0), (46, .iload_n 3, 1, 0, 0)]) (pc1 := 47) (lv1 := [(0, .ref 7), (1, .int (g.1 27)), (2, .int ((g.1 28) - (g.1 27))), (3, .int v32)]) (st1 := [.int v32, .int (2 : Int32), .ref 7]) (h1 := hO R g31) (by decide +kernel) rfl ?_
          rcases m_cv_inv h with ⟨g36, e38, h⟩ | ⟨y39, g36, e38, rfl, rfl⟩
          · refine m_ca (q := (47, .invokevirtual 221, 3, 109, 2)) (a := 109) (vs := [.ref 7, .int (2 : Int32), .int v32]) (st := []) (d1 := 0) (by decide +kernel) rfl rfl rfl rfl (by decide) (Fr109 e38) ?_
            show m_Run X _ _ 111 50 [(0, .ref 7), (1, .int (g.1 27)), (2, .int ((g.1 28) - (g.1 27))), (3, .int v32)] [] (hO R g36) _ _
            refine m_go (L := [(50, .aload_n 0, 1, 0, 0), (51, .aload_n 0, 1, 0, 0), (52, .getfield 40, 3, 6, 23), (55, .iload_n 3, 1, 0, 0)]) (pc1 := 56) (lv1 := [(0, .ref 7), (1, .int (g.1 27)), (2, .int ((g.1 28) - (g.1 27))), (3, .int v32)]) (st1 := [.int v32, .ref 42, .ref 7]) (h1 := hO R g36) (by decide +kernel) rfl ?_
            obtain ⟨c40, h⟩ := m_ifn_inv h
            refine m_go1 (q := (56, .iaload, 1, 0, 0)) (pc1 := 57) (lv1 := [(0, .ref 7), (1, .int (g.1 27)), (2, .int ((g.1 28) - (g.1 27))), (3, .int v32)]) (st1 := [.int ((g36.2.1 42) (Int32.toNatClampNeg v32)), .ref 7]) (h1 := hO R g36) (by decide +kernel) (if_neg c40) ?_
            rcases m_cv_inv h with ⟨g41, e43, h⟩ | ⟨y44, g41, e43, rfl, rfl⟩
            · refine m_ca (q := (57, .invokevirtual 275, 3, 110, 1)) (a := 110) (vs := [.ref 7, .int ((g36.2.1 42) (Int32.toNatClampNeg v32))]) (st := []) (d1 := 0) (by decide +kernel) rfl rfl rfl rfl (by decide) (Fr110 e43) ?_
              show m_Run X _ _ 111 60 [(0, .ref 7), (1, .int (g.1 27)), (2, .int ((g.1 28) - (g.1 27))), (3, .int v32)] [] (hO R g41) _ _
              cases h
              exact m_rv (by decide +kernel)
            · exact m_cx (q := (57, .invokevirtual 275, 3, 110, 1)) (a := 110) (vs := [.ref 7, .int ((g36.2.1 42) (Int32.toNatClampNeg v32))]) (st := []) (d1 := 0) (by decide +kernel) (by decide +kernel) rfl rfl rfl rfl (by decide) (Fr110 e43)
          · exact m_cx (q := (47, .invokevirtual 221, 3, 109, 2)) (a := 109) (vs := [.ref 7, .int (2 : Int32), .int v32]) (st := []) (d1 := 0) (by decide +kernel) (by decide +kernel) rfl rfl rfl rfl (by decide) (Fr109 e38)
        · rw [if_neg c35] at h
          refine m_go (L := [(38, .aload_n 0, 1, 0, 0), (39, .iload_n 1, 1, 0, 0)]) (pc1 := 40) (lv1 := [(0, .ref 7), (1, .int (g.1 27)), (2, .int ((g.1 28) - (g.1 27))), (3, .int v32)]) (st1 := [.int (g.1 27), .ref 7]) (h1 := hO R g31) (by decide +kernel) rfl ?_
          rcases m_cv_inv h with ⟨g45, e47, h⟩ | ⟨y48, g45, e47, rfl, rfl⟩
          · refine m_ca (q := (40, .invokevirtual 190, 3, 103, 1)) (a := 103) (vs := [.ref 7, .int (g.1 27)]) (st := []) (d1 := 0) (by decide +kernel) rfl rfl rfl rfl (by decide) (Fr103 e47) ?_
            show m_Run X _ _ 111 43 [(0, .ref 7), (1, .int (g.1 27)), (2, .int ((g.1 28) - (g.1 27))), (3, .int v32)] [] (hO R g45) _ _
            cases h
            exact m_rv (by decide +kernel)
          · exact m_cx (q := (40, .invokevirtual 190, 3, 103, 1)) (a := 103) (vs := [.ref 7, .int (g.1 27)]) (st := []) (d1 := 0) (by decide +kernel) (by decide +kernel) rfl rfl rfl rfl (by decide) (Fr103 e47)
      · exact m_cx (q := (30, .invokevirtual 208, 3, 112, 2)) (a := 112) (vs := [.ref 7, .int (g.1 27), .int ((g.1 28) - (g.1 27))]) (st := []) (d1 := 1) (by decide +kernel) (by decide +kernel) rfl rfl rfl rfl (by decide) (Fr112 e33)
  · exact m_cx (q := (16, .invokevirtual 187, 3, 92, 0)) (a := 92) (vs := [.ref 7]) (st := []) (d1 := 3) (by decide +kernel) (by decide +kernel) rfl rfl rfl rfl (by decide) (Fr92 e3)
def f106_153 (n : Nat) (s1 : Int32) (s2 : Int32) (g : mG) : mZ := m_cv (f109 n s1 s2 g) (fun g65 => m_cv (f110 n (2 : Int32) g65) (fun g69 => m_cv (f92 n g69) (fun g73 => some (.inl none, g73))))
theorem Fr106_153 {R : Nat} {s1 : Int32} {s2 : Int32} {g g' : mG} {o : mO} (h : f106_153 n s1 s2 g = some (o, g')) : m_Run X (5) (m_ko o) 106 153 [(0, .ref 7)] [.int s2, .int s1, .ref 7] (hO R g) o (hO R g') := by
  unfold f106_153 at h
  rcases m_cv_inv h with ⟨g65, e67, h⟩ | ⟨y68, g65, e67, rfl, rfl⟩
  · refine m_ca (q := (153, .invokevirtual 221, 3, 109, 2)) (a := 109) (vs := [.ref 7, .int s1, .int s2]) (st := []) (d1 := 0) (by decide +kernel) rfl rfl rfl rfl (by decide) (Fr109 e67) ?_
    show m_Run X _ _ 106 156 [(0, .ref 7)] [] (hO R g65) _ _
    refine m_go (L := [(156, .aload_n 0, 1, 0, 0), (157, .iconst 2, 1, 0, 0)]) (pc1 := 158) (lv1 := [(0, .ref 7)]) (st1 := [.int (2 : Int32), .ref 7]) (h1 := hO R g65) (by decide +kernel) rfl ?_
    rcases m_cv_inv h with ⟨g69, e71, h⟩ | ⟨y72, g69, e71, rfl, rfl⟩
    · refine m_ca (q := (158, .invokevirtual 275, 3, 110, 1)) (a := 110) (vs := [.ref 7, .int (2 : Int32)]) (st := []) (d1 := 0) (by decide +kernel) rfl rfl rfl rfl (by decide) (Fr110 e71) ?_
      show m_Run X _ _ 106 161 [(0, .ref 7)] [] (hO R g69) _ _
      refine m_go (L := [(161, .aload_n 0, 1, 0, 0)]) (pc1 := 162) (lv1 := [(0, .ref 7)]) (st1 := [.ref 7]) (h1 := hO R g69) (by decide +kernel) rfl ?_
      rcases m_cv_inv h with ⟨g73, e75, h⟩ | ⟨y76, g73, e75, rfl, rfl⟩
      · refine m_ca (q := (162, .invokevirtual 187, 3, 92, 0)) (a := 92) (vs := [.ref 7]) (st := []) (d1 := 3) (by decide +kernel) rfl rfl rfl rfl (by decide) (Fr92 e75) ?_
        show m_Run X _ _ 106 165 [(0, .ref 7)] [] (hO R g73) _ _
        refine m_go (L := [(165, .goto 68, 3, 0, 0)]) (pc1 := 233) (lv1 := [(0, .ref 7)]) (st1 := []) (h1 := hO R g73) (by decide +kernel) rfl ?_
        cases h
        exact m_rv (by decide +kernel)
      · exact m_cx (q := (162, .invokevirtual 187, 3, 92, 0)) (a := 92) (vs := [.ref 7]) (st := []) (d1 := 3) (by decide +kernel) (by decide +kernel) rfl rfl rfl rfl (by decide) (Fr92 e75)
    · exact m_cx (q := (158, .invokevirtual 275, 3, 110, 1)) (a := 110) (vs := [.ref 7, .int (2 : Int32)]) (st := []) (d1 := 0) (by decide +kernel) (by decide +kernel) rfl rfl rfl rfl (by decide) (Fr110 e71)
  · exact m_cx (q := (153, .invokevirtual 221, 3, 109, 2)) (a := 109) (vs := [.ref 7, .int s1, .int s2]) (st := []) (d1 := 0) (by decide +kernel) (by decide +kernel) rfl rfl rfl rfl (by decide) (Fr109 e67)
def f106 (n : Nat) (g : mG) : mZ := if (g.1 26) = 1 then m_cv (f111 n g) (fun g2 => some (.inl none, g2)) else if (g.1 26) = 2 then m_cv (f109 n (1 : Int32) (g.1 29) g) (fun g7 => m_cv (f110 n (1 : Int32) g7) (fun g11 => m_cv (f92 n g11) (fun g15 => some (.inl none, g15)))) else if (g.1 26) = 3 then m_cv (f108 n (203 : Int32) (60 : Int32) (304 : Int32) (0 : Int32) g) (fun g20 => some (.inl none, g20)) else if (g.1 26) = 17 then m_cv (f107 n (g.1 26) g) (fun g25 => m_cv (f107 n (g25.1 27) g25) (fun g29 => m_cv (f108 n ((200 : Int32) + (g29.1 26)) (85 : Int32) (86 : Int32) (0 : Int32) g29) (fun g33 => some (.inl none, g33)))) else if (g.1 26) = 21 then m_cv (f107 n (g.1 26) g) (fun g38 => m_cv (f107 n (g38.1 27) g38) (fun g42 => m_cv (f108 n ((200 : Int32) + (g42.1 26)) (85 : Int32) (86 : Int32) (0 : Int32) g42) (fun g46 => some (.inl none, g46)))) else if (g.1 26) = 27 then m_cv (f107 n (g.1 27) g) (fun g51 => m_cv (f108 n (89 : Int32) (308 : Int32) (0 : Int32) (0 : Int32) g51) (fun g55 => m_cv (f108 n (27 : Int32) (207 : Int32) (60 : Int32) (0 : Int32) g55) (fun g59 => some (.inl none, g59)))) else if (g.1 26) = 33 then if ¬ (g.1 26) = (33 : Int32) then f106_153 n (1 : Int32) (0 : Int32) g else f106_153 n (1 : Int32) (1 : Int32) g else if (g.1 26) = 34 then if ¬ (g.1 26) = (33 : Int32) then f106_153 n (1 : Int32) (0 : Int32) g else f106_153 n (1 : Int32) (1 : Int32) g else m_cv (f103 n (g.1 27) g) (fun g79 => some (.inl none, g79))
theorem Fr106 {R : Nat} {g g' : mG} {o : mO} (h : f106 n g = some (o, g')) : m_Run X (5) (m_ko o) 106 0 [(0, .ref 7)] [] (hO R g) o (hO R g') := by
  unfold f106 at h
  refine m_go (L := [(0, .aload_n 0, 1, 0, 0), (1, .getfield 142, 3, 6, 3)]) (pc1 := 4) (lv1 := [(0, .ref 7)]) (st1 := [.int (g.1 26)]) (h1 := hO R g) (by decide +kernel) rfl ?_
  by_cases c1 : (g.1 26) = 1
  · rw [if_pos c1] at h
    refine m_go1 (q := (4, .lookupswitch 221 #[(1, 164), (2, 112), (3, 205), (17, 76), (21, 76), (27, 171), (33, 133), (34, 133)], 76, 0, 0)) (pc1 := 168) (lv1 := [(0, .ref 7)]) (st1 := []) (h1 := hO R g) (by decide +kernel) (m_swx (fun z => m_loc m_ft X (.lookupswitch 221 #[(1, 164), (2, 112), (3, 205), (17, 76), (21, 76), (27, 171), (33, 133), (34, 133)]) 0 0 4 [(0, .ref 7)] (.int z :: []) (hO R g)) c1 rfl) ?_
    refine m_go (L := [(168, .aload_n 0, 1, 0, 0)]) (pc1 := 169) (lv1 := [(0, .ref 7)]) (st1 := [.ref 7]) (h1 := hO R g) (by decide +kernel) rfl ?_
    rcases m_cv_inv h with ⟨g2, e4, h⟩ | ⟨y5, g2, e4, rfl, rfl⟩
    · refine m_ca (q := (169, .invokevirtual 278, 3, 111, 0)) (a := 111) (vs := [.ref 7]) (st := []) (d1 := 4) (by decide +kernel) rfl rfl rfl rfl (by decide) (Fr111 e4) ?_
      show m_Run X _ _ 106 172 [(0, .ref 7)] [] (hO R g2) _ _
      refine m_go (L := [(172, .goto 61, 3, 0, 0)]) (pc1 := 233) (lv1 := [(0, .ref 7)]) (st1 := []) (h1 := hO R g2) (by decide +kernel) rfl ?_
      cases h
      exact m_rv (by decide +kernel)
    · exact m_cx (q := (169, .invokevirtual 278, 3, 111, 0)) (a := 111) (vs := [.ref 7]) (st := []) (d1 := 4) (by decide +kernel) (by decide +kernel) rfl rfl rfl rfl (by decide) (Fr111 e4)
  · rw [if_neg c1] at h
    by_cases c6 : (g.1 26) = 2
    · rw [if_pos c6] at h
      refine m_go1 (q := (4, .lookupswitch 221 #[(1, 164), (2, 112), (3, 205), (17, 76), (21, 76), (27, 171), (33, 133), (34, 133)], 76, 0, 0)) (pc1 := 116) (lv1 := [(0, .ref 7)]) (st1 := []) (h1 := hO R g) (by decide +kernel) (m_swx (fun z => m_loc m_ft X (.lookupswitch 221 #[(1, 164), (2, 112), (3, 205), (17, 76), (21, 76), (27, 171), (33, 133), (34, 133)]) 0 0 4 [(0, .ref 7)] (.int z :: []) (hO R g)) c6 rfl) ?_
      refine m_go (L := [(116, .aload_n 0, 1, 0, 0), (117, .iconst 1, 1, 0, 0), (118, .aload_n 0, 1, 0, 0), (119, .getfield 145, 3, 6, 6)]) (pc1 := 122) (lv1 := [(0, .ref 7)]) (st1 := [.int (g.1 29), .int (1 : Int32), .ref 7]) (h1 := hO R g) (by decide +kernel) rfl ?_
      rcases m_cv_inv h with ⟨g7, e9, h⟩ | ⟨y10, g7, e9, rfl, rfl⟩
      · refine m_ca (q := (122, .invokevirtual 221, 3, 109, 2)) (a := 109) (vs := [.ref 7, .int (1 : Int32), .int (g.1 29)]) (st := []) (d1 := 0) (by decide +kernel) rfl rfl rfl rfl (by decide) (Fr109 e9) ?_
        show m_Run X _ _ 106 125 [(0, .ref 7)] [] (hO R g7) _ _
        refine m_go (L := [(125, .aload_n 0, 1, 0, 0), (126, .iconst 1, 1, 0, 0)]) (pc1 := 127) (lv1 := [(0, .ref 7)]) (st1 := [.int (1 : Int32), .ref 7]) (h1 := hO R g7) (by decide +kernel) rfl ?_
        rcases m_cv_inv h with ⟨g11, e13, h⟩ | ⟨y14, g11, e13, rfl, rfl⟩
        · refine m_ca (q := (127, .invokevirtual 275, 3, 110, 1)) (a := 110) (vs := [.ref 7, .int (1 : Int32)]) (st := []) (d1 := 0) (by decide +kernel) rfl rfl rfl rfl (by decide) (Fr110 e13) ?_
          show m_Run X _ _ 106 130 [(0, .ref 7)] [] (hO R g11) _ _
          refine m_go (L := [(130, .aload_n 0, 1, 0, 0)]) (pc1 := 131) (lv1 := [(0, .ref 7)]) (st1 := [.ref 7]) (h1 := hO R g11) (by decide +kernel) rfl ?_
          rcases m_cv_inv h with ⟨g15, e17, h⟩ | ⟨y18, g15, e17, rfl, rfl⟩
          · refine m_ca (q := (131, .invokevirtual 187, 3, 92, 0)) (a := 92) (vs := [.ref 7]) (st := []) (d1 := 3) (by decide +kernel) rfl rfl rfl rfl (by decide) (Fr92 e17) ?_
            show m_Run X _ _ 106 134 [(0, .ref 7)] [] (hO R g15) _ _
            refine m_go (L := [(134, .goto 99, 3, 0, 0)]) (pc1 := 233) (lv1 := [(0, .ref 7)]) (st1 := []) (h1 := hO R g15) (by decide +kernel) rfl ?_
            cases h
            exact m_rv (by decide +kernel)
          · exact m_cx (q := (131, .invokevirtual 187, 3, 92, 0)) (a := 92) (vs := [.ref 7]) (st := []) (d1 := 3) (by decide +kernel) (by decide +kernel) rfl rfl rfl rfl (by decide) (Fr92 e17)
        · exact m_cx (q := (127, .invokevirtual 275, 3, 110, 1)) (a := 110) (vs := [.ref 7, .int (1 : Int32)]) (st := []) (d1 := 0) (by decide +kernel) (by decide +kernel) rfl rfl rfl rfl (by decide) (Fr110 e13)
      · exact m_cx (q := (122, .invokevirtual 221, 3, 109, 2)) (a := 109) (vs := [.ref 7, .int (1 : Int32), .int (g.1 29)]) (st := []) (d1 := 0) (by decide +kernel) (by decide +kernel) rfl rfl rfl rfl (by decide) (Fr109 e9)
    · rw [if_neg c6] at h
      by_cases c19 : (g.1 26) = 3
      · rw [if_pos c19] at h
        refine m_go1 (q := (4, .lookupswitch 221 #[(1, 164), (2, 112), (3, 205), (17, 76), (21, 76), (27, 171), (33, 133), (34, 133)], 76, 0, 0)) (pc1 := 209) (lv1 := [(0, .ref 7)]) (st1 := []) (h1 := hO R g) (by decide +kernel) (m_swx (fun z => m_loc m_ft X (.lookupswitch 221 #[(1, 164), (2, 112), (3, 205), (17, 76), (21, 76), (27, 171), (33, 133), (34, 133)]) 0 0 4 [(0, .ref 7)] (.int z :: []) (hO R g)) c19 rfl) ?_
        refine m_go (L := [(209, .aload_n 0, 1, 0, 0), (210, .sipush 203, 3, 0, 0), (213, .bipush 60, 2, 0, 0), (215, .sipush 304, 3, 0, 0), (218, .iconst 0, 1, 0, 0)]) (pc1 := 219) (lv1 := [(0, .ref 7)]) (st1 := [.int (0 : Int32), .int (304 : Int32), .int (60 : Int32), .int (203 : Int32), .ref 7]) (h1 := hO R g) (by decide +kernel) rfl ?_
        rcases m_cv_inv h with ⟨g20, e22, h⟩ | ⟨y23, g20, e22, rfl, rfl⟩
        · refine m_ca (q := (219, .invokevirtual 217, 3, 108, 4)) (a := 108) (vs := [.ref 7, .int (203 : Int32), .int (60 : Int32), .int (304 : Int32), .int (0 : Int32)]) (st := []) (d1 := 1) (by decide +kernel) rfl rfl rfl rfl (by decide) (Fr108 e22) ?_
          show m_Run X _ _ 106 222 [(0, .ref 7)] [] (hO R g20) _ _
          refine m_go (L := [(222, .goto 11, 3, 0, 0)]) (pc1 := 233) (lv1 := [(0, .ref 7)]) (st1 := []) (h1 := hO R g20) (by decide +kernel) rfl ?_
          cases h
          exact m_rv (by decide +kernel)
        · exact m_cx (q := (219, .invokevirtual 217, 3, 108, 4)) (a := 108) (vs := [.ref 7, .int (203 : Int32), .int (60 : Int32), .int (304 : Int32), .int (0 : Int32)]) (st := []) (d1 := 1) (by decide +kernel) (by decide +kernel) rfl rfl rfl rfl (by decide) (Fr108 e22)
      · rw [if_neg c19] at h
        by_cases c24 : (g.1 26) = 17
        · rw [if_pos c24] at h
          refine m_go1 (q := (4, .lookupswitch 221 #[(1, 164), (2, 112), (3, 205), (17, 76), (21, 76), (27, 171), (33, 133), (34, 133)], 76, 0, 0)) (pc1 := 80) (lv1 := [(0, .ref 7)]) (st1 := []) (h1 := hO R g) (by decide +kernel) (m_swx (fun z => m_loc m_ft X (.lookupswitch 221 #[(1, 164), (2, 112), (3, 205), (17, 76), (21, 76), (27, 171), (33, 133), (34, 133)]) 0 0 4 [(0, .ref 7)] (.int z :: []) (hO R g)) c24 rfl) ?_
          refine m_go (L := [(80, .aload_n 0, 1, 0, 0), (81, .aload_n 0, 1, 0, 0), (82, .getfield 142, 3, 6, 3)]) (pc1 := 85) (lv1 := [(0, .ref 7)]) (st1 := [.int (g.1 26), .ref 7]) (h1 := hO R g) (by decide +kernel) rfl ?_
          rcases m_cv_inv h with ⟨g25, e27, h⟩ | ⟨y28, g25, e27, rfl, rfl⟩
          · refine m_ca (q := (85, .invokevirtual 214, 3, 107, 1)) (a := 107) (vs := [.ref 7, .int (g.1 26)]) (st := []) (d1 := 0) (by decide +kernel) rfl rfl rfl rfl (by decide) (Fr107 e27) ?_
            show m_Run X _ _ 106 88 [(0, .ref 7)] [] (hO R g25) _ _
            refine m_go (L := [(88, .aload_n 0, 1, 0, 0), (89, .aload_n 0, 1, 0, 0), (90, .getfield 148, 3, 6, 4)]) (pc1 := 93) (lv1 := [(0, .ref 7)]) (st1 := [.int (g25.1 27), .ref 7]) (h1 := hO R g25) (by decide +kernel) rfl ?_
            rcases m_cv_inv h with ⟨g29, e31, h⟩ | ⟨y32, g29, e31, rfl, rfl⟩
            · refine m_ca (q := (93, .invokevirtual 214, 3, 107, 1)) (a := 107) (vs := [.ref 7, .int (g25.1 27)]) (st := []) (d1 := 0) (by decide +kernel) rfl rfl rfl rfl (by decide) (Fr107 e31) ?_
              show m_Run X _ _ 106 96 [(0, .ref 7)] [] (hO R g29) _ _
              refine m_go (L := [(96, .aload_n 0, 1, 0, 0), (97, .sipush 200, 3, 0, 0), (100, .aload_n 0, 1, 0, 0), (101, .getfield 142, 3, 6, 3), (104, .iadd, 1, 0, 0), (105, .bipush 85, 2, 0, 0), (107, .bipush 86, 2, 0, 0), (109, .iconst 0, 1, 0, 0)]) (pc1 := 110) (lv1 := [(0, .ref 7)]) (st1 := [.int (0 : Int32), .int (86 : Int32), .int (85 : Int32), .int ((200 : Int32) + (g29.1 26)), .ref 7]) (h1 := hO R g29) (by decide +kernel) rfl ?_
              rcases m_cv_inv h with ⟨g33, e35, h⟩ | ⟨y36, g33, e35, rfl, rfl⟩
              · refine m_ca (q := (110, .invokevirtual 217, 3, 108, 4)) (a := 108) (vs := [.ref 7, .int ((200 : Int32) + (g29.1 26)), .int (85 : Int32), .int (86 : Int32), .int (0 : Int32)]) (st := []) (d1 := 1) (by decide +kernel) rfl rfl rfl rfl (by decide) (Fr108 e35) ?_
                show m_Run X _ _ 106 113 [(0, .ref 7)] [] (hO R g33) _ _
                refine m_go (L := [(113, .goto 120, 3, 0, 0)]) (pc1 := 233) (lv1 := [(0, .ref 7)]) (st1 := []) (h1 := hO R g33) (by decide +kernel) rfl ?_
                cases h
                exact m_rv (by decide +kernel)
              · exact m_cx (q := (110, .invokevirtual 217, 3, 108, 4)) (a := 108) (vs := [.ref 7, .int ((200 : Int32) + (g29.1 26)), .int (85 : Int32), .int (86 : Int32), .int (0 : Int32)]) (st := []) (d1 := 1) (by decide +kernel) (by decide +kernel) rfl rfl rfl rfl (by decide) (Fr108 e35)
            · exact m_cx (q := (93, .invokevirtual 214, 3, 107, 1)) (a := 107) (vs := [.ref 7, .int (g25.1 27)]) (st := []) (d1 := 0) (by decide +kernel) (by decide +kernel) rfl rfl rfl rfl (by decide) (Fr107 e31)
          · exact m_cx (q := (85, .invokevirtual 214, 3, 107, 1)) (a := 107) (vs := [.ref 7, .int (g.1 26)]) (st := []) (d1 := 0) (by decide +kernel) (by decide +kernel) rfl rfl rfl rfl (by decide) (Fr107 e27)
        · rw [if_neg c24] at h
          by_cases c37 : (g.1 26) = 21
          · rw [if_pos c37] at h
            refine m_go1 (q := (4, .lookupswitch 221 #[(1, 164), (2, 112), (3, 205), (17, 76), (21, 76), (27, 171), (33, 133), (34, 133)], 76, 0, 0)) (pc1 := 80) (lv1 := [(0, .ref 7)]) (st1 := []) (h1 := hO R g) (by decide +kernel) (m_swx (fun z => m_loc m_ft X (.lookupswitch 221 #[(1, 164), (2, 112), (3, 205), (17, 76), (21, 76), (27, 171), (33, 133), (34, 133)]) 0 0 4 [(0, .ref 7)] (.int z :: []) (hO R g)) c37 rfl) ?_
            refine m_go (L := [(80, .aload_n 0, 1, 0, 0), (81, .aload_n 0, 1, 0, 0), (82, .getfield 142, 3, 6, 3)]) (pc1 := 85) (lv1 := [(0, .ref 7)]) (st1 := [.int (g.1 26), .ref 7]) (h1 := hO R g) (by decide +kernel) rfl ?_
            rcases m_cv_inv h with ⟨g38, e40, h⟩ | ⟨y41, g38, e40, rfl, rfl⟩
            · refine m_ca (q := (85, .invokevirtual 214, 3, 107, 1)) (a := 107) (vs := [.ref 7, .int (g.1 26)]) (st := []) (d1 := 0) (by decide +kernel) rfl rfl rfl rfl (by decide) (Fr107 e40) ?_
              show m_Run X _ _ 106 88 [(0, .ref 7)] [] (hO R g38) _ _
              refine m_go (L := [(88, .aload_n 0, 1, 0, 0), (89, .aload_n 0, 1, 0, 0), (90, .getfield 148, 3, 6, 4)]) (pc1 := 93) (lv1 := [(0, .ref 7)]) (st1 := [.int (g38.1 27), .ref 7]) (h1 := hO R g38) (by decide +kernel) rfl ?_
              rcases m_cv_inv h with ⟨g42, e44, h⟩ | ⟨y45, g42, e44, rfl, rfl⟩
              · refine m_ca (q := (93, .invokevirtual 214, 3, 107, 1)) (a := 107) (vs := [.ref 7, .int (g38.1 27)]) (st := []) (d1 := 0) (by decide +kernel) rfl rfl rfl rfl (by decide) (Fr107 e44) ?_
                show m_Run X _ _ 106 96 [(0, .ref 7)] [] (hO R g42) _ _
                refine m_go (L := [(96, .aload_n 0, 1, 0, 0), (97, .sipush 200, 3, 0, 0), (100, .aload_n 0, 1, 0, 0), (101, .getfield 142, 3, 6, 3), (104, .iadd, 1, 0, 0), (105, .bipush 85, 2, 0, 0), (107, .bipush 86, 2, 0, 0), (109, .iconst 0, 1, 0, 0)]) (pc1 := 110) (lv1 := [(0, .ref 7)]) (st1 := [.int (0 : Int32), .int (86 : Int32), .int (85 : Int32), .int ((200 : Int32) + (g42.1 26)), .ref 7]) (h1 := hO R g42) (by decide +kernel) rfl ?_
                rcases m_cv_inv h with ⟨g46, e48, h⟩ | ⟨y49, g46, e48, rfl, rfl⟩
                · refine m_ca (q := (110, .invokevirtual 217, 3, 108, 4)) (a := 108) (vs := [.ref 7, .int ((200 : Int32) + (g42.1 26)), .int (85 : Int32), .int (86 : Int32), .int (0 : Int32)]) (st := []) (d1 := 1) (by decide +kernel) rfl rfl rfl rfl (by decide) (Fr108 e48) ?_
                  show m_Run X _ _ 106 113 [(0, .ref 7)] [] (hO R g46) _ _
                  refine m_go (L := [(113, .goto 120, 3, 0, 0)]) (pc1 := 233) (lv1 := [(0, .ref 7)]) (st1 := []) (h1 := hO R g46) (by decide +kernel) rfl ?_
                  cases h
                  exact m_rv (by decide +kernel)
                · exact m_cx (q := (110, .invokevirtual 217, 3, 108, 4)) (a := 108) (vs := [.ref 7, .int ((200 : Int32) + (g42.1 26)), .int (85 : Int32), .int (86 : Int32), .int (0 : Int32)]) (st := []) (d1 := 1) (by decide +kernel) (by decide +kernel) rfl rfl rfl rfl (by decide) (Fr108 e48)
              · exact m_cx (q := (93, .invokevirtual 214, 3, 107, 1)) (a := 107) (vs := [.ref 7, .int (g38.1 27)]) (st := []) (d1 := 0) (by decide +kernel) (by decide +kernel) rfl rfl rfl rfl (by decide) (Fr107 e44)
            · exact m_cx (q := (85, .invokevirtual 214, 3, 107, 1)) (a := 107) (vs := [.ref 7, .int (g.1 26)]) (st := []) (d1 := 0) (by decide +kernel) (by decide +kernel) rfl rfl rfl rfl (by decide) (Fr107 e40)
          · rw [if_neg c37] at h
            by_cases c50 : (g.1 26) = 27
            · rw [if_pos c50] at h
              refine m_go1 (q := (4, .lookupswitch 221 #[(1, 164), (2, 112), (3, 205), (17, 76), (21, 76), (27, 171), (33, 133), (34, 133)], 76, 0, 0)) (pc1 := 175) (lv1 := [(0, .ref 7)]) (st1 := []) (h1 := hO R g) (by decide +kernel) (m_swx (fun z => m_loc m_ft X (.lookupswitch 221 #[(1, 164), (2, 112), (3, 205), (17, 76), (21, 76), (27, 171), (33, 133), (34, 133)]) 0 0 4 [(0, .ref 7)] (.int z :: []) (hO R g)) c50 rfl) ?_
              refine m_go (L := [(175, .aload_n 0, 1, 0, 0), (176, .aload_n 0, 1, 0, 0), (177, .getfield 148, 3, 6, 4)]) (pc1 := 180) (lv1 := [(0, .ref 7)]) (st1 := [.int (g.1 27), .ref 7]) (h1 := hO R g) (by decide +kernel) rfl ?_
              rcases m_cv_inv h with ⟨g51, e53, h⟩ | ⟨y54, g51, e53, rfl, rfl⟩
              · refine m_ca (q := (180, .invokevirtual 214, 3, 107, 1)) (a := 107) (vs := [.ref 7, .int (g.1 27)]) (st := []) (d1 := 0) (by decide +kernel) rfl rfl rfl rfl (by decide) (Fr107 e53) ?_
                show m_Run X _ _ 106 183 [(0, .ref 7)] [] (hO R g51) _ _
                refine m_go (L := [(183, .aload_n 0, 1, 0, 0), (184, .bipush 89, 2, 0, 0), (186, .sipush 308, 3, 0, 0), (189, .iconst 0, 1, 0, 0), (190, .iconst 0, 1, 0, 0)]) (pc1 := 191) (lv1 := [(0, .ref 7)]) (st1 := [.int (0 : Int32), .int (0 : Int32), .int (308 : Int32), .int (89 : Int32), .ref 7]) (h1 := hO R g51) (by decide +kernel) rfl ?_
                rcases m_cv_inv h with ⟨g55, e57, h⟩ | ⟨y58, g55, e57, rfl, rfl⟩
                · refine m_ca (q := (191, .invokevirtual 217, 3, 108, 4)) (a := 108) (vs := [.ref 7, .int (89 : Int32), .int (308 : Int32), .int (0 : Int32), .int (0 : Int32)]) (st := []) (d1 := 1) (by decide +kernel) rfl rfl rfl rfl (by decide) (Fr108 e57) ?_
                  show m_Run X _ _ 106 194 [(0, .ref 7)] [] (hO R g55) _ _
                  refine m_go (L := [(194, .aload_n 0, 1, 0, 0), (195, .bipush 27, 2, 0, 0), (197, .sipush 207, 3, 0, 0), (200, .bipush 60, 2, 0, 0), (202, .iconst 0, 1, 0, 0)]) (pc1 := 203) (lv1 := [(0, .ref 7)]) (st1 := [.int (0 : Int32), .int (60 : Int32), .int (207 : Int32), .int (27 : Int32), .ref 7]) (h1 := hO R g55) (by decide +kernel) rfl ?_
                  rcases m_cv_inv h with ⟨g59, e61, h⟩ | ⟨y62, g59, e61, rfl, rfl⟩
                  · refine m_ca (q := (203, .invokevirtual 217, 3, 108, 4)) (a := 108) (vs := [.ref 7, .int (27 : Int32), .int (207 : Int32), .int (60 : Int32), .int (0 : Int32)]) (st := []) (d1 := 1) (by decide +kernel) rfl rfl rfl rfl (by decide) (Fr108 e61) ?_
                    show m_Run X _ _ 106 206 [(0, .ref 7)] [] (hO R g59) _ _
                    refine m_go (L := [(206, .goto 27, 3, 0, 0)]) (pc1 := 233) (lv1 := [(0, .ref 7)]) (st1 := []) (h1 := hO R g59) (by decide +kernel) rfl ?_
                    cases h
                    exact m_rv (by decide +kernel)
                  · exact m_cx (q := (203, .invokevirtual 217, 3, 108, 4)) (a := 108) (vs := [.ref 7, .int (27 : Int32), .int (207 : Int32), .int (60 : Int32), .int (0 : Int32)]) (st := []) (d1 := 1) (by decide +kernel) (by decide +kernel) rfl rfl rfl rfl (by decide) (Fr108 e61)
                · exact m_cx (q := (191, .invokevirtual 217, 3, 108, 4)) (a := 108) (vs := [.ref 7, .int (89 : Int32), .int (308 : Int32), .int (0 : Int32), .int (0 : Int32)]) (st := []) (d1 := 1) (by decide +kernel) (by decide +kernel) rfl rfl rfl rfl (by decide) (Fr108 e57)
              · exact m_cx (q := (180, .invokevirtual 214, 3, 107, 1)) (a := 107) (vs := [.ref 7, .int (g.1 27)]) (st := []) (d1 := 0) (by decide +kernel) (by decide +kernel) rfl rfl rfl rfl (by decide) (Fr107 e53)
            · rw [if_neg c50] at h
              by_cases c63 : (g.1 26) = 33
              · rw [if_pos c63] at h
                refine m_go1 (q := (4, .lookupswitch 221 #[(1, 164), (2, 112), (3, 205), (17, 76), (21, 76), (27, 171), (33, 133), (34, 133)], 76, 0, 0)) (pc1 := 137) (lv1 := [(0, .ref 7)]) (st1 := []) (h1 := hO R g) (by decide +kernel) (m_swx (fun z => m_loc m_ft X (.lookupswitch 221 #[(1, 164), (2, 112), (3, 205), (17, 76), (21, 76), (27, 171), (33, 133), (34, 133)]) 0 0 4 [(0, .ref 7)] (.int z :: []) (hO R g)) c63 rfl) ?_
                refine m_gob (c := ¬ (g.1 26) = (33 : Int32)) (t := 152) (f := 148) (L := [(137, .aload_n 0, 1, 0, 0), (138, .iconst 1, 1, 0, 0), (139, .aload_n 0, 1, 0, 0), (140, .getfield 142, 3, 6, 3), (143, .bipush 33, 2, 0, 0), (145, .if_icmp .ne 7, 3, 0, 0)]) (lv1 := [(0, .ref 7)]) (st1 := [.int (1 : Int32), .ref 7]) (h1 := hO R g) (by decide +kernel) rfl (fun c64 => ?_) (fun c64 => ?_)
                · rw [if_pos c64] at h
                  refine m_go (L := [(152, .iconst 0, 1, 0, 0)]) (pc1 := 153) (lv1 := [(0, .ref 7)]) (st1 := [.int (0 : Int32), .int (1 : Int32), .ref 7]) (h1 := hO R g) (by decide +kernel) rfl ?_
                  exact m_r0 _ _ _ _ _ _ _ _ _ _ (m_pick [0] rfl) (Fr106_153 h)
                · rw [if_neg c64] at h
                  refine m_go (L := [(148, .iconst 1, 1, 0, 0), (149, .goto 4, 3, 0, 0)]) (pc1 := 153) (lv1 := [(0, .ref 7)]) (st1 := [.int (1 : Int32), .int (1 : Int32), .ref 7]) (h1 := hO R g) (by decide +kernel) rfl ?_
                  exact m_r0 _ _ _ _ _ _ _ _ _ _ (m_pick [0] rfl) (Fr106_153 h)
              · rw [if_neg c63] at h
                by_cases c77 : (g.1 26) = 34
                · rw [if_pos c77] at h
                  refine m_go1 (q := (4, .lookupswitch 221 #[(1, 164), (2, 112), (3, 205), (17, 76), (21, 76), (27, 171), (33, 133), (34, 133)], 76, 0, 0)) (pc1 := 137) (lv1 := [(0, .ref 7)]) (st1 := []) (h1 := hO R g) (by decide +kernel) (m_swx (fun z => m_loc m_ft X (.lookupswitch 221 #[(1, 164), (2, 112), (3, 205), (17, 76), (21, 76), (27, 171), (33, 133), (34, 133)]) 0 0 4 [(0, .ref 7)] (.int z :: []) (hO R g)) c77 rfl) ?_
                  refine m_gob (c := ¬ (g.1 26) = (33 : Int32)) (t := 152) (f := 148) (L := [(137, .aload_n 0, 1, 0, 0), (138, .iconst 1, 1, 0, 0), (139, .aload_n 0, 1, 0, 0), (140, .getfield 142, 3, 6, 3), (143, .bipush 33, 2, 0, 0), (145, .if_icmp .ne 7, 3, 0, 0)]) (lv1 := [(0, .ref 7)]) (st1 := [.int (1 : Int32), .ref 7]) (h1 := hO R g) (by decide +kernel) rfl (fun c78 => ?_) (fun c78 => ?_)
                  · rw [if_pos c78] at h
                    refine m_go (L := [(152, .iconst 0, 1, 0, 0)]) (pc1 := 153) (lv1 := [(0, .ref 7)]) (st1 := [.int (0 : Int32), .int (1 : Int32), .ref 7]) (h1 := hO R g) (by decide +kernel) rfl ?_
                    exact m_r0 _ _ _ _ _ _ _ _ _ _ (m_pick [0] rfl) (Fr106_153 h)
                  · rw [if_neg c78] at h
                    refine m_go (L := [(148, .iconst 1, 1, 0, 0), (149, .goto 4, 3, 0, 0)]) (pc1 := 153) (lv1 := [(0, .ref 7)]) (st1 := [.int (1 : Int32), .int (1 : Int32), .ref 7]) (h1 := hO R g) (by decide +kernel) rfl ?_
                    exact m_r0 _ _ _ _ _ _ _ _ _ _ (m_pick [0] rfl) (Fr106_153 h)
                · rw [if_neg c77] at h
                  refine m_go1 (q := (4, .lookupswitch 221 #[(1, 164), (2, 112), (3, 205), (17, 76), (21, 76), (27, 171), (33, 133), (34, 133)], 76, 0, 0)) (pc1 := 225) (lv1 := [(0, .ref 7)]) (st1 := []) (h1 := hO R g) (by decide +kernel) (by show some (m_tg _ (Op.lookupswitch.offset _ _ _), _, _, _) = _; rw [m_lkd _ (List.forall_mem_cons.mpr ⟨m_ne (k := 1) (by decide) c1, List.forall_mem_cons.mpr ⟨m_ne (k := 2) (by decide) c6, List.forall_mem_cons.mpr ⟨m_ne (k := 3) (by decide) c19, List.forall_mem_cons.mpr ⟨m_ne (k := 17) (by decide) c24, List.forall_mem_cons.mpr ⟨m_ne (k := 21) (by decide) c37, List.forall_mem_cons.mpr ⟨m_ne (k := 27) (by decide) c50, List.forall_mem_cons.mpr ⟨m_ne (k := 33) (by decide) c63, List.forall_mem_cons.mpr ⟨m_ne (k := 34) (by decide) c77, fun _ hq => absurd hq List.not_mem_nil⟩⟩⟩⟩⟩⟩⟩⟩)]; rfl) ?_
                  refine m_go (L := [(225, .aload_n 0, 1, 0, 0), (226, .aload_n 0, 1, 0, 0), (227, .getfield 148, 3, 6, 4)]) (pc1 := 230) (lv1 := [(0, .ref 7)]) (st1 := [.int (g.1 27), .ref 7]) (h1 := hO R g) (by decide +kernel) rfl ?_
                  rcases m_cv_inv h with ⟨g79, e81, h⟩ | ⟨y82, g79, e81, rfl, rfl⟩
                  · refine m_ca (q := (230, .invokevirtual 190, 3, 103, 1)) (a := 103) (vs := [.ref 7, .int (g.1 27)]) (st := []) (d1 := 0) (by decide +kernel) rfl rfl rfl rfl (by decide) (Fr103 e81) ?_
                    show m_Run X _ _ 106 233 [(0, .ref 7)] [] (hO R g79) _ _
                    cases h
                    exact m_rv (by decide +kernel)
                  · exact m_cx (q := (230, .invokevirtual 190, 3, 103, 1)) (a := 103) (vs := [.ref 7, .int (g.1 27)]) (st := []) (d1 := 0) (by decide +kernel) (by decide +kernel) rfl rfl rfl rfl (by decide) (Fr103 e81)
def f118_47 (n : Nat) (x3 : Int32) (g : mG) : mZ := m_cv (f92 n (gI g 34 ((g.1 34) - (1 : Int32)))) (fun g16 => m_cv (f109 n (8 : Int32) x3 g16) (fun g20 => m_cv (f110 n (1 : Int32) g20) (fun g24 => some (.inl none, g24))))
theorem Fr118_47 {R : Nat} {x3 : Int32} {g g' : mG} {o : mO} (h : f118_47 n x3 g = some (o, g')) : m_Run X (4) (m_ko o) 118 47 [(0, .ref 7), (3, .int x3)] [] (hO R g) o (hO R g') := by
  unfold f118_47 at h
  refine m_go (L := [(47, .aload_n 0, 1, 0, 0), (48, .dup, 1, 0, 0), (49, .getfield 193, 3, 6, 14), (52, .iconst 1, 1, 0, 0), (53, .isub, 1, 0, 0), (54, .putfield 193, 3, 6, 14), (57, .aload_n 0, 1, 0, 0)]) (pc1 := 58) (lv1 := [(0, .ref 7), (3, .int x3)]) (st1 := [.ref 7]) (h1 := hO R (gI g 34 ((g.1 34) - (1 : Int32)))) (by decide +kernel) rfl ?_
  rcases m_cv_inv h with ⟨g16, e18, h⟩ | ⟨y19, g16, e18, rfl, rfl⟩
  · refine m_ca (q := (58, .invokevirtual 187, 3, 92, 0)) (a := 92) (vs := [.ref 7]) (st := []) (d1 := 3) (by decide +kernel) rfl rfl rfl rfl (by decide) (Fr92 e18) ?_
    show m_Run X _ _ 118 61 [(0, .ref 7), (3, .int x3)] [] (hO R g16) _ _
    refine m_go (L := [(61, .aload_n 0, 1, 0, 0), (62, .bipush 8, 2, 0, 0), (64, .iload_n 3, 1, 0, 0)]) (pc1 := 65) (lv1 := [(0, .ref 7), (3, .int x3)]) (st1 := [.int x3, .int (8 : Int32), .ref 7]) (h1 := hO R g16) (by decide +kernel) rfl ?_
    rcases m_cv_inv h with ⟨g20, e22, h⟩ | ⟨y23, g20, e22, rfl, rfl⟩
    · refine m_ca (q := (65, .invokevirtual 221, 3, 109, 2)) (a := 109) (vs := [.ref 7, .int (8 : Int32), .int x3]) (st := []) (d1 := 0) (by decide +kernel) rfl rfl rfl rfl (by decide) (Fr109 e22) ?_
      show m_Run X _ _ 118 68 [(0, .ref 7), (3, .int x3)] [] (hO R g20) _ _
      refine m_go (L := [(68, .aload_n 0, 1, 0, 0), (69, .iconst 1, 1, 0, 0)]) (pc1 := 70) (lv1 := [(0, .ref 7), (3, .int x3)]) (st1 := [.int (1 : Int32), .ref 7]) (h1 := hO R g20) (by decide +kernel) rfl ?_
      rcases m_cv_inv h with ⟨g24, e26, h⟩ | ⟨y27, g24, e26, rfl, rfl⟩
      · refine m_ca (q := (70, .invokevirtual 275, 3, 110, 1)) (a := 110) (vs := [.ref 7, .int (1 : Int32)]) (st := []) (d1 := 0) (by decide +kernel) rfl rfl rfl rfl (by decide) (Fr110 e26) ?_
        show m_Run X _ _ 118 73 [(0, .ref 7), (3, .int x3)] [] (hO R g24) _ _
        cases h
        exact m_rv (by decide +kernel)
      · exact m_cx (q := (70, .invokevirtual 275, 3, 110, 1)) (a := 110) (vs := [.ref 7, .int (1 : Int32)]) (st := []) (d1 := 0) (by decide +kernel) (by decide +kernel) rfl rfl rfl rfl (by decide) (Fr110 e26)
    · exact m_cx (q := (65, .invokevirtual 221, 3, 109, 2)) (a := 109) (vs := [.ref 7, .int (8 : Int32), .int x3]) (st := []) (d1 := 0) (by decide +kernel) (by decide +kernel) rfl rfl rfl rfl (by decide) (Fr109 e22)
  · exact m_cx (q := (58, .invokevirtual 187, 3, 92, 0)) (a := 92) (vs := [.ref 7]) (st := []) (d1 := 3) (by decide +kernel) (by decide +kernel) rfl rfl rfl rfl (by decide) (Fr92 e18)
def f118 (n : Nat) (g : mG) : mZ := if (g.1 26) = (4 : Int32) then m_ci (f115 n g) (fun v3 g2 => m_ci (f115 n g2) (fun v7 g6 => m_ci (f115 n g6) (fun v11 g10 => if v11 < 0 ∨ 9 ≤ Int32.toNatClampNeg v11 then none else if v3 = ((g10.2.1 39) (Int32.toNatClampNeg v11)) then f118_47 n v11 g10 else m_cv (f103 n v7 g10) (fun g28 => f118_47 n v11 g28)))) else m_cv (f103 n (g.1 27) g) (fun g32 => some (.inl none, g32))
theorem Fr118 {R : Nat} {g g' : mG} {o : mO} (h : f118 n g = some (o, g')) : m_Run X (4) (m_ko o) 118 0 [(0, .ref 7)] [] (hO R g) o (hO R g') := by
  unfold f118 at h
  refine m_gob (c := (g.1 26) = (4 : Int32)) (t := 17) (f := 8) (L := [(0, .aload_n 0, 1, 0, 0), (1, .getfield 142, 3, 6, 3), (4, .iconst 4, 1, 0, 0), (5, .if_icmp .eq 12, 3, 0, 0)]) (lv1 := [(0, .ref 7)]) (st1 := []) (h1 := hO R g) (by decide +kernel) rfl (fun c1 => ?_) (fun c1 => ?_)
  · rw [if_pos c1] at h
    refine m_go (L := [(17, .aload_n 0, 1, 0, 0)]) (pc1 := 18) (lv1 := [(0, .ref 7)]) (st1 := [.ref 7]) (h1 := hO R g) (by decide +kernel) rfl ?_
    rcases m_ci_inv h with ⟨v3, g2, e4, h⟩ | ⟨y5, g2, e4, rfl, rfl⟩
    · refine m_ca (q := (18, .invokevirtual 238, 3, 115, 0)) (a := 115) (vs := [.ref 7]) (st := []) (d1 := 0) (by decide +kernel) rfl rfl rfl rfl (by decide) (Fr115 e4) ?_
      show m_Run X _ _ 118 21 [(0, .ref 7)] [.int v3] (hO R g2) _ _
      refine m_go (L := [(21, .istore_n 1, 1, 0, 0), (22, .aload_n 0, 1, 0, 0)]) (pc1 := 23) (lv1 := [(0, .ref 7), (1, .int v3)]) (st1 := [.ref 7]) (h1 := hO R g2) (by decide +kernel) rfl ?_
      rcases m_ci_inv h with ⟨v7, g6, e8, h⟩ | ⟨y9, g6, e8, rfl, rfl⟩
      · refine m_ca (q := (23, .invokevirtual 238, 3, 115, 0)) (a := 115) (vs := [.ref 7]) (st := []) (d1 := 0) (by decide +kernel) rfl rfl rfl rfl (by decide) (Fr115 e8) ?_
        show m_Run X _ _ 118 26 [(0, .ref 7), (1, .int v3)] [.int v7] (hO R g6) _ _
        refine m_go (L := [(26, .istore_n 2, 1, 0, 0), (27, .aload_n 0, 1, 0, 0)]) (pc1 := 28) (lv1 := [(0, .ref 7), (1, .int v3), (2, .int v7)]) (st1 := [.ref 7]) (h1 := hO R g6) (by decide +kernel) rfl ?_
        rcases m_ci_inv h with ⟨v11, g10, e12, h⟩ | ⟨y13, g10, e12, rfl, rfl⟩
        · refine m_ca (q := (28, .invokevirtual 238, 3, 115, 0)) (a := 115) (vs := [.ref 7]) (st := []) (d1 := 0) (by decide +kernel) rfl rfl rfl rfl (by decide) (Fr115 e12) ?_
          show m_Run X _ _ 118 31 [(0, .ref 7), (1, .int v3), (2, .int v7)] [.int v11] (hO R g10) _ _
          refine m_go (L := [(31, .istore_n 3, 1, 0, 0), (32, .iload_n 1, 1, 0, 0), (33, .aload_n 0, 1, 0, 0), (34, .getfield 31, 3, 6, 19), (37, .iload_n 3, 1, 0, 0)]) (pc1 := 38) (lv1 := [(0, .ref 7), (1, .int v3), (2, .int v7), (3, .int v11)]) (st1 := [.int v11, .ref 39, .int v3]) (h1 := hO R g10) (by decide +kernel) rfl ?_
          obtain ⟨c14, h⟩ := m_ifn_inv h
          refine m_go1 (q := (38, .iaload, 1, 0, 0)) (pc1 := 39) (lv1 := [(0, .ref 7), (1, .int v3), (2, .int v7), (3, .int v11)]) (st1 := [.int ((g10.2.1 39) (Int32.toNatClampNeg v11)), .int v3]) (h1 := hO R g10) (by decide +kernel) (if_neg c14) ?_
          refine m_gob (c := v3 = ((g10.2.1 39) (Int32.toNatClampNeg v11))) (t := 47) (f := 42) (L := [(39, .if_icmp .eq 8, 3, 0, 0)]) (lv1 := [(0, .ref 7), (1, .int v3), (2, .int v7), (3, .int v11)]) (st1 := []) (h1 := hO R g10) (by decide +kernel) rfl (fun c15 => ?_) (fun c15 => ?_)
          · rw [if_pos c15] at h
            exact m_r0 _ _ _ _ _ _ _ _ _ _ (m_pick [0, 3] rfl) (Fr118_47 h)
          · rw [if_neg c15] at h
            refine m_go (L := [(42, .aload_n 0, 1, 0, 0), (43, .iload_n 2, 1, 0, 0)]) (pc1 := 44) (lv1 := [(0, .ref 7), (1, .int v3), (2, .int v7), (3, .int v11)]) (st1 := [.int v7, .ref 7]) (h1 := hO R g10) (by decide +kernel) rfl ?_
            rcases m_cv_inv h with ⟨g28, e30, h⟩ | ⟨y31, g28, e30, rfl, rfl⟩
            · refine m_ca (q := (44, .invokevirtual 190, 3, 103, 1)) (a := 103) (vs := [.ref 7, .int v7]) (st := []) (d1 := 0) (by decide +kernel) rfl rfl rfl rfl (by decide) (Fr103 e30) ?_
              show m_Run X _ _ 118 47 [(0, .ref 7), (1, .int v3), (2, .int v7), (3, .int v11)] [] (hO R g28) _ _
              exact m_r0 _ _ _ _ _ _ _ _ _ _ (m_pick [0, 3] rfl) (Fr118_47 h)
            · exact m_cx (q := (44, .invokevirtual 190, 3, 103, 1)) (a := 103) (vs := [.ref 7, .int v7]) (st := []) (d1 := 0) (by decide +kernel) (by decide +kernel) rfl rfl rfl rfl (by decide) (Fr103 e30)
        · exact m_cx (q := (28, .invokevirtual 238, 3, 115, 0)) (a := 115) (vs := [.ref 7]) (st := []) (d1 := 0) (by decide +kernel) (by decide +kernel) rfl rfl rfl rfl (by decide) (Fr115 e12)
      · exact m_cx (q := (23, .invokevirtual 238, 3, 115, 0)) (a := 115) (vs := [.ref 7]) (st := []) (d1 := 0) (by decide +kernel) (by decide +kernel) rfl rfl rfl rfl (by decide) (Fr115 e8)
    · exact m_cx (q := (18, .invokevirtual 238, 3, 115, 0)) (a := 115) (vs := [.ref 7]) (st := []) (d1 := 0) (by decide +kernel) (by decide +kernel) rfl rfl rfl rfl (by decide) (Fr115 e4)
  · rw [if_neg c1] at h
    refine m_go (L := [(8, .aload_n 0, 1, 0, 0), (9, .aload_n 0, 1, 0, 0), (10, .getfield 148, 3, 6, 4)]) (pc1 := 13) (lv1 := [(0, .ref 7)]) (st1 := [.int (g.1 27), .ref 7]) (h1 := hO R g) (by decide +kernel) rfl ?_
    rcases m_cv_inv h with ⟨g32, e34, h⟩ | ⟨y35, g32, e34, rfl, rfl⟩
    · refine m_ca (q := (13, .invokevirtual 190, 3, 103, 1)) (a := 103) (vs := [.ref 7, .int (g.1 27)]) (st := []) (d1 := 0) (by decide +kernel) rfl rfl rfl rfl (by decide) (Fr103 e34) ?_
      show m_Run X _ _ 118 16 [(0, .ref 7)] [] (hO R g32) _ _
      cases h
      exact m_rv (by decide +kernel)
    · exact m_cx (q := (13, .invokevirtual 190, 3, 103, 1)) (a := 103) (vs := [.ref 7, .int (g.1 27)]) (st := []) (d1 := 0) (by decide +kernel) (by decide +kernel) rfl rfl rfl rfl (by decide) (Fr103 e34)
def f105_105 (n : Nat) (s1 : Int32) (g : mG) : mZ := m_cv (f110 n s1 g) (fun g25 => some (.inl none, g25))
theorem Fr105_105 {R : Nat} {s1 : Int32} {g g' : mG} {o : mO} (h : f105_105 n s1 g = some (o, g')) : m_Run X (6) (m_ko o) 105 105 [] [.int s1, .ref 7] (hO R g) o (hO R g') := by
  unfold f105_105 at h
  rcases m_cv_inv h with ⟨g25, e27, h⟩ | ⟨y28, g25, e27, rfl, rfl⟩
  · refine m_ca (q := (105, .invokevirtual 275, 3, 110, 1)) (a := 110) (vs := [.ref 7, .int s1]) (st := []) (d1 := 0) (by decide +kernel) rfl rfl rfl rfl (by decide) (Fr110 e27) ?_
    show m_Run X _ _ 105 108 [] [] (hO R g25) _ _
    refine m_go (L := [(108, .goto 111, 3, 0, 0)]) (pc1 := 219) (lv1 := []) (st1 := []) (h1 := hO R g25) (by decide +kernel) rfl ?_
    cases h
    exact m_rv (by decide +kernel)
  · exact m_cx (q := (105, .invokevirtual 275, 3, 110, 1)) (a := 110) (vs := [.ref 7, .int s1]) (st := []) (d1 := 0) (by decide +kernel) (by decide +kernel) rfl rfl rfl rfl (by decide) (Fr110 e27)
def f105_83 (n : Nat) (x2 : Int32) (x3 : Int32) (s1 : Int32) (g : mG) : mZ := m_cv (f116 n s1 x2 g) (fun g16 => m_cv (f109 n (3 : Int32) x3 g16) (fun g20 => if ¬ x3 = (17 : Int32) then f105_105 n (2 : Int32) g20 else f105_105 n (1 : Int32) g20))
theorem Fr105_83 {R : Nat} {x2 : Int32} {x3 : Int32} {s1 : Int32} {g g' : mG} {o : mO} (h : f105_83 n x2 x3 s1 g = some (o, g')) : m_Run X (6) (m_ko o) 105 83 [(0, .ref 7), (2, .int x2), (3, .int x3)] [.int s1, .ref 7] (hO R g) o (hO R g') := by
  unfold f105_83 at h
  refine m_go (L := [(83, .iload_n 2, 1, 0, 0)]) (pc1 := 84) (lv1 := [(0, .ref 7), (2, .int x2), (3, .int x3)]) (st1 := [.int x2, .int s1, .ref 7]) (h1 := hO R g) (by decide +kernel) rfl ?_
  rcases m_cv_inv h with ⟨g16, e18, h⟩ | ⟨y19, g16, e18, rfl, rfl⟩
  · refine m_ca (q := (84, .invokevirtual 241, 3, 116, 2)) (a := 116) (vs := [.ref 7, .int s1, .int x2]) (st := []) (d1 := 1) (by decide +kernel) rfl rfl rfl rfl (by decide) (Fr116 e18) ?_
    show m_Run X _ _ 105 87 [(0, .ref 7), (2, .int x2), (3, .int x3)] [] (hO R g16) _ _
    refine m_go (L := [(87, .aload_n 0, 1, 0, 0), (88, .iconst 3, 1, 0, 0), (89, .iload_n 3, 1, 0, 0)]) (pc1 := 90) (lv1 := [(0, .ref 7), (2, .int x2), (3, .int x3)]) (st1 := [.int x3, .int (3 : Int32), .ref 7]) (h1 := hO R g16) (by decide +kernel) rfl ?_
    rcases m_cv_inv h with ⟨g20, e22, h⟩ | ⟨y23, g20, e22, rfl, rfl⟩
    · refine m_ca (q := (90, .invokevirtual 221, 3, 109, 2)) (a := 109) (vs := [.ref 7, .int (3 : Int32), .int x3]) (st := []) (d1 := 0) (by decide +kernel) rfl rfl rfl rfl (by decide) (Fr109 e22) ?_
      show m_Run X _ _ 105 93 [(0, .ref 7), (2, .int x2), (3, .int x3)] [] (hO R g20) _ _
      refine m_gob (c := ¬ x3 = (17 : Int32)) (t := 104) (f := 100) (L := [(93, .aload_n 0, 1, 0, 0), (94, .iload_n 3, 1, 0, 0), (95, .bipush 17, 2, 0, 0), (97, .if_icmp .ne 7, 3, 0, 0)]) (lv1 := [(0, .ref 7), (2, .int x2), (3, .int x3)]) (st1 := [.ref 7]) (h1 := hO R g20) (by decide +kernel) rfl (fun c24 => ?_) (fun c24 => ?_)
      · rw [if_pos c24] at h
        refine m_go (L := [(104, .iconst 2, 1, 0, 0)]) (pc1 := 105) (lv1 := [(0, .ref 7), (2, .int x2), (3, .int x3)]) (st1 := [.int (2 : Int32), .ref 7]) (h1 := hO R g20) (by decide +kernel) rfl ?_
        exact m_r0 _ _ _ _ _ _ _ _ _ _ (m_pick [] rfl) (Fr105_105 h)
      · rw [if_neg c24] at h
        refine m_go (L := [(100, .iconst 1, 1, 0, 0), (101, .goto 4, 3, 0, 0)]) (pc1 := 105) (lv1 := [(0, .ref 7), (2, .int x2), (3, .int x3)]) (st1 := [.int (1 : Int32), .ref 7]) (h1 := hO R g20) (by decide +kernel) rfl ?_
        exact m_r0 _ _ _ _ _ _ _ _ _ _ (m_pick [] rfl) (Fr105_105 h)
    · exact m_cx (q := (90, .invokevirtual 221, 3, 109, 2)) (a := 109) (vs := [.ref 7, .int (3 : Int32), .int x3]) (st := []) (d1 := 0) (by decide +kernel) (by decide +kernel) rfl rfl rfl rfl (by decide) (Fr109 e22)
  · exact m_cx (q := (84, .invokevirtual 241, 3, 116, 2)) (a := 116) (vs := [.ref 7, .int s1, .int x2]) (st := []) (d1 := 1) (by decide +kernel) (by decide +kernel) rfl rfl rfl rfl (by decide) (Fr116 e18)
def f105 (n : Nat) (x1 : Int32) (g : mG) : mZ := if x1 = 85 then m_cv (f106 n g) (fun g2 => some (.inl none, g2)) else if x1 = 86 then m_ci (f115 n g) (fun v8 g7 => m_ci (f115 n g7) (fun v12 g11 => if ¬ v12 = (17 : Int32) then f105_83 n v8 v12 (2 : Int32) (gI g11 34 ((g11.1 34) - (1 : Int32))) else f105_83 n v8 v12 (1 : Int32) (gI g11 34 ((g11.1 34) - (1 : Int32))))) else if x1 = 88 then if (g.1 26) = (4 : Int32) then some (.inl none, g) else m_cv (f108 n (60 : Int32) (91 : Int32) (90 : Int32) (0 : Int32) g) (fun g31 => some (.inl none, g31)) else if x1 = 89 then m_ci (f115 n g) (fun v37 g36 => m_cv (f116 n (1 : Int32) v37 g36) (fun g40 => m_cv (f109 n (7 : Int32) (0 : Int32) g40) (fun g44 => m_cv (f110 n (1 : Int32) g44) (fun g48 => some (.inl none, g48))))) else if x1 = 90 then if ¬ (g.1 26) = (9 : Int32) then some (.inl none, g) else m_cv (f108 n (9 : Int32) (60 : Int32) (91 : Int32) (90 : Int32) g) (fun g54 => some (.inl none, g54)) else if x1 = 91 then if ((g.1 32) - (2 : Int32)) < 0 ∨ 600 ≤ Int32.toNatClampNeg ((g.1 32) - (2 : Int32)) then none else m_cv (f116 n (1 : Int32) ((g.2.1 34) (Int32.toNatClampNeg ((g.1 32) - (2 : Int32)))) g) (fun g60 => if ((g60.1 32) - (1 : Int32)) < 0 ∨ 600 ≤ Int32.toNatClampNeg ((g60.1 32) - (1 : Int32)) then none else if ((g60.1 32) - (1 : Int32)) < 0 ∨ 600 ≤ Int32.toNatClampNeg ((g60.1 32) - (1 : Int32)) then none else some (.inl none, (gS g60 34 (upd (g60.2.1 34) (Int32.toNatClampNeg ((g60.1 32) - (1 : Int32))) (((g60.2.1 34) (Int32.toNatClampNeg ((g60.1 32) - (1 : Int32)))) + (1 : Int32)))))) else m_cv (f118 n g) (fun g66 => some (.inl none, g66))
theorem Fr105 {R : Nat} {x1 : Int32} {g g' : mG} {o : mO} (h : f105 n x1 g = some (o, g')) : m_Run X (6) (m_ko o) 105 0 [(0, .ref 7), (1, .int x1)] [] (hO R g) o (hO R g') := by
  unfold f105 at h
  refine m_go (L := [(0, .iload_n 1, 1, 0, 0)]) (pc1 := 1) (lv1 := [(0, .ref 7), (1, .int x1)]) (st1 := [.int x1]) (h1 := hO R g) (by decide +kernel) rfl ?_
  by_cases c1 : x1 = 85
  · rw [if_pos c1] at h
    refine m_go1 (q := (1, .tableswitch 214 85 91 #[43, 50, 214, 134, 110, 190, 156], 43, 0, 0)) (pc1 := 44) (lv1 := [(0, .ref 7), (1, .int x1)]) (st1 := []) (h1 := hO R g) (by decide +kernel) (m_swx (fun z => m_loc m_ft X (.tableswitch 214 85 91 #[43, 50, 214, 134, 110, 190, 156]) 0 0 1 [(0, .ref 7), (1, .int x1)] (.int z :: []) (hO R g)) c1 rfl) ?_
    refine m_go (L := [(44, .aload_n 0, 1, 0, 0)]) (pc1 := 45) (lv1 := [(0, .ref 7), (1, .int x1)]) (st1 := [.ref 7]) (h1 := hO R g) (by decide +kernel) rfl ?_
    rcases m_cv_inv h with ⟨g2, e4, h⟩ | ⟨y5, g2, e4, rfl, rfl⟩
    · refine m_ca (q := (45, .invokevirtual 281, 3, 106, 0)) (a := 106) (vs := [.ref 7]) (st := []) (d1 := 5) (by decide +kernel) rfl rfl rfl rfl (by decide) (Fr106 e4) ?_
      show m_Run X _ _ 105 48 [(0, .ref 7), (1, .int x1)] [] (hO R g2) _ _
      refine m_go (L := [(48, .goto 171, 3, 0, 0)]) (pc1 := 219) (lv1 := [(0, .ref 7), (1, .int x1)]) (st1 := []) (h1 := hO R g2) (by decide +kernel) rfl ?_
      cases h
      exact m_rv (by decide +kernel)
    · exact m_cx (q := (45, .invokevirtual 281, 3, 106, 0)) (a := 106) (vs := [.ref 7]) (st := []) (d1 := 5) (by decide +kernel) (by decide +kernel) rfl rfl rfl rfl (by decide) (Fr106 e4)
  · rw [if_neg c1] at h
    by_cases c6 : x1 = 86
    · rw [if_pos c6] at h
      refine m_go1 (q := (1, .tableswitch 214 85 91 #[43, 50, 214, 134, 110, 190, 156], 43, 0, 0)) (pc1 := 51) (lv1 := [(0, .ref 7), (1, .int x1)]) (st1 := []) (h1 := hO R g) (by decide +kernel) (m_swx (fun z => m_loc m_ft X (.tableswitch 214 85 91 #[43, 50, 214, 134, 110, 190, 156]) 0 0 1 [(0, .ref 7), (1, .int x1)] (.int z :: []) (hO R g)) c6 rfl) ?_
      refine m_go (L := [(51, .aload_n 0, 1, 0, 0)]) (pc1 := 52) (lv1 := [(0, .ref 7), (1, .int x1)]) (st1 := [.ref 7]) (h1 := hO R g) (by decide +kernel) rfl ?_
      rcases m_ci_inv h with ⟨v8, g7, e9, h⟩ | ⟨y10, g7, e9, rfl, rfl⟩
      · refine m_ca (q := (52, .invokevirtual 238, 3, 115, 0)) (a := 115) (vs := [.ref 7]) (st := []) (d1 := 0) (by decide +kernel) rfl rfl rfl rfl (by decide) (Fr115 e9) ?_
        show m_Run X _ _ 105 55 [(0, .ref 7), (1, .int x1)] [.int v8] (hO R g7) _ _
        refine m_go (L := [(55, .istore_n 2, 1, 0, 0), (56, .aload_n 0, 1, 0, 0)]) (pc1 := 57) (lv1 := [(0, .ref 7), (1, .int x1), (2, .int v8)]) (st1 := [.ref 7]) (h1 := hO R g7) (by decide +kernel) rfl ?_
        rcases m_ci_inv h with ⟨v12, g11, e13, h⟩ | ⟨y14, g11, e13, rfl, rfl⟩
        · refine m_ca (q := (57, .invokevirtual 238, 3, 115, 0)) (a := 115) (vs := [.ref 7]) (st := []) (d1 := 0) (by decide +kernel) rfl rfl rfl rfl (by decide) (Fr115 e13) ?_
          show m_Run X _ _ 105 60 [(0, .ref 7), (1, .int x1), (2, .int v8)] [.int v12] (hO R g11) _ _
          refine m_gob (c := ¬ v12 = (17 : Int32)) (t := 82) (f := 78) (L := [(60, .istore_n 3, 1, 0, 0), (61, .aload_n 0, 1, 0, 0), (62, .dup, 1, 0, 0), (63, .getfield 193, 3, 6, 14), (66, .iconst 1, 1, 0, 0), (67, .isub, 1, 0, 0), (68, .putfield 193, 3, 6, 14), (71, .aload_n 0, 1, 0, 0), (72, .iload_n 3, 1, 0, 0), (73, .bipush 17, 2, 0, 0), (75, .if_icmp .ne 7, 3, 0, 0)]) (lv1 := [(0, .ref 7), (1, .int x1), (2, .int v8), (3, .int v12)]) (st1 := [.ref 7]) (h1 := hO R (gI g11 34 ((g11.1 34) - (1 : Int32)))) (by decide +kernel) rfl (fun c15 => ?_) (fun c15 => ?_)
          · rw [if_pos c15] at h
            refine m_go (L := [(82, .iconst 2, 1, 0, 0)]) (pc1 := 83) (lv1 := [(0, .ref 7), (1, .int x1), (2, .int v8), (3, .int v12)]) (st1 := [.int (2 : Int32), .ref 7]) (h1 := hO R (gI g11 34 ((g11.1 34) - (1 : Int32)))) (by decide +kernel) rfl ?_
            exact m_r0 _ _ _ _ _ _ _ _ _ _ (m_pick [0, 2, 3] rfl) (Fr105_83 h)
          · rw [if_neg c15] at h
            refine m_go (L := [(78, .iconst 1, 1, 0, 0), (79, .goto 4, 3, 0, 0)]) (pc1 := 83) (lv1 := [(0, .ref 7), (1, .int x1), (2, .int v8), (3, .int v12)]) (st1 := [.int (1 : Int32), .ref 7]) (h1 := hO R (gI g11 34 ((g11.1 34) - (1 : Int32)))) (by decide +kernel) rfl ?_
            exact m_r0 _ _ _ _ _ _ _ _ _ _ (m_pick [0, 2, 3] rfl) (Fr105_83 h)
        · exact m_cx (q := (57, .invokevirtual 238, 3, 115, 0)) (a := 115) (vs := [.ref 7]) (st := []) (d1 := 0) (by decide +kernel) (by decide +kernel) rfl rfl rfl rfl (by decide) (Fr115 e13)
      · exact m_cx (q := (52, .invokevirtual 238, 3, 115, 0)) (a := 115) (vs := [.ref 7]) (st := []) (d1 := 0) (by decide +kernel) (by decide +kernel) rfl rfl rfl rfl (by decide) (Fr115 e9)
    · rw [if_neg c6] at h
      by_cases c29 : x1 = 88
      · rw [if_pos c29] at h
        refine m_go1 (q := (1, .tableswitch 214 85 91 #[43, 50, 214, 134, 110, 190, 156], 43, 0, 0)) (pc1 := 135) (lv1 := [(0, .ref 7), (1, .int x1)]) (st1 := []) (h1 := hO R g) (by decide +kernel) (m_swx (fun z => m_loc m_ft X (.tableswitch 214 85 91 #[43, 50, 214, 134, 110, 190, 156]) 0 0 1 [(0, .ref 7), (1, .int x1)] (.int z :: []) (hO R g)) c29 rfl) ?_
        refine m_gob (c := (g.1 26) = (4 : Int32)) (t := 219) (f := 143) (L := [(135, .aload_n 0, 1, 0, 0), (136, .getfield 142, 3, 6, 3), (139, .iconst 4, 1, 0, 0), (140, .if_icmp .eq 79, 3, 0, 0)]) (lv1 := [(0, .ref 7), (1, .int x1)]) (st1 := []) (h1 := hO R g) (by decide +kernel) rfl (fun c30 => ?_) (fun c30 => ?_)
        · rw [if_pos c30] at h
          cases h
          exact m_rv (by decide +kernel)
        · rw [if_neg c30] at h
          refine m_go (L := [(143, .aload_n 0, 1, 0, 0), (144, .bipush 60, 2, 0, 0), (146, .bipush 91, 2, 0, 0), (148, .bipush 90, 2, 0, 0), (150, .iconst 0, 1, 0, 0)]) (pc1 := 151) (lv1 := [(0, .ref 7), (1, .int x1)]) (st1 := [.int (0 : Int32), .int (90 : Int32), .int (91 : Int32), .int (60 : Int32), .ref 7]) (h1 := hO R g) (by decide +kernel) rfl ?_
          rcases m_cv_inv h with ⟨g31, e33, h⟩ | ⟨y34, g31, e33, rfl, rfl⟩
          · refine m_ca (q := (151, .invokevirtual 217, 3, 108, 4)) (a := 108) (vs := [.ref 7, .int (60 : Int32), .int (91 : Int32), .int (90 : Int32), .int (0 : Int32)]) (st := []) (d1 := 1) (by decide +kernel) rfl rfl rfl rfl (by decide) (Fr108 e33) ?_
            show m_Run X _ _ 105 154 [(0, .ref 7), (1, .int x1)] [] (hO R g31) _ _
            refine m_go (L := [(154, .goto 65, 3, 0, 0)]) (pc1 := 219) (lv1 := [(0, .ref 7), (1, .int x1)]) (st1 := []) (h1 := hO R g31) (by decide +kernel) rfl ?_
            cases h
            exact m_rv (by decide +kernel)
          · exact m_cx (q := (151, .invokevirtual 217, 3, 108, 4)) (a := 108) (vs := [.ref 7, .int (60 : Int32), .int (91 : Int32), .int (90 : Int32), .int (0 : Int32)]) (st := []) (d1 := 1) (by decide +kernel) (by decide +kernel) rfl rfl rfl rfl (by decide) (Fr108 e33)
      · rw [if_neg c29] at h
        by_cases c35 : x1 = 89
        · rw [if_pos c35] at h
          refine m_go1 (q := (1, .tableswitch 214 85 91 #[43, 50, 214, 134, 110, 190, 156], 43, 0, 0)) (pc1 := 111) (lv1 := [(0, .ref 7), (1, .int x1)]) (st1 := []) (h1 := hO R g) (by decide +kernel) (m_swx (fun z => m_loc m_ft X (.tableswitch 214 85 91 #[43, 50, 214, 134, 110, 190, 156]) 0 0 1 [(0, .ref 7), (1, .int x1)] (.int z :: []) (hO R g)) c35 rfl) ?_
          refine m_go (L := [(111, .aload_n 0, 1, 0, 0), (112, .iconst 1, 1, 0, 0), (113, .aload_n 0, 1, 0, 0)]) (pc1 := 114) (lv1 := [(0, .ref 7), (1, .int x1)]) (st1 := [.ref 7, .int (1 : Int32), .ref 7]) (h1 := hO R g) (by decide +kernel) rfl ?_
          rcases m_ci_inv h with ⟨v37, g36, e38, h⟩ | ⟨y39, g36, e38, rfl, rfl⟩
          · refine m_ca (q := (114, .invokevirtual 238, 3, 115, 0)) (a := 115) (vs := [.ref 7]) (st := [.int (1 : Int32), .ref 7]) (d1 := 0) (by decide +kernel) rfl rfl rfl rfl (by decide) (Fr115 e38) ?_
            show m_Run X _ _ 105 117 [(0, .ref 7), (1, .int x1)] [.int v37, .int (1 : Int32), .ref 7] (hO R g36) _ _
            rcases m_cv_inv h with ⟨g40, e42, h⟩ | ⟨y43, g40, e42, rfl, rfl⟩
            · refine m_ca (q := (117, .invokevirtual 241, 3, 116, 2)) (a := 116) (vs := [.ref 7, .int (1 : Int32), .int v37]) (st := []) (d1 := 1) (by decide +kernel) rfl rfl rfl rfl (by decide) (Fr116 e42) ?_
              show m_Run X _ _ 105 120 [(0, .ref 7), (1, .int x1)] [] (hO R g40) _ _
              refine m_go (L := [(120, .aload_n 0, 1, 0, 0), (121, .bipush 7, 2, 0, 0), (123, .iconst 0, 1, 0, 0)]) (pc1 := 124) (lv1 := [(0, .ref 7), (1, .int x1)]) (st1 := [.int (0 : Int32), .int (7 : Int32), .ref 7]) (h1 := hO R g40) (by decide +kernel) rfl ?_
              rcases m_cv_inv h with ⟨g44, e46, h⟩ | ⟨y47, g44, e46, rfl, rfl⟩
              · refine m_ca (q := (124, .invokevirtual 221, 3, 109, 2)) (a := 109) (vs := [.ref 7, .int (7 : Int32), .int (0 : Int32)]) (st := []) (d1 := 0) (by decide +kernel) rfl rfl rfl rfl (by decide) (Fr109 e46) ?_
                show m_Run X _ _ 105 127 [(0, .ref 7), (1, .int x1)] [] (hO R g44) _ _
                refine m_go (L := [(127, .aload_n 0, 1, 0, 0), (128, .iconst 1, 1, 0, 0)]) (pc1 := 129) (lv1 := [(0, .ref 7), (1, .int x1)]) (st1 := [.int (1 : Int32), .ref 7]) (h1 := hO R g44) (by decide +kernel) rfl ?_
                rcases m_cv_inv h with ⟨g48, e50, h⟩ | ⟨y51, g48, e50, rfl, rfl⟩
                · refine m_ca (q := (129, .invokevirtual 275, 3, 110, 1)) (a := 110) (vs := [.ref 7, .int (1 : Int32)]) (st := []) (d1 := 0) (by decide +kernel) rfl rfl rfl rfl (by decide) (Fr110 e50) ?_
                  show m_Run X _ _ 105 132 [(0, .ref 7), (1, .int x1)] [] (hO R g48) _ _
                  refine m_go (L := [(132, .goto 87, 3, 0, 0)]) (pc1 := 219) (lv1 := [(0, .ref 7), (1, .int x1)]) (st1 := []) (h1 := hO R g48) (by decide +kernel) rfl ?_
                  cases h
                  exact m_rv (by decide +kernel)
                · exact m_cx (q := (129, .invokevirtual 275, 3, 110, 1)) (a := 110) (vs := [.ref 7, .int (1 : Int32)]) (st := []) (d1 := 0) (by decide +kernel) (by decide +kernel) rfl rfl rfl rfl (by decide) (Fr110 e50)
              · exact m_cx (q := (124, .invokevirtual 221, 3, 109, 2)) (a := 109) (vs := [.ref 7, .int (7 : Int32), .int (0 : Int32)]) (st := []) (d1 := 0) (by decide +kernel) (by decide +kernel) rfl rfl rfl rfl (by decide) (Fr109 e46)
            · exact m_cx (q := (117, .invokevirtual 241, 3, 116, 2)) (a := 116) (vs := [.ref 7, .int (1 : Int32), .int v37]) (st := []) (d1 := 1) (by decide +kernel) (by decide +kernel) rfl rfl rfl rfl (by decide) (Fr116 e42)
          · exact m_cx (q := (114, .invokevirtual 238, 3, 115, 0)) (a := 115) (vs := [.ref 7]) (st := [.int (1 : Int32), .ref 7]) (d1 := 0) (by decide +kernel) (by decide +kernel) rfl rfl rfl rfl (by decide) (Fr115 e38)
        · rw [if_neg c35] at h
          by_cases c52 : x1 = 90
          · rw [if_pos c52] at h
            refine m_go1 (q := (1, .tableswitch 214 85 91 #[43, 50, 214, 134, 110, 190, 156], 43, 0, 0)) (pc1 := 191) (lv1 := [(0, .ref 7), (1, .int x1)]) (st1 := []) (h1 := hO R g) (by decide +kernel) (m_swx (fun z => m_loc m_ft X (.tableswitch 214 85 91 #[43, 50, 214, 134, 110, 190, 156]) 0 0 1 [(0, .ref 7), (1, .int x1)] (.int z :: []) (hO R g)) c52 rfl) ?_
            refine m_gob (c := ¬ (g.1 26) = (9 : Int32)) (t := 219) (f := 200) (L := [(191, .aload_n 0, 1, 0, 0), (192, .getfield 142, 3, 6, 3), (195, .bipush 9, 2, 0, 0), (197, .if_icmp .ne 22, 3, 0, 0)]) (lv1 := [(0, .ref 7), (1, .int x1)]) (st1 := []) (h1 := hO R g) (by decide +kernel) rfl (fun c53 => ?_) (fun c53 => ?_)
            · rw [if_pos c53] at h
              cases h
              exact m_rv (by decide +kernel)
            · rw [if_neg c53] at h
              refine m_go (L := [(200, .aload_n 0, 1, 0, 0), (201, .bipush 9, 2, 0, 0), (203, .bipush 60, 2, 0, 0), (205, .bipush 91, 2, 0, 0), (207, .bipush 90, 2, 0, 0)]) (pc1 := 209) (lv1 := [(0, .ref 7), (1, .int x1)]) (st1 := [.int (90 : Int32), .int (91 : Int32), .int (60 : Int32), .int (9 : Int32), .ref 7]) (h1 := hO R g) (by decide +kernel) rfl ?_
              rcases m_cv_inv h with ⟨g54, e56, h⟩ | ⟨y57, g54, e56, rfl, rfl⟩
              · refine m_ca (q := (209, .invokevirtual 217, 3, 108, 4)) (a := 108) (vs := [.ref 7, .int (9 : Int32), .int (60 : Int32), .int (91 : Int32), .int (90 : Int32)]) (st := []) (d1 := 1) (by decide +kernel) rfl rfl rfl rfl (by decide) (Fr108 e56) ?_
                show m_Run X _ _ 105 212 [(0, .ref 7), (1, .int x1)] [] (hO R g54) _ _
                refine m_go (L := [(212, .goto 7, 3, 0, 0)]) (pc1 := 219) (lv1 := [(0, .ref 7), (1, .int x1)]) (st1 := []) (h1 := hO R g54) (by decide +kernel) rfl ?_
                cases h
                exact m_rv (by decide +kernel)
              · exact m_cx (q := (209, .invokevirtual 217, 3, 108, 4)) (a := 108) (vs := [.ref 7, .int (9 : Int32), .int (60 : Int32), .int (91 : Int32), .int (90 : Int32)]) (st := []) (d1 := 1) (by decide +kernel) (by decide +kernel) rfl rfl rfl rfl (by decide) (Fr108 e56)
          · rw [if_neg c52] at h
            by_cases c58 : x1 = 91
            · rw [if_pos c58] at h
              refine m_go1 (q := (1, .tableswitch 214 85 91 #[43, 50, 214, 134, 110, 190, 156], 43, 0, 0)) (pc1 := 157) (lv1 := [(0, .ref 7), (1, .int x1)]) (st1 := []) (h1 := hO R g) (by decide +kernel) (m_swx (fun z => m_loc m_ft X (.tableswitch 214 85 91 #[43, 50, 214, 134, 110, 190, 156]) 0 0 1 [(0, .ref 7), (1, .int x1)] (.int z :: []) (hO R g)) c58 rfl) ?_
              refine m_go (L := [(157, .aload_n 0, 1, 0, 0), (158, .iconst 1, 1, 0, 0), (159, .aload_n 0, 1, 0, 0), (160, .getfield 16, 3, 6, 10), (163, .aload_n 0, 1, 0, 0), (164, .getfield 178, 3, 6, 11), (167, .iconst 2, 1, 0, 0), (168, .isub, 1, 0, 0)]) (pc1 := 169) (lv1 := [(0, .ref 7), (1, .int x1)]) (st1 := [.int ((g.1 32) - (2 : Int32)), .ref 34, .int (1 : Int32), .ref 7]) (h1 := hO R g) (by decide +kernel) rfl ?_
              obtain ⟨c59, h⟩ := m_ifn_inv h
              refine m_go1 (q := (169, .iaload, 1, 0, 0)) (pc1 := 170) (lv1 := [(0, .ref 7), (1, .int x1)]) (st1 := [.int ((g.2.1 34) (Int32.toNatClampNeg ((g.1 32) - (2 : Int32)))), .int (1 : Int32), .ref 7]) (h1 := hO R g) (by decide +kernel) (if_neg c59) ?_
              rcases m_cv_inv h with ⟨g60, e62, h⟩ | ⟨y63, g60, e62, rfl, rfl⟩
              · refine m_ca (q := (170, .invokevirtual 241, 3, 116, 2)) (a := 116) (vs := [.ref 7, .int (1 : Int32), .int ((g.2.1 34) (Int32.toNatClampNeg ((g.1 32) - (2 : Int32))))]) (st := []) (d1 := 1) (by decide +kernel) rfl rfl rfl rfl (by decide) (Fr116 e62) ?_
                show m_Run X _ _ 105 173 [(0, .ref 7), (1, .int x1)] [] (hO R g60) _ _
                refine m_go (L := [(173, .aload_n 0, 1, 0, 0), (174, .getfield 16, 3, 6, 10), (177, .aload_n 0, 1, 0, 0), (178, .getfield 178, 3, 6, 11), (181, .iconst 1, 1, 0, 0), (182, .isub, 1, 0, 0), (183, .dup2, 1, 0, 0)]) (pc1 := 184) (lv1 := [(0, .ref 7), (1, .int x1)]) (st1 := [.int ((g60.1 32) - (1 : Int32)), .ref 34, .int ((g60.1 32) - (1 : Int32)), .ref 34]) (h1 := hO R g60) (by decide +kernel) rfl ?_
                obtain ⟨c64, h⟩ := m_ifn_inv h
                refine m_go1 (q := (184, .iaload, 1, 0, 0)) (pc1 := 185) (lv1 := [(0, .ref 7), (1, .int x1)]) (st1 := [.int ((g60.2.1 34) (Int32.toNatClampNeg ((g60.1 32) - (1 : Int32)))), .int ((g60.1 32) - (1 : Int32)), .ref 34]) (h1 := hO R g60) (by decide +kernel) (if_neg c64) ?_
                refine m_go (L := [(185, .iconst 1, 1, 0, 0), (186, .iadd, 1, 0, 0)]) (pc1 := 187) (lv1 := [(0, .ref 7), (1, .int x1)]) (st1 := [.int (((g60.2.1 34) (Int32.toNatClampNeg ((g60.1 32) - (1 : Int32)))) + (1 : Int32)), .int ((g60.1 32) - (1 : Int32)), .ref 34]) (h1 := hO R g60) (by decide +kernel) rfl ?_
                obtain ⟨c65, h⟩ := m_ifn_inv h
                refine m_go1 (q := (187, .iastore, 1, 0, 0)) (pc1 := 188) (lv1 := [(0, .ref 7), (1, .int x1)]) (st1 := []) (h1 := hO R (gS g60 34 (upd (g60.2.1 34) (Int32.toNatClampNeg ((g60.1 32) - (1 : Int32))) (((g60.2.1 34) (Int32.toNatClampNeg ((g60.1 32) - (1 : Int32)))) + (1 : Int32))))) (by decide +kernel) (if_neg c65) ?_
                refine m_go (L := [(188, .goto 31, 3, 0, 0)]) (pc1 := 219) (lv1 := [(0, .ref 7), (1, .int x1)]) (st1 := []) (h1 := hO R (gS g60 34 (upd (g60.2.1 34) (Int32.toNatClampNeg ((g60.1 32) - (1 : Int32))) (((g60.2.1 34) (Int32.toNatClampNeg ((g60.1 32) - (1 : Int32)))) + (1 : Int32))))) (by decide +kernel) rfl ?_
                cases h
                exact m_rv (by decide +kernel)
              · exact m_cx (q := (170, .invokevirtual 241, 3, 116, 2)) (a := 116) (vs := [.ref 7, .int (1 : Int32), .int ((g.2.1 34) (Int32.toNatClampNeg ((g.1 32) - (2 : Int32))))]) (st := []) (d1 := 1) (by decide +kernel) (by decide +kernel) rfl rfl rfl rfl (by decide) (Fr116 e62)
            · rw [if_neg c58] at h
              have hx : m_loc m_ft X (.tableswitch 214 85 91 #[43, 50, 214, 134, 110, 190, 156]) 0 0 1 [(0, .ref 7), (1, .int x1)] ([.int x1]) (hO R g) = some (215, [(0, .ref 7), (1, .int x1)], [], hO R g) := by
                by_cases hz : Int32.toInt x1 < 85 ∨ 91 < Int32.toInt x1
                · exact if_pos hz
                · have z0 := m_ne (k := 85) (z := 85) (by decide) c1; have z1 := m_ne (k := 86) (z := 86) (by decide) c6; have z2 := m_ne (k := 88) (z := 88) (by decide) c29; have z3 := m_ne (k := 89) (z := 89) (by decide) c35; have z4 := m_ne (k := 90) (z := 90) (by decide) c52; have z5 := m_ne (k := 91) (z := 91) (by decide) c58; have hw : x1 = 87 := by
                    have hv : Int32.toInt x1 = 87 := by omega
                    exact Int32.toInt_inj.mp hv
                  exact m_swx (fun z => m_loc m_ft X (.tableswitch 214 85 91 #[43, 50, 214, 134, 110, 190, 156]) 0 0 1 [(0, .ref 7), (1, .int x1)] (.int z :: []) (hO R g)) hw rfl
              refine m_go1 (q := (1, .tableswitch 214 85 91 #[43, 50, 214, 134, 110, 190, 156], 43, 0, 0)) (by decide +kernel) hx ?_
              refine m_go (L := [(215, .aload_n 0, 1, 0, 0)]) (pc1 := 216) (lv1 := [(0, .ref 7), (1, .int x1)]) (st1 := [.ref 7]) (h1 := hO R g) (by decide +kernel) rfl ?_
              rcases m_cv_inv h with ⟨g66, e68, h⟩ | ⟨y69, g66, e68, rfl, rfl⟩
              · refine m_ca (q := (216, .invokevirtual 284, 3, 118, 0)) (a := 118) (vs := [.ref 7]) (st := []) (d1 := 4) (by decide +kernel) rfl rfl rfl rfl (by decide) (Fr118 e68) ?_
                show m_Run X _ _ 105 219 [(0, .ref 7), (1, .int x1)] [] (hO R g66) _ _
                cases h
                exact m_rv (by decide +kernel)
              · exact m_cx (q := (216, .invokevirtual 284, 3, 118, 0)) (a := 118) (vs := [.ref 7]) (st := []) (d1 := 4) (by decide +kernel) (by decide +kernel) rfl rfl rfl rfl (by decide) (Fr118 e68)
def f104_17 (n : Nat) (g : mG) : mZ := m_cv (f103 n (g.1 27) g) (fun g2 => some (.inl none, g2))
theorem Fr104_17 {R : Nat} {g g' : mG} {o : mO} (h : f104_17 n g = some (o, g')) : m_Run X (4) (m_ko o) 104 17 [(0, .ref 7)] [] (hO R g) o (hO R g') := by
  unfold f104_17 at h
  refine m_go (L := [(17, .aload_n 0, 1, 0, 0), (18, .aload_n 0, 1, 0, 0), (19, .getfield 148, 3, 6, 4)]) (pc1 := 22) (lv1 := [(0, .ref 7)]) (st1 := [.int (g.1 27), .ref 7]) (h1 := hO R g) (by decide +kernel) rfl ?_
  rcases m_cv_inv h with ⟨g2, e4, h⟩ | ⟨y5, g2, e4, rfl, rfl⟩
  · refine m_ca (q := (22, .invokevirtual 190, 3, 103, 1)) (a := 103) (vs := [.ref 7, .int (g.1 27)]) (st := []) (d1 := 0) (by decide +kernel) rfl rfl rfl rfl (by decide) (Fr103 e4) ?_
    show m_Run X _ _ 104 25 [(0, .ref 7)] [] (hO R g2) _ _
    cases h
    exact m_rv (by decide +kernel)
  · exact m_cx (q := (22, .invokevirtual 190, 3, 103, 1)) (a := 103) (vs := [.ref 7, .int (g.1 27)]) (st := []) (d1 := 0) (by decide +kernel) (by decide +kernel) rfl rfl rfl rfl (by decide) (Fr103 e4)
def f104 (n : Nat) (x1 : Int32) (g : mG) : mZ := if ¬ (g.1 26) = x1 then f104_17 n g else if ¬ (g.1 34) = (16 : Int32) then m_cv (f92 n (gI g 34 ((g.1 34) + (1 : Int32)))) (fun g7 => some (.inl none, g7)) else f104_17 n g
theorem Fr104 {R : Nat} {x1 : Int32} {g g' : mG} {o : mO} (h : f104 n x1 g = some (o, g')) : m_Run X (4) (m_ko o) 104 0 [(0, .ref 7), (1, .int x1)] [] (hO R g) o (hO R g') := by
  unfold f104 at h
  refine m_gob (c := ¬ (g.1 26) = x1) (t := 17) (f := 8) (L := [(0, .aload_n 0, 1, 0, 0), (1, .getfield 142, 3, 6, 3), (4, .iload_n 1, 1, 0, 0), (5, .if_icmp .ne 12, 3, 0, 0)]) (lv1 := [(0, .ref 7), (1, .int x1)]) (st1 := []) (h1 := hO R g) (by decide +kernel) rfl (fun c1 => ?_) (fun c1 => ?_)
  · rw [if_pos c1] at h
    exact m_r0 _ _ _ _ _ _ _ _ _ _ (m_pick [0] rfl) (Fr104_17 h)
  · rw [if_neg c1] at h
    refine m_gob (c := ¬ (g.1 34) = (16 : Int32)) (t := 26) (f := 17) (L := [(8, .aload_n 0, 1, 0, 0), (9, .getfield 193, 3, 6, 14), (12, .bipush 16, 2, 0, 0), (14, .if_icmp .ne 12, 3, 0, 0)]) (lv1 := [(0, .ref 7), (1, .int x1)]) (st1 := []) (h1 := hO R g) (by decide +kernel) rfl (fun c6 => ?_) (fun c6 => ?_)
    · rw [if_pos c6] at h
      refine m_go (L := [(26, .aload_n 0, 1, 0, 0), (27, .dup, 1, 0, 0), (28, .getfield 193, 3, 6, 14), (31, .iconst 1, 1, 0, 0), (32, .iadd, 1, 0, 0), (33, .putfield 193, 3, 6, 14), (36, .aload_n 0, 1, 0, 0)]) (pc1 := 37) (lv1 := [(0, .ref 7), (1, .int x1)]) (st1 := [.ref 7]) (h1 := hO R (gI g 34 ((g.1 34) + (1 : Int32)))) (by decide +kernel) rfl ?_
      rcases m_cv_inv h with ⟨g7, e9, h⟩ | ⟨y10, g7, e9, rfl, rfl⟩
      · refine m_ca (q := (37, .invokevirtual 187, 3, 92, 0)) (a := 92) (vs := [.ref 7]) (st := []) (d1 := 3) (by decide +kernel) rfl rfl rfl rfl (by decide) (Fr92 e9) ?_
        show m_Run X _ _ 104 40 [(0, .ref 7), (1, .int x1)] [] (hO R g7) _ _
        cases h
        exact m_rv (by decide +kernel)
      · exact m_cx (q := (37, .invokevirtual 187, 3, 92, 0)) (a := 92) (vs := [.ref 7]) (st := []) (d1 := 3) (by decide +kernel) (by decide +kernel) rfl rfl rfl rfl (by decide) (Fr92 e9)
    · rw [if_neg c6] at h
      exact m_r0 _ _ _ _ _ _ _ _ _ _ (m_pick [0] rfl) (Fr104_17 h)
def f102 (n : Nat) (x1 : Int32) (g : mG) : mZ := if ¬ (g.1 26) = x1 then m_cv (f103 n (g.1 27) g) (fun g2 => some (.inl none, g2)) else m_cv (f92 n g) (fun g6 => some (.inl none, g6))
theorem Fr102 {R : Nat} {x1 : Int32} {g g' : mG} {o : mO} (h : f102 n x1 g = some (o, g')) : m_Run X (4) (m_ko o) 102 0 [(0, .ref 7), (1, .int x1)] [] (hO R g) o (hO R g') := by
  unfold f102 at h
  refine m_gob (c := ¬ (g.1 26) = x1) (t := 15) (f := 8) (L := [(0, .aload_n 0, 1, 0, 0), (1, .getfield 142, 3, 6, 3), (4, .iload_n 1, 1, 0, 0), (5, .if_icmp .ne 10, 3, 0, 0)]) (lv1 := [(0, .ref 7), (1, .int x1)]) (st1 := []) (h1 := hO R g) (by decide +kernel) rfl (fun c1 => ?_) (fun c1 => ?_)
  · rw [if_pos c1] at h
    refine m_go (L := [(15, .aload_n 0, 1, 0, 0), (16, .aload_n 0, 1, 0, 0), (17, .getfield 148, 3, 6, 4)]) (pc1 := 20) (lv1 := [(0, .ref 7), (1, .int x1)]) (st1 := [.int (g.1 27), .ref 7]) (h1 := hO R g) (by decide +kernel) rfl ?_
    rcases m_cv_inv h with ⟨g2, e4, h⟩ | ⟨y5, g2, e4, rfl, rfl⟩
    · refine m_ca (q := (20, .invokevirtual 190, 3, 103, 1)) (a := 103) (vs := [.ref 7, .int (g.1 27)]) (st := []) (d1 := 0) (by decide +kernel) rfl rfl rfl rfl (by decide) (Fr103 e4) ?_
      show m_Run X _ _ 102 23 [(0, .ref 7), (1, .int x1)] [] (hO R g2) _ _
      cases h
      exact m_rv (by decide +kernel)
    · exact m_cx (q := (20, .invokevirtual 190, 3, 103, 1)) (a := 103) (vs := [.ref 7, .int (g.1 27)]) (st := []) (d1 := 0) (by decide +kernel) (by decide +kernel) rfl rfl rfl rfl (by decide) (Fr103 e4)
  · rw [if_neg c1] at h
    refine m_go (L := [(8, .aload_n 0, 1, 0, 0)]) (pc1 := 9) (lv1 := [(0, .ref 7), (1, .int x1)]) (st1 := [.ref 7]) (h1 := hO R g) (by decide +kernel) rfl ?_
    rcases m_cv_inv h with ⟨g6, e8, h⟩ | ⟨y9, g6, e8, rfl, rfl⟩
    · refine m_ca (q := (9, .invokevirtual 187, 3, 92, 0)) (a := 92) (vs := [.ref 7]) (st := []) (d1 := 3) (by decide +kernel) rfl rfl rfl rfl (by decide) (Fr92 e8) ?_
      show m_Run X _ _ 102 12 [(0, .ref 7), (1, .int x1)] [] (hO R g6) _ _
      refine m_go (L := [(12, .goto 11, 3, 0, 0)]) (pc1 := 23) (lv1 := [(0, .ref 7), (1, .int x1)]) (st1 := []) (h1 := hO R g6) (by decide +kernel) rfl ?_
      cases h
      exact m_rv (by decide +kernel)
    · exact m_cx (q := (9, .invokevirtual 187, 3, 92, 0)) (a := 92) (vs := [.ref 7]) (st := []) (d1 := 3) (by decide +kernel) (by decide +kernel) rfl rfl rfl rfl (by decide) (Fr92 e8)
def f101_88 (n : Nat) (x1 : Int32) (g : mG) : mZ := m_cv (f119 n x1 g) (fun g6 => some (.inl none, g6))
theorem Fr101_88 {R : Nat} {x1 : Int32} {g g' : mG} {o : mO} (h : f101_88 n x1 g = some (o, g')) : m_Run X (7) (m_ko o) 101 88 [(0, .ref 7), (1, .int x1)] [] (hO R g) o (hO R g') := by
  unfold f101_88 at h
  refine m_go (L := [(88, .aload_n 0, 1, 0, 0), (89, .iload_n 1, 1, 0, 0)]) (pc1 := 90) (lv1 := [(0, .ref 7), (1, .int x1)]) (st1 := [.int x1, .ref 7]) (h1 := hO R g) (by decide +kernel) rfl ?_
  rcases m_cv_inv h with ⟨g6, e8, h⟩ | ⟨y9, g6, e8, rfl, rfl⟩
  · refine m_ca (q := (90, .invokevirtual 296, 3, 119, 1)) (a := 119) (vs := [.ref 7, .int x1]) (st := []) (d1 := 3) (by decide +kernel) rfl rfl rfl rfl (by decide) (Fr119 e8) ?_
    show m_Run X _ _ 101 93 [(0, .ref 7), (1, .int x1)] [] (hO R g6) _ _
    refine m_go (L := [(93, .goto 22, 3, 0, 0)]) (pc1 := 115) (lv1 := [(0, .ref 7), (1, .int x1)]) (st1 := []) (h1 := hO R g6) (by decide +kernel) rfl ?_
    cases h
    exact m_rv (by decide +kernel)
  · exact m_cx (q := (90, .invokevirtual 296, 3, 119, 1)) (a := 119) (vs := [.ref 7, .int x1]) (st := []) (d1 := 3) (by decide +kernel) (by decide +kernel) rfl rfl rfl rfl (by decide) (Fr119 e8)
def f101 (n : Nat) (x1 : Int32) (g : mG) : mZ := if (40 : Int32) ≤ x1 then if x1 < (300 : Int32) then if x1 < (200 : Int32) then if x1 < (85 : Int32) then if (70 : Int32) ≤ x1 then f101_88 n x1 g else if ¬ x1 = (60 : Int32) then if x1 < (53 : Int32) then m_cv (f132 n x1 g) (fun g12 => some (.inl none, g12)) else m_cv (f124 n x1 g) (fun g16 => some (.inl none, g16)) else f101_88 n x1 g else m_cv (f105 n x1 g) (fun g20 => some (.inl none, g20)) else m_cv (f104 n (x1 - (200 : Int32)) g) (fun g24 => some (.inl none, g24)) else m_cv (f102 n (x1 - (300 : Int32)) g) (fun g28 => some (.inl none, (gI g28 34 ((g28.1 34) - (1 : Int32))))) else m_cv (f102 n x1 g) (fun g32 => some (.inl none, g32))
theorem Fr101 {R : Nat} {x1 : Int32} {g g' : mG} {o : mO} (h : f101 n x1 g = some (o, g')) : m_Run X (7) (m_ko o) 101 0 [(0, .ref 7), (1, .int x1)] [] (hO R g) o (hO R g') := by
  unfold f101 at h
  refine m_gob (c := (40 : Int32) ≤ x1) (t := 14) (f := 6) (L := [(0, .iload_n 1, 1, 0, 0), (1, .bipush 40, 2, 0, 0), (3, .if_icmp .ge 11, 3, 0, 0)]) (lv1 := [(0, .ref 7), (1, .int x1)]) (st1 := []) (h1 := hO R g) (by decide +kernel) rfl (fun c1 => ?_) (fun c1 => ?_)
  · rw [if_pos c1] at h
    refine m_gob (c := x1 < (300 : Int32)) (t := 43) (f := 21) (L := [(14, .iload_n 1, 1, 0, 0), (15, .sipush 300, 3, 0, 0), (18, .if_icmp .lt 25, 3, 0, 0)]) (lv1 := [(0, .ref 7), (1, .int x1)]) (st1 := []) (h1 := hO R g) (by decide +kernel) rfl (fun c2 => ?_) (fun c2 => ?_)
    · rw [if_pos c2] at h
      refine m_gob (c := x1 < (200 : Int32)) (t := 62) (f := 50) (L := [(43, .iload_n 1, 1, 0, 0), (44, .sipush 200, 3, 0, 0), (47, .if_icmp .lt 15, 3, 0, 0)]) (lv1 := [(0, .ref 7), (1, .int x1)]) (st1 := []) (h1 := hO R g) (by decide +kernel) rfl (fun c3 => ?_) (fun c3 => ?_)
      · rw [if_pos c3] at h
        refine m_gob (c := x1 < (85 : Int32)) (t := 76) (f := 68) (L := [(62, .iload_n 1, 1, 0, 0), (63, .bipush 85, 2, 0, 0), (65, .if_icmp .lt 11, 3, 0, 0)]) (lv1 := [(0, .ref 7), (1, .int x1)]) (st1 := []) (h1 := hO R g) (by decide +kernel) rfl (fun c4 => ?_) (fun c4 => ?_)
        · rw [if_pos c4] at h
          refine m_gob (c := (70 : Int32) ≤ x1) (t := 88) (f := 82) (L := [(76, .iload_n 1, 1, 0, 0), (77, .bipush 70, 2, 0, 0), (79, .if_icmp .ge 9, 3, 0, 0)]) (lv1 := [(0, .ref 7), (1, .int x1)]) (st1 := []) (h1 := hO R g) (by decide +kernel) rfl (fun c5 => ?_) (fun c5 => ?_)
          · rw [if_pos c5] at h
            exact m_r0 _ _ _ _ _ _ _ _ _ _ (m_pick [0, 1] rfl) (Fr101_88 h)
          · rw [if_neg c5] at h
            refine m_gob (c := ¬ x1 = (60 : Int32)) (t := 96) (f := 88) (L := [(82, .iload_n 1, 1, 0, 0), (83, .bipush 60, 2, 0, 0), (85, .if_icmp .ne 11, 3, 0, 0)]) (lv1 := [(0, .ref 7), (1, .int x1)]) (st1 := []) (h1 := hO R g) (by decide +kernel) rfl (fun c10 => ?_) (fun c10 => ?_)
            · rw [if_pos c10] at h
              refine m_gob (c := x1 < (53 : Int32)) (t := 110) (f := 102) (L := [(96, .iload_n 1, 1, 0, 0), (97, .bipush 53, 2, 0, 0), (99, .if_icmp .lt 11, 3, 0, 0)]) (lv1 := [(0, .ref 7), (1, .int x1)]) (st1 := []) (h1 := hO R g) (by decide +kernel) rfl (fun c11 => ?_) (fun c11 => ?_)
              · rw [if_pos c11] at h
                refine m_go (L := [(110, .aload_n 0, 1, 0, 0), (111, .iload_n 1, 1, 0, 0)]) (pc1 := 112) (lv1 := [(0, .ref 7), (1, .int x1)]) (st1 := [.int x1, .ref 7]) (h1 := hO R g) (by decide +kernel) rfl ?_
                rcases m_cv_inv h with ⟨g12, e14, h⟩ | ⟨y15, g12, e14, rfl, rfl⟩
                · refine m_ca (q := (112, .invokevirtual 302, 3, 132, 1)) (a := 132) (vs := [.ref 7, .int x1]) (st := []) (d1 := 5) (by decide +kernel) rfl rfl rfl rfl (by decide) (Fr132 e14) ?_
                  show m_Run X _ _ 101 115 [(0, .ref 7), (1, .int x1)] [] (hO R g12) _ _
                  cases h
                  exact m_rv (by decide +kernel)
                · exact m_cx (q := (112, .invokevirtual 302, 3, 132, 1)) (a := 132) (vs := [.ref 7, .int x1]) (st := []) (d1 := 5) (by decide +kernel) (by decide +kernel) rfl rfl rfl rfl (by decide) (Fr132 e14)
              · rw [if_neg c11] at h
                refine m_go (L := [(102, .aload_n 0, 1, 0, 0), (103, .iload_n 1, 1, 0, 0)]) (pc1 := 104) (lv1 := [(0, .ref 7), (1, .int x1)]) (st1 := [.int x1, .ref 7]) (h1 := hO R g) (by decide +kernel) rfl ?_
                rcases m_cv_inv h with ⟨g16, e18, h⟩ | ⟨y19, g16, e18, rfl, rfl⟩
                · refine m_ca (q := (104, .invokevirtual 299, 3, 124, 1)) (a := 124) (vs := [.ref 7, .int x1]) (st := []) (d1 := 5) (by decide +kernel) rfl rfl rfl rfl (by decide) (Fr124 e18) ?_
                  show m_Run X _ _ 101 107 [(0, .ref 7), (1, .int x1)] [] (hO R g16) _ _
                  refine m_go (L := [(107, .goto 8, 3, 0, 0)]) (pc1 := 115) (lv1 := [(0, .ref 7), (1, .int x1)]) (st1 := []) (h1 := hO R g16) (by decide +kernel) rfl ?_
                  cases h
                  exact m_rv (by decide +kernel)
                · exact m_cx (q := (104, .invokevirtual 299, 3, 124, 1)) (a := 124) (vs := [.ref 7, .int x1]) (st := []) (d1 := 5) (by decide +kernel) (by decide +kernel) rfl rfl rfl rfl (by decide) (Fr124 e18)
            · rw [if_neg c10] at h
              exact m_r0 _ _ _ _ _ _ _ _ _ _ (m_pick [0, 1] rfl) (Fr101_88 h)
        · rw [if_neg c4] at h
          refine m_go (L := [(68, .aload_n 0, 1, 0, 0), (69, .iload_n 1, 1, 0, 0)]) (pc1 := 70) (lv1 := [(0, .ref 7), (1, .int x1)]) (st1 := [.int x1, .ref 7]) (h1 := hO R g) (by decide +kernel) rfl ?_
          rcases m_cv_inv h with ⟨g20, e22, h⟩ | ⟨y23, g20, e22, rfl, rfl⟩
          · refine m_ca (q := (70, .invokevirtual 293, 3, 105, 1)) (a := 105) (vs := [.ref 7, .int x1]) (st := []) (d1 := 6) (by decide +kernel) rfl rfl rfl rfl (by decide) (Fr105 e22) ?_
            show m_Run X _ _ 101 73 [(0, .ref 7), (1, .int x1)] [] (hO R g20) _ _
            refine m_go (L := [(73, .goto 42, 3, 0, 0)]) (pc1 := 115) (lv1 := [(0, .ref 7), (1, .int x1)]) (st1 := []) (h1 := hO R g20) (by decide +kernel) rfl ?_
            cases h
            exact m_rv (by decide +kernel)
          · exact m_cx (q := (70, .invokevirtual 293, 3, 105, 1)) (a := 105) (vs := [.ref 7, .int x1]) (st := []) (d1 := 6) (by decide +kernel) (by decide +kernel) rfl rfl rfl rfl (by decide) (Fr105 e22)
      · rw [if_neg c3] at h
        refine m_go (L := [(50, .aload_n 0, 1, 0, 0), (51, .iload_n 1, 1, 0, 0), (52, .sipush 200, 3, 0, 0), (55, .isub, 1, 0, 0)]) (pc1 := 56) (lv1 := [(0, .ref 7), (1, .int x1)]) (st1 := [.int (x1 - (200 : Int32)), .ref 7]) (h1 := hO R g) (by decide +kernel) rfl ?_
        rcases m_cv_inv h with ⟨g24, e26, h⟩ | ⟨y27, g24, e26, rfl, rfl⟩
        · refine m_ca (q := (56, .invokevirtual 290, 3, 104, 1)) (a := 104) (vs := [.ref 7, .int (x1 - (200 : Int32))]) (st := []) (d1 := 4) (by decide +kernel) rfl rfl rfl rfl (by decide) (Fr104 e26) ?_
          show m_Run X _ _ 101 59 [(0, .ref 7), (1, .int x1)] [] (hO R g24) _ _
          refine m_go (L := [(59, .goto 56, 3, 0, 0)]) (pc1 := 115) (lv1 := [(0, .ref 7), (1, .int x1)]) (st1 := []) (h1 := hO R g24) (by decide +kernel) rfl ?_
          cases h
          exact m_rv (by decide +kernel)
        · exact m_cx (q := (56, .invokevirtual 290, 3, 104, 1)) (a := 104) (vs := [.ref 7, .int (x1 - (200 : Int32))]) (st := []) (d1 := 4) (by decide +kernel) (by decide +kernel) rfl rfl rfl rfl (by decide) (Fr104 e26)
    · rw [if_neg c2] at h
      refine m_go (L := [(21, .aload_n 0, 1, 0, 0), (22, .iload_n 1, 1, 0, 0), (23, .sipush 300, 3, 0, 0), (26, .isub, 1, 0, 0)]) (pc1 := 27) (lv1 := [(0, .ref 7), (1, .int x1)]) (st1 := [.int (x1 - (300 : Int32)), .ref 7]) (h1 := hO R g) (by decide +kernel) rfl ?_
      rcases m_cv_inv h with ⟨g28, e30, h⟩ | ⟨y31, g28, e30, rfl, rfl⟩
      · refine m_ca (q := (27, .invokevirtual 287, 3, 102, 1)) (a := 102) (vs := [.ref 7, .int (x1 - (300 : Int32))]) (st := []) (d1 := 4) (by decide +kernel) rfl rfl rfl rfl (by decide) (Fr102 e30) ?_
        show m_Run X _ _ 101 30 [(0, .ref 7), (1, .int x1)] [] (hO R g28) _ _
        refine m_go (L := [(30, .aload_n 0, 1, 0, 0), (31, .dup, 1, 0, 0), (32, .getfield 193, 3, 6, 14), (35, .iconst 1, 1, 0, 0), (36, .isub, 1, 0, 0), (37, .putfield 193, 3, 6, 14), (40, .goto 75, 3, 0, 0)]) (pc1 := 115) (lv1 := [(0, .ref 7), (1, .int x1)]) (st1 := []) (h1 := hO R (gI g28 34 ((g28.1 34) - (1 : Int32)))) (by decide +kernel) rfl ?_
        cases h
        exact m_rv (by decide +kernel)
      · exact m_cx (q := (27, .invokevirtual 287, 3, 102, 1)) (a := 102) (vs := [.ref 7, .int (x1 - (300 : Int32))]) (st := []) (d1 := 4) (by decide +kernel) (by decide +kernel) rfl rfl rfl rfl (by decide) (Fr102 e30)
  · rw [if_neg c1] at h
    refine m_go (L := [(6, .aload_n 0, 1, 0, 0), (7, .iload_n 1, 1, 0, 0)]) (pc1 := 8) (lv1 := [(0, .ref 7), (1, .int x1)]) (st1 := [.int x1, .ref 7]) (h1 := hO R g) (by decide +kernel) rfl ?_
    rcases m_cv_inv h with ⟨g32, e34, h⟩ | ⟨y35, g32, e34, rfl, rfl⟩
    · refine m_ca (q := (8, .invokevirtual 287, 3, 102, 1)) (a := 102) (vs := [.ref 7, .int x1]) (st := []) (d1 := 4) (by decide +kernel) rfl rfl rfl rfl (by decide) (Fr102 e34) ?_
      show m_Run X _ _ 101 11 [(0, .ref 7), (1, .int x1)] [] (hO R g32) _ _
      refine m_go (L := [(11, .goto 104, 3, 0, 0)]) (pc1 := 115) (lv1 := [(0, .ref 7), (1, .int x1)]) (st1 := []) (h1 := hO R g32) (by decide +kernel) rfl ?_
      cases h
      exact m_rv (by decide +kernel)
    · exact m_cx (q := (8, .invokevirtual 287, 3, 102, 1)) (a := 102) (vs := [.ref 7, .int x1]) (st := []) (d1 := 4) (by decide +kernel) (by decide +kernel) rfl rfl rfl rfl (by decide) (Fr102 e34)
def f91_157 (n : Nat) : Nat → Int32 → mG → mZ
  | 0, _, _ => none
  | c + 1, x1, g => if (g.1 37) ≤ x1 then some (.inl (some (.int (-1 : Int32))), g) else if x1 < 0 ∨ 2400 ≤ Int32.toNatClampNeg x1 then none else if x1 < 0 ∨ 2400 ≤ Int32.toNatClampNeg x1 then none else if x1 < 0 ∨ 2400 ≤ Int32.toNatClampNeg x1 then none else if x1 < 0 ∨ 2400 ≤ Int32.toNatClampNeg x1 then none else f91_157 n c (x1 + (1 : Int32)) (gS (gS g 47 (upd (g.2.1 47) (Int32.toNatClampNeg x1) ((g.2.1 43) (Int32.toNatClampNeg x1)))) 48 (upd (g.2.1 48) (Int32.toNatClampNeg x1) ((g.2.1 44) (Int32.toNatClampNeg x1))))
set_option maxRecDepth 20000 in
theorem Fr91_157 {R : Nat} : ∀ (c : Nat) (x1 : Int32) (g g' : mG) (o : mO), f91_157 n c x1 g = some (o, g') → m_Run X (8) (m_ko o) 91 157 [(0, .ref 7), (1, .int x1)] [] (hO R g) o (hO R g') := by
  intro c
  induction c with
  | zero => intro x1 g g' o h; rw [f91_157] at h; cases h
  | succ c ih =>
    intro x1 g g' o h
    rw [f91_157] at h
    refine m_gob (c := (g.1 37) ≤ x1) (t := 195) (f := 165) (L := [(157, .iload_n 1, 1, 0, 0), (158, .aload_n 0, 1, 0, 0), (159, .getfield 184, 3, 6, 24), (162, .if_icmp .ge 33, 3, 0, 0)]) (lv1 := [(0, .ref 7), (1, .int x1)]) (st1 := []) (h1 := hO R g) (by decide +kernel) rfl (fun c12 => ?_) (fun c12 => ?_)
    · rw [if_pos c12] at h
      refine m_go (L := [(195, .iconst (-1), 1, 0, 0)]) (pc1 := 196) (lv1 := [(0, .ref 7), (1, .int x1)]) (st1 := [.int (-1 : Int32)]) (h1 := hO R g) (by decide +kernel) rfl ?_
      cases h
      exact m_ri (by decide +kernel)
    · rw [if_neg c12] at h
      refine m_go (L := [(165, .aload_n 0, 1, 0, 0), (166, .getfield 55, 3, 6, 30), (169, .iload_n 1, 1, 0, 0), (170, .aload_n 0, 1, 0, 0), (171, .getfield 43, 3, 6, 25), (174, .iload_n 1, 1, 0, 0)]) (pc1 := 175) (lv1 := [(0, .ref 7), (1, .int x1)]) (st1 := [.int x1, .ref 43, .int x1, .ref 47]) (h1 := hO R g) (by decide +kernel) rfl ?_
      obtain ⟨c13, h⟩ := m_ifn_inv h
      refine m_go1 (q := (175, .iaload, 1, 0, 0)) (pc1 := 176) (lv1 := [(0, .ref 7), (1, .int x1)]) (st1 := [.int ((g.2.1 43) (Int32.toNatClampNeg x1)), .int x1, .ref 47]) (h1 := hO R g) (by decide +kernel) (if_neg c13) ?_
      obtain ⟨c14, h⟩ := m_ifn_inv h
      refine m_go1 (q := (176, .iastore, 1, 0, 0)) (pc1 := 177) (lv1 := [(0, .ref 7), (1, .int x1)]) (st1 := []) (h1 := hO R (gS g 47 (upd (g.2.1 47) (Int32.toNatClampNeg x1) ((g.2.1 43) (Int32.toNatClampNeg x1))))) (by decide +kernel) (if_neg c14) ?_
      refine m_go (L := [(177, .aload_n 0, 1, 0, 0), (178, .getfield 58, 3, 6, 31), (181, .iload_n 1, 1, 0, 0), (182, .aload_n 0, 1, 0, 0), (183, .getfield 46, 3, 6, 26), (186, .iload_n 1, 1, 0, 0)]) (pc1 := 187) (lv1 := [(0, .ref 7), (1, .int x1)]) (st1 := [.int x1, .ref 44, .int x1, .ref 48]) (h1 := hO R (gS g 47 (upd (g.2.1 47) (Int32.toNatClampNeg x1) ((g.2.1 43) (Int32.toNatClampNeg x1))))) (by decide +kernel) rfl ?_
      obtain ⟨c15, h⟩ := m_ifn_inv h
      refine m_go1 (q := (187, .iaload, 1, 0, 0)) (pc1 := 188) (lv1 := [(0, .ref 7), (1, .int x1)]) (st1 := [.int ((g.2.1 44) (Int32.toNatClampNeg x1)), .int x1, .ref 48]) (h1 := hO R (gS g 47 (upd (g.2.1 47) (Int32.toNatClampNeg x1) ((g.2.1 43) (Int32.toNatClampNeg x1))))) (by decide +kernel) (if_neg c15) ?_
      obtain ⟨c16, h⟩ := m_ifn_inv h
      refine m_go1 (q := (188, .iastore, 1, 0, 0)) (pc1 := 189) (lv1 := [(0, .ref 7), (1, .int x1)]) (st1 := []) (h1 := hO R (gS (gS g 47 (upd (g.2.1 47) (Int32.toNatClampNeg x1) ((g.2.1 43) (Int32.toNatClampNeg x1)))) 48 (upd (g.2.1 48) (Int32.toNatClampNeg x1) ((g.2.1 44) (Int32.toNatClampNeg x1))))) (by decide +kernel) (if_neg c16) ?_
      refine m_go (L := [(189, .iinc 1 1, 3, 0, 0), (192, .goto (-35), 3, 0, 0)]) (pc1 := 157) (lv1 := [(0, .ref 7), (1, .int (x1 + (1 : Int32)))]) (st1 := []) (h1 := hO R (gS (gS g 47 (upd (g.2.1 47) (Int32.toNatClampNeg x1) ((g.2.1 43) (Int32.toNatClampNeg x1)))) 48 (upd (g.2.1 48) (Int32.toNatClampNeg x1) ((g.2.1 44) (Int32.toNatClampNeg x1))))) (by decide +kernel) rfl ?_
      exact m_r0 _ _ _ _ _ _ _ _ _ _ (m_pick [0, 1] rfl) (ih _ _ _ _ h)
def f91_117 (n : Nat) : Nat → Int32 → mG → mZ
  | 0, _, _ => none
  | c + 1, x1, g => if (g.1 35) ≤ x1 then f91_157 n n (0 : Int32) g else if x1 < 0 ∨ 9 ≤ Int32.toNatClampNeg x1 then none else if x1 < 0 ∨ 8 ≤ Int32.toNatClampNeg x1 then none else if x1 < 0 ∨ 9 ≤ Int32.toNatClampNeg x1 then none else if x1 < 0 ∨ 8 ≤ Int32.toNatClampNeg x1 then none else f91_117 n c (x1 + (1 : Int32)) (gS (gS g 45 (upd (g.2.1 45) (Int32.toNatClampNeg x1) ((g.2.1 38) (Int32.toNatClampNeg x1)))) 46 (upd (g.2.1 46) (Int32.toNatClampNeg x1) ((g.2.1 39) (Int32.toNatClampNeg x1))))
set_option maxRecDepth 20000 in
theorem Fr91_117 {R : Nat} : ∀ (c : Nat) (x1 : Int32) (g g' : mG) (o : mO), f91_117 n c x1 g = some (o, g') → m_Run X (8) (m_ko o) 91 117 [(0, .ref 7), (1, .int x1)] [] (hO R g) o (hO R g') := by
  intro c
  induction c with
  | zero => intro x1 g g' o h; rw [f91_117] at h; cases h
  | succ c ih =>
    intro x1 g g' o h
    rw [f91_117] at h
    refine m_gob (c := (g.1 35) ≤ x1) (t := 155) (f := 125) (L := [(117, .iload_n 1, 1, 0, 0), (118, .aload_n 0, 1, 0, 0), (119, .getfield 196, 3, 6, 15), (122, .if_icmp .ge 33, 3, 0, 0)]) (lv1 := [(0, .ref 7), (1, .int x1)]) (st1 := []) (h1 := hO R g) (by decide +kernel) rfl (fun c11 => ?_) (fun c11 => ?_)
    · rw [if_pos c11] at h
      refine m_go (L := [(155, .iconst 0, 1, 0, 0), (156, .istore_n 1, 1, 0, 0)]) (pc1 := 157) (lv1 := [(0, .ref 7), (1, .int (0 : Int32))]) (st1 := []) (h1 := hO R g) (by decide +kernel) rfl ?_
      exact m_r0 _ _ _ _ _ _ _ _ _ _ (m_pick [0, 1] rfl) (Fr91_157 _ _ _ _ _ h)
    · rw [if_neg c11] at h
      refine m_go (L := [(125, .aload_n 0, 1, 0, 0), (126, .getfield 49, 3, 6, 28), (129, .iload_n 1, 1, 0, 0), (130, .aload_n 0, 1, 0, 0), (131, .getfield 28, 3, 6, 18), (134, .iload_n 1, 1, 0, 0)]) (pc1 := 135) (lv1 := [(0, .ref 7), (1, .int x1)]) (st1 := [.int x1, .ref 38, .int x1, .ref 45]) (h1 := hO R g) (by decide +kernel) rfl ?_
      obtain ⟨c17, h⟩ := m_ifn_inv h
      refine m_go1 (q := (135, .iaload, 1, 0, 0)) (pc1 := 136) (lv1 := [(0, .ref 7), (1, .int x1)]) (st1 := [.int ((g.2.1 38) (Int32.toNatClampNeg x1)), .int x1, .ref 45]) (h1 := hO R g) (by decide +kernel) (if_neg c17) ?_
      obtain ⟨c18, h⟩ := m_ifn_inv h
      refine m_go1 (q := (136, .iastore, 1, 0, 0)) (pc1 := 137) (lv1 := [(0, .ref 7), (1, .int x1)]) (st1 := []) (h1 := hO R (gS g 45 (upd (g.2.1 45) (Int32.toNatClampNeg x1) ((g.2.1 38) (Int32.toNatClampNeg x1))))) (by decide +kernel) (if_neg c18) ?_
      refine m_go (L := [(137, .aload_n 0, 1, 0, 0), (138, .getfield 52, 3, 6, 29), (141, .iload_n 1, 1, 0, 0), (142, .aload_n 0, 1, 0, 0), (143, .getfield 31, 3, 6, 19), (146, .iload_n 1, 1, 0, 0)]) (pc1 := 147) (lv1 := [(0, .ref 7), (1, .int x1)]) (st1 := [.int x1, .ref 39, .int x1, .ref 46]) (h1 := hO R (gS g 45 (upd (g.2.1 45) (Int32.toNatClampNeg x1) ((g.2.1 38) (Int32.toNatClampNeg x1))))) (by decide +kernel) rfl ?_
      obtain ⟨c19, h⟩ := m_ifn_inv h
      refine m_go1 (q := (147, .iaload, 1, 0, 0)) (pc1 := 148) (lv1 := [(0, .ref 7), (1, .int x1)]) (st1 := [.int ((g.2.1 39) (Int32.toNatClampNeg x1)), .int x1, .ref 46]) (h1 := hO R (gS g 45 (upd (g.2.1 45) (Int32.toNatClampNeg x1) ((g.2.1 38) (Int32.toNatClampNeg x1))))) (by decide +kernel) (if_neg c19) ?_
      obtain ⟨c20, h⟩ := m_ifn_inv h
      refine m_go1 (q := (148, .iastore, 1, 0, 0)) (pc1 := 149) (lv1 := [(0, .ref 7), (1, .int x1)]) (st1 := []) (h1 := hO R (gS (gS g 45 (upd (g.2.1 45) (Int32.toNatClampNeg x1) ((g.2.1 38) (Int32.toNatClampNeg x1)))) 46 (upd (g.2.1 46) (Int32.toNatClampNeg x1) ((g.2.1 39) (Int32.toNatClampNeg x1))))) (by decide +kernel) (if_neg c20) ?_
      refine m_go (L := [(149, .iinc 1 1, 3, 0, 0), (152, .goto (-35), 3, 0, 0)]) (pc1 := 117) (lv1 := [(0, .ref 7), (1, .int (x1 + (1 : Int32)))]) (st1 := []) (h1 := hO R (gS (gS g 45 (upd (g.2.1 45) (Int32.toNatClampNeg x1) ((g.2.1 38) (Int32.toNatClampNeg x1)))) 46 (upd (g.2.1 46) (Int32.toNatClampNeg x1) ((g.2.1 39) (Int32.toNatClampNeg x1))))) (by decide +kernel) rfl ?_
      exact m_r0 _ _ _ _ _ _ _ _ _ _ (m_pick [0, 1] rfl) (ih _ _ _ _ h)
def f91_95 (n : Nat) (g : mG) : mZ := if (g.1 30) < 0 then f91_117 n n (0 : Int32) (gI g 38 (g.1 35)) else some (.inl (some (.int (g.1 30))), g)
theorem Fr91_95 {R : Nat} {g g' : mG} {o : mO} (h : f91_95 n g = some (o, g')) : m_Run X (8) (m_ko o) 91 95 [(0, .ref 7)] [] (hO R g) o (hO R g') := by
  unfold f91_95 at h
  refine m_gob (c := (g.1 30) < 0) (t := 107) (f := 102) (L := [(95, .aload_n 0, 1, 0, 0), (96, .getfield 168, 3, 6, 7), (99, .ifCond .lt 8, 3, 0, 0)]) (lv1 := [(0, .ref 7)]) (st1 := []) (h1 := hO R g) (by decide +kernel) rfl (fun c10 => ?_) (fun c10 => ?_)
  · rw [if_pos c10] at h
    refine m_go (L := [(107, .aload_n 0, 1, 0, 0), (108, .aload_n 0, 1, 0, 0), (109, .getfield 196, 3, 6, 15), (112, .putfield 308, 3, 6, 27), (115, .iconst 0, 1, 0, 0), (116, .istore_n 1, 1, 0, 0)]) (pc1 := 117) (lv1 := [(0, .ref 7), (1, .int (0 : Int32))]) (st1 := []) (h1 := hO R (gI g 38 (g.1 35))) (by decide +kernel) rfl ?_
    exact m_r0 _ _ _ _ _ _ _ _ _ _ (m_pick [0, 1] rfl) (Fr91_117 _ _ _ _ _ h)
  · rw [if_neg c10] at h
    refine m_go (L := [(102, .aload_n 0, 1, 0, 0), (103, .getfield 168, 3, 6, 7)]) (pc1 := 106) (lv1 := [(0, .ref 7)]) (st1 := [.int (g.1 30)]) (h1 := hO R g) (by decide +kernel) rfl ?_
    cases h
    exact m_ri (by decide +kernel)
def f91_55 (n : Nat) : Nat → mG → mZ
  | 0, _ => none
  | c + 1, g => if (g.1 31) ≤ 0 then f91_95 n g else if 0 ≤ (g.1 30) then f91_95 n g else if ((g.1 31) - (1 : Int32)) < 0 ∨ 900 ≤ Int32.toNatClampNeg ((g.1 31) - (1 : Int32)) then none else m_cv (f101 n ((g.2.1 33) (Int32.toNatClampNeg ((g.1 31) - (1 : Int32)))) (gI g 31 ((g.1 31) - (1 : Int32)))) (fun g23 => f91_55 n c g23)
set_option maxRecDepth 20000 in
theorem Fr91_55 {R : Nat} : ∀ (c : Nat) (g g' : mG) (o : mO), f91_55 n c g = some (o, g') → m_Run X (8) (m_ko o) 91 55 [(0, .ref 7)] [] (hO R g) o (hO R g') := by
  intro c
  induction c with
  | zero => intro g g' o h; rw [f91_55] at h; cases h
  | succ c ih =>
    intro g g' o h
    rw [f91_55] at h
    refine m_gob (c := (g.1 31) ≤ 0) (t := 95) (f := 62) (L := [(55, .aload_n 0, 1, 0, 0), (56, .getfield 171, 3, 6, 9), (59, .ifCond .le 36, 3, 0, 0)]) (lv1 := [(0, .ref 7)]) (st1 := []) (h1 := hO R g) (by decide +kernel) rfl (fun c9 => ?_) (fun c9 => ?_)
    · rw [if_pos c9] at h
      exact m_r0 _ _ _ _ _ _ _ _ _ _ (m_pick [0] rfl) (Fr91_95 h)
    · rw [if_neg c9] at h
      refine m_gob (c := 0 ≤ (g.1 30)) (t := 95) (f := 69) (L := [(62, .aload_n 0, 1, 0, 0), (63, .getfield 168, 3, 6, 7), (66, .ifCond .ge 29, 3, 0, 0)]) (lv1 := [(0, .ref 7)]) (st1 := []) (h1 := hO R g) (by decide +kernel) rfl (fun c21 => ?_) (fun c21 => ?_)
      · rw [if_pos c21] at h
        exact m_r0 _ _ _ _ _ _ _ _ _ _ (m_pick [0] rfl) (Fr91_95 h)
      · rw [if_neg c21] at h
        refine m_go (L := [(69, .aload_n 0, 1, 0, 0), (70, .dup, 1, 0, 0), (71, .getfield 171, 3, 6, 9), (74, .iconst 1, 1, 0, 0), (75, .isub, 1, 0, 0), (76, .putfield 171, 3, 6, 9), (79, .aload_n 0, 1, 0, 0), (80, .aload_n 0, 1, 0, 0), (81, .getfield 13, 3, 6, 8), (84, .aload_n 0, 1, 0, 0), (85, .getfield 171, 3, 6, 9)]) (pc1 := 88) (lv1 := [(0, .ref 7)]) (st1 := [.int ((g.1 31) - (1 : Int32)), .ref 33, .ref 7]) (h1 := hO R (gI g 31 ((g.1 31) - (1 : Int32)))) (by decide +kernel) rfl ?_
        obtain ⟨c22, h⟩ := m_ifn_inv h
        refine m_go1 (q := (88, .iaload, 1, 0, 0)) (pc1 := 89) (lv1 := [(0, .ref 7)]) (st1 := [.int ((g.2.1 33) (Int32.toNatClampNeg ((g.1 31) - (1 : Int32)))), .ref 7]) (h1 := hO R (gI g 31 ((g.1 31) - (1 : Int32)))) (by decide +kernel) (if_neg c22) ?_
        rcases m_cv_inv h with ⟨g23, e25, h⟩ | ⟨y26, g23, e25, rfl, rfl⟩
        · refine m_ca (q := (89, .invokevirtual 305, 3, 101, 1)) (a := 101) (vs := [.ref 7, .int ((g.2.1 33) (Int32.toNatClampNeg ((g.1 31) - (1 : Int32))))]) (st := []) (d1 := 7) (by decide +kernel) rfl rfl rfl rfl (by decide) (Fr101 e25) ?_
          show m_Run X _ _ 91 92 [(0, .ref 7)] [] (hO R g23) _ _
          refine m_go (L := [(92, .goto (-37), 3, 0, 0)]) (pc1 := 55) (lv1 := [(0, .ref 7)]) (st1 := []) (h1 := hO R g23) (by decide +kernel) rfl ?_
          exact m_r0 _ _ _ _ _ _ _ _ _ _ (m_pick [0] rfl) (ih _ _ _ h)
        · exact m_cx (q := (89, .invokevirtual 305, 3, 101, 1)) (a := 101) (vs := [.ref 7, .int ((g.2.1 33) (Int32.toNatClampNeg ((g.1 31) - (1 : Int32))))]) (st := []) (d1 := 7) (by decide +kernel) (by decide +kernel) rfl rfl rfl rfl (by decide) (Fr101 e25)
def f91 (n : Nat) (g : mG) : mZ := m_cv (f92 n (gI (gI (gI (gI (gI (gI (gI (gI (gI g 24 (0 : Int32)) 30 (-1 : Int32)) 31 (0 : Int32)) 32 (0 : Int32)) 33 (0 : Int32)) 34 (0 : Int32)) 35 (0 : Int32)) 37 (0 : Int32)) 28 (0 : Int32))) (fun g1 => m_cv (f100 n (40 : Int32) g1) (fun g5 => f91_55 n n g5))
theorem Fr91 {R : Nat} {g g' : mG} {o : mO} (h : f91 n g = some (o, g')) : m_Run X (8) (m_ko o) 91 0 [(0, .ref 7)] [] (hO R g) o (hO R g') := by
  unfold f91 at h
  refine m_go (L := [(0, .aload_n 0, 1, 0, 0), (1, .iconst 0, 1, 0, 0), (2, .putfield 82, 3, 6, 0), (5, .aload_n 0, 1, 0, 0), (6, .iconst (-1), 1, 0, 0), (7, .putfield 168, 3, 6, 7), (10, .aload_n 0, 1, 0, 0), (11, .iconst 0, 1, 0, 0), (12, .putfield 171, 3, 6, 9), (15, .aload_n 0, 1, 0, 0), (16, .iconst 0, 1, 0, 0), (17, .putfield 178, 3, 6, 11), (20, .aload_n 0, 1, 0, 0), (21, .iconst 0, 1, 0, 0), (22, .putfield 181, 3, 6, 13), (25, .aload_n 0, 1, 0, 0), (26, .iconst 0, 1, 0, 0), (27, .putfield 193, 3, 6, 14), (30, .aload_n 0, 1, 0, 0), (31, .iconst 0, 1, 0, 0), (32, .putfield 196, 3, 6, 15), (35, .aload_n 0, 1, 0, 0), (36, .iconst 0, 1, 0, 0), (37, .putfield 184, 3, 6, 24), (40, .aload_n 0, 1, 0, 0), (41, .iconst 0, 1, 0, 0), (42, .putfield 133, 3, 6, 5), (45, .aload_n 0, 1, 0, 0)]) (pc1 := 46) (lv1 := [(0, .ref 7)]) (st1 := [.ref 7]) (h1 := hO R (gI (gI (gI (gI (gI (gI (gI (gI (gI g 24 (0 : Int32)) 30 (-1 : Int32)) 31 (0 : Int32)) 32 (0 : Int32)) 33 (0 : Int32)) 34 (0 : Int32)) 35 (0 : Int32)) 37 (0 : Int32)) 28 (0 : Int32))) (by decide +kernel) rfl ?_
  rcases m_cv_inv h with ⟨g1, e3, h⟩ | ⟨y4, g1, e3, rfl, rfl⟩
  · refine m_ca (q := (46, .invokevirtual 187, 3, 92, 0)) (a := 92) (vs := [.ref 7]) (st := []) (d1 := 3) (by decide +kernel) rfl rfl rfl rfl (by decide) (Fr92 e3) ?_
    show m_Run X _ _ 91 49 [(0, .ref 7)] [] (hO R g1) _ _
    refine m_go (L := [(49, .aload_n 0, 1, 0, 0), (50, .bipush 40, 2, 0, 0)]) (pc1 := 52) (lv1 := [(0, .ref 7)]) (st1 := [.int (40 : Int32), .ref 7]) (h1 := hO R g1) (by decide +kernel) rfl ?_
    rcases m_cv_inv h with ⟨g5, e7, h⟩ | ⟨y8, g5, e7, rfl, rfl⟩
    · refine m_ca (q := (52, .invokevirtual 174, 3, 100, 1)) (a := 100) (vs := [.ref 7, .int (40 : Int32)]) (st := []) (d1 := 0) (by decide +kernel) rfl rfl rfl rfl (by decide) (Fr100 e7) ?_
      show m_Run X _ _ 91 55 [(0, .ref 7)] [] (hO R g5) _ _
      exact m_r0 _ _ _ _ _ _ _ _ _ _ (m_pick [0] rfl) (Fr91_55 _ _ _ _ h)
    · exact m_cx (q := (52, .invokevirtual 174, 3, 100, 1)) (a := 100) (vs := [.ref 7, .int (40 : Int32)]) (st := []) (d1 := 0) (by decide +kernel) (by decide +kernel) rfl rfl rfl rfl (by decide) (Fr100 e7)
  · exact m_cx (q := (46, .invokevirtual 187, 3, 92, 0)) (a := 92) (vs := [.ref 7]) (st := []) (d1 := 3) (by decide +kernel) (by decide +kernel) rfl rfl rfl rfl (by decide) (Fr92 e3)
def f136_39 (n : Nat) (x1 : Int32) (s1 : Int32) (s2 : Int32) (g : mG) : mZ := m_ci (f88 n s1 s2 (0 : Int32) g) (fun v4 g3 => if v4 = 0 then if 0 ≤ x1 then if x1 < 0 ∨ 8 ≤ Int32.toNatClampNeg x1 then none else some (.inl (some (.int ((g3.2.1 46) (Int32.toNatClampNeg x1)))), g3) else some (.inl (some (.int (g3.1 38))), g3) else some (.inl (some (.int (0 : Int32))), g3))
theorem Fr136_39 {R : Nat} {x1 : Int32} {s1 : Int32} {s2 : Int32} {g g' : mG} {o : mO} (h : f136_39 n x1 s1 s2 g = some (o, g')) : m_Run X (1) (m_ko o) 136 39 [(0, .ref 7), (1, .int x1)] [.int s2, .int s1, .ref 7] (hO R g) o (hO R g') := by
  unfold f136_39 at h
  refine m_go (L := [(39, .iconst 0, 1, 0, 0)]) (pc1 := 40) (lv1 := [(0, .ref 7), (1, .int x1)]) (st1 := [.int (0 : Int32), .int s2, .int s1, .ref 7]) (h1 := hO R g) (by decide +kernel) rfl ?_
  rcases m_ci_inv h with ⟨v4, g3, e5, h⟩ | ⟨y6, g3, e5, rfl, rfl⟩
  · refine m_ca (q := (40, .invokevirtual 89, 3, 88, 3)) (a := 88) (vs := [.ref 7, .int s1, .int s2, .int (0 : Int32)]) (st := []) (d1 := 0) (by decide +kernel) rfl rfl rfl rfl (by decide) (Fr88 e5) ?_
    show m_Run X _ _ 136 43 [(0, .ref 7), (1, .int x1)] [.int v4] (hO R g3) _ _
    refine m_gob (c := v4 = 0) (t := 48) (f := 46) (L := [(43, .ifCond .eq 5, 3, 0, 0)]) (lv1 := [(0, .ref 7), (1, .int x1)]) (st1 := []) (h1 := hO R g3) (by decide +kernel) rfl (fun c7 => ?_) (fun c7 => ?_)
    · rw [if_pos c7] at h
      refine m_gob (c := 0 ≤ x1) (t := 59) (f := 52) (L := [(48, .iload_n 1, 1, 0, 0), (49, .ifCond .ge 10, 3, 0, 0)]) (lv1 := [(0, .ref 7), (1, .int x1)]) (st1 := []) (h1 := hO R g3) (by decide +kernel) rfl (fun c8 => ?_) (fun c8 => ?_)
      · rw [if_pos c8] at h
        refine m_go (L := [(59, .aload_n 0, 1, 0, 0), (60, .getfield 52, 3, 6, 29), (63, .iload_n 1, 1, 0, 0)]) (pc1 := 64) (lv1 := [(0, .ref 7), (1, .int x1)]) (st1 := [.int x1, .ref 46]) (h1 := hO R g3) (by decide +kernel) rfl ?_
        obtain ⟨c9, h⟩ := m_ifn_inv h
        refine m_go1 (q := (64, .iaload, 1, 0, 0)) (pc1 := 65) (lv1 := [(0, .ref 7), (1, .int x1)]) (st1 := [.int ((g3.2.1 46) (Int32.toNatClampNeg x1))]) (h1 := hO R g3) (by decide +kernel) (if_neg c9) ?_
        cases h
        exact m_ri (by decide +kernel)
      · rw [if_neg c8] at h
        refine m_go (L := [(52, .aload_n 0, 1, 0, 0), (53, .getfield 308, 3, 6, 27), (56, .goto 9, 3, 0, 0)]) (pc1 := 65) (lv1 := [(0, .ref 7), (1, .int x1)]) (st1 := [.int (g3.1 38)]) (h1 := hO R g3) (by decide +kernel) rfl ?_
        cases h
        exact m_ri (by decide +kernel)
    · rw [if_neg c7] at h
      refine m_go (L := [(46, .iconst 0, 1, 0, 0)]) (pc1 := 47) (lv1 := [(0, .ref 7), (1, .int x1)]) (st1 := [.int (0 : Int32)]) (h1 := hO R g3) (by decide +kernel) rfl ?_
      cases h
      exact m_ri (by decide +kernel)
  · exact m_cx (q := (40, .invokevirtual 89, 3, 88, 3)) (a := 88) (vs := [.ref 7, .int s1, .int s2, .int (0 : Int32)]) (st := []) (d1 := 0) (by decide +kernel) (by decide +kernel) rfl rfl rfl rfl (by decide) (Fr88 e5)
def f136_38 (n : Nat) (x1 : Int32) (s1 : Int32) (g : mG) : mZ := f136_39 n x1 s1 (0 : Int32) g
theorem Fr136_38 {R : Nat} {x1 : Int32} {s1 : Int32} {g g' : mG} {o : mO} (h : f136_38 n x1 s1 g = some (o, g')) : m_Run X (1) (m_ko o) 136 38 [(0, .ref 7), (1, .int x1)] [.int s1, .ref 7] (hO R g) o (hO R g') := by
  unfold f136_38 at h
  refine m_go (L := [(38, .iconst 0, 1, 0, 0)]) (pc1 := 39) (lv1 := [(0, .ref 7), (1, .int x1)]) (st1 := [.int (0 : Int32), .int s1, .ref 7]) (h1 := hO R g) (by decide +kernel) rfl ?_
  exact m_r0 _ _ _ _ _ _ _ _ _ _ (m_pick [0, 1] rfl) (Fr136_39 h)
def f136_13 (n : Nat) (x1 : Int32) (s1 : Int32) (g : mG) : mZ := if (g.1 38) ≤ 0 then f136_38 n x1 s1 g else m_ci (f90 n x1 (-1 : Int32) ((g.1 38) - (1 : Int32)) g) (fun v11 g10 => if ¬ v11 = 0 then f136_38 n x1 s1 g10 else f136_39 n x1 s1 (1 : Int32) g10)
theorem Fr136_13 {R : Nat} {x1 : Int32} {s1 : Int32} {g g' : mG} {o : mO} (h : f136_13 n x1 s1 g = some (o, g')) : m_Run X (1) (m_ko o) 136 13 [(0, .ref 7), (1, .int x1)] [.int s1, .ref 7] (hO R g) o (hO R g') := by
  unfold f136_13 at h
  refine m_gob (c := (g.1 38) ≤ 0) (t := 38) (f := 20) (L := [(13, .aload_n 0, 1, 0, 0), (14, .getfield 308, 3, 6, 27), (17, .ifCond .le 21, 3, 0, 0)]) (lv1 := [(0, .ref 7), (1, .int x1)]) (st1 := [.int s1, .ref 7]) (h1 := hO R g) (by decide +kernel) rfl (fun c2 => ?_) (fun c2 => ?_)
  · rw [if_pos c2] at h
    exact m_r0 _ _ _ _ _ _ _ _ _ _ (m_pick [0, 1] rfl) (Fr136_38 h)
  · rw [if_neg c2] at h
    refine m_go (L := [(20, .iload_n 1, 1, 0, 0), (21, .iconst (-1), 1, 0, 0), (22, .aload_n 0, 1, 0, 0), (23, .getfield 308, 3, 6, 27), (26, .iconst 1, 1, 0, 0), (27, .isub, 1, 0, 0)]) (pc1 := 28) (lv1 := [(0, .ref 7), (1, .int x1)]) (st1 := [.int ((g.1 38) - (1 : Int32)), .int (-1 : Int32), .int x1, .int s1, .ref 7]) (h1 := hO R g) (by decide +kernel) rfl ?_
    rcases m_ci_inv h with ⟨v11, g10, e12, h⟩ | ⟨y13, g10, e12, rfl, rfl⟩
    · refine m_ca (q := (28, .invokestatic 93, 3, 90, 3)) (a := 90) (vs := [.int x1, .int (-1 : Int32), .int ((g.1 38) - (1 : Int32))]) (st := [.int s1, .ref 7]) (d1 := 0) (by decide +kernel) rfl rfl rfl rfl (by decide) (Fr90 e12) ?_
      show m_Run X _ _ 136 31 [(0, .ref 7), (1, .int x1)] [.int v11, .int s1, .ref 7] (hO R g10) _ _
      refine m_gob (c := ¬ v11 = 0) (t := 38) (f := 34) (L := [(31, .ifCond .ne 7, 3, 0, 0)]) (lv1 := [(0, .ref 7), (1, .int x1)]) (st1 := [.int s1, .ref 7]) (h1 := hO R g10) (by decide +kernel) rfl (fun c14 => ?_) (fun c14 => ?_)
      · rw [if_pos c14] at h
        exact m_r0 _ _ _ _ _ _ _ _ _ _ (m_pick [0, 1] rfl) (Fr136_38 h)
      · rw [if_neg c14] at h
        refine m_go (L := [(34, .iconst 1, 1, 0, 0), (35, .goto 4, 3, 0, 0)]) (pc1 := 39) (lv1 := [(0, .ref 7), (1, .int x1)]) (st1 := [.int (1 : Int32), .int s1, .ref 7]) (h1 := hO R g10) (by decide +kernel) rfl ?_
        exact m_r0 _ _ _ _ _ _ _ _ _ _ (m_pick [0, 1] rfl) (Fr136_39 h)
    · exact m_cx (q := (28, .invokestatic 93, 3, 90, 3)) (a := 90) (vs := [.int x1, .int (-1 : Int32), .int ((g.1 38) - (1 : Int32))]) (st := [.int s1, .ref 7]) (d1 := 0) (by decide +kernel) (by decide +kernel) rfl rfl rfl rfl (by decide) (Fr90 e12)
def f136 (n : Nat) (x1 : Int32) (g : mG) : mZ := if ¬ (g.1 38) = 0 then f136_13 n x1 (0 : Int32) g else f136_13 n x1 (1 : Int32) g
theorem Fr136 {R : Nat} {x1 : Int32} {g g' : mG} {o : mO} (h : f136 n x1 g = some (o, g')) : m_Run X (1) (m_ko o) 136 0 [(0, .ref 7), (1, .int x1)] [] (hO R g) o (hO R g') := by
  unfold f136 at h
  refine m_gob (c := ¬ (g.1 38) = 0) (t := 12) (f := 8) (L := [(0, .aload_n 0, 1, 0, 0), (1, .aload_n 0, 1, 0, 0), (2, .getfield 308, 3, 6, 27), (5, .ifCond .ne 7, 3, 0, 0)]) (lv1 := [(0, .ref 7), (1, .int x1)]) (st1 := [.ref 7]) (h1 := hO R g) (by decide +kernel) rfl (fun c1 => ?_) (fun c1 => ?_)
  · rw [if_pos c1] at h
    refine m_go (L := [(12, .iconst 0, 1, 0, 0)]) (pc1 := 13) (lv1 := [(0, .ref 7), (1, .int x1)]) (st1 := [.int (0 : Int32), .ref 7]) (h1 := hO R g) (by decide +kernel) rfl ?_
    exact m_r0 _ _ _ _ _ _ _ _ _ _ (m_pick [0, 1] rfl) (Fr136_13 h)
  · rw [if_neg c1] at h
    refine m_go (L := [(8, .iconst 1, 1, 0, 0), (9, .goto 4, 3, 0, 0)]) (pc1 := 13) (lv1 := [(0, .ref 7), (1, .int x1)]) (st1 := [.int (1 : Int32), .ref 7]) (h1 := hO R g) (by decide +kernel) rfl ?_
    exact m_r0 _ _ _ _ _ _ _ _ _ _ (m_pick [0, 1] rfl) (Fr136_13 h)
def f137_9 (n : Nat) : Nat → Int32 → Int32 → Int32 → mG → mZ
  | 0, _, _, _, _ => none
  | c + 1, x1, x2, x3, g => if (g.1 39) ≤ x3 then some (.inl (some (.int x2)), g) else if x3 < 0 ∨ 32 ≤ Int32.toNatClampNeg x3 then none else if ¬ ((g.2.1 49) (Int32.toNatClampNeg x3)) = x1 then f137_9 n c x1 x2 (x3 + (1 : Int32)) g else if x3 < 0 ∨ 32 ≤ Int32.toNatClampNeg x3 then none else f137_9 n c x1 ((g.2.1 50) (Int32.toNatClampNeg x3)) (x3 + (1 : Int32)) g
set_option maxRecDepth 20000 in
theorem Fr137_9 {R : Nat} : ∀ (c : Nat) (x1 : Int32) (x2 : Int32) (x3 : Int32) (g g' : mG) (o : mO), f137_9 n c x1 x2 x3 g = some (o, g') → m_Run X (0) (m_ko o) 137 9 [(0, .ref 7), (1, .int x1), (2, .int x2), (3, .int x3)] [] (hO R g) o (hO R g') := by
  intro c
  induction c with
  | zero => intro x1 x2 x3 g g' o h; rw [f137_9] at h; cases h
  | succ c ih =>
    intro x1 x2 x3 g g' o h
    rw [f137_9] at h
    refine m_gob (c := (g.1 39) ≤ x3) (t := 44) (f := 17) (L := [(9, .iload_n 3, 1, 0, 0), (10, .aload_n 0, 1, 0, 0), (11, .getfield 314, 3, 6, 32), (14, .if_icmp .ge 30, 3, 0, 0)]) (lv1 := [(0, .ref 7), (1, .int x1), (2, .int x2), (3, .int x3)]) (st1 := []) (h1 := hO R g) (by decide +kernel) rfl (fun c1 => ?_) (fun c1 => ?_)
    · rw [if_pos c1] at h
      refine m_go (L := [(44, .iload_n 2, 1, 0, 0)]) (pc1 := 45) (lv1 := [(0, .ref 7), (1, .int x1), (2, .int x2), (3, .int x3)]) (st1 := [.int x2]) (h1 := hO R g) (by decide +kernel) rfl ?_
      cases h
      exact m_ri (by decide +kernel)
    · rw [if_neg c1] at h
      refine m_go (L := [(17, .aload_n 0, 1, 0, 0), (18, .getfield 61, 3, 6, 33), (21, .iload_n 3, 1, 0, 0)]) (pc1 := 22) (lv1 := [(0, .ref 7), (1, .int x1), (2, .int x2), (3, .int x3)]) (st1 := [.int x3, .ref 49]) (h1 := hO R g) (by decide +kernel) rfl ?_
      obtain ⟨c2, h⟩ := m_ifn_inv h
      refine m_go1 (q := (22, .iaload, 1, 0, 0)) (pc1 := 23) (lv1 := [(0, .ref 7), (1, .int x1), (2, .int x2), (3, .int x3)]) (st1 := [.int ((g.2.1 49) (Int32.toNatClampNeg x3))]) (h1 := hO R g) (by decide +kernel) (if_neg c2) ?_
      refine m_gob (c := ¬ ((g.2.1 49) (Int32.toNatClampNeg x3)) = x1) (t := 36) (f := 27) (L := [(23, .iload_n 1, 1, 0, 0), (24, .if_icmp .ne 12, 3, 0, 0)]) (lv1 := [(0, .ref 7), (1, .int x1), (2, .int x2), (3, .int x3)]) (st1 := []) (h1 := hO R g) (by decide +kernel) rfl (fun c3 => ?_) (fun c3 => ?_)
      · rw [if_pos c3] at h
        refine m_go (L := [(36, .iload_n 2, 1, 0, 0), (37, .istore_n 2, 1, 0, 0), (38, .iinc 3 1, 3, 0, 0), (41, .goto (-32), 3, 0, 0)]) (pc1 := 9) (lv1 := [(0, .ref 7), (1, .int x1), (2, .int x2), (3, .int (x3 + (1 : Int32)))]) (st1 := []) (h1 := hO R g) (by decide +kernel) rfl ?_
        exact m_r0 _ _ _ _ _ _ _ _ _ _ (m_pick [0, 1, 2, 3] rfl) (ih _ _ _ _ _ _ h)
      · rw [if_neg c3] at h
        refine m_go (L := [(27, .aload_n 0, 1, 0, 0), (28, .getfield 64, 3, 6, 34), (31, .iload_n 3, 1, 0, 0)]) (pc1 := 32) (lv1 := [(0, .ref 7), (1, .int x1), (2, .int x2), (3, .int x3)]) (st1 := [.int x3, .ref 50]) (h1 := hO R g) (by decide +kernel) rfl ?_
        obtain ⟨c4, h⟩ := m_ifn_inv h
        refine m_go1 (q := (32, .iaload, 1, 0, 0)) (pc1 := 33) (lv1 := [(0, .ref 7), (1, .int x1), (2, .int x2), (3, .int x3)]) (st1 := [.int ((g.2.1 50) (Int32.toNatClampNeg x3))]) (h1 := hO R g) (by decide +kernel) (if_neg c4) ?_
        refine m_go (L := [(33, .goto 4, 3, 0, 0), (37, .istore_n 2, 1, 0, 0), (38, .iinc 3 1, 3, 0, 0), (41, .goto (-32), 3, 0, 0)]) (pc1 := 9) (lv1 := [(0, .ref 7), (1, .int x1), (2, .int ((g.2.1 50) (Int32.toNatClampNeg x3))), (3, .int (x3 + (1 : Int32)))]) (st1 := []) (h1 := hO R g) (by decide +kernel) rfl ?_
        exact m_r0 _ _ _ _ _ _ _ _ _ _ (m_pick [0, 1, 2, 3] rfl) (ih _ _ _ _ _ _ h)
def f137 (n : Nat) (x1 : Int32) (g : mG) : mZ := f137_9 n n x1 (0 : Int32) (0 : Int32) (gI g 24 (0 : Int32))
theorem Fr137 {R : Nat} {x1 : Int32} {g g' : mG} {o : mO} (h : f137 n x1 g = some (o, g')) : m_Run X (0) (m_ko o) 137 0 [(0, .ref 7), (1, .int x1)] [] (hO R g) o (hO R g') := by
  unfold f137 at h
  refine m_go (L := [(0, .aload_n 0, 1, 0, 0), (1, .iconst 0, 1, 0, 0), (2, .putfield 82, 3, 6, 0), (5, .iconst 0, 1, 0, 0), (6, .istore_n 2, 1, 0, 0), (7, .iconst 0, 1, 0, 0), (8, .istore_n 3, 1, 0, 0)]) (pc1 := 9) (lv1 := [(0, .ref 7), (1, .int x1), (2, .int (0 : Int32)), (3, .int (0 : Int32))]) (st1 := []) (h1 := hO R (gI g 24 (0 : Int32))) (by decide +kernel) rfl ?_
  exact m_r0 _ _ _ _ _ _ _ _ _ _ (m_pick [0, 1, 2, 3] rfl) (Fr137_9 _ _ _ _ _ _ _ h)
def f138 (n : Nat) (g : mG) : mZ := some (.inl (some (.int (g.1 39))), (gI g 24 (0 : Int32)))
theorem Fr138 {R : Nat} {g g' : mG} {o : mO} (h : f138 n g = some (o, g')) : m_Run X (0) (m_ko o) 138 0 [(0, .ref 7)] [] (hO R g) o (hO R g') := by
  unfold f138 at h
  refine m_go (L := [(0, .aload_n 0, 1, 0, 0), (1, .iconst 0, 1, 0, 0), (2, .putfield 82, 3, 6, 0), (5, .aload_n 0, 1, 0, 0), (6, .getfield 314, 3, 6, 32)]) (pc1 := 9) (lv1 := [(0, .ref 7)]) (st1 := [.int (g.1 39)]) (h1 := hO R (gI g 24 (0 : Int32))) (by decide +kernel) rfl ?_
  cases h
  exact m_ri (by decide +kernel)
def f142 (n : Nat) (g : mG) : mZ := if ((g.1 41) - (1 : Int32)) < 0 ∨ 3000 ≤ Int32.toNatClampNeg ((g.1 41) - (1 : Int32)) then none else some (.inl (some (.int ((g.2.1 53) (Int32.toNatClampNeg ((g.1 41) - (1 : Int32)))))), (gI g 41 ((g.1 41) - (1 : Int32))))
theorem Fr142 {R : Nat} {g g' : mG} {o : mO} (h : f142 n g = some (o, g')) : m_Run X (0) (m_ko o) 142 0 [(0, .ref 7)] [] (hO R g) o (hO R g') := by
  unfold f142 at h
  refine m_go (L := [(0, .aload_n 0, 1, 0, 0), (1, .dup, 1, 0, 0), (2, .getfield 311, 3, 6, 40), (5, .iconst 1, 1, 0, 0), (6, .isub, 1, 0, 0), (7, .putfield 311, 3, 6, 40), (10, .aload_n 0, 1, 0, 0), (11, .getfield 73, 3, 6, 39), (14, .aload_n 0, 1, 0, 0), (15, .getfield 311, 3, 6, 40)]) (pc1 := 18) (lv1 := [(0, .ref 7)]) (st1 := [.int ((g.1 41) - (1 : Int32)), .ref 53]) (h1 := hO R (gI g 41 ((g.1 41) - (1 : Int32)))) (by decide +kernel) rfl ?_
  obtain ⟨c1, h⟩ := m_ifn_inv h
  refine m_go1 (q := (18, .iaload, 1, 0, 0)) (pc1 := 19) (lv1 := [(0, .ref 7)]) (st1 := [.int ((g.2.1 53) (Int32.toNatClampNeg ((g.1 41) - (1 : Int32))))]) (h1 := hO R (gI g 41 ((g.1 41) - (1 : Int32)))) (by decide +kernel) (if_neg c1) ?_
  cases h
  exact m_ri (by decide +kernel)
def f141_48 (n : Nat) : Nat → Int32 → Int32 → mG → mZ
  | 0, _, _, _ => none
  | c + 1, x1, x3, g => if x3 < 0 then if x1 < 0 ∨ 8 ≤ Int32.toNatClampNeg x1 then none else some (.inl (some (.int ((g.2.1 45) (Int32.toNatClampNeg x1)))), (gI g 42 ((g.1 42) + (1 : Int32)))) else m_ci (f142 n g) (fun v7 g6 => if (((8 : Int32) * (g.1 42)) + x3) < 0 ∨ 104 ≤ Int32.toNatClampNeg (((8 : Int32) * (g.1 42)) + x3) then none else f141_48 n c x1 (x3 + (-1 : Int32)) (gS g6 55 (upd (g6.2.1 55) (Int32.toNatClampNeg (((8 : Int32) * (g.1 42)) + x3)) v7)))
set_option maxRecDepth 20000 in
theorem Fr141_48 {R : Nat} : ∀ (c : Nat) (x1 : Int32) (x3 : Int32) (g g' : mG) (o : mO), f141_48 n c x1 x3 g = some (o, g') → m_Run X (1) (m_ko o) 141 48 [(0, .ref 7), (1, .int x1), (3, .int x3)] [] (hO R g) o (hO R g') := by
  intro c
  induction c with
  | zero => intro x1 x3 g g' o h; rw [f141_48] at h; cases h
  | succ c ih =>
    intro x1 x3 g g' o h
    rw [f141_48] at h
    refine m_gob (c := x3 < 0) (t := 76) (f := 52) (L := [(48, .iload_n 3, 1, 0, 0), (49, .ifCond .lt 27, 3, 0, 0)]) (lv1 := [(0, .ref 7), (1, .int x1), (3, .int x3)]) (st1 := []) (h1 := hO R g) (by decide +kernel) rfl (fun c4 => ?_) (fun c4 => ?_)
    · rw [if_pos c4] at h
      refine m_go (L := [(76, .aload_n 0, 1, 0, 0), (77, .dup, 1, 0, 0), (78, .getfield 321, 3, 6, 41), (81, .iconst 1, 1, 0, 0), (82, .iadd, 1, 0, 0), (83, .putfield 321, 3, 6, 41), (86, .aload_n 0, 1, 0, 0), (87, .getfield 49, 3, 6, 28), (90, .iload_n 1, 1, 0, 0)]) (pc1 := 91) (lv1 := [(0, .ref 7), (1, .int x1), (3, .int x3)]) (st1 := [.int x1, .ref 45]) (h1 := hO R (gI g 42 ((g.1 42) + (1 : Int32)))) (by decide +kernel) rfl ?_
      obtain ⟨c5, h⟩ := m_ifn_inv h
      refine m_go1 (q := (91, .iaload, 1, 0, 0)) (pc1 := 92) (lv1 := [(0, .ref 7), (1, .int x1), (3, .int x3)]) (st1 := [.int ((g.2.1 45) (Int32.toNatClampNeg x1))]) (h1 := hO R (gI g 42 ((g.1 42) + (1 : Int32)))) (by decide +kernel) (if_neg c5) ?_
      cases h
      exact m_ri (by decide +kernel)
    · rw [if_neg c4] at h
      refine m_go (L := [(52, .aload_n 0, 1, 0, 0), (53, .getfield 79, 3, 6, 43), (56, .bipush 8, 2, 0, 0), (58, .aload_n 0, 1, 0, 0), (59, .getfield 321, 3, 6, 41), (62, .imul, 1, 0, 0), (63, .iload_n 3, 1, 0, 0), (64, .iadd, 1, 0, 0), (65, .aload_n 0, 1, 0, 0)]) (pc1 := 66) (lv1 := [(0, .ref 7), (1, .int x1), (3, .int x3)]) (st1 := [.ref 7, .int (((8 : Int32) * (g.1 42)) + x3), .ref 55]) (h1 := hO R g) (by decide +kernel) rfl ?_
      rcases m_ci_inv h with ⟨v7, g6, e8, h⟩ | ⟨y9, g6, e8, rfl, rfl⟩
      · refine m_ca (q := (66, .invokevirtual 324, 3, 142, 0)) (a := 142) (vs := [.ref 7]) (st := [.int (((8 : Int32) * (g.1 42)) + x3), .ref 55]) (d1 := 0) (by decide +kernel) rfl rfl rfl rfl (by decide) (Fr142 e8) ?_
        show m_Run X _ _ 141 69 [(0, .ref 7), (1, .int x1), (3, .int x3)] [.int v7, .int (((8 : Int32) * (g.1 42)) + x3), .ref 55] (hO R g6) _ _
        obtain ⟨c10, h⟩ := m_ifn_inv h
        refine m_go1 (q := (69, .iastore, 1, 0, 0)) (pc1 := 70) (lv1 := [(0, .ref 7), (1, .int x1), (3, .int x3)]) (st1 := []) (h1 := hO R (gS g6 55 (upd (g6.2.1 55) (Int32.toNatClampNeg (((8 : Int32) * (g.1 42)) + x3)) v7))) (by decide +kernel) (if_neg c10) ?_
        refine m_go (L := [(70, .iinc 3 (-1), 3, 0, 0), (73, .goto (-25), 3, 0, 0)]) (pc1 := 48) (lv1 := [(0, .ref 7), (1, .int x1), (3, .int (x3 + (-1 : Int32)))]) (st1 := []) (h1 := hO R (gS g6 55 (upd (g6.2.1 55) (Int32.toNatClampNeg (((8 : Int32) * (g.1 42)) + x3)) v7))) (by decide +kernel) rfl ?_
        exact m_r0 _ _ _ _ _ _ _ _ _ _ (m_pick [0, 1, 2] rfl) (ih _ _ _ _ _ h)
      · exact m_cx (q := (66, .invokevirtual 324, 3, 142, 0)) (a := 142) (vs := [.ref 7]) (st := [.int (((8 : Int32) * (g.1 42)) + x3), .ref 55]) (d1 := 0) (by decide +kernel) (by decide +kernel) rfl rfl rfl rfl (by decide) (Fr142 e8)
def f141_12 (n : Nat) : Nat → Int32 → Int32 → mG → mZ
  | 0, _, _, _ => none
  | c + 1, x1, x3, g => if (8 : Int32) ≤ x3 then if x1 < 0 ∨ 8 ≤ Int32.toNatClampNeg x1 then none else f141_48 n n x1 (((g.2.1 46) (Int32.toNatClampNeg x1)) - (1 : Int32)) g else if (((8 : Int32) * (g.1 42)) + x3) < 0 ∨ 104 ≤ Int32.toNatClampNeg (((8 : Int32) * (g.1 42)) + x3) then none else f141_12 n c x1 (x3 + (1 : Int32)) (gS g 55 (upd (g.2.1 55) (Int32.toNatClampNeg (((8 : Int32) * (g.1 42)) + x3)) (0 : Int32)))
set_option maxRecDepth 20000 in
theorem Fr141_12 {R : Nat} : ∀ (c : Nat) (x1 : Int32) (x3 : Int32) (g g' : mG) (o : mO), f141_12 n c x1 x3 g = some (o, g') → m_Run X (1) (m_ko o) 141 12 [(0, .ref 7), (1, .int x1), (3, .int x3)] [] (hO R g) o (hO R g') := by
  intro c
  induction c with
  | zero => intro x1 x3 g g' o h; rw [f141_12] at h; cases h
  | succ c ih =>
    intro x1 x3 g g' o h
    rw [f141_12] at h
    refine m_gob (c := (8 : Int32) ≤ x3) (t := 39) (f := 18) (L := [(12, .iload_n 3, 1, 0, 0), (13, .bipush 8, 2, 0, 0), (15, .if_icmp .ge 24, 3, 0, 0)]) (lv1 := [(0, .ref 7), (1, .int x1), (3, .int x3)]) (st1 := []) (h1 := hO R g) (by decide +kernel) rfl (fun c2 => ?_) (fun c2 => ?_)
    · rw [if_pos c2] at h
      refine m_go (L := [(39, .aload_n 0, 1, 0, 0), (40, .getfield 52, 3, 6, 29), (43, .iload_n 1, 1, 0, 0)]) (pc1 := 44) (lv1 := [(0, .ref 7), (1, .int x1), (3, .int x3)]) (st1 := [.int x1, .ref 46]) (h1 := hO R g) (by decide +kernel) rfl ?_
      obtain ⟨c3, h⟩ := m_ifn_inv h
      refine m_go1 (q := (44, .iaload, 1, 0, 0)) (pc1 := 45) (lv1 := [(0, .ref 7), (1, .int x1), (3, .int x3)]) (st1 := [.int ((g.2.1 46) (Int32.toNatClampNeg x1))]) (h1 := hO R g) (by decide +kernel) (if_neg c3) ?_
      refine m_go (L := [(45, .iconst 1, 1, 0, 0), (46, .isub, 1, 0, 0), (47, .istore_n 3, 1, 0, 0)]) (pc1 := 48) (lv1 := [(0, .ref 7), (1, .int x1), (3, .int (((g.2.1 46) (Int32.toNatClampNeg x1)) - (1 : Int32)))]) (st1 := []) (h1 := hO R g) (by decide +kernel) rfl ?_
      exact m_r0 _ _ _ _ _ _ _ _ _ _ (m_pick [0, 1, 2] rfl) (Fr141_48 _ _ _ _ _ _ h)
    · rw [if_neg c2] at h
      refine m_go (L := [(18, .aload_n 0, 1, 0, 0), (19, .getfield 79, 3, 6, 43), (22, .bipush 8, 2, 0, 0), (24, .aload_n 0, 1, 0, 0), (25, .getfield 321, 3, 6, 41), (28, .imul, 1, 0, 0), (29, .iload_n 3, 1, 0, 0), (30, .iadd, 1, 0, 0), (31, .iconst 0, 1, 0, 0)]) (pc1 := 32) (lv1 := [(0, .ref 7), (1, .int x1), (3, .int x3)]) (st1 := [.int (0 : Int32), .int (((8 : Int32) * (g.1 42)) + x3), .ref 55]) (h1 := hO R g) (by decide +kernel) rfl ?_
      obtain ⟨c11, h⟩ := m_ifn_inv h
      refine m_go1 (q := (32, .iastore, 1, 0, 0)) (pc1 := 33) (lv1 := [(0, .ref 7), (1, .int x1), (3, .int x3)]) (st1 := []) (h1 := hO R (gS g 55 (upd (g.2.1 55) (Int32.toNatClampNeg (((8 : Int32) * (g.1 42)) + x3)) (0 : Int32)))) (by decide +kernel) (if_neg c11) ?_
      refine m_go (L := [(33, .iinc 3 1, 3, 0, 0), (36, .goto (-24), 3, 0, 0)]) (pc1 := 12) (lv1 := [(0, .ref 7), (1, .int x1), (3, .int (x3 + (1 : Int32)))]) (st1 := []) (h1 := hO R (gS g 55 (upd (g.2.1 55) (Int32.toNatClampNeg (((8 : Int32) * (g.1 42)) + x3)) (0 : Int32)))) (by decide +kernel) rfl ?_
      exact m_r0 _ _ _ _ _ _ _ _ _ _ (m_pick [0, 1, 2] rfl) (ih _ _ _ _ _ h)
def f141 (n : Nat) (x1 : Int32) (x2 : Int32) (g : mG) : mZ := if (g.1 42) < 0 ∨ 13 ≤ Int32.toNatClampNeg (g.1 42) then none else f141_12 n n x1 (0 : Int32) (gS g 54 (upd (g.2.1 54) (Int32.toNatClampNeg (g.1 42)) x2))
theorem Fr141 {R : Nat} {x1 : Int32} {x2 : Int32} {g g' : mG} {o : mO} (h : f141 n x1 x2 g = some (o, g')) : m_Run X (1) (m_ko o) 141 0 [(0, .ref 7), (1, .int x1), (2, .int x2)] [] (hO R g) o (hO R g') := by
  unfold f141 at h
  refine m_go (L := [(0, .aload_n 0, 1, 0, 0), (1, .getfield 76, 3, 6, 42), (4, .aload_n 0, 1, 0, 0), (5, .getfield 321, 3, 6, 41), (8, .iload_n 2, 1, 0, 0)]) (pc1 := 9) (lv1 := [(0, .ref 7), (1, .int x1), (2, .int x2)]) (st1 := [.int x2, .int (g.1 42), .ref 54]) (h1 := hO R g) (by decide +kernel) rfl ?_
  obtain ⟨c1, h⟩ := m_ifn_inv h
  refine m_go1 (q := (9, .iastore, 1, 0, 0)) (pc1 := 10) (lv1 := [(0, .ref 7), (1, .int x1), (2, .int x2)]) (st1 := []) (h1 := hO R (gS g 54 (upd (g.2.1 54) (Int32.toNatClampNeg (g.1 42)) x2))) (by decide +kernel) (if_neg c1) ?_
  refine m_go (L := [(10, .iconst 0, 1, 0, 0), (11, .istore_n 3, 1, 0, 0)]) (pc1 := 12) (lv1 := [(0, .ref 7), (1, .int x1), (2, .int x2), (3, .int (0 : Int32))]) (st1 := []) (h1 := hO R (gS g 54 (upd (g.2.1 54) (Int32.toNatClampNeg (g.1 42)) x2))) (by decide +kernel) rfl ?_
  exact m_r0 _ _ _ _ _ _ _ _ _ _ (m_pick [0, 1, 3] rfl) (Fr141_12 _ _ _ _ _ _ h)
def f143 (n : Nat) (x0 : Int32) (g : mG) : mZ := if x0 = 1 then some (.inl (some (.int (1 : Int32))), g) else if x0 = 2 then some (.inl (some (.int (1 : Int32))), g) else if x0 = 7 then some (.inl (some (.int (20 : Int32))), g) else if x0 = 8 then some (.inl (some (.int (10 : Int32))), g) else if x0 = 10 then some (.inl (some (.int (40 : Int32))), g) else if x0 = 12 then some (.inl (some (.int (0 : Int32))), g) else if x0 = 15 then some (.inl (some (.int (0 : Int32))), g) else some (.inl (some (.int (2 : Int32))), g)
theorem Fr143 {R : Nat} {x0 : Int32} {g g' : mG} {o : mO} (h : f143 n x0 g = some (o, g')) : m_Run X (0) (m_ko o) 143 0 [(0, .int x0)] [] (hO R g) o (hO R g') := by
  unfold f143 at h
  refine m_go (L := [(0, .iload_n 0, 1, 0, 0)]) (pc1 := 1) (lv1 := [(0, .int x0)]) (st1 := [.int x0]) (h1 := hO R g) (by decide +kernel) rfl ?_
  by_cases c1 : x0 = 1
  · rw [if_pos c1] at h
    refine m_go1 (q := (1, .tableswitch 88 1 15 #[75, 75, 88, 88, 88, 88, 77, 80, 88, 83, 88, 86, 88, 88, 86], 75, 0, 0)) (pc1 := 76) (lv1 := [(0, .int x0)]) (st1 := []) (h1 := hO R g) (by decide +kernel) (m_swx (fun z => m_loc m_ft X (.tableswitch 88 1 15 #[75, 75, 88, 88, 88, 88, 77, 80, 88, 83, 88, 86, 88, 88, 86]) 0 0 1 [(0, .int x0)] (.int z :: []) (hO R g)) c1 rfl) ?_
    refine m_go (L := [(76, .iconst 1, 1, 0, 0)]) (pc1 := 77) (lv1 := [(0, .int x0)]) (st1 := [.int (1 : Int32)]) (h1 := hO R g) (by decide +kernel) rfl ?_
    cases h
    exact m_ri (by decide +kernel)
  · rw [if_neg c1] at h
    by_cases c2 : x0 = 2
    · rw [if_pos c2] at h
      refine m_go1 (q := (1, .tableswitch 88 1 15 #[75, 75, 88, 88, 88, 88, 77, 80, 88, 83, 88, 86, 88, 88, 86], 75, 0, 0)) (pc1 := 76) (lv1 := [(0, .int x0)]) (st1 := []) (h1 := hO R g) (by decide +kernel) (m_swx (fun z => m_loc m_ft X (.tableswitch 88 1 15 #[75, 75, 88, 88, 88, 88, 77, 80, 88, 83, 88, 86, 88, 88, 86]) 0 0 1 [(0, .int x0)] (.int z :: []) (hO R g)) c2 rfl) ?_
      refine m_go (L := [(76, .iconst 1, 1, 0, 0)]) (pc1 := 77) (lv1 := [(0, .int x0)]) (st1 := [.int (1 : Int32)]) (h1 := hO R g) (by decide +kernel) rfl ?_
      cases h
      exact m_ri (by decide +kernel)
    · rw [if_neg c2] at h
      by_cases c3 : x0 = 7
      · rw [if_pos c3] at h
        refine m_go1 (q := (1, .tableswitch 88 1 15 #[75, 75, 88, 88, 88, 88, 77, 80, 88, 83, 88, 86, 88, 88, 86], 75, 0, 0)) (pc1 := 78) (lv1 := [(0, .int x0)]) (st1 := []) (h1 := hO R g) (by decide +kernel) (m_swx (fun z => m_loc m_ft X (.tableswitch 88 1 15 #[75, 75, 88, 88, 88, 88, 77, 80, 88, 83, 88, 86, 88, 88, 86]) 0 0 1 [(0, .int x0)] (.int z :: []) (hO R g)) c3 rfl) ?_
        refine m_go (L := [(78, .bipush 20, 2, 0, 0)]) (pc1 := 80) (lv1 := [(0, .int x0)]) (st1 := [.int (20 : Int32)]) (h1 := hO R g) (by decide +kernel) rfl ?_
        cases h
        exact m_ri (by decide +kernel)
      · rw [if_neg c3] at h
        by_cases c4 : x0 = 8
        · rw [if_pos c4] at h
          refine m_go1 (q := (1, .tableswitch 88 1 15 #[75, 75, 88, 88, 88, 88, 77, 80, 88, 83, 88, 86, 88, 88, 86], 75, 0, 0)) (pc1 := 81) (lv1 := [(0, .int x0)]) (st1 := []) (h1 := hO R g) (by decide +kernel) (m_swx (fun z => m_loc m_ft X (.tableswitch 88 1 15 #[75, 75, 88, 88, 88, 88, 77, 80, 88, 83, 88, 86, 88, 88, 86]) 0 0 1 [(0, .int x0)] (.int z :: []) (hO R g)) c4 rfl) ?_
          refine m_go (L := [(81, .bipush 10, 2, 0, 0)]) (pc1 := 83) (lv1 := [(0, .int x0)]) (st1 := [.int (10 : Int32)]) (h1 := hO R g) (by decide +kernel) rfl ?_
          cases h
          exact m_ri (by decide +kernel)
        · rw [if_neg c4] at h
          by_cases c5 : x0 = 10
          · rw [if_pos c5] at h
            refine m_go1 (q := (1, .tableswitch 88 1 15 #[75, 75, 88, 88, 88, 88, 77, 80, 88, 83, 88, 86, 88, 88, 86], 75, 0, 0)) (pc1 := 84) (lv1 := [(0, .int x0)]) (st1 := []) (h1 := hO R g) (by decide +kernel) (m_swx (fun z => m_loc m_ft X (.tableswitch 88 1 15 #[75, 75, 88, 88, 88, 88, 77, 80, 88, 83, 88, 86, 88, 88, 86]) 0 0 1 [(0, .int x0)] (.int z :: []) (hO R g)) c5 rfl) ?_
            refine m_go (L := [(84, .bipush 40, 2, 0, 0)]) (pc1 := 86) (lv1 := [(0, .int x0)]) (st1 := [.int (40 : Int32)]) (h1 := hO R g) (by decide +kernel) rfl ?_
            cases h
            exact m_ri (by decide +kernel)
          · rw [if_neg c5] at h
            by_cases c6 : x0 = 12
            · rw [if_pos c6] at h
              refine m_go1 (q := (1, .tableswitch 88 1 15 #[75, 75, 88, 88, 88, 88, 77, 80, 88, 83, 88, 86, 88, 88, 86], 75, 0, 0)) (pc1 := 87) (lv1 := [(0, .int x0)]) (st1 := []) (h1 := hO R g) (by decide +kernel) (m_swx (fun z => m_loc m_ft X (.tableswitch 88 1 15 #[75, 75, 88, 88, 88, 88, 77, 80, 88, 83, 88, 86, 88, 88, 86]) 0 0 1 [(0, .int x0)] (.int z :: []) (hO R g)) c6 rfl) ?_
              refine m_go (L := [(87, .iconst 0, 1, 0, 0)]) (pc1 := 88) (lv1 := [(0, .int x0)]) (st1 := [.int (0 : Int32)]) (h1 := hO R g) (by decide +kernel) rfl ?_
              cases h
              exact m_ri (by decide +kernel)
            · rw [if_neg c6] at h
              by_cases c7 : x0 = 15
              · rw [if_pos c7] at h
                refine m_go1 (q := (1, .tableswitch 88 1 15 #[75, 75, 88, 88, 88, 88, 77, 80, 88, 83, 88, 86, 88, 88, 86], 75, 0, 0)) (pc1 := 87) (lv1 := [(0, .int x0)]) (st1 := []) (h1 := hO R g) (by decide +kernel) (m_swx (fun z => m_loc m_ft X (.tableswitch 88 1 15 #[75, 75, 88, 88, 88, 88, 77, 80, 88, 83, 88, 86, 88, 88, 86]) 0 0 1 [(0, .int x0)] (.int z :: []) (hO R g)) c7 rfl) ?_
                refine m_go (L := [(87, .iconst 0, 1, 0, 0)]) (pc1 := 88) (lv1 := [(0, .int x0)]) (st1 := [.int (0 : Int32)]) (h1 := hO R g) (by decide +kernel) rfl ?_
                cases h
                exact m_ri (by decide +kernel)
              · rw [if_neg c7] at h
                have hx : m_loc m_ft X (.tableswitch 88 1 15 #[75, 75, 88, 88, 88, 88, 77, 80, 88, 83, 88, 86, 88, 88, 86]) 0 0 1 [(0, .int x0)] ([.int x0]) (hO R g) = some (89, [(0, .int x0)], [], hO R g) := by
                  by_cases hz : Int32.toInt x0 < 1 ∨ 15 < Int32.toInt x0
                  · exact if_pos hz
                  · have z0 := m_ne (k := 1) (z := 1) (by decide) c1; have z1 := m_ne (k := 2) (z := 2) (by decide) c2; have z2 := m_ne (k := 7) (z := 7) (by decide) c3; have z3 := m_ne (k := 8) (z := 8) (by decide) c4; have z4 := m_ne (k := 10) (z := 10) (by decide) c5; have z5 := m_ne (k := 12) (z := 12) (by decide) c6; have z6 := m_ne (k := 15) (z := 15) (by decide) c7; have hw : x0 = 3 ∨ x0 = 4 ∨ x0 = 5 ∨ x0 = 6 ∨ x0 = 9 ∨ x0 = 11 ∨ x0 = 13 ∨ x0 = 14 := by
                      have hv : Int32.toInt x0 = 3 ∨ Int32.toInt x0 = 4 ∨ Int32.toInt x0 = 5 ∨ Int32.toInt x0 = 6 ∨ Int32.toInt x0 = 9 ∨ Int32.toInt x0 = 11 ∨ Int32.toInt x0 = 13 ∨ Int32.toInt x0 = 14 := by omega
                      rcases hv with hv | hv | hv | hv | hv | hv | hv | hv
                      · exact Or.inl (Int32.toInt_inj.mp hv)
                      · exact Or.inr (Or.inl (Int32.toInt_inj.mp hv))
                      · exact Or.inr (Or.inr (Or.inl (Int32.toInt_inj.mp hv)))
                      · exact Or.inr (Or.inr (Or.inr (Or.inl (Int32.toInt_inj.mp hv))))
                      · exact Or.inr (Or.inr (Or.inr (Or.inr (Or.inl (Int32.toInt_inj.mp hv)))))
                      · exact Or.inr (Or.inr (Or.inr (Or.inr (Or.inr (Or.inl (Int32.toInt_inj.mp hv))))))
                      · exact Or.inr (Or.inr (Or.inr (Or.inr (Or.inr (Or.inr (Or.inl (Int32.toInt_inj.mp hv)))))))
                      · exact Or.inr (Or.inr (Or.inr (Or.inr (Or.inr (Or.inr (Or.inr (Int32.toInt_inj.mp hv)))))))
                    rcases hw with hw | hw | hw | hw | hw | hw | hw | hw
                    · exact m_swx (fun z => m_loc m_ft X (.tableswitch 88 1 15 #[75, 75, 88, 88, 88, 88, 77, 80, 88, 83, 88, 86, 88, 88, 86]) 0 0 1 [(0, .int x0)] (.int z :: []) (hO R g)) hw rfl
                    · exact m_swx (fun z => m_loc m_ft X (.tableswitch 88 1 15 #[75, 75, 88, 88, 88, 88, 77, 80, 88, 83, 88, 86, 88, 88, 86]) 0 0 1 [(0, .int x0)] (.int z :: []) (hO R g)) hw rfl
                    · exact m_swx (fun z => m_loc m_ft X (.tableswitch 88 1 15 #[75, 75, 88, 88, 88, 88, 77, 80, 88, 83, 88, 86, 88, 88, 86]) 0 0 1 [(0, .int x0)] (.int z :: []) (hO R g)) hw rfl
                    · exact m_swx (fun z => m_loc m_ft X (.tableswitch 88 1 15 #[75, 75, 88, 88, 88, 88, 77, 80, 88, 83, 88, 86, 88, 88, 86]) 0 0 1 [(0, .int x0)] (.int z :: []) (hO R g)) hw rfl
                    · exact m_swx (fun z => m_loc m_ft X (.tableswitch 88 1 15 #[75, 75, 88, 88, 88, 88, 77, 80, 88, 83, 88, 86, 88, 88, 86]) 0 0 1 [(0, .int x0)] (.int z :: []) (hO R g)) hw rfl
                    · exact m_swx (fun z => m_loc m_ft X (.tableswitch 88 1 15 #[75, 75, 88, 88, 88, 88, 77, 80, 88, 83, 88, 86, 88, 88, 86]) 0 0 1 [(0, .int x0)] (.int z :: []) (hO R g)) hw rfl
                    · exact m_swx (fun z => m_loc m_ft X (.tableswitch 88 1 15 #[75, 75, 88, 88, 88, 88, 77, 80, 88, 83, 88, 86, 88, 88, 86]) 0 0 1 [(0, .int x0)] (.int z :: []) (hO R g)) hw rfl
                    · exact m_swx (fun z => m_loc m_ft X (.tableswitch 88 1 15 #[75, 75, 88, 88, 88, 88, 77, 80, 88, 83, 88, 86, 88, 88, 86]) 0 0 1 [(0, .int x0)] (.int z :: []) (hO R g)) hw rfl
                refine m_go1 (q := (1, .tableswitch 88 1 15 #[75, 75, 88, 88, 88, 88, 77, 80, 88, 83, 88, 86, 88, 88, 86], 75, 0, 0)) (by decide +kernel) hx ?_
                refine m_go (L := [(89, .iconst 2, 1, 0, 0)]) (pc1 := 90) (lv1 := [(0, .int x0)]) (st1 := [.int (2 : Int32)]) (h1 := hO R g) (by decide +kernel) rfl ?_
                cases h
                exact m_ri (by decide +kernel)
def f140 (n : Nat) (x1 : Int32) (g : mG) : mZ := if (g.1 41) < 0 ∨ 3000 ≤ Int32.toNatClampNeg (g.1 41) then none else some (.inl none, (gI (gS g 53 (upd (g.2.1 53) (Int32.toNatClampNeg (g.1 41)) x1)) 41 ((g.1 41) + (1 : Int32))))
theorem Fr140 {R : Nat} {x1 : Int32} {g g' : mG} {o : mO} (h : f140 n x1 g = some (o, g')) : m_Run X (0) (m_ko o) 140 0 [(0, .ref 7), (1, .int x1)] [] (hO R g) o (hO R g') := by
  unfold f140 at h
  refine m_go (L := [(0, .aload_n 0, 1, 0, 0), (1, .getfield 73, 3, 6, 39), (4, .aload_n 0, 1, 0, 0), (5, .getfield 311, 3, 6, 40), (8, .iload_n 1, 1, 0, 0)]) (pc1 := 9) (lv1 := [(0, .ref 7), (1, .int x1)]) (st1 := [.int x1, .int (g.1 41), .ref 53]) (h1 := hO R g) (by decide +kernel) rfl ?_
  obtain ⟨c1, h⟩ := m_ifn_inv h
  refine m_go1 (q := (9, .iastore, 1, 0, 0)) (pc1 := 10) (lv1 := [(0, .ref 7), (1, .int x1)]) (st1 := []) (h1 := hO R (gS g 53 (upd (g.2.1 53) (Int32.toNatClampNeg (g.1 41)) x1))) (by decide +kernel) (if_neg c1) ?_
  refine m_go (L := [(10, .aload_n 0, 1, 0, 0), (11, .dup, 1, 0, 0), (12, .getfield 311, 3, 6, 40), (15, .iconst 1, 1, 0, 0), (16, .iadd, 1, 0, 0), (17, .putfield 311, 3, 6, 40)]) (pc1 := 20) (lv1 := [(0, .ref 7), (1, .int x1)]) (st1 := []) (h1 := hO R (gI (gS g 53 (upd (g.2.1 53) (Int32.toNatClampNeg (g.1 41)) x1)) 41 ((g.1 41) + (1 : Int32)))) (by decide +kernel) rfl ?_
  cases h
  exact m_rv (by decide +kernel)
def f146 (n : Nat) (x0 : Int32) (g : mG) : mZ := if x0 = 0 then some (.inl (some (.int (0 : Int32))), g) else some (.inl (some (.int (1 : Int32))), g)
theorem Fr146 {R : Nat} {x0 : Int32} {g g' : mG} {o : mO} (h : f146 n x0 g = some (o, g')) : m_Run X (0) (m_ko o) 146 0 [(0, .int x0)] [] (hO R g) o (hO R g') := by
  unfold f146 at h
  refine m_gob (c := x0 = 0) (t := 8) (f := 4) (L := [(0, .iload_n 0, 1, 0, 0), (1, .ifCond .eq 7, 3, 0, 0)]) (lv1 := [(0, .int x0)]) (st1 := []) (h1 := hO R g) (by decide +kernel) rfl (fun c1 => ?_) (fun c1 => ?_)
  · rw [if_pos c1] at h
    refine m_go (L := [(8, .iconst 0, 1, 0, 0)]) (pc1 := 9) (lv1 := [(0, .int x0)]) (st1 := [.int (0 : Int32)]) (h1 := hO R g) (by decide +kernel) rfl ?_
    cases h
    exact m_ri (by decide +kernel)
  · rw [if_neg c1] at h
    refine m_go (L := [(4, .iconst 1, 1, 0, 0), (5, .goto 4, 3, 0, 0)]) (pc1 := 9) (lv1 := [(0, .int x0)]) (st1 := [.int (1 : Int32)]) (h1 := hO R g) (by decide +kernel) rfl ?_
    cases h
    exact m_ri (by decide +kernel)
def f145_58 (n : Nat) (s0 : Int32) (g : mG) : mZ := m_ci (f146 n s0 g) (fun v4 g3 => some (.inl (some (.int v4)), g3))
theorem Fr145_58 {R : Nat} {s0 : Int32} {g g' : mG} {o : mO} (h : f145_58 n s0 g = some (o, g')) : m_Run X (1) (m_ko o) 145 58 [] [.int s0] (hO R g) o (hO R g') := by
  unfold f145_58 at h
  rcases m_ci_inv h with ⟨v4, g3, e5, h⟩ | ⟨y6, g3, e5, rfl, rfl⟩
  · refine m_ca (q := (58, .invokestatic 317, 3, 146, 1)) (a := 146) (vs := [.int s0]) (st := []) (d1 := 0) (by decide +kernel) rfl rfl rfl rfl (by decide) (Fr146 e5) ?_
    show m_Run X _ _ 145 61 [] [.int v4] (hO R g3) _ _
    cases h
    exact m_ri (by decide +kernel)
  · exact m_cx (q := (58, .invokestatic 317, 3, 146, 1)) (a := 146) (vs := [.int s0]) (st := []) (d1 := 0) (by decide +kernel) (by decide +kernel) rfl rfl rfl rfl (by decide) (Fr146 e5)
def f145_72 (n : Nat) (s0 : Int32) (g : mG) : mZ := m_ci (f146 n s0 g) (fun v10 g9 => some (.inl (some (.int v10)), g9))
theorem Fr145_72 {R : Nat} {s0 : Int32} {g g' : mG} {o : mO} (h : f145_72 n s0 g = some (o, g')) : m_Run X (1) (m_ko o) 145 72 [] [.int s0] (hO R g) o (hO R g') := by
  unfold f145_72 at h
  rcases m_ci_inv h with ⟨v10, g9, e11, h⟩ | ⟨y12, g9, e11, rfl, rfl⟩
  · refine m_ca (q := (72, .invokestatic 317, 3, 146, 1)) (a := 146) (vs := [.int s0]) (st := []) (d1 := 0) (by decide +kernel) rfl rfl rfl rfl (by decide) (Fr146 e11) ?_
    show m_Run X _ _ 145 75 [] [.int v10] (hO R g9) _ _
    cases h
    exact m_ri (by decide +kernel)
  · exact m_cx (q := (72, .invokestatic 317, 3, 146, 1)) (a := 146) (vs := [.int s0]) (st := []) (d1 := 0) (by decide +kernel) (by decide +kernel) rfl rfl rfl rfl (by decide) (Fr146 e11)
def f145_86 (n : Nat) (s0 : Int32) (g : mG) : mZ := m_ci (f146 n s0 g) (fun v16 g15 => some (.inl (some (.int v16)), g15))
theorem Fr145_86 {R : Nat} {s0 : Int32} {g g' : mG} {o : mO} (h : f145_86 n s0 g = some (o, g')) : m_Run X (1) (m_ko o) 145 86 [] [.int s0] (hO R g) o (hO R g') := by
  unfold f145_86 at h
  rcases m_ci_inv h with ⟨v16, g15, e17, h⟩ | ⟨y18, g15, e17, rfl, rfl⟩
  · refine m_ca (q := (86, .invokestatic 317, 3, 146, 1)) (a := 146) (vs := [.int s0]) (st := []) (d1 := 0) (by decide +kernel) rfl rfl rfl rfl (by decide) (Fr146 e17) ?_
    show m_Run X _ _ 145 89 [] [.int v16] (hO R g15) _ _
    cases h
    exact m_ri (by decide +kernel)
  · exact m_cx (q := (86, .invokestatic 317, 3, 146, 1)) (a := 146) (vs := [.int s0]) (st := []) (d1 := 0) (by decide +kernel) (by decide +kernel) rfl rfl rfl rfl (by decide) (Fr146 e17)
def f145_100 (n : Nat) (s0 : Int32) (g : mG) : mZ := m_ci (f146 n s0 g) (fun v22 g21 => some (.inl (some (.int v22)), g21))
theorem Fr145_100 {R : Nat} {s0 : Int32} {g g' : mG} {o : mO} (h : f145_100 n s0 g = some (o, g')) : m_Run X (1) (m_ko o) 145 100 [] [.int s0] (hO R g) o (hO R g') := by
  unfold f145_100 at h
  rcases m_ci_inv h with ⟨v22, g21, e23, h⟩ | ⟨y24, g21, e23, rfl, rfl⟩
  · refine m_ca (q := (100, .invokestatic 317, 3, 146, 1)) (a := 146) (vs := [.int s0]) (st := []) (d1 := 0) (by decide +kernel) rfl rfl rfl rfl (by decide) (Fr146 e23) ?_
    show m_Run X _ _ 145 103 [] [.int v22] (hO R g21) _ _
    cases h
    exact m_ri (by decide +kernel)
  · exact m_cx (q := (100, .invokestatic 317, 3, 146, 1)) (a := 146) (vs := [.int s0]) (st := []) (d1 := 0) (by decide +kernel) (by decide +kernel) rfl rfl rfl rfl (by decide) (Fr146 e23)
def f145 (n : Nat) (x0 : Int32) (x1 : Int32) (x2 : Int32) (g : mG) : mZ := if x0 = 12 then if ¬ x1 = x2 then f145_58 n (0 : Int32) g else f145_58 n (1 : Int32) g else if x0 = 13 then if x1 = x2 then f145_72 n (0 : Int32) g else f145_72 n (1 : Int32) g else if x0 = 14 then if x2 ≤ x1 then f145_86 n (0 : Int32) g else f145_86 n (1 : Int32) g else if x0 = 15 then if x2 < x1 then f145_100 n (0 : Int32) g else f145_100 n (1 : Int32) g else if x0 = 16 then some (.inl (some (.int (x1 + x2))), g) else if x0 = 17 then some (.inl (some (.int (x1 - x2))), g) else if x0 = 18 then some (.inl (some (.int (x1 * x2))), g) else if x0 = 19 then if x2 = 0 then none else some (.inl (some (.int (x1 / x2))), g) else if x2 = 0 then none else some (.inl (some (.int (x1 - x1 / x2 * x2))), g)
theorem Fr145 {R : Nat} {x0 : Int32} {x1 : Int32} {x2 : Int32} {g g' : mG} {o : mO} (h : f145 n x0 x1 x2 g = some (o, g')) : m_Run X (1) (m_ko o) 145 0 [(0, .int x0), (1, .int x1), (2, .int x2)] [] (hO R g) o (hO R g') := by
  unfold f145 at h
  refine m_go (L := [(0, .iload_n 0, 1, 0, 0)]) (pc1 := 1) (lv1 := [(0, .int x0), (1, .int x1), (2, .int x2)]) (st1 := [.int x0]) (h1 := hO R g) (by decide +kernel) rfl ?_
  by_cases c1 : x0 = 12
  · rw [if_pos c1] at h
    refine m_go1 (q := (1, .tableswitch 119 12 19 #[47, 61, 75, 89, 103, 107, 111, 115], 47, 0, 0)) (pc1 := 48) (lv1 := [(0, .int x0), (1, .int x1), (2, .int x2)]) (st1 := []) (h1 := hO R g) (by decide +kernel) (m_swx (fun z => m_loc m_ft X (.tableswitch 119 12 19 #[47, 61, 75, 89, 103, 107, 111, 115]) 0 0 1 [(0, .int x0), (1, .int x1), (2, .int x2)] (.int z :: []) (hO R g)) c1 rfl) ?_
    refine m_gob (c := ¬ x1 = x2) (t := 57) (f := 53) (L := [(48, .iload_n 1, 1, 0, 0), (49, .iload_n 2, 1, 0, 0), (50, .if_icmp .ne 7, 3, 0, 0)]) (lv1 := [(0, .int x0), (1, .int x1), (2, .int x2)]) (st1 := []) (h1 := hO R g) (by decide +kernel) rfl (fun c2 => ?_) (fun c2 => ?_)
    · rw [if_pos c2] at h
      refine m_go (L := [(57, .iconst 0, 1, 0, 0)]) (pc1 := 58) (lv1 := [(0, .int x0), (1, .int x1), (2, .int x2)]) (st1 := [.int (0 : Int32)]) (h1 := hO R g) (by decide +kernel) rfl ?_
      exact m_r0 _ _ _ _ _ _ _ _ _ _ (m_pick [] rfl) (Fr145_58 h)
    · rw [if_neg c2] at h
      refine m_go (L := [(53, .iconst 1, 1, 0, 0), (54, .goto 4, 3, 0, 0)]) (pc1 := 58) (lv1 := [(0, .int x0), (1, .int x1), (2, .int x2)]) (st1 := [.int (1 : Int32)]) (h1 := hO R g) (by decide +kernel) rfl ?_
      exact m_r0 _ _ _ _ _ _ _ _ _ _ (m_pick [] rfl) (Fr145_58 h)
  · rw [if_neg c1] at h
    by_cases c7 : x0 = 13
    · rw [if_pos c7] at h
      refine m_go1 (q := (1, .tableswitch 119 12 19 #[47, 61, 75, 89, 103, 107, 111, 115], 47, 0, 0)) (pc1 := 62) (lv1 := [(0, .int x0), (1, .int x1), (2, .int x2)]) (st1 := []) (h1 := hO R g) (by decide +kernel) (m_swx (fun z => m_loc m_ft X (.tableswitch 119 12 19 #[47, 61, 75, 89, 103, 107, 111, 115]) 0 0 1 [(0, .int x0), (1, .int x1), (2, .int x2)] (.int z :: []) (hO R g)) c7 rfl) ?_
      refine m_gob (c := x1 = x2) (t := 71) (f := 67) (L := [(62, .iload_n 1, 1, 0, 0), (63, .iload_n 2, 1, 0, 0), (64, .if_icmp .eq 7, 3, 0, 0)]) (lv1 := [(0, .int x0), (1, .int x1), (2, .int x2)]) (st1 := []) (h1 := hO R g) (by decide +kernel) rfl (fun c8 => ?_) (fun c8 => ?_)
      · rw [if_pos c8] at h
        refine m_go (L := [(71, .iconst 0, 1, 0, 0)]) (pc1 := 72) (lv1 := [(0, .int x0), (1, .int x1), (2, .int x2)]) (st1 := [.int (0 : Int32)]) (h1 := hO R g) (by decide +kernel) rfl ?_
        exact m_r0 _ _ _ _ _ _ _ _ _ _ (m_pick [] rfl) (Fr145_72 h)
      · rw [if_neg c8] at h
        refine m_go (L := [(67, .iconst 1, 1, 0, 0), (68, .goto 4, 3, 0, 0)]) (pc1 := 72) (lv1 := [(0, .int x0), (1, .int x1), (2, .int x2)]) (st1 := [.int (1 : Int32)]) (h1 := hO R g) (by decide +kernel) rfl ?_
        exact m_r0 _ _ _ _ _ _ _ _ _ _ (m_pick [] rfl) (Fr145_72 h)
    · rw [if_neg c7] at h
      by_cases c13 : x0 = 14
      · rw [if_pos c13] at h
        refine m_go1 (q := (1, .tableswitch 119 12 19 #[47, 61, 75, 89, 103, 107, 111, 115], 47, 0, 0)) (pc1 := 76) (lv1 := [(0, .int x0), (1, .int x1), (2, .int x2)]) (st1 := []) (h1 := hO R g) (by decide +kernel) (m_swx (fun z => m_loc m_ft X (.tableswitch 119 12 19 #[47, 61, 75, 89, 103, 107, 111, 115]) 0 0 1 [(0, .int x0), (1, .int x1), (2, .int x2)] (.int z :: []) (hO R g)) c13 rfl) ?_
        refine m_gob (c := x2 ≤ x1) (t := 85) (f := 81) (L := [(76, .iload_n 1, 1, 0, 0), (77, .iload_n 2, 1, 0, 0), (78, .if_icmp .ge 7, 3, 0, 0)]) (lv1 := [(0, .int x0), (1, .int x1), (2, .int x2)]) (st1 := []) (h1 := hO R g) (by decide +kernel) rfl (fun c14 => ?_) (fun c14 => ?_)
        · rw [if_pos c14] at h
          refine m_go (L := [(85, .iconst 0, 1, 0, 0)]) (pc1 := 86) (lv1 := [(0, .int x0), (1, .int x1), (2, .int x2)]) (st1 := [.int (0 : Int32)]) (h1 := hO R g) (by decide +kernel) rfl ?_
          exact m_r0 _ _ _ _ _ _ _ _ _ _ (m_pick [] rfl) (Fr145_86 h)
        · rw [if_neg c14] at h
          refine m_go (L := [(81, .iconst 1, 1, 0, 0), (82, .goto 4, 3, 0, 0)]) (pc1 := 86) (lv1 := [(0, .int x0), (1, .int x1), (2, .int x2)]) (st1 := [.int (1 : Int32)]) (h1 := hO R g) (by decide +kernel) rfl ?_
          exact m_r0 _ _ _ _ _ _ _ _ _ _ (m_pick [] rfl) (Fr145_86 h)
      · rw [if_neg c13] at h
        by_cases c19 : x0 = 15
        · rw [if_pos c19] at h
          refine m_go1 (q := (1, .tableswitch 119 12 19 #[47, 61, 75, 89, 103, 107, 111, 115], 47, 0, 0)) (pc1 := 90) (lv1 := [(0, .int x0), (1, .int x1), (2, .int x2)]) (st1 := []) (h1 := hO R g) (by decide +kernel) (m_swx (fun z => m_loc m_ft X (.tableswitch 119 12 19 #[47, 61, 75, 89, 103, 107, 111, 115]) 0 0 1 [(0, .int x0), (1, .int x1), (2, .int x2)] (.int z :: []) (hO R g)) c19 rfl) ?_
          refine m_gob (c := x2 < x1) (t := 99) (f := 95) (L := [(90, .iload_n 1, 1, 0, 0), (91, .iload_n 2, 1, 0, 0), (92, .if_icmp .gt 7, 3, 0, 0)]) (lv1 := [(0, .int x0), (1, .int x1), (2, .int x2)]) (st1 := []) (h1 := hO R g) (by decide +kernel) rfl (fun c20 => ?_) (fun c20 => ?_)
          · rw [if_pos c20] at h
            refine m_go (L := [(99, .iconst 0, 1, 0, 0)]) (pc1 := 100) (lv1 := [(0, .int x0), (1, .int x1), (2, .int x2)]) (st1 := [.int (0 : Int32)]) (h1 := hO R g) (by decide +kernel) rfl ?_
            exact m_r0 _ _ _ _ _ _ _ _ _ _ (m_pick [] rfl) (Fr145_100 h)
          · rw [if_neg c20] at h
            refine m_go (L := [(95, .iconst 1, 1, 0, 0), (96, .goto 4, 3, 0, 0)]) (pc1 := 100) (lv1 := [(0, .int x0), (1, .int x1), (2, .int x2)]) (st1 := [.int (1 : Int32)]) (h1 := hO R g) (by decide +kernel) rfl ?_
            exact m_r0 _ _ _ _ _ _ _ _ _ _ (m_pick [] rfl) (Fr145_100 h)
        · rw [if_neg c19] at h
          by_cases c25 : x0 = 16
          · rw [if_pos c25] at h
            refine m_go1 (q := (1, .tableswitch 119 12 19 #[47, 61, 75, 89, 103, 107, 111, 115], 47, 0, 0)) (pc1 := 104) (lv1 := [(0, .int x0), (1, .int x1), (2, .int x2)]) (st1 := []) (h1 := hO R g) (by decide +kernel) (m_swx (fun z => m_loc m_ft X (.tableswitch 119 12 19 #[47, 61, 75, 89, 103, 107, 111, 115]) 0 0 1 [(0, .int x0), (1, .int x1), (2, .int x2)] (.int z :: []) (hO R g)) c25 rfl) ?_
            refine m_go (L := [(104, .iload_n 1, 1, 0, 0), (105, .iload_n 2, 1, 0, 0), (106, .iadd, 1, 0, 0)]) (pc1 := 107) (lv1 := [(0, .int x0), (1, .int x1), (2, .int x2)]) (st1 := [.int (x1 + x2)]) (h1 := hO R g) (by decide +kernel) rfl ?_
            cases h
            exact m_ri (by decide +kernel)
          · rw [if_neg c25] at h
            by_cases c26 : x0 = 17
            · rw [if_pos c26] at h
              refine m_go1 (q := (1, .tableswitch 119 12 19 #[47, 61, 75, 89, 103, 107, 111, 115], 47, 0, 0)) (pc1 := 108) (lv1 := [(0, .int x0), (1, .int x1), (2, .int x2)]) (st1 := []) (h1 := hO R g) (by decide +kernel) (m_swx (fun z => m_loc m_ft X (.tableswitch 119 12 19 #[47, 61, 75, 89, 103, 107, 111, 115]) 0 0 1 [(0, .int x0), (1, .int x1), (2, .int x2)] (.int z :: []) (hO R g)) c26 rfl) ?_
              refine m_go (L := [(108, .iload_n 1, 1, 0, 0), (109, .iload_n 2, 1, 0, 0), (110, .isub, 1, 0, 0)]) (pc1 := 111) (lv1 := [(0, .int x0), (1, .int x1), (2, .int x2)]) (st1 := [.int (x1 - x2)]) (h1 := hO R g) (by decide +kernel) rfl ?_
              cases h
              exact m_ri (by decide +kernel)
            · rw [if_neg c26] at h
              by_cases c27 : x0 = 18
              · rw [if_pos c27] at h
                refine m_go1 (q := (1, .tableswitch 119 12 19 #[47, 61, 75, 89, 103, 107, 111, 115], 47, 0, 0)) (pc1 := 112) (lv1 := [(0, .int x0), (1, .int x1), (2, .int x2)]) (st1 := []) (h1 := hO R g) (by decide +kernel) (m_swx (fun z => m_loc m_ft X (.tableswitch 119 12 19 #[47, 61, 75, 89, 103, 107, 111, 115]) 0 0 1 [(0, .int x0), (1, .int x1), (2, .int x2)] (.int z :: []) (hO R g)) c27 rfl) ?_
                refine m_go (L := [(112, .iload_n 1, 1, 0, 0), (113, .iload_n 2, 1, 0, 0), (114, .imul, 1, 0, 0)]) (pc1 := 115) (lv1 := [(0, .int x0), (1, .int x1), (2, .int x2)]) (st1 := [.int (x1 * x2)]) (h1 := hO R g) (by decide +kernel) rfl ?_
                cases h
                exact m_ri (by decide +kernel)
              · rw [if_neg c27] at h
                by_cases c28 : x0 = 19
                · rw [if_pos c28] at h
                  refine m_go1 (q := (1, .tableswitch 119 12 19 #[47, 61, 75, 89, 103, 107, 111, 115], 47, 0, 0)) (pc1 := 116) (lv1 := [(0, .int x0), (1, .int x1), (2, .int x2)]) (st1 := []) (h1 := hO R g) (by decide +kernel) (m_swx (fun z => m_loc m_ft X (.tableswitch 119 12 19 #[47, 61, 75, 89, 103, 107, 111, 115]) 0 0 1 [(0, .int x0), (1, .int x1), (2, .int x2)] (.int z :: []) (hO R g)) c28 rfl) ?_
                  refine m_go (L := [(116, .iload_n 1, 1, 0, 0), (117, .iload_n 2, 1, 0, 0)]) (pc1 := 118) (lv1 := [(0, .int x0), (1, .int x1), (2, .int x2)]) (st1 := [.int x2, .int x1]) (h1 := hO R g) (by decide +kernel) rfl ?_
                  obtain ⟨c29, h⟩ := m_ifn_inv h
                  refine m_go1 (q := (118, .idiv, 1, 0, 0)) (pc1 := 119) (lv1 := [(0, .int x0), (1, .int x1), (2, .int x2)]) (st1 := [.int (x1 / x2)]) (h1 := hO R g) (by decide +kernel) (if_neg c29) ?_
                  cases h
                  exact m_ri (by decide +kernel)
                · rw [if_neg c28] at h
                  have hx : m_loc m_ft X (.tableswitch 119 12 19 #[47, 61, 75, 89, 103, 107, 111, 115]) 0 0 1 [(0, .int x0), (1, .int x1), (2, .int x2)] ([.int x0]) (hO R g) = some (120, [(0, .int x0), (1, .int x1), (2, .int x2)], [], hO R g) := by
                    by_cases hz : Int32.toInt x0 < 12 ∨ 19 < Int32.toInt x0
                    · exact if_pos hz
                    · exfalso; have z0 := m_ne (k := 12) (z := 12) (by decide) c1; have z1 := m_ne (k := 13) (z := 13) (by decide) c7; have z2 := m_ne (k := 14) (z := 14) (by decide) c13; have z3 := m_ne (k := 15) (z := 15) (by decide) c19; have z4 := m_ne (k := 16) (z := 16) (by decide) c25; have z5 := m_ne (k := 17) (z := 17) (by decide) c26; have z6 := m_ne (k := 18) (z := 18) (by decide) c27; have z7 := m_ne (k := 19) (z := 19) (by decide) c28; omega
                  refine m_go1 (q := (1, .tableswitch 119 12 19 #[47, 61, 75, 89, 103, 107, 111, 115], 47, 0, 0)) (by decide +kernel) hx ?_
                  refine m_go (L := [(120, .iload_n 1, 1, 0, 0), (121, .iload_n 2, 1, 0, 0)]) (pc1 := 122) (lv1 := [(0, .int x0), (1, .int x1), (2, .int x2)]) (st1 := [.int x2, .int x1]) (h1 := hO R g) (by decide +kernel) rfl ?_
                  obtain ⟨c30, h⟩ := m_ifn_inv h
                  refine m_go1 (q := (122, .irem, 1, 0, 0)) (pc1 := 123) (lv1 := [(0, .int x0), (1, .int x1), (2, .int x2)]) (st1 := [.int (x1 - x1 / x2 * x2)]) (h1 := hO R g) (by decide +kernel) (if_neg c30) ?_
                  cases h
                  exact m_ri (by decide +kernel)
def f147_125 (n : Nat) (x1 : Int32) (x2 : Int32) (x3 : Int32) (s1 : Int32) (g : mG) : mZ := if x3 < 0 ∨ 32 ≤ Int32.toNatClampNeg x3 then none else if x3 < 0 ∨ 32 ≤ Int32.toNatClampNeg x3 then none else some (.inl (some (.int (1 : Int32))), (gS (gS (gI g 39 s1) 49 (upd (g.2.1 49) (Int32.toNatClampNeg x3) x1)) 50 (upd (g.2.1 50) (Int32.toNatClampNeg x3) x2)))
theorem Fr147_125 {R : Nat} {x1 : Int32} {x2 : Int32} {x3 : Int32} {s1 : Int32} {g g' : mG} {o : mO} (h : f147_125 n x1 x2 x3 s1 g = some (o, g')) : m_Run X (0) (m_ko o) 147 125 [(0, .ref 7), (1, .int x1), (2, .int x2), (3, .int x3)] [.int s1, .ref 7] (hO R g) o (hO R g') := by
  unfold f147_125 at h
  refine m_go (L := [(125, .putfield 314, 3, 6, 32), (128, .aload_n 0, 1, 0, 0), (129, .getfield 61, 3, 6, 33), (132, .iload_n 3, 1, 0, 0), (133, .iload_n 1, 1, 0, 0)]) (pc1 := 134) (lv1 := [(0, .ref 7), (1, .int x1), (2, .int x2), (3, .int x3)]) (st1 := [.int x1, .int x3, .ref 49]) (h1 := hO R (gI g 39 s1)) (by decide +kernel) rfl ?_
  obtain ⟨c5, h⟩ := m_ifn_inv h
  refine m_go1 (q := (134, .iastore, 1, 0, 0)) (pc1 := 135) (lv1 := [(0, .ref 7), (1, .int x1), (2, .int x2), (3, .int x3)]) (st1 := []) (h1 := hO R (gS (gI g 39 s1) 49 (upd (g.2.1 49) (Int32.toNatClampNeg x3) x1))) (by decide +kernel) (if_neg c5) ?_
  refine m_go (L := [(135, .aload_n 0, 1, 0, 0), (136, .getfield 64, 3, 6, 34), (139, .iload_n 3, 1, 0, 0), (140, .iload_n 2, 1, 0, 0)]) (pc1 := 141) (lv1 := [(0, .ref 7), (1, .int x1), (2, .int x2), (3, .int x3)]) (st1 := [.int x2, .int x3, .ref 50]) (h1 := hO R (gS (gI g 39 s1) 49 (upd (g.2.1 49) (Int32.toNatClampNeg x3) x1))) (by decide +kernel) rfl ?_
  obtain ⟨c6, h⟩ := m_ifn_inv h
  refine m_go1 (q := (141, .iastore, 1, 0, 0)) (pc1 := 142) (lv1 := [(0, .ref 7), (1, .int x1), (2, .int x2), (3, .int x3)]) (st1 := []) (h1 := hO R (gS (gS (gI g 39 s1) 49 (upd (g.2.1 49) (Int32.toNatClampNeg x3) x1)) 50 (upd (g.2.1 50) (Int32.toNatClampNeg x3) x2))) (by decide +kernel) (if_neg c6) ?_
  refine m_go (L := [(142, .iconst 1, 1, 0, 0)]) (pc1 := 143) (lv1 := [(0, .ref 7), (1, .int x1), (2, .int x2), (3, .int x3)]) (st1 := [.int (1 : Int32)]) (h1 := hO R (gS (gS (gI g 39 s1) 49 (upd (g.2.1 49) (Int32.toNatClampNeg x3) x1)) 50 (upd (g.2.1 50) (Int32.toNatClampNeg x3) x2))) (by decide +kernel) rfl ?_
  cases h
  exact m_rz (by decide +kernel) (Or.inr rfl)
def f147_8 (n : Nat) : Nat → Int32 → Int32 → Int32 → Int32 → mG → mZ
  | 0, _, _, _, _, _ => none
  | c + 1, x1, x2, x3, x4, g => if (g.1 39) ≤ x4 then if ¬ x2 = 0 then if ¬ x3 = (32 : Int32) then if ¬ x3 = (g.1 39) then f147_125 n x1 x2 x3 (g.1 39) g else f147_125 n x1 x2 x3 ((g.1 39) + (1 : Int32)) g else some (.inl (some (.int (0 : Int32))), g) else if (g.1 39) ≤ x3 then some (.inl (some (.int (1 : Int32))), g) else if ((g.1 39) - (1 : Int32)) < 0 ∨ 32 ≤ Int32.toNatClampNeg ((g.1 39) - (1 : Int32)) then none else if x3 < 0 ∨ 32 ≤ Int32.toNatClampNeg x3 then none else if ((g.1 39) - (1 : Int32)) < 0 ∨ 32 ≤ Int32.toNatClampNeg ((g.1 39) - (1 : Int32)) then none else if x3 < 0 ∨ 32 ≤ Int32.toNatClampNeg x3 then none else some (.inl (some (.int (1 : Int32))), (gS (gS (gI g 39 ((g.1 39) - (1 : Int32))) 49 (upd (g.2.1 49) (Int32.toNatClampNeg x3) ((g.2.1 49) (Int32.toNatClampNeg ((g.1 39) - (1 : Int32)))))) 50 (upd (g.2.1 50) (Int32.toNatClampNeg x3) ((g.2.1 50) (Int32.toNatClampNeg ((g.1 39) - (1 : Int32))))))) else if x4 < 0 ∨ 32 ≤ Int32.toNatClampNeg x4 then none else if ¬ ((g.2.1 49) (Int32.toNatClampNeg x4)) = x1 then f147_8 n c x1 x2 x3 (x4 + (1 : Int32)) g else f147_8 n c x1 x2 x4 (x4 + (1 : Int32)) g
set_option maxRecDepth 20000 in
theorem Fr147_8 {R : Nat} : ∀ (c : Nat) (x1 : Int32) (x2 : Int32) (x3 : Int32) (x4 : Int32) (g g' : mG) (o : mO), f147_8 n c x1 x2 x3 x4 g = some (o, g') → m_Run X (0) (m_ko o) 147 8 [(0, .ref 7), (1, .int x1), (2, .int x2), (3, .int x3), (4, .int x4)] [] (hO R g) o (hO R g') := by
  intro c
  induction c with
  | zero => intro x1 x2 x3 x4 g g' o h; rw [f147_8] at h; cases h
  | succ c ih =>
    intro x1 x2 x3 x4 g g' o h
    rw [f147_8] at h
    refine m_gob (c := (g.1 39) ≤ x4) (t := 41) (f := 17) (L := [(8, .iload 4, 2, 0, 0), (10, .aload_n 0, 1, 0, 0), (11, .getfield 314, 3, 6, 32), (14, .if_icmp .ge 27, 3, 0, 0)]) (lv1 := [(0, .ref 7), (1, .int x1), (2, .int x2), (3, .int x3), (4, .int x4)]) (st1 := []) (h1 := hO R g) (by decide +kernel) rfl (fun c1 => ?_) (fun c1 => ?_)
    · rw [if_pos c1] at h
      refine m_gob (c := ¬ x2 = 0) (t := 95) (f := 45) (L := [(41, .iload_n 2, 1, 0, 0), (42, .ifCond .ne 53, 3, 0, 0)]) (lv1 := [(0, .ref 7), (1, .int x1), (2, .int x2), (3, .int x3), (4, .int x4)]) (st1 := []) (h1 := hO R g) (by decide +kernel) rfl (fun c2 => ?_) (fun c2 => ?_)
      · rw [if_pos c2] at h
        refine m_gob (c := ¬ x3 = (32 : Int32)) (t := 103) (f := 101) (L := [(95, .iload_n 3, 1, 0, 0), (96, .bipush 32, 2, 0, 0), (98, .if_icmp .ne 5, 3, 0, 0)]) (lv1 := [(0, .ref 7), (1, .int x1), (2, .int x2), (3, .int x3), (4, .int x4)]) (st1 := []) (h1 := hO R g) (by decide +kernel) rfl (fun c3 => ?_) (fun c3 => ?_)
        · rw [if_pos c3] at h
          refine m_gob (c := ¬ x3 = (g.1 39)) (t := 121) (f := 112) (L := [(103, .aload_n 0, 1, 0, 0), (104, .iload_n 3, 1, 0, 0), (105, .aload_n 0, 1, 0, 0), (106, .getfield 314, 3, 6, 32), (109, .if_icmp .ne 12, 3, 0, 0)]) (lv1 := [(0, .ref 7), (1, .int x1), (2, .int x2), (3, .int x3), (4, .int x4)]) (st1 := [.ref 7]) (h1 := hO R g) (by decide +kernel) rfl (fun c4 => ?_) (fun c4 => ?_)
          · rw [if_pos c4] at h
            refine m_go (L := [(121, .aload_n 0, 1, 0, 0), (122, .getfield 314, 3, 6, 32)]) (pc1 := 125) (lv1 := [(0, .ref 7), (1, .int x1), (2, .int x2), (3, .int x3), (4, .int x4)]) (st1 := [.int (g.1 39), .ref 7]) (h1 := hO R g) (by decide +kernel) rfl ?_
            exact m_r0 _ _ _ _ _ _ _ _ _ _ (m_pick [0, 1, 2, 3] rfl) (Fr147_125 h)
          · rw [if_neg c4] at h
            refine m_go (L := [(112, .aload_n 0, 1, 0, 0), (113, .getfield 314, 3, 6, 32), (116, .iconst 1, 1, 0, 0), (117, .iadd, 1, 0, 0), (118, .goto 7, 3, 0, 0)]) (pc1 := 125) (lv1 := [(0, .ref 7), (1, .int x1), (2, .int x2), (3, .int x3), (4, .int x4)]) (st1 := [.int ((g.1 39) + (1 : Int32)), .ref 7]) (h1 := hO R g) (by decide +kernel) rfl ?_
            exact m_r0 _ _ _ _ _ _ _ _ _ _ (m_pick [0, 1, 2, 3] rfl) (Fr147_125 h)
        · rw [if_neg c3] at h
          refine m_go (L := [(101, .iconst 0, 1, 0, 0)]) (pc1 := 102) (lv1 := [(0, .ref 7), (1, .int x1), (2, .int x2), (3, .int x3), (4, .int x4)]) (st1 := [.int (0 : Int32)]) (h1 := hO R g) (by decide +kernel) rfl ?_
          cases h
          exact m_rz (by decide +kernel) (Or.inl rfl)
      · rw [if_neg c2] at h
        refine m_gob (c := (g.1 39) ≤ x3) (t := 93) (f := 53) (L := [(45, .iload_n 3, 1, 0, 0), (46, .aload_n 0, 1, 0, 0), (47, .getfield 314, 3, 6, 32), (50, .if_icmp .ge 43, 3, 0, 0)]) (lv1 := [(0, .ref 7), (1, .int x1), (2, .int x2), (3, .int x3), (4, .int x4)]) (st1 := []) (h1 := hO R g) (by decide +kernel) rfl (fun c7 => ?_) (fun c7 => ?_)
        · rw [if_pos c7] at h
          refine m_go (L := [(93, .iconst 1, 1, 0, 0)]) (pc1 := 94) (lv1 := [(0, .ref 7), (1, .int x1), (2, .int x2), (3, .int x3), (4, .int x4)]) (st1 := [.int (1 : Int32)]) (h1 := hO R g) (by decide +kernel) rfl ?_
          cases h
          exact m_rz (by decide +kernel) (Or.inr rfl)
        · rw [if_neg c7] at h
          refine m_go (L := [(53, .aload_n 0, 1, 0, 0), (54, .dup, 1, 0, 0), (55, .getfield 314, 3, 6, 32), (58, .iconst 1, 1, 0, 0), (59, .isub, 1, 0, 0), (60, .putfield 314, 3, 6, 32), (63, .aload_n 0, 1, 0, 0), (64, .getfield 61, 3, 6, 33), (67, .iload_n 3, 1, 0, 0), (68, .aload_n 0, 1, 0, 0), (69, .getfield 61, 3, 6, 33), (72, .aload_n 0, 1, 0, 0), (73, .getfield 314, 3, 6, 32)]) (pc1 := 76) (lv1 := [(0, .ref 7), (1, .int x1), (2, .int x2), (3, .int x3), (4, .int x4)]) (st1 := [.int ((g.1 39) - (1 : Int32)), .ref 49, .int x3, .ref 49]) (h1 := hO R (gI g 39 ((g.1 39) - (1 : Int32)))) (by decide +kernel) rfl ?_
          obtain ⟨c8, h⟩ := m_ifn_inv h
          refine m_go1 (q := (76, .iaload, 1, 0, 0)) (pc1 := 77) (lv1 := [(0, .ref 7), (1, .int x1), (2, .int x2), (3, .int x3), (4, .int x4)]) (st1 := [.int ((g.2.1 49) (Int32.toNatClampNeg ((g.1 39) - (1 : Int32)))), .int x3, .ref 49]) (h1 := hO R (gI g 39 ((g.1 39) - (1 : Int32)))) (by decide +kernel) (if_neg c8) ?_
          obtain ⟨c9, h⟩ := m_ifn_inv h
          refine m_go1 (q := (77, .iastore, 1, 0, 0)) (pc1 := 78) (lv1 := [(0, .ref 7), (1, .int x1), (2, .int x2), (3, .int x3), (4, .int x4)]) (st1 := []) (h1 := hO R (gS (gI g 39 ((g.1 39) - (1 : Int32))) 49 (upd (g.2.1 49) (Int32.toNatClampNeg x3) ((g.2.1 49) (Int32.toNatClampNeg ((g.1 39) - (1 : Int32))))))) (by decide +kernel) (if_neg c9) ?_
          refine m_go (L := [(78, .aload_n 0, 1, 0, 0), (79, .getfield 64, 3, 6, 34), (82, .iload_n 3, 1, 0, 0), (83, .aload_n 0, 1, 0, 0), (84, .getfield 64, 3, 6, 34), (87, .aload_n 0, 1, 0, 0), (88, .getfield 314, 3, 6, 32)]) (pc1 := 91) (lv1 := [(0, .ref 7), (1, .int x1), (2, .int x2), (3, .int x3), (4, .int x4)]) (st1 := [.int ((g.1 39) - (1 : Int32)), .ref 50, .int x3, .ref 50]) (h1 := hO R (gS (gI g 39 ((g.1 39) - (1 : Int32))) 49 (upd (g.2.1 49) (Int32.toNatClampNeg x3) ((g.2.1 49) (Int32.toNatClampNeg ((g.1 39) - (1 : Int32))))))) (by decide +kernel) rfl ?_
          obtain ⟨c10, h⟩ := m_ifn_inv h
          refine m_go1 (q := (91, .iaload, 1, 0, 0)) (pc1 := 92) (lv1 := [(0, .ref 7), (1, .int x1), (2, .int x2), (3, .int x3), (4, .int x4)]) (st1 := [.int ((g.2.1 50) (Int32.toNatClampNeg ((g.1 39) - (1 : Int32)))), .int x3, .ref 50]) (h1 := hO R (gS (gI g 39 ((g.1 39) - (1 : Int32))) 49 (upd (g.2.1 49) (Int32.toNatClampNeg x3) ((g.2.1 49) (Int32.toNatClampNeg ((g.1 39) - (1 : Int32))))))) (by decide +kernel) (if_neg c10) ?_
          obtain ⟨c11, h⟩ := m_ifn_inv h
          refine m_go1 (q := (92, .iastore, 1, 0, 0)) (pc1 := 93) (lv1 := [(0, .ref 7), (1, .int x1), (2, .int x2), (3, .int x3), (4, .int x4)]) (st1 := []) (h1 := hO R (gS (gS (gI g 39 ((g.1 39) - (1 : Int32))) 49 (upd (g.2.1 49) (Int32.toNatClampNeg x3) ((g.2.1 49) (Int32.toNatClampNeg ((g.1 39) - (1 : Int32)))))) 50 (upd (g.2.1 50) (Int32.toNatClampNeg x3) ((g.2.1 50) (Int32.toNatClampNeg ((g.1 39) - (1 : Int32))))))) (by decide +kernel) (if_neg c11) ?_
          refine m_go (L := [(93, .iconst 1, 1, 0, 0)]) (pc1 := 94) (lv1 := [(0, .ref 7), (1, .int x1), (2, .int x2), (3, .int x3), (4, .int x4)]) (st1 := [.int (1 : Int32)]) (h1 := hO R (gS (gS (gI g 39 ((g.1 39) - (1 : Int32))) 49 (upd (g.2.1 49) (Int32.toNatClampNeg x3) ((g.2.1 49) (Int32.toNatClampNeg ((g.1 39) - (1 : Int32)))))) 50 (upd (g.2.1 50) (Int32.toNatClampNeg x3) ((g.2.1 50) (Int32.toNatClampNeg ((g.1 39) - (1 : Int32))))))) (by decide +kernel) rfl ?_
          cases h
          exact m_rz (by decide +kernel) (Or.inr rfl)
    · rw [if_neg c1] at h
      refine m_go (L := [(17, .aload_n 0, 1, 0, 0), (18, .getfield 61, 3, 6, 33), (21, .iload 4, 2, 0, 0)]) (pc1 := 23) (lv1 := [(0, .ref 7), (1, .int x1), (2, .int x2), (3, .int x3), (4, .int x4)]) (st1 := [.int x4, .ref 49]) (h1 := hO R g) (by decide +kernel) rfl ?_
      obtain ⟨c12, h⟩ := m_ifn_inv h
      refine m_go1 (q := (23, .iaload, 1, 0, 0)) (pc1 := 24) (lv1 := [(0, .ref 7), (1, .int x1), (2, .int x2), (3, .int x3), (4, .int x4)]) (st1 := [.int ((g.2.1 49) (Int32.toNatClampNeg x4))]) (h1 := hO R g) (by decide +kernel) (if_neg c12) ?_
      refine m_gob (c := ¬ ((g.2.1 49) (Int32.toNatClampNeg x4)) = x1) (t := 33) (f := 28) (L := [(24, .iload_n 1, 1, 0, 0), (25, .if_icmp .ne 8, 3, 0, 0)]) (lv1 := [(0, .ref 7), (1, .int x1), (2, .int x2), (3, .int x3), (4, .int x4)]) (st1 := []) (h1 := hO R g) (by decide +kernel) rfl (fun c13 => ?_) (fun c13 => ?_)
      · rw [if_pos c13] at h
        refine m_go (L := [(33, .iload_n 3, 1, 0, 0), (34, .istore_n 3, 1, 0, 0), (35, .iinc 4 1, 3, 0, 0), (38, .goto (-30), 3, 0, 0)]) (pc1 := 8) (lv1 := [(0, .ref 7), (1, .int x1), (2, .int x2), (3, .int x3), (4, .int (x4 + (1 : Int32)))]) (st1 := []) (h1 := hO R g) (by decide +kernel) rfl ?_
        exact m_r0 _ _ _ _ _ _ _ _ _ _ (m_pick [0, 1, 2, 3, 4] rfl) (ih _ _ _ _ _ _ _ h)
      · rw [if_neg c13] at h
        refine m_go (L := [(28, .iload 4, 2, 0, 0), (30, .goto 4, 3, 0, 0), (34, .istore_n 3, 1, 0, 0), (35, .iinc 4 1, 3, 0, 0), (38, .goto (-30), 3, 0, 0)]) (pc1 := 8) (lv1 := [(0, .ref 7), (1, .int x1), (2, .int x2), (3, .int x4), (4, .int (x4 + (1 : Int32)))]) (st1 := []) (h1 := hO R g) (by decide +kernel) rfl ?_
        exact m_r0 _ _ _ _ _ _ _ _ _ _ (m_pick [0, 1, 2, 3, 4] rfl) (ih _ _ _ _ _ _ _ h)
def f147 (n : Nat) (x1 : Int32) (x2 : Int32) (g : mG) : mZ := f147_8 n n x1 x2 (g.1 39) (0 : Int32) g
theorem Fr147 {R : Nat} {x1 : Int32} {x2 : Int32} {g g' : mG} {o : mO} (h : f147 n x1 x2 g = some (o, g')) : m_Run X (0) (m_ko o) 147 0 [(0, .ref 7), (1, .int x1), (2, .int x2)] [] (hO R g) o (hO R g') := by
  unfold f147 at h
  refine m_go (L := [(0, .aload_n 0, 1, 0, 0), (1, .getfield 314, 3, 6, 32), (4, .istore_n 3, 1, 0, 0), (5, .iconst 0, 1, 0, 0), (6, .istore 4, 2, 0, 0)]) (pc1 := 8) (lv1 := [(0, .ref 7), (1, .int x1), (2, .int x2), (3, .int (g.1 39)), (4, .int (0 : Int32))]) (st1 := []) (h1 := hO R g) (by decide +kernel) rfl ?_
  exact m_r0 _ _ _ _ _ _ _ _ _ _ (m_pick [0, 1, 2, 3, 4] rfl) (Fr147_8 _ _ _ _ _ _ _ _ h)
def f148_14 (n : Nat) (s0 : Int32) (g : mG) : mZ := m_cv (f140 n s0 (gI g 42 ((g.1 42) - (1 : Int32)))) (fun g2 => if (g2.1 42) < 0 ∨ 13 ≤ Int32.toNatClampNeg (g2.1 42) then none else some (.inl (some (.int ((g2.2.1 54) (Int32.toNatClampNeg (g2.1 42))))), g2))
theorem Fr148_14 {R : Nat} {s0 : Int32} {g g' : mG} {o : mO} (h : f148_14 n s0 g = some (o, g')) : m_Run X (1) (m_ko o) 148 14 [(0, .ref 7)] [.int s0] (hO R g) o (hO R g') := by
  unfold f148_14 at h
  refine m_go (L := [(14, .istore_n 2, 1, 0, 0), (15, .aload_n 0, 1, 0, 0), (16, .dup, 1, 0, 0), (17, .getfield 321, 3, 6, 41), (20, .iconst 1, 1, 0, 0), (21, .isub, 1, 0, 0), (22, .putfield 321, 3, 6, 41), (25, .aload_n 0, 1, 0, 0), (26, .iload_n 2, 1, 0, 0)]) (pc1 := 27) (lv1 := [(0, .ref 7), (2, .int s0)]) (st1 := [.int s0, .ref 7]) (h1 := hO R (gI g 42 ((g.1 42) - (1 : Int32)))) (by decide +kernel) rfl ?_
  rcases m_cv_inv h with ⟨g2, e4, h⟩ | ⟨y5, g2, e4, rfl, rfl⟩
  · refine m_ca (q := (27, .invokevirtual 327, 3, 140, 1)) (a := 140) (vs := [.ref 7, .int s0]) (st := []) (d1 := 0) (by decide +kernel) rfl rfl rfl rfl (by decide) (Fr140 e4) ?_
    show m_Run X _ _ 148 30 [(0, .ref 7), (2, .int s0)] [] (hO R g2) _ _
    refine m_go (L := [(30, .aload_n 0, 1, 0, 0), (31, .getfield 76, 3, 6, 42), (34, .aload_n 0, 1, 0, 0), (35, .getfield 321, 3, 6, 41)]) (pc1 := 38) (lv1 := [(0, .ref 7), (2, .int s0)]) (st1 := [.int (g2.1 42), .ref 54]) (h1 := hO R g2) (by decide +kernel) rfl ?_
    obtain ⟨c6, h⟩ := m_ifn_inv h
    refine m_go1 (q := (38, .iaload, 1, 0, 0)) (pc1 := 39) (lv1 := [(0, .ref 7), (2, .int s0)]) (st1 := [.int ((g2.2.1 54) (Int32.toNatClampNeg (g2.1 42)))]) (h1 := hO R g2) (by decide +kernel) (if_neg c6) ?_
    cases h
    exact m_ri (by decide +kernel)
  · exact m_cx (q := (27, .invokevirtual 327, 3, 140, 1)) (a := 140) (vs := [.ref 7, .int s0]) (st := []) (d1 := 0) (by decide +kernel) (by decide +kernel) rfl rfl rfl rfl (by decide) (Fr140 e4)
def f148 (n : Nat) (x1 : Int32) (g : mG) : mZ := if ¬ x1 = (13 : Int32) then f148_14 n (0 : Int32) g else m_ci (f142 n g) (fun v8 g7 => f148_14 n v8 g7)
theorem Fr148 {R : Nat} {x1 : Int32} {g g' : mG} {o : mO} (h : f148 n x1 g = some (o, g')) : m_Run X (1) (m_ko o) 148 0 [(0, .ref 7), (1, .int x1)] [] (hO R g) o (hO R g') := by
  unfold f148 at h
  refine m_gob (c := ¬ x1 = (13 : Int32)) (t := 13) (f := 6) (L := [(0, .iload_n 1, 1, 0, 0), (1, .bipush 13, 2, 0, 0), (3, .if_icmp .ne 10, 3, 0, 0)]) (lv1 := [(0, .ref 7), (1, .int x1)]) (st1 := []) (h1 := hO R g) (by decide +kernel) rfl (fun c1 => ?_) (fun c1 => ?_)
  · rw [if_pos c1] at h
    refine m_go (L := [(13, .iconst 0, 1, 0, 0)]) (pc1 := 14) (lv1 := [(0, .ref 7), (1, .int x1)]) (st1 := [.int (0 : Int32)]) (h1 := hO R g) (by decide +kernel) rfl ?_
    exact m_r0 _ _ _ _ _ _ _ _ _ _ (m_pick [0] rfl) (Fr148_14 h)
  · rw [if_neg c1] at h
    refine m_go (L := [(6, .aload_n 0, 1, 0, 0)]) (pc1 := 7) (lv1 := [(0, .ref 7), (1, .int x1)]) (st1 := [.ref 7]) (h1 := hO R g) (by decide +kernel) rfl ?_
    rcases m_ci_inv h with ⟨v8, g7, e9, h⟩ | ⟨y10, g7, e9, rfl, rfl⟩
    · refine m_ca (q := (7, .invokevirtual 324, 3, 142, 0)) (a := 142) (vs := [.ref 7]) (st := []) (d1 := 0) (by decide +kernel) rfl rfl rfl rfl (by decide) (Fr142 e9) ?_
      show m_Run X _ _ 148 10 [(0, .ref 7), (1, .int x1)] [.int v8] (hO R g7) _ _
      refine m_go (L := [(10, .goto 4, 3, 0, 0)]) (pc1 := 14) (lv1 := [(0, .ref 7), (1, .int x1)]) (st1 := [.int v8]) (h1 := hO R g7) (by decide +kernel) rfl ?_
      exact m_r0 _ _ _ _ _ _ _ _ _ _ (m_pick [0] rfl) (Fr148_14 h)
    · exact m_cx (q := (7, .invokevirtual 324, 3, 142, 0)) (a := 142) (vs := [.ref 7]) (st := []) (d1 := 0) (by decide +kernel) (by decide +kernel) rfl rfl rfl rfl (by decide) (Fr142 e9)
def f144_143 (n : Nat) (x1 : Int32) (s1 : Int32) (g : mG) : mZ := m_cv (f140 n s1 g) (fun g20 => some (.inl (some (.int (x1 + (1 : Int32)))), g20))
theorem Fr144_143 {R : Nat} {x1 : Int32} {s1 : Int32} {g g' : mG} {o : mO} (h : f144_143 n x1 s1 g = some (o, g')) : m_Run X (2) (m_ko o) 144 143 [(1, .int x1)] [.int s1, .ref 7] (hO R g) o (hO R g') := by
  unfold f144_143 at h
  rcases m_cv_inv h with ⟨g20, e22, h⟩ | ⟨y23, g20, e22, rfl, rfl⟩
  · refine m_ca (q := (143, .invokevirtual 327, 3, 140, 1)) (a := 140) (vs := [.ref 7, .int s1]) (st := []) (d1 := 0) (by decide +kernel) rfl rfl rfl rfl (by decide) (Fr140 e22) ?_
    show m_Run X _ _ 144 146 [(1, .int x1)] [] (hO R g20) _ _
    refine m_go (L := [(146, .goto 205, 3, 0, 0), (351, .iload_n 1, 1, 0, 0), (352, .iconst 1, 1, 0, 0), (353, .iadd, 1, 0, 0)]) (pc1 := 354) (lv1 := [(1, .int x1)]) (st1 := [.int (x1 + (1 : Int32))]) (h1 := hO R g20) (by decide +kernel) rfl ?_
    cases h
    exact m_ri (by decide +kernel)
  · exact m_cx (q := (143, .invokevirtual 327, 3, 140, 1)) (a := 140) (vs := [.ref 7, .int s1]) (st := []) (d1 := 0) (by decide +kernel) (by decide +kernel) rfl rfl rfl rfl (by decide) (Fr140 e22)
def f144_181 (n : Nat) (x1 : Int32) (x3 : Int32) (x6 : Int32) (x7 : Int32) (g : mG) : mZ := m_ci (f145 n x3 x7 x6 g) (fun v35 g34 => m_cv (f140 n v35 g34) (fun g38 => some (.inl (some (.int (x1 + (1 : Int32)))), g38)))
theorem Fr144_181 {R : Nat} {x1 : Int32} {x3 : Int32} {x6 : Int32} {x7 : Int32} {g g' : mG} {o : mO} (h : f144_181 n x1 x3 x6 x7 g = some (o, g')) : m_Run X (2) (m_ko o) 144 181 [(0, .ref 7), (1, .int x1), (3, .int x3), (6, .int x6), (7, .int x7)] [] (hO R g) o (hO R g') := by
  unfold f144_181 at h
  refine m_go (L := [(181, .aload_n 0, 1, 0, 0), (182, .iload_n 3, 1, 0, 0), (183, .iload 7, 2, 0, 0), (185, .iload 6, 2, 0, 0)]) (pc1 := 187) (lv1 := [(0, .ref 7), (1, .int x1), (3, .int x3), (6, .int x6), (7, .int x7)]) (st1 := [.int x6, .int x7, .int x3, .ref 7]) (h1 := hO R g) (by decide +kernel) rfl ?_
  rcases m_ci_inv h with ⟨v35, g34, e36, h⟩ | ⟨y37, g34, e36, rfl, rfl⟩
  · refine m_ca (q := (187, .invokestatic 330, 3, 145, 3)) (a := 145) (vs := [.int x3, .int x7, .int x6]) (st := [.ref 7]) (d1 := 1) (by decide +kernel) rfl rfl rfl rfl (by decide) (Fr145 e36) ?_
    show m_Run X _ _ 144 190 [(0, .ref 7), (1, .int x1), (3, .int x3), (6, .int x6), (7, .int x7)] [.int v35, .ref 7] (hO R g34) _ _
    rcases m_cv_inv h with ⟨g38, e40, h⟩ | ⟨y41, g38, e40, rfl, rfl⟩
    · refine m_ca (q := (190, .invokevirtual 327, 3, 140, 1)) (a := 140) (vs := [.ref 7, .int v35]) (st := []) (d1 := 0) (by decide +kernel) rfl rfl rfl rfl (by decide) (Fr140 e40) ?_
      show m_Run X _ _ 144 193 [(0, .ref 7), (1, .int x1), (3, .int x3), (6, .int x6), (7, .int x7)] [] (hO R g38) _ _
      refine m_go (L := [(193, .goto 158, 3, 0, 0), (351, .iload_n 1, 1, 0, 0), (352, .iconst 1, 1, 0, 0), (353, .iadd, 1, 0, 0)]) (pc1 := 354) (lv1 := [(0, .ref 7), (1, .int x1), (3, .int x3), (6, .int x6), (7, .int x7)]) (st1 := [.int (x1 + (1 : Int32))]) (h1 := hO R g38) (by decide +kernel) rfl ?_
      cases h
      exact m_ri (by decide +kernel)
    · exact m_cx (q := (190, .invokevirtual 327, 3, 140, 1)) (a := 140) (vs := [.ref 7, .int v35]) (st := []) (d1 := 0) (by decide +kernel) (by decide +kernel) rfl rfl rfl rfl (by decide) (Fr140 e40)
  · exact m_cx (q := (187, .invokestatic 330, 3, 145, 3)) (a := 145) (vs := [.int x3, .int x7, .int x6]) (st := [.ref 7]) (d1 := 1) (by decide +kernel) (by decide +kernel) rfl rfl rfl rfl (by decide) (Fr145 e36)
def f144_218 (n : Nat) (x1 : Int32) (x3 : Int32) (s0 : Int32) (s1 : Int32) (g : mG) : mZ := if ¬ s0 = s1 then some (.inl (some (.int (x1 + (1 : Int32)))), (gI g 41 ((g.1 41) - (1 : Int32)))) else some (.inl (some (.int x3)), g)
theorem Fr144_218 {R : Nat} {x1 : Int32} {x3 : Int32} {s0 : Int32} {s1 : Int32} {g g' : mG} {o : mO} (h : f144_218 n x1 x3 s0 s1 g = some (o, g')) : m_Run X (2) (m_ko o) 144 218 [(0, .ref 7), (1, .int x1), (3, .int x3)] [.int s1, .int s0] (hO R g) o (hO R g') := by
  unfold f144_218 at h
  refine m_gob (c := ¬ s0 = s1) (t := 223) (f := 221) (L := [(218, .if_icmp .ne 5, 3, 0, 0)]) (lv1 := [(0, .ref 7), (1, .int x1), (3, .int x3)]) (st1 := []) (h1 := hO R g) (by decide +kernel) rfl (fun c47 => ?_) (fun c47 => ?_)
  · rw [if_pos c47] at h
    refine m_go (L := [(223, .aload_n 0, 1, 0, 0), (224, .dup, 1, 0, 0), (225, .getfield 311, 3, 6, 40), (228, .iconst 1, 1, 0, 0), (229, .isub, 1, 0, 0), (230, .putfield 311, 3, 6, 40), (233, .goto 118, 3, 0, 0), (351, .iload_n 1, 1, 0, 0), (352, .iconst 1, 1, 0, 0), (353, .iadd, 1, 0, 0)]) (pc1 := 354) (lv1 := [(0, .ref 7), (1, .int x1), (3, .int x3)]) (st1 := [.int (x1 + (1 : Int32))]) (h1 := hO R (gI g 41 ((g.1 41) - (1 : Int32)))) (by decide +kernel) rfl ?_
    cases h
    exact m_ri (by decide +kernel)
  · rw [if_neg c47] at h
    refine m_go (L := [(221, .iload_n 3, 1, 0, 0)]) (pc1 := 222) (lv1 := [(0, .ref 7), (1, .int x1), (3, .int x3)]) (st1 := [.int x3]) (h1 := hO R g) (by decide +kernel) rfl ?_
    cases h
    exact m_ri (by decide +kernel)
def f144 (n : Nat) (x1 : Int32) (g : mG) : mZ := if x1 < 0 ∨ 2400 ≤ Int32.toNatClampNeg x1 then none else if x1 < 0 ∨ 2400 ≤ Int32.toNatClampNeg x1 then none else if ((g.2.1 47) (Int32.toNatClampNeg x1)) = 1 then m_cv (f140 n ((g.2.1 48) (Int32.toNatClampNeg x1)) g) (fun g4 => some (.inl (some (.int (x1 + (1 : Int32)))), g4)) else if ((g.2.1 47) (Int32.toNatClampNeg x1)) = 2 then if (((8 : Int32) * ((g.1 42) - (1 : Int32))) + ((g.2.1 48) (Int32.toNatClampNeg x1))) < 0 ∨ 104 ≤ Int32.toNatClampNeg (((8 : Int32) * ((g.1 42) - (1 : Int32))) + ((g.2.1 48) (Int32.toNatClampNeg x1))) then none else m_cv (f140 n ((g.2.1 55) (Int32.toNatClampNeg (((8 : Int32) * ((g.1 42) - (1 : Int32))) + ((g.2.1 48) (Int32.toNatClampNeg x1))))) g) (fun g10 => some (.inl (some (.int (x1 + (1 : Int32)))), g10)) else if ((g.2.1 47) (Int32.toNatClampNeg x1)) = 3 then m_ci (f142 n g) (fun v16 g15 => if ¬ ((g.2.1 48) (Int32.toNatClampNeg x1)) = (17 : Int32) then f144_143 n x1 ((1 : Int32) - v16) g15 else f144_143 n x1 (-v16) g15) else if ((g.2.1 47) (Int32.toNatClampNeg x1)) = 4 then m_ci (f142 n g) (fun v26 g25 => m_ci (f142 n g25) (fun v30 g29 => if ¬ v26 = 0 then f144_181 n x1 ((g.2.1 48) (Int32.toNatClampNeg x1)) v26 v30 g29 else if ((g.2.1 48) (Int32.toNatClampNeg x1)) = (19 : Int32) then some (.inl (some (.int (-2 : Int32))), g29) else if ¬ ((g.2.1 48) (Int32.toNatClampNeg x1)) = (20 : Int32) then f144_181 n x1 ((g.2.1 48) (Int32.toNatClampNeg x1)) v26 v30 g29 else some (.inl (some (.int (-2 : Int32))), g29))) else if ((g.2.1 47) (Int32.toNatClampNeg x1)) = 5 then if ((g.1 41) - (1 : Int32)) < 0 ∨ 3000 ≤ Int32.toNatClampNeg ((g.1 41) - (1 : Int32)) then none else if ¬ ((g.2.1 47) (Int32.toNatClampNeg x1)) = (6 : Int32) then f144_218 n x1 ((g.2.1 48) (Int32.toNatClampNeg x1)) ((g.2.1 53) (Int32.toNatClampNeg ((g.1 41) - (1 : Int32)))) (0 : Int32) g else f144_218 n x1 ((g.2.1 48) (Int32.toNatClampNeg x1)) ((g.2.1 53) (Int32.toNatClampNeg ((g.1 41) - (1 : Int32)))) (1 : Int32) g else if ((g.2.1 47) (Int32.toNatClampNeg x1)) = 6 then if ((g.1 41) - (1 : Int32)) < 0 ∨ 3000 ≤ Int32.toNatClampNeg ((g.1 41) - (1 : Int32)) then none else if ¬ ((g.2.1 47) (Int32.toNatClampNeg x1)) = (6 : Int32) then f144_218 n x1 ((g.2.1 48) (Int32.toNatClampNeg x1)) ((g.2.1 53) (Int32.toNatClampNeg ((g.1 41) - (1 : Int32)))) (0 : Int32) g else f144_218 n x1 ((g.2.1 48) (Int32.toNatClampNeg x1)) ((g.2.1 53) (Int32.toNatClampNeg ((g.1 41) - (1 : Int32)))) (1 : Int32) g else if ((g.2.1 47) (Int32.toNatClampNeg x1)) = 7 then m_ci (f142 n g) (fun v53 g52 => m_ci (f137 n v53 g52) (fun v57 g56 => m_cv (f140 n v57 g56) (fun g60 => some (.inl (some (.int (x1 + (1 : Int32)))), g60)))) else if ((g.2.1 47) (Int32.toNatClampNeg x1)) = 8 then if ¬ (g.1 42) = (12 : Int32) then m_ci (f141 n ((g.2.1 48) (Int32.toNatClampNeg x1)) (x1 + (1 : Int32)) g) (fun v67 g66 => some (.inl (some (.int v67)), g66)) else some (.inl (some (.int (-2 : Int32))), g) else if ((g.2.1 47) (Int32.toNatClampNeg x1)) = 9 then m_ci (f142 n g) (fun v72 g71 => if (((8 : Int32) * ((g.1 42) - (1 : Int32))) + ((g.2.1 48) (Int32.toNatClampNeg x1))) < 0 ∨ 104 ≤ Int32.toNatClampNeg (((8 : Int32) * ((g.1 42) - (1 : Int32))) + ((g.2.1 48) (Int32.toNatClampNeg x1))) then none else some (.inl (some (.int (x1 + (1 : Int32)))), (gS g71 55 (upd (g71.2.1 55) (Int32.toNatClampNeg (((8 : Int32) * ((g.1 42) - (1 : Int32))) + ((g.2.1 48) (Int32.toNatClampNeg x1)))) v72)))) else if ((g.2.1 47) (Int32.toNatClampNeg x1)) = 10 then m_ci (f142 n g) (fun v78 g77 => m_ci (f142 n g77) (fun v82 g81 => m_ci (f147 n v82 v78 g81) (fun v86 g85 => if ¬ v86 = 0 then some (.inl (some (.int (x1 + (1 : Int32)))), g85) else some (.inl (some (.int (-2 : Int32))), g85)))) else if ((g.2.1 47) (Int32.toNatClampNeg x1)) = 11 then m_ci (f142 n g) (fun v92 g91 => if ¬ v92 = 0 then some (.inl (some (.int (x1 + (1 : Int32)))), g91) else some (.inl (some (.int ((g.2.1 48) (Int32.toNatClampNeg x1)))), g91)) else if ((g.2.1 47) (Int32.toNatClampNeg x1)) = 12 then some (.inl (some (.int ((g.2.1 48) (Int32.toNatClampNeg x1)))), g) else if ((g.2.1 47) (Int32.toNatClampNeg x1)) = 14 then m_ci (f142 n g) (fun v99 g98 => if ¬ v99 = 0 then some (.inl (some (.int (x1 + (1 : Int32)))), g98) else some (.inl (some (.int (-3 : Int32))), g98)) else m_ci (f148 n ((g.2.1 47) (Int32.toNatClampNeg x1)) g) (fun v104 g103 => some (.inl (some (.int v104)), g103))
theorem Fr144 {R : Nat} {x1 : Int32} {g g' : mG} {o : mO} (h : f144 n x1 g = some (o, g')) : m_Run X (2) (m_ko o) 144 0 [(0, .ref 7), (1, .int x1)] [] (hO R g) o (hO R g') := by
  unfold f144 at h
  refine m_go (L := [(0, .aload_n 0, 1, 0, 0), (1, .getfield 55, 3, 6, 30), (4, .iload_n 1, 1, 0, 0)]) (pc1 := 5) (lv1 := [(0, .ref 7), (1, .int x1)]) (st1 := [.int x1, .ref 47]) (h1 := hO R g) (by decide +kernel) rfl ?_
  obtain ⟨c1, h⟩ := m_ifn_inv h
  refine m_go1 (q := (5, .iaload, 1, 0, 0)) (pc1 := 6) (lv1 := [(0, .ref 7), (1, .int x1)]) (st1 := [.int ((g.2.1 47) (Int32.toNatClampNeg x1))]) (h1 := hO R g) (by decide +kernel) (if_neg c1) ?_
  refine m_go (L := [(6, .istore_n 2, 1, 0, 0), (7, .aload_n 0, 1, 0, 0), (8, .getfield 58, 3, 6, 31), (11, .iload_n 1, 1, 0, 0)]) (pc1 := 12) (lv1 := [(0, .ref 7), (1, .int x1), (2, .int ((g.2.1 47) (Int32.toNatClampNeg x1)))]) (st1 := [.int x1, .ref 48]) (h1 := hO R g) (by decide +kernel) rfl ?_
  obtain ⟨c2, h⟩ := m_ifn_inv h
  refine m_go1 (q := (12, .iaload, 1, 0, 0)) (pc1 := 13) (lv1 := [(0, .ref 7), (1, .int x1), (2, .int ((g.2.1 47) (Int32.toNatClampNeg x1)))]) (st1 := [.int ((g.2.1 48) (Int32.toNatClampNeg x1))]) (h1 := hO R g) (by decide +kernel) (if_neg c2) ?_
  refine m_go (L := [(13, .istore_n 3, 1, 0, 0), (14, .bipush 8, 2, 0, 0), (16, .aload_n 0, 1, 0, 0), (17, .getfield 321, 3, 6, 41), (20, .iconst 1, 1, 0, 0), (21, .isub, 1, 0, 0), (22, .imul, 1, 0, 0), (23, .istore 4, 2, 0, 0), (25, .iload_n 2, 1, 0, 0)]) (pc1 := 26) (lv1 := [(0, .ref 7), (1, .int x1), (2, .int ((g.2.1 47) (Int32.toNatClampNeg x1))), (3, .int ((g.2.1 48) (Int32.toNatClampNeg x1))), (4, .int ((8 : Int32) * ((g.1 42) - (1 : Int32))))]) (st1 := [.int ((g.2.1 47) (Int32.toNatClampNeg x1))]) (h1 := hO R g) (by decide +kernel) rfl ?_
  by_cases c3 : ((g.2.1 47) (Int32.toNatClampNeg x1)) = 1
  · rw [if_pos c3] at h
    refine m_go1 (q := (26, .tableswitch 319 1 14 #[70, 78, 94, 123, 170, 170, 210, 225, 248, 264, 286, 301, 319, 303], 70, 0, 0)) (pc1 := 96) (lv1 := [(0, .ref 7), (1, .int x1), (2, .int ((g.2.1 47) (Int32.toNatClampNeg x1))), (3, .int ((g.2.1 48) (Int32.toNatClampNeg x1))), (4, .int ((8 : Int32) * ((g.1 42) - (1 : Int32))))]) (st1 := []) (h1 := hO R g) (by decide +kernel) (m_swx (fun z => m_loc m_ft X (.tableswitch 319 1 14 #[70, 78, 94, 123, 170, 170, 210, 225, 248, 264, 286, 301, 319, 303]) 0 0 26 [(0, .ref 7), (1, .int x1), (2, .int ((g.2.1 47) (Int32.toNatClampNeg x1))), (3, .int ((g.2.1 48) (Int32.toNatClampNeg x1))), (4, .int ((8 : Int32) * ((g.1 42) - (1 : Int32))))] (.int z :: []) (hO R g)) c3 rfl) ?_
    refine m_go (L := [(96, .aload_n 0, 1, 0, 0), (97, .iload_n 3, 1, 0, 0)]) (pc1 := 98) (lv1 := [(0, .ref 7), (1, .int x1), (2, .int ((g.2.1 47) (Int32.toNatClampNeg x1))), (3, .int ((g.2.1 48) (Int32.toNatClampNeg x1))), (4, .int ((8 : Int32) * ((g.1 42) - (1 : Int32))))]) (st1 := [.int ((g.2.1 48) (Int32.toNatClampNeg x1)), .ref 7]) (h1 := hO R g) (by decide +kernel) rfl ?_
    rcases m_cv_inv h with ⟨g4, e6, h⟩ | ⟨y7, g4, e6, rfl, rfl⟩
    · refine m_ca (q := (98, .invokevirtual 327, 3, 140, 1)) (a := 140) (vs := [.ref 7, .int ((g.2.1 48) (Int32.toNatClampNeg x1))]) (st := []) (d1 := 0) (by decide +kernel) rfl rfl rfl rfl (by decide) (Fr140 e6) ?_
      show m_Run X _ _ 144 101 [(0, .ref 7), (1, .int x1), (2, .int ((g.2.1 47) (Int32.toNatClampNeg x1))), (3, .int ((g.2.1 48) (Int32.toNatClampNeg x1))), (4, .int ((8 : Int32) * ((g.1 42) - (1 : Int32))))] [] (hO R g4) _ _
      refine m_go (L := [(101, .goto 250, 3, 0, 0), (351, .iload_n 1, 1, 0, 0), (352, .iconst 1, 1, 0, 0), (353, .iadd, 1, 0, 0)]) (pc1 := 354) (lv1 := [(0, .ref 7), (1, .int x1), (2, .int ((g.2.1 47) (Int32.toNatClampNeg x1))), (3, .int ((g.2.1 48) (Int32.toNatClampNeg x1))), (4, .int ((8 : Int32) * ((g.1 42) - (1 : Int32))))]) (st1 := [.int (x1 + (1 : Int32))]) (h1 := hO R g4) (by decide +kernel) rfl ?_
      cases h
      exact m_ri (by decide +kernel)
    · exact m_cx (q := (98, .invokevirtual 327, 3, 140, 1)) (a := 140) (vs := [.ref 7, .int ((g.2.1 48) (Int32.toNatClampNeg x1))]) (st := []) (d1 := 0) (by decide +kernel) (by decide +kernel) rfl rfl rfl rfl (by decide) (Fr140 e6)
  · rw [if_neg c3] at h
    by_cases c8 : ((g.2.1 47) (Int32.toNatClampNeg x1)) = 2
    · rw [if_pos c8] at h
      refine m_go1 (q := (26, .tableswitch 319 1 14 #[70, 78, 94, 123, 170, 170, 210, 225, 248, 264, 286, 301, 319, 303], 70, 0, 0)) (pc1 := 104) (lv1 := [(0, .ref 7), (1, .int x1), (2, .int ((g.2.1 47) (Int32.toNatClampNeg x1))), (3, .int ((g.2.1 48) (Int32.toNatClampNeg x1))), (4, .int ((8 : Int32) * ((g.1 42) - (1 : Int32))))]) (st1 := []) (h1 := hO R g) (by decide +kernel) (m_swx (fun z => m_loc m_ft X (.tableswitch 319 1 14 #[70, 78, 94, 123, 170, 170, 210, 225, 248, 264, 286, 301, 319, 303]) 0 0 26 [(0, .ref 7), (1, .int x1), (2, .int ((g.2.1 47) (Int32.toNatClampNeg x1))), (3, .int ((g.2.1 48) (Int32.toNatClampNeg x1))), (4, .int ((8 : Int32) * ((g.1 42) - (1 : Int32))))] (.int z :: []) (hO R g)) c8 rfl) ?_
      refine m_go (L := [(104, .aload_n 0, 1, 0, 0), (105, .aload_n 0, 1, 0, 0), (106, .getfield 79, 3, 6, 43), (109, .iload 4, 2, 0, 0), (111, .iload_n 3, 1, 0, 0), (112, .iadd, 1, 0, 0)]) (pc1 := 113) (lv1 := [(0, .ref 7), (1, .int x1), (2, .int ((g.2.1 47) (Int32.toNatClampNeg x1))), (3, .int ((g.2.1 48) (Int32.toNatClampNeg x1))), (4, .int ((8 : Int32) * ((g.1 42) - (1 : Int32))))]) (st1 := [.int (((8 : Int32) * ((g.1 42) - (1 : Int32))) + ((g.2.1 48) (Int32.toNatClampNeg x1))), .ref 55, .ref 7]) (h1 := hO R g) (by decide +kernel) rfl ?_
      obtain ⟨c9, h⟩ := m_ifn_inv h
      refine m_go1 (q := (113, .iaload, 1, 0, 0)) (pc1 := 114) (lv1 := [(0, .ref 7), (1, .int x1), (2, .int ((g.2.1 47) (Int32.toNatClampNeg x1))), (3, .int ((g.2.1 48) (Int32.toNatClampNeg x1))), (4, .int ((8 : Int32) * ((g.1 42) - (1 : Int32))))]) (st1 := [.int ((g.2.1 55) (Int32.toNatClampNeg (((8 : Int32) * ((g.1 42) - (1 : Int32))) + ((g.2.1 48) (Int32.toNatClampNeg x1))))), .ref 7]) (h1 := hO R g) (by decide +kernel) (if_neg c9) ?_
      rcases m_cv_inv h with ⟨g10, e12, h⟩ | ⟨y13, g10, e12, rfl, rfl⟩
      · refine m_ca (q := (114, .invokevirtual 327, 3, 140, 1)) (a := 140) (vs := [.ref 7, .int ((g.2.1 55) (Int32.toNatClampNeg (((8 : Int32) * ((g.1 42) - (1 : Int32))) + ((g.2.1 48) (Int32.toNatClampNeg x1)))))]) (st := []) (d1 := 0) (by decide +kernel) rfl rfl rfl rfl (by decide) (Fr140 e12) ?_
        show m_Run X _ _ 144 117 [(0, .ref 7), (1, .int x1), (2, .int ((g.2.1 47) (Int32.toNatClampNeg x1))), (3, .int ((g.2.1 48) (Int32.toNatClampNeg x1))), (4, .int ((8 : Int32) * ((g.1 42) - (1 : Int32))))] [] (hO R g10) _ _
        refine m_go (L := [(117, .goto 234, 3, 0, 0), (351, .iload_n 1, 1, 0, 0), (352, .iconst 1, 1, 0, 0), (353, .iadd, 1, 0, 0)]) (pc1 := 354) (lv1 := [(0, .ref 7), (1, .int x1), (2, .int ((g.2.1 47) (Int32.toNatClampNeg x1))), (3, .int ((g.2.1 48) (Int32.toNatClampNeg x1))), (4, .int ((8 : Int32) * ((g.1 42) - (1 : Int32))))]) (st1 := [.int (x1 + (1 : Int32))]) (h1 := hO R g10) (by decide +kernel) rfl ?_
        cases h
        exact m_ri (by decide +kernel)
      · exact m_cx (q := (114, .invokevirtual 327, 3, 140, 1)) (a := 140) (vs := [.ref 7, .int ((g.2.1 55) (Int32.toNatClampNeg (((8 : Int32) * ((g.1 42) - (1 : Int32))) + ((g.2.1 48) (Int32.toNatClampNeg x1)))))]) (st := []) (d1 := 0) (by decide +kernel) (by decide +kernel) rfl rfl rfl rfl (by decide) (Fr140 e12)
    · rw [if_neg c8] at h
      by_cases c14 : ((g.2.1 47) (Int32.toNatClampNeg x1)) = 3
      · rw [if_pos c14] at h
        refine m_go1 (q := (26, .tableswitch 319 1 14 #[70, 78, 94, 123, 170, 170, 210, 225, 248, 264, 286, 301, 319, 303], 70, 0, 0)) (pc1 := 120) (lv1 := [(0, .ref 7), (1, .int x1), (2, .int ((g.2.1 47) (Int32.toNatClampNeg x1))), (3, .int ((g.2.1 48) (Int32.toNatClampNeg x1))), (4, .int ((8 : Int32) * ((g.1 42) - (1 : Int32))))]) (st1 := []) (h1 := hO R g) (by decide +kernel) (m_swx (fun z => m_loc m_ft X (.tableswitch 319 1 14 #[70, 78, 94, 123, 170, 170, 210, 225, 248, 264, 286, 301, 319, 303]) 0 0 26 [(0, .ref 7), (1, .int x1), (2, .int ((g.2.1 47) (Int32.toNatClampNeg x1))), (3, .int ((g.2.1 48) (Int32.toNatClampNeg x1))), (4, .int ((8 : Int32) * ((g.1 42) - (1 : Int32))))] (.int z :: []) (hO R g)) c14 rfl) ?_
        refine m_go (L := [(120, .aload_n 0, 1, 0, 0)]) (pc1 := 121) (lv1 := [(0, .ref 7), (1, .int x1), (2, .int ((g.2.1 47) (Int32.toNatClampNeg x1))), (3, .int ((g.2.1 48) (Int32.toNatClampNeg x1))), (4, .int ((8 : Int32) * ((g.1 42) - (1 : Int32))))]) (st1 := [.ref 7]) (h1 := hO R g) (by decide +kernel) rfl ?_
        rcases m_ci_inv h with ⟨v16, g15, e17, h⟩ | ⟨y18, g15, e17, rfl, rfl⟩
        · refine m_ca (q := (121, .invokevirtual 324, 3, 142, 0)) (a := 142) (vs := [.ref 7]) (st := []) (d1 := 0) (by decide +kernel) rfl rfl rfl rfl (by decide) (Fr142 e17) ?_
          show m_Run X _ _ 144 124 [(0, .ref 7), (1, .int x1), (2, .int ((g.2.1 47) (Int32.toNatClampNeg x1))), (3, .int ((g.2.1 48) (Int32.toNatClampNeg x1))), (4, .int ((8 : Int32) * ((g.1 42) - (1 : Int32))))] [.int v16] (hO R g15) _ _
          refine m_gob (c := ¬ ((g.2.1 48) (Int32.toNatClampNeg x1)) = (17 : Int32)) (t := 139) (f := 133) (L := [(124, .istore 5, 2, 0, 0), (126, .aload_n 0, 1, 0, 0), (127, .iload_n 3, 1, 0, 0), (128, .bipush 17, 2, 0, 0), (130, .if_icmp .ne 9, 3, 0, 0)]) (lv1 := [(0, .ref 7), (1, .int x1), (2, .int ((g.2.1 47) (Int32.toNatClampNeg x1))), (3, .int ((g.2.1 48) (Int32.toNatClampNeg x1))), (4, .int ((8 : Int32) * ((g.1 42) - (1 : Int32)))), (5, .int v16)]) (st1 := [.ref 7]) (h1 := hO R g15) (by decide +kernel) rfl (fun c19 => ?_) (fun c19 => ?_)
          · rw [if_pos c19] at h
            refine m_go (L := [(139, .iconst 1, 1, 0, 0), (140, .iload 5, 2, 0, 0), (142, .isub, 1, 0, 0)]) (pc1 := 143) (lv1 := [(0, .ref 7), (1, .int x1), (2, .int ((g.2.1 47) (Int32.toNatClampNeg x1))), (3, .int ((g.2.1 48) (Int32.toNatClampNeg x1))), (4, .int ((8 : Int32) * ((g.1 42) - (1 : Int32)))), (5, .int v16)]) (st1 := [.int ((1 : Int32) - v16), .ref 7]) (h1 := hO R g15) (by decide +kernel) rfl ?_
            exact m_r0 _ _ _ _ _ _ _ _ _ _ (m_pick [1] rfl) (Fr144_143 h)
          · rw [if_neg c19] at h
            refine m_go (L := [(133, .iload 5, 2, 0, 0), (135, .ineg, 1, 0, 0), (136, .goto 7, 3, 0, 0)]) (pc1 := 143) (lv1 := [(0, .ref 7), (1, .int x1), (2, .int ((g.2.1 47) (Int32.toNatClampNeg x1))), (3, .int ((g.2.1 48) (Int32.toNatClampNeg x1))), (4, .int ((8 : Int32) * ((g.1 42) - (1 : Int32)))), (5, .int v16)]) (st1 := [.int (-v16), .ref 7]) (h1 := hO R g15) (by decide +kernel) rfl ?_
            exact m_r0 _ _ _ _ _ _ _ _ _ _ (m_pick [1] rfl) (Fr144_143 h)
        · exact m_cx (q := (121, .invokevirtual 324, 3, 142, 0)) (a := 142) (vs := [.ref 7]) (st := []) (d1 := 0) (by decide +kernel) (by decide +kernel) rfl rfl rfl rfl (by decide) (Fr142 e17)
      · rw [if_neg c14] at h
        by_cases c24 : ((g.2.1 47) (Int32.toNatClampNeg x1)) = 4
        · rw [if_pos c24] at h
          refine m_go1 (q := (26, .tableswitch 319 1 14 #[70, 78, 94, 123, 170, 170, 210, 225, 248, 264, 286, 301, 319, 303], 70, 0, 0)) (pc1 := 149) (lv1 := [(0, .ref 7), (1, .int x1), (2, .int ((g.2.1 47) (Int32.toNatClampNeg x1))), (3, .int ((g.2.1 48) (Int32.toNatClampNeg x1))), (4, .int ((8 : Int32) * ((g.1 42) - (1 : Int32))))]) (st1 := []) (h1 := hO R g) (by decide +kernel) (m_swx (fun z => m_loc m_ft X (.tableswitch 319 1 14 #[70, 78, 94, 123, 170, 170, 210, 225, 248, 264, 286, 301, 319, 303]) 0 0 26 [(0, .ref 7), (1, .int x1), (2, .int ((g.2.1 47) (Int32.toNatClampNeg x1))), (3, .int ((g.2.1 48) (Int32.toNatClampNeg x1))), (4, .int ((8 : Int32) * ((g.1 42) - (1 : Int32))))] (.int z :: []) (hO R g)) c24 rfl) ?_
          refine m_go (L := [(149, .aload_n 0, 1, 0, 0)]) (pc1 := 150) (lv1 := [(0, .ref 7), (1, .int x1), (2, .int ((g.2.1 47) (Int32.toNatClampNeg x1))), (3, .int ((g.2.1 48) (Int32.toNatClampNeg x1))), (4, .int ((8 : Int32) * ((g.1 42) - (1 : Int32))))]) (st1 := [.ref 7]) (h1 := hO R g) (by decide +kernel) rfl ?_
          rcases m_ci_inv h with ⟨v26, g25, e27, h⟩ | ⟨y28, g25, e27, rfl, rfl⟩
          · refine m_ca (q := (150, .invokevirtual 324, 3, 142, 0)) (a := 142) (vs := [.ref 7]) (st := []) (d1 := 0) (by decide +kernel) rfl rfl rfl rfl (by decide) (Fr142 e27) ?_
            show m_Run X _ _ 144 153 [(0, .ref 7), (1, .int x1), (2, .int ((g.2.1 47) (Int32.toNatClampNeg x1))), (3, .int ((g.2.1 48) (Int32.toNatClampNeg x1))), (4, .int ((8 : Int32) * ((g.1 42) - (1 : Int32))))] [.int v26] (hO R g25) _ _
            refine m_go (L := [(153, .istore 6, 2, 0, 0), (155, .aload_n 0, 1, 0, 0)]) (pc1 := 156) (lv1 := [(0, .ref 7), (1, .int x1), (2, .int ((g.2.1 47) (Int32.toNatClampNeg x1))), (3, .int ((g.2.1 48) (Int32.toNatClampNeg x1))), (4, .int ((8 : Int32) * ((g.1 42) - (1 : Int32)))), (6, .int v26)]) (st1 := [.ref 7]) (h1 := hO R g25) (by decide +kernel) rfl ?_
            rcases m_ci_inv h with ⟨v30, g29, e31, h⟩ | ⟨y32, g29, e31, rfl, rfl⟩
            · refine m_ca (q := (156, .invokevirtual 324, 3, 142, 0)) (a := 142) (vs := [.ref 7]) (st := []) (d1 := 0) (by decide +kernel) rfl rfl rfl rfl (by decide) (Fr142 e31) ?_
              show m_Run X _ _ 144 159 [(0, .ref 7), (1, .int x1), (2, .int ((g.2.1 47) (Int32.toNatClampNeg x1))), (3, .int ((g.2.1 48) (Int32.toNatClampNeg x1))), (4, .int ((8 : Int32) * ((g.1 42) - (1 : Int32)))), (6, .int v26)] [.int v30] (hO R g29) _ _
              refine m_gob (c := ¬ v26 = 0) (t := 181) (f := 166) (L := [(159, .istore 7, 2, 0, 0), (161, .iload 6, 2, 0, 0), (163, .ifCond .ne 18, 3, 0, 0)]) (lv1 := [(0, .ref 7), (1, .int x1), (2, .int ((g.2.1 47) (Int32.toNatClampNeg x1))), (3, .int ((g.2.1 48) (Int32.toNatClampNeg x1))), (4, .int ((8 : Int32) * ((g.1 42) - (1 : Int32)))), (6, .int v26), (7, .int v30)]) (st1 := []) (h1 := hO R g29) (by decide +kernel) rfl (fun c33 => ?_) (fun c33 => ?_)
              · rw [if_pos c33] at h
                exact m_r0 _ _ _ _ _ _ _ _ _ _ (m_pick [0, 1, 3, 5, 6] rfl) (Fr144_181 h)
              · rw [if_neg c33] at h
                refine m_gob (c := ((g.2.1 48) (Int32.toNatClampNeg x1)) = (19 : Int32)) (t := 178) (f := 172) (L := [(166, .iload_n 3, 1, 0, 0), (167, .bipush 19, 2, 0, 0), (169, .if_icmp .eq 9, 3, 0, 0)]) (lv1 := [(0, .ref 7), (1, .int x1), (2, .int ((g.2.1 47) (Int32.toNatClampNeg x1))), (3, .int ((g.2.1 48) (Int32.toNatClampNeg x1))), (4, .int ((8 : Int32) * ((g.1 42) - (1 : Int32)))), (6, .int v26), (7, .int v30)]) (st1 := []) (h1 := hO R g29) (by decide +kernel) rfl (fun c42 => ?_) (fun c42 => ?_)
                · rw [if_pos c42] at h
                  refine m_go (L := [(178, .bipush (-2), 2, 0, 0)]) (pc1 := 180) (lv1 := [(0, .ref 7), (1, .int x1), (2, .int ((g.2.1 47) (Int32.toNatClampNeg x1))), (3, .int ((g.2.1 48) (Int32.toNatClampNeg x1))), (4, .int ((8 : Int32) * ((g.1 42) - (1 : Int32)))), (6, .int v26), (7, .int v30)]) (st1 := [.int (-2 : Int32)]) (h1 := hO R g29) (by decide +kernel) rfl ?_
                  cases h
                  exact m_ri (by decide +kernel)
                · rw [if_neg c42] at h
                  refine m_gob (c := ¬ ((g.2.1 48) (Int32.toNatClampNeg x1)) = (20 : Int32)) (t := 181) (f := 178) (L := [(172, .iload_n 3, 1, 0, 0), (173, .bipush 20, 2, 0, 0), (175, .if_icmp .ne 6, 3, 0, 0)]) (lv1 := [(0, .ref 7), (1, .int x1), (2, .int ((g.2.1 47) (Int32.toNatClampNeg x1))), (3, .int ((g.2.1 48) (Int32.toNatClampNeg x1))), (4, .int ((8 : Int32) * ((g.1 42) - (1 : Int32)))), (6, .int v26), (7, .int v30)]) (st1 := []) (h1 := hO R g29) (by decide +kernel) rfl (fun c43 => ?_) (fun c43 => ?_)
                  · rw [if_pos c43] at h
                    exact m_r0 _ _ _ _ _ _ _ _ _ _ (m_pick [0, 1, 3, 5, 6] rfl) (Fr144_181 h)
                  · rw [if_neg c43] at h
                    refine m_go (L := [(178, .bipush (-2), 2, 0, 0)]) (pc1 := 180) (lv1 := [(0, .ref 7), (1, .int x1), (2, .int ((g.2.1 47) (Int32.toNatClampNeg x1))), (3, .int ((g.2.1 48) (Int32.toNatClampNeg x1))), (4, .int ((8 : Int32) * ((g.1 42) - (1 : Int32)))), (6, .int v26), (7, .int v30)]) (st1 := [.int (-2 : Int32)]) (h1 := hO R g29) (by decide +kernel) rfl ?_
                    cases h
                    exact m_ri (by decide +kernel)
            · exact m_cx (q := (156, .invokevirtual 324, 3, 142, 0)) (a := 142) (vs := [.ref 7]) (st := []) (d1 := 0) (by decide +kernel) (by decide +kernel) rfl rfl rfl rfl (by decide) (Fr142 e31)
          · exact m_cx (q := (150, .invokevirtual 324, 3, 142, 0)) (a := 142) (vs := [.ref 7]) (st := []) (d1 := 0) (by decide +kernel) (by decide +kernel) rfl rfl rfl rfl (by decide) (Fr142 e27)
        · rw [if_neg c24] at h
          by_cases c44 : ((g.2.1 47) (Int32.toNatClampNeg x1)) = 5
          · rw [if_pos c44] at h
            refine m_go1 (q := (26, .tableswitch 319 1 14 #[70, 78, 94, 123, 170, 170, 210, 225, 248, 264, 286, 301, 319, 303], 70, 0, 0)) (pc1 := 196) (lv1 := [(0, .ref 7), (1, .int x1), (2, .int ((g.2.1 47) (Int32.toNatClampNeg x1))), (3, .int ((g.2.1 48) (Int32.toNatClampNeg x1))), (4, .int ((8 : Int32) * ((g.1 42) - (1 : Int32))))]) (st1 := []) (h1 := hO R g) (by decide +kernel) (m_swx (fun z => m_loc m_ft X (.tableswitch 319 1 14 #[70, 78, 94, 123, 170, 170, 210, 225, 248, 264, 286, 301, 319, 303]) 0 0 26 [(0, .ref 7), (1, .int x1), (2, .int ((g.2.1 47) (Int32.toNatClampNeg x1))), (3, .int ((g.2.1 48) (Int32.toNatClampNeg x1))), (4, .int ((8 : Int32) * ((g.1 42) - (1 : Int32))))] (.int z :: []) (hO R g)) c44 rfl) ?_
            refine m_go (L := [(196, .aload_n 0, 1, 0, 0), (197, .getfield 73, 3, 6, 39), (200, .aload_n 0, 1, 0, 0), (201, .getfield 311, 3, 6, 40), (204, .iconst 1, 1, 0, 0), (205, .isub, 1, 0, 0)]) (pc1 := 206) (lv1 := [(0, .ref 7), (1, .int x1), (2, .int ((g.2.1 47) (Int32.toNatClampNeg x1))), (3, .int ((g.2.1 48) (Int32.toNatClampNeg x1))), (4, .int ((8 : Int32) * ((g.1 42) - (1 : Int32))))]) (st1 := [.int ((g.1 41) - (1 : Int32)), .ref 53]) (h1 := hO R g) (by decide +kernel) rfl ?_
            obtain ⟨c45, h⟩ := m_ifn_inv h
            refine m_go1 (q := (206, .iaload, 1, 0, 0)) (pc1 := 207) (lv1 := [(0, .ref 7), (1, .int x1), (2, .int ((g.2.1 47) (Int32.toNatClampNeg x1))), (3, .int ((g.2.1 48) (Int32.toNatClampNeg x1))), (4, .int ((8 : Int32) * ((g.1 42) - (1 : Int32))))]) (st1 := [.int ((g.2.1 53) (Int32.toNatClampNeg ((g.1 41) - (1 : Int32))))]) (h1 := hO R g) (by decide +kernel) (if_neg c45) ?_
            refine m_gob (c := ¬ ((g.2.1 47) (Int32.toNatClampNeg x1)) = (6 : Int32)) (t := 217) (f := 213) (L := [(207, .iload_n 2, 1, 0, 0), (208, .bipush 6, 2, 0, 0), (210, .if_icmp .ne 7, 3, 0, 0)]) (lv1 := [(0, .ref 7), (1, .int x1), (2, .int ((g.2.1 47) (Int32.toNatClampNeg x1))), (3, .int ((g.2.1 48) (Int32.toNatClampNeg x1))), (4, .int ((8 : Int32) * ((g.1 42) - (1 : Int32))))]) (st1 := [.int ((g.2.1 53) (Int32.toNatClampNeg ((g.1 41) - (1 : Int32))))]) (h1 := hO R g) (by decide +kernel) rfl (fun c46 => ?_) (fun c46 => ?_)
            · rw [if_pos c46] at h
              refine m_go (L := [(217, .iconst 0, 1, 0, 0)]) (pc1 := 218) (lv1 := [(0, .ref 7), (1, .int x1), (2, .int ((g.2.1 47) (Int32.toNatClampNeg x1))), (3, .int ((g.2.1 48) (Int32.toNatClampNeg x1))), (4, .int ((8 : Int32) * ((g.1 42) - (1 : Int32))))]) (st1 := [.int (0 : Int32), .int ((g.2.1 53) (Int32.toNatClampNeg ((g.1 41) - (1 : Int32))))]) (h1 := hO R g) (by decide +kernel) rfl ?_
              exact m_r0 _ _ _ _ _ _ _ _ _ _ (m_pick [0, 1, 3] rfl) (Fr144_218 h)
            · rw [if_neg c46] at h
              refine m_go (L := [(213, .iconst 1, 1, 0, 0), (214, .goto 4, 3, 0, 0)]) (pc1 := 218) (lv1 := [(0, .ref 7), (1, .int x1), (2, .int ((g.2.1 47) (Int32.toNatClampNeg x1))), (3, .int ((g.2.1 48) (Int32.toNatClampNeg x1))), (4, .int ((8 : Int32) * ((g.1 42) - (1 : Int32))))]) (st1 := [.int (1 : Int32), .int ((g.2.1 53) (Int32.toNatClampNeg ((g.1 41) - (1 : Int32))))]) (h1 := hO R g) (by decide +kernel) rfl ?_
              exact m_r0 _ _ _ _ _ _ _ _ _ _ (m_pick [0, 1, 3] rfl) (Fr144_218 h)
          · rw [if_neg c44] at h
            by_cases c48 : ((g.2.1 47) (Int32.toNatClampNeg x1)) = 6
            · rw [if_pos c48] at h
              refine m_go1 (q := (26, .tableswitch 319 1 14 #[70, 78, 94, 123, 170, 170, 210, 225, 248, 264, 286, 301, 319, 303], 70, 0, 0)) (pc1 := 196) (lv1 := [(0, .ref 7), (1, .int x1), (2, .int ((g.2.1 47) (Int32.toNatClampNeg x1))), (3, .int ((g.2.1 48) (Int32.toNatClampNeg x1))), (4, .int ((8 : Int32) * ((g.1 42) - (1 : Int32))))]) (st1 := []) (h1 := hO R g) (by decide +kernel) (m_swx (fun z => m_loc m_ft X (.tableswitch 319 1 14 #[70, 78, 94, 123, 170, 170, 210, 225, 248, 264, 286, 301, 319, 303]) 0 0 26 [(0, .ref 7), (1, .int x1), (2, .int ((g.2.1 47) (Int32.toNatClampNeg x1))), (3, .int ((g.2.1 48) (Int32.toNatClampNeg x1))), (4, .int ((8 : Int32) * ((g.1 42) - (1 : Int32))))] (.int z :: []) (hO R g)) c48 rfl) ?_
              refine m_go (L := [(196, .aload_n 0, 1, 0, 0), (197, .getfield 73, 3, 6, 39), (200, .aload_n 0, 1, 0, 0), (201, .getfield 311, 3, 6, 40), (204, .iconst 1, 1, 0, 0), (205, .isub, 1, 0, 0)]) (pc1 := 206) (lv1 := [(0, .ref 7), (1, .int x1), (2, .int ((g.2.1 47) (Int32.toNatClampNeg x1))), (3, .int ((g.2.1 48) (Int32.toNatClampNeg x1))), (4, .int ((8 : Int32) * ((g.1 42) - (1 : Int32))))]) (st1 := [.int ((g.1 41) - (1 : Int32)), .ref 53]) (h1 := hO R g) (by decide +kernel) rfl ?_
              obtain ⟨c49, h⟩ := m_ifn_inv h
              refine m_go1 (q := (206, .iaload, 1, 0, 0)) (pc1 := 207) (lv1 := [(0, .ref 7), (1, .int x1), (2, .int ((g.2.1 47) (Int32.toNatClampNeg x1))), (3, .int ((g.2.1 48) (Int32.toNatClampNeg x1))), (4, .int ((8 : Int32) * ((g.1 42) - (1 : Int32))))]) (st1 := [.int ((g.2.1 53) (Int32.toNatClampNeg ((g.1 41) - (1 : Int32))))]) (h1 := hO R g) (by decide +kernel) (if_neg c49) ?_
              refine m_gob (c := ¬ ((g.2.1 47) (Int32.toNatClampNeg x1)) = (6 : Int32)) (t := 217) (f := 213) (L := [(207, .iload_n 2, 1, 0, 0), (208, .bipush 6, 2, 0, 0), (210, .if_icmp .ne 7, 3, 0, 0)]) (lv1 := [(0, .ref 7), (1, .int x1), (2, .int ((g.2.1 47) (Int32.toNatClampNeg x1))), (3, .int ((g.2.1 48) (Int32.toNatClampNeg x1))), (4, .int ((8 : Int32) * ((g.1 42) - (1 : Int32))))]) (st1 := [.int ((g.2.1 53) (Int32.toNatClampNeg ((g.1 41) - (1 : Int32))))]) (h1 := hO R g) (by decide +kernel) rfl (fun c50 => ?_) (fun c50 => ?_)
              · rw [if_pos c50] at h
                refine m_go (L := [(217, .iconst 0, 1, 0, 0)]) (pc1 := 218) (lv1 := [(0, .ref 7), (1, .int x1), (2, .int ((g.2.1 47) (Int32.toNatClampNeg x1))), (3, .int ((g.2.1 48) (Int32.toNatClampNeg x1))), (4, .int ((8 : Int32) * ((g.1 42) - (1 : Int32))))]) (st1 := [.int (0 : Int32), .int ((g.2.1 53) (Int32.toNatClampNeg ((g.1 41) - (1 : Int32))))]) (h1 := hO R g) (by decide +kernel) rfl ?_
                exact m_r0 _ _ _ _ _ _ _ _ _ _ (m_pick [0, 1, 3] rfl) (Fr144_218 h)
              · rw [if_neg c50] at h
                refine m_go (L := [(213, .iconst 1, 1, 0, 0), (214, .goto 4, 3, 0, 0)]) (pc1 := 218) (lv1 := [(0, .ref 7), (1, .int x1), (2, .int ((g.2.1 47) (Int32.toNatClampNeg x1))), (3, .int ((g.2.1 48) (Int32.toNatClampNeg x1))), (4, .int ((8 : Int32) * ((g.1 42) - (1 : Int32))))]) (st1 := [.int (1 : Int32), .int ((g.2.1 53) (Int32.toNatClampNeg ((g.1 41) - (1 : Int32))))]) (h1 := hO R g) (by decide +kernel) rfl ?_
                exact m_r0 _ _ _ _ _ _ _ _ _ _ (m_pick [0, 1, 3] rfl) (Fr144_218 h)
            · rw [if_neg c48] at h
              by_cases c51 : ((g.2.1 47) (Int32.toNatClampNeg x1)) = 7
              · rw [if_pos c51] at h
                refine m_go1 (q := (26, .tableswitch 319 1 14 #[70, 78, 94, 123, 170, 170, 210, 225, 248, 264, 286, 301, 319, 303], 70, 0, 0)) (pc1 := 236) (lv1 := [(0, .ref 7), (1, .int x1), (2, .int ((g.2.1 47) (Int32.toNatClampNeg x1))), (3, .int ((g.2.1 48) (Int32.toNatClampNeg x1))), (4, .int ((8 : Int32) * ((g.1 42) - (1 : Int32))))]) (st1 := []) (h1 := hO R g) (by decide +kernel) (m_swx (fun z => m_loc m_ft X (.tableswitch 319 1 14 #[70, 78, 94, 123, 170, 170, 210, 225, 248, 264, 286, 301, 319, 303]) 0 0 26 [(0, .ref 7), (1, .int x1), (2, .int ((g.2.1 47) (Int32.toNatClampNeg x1))), (3, .int ((g.2.1 48) (Int32.toNatClampNeg x1))), (4, .int ((8 : Int32) * ((g.1 42) - (1 : Int32))))] (.int z :: []) (hO R g)) c51 rfl) ?_
                refine m_go (L := [(236, .aload_n 0, 1, 0, 0), (237, .aload_n 0, 1, 0, 0), (238, .aload_n 0, 1, 0, 0)]) (pc1 := 239) (lv1 := [(0, .ref 7), (1, .int x1), (2, .int ((g.2.1 47) (Int32.toNatClampNeg x1))), (3, .int ((g.2.1 48) (Int32.toNatClampNeg x1))), (4, .int ((8 : Int32) * ((g.1 42) - (1 : Int32))))]) (st1 := [.ref 7, .ref 7, .ref 7]) (h1 := hO R g) (by decide +kernel) rfl ?_
                rcases m_ci_inv h with ⟨v53, g52, e54, h⟩ | ⟨y55, g52, e54, rfl, rfl⟩
                · refine m_ca (q := (239, .invokevirtual 324, 3, 142, 0)) (a := 142) (vs := [.ref 7]) (st := [.ref 7, .ref 7]) (d1 := 0) (by decide +kernel) rfl rfl rfl rfl (by decide) (Fr142 e54) ?_
                  show m_Run X _ _ 144 242 [(0, .ref 7), (1, .int x1), (2, .int ((g.2.1 47) (Int32.toNatClampNeg x1))), (3, .int ((g.2.1 48) (Int32.toNatClampNeg x1))), (4, .int ((8 : Int32) * ((g.1 42) - (1 : Int32))))] [.int v53, .ref 7, .ref 7] (hO R g52) _ _
                  rcases m_ci_inv h with ⟨v57, g56, e58, h⟩ | ⟨y59, g56, e58, rfl, rfl⟩
                  · refine m_ca (q := (242, .invokevirtual 334, 3, 137, 1)) (a := 137) (vs := [.ref 7, .int v53]) (st := [.ref 7]) (d1 := 0) (by decide +kernel) rfl rfl rfl rfl (by decide) (Fr137 e58) ?_
                    show m_Run X _ _ 144 245 [(0, .ref 7), (1, .int x1), (2, .int ((g.2.1 47) (Int32.toNatClampNeg x1))), (3, .int ((g.2.1 48) (Int32.toNatClampNeg x1))), (4, .int ((8 : Int32) * ((g.1 42) - (1 : Int32))))] [.int v57, .ref 7] (hO R g56) _ _
                    rcases m_cv_inv h with ⟨g60, e62, h⟩ | ⟨y63, g60, e62, rfl, rfl⟩
                    · refine m_ca (q := (245, .invokevirtual 327, 3, 140, 1)) (a := 140) (vs := [.ref 7, .int v57]) (st := []) (d1 := 0) (by decide +kernel) rfl rfl rfl rfl (by decide) (Fr140 e62) ?_
                      show m_Run X _ _ 144 248 [(0, .ref 7), (1, .int x1), (2, .int ((g.2.1 47) (Int32.toNatClampNeg x1))), (3, .int ((g.2.1 48) (Int32.toNatClampNeg x1))), (4, .int ((8 : Int32) * ((g.1 42) - (1 : Int32))))] [] (hO R g60) _ _
                      refine m_go (L := [(248, .goto 103, 3, 0, 0), (351, .iload_n 1, 1, 0, 0), (352, .iconst 1, 1, 0, 0), (353, .iadd, 1, 0, 0)]) (pc1 := 354) (lv1 := [(0, .ref 7), (1, .int x1), (2, .int ((g.2.1 47) (Int32.toNatClampNeg x1))), (3, .int ((g.2.1 48) (Int32.toNatClampNeg x1))), (4, .int ((8 : Int32) * ((g.1 42) - (1 : Int32))))]) (st1 := [.int (x1 + (1 : Int32))]) (h1 := hO R g60) (by decide +kernel) rfl ?_
                      cases h
                      exact m_ri (by decide +kernel)
                    · exact m_cx (q := (245, .invokevirtual 327, 3, 140, 1)) (a := 140) (vs := [.ref 7, .int v57]) (st := []) (d1 := 0) (by decide +kernel) (by decide +kernel) rfl rfl rfl rfl (by decide) (Fr140 e62)
                  · exact m_cx (q := (242, .invokevirtual 334, 3, 137, 1)) (a := 137) (vs := [.ref 7, .int v53]) (st := [.ref 7]) (d1 := 0) (by decide +kernel) (by decide +kernel) rfl rfl rfl rfl (by decide) (Fr137 e58)
                · exact m_cx (q := (239, .invokevirtual 324, 3, 142, 0)) (a := 142) (vs := [.ref 7]) (st := [.ref 7, .ref 7]) (d1 := 0) (by decide +kernel) (by decide +kernel) rfl rfl rfl rfl (by decide) (Fr142 e54)
              · rw [if_neg c51] at h
                by_cases c64 : ((g.2.1 47) (Int32.toNatClampNeg x1)) = 8
                · rw [if_pos c64] at h
                  refine m_go1 (q := (26, .tableswitch 319 1 14 #[70, 78, 94, 123, 170, 170, 210, 225, 248, 264, 286, 301, 319, 303], 70, 0, 0)) (pc1 := 251) (lv1 := [(0, .ref 7), (1, .int x1), (2, .int ((g.2.1 47) (Int32.toNatClampNeg x1))), (3, .int ((g.2.1 48) (Int32.toNatClampNeg x1))), (4, .int ((8 : Int32) * ((g.1 42) - (1 : Int32))))]) (st1 := []) (h1 := hO R g) (by decide +kernel) (m_swx (fun z => m_loc m_ft X (.tableswitch 319 1 14 #[70, 78, 94, 123, 170, 170, 210, 225, 248, 264, 286, 301, 319, 303]) 0 0 26 [(0, .ref 7), (1, .int x1), (2, .int ((g.2.1 47) (Int32.toNatClampNeg x1))), (3, .int ((g.2.1 48) (Int32.toNatClampNeg x1))), (4, .int ((8 : Int32) * ((g.1 42) - (1 : Int32))))] (.int z :: []) (hO R g)) c64 rfl) ?_
                  refine m_gob (c := ¬ (g.1 42) = (12 : Int32)) (t := 265) (f := 260) (L := [(251, .aload_n 0, 1, 0, 0), (252, .getfield 321, 3, 6, 41), (255, .bipush 12, 2, 0, 0), (257, .if_icmp .ne 8, 3, 0, 0)]) (lv1 := [(0, .ref 7), (1, .int x1), (2, .int ((g.2.1 47) (Int32.toNatClampNeg x1))), (3, .int ((g.2.1 48) (Int32.toNatClampNeg x1))), (4, .int ((8 : Int32) * ((g.1 42) - (1 : Int32))))]) (st1 := []) (h1 := hO R g) (by decide +kernel) rfl (fun c65 => ?_) (fun c65 => ?_)
                  · rw [if_pos c65] at h
                    refine m_go (L := [(265, .aload_n 0, 1, 0, 0), (266, .iload_n 3, 1, 0, 0), (267, .iload_n 1, 1, 0, 0), (268, .iconst 1, 1, 0, 0), (269, .iadd, 1, 0, 0)]) (pc1 := 270) (lv1 := [(0, .ref 7), (1, .int x1), (2, .int ((g.2.1 47) (Int32.toNatClampNeg x1))), (3, .int ((g.2.1 48) (Int32.toNatClampNeg x1))), (4, .int ((8 : Int32) * ((g.1 42) - (1 : Int32))))]) (st1 := [.int (x1 + (1 : Int32)), .int ((g.2.1 48) (Int32.toNatClampNeg x1)), .ref 7]) (h1 := hO R g) (by decide +kernel) rfl ?_
                    rcases m_ci_inv h with ⟨v67, g66, e68, h⟩ | ⟨y69, g66, e68, rfl, rfl⟩
                    · refine m_ca (q := (270, .invokevirtual 337, 3, 141, 2)) (a := 141) (vs := [.ref 7, .int ((g.2.1 48) (Int32.toNatClampNeg x1)), .int (x1 + (1 : Int32))]) (st := []) (d1 := 1) (by decide +kernel) rfl rfl rfl rfl (by decide) (Fr141 e68) ?_
                      show m_Run X _ _ 144 273 [(0, .ref 7), (1, .int x1), (2, .int ((g.2.1 47) (Int32.toNatClampNeg x1))), (3, .int ((g.2.1 48) (Int32.toNatClampNeg x1))), (4, .int ((8 : Int32) * ((g.1 42) - (1 : Int32))))] [.int v67] (hO R g66) _ _
                      cases h
                      exact m_ri (by decide +kernel)
                    · exact m_cx (q := (270, .invokevirtual 337, 3, 141, 2)) (a := 141) (vs := [.ref 7, .int ((g.2.1 48) (Int32.toNatClampNeg x1)), .int (x1 + (1 : Int32))]) (st := []) (d1 := 1) (by decide +kernel) (by decide +kernel) rfl rfl rfl rfl (by decide) (Fr141 e68)
                  · rw [if_neg c65] at h
                    refine m_go (L := [(260, .bipush (-2), 2, 0, 0), (262, .goto 11, 3, 0, 0)]) (pc1 := 273) (lv1 := [(0, .ref 7), (1, .int x1), (2, .int ((g.2.1 47) (Int32.toNatClampNeg x1))), (3, .int ((g.2.1 48) (Int32.toNatClampNeg x1))), (4, .int ((8 : Int32) * ((g.1 42) - (1 : Int32))))]) (st1 := [.int (-2 : Int32)]) (h1 := hO R g) (by decide +kernel) rfl ?_
                    cases h
                    exact m_ri (by decide +kernel)
                · rw [if_neg c64] at h
                  by_cases c70 : ((g.2.1 47) (Int32.toNatClampNeg x1)) = 9
                  · rw [if_pos c70] at h
                    refine m_go1 (q := (26, .tableswitch 319 1 14 #[70, 78, 94, 123, 170, 170, 210, 225, 248, 264, 286, 301, 319, 303], 70, 0, 0)) (pc1 := 274) (lv1 := [(0, .ref 7), (1, .int x1), (2, .int ((g.2.1 47) (Int32.toNatClampNeg x1))), (3, .int ((g.2.1 48) (Int32.toNatClampNeg x1))), (4, .int ((8 : Int32) * ((g.1 42) - (1 : Int32))))]) (st1 := []) (h1 := hO R g) (by decide +kernel) (m_swx (fun z => m_loc m_ft X (.tableswitch 319 1 14 #[70, 78, 94, 123, 170, 170, 210, 225, 248, 264, 286, 301, 319, 303]) 0 0 26 [(0, .ref 7), (1, .int x1), (2, .int ((g.2.1 47) (Int32.toNatClampNeg x1))), (3, .int ((g.2.1 48) (Int32.toNatClampNeg x1))), (4, .int ((8 : Int32) * ((g.1 42) - (1 : Int32))))] (.int z :: []) (hO R g)) c70 rfl) ?_
                    refine m_go (L := [(274, .aload_n 0, 1, 0, 0), (275, .getfield 79, 3, 6, 43), (278, .iload 4, 2, 0, 0), (280, .iload_n 3, 1, 0, 0), (281, .iadd, 1, 0, 0), (282, .aload_n 0, 1, 0, 0)]) (pc1 := 283) (lv1 := [(0, .ref 7), (1, .int x1), (2, .int ((g.2.1 47) (Int32.toNatClampNeg x1))), (3, .int ((g.2.1 48) (Int32.toNatClampNeg x1))), (4, .int ((8 : Int32) * ((g.1 42) - (1 : Int32))))]) (st1 := [.ref 7, .int (((8 : Int32) * ((g.1 42) - (1 : Int32))) + ((g.2.1 48) (Int32.toNatClampNeg x1))), .ref 55]) (h1 := hO R g) (by decide +kernel) rfl ?_
                    rcases m_ci_inv h with ⟨v72, g71, e73, h⟩ | ⟨y74, g71, e73, rfl, rfl⟩
                    · refine m_ca (q := (283, .invokevirtual 324, 3, 142, 0)) (a := 142) (vs := [.ref 7]) (st := [.int (((8 : Int32) * ((g.1 42) - (1 : Int32))) + ((g.2.1 48) (Int32.toNatClampNeg x1))), .ref 55]) (d1 := 0) (by decide +kernel) rfl rfl rfl rfl (by decide) (Fr142 e73) ?_
                      show m_Run X _ _ 144 286 [(0, .ref 7), (1, .int x1), (2, .int ((g.2.1 47) (Int32.toNatClampNeg x1))), (3, .int ((g.2.1 48) (Int32.toNatClampNeg x1))), (4, .int ((8 : Int32) * ((g.1 42) - (1 : Int32))))] [.int v72, .int (((8 : Int32) * ((g.1 42) - (1 : Int32))) + ((g.2.1 48) (Int32.toNatClampNeg x1))), .ref 55] (hO R g71) _ _
                      obtain ⟨c75, h⟩ := m_ifn_inv h
                      refine m_go1 (q := (286, .iastore, 1, 0, 0)) (pc1 := 287) (lv1 := [(0, .ref 7), (1, .int x1), (2, .int ((g.2.1 47) (Int32.toNatClampNeg x1))), (3, .int ((g.2.1 48) (Int32.toNatClampNeg x1))), (4, .int ((8 : Int32) * ((g.1 42) - (1 : Int32))))]) (st1 := []) (h1 := hO R (gS g71 55 (upd (g71.2.1 55) (Int32.toNatClampNeg (((8 : Int32) * ((g.1 42) - (1 : Int32))) + ((g.2.1 48) (Int32.toNatClampNeg x1)))) v72))) (by decide +kernel) (if_neg c75) ?_
                      refine m_go (L := [(287, .goto 64, 3, 0, 0), (351, .iload_n 1, 1, 0, 0), (352, .iconst 1, 1, 0, 0), (353, .iadd, 1, 0, 0)]) (pc1 := 354) (lv1 := [(0, .ref 7), (1, .int x1), (2, .int ((g.2.1 47) (Int32.toNatClampNeg x1))), (3, .int ((g.2.1 48) (Int32.toNatClampNeg x1))), (4, .int ((8 : Int32) * ((g.1 42) - (1 : Int32))))]) (st1 := [.int (x1 + (1 : Int32))]) (h1 := hO R (gS g71 55 (upd (g71.2.1 55) (Int32.toNatClampNeg (((8 : Int32) * ((g.1 42) - (1 : Int32))) + ((g.2.1 48) (Int32.toNatClampNeg x1)))) v72))) (by decide +kernel) rfl ?_
                      cases h
                      exact m_ri (by decide +kernel)
                    · exact m_cx (q := (283, .invokevirtual 324, 3, 142, 0)) (a := 142) (vs := [.ref 7]) (st := [.int (((8 : Int32) * ((g.1 42) - (1 : Int32))) + ((g.2.1 48) (Int32.toNatClampNeg x1))), .ref 55]) (d1 := 0) (by decide +kernel) (by decide +kernel) rfl rfl rfl rfl (by decide) (Fr142 e73)
                  · rw [if_neg c70] at h
                    by_cases c76 : ((g.2.1 47) (Int32.toNatClampNeg x1)) = 10
                    · rw [if_pos c76] at h
                      refine m_go1 (q := (26, .tableswitch 319 1 14 #[70, 78, 94, 123, 170, 170, 210, 225, 248, 264, 286, 301, 319, 303], 70, 0, 0)) (pc1 := 290) (lv1 := [(0, .ref 7), (1, .int x1), (2, .int ((g.2.1 47) (Int32.toNatClampNeg x1))), (3, .int ((g.2.1 48) (Int32.toNatClampNeg x1))), (4, .int ((8 : Int32) * ((g.1 42) - (1 : Int32))))]) (st1 := []) (h1 := hO R g) (by decide +kernel) (m_swx (fun z => m_loc m_ft X (.tableswitch 319 1 14 #[70, 78, 94, 123, 170, 170, 210, 225, 248, 264, 286, 301, 319, 303]) 0 0 26 [(0, .ref 7), (1, .int x1), (2, .int ((g.2.1 47) (Int32.toNatClampNeg x1))), (3, .int ((g.2.1 48) (Int32.toNatClampNeg x1))), (4, .int ((8 : Int32) * ((g.1 42) - (1 : Int32))))] (.int z :: []) (hO R g)) c76 rfl) ?_
                      refine m_go (L := [(290, .aload_n 0, 1, 0, 0)]) (pc1 := 291) (lv1 := [(0, .ref 7), (1, .int x1), (2, .int ((g.2.1 47) (Int32.toNatClampNeg x1))), (3, .int ((g.2.1 48) (Int32.toNatClampNeg x1))), (4, .int ((8 : Int32) * ((g.1 42) - (1 : Int32))))]) (st1 := [.ref 7]) (h1 := hO R g) (by decide +kernel) rfl ?_
                      rcases m_ci_inv h with ⟨v78, g77, e79, h⟩ | ⟨y80, g77, e79, rfl, rfl⟩
                      · refine m_ca (q := (291, .invokevirtual 324, 3, 142, 0)) (a := 142) (vs := [.ref 7]) (st := []) (d1 := 0) (by decide +kernel) rfl rfl rfl rfl (by decide) (Fr142 e79) ?_
                        show m_Run X _ _ 144 294 [(0, .ref 7), (1, .int x1), (2, .int ((g.2.1 47) (Int32.toNatClampNeg x1))), (3, .int ((g.2.1 48) (Int32.toNatClampNeg x1))), (4, .int ((8 : Int32) * ((g.1 42) - (1 : Int32))))] [.int v78] (hO R g77) _ _
                        refine m_go (L := [(294, .istore 8, 2, 0, 0), (296, .aload_n 0, 1, 0, 0), (297, .aload_n 0, 1, 0, 0)]) (pc1 := 298) (lv1 := [(0, .ref 7), (1, .int x1), (2, .int ((g.2.1 47) (Int32.toNatClampNeg x1))), (3, .int ((g.2.1 48) (Int32.toNatClampNeg x1))), (4, .int ((8 : Int32) * ((g.1 42) - (1 : Int32)))), (8, .int v78)]) (st1 := [.ref 7, .ref 7]) (h1 := hO R g77) (by decide +kernel) rfl ?_
                        rcases m_ci_inv h with ⟨v82, g81, e83, h⟩ | ⟨y84, g81, e83, rfl, rfl⟩
                        · refine m_ca (q := (298, .invokevirtual 324, 3, 142, 0)) (a := 142) (vs := [.ref 7]) (st := [.ref 7]) (d1 := 0) (by decide +kernel) rfl rfl rfl rfl (by decide) (Fr142 e83) ?_
                          show m_Run X _ _ 144 301 [(0, .ref 7), (1, .int x1), (2, .int ((g.2.1 47) (Int32.toNatClampNeg x1))), (3, .int ((g.2.1 48) (Int32.toNatClampNeg x1))), (4, .int ((8 : Int32) * ((g.1 42) - (1 : Int32)))), (8, .int v78)] [.int v82, .ref 7] (hO R g81) _ _
                          refine m_go (L := [(301, .iload 8, 2, 0, 0)]) (pc1 := 303) (lv1 := [(0, .ref 7), (1, .int x1), (2, .int ((g.2.1 47) (Int32.toNatClampNeg x1))), (3, .int ((g.2.1 48) (Int32.toNatClampNeg x1))), (4, .int ((8 : Int32) * ((g.1 42) - (1 : Int32)))), (8, .int v78)]) (st1 := [.int v78, .int v82, .ref 7]) (h1 := hO R g81) (by decide +kernel) rfl ?_
                          rcases m_ci_inv h with ⟨v86, g85, e87, h⟩ | ⟨y88, g85, e87, rfl, rfl⟩
                          · refine m_ca (q := (303, .invokevirtual 340, 3, 147, 2)) (a := 147) (vs := [.ref 7, .int v82, .int v78]) (st := []) (d1 := 0) (by decide +kernel) rfl rfl rfl rfl (by decide) (Fr147 e87) ?_
                            show m_Run X _ _ 144 306 [(0, .ref 7), (1, .int x1), (2, .int ((g.2.1 47) (Int32.toNatClampNeg x1))), (3, .int ((g.2.1 48) (Int32.toNatClampNeg x1))), (4, .int ((8 : Int32) * ((g.1 42) - (1 : Int32)))), (8, .int v78)] [.int v86] (hO R g85) _ _
                            refine m_gob (c := ¬ v86 = 0) (t := 351) (f := 309) (L := [(306, .ifCond .ne 45, 3, 0, 0)]) (lv1 := [(0, .ref 7), (1, .int x1), (2, .int ((g.2.1 47) (Int32.toNatClampNeg x1))), (3, .int ((g.2.1 48) (Int32.toNatClampNeg x1))), (4, .int ((8 : Int32) * ((g.1 42) - (1 : Int32)))), (8, .int v78)]) (st1 := []) (h1 := hO R g85) (by decide +kernel) rfl (fun c89 => ?_) (fun c89 => ?_)
                            · rw [if_pos c89] at h
                              refine m_go (L := [(351, .iload_n 1, 1, 0, 0), (352, .iconst 1, 1, 0, 0), (353, .iadd, 1, 0, 0)]) (pc1 := 354) (lv1 := [(0, .ref 7), (1, .int x1), (2, .int ((g.2.1 47) (Int32.toNatClampNeg x1))), (3, .int ((g.2.1 48) (Int32.toNatClampNeg x1))), (4, .int ((8 : Int32) * ((g.1 42) - (1 : Int32)))), (8, .int v78)]) (st1 := [.int (x1 + (1 : Int32))]) (h1 := hO R g85) (by decide +kernel) rfl ?_
                              cases h
                              exact m_ri (by decide +kernel)
                            · rw [if_neg c89] at h
                              refine m_go (L := [(309, .bipush (-2), 2, 0, 0)]) (pc1 := 311) (lv1 := [(0, .ref 7), (1, .int x1), (2, .int ((g.2.1 47) (Int32.toNatClampNeg x1))), (3, .int ((g.2.1 48) (Int32.toNatClampNeg x1))), (4, .int ((8 : Int32) * ((g.1 42) - (1 : Int32)))), (8, .int v78)]) (st1 := [.int (-2 : Int32)]) (h1 := hO R g85) (by decide +kernel) rfl ?_
                              cases h
                              exact m_ri (by decide +kernel)
                          · exact m_cx (q := (303, .invokevirtual 340, 3, 147, 2)) (a := 147) (vs := [.ref 7, .int v82, .int v78]) (st := []) (d1 := 0) (by decide +kernel) (by decide +kernel) rfl rfl rfl rfl (by decide) (Fr147 e87)
                        · exact m_cx (q := (298, .invokevirtual 324, 3, 142, 0)) (a := 142) (vs := [.ref 7]) (st := [.ref 7]) (d1 := 0) (by decide +kernel) (by decide +kernel) rfl rfl rfl rfl (by decide) (Fr142 e83)
                      · exact m_cx (q := (291, .invokevirtual 324, 3, 142, 0)) (a := 142) (vs := [.ref 7]) (st := []) (d1 := 0) (by decide +kernel) (by decide +kernel) rfl rfl rfl rfl (by decide) (Fr142 e79)
                    · rw [if_neg c76] at h
                      by_cases c90 : ((g.2.1 47) (Int32.toNatClampNeg x1)) = 11
                      · rw [if_pos c90] at h
                        refine m_go1 (q := (26, .tableswitch 319 1 14 #[70, 78, 94, 123, 170, 170, 210, 225, 248, 264, 286, 301, 319, 303], 70, 0, 0)) (pc1 := 312) (lv1 := [(0, .ref 7), (1, .int x1), (2, .int ((g.2.1 47) (Int32.toNatClampNeg x1))), (3, .int ((g.2.1 48) (Int32.toNatClampNeg x1))), (4, .int ((8 : Int32) * ((g.1 42) - (1 : Int32))))]) (st1 := []) (h1 := hO R g) (by decide +kernel) (m_swx (fun z => m_loc m_ft X (.tableswitch 319 1 14 #[70, 78, 94, 123, 170, 170, 210, 225, 248, 264, 286, 301, 319, 303]) 0 0 26 [(0, .ref 7), (1, .int x1), (2, .int ((g.2.1 47) (Int32.toNatClampNeg x1))), (3, .int ((g.2.1 48) (Int32.toNatClampNeg x1))), (4, .int ((8 : Int32) * ((g.1 42) - (1 : Int32))))] (.int z :: []) (hO R g)) c90 rfl) ?_
                        refine m_go (L := [(312, .aload_n 0, 1, 0, 0)]) (pc1 := 313) (lv1 := [(0, .ref 7), (1, .int x1), (2, .int ((g.2.1 47) (Int32.toNatClampNeg x1))), (3, .int ((g.2.1 48) (Int32.toNatClampNeg x1))), (4, .int ((8 : Int32) * ((g.1 42) - (1 : Int32))))]) (st1 := [.ref 7]) (h1 := hO R g) (by decide +kernel) rfl ?_
                        rcases m_ci_inv h with ⟨v92, g91, e93, h⟩ | ⟨y94, g91, e93, rfl, rfl⟩
                        · refine m_ca (q := (313, .invokevirtual 324, 3, 142, 0)) (a := 142) (vs := [.ref 7]) (st := []) (d1 := 0) (by decide +kernel) rfl rfl rfl rfl (by decide) (Fr142 e93) ?_
                          show m_Run X _ _ 144 316 [(0, .ref 7), (1, .int x1), (2, .int ((g.2.1 47) (Int32.toNatClampNeg x1))), (3, .int ((g.2.1 48) (Int32.toNatClampNeg x1))), (4, .int ((8 : Int32) * ((g.1 42) - (1 : Int32))))] [.int v92] (hO R g91) _ _
                          refine m_gob (c := ¬ v92 = 0) (t := 323) (f := 319) (L := [(316, .ifCond .ne 7, 3, 0, 0)]) (lv1 := [(0, .ref 7), (1, .int x1), (2, .int ((g.2.1 47) (Int32.toNatClampNeg x1))), (3, .int ((g.2.1 48) (Int32.toNatClampNeg x1))), (4, .int ((8 : Int32) * ((g.1 42) - (1 : Int32))))]) (st1 := []) (h1 := hO R g91) (by decide +kernel) rfl (fun c95 => ?_) (fun c95 => ?_)
                          · rw [if_pos c95] at h
                            refine m_go (L := [(323, .iload_n 1, 1, 0, 0), (324, .iconst 1, 1, 0, 0), (325, .iadd, 1, 0, 0)]) (pc1 := 326) (lv1 := [(0, .ref 7), (1, .int x1), (2, .int ((g.2.1 47) (Int32.toNatClampNeg x1))), (3, .int ((g.2.1 48) (Int32.toNatClampNeg x1))), (4, .int ((8 : Int32) * ((g.1 42) - (1 : Int32))))]) (st1 := [.int (x1 + (1 : Int32))]) (h1 := hO R g91) (by decide +kernel) rfl ?_
                            cases h
                            exact m_ri (by decide +kernel)
                          · rw [if_neg c95] at h
                            refine m_go (L := [(319, .iload_n 3, 1, 0, 0), (320, .goto 6, 3, 0, 0)]) (pc1 := 326) (lv1 := [(0, .ref 7), (1, .int x1), (2, .int ((g.2.1 47) (Int32.toNatClampNeg x1))), (3, .int ((g.2.1 48) (Int32.toNatClampNeg x1))), (4, .int ((8 : Int32) * ((g.1 42) - (1 : Int32))))]) (st1 := [.int ((g.2.1 48) (Int32.toNatClampNeg x1))]) (h1 := hO R g91) (by decide +kernel) rfl ?_
                            cases h
                            exact m_ri (by decide +kernel)
                        · exact m_cx (q := (313, .invokevirtual 324, 3, 142, 0)) (a := 142) (vs := [.ref 7]) (st := []) (d1 := 0) (by decide +kernel) (by decide +kernel) rfl rfl rfl rfl (by decide) (Fr142 e93)
                      · rw [if_neg c90] at h
                        by_cases c96 : ((g.2.1 47) (Int32.toNatClampNeg x1)) = 12
                        · rw [if_pos c96] at h
                          refine m_go1 (q := (26, .tableswitch 319 1 14 #[70, 78, 94, 123, 170, 170, 210, 225, 248, 264, 286, 301, 319, 303], 70, 0, 0)) (pc1 := 327) (lv1 := [(0, .ref 7), (1, .int x1), (2, .int ((g.2.1 47) (Int32.toNatClampNeg x1))), (3, .int ((g.2.1 48) (Int32.toNatClampNeg x1))), (4, .int ((8 : Int32) * ((g.1 42) - (1 : Int32))))]) (st1 := []) (h1 := hO R g) (by decide +kernel) (m_swx (fun z => m_loc m_ft X (.tableswitch 319 1 14 #[70, 78, 94, 123, 170, 170, 210, 225, 248, 264, 286, 301, 319, 303]) 0 0 26 [(0, .ref 7), (1, .int x1), (2, .int ((g.2.1 47) (Int32.toNatClampNeg x1))), (3, .int ((g.2.1 48) (Int32.toNatClampNeg x1))), (4, .int ((8 : Int32) * ((g.1 42) - (1 : Int32))))] (.int z :: []) (hO R g)) c96 rfl) ?_
                          refine m_go (L := [(327, .iload_n 3, 1, 0, 0)]) (pc1 := 328) (lv1 := [(0, .ref 7), (1, .int x1), (2, .int ((g.2.1 47) (Int32.toNatClampNeg x1))), (3, .int ((g.2.1 48) (Int32.toNatClampNeg x1))), (4, .int ((8 : Int32) * ((g.1 42) - (1 : Int32))))]) (st1 := [.int ((g.2.1 48) (Int32.toNatClampNeg x1))]) (h1 := hO R g) (by decide +kernel) rfl ?_
                          cases h
                          exact m_ri (by decide +kernel)
                        · rw [if_neg c96] at h
                          by_cases c97 : ((g.2.1 47) (Int32.toNatClampNeg x1)) = 14
                          · rw [if_pos c97] at h
                            refine m_go1 (q := (26, .tableswitch 319 1 14 #[70, 78, 94, 123, 170, 170, 210, 225, 248, 264, 286, 301, 319, 303], 70, 0, 0)) (pc1 := 329) (lv1 := [(0, .ref 7), (1, .int x1), (2, .int ((g.2.1 47) (Int32.toNatClampNeg x1))), (3, .int ((g.2.1 48) (Int32.toNatClampNeg x1))), (4, .int ((8 : Int32) * ((g.1 42) - (1 : Int32))))]) (st1 := []) (h1 := hO R g) (by decide +kernel) (m_swx (fun z => m_loc m_ft X (.tableswitch 319 1 14 #[70, 78, 94, 123, 170, 170, 210, 225, 248, 264, 286, 301, 319, 303]) 0 0 26 [(0, .ref 7), (1, .int x1), (2, .int ((g.2.1 47) (Int32.toNatClampNeg x1))), (3, .int ((g.2.1 48) (Int32.toNatClampNeg x1))), (4, .int ((8 : Int32) * ((g.1 42) - (1 : Int32))))] (.int z :: []) (hO R g)) c97 rfl) ?_
                            refine m_go (L := [(329, .aload_n 0, 1, 0, 0)]) (pc1 := 330) (lv1 := [(0, .ref 7), (1, .int x1), (2, .int ((g.2.1 47) (Int32.toNatClampNeg x1))), (3, .int ((g.2.1 48) (Int32.toNatClampNeg x1))), (4, .int ((8 : Int32) * ((g.1 42) - (1 : Int32))))]) (st1 := [.ref 7]) (h1 := hO R g) (by decide +kernel) rfl ?_
                            rcases m_ci_inv h with ⟨v99, g98, e100, h⟩ | ⟨y101, g98, e100, rfl, rfl⟩
                            · refine m_ca (q := (330, .invokevirtual 324, 3, 142, 0)) (a := 142) (vs := [.ref 7]) (st := []) (d1 := 0) (by decide +kernel) rfl rfl rfl rfl (by decide) (Fr142 e100) ?_
                              show m_Run X _ _ 144 333 [(0, .ref 7), (1, .int x1), (2, .int ((g.2.1 47) (Int32.toNatClampNeg x1))), (3, .int ((g.2.1 48) (Int32.toNatClampNeg x1))), (4, .int ((8 : Int32) * ((g.1 42) - (1 : Int32))))] [.int v99] (hO R g98) _ _
                              refine m_gob (c := ¬ v99 = 0) (t := 341) (f := 336) (L := [(333, .ifCond .ne 8, 3, 0, 0)]) (lv1 := [(0, .ref 7), (1, .int x1), (2, .int ((g.2.1 47) (Int32.toNatClampNeg x1))), (3, .int ((g.2.1 48) (Int32.toNatClampNeg x1))), (4, .int ((8 : Int32) * ((g.1 42) - (1 : Int32))))]) (st1 := []) (h1 := hO R g98) (by decide +kernel) rfl (fun c102 => ?_) (fun c102 => ?_)
                              · rw [if_pos c102] at h
                                refine m_go (L := [(341, .iload_n 1, 1, 0, 0), (342, .iconst 1, 1, 0, 0), (343, .iadd, 1, 0, 0)]) (pc1 := 344) (lv1 := [(0, .ref 7), (1, .int x1), (2, .int ((g.2.1 47) (Int32.toNatClampNeg x1))), (3, .int ((g.2.1 48) (Int32.toNatClampNeg x1))), (4, .int ((8 : Int32) * ((g.1 42) - (1 : Int32))))]) (st1 := [.int (x1 + (1 : Int32))]) (h1 := hO R g98) (by decide +kernel) rfl ?_
                                cases h
                                exact m_ri (by decide +kernel)
                              · rw [if_neg c102] at h
                                refine m_go (L := [(336, .bipush (-3), 2, 0, 0), (338, .goto 6, 3, 0, 0)]) (pc1 := 344) (lv1 := [(0, .ref 7), (1, .int x1), (2, .int ((g.2.1 47) (Int32.toNatClampNeg x1))), (3, .int ((g.2.1 48) (Int32.toNatClampNeg x1))), (4, .int ((8 : Int32) * ((g.1 42) - (1 : Int32))))]) (st1 := [.int (-3 : Int32)]) (h1 := hO R g98) (by decide +kernel) rfl ?_
                                cases h
                                exact m_ri (by decide +kernel)
                            · exact m_cx (q := (330, .invokevirtual 324, 3, 142, 0)) (a := 142) (vs := [.ref 7]) (st := []) (d1 := 0) (by decide +kernel) (by decide +kernel) rfl rfl rfl rfl (by decide) (Fr142 e100)
                          · rw [if_neg c97] at h
                            have hx : m_loc m_ft X (.tableswitch 319 1 14 #[70, 78, 94, 123, 170, 170, 210, 225, 248, 264, 286, 301, 319, 303]) 0 0 26 [(0, .ref 7), (1, .int x1), (2, .int ((g.2.1 47) (Int32.toNatClampNeg x1))), (3, .int ((g.2.1 48) (Int32.toNatClampNeg x1))), (4, .int ((8 : Int32) * ((g.1 42) - (1 : Int32))))] ([.int ((g.2.1 47) (Int32.toNatClampNeg x1))]) (hO R g) = some (345, [(0, .ref 7), (1, .int x1), (2, .int ((g.2.1 47) (Int32.toNatClampNeg x1))), (3, .int ((g.2.1 48) (Int32.toNatClampNeg x1))), (4, .int ((8 : Int32) * ((g.1 42) - (1 : Int32))))], [], hO R g) := by
                              by_cases hz : Int32.toInt ((g.2.1 47) (Int32.toNatClampNeg x1)) < 1 ∨ 14 < Int32.toInt ((g.2.1 47) (Int32.toNatClampNeg x1))
                              · exact if_pos hz
                              · have z0 := m_ne (k := 1) (z := 1) (by decide) c3; have z1 := m_ne (k := 2) (z := 2) (by decide) c8; have z2 := m_ne (k := 3) (z := 3) (by decide) c14; have z3 := m_ne (k := 4) (z := 4) (by decide) c24; have z4 := m_ne (k := 5) (z := 5) (by decide) c44; have z5 := m_ne (k := 6) (z := 6) (by decide) c48; have z6 := m_ne (k := 7) (z := 7) (by decide) c51; have z7 := m_ne (k := 8) (z := 8) (by decide) c64; have z8 := m_ne (k := 9) (z := 9) (by decide) c70; have z9 := m_ne (k := 10) (z := 10) (by decide) c76; have z10 := m_ne (k := 11) (z := 11) (by decide) c90; have z11 := m_ne (k := 12) (z := 12) (by decide) c96; have z12 := m_ne (k := 14) (z := 14) (by decide) c97; have hw : ((g.2.1 47) (Int32.toNatClampNeg x1)) = 13 := by
                                  have hv : Int32.toInt ((g.2.1 47) (Int32.toNatClampNeg x1)) = 13 := by omega
                                  exact Int32.toInt_inj.mp hv
                                exact m_swx (fun z => m_loc m_ft X (.tableswitch 319 1 14 #[70, 78, 94, 123, 170, 170, 210, 225, 248, 264, 286, 301, 319, 303]) 0 0 26 [(0, .ref 7), (1, .int x1), (2, .int ((g.2.1 47) (Int32.toNatClampNeg x1))), (3, .int ((g.2.1 48) (Int32.toNatClampNeg x1))), (4, .int ((8 : Int32) * ((g.1 42) - (1 : Int32))))] (.int z :: []) (hO R g)) hw rfl
                            refine m_go1 (q := (26, .tableswitch 319 1 14 #[70, 78, 94, 123, 170, 170, 210, 225, 248, 264, 286, 301, 319, 303], 70, 0, 0)) (by decide +kernel) hx ?_
                            refine m_go (L := [(345, .aload_n 0, 1, 0, 0), (346, .iload_n 2, 1, 0, 0)]) (pc1 := 347) (lv1 := [(0, .ref 7), (1, .int x1), (2, .int ((g.2.1 47) (Int32.toNatClampNeg x1))), (3, .int ((g.2.1 48) (Int32.toNatClampNeg x1))), (4, .int ((8 : Int32) * ((g.1 42) - (1 : Int32))))]) (st1 := [.int ((g.2.1 47) (Int32.toNatClampNeg x1)), .ref 7]) (h1 := hO R g) (by decide +kernel) rfl ?_
                            rcases m_ci_inv h with ⟨v104, g103, e105, h⟩ | ⟨y106, g103, e105, rfl, rfl⟩
                            · refine m_ca (q := (347, .invokevirtual 344, 3, 148, 1)) (a := 148) (vs := [.ref 7, .int ((g.2.1 47) (Int32.toNatClampNeg x1))]) (st := []) (d1 := 1) (by decide +kernel) rfl rfl rfl rfl (by decide) (Fr148 e105) ?_
                              show m_Run X _ _ 144 350 [(0, .ref 7), (1, .int x1), (2, .int ((g.2.1 47) (Int32.toNatClampNeg x1))), (3, .int ((g.2.1 48) (Int32.toNatClampNeg x1))), (4, .int ((8 : Int32) * ((g.1 42) - (1 : Int32))))] [.int v104] (hO R g103) _ _
                              cases h
                              exact m_ri (by decide +kernel)
                            · exact m_cx (q := (347, .invokevirtual 344, 3, 148, 1)) (a := 148) (vs := [.ref 7, .int ((g.2.1 47) (Int32.toNatClampNeg x1))]) (st := []) (d1 := 1) (by decide +kernel) (by decide +kernel) rfl rfl rfl rfl (by decide) (Fr148 e105)
def f139_328 (n : Nat) : Nat → Int32 → Int32 → mG → mZ
  | 0, _, _, _ => none
  | c + 1, x8, x9, g => if (g.1 39) ≤ x9 then some (.inl (some (.int ((-1 : Int32) - x8))), g) else if x9 < 0 ∨ 32 ≤ Int32.toNatClampNeg x9 then none else if x9 < 0 ∨ 32 ≤ Int32.toNatClampNeg x9 then none else if x9 < 0 ∨ 32 ≤ Int32.toNatClampNeg x9 then none else if x9 < 0 ∨ 32 ≤ Int32.toNatClampNeg x9 then none else f139_328 n c x8 (x9 + (1 : Int32)) (gS (gS g 49 (upd (g.2.1 49) (Int32.toNatClampNeg x9) ((g.2.1 51) (Int32.toNatClampNeg x9)))) 50 (upd (g.2.1 50) (Int32.toNatClampNeg x9) ((g.2.1 52) (Int32.toNatClampNeg x9))))
set_option maxRecDepth 20000 in
theorem Fr139_328 {R : Nat} : ∀ (c : Nat) (x8 : Int32) (x9 : Int32) (g g' : mG) (o : mO), f139_328 n c x8 x9 g = some (o, g') → m_Run X (3) (m_ko o) 139 328 [(0, .ref 7), (8, .int x8), (9, .int x9)] [] (hO R g) o (hO R g') := by
  intro c
  induction c with
  | zero => intro x8 x9 g g' o h; rw [f139_328] at h; cases h
  | succ c ih =>
    intro x8 x9 g g' o h
    rw [f139_328] at h
    refine m_gob (c := (g.1 39) ≤ x9) (t := 371) (f := 337) (L := [(328, .iload 9, 2, 0, 0), (330, .aload_n 0, 1, 0, 0), (331, .getfield 314, 3, 6, 32), (334, .if_icmp .ge 37, 3, 0, 0)]) (lv1 := [(0, .ref 7), (8, .int x8), (9, .int x9)]) (st1 := []) (h1 := hO R g) (by decide +kernel) rfl (fun c26 => ?_) (fun c26 => ?_)
    · rw [if_pos c26] at h
      refine m_go (L := [(371, .iconst (-1), 1, 0, 0), (372, .iload 8, 2, 0, 0), (374, .isub, 1, 0, 0)]) (pc1 := 375) (lv1 := [(0, .ref 7), (8, .int x8), (9, .int x9)]) (st1 := [.int ((-1 : Int32) - x8)]) (h1 := hO R g) (by decide +kernel) rfl ?_
      cases h
      exact m_ri (by decide +kernel)
    · rw [if_neg c26] at h
      refine m_go (L := [(337, .aload_n 0, 1, 0, 0), (338, .getfield 61, 3, 6, 33), (341, .iload 9, 2, 0, 0), (343, .aload_n 0, 1, 0, 0), (344, .getfield 67, 3, 6, 36), (347, .iload 9, 2, 0, 0)]) (pc1 := 349) (lv1 := [(0, .ref 7), (8, .int x8), (9, .int x9)]) (st1 := [.int x9, .ref 51, .int x9, .ref 49]) (h1 := hO R g) (by decide +kernel) rfl ?_
      obtain ⟨c27, h⟩ := m_ifn_inv h
      refine m_go1 (q := (349, .iaload, 1, 0, 0)) (pc1 := 350) (lv1 := [(0, .ref 7), (8, .int x8), (9, .int x9)]) (st1 := [.int ((g.2.1 51) (Int32.toNatClampNeg x9)), .int x9, .ref 49]) (h1 := hO R g) (by decide +kernel) (if_neg c27) ?_
      obtain ⟨c28, h⟩ := m_ifn_inv h
      refine m_go1 (q := (350, .iastore, 1, 0, 0)) (pc1 := 351) (lv1 := [(0, .ref 7), (8, .int x8), (9, .int x9)]) (st1 := []) (h1 := hO R (gS g 49 (upd (g.2.1 49) (Int32.toNatClampNeg x9) ((g.2.1 51) (Int32.toNatClampNeg x9))))) (by decide +kernel) (if_neg c28) ?_
      refine m_go (L := [(351, .aload_n 0, 1, 0, 0), (352, .getfield 64, 3, 6, 34), (355, .iload 9, 2, 0, 0), (357, .aload_n 0, 1, 0, 0), (358, .getfield 70, 3, 6, 37), (361, .iload 9, 2, 0, 0)]) (pc1 := 363) (lv1 := [(0, .ref 7), (8, .int x8), (9, .int x9)]) (st1 := [.int x9, .ref 52, .int x9, .ref 50]) (h1 := hO R (gS g 49 (upd (g.2.1 49) (Int32.toNatClampNeg x9) ((g.2.1 51) (Int32.toNatClampNeg x9))))) (by decide +kernel) rfl ?_
      obtain ⟨c29, h⟩ := m_ifn_inv h
      refine m_go1 (q := (363, .iaload, 1, 0, 0)) (pc1 := 364) (lv1 := [(0, .ref 7), (8, .int x8), (9, .int x9)]) (st1 := [.int ((g.2.1 52) (Int32.toNatClampNeg x9)), .int x9, .ref 50]) (h1 := hO R (gS g 49 (upd (g.2.1 49) (Int32.toNatClampNeg x9) ((g.2.1 51) (Int32.toNatClampNeg x9))))) (by decide +kernel) (if_neg c29) ?_
      obtain ⟨c30, h⟩ := m_ifn_inv h
      refine m_go1 (q := (364, .iastore, 1, 0, 0)) (pc1 := 365) (lv1 := [(0, .ref 7), (8, .int x8), (9, .int x9)]) (st1 := []) (h1 := hO R (gS (gS g 49 (upd (g.2.1 49) (Int32.toNatClampNeg x9) ((g.2.1 51) (Int32.toNatClampNeg x9)))) 50 (upd (g.2.1 50) (Int32.toNatClampNeg x9) ((g.2.1 52) (Int32.toNatClampNeg x9))))) (by decide +kernel) (if_neg c30) ?_
      refine m_go (L := [(365, .iinc 9 1, 3, 0, 0), (368, .goto (-40), 3, 0, 0)]) (pc1 := 328) (lv1 := [(0, .ref 7), (8, .int x8), (9, .int (x9 + (1 : Int32)))]) (st1 := []) (h1 := hO R (gS (gS g 49 (upd (g.2.1 49) (Int32.toNatClampNeg x9) ((g.2.1 51) (Int32.toNatClampNeg x9)))) 50 (upd (g.2.1 50) (Int32.toNatClampNeg x9) ((g.2.1 52) (Int32.toNatClampNeg x9))))) (by decide +kernel) rfl ?_
      exact m_r0 _ _ _ _ _ _ _ _ _ _ (m_pick [0, 1, 2] rfl) (ih _ _ _ _ _ h)
def f139_308 (n : Nat) (x8 : Int32) (s1 : Int32) (g : mG) : mZ := if (-1 : Int32) ≤ x8 then some (.inl (some (.int ((-1 : Int32) - x8))), (gI g 44 s1)) else f139_328 n n x8 (0 : Int32) (gI (gI g 44 s1) 39 (g.1 40))
theorem Fr139_308 {R : Nat} {x8 : Int32} {s1 : Int32} {g g' : mG} {o : mO} (h : f139_308 n x8 s1 g = some (o, g')) : m_Run X (3) (m_ko o) 139 308 [(0, .ref 7), (8, .int x8)] [.int s1, .ref 7] (hO R g) o (hO R g') := by
  unfold f139_308 at h
  refine m_gob (c := (-1 : Int32) ≤ x8) (t := 371) (f := 317) (L := [(308, .putfield 367, 3, 6, 45), (311, .iload 8, 2, 0, 0), (313, .iconst (-1), 1, 0, 0), (314, .if_icmp .ge 57, 3, 0, 0)]) (lv1 := [(0, .ref 7), (8, .int x8)]) (st1 := []) (h1 := hO R (gI g 44 s1)) (by decide +kernel) rfl (fun c25 => ?_) (fun c25 => ?_)
  · rw [if_pos c25] at h
    refine m_go (L := [(371, .iconst (-1), 1, 0, 0), (372, .iload 8, 2, 0, 0), (374, .isub, 1, 0, 0)]) (pc1 := 375) (lv1 := [(0, .ref 7), (8, .int x8)]) (st1 := [.int ((-1 : Int32) - x8)]) (h1 := hO R (gI g 44 s1)) (by decide +kernel) rfl ?_
    cases h
    exact m_ri (by decide +kernel)
  · rw [if_neg c25] at h
    refine m_go (L := [(317, .aload_n 0, 1, 0, 0), (318, .aload_n 0, 1, 0, 0), (319, .getfield 348, 3, 6, 35), (322, .putfield 314, 3, 6, 32), (325, .iconst 0, 1, 0, 0), (326, .istore 9, 2, 0, 0)]) (pc1 := 328) (lv1 := [(0, .ref 7), (8, .int x8), (9, .int (0 : Int32))]) (st1 := []) (h1 := hO R (gI (gI g 44 s1) 39 (g.1 40))) (by decide +kernel) rfl ?_
    exact m_r0 _ _ _ _ _ _ _ _ _ _ (m_pick [0, 1, 2] rfl) (Fr139_328 _ _ _ _ _ _ h)
def f139_289 (n : Nat) (x2 : Int32) (x8 : Int32) (s1 : Int32) (g : mG) : mZ := if ¬ x8 = (-1 : Int32) then f139_308 n x8 x2 (gI g 43 s1) else f139_308 n x8 (Int64.toInt32 g.2.2.1) (gI g 43 s1)
theorem Fr139_289 {R : Nat} {x2 : Int32} {x8 : Int32} {s1 : Int32} {g g' : mG} {o : mO} (h : f139_289 n x2 x8 s1 g = some (o, g')) : m_Run X (3) (m_ko o) 139 289 [(0, .ref 7), (2, .int x2), (8, .int x8)] [.int s1, .ref 7] (hO R g) o (hO R g') := by
  unfold f139_289 at h
  refine m_gob (c := ¬ x8 = (-1 : Int32)) (t := 307) (f := 299) (L := [(289, .putfield 364, 3, 6, 44), (292, .aload_n 0, 1, 0, 0), (293, .iload 8, 2, 0, 0), (295, .iconst (-1), 1, 0, 0), (296, .if_icmp .ne 11, 3, 0, 0)]) (lv1 := [(0, .ref 7), (2, .int x2), (8, .int x8)]) (st1 := [.ref 7]) (h1 := hO R (gI g 43 s1)) (by decide +kernel) rfl (fun c24 => ?_) (fun c24 => ?_)
  · rw [if_pos c24] at h
    refine m_go (L := [(307, .iload_n 2, 1, 0, 0)]) (pc1 := 308) (lv1 := [(0, .ref 7), (2, .int x2), (8, .int x8)]) (st1 := [.int x2, .ref 7]) (h1 := hO R (gI g 43 s1)) (by decide +kernel) rfl ?_
    exact m_r0 _ _ _ _ _ _ _ _ _ _ (m_pick [0, 2] rfl) (Fr139_308 h)
  · rw [if_neg c24] at h
    refine m_go (L := [(299, .aload_n 0, 1, 0, 0), (300, .getfield 351, 3, 6, 38), (303, .l2i, 1, 0, 0), (304, .goto 4, 3, 0, 0)]) (pc1 := 308) (lv1 := [(0, .ref 7), (2, .int x2), (8, .int x8)]) (st1 := [.int (Int64.toInt32 g.2.2.1), .ref 7]) (h1 := hO R (gI g 43 s1)) (by decide +kernel) rfl ?_
    exact m_r0 _ _ _ _ _ _ _ _ _ _ (m_pick [0, 2] rfl) (Fr139_308 h)
def f139_213 (n : Nat) : Nat → Int32 → Int32 → mG → mZ
  | 0, _, _, _ => none
  | c + 1, x2, x8, g => if x8 < 0 then if ¬ x8 = (-1 : Int32) then f139_289 n x2 x8 (0 : Int32) (gI g 45 ((g.1 45) + (1 : Int32))) else m_ci (f142 n (gI g 45 ((g.1 45) + (1 : Int32)))) (fun v32 g31 => f139_289 n x2 x8 v32 g31) else if x8 < 0 ∨ 2400 ≤ Int32.toNatClampNeg x8 then none else m_ci (f143 n ((g.2.1 47) (Int32.toNatClampNeg x8)) g) (fun v37 g36 => if (lg_cmp (g.2.2.1 + (Int32.toInt64 v37)) (Int32.toInt64 x2)) ≤ 0 then m_ci (f144 n x8 (gC g36 (g.2.2.1 + (Int32.toInt64 v37)))) (fun v42 g41 => f139_213 n c x2 v42 g41) else f139_213 n c x2 (-2 : Int32) (gC g36 (g.2.2.1 + (Int32.toInt64 v37))))
set_option maxRecDepth 20000 in
theorem Fr139_213 {R : Nat} : ∀ (c : Nat) (x2 : Int32) (x8 : Int32) (g g' : mG) (o : mO), f139_213 n c x2 x8 g = some (o, g') → m_Run X (3) (m_ko o) 139 213 [(0, .ref 7), (2, .int x2), (8, .int x8)] [] (hO R g) o (hO R g') := by
  intro c
  induction c with
  | zero => intro x2 x8 g g' o h; rw [f139_213] at h; cases h
  | succ c ih =>
    intro x2 x8 g g' o h
    rw [f139_213] at h
    refine m_gob (c := x8 < 0) (t := 264) (f := 218) (L := [(213, .iload 8, 2, 0, 0), (215, .ifCond .lt 49, 3, 0, 0)]) (lv1 := [(0, .ref 7), (2, .int x2), (8, .int x8)]) (st1 := []) (h1 := hO R g) (by decide +kernel) rfl (fun c22 => ?_) (fun c22 => ?_)
    · rw [if_pos c22] at h
      refine m_gob (c := ¬ x8 = (-1 : Int32)) (t := 288) (f := 281) (L := [(264, .aload_n 0, 1, 0, 0), (265, .dup, 1, 0, 0), (266, .getfield 361, 3, 6, 46), (269, .iconst 1, 1, 0, 0), (270, .iadd, 1, 0, 0), (271, .putfield 361, 3, 6, 46), (274, .aload_n 0, 1, 0, 0), (275, .iload 8, 2, 0, 0), (277, .iconst (-1), 1, 0, 0), (278, .if_icmp .ne 10, 3, 0, 0)]) (lv1 := [(0, .ref 7), (2, .int x2), (8, .int x8)]) (st1 := [.ref 7]) (h1 := hO R (gI g 45 ((g.1 45) + (1 : Int32)))) (by decide +kernel) rfl (fun c23 => ?_) (fun c23 => ?_)
      · rw [if_pos c23] at h
        refine m_go (L := [(288, .iconst 0, 1, 0, 0)]) (pc1 := 289) (lv1 := [(0, .ref 7), (2, .int x2), (8, .int x8)]) (st1 := [.int (0 : Int32), .ref 7]) (h1 := hO R (gI g 45 ((g.1 45) + (1 : Int32)))) (by decide +kernel) rfl ?_
        exact m_r0 _ _ _ _ _ _ _ _ _ _ (m_pick [0, 1, 2] rfl) (Fr139_289 h)
      · rw [if_neg c23] at h
        refine m_go (L := [(281, .aload_n 0, 1, 0, 0)]) (pc1 := 282) (lv1 := [(0, .ref 7), (2, .int x2), (8, .int x8)]) (st1 := [.ref 7, .ref 7]) (h1 := hO R (gI g 45 ((g.1 45) + (1 : Int32)))) (by decide +kernel) rfl ?_
        rcases m_ci_inv h with ⟨v32, g31, e33, h⟩ | ⟨y34, g31, e33, rfl, rfl⟩
        · refine m_ca (q := (282, .invokevirtual 324, 3, 142, 0)) (a := 142) (vs := [.ref 7]) (st := [.ref 7]) (d1 := 0) (by decide +kernel) rfl rfl rfl rfl (by decide) (Fr142 e33) ?_
          show m_Run X _ _ 139 285 [(0, .ref 7), (2, .int x2), (8, .int x8)] [.int v32, .ref 7] (hO R g31) _ _
          refine m_go (L := [(285, .goto 4, 3, 0, 0)]) (pc1 := 289) (lv1 := [(0, .ref 7), (2, .int x2), (8, .int x8)]) (st1 := [.int v32, .ref 7]) (h1 := hO R g31) (by decide +kernel) rfl ?_
          exact m_r0 _ _ _ _ _ _ _ _ _ _ (m_pick [0, 1, 2] rfl) (Fr139_289 h)
        · exact m_cx (q := (282, .invokevirtual 324, 3, 142, 0)) (a := 142) (vs := [.ref 7]) (st := [.ref 7]) (d1 := 0) (by decide +kernel) (by decide +kernel) rfl rfl rfl rfl (by decide) (Fr142 e33)
    · rw [if_neg c22] at h
      refine m_go (L := [(218, .aload_n 0, 1, 0, 0), (219, .aload_n 0, 1, 0, 0), (220, .getfield 351, 3, 6, 38), (223, .aload_n 0, 1, 0, 0), (224, .getfield 55, 3, 6, 30), (227, .iload 8, 2, 0, 0)]) (pc1 := 229) (lv1 := [(0, .ref 7), (2, .int x2), (8, .int x8)]) (st1 := [.int x8, .ref 47, .long g.2.2.1, .ref 7]) (h1 := hO R g) (by decide +kernel) rfl ?_
      obtain ⟨c35, h⟩ := m_ifn_inv h
      refine m_go1 (q := (229, .iaload, 1, 0, 0)) (pc1 := 230) (lv1 := [(0, .ref 7), (2, .int x2), (8, .int x8)]) (st1 := [.int ((g.2.1 47) (Int32.toNatClampNeg x8)), .long g.2.2.1, .ref 7]) (h1 := hO R g) (by decide +kernel) (if_neg c35) ?_
      rcases m_ci_inv h with ⟨v37, g36, e38, h⟩ | ⟨y39, g36, e38, rfl, rfl⟩
      · refine m_ca (q := (230, .invokestatic 355, 3, 143, 1)) (a := 143) (vs := [.int ((g.2.1 47) (Int32.toNatClampNeg x8))]) (st := [.long g.2.2.1, .ref 7]) (d1 := 0) (by decide +kernel) rfl rfl rfl rfl (by decide) (Fr143 e38) ?_
        show m_Run X _ _ 139 233 [(0, .ref 7), (2, .int x2), (8, .int x8)] [.int v37, .long g.2.2.1, .ref 7] (hO R g36) _ _
        refine m_gob (c := (lg_cmp (g.2.2.1 + (Int32.toInt64 v37)) (Int32.toInt64 x2)) ≤ 0) (t := 253) (f := 248) (L := [(233, .i2l, 1, 0, 0), (234, .ladd, 1, 0, 0), (235, .putfield 351, 3, 6, 38), (238, .aload_n 0, 1, 0, 0), (239, .getfield 351, 3, 6, 38), (242, .iload_n 2, 1, 0, 0), (243, .i2l, 1, 0, 0), (244, .lcmp, 1, 0, 0), (245, .ifCond .le 8, 3, 0, 0)]) (lv1 := [(0, .ref 7), (2, .int x2), (8, .int x8)]) (st1 := []) (h1 := hO R (gC g36 (g.2.2.1 + (Int32.toInt64 v37)))) (by decide +kernel) rfl (fun c40 => ?_) (fun c40 => ?_)
        · rw [if_pos c40] at h
          refine m_go (L := [(253, .aload_n 0, 1, 0, 0), (254, .iload 8, 2, 0, 0)]) (pc1 := 256) (lv1 := [(0, .ref 7), (2, .int x2), (8, .int x8)]) (st1 := [.int x8, .ref 7]) (h1 := hO R (gC g36 (g.2.2.1 + (Int32.toInt64 v37)))) (by decide +kernel) rfl ?_
          rcases m_ci_inv h with ⟨v42, g41, e43, h⟩ | ⟨y44, g41, e43, rfl, rfl⟩
          · refine m_ca (q := (256, .invokevirtual 358, 3, 144, 1)) (a := 144) (vs := [.ref 7, .int x8]) (st := []) (d1 := 2) (by decide +kernel) rfl rfl rfl rfl (by decide) (Fr144 e43) ?_
            show m_Run X _ _ 139 259 [(0, .ref 7), (2, .int x2), (8, .int x8)] [.int v42] (hO R g41) _ _
            refine m_go (L := [(259, .istore 8, 2, 0, 0), (261, .goto (-48), 3, 0, 0)]) (pc1 := 213) (lv1 := [(0, .ref 7), (2, .int x2), (8, .int v42)]) (st1 := []) (h1 := hO R g41) (by decide +kernel) rfl ?_
            exact m_r0 _ _ _ _ _ _ _ _ _ _ (m_pick [0, 1, 2] rfl) (ih _ _ _ _ _ h)
          · exact m_cx (q := (256, .invokevirtual 358, 3, 144, 1)) (a := 144) (vs := [.ref 7, .int x8]) (st := []) (d1 := 2) (by decide +kernel) (by decide +kernel) rfl rfl rfl rfl (by decide) (Fr144 e43)
        · rw [if_neg c40] at h
          refine m_go (L := [(248, .bipush (-2), 2, 0, 0), (250, .goto 9, 3, 0, 0), (259, .istore 8, 2, 0, 0), (261, .goto (-48), 3, 0, 0)]) (pc1 := 213) (lv1 := [(0, .ref 7), (2, .int x2), (8, .int (-2 : Int32))]) (st1 := []) (h1 := hO R (gC g36 (g.2.2.1 + (Int32.toInt64 v37)))) (by decide +kernel) rfl ?_
          exact m_r0 _ _ _ _ _ _ _ _ _ _ (m_pick [0, 1, 2] rfl) (ih _ _ _ _ _ h)
      · exact m_cx (q := (230, .invokestatic 355, 3, 143, 1)) (a := 143) (vs := [.int ((g.2.1 47) (Int32.toNatClampNeg x8))]) (st := [.long g.2.2.1, .ref 7]) (d1 := 0) (by decide +kernel) (by decide +kernel) rfl rfl rfl rfl (by decide) (Fr143 e38)
def f139_162 (n : Nat) : Nat → Int32 → Int32 → Int32 → Int32 → Int32 → Int32 → mG → mZ
  | 0, _, _, _, _, _, _, _ => none
  | c + 1, x1, x2, x3, x4, x5, x8, g => if x1 < 0 ∨ 8 ≤ Int32.toNatClampNeg x1 then none else if ((g.2.1 46) (Int32.toNatClampNeg x1)) ≤ x8 then m_ci (f141 n x1 (-1 : Int32) g) (fun v19 g18 => f139_213 n n x2 v19 g18) else if ¬ x8 = 0 then if ¬ x8 = (1 : Int32) then m_cv (f140 n x5 g) (fun g47 => f139_162 n c x1 x2 x3 x4 x5 (x8 + (1 : Int32)) g47) else m_cv (f140 n x4 g) (fun g51 => f139_162 n c x1 x2 x3 x4 x5 (x8 + (1 : Int32)) g51) else m_cv (f140 n x3 g) (fun g55 => f139_162 n c x1 x2 x3 x4 x5 (x8 + (1 : Int32)) g55)
set_option maxRecDepth 20000 in
theorem Fr139_162 {R : Nat} : ∀ (c : Nat) (x1 : Int32) (x2 : Int32) (x3 : Int32) (x4 : Int32) (x5 : Int32) (x8 : Int32) (g g' : mG) (o : mO), f139_162 n c x1 x2 x3 x4 x5 x8 g = some (o, g') → m_Run X (3) (m_ko o) 139 162 [(0, .ref 7), (1, .int x1), (2, .int x2), (3, .int x3), (4, .int x4), (5, .int x5), (8, .int x8)] [] (hO R g) o (hO R g') := by
  intro c
  induction c with
  | zero => intro x1 x2 x3 x4 x5 x8 g g' o h; rw [f139_162] at h; cases h
  | succ c ih =>
    intro x1 x2 x3 x4 x5 x8 g g' o h
    rw [f139_162] at h
    refine m_go (L := [(162, .iload 8, 2, 0, 0), (164, .aload_n 0, 1, 0, 0), (165, .getfield 52, 3, 6, 29), (168, .iload_n 1, 1, 0, 0)]) (pc1 := 169) (lv1 := [(0, .ref 7), (1, .int x1), (2, .int x2), (3, .int x3), (4, .int x4), (5, .int x5), (8, .int x8)]) (st1 := [.int x1, .ref 46, .int x8]) (h1 := hO R g) (by decide +kernel) rfl ?_
    obtain ⟨c16, h⟩ := m_ifn_inv h
    refine m_go1 (q := (169, .iaload, 1, 0, 0)) (pc1 := 170) (lv1 := [(0, .ref 7), (1, .int x1), (2, .int x2), (3, .int x3), (4, .int x4), (5, .int x5), (8, .int x8)]) (st1 := [.int ((g.2.1 46) (Int32.toNatClampNeg x1)), .int x8]) (h1 := hO R g) (by decide +kernel) (if_neg c16) ?_
    refine m_gob (c := ((g.2.1 46) (Int32.toNatClampNeg x1)) ≤ x8) (t := 205) (f := 173) (L := [(170, .if_icmp .ge 35, 3, 0, 0)]) (lv1 := [(0, .ref 7), (1, .int x1), (2, .int x2), (3, .int x3), (4, .int x4), (5, .int x5), (8, .int x8)]) (st1 := []) (h1 := hO R g) (by decide +kernel) rfl (fun c17 => ?_) (fun c17 => ?_)
    · rw [if_pos c17] at h
      refine m_go (L := [(205, .aload_n 0, 1, 0, 0), (206, .iload_n 1, 1, 0, 0), (207, .iconst (-1), 1, 0, 0)]) (pc1 := 208) (lv1 := [(0, .ref 7), (1, .int x1), (2, .int x2), (3, .int x3), (4, .int x4), (5, .int x5), (8, .int x8)]) (st1 := [.int (-1 : Int32), .int x1, .ref 7]) (h1 := hO R g) (by decide +kernel) rfl ?_
      rcases m_ci_inv h with ⟨v19, g18, e20, h⟩ | ⟨y21, g18, e20, rfl, rfl⟩
      · refine m_ca (q := (208, .invokevirtual 337, 3, 141, 2)) (a := 141) (vs := [.ref 7, .int x1, .int (-1 : Int32)]) (st := []) (d1 := 1) (by decide +kernel) rfl rfl rfl rfl (by decide) (Fr141 e20) ?_
        show m_Run X _ _ 139 211 [(0, .ref 7), (1, .int x1), (2, .int x2), (3, .int x3), (4, .int x4), (5, .int x5), (8, .int x8)] [.int v19] (hO R g18) _ _
        refine m_go (L := [(211, .istore 8, 2, 0, 0)]) (pc1 := 213) (lv1 := [(0, .ref 7), (1, .int x1), (2, .int x2), (3, .int x3), (4, .int x4), (5, .int x5), (8, .int v19)]) (st1 := []) (h1 := hO R g18) (by decide +kernel) rfl ?_
        exact m_r0 _ _ _ _ _ _ _ _ _ _ (m_pick [0, 2, 6] rfl) (Fr139_213 _ _ _ _ _ _ h)
      · exact m_cx (q := (208, .invokevirtual 337, 3, 141, 2)) (a := 141) (vs := [.ref 7, .int x1, .int (-1 : Int32)]) (st := []) (d1 := 1) (by decide +kernel) (by decide +kernel) rfl rfl rfl rfl (by decide) (Fr141 e20)
    · rw [if_neg c17] at h
      refine m_gob (c := ¬ x8 = 0) (t := 183) (f := 179) (L := [(173, .aload_n 0, 1, 0, 0), (174, .iload 8, 2, 0, 0), (176, .ifCond .ne 7, 3, 0, 0)]) (lv1 := [(0, .ref 7), (1, .int x1), (2, .int x2), (3, .int x3), (4, .int x4), (5, .int x5), (8, .int x8)]) (st1 := [.ref 7]) (h1 := hO R g) (by decide +kernel) rfl (fun c45 => ?_) (fun c45 => ?_)
      · rw [if_pos c45] at h
        refine m_gob (c := ¬ x8 = (1 : Int32)) (t := 194) (f := 189) (L := [(183, .iload 8, 2, 0, 0), (185, .iconst 1, 1, 0, 0), (186, .if_icmp .ne 8, 3, 0, 0)]) (lv1 := [(0, .ref 7), (1, .int x1), (2, .int x2), (3, .int x3), (4, .int x4), (5, .int x5), (8, .int x8)]) (st1 := [.ref 7]) (h1 := hO R g) (by decide +kernel) rfl (fun c46 => ?_) (fun c46 => ?_)
        · rw [if_pos c46] at h
          refine m_go (L := [(194, .iload 5, 2, 0, 0)]) (pc1 := 196) (lv1 := [(0, .ref 7), (1, .int x1), (2, .int x2), (3, .int x3), (4, .int x4), (5, .int x5), (8, .int x8)]) (st1 := [.int x5, .ref 7]) (h1 := hO R g) (by decide +kernel) rfl ?_
          rcases m_cv_inv h with ⟨g47, e49, h⟩ | ⟨y50, g47, e49, rfl, rfl⟩
          · refine m_ca (q := (196, .invokevirtual 327, 3, 140, 1)) (a := 140) (vs := [.ref 7, .int x5]) (st := []) (d1 := 0) (by decide +kernel) rfl rfl rfl rfl (by decide) (Fr140 e49) ?_
            show m_Run X _ _ 139 199 [(0, .ref 7), (1, .int x1), (2, .int x2), (3, .int x3), (4, .int x4), (5, .int x5), (8, .int x8)] [] (hO R g47) _ _
            refine m_go (L := [(199, .iinc 8 1, 3, 0, 0), (202, .goto (-40), 3, 0, 0)]) (pc1 := 162) (lv1 := [(0, .ref 7), (1, .int x1), (2, .int x2), (3, .int x3), (4, .int x4), (5, .int x5), (8, .int (x8 + (1 : Int32)))]) (st1 := []) (h1 := hO R g47) (by decide +kernel) rfl ?_
            exact m_r0 _ _ _ _ _ _ _ _ _ _ (m_pick [0, 1, 2, 3, 4, 5, 6] rfl) (ih _ _ _ _ _ _ _ _ _ h)
          · exact m_cx (q := (196, .invokevirtual 327, 3, 140, 1)) (a := 140) (vs := [.ref 7, .int x5]) (st := []) (d1 := 0) (by decide +kernel) (by decide +kernel) rfl rfl rfl rfl (by decide) (Fr140 e49)
        · rw [if_neg c46] at h
          refine m_go (L := [(189, .iload 4, 2, 0, 0), (191, .goto 5, 3, 0, 0)]) (pc1 := 196) (lv1 := [(0, .ref 7), (1, .int x1), (2, .int x2), (3, .int x3), (4, .int x4), (5, .int x5), (8, .int x8)]) (st1 := [.int x4, .ref 7]) (h1 := hO R g) (by decide +kernel) rfl ?_
          rcases m_cv_inv h with ⟨g51, e53, h⟩ | ⟨y54, g51, e53, rfl, rfl⟩
          · refine m_ca (q := (196, .invokevirtual 327, 3, 140, 1)) (a := 140) (vs := [.ref 7, .int x4]) (st := []) (d1 := 0) (by decide +kernel) rfl rfl rfl rfl (by decide) (Fr140 e53) ?_
            show m_Run X _ _ 139 199 [(0, .ref 7), (1, .int x1), (2, .int x2), (3, .int x3), (4, .int x4), (5, .int x5), (8, .int x8)] [] (hO R g51) _ _
            refine m_go (L := [(199, .iinc 8 1, 3, 0, 0), (202, .goto (-40), 3, 0, 0)]) (pc1 := 162) (lv1 := [(0, .ref 7), (1, .int x1), (2, .int x2), (3, .int x3), (4, .int x4), (5, .int x5), (8, .int (x8 + (1 : Int32)))]) (st1 := []) (h1 := hO R g51) (by decide +kernel) rfl ?_
            exact m_r0 _ _ _ _ _ _ _ _ _ _ (m_pick [0, 1, 2, 3, 4, 5, 6] rfl) (ih _ _ _ _ _ _ _ _ _ h)
          · exact m_cx (q := (196, .invokevirtual 327, 3, 140, 1)) (a := 140) (vs := [.ref 7, .int x4]) (st := []) (d1 := 0) (by decide +kernel) (by decide +kernel) rfl rfl rfl rfl (by decide) (Fr140 e53)
      · rw [if_neg c45] at h
        refine m_go (L := [(179, .iload_n 3, 1, 0, 0), (180, .goto 16, 3, 0, 0)]) (pc1 := 196) (lv1 := [(0, .ref 7), (1, .int x1), (2, .int x2), (3, .int x3), (4, .int x4), (5, .int x5), (8, .int x8)]) (st1 := [.int x3, .ref 7]) (h1 := hO R g) (by decide +kernel) rfl ?_
        rcases m_cv_inv h with ⟨g55, e57, h⟩ | ⟨y58, g55, e57, rfl, rfl⟩
        · refine m_ca (q := (196, .invokevirtual 327, 3, 140, 1)) (a := 140) (vs := [.ref 7, .int x3]) (st := []) (d1 := 0) (by decide +kernel) rfl rfl rfl rfl (by decide) (Fr140 e57) ?_
          show m_Run X _ _ 139 199 [(0, .ref 7), (1, .int x1), (2, .int x2), (3, .int x3), (4, .int x4), (5, .int x5), (8, .int x8)] [] (hO R g55) _ _
          refine m_go (L := [(199, .iinc 8 1, 3, 0, 0), (202, .goto (-40), 3, 0, 0)]) (pc1 := 162) (lv1 := [(0, .ref 7), (1, .int x1), (2, .int x2), (3, .int x3), (4, .int x4), (5, .int x5), (8, .int (x8 + (1 : Int32)))]) (st1 := []) (h1 := hO R g55) (by decide +kernel) rfl ?_
          exact m_r0 _ _ _ _ _ _ _ _ _ _ (m_pick [0, 1, 2, 3, 4, 5, 6] rfl) (ih _ _ _ _ _ _ _ _ _ h)
        · exact m_cx (q := (196, .invokevirtual 327, 3, 140, 1)) (a := 140) (vs := [.ref 7, .int x3]) (st := []) (d1 := 0) (by decide +kernel) (by decide +kernel) rfl rfl rfl rfl (by decide) (Fr140 e57)
def f139_101 (n : Nat) : Nat → Int32 → Int32 → Int32 → Int32 → Int32 → Int32 → mG → mZ
  | 0, _, _, _, _, _, _, _ => none
  | c + 1, x1, x2, x3, x4, x5, x8, g => if (g.1 39) ≤ x8 then f139_162 n n x1 x2 x3 x4 x5 (0 : Int32) (gC (gI (gI g 41 (0 : Int32)) 42 (0 : Int32)) (0 : Int64)) else if x8 < 0 ∨ 32 ≤ Int32.toNatClampNeg x8 then none else if x8 < 0 ∨ 32 ≤ Int32.toNatClampNeg x8 then none else if x8 < 0 ∨ 32 ≤ Int32.toNatClampNeg x8 then none else if x8 < 0 ∨ 32 ≤ Int32.toNatClampNeg x8 then none else f139_101 n c x1 x2 x3 x4 x5 (x8 + (1 : Int32)) (gS (gS g 51 (upd (g.2.1 51) (Int32.toNatClampNeg x8) ((g.2.1 49) (Int32.toNatClampNeg x8)))) 52 (upd (g.2.1 52) (Int32.toNatClampNeg x8) ((g.2.1 50) (Int32.toNatClampNeg x8))))
set_option maxRecDepth 20000 in
theorem Fr139_101 {R : Nat} : ∀ (c : Nat) (x1 : Int32) (x2 : Int32) (x3 : Int32) (x4 : Int32) (x5 : Int32) (x8 : Int32) (g g' : mG) (o : mO), f139_101 n c x1 x2 x3 x4 x5 x8 g = some (o, g') → m_Run X (3) (m_ko o) 139 101 [(0, .ref 7), (1, .int x1), (2, .int x2), (3, .int x3), (4, .int x4), (5, .int x5), (8, .int x8)] [] (hO R g) o (hO R g') := by
  intro c
  induction c with
  | zero => intro x1 x2 x3 x4 x5 x8 g g' o h; rw [f139_101] at h; cases h
  | succ c ih =>
    intro x1 x2 x3 x4 x5 x8 g g' o h
    rw [f139_101] at h
    refine m_gob (c := (g.1 39) ≤ x8) (t := 144) (f := 110) (L := [(101, .iload 8, 2, 0, 0), (103, .aload_n 0, 1, 0, 0), (104, .getfield 314, 3, 6, 32), (107, .if_icmp .ge 37, 3, 0, 0)]) (lv1 := [(0, .ref 7), (1, .int x1), (2, .int x2), (3, .int x3), (4, .int x4), (5, .int x5), (8, .int x8)]) (st1 := []) (h1 := hO R g) (by decide +kernel) rfl (fun c15 => ?_) (fun c15 => ?_)
    · rw [if_pos c15] at h
      refine m_go (L := [(144, .aload_n 0, 1, 0, 0), (145, .iconst 0, 1, 0, 0), (146, .putfield 311, 3, 6, 40), (149, .aload_n 0, 1, 0, 0), (150, .iconst 0, 1, 0, 0), (151, .putfield 321, 3, 6, 41), (154, .aload_n 0, 1, 0, 0), (155, .lconst 0, 1, 0, 0), (156, .putfield 351, 3, 6, 38), (159, .iconst 0, 1, 0, 0), (160, .istore 8, 2, 0, 0)]) (pc1 := 162) (lv1 := [(0, .ref 7), (1, .int x1), (2, .int x2), (3, .int x3), (4, .int x4), (5, .int x5), (8, .int (0 : Int32))]) (st1 := []) (h1 := hO R (gC (gI (gI g 41 (0 : Int32)) 42 (0 : Int32)) (0 : Int64))) (by decide +kernel) rfl ?_
      exact m_r0 _ _ _ _ _ _ _ _ _ _ (m_pick [0, 1, 2, 3, 4, 5, 6] rfl) (Fr139_162 _ _ _ _ _ _ _ _ _ _ h)
    · rw [if_neg c15] at h
      refine m_go (L := [(110, .aload_n 0, 1, 0, 0), (111, .getfield 67, 3, 6, 36), (114, .iload 8, 2, 0, 0), (116, .aload_n 0, 1, 0, 0), (117, .getfield 61, 3, 6, 33), (120, .iload 8, 2, 0, 0)]) (pc1 := 122) (lv1 := [(0, .ref 7), (1, .int x1), (2, .int x2), (3, .int x3), (4, .int x4), (5, .int x5), (8, .int x8)]) (st1 := [.int x8, .ref 49, .int x8, .ref 51]) (h1 := hO R g) (by decide +kernel) rfl ?_
      obtain ⟨c59, h⟩ := m_ifn_inv h
      refine m_go1 (q := (122, .iaload, 1, 0, 0)) (pc1 := 123) (lv1 := [(0, .ref 7), (1, .int x1), (2, .int x2), (3, .int x3), (4, .int x4), (5, .int x5), (8, .int x8)]) (st1 := [.int ((g.2.1 49) (Int32.toNatClampNeg x8)), .int x8, .ref 51]) (h1 := hO R g) (by decide +kernel) (if_neg c59) ?_
      obtain ⟨c60, h⟩ := m_ifn_inv h
      refine m_go1 (q := (123, .iastore, 1, 0, 0)) (pc1 := 124) (lv1 := [(0, .ref 7), (1, .int x1), (2, .int x2), (3, .int x3), (4, .int x4), (5, .int x5), (8, .int x8)]) (st1 := []) (h1 := hO R (gS g 51 (upd (g.2.1 51) (Int32.toNatClampNeg x8) ((g.2.1 49) (Int32.toNatClampNeg x8))))) (by decide +kernel) (if_neg c60) ?_
      refine m_go (L := [(124, .aload_n 0, 1, 0, 0), (125, .getfield 70, 3, 6, 37), (128, .iload 8, 2, 0, 0), (130, .aload_n 0, 1, 0, 0), (131, .getfield 64, 3, 6, 34), (134, .iload 8, 2, 0, 0)]) (pc1 := 136) (lv1 := [(0, .ref 7), (1, .int x1), (2, .int x2), (3, .int x3), (4, .int x4), (5, .int x5), (8, .int x8)]) (st1 := [.int x8, .ref 50, .int x8, .ref 52]) (h1 := hO R (gS g 51 (upd (g.2.1 51) (Int32.toNatClampNeg x8) ((g.2.1 49) (Int32.toNatClampNeg x8))))) (by decide +kernel) rfl ?_
      obtain ⟨c61, h⟩ := m_ifn_inv h
      refine m_go1 (q := (136, .iaload, 1, 0, 0)) (pc1 := 137) (lv1 := [(0, .ref 7), (1, .int x1), (2, .int x2), (3, .int x3), (4, .int x4), (5, .int x5), (8, .int x8)]) (st1 := [.int ((g.2.1 50) (Int32.toNatClampNeg x8)), .int x8, .ref 52]) (h1 := hO R (gS g 51 (upd (g.2.1 51) (Int32.toNatClampNeg x8) ((g.2.1 49) (Int32.toNatClampNeg x8))))) (by decide +kernel) (if_neg c61) ?_
      obtain ⟨c62, h⟩ := m_ifn_inv h
      refine m_go1 (q := (137, .iastore, 1, 0, 0)) (pc1 := 138) (lv1 := [(0, .ref 7), (1, .int x1), (2, .int x2), (3, .int x3), (4, .int x4), (5, .int x5), (8, .int x8)]) (st1 := []) (h1 := hO R (gS (gS g 51 (upd (g.2.1 51) (Int32.toNatClampNeg x8) ((g.2.1 49) (Int32.toNatClampNeg x8)))) 52 (upd (g.2.1 52) (Int32.toNatClampNeg x8) ((g.2.1 50) (Int32.toNatClampNeg x8))))) (by decide +kernel) (if_neg c62) ?_
      refine m_go (L := [(138, .iinc 8 1, 3, 0, 0), (141, .goto (-40), 3, 0, 0)]) (pc1 := 101) (lv1 := [(0, .ref 7), (1, .int x1), (2, .int x2), (3, .int x3), (4, .int x4), (5, .int x5), (8, .int (x8 + (1 : Int32)))]) (st1 := []) (h1 := hO R (gS (gS g 51 (upd (g.2.1 51) (Int32.toNatClampNeg x8) ((g.2.1 49) (Int32.toNatClampNeg x8)))) 52 (upd (g.2.1 52) (Int32.toNatClampNeg x8) ((g.2.1 50) (Int32.toNatClampNeg x8))))) (by decide +kernel) rfl ?_
      exact m_r0 _ _ _ _ _ _ _ _ _ _ (m_pick [0, 1, 2, 3, 4, 5, 6] rfl) (ih _ _ _ _ _ _ _ _ _ h)
def f139_82 (n : Nat) (x1 : Int32) (x2 : Int32) (x3 : Int32) (x4 : Int32) (x5 : Int32) (s1 : Int32) (s2 : Int32) (s3 : Int32) (g : mG) : mZ := m_ci (f88 n s1 s2 s3 g) (fun v11 g10 => if v11 = 0 then f139_101 n n x1 x2 x3 x4 x5 (0 : Int32) (gI g10 40 (g10.1 39)) else some (.inl (some (.int (0 : Int32))), g10))
theorem Fr139_82 {R : Nat} {x1 : Int32} {x2 : Int32} {x3 : Int32} {x4 : Int32} {x5 : Int32} {s1 : Int32} {s2 : Int32} {s3 : Int32} {g g' : mG} {o : mO} (h : f139_82 n x1 x2 x3 x4 x5 s1 s2 s3 g = some (o, g')) : m_Run X (3) (m_ko o) 139 82 [(0, .ref 7), (1, .int x1), (2, .int x2), (3, .int x3), (4, .int x4), (5, .int x5)] [.int s3, .int s2, .int s1, .ref 7] (hO R g) o (hO R g') := by
  unfold f139_82 at h
  rcases m_ci_inv h with ⟨v11, g10, e12, h⟩ | ⟨y13, g10, e12, rfl, rfl⟩
  · refine m_ca (q := (82, .invokevirtual 89, 3, 88, 3)) (a := 88) (vs := [.ref 7, .int s1, .int s2, .int s3]) (st := []) (d1 := 0) (by decide +kernel) rfl rfl rfl rfl (by decide) (Fr88 e12) ?_
    show m_Run X _ _ 139 85 [(0, .ref 7), (1, .int x1), (2, .int x2), (3, .int x3), (4, .int x4), (5, .int x5)] [.int v11] (hO R g10) _ _
    refine m_gob (c := v11 = 0) (t := 90) (f := 88) (L := [(85, .ifCond .eq 5, 3, 0, 0)]) (lv1 := [(0, .ref 7), (1, .int x1), (2, .int x2), (3, .int x3), (4, .int x4), (5, .int x5)]) (st1 := []) (h1 := hO R g10) (by decide +kernel) rfl (fun c14 => ?_) (fun c14 => ?_)
    · rw [if_pos c14] at h
      refine m_go (L := [(90, .aload_n 0, 1, 0, 0), (91, .aload_n 0, 1, 0, 0), (92, .getfield 314, 3, 6, 32), (95, .putfield 348, 3, 6, 35), (98, .iconst 0, 1, 0, 0), (99, .istore 8, 2, 0, 0)]) (pc1 := 101) (lv1 := [(0, .ref 7), (1, .int x1), (2, .int x2), (3, .int x3), (4, .int x4), (5, .int x5), (8, .int (0 : Int32))]) (st1 := []) (h1 := hO R (gI g10 40 (g10.1 39))) (by decide +kernel) rfl ?_
      exact m_r0 _ _ _ _ _ _ _ _ _ _ (m_pick [0, 1, 2, 3, 4, 5, 6] rfl) (Fr139_101 _ _ _ _ _ _ _ _ _ _ h)
    · rw [if_neg c14] at h
      refine m_go (L := [(88, .iconst 0, 1, 0, 0)]) (pc1 := 89) (lv1 := [(0, .ref 7), (1, .int x1), (2, .int x2), (3, .int x3), (4, .int x4), (5, .int x5)]) (st1 := [.int (0 : Int32)]) (h1 := hO R g10) (by decide +kernel) rfl ?_
      cases h
      exact m_ri (by decide +kernel)
  · exact m_cx (q := (82, .invokevirtual 89, 3, 88, 3)) (a := 88) (vs := [.ref 7, .int s1, .int s2, .int s3]) (st := []) (d1 := 0) (by decide +kernel) (by decide +kernel) rfl rfl rfl rfl (by decide) (Fr88 e12)
def f139_66 (n : Nat) (x1 : Int32) (x2 : Int32) (x3 : Int32) (x4 : Int32) (x5 : Int32) (s1 : Int32) (s2 : Int32) (g : mG) : mZ := m_ci (f90 n x2 (0 : Int32) (50000 : Int32) g) (fun v6 g5 => if ¬ v6 = 0 then f139_82 n x1 x2 x3 x4 x5 s1 s2 (0 : Int32) g5 else f139_82 n x1 x2 x3 x4 x5 s1 s2 (1 : Int32) g5)
theorem Fr139_66 {R : Nat} {x1 : Int32} {x2 : Int32} {x3 : Int32} {x4 : Int32} {x5 : Int32} {s1 : Int32} {s2 : Int32} {g g' : mG} {o : mO} (h : f139_66 n x1 x2 x3 x4 x5 s1 s2 g = some (o, g')) : m_Run X (3) (m_ko o) 139 66 [(0, .ref 7), (1, .int x1), (2, .int x2), (3, .int x3), (4, .int x4), (5, .int x5)] [.int s2, .int s1, .ref 7] (hO R g) o (hO R g') := by
  unfold f139_66 at h
  refine m_go (L := [(66, .iload_n 2, 1, 0, 0), (67, .iconst 0, 1, 0, 0), (68, .ldc_w 347, 3, 0, 50000)]) (pc1 := 71) (lv1 := [(0, .ref 7), (1, .int x1), (2, .int x2), (3, .int x3), (4, .int x4), (5, .int x5)]) (st1 := [.int (50000 : Int32), .int (0 : Int32), .int x2, .int s2, .int s1, .ref 7]) (h1 := hO R g) (by decide +kernel) rfl ?_
  rcases m_ci_inv h with ⟨v6, g5, e7, h⟩ | ⟨y8, g5, e7, rfl, rfl⟩
  · refine m_ca (q := (71, .invokestatic 93, 3, 90, 3)) (a := 90) (vs := [.int x2, .int (0 : Int32), .int (50000 : Int32)]) (st := [.int s2, .int s1, .ref 7]) (d1 := 0) (by decide +kernel) rfl rfl rfl rfl (by decide) (Fr90 e7) ?_
    show m_Run X _ _ 139 74 [(0, .ref 7), (1, .int x1), (2, .int x2), (3, .int x3), (4, .int x4), (5, .int x5)] [.int v6, .int s2, .int s1, .ref 7] (hO R g5) _ _
    refine m_gob (c := ¬ v6 = 0) (t := 81) (f := 77) (L := [(74, .ifCond .ne 7, 3, 0, 0)]) (lv1 := [(0, .ref 7), (1, .int x1), (2, .int x2), (3, .int x3), (4, .int x4), (5, .int x5)]) (st1 := [.int s2, .int s1, .ref 7]) (h1 := hO R g5) (by decide +kernel) rfl (fun c9 => ?_) (fun c9 => ?_)
    · rw [if_pos c9] at h
      refine m_go (L := [(81, .iconst 0, 1, 0, 0)]) (pc1 := 82) (lv1 := [(0, .ref 7), (1, .int x1), (2, .int x2), (3, .int x3), (4, .int x4), (5, .int x5)]) (st1 := [.int (0 : Int32), .int s2, .int s1, .ref 7]) (h1 := hO R g5) (by decide +kernel) rfl ?_
      exact m_r0 _ _ _ _ _ _ _ _ _ _ (m_pick [0, 1, 2, 3, 4, 5] rfl) (Fr139_82 h)
    · rw [if_neg c9] at h
      refine m_go (L := [(77, .iconst 1, 1, 0, 0), (78, .goto 4, 3, 0, 0)]) (pc1 := 82) (lv1 := [(0, .ref 7), (1, .int x1), (2, .int x2), (3, .int x3), (4, .int x4), (5, .int x5)]) (st1 := [.int (1 : Int32), .int s2, .int s1, .ref 7]) (h1 := hO R g5) (by decide +kernel) rfl ?_
      exact m_r0 _ _ _ _ _ _ _ _ _ _ (m_pick [0, 1, 2, 3, 4, 5] rfl) (Fr139_82 h)
  · exact m_cx (q := (71, .invokestatic 93, 3, 90, 3)) (a := 90) (vs := [.int x2, .int (0 : Int32), .int (50000 : Int32)]) (st := [.int s2, .int s1, .ref 7]) (d1 := 0) (by decide +kernel) (by decide +kernel) rfl rfl rfl rfl (by decide) (Fr90 e7)
def f139_65 (n : Nat) (x1 : Int32) (x2 : Int32) (x3 : Int32) (x4 : Int32) (x5 : Int32) (s1 : Int32) (g : mG) : mZ := f139_66 n x1 x2 x3 x4 x5 s1 (0 : Int32) g
theorem Fr139_65 {R : Nat} {x1 : Int32} {x2 : Int32} {x3 : Int32} {x4 : Int32} {x5 : Int32} {s1 : Int32} {g g' : mG} {o : mO} (h : f139_65 n x1 x2 x3 x4 x5 s1 g = some (o, g')) : m_Run X (3) (m_ko o) 139 65 [(0, .ref 7), (1, .int x1), (2, .int x2), (3, .int x3), (4, .int x4), (5, .int x5)] [.int s1, .ref 7] (hO R g) o (hO R g') := by
  unfold f139_65 at h
  refine m_go (L := [(65, .iconst 0, 1, 0, 0)]) (pc1 := 66) (lv1 := [(0, .ref 7), (1, .int x1), (2, .int x2), (3, .int x3), (4, .int x4), (5, .int x5)]) (st1 := [.int (0 : Int32), .int s1, .ref 7]) (h1 := hO R g) (by decide +kernel) rfl ?_
  exact m_r0 _ _ _ _ _ _ _ _ _ _ (m_pick [0, 1, 2, 3, 4, 5] rfl) (Fr139_66 h)
def f139_51 (n : Nat) (x1 : Int32) (x2 : Int32) (x3 : Int32) (x4 : Int32) (x5 : Int32) (x6 : Int32) (x7 : Int32) (s1 : Int32) (g : mG) : mZ := if x6 = 0 then f139_65 n x1 x2 x3 x4 x5 s1 g else if ¬ x7 = 0 then f139_65 n x1 x2 x3 x4 x5 s1 g else f139_66 n x1 x2 x3 x4 x5 s1 (1 : Int32) g
theorem Fr139_51 {R : Nat} {x1 : Int32} {x2 : Int32} {x3 : Int32} {x4 : Int32} {x5 : Int32} {x6 : Int32} {x7 : Int32} {s1 : Int32} {g g' : mG} {o : mO} (h : f139_51 n x1 x2 x3 x4 x5 x6 x7 s1 g = some (o, g')) : m_Run X (3) (m_ko o) 139 51 [(0, .ref 7), (1, .int x1), (2, .int x2), (3, .int x3), (4, .int x4), (5, .int x5), (6, .int x6), (7, .int x7)] [.int s1, .ref 7] (hO R g) o (hO R g') := by
  unfold f139_51 at h
  refine m_gob (c := x6 = 0) (t := 65) (f := 56) (L := [(51, .iload 6, 2, 0, 0), (53, .ifCond .eq 12, 3, 0, 0)]) (lv1 := [(0, .ref 7), (1, .int x1), (2, .int x2), (3, .int x3), (4, .int x4), (5, .int x5), (6, .int x6), (7, .int x7)]) (st1 := [.int s1, .ref 7]) (h1 := hO R g) (by decide +kernel) rfl (fun c4 => ?_) (fun c4 => ?_)
  · rw [if_pos c4] at h
    exact m_r0 _ _ _ _ _ _ _ _ _ _ (m_pick [0, 1, 2, 3, 4, 5] rfl) (Fr139_65 h)
  · rw [if_neg c4] at h
    refine m_gob (c := ¬ x7 = 0) (t := 65) (f := 61) (L := [(56, .iload 7, 2, 0, 0), (58, .ifCond .ne 7, 3, 0, 0)]) (lv1 := [(0, .ref 7), (1, .int x1), (2, .int x2), (3, .int x3), (4, .int x4), (5, .int x5), (6, .int x6), (7, .int x7)]) (st1 := [.int s1, .ref 7]) (h1 := hO R g) (by decide +kernel) rfl (fun c63 => ?_) (fun c63 => ?_)
    · rw [if_pos c63] at h
      exact m_r0 _ _ _ _ _ _ _ _ _ _ (m_pick [0, 1, 2, 3, 4, 5] rfl) (Fr139_65 h)
    · rw [if_neg c63] at h
      refine m_go (L := [(61, .iconst 1, 1, 0, 0), (62, .goto 4, 3, 0, 0)]) (pc1 := 66) (lv1 := [(0, .ref 7), (1, .int x1), (2, .int x2), (3, .int x3), (4, .int x4), (5, .int x5), (6, .int x6), (7, .int x7)]) (st1 := [.int (1 : Int32), .int s1, .ref 7]) (h1 := hO R g) (by decide +kernel) rfl ?_
      exact m_r0 _ _ _ _ _ _ _ _ _ _ (m_pick [0, 1, 2, 3, 4, 5] rfl) (Fr139_66 h)
def f139_38 (n : Nat) (x1 : Int32) (x2 : Int32) (x3 : Int32) (x4 : Int32) (x5 : Int32) (x6 : Int32) (s0 : Int32) (g : mG) : mZ := if ¬ x6 = 0 then f139_51 n x1 x2 x3 x4 x5 x6 s0 (0 : Int32) g else f139_51 n x1 x2 x3 x4 x5 x6 s0 (1 : Int32) g
theorem Fr139_38 {R : Nat} {x1 : Int32} {x2 : Int32} {x3 : Int32} {x4 : Int32} {x5 : Int32} {x6 : Int32} {s0 : Int32} {g g' : mG} {o : mO} (h : f139_38 n x1 x2 x3 x4 x5 x6 s0 g = some (o, g')) : m_Run X (3) (m_ko o) 139 38 [(0, .ref 7), (1, .int x1), (2, .int x2), (3, .int x3), (4, .int x4), (5, .int x5), (6, .int x6)] [.int s0] (hO R g) o (hO R g') := by
  unfold f139_38 at h
  refine m_gob (c := ¬ x6 = 0) (t := 50) (f := 46) (L := [(38, .istore 7, 2, 0, 0), (40, .aload_n 0, 1, 0, 0), (41, .iload 6, 2, 0, 0), (43, .ifCond .ne 7, 3, 0, 0)]) (lv1 := [(0, .ref 7), (1, .int x1), (2, .int x2), (3, .int x3), (4, .int x4), (5, .int x5), (6, .int x6), (7, .int s0)]) (st1 := [.ref 7]) (h1 := hO R g) (by decide +kernel) rfl (fun c3 => ?_) (fun c3 => ?_)
  · rw [if_pos c3] at h
    refine m_go (L := [(50, .iconst 0, 1, 0, 0)]) (pc1 := 51) (lv1 := [(0, .ref 7), (1, .int x1), (2, .int x2), (3, .int x3), (4, .int x4), (5, .int x5), (6, .int x6), (7, .int s0)]) (st1 := [.int (0 : Int32), .ref 7]) (h1 := hO R g) (by decide +kernel) rfl ?_
    exact m_r0 _ _ _ _ _ _ _ _ _ _ (m_pick [0, 1, 2, 3, 4, 5, 6, 7] rfl) (Fr139_51 h)
  · rw [if_neg c3] at h
    refine m_go (L := [(46, .iconst 1, 1, 0, 0), (47, .goto 4, 3, 0, 0)]) (pc1 := 51) (lv1 := [(0, .ref 7), (1, .int x1), (2, .int x2), (3, .int x3), (4, .int x4), (5, .int x5), (6, .int x6), (7, .int s0)]) (st1 := [.int (1 : Int32), .ref 7]) (h1 := hO R g) (by decide +kernel) rfl ?_
    exact m_r0 _ _ _ _ _ _ _ _ _ _ (m_pick [0, 1, 2, 3, 4, 5, 6, 7] rfl) (Fr139_51 h)
def f139_37 (n : Nat) (x1 : Int32) (x2 : Int32) (x3 : Int32) (x4 : Int32) (x5 : Int32) (x6 : Int32) (g : mG) : mZ := f139_38 n x1 x2 x3 x4 x5 x6 (0 : Int32) g
theorem Fr139_37 {R : Nat} {x1 : Int32} {x2 : Int32} {x3 : Int32} {x4 : Int32} {x5 : Int32} {x6 : Int32} {g g' : mG} {o : mO} (h : f139_37 n x1 x2 x3 x4 x5 x6 g = some (o, g')) : m_Run X (3) (m_ko o) 139 37 [(0, .ref 7), (1, .int x1), (2, .int x2), (3, .int x3), (4, .int x4), (5, .int x5), (6, .int x6)] [] (hO R g) o (hO R g') := by
  unfold f139_37 at h
  refine m_go (L := [(37, .iconst 0, 1, 0, 0)]) (pc1 := 38) (lv1 := [(0, .ref 7), (1, .int x1), (2, .int x2), (3, .int x3), (4, .int x4), (5, .int x5), (6, .int x6)]) (st1 := [.int (0 : Int32)]) (h1 := hO R g) (by decide +kernel) rfl ?_
  exact m_r0 _ _ _ _ _ _ _ _ _ _ (m_pick [0, 1, 2, 3, 4, 5, 6] rfl) (Fr139_38 h)
def f139_12 (n : Nat) (x1 : Int32) (x2 : Int32) (x3 : Int32) (x4 : Int32) (x5 : Int32) (s0 : Int32) (g : mG) : mZ := if s0 = 0 then f139_37 n x1 x2 x3 x4 x5 s0 g else m_ci (f90 n x1 (0 : Int32) ((g.1 38) - (1 : Int32)) g) (fun v65 g64 => if v65 = 0 then f139_37 n x1 x2 x3 x4 x5 s0 g64 else f139_38 n x1 x2 x3 x4 x5 s0 (1 : Int32) g64)
theorem Fr139_12 {R : Nat} {x1 : Int32} {x2 : Int32} {x3 : Int32} {x4 : Int32} {x5 : Int32} {s0 : Int32} {g g' : mG} {o : mO} (h : f139_12 n x1 x2 x3 x4 x5 s0 g = some (o, g')) : m_Run X (3) (m_ko o) 139 12 [(0, .ref 7), (1, .int x1), (2, .int x2), (3, .int x3), (4, .int x4), (5, .int x5)] [.int s0] (hO R g) o (hO R g') := by
  unfold f139_12 at h
  refine m_gob (c := s0 = 0) (t := 37) (f := 19) (L := [(12, .istore 6, 2, 0, 0), (14, .iload 6, 2, 0, 0), (16, .ifCond .eq 21, 3, 0, 0)]) (lv1 := [(0, .ref 7), (1, .int x1), (2, .int x2), (3, .int x3), (4, .int x4), (5, .int x5), (6, .int s0)]) (st1 := []) (h1 := hO R g) (by decide +kernel) rfl (fun c2 => ?_) (fun c2 => ?_)
  · rw [if_pos c2] at h
    exact m_r0 _ _ _ _ _ _ _ _ _ _ (m_pick [0, 1, 2, 3, 4, 5, 6] rfl) (Fr139_37 h)
  · rw [if_neg c2] at h
    refine m_go (L := [(19, .iload_n 1, 1, 0, 0), (20, .iconst 0, 1, 0, 0), (21, .aload_n 0, 1, 0, 0), (22, .getfield 308, 3, 6, 27), (25, .iconst 1, 1, 0, 0), (26, .isub, 1, 0, 0)]) (pc1 := 27) (lv1 := [(0, .ref 7), (1, .int x1), (2, .int x2), (3, .int x3), (4, .int x4), (5, .int x5), (6, .int s0)]) (st1 := [.int ((g.1 38) - (1 : Int32)), .int (0 : Int32), .int x1]) (h1 := hO R g) (by decide +kernel) rfl ?_
    rcases m_ci_inv h with ⟨v65, g64, e66, h⟩ | ⟨y67, g64, e66, rfl, rfl⟩
    · refine m_ca (q := (27, .invokestatic 93, 3, 90, 3)) (a := 90) (vs := [.int x1, .int (0 : Int32), .int ((g.1 38) - (1 : Int32))]) (st := []) (d1 := 0) (by decide +kernel) rfl rfl rfl rfl (by decide) (Fr90 e66) ?_
      show m_Run X _ _ 139 30 [(0, .ref 7), (1, .int x1), (2, .int x2), (3, .int x3), (4, .int x4), (5, .int x5), (6, .int s0)] [.int v65] (hO R g64) _ _
      refine m_gob (c := v65 = 0) (t := 37) (f := 33) (L := [(30, .ifCond .eq 7, 3, 0, 0)]) (lv1 := [(0, .ref 7), (1, .int x1), (2, .int x2), (3, .int x3), (4, .int x4), (5, .int x5), (6, .int s0)]) (st1 := []) (h1 := hO R g64) (by decide +kernel) rfl (fun c68 => ?_) (fun c68 => ?_)
      · rw [if_pos c68] at h
        exact m_r0 _ _ _ _ _ _ _ _ _ _ (m_pick [0, 1, 2, 3, 4, 5, 6] rfl) (Fr139_37 h)
      · rw [if_neg c68] at h
        refine m_go (L := [(33, .iconst 1, 1, 0, 0), (34, .goto 4, 3, 0, 0)]) (pc1 := 38) (lv1 := [(0, .ref 7), (1, .int x1), (2, .int x2), (3, .int x3), (4, .int x4), (5, .int x5), (6, .int s0)]) (st1 := [.int (1 : Int32)]) (h1 := hO R g64) (by decide +kernel) rfl ?_
        exact m_r0 _ _ _ _ _ _ _ _ _ _ (m_pick [0, 1, 2, 3, 4, 5, 6] rfl) (Fr139_38 h)
    · exact m_cx (q := (27, .invokestatic 93, 3, 90, 3)) (a := 90) (vs := [.int x1, .int (0 : Int32), .int ((g.1 38) - (1 : Int32))]) (st := []) (d1 := 0) (by decide +kernel) (by decide +kernel) rfl rfl rfl rfl (by decide) (Fr90 e66)
def f139 (n : Nat) (x1 : Int32) (x2 : Int32) (x3 : Int32) (x4 : Int32) (x5 : Int32) (g : mG) : mZ := if (g.1 38) ≤ 0 then f139_12 n x1 x2 x3 x4 x5 (0 : Int32) g else f139_12 n x1 x2 x3 x4 x5 (1 : Int32) g
theorem Fr139 {R : Nat} {x1 : Int32} {x2 : Int32} {x3 : Int32} {x4 : Int32} {x5 : Int32} {g g' : mG} {o : mO} (h : f139 n x1 x2 x3 x4 x5 g = some (o, g')) : m_Run X (3) (m_ko o) 139 0 [(0, .ref 7), (1, .int x1), (2, .int x2), (3, .int x3), (4, .int x4), (5, .int x5)] [] (hO R g) o (hO R g') := by
  unfold f139 at h
  refine m_gob (c := (g.1 38) ≤ 0) (t := 11) (f := 7) (L := [(0, .aload_n 0, 1, 0, 0), (1, .getfield 308, 3, 6, 27), (4, .ifCond .le 7, 3, 0, 0)]) (lv1 := [(0, .ref 7), (1, .int x1), (2, .int x2), (3, .int x3), (4, .int x4), (5, .int x5)]) (st1 := []) (h1 := hO R g) (by decide +kernel) rfl (fun c1 => ?_) (fun c1 => ?_)
  · rw [if_pos c1] at h
    refine m_go (L := [(11, .iconst 0, 1, 0, 0)]) (pc1 := 12) (lv1 := [(0, .ref 7), (1, .int x1), (2, .int x2), (3, .int x3), (4, .int x4), (5, .int x5)]) (st1 := [.int (0 : Int32)]) (h1 := hO R g) (by decide +kernel) rfl ?_
    exact m_r0 _ _ _ _ _ _ _ _ _ _ (m_pick [0, 1, 2, 3, 4, 5] rfl) (Fr139_12 h)
  · rw [if_neg c1] at h
    refine m_go (L := [(7, .iconst 1, 1, 0, 0), (8, .goto 4, 3, 0, 0)]) (pc1 := 12) (lv1 := [(0, .ref 7), (1, .int x1), (2, .int x2), (3, .int x3), (4, .int x4), (5, .int x5)]) (st1 := [.int (1 : Int32)]) (h1 := hO R g) (by decide +kernel) rfl ?_
    exact m_r0 _ _ _ _ _ _ _ _ _ _ (m_pick [0, 1, 2, 3, 4, 5] rfl) (Fr139_12 h)
def f149_15 (n : Nat) (x1 : Int32) (s1 : Int32) (g : mG) : mZ := m_ci (f88 n s1 (0 : Int32) (0 : Int32) g) (fun v7 g6 => if v7 = 0 then if ¬ x1 = 0 then if ¬ x1 = (1 : Int32) then some (.inl (some (.int (g6.1 45))), g6) else some (.inl (some (.int (g6.1 44))), g6) else some (.inl (some (.int (g6.1 43))), g6) else some (.inl (some (.int (0 : Int32))), g6))
theorem Fr149_15 {R : Nat} {x1 : Int32} {s1 : Int32} {g g' : mG} {o : mO} (h : f149_15 n x1 s1 g = some (o, g')) : m_Run X (1) (m_ko o) 149 15 [(0, .ref 7), (1, .int x1)] [.int s1, .ref 7] (hO R g) o (hO R g') := by
  unfold f149_15 at h
  refine m_go (L := [(15, .iconst 0, 1, 0, 0), (16, .iconst 0, 1, 0, 0)]) (pc1 := 17) (lv1 := [(0, .ref 7), (1, .int x1)]) (st1 := [.int (0 : Int32), .int (0 : Int32), .int s1, .ref 7]) (h1 := hO R g) (by decide +kernel) rfl ?_
  rcases m_ci_inv h with ⟨v7, g6, e8, h⟩ | ⟨y9, g6, e8, rfl, rfl⟩
  · refine m_ca (q := (17, .invokevirtual 89, 3, 88, 3)) (a := 88) (vs := [.ref 7, .int s1, .int (0 : Int32), .int (0 : Int32)]) (st := []) (d1 := 0) (by decide +kernel) rfl rfl rfl rfl (by decide) (Fr88 e8) ?_
    show m_Run X _ _ 149 20 [(0, .ref 7), (1, .int x1)] [.int v7] (hO R g6) _ _
    refine m_gob (c := v7 = 0) (t := 25) (f := 23) (L := [(20, .ifCond .eq 5, 3, 0, 0)]) (lv1 := [(0, .ref 7), (1, .int x1)]) (st1 := []) (h1 := hO R g6) (by decide +kernel) rfl (fun c10 => ?_) (fun c10 => ?_)
    · rw [if_pos c10] at h
      refine m_gob (c := ¬ x1 = 0) (t := 36) (f := 29) (L := [(25, .iload_n 1, 1, 0, 0), (26, .ifCond .ne 10, 3, 0, 0)]) (lv1 := [(0, .ref 7), (1, .int x1)]) (st1 := []) (h1 := hO R g6) (by decide +kernel) rfl (fun c11 => ?_) (fun c11 => ?_)
      · rw [if_pos c11] at h
        refine m_gob (c := ¬ x1 = (1 : Int32)) (t := 48) (f := 41) (L := [(36, .iload_n 1, 1, 0, 0), (37, .iconst 1, 1, 0, 0), (38, .if_icmp .ne 10, 3, 0, 0)]) (lv1 := [(0, .ref 7), (1, .int x1)]) (st1 := []) (h1 := hO R g6) (by decide +kernel) rfl (fun c12 => ?_) (fun c12 => ?_)
        · rw [if_pos c12] at h
          refine m_go (L := [(48, .aload_n 0, 1, 0, 0), (49, .getfield 361, 3, 6, 46)]) (pc1 := 52) (lv1 := [(0, .ref 7), (1, .int x1)]) (st1 := [.int (g6.1 45)]) (h1 := hO R g6) (by decide +kernel) rfl ?_
          cases h
          exact m_ri (by decide +kernel)
        · rw [if_neg c12] at h
          refine m_go (L := [(41, .aload_n 0, 1, 0, 0), (42, .getfield 367, 3, 6, 45), (45, .goto 7, 3, 0, 0)]) (pc1 := 52) (lv1 := [(0, .ref 7), (1, .int x1)]) (st1 := [.int (g6.1 44)]) (h1 := hO R g6) (by decide +kernel) rfl ?_
          cases h
          exact m_ri (by decide +kernel)
      · rw [if_neg c11] at h
        refine m_go (L := [(29, .aload_n 0, 1, 0, 0), (30, .getfield 364, 3, 6, 44), (33, .goto 19, 3, 0, 0)]) (pc1 := 52) (lv1 := [(0, .ref 7), (1, .int x1)]) (st1 := [.int (g6.1 43)]) (h1 := hO R g6) (by decide +kernel) rfl ?_
        cases h
        exact m_ri (by decide +kernel)
    · rw [if_neg c10] at h
      refine m_go (L := [(23, .iconst 0, 1, 0, 0)]) (pc1 := 24) (lv1 := [(0, .ref 7), (1, .int x1)]) (st1 := [.int (0 : Int32)]) (h1 := hO R g6) (by decide +kernel) rfl ?_
      cases h
      exact m_ri (by decide +kernel)
  · exact m_cx (q := (17, .invokevirtual 89, 3, 88, 3)) (a := 88) (vs := [.ref 7, .int s1, .int (0 : Int32), .int (0 : Int32)]) (st := []) (d1 := 0) (by decide +kernel) (by decide +kernel) rfl rfl rfl rfl (by decide) (Fr88 e8)
def f149 (n : Nat) (x1 : Int32) (g : mG) : mZ := m_ci (f90 n x1 (0 : Int32) (2 : Int32) g) (fun v2 g1 => if ¬ v2 = 0 then f149_15 n x1 (0 : Int32) g1 else f149_15 n x1 (1 : Int32) g1)
theorem Fr149 {R : Nat} {x1 : Int32} {g g' : mG} {o : mO} (h : f149 n x1 g = some (o, g')) : m_Run X (1) (m_ko o) 149 0 [(0, .ref 7), (1, .int x1)] [] (hO R g) o (hO R g') := by
  unfold f149 at h
  refine m_go (L := [(0, .aload_n 0, 1, 0, 0), (1, .iload_n 1, 1, 0, 0), (2, .iconst 0, 1, 0, 0), (3, .iconst 2, 1, 0, 0)]) (pc1 := 4) (lv1 := [(0, .ref 7), (1, .int x1)]) (st1 := [.int (2 : Int32), .int (0 : Int32), .int x1, .ref 7]) (h1 := hO R g) (by decide +kernel) rfl ?_
  rcases m_ci_inv h with ⟨v2, g1, e3, h⟩ | ⟨y4, g1, e3, rfl, rfl⟩
  · refine m_ca (q := (4, .invokestatic 93, 3, 90, 3)) (a := 90) (vs := [.int x1, .int (0 : Int32), .int (2 : Int32)]) (st := [.ref 7]) (d1 := 0) (by decide +kernel) rfl rfl rfl rfl (by decide) (Fr90 e3) ?_
    show m_Run X _ _ 149 7 [(0, .ref 7), (1, .int x1)] [.int v2, .ref 7] (hO R g1) _ _
    refine m_gob (c := ¬ v2 = 0) (t := 14) (f := 10) (L := [(7, .ifCond .ne 7, 3, 0, 0)]) (lv1 := [(0, .ref 7), (1, .int x1)]) (st1 := [.ref 7]) (h1 := hO R g1) (by decide +kernel) rfl (fun c5 => ?_) (fun c5 => ?_)
    · rw [if_pos c5] at h
      refine m_go (L := [(14, .iconst 0, 1, 0, 0)]) (pc1 := 15) (lv1 := [(0, .ref 7), (1, .int x1)]) (st1 := [.int (0 : Int32), .ref 7]) (h1 := hO R g1) (by decide +kernel) rfl ?_
      exact m_r0 _ _ _ _ _ _ _ _ _ _ (m_pick [0, 1] rfl) (Fr149_15 h)
    · rw [if_neg c5] at h
      refine m_go (L := [(10, .iconst 1, 1, 0, 0), (11, .goto 4, 3, 0, 0)]) (pc1 := 15) (lv1 := [(0, .ref 7), (1, .int x1)]) (st1 := [.int (1 : Int32), .ref 7]) (h1 := hO R g1) (by decide +kernel) rfl ?_
      exact m_r0 _ _ _ _ _ _ _ _ _ _ (m_pick [0, 1] rfl) (Fr149_15 h)
  · exact m_cx (q := (4, .invokestatic 93, 3, 90, 3)) (a := 90) (vs := [.int x1, .int (0 : Int32), .int (2 : Int32)]) (st := [.ref 7]) (d1 := 0) (by decide +kernel) (by decide +kernel) rfl rfl rfl rfl (by decide) (Fr90 e3)
end Dec
