section Dec
variable {X : Nat × (Nat → Int32)} {n : Nat}
def f11_37 (n : Nat) (rc : mRec) (g : mG) : mZ := m_cv (f6 n (7 : Int32) g) (fun g6 => some (.inl none, g6))
theorem Fr11_37 {d : Nat} {rc : mRec} (hr : m_Rec X d rc) {g g' : mG} {o : mO} (h : f11_37 n rc g = some (o, g')) : m_Run X (d + 31) (m_ko o) 11 37 [(0, .ref 1)] [] (hO 8 g) o (hO 8 g') := by
  unfold f11_37 at h
  refine m_go (L := [(37, .aload_n 0, 1, 0, 0), (38, .bipush 7, 2, 0, 0)]) (pc1 := 40) (lv1 := [(0, .ref 1)]) (st1 := [.int (7 : Int32), .ref 1]) (h1 := hO 8 g) (by decide +kernel) rfl ?_
  rcases m_cv_inv h with ⟨g6, e8, h⟩ | ⟨y9, g6, e8, rfl, rfl⟩
  · refine m_ca (q := (40, .invokevirtual 87, 3, 6, 1)) (a := 6) (vs := [.ref 1, .int (7 : Int32)]) (st := []) (d1 := 2) (by decide +kernel) rfl rfl rfl rfl (by omega) (Fr6 e8) ?_
    show m_Run X _ _ 11 43 [(0, .ref 1)] [] (hO 8 g6) _ _
    cases h
    exact m_rv (by decide +kernel)
  · exact m_cx (q := (40, .invokevirtual 87, 3, 6, 1)) (a := 6) (vs := [.ref 1, .int (7 : Int32)]) (st := []) (d1 := 2) (by decide +kernel) (by decide +kernel) rfl rfl rfl rfl (by omega) (Fr6 e8)
def f11_10 (n : Nat) (rc : mRec) : Nat → Int32 → Int32 → mG → mZ
  | 0, _, _, _ => none
  | c + 1, x2, x3, g => if (600 : Int32) ≤ x3 then f11_37 n rc g else m_ci (f1 n g) (fun v11 g10 => if v11 = (7 : Int32) then f11_37 n rc g10 else m_cv (rc 13 x2 0 0 g10) (fun g15 => f11_10 n rc c x2 (x3 + (1 : Int32)) g15))
set_option maxRecDepth 20000 in
theorem Fr11_10 {d : Nat} {rc : mRec} (hr : m_Rec X d rc) : ∀ (c : Nat) (x2 : Int32) (x3 : Int32) (g g' : mG) (o : mO), f11_10 n rc c x2 x3 g = some (o, g') → m_Run X (d + 31) (m_ko o) 11 10 [(0, .ref 1), (2, .int x2), (3, .int x3)] [] (hO 8 g) o (hO 8 g') := by
  intro c
  induction c with
  | zero => intro x2 x3 g g' o h; rw [f11_10] at h; cases h
  | succ c ih =>
    intro x2 x3 g g' o h
    rw [f11_10] at h
    refine m_gob (c := (600 : Int32) ≤ x3) (t := 37) (f := 17) (L := [(10, .iload_n 3, 1, 0, 0), (11, .sipush 600, 3, 0, 0), (14, .if_icmp .ge 23, 3, 0, 0)]) (lv1 := [(0, .ref 1), (2, .int x2), (3, .int x3)]) (st1 := []) (h1 := hO 8 g) (by decide +kernel) rfl (fun c5 => ?_) (fun c5 => ?_)
    · rw [if_pos c5] at h
      exact m_r0 _ _ _ _ _ _ _ _ _ _ (m_pick [0] rfl) (Fr11_37 hr h)
    · rw [if_neg c5] at h
      refine m_go (L := [(17, .aload_n 0, 1, 0, 0)]) (pc1 := 18) (lv1 := [(0, .ref 1), (2, .int x2), (3, .int x3)]) (st1 := [.ref 1]) (h1 := hO 8 g) (by decide +kernel) rfl ?_
      rcases m_ci_inv h with ⟨v11, g10, e12, h⟩ | ⟨y13, g10, e12, rfl, rfl⟩
      · refine m_ca (q := (18, .invokevirtual 52, 3, 1, 0)) (a := 1) (vs := [.ref 1]) (st := []) (d1 := 1) (by decide +kernel) rfl rfl rfl rfl (by omega) (Fr1 e12) ?_
        show m_Run X _ _ 11 21 [(0, .ref 1), (2, .int x2), (3, .int x3)] [.int v11] (hO 8 g10) _ _
        refine m_gob (c := v11 = (7 : Int32)) (t := 37) (f := 26) (L := [(21, .bipush 7, 2, 0, 0), (23, .if_icmp .eq 14, 3, 0, 0)]) (lv1 := [(0, .ref 1), (2, .int x2), (3, .int x3)]) (st1 := []) (h1 := hO 8 g10) (by decide +kernel) rfl (fun c14 => ?_) (fun c14 => ?_)
        · rw [if_pos c14] at h
          exact m_r0 _ _ _ _ _ _ _ _ _ _ (m_pick [0] rfl) (Fr11_37 hr h)
        · rw [if_neg c14] at h
          refine m_go (L := [(26, .aload_n 0, 1, 0, 0), (27, .iload_n 2, 1, 0, 0)]) (pc1 := 28) (lv1 := [(0, .ref 1), (2, .int x2), (3, .int x3)]) (st1 := [.int x2, .ref 1]) (h1 := hO 8 g10) (by decide +kernel) rfl ?_
          rcases m_cv_inv h with ⟨g15, e17, h⟩ | ⟨y18, g15, e17, rfl, rfl⟩
          · refine m_ca (q := (28, .invokevirtual 106, 3, 13, 1)) (a := 13) (vs := [.ref 1, .int x2]) (st := []) (d1 := d + 30) (by decide +kernel) rfl rfl rfl rfl (by omega) (hr _ _ _ _ _ _ _ e17) ?_
            show m_Run X _ _ 11 31 [(0, .ref 1), (2, .int x2), (3, .int x3)] [] (hO 8 g15) _ _
            refine m_go (L := [(31, .iinc 3 1, 3, 0, 0), (34, .goto (-24), 3, 0, 0)]) (pc1 := 10) (lv1 := [(0, .ref 1), (2, .int x2), (3, .int (x3 + (1 : Int32)))]) (st1 := []) (h1 := hO 8 g15) (by decide +kernel) rfl ?_
            exact m_r0 _ _ _ _ _ _ _ _ _ _ (m_pick [0, 1, 2] rfl) (ih _ _ _ _ _ h)
          · exact m_cx (q := (28, .invokevirtual 106, 3, 13, 1)) (a := 13) (vs := [.ref 1, .int x2]) (st := []) (d1 := d + 30) (by decide +kernel) (by decide +kernel) rfl rfl rfl rfl (by omega) (hr _ _ _ _ _ _ _ e17)
      · exact m_cx (q := (18, .invokevirtual 52, 3, 1, 0)) (a := 1) (vs := [.ref 1]) (st := []) (d1 := 1) (by decide +kernel) (by decide +kernel) rfl rfl rfl rfl (by omega) (Fr1 e12)
def f11 (n : Nat) (rc : mRec) (x1 : Int32) (g : mG) : mZ := m_ci (f12 n (6 : Int32) x1 g) (fun v2 g1 => f11_10 n rc n v2 (0 : Int32) g1)
theorem Fr11 {d : Nat} {rc : mRec} (hr : m_Rec X d rc) {x1 : Int32} {g g' : mG} {o : mO} (h : f11 n rc x1 g = some (o, g')) : m_Run X (d + 31) (m_ko o) 11 0 [(0, .ref 1), (1, .int x1)] [] (hO 8 g) o (hO 8 g') := by
  unfold f11 at h
  refine m_go (L := [(0, .aload_n 0, 1, 0, 0), (1, .bipush 6, 2, 0, 0), (3, .iload_n 1, 1, 0, 0)]) (pc1 := 4) (lv1 := [(0, .ref 1), (1, .int x1)]) (st1 := [.int x1, .int (6 : Int32), .ref 1]) (h1 := hO 8 g) (by decide +kernel) rfl ?_
  rcases m_ci_inv h with ⟨v2, g1, e3, h⟩ | ⟨y4, g1, e3, rfl, rfl⟩
  · refine m_ca (q := (4, .invokevirtual 103, 3, 12, 2)) (a := 12) (vs := [.ref 1, .int (6 : Int32), .int x1]) (st := []) (d1 := 2) (by decide +kernel) rfl rfl rfl rfl (by omega) (Fr12 e3) ?_
    show m_Run X _ _ 11 7 [(0, .ref 1), (1, .int x1)] [.int v2] (hO 8 g1) _ _
    refine m_go (L := [(7, .istore_n 2, 1, 0, 0), (8, .iconst 0, 1, 0, 0), (9, .istore_n 3, 1, 0, 0)]) (pc1 := 10) (lv1 := [(0, .ref 1), (1, .int x1), (2, .int v2), (3, .int (0 : Int32))]) (st1 := []) (h1 := hO 8 g1) (by decide +kernel) rfl ?_
    exact m_r0 _ _ _ _ _ _ _ _ _ _ (m_pick [0, 2, 3] rfl) (Fr11_10 hr _ _ _ _ _ _ h)
  · exact m_cx (q := (4, .invokevirtual 103, 3, 12, 2)) (a := 12) (vs := [.ref 1, .int (6 : Int32), .int x1]) (st := []) (d1 := 2) (by decide +kernel) (by decide +kernel) rfl rfl rfl rfl (by omega) (Fr12 e3)
def f13 (n : Nat) (rc : mRec) (x1 : Int32) (g : mG) : mZ := m_ci (f1 n g) (fun v2 g1 => if v2 = 2 then m_cv (rc 25 x1 0 0 g1) (fun g6 => some (.inl none, g6)) else if v2 = 26 then m_cv (rc 14 x1 0 0 g1) (fun g11 => some (.inl none, g11)) else if v2 = 27 then m_cv (rc 26 x1 0 0 g1) (fun g16 => some (.inl none, g16)) else if v2 = 29 then m_cv (rc 27 x1 0 0 g1) (fun g21 => some (.inl none, g21)) else if v2 = 31 then m_cv (rc 29 x1 0 0 g1) (fun g26 => some (.inl none, g26)) else if v2 = 32 then m_cv (rc 30 (0 : Int32) x1 0 g1) (fun g31 => some (.inl none, g31)) else if v2 = 33 then m_cv (rc 30 (1 : Int32) x1 0 g1) (fun g36 => some (.inl none, g36)) else m_cv (f3 n (g1.1 5) g1) (fun g40 => some (.inl none, g40)))
theorem Fr13 {d : Nat} {rc : mRec} (hr : m_Rec X d rc) {x1 : Int32} {g g' : mG} {o : mO} (h : f13 n rc x1 g = some (o, g')) : m_Run X (d + 31) (m_ko o) 13 0 [(0, .ref 1), (1, .int x1)] [] (hO 8 g) o (hO 8 g') := by
  unfold f13 at h
  refine m_go (L := [(0, .aload_n 0, 1, 0, 0)]) (pc1 := 1) (lv1 := [(0, .ref 1), (1, .int x1)]) (st1 := [.ref 1]) (h1 := hO 8 g) (by decide +kernel) rfl ?_
  rcases m_ci_inv h with ⟨v2, g1, e3, h⟩ | ⟨y4, g1, e3, rfl, rfl⟩
  · refine m_ca (q := (1, .invokevirtual 52, 3, 1, 0)) (a := 1) (vs := [.ref 1]) (st := []) (d1 := 1) (by decide +kernel) rfl rfl rfl rfl (by omega) (Fr1 e3) ?_
    show m_Run X _ _ 13 4 [(0, .ref 1), (1, .int x1)] [.int v2] (hO 8 g1) _ _
    by_cases c5 : v2 = 2
    · rw [if_pos c5] at h
      refine m_go1 (q := (4, .lookupswitch 126 #[(2, 76), (26, 68), (27, 84), (29, 92), (31, 100), (32, 108), (33, 117)], 68, 0, 0)) (pc1 := 80) (lv1 := [(0, .ref 1), (1, .int x1)]) (st1 := []) (h1 := hO 8 g1) (by decide +kernel) (m_swx (fun z => m_loc m_ft X (.lookupswitch 126 #[(2, 76), (26, 68), (27, 84), (29, 92), (31, 100), (32, 108), (33, 117)]) 0 0 4 [(0, .ref 1), (1, .int x1)] (.int z :: []) (hO 8 g1)) c5 rfl) ?_
      refine m_go (L := [(80, .aload_n 0, 1, 0, 0), (81, .iload_n 1, 1, 0, 0)]) (pc1 := 82) (lv1 := [(0, .ref 1), (1, .int x1)]) (st1 := [.int x1, .ref 1]) (h1 := hO 8 g1) (by decide +kernel) rfl ?_
      rcases m_cv_inv h with ⟨g6, e8, h⟩ | ⟨y9, g6, e8, rfl, rfl⟩
      · refine m_ca (q := (82, .invokevirtual 112, 3, 25, 1)) (a := 25) (vs := [.ref 1, .int x1]) (st := []) (d1 := d + 30) (by decide +kernel) rfl rfl rfl rfl (by omega) (hr _ _ _ _ _ _ _ e8) ?_
        show m_Run X _ _ 13 85 [(0, .ref 1), (1, .int x1)] [] (hO 8 g6) _ _
        refine m_go (L := [(85, .goto 53, 3, 0, 0)]) (pc1 := 138) (lv1 := [(0, .ref 1), (1, .int x1)]) (st1 := []) (h1 := hO 8 g6) (by decide +kernel) rfl ?_
        cases h
        exact m_rv (by decide +kernel)
      · exact m_cx (q := (82, .invokevirtual 112, 3, 25, 1)) (a := 25) (vs := [.ref 1, .int x1]) (st := []) (d1 := d + 30) (by decide +kernel) (by decide +kernel) rfl rfl rfl rfl (by omega) (hr _ _ _ _ _ _ _ e8)
    · rw [if_neg c5] at h
      by_cases c10 : v2 = 26
      · rw [if_pos c10] at h
        refine m_go1 (q := (4, .lookupswitch 126 #[(2, 76), (26, 68), (27, 84), (29, 92), (31, 100), (32, 108), (33, 117)], 68, 0, 0)) (pc1 := 72) (lv1 := [(0, .ref 1), (1, .int x1)]) (st1 := []) (h1 := hO 8 g1) (by decide +kernel) (m_swx (fun z => m_loc m_ft X (.lookupswitch 126 #[(2, 76), (26, 68), (27, 84), (29, 92), (31, 100), (32, 108), (33, 117)]) 0 0 4 [(0, .ref 1), (1, .int x1)] (.int z :: []) (hO 8 g1)) c10 rfl) ?_
        refine m_go (L := [(72, .aload_n 0, 1, 0, 0), (73, .iload_n 1, 1, 0, 0)]) (pc1 := 74) (lv1 := [(0, .ref 1), (1, .int x1)]) (st1 := [.int x1, .ref 1]) (h1 := hO 8 g1) (by decide +kernel) rfl ?_
        rcases m_cv_inv h with ⟨g11, e13, h⟩ | ⟨y14, g11, e13, rfl, rfl⟩
        · refine m_ca (q := (74, .invokevirtual 109, 3, 14, 1)) (a := 14) (vs := [.ref 1, .int x1]) (st := []) (d1 := d + 30) (by decide +kernel) rfl rfl rfl rfl (by omega) (hr _ _ _ _ _ _ _ e13) ?_
          show m_Run X _ _ 13 77 [(0, .ref 1), (1, .int x1)] [] (hO 8 g11) _ _
          refine m_go (L := [(77, .goto 61, 3, 0, 0)]) (pc1 := 138) (lv1 := [(0, .ref 1), (1, .int x1)]) (st1 := []) (h1 := hO 8 g11) (by decide +kernel) rfl ?_
          cases h
          exact m_rv (by decide +kernel)
        · exact m_cx (q := (74, .invokevirtual 109, 3, 14, 1)) (a := 14) (vs := [.ref 1, .int x1]) (st := []) (d1 := d + 30) (by decide +kernel) (by decide +kernel) rfl rfl rfl rfl (by omega) (hr _ _ _ _ _ _ _ e13)
      · rw [if_neg c10] at h
        by_cases c15 : v2 = 27
        · rw [if_pos c15] at h
          refine m_go1 (q := (4, .lookupswitch 126 #[(2, 76), (26, 68), (27, 84), (29, 92), (31, 100), (32, 108), (33, 117)], 68, 0, 0)) (pc1 := 88) (lv1 := [(0, .ref 1), (1, .int x1)]) (st1 := []) (h1 := hO 8 g1) (by decide +kernel) (m_swx (fun z => m_loc m_ft X (.lookupswitch 126 #[(2, 76), (26, 68), (27, 84), (29, 92), (31, 100), (32, 108), (33, 117)]) 0 0 4 [(0, .ref 1), (1, .int x1)] (.int z :: []) (hO 8 g1)) c15 rfl) ?_
          refine m_go (L := [(88, .aload_n 0, 1, 0, 0), (89, .iload_n 1, 1, 0, 0)]) (pc1 := 90) (lv1 := [(0, .ref 1), (1, .int x1)]) (st1 := [.int x1, .ref 1]) (h1 := hO 8 g1) (by decide +kernel) rfl ?_
          rcases m_cv_inv h with ⟨g16, e18, h⟩ | ⟨y19, g16, e18, rfl, rfl⟩
          · refine m_ca (q := (90, .invokevirtual 115, 3, 26, 1)) (a := 26) (vs := [.ref 1, .int x1]) (st := []) (d1 := d + 30) (by decide +kernel) rfl rfl rfl rfl (by omega) (hr _ _ _ _ _ _ _ e18) ?_
            show m_Run X _ _ 13 93 [(0, .ref 1), (1, .int x1)] [] (hO 8 g16) _ _
            refine m_go (L := [(93, .goto 45, 3, 0, 0)]) (pc1 := 138) (lv1 := [(0, .ref 1), (1, .int x1)]) (st1 := []) (h1 := hO 8 g16) (by decide +kernel) rfl ?_
            cases h
            exact m_rv (by decide +kernel)
          · exact m_cx (q := (90, .invokevirtual 115, 3, 26, 1)) (a := 26) (vs := [.ref 1, .int x1]) (st := []) (d1 := d + 30) (by decide +kernel) (by decide +kernel) rfl rfl rfl rfl (by omega) (hr _ _ _ _ _ _ _ e18)
        · rw [if_neg c15] at h
          by_cases c20 : v2 = 29
          · rw [if_pos c20] at h
            refine m_go1 (q := (4, .lookupswitch 126 #[(2, 76), (26, 68), (27, 84), (29, 92), (31, 100), (32, 108), (33, 117)], 68, 0, 0)) (pc1 := 96) (lv1 := [(0, .ref 1), (1, .int x1)]) (st1 := []) (h1 := hO 8 g1) (by decide +kernel) (m_swx (fun z => m_loc m_ft X (.lookupswitch 126 #[(2, 76), (26, 68), (27, 84), (29, 92), (31, 100), (32, 108), (33, 117)]) 0 0 4 [(0, .ref 1), (1, .int x1)] (.int z :: []) (hO 8 g1)) c20 rfl) ?_
            refine m_go (L := [(96, .aload_n 0, 1, 0, 0), (97, .iload_n 1, 1, 0, 0)]) (pc1 := 98) (lv1 := [(0, .ref 1), (1, .int x1)]) (st1 := [.int x1, .ref 1]) (h1 := hO 8 g1) (by decide +kernel) rfl ?_
            rcases m_cv_inv h with ⟨g21, e23, h⟩ | ⟨y24, g21, e23, rfl, rfl⟩
            · refine m_ca (q := (98, .invokevirtual 118, 3, 27, 1)) (a := 27) (vs := [.ref 1, .int x1]) (st := []) (d1 := d + 30) (by decide +kernel) rfl rfl rfl rfl (by omega) (hr _ _ _ _ _ _ _ e23) ?_
              show m_Run X _ _ 13 101 [(0, .ref 1), (1, .int x1)] [] (hO 8 g21) _ _
              refine m_go (L := [(101, .goto 37, 3, 0, 0)]) (pc1 := 138) (lv1 := [(0, .ref 1), (1, .int x1)]) (st1 := []) (h1 := hO 8 g21) (by decide +kernel) rfl ?_
              cases h
              exact m_rv (by decide +kernel)
            · exact m_cx (q := (98, .invokevirtual 118, 3, 27, 1)) (a := 27) (vs := [.ref 1, .int x1]) (st := []) (d1 := d + 30) (by decide +kernel) (by decide +kernel) rfl rfl rfl rfl (by omega) (hr _ _ _ _ _ _ _ e23)
          · rw [if_neg c20] at h
            by_cases c25 : v2 = 31
            · rw [if_pos c25] at h
              refine m_go1 (q := (4, .lookupswitch 126 #[(2, 76), (26, 68), (27, 84), (29, 92), (31, 100), (32, 108), (33, 117)], 68, 0, 0)) (pc1 := 104) (lv1 := [(0, .ref 1), (1, .int x1)]) (st1 := []) (h1 := hO 8 g1) (by decide +kernel) (m_swx (fun z => m_loc m_ft X (.lookupswitch 126 #[(2, 76), (26, 68), (27, 84), (29, 92), (31, 100), (32, 108), (33, 117)]) 0 0 4 [(0, .ref 1), (1, .int x1)] (.int z :: []) (hO 8 g1)) c25 rfl) ?_
              refine m_go (L := [(104, .aload_n 0, 1, 0, 0), (105, .iload_n 1, 1, 0, 0)]) (pc1 := 106) (lv1 := [(0, .ref 1), (1, .int x1)]) (st1 := [.int x1, .ref 1]) (h1 := hO 8 g1) (by decide +kernel) rfl ?_
              rcases m_cv_inv h with ⟨g26, e28, h⟩ | ⟨y29, g26, e28, rfl, rfl⟩
              · refine m_ca (q := (106, .invokevirtual 121, 3, 29, 1)) (a := 29) (vs := [.ref 1, .int x1]) (st := []) (d1 := d + 30) (by decide +kernel) rfl rfl rfl rfl (by omega) (hr _ _ _ _ _ _ _ e28) ?_
                show m_Run X _ _ 13 109 [(0, .ref 1), (1, .int x1)] [] (hO 8 g26) _ _
                refine m_go (L := [(109, .goto 29, 3, 0, 0)]) (pc1 := 138) (lv1 := [(0, .ref 1), (1, .int x1)]) (st1 := []) (h1 := hO 8 g26) (by decide +kernel) rfl ?_
                cases h
                exact m_rv (by decide +kernel)
              · exact m_cx (q := (106, .invokevirtual 121, 3, 29, 1)) (a := 29) (vs := [.ref 1, .int x1]) (st := []) (d1 := d + 30) (by decide +kernel) (by decide +kernel) rfl rfl rfl rfl (by omega) (hr _ _ _ _ _ _ _ e28)
            · rw [if_neg c25] at h
              by_cases c30 : v2 = 32
              · rw [if_pos c30] at h
                refine m_go1 (q := (4, .lookupswitch 126 #[(2, 76), (26, 68), (27, 84), (29, 92), (31, 100), (32, 108), (33, 117)], 68, 0, 0)) (pc1 := 112) (lv1 := [(0, .ref 1), (1, .int x1)]) (st1 := []) (h1 := hO 8 g1) (by decide +kernel) (m_swx (fun z => m_loc m_ft X (.lookupswitch 126 #[(2, 76), (26, 68), (27, 84), (29, 92), (31, 100), (32, 108), (33, 117)]) 0 0 4 [(0, .ref 1), (1, .int x1)] (.int z :: []) (hO 8 g1)) c30 rfl) ?_
                refine m_go (L := [(112, .aload_n 0, 1, 0, 0), (113, .iconst 0, 1, 0, 0), (114, .iload_n 1, 1, 0, 0)]) (pc1 := 115) (lv1 := [(0, .ref 1), (1, .int x1)]) (st1 := [.int x1, .int (0 : Int32), .ref 1]) (h1 := hO 8 g1) (by decide +kernel) rfl ?_
                rcases m_cv_inv h with ⟨g31, e33, h⟩ | ⟨y34, g31, e33, rfl, rfl⟩
                · refine m_ca (q := (115, .invokevirtual 124, 3, 30, 2)) (a := 30) (vs := [.ref 1, .int (0 : Int32), .int x1]) (st := []) (d1 := d + 30) (by decide +kernel) rfl rfl rfl rfl (by omega) (hr _ _ _ _ _ _ _ e33) ?_
                  show m_Run X _ _ 13 118 [(0, .ref 1), (1, .int x1)] [] (hO 8 g31) _ _
                  refine m_go (L := [(118, .goto 20, 3, 0, 0)]) (pc1 := 138) (lv1 := [(0, .ref 1), (1, .int x1)]) (st1 := []) (h1 := hO 8 g31) (by decide +kernel) rfl ?_
                  cases h
                  exact m_rv (by decide +kernel)
                · exact m_cx (q := (115, .invokevirtual 124, 3, 30, 2)) (a := 30) (vs := [.ref 1, .int (0 : Int32), .int x1]) (st := []) (d1 := d + 30) (by decide +kernel) (by decide +kernel) rfl rfl rfl rfl (by omega) (hr _ _ _ _ _ _ _ e33)
              · rw [if_neg c30] at h
                by_cases c35 : v2 = 33
                · rw [if_pos c35] at h
                  refine m_go1 (q := (4, .lookupswitch 126 #[(2, 76), (26, 68), (27, 84), (29, 92), (31, 100), (32, 108), (33, 117)], 68, 0, 0)) (pc1 := 121) (lv1 := [(0, .ref 1), (1, .int x1)]) (st1 := []) (h1 := hO 8 g1) (by decide +kernel) (m_swx (fun z => m_loc m_ft X (.lookupswitch 126 #[(2, 76), (26, 68), (27, 84), (29, 92), (31, 100), (32, 108), (33, 117)]) 0 0 4 [(0, .ref 1), (1, .int x1)] (.int z :: []) (hO 8 g1)) c35 rfl) ?_
                  refine m_go (L := [(121, .aload_n 0, 1, 0, 0), (122, .iconst 1, 1, 0, 0), (123, .iload_n 1, 1, 0, 0)]) (pc1 := 124) (lv1 := [(0, .ref 1), (1, .int x1)]) (st1 := [.int x1, .int (1 : Int32), .ref 1]) (h1 := hO 8 g1) (by decide +kernel) rfl ?_
                  rcases m_cv_inv h with ⟨g36, e38, h⟩ | ⟨y39, g36, e38, rfl, rfl⟩
                  · refine m_ca (q := (124, .invokevirtual 124, 3, 30, 2)) (a := 30) (vs := [.ref 1, .int (1 : Int32), .int x1]) (st := []) (d1 := d + 30) (by decide +kernel) rfl rfl rfl rfl (by omega) (hr _ _ _ _ _ _ _ e38) ?_
                    show m_Run X _ _ 13 127 [(0, .ref 1), (1, .int x1)] [] (hO 8 g36) _ _
                    refine m_go (L := [(127, .goto 11, 3, 0, 0)]) (pc1 := 138) (lv1 := [(0, .ref 1), (1, .int x1)]) (st1 := []) (h1 := hO 8 g36) (by decide +kernel) rfl ?_
                    cases h
                    exact m_rv (by decide +kernel)
                  · exact m_cx (q := (124, .invokevirtual 124, 3, 30, 2)) (a := 30) (vs := [.ref 1, .int (1 : Int32), .int x1]) (st := []) (d1 := d + 30) (by decide +kernel) (by decide +kernel) rfl rfl rfl rfl (by omega) (hr _ _ _ _ _ _ _ e38)
                · rw [if_neg c35] at h
                  refine m_go1 (q := (4, .lookupswitch 126 #[(2, 76), (26, 68), (27, 84), (29, 92), (31, 100), (32, 108), (33, 117)], 68, 0, 0)) (pc1 := 130) (lv1 := [(0, .ref 1), (1, .int x1)]) (st1 := []) (h1 := hO 8 g1) (by decide +kernel) (by show some (m_tg _ (Op.lookupswitch.offset _ _ _), _, _, _) = _; rw [m_lkd _ (List.forall_mem_cons.mpr ⟨m_ne (k := 2) (by decide) c5, List.forall_mem_cons.mpr ⟨m_ne (k := 26) (by decide) c10, List.forall_mem_cons.mpr ⟨m_ne (k := 27) (by decide) c15, List.forall_mem_cons.mpr ⟨m_ne (k := 29) (by decide) c20, List.forall_mem_cons.mpr ⟨m_ne (k := 31) (by decide) c25, List.forall_mem_cons.mpr ⟨m_ne (k := 32) (by decide) c30, List.forall_mem_cons.mpr ⟨m_ne (k := 33) (by decide) c35, fun _ hq => absurd hq List.not_mem_nil⟩⟩⟩⟩⟩⟩⟩)]; rfl) ?_
                  refine m_go (L := [(130, .aload_n 0, 1, 0, 0), (131, .aload_n 0, 1, 0, 0), (132, .getfield 25, 3, 0, 2)]) (pc1 := 135) (lv1 := [(0, .ref 1), (1, .int x1)]) (st1 := [.int (g1.1 5), .ref 1]) (h1 := hO 8 g1) (by decide +kernel) rfl ?_
                  rcases m_cv_inv h with ⟨g40, e42, h⟩ | ⟨y43, g40, e42, rfl, rfl⟩
                  · refine m_ca (q := (135, .invokevirtual 77, 3, 3, 1)) (a := 3) (vs := [.ref 1, .int (g1.1 5)]) (st := []) (d1 := 1) (by decide +kernel) rfl rfl rfl rfl (by omega) (Fr3 e42) ?_
                    show m_Run X _ _ 13 138 [(0, .ref 1), (1, .int x1)] [] (hO 8 g40) _ _
                    cases h
                    exact m_rv (by decide +kernel)
                  · exact m_cx (q := (135, .invokevirtual 77, 3, 3, 1)) (a := 3) (vs := [.ref 1, .int (g1.1 5)]) (st := []) (d1 := 1) (by decide +kernel) (by decide +kernel) rfl rfl rfl rfl (by omega) (Fr3 e42)
  · exact m_cx (q := (1, .invokevirtual 52, 3, 1, 0)) (a := 1) (vs := [.ref 1]) (st := []) (d1 := 1) (by decide +kernel) (by decide +kernel) rfl rfl rfl rfl (by omega) (Fr1 e3)
def f14 (n : Nat) (rc : mRec) (x1 : Int32) (g : mG) : mZ := m_cv (f8 n (gI g 5 ((g.1 5) + (1 : Int32)))) (fun g1 => m_cv (f6 n (12 : Int32) (gI g1 5 ((g1.1 5) + (1 : Int32)))) (fun g5 => m_ci (rc 15 (0 : Int32) x1 0 g5) (fun v10 g9 => m_cv (f10 n (g1.1 5) v10 g9) (fun g13 => m_ci (f34_3 n (39 : Int32) ((g13.1 7) - (1 : Int32)) g13) (fun v18 g17 => m_cv (f6 n (11 : Int32) g17) (fun g21 => some (.inl none, g21)))))))
theorem Fr14 {d : Nat} {rc : mRec} (hr : m_Rec X d rc) {x1 : Int32} {g g' : mG} {o : mO} (h : f14 n rc x1 g = some (o, g')) : m_Run X (d + 31) (m_ko o) 14 0 [(0, .ref 1), (1, .int x1)] [] (hO 8 g) o (hO 8 g') := by
  unfold f14 at h
  refine m_go (L := [(0, .aload_n 0, 1, 0, 0), (1, .dup, 1, 0, 0), (2, .getfield 25, 3, 0, 2), (5, .iconst 1, 1, 0, 0), (6, .iadd, 1, 0, 0), (7, .putfield 25, 3, 0, 2), (10, .aload_n 0, 1, 0, 0)]) (pc1 := 11) (lv1 := [(0, .ref 1), (1, .int x1)]) (st1 := [.ref 1]) (h1 := hO 8 (gI g 5 ((g.1 5) + (1 : Int32)))) (by decide +kernel) rfl ?_
  rcases m_cv_inv h with ⟨g1, e3, h⟩ | ⟨y4, g1, e3, rfl, rfl⟩
  · refine m_ca (q := (11, .invokevirtual 93, 3, 8, 0)) (a := 8) (vs := [.ref 1]) (st := []) (d1 := 2) (by decide +kernel) rfl rfl rfl rfl (by omega) (Fr8 e3) ?_
    show m_Run X _ _ 14 14 [(0, .ref 1), (1, .int x1)] [] (hO 8 g1) _ _
    refine m_go (L := [(14, .aload_n 0, 1, 0, 0), (15, .getfield 25, 3, 0, 2), (18, .istore_n 2, 1, 0, 0), (19, .aload_n 0, 1, 0, 0), (20, .dup, 1, 0, 0), (21, .getfield 25, 3, 0, 2), (24, .iconst 1, 1, 0, 0), (25, .iadd, 1, 0, 0), (26, .putfield 25, 3, 0, 2), (29, .aload_n 0, 1, 0, 0), (30, .bipush 12, 2, 0, 0)]) (pc1 := 32) (lv1 := [(0, .ref 1), (1, .int x1), (2, .int (g1.1 5))]) (st1 := [.int (12 : Int32), .ref 1]) (h1 := hO 8 (gI g1 5 ((g1.1 5) + (1 : Int32)))) (by decide +kernel) rfl ?_
    rcases m_cv_inv h with ⟨g5, e7, h⟩ | ⟨y8, g5, e7, rfl, rfl⟩
    · refine m_ca (q := (32, .invokevirtual 87, 3, 6, 1)) (a := 6) (vs := [.ref 1, .int (12 : Int32)]) (st := []) (d1 := 2) (by decide +kernel) rfl rfl rfl rfl (by omega) (Fr6 e7) ?_
      show m_Run X _ _ 14 35 [(0, .ref 1), (1, .int x1), (2, .int (g1.1 5))] [] (hO 8 g5) _ _
      refine m_go (L := [(35, .aload_n 0, 1, 0, 0), (36, .iconst 0, 1, 0, 0), (37, .iload_n 1, 1, 0, 0)]) (pc1 := 38) (lv1 := [(0, .ref 1), (1, .int x1), (2, .int (g1.1 5))]) (st1 := [.int x1, .int (0 : Int32), .ref 1]) (h1 := hO 8 g5) (by decide +kernel) rfl ?_
      rcases m_ci_inv h with ⟨v10, g9, e11, h⟩ | ⟨y12, g9, e11, rfl, rfl⟩
      · refine m_ca (q := (38, .invokevirtual 127, 3, 15, 2)) (a := 15) (vs := [.ref 1, .int (0 : Int32), .int x1]) (st := []) (d1 := d + 30) (by decide +kernel) rfl rfl rfl rfl (by omega) (hr _ _ _ _ _ _ _ e11) ?_
        show m_Run X _ _ 14 41 [(0, .ref 1), (1, .int x1), (2, .int (g1.1 5))] [.int v10] (hO 8 g9) _ _
        refine m_go (L := [(41, .istore_n 3, 1, 0, 0), (42, .aload_n 0, 1, 0, 0), (43, .iload_n 2, 1, 0, 0), (44, .iload_n 3, 1, 0, 0)]) (pc1 := 45) (lv1 := [(0, .ref 1), (1, .int x1), (2, .int (g1.1 5)), (3, .int v10)]) (st1 := [.int v10, .int (g1.1 5), .ref 1]) (h1 := hO 8 g9) (by decide +kernel) rfl ?_
        rcases m_cv_inv h with ⟨g13, e15, h⟩ | ⟨y16, g13, e15, rfl, rfl⟩
        · refine m_ca (q := (45, .invokevirtual 96, 3, 10, 2)) (a := 10) (vs := [.ref 1, .int (g1.1 5), .int v10]) (st := []) (d1 := 0) (by decide +kernel) rfl rfl rfl rfl (by omega) (Fr10 e15) ?_
          show m_Run X _ _ 14 48 [(0, .ref 1), (1, .int x1), (2, .int (g1.1 5)), (3, .int v10)] [] (hO 8 g13) _ _
          refine m_go (L := [(48, .aload_n 0, 1, 0, 0), (49, .getfield 21, 3, 0, 1), (52, .bipush 39, 2, 0, 0), (54, .aload_n 0, 1, 0, 0), (55, .getfield 42, 3, 0, 7), (58, .iconst 1, 1, 0, 0), (59, .isub, 1, 0, 0)]) (pc1 := 60) (lv1 := [(0, .ref 1), (1, .int x1), (2, .int (g1.1 5)), (3, .int v10)]) (st1 := [.int ((g13.1 7) - (1 : Int32)), .int (39 : Int32), .ref 3]) (h1 := hO 8 g13) (by decide +kernel) rfl ?_
          rcases m_ci_inv h with ⟨v18, g17, e19, h⟩ | ⟨y20, g17, e19, rfl, rfl⟩
          · refine m_ca (q := (60, .invokevirtual 68, 3, 34, 2)) (a := 34) (vs := [.ref 3, .int (39 : Int32), .int ((g13.1 7) - (1 : Int32))]) (st := []) (d1 := 0) (by decide +kernel) rfl rfl rfl rfl (by omega) (Fr34_3 e19) ?_
            show m_Run X _ _ 14 63 [(0, .ref 1), (1, .int x1), (2, .int (g1.1 5)), (3, .int v10)] [.int v18] (hO 8 g17) _ _
            refine m_go (L := [(63, .pop, 1, 0, 0), (64, .aload_n 0, 1, 0, 0), (65, .bipush 11, 2, 0, 0)]) (pc1 := 67) (lv1 := [(0, .ref 1), (1, .int x1), (2, .int (g1.1 5)), (3, .int v10)]) (st1 := [.int (11 : Int32), .ref 1]) (h1 := hO 8 g17) (by decide +kernel) rfl ?_
            rcases m_cv_inv h with ⟨g21, e23, h⟩ | ⟨y24, g21, e23, rfl, rfl⟩
            · refine m_ca (q := (67, .invokevirtual 87, 3, 6, 1)) (a := 6) (vs := [.ref 1, .int (11 : Int32)]) (st := []) (d1 := 2) (by decide +kernel) rfl rfl rfl rfl (by omega) (Fr6 e23) ?_
              show m_Run X _ _ 14 70 [(0, .ref 1), (1, .int x1), (2, .int (g1.1 5)), (3, .int v10)] [] (hO 8 g21) _ _
              cases h
              exact m_rv (by decide +kernel)
            · exact m_cx (q := (67, .invokevirtual 87, 3, 6, 1)) (a := 6) (vs := [.ref 1, .int (11 : Int32)]) (st := []) (d1 := 2) (by decide +kernel) (by decide +kernel) rfl rfl rfl rfl (by omega) (Fr6 e23)
          · exact m_cx (q := (60, .invokevirtual 68, 3, 34, 2)) (a := 34) (vs := [.ref 3, .int (39 : Int32), .int ((g13.1 7) - (1 : Int32))]) (st := []) (d1 := 0) (by decide +kernel) (by decide +kernel) rfl rfl rfl rfl (by omega) (Fr34_3 e19)
        · exact m_cx (q := (45, .invokevirtual 96, 3, 10, 2)) (a := 10) (vs := [.ref 1, .int (g1.1 5), .int v10]) (st := []) (d1 := 0) (by decide +kernel) (by decide +kernel) rfl rfl rfl rfl (by omega) (Fr10 e15)
      · exact m_cx (q := (38, .invokevirtual 127, 3, 15, 2)) (a := 15) (vs := [.ref 1, .int (0 : Int32), .int x1]) (st := []) (d1 := d + 30) (by decide +kernel) (by decide +kernel) rfl rfl rfl rfl (by omega) (hr _ _ _ _ _ _ _ e11)
    · exact m_cx (q := (32, .invokevirtual 87, 3, 6, 1)) (a := 6) (vs := [.ref 1, .int (12 : Int32)]) (st := []) (d1 := 2) (by decide +kernel) (by decide +kernel) rfl rfl rfl rfl (by omega) (Fr6 e7)
  · exact m_cx (q := (11, .invokevirtual 93, 3, 8, 0)) (a := 8) (vs := [.ref 1]) (st := []) (d1 := 2) (by decide +kernel) (by decide +kernel) rfl rfl rfl rfl (by omega) (Fr8 e3)
def f15_37 (n : Nat) (rc : mRec) : Nat → Int32 → Int32 → Int32 → Int32 → Int32 → mG → mZ
  | 0, _, _, _, _, _, _ => none
  | c + 1, x1, x2, x3, x4, x5, g => if x4 ≤ x5 then some (.inl (some (.int x3)), g) else m_ci (f1 n g) (fun v9 g8 => m_ci (f23 n v9 g8) (fun v13 g12 => if ¬ v13 = x1 then some (.inl (some (.int x3)), g12) else m_ci (f1 n g12) (fun v18 g17 => if v18 = (23 : Int32) then m_ci (f34_3 n v18 (0 : Int32) (gI g17 5 ((g17.1 5) + (1 : Int32)))) (fun v23 g22 => m_ci (rc 15 (x1 + (1 : Int32)) x2 0 g22) (fun v27 g26 => m_ci (f24 n v18 x3 v27 g26) (fun v31 g30 => if ¬ v31 = (-1 : Int32) then m_cv (f37_3 n v23 g30) (fun g35 => f15_37 n rc c x1 x2 v31 x4 (x5 + (1 : Int32)) g35) else m_cv (f3 n (g12.1 5) g30) (fun g39 => m_cv (f37_3 n v23 g39) (fun g43 => f15_37 n rc c x1 x2 v31 x4 (x5 + (1 : Int32)) g43))))) else if ¬ v18 = (24 : Int32) then m_ci (rc 15 (x1 + (1 : Int32)) x2 0 (gI g17 5 ((g17.1 5) + (1 : Int32)))) (fun v49 g48 => m_ci (f24 n v18 x3 v49 g48) (fun v53 g52 => if ¬ v53 = (-1 : Int32) then m_ci (f34_3 n v18 (0 : Int32) g52) (fun v58 g57 => f15_37 n rc c x1 x2 v53 x4 (x5 + (1 : Int32)) g57) else m_cv (f3 n (g12.1 5) g52) (fun g61 => m_ci (f34_3 n v18 (0 : Int32) g61) (fun v66 g65 => f15_37 n rc c x1 x2 v53 x4 (x5 + (1 : Int32)) g65)))) else m_ci (f34_3 n v18 (0 : Int32) (gI g17 5 ((g17.1 5) + (1 : Int32)))) (fun v70 g69 => m_ci (rc 15 (x1 + (1 : Int32)) x2 0 g69) (fun v74 g73 => m_ci (f24 n v18 x3 v74 g73) (fun v78 g77 => if ¬ v78 = (-1 : Int32) then m_cv (f37_3 n v70 g77) (fun g82 => f15_37 n rc c x1 x2 v78 x4 (x5 + (1 : Int32)) g82) else m_cv (f3 n (g12.1 5) g77) (fun g86 => m_cv (f37_3 n v70 g86) (fun g90 => f15_37 n rc c x1 x2 v78 x4 (x5 + (1 : Int32)) g90))))))))
set_option maxRecDepth 20000 in
theorem Fr15_37 {d : Nat} {rc : mRec} (hr : m_Rec X d rc) : ∀ (c : Nat) (x1 : Int32) (x2 : Int32) (x3 : Int32) (x4 : Int32) (x5 : Int32) (g g' : mG) (o : mO), f15_37 n rc c x1 x2 x3 x4 x5 g = some (o, g') → m_Run X (d + 31) (m_ko o) 15 37 [(0, .ref 1), (1, .int x1), (2, .int x2), (3, .int x3), (4, .int x4), (5, .int x5)] [] (hO 8 g) o (hO 8 g') := by
  intro c
  induction c with
  | zero => intro x1 x2 x3 x4 x5 g g' o h; rw [f15_37] at h; cases h
  | succ c ih =>
    intro x1 x2 x3 x4 x5 g g' o h
    rw [f15_37] at h
    refine m_gob (c := x4 ≤ x5) (t := 183) (f := 44) (L := [(37, .iload 5, 2, 0, 0), (39, .iload 4, 2, 0, 0), (41, .if_icmp .ge 142, 3, 0, 0)]) (lv1 := [(0, .ref 1), (1, .int x1), (2, .int x2), (3, .int x3), (4, .int x4), (5, .int x5)]) (st1 := []) (h1 := hO 8 g) (by decide +kernel) rfl (fun c7 => ?_) (fun c7 => ?_)
    · rw [if_pos c7] at h
      refine m_go (L := [(183, .iload_n 3, 1, 0, 0)]) (pc1 := 184) (lv1 := [(0, .ref 1), (1, .int x1), (2, .int x2), (3, .int x3), (4, .int x4), (5, .int x5)]) (st1 := [.int x3]) (h1 := hO 8 g) (by decide +kernel) rfl ?_
      cases h
      exact m_ri (by decide +kernel)
    · rw [if_neg c7] at h
      refine m_go (L := [(44, .aload_n 0, 1, 0, 0)]) (pc1 := 45) (lv1 := [(0, .ref 1), (1, .int x1), (2, .int x2), (3, .int x3), (4, .int x4), (5, .int x5)]) (st1 := [.ref 1]) (h1 := hO 8 g) (by decide +kernel) rfl ?_
      rcases m_ci_inv h with ⟨v9, g8, e10, h⟩ | ⟨y11, g8, e10, rfl, rfl⟩
      · refine m_ca (q := (45, .invokevirtual 52, 3, 1, 0)) (a := 1) (vs := [.ref 1]) (st := []) (d1 := 1) (by decide +kernel) rfl rfl rfl rfl (by omega) (Fr1 e10) ?_
        show m_Run X _ _ 15 48 [(0, .ref 1), (1, .int x1), (2, .int x2), (3, .int x3), (4, .int x4), (5, .int x5)] [.int v9] (hO 8 g8) _ _
        rcases m_ci_inv h with ⟨v13, g12, e14, h⟩ | ⟨y15, g12, e14, rfl, rfl⟩
        · refine m_ca (q := (48, .invokestatic 155, 3, 23, 1)) (a := 23) (vs := [.int v9]) (st := []) (d1 := 0) (by decide +kernel) rfl rfl rfl rfl (by omega) (Fr23 e14) ?_
          show m_Run X _ _ 15 51 [(0, .ref 1), (1, .int x1), (2, .int x2), (3, .int x3), (4, .int x4), (5, .int x5)] [.int v13] (hO 8 g12) _ _
          refine m_gob (c := ¬ v13 = x1) (t := 183) (f := 55) (L := [(51, .iload_n 1, 1, 0, 0), (52, .if_icmp .ne 131, 3, 0, 0)]) (lv1 := [(0, .ref 1), (1, .int x1), (2, .int x2), (3, .int x3), (4, .int x4), (5, .int x5)]) (st1 := []) (h1 := hO 8 g12) (by decide +kernel) rfl (fun c16 => ?_) (fun c16 => ?_)
          · rw [if_pos c16] at h
            refine m_go (L := [(183, .iload_n 3, 1, 0, 0)]) (pc1 := 184) (lv1 := [(0, .ref 1), (1, .int x1), (2, .int x2), (3, .int x3), (4, .int x4), (5, .int x5)]) (st1 := [.int x3]) (h1 := hO 8 g12) (by decide +kernel) rfl ?_
            cases h
            exact m_ri (by decide +kernel)
          · rw [if_neg c16] at h
            refine m_go (L := [(55, .aload_n 0, 1, 0, 0), (56, .getfield 25, 3, 0, 2), (59, .istore 6, 2, 0, 0), (61, .aload_n 0, 1, 0, 0)]) (pc1 := 62) (lv1 := [(0, .ref 1), (1, .int x1), (2, .int x2), (3, .int x3), (4, .int x4), (5, .int x5), (6, .int (g12.1 5))]) (st1 := [.ref 1]) (h1 := hO 8 g12) (by decide +kernel) rfl ?_
            rcases m_ci_inv h with ⟨v18, g17, e19, h⟩ | ⟨y20, g17, e19, rfl, rfl⟩
            · refine m_ca (q := (62, .invokevirtual 52, 3, 1, 0)) (a := 1) (vs := [.ref 1]) (st := []) (d1 := 1) (by decide +kernel) rfl rfl rfl rfl (by omega) (Fr1 e19) ?_
              show m_Run X _ _ 15 65 [(0, .ref 1), (1, .int x1), (2, .int x2), (3, .int x3), (4, .int x4), (5, .int x5), (6, .int (g12.1 5))] [.int v18] (hO 8 g17) _ _
              refine m_gob (c := v18 = (23 : Int32)) (t := 81) (f := 74) (L := [(65, .istore 7, 2, 0, 0), (67, .iload 7, 2, 0, 0), (69, .bipush 23, 2, 0, 0), (71, .if_icmp .eq 10, 3, 0, 0)]) (lv1 := [(0, .ref 1), (1, .int x1), (2, .int x2), (3, .int x3), (4, .int x4), (5, .int x5), (6, .int (g12.1 5)), (7, .int v18)]) (st1 := []) (h1 := hO 8 g17) (by decide +kernel) rfl (fun c21 => ?_) (fun c21 => ?_)
              · rw [if_pos c21] at h
                refine m_go (L := [(81, .iconst 1, 1, 0, 0), (82, .goto 4, 3, 0, 0), (86, .istore 8, 2, 0, 0), (88, .aload_n 0, 1, 0, 0), (89, .dup, 1, 0, 0), (90, .getfield 25, 3, 0, 2), (93, .iconst 1, 1, 0, 0), (94, .iadd, 1, 0, 0), (95, .putfield 25, 3, 0, 2), (98, .iload 8, 2, 0, 0), (100, .ifCond .eq 16, 3, 0, 0), (103, .aload_n 0, 1, 0, 0), (104, .getfield 21, 3, 0, 1), (107, .iload 7, 2, 0, 0), (109, .iconst 0, 1, 0, 0)]) (pc1 := 110) (lv1 := [(0, .ref 1), (1, .int x1), (2, .int x2), (3, .int x3), (4, .int x4), (5, .int x5), (6, .int (g12.1 5)), (7, .int v18), (8, .int (1 : Int32))]) (st1 := [.int (0 : Int32), .int v18, .ref 3]) (h1 := hO 8 (gI g17 5 ((g17.1 5) + (1 : Int32)))) (by decide +kernel) rfl ?_
                rcases m_ci_inv h with ⟨v23, g22, e24, h⟩ | ⟨y25, g22, e24, rfl, rfl⟩
                · refine m_ca (q := (110, .invokevirtual 68, 3, 34, 2)) (a := 34) (vs := [.ref 3, .int v18, .int (0 : Int32)]) (st := []) (d1 := 0) (by decide +kernel) rfl rfl rfl rfl (by omega) (Fr34_3 e24) ?_
                  show m_Run X _ _ 15 113 [(0, .ref 1), (1, .int x1), (2, .int x2), (3, .int x3), (4, .int x4), (5, .int x5), (6, .int (g12.1 5)), (7, .int v18), (8, .int (1 : Int32))] [.int v23] (hO 8 g22) _ _
                  refine m_go (L := [(113, .goto 4, 3, 0, 0), (117, .istore 9, 2, 0, 0), (119, .aload_n 0, 1, 0, 0), (120, .iload_n 1, 1, 0, 0), (121, .iconst 1, 1, 0, 0), (122, .iadd, 1, 0, 0), (123, .iload_n 2, 1, 0, 0)]) (pc1 := 124) (lv1 := [(0, .ref 1), (1, .int x1), (2, .int x2), (3, .int x3), (4, .int x4), (5, .int x5), (6, .int (g12.1 5)), (7, .int v18), (8, .int (1 : Int32)), (9, .int v23)]) (st1 := [.int x2, .int (x1 + (1 : Int32)), .ref 1]) (h1 := hO 8 g22) (by decide +kernel) rfl ?_
                  rcases m_ci_inv h with ⟨v27, g26, e28, h⟩ | ⟨y29, g26, e28, rfl, rfl⟩
                  · refine m_ca (q := (124, .invokevirtual 127, 3, 15, 2)) (a := 15) (vs := [.ref 1, .int (x1 + (1 : Int32)), .int x2]) (st := []) (d1 := d + 30) (by decide +kernel) rfl rfl rfl rfl (by omega) (hr _ _ _ _ _ _ _ e28) ?_
                    show m_Run X _ _ 15 127 [(0, .ref 1), (1, .int x1), (2, .int x2), (3, .int x3), (4, .int x4), (5, .int x5), (6, .int (g12.1 5)), (7, .int v18), (8, .int (1 : Int32)), (9, .int v23)] [.int v27] (hO 8 g26) _ _
                    refine m_go (L := [(127, .istore 10, 2, 0, 0), (129, .iload 7, 2, 0, 0), (131, .iload_n 3, 1, 0, 0), (132, .iload 10, 2, 0, 0)]) (pc1 := 134) (lv1 := [(0, .ref 1), (1, .int x1), (2, .int x2), (3, .int x3), (4, .int x4), (5, .int x5), (6, .int (g12.1 5)), (7, .int v18), (8, .int (1 : Int32)), (9, .int v23), (10, .int v27)]) (st1 := [.int v27, .int x3, .int v18]) (h1 := hO 8 g26) (by decide +kernel) rfl ?_
                    rcases m_ci_inv h with ⟨v31, g30, e32, h⟩ | ⟨y33, g30, e32, rfl, rfl⟩
                    · refine m_ca (q := (134, .invokestatic 158, 3, 24, 3)) (a := 24) (vs := [.int v18, .int x3, .int v27]) (st := []) (d1 := 0) (by decide +kernel) rfl rfl rfl rfl (by omega) (Fr24 e32) ?_
                      show m_Run X _ _ 15 137 [(0, .ref 1), (1, .int x1), (2, .int x2), (3, .int x3), (4, .int x4), (5, .int x5), (6, .int (g12.1 5)), (7, .int v18), (8, .int (1 : Int32)), (9, .int v23), (10, .int v27)] [.int v31] (hO 8 g30) _ _
                      refine m_gob (c := ¬ v31 = (-1 : Int32)) (t := 149) (f := 143) (L := [(137, .istore_n 3, 1, 0, 0), (138, .iload_n 3, 1, 0, 0), (139, .iconst (-1), 1, 0, 0), (140, .if_icmp .ne 9, 3, 0, 0)]) (lv1 := [(0, .ref 1), (1, .int x1), (2, .int x2), (3, .int v31), (4, .int x4), (5, .int x5), (6, .int (g12.1 5)), (7, .int v18), (8, .int (1 : Int32)), (9, .int v23), (10, .int v27)]) (st1 := []) (h1 := hO 8 g30) (by decide +kernel) rfl (fun c34 => ?_) (fun c34 => ?_)
                      · rw [if_pos c34] at h
                        refine m_go (L := [(149, .iload 8, 2, 0, 0), (151, .ifCond .eq 15, 3, 0, 0), (154, .aload_n 0, 1, 0, 0), (155, .getfield 21, 3, 0, 1), (158, .iload 9, 2, 0, 0)]) (pc1 := 160) (lv1 := [(0, .ref 1), (1, .int x1), (2, .int x2), (3, .int v31), (4, .int x4), (5, .int x5), (6, .int (g12.1 5)), (7, .int v18), (8, .int (1 : Int32)), (9, .int v23), (10, .int v27)]) (st1 := [.int v23, .ref 3]) (h1 := hO 8 g30) (by decide +kernel) rfl ?_
                        rcases m_cv_inv h with ⟨g35, e37, h⟩ | ⟨y38, g35, e37, rfl, rfl⟩
                        · refine m_ca (q := (160, .invokevirtual 143, 3, 37, 1)) (a := 37) (vs := [.ref 3, .int v23]) (st := []) (d1 := 0) (by decide +kernel) rfl rfl rfl rfl (by omega) (Fr37_3 e37) ?_
                          show m_Run X _ _ 15 163 [(0, .ref 1), (1, .int x1), (2, .int x2), (3, .int v31), (4, .int x4), (5, .int x5), (6, .int (g12.1 5)), (7, .int v18), (8, .int (1 : Int32)), (9, .int v23), (10, .int v27)] [] (hO 8 g35) _ _
                          refine m_go (L := [(163, .goto 14, 3, 0, 0), (177, .iinc 5 1, 3, 0, 0), (180, .goto (-143), 3, 0, 0)]) (pc1 := 37) (lv1 := [(0, .ref 1), (1, .int x1), (2, .int x2), (3, .int v31), (4, .int x4), (5, .int (x5 + (1 : Int32))), (6, .int (g12.1 5)), (7, .int v18), (8, .int (1 : Int32)), (9, .int v23), (10, .int v27)]) (st1 := []) (h1 := hO 8 g35) (by decide +kernel) rfl ?_
                          exact m_r0 _ _ _ _ _ _ _ _ _ _ (m_pick [0, 1, 2, 3, 4, 5] rfl) (ih _ _ _ _ _ _ _ _ h)
                        · exact m_cx (q := (160, .invokevirtual 143, 3, 37, 1)) (a := 37) (vs := [.ref 3, .int v23]) (st := []) (d1 := 0) (by decide +kernel) (by decide +kernel) rfl rfl rfl rfl (by omega) (Fr37_3 e37)
                      · rw [if_neg c34] at h
                        refine m_go (L := [(143, .aload_n 0, 1, 0, 0), (144, .iload 6, 2, 0, 0)]) (pc1 := 146) (lv1 := [(0, .ref 1), (1, .int x1), (2, .int x2), (3, .int v31), (4, .int x4), (5, .int x5), (6, .int (g12.1 5)), (7, .int v18), (8, .int (1 : Int32)), (9, .int v23), (10, .int v27)]) (st1 := [.int (g12.1 5), .ref 1]) (h1 := hO 8 g30) (by decide +kernel) rfl ?_
                        rcases m_cv_inv h with ⟨g39, e41, h⟩ | ⟨y42, g39, e41, rfl, rfl⟩
                        · refine m_ca (q := (146, .invokevirtual 77, 3, 3, 1)) (a := 3) (vs := [.ref 1, .int (g12.1 5)]) (st := []) (d1 := 1) (by decide +kernel) rfl rfl rfl rfl (by omega) (Fr3 e41) ?_
                          show m_Run X _ _ 15 149 [(0, .ref 1), (1, .int x1), (2, .int x2), (3, .int v31), (4, .int x4), (5, .int x5), (6, .int (g12.1 5)), (7, .int v18), (8, .int (1 : Int32)), (9, .int v23), (10, .int v27)] [] (hO 8 g39) _ _
                          refine m_go (L := [(149, .iload 8, 2, 0, 0), (151, .ifCond .eq 15, 3, 0, 0), (154, .aload_n 0, 1, 0, 0), (155, .getfield 21, 3, 0, 1), (158, .iload 9, 2, 0, 0)]) (pc1 := 160) (lv1 := [(0, .ref 1), (1, .int x1), (2, .int x2), (3, .int v31), (4, .int x4), (5, .int x5), (6, .int (g12.1 5)), (7, .int v18), (8, .int (1 : Int32)), (9, .int v23), (10, .int v27)]) (st1 := [.int v23, .ref 3]) (h1 := hO 8 g39) (by decide +kernel) rfl ?_
                          rcases m_cv_inv h with ⟨g43, e45, h⟩ | ⟨y46, g43, e45, rfl, rfl⟩
                          · refine m_ca (q := (160, .invokevirtual 143, 3, 37, 1)) (a := 37) (vs := [.ref 3, .int v23]) (st := []) (d1 := 0) (by decide +kernel) rfl rfl rfl rfl (by omega) (Fr37_3 e45) ?_
                            show m_Run X _ _ 15 163 [(0, .ref 1), (1, .int x1), (2, .int x2), (3, .int v31), (4, .int x4), (5, .int x5), (6, .int (g12.1 5)), (7, .int v18), (8, .int (1 : Int32)), (9, .int v23), (10, .int v27)] [] (hO 8 g43) _ _
                            refine m_go (L := [(163, .goto 14, 3, 0, 0), (177, .iinc 5 1, 3, 0, 0), (180, .goto (-143), 3, 0, 0)]) (pc1 := 37) (lv1 := [(0, .ref 1), (1, .int x1), (2, .int x2), (3, .int v31), (4, .int x4), (5, .int (x5 + (1 : Int32))), (6, .int (g12.1 5)), (7, .int v18), (8, .int (1 : Int32)), (9, .int v23), (10, .int v27)]) (st1 := []) (h1 := hO 8 g43) (by decide +kernel) rfl ?_
                            exact m_r0 _ _ _ _ _ _ _ _ _ _ (m_pick [0, 1, 2, 3, 4, 5] rfl) (ih _ _ _ _ _ _ _ _ h)
                          · exact m_cx (q := (160, .invokevirtual 143, 3, 37, 1)) (a := 37) (vs := [.ref 3, .int v23]) (st := []) (d1 := 0) (by decide +kernel) (by decide +kernel) rfl rfl rfl rfl (by omega) (Fr37_3 e45)
                        · exact m_cx (q := (146, .invokevirtual 77, 3, 3, 1)) (a := 3) (vs := [.ref 1, .int (g12.1 5)]) (st := []) (d1 := 1) (by decide +kernel) (by decide +kernel) rfl rfl rfl rfl (by omega) (Fr3 e41)
                    · exact m_cx (q := (134, .invokestatic 158, 3, 24, 3)) (a := 24) (vs := [.int v18, .int x3, .int v27]) (st := []) (d1 := 0) (by decide +kernel) (by decide +kernel) rfl rfl rfl rfl (by omega) (Fr24 e32)
                  · exact m_cx (q := (124, .invokevirtual 127, 3, 15, 2)) (a := 15) (vs := [.ref 1, .int (x1 + (1 : Int32)), .int x2]) (st := []) (d1 := d + 30) (by decide +kernel) (by decide +kernel) rfl rfl rfl rfl (by omega) (hr _ _ _ _ _ _ _ e28)
                · exact m_cx (q := (110, .invokevirtual 68, 3, 34, 2)) (a := 34) (vs := [.ref 3, .int v18, .int (0 : Int32)]) (st := []) (d1 := 0) (by decide +kernel) (by decide +kernel) rfl rfl rfl rfl (by omega) (Fr34_3 e24)
              · rw [if_neg c21] at h
                refine m_gob (c := ¬ v18 = (24 : Int32)) (t := 85) (f := 81) (L := [(74, .iload 7, 2, 0, 0), (76, .bipush 24, 2, 0, 0), (78, .if_icmp .ne 7, 3, 0, 0)]) (lv1 := [(0, .ref 1), (1, .int x1), (2, .int x2), (3, .int x3), (4, .int x4), (5, .int x5), (6, .int (g12.1 5)), (7, .int v18)]) (st1 := []) (h1 := hO 8 g17) (by decide +kernel) rfl (fun c47 => ?_) (fun c47 => ?_)
                · rw [if_pos c47] at h
                  refine m_go (L := [(85, .iconst 0, 1, 0, 0), (86, .istore 8, 2, 0, 0), (88, .aload_n 0, 1, 0, 0), (89, .dup, 1, 0, 0), (90, .getfield 25, 3, 0, 2), (93, .iconst 1, 1, 0, 0), (94, .iadd, 1, 0, 0), (95, .putfield 25, 3, 0, 2), (98, .iload 8, 2, 0, 0), (100, .ifCond .eq 16, 3, 0, 0), (116, .iconst (-1), 1, 0, 0), (117, .istore 9, 2, 0, 0), (119, .aload_n 0, 1, 0, 0), (120, .iload_n 1, 1, 0, 0), (121, .iconst 1, 1, 0, 0), (122, .iadd, 1, 0, 0), (123, .iload_n 2, 1, 0, 0)]) (pc1 := 124) (lv1 := [(0, .ref 1), (1, .int x1), (2, .int x2), (3, .int x3), (4, .int x4), (5, .int x5), (6, .int (g12.1 5)), (7, .int v18), (8, .int (0 : Int32)), (9, .int (-1 : Int32))]) (st1 := [.int x2, .int (x1 + (1 : Int32)), .ref 1]) (h1 := hO 8 (gI g17 5 ((g17.1 5) + (1 : Int32)))) (by decide +kernel) rfl ?_
                  rcases m_ci_inv h with ⟨v49, g48, e50, h⟩ | ⟨y51, g48, e50, rfl, rfl⟩
                  · refine m_ca (q := (124, .invokevirtual 127, 3, 15, 2)) (a := 15) (vs := [.ref 1, .int (x1 + (1 : Int32)), .int x2]) (st := []) (d1 := d + 30) (by decide +kernel) rfl rfl rfl rfl (by omega) (hr _ _ _ _ _ _ _ e50) ?_
                    show m_Run X _ _ 15 127 [(0, .ref 1), (1, .int x1), (2, .int x2), (3, .int x3), (4, .int x4), (5, .int x5), (6, .int (g12.1 5)), (7, .int v18), (8, .int (0 : Int32)), (9, .int (-1 : Int32))] [.int v49] (hO 8 g48) _ _
                    refine m_go (L := [(127, .istore 10, 2, 0, 0), (129, .iload 7, 2, 0, 0), (131, .iload_n 3, 1, 0, 0), (132, .iload 10, 2, 0, 0)]) (pc1 := 134) (lv1 := [(0, .ref 1), (1, .int x1), (2, .int x2), (3, .int x3), (4, .int x4), (5, .int x5), (6, .int (g12.1 5)), (7, .int v18), (8, .int (0 : Int32)), (9, .int (-1 : Int32)), (10, .int v49)]) (st1 := [.int v49, .int x3, .int v18]) (h1 := hO 8 g48) (by decide +kernel) rfl ?_
                    rcases m_ci_inv h with ⟨v53, g52, e54, h⟩ | ⟨y55, g52, e54, rfl, rfl⟩
                    · refine m_ca (q := (134, .invokestatic 158, 3, 24, 3)) (a := 24) (vs := [.int v18, .int x3, .int v49]) (st := []) (d1 := 0) (by decide +kernel) rfl rfl rfl rfl (by omega) (Fr24 e54) ?_
                      show m_Run X _ _ 15 137 [(0, .ref 1), (1, .int x1), (2, .int x2), (3, .int x3), (4, .int x4), (5, .int x5), (6, .int (g12.1 5)), (7, .int v18), (8, .int (0 : Int32)), (9, .int (-1 : Int32)), (10, .int v49)] [.int v53] (hO 8 g52) _ _
                      refine m_gob (c := ¬ v53 = (-1 : Int32)) (t := 149) (f := 143) (L := [(137, .istore_n 3, 1, 0, 0), (138, .iload_n 3, 1, 0, 0), (139, .iconst (-1), 1, 0, 0), (140, .if_icmp .ne 9, 3, 0, 0)]) (lv1 := [(0, .ref 1), (1, .int x1), (2, .int x2), (3, .int v53), (4, .int x4), (5, .int x5), (6, .int (g12.1 5)), (7, .int v18), (8, .int (0 : Int32)), (9, .int (-1 : Int32)), (10, .int v49)]) (st1 := []) (h1 := hO 8 g52) (by decide +kernel) rfl (fun c56 => ?_) (fun c56 => ?_)
                      · rw [if_pos c56] at h
                        refine m_go (L := [(149, .iload 8, 2, 0, 0), (151, .ifCond .eq 15, 3, 0, 0), (166, .aload_n 0, 1, 0, 0), (167, .getfield 21, 3, 0, 1), (170, .iload 7, 2, 0, 0), (172, .iconst 0, 1, 0, 0)]) (pc1 := 173) (lv1 := [(0, .ref 1), (1, .int x1), (2, .int x2), (3, .int v53), (4, .int x4), (5, .int x5), (6, .int (g12.1 5)), (7, .int v18), (8, .int (0 : Int32)), (9, .int (-1 : Int32)), (10, .int v49)]) (st1 := [.int (0 : Int32), .int v18, .ref 3]) (h1 := hO 8 g52) (by decide +kernel) rfl ?_
                        rcases m_ci_inv h with ⟨v58, g57, e59, h⟩ | ⟨y60, g57, e59, rfl, rfl⟩
                        · refine m_ca (q := (173, .invokevirtual 68, 3, 34, 2)) (a := 34) (vs := [.ref 3, .int v18, .int (0 : Int32)]) (st := []) (d1 := 0) (by decide +kernel) rfl rfl rfl rfl (by omega) (Fr34_3 e59) ?_
                          show m_Run X _ _ 15 176 [(0, .ref 1), (1, .int x1), (2, .int x2), (3, .int v53), (4, .int x4), (5, .int x5), (6, .int (g12.1 5)), (7, .int v18), (8, .int (0 : Int32)), (9, .int (-1 : Int32)), (10, .int v49)] [.int v58] (hO 8 g57) _ _
                          refine m_go (L := [(176, .pop, 1, 0, 0), (177, .iinc 5 1, 3, 0, 0), (180, .goto (-143), 3, 0, 0)]) (pc1 := 37) (lv1 := [(0, .ref 1), (1, .int x1), (2, .int x2), (3, .int v53), (4, .int x4), (5, .int (x5 + (1 : Int32))), (6, .int (g12.1 5)), (7, .int v18), (8, .int (0 : Int32)), (9, .int (-1 : Int32)), (10, .int v49)]) (st1 := []) (h1 := hO 8 g57) (by decide +kernel) rfl ?_
                          exact m_r0 _ _ _ _ _ _ _ _ _ _ (m_pick [0, 1, 2, 3, 4, 5] rfl) (ih _ _ _ _ _ _ _ _ h)
                        · exact m_cx (q := (173, .invokevirtual 68, 3, 34, 2)) (a := 34) (vs := [.ref 3, .int v18, .int (0 : Int32)]) (st := []) (d1 := 0) (by decide +kernel) (by decide +kernel) rfl rfl rfl rfl (by omega) (Fr34_3 e59)
                      · rw [if_neg c56] at h
                        refine m_go (L := [(143, .aload_n 0, 1, 0, 0), (144, .iload 6, 2, 0, 0)]) (pc1 := 146) (lv1 := [(0, .ref 1), (1, .int x1), (2, .int x2), (3, .int v53), (4, .int x4), (5, .int x5), (6, .int (g12.1 5)), (7, .int v18), (8, .int (0 : Int32)), (9, .int (-1 : Int32)), (10, .int v49)]) (st1 := [.int (g12.1 5), .ref 1]) (h1 := hO 8 g52) (by decide +kernel) rfl ?_
                        rcases m_cv_inv h with ⟨g61, e63, h⟩ | ⟨y64, g61, e63, rfl, rfl⟩
                        · refine m_ca (q := (146, .invokevirtual 77, 3, 3, 1)) (a := 3) (vs := [.ref 1, .int (g12.1 5)]) (st := []) (d1 := 1) (by decide +kernel) rfl rfl rfl rfl (by omega) (Fr3 e63) ?_
                          show m_Run X _ _ 15 149 [(0, .ref 1), (1, .int x1), (2, .int x2), (3, .int v53), (4, .int x4), (5, .int x5), (6, .int (g12.1 5)), (7, .int v18), (8, .int (0 : Int32)), (9, .int (-1 : Int32)), (10, .int v49)] [] (hO 8 g61) _ _
                          refine m_go (L := [(149, .iload 8, 2, 0, 0), (151, .ifCond .eq 15, 3, 0, 0), (166, .aload_n 0, 1, 0, 0), (167, .getfield 21, 3, 0, 1), (170, .iload 7, 2, 0, 0), (172, .iconst 0, 1, 0, 0)]) (pc1 := 173) (lv1 := [(0, .ref 1), (1, .int x1), (2, .int x2), (3, .int v53), (4, .int x4), (5, .int x5), (6, .int (g12.1 5)), (7, .int v18), (8, .int (0 : Int32)), (9, .int (-1 : Int32)), (10, .int v49)]) (st1 := [.int (0 : Int32), .int v18, .ref 3]) (h1 := hO 8 g61) (by decide +kernel) rfl ?_
                          rcases m_ci_inv h with ⟨v66, g65, e67, h⟩ | ⟨y68, g65, e67, rfl, rfl⟩
                          · refine m_ca (q := (173, .invokevirtual 68, 3, 34, 2)) (a := 34) (vs := [.ref 3, .int v18, .int (0 : Int32)]) (st := []) (d1 := 0) (by decide +kernel) rfl rfl rfl rfl (by omega) (Fr34_3 e67) ?_
                            show m_Run X _ _ 15 176 [(0, .ref 1), (1, .int x1), (2, .int x2), (3, .int v53), (4, .int x4), (5, .int x5), (6, .int (g12.1 5)), (7, .int v18), (8, .int (0 : Int32)), (9, .int (-1 : Int32)), (10, .int v49)] [.int v66] (hO 8 g65) _ _
                            refine m_go (L := [(176, .pop, 1, 0, 0), (177, .iinc 5 1, 3, 0, 0), (180, .goto (-143), 3, 0, 0)]) (pc1 := 37) (lv1 := [(0, .ref 1), (1, .int x1), (2, .int x2), (3, .int v53), (4, .int x4), (5, .int (x5 + (1 : Int32))), (6, .int (g12.1 5)), (7, .int v18), (8, .int (0 : Int32)), (9, .int (-1 : Int32)), (10, .int v49)]) (st1 := []) (h1 := hO 8 g65) (by decide +kernel) rfl ?_
                            exact m_r0 _ _ _ _ _ _ _ _ _ _ (m_pick [0, 1, 2, 3, 4, 5] rfl) (ih _ _ _ _ _ _ _ _ h)
                          · exact m_cx (q := (173, .invokevirtual 68, 3, 34, 2)) (a := 34) (vs := [.ref 3, .int v18, .int (0 : Int32)]) (st := []) (d1 := 0) (by decide +kernel) (by decide +kernel) rfl rfl rfl rfl (by omega) (Fr34_3 e67)
                        · exact m_cx (q := (146, .invokevirtual 77, 3, 3, 1)) (a := 3) (vs := [.ref 1, .int (g12.1 5)]) (st := []) (d1 := 1) (by decide +kernel) (by decide +kernel) rfl rfl rfl rfl (by omega) (Fr3 e63)
                    · exact m_cx (q := (134, .invokestatic 158, 3, 24, 3)) (a := 24) (vs := [.int v18, .int x3, .int v49]) (st := []) (d1 := 0) (by decide +kernel) (by decide +kernel) rfl rfl rfl rfl (by omega) (Fr24 e54)
                  · exact m_cx (q := (124, .invokevirtual 127, 3, 15, 2)) (a := 15) (vs := [.ref 1, .int (x1 + (1 : Int32)), .int x2]) (st := []) (d1 := d + 30) (by decide +kernel) (by decide +kernel) rfl rfl rfl rfl (by omega) (hr _ _ _ _ _ _ _ e50)
                · rw [if_neg c47] at h
                  refine m_go (L := [(81, .iconst 1, 1, 0, 0), (82, .goto 4, 3, 0, 0), (86, .istore 8, 2, 0, 0), (88, .aload_n 0, 1, 0, 0), (89, .dup, 1, 0, 0), (90, .getfield 25, 3, 0, 2), (93, .iconst 1, 1, 0, 0), (94, .iadd, 1, 0, 0), (95, .putfield 25, 3, 0, 2), (98, .iload 8, 2, 0, 0), (100, .ifCond .eq 16, 3, 0, 0), (103, .aload_n 0, 1, 0, 0), (104, .getfield 21, 3, 0, 1), (107, .iload 7, 2, 0, 0), (109, .iconst 0, 1, 0, 0)]) (pc1 := 110) (lv1 := [(0, .ref 1), (1, .int x1), (2, .int x2), (3, .int x3), (4, .int x4), (5, .int x5), (6, .int (g12.1 5)), (7, .int v18), (8, .int (1 : Int32))]) (st1 := [.int (0 : Int32), .int v18, .ref 3]) (h1 := hO 8 (gI g17 5 ((g17.1 5) + (1 : Int32)))) (by decide +kernel) rfl ?_
                  rcases m_ci_inv h with ⟨v70, g69, e71, h⟩ | ⟨y72, g69, e71, rfl, rfl⟩
                  · refine m_ca (q := (110, .invokevirtual 68, 3, 34, 2)) (a := 34) (vs := [.ref 3, .int v18, .int (0 : Int32)]) (st := []) (d1 := 0) (by decide +kernel) rfl rfl rfl rfl (by omega) (Fr34_3 e71) ?_
                    show m_Run X _ _ 15 113 [(0, .ref 1), (1, .int x1), (2, .int x2), (3, .int x3), (4, .int x4), (5, .int x5), (6, .int (g12.1 5)), (7, .int v18), (8, .int (1 : Int32))] [.int v70] (hO 8 g69) _ _
                    refine m_go (L := [(113, .goto 4, 3, 0, 0), (117, .istore 9, 2, 0, 0), (119, .aload_n 0, 1, 0, 0), (120, .iload_n 1, 1, 0, 0), (121, .iconst 1, 1, 0, 0), (122, .iadd, 1, 0, 0), (123, .iload_n 2, 1, 0, 0)]) (pc1 := 124) (lv1 := [(0, .ref 1), (1, .int x1), (2, .int x2), (3, .int x3), (4, .int x4), (5, .int x5), (6, .int (g12.1 5)), (7, .int v18), (8, .int (1 : Int32)), (9, .int v70)]) (st1 := [.int x2, .int (x1 + (1 : Int32)), .ref 1]) (h1 := hO 8 g69) (by decide +kernel) rfl ?_
                    rcases m_ci_inv h with ⟨v74, g73, e75, h⟩ | ⟨y76, g73, e75, rfl, rfl⟩
                    · refine m_ca (q := (124, .invokevirtual 127, 3, 15, 2)) (a := 15) (vs := [.ref 1, .int (x1 + (1 : Int32)), .int x2]) (st := []) (d1 := d + 30) (by decide +kernel) rfl rfl rfl rfl (by omega) (hr _ _ _ _ _ _ _ e75) ?_
                      show m_Run X _ _ 15 127 [(0, .ref 1), (1, .int x1), (2, .int x2), (3, .int x3), (4, .int x4), (5, .int x5), (6, .int (g12.1 5)), (7, .int v18), (8, .int (1 : Int32)), (9, .int v70)] [.int v74] (hO 8 g73) _ _
                      refine m_go (L := [(127, .istore 10, 2, 0, 0), (129, .iload 7, 2, 0, 0), (131, .iload_n 3, 1, 0, 0), (132, .iload 10, 2, 0, 0)]) (pc1 := 134) (lv1 := [(0, .ref 1), (1, .int x1), (2, .int x2), (3, .int x3), (4, .int x4), (5, .int x5), (6, .int (g12.1 5)), (7, .int v18), (8, .int (1 : Int32)), (9, .int v70), (10, .int v74)]) (st1 := [.int v74, .int x3, .int v18]) (h1 := hO 8 g73) (by decide +kernel) rfl ?_
                      rcases m_ci_inv h with ⟨v78, g77, e79, h⟩ | ⟨y80, g77, e79, rfl, rfl⟩
                      · refine m_ca (q := (134, .invokestatic 158, 3, 24, 3)) (a := 24) (vs := [.int v18, .int x3, .int v74]) (st := []) (d1 := 0) (by decide +kernel) rfl rfl rfl rfl (by omega) (Fr24 e79) ?_
                        show m_Run X _ _ 15 137 [(0, .ref 1), (1, .int x1), (2, .int x2), (3, .int x3), (4, .int x4), (5, .int x5), (6, .int (g12.1 5)), (7, .int v18), (8, .int (1 : Int32)), (9, .int v70), (10, .int v74)] [.int v78] (hO 8 g77) _ _
                        refine m_gob (c := ¬ v78 = (-1 : Int32)) (t := 149) (f := 143) (L := [(137, .istore_n 3, 1, 0, 0), (138, .iload_n 3, 1, 0, 0), (139, .iconst (-1), 1, 0, 0), (140, .if_icmp .ne 9, 3, 0, 0)]) (lv1 := [(0, .ref 1), (1, .int x1), (2, .int x2), (3, .int v78), (4, .int x4), (5, .int x5), (6, .int (g12.1 5)), (7, .int v18), (8, .int (1 : Int32)), (9, .int v70), (10, .int v74)]) (st1 := []) (h1 := hO 8 g77) (by decide +kernel) rfl (fun c81 => ?_) (fun c81 => ?_)
                        · rw [if_pos c81] at h
                          refine m_go (L := [(149, .iload 8, 2, 0, 0), (151, .ifCond .eq 15, 3, 0, 0), (154, .aload_n 0, 1, 0, 0), (155, .getfield 21, 3, 0, 1), (158, .iload 9, 2, 0, 0)]) (pc1 := 160) (lv1 := [(0, .ref 1), (1, .int x1), (2, .int x2), (3, .int v78), (4, .int x4), (5, .int x5), (6, .int (g12.1 5)), (7, .int v18), (8, .int (1 : Int32)), (9, .int v70), (10, .int v74)]) (st1 := [.int v70, .ref 3]) (h1 := hO 8 g77) (by decide +kernel) rfl ?_
                          rcases m_cv_inv h with ⟨g82, e84, h⟩ | ⟨y85, g82, e84, rfl, rfl⟩
                          · refine m_ca (q := (160, .invokevirtual 143, 3, 37, 1)) (a := 37) (vs := [.ref 3, .int v70]) (st := []) (d1 := 0) (by decide +kernel) rfl rfl rfl rfl (by omega) (Fr37_3 e84) ?_
                            show m_Run X _ _ 15 163 [(0, .ref 1), (1, .int x1), (2, .int x2), (3, .int v78), (4, .int x4), (5, .int x5), (6, .int (g12.1 5)), (7, .int v18), (8, .int (1 : Int32)), (9, .int v70), (10, .int v74)] [] (hO 8 g82) _ _
                            refine m_go (L := [(163, .goto 14, 3, 0, 0), (177, .iinc 5 1, 3, 0, 0), (180, .goto (-143), 3, 0, 0)]) (pc1 := 37) (lv1 := [(0, .ref 1), (1, .int x1), (2, .int x2), (3, .int v78), (4, .int x4), (5, .int (x5 + (1 : Int32))), (6, .int (g12.1 5)), (7, .int v18), (8, .int (1 : Int32)), (9, .int v70), (10, .int v74)]) (st1 := []) (h1 := hO 8 g82) (by decide +kernel) rfl ?_
                            exact m_r0 _ _ _ _ _ _ _ _ _ _ (m_pick [0, 1, 2, 3, 4, 5] rfl) (ih _ _ _ _ _ _ _ _ h)
                          · exact m_cx (q := (160, .invokevirtual 143, 3, 37, 1)) (a := 37) (vs := [.ref 3, .int v70]) (st := []) (d1 := 0) (by decide +kernel) (by decide +kernel) rfl rfl rfl rfl (by omega) (Fr37_3 e84)
                        · rw [if_neg c81] at h
                          refine m_go (L := [(143, .aload_n 0, 1, 0, 0), (144, .iload 6, 2, 0, 0)]) (pc1 := 146) (lv1 := [(0, .ref 1), (1, .int x1), (2, .int x2), (3, .int v78), (4, .int x4), (5, .int x5), (6, .int (g12.1 5)), (7, .int v18), (8, .int (1 : Int32)), (9, .int v70), (10, .int v74)]) (st1 := [.int (g12.1 5), .ref 1]) (h1 := hO 8 g77) (by decide +kernel) rfl ?_
                          rcases m_cv_inv h with ⟨g86, e88, h⟩ | ⟨y89, g86, e88, rfl, rfl⟩
                          · refine m_ca (q := (146, .invokevirtual 77, 3, 3, 1)) (a := 3) (vs := [.ref 1, .int (g12.1 5)]) (st := []) (d1 := 1) (by decide +kernel) rfl rfl rfl rfl (by omega) (Fr3 e88) ?_
                            show m_Run X _ _ 15 149 [(0, .ref 1), (1, .int x1), (2, .int x2), (3, .int v78), (4, .int x4), (5, .int x5), (6, .int (g12.1 5)), (7, .int v18), (8, .int (1 : Int32)), (9, .int v70), (10, .int v74)] [] (hO 8 g86) _ _
                            refine m_go (L := [(149, .iload 8, 2, 0, 0), (151, .ifCond .eq 15, 3, 0, 0), (154, .aload_n 0, 1, 0, 0), (155, .getfield 21, 3, 0, 1), (158, .iload 9, 2, 0, 0)]) (pc1 := 160) (lv1 := [(0, .ref 1), (1, .int x1), (2, .int x2), (3, .int v78), (4, .int x4), (5, .int x5), (6, .int (g12.1 5)), (7, .int v18), (8, .int (1 : Int32)), (9, .int v70), (10, .int v74)]) (st1 := [.int v70, .ref 3]) (h1 := hO 8 g86) (by decide +kernel) rfl ?_
                            rcases m_cv_inv h with ⟨g90, e92, h⟩ | ⟨y93, g90, e92, rfl, rfl⟩
                            · refine m_ca (q := (160, .invokevirtual 143, 3, 37, 1)) (a := 37) (vs := [.ref 3, .int v70]) (st := []) (d1 := 0) (by decide +kernel) rfl rfl rfl rfl (by omega) (Fr37_3 e92) ?_
                              show m_Run X _ _ 15 163 [(0, .ref 1), (1, .int x1), (2, .int x2), (3, .int v78), (4, .int x4), (5, .int x5), (6, .int (g12.1 5)), (7, .int v18), (8, .int (1 : Int32)), (9, .int v70), (10, .int v74)] [] (hO 8 g90) _ _
                              refine m_go (L := [(163, .goto 14, 3, 0, 0), (177, .iinc 5 1, 3, 0, 0), (180, .goto (-143), 3, 0, 0)]) (pc1 := 37) (lv1 := [(0, .ref 1), (1, .int x1), (2, .int x2), (3, .int v78), (4, .int x4), (5, .int (x5 + (1 : Int32))), (6, .int (g12.1 5)), (7, .int v18), (8, .int (1 : Int32)), (9, .int v70), (10, .int v74)]) (st1 := []) (h1 := hO 8 g90) (by decide +kernel) rfl ?_
                              exact m_r0 _ _ _ _ _ _ _ _ _ _ (m_pick [0, 1, 2, 3, 4, 5] rfl) (ih _ _ _ _ _ _ _ _ h)
                            · exact m_cx (q := (160, .invokevirtual 143, 3, 37, 1)) (a := 37) (vs := [.ref 3, .int v70]) (st := []) (d1 := 0) (by decide +kernel) (by decide +kernel) rfl rfl rfl rfl (by omega) (Fr37_3 e92)
                          · exact m_cx (q := (146, .invokevirtual 77, 3, 3, 1)) (a := 3) (vs := [.ref 1, .int (g12.1 5)]) (st := []) (d1 := 1) (by decide +kernel) (by decide +kernel) rfl rfl rfl rfl (by omega) (Fr3 e88)
                      · exact m_cx (q := (134, .invokestatic 158, 3, 24, 3)) (a := 24) (vs := [.int v18, .int x3, .int v74]) (st := []) (d1 := 0) (by decide +kernel) (by decide +kernel) rfl rfl rfl rfl (by omega) (Fr24 e79)
                    · exact m_cx (q := (124, .invokevirtual 127, 3, 15, 2)) (a := 15) (vs := [.ref 1, .int (x1 + (1 : Int32)), .int x2]) (st := []) (d1 := d + 30) (by decide +kernel) (by decide +kernel) rfl rfl rfl rfl (by omega) (hr _ _ _ _ _ _ _ e75)
                  · exact m_cx (q := (110, .invokevirtual 68, 3, 34, 2)) (a := 34) (vs := [.ref 3, .int v18, .int (0 : Int32)]) (st := []) (d1 := 0) (by decide +kernel) (by decide +kernel) rfl rfl rfl rfl (by omega) (Fr34_3 e71)
            · exact m_cx (q := (62, .invokevirtual 52, 3, 1, 0)) (a := 1) (vs := [.ref 1]) (st := []) (d1 := 1) (by decide +kernel) (by decide +kernel) rfl rfl rfl rfl (by omega) (Fr1 e19)
        · exact m_cx (q := (48, .invokestatic 155, 3, 23, 1)) (a := 23) (vs := [.int v9]) (st := []) (d1 := 0) (by decide +kernel) (by decide +kernel) rfl rfl rfl rfl (by omega) (Fr23 e14)
      · exact m_cx (q := (45, .invokevirtual 52, 3, 1, 0)) (a := 1) (vs := [.ref 1]) (st := []) (d1 := 1) (by decide +kernel) (by decide +kernel) rfl rfl rfl rfl (by omega) (Fr1 e10)
def f15_32 (n : Nat) (rc : mRec) (x1 : Int32) (x2 : Int32) (x3 : Int32) (s0 : Int32) (g : mG) : mZ := f15_37 n rc n x1 x2 x3 s0 (0 : Int32) g
theorem Fr15_32 {d : Nat} {rc : mRec} (hr : m_Rec X d rc) {x1 : Int32} {x2 : Int32} {x3 : Int32} {s0 : Int32} {g g' : mG} {o : mO} (h : f15_32 n rc x1 x2 x3 s0 g = some (o, g')) : m_Run X (d + 31) (m_ko o) 15 32 [(0, .ref 1), (1, .int x1), (2, .int x2), (3, .int x3)] [.int s0] (hO 8 g) o (hO 8 g') := by
  unfold f15_32 at h
  refine m_go (L := [(32, .istore 4, 2, 0, 0), (34, .iconst 0, 1, 0, 0), (35, .istore 5, 2, 0, 0)]) (pc1 := 37) (lv1 := [(0, .ref 1), (1, .int x1), (2, .int x2), (3, .int x3), (4, .int s0), (5, .int (0 : Int32))]) (st1 := []) (h1 := hO 8 g) (by decide +kernel) rfl ?_
  exact m_r0 _ _ _ _ _ _ _ _ _ _ (m_pick [0, 1, 2, 3, 4, 5] rfl) (Fr15_37 hr _ _ _ _ _ _ _ _ _ h)
def f15 (n : Nat) (rc : mRec) (x1 : Int32) (x2 : Int32) (g : mG) : mZ := if x1 ≤ (4 : Int32) then m_ci (rc 15 (x1 + (1 : Int32)) x2 0 g) (fun v3 g2 => if ¬ x1 = (2 : Int32) then f15_32 n rc x1 x2 v3 (600 : Int32) g2 else f15_32 n rc x1 x2 v3 (1 : Int32) g2) else m_ci (rc 16 x2 0 0 g) (fun v95 g94 => some (.inl (some (.int v95)), g94))
theorem Fr15 {d : Nat} {rc : mRec} (hr : m_Rec X d rc) {x1 : Int32} {x2 : Int32} {g g' : mG} {o : mO} (h : f15 n rc x1 x2 g = some (o, g')) : m_Run X (d + 31) (m_ko o) 15 0 [(0, .ref 1), (1, .int x1), (2, .int x2)] [] (hO 8 g) o (hO 8 g') := by
  unfold f15 at h
  refine m_gob (c := x1 ≤ (4 : Int32)) (t := 11) (f := 5) (L := [(0, .iload_n 1, 1, 0, 0), (1, .iconst 4, 1, 0, 0), (2, .if_icmp .le 9, 3, 0, 0)]) (lv1 := [(0, .ref 1), (1, .int x1), (2, .int x2)]) (st1 := []) (h1 := hO 8 g) (by decide +kernel) rfl (fun c1 => ?_) (fun c1 => ?_)
  · rw [if_pos c1] at h
    refine m_go (L := [(11, .aload_n 0, 1, 0, 0), (12, .iload_n 1, 1, 0, 0), (13, .iconst 1, 1, 0, 0), (14, .iadd, 1, 0, 0), (15, .iload_n 2, 1, 0, 0)]) (pc1 := 16) (lv1 := [(0, .ref 1), (1, .int x1), (2, .int x2)]) (st1 := [.int x2, .int (x1 + (1 : Int32)), .ref 1]) (h1 := hO 8 g) (by decide +kernel) rfl ?_
    rcases m_ci_inv h with ⟨v3, g2, e4, h⟩ | ⟨y5, g2, e4, rfl, rfl⟩
    · refine m_ca (q := (16, .invokevirtual 127, 3, 15, 2)) (a := 15) (vs := [.ref 1, .int (x1 + (1 : Int32)), .int x2]) (st := []) (d1 := d + 30) (by decide +kernel) rfl rfl rfl rfl (by omega) (hr _ _ _ _ _ _ _ e4) ?_
      show m_Run X _ _ 15 19 [(0, .ref 1), (1, .int x1), (2, .int x2)] [.int v3] (hO 8 g2) _ _
      refine m_gob (c := ¬ x1 = (2 : Int32)) (t := 29) (f := 25) (L := [(19, .istore_n 3, 1, 0, 0), (20, .iload_n 1, 1, 0, 0), (21, .iconst 2, 1, 0, 0), (22, .if_icmp .ne 7, 3, 0, 0)]) (lv1 := [(0, .ref 1), (1, .int x1), (2, .int x2), (3, .int v3)]) (st1 := []) (h1 := hO 8 g2) (by decide +kernel) rfl (fun c6 => ?_) (fun c6 => ?_)
      · rw [if_pos c6] at h
        refine m_go (L := [(29, .sipush 600, 3, 0, 0)]) (pc1 := 32) (lv1 := [(0, .ref 1), (1, .int x1), (2, .int x2), (3, .int v3)]) (st1 := [.int (600 : Int32)]) (h1 := hO 8 g2) (by decide +kernel) rfl ?_
        exact m_r0 _ _ _ _ _ _ _ _ _ _ (m_pick [0, 1, 2, 3] rfl) (Fr15_32 hr h)
      · rw [if_neg c6] at h
        refine m_go (L := [(25, .iconst 1, 1, 0, 0), (26, .goto 6, 3, 0, 0)]) (pc1 := 32) (lv1 := [(0, .ref 1), (1, .int x1), (2, .int x2), (3, .int v3)]) (st1 := [.int (1 : Int32)]) (h1 := hO 8 g2) (by decide +kernel) rfl ?_
        exact m_r0 _ _ _ _ _ _ _ _ _ _ (m_pick [0, 1, 2, 3] rfl) (Fr15_32 hr h)
    · exact m_cx (q := (16, .invokevirtual 127, 3, 15, 2)) (a := 15) (vs := [.ref 1, .int (x1 + (1 : Int32)), .int x2]) (st := []) (d1 := d + 30) (by decide +kernel) (by decide +kernel) rfl rfl rfl rfl (by omega) (hr _ _ _ _ _ _ _ e4)
  · rw [if_neg c1] at h
    refine m_go (L := [(5, .aload_n 0, 1, 0, 0), (6, .iload_n 2, 1, 0, 0)]) (pc1 := 7) (lv1 := [(0, .ref 1), (1, .int x1), (2, .int x2)]) (st1 := [.int x2, .ref 1]) (h1 := hO 8 g) (by decide +kernel) rfl ?_
    rcases m_ci_inv h with ⟨v95, g94, e96, h⟩ | ⟨y97, g94, e96, rfl, rfl⟩
    · refine m_ca (q := (7, .invokevirtual 152, 3, 16, 1)) (a := 16) (vs := [.ref 1, .int x2]) (st := []) (d1 := d + 30) (by decide +kernel) rfl rfl rfl rfl (by omega) (hr _ _ _ _ _ _ _ e96) ?_
      show m_Run X _ _ 15 10 [(0, .ref 1), (1, .int x1), (2, .int x2)] [.int v95] (hO 8 g94) _ _
      cases h
      exact m_ri (by decide +kernel)
    · exact m_cx (q := (7, .invokevirtual 152, 3, 16, 1)) (a := 16) (vs := [.ref 1, .int x2]) (st := []) (d1 := d + 30) (by decide +kernel) (by decide +kernel) rfl rfl rfl rfl (by omega) (hr _ _ _ _ _ _ _ e96)
def f16_164 (n : Nat) (rc : mRec) (s1 : Int32) (s2 : Int32) (g : mG) : mZ := m_ci (f34_3 n s1 s2 g) (fun v63 g62 => some (.inl (some (.int (1 : Int32))), g62))
theorem Fr16_164 {d : Nat} {rc : mRec} (hr : m_Rec X d rc) {s1 : Int32} {s2 : Int32} {g g' : mG} {o : mO} (h : f16_164 n rc s1 s2 g = some (o, g')) : m_Run X (d + 31) (m_ko o) 16 164 [] [.int s2, .int s1, .ref 3] (hO 8 g) o (hO 8 g') := by
  unfold f16_164 at h
  rcases m_ci_inv h with ⟨v63, g62, e64, h⟩ | ⟨y65, g62, e64, rfl, rfl⟩
  · refine m_ca (q := (164, .invokevirtual 68, 3, 34, 2)) (a := 34) (vs := [.ref 3, .int s1, .int s2]) (st := []) (d1 := 0) (by decide +kernel) rfl rfl rfl rfl (by omega) (Fr34_3 e64) ?_
    show m_Run X _ _ 16 167 [] [.int v63] (hO 8 g62) _ _
    refine m_go (L := [(167, .pop, 1, 0, 0), (168, .iconst 1, 1, 0, 0)]) (pc1 := 169) (lv1 := []) (st1 := [.int (1 : Int32)]) (h1 := hO 8 g62) (by decide +kernel) rfl ?_
    cases h
    exact m_ri (by decide +kernel)
  · exact m_cx (q := (164, .invokevirtual 68, 3, 34, 2)) (a := 34) (vs := [.ref 3, .int s1, .int s2]) (st := []) (d1 := 0) (by decide +kernel) (by decide +kernel) rfl rfl rfl rfl (by omega) (Fr34_3 e64)
def f16 (n : Nat) (rc : mRec) (x1 : Int32) (g : mG) : mZ := m_ci (f1 n g) (fun v2 g1 => if v2 = 2 then m_ci (f1 n (gI g1 5 ((g1.1 5) + (1 : Int32)))) (fun v7 g6 => if ¬ v7 = (4 : Int32) then m_ci (f20 n (g.1 5) g6) (fun v12 g11 => some (.inl (some (.int v12)), g11)) else m_ci (rc 19 (g.1 5) x1 0 g6) (fun v16 g15 => some (.inl (some (.int v16)), g15))) else if v2 = 3 then m_ci (f76 n (g.1 5) (gI g1 5 ((g1.1 5) + (1 : Int32)))) (fun v21 g20 => m_ci (f34_3 n (3 : Int32) v21 g20) (fun v25 g24 => some (.inl (some (.int (0 : Int32))), g24))) else if v2 = 4 then m_ci (f12 n (4 : Int32) x1 g1) (fun v30 g29 => m_ci (rc 15 (0 : Int32) v30 0 g29) (fun v34 g33 => m_cv (f6 n (5 : Int32) g33) (fun g37 => some (.inl (some (.int v34)), g37)))) else if v2 = 18 then m_ci (rc 17 (0 : Int32) (37 : Int32) x1 g1) (fun v43 g42 => some (.inl (some (.int v43)), g42)) else if v2 = 22 then m_ci (rc 17 (1 : Int32) (22 : Int32) x1 g1) (fun v48 g47 => some (.inl (some (.int v48)), g47)) else if v2 = 28 then m_ci (rc 22 x1 0 0 g1) (fun v53 g52 => some (.inl (some (.int v53)), g52)) else if v2 = 34 then m_ci (f73 n (g.1 5) (gI g1 5 ((g1.1 5) + (1 : Int32)))) (fun v58 g57 => if ¬ v58 = (34 : Int32) then f16_164 n rc (3 : Int32) (0 : Int32) g57 else f16_164 n rc (3 : Int32) (1 : Int32) g57) else if v2 = 35 then m_ci (f73 n (g.1 5) (gI g1 5 ((g1.1 5) + (1 : Int32)))) (fun v68 g67 => if ¬ v68 = (34 : Int32) then f16_164 n rc (3 : Int32) (0 : Int32) g67 else f16_164 n rc (3 : Int32) (1 : Int32) g67) else m_cv (f3 n (g.1 5) g1) (fun g72 => some (.inl (some (.int (0 : Int32))), g72)))
theorem Fr16 {d : Nat} {rc : mRec} (hr : m_Rec X d rc) {x1 : Int32} {g g' : mG} {o : mO} (h : f16 n rc x1 g = some (o, g')) : m_Run X (d + 31) (m_ko o) 16 0 [(0, .ref 1), (1, .int x1)] [] (hO 8 g) o (hO 8 g') := by
  unfold f16 at h
  refine m_go (L := [(0, .aload_n 0, 1, 0, 0), (1, .getfield 25, 3, 0, 2), (4, .istore_n 2, 1, 0, 0), (5, .aload_n 0, 1, 0, 0)]) (pc1 := 6) (lv1 := [(0, .ref 1), (1, .int x1), (2, .int (g.1 5))]) (st1 := [.ref 1]) (h1 := hO 8 g) (by decide +kernel) rfl ?_
  rcases m_ci_inv h with ⟨v2, g1, e3, h⟩ | ⟨y4, g1, e3, rfl, rfl⟩
  · refine m_ca (q := (6, .invokevirtual 52, 3, 1, 0)) (a := 1) (vs := [.ref 1]) (st := []) (d1 := 1) (by decide +kernel) rfl rfl rfl rfl (by omega) (Fr1 e3) ?_
    show m_Run X _ _ 16 9 [(0, .ref 1), (1, .int x1), (2, .int (g.1 5))] [.int v2] (hO 8 g1) _ _
    by_cases c5 : v2 = 2
    · rw [if_pos c5] at h
      refine m_go1 (q := (9, .lookupswitch 223 #[(2, 161), (3, 93), (4, 200), (18, 75), (22, 84), (28, 194), (34, 122), (35, 122)], 75, 0, 0)) (pc1 := 170) (lv1 := [(0, .ref 1), (1, .int x1), (2, .int (g.1 5))]) (st1 := []) (h1 := hO 8 g1) (by decide +kernel) (m_swx (fun z => m_loc m_ft X (.lookupswitch 223 #[(2, 161), (3, 93), (4, 200), (18, 75), (22, 84), (28, 194), (34, 122), (35, 122)]) 0 0 9 [(0, .ref 1), (1, .int x1), (2, .int (g.1 5))] (.int z :: []) (hO 8 g1)) c5 rfl) ?_
      refine m_go (L := [(170, .aload_n 0, 1, 0, 0), (171, .dup, 1, 0, 0), (172, .getfield 25, 3, 0, 2), (175, .iconst 1, 1, 0, 0), (176, .iadd, 1, 0, 0), (177, .putfield 25, 3, 0, 2), (180, .aload_n 0, 1, 0, 0)]) (pc1 := 181) (lv1 := [(0, .ref 1), (1, .int x1), (2, .int (g.1 5))]) (st1 := [.ref 1]) (h1 := hO 8 (gI g1 5 ((g1.1 5) + (1 : Int32)))) (by decide +kernel) rfl ?_
      rcases m_ci_inv h with ⟨v7, g6, e8, h⟩ | ⟨y9, g6, e8, rfl, rfl⟩
      · refine m_ca (q := (181, .invokevirtual 52, 3, 1, 0)) (a := 1) (vs := [.ref 1]) (st := []) (d1 := 1) (by decide +kernel) rfl rfl rfl rfl (by omega) (Fr1 e8) ?_
        show m_Run X _ _ 16 184 [(0, .ref 1), (1, .int x1), (2, .int (g.1 5))] [.int v7] (hO 8 g6) _ _
        refine m_gob (c := ¬ v7 = (4 : Int32)) (t := 197) (f := 188) (L := [(184, .iconst 4, 1, 0, 0), (185, .if_icmp .ne 12, 3, 0, 0)]) (lv1 := [(0, .ref 1), (1, .int x1), (2, .int (g.1 5))]) (st1 := []) (h1 := hO 8 g6) (by decide +kernel) rfl (fun c10 => ?_) (fun c10 => ?_)
        · rw [if_pos c10] at h
          refine m_go (L := [(197, .aload_n 0, 1, 0, 0), (198, .iload_n 2, 1, 0, 0)]) (pc1 := 199) (lv1 := [(0, .ref 1), (1, .int x1), (2, .int (g.1 5))]) (st1 := [.int (g.1 5), .ref 1]) (h1 := hO 8 g6) (by decide +kernel) rfl ?_
          rcases m_ci_inv h with ⟨v12, g11, e13, h⟩ | ⟨y14, g11, e13, rfl, rfl⟩
          · refine m_ca (q := (199, .invokevirtual 171, 3, 20, 1)) (a := 20) (vs := [.ref 1, .int (g.1 5)]) (st := []) (d1 := 2) (by decide +kernel) rfl rfl rfl rfl (by omega) (Fr20 e13) ?_
            show m_Run X _ _ 16 202 [(0, .ref 1), (1, .int x1), (2, .int (g.1 5))] [.int v12] (hO 8 g11) _ _
            cases h
            exact m_ri (by decide +kernel)
          · exact m_cx (q := (199, .invokevirtual 171, 3, 20, 1)) (a := 20) (vs := [.ref 1, .int (g.1 5)]) (st := []) (d1 := 2) (by decide +kernel) (by decide +kernel) rfl rfl rfl rfl (by omega) (Fr20 e13)
        · rw [if_neg c10] at h
          refine m_go (L := [(188, .aload_n 0, 1, 0, 0), (189, .iload_n 2, 1, 0, 0), (190, .iload_n 1, 1, 0, 0)]) (pc1 := 191) (lv1 := [(0, .ref 1), (1, .int x1), (2, .int (g.1 5))]) (st1 := [.int x1, .int (g.1 5), .ref 1]) (h1 := hO 8 g6) (by decide +kernel) rfl ?_
          rcases m_ci_inv h with ⟨v16, g15, e17, h⟩ | ⟨y18, g15, e17, rfl, rfl⟩
          · refine m_ca (q := (191, .invokevirtual 168, 3, 19, 2)) (a := 19) (vs := [.ref 1, .int (g.1 5), .int x1]) (st := []) (d1 := d + 30) (by decide +kernel) rfl rfl rfl rfl (by omega) (hr _ _ _ _ _ _ _ e17) ?_
            show m_Run X _ _ 16 194 [(0, .ref 1), (1, .int x1), (2, .int (g.1 5))] [.int v16] (hO 8 g15) _ _
            refine m_go (L := [(194, .goto 8, 3, 0, 0)]) (pc1 := 202) (lv1 := [(0, .ref 1), (1, .int x1), (2, .int (g.1 5))]) (st1 := [.int v16]) (h1 := hO 8 g15) (by decide +kernel) rfl ?_
            cases h
            exact m_ri (by decide +kernel)
          · exact m_cx (q := (191, .invokevirtual 168, 3, 19, 2)) (a := 19) (vs := [.ref 1, .int (g.1 5), .int x1]) (st := []) (d1 := d + 30) (by decide +kernel) (by decide +kernel) rfl rfl rfl rfl (by omega) (hr _ _ _ _ _ _ _ e17)
      · exact m_cx (q := (181, .invokevirtual 52, 3, 1, 0)) (a := 1) (vs := [.ref 1]) (st := []) (d1 := 1) (by decide +kernel) (by decide +kernel) rfl rfl rfl rfl (by omega) (Fr1 e8)
    · rw [if_neg c5] at h
      by_cases c19 : v2 = 3
      · rw [if_pos c19] at h
        refine m_go1 (q := (9, .lookupswitch 223 #[(2, 161), (3, 93), (4, 200), (18, 75), (22, 84), (28, 194), (34, 122), (35, 122)], 75, 0, 0)) (pc1 := 102) (lv1 := [(0, .ref 1), (1, .int x1), (2, .int (g.1 5))]) (st1 := []) (h1 := hO 8 g1) (by decide +kernel) (m_swx (fun z => m_loc m_ft X (.lookupswitch 223 #[(2, 161), (3, 93), (4, 200), (18, 75), (22, 84), (28, 194), (34, 122), (35, 122)]) 0 0 9 [(0, .ref 1), (1, .int x1), (2, .int (g.1 5))] (.int z :: []) (hO 8 g1)) c19 rfl) ?_
        refine m_go (L := [(102, .aload_n 0, 1, 0, 0), (103, .dup, 1, 0, 0), (104, .getfield 25, 3, 0, 2), (107, .iconst 1, 1, 0, 0), (108, .iadd, 1, 0, 0), (109, .putfield 25, 3, 0, 2), (112, .aload_n 0, 1, 0, 0), (113, .getfield 21, 3, 0, 1), (116, .iconst 3, 1, 0, 0), (117, .aload_n 0, 1, 0, 0), (118, .getfield 12, 3, 0, 0), (121, .iload_n 2, 1, 0, 0)]) (pc1 := 122) (lv1 := [(0, .ref 1), (1, .int x1), (2, .int (g.1 5))]) (st1 := [.int (g.1 5), .ref 2, .int (3 : Int32), .ref 3]) (h1 := hO 8 (gI g1 5 ((g1.1 5) + (1 : Int32)))) (by decide +kernel) rfl ?_
        rcases m_ci_inv h with ⟨v21, g20, e22, h⟩ | ⟨y23, g20, e22, rfl, rfl⟩
        · refine m_ca (q := (122, .invokevirtual 165, 3, 76, 1)) (a := 76) (vs := [.ref 2, .int (g.1 5)]) (st := [.int (3 : Int32), .ref 3]) (d1 := 0) (by decide +kernel) rfl rfl rfl rfl (by omega) (Fr76 e22) ?_
          show m_Run X _ _ 16 125 [(0, .ref 1), (1, .int x1), (2, .int (g.1 5))] [.int v21, .int (3 : Int32), .ref 3] (hO 8 g20) _ _
          rcases m_ci_inv h with ⟨v25, g24, e26, h⟩ | ⟨y27, g24, e26, rfl, rfl⟩
          · refine m_ca (q := (125, .invokevirtual 68, 3, 34, 2)) (a := 34) (vs := [.ref 3, .int (3 : Int32), .int v21]) (st := []) (d1 := 0) (by decide +kernel) rfl rfl rfl rfl (by omega) (Fr34_3 e26) ?_
            show m_Run X _ _ 16 128 [(0, .ref 1), (1, .int x1), (2, .int (g.1 5))] [.int v25] (hO 8 g24) _ _
            refine m_go (L := [(128, .pop, 1, 0, 0), (129, .iconst 0, 1, 0, 0)]) (pc1 := 130) (lv1 := [(0, .ref 1), (1, .int x1), (2, .int (g.1 5))]) (st1 := [.int (0 : Int32)]) (h1 := hO 8 g24) (by decide +kernel) rfl ?_
            cases h
            exact m_ri (by decide +kernel)
          · exact m_cx (q := (125, .invokevirtual 68, 3, 34, 2)) (a := 34) (vs := [.ref 3, .int (3 : Int32), .int v21]) (st := []) (d1 := 0) (by decide +kernel) (by decide +kernel) rfl rfl rfl rfl (by omega) (Fr34_3 e26)
        · exact m_cx (q := (122, .invokevirtual 165, 3, 76, 1)) (a := 76) (vs := [.ref 2, .int (g.1 5)]) (st := [.int (3 : Int32), .ref 3]) (d1 := 0) (by decide +kernel) (by decide +kernel) rfl rfl rfl rfl (by omega) (Fr76 e22)
      · rw [if_neg c19] at h
        by_cases c28 : v2 = 4
        · rw [if_pos c28] at h
          refine m_go1 (q := (9, .lookupswitch 223 #[(2, 161), (3, 93), (4, 200), (18, 75), (22, 84), (28, 194), (34, 122), (35, 122)], 75, 0, 0)) (pc1 := 209) (lv1 := [(0, .ref 1), (1, .int x1), (2, .int (g.1 5))]) (st1 := []) (h1 := hO 8 g1) (by decide +kernel) (m_swx (fun z => m_loc m_ft X (.lookupswitch 223 #[(2, 161), (3, 93), (4, 200), (18, 75), (22, 84), (28, 194), (34, 122), (35, 122)]) 0 0 9 [(0, .ref 1), (1, .int x1), (2, .int (g.1 5))] (.int z :: []) (hO 8 g1)) c28 rfl) ?_
          refine m_go (L := [(209, .aload_n 0, 1, 0, 0), (210, .iconst 4, 1, 0, 0), (211, .iload_n 1, 1, 0, 0)]) (pc1 := 212) (lv1 := [(0, .ref 1), (1, .int x1), (2, .int (g.1 5))]) (st1 := [.int x1, .int (4 : Int32), .ref 1]) (h1 := hO 8 g1) (by decide +kernel) rfl ?_
          rcases m_ci_inv h with ⟨v30, g29, e31, h⟩ | ⟨y32, g29, e31, rfl, rfl⟩
          · refine m_ca (q := (212, .invokevirtual 103, 3, 12, 2)) (a := 12) (vs := [.ref 1, .int (4 : Int32), .int x1]) (st := []) (d1 := 2) (by decide +kernel) rfl rfl rfl rfl (by omega) (Fr12 e31) ?_
            show m_Run X _ _ 16 215 [(0, .ref 1), (1, .int x1), (2, .int (g.1 5))] [.int v30] (hO 8 g29) _ _
            refine m_go (L := [(215, .istore_n 3, 1, 0, 0), (216, .aload_n 0, 1, 0, 0), (217, .iconst 0, 1, 0, 0), (218, .iload_n 3, 1, 0, 0)]) (pc1 := 219) (lv1 := [(0, .ref 1), (1, .int x1), (2, .int (g.1 5)), (3, .int v30)]) (st1 := [.int v30, .int (0 : Int32), .ref 1]) (h1 := hO 8 g29) (by decide +kernel) rfl ?_
            rcases m_ci_inv h with ⟨v34, g33, e35, h⟩ | ⟨y36, g33, e35, rfl, rfl⟩
            · refine m_ca (q := (219, .invokevirtual 127, 3, 15, 2)) (a := 15) (vs := [.ref 1, .int (0 : Int32), .int v30]) (st := []) (d1 := d + 30) (by decide +kernel) rfl rfl rfl rfl (by omega) (hr _ _ _ _ _ _ _ e35) ?_
              show m_Run X _ _ 16 222 [(0, .ref 1), (1, .int x1), (2, .int (g.1 5)), (3, .int v30)] [.int v34] (hO 8 g33) _ _
              refine m_go (L := [(222, .istore 4, 2, 0, 0), (224, .aload_n 0, 1, 0, 0), (225, .iconst 5, 1, 0, 0)]) (pc1 := 226) (lv1 := [(0, .ref 1), (1, .int x1), (2, .int (g.1 5)), (3, .int v30), (4, .int v34)]) (st1 := [.int (5 : Int32), .ref 1]) (h1 := hO 8 g33) (by decide +kernel) rfl ?_
              rcases m_cv_inv h with ⟨g37, e39, h⟩ | ⟨y40, g37, e39, rfl, rfl⟩
              · refine m_ca (q := (226, .invokevirtual 87, 3, 6, 1)) (a := 6) (vs := [.ref 1, .int (5 : Int32)]) (st := []) (d1 := 2) (by decide +kernel) rfl rfl rfl rfl (by omega) (Fr6 e39) ?_
                show m_Run X _ _ 16 229 [(0, .ref 1), (1, .int x1), (2, .int (g.1 5)), (3, .int v30), (4, .int v34)] [] (hO 8 g37) _ _
                refine m_go (L := [(229, .iload 4, 2, 0, 0)]) (pc1 := 231) (lv1 := [(0, .ref 1), (1, .int x1), (2, .int (g.1 5)), (3, .int v30), (4, .int v34)]) (st1 := [.int v34]) (h1 := hO 8 g37) (by decide +kernel) rfl ?_
                cases h
                exact m_ri (by decide +kernel)
              · exact m_cx (q := (226, .invokevirtual 87, 3, 6, 1)) (a := 6) (vs := [.ref 1, .int (5 : Int32)]) (st := []) (d1 := 2) (by decide +kernel) (by decide +kernel) rfl rfl rfl rfl (by omega) (Fr6 e39)
            · exact m_cx (q := (219, .invokevirtual 127, 3, 15, 2)) (a := 15) (vs := [.ref 1, .int (0 : Int32), .int v30]) (st := []) (d1 := d + 30) (by decide +kernel) (by decide +kernel) rfl rfl rfl rfl (by omega) (hr _ _ _ _ _ _ _ e35)
          · exact m_cx (q := (212, .invokevirtual 103, 3, 12, 2)) (a := 12) (vs := [.ref 1, .int (4 : Int32), .int x1]) (st := []) (d1 := 2) (by decide +kernel) (by decide +kernel) rfl rfl rfl rfl (by omega) (Fr12 e31)
        · rw [if_neg c28] at h
          by_cases c41 : v2 = 18
          · rw [if_pos c41] at h
            refine m_go1 (q := (9, .lookupswitch 223 #[(2, 161), (3, 93), (4, 200), (18, 75), (22, 84), (28, 194), (34, 122), (35, 122)], 75, 0, 0)) (pc1 := 84) (lv1 := [(0, .ref 1), (1, .int x1), (2, .int (g.1 5))]) (st1 := []) (h1 := hO 8 g1) (by decide +kernel) (m_swx (fun z => m_loc m_ft X (.lookupswitch 223 #[(2, 161), (3, 93), (4, 200), (18, 75), (22, 84), (28, 194), (34, 122), (35, 122)]) 0 0 9 [(0, .ref 1), (1, .int x1), (2, .int (g.1 5))] (.int z :: []) (hO 8 g1)) c41 rfl) ?_
            refine m_go (L := [(84, .aload_n 0, 1, 0, 0), (85, .iconst 0, 1, 0, 0), (86, .bipush 37, 2, 0, 0), (88, .iload_n 1, 1, 0, 0)]) (pc1 := 89) (lv1 := [(0, .ref 1), (1, .int x1), (2, .int (g.1 5))]) (st1 := [.int x1, .int (37 : Int32), .int (0 : Int32), .ref 1]) (h1 := hO 8 g1) (by decide +kernel) rfl ?_
            rcases m_ci_inv h with ⟨v43, g42, e44, h⟩ | ⟨y45, g42, e44, rfl, rfl⟩
            · refine m_ca (q := (89, .invokevirtual 162, 3, 17, 3)) (a := 17) (vs := [.ref 1, .int (0 : Int32), .int (37 : Int32), .int x1]) (st := []) (d1 := d + 30) (by decide +kernel) rfl rfl rfl rfl (by omega) (hr _ _ _ _ _ _ _ e44) ?_
              show m_Run X _ _ 16 92 [(0, .ref 1), (1, .int x1), (2, .int (g.1 5))] [.int v43] (hO 8 g42) _ _
              cases h
              exact m_ri (by decide +kernel)
            · exact m_cx (q := (89, .invokevirtual 162, 3, 17, 3)) (a := 17) (vs := [.ref 1, .int (0 : Int32), .int (37 : Int32), .int x1]) (st := []) (d1 := d + 30) (by decide +kernel) (by decide +kernel) rfl rfl rfl rfl (by omega) (hr _ _ _ _ _ _ _ e44)
          · rw [if_neg c41] at h
            by_cases c46 : v2 = 22
            · rw [if_pos c46] at h
              refine m_go1 (q := (9, .lookupswitch 223 #[(2, 161), (3, 93), (4, 200), (18, 75), (22, 84), (28, 194), (34, 122), (35, 122)], 75, 0, 0)) (pc1 := 93) (lv1 := [(0, .ref 1), (1, .int x1), (2, .int (g.1 5))]) (st1 := []) (h1 := hO 8 g1) (by decide +kernel) (m_swx (fun z => m_loc m_ft X (.lookupswitch 223 #[(2, 161), (3, 93), (4, 200), (18, 75), (22, 84), (28, 194), (34, 122), (35, 122)]) 0 0 9 [(0, .ref 1), (1, .int x1), (2, .int (g.1 5))] (.int z :: []) (hO 8 g1)) c46 rfl) ?_
              refine m_go (L := [(93, .aload_n 0, 1, 0, 0), (94, .iconst 1, 1, 0, 0), (95, .bipush 22, 2, 0, 0), (97, .iload_n 1, 1, 0, 0)]) (pc1 := 98) (lv1 := [(0, .ref 1), (1, .int x1), (2, .int (g.1 5))]) (st1 := [.int x1, .int (22 : Int32), .int (1 : Int32), .ref 1]) (h1 := hO 8 g1) (by decide +kernel) rfl ?_
              rcases m_ci_inv h with ⟨v48, g47, e49, h⟩ | ⟨y50, g47, e49, rfl, rfl⟩
              · refine m_ca (q := (98, .invokevirtual 162, 3, 17, 3)) (a := 17) (vs := [.ref 1, .int (1 : Int32), .int (22 : Int32), .int x1]) (st := []) (d1 := d + 30) (by decide +kernel) rfl rfl rfl rfl (by omega) (hr _ _ _ _ _ _ _ e49) ?_
                show m_Run X _ _ 16 101 [(0, .ref 1), (1, .int x1), (2, .int (g.1 5))] [.int v48] (hO 8 g47) _ _
                cases h
                exact m_ri (by decide +kernel)
              · exact m_cx (q := (98, .invokevirtual 162, 3, 17, 3)) (a := 17) (vs := [.ref 1, .int (1 : Int32), .int (22 : Int32), .int x1]) (st := []) (d1 := d + 30) (by decide +kernel) (by decide +kernel) rfl rfl rfl rfl (by omega) (hr _ _ _ _ _ _ _ e49)
            · rw [if_neg c46] at h
              by_cases c51 : v2 = 28
              · rw [if_pos c51] at h
                refine m_go1 (q := (9, .lookupswitch 223 #[(2, 161), (3, 93), (4, 200), (18, 75), (22, 84), (28, 194), (34, 122), (35, 122)], 75, 0, 0)) (pc1 := 203) (lv1 := [(0, .ref 1), (1, .int x1), (2, .int (g.1 5))]) (st1 := []) (h1 := hO 8 g1) (by decide +kernel) (m_swx (fun z => m_loc m_ft X (.lookupswitch 223 #[(2, 161), (3, 93), (4, 200), (18, 75), (22, 84), (28, 194), (34, 122), (35, 122)]) 0 0 9 [(0, .ref 1), (1, .int x1), (2, .int (g.1 5))] (.int z :: []) (hO 8 g1)) c51 rfl) ?_
                refine m_go (L := [(203, .aload_n 0, 1, 0, 0), (204, .iload_n 1, 1, 0, 0)]) (pc1 := 205) (lv1 := [(0, .ref 1), (1, .int x1), (2, .int (g.1 5))]) (st1 := [.int x1, .ref 1]) (h1 := hO 8 g1) (by decide +kernel) rfl ?_
                rcases m_ci_inv h with ⟨v53, g52, e54, h⟩ | ⟨y55, g52, e54, rfl, rfl⟩
                · refine m_ca (q := (205, .invokevirtual 174, 3, 22, 1)) (a := 22) (vs := [.ref 1, .int x1]) (st := []) (d1 := d + 30) (by decide +kernel) rfl rfl rfl rfl (by omega) (hr _ _ _ _ _ _ _ e54) ?_
                  show m_Run X _ _ 16 208 [(0, .ref 1), (1, .int x1), (2, .int (g.1 5))] [.int v53] (hO 8 g52) _ _
                  cases h
                  exact m_ri (by decide +kernel)
                · exact m_cx (q := (205, .invokevirtual 174, 3, 22, 1)) (a := 22) (vs := [.ref 1, .int x1]) (st := []) (d1 := d + 30) (by decide +kernel) (by decide +kernel) rfl rfl rfl rfl (by omega) (hr _ _ _ _ _ _ _ e54)
              · rw [if_neg c51] at h
                by_cases c56 : v2 = 34
                · rw [if_pos c56] at h
                  refine m_go1 (q := (9, .lookupswitch 223 #[(2, 161), (3, 93), (4, 200), (18, 75), (22, 84), (28, 194), (34, 122), (35, 122)], 75, 0, 0)) (pc1 := 131) (lv1 := [(0, .ref 1), (1, .int x1), (2, .int (g.1 5))]) (st1 := []) (h1 := hO 8 g1) (by decide +kernel) (m_swx (fun z => m_loc m_ft X (.lookupswitch 223 #[(2, 161), (3, 93), (4, 200), (18, 75), (22, 84), (28, 194), (34, 122), (35, 122)]) 0 0 9 [(0, .ref 1), (1, .int x1), (2, .int (g.1 5))] (.int z :: []) (hO 8 g1)) c56 rfl) ?_
                  refine m_go (L := [(131, .aload_n 0, 1, 0, 0), (132, .dup, 1, 0, 0), (133, .getfield 25, 3, 0, 2), (136, .iconst 1, 1, 0, 0), (137, .iadd, 1, 0, 0), (138, .putfield 25, 3, 0, 2), (141, .aload_n 0, 1, 0, 0), (142, .getfield 21, 3, 0, 1), (145, .iconst 3, 1, 0, 0), (146, .aload_n 0, 1, 0, 0), (147, .getfield 12, 3, 0, 0), (150, .iload_n 2, 1, 0, 0)]) (pc1 := 151) (lv1 := [(0, .ref 1), (1, .int x1), (2, .int (g.1 5))]) (st1 := [.int (g.1 5), .ref 2, .int (3 : Int32), .ref 3]) (h1 := hO 8 (gI g1 5 ((g1.1 5) + (1 : Int32)))) (by decide +kernel) rfl ?_
                  rcases m_ci_inv h with ⟨v58, g57, e59, h⟩ | ⟨y60, g57, e59, rfl, rfl⟩
                  · refine m_ca (q := (151, .invokevirtual 149, 3, 73, 1)) (a := 73) (vs := [.ref 2, .int (g.1 5)]) (st := [.int (3 : Int32), .ref 3]) (d1 := 0) (by decide +kernel) rfl rfl rfl rfl (by omega) (Fr73 e59) ?_
                    show m_Run X _ _ 16 154 [(0, .ref 1), (1, .int x1), (2, .int (g.1 5))] [.int v58, .int (3 : Int32), .ref 3] (hO 8 g57) _ _
                    refine m_gob (c := ¬ v58 = (34 : Int32)) (t := 163) (f := 159) (L := [(154, .bipush 34, 2, 0, 0), (156, .if_icmp .ne 7, 3, 0, 0)]) (lv1 := [(0, .ref 1), (1, .int x1), (2, .int (g.1 5))]) (st1 := [.int (3 : Int32), .ref 3]) (h1 := hO 8 g57) (by decide +kernel) rfl (fun c61 => ?_) (fun c61 => ?_)
                    · rw [if_pos c61] at h
                      refine m_go (L := [(163, .iconst 0, 1, 0, 0)]) (pc1 := 164) (lv1 := [(0, .ref 1), (1, .int x1), (2, .int (g.1 5))]) (st1 := [.int (0 : Int32), .int (3 : Int32), .ref 3]) (h1 := hO 8 g57) (by decide +kernel) rfl ?_
                      exact m_r0 _ _ _ _ _ _ _ _ _ _ (m_pick [] rfl) (Fr16_164 hr h)
                    · rw [if_neg c61] at h
                      refine m_go (L := [(159, .iconst 1, 1, 0, 0), (160, .goto 4, 3, 0, 0)]) (pc1 := 164) (lv1 := [(0, .ref 1), (1, .int x1), (2, .int (g.1 5))]) (st1 := [.int (1 : Int32), .int (3 : Int32), .ref 3]) (h1 := hO 8 g57) (by decide +kernel) rfl ?_
                      exact m_r0 _ _ _ _ _ _ _ _ _ _ (m_pick [] rfl) (Fr16_164 hr h)
                  · exact m_cx (q := (151, .invokevirtual 149, 3, 73, 1)) (a := 73) (vs := [.ref 2, .int (g.1 5)]) (st := [.int (3 : Int32), .ref 3]) (d1 := 0) (by decide +kernel) (by decide +kernel) rfl rfl rfl rfl (by omega) (Fr73 e59)
                · rw [if_neg c56] at h
                  by_cases c66 : v2 = 35
                  · rw [if_pos c66] at h
                    refine m_go1 (q := (9, .lookupswitch 223 #[(2, 161), (3, 93), (4, 200), (18, 75), (22, 84), (28, 194), (34, 122), (35, 122)], 75, 0, 0)) (pc1 := 131) (lv1 := [(0, .ref 1), (1, .int x1), (2, .int (g.1 5))]) (st1 := []) (h1 := hO 8 g1) (by decide +kernel) (m_swx (fun z => m_loc m_ft X (.lookupswitch 223 #[(2, 161), (3, 93), (4, 200), (18, 75), (22, 84), (28, 194), (34, 122), (35, 122)]) 0 0 9 [(0, .ref 1), (1, .int x1), (2, .int (g.1 5))] (.int z :: []) (hO 8 g1)) c66 rfl) ?_
                    refine m_go (L := [(131, .aload_n 0, 1, 0, 0), (132, .dup, 1, 0, 0), (133, .getfield 25, 3, 0, 2), (136, .iconst 1, 1, 0, 0), (137, .iadd, 1, 0, 0), (138, .putfield 25, 3, 0, 2), (141, .aload_n 0, 1, 0, 0), (142, .getfield 21, 3, 0, 1), (145, .iconst 3, 1, 0, 0), (146, .aload_n 0, 1, 0, 0), (147, .getfield 12, 3, 0, 0), (150, .iload_n 2, 1, 0, 0)]) (pc1 := 151) (lv1 := [(0, .ref 1), (1, .int x1), (2, .int (g.1 5))]) (st1 := [.int (g.1 5), .ref 2, .int (3 : Int32), .ref 3]) (h1 := hO 8 (gI g1 5 ((g1.1 5) + (1 : Int32)))) (by decide +kernel) rfl ?_
                    rcases m_ci_inv h with ⟨v68, g67, e69, h⟩ | ⟨y70, g67, e69, rfl, rfl⟩
                    · refine m_ca (q := (151, .invokevirtual 149, 3, 73, 1)) (a := 73) (vs := [.ref 2, .int (g.1 5)]) (st := [.int (3 : Int32), .ref 3]) (d1 := 0) (by decide +kernel) rfl rfl rfl rfl (by omega) (Fr73 e69) ?_
                      show m_Run X _ _ 16 154 [(0, .ref 1), (1, .int x1), (2, .int (g.1 5))] [.int v68, .int (3 : Int32), .ref 3] (hO 8 g67) _ _
                      refine m_gob (c := ¬ v68 = (34 : Int32)) (t := 163) (f := 159) (L := [(154, .bipush 34, 2, 0, 0), (156, .if_icmp .ne 7, 3, 0, 0)]) (lv1 := [(0, .ref 1), (1, .int x1), (2, .int (g.1 5))]) (st1 := [.int (3 : Int32), .ref 3]) (h1 := hO 8 g67) (by decide +kernel) rfl (fun c71 => ?_) (fun c71 => ?_)
                      · rw [if_pos c71] at h
                        refine m_go (L := [(163, .iconst 0, 1, 0, 0)]) (pc1 := 164) (lv1 := [(0, .ref 1), (1, .int x1), (2, .int (g.1 5))]) (st1 := [.int (0 : Int32), .int (3 : Int32), .ref 3]) (h1 := hO 8 g67) (by decide +kernel) rfl ?_
                        exact m_r0 _ _ _ _ _ _ _ _ _ _ (m_pick [] rfl) (Fr16_164 hr h)
                      · rw [if_neg c71] at h
                        refine m_go (L := [(159, .iconst 1, 1, 0, 0), (160, .goto 4, 3, 0, 0)]) (pc1 := 164) (lv1 := [(0, .ref 1), (1, .int x1), (2, .int (g.1 5))]) (st1 := [.int (1 : Int32), .int (3 : Int32), .ref 3]) (h1 := hO 8 g67) (by decide +kernel) rfl ?_
                        exact m_r0 _ _ _ _ _ _ _ _ _ _ (m_pick [] rfl) (Fr16_164 hr h)
                    · exact m_cx (q := (151, .invokevirtual 149, 3, 73, 1)) (a := 73) (vs := [.ref 2, .int (g.1 5)]) (st := [.int (3 : Int32), .ref 3]) (d1 := 0) (by decide +kernel) (by decide +kernel) rfl rfl rfl rfl (by omega) (Fr73 e69)
                  · rw [if_neg c66] at h
                    refine m_go1 (q := (9, .lookupswitch 223 #[(2, 161), (3, 93), (4, 200), (18, 75), (22, 84), (28, 194), (34, 122), (35, 122)], 75, 0, 0)) (pc1 := 232) (lv1 := [(0, .ref 1), (1, .int x1), (2, .int (g.1 5))]) (st1 := []) (h1 := hO 8 g1) (by decide +kernel) (by show some (m_tg _ (Op.lookupswitch.offset _ _ _), _, _, _) = _; rw [m_lkd _ (List.forall_mem_cons.mpr ⟨m_ne (k := 2) (by decide) c5, List.forall_mem_cons.mpr ⟨m_ne (k := 3) (by decide) c19, List.forall_mem_cons.mpr ⟨m_ne (k := 4) (by decide) c28, List.forall_mem_cons.mpr ⟨m_ne (k := 18) (by decide) c41, List.forall_mem_cons.mpr ⟨m_ne (k := 22) (by decide) c46, List.forall_mem_cons.mpr ⟨m_ne (k := 28) (by decide) c51, List.forall_mem_cons.mpr ⟨m_ne (k := 34) (by decide) c56, List.forall_mem_cons.mpr ⟨m_ne (k := 35) (by decide) c66, fun _ hq => absurd hq List.not_mem_nil⟩⟩⟩⟩⟩⟩⟩⟩)]; rfl) ?_
                    refine m_go (L := [(232, .aload_n 0, 1, 0, 0), (233, .iload_n 2, 1, 0, 0)]) (pc1 := 234) (lv1 := [(0, .ref 1), (1, .int x1), (2, .int (g.1 5))]) (st1 := [.int (g.1 5), .ref 1]) (h1 := hO 8 g1) (by decide +kernel) rfl ?_
                    rcases m_cv_inv h with ⟨g72, e74, h⟩ | ⟨y75, g72, e74, rfl, rfl⟩
                    · refine m_ca (q := (234, .invokevirtual 77, 3, 3, 1)) (a := 3) (vs := [.ref 1, .int (g.1 5)]) (st := []) (d1 := 1) (by decide +kernel) rfl rfl rfl rfl (by omega) (Fr3 e74) ?_
                      show m_Run X _ _ 16 237 [(0, .ref 1), (1, .int x1), (2, .int (g.1 5))] [] (hO 8 g72) _ _
                      refine m_go (L := [(237, .iconst 0, 1, 0, 0)]) (pc1 := 238) (lv1 := [(0, .ref 1), (1, .int x1), (2, .int (g.1 5))]) (st1 := [.int (0 : Int32)]) (h1 := hO 8 g72) (by decide +kernel) rfl ?_
                      cases h
                      exact m_ri (by decide +kernel)
                    · exact m_cx (q := (234, .invokevirtual 77, 3, 3, 1)) (a := 3) (vs := [.ref 1, .int (g.1 5)]) (st := []) (d1 := 1) (by decide +kernel) (by decide +kernel) rfl rfl rfl rfl (by omega) (Fr3 e74)
  · exact m_cx (q := (6, .invokevirtual 52, 3, 1, 0)) (a := 1) (vs := [.ref 1]) (st := []) (d1 := 1) (by decide +kernel) (by decide +kernel) rfl rfl rfl rfl (by omega) (Fr1 e3)
def f17 (n : Nat) (rc : mRec) (x1 : Int32) (x2 : Int32) (x3 : Int32) (g : mG) : mZ := m_ci (f1 n g) (fun v2 g1 => m_ci (f12 n v2 x3 g1) (fun v6 g5 => m_ci (rc 16 v6 0 0 g5) (fun v10 g9 => m_cv (f18 n x1 v10 (g.1 5) g9) (fun g13 => m_ci (f34_3 n x2 (0 : Int32) g13) (fun v18 g17 => some (.inl (some (.int x1)), g17))))))
theorem Fr17 {d : Nat} {rc : mRec} (hr : m_Rec X d rc) {x1 : Int32} {x2 : Int32} {x3 : Int32} {g g' : mG} {o : mO} (h : f17 n rc x1 x2 x3 g = some (o, g')) : m_Run X (d + 31) (m_ko o) 17 0 [(0, .ref 1), (1, .int x1), (2, .int x2), (3, .int x3)] [] (hO 8 g) o (hO 8 g') := by
  unfold f17 at h
  refine m_go (L := [(0, .aload_n 0, 1, 0, 0), (1, .getfield 25, 3, 0, 2), (4, .istore 4, 2, 0, 0), (6, .aload_n 0, 1, 0, 0), (7, .aload_n 0, 1, 0, 0)]) (pc1 := 8) (lv1 := [(0, .ref 1), (1, .int x1), (2, .int x2), (3, .int x3), (4, .int (g.1 5))]) (st1 := [.ref 1, .ref 1]) (h1 := hO 8 g) (by decide +kernel) rfl ?_
  rcases m_ci_inv h with ⟨v2, g1, e3, h⟩ | ⟨y4, g1, e3, rfl, rfl⟩
  · refine m_ca (q := (8, .invokevirtual 52, 3, 1, 0)) (a := 1) (vs := [.ref 1]) (st := [.ref 1]) (d1 := 1) (by decide +kernel) rfl rfl rfl rfl (by omega) (Fr1 e3) ?_
    show m_Run X _ _ 17 11 [(0, .ref 1), (1, .int x1), (2, .int x2), (3, .int x3), (4, .int (g.1 5))] [.int v2, .ref 1] (hO 8 g1) _ _
    refine m_go (L := [(11, .iload_n 3, 1, 0, 0)]) (pc1 := 12) (lv1 := [(0, .ref 1), (1, .int x1), (2, .int x2), (3, .int x3), (4, .int (g.1 5))]) (st1 := [.int x3, .int v2, .ref 1]) (h1 := hO 8 g1) (by decide +kernel) rfl ?_
    rcases m_ci_inv h with ⟨v6, g5, e7, h⟩ | ⟨y8, g5, e7, rfl, rfl⟩
    · refine m_ca (q := (12, .invokevirtual 103, 3, 12, 2)) (a := 12) (vs := [.ref 1, .int v2, .int x3]) (st := []) (d1 := 2) (by decide +kernel) rfl rfl rfl rfl (by omega) (Fr12 e7) ?_
      show m_Run X _ _ 17 15 [(0, .ref 1), (1, .int x1), (2, .int x2), (3, .int x3), (4, .int (g.1 5))] [.int v6] (hO 8 g5) _ _
      refine m_go (L := [(15, .istore 5, 2, 0, 0), (17, .aload_n 0, 1, 0, 0), (18, .iload_n 1, 1, 0, 0), (19, .aload_n 0, 1, 0, 0), (20, .iload 5, 2, 0, 0)]) (pc1 := 22) (lv1 := [(0, .ref 1), (1, .int x1), (2, .int x2), (3, .int x3), (4, .int (g.1 5)), (5, .int v6)]) (st1 := [.int v6, .ref 1, .int x1, .ref 1]) (h1 := hO 8 g5) (by decide +kernel) rfl ?_
      rcases m_ci_inv h with ⟨v10, g9, e11, h⟩ | ⟨y12, g9, e11, rfl, rfl⟩
      · refine m_ca (q := (22, .invokevirtual 152, 3, 16, 1)) (a := 16) (vs := [.ref 1, .int v6]) (st := [.int x1, .ref 1]) (d1 := d + 30) (by decide +kernel) rfl rfl rfl rfl (by omega) (hr _ _ _ _ _ _ _ e11) ?_
        show m_Run X _ _ 17 25 [(0, .ref 1), (1, .int x1), (2, .int x2), (3, .int x3), (4, .int (g.1 5)), (5, .int v6)] [.int v10, .int x1, .ref 1] (hO 8 g9) _ _
        refine m_go (L := [(25, .iload 4, 2, 0, 0)]) (pc1 := 27) (lv1 := [(0, .ref 1), (1, .int x1), (2, .int x2), (3, .int x3), (4, .int (g.1 5)), (5, .int v6)]) (st1 := [.int (g.1 5), .int v10, .int x1, .ref 1]) (h1 := hO 8 g9) (by decide +kernel) rfl ?_
        rcases m_cv_inv h with ⟨g13, e15, h⟩ | ⟨y16, g13, e15, rfl, rfl⟩
        · refine m_ca (q := (27, .invokevirtual 136, 3, 18, 3)) (a := 18) (vs := [.ref 1, .int x1, .int v10, .int (g.1 5)]) (st := []) (d1 := 2) (by decide +kernel) rfl rfl rfl rfl (by omega) (Fr18 e15) ?_
          show m_Run X _ _ 17 30 [(0, .ref 1), (1, .int x1), (2, .int x2), (3, .int x3), (4, .int (g.1 5)), (5, .int v6)] [] (hO 8 g13) _ _
          refine m_go (L := [(30, .aload_n 0, 1, 0, 0), (31, .getfield 21, 3, 0, 1), (34, .iload_n 2, 1, 0, 0), (35, .iconst 0, 1, 0, 0)]) (pc1 := 36) (lv1 := [(0, .ref 1), (1, .int x1), (2, .int x2), (3, .int x3), (4, .int (g.1 5)), (5, .int v6)]) (st1 := [.int (0 : Int32), .int x2, .ref 3]) (h1 := hO 8 g13) (by decide +kernel) rfl ?_
          rcases m_ci_inv h with ⟨v18, g17, e19, h⟩ | ⟨y20, g17, e19, rfl, rfl⟩
          · refine m_ca (q := (36, .invokevirtual 68, 3, 34, 2)) (a := 34) (vs := [.ref 3, .int x2, .int (0 : Int32)]) (st := []) (d1 := 0) (by decide +kernel) rfl rfl rfl rfl (by omega) (Fr34_3 e19) ?_
            show m_Run X _ _ 17 39 [(0, .ref 1), (1, .int x1), (2, .int x2), (3, .int x3), (4, .int (g.1 5)), (5, .int v6)] [.int v18] (hO 8 g17) _ _
            refine m_go (L := [(39, .pop, 1, 0, 0), (40, .iload_n 1, 1, 0, 0)]) (pc1 := 41) (lv1 := [(0, .ref 1), (1, .int x1), (2, .int x2), (3, .int x3), (4, .int (g.1 5)), (5, .int v6)]) (st1 := [.int x1]) (h1 := hO 8 g17) (by decide +kernel) rfl ?_
            cases h
            exact m_ri (by decide +kernel)
          · exact m_cx (q := (36, .invokevirtual 68, 3, 34, 2)) (a := 34) (vs := [.ref 3, .int x2, .int (0 : Int32)]) (st := []) (d1 := 0) (by decide +kernel) (by decide +kernel) rfl rfl rfl rfl (by omega) (Fr34_3 e19)
        · exact m_cx (q := (27, .invokevirtual 136, 3, 18, 3)) (a := 18) (vs := [.ref 1, .int x1, .int v10, .int (g.1 5)]) (st := []) (d1 := 2) (by decide +kernel) (by decide +kernel) rfl rfl rfl rfl (by omega) (Fr18 e15)
      · exact m_cx (q := (22, .invokevirtual 152, 3, 16, 1)) (a := 16) (vs := [.ref 1, .int v6]) (st := [.int x1, .ref 1]) (d1 := d + 30) (by decide +kernel) (by decide +kernel) rfl rfl rfl rfl (by omega) (hr _ _ _ _ _ _ _ e11)
    · exact m_cx (q := (12, .invokevirtual 103, 3, 12, 2)) (a := 12) (vs := [.ref 1, .int v2, .int x3]) (st := []) (d1 := 2) (by decide +kernel) (by decide +kernel) rfl rfl rfl rfl (by omega) (Fr12 e7)
  · exact m_cx (q := (8, .invokevirtual 52, 3, 1, 0)) (a := 1) (vs := [.ref 1]) (st := [.ref 1]) (d1 := 1) (by decide +kernel) (by decide +kernel) rfl rfl rfl rfl (by omega) (Fr1 e3)
def f19_134 (n : Nat) (rc : mRec) (x3 : Int32) (g : mG) : mZ := m_ci (f34_3 n (38 : Int32) x3 g) (fun v26 g25 => some (.inl (some (.int (0 : Int32))), g25))
theorem Fr19_134 {d : Nat} {rc : mRec} (hr : m_Rec X d rc) {x3 : Int32} {g g' : mG} {o : mO} (h : f19_134 n rc x3 g = some (o, g')) : m_Run X (d + 31) (m_ko o) 19 134 [(0, .ref 1), (3, .int x3)] [] (hO 8 g) o (hO 8 g') := by
  unfold f19_134 at h
  refine m_go (L := [(134, .aload_n 0, 1, 0, 0), (135, .getfield 21, 3, 0, 1), (138, .bipush 38, 2, 0, 0), (140, .iload_n 3, 1, 0, 0)]) (pc1 := 141) (lv1 := [(0, .ref 1), (3, .int x3)]) (st1 := [.int x3, .int (38 : Int32), .ref 3]) (h1 := hO 8 g) (by decide +kernel) rfl ?_
  rcases m_ci_inv h with ⟨v26, g25, e27, h⟩ | ⟨y28, g25, e27, rfl, rfl⟩
  · refine m_ca (q := (141, .invokevirtual 68, 3, 34, 2)) (a := 34) (vs := [.ref 3, .int (38 : Int32), .int x3]) (st := []) (d1 := 0) (by decide +kernel) rfl rfl rfl rfl (by omega) (Fr34_3 e27) ?_
    show m_Run X _ _ 19 144 [(0, .ref 1), (3, .int x3)] [.int v26] (hO 8 g25) _ _
    refine m_go (L := [(144, .pop, 1, 0, 0), (145, .iconst 0, 1, 0, 0)]) (pc1 := 146) (lv1 := [(0, .ref 1), (3, .int x3)]) (st1 := [.int (0 : Int32)]) (h1 := hO 8 g25) (by decide +kernel) rfl ?_
    cases h
    exact m_ri (by decide +kernel)
  · exact m_cx (q := (141, .invokevirtual 68, 3, 34, 2)) (a := 34) (vs := [.ref 3, .int (38 : Int32), .int x3]) (st := []) (d1 := 0) (by decide +kernel) (by decide +kernel) rfl rfl rfl rfl (by omega) (Fr34_3 e27)
def f19_111 (n : Nat) (rc : mRec) (x1 : Int32) (x3 : Int32) (x5 : Int32) (g : mG) : mZ := m_cv (f6 n (5 : Int32) g) (fun g16 => m_ci (f35_3 n x3 g16) (fun v21 g20 => if x5 = v21 then f19_134 n rc x3 g20 else m_cv (f3 n x1 g20) (fun g29 => f19_134 n rc x3 g29)))
theorem Fr19_111 {d : Nat} {rc : mRec} (hr : m_Rec X d rc) {x1 : Int32} {x3 : Int32} {x5 : Int32} {g g' : mG} {o : mO} (h : f19_111 n rc x1 x3 x5 g = some (o, g')) : m_Run X (d + 31) (m_ko o) 19 111 [(0, .ref 1), (1, .int x1), (3, .int x3), (5, .int x5)] [] (hO 8 g) o (hO 8 g') := by
  unfold f19_111 at h
  refine m_go (L := [(111, .aload_n 0, 1, 0, 0), (112, .iconst 5, 1, 0, 0)]) (pc1 := 113) (lv1 := [(0, .ref 1), (1, .int x1), (3, .int x3), (5, .int x5)]) (st1 := [.int (5 : Int32), .ref 1]) (h1 := hO 8 g) (by decide +kernel) rfl ?_
  rcases m_cv_inv h with ⟨g16, e18, h⟩ | ⟨y19, g16, e18, rfl, rfl⟩
  · refine m_ca (q := (113, .invokevirtual 87, 3, 6, 1)) (a := 6) (vs := [.ref 1, .int (5 : Int32)]) (st := []) (d1 := 2) (by decide +kernel) rfl rfl rfl rfl (by omega) (Fr6 e18) ?_
    show m_Run X _ _ 19 116 [(0, .ref 1), (1, .int x1), (3, .int x3), (5, .int x5)] [] (hO 8 g16) _ _
    refine m_go (L := [(116, .iload 5, 2, 0, 0), (118, .aload_n 0, 1, 0, 0), (119, .getfield 21, 3, 0, 1), (122, .iload_n 3, 1, 0, 0)]) (pc1 := 123) (lv1 := [(0, .ref 1), (1, .int x1), (3, .int x3), (5, .int x5)]) (st1 := [.int x3, .ref 3, .int x5]) (h1 := hO 8 g16) (by decide +kernel) rfl ?_
    rcases m_ci_inv h with ⟨v21, g20, e22, h⟩ | ⟨y23, g20, e22, rfl, rfl⟩
    · refine m_ca (q := (123, .invokevirtual 177, 3, 35, 1)) (a := 35) (vs := [.ref 3, .int x3]) (st := [.int x5]) (d1 := 1) (by decide +kernel) rfl rfl rfl rfl (by omega) (Fr35_3 e22) ?_
      show m_Run X _ _ 19 126 [(0, .ref 1), (1, .int x1), (3, .int x3), (5, .int x5)] [.int v21, .int x5] (hO 8 g20) _ _
      refine m_gob (c := x5 = v21) (t := 134) (f := 129) (L := [(126, .if_icmp .eq 8, 3, 0, 0)]) (lv1 := [(0, .ref 1), (1, .int x1), (3, .int x3), (5, .int x5)]) (st1 := []) (h1 := hO 8 g20) (by decide +kernel) rfl (fun c24 => ?_) (fun c24 => ?_)
      · rw [if_pos c24] at h
        exact m_r0 _ _ _ _ _ _ _ _ _ _ (m_pick [0, 2] rfl) (Fr19_134 hr h)
      · rw [if_neg c24] at h
        refine m_go (L := [(129, .aload_n 0, 1, 0, 0), (130, .iload_n 1, 1, 0, 0)]) (pc1 := 131) (lv1 := [(0, .ref 1), (1, .int x1), (3, .int x3), (5, .int x5)]) (st1 := [.int x1, .ref 1]) (h1 := hO 8 g20) (by decide +kernel) rfl ?_
        rcases m_cv_inv h with ⟨g29, e31, h⟩ | ⟨y32, g29, e31, rfl, rfl⟩
        · refine m_ca (q := (131, .invokevirtual 77, 3, 3, 1)) (a := 3) (vs := [.ref 1, .int x1]) (st := []) (d1 := 1) (by decide +kernel) rfl rfl rfl rfl (by omega) (Fr3 e31) ?_
          show m_Run X _ _ 19 134 [(0, .ref 1), (1, .int x1), (3, .int x3), (5, .int x5)] [] (hO 8 g29) _ _
          exact m_r0 _ _ _ _ _ _ _ _ _ _ (m_pick [0, 2] rfl) (Fr19_134 hr h)
        · exact m_cx (q := (131, .invokevirtual 77, 3, 3, 1)) (a := 3) (vs := [.ref 1, .int x1]) (st := []) (d1 := 1) (by decide +kernel) (by decide +kernel) rfl rfl rfl rfl (by omega) (Fr3 e31)
    · exact m_cx (q := (123, .invokevirtual 177, 3, 35, 1)) (a := 35) (vs := [.ref 3, .int x3]) (st := [.int x5]) (d1 := 1) (by decide +kernel) (by decide +kernel) rfl rfl rfl rfl (by omega) (Fr35_3 e22)
  · exact m_cx (q := (113, .invokevirtual 87, 3, 6, 1)) (a := 6) (vs := [.ref 1, .int (5 : Int32)]) (st := []) (d1 := 2) (by decide +kernel) (by decide +kernel) rfl rfl rfl rfl (by omega) (Fr6 e18)
def f19_45 (n : Nat) (rc : mRec) : Nat → Int32 → Int32 → Int32 → Int32 → Int32 → Int32 → mG → mZ
  | 0, _, _, _, _, _, _, _ => none
  | c + 1, x1, x3, x4, x5, x6, x7, g => if (600 : Int32) ≤ x7 then f19_111 n rc x1 x3 x5 g else if x6 = 0 then f19_111 n rc x1 x3 x5 g else m_ci (rc 15 (0 : Int32) x4 0 g) (fun v35 g34 => m_cv (f18 n (0 : Int32) v35 x1 g34) (fun g38 => m_ci (f1 n g38) (fun v43 g42 => if ¬ v43 = (10 : Int32) then f19_45 n rc c x1 x3 x4 (x5 + (1 : Int32)) (0 : Int32) (x7 + (1 : Int32)) g42 else f19_45 n rc c x1 x3 x4 (x5 + (1 : Int32)) (1 : Int32) (x7 + (1 : Int32)) (gI g42 5 ((g42.1 5) + (1 : Int32))))))
set_option maxRecDepth 20000 in
theorem Fr19_45 {d : Nat} {rc : mRec} (hr : m_Rec X d rc) : ∀ (c : Nat) (x1 : Int32) (x3 : Int32) (x4 : Int32) (x5 : Int32) (x6 : Int32) (x7 : Int32) (g g' : mG) (o : mO), f19_45 n rc c x1 x3 x4 x5 x6 x7 g = some (o, g') → m_Run X (d + 31) (m_ko o) 19 45 [(0, .ref 1), (1, .int x1), (3, .int x3), (4, .int x4), (5, .int x5), (6, .int x6), (7, .int x7)] [] (hO 8 g) o (hO 8 g') := by
  intro c
  induction c with
  | zero => intro x1 x3 x4 x5 x6 x7 g g' o h; rw [f19_45] at h; cases h
  | succ c ih =>
    intro x1 x3 x4 x5 x6 x7 g g' o h
    rw [f19_45] at h
    refine m_gob (c := (600 : Int32) ≤ x7) (t := 111) (f := 53) (L := [(45, .iload 7, 2, 0, 0), (47, .sipush 600, 3, 0, 0), (50, .if_icmp .ge 61, 3, 0, 0)]) (lv1 := [(0, .ref 1), (1, .int x1), (3, .int x3), (4, .int x4), (5, .int x5), (6, .int x6), (7, .int x7)]) (st1 := []) (h1 := hO 8 g) (by decide +kernel) rfl (fun c15 => ?_) (fun c15 => ?_)
    · rw [if_pos c15] at h
      exact m_r0 _ _ _ _ _ _ _ _ _ _ (m_pick [0, 1, 2, 4] rfl) (Fr19_111 hr h)
    · rw [if_neg c15] at h
      refine m_gob (c := x6 = 0) (t := 111) (f := 58) (L := [(53, .iload 6, 2, 0, 0), (55, .ifCond .eq 56, 3, 0, 0)]) (lv1 := [(0, .ref 1), (1, .int x1), (3, .int x3), (4, .int x4), (5, .int x5), (6, .int x6), (7, .int x7)]) (st1 := []) (h1 := hO 8 g) (by decide +kernel) rfl (fun c33 => ?_) (fun c33 => ?_)
      · rw [if_pos c33] at h
        exact m_r0 _ _ _ _ _ _ _ _ _ _ (m_pick [0, 1, 2, 4] rfl) (Fr19_111 hr h)
      · rw [if_neg c33] at h
        refine m_go (L := [(58, .aload_n 0, 1, 0, 0), (59, .iconst 0, 1, 0, 0), (60, .aload_n 0, 1, 0, 0), (61, .iconst 0, 1, 0, 0), (62, .iload 4, 2, 0, 0)]) (pc1 := 64) (lv1 := [(0, .ref 1), (1, .int x1), (3, .int x3), (4, .int x4), (5, .int x5), (6, .int x6), (7, .int x7)]) (st1 := [.int x4, .int (0 : Int32), .ref 1, .int (0 : Int32), .ref 1]) (h1 := hO 8 g) (by decide +kernel) rfl ?_
        rcases m_ci_inv h with ⟨v35, g34, e36, h⟩ | ⟨y37, g34, e36, rfl, rfl⟩
        · refine m_ca (q := (64, .invokevirtual 127, 3, 15, 2)) (a := 15) (vs := [.ref 1, .int (0 : Int32), .int x4]) (st := [.int (0 : Int32), .ref 1]) (d1 := d + 30) (by decide +kernel) rfl rfl rfl rfl (by omega) (hr _ _ _ _ _ _ _ e36) ?_
          show m_Run X _ _ 19 67 [(0, .ref 1), (1, .int x1), (3, .int x3), (4, .int x4), (5, .int x5), (6, .int x6), (7, .int x7)] [.int v35, .int (0 : Int32), .ref 1] (hO 8 g34) _ _
          refine m_go (L := [(67, .iload_n 1, 1, 0, 0)]) (pc1 := 68) (lv1 := [(0, .ref 1), (1, .int x1), (3, .int x3), (4, .int x4), (5, .int x5), (6, .int x6), (7, .int x7)]) (st1 := [.int x1, .int v35, .int (0 : Int32), .ref 1]) (h1 := hO 8 g34) (by decide +kernel) rfl ?_
          rcases m_cv_inv h with ⟨g38, e40, h⟩ | ⟨y41, g38, e40, rfl, rfl⟩
          · refine m_ca (q := (68, .invokevirtual 136, 3, 18, 3)) (a := 18) (vs := [.ref 1, .int (0 : Int32), .int v35, .int x1]) (st := []) (d1 := 2) (by decide +kernel) rfl rfl rfl rfl (by omega) (Fr18 e40) ?_
            show m_Run X _ _ 19 71 [(0, .ref 1), (1, .int x1), (3, .int x3), (4, .int x4), (5, .int x5), (6, .int x6), (7, .int x7)] [] (hO 8 g38) _ _
            refine m_go (L := [(71, .iinc 5 1, 3, 0, 0), (74, .aload_n 0, 1, 0, 0)]) (pc1 := 75) (lv1 := [(0, .ref 1), (1, .int x1), (3, .int x3), (4, .int x4), (5, .int (x5 + (1 : Int32))), (6, .int x6), (7, .int x7)]) (st1 := [.ref 1]) (h1 := hO 8 g38) (by decide +kernel) rfl ?_
            rcases m_ci_inv h with ⟨v43, g42, e44, h⟩ | ⟨y45, g42, e44, rfl, rfl⟩
            · refine m_ca (q := (75, .invokevirtual 52, 3, 1, 0)) (a := 1) (vs := [.ref 1]) (st := []) (d1 := 1) (by decide +kernel) rfl rfl rfl rfl (by omega) (Fr1 e44) ?_
              show m_Run X _ _ 19 78 [(0, .ref 1), (1, .int x1), (3, .int x3), (4, .int x4), (5, .int (x5 + (1 : Int32))), (6, .int x6), (7, .int x7)] [.int v43] (hO 8 g42) _ _
              refine m_gob (c := ¬ v43 = (10 : Int32)) (t := 87) (f := 83) (L := [(78, .bipush 10, 2, 0, 0), (80, .if_icmp .ne 7, 3, 0, 0)]) (lv1 := [(0, .ref 1), (1, .int x1), (3, .int x3), (4, .int x4), (5, .int (x5 + (1 : Int32))), (6, .int x6), (7, .int x7)]) (st1 := []) (h1 := hO 8 g42) (by decide +kernel) rfl (fun c46 => ?_) (fun c46 => ?_)
              · rw [if_pos c46] at h
                refine m_go (L := [(87, .iconst 0, 1, 0, 0), (88, .istore 6, 2, 0, 0), (90, .iload 6, 2, 0, 0), (92, .ifCond .eq 13, 3, 0, 0), (105, .iinc 7 1, 3, 0, 0), (108, .goto (-63), 3, 0, 0)]) (pc1 := 45) (lv1 := [(0, .ref 1), (1, .int x1), (3, .int x3), (4, .int x4), (5, .int (x5 + (1 : Int32))), (6, .int (0 : Int32)), (7, .int (x7 + (1 : Int32)))]) (st1 := []) (h1 := hO 8 g42) (by decide +kernel) rfl ?_
                exact m_r0 _ _ _ _ _ _ _ _ _ _ (m_pick [0, 1, 2, 3, 4, 5, 6] rfl) (ih _ _ _ _ _ _ _ _ _ h)
              · rw [if_neg c46] at h
                refine m_go (L := [(83, .iconst 1, 1, 0, 0), (84, .goto 4, 3, 0, 0), (88, .istore 6, 2, 0, 0), (90, .iload 6, 2, 0, 0), (92, .ifCond .eq 13, 3, 0, 0), (95, .aload_n 0, 1, 0, 0), (96, .dup, 1, 0, 0), (97, .getfield 25, 3, 0, 2), (100, .iconst 1, 1, 0, 0), (101, .iadd, 1, 0, 0), (102, .putfield 25, 3, 0, 2), (105, .iinc 7 1, 3, 0, 0), (108, .goto (-63), 3, 0, 0)]) (pc1 := 45) (lv1 := [(0, .ref 1), (1, .int x1), (3, .int x3), (4, .int x4), (5, .int (x5 + (1 : Int32))), (6, .int (1 : Int32)), (7, .int (x7 + (1 : Int32)))]) (st1 := []) (h1 := hO 8 (gI g42 5 ((g42.1 5) + (1 : Int32)))) (by decide +kernel) rfl ?_
                exact m_r0 _ _ _ _ _ _ _ _ _ _ (m_pick [0, 1, 2, 3, 4, 5, 6] rfl) (ih _ _ _ _ _ _ _ _ _ h)
            · exact m_cx (q := (75, .invokevirtual 52, 3, 1, 0)) (a := 1) (vs := [.ref 1]) (st := []) (d1 := 1) (by decide +kernel) (by decide +kernel) rfl rfl rfl rfl (by omega) (Fr1 e44)
          · exact m_cx (q := (68, .invokevirtual 136, 3, 18, 3)) (a := 18) (vs := [.ref 1, .int (0 : Int32), .int v35, .int x1]) (st := []) (d1 := 2) (by decide +kernel) (by decide +kernel) rfl rfl rfl rfl (by omega) (Fr18 e40)
        · exact m_cx (q := (64, .invokevirtual 127, 3, 15, 2)) (a := 15) (vs := [.ref 1, .int (0 : Int32), .int x4]) (st := [.int (0 : Int32), .ref 1]) (d1 := d + 30) (by decide +kernel) (by decide +kernel) rfl rfl rfl rfl (by omega) (hr _ _ _ _ _ _ _ e36)
def f19_40 (n : Nat) (rc : mRec) (x1 : Int32) (x3 : Int32) (x4 : Int32) (x5 : Int32) (s0 : Int32) (g : mG) : mZ := f19_45 n rc n x1 x3 x4 x5 s0 (0 : Int32) g
theorem Fr19_40 {d : Nat} {rc : mRec} (hr : m_Rec X d rc) {x1 : Int32} {x3 : Int32} {x4 : Int32} {x5 : Int32} {s0 : Int32} {g g' : mG} {o : mO} (h : f19_40 n rc x1 x3 x4 x5 s0 g = some (o, g')) : m_Run X (d + 31) (m_ko o) 19 40 [(0, .ref 1), (1, .int x1), (3, .int x3), (4, .int x4), (5, .int x5)] [.int s0] (hO 8 g) o (hO 8 g') := by
  unfold f19_40 at h
  refine m_go (L := [(40, .istore 6, 2, 0, 0), (42, .iconst 0, 1, 0, 0), (43, .istore 7, 2, 0, 0)]) (pc1 := 45) (lv1 := [(0, .ref 1), (1, .int x1), (3, .int x3), (4, .int x4), (5, .int x5), (6, .int s0), (7, .int (0 : Int32))]) (st1 := []) (h1 := hO 8 g) (by decide +kernel) rfl ?_
  exact m_r0 _ _ _ _ _ _ _ _ _ _ (m_pick [0, 1, 2, 3, 4, 5, 6] rfl) (Fr19_45 hr _ _ _ _ _ _ _ _ _ _ h)
def f19_16 (n : Nat) (rc : mRec) (x1 : Int32) (x2 : Int32) (x3 : Int32) (g : mG) : mZ := m_ci (f12 n (4 : Int32) x2 g) (fun v7 g6 => m_ci (f1 n g6) (fun v11 g10 => if v11 = (5 : Int32) then f19_40 n rc x1 x3 v7 (0 : Int32) (0 : Int32) g10 else f19_40 n rc x1 x3 v7 (0 : Int32) (1 : Int32) g10))
theorem Fr19_16 {d : Nat} {rc : mRec} (hr : m_Rec X d rc) {x1 : Int32} {x2 : Int32} {x3 : Int32} {g g' : mG} {o : mO} (h : f19_16 n rc x1 x2 x3 g = some (o, g')) : m_Run X (d + 31) (m_ko o) 19 16 [(0, .ref 1), (1, .int x1), (2, .int x2), (3, .int x3)] [] (hO 8 g) o (hO 8 g') := by
  unfold f19_16 at h
  refine m_go (L := [(16, .aload_n 0, 1, 0, 0), (17, .iconst 4, 1, 0, 0), (18, .iload_n 2, 1, 0, 0)]) (pc1 := 19) (lv1 := [(0, .ref 1), (1, .int x1), (2, .int x2), (3, .int x3)]) (st1 := [.int x2, .int (4 : Int32), .ref 1]) (h1 := hO 8 g) (by decide +kernel) rfl ?_
  rcases m_ci_inv h with ⟨v7, g6, e8, h⟩ | ⟨y9, g6, e8, rfl, rfl⟩
  · refine m_ca (q := (19, .invokevirtual 103, 3, 12, 2)) (a := 12) (vs := [.ref 1, .int (4 : Int32), .int x2]) (st := []) (d1 := 2) (by decide +kernel) rfl rfl rfl rfl (by omega) (Fr12 e8) ?_
    show m_Run X _ _ 19 22 [(0, .ref 1), (1, .int x1), (2, .int x2), (3, .int x3)] [.int v7] (hO 8 g6) _ _
    refine m_go (L := [(22, .istore 4, 2, 0, 0), (24, .iconst 0, 1, 0, 0), (25, .istore 5, 2, 0, 0), (27, .aload_n 0, 1, 0, 0)]) (pc1 := 28) (lv1 := [(0, .ref 1), (1, .int x1), (2, .int x2), (3, .int x3), (4, .int v7), (5, .int (0 : Int32))]) (st1 := [.ref 1]) (h1 := hO 8 g6) (by decide +kernel) rfl ?_
    rcases m_ci_inv h with ⟨v11, g10, e12, h⟩ | ⟨y13, g10, e12, rfl, rfl⟩
    · refine m_ca (q := (28, .invokevirtual 52, 3, 1, 0)) (a := 1) (vs := [.ref 1]) (st := []) (d1 := 1) (by decide +kernel) rfl rfl rfl rfl (by omega) (Fr1 e12) ?_
      show m_Run X _ _ 19 31 [(0, .ref 1), (1, .int x1), (2, .int x2), (3, .int x3), (4, .int v7), (5, .int (0 : Int32))] [.int v11] (hO 8 g10) _ _
      refine m_gob (c := v11 = (5 : Int32)) (t := 39) (f := 35) (L := [(31, .iconst 5, 1, 0, 0), (32, .if_icmp .eq 7, 3, 0, 0)]) (lv1 := [(0, .ref 1), (1, .int x1), (2, .int x2), (3, .int x3), (4, .int v7), (5, .int (0 : Int32))]) (st1 := []) (h1 := hO 8 g10) (by decide +kernel) rfl (fun c14 => ?_) (fun c14 => ?_)
      · rw [if_pos c14] at h
        refine m_go (L := [(39, .iconst 0, 1, 0, 0)]) (pc1 := 40) (lv1 := [(0, .ref 1), (1, .int x1), (2, .int x2), (3, .int x3), (4, .int v7), (5, .int (0 : Int32))]) (st1 := [.int (0 : Int32)]) (h1 := hO 8 g10) (by decide +kernel) rfl ?_
        exact m_r0 _ _ _ _ _ _ _ _ _ _ (m_pick [0, 1, 3, 4, 5] rfl) (Fr19_40 hr h)
      · rw [if_neg c14] at h
        refine m_go (L := [(35, .iconst 1, 1, 0, 0), (36, .goto 4, 3, 0, 0)]) (pc1 := 40) (lv1 := [(0, .ref 1), (1, .int x1), (2, .int x2), (3, .int x3), (4, .int v7), (5, .int (0 : Int32))]) (st1 := [.int (1 : Int32)]) (h1 := hO 8 g10) (by decide +kernel) rfl ?_
        exact m_r0 _ _ _ _ _ _ _ _ _ _ (m_pick [0, 1, 3, 4, 5] rfl) (Fr19_40 hr h)
    · exact m_cx (q := (28, .invokevirtual 52, 3, 1, 0)) (a := 1) (vs := [.ref 1]) (st := []) (d1 := 1) (by decide +kernel) (by decide +kernel) rfl rfl rfl rfl (by omega) (Fr1 e12)
  · exact m_cx (q := (19, .invokevirtual 103, 3, 12, 2)) (a := 12) (vs := [.ref 1, .int (4 : Int32), .int x2]) (st := []) (d1 := 2) (by decide +kernel) (by decide +kernel) rfl rfl rfl rfl (by omega) (Fr12 e8)
def f19 (n : Nat) (rc : mRec) (x1 : Int32) (x2 : Int32) (g : mG) : mZ := m_ci (f4 n x1 g) (fun v2 g1 => if ¬ v2 = (-1 : Int32) then f19_16 n rc x1 x2 v2 g1 else m_cv (f3 n x1 g1) (fun g47 => f19_16 n rc x1 x2 v2 g47))
theorem Fr19 {d : Nat} {rc : mRec} (hr : m_Rec X d rc) {x1 : Int32} {x2 : Int32} {g g' : mG} {o : mO} (h : f19 n rc x1 x2 g = some (o, g')) : m_Run X (d + 31) (m_ko o) 19 0 [(0, .ref 1), (1, .int x1), (2, .int x2)] [] (hO 8 g) o (hO 8 g') := by
  unfold f19 at h
  refine m_go (L := [(0, .aload_n 0, 1, 0, 0), (1, .iload_n 1, 1, 0, 0)]) (pc1 := 2) (lv1 := [(0, .ref 1), (1, .int x1), (2, .int x2)]) (st1 := [.int x1, .ref 1]) (h1 := hO 8 g) (by decide +kernel) rfl ?_
  rcases m_ci_inv h with ⟨v2, g1, e3, h⟩ | ⟨y4, g1, e3, rfl, rfl⟩
  · refine m_ca (q := (2, .invokevirtual 80, 3, 4, 1)) (a := 4) (vs := [.ref 1, .int x1]) (st := []) (d1 := 1) (by decide +kernel) rfl rfl rfl rfl (by omega) (Fr4 e3) ?_
    show m_Run X _ _ 19 5 [(0, .ref 1), (1, .int x1), (2, .int x2)] [.int v2] (hO 8 g1) _ _
    refine m_gob (c := ¬ v2 = (-1 : Int32)) (t := 16) (f := 11) (L := [(5, .istore_n 3, 1, 0, 0), (6, .iload_n 3, 1, 0, 0), (7, .iconst (-1), 1, 0, 0), (8, .if_icmp .ne 8, 3, 0, 0)]) (lv1 := [(0, .ref 1), (1, .int x1), (2, .int x2), (3, .int v2)]) (st1 := []) (h1 := hO 8 g1) (by decide +kernel) rfl (fun c5 => ?_) (fun c5 => ?_)
    · rw [if_pos c5] at h
      exact m_r0 _ _ _ _ _ _ _ _ _ _ (m_pick [0, 1, 2, 3] rfl) (Fr19_16 hr h)
    · rw [if_neg c5] at h
      refine m_go (L := [(11, .aload_n 0, 1, 0, 0), (12, .iload_n 1, 1, 0, 0)]) (pc1 := 13) (lv1 := [(0, .ref 1), (1, .int x1), (2, .int x2), (3, .int v2)]) (st1 := [.int x1, .ref 1]) (h1 := hO 8 g1) (by decide +kernel) rfl ?_
      rcases m_cv_inv h with ⟨g47, e49, h⟩ | ⟨y50, g47, e49, rfl, rfl⟩
      · refine m_ca (q := (13, .invokevirtual 77, 3, 3, 1)) (a := 3) (vs := [.ref 1, .int x1]) (st := []) (d1 := 1) (by decide +kernel) rfl rfl rfl rfl (by omega) (Fr3 e49) ?_
        show m_Run X _ _ 19 16 [(0, .ref 1), (1, .int x1), (2, .int x2), (3, .int v2)] [] (hO 8 g47) _ _
        exact m_r0 _ _ _ _ _ _ _ _ _ _ (m_pick [0, 1, 2, 3] rfl) (Fr19_16 hr h)
      · exact m_cx (q := (13, .invokevirtual 77, 3, 3, 1)) (a := 3) (vs := [.ref 1, .int x1]) (st := []) (d1 := 1) (by decide +kernel) (by decide +kernel) rfl rfl rfl rfl (by omega) (Fr3 e49)
  · exact m_cx (q := (2, .invokevirtual 80, 3, 4, 1)) (a := 4) (vs := [.ref 1, .int x1]) (st := []) (d1 := 1) (by decide +kernel) (by decide +kernel) rfl rfl rfl rfl (by omega) (Fr4 e3)
def f22 (n : Nat) (rc : mRec) (x1 : Int32) (g : mG) : mZ := m_ci (f12 n (8 : Int32) x1 (gI g 5 ((g.1 5) + (1 : Int32)))) (fun v2 g1 => m_ci (rc 15 (0 : Int32) v2 0 g1) (fun v6 g5 => m_cv (f18 n (0 : Int32) v6 (g.1 5) g5) (fun g9 => m_cv (f6 n (9 : Int32) g9) (fun g13 => m_ci (f34_3 n (28 : Int32) (0 : Int32) g13) (fun v18 g17 => some (.inl (some (.int (0 : Int32))), g17))))))
theorem Fr22 {d : Nat} {rc : mRec} (hr : m_Rec X d rc) {x1 : Int32} {g g' : mG} {o : mO} (h : f22 n rc x1 g = some (o, g')) : m_Run X (d + 31) (m_ko o) 22 0 [(0, .ref 1), (1, .int x1)] [] (hO 8 g) o (hO 8 g') := by
  unfold f22 at h
  refine m_go (L := [(0, .aload_n 0, 1, 0, 0), (1, .getfield 25, 3, 0, 2), (4, .istore_n 2, 1, 0, 0), (5, .aload_n 0, 1, 0, 0), (6, .dup, 1, 0, 0), (7, .getfield 25, 3, 0, 2), (10, .iconst 1, 1, 0, 0), (11, .iadd, 1, 0, 0), (12, .putfield 25, 3, 0, 2), (15, .aload_n 0, 1, 0, 0), (16, .bipush 8, 2, 0, 0), (18, .iload_n 1, 1, 0, 0)]) (pc1 := 19) (lv1 := [(0, .ref 1), (1, .int x1), (2, .int (g.1 5))]) (st1 := [.int x1, .int (8 : Int32), .ref 1]) (h1 := hO 8 (gI g 5 ((g.1 5) + (1 : Int32)))) (by decide +kernel) rfl ?_
  rcases m_ci_inv h with ⟨v2, g1, e3, h⟩ | ⟨y4, g1, e3, rfl, rfl⟩
  · refine m_ca (q := (19, .invokevirtual 103, 3, 12, 2)) (a := 12) (vs := [.ref 1, .int (8 : Int32), .int x1]) (st := []) (d1 := 2) (by decide +kernel) rfl rfl rfl rfl (by omega) (Fr12 e3) ?_
    show m_Run X _ _ 22 22 [(0, .ref 1), (1, .int x1), (2, .int (g.1 5))] [.int v2] (hO 8 g1) _ _
    refine m_go (L := [(22, .istore_n 3, 1, 0, 0), (23, .aload_n 0, 1, 0, 0), (24, .iconst 0, 1, 0, 0), (25, .aload_n 0, 1, 0, 0), (26, .iconst 0, 1, 0, 0), (27, .iload_n 3, 1, 0, 0)]) (pc1 := 28) (lv1 := [(0, .ref 1), (1, .int x1), (2, .int (g.1 5)), (3, .int v2)]) (st1 := [.int v2, .int (0 : Int32), .ref 1, .int (0 : Int32), .ref 1]) (h1 := hO 8 g1) (by decide +kernel) rfl ?_
    rcases m_ci_inv h with ⟨v6, g5, e7, h⟩ | ⟨y8, g5, e7, rfl, rfl⟩
    · refine m_ca (q := (28, .invokevirtual 127, 3, 15, 2)) (a := 15) (vs := [.ref 1, .int (0 : Int32), .int v2]) (st := [.int (0 : Int32), .ref 1]) (d1 := d + 30) (by decide +kernel) rfl rfl rfl rfl (by omega) (hr _ _ _ _ _ _ _ e7) ?_
      show m_Run X _ _ 22 31 [(0, .ref 1), (1, .int x1), (2, .int (g.1 5)), (3, .int v2)] [.int v6, .int (0 : Int32), .ref 1] (hO 8 g5) _ _
      refine m_go (L := [(31, .iload_n 2, 1, 0, 0)]) (pc1 := 32) (lv1 := [(0, .ref 1), (1, .int x1), (2, .int (g.1 5)), (3, .int v2)]) (st1 := [.int (g.1 5), .int v6, .int (0 : Int32), .ref 1]) (h1 := hO 8 g5) (by decide +kernel) rfl ?_
      rcases m_cv_inv h with ⟨g9, e11, h⟩ | ⟨y12, g9, e11, rfl, rfl⟩
      · refine m_ca (q := (32, .invokevirtual 136, 3, 18, 3)) (a := 18) (vs := [.ref 1, .int (0 : Int32), .int v6, .int (g.1 5)]) (st := []) (d1 := 2) (by decide +kernel) rfl rfl rfl rfl (by omega) (Fr18 e11) ?_
        show m_Run X _ _ 22 35 [(0, .ref 1), (1, .int x1), (2, .int (g.1 5)), (3, .int v2)] [] (hO 8 g9) _ _
        refine m_go (L := [(35, .aload_n 0, 1, 0, 0), (36, .bipush 9, 2, 0, 0)]) (pc1 := 38) (lv1 := [(0, .ref 1), (1, .int x1), (2, .int (g.1 5)), (3, .int v2)]) (st1 := [.int (9 : Int32), .ref 1]) (h1 := hO 8 g9) (by decide +kernel) rfl ?_
        rcases m_cv_inv h with ⟨g13, e15, h⟩ | ⟨y16, g13, e15, rfl, rfl⟩
        · refine m_ca (q := (38, .invokevirtual 87, 3, 6, 1)) (a := 6) (vs := [.ref 1, .int (9 : Int32)]) (st := []) (d1 := 2) (by decide +kernel) rfl rfl rfl rfl (by omega) (Fr6 e15) ?_
          show m_Run X _ _ 22 41 [(0, .ref 1), (1, .int x1), (2, .int (g.1 5)), (3, .int v2)] [] (hO 8 g13) _ _
          refine m_go (L := [(41, .aload_n 0, 1, 0, 0), (42, .getfield 21, 3, 0, 1), (45, .bipush 28, 2, 0, 0), (47, .iconst 0, 1, 0, 0)]) (pc1 := 48) (lv1 := [(0, .ref 1), (1, .int x1), (2, .int (g.1 5)), (3, .int v2)]) (st1 := [.int (0 : Int32), .int (28 : Int32), .ref 3]) (h1 := hO 8 g13) (by decide +kernel) rfl ?_
          rcases m_ci_inv h with ⟨v18, g17, e19, h⟩ | ⟨y20, g17, e19, rfl, rfl⟩
          · refine m_ca (q := (48, .invokevirtual 68, 3, 34, 2)) (a := 34) (vs := [.ref 3, .int (28 : Int32), .int (0 : Int32)]) (st := []) (d1 := 0) (by decide +kernel) rfl rfl rfl rfl (by omega) (Fr34_3 e19) ?_
            show m_Run X _ _ 22 51 [(0, .ref 1), (1, .int x1), (2, .int (g.1 5)), (3, .int v2)] [.int v18] (hO 8 g17) _ _
            refine m_go (L := [(51, .pop, 1, 0, 0), (52, .iconst 0, 1, 0, 0)]) (pc1 := 53) (lv1 := [(0, .ref 1), (1, .int x1), (2, .int (g.1 5)), (3, .int v2)]) (st1 := [.int (0 : Int32)]) (h1 := hO 8 g17) (by decide +kernel) rfl ?_
            cases h
            exact m_ri (by decide +kernel)
          · exact m_cx (q := (48, .invokevirtual 68, 3, 34, 2)) (a := 34) (vs := [.ref 3, .int (28 : Int32), .int (0 : Int32)]) (st := []) (d1 := 0) (by decide +kernel) (by decide +kernel) rfl rfl rfl rfl (by omega) (Fr34_3 e19)
        · exact m_cx (q := (38, .invokevirtual 87, 3, 6, 1)) (a := 6) (vs := [.ref 1, .int (9 : Int32)]) (st := []) (d1 := 2) (by decide +kernel) (by decide +kernel) rfl rfl rfl rfl (by omega) (Fr6 e15)
      · exact m_cx (q := (32, .invokevirtual 136, 3, 18, 3)) (a := 18) (vs := [.ref 1, .int (0 : Int32), .int v6, .int (g.1 5)]) (st := []) (d1 := 2) (by decide +kernel) (by decide +kernel) rfl rfl rfl rfl (by omega) (Fr18 e11)
    · exact m_cx (q := (28, .invokevirtual 127, 3, 15, 2)) (a := 15) (vs := [.ref 1, .int (0 : Int32), .int v2]) (st := [.int (0 : Int32), .ref 1]) (d1 := d + 30) (by decide +kernel) (by decide +kernel) rfl rfl rfl rfl (by omega) (hr _ _ _ _ _ _ _ e7)
  · exact m_cx (q := (19, .invokevirtual 103, 3, 12, 2)) (a := 12) (vs := [.ref 1, .int (8 : Int32), .int x1]) (st := []) (d1 := 2) (by decide +kernel) (by decide +kernel) rfl rfl rfl rfl (by omega) (Fr12 e3)
def f25_21 (n : Nat) (rc : mRec) (x1 : Int32) (x2 : Int32) (x3 : Int32) (g : mG) : mZ := m_cv (f6 n (12 : Int32) (gI g 5 ((g.1 5) + (1 : Int32)))) (fun g6 => m_ci (rc 15 (0 : Int32) x1 0 g6) (fun v11 g10 => m_ci (f21 n x3 g10) (fun v15 g14 => m_cv (f18 n v15 v11 x2 g14) (fun g18 => m_ci (f34_3 n (39 : Int32) x3 g18) (fun v23 g22 => m_cv (f6 n (11 : Int32) g22) (fun g26 => some (.inl none, g26)))))))
theorem Fr25_21 {d : Nat} {rc : mRec} (hr : m_Rec X d rc) {x1 : Int32} {x2 : Int32} {x3 : Int32} {g g' : mG} {o : mO} (h : f25_21 n rc x1 x2 x3 g = some (o, g')) : m_Run X (d + 31) (m_ko o) 25 21 [(0, .ref 1), (1, .int x1), (2, .int x2), (3, .int x3)] [] (hO 8 g) o (hO 8 g') := by
  unfold f25_21 at h
  refine m_go (L := [(21, .aload_n 0, 1, 0, 0), (22, .dup, 1, 0, 0), (23, .getfield 25, 3, 0, 2), (26, .iconst 1, 1, 0, 0), (27, .iadd, 1, 0, 0), (28, .putfield 25, 3, 0, 2), (31, .aload_n 0, 1, 0, 0), (32, .bipush 12, 2, 0, 0)]) (pc1 := 34) (lv1 := [(0, .ref 1), (1, .int x1), (2, .int x2), (3, .int x3)]) (st1 := [.int (12 : Int32), .ref 1]) (h1 := hO 8 (gI g 5 ((g.1 5) + (1 : Int32)))) (by decide +kernel) rfl ?_
  rcases m_cv_inv h with ⟨g6, e8, h⟩ | ⟨y9, g6, e8, rfl, rfl⟩
  · refine m_ca (q := (34, .invokevirtual 87, 3, 6, 1)) (a := 6) (vs := [.ref 1, .int (12 : Int32)]) (st := []) (d1 := 2) (by decide +kernel) rfl rfl rfl rfl (by omega) (Fr6 e8) ?_
    show m_Run X _ _ 25 37 [(0, .ref 1), (1, .int x1), (2, .int x2), (3, .int x3)] [] (hO 8 g6) _ _
    refine m_go (L := [(37, .aload_n 0, 1, 0, 0), (38, .iconst 0, 1, 0, 0), (39, .iload_n 1, 1, 0, 0)]) (pc1 := 40) (lv1 := [(0, .ref 1), (1, .int x1), (2, .int x2), (3, .int x3)]) (st1 := [.int x1, .int (0 : Int32), .ref 1]) (h1 := hO 8 g6) (by decide +kernel) rfl ?_
    rcases m_ci_inv h with ⟨v11, g10, e12, h⟩ | ⟨y13, g10, e12, rfl, rfl⟩
    · refine m_ca (q := (40, .invokevirtual 127, 3, 15, 2)) (a := 15) (vs := [.ref 1, .int (0 : Int32), .int x1]) (st := []) (d1 := d + 30) (by decide +kernel) rfl rfl rfl rfl (by omega) (hr _ _ _ _ _ _ _ e12) ?_
      show m_Run X _ _ 25 43 [(0, .ref 1), (1, .int x1), (2, .int x2), (3, .int x3)] [.int v11] (hO 8 g10) _ _
      refine m_go (L := [(43, .istore 4, 2, 0, 0), (45, .aload_n 0, 1, 0, 0), (46, .aload_n 0, 1, 0, 0), (47, .iload_n 3, 1, 0, 0)]) (pc1 := 48) (lv1 := [(0, .ref 1), (1, .int x1), (2, .int x2), (3, .int x3), (4, .int v11)]) (st1 := [.int x3, .ref 1, .ref 1]) (h1 := hO 8 g10) (by decide +kernel) rfl ?_
      rcases m_ci_inv h with ⟨v15, g14, e16, h⟩ | ⟨y17, g14, e16, rfl, rfl⟩
      · refine m_ca (q := (48, .invokevirtual 133, 3, 21, 1)) (a := 21) (vs := [.ref 1, .int x3]) (st := [.ref 1]) (d1 := 0) (by decide +kernel) rfl rfl rfl rfl (by omega) (Fr21 e16) ?_
        show m_Run X _ _ 25 51 [(0, .ref 1), (1, .int x1), (2, .int x2), (3, .int x3), (4, .int v11)] [.int v15, .ref 1] (hO 8 g14) _ _
        refine m_go (L := [(51, .iload 4, 2, 0, 0), (53, .iload_n 2, 1, 0, 0)]) (pc1 := 54) (lv1 := [(0, .ref 1), (1, .int x1), (2, .int x2), (3, .int x3), (4, .int v11)]) (st1 := [.int x2, .int v11, .int v15, .ref 1]) (h1 := hO 8 g14) (by decide +kernel) rfl ?_
        rcases m_cv_inv h with ⟨g18, e20, h⟩ | ⟨y21, g18, e20, rfl, rfl⟩
        · refine m_ca (q := (54, .invokevirtual 136, 3, 18, 3)) (a := 18) (vs := [.ref 1, .int v15, .int v11, .int x2]) (st := []) (d1 := 2) (by decide +kernel) rfl rfl rfl rfl (by omega) (Fr18 e20) ?_
          show m_Run X _ _ 25 57 [(0, .ref 1), (1, .int x1), (2, .int x2), (3, .int x3), (4, .int v11)] [] (hO 8 g18) _ _
          refine m_go (L := [(57, .aload_n 0, 1, 0, 0), (58, .getfield 21, 3, 0, 1), (61, .bipush 39, 2, 0, 0), (63, .iload_n 3, 1, 0, 0)]) (pc1 := 64) (lv1 := [(0, .ref 1), (1, .int x1), (2, .int x2), (3, .int x3), (4, .int v11)]) (st1 := [.int x3, .int (39 : Int32), .ref 3]) (h1 := hO 8 g18) (by decide +kernel) rfl ?_
          rcases m_ci_inv h with ⟨v23, g22, e24, h⟩ | ⟨y25, g22, e24, rfl, rfl⟩
          · refine m_ca (q := (64, .invokevirtual 68, 3, 34, 2)) (a := 34) (vs := [.ref 3, .int (39 : Int32), .int x3]) (st := []) (d1 := 0) (by decide +kernel) rfl rfl rfl rfl (by omega) (Fr34_3 e24) ?_
            show m_Run X _ _ 25 67 [(0, .ref 1), (1, .int x1), (2, .int x2), (3, .int x3), (4, .int v11)] [.int v23] (hO 8 g22) _ _
            refine m_go (L := [(67, .pop, 1, 0, 0), (68, .aload_n 0, 1, 0, 0), (69, .bipush 11, 2, 0, 0)]) (pc1 := 71) (lv1 := [(0, .ref 1), (1, .int x1), (2, .int x2), (3, .int x3), (4, .int v11)]) (st1 := [.int (11 : Int32), .ref 1]) (h1 := hO 8 g22) (by decide +kernel) rfl ?_
            rcases m_cv_inv h with ⟨g26, e28, h⟩ | ⟨y29, g26, e28, rfl, rfl⟩
            · refine m_ca (q := (71, .invokevirtual 87, 3, 6, 1)) (a := 6) (vs := [.ref 1, .int (11 : Int32)]) (st := []) (d1 := 2) (by decide +kernel) rfl rfl rfl rfl (by omega) (Fr6 e28) ?_
              show m_Run X _ _ 25 74 [(0, .ref 1), (1, .int x1), (2, .int x2), (3, .int x3), (4, .int v11)] [] (hO 8 g26) _ _
              cases h
              exact m_rv (by decide +kernel)
            · exact m_cx (q := (71, .invokevirtual 87, 3, 6, 1)) (a := 6) (vs := [.ref 1, .int (11 : Int32)]) (st := []) (d1 := 2) (by decide +kernel) (by decide +kernel) rfl rfl rfl rfl (by omega) (Fr6 e28)
          · exact m_cx (q := (64, .invokevirtual 68, 3, 34, 2)) (a := 34) (vs := [.ref 3, .int (39 : Int32), .int x3]) (st := []) (d1 := 0) (by decide +kernel) (by decide +kernel) rfl rfl rfl rfl (by omega) (Fr34_3 e24)
        · exact m_cx (q := (54, .invokevirtual 136, 3, 18, 3)) (a := 18) (vs := [.ref 1, .int v15, .int v11, .int x2]) (st := []) (d1 := 2) (by decide +kernel) (by decide +kernel) rfl rfl rfl rfl (by omega) (Fr18 e20)
      · exact m_cx (q := (48, .invokevirtual 133, 3, 21, 1)) (a := 21) (vs := [.ref 1, .int x3]) (st := [.ref 1]) (d1 := 0) (by decide +kernel) (by decide +kernel) rfl rfl rfl rfl (by omega) (Fr21 e16)
    · exact m_cx (q := (40, .invokevirtual 127, 3, 15, 2)) (a := 15) (vs := [.ref 1, .int (0 : Int32), .int x1]) (st := []) (d1 := d + 30) (by decide +kernel) (by decide +kernel) rfl rfl rfl rfl (by omega) (hr _ _ _ _ _ _ _ e12)
  · exact m_cx (q := (34, .invokevirtual 87, 3, 6, 1)) (a := 6) (vs := [.ref 1, .int (12 : Int32)]) (st := []) (d1 := 2) (by decide +kernel) (by decide +kernel) rfl rfl rfl rfl (by omega) (Fr6 e8)
def f25 (n : Nat) (rc : mRec) (x1 : Int32) (g : mG) : mZ := m_ci (f9 n (g.1 5) g) (fun v2 g1 => if ¬ v2 = (-1 : Int32) then f25_21 n rc x1 (g.1 5) v2 g1 else m_cv (f3 n (g.1 5) g1) (fun g30 => f25_21 n rc x1 (g.1 5) v2 g30))
theorem Fr25 {d : Nat} {rc : mRec} (hr : m_Rec X d rc) {x1 : Int32} {g g' : mG} {o : mO} (h : f25 n rc x1 g = some (o, g')) : m_Run X (d + 31) (m_ko o) 25 0 [(0, .ref 1), (1, .int x1)] [] (hO 8 g) o (hO 8 g') := by
  unfold f25 at h
  refine m_go (L := [(0, .aload_n 0, 1, 0, 0), (1, .getfield 25, 3, 0, 2), (4, .istore_n 2, 1, 0, 0), (5, .aload_n 0, 1, 0, 0), (6, .iload_n 2, 1, 0, 0)]) (pc1 := 7) (lv1 := [(0, .ref 1), (1, .int x1), (2, .int (g.1 5))]) (st1 := [.int (g.1 5), .ref 1]) (h1 := hO 8 g) (by decide +kernel) rfl ?_
  rcases m_ci_inv h with ⟨v2, g1, e3, h⟩ | ⟨y4, g1, e3, rfl, rfl⟩
  · refine m_ca (q := (7, .invokevirtual 130, 3, 9, 1)) (a := 9) (vs := [.ref 1, .int (g.1 5)]) (st := []) (d1 := 1) (by decide +kernel) rfl rfl rfl rfl (by omega) (Fr9 e3) ?_
    show m_Run X _ _ 25 10 [(0, .ref 1), (1, .int x1), (2, .int (g.1 5))] [.int v2] (hO 8 g1) _ _
    refine m_gob (c := ¬ v2 = (-1 : Int32)) (t := 21) (f := 16) (L := [(10, .istore_n 3, 1, 0, 0), (11, .iload_n 3, 1, 0, 0), (12, .iconst (-1), 1, 0, 0), (13, .if_icmp .ne 8, 3, 0, 0)]) (lv1 := [(0, .ref 1), (1, .int x1), (2, .int (g.1 5)), (3, .int v2)]) (st1 := []) (h1 := hO 8 g1) (by decide +kernel) rfl (fun c5 => ?_) (fun c5 => ?_)
    · rw [if_pos c5] at h
      exact m_r0 _ _ _ _ _ _ _ _ _ _ (m_pick [0, 1, 2, 3] rfl) (Fr25_21 hr h)
    · rw [if_neg c5] at h
      refine m_go (L := [(16, .aload_n 0, 1, 0, 0), (17, .iload_n 2, 1, 0, 0)]) (pc1 := 18) (lv1 := [(0, .ref 1), (1, .int x1), (2, .int (g.1 5)), (3, .int v2)]) (st1 := [.int (g.1 5), .ref 1]) (h1 := hO 8 g1) (by decide +kernel) rfl ?_
      rcases m_cv_inv h with ⟨g30, e32, h⟩ | ⟨y33, g30, e32, rfl, rfl⟩
      · refine m_ca (q := (18, .invokevirtual 77, 3, 3, 1)) (a := 3) (vs := [.ref 1, .int (g.1 5)]) (st := []) (d1 := 1) (by decide +kernel) rfl rfl rfl rfl (by omega) (Fr3 e32) ?_
        show m_Run X _ _ 25 21 [(0, .ref 1), (1, .int x1), (2, .int (g.1 5)), (3, .int v2)] [] (hO 8 g30) _ _
        exact m_r0 _ _ _ _ _ _ _ _ _ _ (m_pick [0, 1, 2, 3] rfl) (Fr25_21 hr h)
      · exact m_cx (q := (18, .invokevirtual 77, 3, 3, 1)) (a := 3) (vs := [.ref 1, .int (g.1 5)]) (st := []) (d1 := 1) (by decide +kernel) (by decide +kernel) rfl rfl rfl rfl (by omega) (Fr3 e32)
  · exact m_cx (q := (7, .invokevirtual 130, 3, 9, 1)) (a := 9) (vs := [.ref 1, .int (g.1 5)]) (st := []) (d1 := 1) (by decide +kernel) (by decide +kernel) rfl rfl rfl rfl (by omega) (Fr9 e3)
def f26 (n : Nat) (rc : mRec) (x1 : Int32) (g : mG) : mZ := m_ci (f12 n (8 : Int32) x1 (gI g 5 ((g.1 5) + (1 : Int32)))) (fun v2 g1 => m_ci (rc 15 (0 : Int32) v2 0 g1) (fun v6 g5 => m_cv (f18 n (0 : Int32) v6 (g.1 5) g5) (fun g9 => m_cv (f6 n (9 : Int32) g9) (fun g13 => m_cv (f6 n (12 : Int32) g13) (fun g17 => m_ci (rc 15 (0 : Int32) x1 0 g17) (fun v22 g21 => m_cv (f18 n (0 : Int32) v22 (g.1 5) g21) (fun g25 => m_ci (f34_3 n (27 : Int32) (0 : Int32) g25) (fun v30 g29 => m_cv (f6 n (11 : Int32) g29) (fun g33 => some (.inl none, g33))))))))))
theorem Fr26 {d : Nat} {rc : mRec} (hr : m_Rec X d rc) {x1 : Int32} {g g' : mG} {o : mO} (h : f26 n rc x1 g = some (o, g')) : m_Run X (d + 31) (m_ko o) 26 0 [(0, .ref 1), (1, .int x1)] [] (hO 8 g) o (hO 8 g') := by
  unfold f26 at h
  refine m_go (L := [(0, .aload_n 0, 1, 0, 0), (1, .getfield 25, 3, 0, 2), (4, .istore_n 2, 1, 0, 0), (5, .aload_n 0, 1, 0, 0), (6, .dup, 1, 0, 0), (7, .getfield 25, 3, 0, 2), (10, .iconst 1, 1, 0, 0), (11, .iadd, 1, 0, 0), (12, .putfield 25, 3, 0, 2), (15, .aload_n 0, 1, 0, 0), (16, .bipush 8, 2, 0, 0), (18, .iload_n 1, 1, 0, 0)]) (pc1 := 19) (lv1 := [(0, .ref 1), (1, .int x1), (2, .int (g.1 5))]) (st1 := [.int x1, .int (8 : Int32), .ref 1]) (h1 := hO 8 (gI g 5 ((g.1 5) + (1 : Int32)))) (by decide +kernel) rfl ?_
  rcases m_ci_inv h with ⟨v2, g1, e3, h⟩ | ⟨y4, g1, e3, rfl, rfl⟩
  · refine m_ca (q := (19, .invokevirtual 103, 3, 12, 2)) (a := 12) (vs := [.ref 1, .int (8 : Int32), .int x1]) (st := []) (d1 := 2) (by decide +kernel) rfl rfl rfl rfl (by omega) (Fr12 e3) ?_
    show m_Run X _ _ 26 22 [(0, .ref 1), (1, .int x1), (2, .int (g.1 5))] [.int v2] (hO 8 g1) _ _
    refine m_go (L := [(22, .istore_n 3, 1, 0, 0), (23, .aload_n 0, 1, 0, 0), (24, .iconst 0, 1, 0, 0), (25, .aload_n 0, 1, 0, 0), (26, .iconst 0, 1, 0, 0), (27, .iload_n 3, 1, 0, 0)]) (pc1 := 28) (lv1 := [(0, .ref 1), (1, .int x1), (2, .int (g.1 5)), (3, .int v2)]) (st1 := [.int v2, .int (0 : Int32), .ref 1, .int (0 : Int32), .ref 1]) (h1 := hO 8 g1) (by decide +kernel) rfl ?_
    rcases m_ci_inv h with ⟨v6, g5, e7, h⟩ | ⟨y8, g5, e7, rfl, rfl⟩
    · refine m_ca (q := (28, .invokevirtual 127, 3, 15, 2)) (a := 15) (vs := [.ref 1, .int (0 : Int32), .int v2]) (st := [.int (0 : Int32), .ref 1]) (d1 := d + 30) (by decide +kernel) rfl rfl rfl rfl (by omega) (hr _ _ _ _ _ _ _ e7) ?_
      show m_Run X _ _ 26 31 [(0, .ref 1), (1, .int x1), (2, .int (g.1 5)), (3, .int v2)] [.int v6, .int (0 : Int32), .ref 1] (hO 8 g5) _ _
      refine m_go (L := [(31, .iload_n 2, 1, 0, 0)]) (pc1 := 32) (lv1 := [(0, .ref 1), (1, .int x1), (2, .int (g.1 5)), (3, .int v2)]) (st1 := [.int (g.1 5), .int v6, .int (0 : Int32), .ref 1]) (h1 := hO 8 g5) (by decide +kernel) rfl ?_
      rcases m_cv_inv h with ⟨g9, e11, h⟩ | ⟨y12, g9, e11, rfl, rfl⟩
      · refine m_ca (q := (32, .invokevirtual 136, 3, 18, 3)) (a := 18) (vs := [.ref 1, .int (0 : Int32), .int v6, .int (g.1 5)]) (st := []) (d1 := 2) (by decide +kernel) rfl rfl rfl rfl (by omega) (Fr18 e11) ?_
        show m_Run X _ _ 26 35 [(0, .ref 1), (1, .int x1), (2, .int (g.1 5)), (3, .int v2)] [] (hO 8 g9) _ _
        refine m_go (L := [(35, .aload_n 0, 1, 0, 0), (36, .bipush 9, 2, 0, 0)]) (pc1 := 38) (lv1 := [(0, .ref 1), (1, .int x1), (2, .int (g.1 5)), (3, .int v2)]) (st1 := [.int (9 : Int32), .ref 1]) (h1 := hO 8 g9) (by decide +kernel) rfl ?_
        rcases m_cv_inv h with ⟨g13, e15, h⟩ | ⟨y16, g13, e15, rfl, rfl⟩
        · refine m_ca (q := (38, .invokevirtual 87, 3, 6, 1)) (a := 6) (vs := [.ref 1, .int (9 : Int32)]) (st := []) (d1 := 2) (by decide +kernel) rfl rfl rfl rfl (by omega) (Fr6 e15) ?_
          show m_Run X _ _ 26 41 [(0, .ref 1), (1, .int x1), (2, .int (g.1 5)), (3, .int v2)] [] (hO 8 g13) _ _
          refine m_go (L := [(41, .aload_n 0, 1, 0, 0), (42, .bipush 12, 2, 0, 0)]) (pc1 := 44) (lv1 := [(0, .ref 1), (1, .int x1), (2, .int (g.1 5)), (3, .int v2)]) (st1 := [.int (12 : Int32), .ref 1]) (h1 := hO 8 g13) (by decide +kernel) rfl ?_
          rcases m_cv_inv h with ⟨g17, e19, h⟩ | ⟨y20, g17, e19, rfl, rfl⟩
          · refine m_ca (q := (44, .invokevirtual 87, 3, 6, 1)) (a := 6) (vs := [.ref 1, .int (12 : Int32)]) (st := []) (d1 := 2) (by decide +kernel) rfl rfl rfl rfl (by omega) (Fr6 e19) ?_
            show m_Run X _ _ 26 47 [(0, .ref 1), (1, .int x1), (2, .int (g.1 5)), (3, .int v2)] [] (hO 8 g17) _ _
            refine m_go (L := [(47, .aload_n 0, 1, 0, 0), (48, .iconst 0, 1, 0, 0), (49, .aload_n 0, 1, 0, 0), (50, .iconst 0, 1, 0, 0), (51, .iload_n 1, 1, 0, 0)]) (pc1 := 52) (lv1 := [(0, .ref 1), (1, .int x1), (2, .int (g.1 5)), (3, .int v2)]) (st1 := [.int x1, .int (0 : Int32), .ref 1, .int (0 : Int32), .ref 1]) (h1 := hO 8 g17) (by decide +kernel) rfl ?_
            rcases m_ci_inv h with ⟨v22, g21, e23, h⟩ | ⟨y24, g21, e23, rfl, rfl⟩
            · refine m_ca (q := (52, .invokevirtual 127, 3, 15, 2)) (a := 15) (vs := [.ref 1, .int (0 : Int32), .int x1]) (st := [.int (0 : Int32), .ref 1]) (d1 := d + 30) (by decide +kernel) rfl rfl rfl rfl (by omega) (hr _ _ _ _ _ _ _ e23) ?_
              show m_Run X _ _ 26 55 [(0, .ref 1), (1, .int x1), (2, .int (g.1 5)), (3, .int v2)] [.int v22, .int (0 : Int32), .ref 1] (hO 8 g21) _ _
              refine m_go (L := [(55, .iload_n 2, 1, 0, 0)]) (pc1 := 56) (lv1 := [(0, .ref 1), (1, .int x1), (2, .int (g.1 5)), (3, .int v2)]) (st1 := [.int (g.1 5), .int v22, .int (0 : Int32), .ref 1]) (h1 := hO 8 g21) (by decide +kernel) rfl ?_
              rcases m_cv_inv h with ⟨g25, e27, h⟩ | ⟨y28, g25, e27, rfl, rfl⟩
              · refine m_ca (q := (56, .invokevirtual 136, 3, 18, 3)) (a := 18) (vs := [.ref 1, .int (0 : Int32), .int v22, .int (g.1 5)]) (st := []) (d1 := 2) (by decide +kernel) rfl rfl rfl rfl (by omega) (Fr18 e27) ?_
                show m_Run X _ _ 26 59 [(0, .ref 1), (1, .int x1), (2, .int (g.1 5)), (3, .int v2)] [] (hO 8 g25) _ _
                refine m_go (L := [(59, .aload_n 0, 1, 0, 0), (60, .getfield 21, 3, 0, 1), (63, .bipush 27, 2, 0, 0), (65, .iconst 0, 1, 0, 0)]) (pc1 := 66) (lv1 := [(0, .ref 1), (1, .int x1), (2, .int (g.1 5)), (3, .int v2)]) (st1 := [.int (0 : Int32), .int (27 : Int32), .ref 3]) (h1 := hO 8 g25) (by decide +kernel) rfl ?_
                rcases m_ci_inv h with ⟨v30, g29, e31, h⟩ | ⟨y32, g29, e31, rfl, rfl⟩
                · refine m_ca (q := (66, .invokevirtual 68, 3, 34, 2)) (a := 34) (vs := [.ref 3, .int (27 : Int32), .int (0 : Int32)]) (st := []) (d1 := 0) (by decide +kernel) rfl rfl rfl rfl (by omega) (Fr34_3 e31) ?_
                  show m_Run X _ _ 26 69 [(0, .ref 1), (1, .int x1), (2, .int (g.1 5)), (3, .int v2)] [.int v30] (hO 8 g29) _ _
                  refine m_go (L := [(69, .pop, 1, 0, 0), (70, .aload_n 0, 1, 0, 0), (71, .bipush 11, 2, 0, 0)]) (pc1 := 73) (lv1 := [(0, .ref 1), (1, .int x1), (2, .int (g.1 5)), (3, .int v2)]) (st1 := [.int (11 : Int32), .ref 1]) (h1 := hO 8 g29) (by decide +kernel) rfl ?_
                  rcases m_cv_inv h with ⟨g33, e35, h⟩ | ⟨y36, g33, e35, rfl, rfl⟩
                  · refine m_ca (q := (73, .invokevirtual 87, 3, 6, 1)) (a := 6) (vs := [.ref 1, .int (11 : Int32)]) (st := []) (d1 := 2) (by decide +kernel) rfl rfl rfl rfl (by omega) (Fr6 e35) ?_
                    show m_Run X _ _ 26 76 [(0, .ref 1), (1, .int x1), (2, .int (g.1 5)), (3, .int v2)] [] (hO 8 g33) _ _
                    cases h
                    exact m_rv (by decide +kernel)
                  · exact m_cx (q := (73, .invokevirtual 87, 3, 6, 1)) (a := 6) (vs := [.ref 1, .int (11 : Int32)]) (st := []) (d1 := 2) (by decide +kernel) (by decide +kernel) rfl rfl rfl rfl (by omega) (Fr6 e35)
                · exact m_cx (q := (66, .invokevirtual 68, 3, 34, 2)) (a := 34) (vs := [.ref 3, .int (27 : Int32), .int (0 : Int32)]) (st := []) (d1 := 0) (by decide +kernel) (by decide +kernel) rfl rfl rfl rfl (by omega) (Fr34_3 e31)
              · exact m_cx (q := (56, .invokevirtual 136, 3, 18, 3)) (a := 18) (vs := [.ref 1, .int (0 : Int32), .int v22, .int (g.1 5)]) (st := []) (d1 := 2) (by decide +kernel) (by decide +kernel) rfl rfl rfl rfl (by omega) (Fr18 e27)
            · exact m_cx (q := (52, .invokevirtual 127, 3, 15, 2)) (a := 15) (vs := [.ref 1, .int (0 : Int32), .int x1]) (st := [.int (0 : Int32), .ref 1]) (d1 := d + 30) (by decide +kernel) (by decide +kernel) rfl rfl rfl rfl (by omega) (hr _ _ _ _ _ _ _ e23)
          · exact m_cx (q := (44, .invokevirtual 87, 3, 6, 1)) (a := 6) (vs := [.ref 1, .int (12 : Int32)]) (st := []) (d1 := 2) (by decide +kernel) (by decide +kernel) rfl rfl rfl rfl (by omega) (Fr6 e19)
        · exact m_cx (q := (38, .invokevirtual 87, 3, 6, 1)) (a := 6) (vs := [.ref 1, .int (9 : Int32)]) (st := []) (d1 := 2) (by decide +kernel) (by decide +kernel) rfl rfl rfl rfl (by omega) (Fr6 e15)
      · exact m_cx (q := (32, .invokevirtual 136, 3, 18, 3)) (a := 18) (vs := [.ref 1, .int (0 : Int32), .int v6, .int (g.1 5)]) (st := []) (d1 := 2) (by decide +kernel) (by decide +kernel) rfl rfl rfl rfl (by omega) (Fr18 e11)
    · exact m_cx (q := (28, .invokevirtual 127, 3, 15, 2)) (a := 15) (vs := [.ref 1, .int (0 : Int32), .int v2]) (st := [.int (0 : Int32), .ref 1]) (d1 := d + 30) (by decide +kernel) (by decide +kernel) rfl rfl rfl rfl (by omega) (hr _ _ _ _ _ _ _ e7)
  · exact m_cx (q := (19, .invokevirtual 103, 3, 12, 2)) (a := 12) (vs := [.ref 1, .int (8 : Int32), .int x1]) (st := []) (d1 := 2) (by decide +kernel) (by decide +kernel) rfl rfl rfl rfl (by omega) (Fr12 e3)
def f27 (n : Nat) (rc : mRec) (x1 : Int32) (g : mG) : mZ := m_ci (rc 28 x1 0 0 g) (fun v2 g1 => m_cv (rc 11 x1 0 0 g1) (fun g5 => m_ci (f1 n g5) (fun v10 g9 => if v10 = (30 : Int32) then m_ci (f34_3 n (41 : Int32) (0 : Int32) (gI g9 5 ((g9.1 5) + (1 : Int32)))) (fun v15 g14 => m_cv (f37_3 n v2 g14) (fun g18 => m_cv (rc 11 x1 0 0 g18) (fun g22 => m_cv (f37_3 n v15 g22) (fun g26 => some (.inl none, g26))))) else m_cv (f37_3 n v2 g9) (fun g30 => some (.inl none, g30)))))
theorem Fr27 {d : Nat} {rc : mRec} (hr : m_Rec X d rc) {x1 : Int32} {g g' : mG} {o : mO} (h : f27 n rc x1 g = some (o, g')) : m_Run X (d + 31) (m_ko o) 27 0 [(0, .ref 1), (1, .int x1)] [] (hO 8 g) o (hO 8 g') := by
  unfold f27 at h
  refine m_go (L := [(0, .aload_n 0, 1, 0, 0), (1, .iload_n 1, 1, 0, 0)]) (pc1 := 2) (lv1 := [(0, .ref 1), (1, .int x1)]) (st1 := [.int x1, .ref 1]) (h1 := hO 8 g) (by decide +kernel) rfl ?_
  rcases m_ci_inv h with ⟨v2, g1, e3, h⟩ | ⟨y4, g1, e3, rfl, rfl⟩
  · refine m_ca (q := (2, .invokevirtual 140, 3, 28, 1)) (a := 28) (vs := [.ref 1, .int x1]) (st := []) (d1 := d + 30) (by decide +kernel) rfl rfl rfl rfl (by omega) (hr _ _ _ _ _ _ _ e3) ?_
    show m_Run X _ _ 27 5 [(0, .ref 1), (1, .int x1)] [.int v2] (hO 8 g1) _ _
    refine m_go (L := [(5, .istore_n 2, 1, 0, 0), (6, .aload_n 0, 1, 0, 0), (7, .iload_n 1, 1, 0, 0)]) (pc1 := 8) (lv1 := [(0, .ref 1), (1, .int x1), (2, .int v2)]) (st1 := [.int x1, .ref 1]) (h1 := hO 8 g1) (by decide +kernel) rfl ?_
    rcases m_cv_inv h with ⟨g5, e7, h⟩ | ⟨y8, g5, e7, rfl, rfl⟩
    · refine m_ca (q := (8, .invokevirtual 62, 3, 11, 1)) (a := 11) (vs := [.ref 1, .int x1]) (st := []) (d1 := d + 30) (by decide +kernel) rfl rfl rfl rfl (by omega) (hr _ _ _ _ _ _ _ e7) ?_
      show m_Run X _ _ 27 11 [(0, .ref 1), (1, .int x1), (2, .int v2)] [] (hO 8 g5) _ _
      refine m_go (L := [(11, .aload_n 0, 1, 0, 0)]) (pc1 := 12) (lv1 := [(0, .ref 1), (1, .int x1), (2, .int v2)]) (st1 := [.ref 1]) (h1 := hO 8 g5) (by decide +kernel) rfl ?_
      rcases m_ci_inv h with ⟨v10, g9, e11, h⟩ | ⟨y12, g9, e11, rfl, rfl⟩
      · refine m_ca (q := (12, .invokevirtual 52, 3, 1, 0)) (a := 1) (vs := [.ref 1]) (st := []) (d1 := 1) (by decide +kernel) rfl rfl rfl rfl (by omega) (Fr1 e11) ?_
        show m_Run X _ _ 27 15 [(0, .ref 1), (1, .int x1), (2, .int v2)] [.int v10] (hO 8 g9) _ _
        refine m_gob (c := v10 = (30 : Int32)) (t := 29) (f := 20) (L := [(15, .bipush 30, 2, 0, 0), (17, .if_icmp .eq 12, 3, 0, 0)]) (lv1 := [(0, .ref 1), (1, .int x1), (2, .int v2)]) (st1 := []) (h1 := hO 8 g9) (by decide +kernel) rfl (fun c13 => ?_) (fun c13 => ?_)
        · rw [if_pos c13] at h
          refine m_go (L := [(29, .aload_n 0, 1, 0, 0), (30, .dup, 1, 0, 0), (31, .getfield 25, 3, 0, 2), (34, .iconst 1, 1, 0, 0), (35, .iadd, 1, 0, 0), (36, .putfield 25, 3, 0, 2), (39, .aload_n 0, 1, 0, 0), (40, .getfield 21, 3, 0, 1), (43, .bipush 41, 2, 0, 0), (45, .iconst 0, 1, 0, 0)]) (pc1 := 46) (lv1 := [(0, .ref 1), (1, .int x1), (2, .int v2)]) (st1 := [.int (0 : Int32), .int (41 : Int32), .ref 3]) (h1 := hO 8 (gI g9 5 ((g9.1 5) + (1 : Int32)))) (by decide +kernel) rfl ?_
          rcases m_ci_inv h with ⟨v15, g14, e16, h⟩ | ⟨y17, g14, e16, rfl, rfl⟩
          · refine m_ca (q := (46, .invokevirtual 68, 3, 34, 2)) (a := 34) (vs := [.ref 3, .int (41 : Int32), .int (0 : Int32)]) (st := []) (d1 := 0) (by decide +kernel) rfl rfl rfl rfl (by omega) (Fr34_3 e16) ?_
            show m_Run X _ _ 27 49 [(0, .ref 1), (1, .int x1), (2, .int v2)] [.int v15] (hO 8 g14) _ _
            refine m_go (L := [(49, .istore_n 3, 1, 0, 0), (50, .aload_n 0, 1, 0, 0), (51, .getfield 21, 3, 0, 1), (54, .iload_n 2, 1, 0, 0)]) (pc1 := 55) (lv1 := [(0, .ref 1), (1, .int x1), (2, .int v2), (3, .int v15)]) (st1 := [.int v2, .ref 3]) (h1 := hO 8 g14) (by decide +kernel) rfl ?_
            rcases m_cv_inv h with ⟨g18, e20, h⟩ | ⟨y21, g18, e20, rfl, rfl⟩
            · refine m_ca (q := (55, .invokevirtual 143, 3, 37, 1)) (a := 37) (vs := [.ref 3, .int v2]) (st := []) (d1 := 0) (by decide +kernel) rfl rfl rfl rfl (by omega) (Fr37_3 e20) ?_
              show m_Run X _ _ 27 58 [(0, .ref 1), (1, .int x1), (2, .int v2), (3, .int v15)] [] (hO 8 g18) _ _
              refine m_go (L := [(58, .aload_n 0, 1, 0, 0), (59, .iload_n 1, 1, 0, 0)]) (pc1 := 60) (lv1 := [(0, .ref 1), (1, .int x1), (2, .int v2), (3, .int v15)]) (st1 := [.int x1, .ref 1]) (h1 := hO 8 g18) (by decide +kernel) rfl ?_
              rcases m_cv_inv h with ⟨g22, e24, h⟩ | ⟨y25, g22, e24, rfl, rfl⟩
              · refine m_ca (q := (60, .invokevirtual 62, 3, 11, 1)) (a := 11) (vs := [.ref 1, .int x1]) (st := []) (d1 := d + 30) (by decide +kernel) rfl rfl rfl rfl (by omega) (hr _ _ _ _ _ _ _ e24) ?_
                show m_Run X _ _ 27 63 [(0, .ref 1), (1, .int x1), (2, .int v2), (3, .int v15)] [] (hO 8 g22) _ _
                refine m_go (L := [(63, .aload_n 0, 1, 0, 0), (64, .getfield 21, 3, 0, 1), (67, .iload_n 3, 1, 0, 0)]) (pc1 := 68) (lv1 := [(0, .ref 1), (1, .int x1), (2, .int v2), (3, .int v15)]) (st1 := [.int v15, .ref 3]) (h1 := hO 8 g22) (by decide +kernel) rfl ?_
                rcases m_cv_inv h with ⟨g26, e28, h⟩ | ⟨y29, g26, e28, rfl, rfl⟩
                · refine m_ca (q := (68, .invokevirtual 143, 3, 37, 1)) (a := 37) (vs := [.ref 3, .int v15]) (st := []) (d1 := 0) (by decide +kernel) rfl rfl rfl rfl (by omega) (Fr37_3 e28) ?_
                  show m_Run X _ _ 27 71 [(0, .ref 1), (1, .int x1), (2, .int v2), (3, .int v15)] [] (hO 8 g26) _ _
                  cases h
                  exact m_rv (by decide +kernel)
                · exact m_cx (q := (68, .invokevirtual 143, 3, 37, 1)) (a := 37) (vs := [.ref 3, .int v15]) (st := []) (d1 := 0) (by decide +kernel) (by decide +kernel) rfl rfl rfl rfl (by omega) (Fr37_3 e28)
              · exact m_cx (q := (60, .invokevirtual 62, 3, 11, 1)) (a := 11) (vs := [.ref 1, .int x1]) (st := []) (d1 := d + 30) (by decide +kernel) (by decide +kernel) rfl rfl rfl rfl (by omega) (hr _ _ _ _ _ _ _ e24)
            · exact m_cx (q := (55, .invokevirtual 143, 3, 37, 1)) (a := 37) (vs := [.ref 3, .int v2]) (st := []) (d1 := 0) (by decide +kernel) (by decide +kernel) rfl rfl rfl rfl (by omega) (Fr37_3 e20)
          · exact m_cx (q := (46, .invokevirtual 68, 3, 34, 2)) (a := 34) (vs := [.ref 3, .int (41 : Int32), .int (0 : Int32)]) (st := []) (d1 := 0) (by decide +kernel) (by decide +kernel) rfl rfl rfl rfl (by omega) (Fr34_3 e16)
        · rw [if_neg c13] at h
          refine m_go (L := [(20, .aload_n 0, 1, 0, 0), (21, .getfield 21, 3, 0, 1), (24, .iload_n 2, 1, 0, 0)]) (pc1 := 25) (lv1 := [(0, .ref 1), (1, .int x1), (2, .int v2)]) (st1 := [.int v2, .ref 3]) (h1 := hO 8 g9) (by decide +kernel) rfl ?_
          rcases m_cv_inv h with ⟨g30, e32, h⟩ | ⟨y33, g30, e32, rfl, rfl⟩
          · refine m_ca (q := (25, .invokevirtual 143, 3, 37, 1)) (a := 37) (vs := [.ref 3, .int v2]) (st := []) (d1 := 0) (by decide +kernel) rfl rfl rfl rfl (by omega) (Fr37_3 e32) ?_
            show m_Run X _ _ 27 28 [(0, .ref 1), (1, .int x1), (2, .int v2)] [] (hO 8 g30) _ _
            cases h
            exact m_rv (by decide +kernel)
          · exact m_cx (q := (25, .invokevirtual 143, 3, 37, 1)) (a := 37) (vs := [.ref 3, .int v2]) (st := []) (d1 := 0) (by decide +kernel) (by decide +kernel) rfl rfl rfl rfl (by omega) (Fr37_3 e32)
      · exact m_cx (q := (12, .invokevirtual 52, 3, 1, 0)) (a := 1) (vs := [.ref 1]) (st := []) (d1 := 1) (by decide +kernel) (by decide +kernel) rfl rfl rfl rfl (by omega) (Fr1 e11)
    · exact m_cx (q := (8, .invokevirtual 62, 3, 11, 1)) (a := 11) (vs := [.ref 1, .int x1]) (st := []) (d1 := d + 30) (by decide +kernel) (by decide +kernel) rfl rfl rfl rfl (by omega) (hr _ _ _ _ _ _ _ e7)
  · exact m_cx (q := (2, .invokevirtual 140, 3, 28, 1)) (a := 28) (vs := [.ref 1, .int x1]) (st := []) (d1 := d + 30) (by decide +kernel) (by decide +kernel) rfl rfl rfl rfl (by omega) (hr _ _ _ _ _ _ _ e3)
def f28 (n : Nat) (rc : mRec) (x1 : Int32) (g : mG) : mZ := m_ci (rc 15 (0 : Int32) x1 0 (gI g 5 ((g.1 5) + (1 : Int32)))) (fun v2 g1 => m_cv (f18 n (1 : Int32) v2 (g.1 5) g1) (fun g5 => m_ci (f34_3 n (40 : Int32) (0 : Int32) g5) (fun v10 g9 => some (.inl (some (.int v10)), g9))))
theorem Fr28 {d : Nat} {rc : mRec} (hr : m_Rec X d rc) {x1 : Int32} {g g' : mG} {o : mO} (h : f28 n rc x1 g = some (o, g')) : m_Run X (d + 31) (m_ko o) 28 0 [(0, .ref 1), (1, .int x1)] [] (hO 8 g) o (hO 8 g') := by
  unfold f28 at h
  refine m_go (L := [(0, .aload_n 0, 1, 0, 0), (1, .getfield 25, 3, 0, 2), (4, .istore_n 2, 1, 0, 0), (5, .aload_n 0, 1, 0, 0), (6, .dup, 1, 0, 0), (7, .getfield 25, 3, 0, 2), (10, .iconst 1, 1, 0, 0), (11, .iadd, 1, 0, 0), (12, .putfield 25, 3, 0, 2), (15, .aload_n 0, 1, 0, 0), (16, .iconst 1, 1, 0, 0), (17, .aload_n 0, 1, 0, 0), (18, .iconst 0, 1, 0, 0), (19, .iload_n 1, 1, 0, 0)]) (pc1 := 20) (lv1 := [(0, .ref 1), (1, .int x1), (2, .int (g.1 5))]) (st1 := [.int x1, .int (0 : Int32), .ref 1, .int (1 : Int32), .ref 1]) (h1 := hO 8 (gI g 5 ((g.1 5) + (1 : Int32)))) (by decide +kernel) rfl ?_
  rcases m_ci_inv h with ⟨v2, g1, e3, h⟩ | ⟨y4, g1, e3, rfl, rfl⟩
  · refine m_ca (q := (20, .invokevirtual 127, 3, 15, 2)) (a := 15) (vs := [.ref 1, .int (0 : Int32), .int x1]) (st := [.int (1 : Int32), .ref 1]) (d1 := d + 30) (by decide +kernel) rfl rfl rfl rfl (by omega) (hr _ _ _ _ _ _ _ e3) ?_
    show m_Run X _ _ 28 23 [(0, .ref 1), (1, .int x1), (2, .int (g.1 5))] [.int v2, .int (1 : Int32), .ref 1] (hO 8 g1) _ _
    refine m_go (L := [(23, .iload_n 2, 1, 0, 0)]) (pc1 := 24) (lv1 := [(0, .ref 1), (1, .int x1), (2, .int (g.1 5))]) (st1 := [.int (g.1 5), .int v2, .int (1 : Int32), .ref 1]) (h1 := hO 8 g1) (by decide +kernel) rfl ?_
    rcases m_cv_inv h with ⟨g5, e7, h⟩ | ⟨y8, g5, e7, rfl, rfl⟩
    · refine m_ca (q := (24, .invokevirtual 136, 3, 18, 3)) (a := 18) (vs := [.ref 1, .int (1 : Int32), .int v2, .int (g.1 5)]) (st := []) (d1 := 2) (by decide +kernel) rfl rfl rfl rfl (by omega) (Fr18 e7) ?_
      show m_Run X _ _ 28 27 [(0, .ref 1), (1, .int x1), (2, .int (g.1 5))] [] (hO 8 g5) _ _
      refine m_go (L := [(27, .aload_n 0, 1, 0, 0), (28, .getfield 21, 3, 0, 1), (31, .bipush 40, 2, 0, 0), (33, .iconst 0, 1, 0, 0)]) (pc1 := 34) (lv1 := [(0, .ref 1), (1, .int x1), (2, .int (g.1 5))]) (st1 := [.int (0 : Int32), .int (40 : Int32), .ref 3]) (h1 := hO 8 g5) (by decide +kernel) rfl ?_
      rcases m_ci_inv h with ⟨v10, g9, e11, h⟩ | ⟨y12, g9, e11, rfl, rfl⟩
      · refine m_ca (q := (34, .invokevirtual 68, 3, 34, 2)) (a := 34) (vs := [.ref 3, .int (40 : Int32), .int (0 : Int32)]) (st := []) (d1 := 0) (by decide +kernel) rfl rfl rfl rfl (by omega) (Fr34_3 e11) ?_
        show m_Run X _ _ 28 37 [(0, .ref 1), (1, .int x1), (2, .int (g.1 5))] [.int v10] (hO 8 g9) _ _
        cases h
        exact m_ri (by decide +kernel)
      · exact m_cx (q := (34, .invokevirtual 68, 3, 34, 2)) (a := 34) (vs := [.ref 3, .int (40 : Int32), .int (0 : Int32)]) (st := []) (d1 := 0) (by decide +kernel) (by decide +kernel) rfl rfl rfl rfl (by omega) (Fr34_3 e11)
    · exact m_cx (q := (24, .invokevirtual 136, 3, 18, 3)) (a := 18) (vs := [.ref 1, .int (1 : Int32), .int v2, .int (g.1 5)]) (st := []) (d1 := 2) (by decide +kernel) (by decide +kernel) rfl rfl rfl rfl (by omega) (Fr18 e7)
  · exact m_cx (q := (20, .invokevirtual 127, 3, 15, 2)) (a := 15) (vs := [.ref 1, .int (0 : Int32), .int x1]) (st := [.int (1 : Int32), .ref 1]) (d1 := d + 30) (by decide +kernel) (by decide +kernel) rfl rfl rfl rfl (by omega) (hr _ _ _ _ _ _ _ e3)
def f29 (n : Nat) (rc : mRec) (x1 : Int32) (g : mG) : mZ := m_ci (rc 28 x1 0 0 g) (fun v2 g1 => m_cv (rc 11 x1 0 0 g1) (fun g5 => m_ci (f34_3 n (41 : Int32) (g.1 12) g5) (fun v10 g9 => m_cv (f37_3 n v2 g9) (fun g13 => some (.inl none, g13)))))
theorem Fr29 {d : Nat} {rc : mRec} (hr : m_Rec X d rc) {x1 : Int32} {g g' : mG} {o : mO} (h : f29 n rc x1 g = some (o, g')) : m_Run X (d + 31) (m_ko o) 29 0 [(0, .ref 1), (1, .int x1)] [] (hO 8 g) o (hO 8 g') := by
  unfold f29 at h
  refine m_go (L := [(0, .aload_n 0, 1, 0, 0), (1, .getfield 21, 3, 0, 1), (4, .getfield 146, 3, 1, 2), (7, .istore_n 2, 1, 0, 0), (8, .aload_n 0, 1, 0, 0), (9, .iload_n 1, 1, 0, 0)]) (pc1 := 10) (lv1 := [(0, .ref 1), (1, .int x1), (2, .int (g.1 12))]) (st1 := [.int x1, .ref 1]) (h1 := hO 8 g) (by decide +kernel) rfl ?_
  rcases m_ci_inv h with ⟨v2, g1, e3, h⟩ | ⟨y4, g1, e3, rfl, rfl⟩
  · refine m_ca (q := (10, .invokevirtual 140, 3, 28, 1)) (a := 28) (vs := [.ref 1, .int x1]) (st := []) (d1 := d + 30) (by decide +kernel) rfl rfl rfl rfl (by omega) (hr _ _ _ _ _ _ _ e3) ?_
    show m_Run X _ _ 29 13 [(0, .ref 1), (1, .int x1), (2, .int (g.1 12))] [.int v2] (hO 8 g1) _ _
    refine m_go (L := [(13, .istore_n 3, 1, 0, 0), (14, .aload_n 0, 1, 0, 0), (15, .iload_n 1, 1, 0, 0)]) (pc1 := 16) (lv1 := [(0, .ref 1), (1, .int x1), (2, .int (g.1 12)), (3, .int v2)]) (st1 := [.int x1, .ref 1]) (h1 := hO 8 g1) (by decide +kernel) rfl ?_
    rcases m_cv_inv h with ⟨g5, e7, h⟩ | ⟨y8, g5, e7, rfl, rfl⟩
    · refine m_ca (q := (16, .invokevirtual 62, 3, 11, 1)) (a := 11) (vs := [.ref 1, .int x1]) (st := []) (d1 := d + 30) (by decide +kernel) rfl rfl rfl rfl (by omega) (hr _ _ _ _ _ _ _ e7) ?_
      show m_Run X _ _ 29 19 [(0, .ref 1), (1, .int x1), (2, .int (g.1 12)), (3, .int v2)] [] (hO 8 g5) _ _
      refine m_go (L := [(19, .aload_n 0, 1, 0, 0), (20, .getfield 21, 3, 0, 1), (23, .bipush 41, 2, 0, 0), (25, .iload_n 2, 1, 0, 0)]) (pc1 := 26) (lv1 := [(0, .ref 1), (1, .int x1), (2, .int (g.1 12)), (3, .int v2)]) (st1 := [.int (g.1 12), .int (41 : Int32), .ref 3]) (h1 := hO 8 g5) (by decide +kernel) rfl ?_
      rcases m_ci_inv h with ⟨v10, g9, e11, h⟩ | ⟨y12, g9, e11, rfl, rfl⟩
      · refine m_ca (q := (26, .invokevirtual 68, 3, 34, 2)) (a := 34) (vs := [.ref 3, .int (41 : Int32), .int (g.1 12)]) (st := []) (d1 := 0) (by decide +kernel) rfl rfl rfl rfl (by omega) (Fr34_3 e11) ?_
        show m_Run X _ _ 29 29 [(0, .ref 1), (1, .int x1), (2, .int (g.1 12)), (3, .int v2)] [.int v10] (hO 8 g9) _ _
        refine m_go (L := [(29, .pop, 1, 0, 0), (30, .aload_n 0, 1, 0, 0), (31, .getfield 21, 3, 0, 1), (34, .iload_n 3, 1, 0, 0)]) (pc1 := 35) (lv1 := [(0, .ref 1), (1, .int x1), (2, .int (g.1 12)), (3, .int v2)]) (st1 := [.int v2, .ref 3]) (h1 := hO 8 g9) (by decide +kernel) rfl ?_
        rcases m_cv_inv h with ⟨g13, e15, h⟩ | ⟨y16, g13, e15, rfl, rfl⟩
        · refine m_ca (q := (35, .invokevirtual 143, 3, 37, 1)) (a := 37) (vs := [.ref 3, .int v2]) (st := []) (d1 := 0) (by decide +kernel) rfl rfl rfl rfl (by omega) (Fr37_3 e15) ?_
          show m_Run X _ _ 29 38 [(0, .ref 1), (1, .int x1), (2, .int (g.1 12)), (3, .int v2)] [] (hO 8 g13) _ _
          cases h
          exact m_rv (by decide +kernel)
        · exact m_cx (q := (35, .invokevirtual 143, 3, 37, 1)) (a := 37) (vs := [.ref 3, .int v2]) (st := []) (d1 := 0) (by decide +kernel) (by decide +kernel) rfl rfl rfl rfl (by omega) (Fr37_3 e15)
      · exact m_cx (q := (26, .invokevirtual 68, 3, 34, 2)) (a := 34) (vs := [.ref 3, .int (41 : Int32), .int (g.1 12)]) (st := []) (d1 := 0) (by decide +kernel) (by decide +kernel) rfl rfl rfl rfl (by omega) (Fr34_3 e11)
    · exact m_cx (q := (16, .invokevirtual 62, 3, 11, 1)) (a := 11) (vs := [.ref 1, .int x1]) (st := []) (d1 := d + 30) (by decide +kernel) (by decide +kernel) rfl rfl rfl rfl (by omega) (hr _ _ _ _ _ _ _ e7)
  · exact m_cx (q := (10, .invokevirtual 140, 3, 28, 1)) (a := 28) (vs := [.ref 1, .int x1]) (st := []) (d1 := d + 30) (by decide +kernel) (by decide +kernel) rfl rfl rfl rfl (by omega) (hr _ _ _ _ _ _ _ e3)
def f30 (n : Nat) (rc : mRec) (x1 : Int32) (x2 : Int32) (g : mG) : mZ := m_ci (rc 15 (0 : Int32) x2 0 (gI g 5 ((g.1 5) + (1 : Int32)))) (fun v2 g1 => m_cv (f18 n x1 v2 (g.1 5) g1) (fun g5 => m_ci (f73 n (g.1 5) g5) (fun v10 g9 => m_ci (f34_3 n v10 (0 : Int32) g9) (fun v14 g13 => m_cv (f6 n (11 : Int32) g13) (fun g17 => some (.inl none, g17))))))
theorem Fr30 {d : Nat} {rc : mRec} (hr : m_Rec X d rc) {x1 : Int32} {x2 : Int32} {g g' : mG} {o : mO} (h : f30 n rc x1 x2 g = some (o, g')) : m_Run X (d + 31) (m_ko o) 30 0 [(0, .ref 1), (1, .int x1), (2, .int x2)] [] (hO 8 g) o (hO 8 g') := by
  unfold f30 at h
  refine m_go (L := [(0, .aload_n 0, 1, 0, 0), (1, .getfield 25, 3, 0, 2), (4, .istore_n 3, 1, 0, 0), (5, .aload_n 0, 1, 0, 0), (6, .dup, 1, 0, 0), (7, .getfield 25, 3, 0, 2), (10, .iconst 1, 1, 0, 0), (11, .iadd, 1, 0, 0), (12, .putfield 25, 3, 0, 2), (15, .aload_n 0, 1, 0, 0), (16, .iload_n 1, 1, 0, 0), (17, .aload_n 0, 1, 0, 0), (18, .iconst 0, 1, 0, 0), (19, .iload_n 2, 1, 0, 0)]) (pc1 := 20) (lv1 := [(0, .ref 1), (1, .int x1), (2, .int x2), (3, .int (g.1 5))]) (st1 := [.int x2, .int (0 : Int32), .ref 1, .int x1, .ref 1]) (h1 := hO 8 (gI g 5 ((g.1 5) + (1 : Int32)))) (by decide +kernel) rfl ?_
  rcases m_ci_inv h with ⟨v2, g1, e3, h⟩ | ⟨y4, g1, e3, rfl, rfl⟩
  · refine m_ca (q := (20, .invokevirtual 127, 3, 15, 2)) (a := 15) (vs := [.ref 1, .int (0 : Int32), .int x2]) (st := [.int x1, .ref 1]) (d1 := d + 30) (by decide +kernel) rfl rfl rfl rfl (by omega) (hr _ _ _ _ _ _ _ e3) ?_
    show m_Run X _ _ 30 23 [(0, .ref 1), (1, .int x1), (2, .int x2), (3, .int (g.1 5))] [.int v2, .int x1, .ref 1] (hO 8 g1) _ _
    refine m_go (L := [(23, .iload_n 3, 1, 0, 0)]) (pc1 := 24) (lv1 := [(0, .ref 1), (1, .int x1), (2, .int x2), (3, .int (g.1 5))]) (st1 := [.int (g.1 5), .int v2, .int x1, .ref 1]) (h1 := hO 8 g1) (by decide +kernel) rfl ?_
    rcases m_cv_inv h with ⟨g5, e7, h⟩ | ⟨y8, g5, e7, rfl, rfl⟩
    · refine m_ca (q := (24, .invokevirtual 136, 3, 18, 3)) (a := 18) (vs := [.ref 1, .int x1, .int v2, .int (g.1 5)]) (st := []) (d1 := 2) (by decide +kernel) rfl rfl rfl rfl (by omega) (Fr18 e7) ?_
      show m_Run X _ _ 30 27 [(0, .ref 1), (1, .int x1), (2, .int x2), (3, .int (g.1 5))] [] (hO 8 g5) _ _
      refine m_go (L := [(27, .aload_n 0, 1, 0, 0), (28, .getfield 21, 3, 0, 1), (31, .aload_n 0, 1, 0, 0), (32, .getfield 12, 3, 0, 0), (35, .iload_n 3, 1, 0, 0)]) (pc1 := 36) (lv1 := [(0, .ref 1), (1, .int x1), (2, .int x2), (3, .int (g.1 5))]) (st1 := [.int (g.1 5), .ref 2, .ref 3]) (h1 := hO 8 g5) (by decide +kernel) rfl ?_
      rcases m_ci_inv h with ⟨v10, g9, e11, h⟩ | ⟨y12, g9, e11, rfl, rfl⟩
      · refine m_ca (q := (36, .invokevirtual 149, 3, 73, 1)) (a := 73) (vs := [.ref 2, .int (g.1 5)]) (st := [.ref 3]) (d1 := 0) (by decide +kernel) rfl rfl rfl rfl (by omega) (Fr73 e11) ?_
        show m_Run X _ _ 30 39 [(0, .ref 1), (1, .int x1), (2, .int x2), (3, .int (g.1 5))] [.int v10, .ref 3] (hO 8 g9) _ _
        refine m_go (L := [(39, .iconst 0, 1, 0, 0)]) (pc1 := 40) (lv1 := [(0, .ref 1), (1, .int x1), (2, .int x2), (3, .int (g.1 5))]) (st1 := [.int (0 : Int32), .int v10, .ref 3]) (h1 := hO 8 g9) (by decide +kernel) rfl ?_
        rcases m_ci_inv h with ⟨v14, g13, e15, h⟩ | ⟨y16, g13, e15, rfl, rfl⟩
        · refine m_ca (q := (40, .invokevirtual 68, 3, 34, 2)) (a := 34) (vs := [.ref 3, .int v10, .int (0 : Int32)]) (st := []) (d1 := 0) (by decide +kernel) rfl rfl rfl rfl (by omega) (Fr34_3 e15) ?_
          show m_Run X _ _ 30 43 [(0, .ref 1), (1, .int x1), (2, .int x2), (3, .int (g.1 5))] [.int v14] (hO 8 g13) _ _
          refine m_go (L := [(43, .pop, 1, 0, 0), (44, .aload_n 0, 1, 0, 0), (45, .bipush 11, 2, 0, 0)]) (pc1 := 47) (lv1 := [(0, .ref 1), (1, .int x1), (2, .int x2), (3, .int (g.1 5))]) (st1 := [.int (11 : Int32), .ref 1]) (h1 := hO 8 g13) (by decide +kernel) rfl ?_
          rcases m_cv_inv h with ⟨g17, e19, h⟩ | ⟨y20, g17, e19, rfl, rfl⟩
          · refine m_ca (q := (47, .invokevirtual 87, 3, 6, 1)) (a := 6) (vs := [.ref 1, .int (11 : Int32)]) (st := []) (d1 := 2) (by decide +kernel) rfl rfl rfl rfl (by omega) (Fr6 e19) ?_
            show m_Run X _ _ 30 50 [(0, .ref 1), (1, .int x1), (2, .int x2), (3, .int (g.1 5))] [] (hO 8 g17) _ _
            cases h
            exact m_rv (by decide +kernel)
          · exact m_cx (q := (47, .invokevirtual 87, 3, 6, 1)) (a := 6) (vs := [.ref 1, .int (11 : Int32)]) (st := []) (d1 := 2) (by decide +kernel) (by decide +kernel) rfl rfl rfl rfl (by omega) (Fr6 e19)
        · exact m_cx (q := (40, .invokevirtual 68, 3, 34, 2)) (a := 34) (vs := [.ref 3, .int v10, .int (0 : Int32)]) (st := []) (d1 := 0) (by decide +kernel) (by decide +kernel) rfl rfl rfl rfl (by omega) (Fr34_3 e15)
      · exact m_cx (q := (36, .invokevirtual 149, 3, 73, 1)) (a := 73) (vs := [.ref 2, .int (g.1 5)]) (st := [.ref 3]) (d1 := 0) (by decide +kernel) (by decide +kernel) rfl rfl rfl rfl (by omega) (Fr73 e11)
    · exact m_cx (q := (24, .invokevirtual 136, 3, 18, 3)) (a := 18) (vs := [.ref 1, .int x1, .int v2, .int (g.1 5)]) (st := []) (d1 := 2) (by decide +kernel) (by decide +kernel) rfl rfl rfl rfl (by omega) (Fr18 e7)
  · exact m_cx (q := (20, .invokevirtual 127, 3, 15, 2)) (a := 15) (vs := [.ref 1, .int (0 : Int32), .int x2]) (st := [.int x1, .ref 1]) (d1 := d + 30) (by decide +kernel) (by decide +kernel) rfl rfl rfl rfl (by omega) (hr _ _ _ _ _ _ _ e3)
def m_P (n : Nat) : Nat → Nat → Int32 → Int32 → Int32 → mG → mZ
  | 0, _, _, _, _, _ => none
  | d + 1, w, x, y, z, g => if w = 11 then f11 n (m_P n d) x g else if w = 13 then f13 n (m_P n d) x g else if w = 14 then f14 n (m_P n d) x g else if w = 15 then f15 n (m_P n d) x y g else if w = 16 then f16 n (m_P n d) x g else if w = 17 then f17 n (m_P n d) x y z g else if w = 19 then f19 n (m_P n d) x y g else if w = 22 then f22 n (m_P n d) x g else if w = 25 then f25 n (m_P n d) x g else if w = 26 then f26 n (m_P n d) x g else if w = 27 then f27 n (m_P n d) x g else if w = 28 then f28 n (m_P n d) x g else if w = 29 then f29 n (m_P n d) x g else if w = 30 then f30 n (m_P n d) x y g else none
theorem m_P_ok : ∀ d, m_Rec X d (m_P n d) := by
  intro d
  induction d with
  | zero => intro w x y z g o g' h; rw [m_P] at h; cases h
  | succ d ih =>
    intro w x y z g o g' h
    rw [m_P] at h
    by_cases c11 : w = 11
    · rw [if_pos c11] at h; subst c11; exact Fr11 ih h
    · rw [if_neg c11] at h
      by_cases c13 : w = 13
      · rw [if_pos c13] at h; subst c13; exact Fr13 ih h
      · rw [if_neg c13] at h
        by_cases c14 : w = 14
        · rw [if_pos c14] at h; subst c14; exact Fr14 ih h
        · rw [if_neg c14] at h
          by_cases c15 : w = 15
          · rw [if_pos c15] at h; subst c15; exact Fr15 ih h
          · rw [if_neg c15] at h
            by_cases c16 : w = 16
            · rw [if_pos c16] at h; subst c16; exact Fr16 ih h
            · rw [if_neg c16] at h
              by_cases c17 : w = 17
              · rw [if_pos c17] at h; subst c17; exact Fr17 ih h
              · rw [if_neg c17] at h
                by_cases c19 : w = 19
                · rw [if_pos c19] at h; subst c19; exact Fr19 ih h
                · rw [if_neg c19] at h
                  by_cases c22 : w = 22
                  · rw [if_pos c22] at h; subst c22; exact Fr22 ih h
                  · rw [if_neg c22] at h
                    by_cases c25 : w = 25
                    · rw [if_pos c25] at h; subst c25; exact Fr25 ih h
                    · rw [if_neg c25] at h
                      by_cases c26 : w = 26
                      · rw [if_pos c26] at h; subst c26; exact Fr26 ih h
                      · rw [if_neg c26] at h
                        by_cases c27 : w = 27
                        · rw [if_pos c27] at h; subst c27; exact Fr27 ih h
                        · rw [if_neg c27] at h
                          by_cases c28 : w = 28
                          · rw [if_pos c28] at h; subst c28; exact Fr28 ih h
                          · rw [if_neg c28] at h
                            by_cases c29 : w = 29
                            · rw [if_pos c29] at h; subst c29; exact Fr29 ih h
                            · rw [if_neg c29] at h
                              by_cases c30 : w = 30
                              · rw [if_pos c30] at h; subst c30; exact Fr30 ih h
                              · rw [if_neg c30] at h
                                cases h
end Dec
