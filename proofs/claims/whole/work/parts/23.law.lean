section Dec
variable {X : Nat × (Nat → Int32)} {n : Nat}
def m_RunE (X : Nat × (Nat → Int32)) (d k j pc : Nat) (lv : mL) (st : List Value) (h : mH) (o : mO) : Prop := ∃ h', m_Run X d k j pc lv st h o h'
theorem m_goE {L : List mI} {d k j pc pc1 : Nat} {lv lv1 : mL} {st st1 : List Value} {h h1 : mH} {o : mO} (hL : L.all (fun q => decide (m_at j q.1 = some q)) = true) (hx : m_xs X L (pc, lv, st, h) = some (pc1, lv1, st1, h1)) (hk : m_RunE X d k j pc1 lv1 st1 h1 o) : m_RunE X d k j pc lv st h o := hk.elim fun h' r => ⟨h', m_go hL hx r⟩
theorem m_gobE {L : List mI} {c : Prop} [Decidable c] {d k j pc t f : Nat} {lv lv1 : mL} {st st1 : List Value} {h h1 : mH} {o : mO} (hL : L.all (fun q => decide (m_at j q.1 = some q)) = true) (hx : m_xs X L (pc, lv, st, h) = some (if c then t else f, lv1, st1, h1)) (kt : c → m_RunE X d k j t lv1 st1 h1 o) (kf : ¬ c → m_RunE X d k j f lv1 st1 h1 o) : m_RunE X d k j pc lv st h o := by
  by_cases hc : c
  · rw [if_pos hc] at hx
    exact m_goE hL hx (kt hc)
  · rw [if_neg hc] at hx
    exact m_goE hL hx (kf hc)
theorem m_go1E {q : mI} {d k j pc pc1 : Nat} {lv lv1 : mL} {st st1 : List Value} {h h1 : mH} {o : mO} (hL : m_at j pc = some q) (hx : m_loc m_ft X q.2.1 q.2.2.2.1 q.2.2.2.2 pc lv st h = some (pc1, lv1, st1, h1)) (hk : m_RunE X d k j pc1 lv1 st1 h1 o) : m_RunE X d k j pc lv st h o := hk.elim fun h' r => ⟨h', m_go1 hL hx r⟩
theorem m_caE {d d1 k j pc a : Nat} {lv : mL} {st vs : List Value} {v : Option Value} {h h1 : mH} {o : mO} {q : mI} (hq : m_at j pc = some q) (ha : q.2.2.2.1 = a) (hcal : m_cal h vs q = true) (hfit : m_fit a vs = true) (hst : Nat.ble (m_ctg st) 8 = true) (hd : d1 ≤ d)
    (r1 : m_Run X d1 0 a 0 (lv_args 0 vs) [] h (.inl v) h1) (r2 : m_RunE X (d + 1) k j (pc + 3) lv (v.toList ++ st) h1 o) : m_RunE X (d + 1) k j pc lv (vs.reverse ++ st) h o := r2.elim fun h' r => ⟨h', m_ca hq ha hcal hfit hst hd r1 r⟩
theorem m_ca2E {d d1 k j pc a : Nat} {lv : mL} {st vs : List Value} {v : Option Value} {h h1 : mH} {o : mO} {q : mI} (hq : m_at j pc = some q) (ha : q.2.2.2.1 = a) (hcal : m_cal h vs q = true) (hfit : m_fit a vs = true) (hst : Nat.ble (m_ctg st) 8 = true) (hd : d1 ≤ d)
    (r1 : m_Run X d1 1 a 0 (lv_args 0 vs) [] h (.inl v) h1) (r2 : m_RunE X (d + 1) k j (pc + 3) lv (v.toList ++ st) h1 o) : m_RunE X (d + 1) (k + 1) j pc lv (vs.reverse ++ st) h o := by
  subst ha
  obtain ⟨h', r2⟩ := r2
  have r := m_r5 d 1 k j pc lv st vs v h h1 h' o q hq hcal hfit (Nat.le_of_ble_eq_true hst) (m_r12 _ _ _ _ _ _ _ _ _ _ _ hd (Nat.le_refl 1) r1) r2
  rw [Nat.add_comm 1 k] at r
  exact ⟨h', r⟩
theorem m_r0E {d k j pc : Nat} {lv lv' : mL} {st : List Value} {h : mH} {o : mO} (hs : ∀ q ∈ lv', q ∈ lv) (r : m_RunE X d k j pc lv' st h o) : m_RunE X d k j pc lv st h o := r.elim fun h' r => ⟨h', m_r0 _ _ _ _ _ _ _ _ _ _ hs r⟩
theorem m_r12E {d d' k k' j pc : Nat} {lv : mL} {st : List Value} {h : mH} {o : mO} (h1 : d ≤ d') (h2 : k ≤ k') (r : m_RunE X d k j pc lv st h o) : m_RunE X d' k' j pc lv st h o := r.elim fun h' r => ⟨h', m_r12 _ _ _ _ _ _ _ _ _ _ _ h1 h2 r⟩
theorem m_rzE {d k j pc : Nat} {lv : mL} {v : Int32} {h : mH} (hc : m_rok j pc (some .boolean) = true) (hv : v = 0 ∨ v = 1) : m_RunE X d k j pc lv [.int v] h (.inl (some (.int v))) := ⟨h, m_rz hc hv⟩
def f157_23 (X : Nat × (Nat → Int32)) (n : Nat) : Nat → Int32 → mG → mZ
  | 0, _, _ => none
  | c + 1, x4, g => if ((Int32.ofNat X.1) - (6 : Int32)) < x4 then some (.inl (some (.int (1 : Int32))), g) else if x4 < 0 ∨ X.1 ≤ Int32.toNatClampNeg x4 then none else if ((X.2 (Int32.toNatClampNeg x4)) &&& (7 : Int32)) = 0 then if (x4 + (1 : Int32)) < 0 ∨ X.1 ≤ Int32.toNatClampNeg (x4 + (1 : Int32)) then none else m_ti (f150 n (X.2 (Int32.toNatClampNeg (x4 + (1 : Int32)))) g) (fun v6 g5 => if (x4 + (1 : Int32)) < 0 ∨ X.1 ≤ Int32.toNatClampNeg (x4 + (1 : Int32)) then none else m_ti (f87 n (X.2 (Int32.toNatClampNeg (x4 + (1 : Int32)))) g5) (fun v11 g10 => m_ti (f86 n g10) (fun v15 g14 => if v15 = v6 then if ¬ v6 = 0 then f157_23 X n c (x4 + (6 : Int32)) g14 else if (0 : Int32) < 0 ∨ 1 ≤ Int32.toNatClampNeg (0 : Int32) then none else if (lg_cmp (g14.2.2.2 (Int32.toNatClampNeg (0 : Int32))) (Int32.toInt64 v11)) = 0 then f157_23 X n c (x4 + (6 : Int32)) g14 else some (.inl (some (.int (0 : Int32))), g14) else some (.inl (some (.int (0 : Int32))), g14)) (fun _ _ => none)) (fun _ _ => none)) (fun _ _ => none) else if ((X.2 (Int32.toNatClampNeg x4)) &&& (7 : Int32)) = 1 then if (x4 + (1 : Int32)) < 0 ∨ X.1 ≤ Int32.toNatClampNeg (x4 + (1 : Int32)) then none else m_ti (f151 n (X.2 (Int32.toNatClampNeg (x4 + (1 : Int32)))) g) (fun v25 g24 => if (x4 + (1 : Int32)) < 0 ∨ X.1 ≤ Int32.toNatClampNeg (x4 + (1 : Int32)) then none else m_tv (f89 n (X.2 (Int32.toNatClampNeg (x4 + (1 : Int32)))) g24) (fun g29 => m_ti (f86 n g29) (fun v34 g33 => if v34 = v25 then f157_23 X n c (x4 + (6 : Int32)) g33 else some (.inl (some (.int (0 : Int32))), g33)) (fun _ _ => none)) (fun _ _ => none)) (fun _ _ => none) else if ((X.2 (Int32.toNatClampNeg x4)) &&& (7 : Int32)) = 2 then m_ti (f77 n g) (fun v40 g39 => m_ti (f91 n g39) (fun v44 g43 => if v40 = v44 then f157_23 X n c (x4 + (6 : Int32)) g43 else some (.inl (some (.int (0 : Int32))), g43)) (fun _ _ => none)) (fun _ _ => none) else if ((X.2 (Int32.toNatClampNeg x4)) &&& (7 : Int32)) = 3 then if (x4 + (1 : Int32)) < 0 ∨ X.1 ≤ Int32.toNatClampNeg (x4 + (1 : Int32)) then none else m_ti (f152 n (X.2 (Int32.toNatClampNeg (x4 + (1 : Int32)))) g) (fun v51 g50 => if (x4 + (1 : Int32)) < 0 ∨ X.1 ≤ Int32.toNatClampNeg (x4 + (1 : Int32)) then none else m_ti (f136 n (X.2 (Int32.toNatClampNeg (x4 + (1 : Int32)))) g50) (fun v56 g55 => m_ti (f86 n g55) (fun v60 g59 => if v60 = v51 then if ¬ v51 = 0 then f157_23 X n c (x4 + (6 : Int32)) g59 else if (0 : Int32) < 0 ∨ 1 ≤ Int32.toNatClampNeg (0 : Int32) then none else if (lg_cmp (g59.2.2.2 (Int32.toNatClampNeg (0 : Int32))) (Int32.toInt64 v56)) = 0 then f157_23 X n c (x4 + (6 : Int32)) g59 else some (.inl (some (.int (0 : Int32))), g59) else some (.inl (some (.int (0 : Int32))), g59)) (fun _ _ => none)) (fun _ _ => none)) (fun _ _ => none) else if ((X.2 (Int32.toNatClampNeg x4)) &&& (7 : Int32)) = 4 then if (x4 + (1 : Int32)) < 0 ∨ X.1 ≤ Int32.toNatClampNeg (x4 + (1 : Int32)) then none else if (x4 + (2 : Int32)) < 0 ∨ X.1 ≤ Int32.toNatClampNeg (x4 + (2 : Int32)) then none else if (x4 + (3 : Int32)) < 0 ∨ X.1 ≤ Int32.toNatClampNeg (x4 + (3 : Int32)) then none else if (x4 + (4 : Int32)) < 0 ∨ X.1 ≤ Int32.toNatClampNeg (x4 + (4 : Int32)) then none else if (x4 + (5 : Int32)) < 0 ∨ X.1 ≤ Int32.toNatClampNeg (x4 + (5 : Int32)) then none else m_ti (f153 n (X.2 (Int32.toNatClampNeg (x4 + (1 : Int32)))) (X.2 (Int32.toNatClampNeg (x4 + (2 : Int32)))) (X.2 (Int32.toNatClampNeg (x4 + (3 : Int32)))) (X.2 (Int32.toNatClampNeg (x4 + (4 : Int32)))) (X.2 (Int32.toNatClampNeg (x4 + (5 : Int32)))) g) (fun v74 g73 => if (x4 + (1 : Int32)) < 0 ∨ X.1 ≤ Int32.toNatClampNeg (x4 + (1 : Int32)) then none else if (x4 + (2 : Int32)) < 0 ∨ X.1 ≤ Int32.toNatClampNeg (x4 + (2 : Int32)) then none else if (x4 + (3 : Int32)) < 0 ∨ X.1 ≤ Int32.toNatClampNeg (x4 + (3 : Int32)) then none else if (x4 + (4 : Int32)) < 0 ∨ X.1 ≤ Int32.toNatClampNeg (x4 + (4 : Int32)) then none else if (x4 + (5 : Int32)) < 0 ∨ X.1 ≤ Int32.toNatClampNeg (x4 + (5 : Int32)) then none else m_ti (f139 n (X.2 (Int32.toNatClampNeg (x4 + (1 : Int32)))) (X.2 (Int32.toNatClampNeg (x4 + (2 : Int32)))) (X.2 (Int32.toNatClampNeg (x4 + (3 : Int32)))) (X.2 (Int32.toNatClampNeg (x4 + (4 : Int32)))) (X.2 (Int32.toNatClampNeg (x4 + (5 : Int32)))) g73) (fun v83 g82 => m_ti (f86 n g82) (fun v87 g86 => if v87 = v74 then if ¬ v74 = 0 then f157_23 X n c (x4 + (6 : Int32)) g86 else if (0 : Int32) < 0 ∨ 1 ≤ Int32.toNatClampNeg (0 : Int32) then none else if (lg_cmp (g86.2.2.2 (Int32.toNatClampNeg (0 : Int32))) (Int32.toInt64 v83)) = 0 then f157_23 X n c (x4 + (6 : Int32)) g86 else some (.inl (some (.int (0 : Int32))), g86) else some (.inl (some (.int (0 : Int32))), g86)) (fun _ _ => none)) (fun _ _ => none)) (fun _ _ => none) else if ((X.2 (Int32.toNatClampNeg x4)) &&& (7 : Int32)) = 5 then if (x4 + (1 : Int32)) < 0 ∨ X.1 ≤ Int32.toNatClampNeg (x4 + (1 : Int32)) then none else m_ti (f154 n (X.2 (Int32.toNatClampNeg (x4 + (1 : Int32)))) g) (fun v97 g96 => if (x4 + (1 : Int32)) < 0 ∨ X.1 ≤ Int32.toNatClampNeg (x4 + (1 : Int32)) then none else m_ti (f149 n (X.2 (Int32.toNatClampNeg (x4 + (1 : Int32)))) g96) (fun v102 g101 => m_ti (f86 n g101) (fun v106 g105 => if v106 = v97 then if ¬ v97 = 0 then f157_23 X n c (x4 + (6 : Int32)) g105 else if (0 : Int32) < 0 ∨ 1 ≤ Int32.toNatClampNeg (0 : Int32) then none else if (lg_cmp (g105.2.2.2 (Int32.toNatClampNeg (0 : Int32))) (Int32.toInt64 v102)) = 0 then f157_23 X n c (x4 + (6 : Int32)) g105 else some (.inl (some (.int (0 : Int32))), g105) else some (.inl (some (.int (0 : Int32))), g105)) (fun _ _ => none)) (fun _ _ => none)) (fun _ _ => none) else if ((X.2 (Int32.toNatClampNeg x4)) &&& (7 : Int32)) = 6 then if (x4 + (1 : Int32)) < 0 ∨ X.1 ≤ Int32.toNatClampNeg (x4 + (1 : Int32)) then none else m_ti (f78 n (X.2 (Int32.toNatClampNeg (x4 + (1 : Int32)))) g) (fun v116 g115 => if (x4 + (1 : Int32)) < 0 ∨ X.1 ≤ Int32.toNatClampNeg (x4 + (1 : Int32)) then none else m_ti (f137 n (X.2 (Int32.toNatClampNeg (x4 + (1 : Int32)))) g115) (fun v121 g120 => if v116 = v121 then f157_23 X n c (x4 + (6 : Int32)) g120 else some (.inl (some (.int (0 : Int32))), g120)) (fun _ _ => none)) (fun _ _ => none) else if ((X.2 (Int32.toNatClampNeg x4)) &&& (7 : Int32)) = 7 then m_ti (f79 n g) (fun v127 g126 => m_ti (f138 n g126) (fun v131 g130 => if v127 = v131 then f157_23 X n c (x4 + (6 : Int32)) g130 else some (.inl (some (.int (0 : Int32))), g130)) (fun _ _ => none)) (fun _ _ => none) else f157_23 X n c (x4 + (6 : Int32)) g
set_option maxRecDepth 20000 in
theorem Fr157_23 : ∀ (c : Nat) (x4 : Int32) (g g' : mG) (o : mO) (R : Nat), f157_23 X n c x4 g = some (o, g') → m_RunE X (400) c 157 23 [(0, .ref m_scr), (1, .ref 0), (2, .ref 7), (3, .ref 56), (4, .int x4)] [] (hO R g) o := by
  intro c
  induction c with
  | zero => intro x4 g g' o R h; rw [f157_23] at h; cases h
  | succ c ih =>
    intro x4 g g' o R h
    rw [f157_23] at h
    refine m_gobE (c := ((Int32.ofNat X.1) - (6 : Int32)) < x4) (t := 453) (f := 33) (L := [(23, .iload 4, 2, 0, 0), (25, .aload_n 0, 1, 0, 0), (26, .arraylength, 1, 0, 0), (27, .bipush 6, 2, 0, 0), (29, .isub, 1, 0, 0), (30, .if_icmp .gt 423, 3, 0, 0)]) (lv1 := [(0, .ref m_scr), (1, .ref 0), (2, .ref 7), (3, .ref 56), (4, .int x4)]) (st1 := []) (h1 := hO R g) (by decide +kernel) rfl (fun c1 => ?_) (fun c1 => ?_)
    · rw [if_pos c1] at h
      refine m_goE (L := [(453, .iconst 1, 1, 0, 0)]) (pc1 := 454) (lv1 := [(0, .ref m_scr), (1, .ref 0), (2, .ref 7), (3, .ref 56), (4, .int x4)]) (st1 := [.int (1 : Int32)]) (h1 := hO R g) (by decide +kernel) rfl ?_
      cases h
      exact m_rzE (by decide +kernel) (Or.inr rfl)
    · rw [if_neg c1] at h
      refine m_goE (L := [(33, .aload_n 0, 1, 0, 0), (34, .iload 4, 2, 0, 0)]) (pc1 := 36) (lv1 := [(0, .ref m_scr), (1, .ref 0), (2, .ref 7), (3, .ref 56), (4, .int x4)]) (st1 := [.int x4, .ref m_scr]) (h1 := hO R g) (by decide +kernel) rfl ?_
      obtain ⟨c2, h⟩ := m_ifn_inv h
      refine m_go1E (q := (36, .iaload, 1, 0, 0)) (pc1 := 37) (lv1 := [(0, .ref m_scr), (1, .ref 0), (2, .ref 7), (3, .ref 56), (4, .int x4)]) (st1 := [.int (X.2 (Int32.toNatClampNeg x4))]) (h1 := hO R g) (by decide +kernel) (if_neg c2) ?_
      refine m_goE (L := [(37, .bipush 7, 2, 0, 0), (39, .iand, 1, 0, 0)]) (pc1 := 40) (lv1 := [(0, .ref m_scr), (1, .ref 0), (2, .ref 7), (3, .ref 56), (4, .int x4)]) (st1 := [.int ((X.2 (Int32.toNatClampNeg x4)) &&& (7 : Int32))]) (h1 := hO R g) (by decide +kernel) rfl ?_
      by_cases c3 : ((X.2 (Int32.toNatClampNeg x4)) &&& (7 : Int32)) = 0
      · rw [if_pos c3] at h
        refine m_go1E (q := (40, .tableswitch 407 0 7 #[48, 104, 140, 153, 209, 313, 369, 394], 48, 0, 0)) (pc1 := 88) (lv1 := [(0, .ref m_scr), (1, .ref 0), (2, .ref 7), (3, .ref 56), (4, .int x4)]) (st1 := []) (h1 := hO R g) (by decide +kernel) (m_swx (fun z => m_loc m_ft X (.tableswitch 407 0 7 #[48, 104, 140, 153, 209, 313, 369, 394]) 0 0 40 [(0, .ref m_scr), (1, .ref 0), (2, .ref 7), (3, .ref 56), (4, .int x4)] (.int z :: []) (hO R g)) c3 rfl) ?_
        refine m_goE (L := [(88, .aload_n 1, 1, 0, 0), (89, .aload_n 0, 1, 0, 0), (90, .iload 4, 2, 0, 0), (92, .iconst 1, 1, 0, 0), (93, .iadd, 1, 0, 0)]) (pc1 := 94) (lv1 := [(0, .ref m_scr), (1, .ref 0), (2, .ref 7), (3, .ref 56), (4, .int x4)]) (st1 := [.int (x4 + (1 : Int32)), .ref m_scr, .ref 0]) (h1 := hO R g) (by decide +kernel) rfl ?_
        obtain ⟨c4, h⟩ := m_ifn_inv h
        refine m_go1E (q := (94, .iaload, 1, 0, 0)) (pc1 := 95) (lv1 := [(0, .ref m_scr), (1, .ref 0), (2, .ref 7), (3, .ref 56), (4, .int x4)]) (st1 := [.int (X.2 (Int32.toNatClampNeg (x4 + (1 : Int32)))), .ref 0]) (h1 := hO R g) (by decide +kernel) (if_neg c4) ?_
        refine m_goE (L := [(95, .aload_n 3, 1, 0, 0)]) (pc1 := 96) (lv1 := [(0, .ref m_scr), (1, .ref 0), (2, .ref 7), (3, .ref 56), (4, .int x4)]) (st1 := [.ref 56, .int (X.2 (Int32.toNatClampNeg (x4 + (1 : Int32)))), .ref 0]) (h1 := hO R g) (by decide +kernel) rfl ?_
        rcases m_ti_inv h with ⟨v6, g5, e7, h⟩ | ⟨y8, g5, e7, h⟩
        · refine m_ca2E (q := (96, .invokestatic 39, 3, 150, 3)) (a := 150) (vs := [.ref 0, .int (X.2 (Int32.toNatClampNeg (x4 + (1 : Int32)))), .ref 56]) (st := []) (d1 := 2) (by decide +kernel) rfl rfl rfl rfl (by decide) (Fr150 e7) ?_
          show m_RunE X _ _ 157 99 [(0, .ref m_scr), (1, .ref 0), (2, .ref 7), (3, .ref 56), (4, .int x4)] [.int v6] (hO R g5) _
          refine m_goE (L := [(99, .istore 5, 2, 0, 0), (101, .aload_n 2, 1, 0, 0), (102, .aload_n 0, 1, 0, 0), (103, .iload 4, 2, 0, 0), (105, .iconst 1, 1, 0, 0), (106, .iadd, 1, 0, 0)]) (pc1 := 107) (lv1 := [(0, .ref m_scr), (1, .ref 0), (2, .ref 7), (3, .ref 56), (4, .int x4), (5, .int v6)]) (st1 := [.int (x4 + (1 : Int32)), .ref m_scr, .ref 7]) (h1 := hO R g5) (by decide +kernel) rfl ?_
          obtain ⟨c9, h⟩ := m_ifn_inv h
          refine m_go1E (q := (107, .iaload, 1, 0, 0)) (pc1 := 108) (lv1 := [(0, .ref m_scr), (1, .ref 0), (2, .ref 7), (3, .ref 56), (4, .int x4), (5, .int v6)]) (st1 := [.int (X.2 (Int32.toNatClampNeg (x4 + (1 : Int32)))), .ref 7]) (h1 := hO R g5) (by decide +kernel) (if_neg c9) ?_
          rcases m_ti_inv h with ⟨v11, g10, e12, h⟩ | ⟨y13, g10, e12, h⟩
          · refine m_caE (q := (108, .invokevirtual 44, 3, 87, 1)) (a := 87) (vs := [.ref 7, .int (X.2 (Int32.toNatClampNeg (x4 + (1 : Int32))))]) (st := []) (d1 := 1) (by decide +kernel) rfl rfl rfl rfl (by decide) (Fr87 e12) ?_
            show m_RunE X _ _ 157 111 [(0, .ref m_scr), (1, .ref 0), (2, .ref 7), (3, .ref 56), (4, .int x4), (5, .int v6)] [.int v11] (hO R g10) _
            refine m_goE (L := [(111, .istore 6, 2, 0, 0), (113, .aload_n 2, 1, 0, 0)]) (pc1 := 114) (lv1 := [(0, .ref m_scr), (1, .ref 0), (2, .ref 7), (3, .ref 56), (4, .int x4), (5, .int v6), (6, .int v11)]) (st1 := [.ref 7]) (h1 := hO R g10) (by decide +kernel) rfl ?_
            rcases m_ti_inv h with ⟨v15, g14, e16, h⟩ | ⟨y17, g14, e16, h⟩
            · refine m_caE (q := (114, .invokevirtual 45, 3, 86, 0)) (a := 86) (vs := [.ref 7]) (st := []) (d1 := 0) (by decide +kernel) rfl rfl rfl rfl (by decide) (Fr86 e16) ?_
              show m_RunE X _ _ 157 117 [(0, .ref m_scr), (1, .ref 0), (2, .ref 7), (3, .ref 56), (4, .int x4), (5, .int v6), (6, .int v11)] [.int v15] (hO R g14) _
              refine m_gobE (c := v15 = v6) (t := 124) (f := 122) (L := [(117, .iload 5, 2, 0, 0), (119, .if_icmp .eq 5, 3, 0, 0)]) (lv1 := [(0, .ref m_scr), (1, .ref 0), (2, .ref 7), (3, .ref 56), (4, .int x4), (5, .int v6), (6, .int v11)]) (st1 := []) (h1 := hO R g14) (by decide +kernel) rfl (fun c18 => ?_) (fun c18 => ?_)
              · rw [if_pos c18] at h
                refine m_gobE (c := ¬ v6 = 0) (t := 141) (f := 129) (L := [(124, .iload 5, 2, 0, 0), (126, .ifCond .ne 15, 3, 0, 0)]) (lv1 := [(0, .ref m_scr), (1, .ref 0), (2, .ref 7), (3, .ref 56), (4, .int x4), (5, .int v6), (6, .int v11)]) (st1 := []) (h1 := hO R g14) (by decide +kernel) rfl (fun c19 => ?_) (fun c19 => ?_)
                · rw [if_pos c19] at h
                  refine m_goE (L := [(141, .goto 306, 3, 0, 0), (447, .iinc 4 6, 3, 0, 0), (450, .goto (-427), 3, 0, 0)]) (pc1 := 23) (lv1 := [(0, .ref m_scr), (1, .ref 0), (2, .ref 7), (3, .ref 56), (4, .int (x4 + (6 : Int32))), (5, .int v6), (6, .int v11)]) (st1 := []) (h1 := hO R g14) (by decide +kernel) rfl ?_
                  exact m_r0E (m_pick [0, 1, 2, 3, 4] rfl) (m_r12E (Nat.le_refl _) (by omega) (ih _ _ _ _ _ h))
                · rw [if_neg c19] at h
                  refine m_goE (L := [(129, .aload_n 3, 1, 0, 0), (130, .iconst 0, 1, 0, 0)]) (pc1 := 131) (lv1 := [(0, .ref m_scr), (1, .ref 0), (2, .ref 7), (3, .ref 56), (4, .int x4), (5, .int v6), (6, .int v11)]) (st1 := [.int (0 : Int32), .ref 56]) (h1 := hO R g14) (by decide +kernel) rfl ?_
                  obtain ⟨c20, h⟩ := m_ifn_inv h
                  refine m_go1E (q := (131, .laload, 1, 0, 0)) (pc1 := 132) (lv1 := [(0, .ref m_scr), (1, .ref 0), (2, .ref 7), (3, .ref 56), (4, .int x4), (5, .int v6), (6, .int v11)]) (st1 := [.long (g14.2.2.2 (Int32.toNatClampNeg (0 : Int32)))]) (h1 := hO R g14) (by decide +kernel) (if_neg (t := none) c20) ?_
                  refine m_gobE (c := (lg_cmp (g14.2.2.2 (Int32.toNatClampNeg (0 : Int32))) (Int32.toInt64 v11)) = 0) (t := 141) (f := 139) (L := [(132, .iload 6, 2, 0, 0), (134, .i2l, 1, 0, 0), (135, .lcmp, 1, 0, 0), (136, .ifCond .eq 5, 3, 0, 0)]) (lv1 := [(0, .ref m_scr), (1, .ref 0), (2, .ref 7), (3, .ref 56), (4, .int x4), (5, .int v6), (6, .int v11)]) (st1 := []) (h1 := hO R g14) (by decide +kernel) rfl (fun c21 => ?_) (fun c21 => ?_)
                  · rw [if_pos c21] at h
                    refine m_goE (L := [(141, .goto 306, 3, 0, 0), (447, .iinc 4 6, 3, 0, 0), (450, .goto (-427), 3, 0, 0)]) (pc1 := 23) (lv1 := [(0, .ref m_scr), (1, .ref 0), (2, .ref 7), (3, .ref 56), (4, .int (x4 + (6 : Int32))), (5, .int v6), (6, .int v11)]) (st1 := []) (h1 := hO R g14) (by decide +kernel) rfl ?_
                    exact m_r0E (m_pick [0, 1, 2, 3, 4] rfl) (m_r12E (Nat.le_refl _) (by omega) (ih _ _ _ _ _ h))
                  · rw [if_neg c21] at h
                    refine m_goE (L := [(139, .iconst 0, 1, 0, 0)]) (pc1 := 140) (lv1 := [(0, .ref m_scr), (1, .ref 0), (2, .ref 7), (3, .ref 56), (4, .int x4), (5, .int v6), (6, .int v11)]) (st1 := [.int (0 : Int32)]) (h1 := hO R g14) (by decide +kernel) rfl ?_
                    cases h
                    exact m_rzE (by decide +kernel) (Or.inl rfl)
              · rw [if_neg c18] at h
                refine m_goE (L := [(122, .iconst 0, 1, 0, 0)]) (pc1 := 123) (lv1 := [(0, .ref m_scr), (1, .ref 0), (2, .ref 7), (3, .ref 56), (4, .int x4), (5, .int v6), (6, .int v11)]) (st1 := [.int (0 : Int32)]) (h1 := hO R g14) (by decide +kernel) rfl ?_
                cases h
                exact m_rzE (by decide +kernel) (Or.inl rfl)
            · cases h
          · cases h
        · cases h
      · rw [if_neg c3] at h
        by_cases c22 : ((X.2 (Int32.toNatClampNeg x4)) &&& (7 : Int32)) = 1
        · rw [if_pos c22] at h
          refine m_go1E (q := (40, .tableswitch 407 0 7 #[48, 104, 140, 153, 209, 313, 369, 394], 48, 0, 0)) (pc1 := 144) (lv1 := [(0, .ref m_scr), (1, .ref 0), (2, .ref 7), (3, .ref 56), (4, .int x4)]) (st1 := []) (h1 := hO R g) (by decide +kernel) (m_swx (fun z => m_loc m_ft X (.tableswitch 407 0 7 #[48, 104, 140, 153, 209, 313, 369, 394]) 0 0 40 [(0, .ref m_scr), (1, .ref 0), (2, .ref 7), (3, .ref 56), (4, .int x4)] (.int z :: []) (hO R g)) c22 rfl) ?_
          refine m_goE (L := [(144, .aload_n 1, 1, 0, 0), (145, .aload_n 0, 1, 0, 0), (146, .iload 4, 2, 0, 0), (148, .iconst 1, 1, 0, 0), (149, .iadd, 1, 0, 0)]) (pc1 := 150) (lv1 := [(0, .ref m_scr), (1, .ref 0), (2, .ref 7), (3, .ref 56), (4, .int x4)]) (st1 := [.int (x4 + (1 : Int32)), .ref m_scr, .ref 0]) (h1 := hO R g) (by decide +kernel) rfl ?_
          obtain ⟨c23, h⟩ := m_ifn_inv h
          refine m_go1E (q := (150, .iaload, 1, 0, 0)) (pc1 := 151) (lv1 := [(0, .ref m_scr), (1, .ref 0), (2, .ref 7), (3, .ref 56), (4, .int x4)]) (st1 := [.int (X.2 (Int32.toNatClampNeg (x4 + (1 : Int32)))), .ref 0]) (h1 := hO R g) (by decide +kernel) (if_neg c23) ?_
          rcases m_ti_inv h with ⟨v25, g24, e26, h⟩ | ⟨y27, g24, e26, h⟩
          · refine m_ca2E (q := (151, .invokestatic 49, 3, 151, 2)) (a := 151) (vs := [.ref 0, .int (X.2 (Int32.toNatClampNeg (x4 + (1 : Int32))))]) (st := []) (d1 := 1) (by decide +kernel) rfl rfl rfl rfl (by decide) (Fr151 e26) ?_
            show m_RunE X _ _ 157 154 [(0, .ref m_scr), (1, .ref 0), (2, .ref 7), (3, .ref 56), (4, .int x4)] [.int v25] (hO R g24) _
            refine m_goE (L := [(154, .istore 5, 2, 0, 0), (156, .aload_n 2, 1, 0, 0), (157, .aload_n 0, 1, 0, 0), (158, .iload 4, 2, 0, 0), (160, .iconst 1, 1, 0, 0), (161, .iadd, 1, 0, 0)]) (pc1 := 162) (lv1 := [(0, .ref m_scr), (1, .ref 0), (2, .ref 7), (3, .ref 56), (4, .int x4), (5, .int v25)]) (st1 := [.int (x4 + (1 : Int32)), .ref m_scr, .ref 7]) (h1 := hO R g24) (by decide +kernel) rfl ?_
            obtain ⟨c28, h⟩ := m_ifn_inv h
            refine m_go1E (q := (162, .iaload, 1, 0, 0)) (pc1 := 163) (lv1 := [(0, .ref m_scr), (1, .ref 0), (2, .ref 7), (3, .ref 56), (4, .int x4), (5, .int v25)]) (st1 := [.int (X.2 (Int32.toNatClampNeg (x4 + (1 : Int32)))), .ref 7]) (h1 := hO R g24) (by decide +kernel) (if_neg c28) ?_
            rcases m_tv_inv h with ⟨g29, e31, h⟩ | ⟨y32, g29, e31, h⟩
            · refine m_caE (q := (163, .invokevirtual 52, 3, 89, 1)) (a := 89) (vs := [.ref 7, .int (X.2 (Int32.toNatClampNeg (x4 + (1 : Int32))))]) (st := []) (d1 := 1) (by decide +kernel) rfl rfl rfl rfl (by decide) (Fr89 e31) ?_
              show m_RunE X _ _ 157 166 [(0, .ref m_scr), (1, .ref 0), (2, .ref 7), (3, .ref 56), (4, .int x4), (5, .int v25)] [] (hO R g29) _
              refine m_goE (L := [(166, .aload_n 2, 1, 0, 0)]) (pc1 := 167) (lv1 := [(0, .ref m_scr), (1, .ref 0), (2, .ref 7), (3, .ref 56), (4, .int x4), (5, .int v25)]) (st1 := [.ref 7]) (h1 := hO R g29) (by decide +kernel) rfl ?_
              rcases m_ti_inv h with ⟨v34, g33, e35, h⟩ | ⟨y36, g33, e35, h⟩
              · refine m_caE (q := (167, .invokevirtual 45, 3, 86, 0)) (a := 86) (vs := [.ref 7]) (st := []) (d1 := 0) (by decide +kernel) rfl rfl rfl rfl (by decide) (Fr86 e35) ?_
                show m_RunE X _ _ 157 170 [(0, .ref m_scr), (1, .ref 0), (2, .ref 7), (3, .ref 56), (4, .int x4), (5, .int v25)] [.int v34] (hO R g33) _
                refine m_gobE (c := v34 = v25) (t := 177) (f := 175) (L := [(170, .iload 5, 2, 0, 0), (172, .if_icmp .eq 5, 3, 0, 0)]) (lv1 := [(0, .ref m_scr), (1, .ref 0), (2, .ref 7), (3, .ref 56), (4, .int x4), (5, .int v25)]) (st1 := []) (h1 := hO R g33) (by decide +kernel) rfl (fun c37 => ?_) (fun c37 => ?_)
                · rw [if_pos c37] at h
                  refine m_goE (L := [(177, .goto 270, 3, 0, 0), (447, .iinc 4 6, 3, 0, 0), (450, .goto (-427), 3, 0, 0)]) (pc1 := 23) (lv1 := [(0, .ref m_scr), (1, .ref 0), (2, .ref 7), (3, .ref 56), (4, .int (x4 + (6 : Int32))), (5, .int v25)]) (st1 := []) (h1 := hO R g33) (by decide +kernel) rfl ?_
                  exact m_r0E (m_pick [0, 1, 2, 3, 4] rfl) (m_r12E (Nat.le_refl _) (by omega) (ih _ _ _ _ _ h))
                · rw [if_neg c37] at h
                  refine m_goE (L := [(175, .iconst 0, 1, 0, 0)]) (pc1 := 176) (lv1 := [(0, .ref m_scr), (1, .ref 0), (2, .ref 7), (3, .ref 56), (4, .int x4), (5, .int v25)]) (st1 := [.int (0 : Int32)]) (h1 := hO R g33) (by decide +kernel) rfl ?_
                  cases h
                  exact m_rzE (by decide +kernel) (Or.inl rfl)
              · cases h
            · cases h
          · cases h
        · rw [if_neg c22] at h
          by_cases c38 : ((X.2 (Int32.toNatClampNeg x4)) &&& (7 : Int32)) = 2
          · rw [if_pos c38] at h
            refine m_go1E (q := (40, .tableswitch 407 0 7 #[48, 104, 140, 153, 209, 313, 369, 394], 48, 0, 0)) (pc1 := 180) (lv1 := [(0, .ref m_scr), (1, .ref 0), (2, .ref 7), (3, .ref 56), (4, .int x4)]) (st1 := []) (h1 := hO R g) (by decide +kernel) (m_swx (fun z => m_loc m_ft X (.tableswitch 407 0 7 #[48, 104, 140, 153, 209, 313, 369, 394]) 0 0 40 [(0, .ref m_scr), (1, .ref 0), (2, .ref 7), (3, .ref 56), (4, .int x4)] (.int z :: []) (hO R g)) c38 rfl) ?_
            refine m_goE (L := [(180, .aload_n 1, 1, 0, 0)]) (pc1 := 181) (lv1 := [(0, .ref m_scr), (1, .ref 0), (2, .ref 7), (3, .ref 56), (4, .int x4)]) (st1 := [.ref 0]) (h1 := hO R g) (by decide +kernel) rfl ?_
            rcases m_ti_inv h with ⟨v40, g39, e41, h⟩ | ⟨y42, g39, e41, h⟩
            · refine m_ca2E (q := (181, .invokevirtual 53, 3, 77, 0)) (a := 77) (vs := [.ref 0]) (st := []) (d1 := 332) (by decide +kernel) rfl rfl rfl rfl (by decide) (Fr77 e41) ?_
              show m_RunE X _ _ 157 184 [(0, .ref m_scr), (1, .ref 0), (2, .ref 7), (3, .ref 56), (4, .int x4)] [.int v40] (hO 8 g39) _
              refine m_goE (L := [(184, .aload_n 2, 1, 0, 0)]) (pc1 := 185) (lv1 := [(0, .ref m_scr), (1, .ref 0), (2, .ref 7), (3, .ref 56), (4, .int x4)]) (st1 := [.ref 7, .int v40]) (h1 := hO 8 g39) (by decide +kernel) rfl ?_
              rcases m_ti_inv h with ⟨v44, g43, e45, h⟩ | ⟨y46, g43, e45, h⟩
              · refine m_caE (q := (185, .invokevirtual 56, 3, 91, 0)) (a := 91) (vs := [.ref 7]) (st := [.int v40]) (d1 := 8) (by decide +kernel) rfl rfl rfl rfl (by decide) (Fr91 e45) ?_
                show m_RunE X _ _ 157 188 [(0, .ref m_scr), (1, .ref 0), (2, .ref 7), (3, .ref 56), (4, .int x4)] [.int v44, .int v40] (hO 8 g43) _
                refine m_gobE (c := v40 = v44) (t := 447) (f := 191) (L := [(188, .if_icmp .eq 259, 3, 0, 0)]) (lv1 := [(0, .ref m_scr), (1, .ref 0), (2, .ref 7), (3, .ref 56), (4, .int x4)]) (st1 := []) (h1 := hO 8 g43) (by decide +kernel) rfl (fun c47 => ?_) (fun c47 => ?_)
                · rw [if_pos c47] at h
                  refine m_goE (L := [(447, .iinc 4 6, 3, 0, 0), (450, .goto (-427), 3, 0, 0)]) (pc1 := 23) (lv1 := [(0, .ref m_scr), (1, .ref 0), (2, .ref 7), (3, .ref 56), (4, .int (x4 + (6 : Int32)))]) (st1 := []) (h1 := hO 8 g43) (by decide +kernel) rfl ?_
                  exact m_r0E (m_pick [0, 1, 2, 3, 4] rfl) (m_r12E (Nat.le_refl _) (by omega) (ih _ _ _ _ _ h))
                · rw [if_neg c47] at h
                  refine m_goE (L := [(191, .iconst 0, 1, 0, 0)]) (pc1 := 192) (lv1 := [(0, .ref m_scr), (1, .ref 0), (2, .ref 7), (3, .ref 56), (4, .int x4)]) (st1 := [.int (0 : Int32)]) (h1 := hO 8 g43) (by decide +kernel) rfl ?_
                  cases h
                  exact m_rzE (by decide +kernel) (Or.inl rfl)
              · cases h
            · cases h
          · rw [if_neg c38] at h
            by_cases c48 : ((X.2 (Int32.toNatClampNeg x4)) &&& (7 : Int32)) = 3
            · rw [if_pos c48] at h
              refine m_go1E (q := (40, .tableswitch 407 0 7 #[48, 104, 140, 153, 209, 313, 369, 394], 48, 0, 0)) (pc1 := 193) (lv1 := [(0, .ref m_scr), (1, .ref 0), (2, .ref 7), (3, .ref 56), (4, .int x4)]) (st1 := []) (h1 := hO R g) (by decide +kernel) (m_swx (fun z => m_loc m_ft X (.tableswitch 407 0 7 #[48, 104, 140, 153, 209, 313, 369, 394]) 0 0 40 [(0, .ref m_scr), (1, .ref 0), (2, .ref 7), (3, .ref 56), (4, .int x4)] (.int z :: []) (hO R g)) c48 rfl) ?_
              refine m_goE (L := [(193, .aload_n 1, 1, 0, 0), (194, .aload_n 0, 1, 0, 0), (195, .iload 4, 2, 0, 0), (197, .iconst 1, 1, 0, 0), (198, .iadd, 1, 0, 0)]) (pc1 := 199) (lv1 := [(0, .ref m_scr), (1, .ref 0), (2, .ref 7), (3, .ref 56), (4, .int x4)]) (st1 := [.int (x4 + (1 : Int32)), .ref m_scr, .ref 0]) (h1 := hO R g) (by decide +kernel) rfl ?_
              obtain ⟨c49, h⟩ := m_ifn_inv h
              refine m_go1E (q := (199, .iaload, 1, 0, 0)) (pc1 := 200) (lv1 := [(0, .ref m_scr), (1, .ref 0), (2, .ref 7), (3, .ref 56), (4, .int x4)]) (st1 := [.int (X.2 (Int32.toNatClampNeg (x4 + (1 : Int32)))), .ref 0]) (h1 := hO R g) (by decide +kernel) (if_neg c49) ?_
              refine m_goE (L := [(200, .aload_n 3, 1, 0, 0)]) (pc1 := 201) (lv1 := [(0, .ref m_scr), (1, .ref 0), (2, .ref 7), (3, .ref 56), (4, .int x4)]) (st1 := [.ref 56, .int (X.2 (Int32.toNatClampNeg (x4 + (1 : Int32)))), .ref 0]) (h1 := hO R g) (by decide +kernel) rfl ?_
              rcases m_ti_inv h with ⟨v51, g50, e52, h⟩ | ⟨y53, g50, e52, h⟩
              · refine m_ca2E (q := (201, .invokestatic 57, 3, 152, 3)) (a := 152) (vs := [.ref 0, .int (X.2 (Int32.toNatClampNeg (x4 + (1 : Int32)))), .ref 56]) (st := []) (d1 := 3) (by decide +kernel) rfl rfl rfl rfl (by decide) (Fr152 e52) ?_
                show m_RunE X _ _ 157 204 [(0, .ref m_scr), (1, .ref 0), (2, .ref 7), (3, .ref 56), (4, .int x4)] [.int v51] (hO R g50) _
                refine m_goE (L := [(204, .istore 5, 2, 0, 0), (206, .aload_n 2, 1, 0, 0), (207, .aload_n 0, 1, 0, 0), (208, .iload 4, 2, 0, 0), (210, .iconst 1, 1, 0, 0), (211, .iadd, 1, 0, 0)]) (pc1 := 212) (lv1 := [(0, .ref m_scr), (1, .ref 0), (2, .ref 7), (3, .ref 56), (4, .int x4), (5, .int v51)]) (st1 := [.int (x4 + (1 : Int32)), .ref m_scr, .ref 7]) (h1 := hO R g50) (by decide +kernel) rfl ?_
                obtain ⟨c54, h⟩ := m_ifn_inv h
                refine m_go1E (q := (212, .iaload, 1, 0, 0)) (pc1 := 213) (lv1 := [(0, .ref m_scr), (1, .ref 0), (2, .ref 7), (3, .ref 56), (4, .int x4), (5, .int v51)]) (st1 := [.int (X.2 (Int32.toNatClampNeg (x4 + (1 : Int32)))), .ref 7]) (h1 := hO R g50) (by decide +kernel) (if_neg c54) ?_
                rcases m_ti_inv h with ⟨v56, g55, e57, h⟩ | ⟨y58, g55, e57, h⟩
                · refine m_caE (q := (213, .invokevirtual 59, 3, 136, 1)) (a := 136) (vs := [.ref 7, .int (X.2 (Int32.toNatClampNeg (x4 + (1 : Int32))))]) (st := []) (d1 := 1) (by decide +kernel) rfl rfl rfl rfl (by decide) (Fr136 e57) ?_
                  show m_RunE X _ _ 157 216 [(0, .ref m_scr), (1, .ref 0), (2, .ref 7), (3, .ref 56), (4, .int x4), (5, .int v51)] [.int v56] (hO R g55) _
                  refine m_goE (L := [(216, .istore 6, 2, 0, 0), (218, .aload_n 2, 1, 0, 0)]) (pc1 := 219) (lv1 := [(0, .ref m_scr), (1, .ref 0), (2, .ref 7), (3, .ref 56), (4, .int x4), (5, .int v51), (6, .int v56)]) (st1 := [.ref 7]) (h1 := hO R g55) (by decide +kernel) rfl ?_
                  rcases m_ti_inv h with ⟨v60, g59, e61, h⟩ | ⟨y62, g59, e61, h⟩
                  · refine m_caE (q := (219, .invokevirtual 45, 3, 86, 0)) (a := 86) (vs := [.ref 7]) (st := []) (d1 := 0) (by decide +kernel) rfl rfl rfl rfl (by decide) (Fr86 e61) ?_
                    show m_RunE X _ _ 157 222 [(0, .ref m_scr), (1, .ref 0), (2, .ref 7), (3, .ref 56), (4, .int x4), (5, .int v51), (6, .int v56)] [.int v60] (hO R g59) _
                    refine m_gobE (c := v60 = v51) (t := 229) (f := 227) (L := [(222, .iload 5, 2, 0, 0), (224, .if_icmp .eq 5, 3, 0, 0)]) (lv1 := [(0, .ref m_scr), (1, .ref 0), (2, .ref 7), (3, .ref 56), (4, .int x4), (5, .int v51), (6, .int v56)]) (st1 := []) (h1 := hO R g59) (by decide +kernel) rfl (fun c63 => ?_) (fun c63 => ?_)
                    · rw [if_pos c63] at h
                      refine m_gobE (c := ¬ v51 = 0) (t := 246) (f := 234) (L := [(229, .iload 5, 2, 0, 0), (231, .ifCond .ne 15, 3, 0, 0)]) (lv1 := [(0, .ref m_scr), (1, .ref 0), (2, .ref 7), (3, .ref 56), (4, .int x4), (5, .int v51), (6, .int v56)]) (st1 := []) (h1 := hO R g59) (by decide +kernel) rfl (fun c64 => ?_) (fun c64 => ?_)
                      · rw [if_pos c64] at h
                        refine m_goE (L := [(246, .goto 201, 3, 0, 0), (447, .iinc 4 6, 3, 0, 0), (450, .goto (-427), 3, 0, 0)]) (pc1 := 23) (lv1 := [(0, .ref m_scr), (1, .ref 0), (2, .ref 7), (3, .ref 56), (4, .int (x4 + (6 : Int32))), (5, .int v51), (6, .int v56)]) (st1 := []) (h1 := hO R g59) (by decide +kernel) rfl ?_
                        exact m_r0E (m_pick [0, 1, 2, 3, 4] rfl) (m_r12E (Nat.le_refl _) (by omega) (ih _ _ _ _ _ h))
                      · rw [if_neg c64] at h
                        refine m_goE (L := [(234, .aload_n 3, 1, 0, 0), (235, .iconst 0, 1, 0, 0)]) (pc1 := 236) (lv1 := [(0, .ref m_scr), (1, .ref 0), (2, .ref 7), (3, .ref 56), (4, .int x4), (5, .int v51), (6, .int v56)]) (st1 := [.int (0 : Int32), .ref 56]) (h1 := hO R g59) (by decide +kernel) rfl ?_
                        obtain ⟨c65, h⟩ := m_ifn_inv h
                        refine m_go1E (q := (236, .laload, 1, 0, 0)) (pc1 := 237) (lv1 := [(0, .ref m_scr), (1, .ref 0), (2, .ref 7), (3, .ref 56), (4, .int x4), (5, .int v51), (6, .int v56)]) (st1 := [.long (g59.2.2.2 (Int32.toNatClampNeg (0 : Int32)))]) (h1 := hO R g59) (by decide +kernel) (if_neg (t := none) c65) ?_
                        refine m_gobE (c := (lg_cmp (g59.2.2.2 (Int32.toNatClampNeg (0 : Int32))) (Int32.toInt64 v56)) = 0) (t := 246) (f := 244) (L := [(237, .iload 6, 2, 0, 0), (239, .i2l, 1, 0, 0), (240, .lcmp, 1, 0, 0), (241, .ifCond .eq 5, 3, 0, 0)]) (lv1 := [(0, .ref m_scr), (1, .ref 0), (2, .ref 7), (3, .ref 56), (4, .int x4), (5, .int v51), (6, .int v56)]) (st1 := []) (h1 := hO R g59) (by decide +kernel) rfl (fun c66 => ?_) (fun c66 => ?_)
                        · rw [if_pos c66] at h
                          refine m_goE (L := [(246, .goto 201, 3, 0, 0), (447, .iinc 4 6, 3, 0, 0), (450, .goto (-427), 3, 0, 0)]) (pc1 := 23) (lv1 := [(0, .ref m_scr), (1, .ref 0), (2, .ref 7), (3, .ref 56), (4, .int (x4 + (6 : Int32))), (5, .int v51), (6, .int v56)]) (st1 := []) (h1 := hO R g59) (by decide +kernel) rfl ?_
                          exact m_r0E (m_pick [0, 1, 2, 3, 4] rfl) (m_r12E (Nat.le_refl _) (by omega) (ih _ _ _ _ _ h))
                        · rw [if_neg c66] at h
                          refine m_goE (L := [(244, .iconst 0, 1, 0, 0)]) (pc1 := 245) (lv1 := [(0, .ref m_scr), (1, .ref 0), (2, .ref 7), (3, .ref 56), (4, .int x4), (5, .int v51), (6, .int v56)]) (st1 := [.int (0 : Int32)]) (h1 := hO R g59) (by decide +kernel) rfl ?_
                          cases h
                          exact m_rzE (by decide +kernel) (Or.inl rfl)
                    · rw [if_neg c63] at h
                      refine m_goE (L := [(227, .iconst 0, 1, 0, 0)]) (pc1 := 228) (lv1 := [(0, .ref m_scr), (1, .ref 0), (2, .ref 7), (3, .ref 56), (4, .int x4), (5, .int v51), (6, .int v56)]) (st1 := [.int (0 : Int32)]) (h1 := hO R g59) (by decide +kernel) rfl ?_
                      cases h
                      exact m_rzE (by decide +kernel) (Or.inl rfl)
                  · cases h
                · cases h
              · cases h
            · rw [if_neg c48] at h
              by_cases c67 : ((X.2 (Int32.toNatClampNeg x4)) &&& (7 : Int32)) = 4
              · rw [if_pos c67] at h
                refine m_go1E (q := (40, .tableswitch 407 0 7 #[48, 104, 140, 153, 209, 313, 369, 394], 48, 0, 0)) (pc1 := 249) (lv1 := [(0, .ref m_scr), (1, .ref 0), (2, .ref 7), (3, .ref 56), (4, .int x4)]) (st1 := []) (h1 := hO R g) (by decide +kernel) (m_swx (fun z => m_loc m_ft X (.tableswitch 407 0 7 #[48, 104, 140, 153, 209, 313, 369, 394]) 0 0 40 [(0, .ref m_scr), (1, .ref 0), (2, .ref 7), (3, .ref 56), (4, .int x4)] (.int z :: []) (hO R g)) c67 rfl) ?_
                refine m_goE (L := [(249, .aload_n 1, 1, 0, 0), (250, .aload_n 0, 1, 0, 0), (251, .iload 4, 2, 0, 0), (253, .iconst 1, 1, 0, 0), (254, .iadd, 1, 0, 0)]) (pc1 := 255) (lv1 := [(0, .ref m_scr), (1, .ref 0), (2, .ref 7), (3, .ref 56), (4, .int x4)]) (st1 := [.int (x4 + (1 : Int32)), .ref m_scr, .ref 0]) (h1 := hO R g) (by decide +kernel) rfl ?_
                obtain ⟨c68, h⟩ := m_ifn_inv h
                refine m_go1E (q := (255, .iaload, 1, 0, 0)) (pc1 := 256) (lv1 := [(0, .ref m_scr), (1, .ref 0), (2, .ref 7), (3, .ref 56), (4, .int x4)]) (st1 := [.int (X.2 (Int32.toNatClampNeg (x4 + (1 : Int32)))), .ref 0]) (h1 := hO R g) (by decide +kernel) (if_neg c68) ?_
                refine m_goE (L := [(256, .aload_n 0, 1, 0, 0), (257, .iload 4, 2, 0, 0), (259, .iconst 2, 1, 0, 0), (260, .iadd, 1, 0, 0)]) (pc1 := 261) (lv1 := [(0, .ref m_scr), (1, .ref 0), (2, .ref 7), (3, .ref 56), (4, .int x4)]) (st1 := [.int (x4 + (2 : Int32)), .ref m_scr, .int (X.2 (Int32.toNatClampNeg (x4 + (1 : Int32)))), .ref 0]) (h1 := hO R g) (by decide +kernel) rfl ?_
                obtain ⟨c69, h⟩ := m_ifn_inv h
                refine m_go1E (q := (261, .iaload, 1, 0, 0)) (pc1 := 262) (lv1 := [(0, .ref m_scr), (1, .ref 0), (2, .ref 7), (3, .ref 56), (4, .int x4)]) (st1 := [.int (X.2 (Int32.toNatClampNeg (x4 + (2 : Int32)))), .int (X.2 (Int32.toNatClampNeg (x4 + (1 : Int32)))), .ref 0]) (h1 := hO R g) (by decide +kernel) (if_neg c69) ?_
                refine m_goE (L := [(262, .aload_n 0, 1, 0, 0), (263, .iload 4, 2, 0, 0), (265, .iconst 3, 1, 0, 0), (266, .iadd, 1, 0, 0)]) (pc1 := 267) (lv1 := [(0, .ref m_scr), (1, .ref 0), (2, .ref 7), (3, .ref 56), (4, .int x4)]) (st1 := [.int (x4 + (3 : Int32)), .ref m_scr, .int (X.2 (Int32.toNatClampNeg (x4 + (2 : Int32)))), .int (X.2 (Int32.toNatClampNeg (x4 + (1 : Int32)))), .ref 0]) (h1 := hO R g) (by decide +kernel) rfl ?_
                obtain ⟨c70, h⟩ := m_ifn_inv h
                refine m_go1E (q := (267, .iaload, 1, 0, 0)) (pc1 := 268) (lv1 := [(0, .ref m_scr), (1, .ref 0), (2, .ref 7), (3, .ref 56), (4, .int x4)]) (st1 := [.int (X.2 (Int32.toNatClampNeg (x4 + (3 : Int32)))), .int (X.2 (Int32.toNatClampNeg (x4 + (2 : Int32)))), .int (X.2 (Int32.toNatClampNeg (x4 + (1 : Int32)))), .ref 0]) (h1 := hO R g) (by decide +kernel) (if_neg c70) ?_
                refine m_goE (L := [(268, .aload_n 0, 1, 0, 0), (269, .iload 4, 2, 0, 0), (271, .iconst 4, 1, 0, 0), (272, .iadd, 1, 0, 0)]) (pc1 := 273) (lv1 := [(0, .ref m_scr), (1, .ref 0), (2, .ref 7), (3, .ref 56), (4, .int x4)]) (st1 := [.int (x4 + (4 : Int32)), .ref m_scr, .int (X.2 (Int32.toNatClampNeg (x4 + (3 : Int32)))), .int (X.2 (Int32.toNatClampNeg (x4 + (2 : Int32)))), .int (X.2 (Int32.toNatClampNeg (x4 + (1 : Int32)))), .ref 0]) (h1 := hO R g) (by decide +kernel) rfl ?_
                obtain ⟨c71, h⟩ := m_ifn_inv h
                refine m_go1E (q := (273, .iaload, 1, 0, 0)) (pc1 := 274) (lv1 := [(0, .ref m_scr), (1, .ref 0), (2, .ref 7), (3, .ref 56), (4, .int x4)]) (st1 := [.int (X.2 (Int32.toNatClampNeg (x4 + (4 : Int32)))), .int (X.2 (Int32.toNatClampNeg (x4 + (3 : Int32)))), .int (X.2 (Int32.toNatClampNeg (x4 + (2 : Int32)))), .int (X.2 (Int32.toNatClampNeg (x4 + (1 : Int32)))), .ref 0]) (h1 := hO R g) (by decide +kernel) (if_neg c71) ?_
                refine m_goE (L := [(274, .aload_n 0, 1, 0, 0), (275, .iload 4, 2, 0, 0), (277, .iconst 5, 1, 0, 0), (278, .iadd, 1, 0, 0)]) (pc1 := 279) (lv1 := [(0, .ref m_scr), (1, .ref 0), (2, .ref 7), (3, .ref 56), (4, .int x4)]) (st1 := [.int (x4 + (5 : Int32)), .ref m_scr, .int (X.2 (Int32.toNatClampNeg (x4 + (4 : Int32)))), .int (X.2 (Int32.toNatClampNeg (x4 + (3 : Int32)))), .int (X.2 (Int32.toNatClampNeg (x4 + (2 : Int32)))), .int (X.2 (Int32.toNatClampNeg (x4 + (1 : Int32)))), .ref 0]) (h1 := hO R g) (by decide +kernel) rfl ?_
                obtain ⟨c72, h⟩ := m_ifn_inv h
                refine m_go1E (q := (279, .iaload, 1, 0, 0)) (pc1 := 280) (lv1 := [(0, .ref m_scr), (1, .ref 0), (2, .ref 7), (3, .ref 56), (4, .int x4)]) (st1 := [.int (X.2 (Int32.toNatClampNeg (x4 + (5 : Int32)))), .int (X.2 (Int32.toNatClampNeg (x4 + (4 : Int32)))), .int (X.2 (Int32.toNatClampNeg (x4 + (3 : Int32)))), .int (X.2 (Int32.toNatClampNeg (x4 + (2 : Int32)))), .int (X.2 (Int32.toNatClampNeg (x4 + (1 : Int32)))), .ref 0]) (h1 := hO R g) (by decide +kernel) (if_neg c72) ?_
                refine m_goE (L := [(280, .aload_n 3, 1, 0, 0)]) (pc1 := 281) (lv1 := [(0, .ref m_scr), (1, .ref 0), (2, .ref 7), (3, .ref 56), (4, .int x4)]) (st1 := [.ref 56, .int (X.2 (Int32.toNatClampNeg (x4 + (5 : Int32)))), .int (X.2 (Int32.toNatClampNeg (x4 + (4 : Int32)))), .int (X.2 (Int32.toNatClampNeg (x4 + (3 : Int32)))), .int (X.2 (Int32.toNatClampNeg (x4 + (2 : Int32)))), .int (X.2 (Int32.toNatClampNeg (x4 + (1 : Int32)))), .ref 0]) (h1 := hO R g) (by decide +kernel) rfl ?_
                rcases m_ti_inv h with ⟨v74, g73, e75, h⟩ | ⟨y76, g73, e75, h⟩
                · refine m_ca2E (q := (281, .invokestatic 60, 3, 153, 7)) (a := 153) (vs := [.ref 0, .int (X.2 (Int32.toNatClampNeg (x4 + (1 : Int32)))), .int (X.2 (Int32.toNatClampNeg (x4 + (2 : Int32)))), .int (X.2 (Int32.toNatClampNeg (x4 + (3 : Int32)))), .int (X.2 (Int32.toNatClampNeg (x4 + (4 : Int32)))), .int (X.2 (Int32.toNatClampNeg (x4 + (5 : Int32)))), .ref 56]) (st := []) (d1 := 6) (by decide +kernel) rfl rfl rfl rfl (by decide) (Fr153 e75) ?_
                  show m_RunE X _ _ 157 284 [(0, .ref m_scr), (1, .ref 0), (2, .ref 7), (3, .ref 56), (4, .int x4)] [.int v74] (hO R g73) _
                  refine m_goE (L := [(284, .istore 5, 2, 0, 0), (286, .aload_n 2, 1, 0, 0), (287, .aload_n 0, 1, 0, 0), (288, .iload 4, 2, 0, 0), (290, .iconst 1, 1, 0, 0), (291, .iadd, 1, 0, 0)]) (pc1 := 292) (lv1 := [(0, .ref m_scr), (1, .ref 0), (2, .ref 7), (3, .ref 56), (4, .int x4), (5, .int v74)]) (st1 := [.int (x4 + (1 : Int32)), .ref m_scr, .ref 7]) (h1 := hO R g73) (by decide +kernel) rfl ?_
                  obtain ⟨c77, h⟩ := m_ifn_inv h
                  refine m_go1E (q := (292, .iaload, 1, 0, 0)) (pc1 := 293) (lv1 := [(0, .ref m_scr), (1, .ref 0), (2, .ref 7), (3, .ref 56), (4, .int x4), (5, .int v74)]) (st1 := [.int (X.2 (Int32.toNatClampNeg (x4 + (1 : Int32)))), .ref 7]) (h1 := hO R g73) (by decide +kernel) (if_neg c77) ?_
                  refine m_goE (L := [(293, .aload_n 0, 1, 0, 0), (294, .iload 4, 2, 0, 0), (296, .iconst 2, 1, 0, 0), (297, .iadd, 1, 0, 0)]) (pc1 := 298) (lv1 := [(0, .ref m_scr), (1, .ref 0), (2, .ref 7), (3, .ref 56), (4, .int x4), (5, .int v74)]) (st1 := [.int (x4 + (2 : Int32)), .ref m_scr, .int (X.2 (Int32.toNatClampNeg (x4 + (1 : Int32)))), .ref 7]) (h1 := hO R g73) (by decide +kernel) rfl ?_
                  obtain ⟨c78, h⟩ := m_ifn_inv h
                  refine m_go1E (q := (298, .iaload, 1, 0, 0)) (pc1 := 299) (lv1 := [(0, .ref m_scr), (1, .ref 0), (2, .ref 7), (3, .ref 56), (4, .int x4), (5, .int v74)]) (st1 := [.int (X.2 (Int32.toNatClampNeg (x4 + (2 : Int32)))), .int (X.2 (Int32.toNatClampNeg (x4 + (1 : Int32)))), .ref 7]) (h1 := hO R g73) (by decide +kernel) (if_neg c78) ?_
                  refine m_goE (L := [(299, .aload_n 0, 1, 0, 0), (300, .iload 4, 2, 0, 0), (302, .iconst 3, 1, 0, 0), (303, .iadd, 1, 0, 0)]) (pc1 := 304) (lv1 := [(0, .ref m_scr), (1, .ref 0), (2, .ref 7), (3, .ref 56), (4, .int x4), (5, .int v74)]) (st1 := [.int (x4 + (3 : Int32)), .ref m_scr, .int (X.2 (Int32.toNatClampNeg (x4 + (2 : Int32)))), .int (X.2 (Int32.toNatClampNeg (x4 + (1 : Int32)))), .ref 7]) (h1 := hO R g73) (by decide +kernel) rfl ?_
                  obtain ⟨c79, h⟩ := m_ifn_inv h
                  refine m_go1E (q := (304, .iaload, 1, 0, 0)) (pc1 := 305) (lv1 := [(0, .ref m_scr), (1, .ref 0), (2, .ref 7), (3, .ref 56), (4, .int x4), (5, .int v74)]) (st1 := [.int (X.2 (Int32.toNatClampNeg (x4 + (3 : Int32)))), .int (X.2 (Int32.toNatClampNeg (x4 + (2 : Int32)))), .int (X.2 (Int32.toNatClampNeg (x4 + (1 : Int32)))), .ref 7]) (h1 := hO R g73) (by decide +kernel) (if_neg c79) ?_
                  refine m_goE (L := [(305, .aload_n 0, 1, 0, 0), (306, .iload 4, 2, 0, 0), (308, .iconst 4, 1, 0, 0), (309, .iadd, 1, 0, 0)]) (pc1 := 310) (lv1 := [(0, .ref m_scr), (1, .ref 0), (2, .ref 7), (3, .ref 56), (4, .int x4), (5, .int v74)]) (st1 := [.int (x4 + (4 : Int32)), .ref m_scr, .int (X.2 (Int32.toNatClampNeg (x4 + (3 : Int32)))), .int (X.2 (Int32.toNatClampNeg (x4 + (2 : Int32)))), .int (X.2 (Int32.toNatClampNeg (x4 + (1 : Int32)))), .ref 7]) (h1 := hO R g73) (by decide +kernel) rfl ?_
                  obtain ⟨c80, h⟩ := m_ifn_inv h
                  refine m_go1E (q := (310, .iaload, 1, 0, 0)) (pc1 := 311) (lv1 := [(0, .ref m_scr), (1, .ref 0), (2, .ref 7), (3, .ref 56), (4, .int x4), (5, .int v74)]) (st1 := [.int (X.2 (Int32.toNatClampNeg (x4 + (4 : Int32)))), .int (X.2 (Int32.toNatClampNeg (x4 + (3 : Int32)))), .int (X.2 (Int32.toNatClampNeg (x4 + (2 : Int32)))), .int (X.2 (Int32.toNatClampNeg (x4 + (1 : Int32)))), .ref 7]) (h1 := hO R g73) (by decide +kernel) (if_neg c80) ?_
                  refine m_goE (L := [(311, .aload_n 0, 1, 0, 0), (312, .iload 4, 2, 0, 0), (314, .iconst 5, 1, 0, 0), (315, .iadd, 1, 0, 0)]) (pc1 := 316) (lv1 := [(0, .ref m_scr), (1, .ref 0), (2, .ref 7), (3, .ref 56), (4, .int x4), (5, .int v74)]) (st1 := [.int (x4 + (5 : Int32)), .ref m_scr, .int (X.2 (Int32.toNatClampNeg (x4 + (4 : Int32)))), .int (X.2 (Int32.toNatClampNeg (x4 + (3 : Int32)))), .int (X.2 (Int32.toNatClampNeg (x4 + (2 : Int32)))), .int (X.2 (Int32.toNatClampNeg (x4 + (1 : Int32)))), .ref 7]) (h1 := hO R g73) (by decide +kernel) rfl ?_
                  obtain ⟨c81, h⟩ := m_ifn_inv h
                  refine m_go1E (q := (316, .iaload, 1, 0, 0)) (pc1 := 317) (lv1 := [(0, .ref m_scr), (1, .ref 0), (2, .ref 7), (3, .ref 56), (4, .int x4), (5, .int v74)]) (st1 := [.int (X.2 (Int32.toNatClampNeg (x4 + (5 : Int32)))), .int (X.2 (Int32.toNatClampNeg (x4 + (4 : Int32)))), .int (X.2 (Int32.toNatClampNeg (x4 + (3 : Int32)))), .int (X.2 (Int32.toNatClampNeg (x4 + (2 : Int32)))), .int (X.2 (Int32.toNatClampNeg (x4 + (1 : Int32)))), .ref 7]) (h1 := hO R g73) (by decide +kernel) (if_neg c81) ?_
                  rcases m_ti_inv h with ⟨v83, g82, e84, h⟩ | ⟨y85, g82, e84, h⟩
                  · refine m_caE (q := (317, .invokevirtual 63, 3, 139, 5)) (a := 139) (vs := [.ref 7, .int (X.2 (Int32.toNatClampNeg (x4 + (1 : Int32)))), .int (X.2 (Int32.toNatClampNeg (x4 + (2 : Int32)))), .int (X.2 (Int32.toNatClampNeg (x4 + (3 : Int32)))), .int (X.2 (Int32.toNatClampNeg (x4 + (4 : Int32)))), .int (X.2 (Int32.toNatClampNeg (x4 + (5 : Int32))))]) (st := []) (d1 := 3) (by decide +kernel) rfl rfl rfl rfl (by decide) (Fr139 e84) ?_
                    show m_RunE X _ _ 157 320 [(0, .ref m_scr), (1, .ref 0), (2, .ref 7), (3, .ref 56), (4, .int x4), (5, .int v74)] [.int v83] (hO R g82) _
                    refine m_goE (L := [(320, .istore 6, 2, 0, 0), (322, .aload_n 2, 1, 0, 0)]) (pc1 := 323) (lv1 := [(0, .ref m_scr), (1, .ref 0), (2, .ref 7), (3, .ref 56), (4, .int x4), (5, .int v74), (6, .int v83)]) (st1 := [.ref 7]) (h1 := hO R g82) (by decide +kernel) rfl ?_
                    rcases m_ti_inv h with ⟨v87, g86, e88, h⟩ | ⟨y89, g86, e88, h⟩
                    · refine m_caE (q := (323, .invokevirtual 45, 3, 86, 0)) (a := 86) (vs := [.ref 7]) (st := []) (d1 := 0) (by decide +kernel) rfl rfl rfl rfl (by decide) (Fr86 e88) ?_
                      show m_RunE X _ _ 157 326 [(0, .ref m_scr), (1, .ref 0), (2, .ref 7), (3, .ref 56), (4, .int x4), (5, .int v74), (6, .int v83)] [.int v87] (hO R g86) _
                      refine m_gobE (c := v87 = v74) (t := 333) (f := 331) (L := [(326, .iload 5, 2, 0, 0), (328, .if_icmp .eq 5, 3, 0, 0)]) (lv1 := [(0, .ref m_scr), (1, .ref 0), (2, .ref 7), (3, .ref 56), (4, .int x4), (5, .int v74), (6, .int v83)]) (st1 := []) (h1 := hO R g86) (by decide +kernel) rfl (fun c90 => ?_) (fun c90 => ?_)
                      · rw [if_pos c90] at h
                        refine m_gobE (c := ¬ v74 = 0) (t := 350) (f := 338) (L := [(333, .iload 5, 2, 0, 0), (335, .ifCond .ne 15, 3, 0, 0)]) (lv1 := [(0, .ref m_scr), (1, .ref 0), (2, .ref 7), (3, .ref 56), (4, .int x4), (5, .int v74), (6, .int v83)]) (st1 := []) (h1 := hO R g86) (by decide +kernel) rfl (fun c91 => ?_) (fun c91 => ?_)
                        · rw [if_pos c91] at h
                          refine m_goE (L := [(350, .goto 97, 3, 0, 0), (447, .iinc 4 6, 3, 0, 0), (450, .goto (-427), 3, 0, 0)]) (pc1 := 23) (lv1 := [(0, .ref m_scr), (1, .ref 0), (2, .ref 7), (3, .ref 56), (4, .int (x4 + (6 : Int32))), (5, .int v74), (6, .int v83)]) (st1 := []) (h1 := hO R g86) (by decide +kernel) rfl ?_
                          exact m_r0E (m_pick [0, 1, 2, 3, 4] rfl) (m_r12E (Nat.le_refl _) (by omega) (ih _ _ _ _ _ h))
                        · rw [if_neg c91] at h
                          refine m_goE (L := [(338, .aload_n 3, 1, 0, 0), (339, .iconst 0, 1, 0, 0)]) (pc1 := 340) (lv1 := [(0, .ref m_scr), (1, .ref 0), (2, .ref 7), (3, .ref 56), (4, .int x4), (5, .int v74), (6, .int v83)]) (st1 := [.int (0 : Int32), .ref 56]) (h1 := hO R g86) (by decide +kernel) rfl ?_
                          obtain ⟨c92, h⟩ := m_ifn_inv h
                          refine m_go1E (q := (340, .laload, 1, 0, 0)) (pc1 := 341) (lv1 := [(0, .ref m_scr), (1, .ref 0), (2, .ref 7), (3, .ref 56), (4, .int x4), (5, .int v74), (6, .int v83)]) (st1 := [.long (g86.2.2.2 (Int32.toNatClampNeg (0 : Int32)))]) (h1 := hO R g86) (by decide +kernel) (if_neg (t := none) c92) ?_
                          refine m_gobE (c := (lg_cmp (g86.2.2.2 (Int32.toNatClampNeg (0 : Int32))) (Int32.toInt64 v83)) = 0) (t := 350) (f := 348) (L := [(341, .iload 6, 2, 0, 0), (343, .i2l, 1, 0, 0), (344, .lcmp, 1, 0, 0), (345, .ifCond .eq 5, 3, 0, 0)]) (lv1 := [(0, .ref m_scr), (1, .ref 0), (2, .ref 7), (3, .ref 56), (4, .int x4), (5, .int v74), (6, .int v83)]) (st1 := []) (h1 := hO R g86) (by decide +kernel) rfl (fun c93 => ?_) (fun c93 => ?_)
                          · rw [if_pos c93] at h
                            refine m_goE (L := [(350, .goto 97, 3, 0, 0), (447, .iinc 4 6, 3, 0, 0), (450, .goto (-427), 3, 0, 0)]) (pc1 := 23) (lv1 := [(0, .ref m_scr), (1, .ref 0), (2, .ref 7), (3, .ref 56), (4, .int (x4 + (6 : Int32))), (5, .int v74), (6, .int v83)]) (st1 := []) (h1 := hO R g86) (by decide +kernel) rfl ?_
                            exact m_r0E (m_pick [0, 1, 2, 3, 4] rfl) (m_r12E (Nat.le_refl _) (by omega) (ih _ _ _ _ _ h))
                          · rw [if_neg c93] at h
                            refine m_goE (L := [(348, .iconst 0, 1, 0, 0)]) (pc1 := 349) (lv1 := [(0, .ref m_scr), (1, .ref 0), (2, .ref 7), (3, .ref 56), (4, .int x4), (5, .int v74), (6, .int v83)]) (st1 := [.int (0 : Int32)]) (h1 := hO R g86) (by decide +kernel) rfl ?_
                            cases h
                            exact m_rzE (by decide +kernel) (Or.inl rfl)
                      · rw [if_neg c90] at h
                        refine m_goE (L := [(331, .iconst 0, 1, 0, 0)]) (pc1 := 332) (lv1 := [(0, .ref m_scr), (1, .ref 0), (2, .ref 7), (3, .ref 56), (4, .int x4), (5, .int v74), (6, .int v83)]) (st1 := [.int (0 : Int32)]) (h1 := hO R g86) (by decide +kernel) rfl ?_
                        cases h
                        exact m_rzE (by decide +kernel) (Or.inl rfl)
                    · cases h
                  · cases h
                · cases h
              · rw [if_neg c67] at h
                by_cases c94 : ((X.2 (Int32.toNatClampNeg x4)) &&& (7 : Int32)) = 5
                · rw [if_pos c94] at h
                  refine m_go1E (q := (40, .tableswitch 407 0 7 #[48, 104, 140, 153, 209, 313, 369, 394], 48, 0, 0)) (pc1 := 353) (lv1 := [(0, .ref m_scr), (1, .ref 0), (2, .ref 7), (3, .ref 56), (4, .int x4)]) (st1 := []) (h1 := hO R g) (by decide +kernel) (m_swx (fun z => m_loc m_ft X (.tableswitch 407 0 7 #[48, 104, 140, 153, 209, 313, 369, 394]) 0 0 40 [(0, .ref m_scr), (1, .ref 0), (2, .ref 7), (3, .ref 56), (4, .int x4)] (.int z :: []) (hO R g)) c94 rfl) ?_
                  refine m_goE (L := [(353, .aload_n 1, 1, 0, 0), (354, .aload_n 0, 1, 0, 0), (355, .iload 4, 2, 0, 0), (357, .iconst 1, 1, 0, 0), (358, .iadd, 1, 0, 0)]) (pc1 := 359) (lv1 := [(0, .ref m_scr), (1, .ref 0), (2, .ref 7), (3, .ref 56), (4, .int x4)]) (st1 := [.int (x4 + (1 : Int32)), .ref m_scr, .ref 0]) (h1 := hO R g) (by decide +kernel) rfl ?_
                  obtain ⟨c95, h⟩ := m_ifn_inv h
                  refine m_go1E (q := (359, .iaload, 1, 0, 0)) (pc1 := 360) (lv1 := [(0, .ref m_scr), (1, .ref 0), (2, .ref 7), (3, .ref 56), (4, .int x4)]) (st1 := [.int (X.2 (Int32.toNatClampNeg (x4 + (1 : Int32)))), .ref 0]) (h1 := hO R g) (by decide +kernel) (if_neg c95) ?_
                  refine m_goE (L := [(360, .aload_n 3, 1, 0, 0)]) (pc1 := 361) (lv1 := [(0, .ref m_scr), (1, .ref 0), (2, .ref 7), (3, .ref 56), (4, .int x4)]) (st1 := [.ref 56, .int (X.2 (Int32.toNatClampNeg (x4 + (1 : Int32)))), .ref 0]) (h1 := hO R g) (by decide +kernel) rfl ?_
                  rcases m_ti_inv h with ⟨v97, g96, e98, h⟩ | ⟨y99, g96, e98, h⟩
                  · refine m_ca2E (q := (361, .invokestatic 64, 3, 154, 3)) (a := 154) (vs := [.ref 0, .int (X.2 (Int32.toNatClampNeg (x4 + (1 : Int32)))), .ref 56]) (st := []) (d1 := 1) (by decide +kernel) rfl rfl rfl rfl (by decide) (Fr154 e98) ?_
                    show m_RunE X _ _ 157 364 [(0, .ref m_scr), (1, .ref 0), (2, .ref 7), (3, .ref 56), (4, .int x4)] [.int v97] (hO R g96) _
                    refine m_goE (L := [(364, .istore 5, 2, 0, 0), (366, .aload_n 2, 1, 0, 0), (367, .aload_n 0, 1, 0, 0), (368, .iload 4, 2, 0, 0), (370, .iconst 1, 1, 0, 0), (371, .iadd, 1, 0, 0)]) (pc1 := 372) (lv1 := [(0, .ref m_scr), (1, .ref 0), (2, .ref 7), (3, .ref 56), (4, .int x4), (5, .int v97)]) (st1 := [.int (x4 + (1 : Int32)), .ref m_scr, .ref 7]) (h1 := hO R g96) (by decide +kernel) rfl ?_
                    obtain ⟨c100, h⟩ := m_ifn_inv h
                    refine m_go1E (q := (372, .iaload, 1, 0, 0)) (pc1 := 373) (lv1 := [(0, .ref m_scr), (1, .ref 0), (2, .ref 7), (3, .ref 56), (4, .int x4), (5, .int v97)]) (st1 := [.int (X.2 (Int32.toNatClampNeg (x4 + (1 : Int32)))), .ref 7]) (h1 := hO R g96) (by decide +kernel) (if_neg c100) ?_
                    rcases m_ti_inv h with ⟨v102, g101, e103, h⟩ | ⟨y104, g101, e103, h⟩
                    · refine m_caE (q := (373, .invokevirtual 66, 3, 149, 1)) (a := 149) (vs := [.ref 7, .int (X.2 (Int32.toNatClampNeg (x4 + (1 : Int32))))]) (st := []) (d1 := 1) (by decide +kernel) rfl rfl rfl rfl (by decide) (Fr149 e103) ?_
                      show m_RunE X _ _ 157 376 [(0, .ref m_scr), (1, .ref 0), (2, .ref 7), (3, .ref 56), (4, .int x4), (5, .int v97)] [.int v102] (hO R g101) _
                      refine m_goE (L := [(376, .istore 6, 2, 0, 0), (378, .aload_n 2, 1, 0, 0)]) (pc1 := 379) (lv1 := [(0, .ref m_scr), (1, .ref 0), (2, .ref 7), (3, .ref 56), (4, .int x4), (5, .int v97), (6, .int v102)]) (st1 := [.ref 7]) (h1 := hO R g101) (by decide +kernel) rfl ?_
                      rcases m_ti_inv h with ⟨v106, g105, e107, h⟩ | ⟨y108, g105, e107, h⟩
                      · refine m_caE (q := (379, .invokevirtual 45, 3, 86, 0)) (a := 86) (vs := [.ref 7]) (st := []) (d1 := 0) (by decide +kernel) rfl rfl rfl rfl (by decide) (Fr86 e107) ?_
                        show m_RunE X _ _ 157 382 [(0, .ref m_scr), (1, .ref 0), (2, .ref 7), (3, .ref 56), (4, .int x4), (5, .int v97), (6, .int v102)] [.int v106] (hO R g105) _
                        refine m_gobE (c := v106 = v97) (t := 389) (f := 387) (L := [(382, .iload 5, 2, 0, 0), (384, .if_icmp .eq 5, 3, 0, 0)]) (lv1 := [(0, .ref m_scr), (1, .ref 0), (2, .ref 7), (3, .ref 56), (4, .int x4), (5, .int v97), (6, .int v102)]) (st1 := []) (h1 := hO R g105) (by decide +kernel) rfl (fun c109 => ?_) (fun c109 => ?_)
                        · rw [if_pos c109] at h
                          refine m_gobE (c := ¬ v97 = 0) (t := 406) (f := 394) (L := [(389, .iload 5, 2, 0, 0), (391, .ifCond .ne 15, 3, 0, 0)]) (lv1 := [(0, .ref m_scr), (1, .ref 0), (2, .ref 7), (3, .ref 56), (4, .int x4), (5, .int v97), (6, .int v102)]) (st1 := []) (h1 := hO R g105) (by decide +kernel) rfl (fun c110 => ?_) (fun c110 => ?_)
                          · rw [if_pos c110] at h
                            refine m_goE (L := [(406, .goto 41, 3, 0, 0), (447, .iinc 4 6, 3, 0, 0), (450, .goto (-427), 3, 0, 0)]) (pc1 := 23) (lv1 := [(0, .ref m_scr), (1, .ref 0), (2, .ref 7), (3, .ref 56), (4, .int (x4 + (6 : Int32))), (5, .int v97), (6, .int v102)]) (st1 := []) (h1 := hO R g105) (by decide +kernel) rfl ?_
                            exact m_r0E (m_pick [0, 1, 2, 3, 4] rfl) (m_r12E (Nat.le_refl _) (by omega) (ih _ _ _ _ _ h))
                          · rw [if_neg c110] at h
                            refine m_goE (L := [(394, .aload_n 3, 1, 0, 0), (395, .iconst 0, 1, 0, 0)]) (pc1 := 396) (lv1 := [(0, .ref m_scr), (1, .ref 0), (2, .ref 7), (3, .ref 56), (4, .int x4), (5, .int v97), (6, .int v102)]) (st1 := [.int (0 : Int32), .ref 56]) (h1 := hO R g105) (by decide +kernel) rfl ?_
                            obtain ⟨c111, h⟩ := m_ifn_inv h
                            refine m_go1E (q := (396, .laload, 1, 0, 0)) (pc1 := 397) (lv1 := [(0, .ref m_scr), (1, .ref 0), (2, .ref 7), (3, .ref 56), (4, .int x4), (5, .int v97), (6, .int v102)]) (st1 := [.long (g105.2.2.2 (Int32.toNatClampNeg (0 : Int32)))]) (h1 := hO R g105) (by decide +kernel) (if_neg (t := none) c111) ?_
                            refine m_gobE (c := (lg_cmp (g105.2.2.2 (Int32.toNatClampNeg (0 : Int32))) (Int32.toInt64 v102)) = 0) (t := 406) (f := 404) (L := [(397, .iload 6, 2, 0, 0), (399, .i2l, 1, 0, 0), (400, .lcmp, 1, 0, 0), (401, .ifCond .eq 5, 3, 0, 0)]) (lv1 := [(0, .ref m_scr), (1, .ref 0), (2, .ref 7), (3, .ref 56), (4, .int x4), (5, .int v97), (6, .int v102)]) (st1 := []) (h1 := hO R g105) (by decide +kernel) rfl (fun c112 => ?_) (fun c112 => ?_)
                            · rw [if_pos c112] at h
                              refine m_goE (L := [(406, .goto 41, 3, 0, 0), (447, .iinc 4 6, 3, 0, 0), (450, .goto (-427), 3, 0, 0)]) (pc1 := 23) (lv1 := [(0, .ref m_scr), (1, .ref 0), (2, .ref 7), (3, .ref 56), (4, .int (x4 + (6 : Int32))), (5, .int v97), (6, .int v102)]) (st1 := []) (h1 := hO R g105) (by decide +kernel) rfl ?_
                              exact m_r0E (m_pick [0, 1, 2, 3, 4] rfl) (m_r12E (Nat.le_refl _) (by omega) (ih _ _ _ _ _ h))
                            · rw [if_neg c112] at h
                              refine m_goE (L := [(404, .iconst 0, 1, 0, 0)]) (pc1 := 405) (lv1 := [(0, .ref m_scr), (1, .ref 0), (2, .ref 7), (3, .ref 56), (4, .int x4), (5, .int v97), (6, .int v102)]) (st1 := [.int (0 : Int32)]) (h1 := hO R g105) (by decide +kernel) rfl ?_
                              cases h
                              exact m_rzE (by decide +kernel) (Or.inl rfl)
                        · rw [if_neg c109] at h
                          refine m_goE (L := [(387, .iconst 0, 1, 0, 0)]) (pc1 := 388) (lv1 := [(0, .ref m_scr), (1, .ref 0), (2, .ref 7), (3, .ref 56), (4, .int x4), (5, .int v97), (6, .int v102)]) (st1 := [.int (0 : Int32)]) (h1 := hO R g105) (by decide +kernel) rfl ?_
                          cases h
                          exact m_rzE (by decide +kernel) (Or.inl rfl)
                      · cases h
                    · cases h
                  · cases h
                · rw [if_neg c94] at h
                  by_cases c113 : ((X.2 (Int32.toNatClampNeg x4)) &&& (7 : Int32)) = 6
                  · rw [if_pos c113] at h
                    refine m_go1E (q := (40, .tableswitch 407 0 7 #[48, 104, 140, 153, 209, 313, 369, 394], 48, 0, 0)) (pc1 := 409) (lv1 := [(0, .ref m_scr), (1, .ref 0), (2, .ref 7), (3, .ref 56), (4, .int x4)]) (st1 := []) (h1 := hO R g) (by decide +kernel) (m_swx (fun z => m_loc m_ft X (.tableswitch 407 0 7 #[48, 104, 140, 153, 209, 313, 369, 394]) 0 0 40 [(0, .ref m_scr), (1, .ref 0), (2, .ref 7), (3, .ref 56), (4, .int x4)] (.int z :: []) (hO R g)) c113 rfl) ?_
                    refine m_goE (L := [(409, .aload_n 1, 1, 0, 0), (410, .aload_n 0, 1, 0, 0), (411, .iload 4, 2, 0, 0), (413, .iconst 1, 1, 0, 0), (414, .iadd, 1, 0, 0)]) (pc1 := 415) (lv1 := [(0, .ref m_scr), (1, .ref 0), (2, .ref 7), (3, .ref 56), (4, .int x4)]) (st1 := [.int (x4 + (1 : Int32)), .ref m_scr, .ref 0]) (h1 := hO R g) (by decide +kernel) rfl ?_
                    obtain ⟨c114, h⟩ := m_ifn_inv h
                    refine m_go1E (q := (415, .iaload, 1, 0, 0)) (pc1 := 416) (lv1 := [(0, .ref m_scr), (1, .ref 0), (2, .ref 7), (3, .ref 56), (4, .int x4)]) (st1 := [.int (X.2 (Int32.toNatClampNeg (x4 + (1 : Int32)))), .ref 0]) (h1 := hO R g) (by decide +kernel) (if_neg c114) ?_
                    rcases m_ti_inv h with ⟨v116, g115, e117, h⟩ | ⟨y118, g115, e117, h⟩
                    · refine m_caE (q := (416, .invokevirtual 67, 3, 78, 1)) (a := 78) (vs := [.ref 0, .int (X.2 (Int32.toNatClampNeg (x4 + (1 : Int32))))]) (st := []) (d1 := 2) (by decide +kernel) rfl rfl rfl rfl (by decide) (Fr78 e117) ?_
                      show m_RunE X _ _ 157 419 [(0, .ref m_scr), (1, .ref 0), (2, .ref 7), (3, .ref 56), (4, .int x4)] [.int v116] (hO R g115) _
                      refine m_goE (L := [(419, .aload_n 2, 1, 0, 0), (420, .aload_n 0, 1, 0, 0), (421, .iload 4, 2, 0, 0), (423, .iconst 1, 1, 0, 0), (424, .iadd, 1, 0, 0)]) (pc1 := 425) (lv1 := [(0, .ref m_scr), (1, .ref 0), (2, .ref 7), (3, .ref 56), (4, .int x4)]) (st1 := [.int (x4 + (1 : Int32)), .ref m_scr, .ref 7, .int v116]) (h1 := hO R g115) (by decide +kernel) rfl ?_
                      obtain ⟨c119, h⟩ := m_ifn_inv h
                      refine m_go1E (q := (425, .iaload, 1, 0, 0)) (pc1 := 426) (lv1 := [(0, .ref m_scr), (1, .ref 0), (2, .ref 7), (3, .ref 56), (4, .int x4)]) (st1 := [.int (X.2 (Int32.toNatClampNeg (x4 + (1 : Int32)))), .ref 7, .int v116]) (h1 := hO R g115) (by decide +kernel) (if_neg c119) ?_
                      rcases m_ti_inv h with ⟨v121, g120, e122, h⟩ | ⟨y123, g120, e122, h⟩
                      · refine m_caE (q := (426, .invokevirtual 70, 3, 137, 1)) (a := 137) (vs := [.ref 7, .int (X.2 (Int32.toNatClampNeg (x4 + (1 : Int32))))]) (st := [.int v116]) (d1 := 0) (by decide +kernel) rfl rfl rfl rfl (by decide) (Fr137 e122) ?_
                        show m_RunE X _ _ 157 429 [(0, .ref m_scr), (1, .ref 0), (2, .ref 7), (3, .ref 56), (4, .int x4)] [.int v121, .int v116] (hO R g120) _
                        refine m_gobE (c := v116 = v121) (t := 447) (f := 432) (L := [(429, .if_icmp .eq 18, 3, 0, 0)]) (lv1 := [(0, .ref m_scr), (1, .ref 0), (2, .ref 7), (3, .ref 56), (4, .int x4)]) (st1 := []) (h1 := hO R g120) (by decide +kernel) rfl (fun c124 => ?_) (fun c124 => ?_)
                        · rw [if_pos c124] at h
                          refine m_goE (L := [(447, .iinc 4 6, 3, 0, 0), (450, .goto (-427), 3, 0, 0)]) (pc1 := 23) (lv1 := [(0, .ref m_scr), (1, .ref 0), (2, .ref 7), (3, .ref 56), (4, .int (x4 + (6 : Int32)))]) (st1 := []) (h1 := hO R g120) (by decide +kernel) rfl ?_
                          exact m_r0E (m_pick [0, 1, 2, 3, 4] rfl) (m_r12E (Nat.le_refl _) (by omega) (ih _ _ _ _ _ h))
                        · rw [if_neg c124] at h
                          refine m_goE (L := [(432, .iconst 0, 1, 0, 0)]) (pc1 := 433) (lv1 := [(0, .ref m_scr), (1, .ref 0), (2, .ref 7), (3, .ref 56), (4, .int x4)]) (st1 := [.int (0 : Int32)]) (h1 := hO R g120) (by decide +kernel) rfl ?_
                          cases h
                          exact m_rzE (by decide +kernel) (Or.inl rfl)
                      · cases h
                    · cases h
                  · rw [if_neg c113] at h
                    by_cases c125 : ((X.2 (Int32.toNatClampNeg x4)) &&& (7 : Int32)) = 7
                    · rw [if_pos c125] at h
                      refine m_go1E (q := (40, .tableswitch 407 0 7 #[48, 104, 140, 153, 209, 313, 369, 394], 48, 0, 0)) (pc1 := 434) (lv1 := [(0, .ref m_scr), (1, .ref 0), (2, .ref 7), (3, .ref 56), (4, .int x4)]) (st1 := []) (h1 := hO R g) (by decide +kernel) (m_swx (fun z => m_loc m_ft X (.tableswitch 407 0 7 #[48, 104, 140, 153, 209, 313, 369, 394]) 0 0 40 [(0, .ref m_scr), (1, .ref 0), (2, .ref 7), (3, .ref 56), (4, .int x4)] (.int z :: []) (hO R g)) c125 rfl) ?_
                      refine m_goE (L := [(434, .aload_n 1, 1, 0, 0)]) (pc1 := 435) (lv1 := [(0, .ref m_scr), (1, .ref 0), (2, .ref 7), (3, .ref 56), (4, .int x4)]) (st1 := [.ref 0]) (h1 := hO R g) (by decide +kernel) rfl ?_
                      rcases m_ti_inv h with ⟨v127, g126, e128, h⟩ | ⟨y129, g126, e128, h⟩
                      · refine m_caE (q := (435, .invokevirtual 71, 3, 79, 0)) (a := 79) (vs := [.ref 0]) (st := []) (d1 := 0) (by decide +kernel) rfl rfl rfl rfl (by decide) (Fr79 e128) ?_
                        show m_RunE X _ _ 157 438 [(0, .ref m_scr), (1, .ref 0), (2, .ref 7), (3, .ref 56), (4, .int x4)] [.int v127] (hO R g126) _
                        refine m_goE (L := [(438, .aload_n 2, 1, 0, 0)]) (pc1 := 439) (lv1 := [(0, .ref m_scr), (1, .ref 0), (2, .ref 7), (3, .ref 56), (4, .int x4)]) (st1 := [.ref 7, .int v127]) (h1 := hO R g126) (by decide +kernel) rfl ?_
                        rcases m_ti_inv h with ⟨v131, g130, e132, h⟩ | ⟨y133, g130, e132, h⟩
                        · refine m_caE (q := (439, .invokevirtual 74, 3, 138, 0)) (a := 138) (vs := [.ref 7]) (st := [.int v127]) (d1 := 0) (by decide +kernel) rfl rfl rfl rfl (by decide) (Fr138 e132) ?_
                          show m_RunE X _ _ 157 442 [(0, .ref m_scr), (1, .ref 0), (2, .ref 7), (3, .ref 56), (4, .int x4)] [.int v131, .int v127] (hO R g130) _
                          refine m_gobE (c := v127 = v131) (t := 447) (f := 445) (L := [(442, .if_icmp .eq 5, 3, 0, 0)]) (lv1 := [(0, .ref m_scr), (1, .ref 0), (2, .ref 7), (3, .ref 56), (4, .int x4)]) (st1 := []) (h1 := hO R g130) (by decide +kernel) rfl (fun c134 => ?_) (fun c134 => ?_)
                          · rw [if_pos c134] at h
                            refine m_goE (L := [(447, .iinc 4 6, 3, 0, 0), (450, .goto (-427), 3, 0, 0)]) (pc1 := 23) (lv1 := [(0, .ref m_scr), (1, .ref 0), (2, .ref 7), (3, .ref 56), (4, .int (x4 + (6 : Int32)))]) (st1 := []) (h1 := hO R g130) (by decide +kernel) rfl ?_
                            exact m_r0E (m_pick [0, 1, 2, 3, 4] rfl) (m_r12E (Nat.le_refl _) (by omega) (ih _ _ _ _ _ h))
                          · rw [if_neg c134] at h
                            refine m_goE (L := [(445, .iconst 0, 1, 0, 0)]) (pc1 := 446) (lv1 := [(0, .ref m_scr), (1, .ref 0), (2, .ref 7), (3, .ref 56), (4, .int x4)]) (st1 := [.int (0 : Int32)]) (h1 := hO R g130) (by decide +kernel) rfl ?_
                            cases h
                            exact m_rzE (by decide +kernel) (Or.inl rfl)
                        · cases h
                      · cases h
                    · rw [if_neg c125] at h
                      have hx : m_loc m_ft X (.tableswitch 407 0 7 #[48, 104, 140, 153, 209, 313, 369, 394]) 0 0 40 [(0, .ref m_scr), (1, .ref 0), (2, .ref 7), (3, .ref 56), (4, .int x4)] ([.int ((X.2 (Int32.toNatClampNeg x4)) &&& (7 : Int32))]) (hO R g) = some (447, [(0, .ref m_scr), (1, .ref 0), (2, .ref 7), (3, .ref 56), (4, .int x4)], [], hO R g) := by
                        by_cases hz : Int32.toInt ((X.2 (Int32.toNatClampNeg x4)) &&& (7 : Int32)) < 0 ∨ 7 < Int32.toInt ((X.2 (Int32.toNatClampNeg x4)) &&& (7 : Int32))
                        · exact if_pos hz
                        · exfalso; have z0 := m_ne (k := 0) (z := 0) (by decide) c3; have z1 := m_ne (k := 1) (z := 1) (by decide) c22; have z2 := m_ne (k := 2) (z := 2) (by decide) c38; have z3 := m_ne (k := 3) (z := 3) (by decide) c48; have z4 := m_ne (k := 4) (z := 4) (by decide) c67; have z5 := m_ne (k := 5) (z := 5) (by decide) c94; have z6 := m_ne (k := 6) (z := 6) (by decide) c113; have z7 := m_ne (k := 7) (z := 7) (by decide) c125; omega
                      refine m_go1E (q := (40, .tableswitch 407 0 7 #[48, 104, 140, 153, 209, 313, 369, 394], 48, 0, 0)) (by decide +kernel) hx ?_
                      refine m_goE (L := [(447, .iinc 4 6, 3, 0, 0), (450, .goto (-427), 3, 0, 0)]) (pc1 := 23) (lv1 := [(0, .ref m_scr), (1, .ref 0), (2, .ref 7), (3, .ref 56), (4, .int (x4 + (6 : Int32)))]) (st1 := []) (h1 := hO R g) (by decide +kernel) rfl ?_
                      exact m_r0E (m_pick [0, 1, 2, 3, 4] rfl) (m_r12E (Nat.le_refl _) (by omega) (ih _ _ _ _ _ h))
end Dec
