/-! calls -/
section CallSim
variable {l : Launch} {D : va_G} {ad : Nat → Nat} {cI cJ : ClassId} {A : Nat → Prop} {X : Nat × (Nat → Int32)}
theorem m_met {a : Nat} {M : mM} (hM : m_prog[a]? = some M) {d k : Nat} {vs : List Value} {h h1 : mH} {o : mO} (hfit : (lg_sl vs).length ≤ m_mL M) (IH : m_SP D ad cI cJ A l X d k a 0 (lv_args 0 vs) [] h o h1) :
    vx_Met l (m_y M) (m_wd M :: m_tb) { frames := d + 12, locals := 40 * d + 200, cells := k, slots := 6 * k } (m_Pc D ad cI cJ A X vs h) (m_Qc D ad cI cJ A o h1) (m_XC D ad cI cJ A o h1) k (6 * k) A := by
  have key : ∀ p e s m args below meth c s₁, BodyLoose p l (m_y M) (headSpec (m_wd M :: m_tb) { frames := d + 12, locals := 40 * d + 200, cells := k, slots := 6 * k }) (m_by M) (m_mL M) (m_ret M) e s m args below meth c s₁ → c.maxLocals = m_mL M → c.exceptionTable.toList = tableOf (m_hh M) → m_Pc D ad cI cJ A X vs h args s →
      W p l e (headSpec (m_wd M :: m_tb) { frames := d + 12, locals := 40 * d + 200, cells := k, slots := 6 * k }).room s m args below meth c s.heap [] 0 0 (vx_MQ below (m_Qc D ad cI cJ A o h1) (m_XC D ad cI cJ A o h1) args s k (6 * k) A) (entryFrame m args (m_mL M)) := by
    intro p e s m args below meth c s₁ B hml htab hp
    obtain ⟨ha, hP, hD, hE⟩ := hp
    subst ha
    rw [lg_entry_eq]
    exact IH p e _ s m _ below meth c s.heap [] 0 0 _ M k (6 * k) hM B.exec B.bytes hml htab B.notSynchronized B.returns (findClass_of_methodNamed B.named) (fun w hw => atoms_spec (ws := m_wd M :: m_tb) B.pre w (List.mem_cons_of_mem _ hw)) hE
      (Nat.le_refl (d + 12)) (Nat.le_refl (40 * d + 200)) (Nat.le_refl k) (Nat.le_refl (6 * k)) (by omega) (by omega) hP hD va_S.rf (by rw [m_Lv_args]; exact lv_entry _ (by rw [m_sl]; exact hfit))
  have hpl := (m_fact_of hM).1
  cases hh : m_hh M with
  | nil =>
    refine vx_ofW (cc := m_by M) (maxL := m_mL M) (ret := m_ret M) (ws' := m_tb) hpl (by unfold m_wd; rw [hh]) ?_
    intro p e s m args below meth c s₁ B hml hno hp
    exact key p e s m args below meth c s₁ B hml (by rw [hh]; exact List.eq_nil_iff_forall_not_mem.mpr (fun x hx => hno x hx)) hp
  | cons q t =>
    have hw : m_wd M = Cond.codeWith (m_y M) (m_by M) (m_mL M) (m_ret M) (q :: t) := by unfold m_wd; rw [hh]
    refine vx_ofWH (cc := m_by M) (maxL := m_mL M) (ret := m_ret M) (hh := q :: t) (ws' := m_tb) hpl (by rw [hw]) ?_
    intro p e s m args below meth c s₁ B hml hp
    exact key p e s m args below meth c s₁ B hml (by rw [hh]; exact vx_table (x := m_y M) B (bytes := m_by M) (maxL' := m_mL M) (ret' := m_ret M) (by rw [← hw]; exact atoms_spec (ws := m_wd M :: m_tb) B.pre _ List.mem_cons_self)) hp
theorem m_Pc_blind {vs : List Value} {h : mH} : FrameBlind (m_Pc D ad cI cJ A X vs h) := by
  intro a U g mk hh
  obtain ⟨h1, h2, h3, h4⟩ := hh
  exact ⟨h1, h2, h3, h4.move (State.WarmedH.refl U) (Nat.le_refl _) (fun _ _ _ => rfl)⟩
theorem m_clsn : ∀ (c : Nat) (r : vw_C), m_cl[c]? = some r → m_cn[c]? = some r.1 := by
  intro c r h
  match c, h with
  | 0, h => cases h; rfl
  | 1, h => cases h; rfl
  | 2, h => cases h; rfl
  | 3, h => cases h; rfl
  | 4, h => cases h; rfl
  | 5, h => cases h; rfl
  | 6, h => cases h; rfl
  | k + 7, h => simp [m_cl] at h
variable {p : Program} {e : Env} {R : Room} {s : State} {m : MethodId} {args : Array Value} {below : List Frame} {meth : Method} {c : Code} {H : Heap} {locs : List Loc} {cells slots : Nat} {Q : State → Prop} {ls : Array Slot}
theorem m_crun {M : mM} {j pc d k : Nat} {q : mI} {st vs : List Value} {h h1 : mH} {o : mO} (hM : m_prog[j]? = some M) (hx : p.tables.exec = Jvm.exec) (hb : c.code = m_by M) (hml : c.maxLocals = m_mL M) (hown : s.vm.findClass (m_y M).cls = some m.cls)
    (hts : ∀ w ∈ m_tb, w.before args s = true) (hE : m_EV D ad cI cJ A X s) (hf : d + 1 + 12 ≤ R.frames) (hlo : 40 * (d + 1) + 200 ≤ R.locals) (hc : cells + k ≤ R.cells) (hs : slots + 6 * k ≤ R.slots)
    (hP : va_P D m_cl (m_W ad cI cJ h) H) (hD : va_D A (m_W ad cI cJ h)) (hS : va_S A s.heap H locs) (hls : ls.size = m_mL M) (hq : m_at j pc = some q) (hcal : m_cal h vs q = true) (hfit : m_fit q.2.2.2.1 vs = true) (hst : m_ctg st ≤ 8)
    (IH : m_SP D ad cI cJ A l X d k q.2.2.2.1 0 (lv_args 0 vs) [] h o h1) :
    vx_Run p l e R s m args below meth c H locs cells slots k (6 * k) (F0 m pc ls ((vs.reverse ++ st).map (m_V ad))) (st.map (m_V ad)) (m_Qc D ad cI cJ A o h1 (vs.map (m_V ad)).toArray) (m_XC D ad cI cJ A o h1) A := by
  obtain ⟨M2, hM2, hqm, hpc⟩ := m_at_inv hq
  cases Option.some.inj (hM.symm.trans hM2)
  obtain ⟨hd, hok, hln, hck⟩ := m_row hM hqm
  obtain ⟨pc2, ins, len, a, b⟩ := q
  dsimp only at hpc hd hok hln hck hcal hfit IH
  subst hpc
  obtain ⟨-, -, -, ho, -, -⟩ := m_fact_of hM
  have hrm : m_ctg (st.map (m_V ad)) ≤ 8 := by rw [m_ctg_V]; exact hst
  unfold m_fit at hfit
  cases hM3 : m_prog[a]? with
  | none => rw [hM3] at hfit; cases hfit
  | some N =>
    rw [hM3] at hfit
    have hfit2 : (lg_sl vs).length ≤ m_mL N := of_decide_eq_true hfit
    have hmet := m_met hM3 hfit2 IH
    obtain ⟨hpl, hy1, hy2, hyo, hmx, hpar⟩ := m_fact_of hM3
    have hini := m_ini_at hyo
    have hroom : ({ frames := d + 12, locals := 40 * d + 200, cells := k, slots := 6 * k } : Room).frames + 1 ≤ R.frames ∧ 8 + (m_mL N + 11) + ({ frames := d + 12, locals := 40 * d + 200, cells := k, slots := 6 * k } : Room).locals ≤ R.locals := ⟨by show d + 12 + 1 ≤ _; omega, by show 8 + (m_mL N + 11) + (40 * d + 200) ≤ _; omega⟩
    cases ins with
    | invokevirtual idx =>
      have hd1 := m_row_ln (M := M) (q := (pc2, .invokevirtual idx, len, a, b)) (n := 2) hln rfl hd
      dsimp only at hd1
      simp only [m_cal, Bool.and_eq_true, decide_eq_true_eq] at hcal
      obtain ⟨ha, hcal⟩ := hcal
      split at hcal
      · rename_i r as
        rw [Bool.and_eq_true, decide_eq_true_eq] at hcal
        obtain ⟨hlen, hcal⟩ := hcal
        split at hcal
        · rename_i ci fs N2 hr hN2
          cases Option.some.inj (hM3.symm.trans hN2)
          simp only [beq_iff_eq] at hcal
          simp only [m_cok, Bool.or_eq_true, decide_eq_true_eq, Bool.and_eq_true, hM3, beq_iff_eq] at hck
          have hck2 : (a < 157 ∧ (!m_sta a) = true) ∧ m_ar N = b := hck.elim (fun z => absurd z (by omega)) id
          obtain ⟨⟨-, hsta⟩, har⟩ := hck2
          have hsta2 : m_sta a = false := by simpa using hsta
          simp only [m_sok, Bool.or_eq_true, decide_eq_true_eq] at hok
          have hok2 := hok.elim (fun z => absurd z (by omega)) id
          have hlk := m_lnk_at hok2 ho hM3
          obtain ⟨hin, hsel⟩ := m_mw_v hM3 ha hsta2
          have hwd := m_wd_tb hM3 ha
          have hgood : GoodIn m_tb (wsV (m_y M).cls idx (m_y N).cls (m_y N) (m_wd N :: m_tb)) := by
            intro w hw
            refine m_tb_good w ?_
            unfold wsV at hw
            simp only [List.cons_append, List.nil_append, List.mem_cons] at hw
            rcases hw with rfl | rfl | rfl | rfl | rfl | hw
            · exact hlk
            · exact hin
            · exact hsel
            · exact hini
            · exact hwd
            · exact hw
          have hw := m_W_at (ad := ad) (cI := cI) (cJ := cJ) hr
          obtain ⟨rr, hcl, cell, q1, q2, q3, q4⟩ := hP r _ hw
          have hnm : rr.1 = (m_y N).cls := by
            have h5 := m_clsn _ _ hcl
            rw [show (ci, fs.map (m_V ad)).1 = m_own N from hcal] at h5
            exact Option.some.inj (h5.symm.trans hyo)
          have hfc : s.vm.findClass (m_y N).cls = some cell.cls := by
            obtain ⟨-, h6, -⟩ := hE.1.1 _ _ hcl
            rw [← hnm, q2]; exact h6
          have hpre : PreV s H (m_y N).cls (ad r) (m_Pc D ad cI cJ A X (.ref r :: as) h) (as.map (m_V ad)) := by
            refine ⟨m_Pc_blind, ⟨cell, q1, by rw [q3]; rfl, hfc⟩, fun U hU hW => ⟨rfl, by rw [hU]; exact hP, hD, hE.move hW (by rw [hU]; exact hS.1) (by rw [hU]; exact hS.2.1)⟩⟩
          have hstk : (F0 m pc2 ls (((Value.ref r :: as).reverse ++ st).map (m_V ad))).stack = (as.map (m_V ad)).reverse ++ .ref (ad r) :: st.map (m_V ad) := by
            show ((Value.ref r :: as).reverse ++ st).map (m_V ad) = _
            simp [m_V]
          have hlen2 : (as.map (m_V ad)).length = b := by rw [List.length_map]; exact hlen
          cases hh : m_hh N with
          | nil =>
            have hwe : m_wd N = Cond.code (m_y N) (m_by N) (m_mL N) (m_ret N) := by unfold m_wd; rw [hh]
            exact vx_runV (nL := m_mL M) (own := (m_y M).cls) (C := (m_y N).cls) (index := idx) (n := b) (bytes := m_by N) (maxL := m_mL N) (ret := m_ret N) ⟨hx, hb, hml, hown, hts⟩ hmet
              (cwV b hts hgood (by rw [hwe]) rfl rfl ⟨rfl, hy1, hy2, by rw [hpar, har]⟩ hroom) hpre rfl hlen2 hls hstk (lv_room hrm) hd1 ⟨hc, hs⟩
          | cons z zs =>
            have hwe : m_wd N = Cond.codeWith (m_y N) (m_by N) (m_mL N) (m_ret N) (z :: zs) := by unfold m_wd; rw [hh]
            exact vx_runVX (nL := m_mL M) (own := (m_y M).cls) (C := (m_y N).cls) (index := idx) (n := b) (bytes := m_by N) (maxL := m_mL N) (ret := m_ret N) (hh := z :: zs) ⟨hx, hb, hml, hown, hts⟩ hmet
              (vx_cwVW b hts hgood (by rw [hwe]) rfl rfl ⟨rfl, hy1, hy2, by rw [hpar, har]⟩ hroom) hpre rfl hlen2 hls hstk (lv_room hrm) hd1 ⟨hc, hs⟩
        · cases hcal
      · cases hcal
    | invokestatic idx =>
      have hd1 := m_row_ln (M := M) (q := (pc2, .invokestatic idx, len, a, b)) (n := 2) hln rfl hd
      dsimp only at hd1
      simp only [m_cal, Bool.and_eq_true, decide_eq_true_eq] at hcal
      obtain ⟨ha, hlen⟩ := hcal
      simp only [m_cok, Bool.or_eq_true, decide_eq_true_eq, Bool.and_eq_true, hM3, beq_iff_eq] at hck
      have hck2 : (a < 157 ∧ m_sta a = true) ∧ m_ar N = b := hck.elim (fun z => absurd z (by omega)) id
      obtain ⟨⟨-, hsta⟩, har⟩ := hck2
      simp only [m_sok, Bool.or_eq_true, decide_eq_true_eq] at hok
      have hok2 := hok.elim (fun z => absurd z (by omega)) id
      have hlk := m_lnk_at hok2 ho hM3
      have hstt := m_mw_s hM3 ha hsta
      have hwd := m_wd_tb hM3 ha
      have hpre : PreS s H (m_Pc D ad cI cJ A X vs h) (vs.map (m_V ad)) := ⟨m_Pc_blind, fun U hU hW => ⟨rfl, by rw [hU]; exact hP, hD, hE.move hW (by rw [hU]; exact hS.1) (by rw [hU]; exact hS.2.1)⟩⟩
      have hstk : (F0 m pc2 ls ((vs.reverse ++ st).map (m_V ad))).stack = (vs.map (m_V ad)).reverse ++ st.map (m_V ad) := by
        show (vs.reverse ++ st).map (m_V ad) = _
        simp
      have hlen2 : (vs.map (m_V ad)).length = b := by rw [List.length_map]; exact hlen
      have hgood : GoodIn m_tb (m_wd N :: m_tb) := by
        intro w hw
        refine m_tb_good w ?_
        rcases List.mem_cons.mp hw with rfl | hw
        · exact hwd
        · exact hw
      cases hh : m_hh N with
      | nil =>
        have hwe : m_wd N = Cond.code (m_y N) (m_by N) (m_mL N) (m_ret N) := by unfold m_wd; rw [hh]
        exact vx_runS (nL := m_mL M) (own := (m_y M).cls) (index := idx) (n := b) (bytes := m_by N) (maxL := m_mL N) (ret := m_ret N) ⟨hx, hb, hml, hown, hts⟩ hmet
          ⟨callB_of b hts hgood (by rw [hwe]) rfl rfl (hts _ hini) (hts _ hlk) ⟨hy1, hy2, by rw [hpar, har]⟩ hroom, hts _ hstt⟩ hpre rfl hlen2 hls hstk (lv_room hrm) hd1 ⟨hc, hs⟩
      | cons z zs =>
        have hwe : m_wd N = Cond.codeWith (m_y N) (m_by N) (m_mL N) (m_ret N) (z :: zs) := by unfold m_wd; rw [hh]
        refine vx_runSX (nL := m_mL M) (own := (m_y M).cls) (index := idx) (n := b) (bytes := m_by N) (maxL := m_mL N) (ret := m_ret N) (hh := z :: zs) ⟨hx, hb, hml, hown, hts⟩ hmet
          ⟨⟨rfl, rfl, hroom.1, hroom.2, pay_in hts hgood, by rw [hwe]; exact List.mem_cons_self⟩, by rw [← hwe]; exact hts _ hwd, hts _ hini, ⟨hy1, hy2⟩, fun sig hsig => ?_, hts _ hlk, hts _ hstt⟩ hpre rfl hlen2 hls hstk (lv_room hrm) hd1 ⟨hc, hs⟩
        rw [hsig, har] at hpar
        exact (Option.some.inj hpar).symm
    | _ => simp [m_cal] at hcal
end CallSim
section Rules2
variable {l : Launch} {D : va_G} {ad : Nat → Nat} {cI cJ : ClassId} {A : Nat → Prop} {X : Nat × (Nat → Int32)}
theorem m_sp5 : m_R5 (m_SP D ad cI cJ A l X) := by
  intro d k1 k2 j pc lv st vs v h h1 h' o q hq hcal hfit hst IH1 IH2 p e R s m args below meth c H locs cells slots ls M mc ms hM hx hb hml htab hlk hret hown hts hE hf hlo hmc hms hc1 hc2 hPw hD hS hl
  have hr := m_crun (e := e) (below := below) (meth := meth) hM hx hb hml hown hts hE hf hlo (cells := cells) (slots := slots) (k := k1) (by omega) (by omega) hPw hD hS hl.1 hq hcal hfit hst IH1
  intro T hT X1
  rcases hr T hT X1 with ⟨v9, st₀, t, T', L, h0, X', hL, e1, e2, ⟨⟨v2, hv2, hv9, hP1, hD1⟩, hF⟩, stp⟩ | ⟨q9, st₀, t, T', L, E, ce, h0, X', hL, e1, e2, ⟨⟨x, hx2, -⟩, -⟩, -⟩
  · cases hv2
    cases hv9
    obtain ⟨g1, g2, g3⟩ := vx_keep h0 e1 hS (fun _ _ z => z) (fun _ z => z) hL hF
    have hw := IH2 p e R s m args below meth c T'.heap (locs ++ L) (cells + k1) (slots + 6 * k1) ls M mc ms hM hx hb hml htab hlk hret hown hts hE hf hlo hmc hms (by omega) (by omega) (by rw [e1]; exact hP1) hD1 g3 hl
    obtain ⟨t2, a1, b1⟩ := hw T' rfl X'
    refine ⟨t2, stp t2 ?_, b1⟩
    have e3 : (v.toList ++ st).map (m_V ad) = (v.map (m_V ad)).toList ++ st.map (m_V ad) := by cases v <;> simp
    rw [e3] at a1
    exact a1
  · cases hx2
theorem m_sp6 : m_R6 (m_SP D ad cI cJ A l X) := by
  intro d k j pc lv st vs h h1 x M1 q hM1 hhh hq hcal hfit hst IH1 p e R s m args below meth c H locs cells slots ls M mc ms hM hx hb hml htab hlk hret hown hts hE hf hlo hmc hms hc1 hc2 hPw hD hS hl
  cases Option.some.inj (hM.symm.trans hM1)
  have hr := m_crun (e := e) (below := below) (meth := meth) hM hx hb hml hown hts hE hf hlo (cells := cells) (slots := slots) (k := k) (by omega) (by omega) hPw hD hS hl.1 hq hcal hfit hst IH1
  intro T hT X1
  rcases hr T hT X1 with ⟨v9, st₀, t, T', L, h0, X', hL, e1, e2, ⟨⟨v2, hv2, -⟩, -⟩, -⟩ | ⟨q9, st₀, t, T', L, E, ce, h0, X', hL, e1, e2, ⟨⟨x2, hx2, hE2, hP1, hD1⟩, hF⟩, hce, hcv, hcl, stp⟩
  · cases hv2
  · cases hx2
    obtain ⟨g1, g2, g3⟩ := vx_keep h0 e1 hS (fun _ _ z => z) (fun _ z => z) hL hF
    have hw : vx_W p l e R s m args below meth c T'.heap (locs ++ L) (cells + k) (slots + 6 * k) (vx_MQ below (m_Qc D ad cI cJ A (.inr x) h1) (m_XC D ad cI cJ A (.inr x) h1) args s mc ms A) (F0 m pc ls (st.map (m_V ad))) q9 :=
      vx_out (E := E) (ce := ce) (by rw [htab, hhh]; exact fun z hz => nomatch hz) hlk (by rw [e1]; exact hce) hcv hcl
        (fun t2 ht2 ha => ⟨⟨x, rfl, hE2, by rw [ht2, e1]; exact hP1, hD1⟩, g3.F ht2⟩) g3.2.2 (by omega) (by omega)
    obtain ⟨t2, a1, b1⟩ := hw T' rfl X'
    exact ⟨t2, stp.trans a1, b1⟩
end Rules2
