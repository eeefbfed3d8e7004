/-! own throws, catches, two callees of the JDK -/
/-- owner, class link, constructor link, exception -/
def m_thL : List (Nat × Nat × Nat × Nat) := [(0, 72, 189, 0), (5, 44, 48, 1), (5, 51, 55, 2), (5, 79, 83, 0), (5, 91, 95, 3)]
abbrev m_sup : List String := ["java/lang/RuntimeException", "java/lang/Exception"]
def m_thW (o E : String) (ik ic : Nat) : List Cond := Cond.classLink o ik E :: Cond.initialized E :: vx_atS o ic E m_sup
def m_thok (f : Nat × Nat × Nat × Nat) : Bool := match m_cn[f.1]?, m_en[f.2.2.2]? with
  | some o, some E => (m_thW o E f.2.1 f.2.2.1).all (fun w => decide (w ∈ lw_tbl) && (goodWord w || m_isN w) && vx_ot w) && Bundle.fit E
  | _, _ => false
theorem m_th_ok : m_thL.all m_thok = true := by decide +kernel
theorem m_sup_ok : ∀ n ∈ m_sup, Bundle.fit n = true := by decide +kernel
theorem m_words {args : Array Value} {s : State} (hts : ∀ w ∈ m_tb, w.before args s = true) (hnw : ∀ w ∈ m_nw, va_Nw w s) {w : Cond} (h1 : w ∈ lw_tbl) (h2 : (goodWord w || m_isN w) = true) : w.before args s = true := by
  rcases Bool.or_eq_true _ _ ▸ h2 with h2 | h2
  · exact hts w (List.mem_filter.mpr ⟨h1, h2⟩)
  · have h3 : w ∈ m_nw := List.mem_filter.mpr ⟨h1, h2⟩
    exact va_Nw.use (m_isN_tab h3) (hnw w h3)
/-- a throw's rows -/
def m_tsok (M : mM) (q : mI) : Bool := match q.2.1 with
  | .new ik => if q.2.2.2.1 < 4 then
      (m_cd M).any (fun r => r.1 == q.1 + 3 && (match r.2.1 with | .dup => true | _ => false)) &&
      (m_cd M).any (fun r => r.1 == q.1 + 4 && r.2.2.2.1 == 1 && r.2.2.2.2 == q.2.2.2.2 && (match r.2.1 with | .ldc _ => true | _ => false)) &&
      (m_cd M).any (fun r => r.1 == q.1 + 6 && (match r.2.1 with | .invokespecial ic => m_thL.any (fun f => f.1 == m_own M && f.2.1 == ik && f.2.2.1 == ic && f.2.2.2 == q.2.2.2.1) | _ => false)) &&
      (m_cd M).any (fun r => r.1 == q.1 + 9 && (match r.2.1 with | .athrow => true | _ => false)) else true
  | _ => true
theorem m_ts_ok : m_prog.all (fun M => (m_cd M).all (m_tsok M)) = true := by decide +kernel
def m_R4 (P : mP) : Prop := ∀ (d k j pc ik : Nat) (lv : mL) (st : List Value) (h : mH) (M : mM) (q : mI), m_prog[j]? = some M → m_hh M = [] → m_at j pc = some q → q.2.1 = .new ik → q.2.2.2.1 < 4 → m_ctg st ≤ 8 → P d (k + 1) j pc lv st h (.inr q.2.2.2.1) h
section Throws
variable {l : Launch} {D : va_G} {ad : Nat → Nat} {cI cJ : ClassId} {A : Nat → Prop} {X : Nat × (Nat → Int32)}
theorem m_sp4 (hnt : l.stackTraces = false) : m_R4 (m_SP D ad cI cJ A l X) := by
  intro d k j pc ik lv st h M1 q hM1 hhh hq hi he hst p e R s m args below meth c H locs cells slots ls M mc ms hM hx hb hml htab hlk hret hown hts hE hf hlo hmc hms hc1 hc2 hPw hD hS hl
  have e01 : M = M1 := Option.some.inj (hM.symm.trans hM1)
  rw [← e01] at hhh
  obtain ⟨M2, hM2, hqm, rfl⟩ := m_at_inv hq
  have e02 : M = M2 := Option.some.inj (hM.symm.trans hM2)
  rw [← e02] at hqm
  obtain ⟨hd, -, hln, -⟩ := m_row hM hqm
  have hd0 := m_row_ln (n := 2) hln (by rw [hi]; rfl) hd
  rw [hi] at hd0
  have hts0 := List.all_eq_true.mp (List.all_eq_true.mp m_ts_ok M (List.mem_of_getElem? hM)) q hqm
  unfold m_tsok at hts0
  rw [hi] at hts0
  dsimp only at hts0
  rw [if_pos he] at hts0
  simp only [Bool.and_eq_true] at hts0
  obtain ⟨⟨⟨t3, t4⟩, t6⟩, t9⟩ := hts0
  obtain ⟨r3, m3, t3⟩ := List.any_eq_true.mp t3
  rw [Bool.and_eq_true, beq_iff_eq] at t3
  obtain ⟨e3, i3⟩ := t3
  obtain ⟨r4, m4, t4⟩ := List.any_eq_true.mp t4
  simp only [Bool.and_eq_true, beq_iff_eq] at t4
  obtain ⟨⟨⟨e4, a4⟩, b4⟩, i4⟩ := t4
  obtain ⟨r6, m6, t6⟩ := List.any_eq_true.mp t6
  rw [Bool.and_eq_true, beq_iff_eq] at t6
  obtain ⟨e6, i6⟩ := t6
  obtain ⟨r9, m9, t9⟩ := List.any_eq_true.mp t9
  rw [Bool.and_eq_true, beq_iff_eq] at t9
  obtain ⟨e9, i9⟩ := t9
  obtain ⟨g3, -, n3, -⟩ := m_row hM m3
  obtain ⟨g4, o4, n4, -⟩ := m_row hM m4
  obtain ⟨g6, -, n6, -⟩ := m_row hM m6
  obtain ⟨g9, -, n9, -⟩ := m_row hM m9
  split at i3
  · rename_i z3
    have d3 := m_row_ln (n := 0) n3 (by rw [z3]; rfl) g3
    rw [z3, e3] at d3
    split at i4
    · rename_i is z4
      have d4 := m_row_ln (n := 1) n4 (by rw [z4]; rfl) g4
      rw [z4, e4] at d4
      split at i6
      · rename_i ic z6
        have d6 := m_row_ln (n := 2) n6 (by rw [z6]; rfl) g6
        rw [z6, e6] at d6
        split at i9
        · rename_i z9
          have d9 := m_row_ln (n := 0) n9 (by rw [z9]; rfl) g9
          rw [z9, e9] at d9
          obtain ⟨f, hf6, i6⟩ := List.any_eq_true.mp i6
          simp only [Bool.and_eq_true, beq_iff_eq] at i6
          obtain ⟨⟨⟨f1, f2⟩, f3⟩, f4⟩ := i6
          have hok := List.all_eq_true.mp m_th_ok f hf6
          unfold m_thok at hok
          obtain ⟨-, -, -, ho, -, -⟩ := m_fact_of hM
          rw [f1, f2, f3, f4, ho] at hok
          cases hEn : m_en[q.2.2.2.1]? with
          | none => rw [hEn] at hok; cases hok
          | some E =>
            rw [hEn] at hok
            simp only [Bool.and_eq_true, List.all_eq_true] at hok
            obtain ⟨hall, hfit⟩ := hok
            have hw : ∀ w ∈ m_thW (m_y M).cls E ik ic, w.before args s = true := fun w hw => m_words hts hE.2.1 (of_decide_eq_true (hall w hw).1.1) (hall w hw).1.2
            have hot : ∀ w ∈ m_thW (m_y M).cls E ik ic, vx_ot w = true := fun w hw => (hall w hw).2
            have hstr : ∃ text, vk_R (m_y M).cls is text (ad (m_scr + 1 + q.2.2.2.2)) s := by
              unfold m_sok at o4
              rw [z4] at o4
              dsimp only at o4
              rw [if_neg (by rw [a4]; decide), b4] at o4
              cases hf : m_strL[q.2.2.2.2]? with
              | none => rw [hf] at o4; cases o4
              | some f =>
                rw [hf] at o4
                simp only [Bool.and_eq_true, beq_iff_eq] at o4
                have h3 := hE.2.2.1 _ f hf (m_y M).cls (by rw [o4.1]; exact ho)
                rw [o4.2] at h3
                exact ⟨_, h3⟩
            obtain ⟨text, hstr⟩ := hstr
            have hc8 : (List.map (fun v => v.category) (st.map (m_V ad))).sum ≤ 8 := by
              have := m_ctg_V ad st
              unfold m_ctg at this hst
              rw [this]; exact hst
            have h5 : m_sup.length = 2 := rfl
            refine vx_throwS (names := m_sup) (text := text) hx hb hnt hown hfit m_sup_ok (hw _ List.mem_cons_self) (hw _ (List.mem_cons_of_mem _ List.mem_cons_self)) hstr (fun w h => hw w (List.mem_cons_of_mem _ (List.mem_cons_of_mem _ h))) hot
              hE.2.2.2.2.2.2.1 hE.2.2.2.2.2.2.2.1 hS (hl.1.trans hml.symm) hd0 d3 d4 d6 d9 (by rw [htab, hhh]; exact fun z hz => nomatch hz) (by rw [h5]; omega) (by rw [h5]; omega) (by omega) (by omega) hlk ?_ hS.2.2 (by omega) (by omega)
            intro t ha hz hk
            exact ⟨⟨_, rfl, hEn, hPw.kept (fun n z hn => hk _ (vx_lt hPw hn)), hD⟩, Nat.le_trans hS.1 hz, fun a h1 h2 => (hk a (Nat.lt_of_lt_of_le h1 hS.1)).trans (hS.2.1 a h1 h2)⟩
        · cases i9
      · cases i6
    · cases i4
  · cases i3
end Throws
/-- owner, entry of the pool, exception -/
def m_ctL : List (Nat × Nat × Nat) := [(0, 72, 0), (7, 13, 1), (7, 15, 2), (7, 24, 0), (7, 26, 3)]
def m_ctok (f : Nat × Nat × Nat) : Bool := match m_cn[f.1]?, m_en[f.2.2]? with
  | some o, some E => decide (Cond.classLink o f.2.1 E ∈ lw_tbl) && goodWord (.classLink o f.2.1 E) && decide (f.2.1 ≠ 0)
  | _, _ => false
theorem m_ct_ok : m_ctL.all m_ctok = true := by decide +kernel
def m_cty (own ct : Nat) : Option Nat := (m_ctL.find? (fun f => f.1 == own && f.2.1 == ct)).map (fun f => f.2.2)
theorem m_cty_at {own ct y : Nat} (h : m_cty own ct = some y) {o : String} (ho : m_cn[own]? = some o) : ∃ E, m_en[y]? = some E ∧ Cond.classLink o ct E ∈ m_tb ∧ ct ≠ 0 := by
  unfold m_cty at h
  cases hf : m_ctL.find? (fun f => f.1 == own && f.2.1 == ct) with
  | none => rw [hf] at h; cases h
  | some f =>
    rw [hf] at h
    cases h
    have h1 := List.mem_of_find?_eq_some hf
    have h2 := List.find?_some hf
    simp only [Bool.and_eq_true, beq_iff_eq] at h2
    have h3 := List.all_eq_true.mp m_ct_ok f h1
    unfold m_ctok at h3
    rw [h2.1, h2.2, ho] at h3
    cases hE : m_en[f.2.2]? with
    | none => rw [hE] at h3; cases h3
    | some E =>
      rw [hE] at h3
      simp only [Bool.and_eq_true, decide_eq_true_eq] at h3
      exact ⟨E, rfl, List.mem_filter.mpr ⟨h3.1.1, h3.1.2⟩, h3.2⟩
def m_nc (x y : Nat) : Bool := match m_en[x]?, m_en[y]? with
  | some a, some b => decide ((a, b) ∈ m_ncL)
  | _, _ => false
def m_hnd (own pc x : Nat) : List (Nat × Nat × Nat × Nat) → Option Nat
  | [] => none
  | (a, b, h, ct) :: t => if a ≤ pc ∧ pc < b then (match m_cty own ct with
      | some y => if y = x then some h else if m_nc x y = true then m_hnd own pc x t else none
      | none => none) else m_hnd own pc x t
theorem m_hnd_ok {own pc x : Nat} {o E : String} (ho : m_cn[own]? = some o) (hE : m_en[x]? = some E) {hp : Nat} : ∀ (hh : List (Nat × Nat × Nat × Nat)), m_hnd own pc x hh = some hp →
    ∃ (pre : List ExceptionTableEntry) (z : ExceptionTableEntry) (suf : List ExceptionTableEntry), tableOf hh = pre ++ z :: suf ∧ z.handlerPc = hp ∧ covers z pc = true ∧ z.catchType ≠ 0 ∧ Cond.classLink o z.catchType E ∈ m_tb ∧
      ∀ w ∈ pre, covers w pc = false ∨ (w.catchType ≠ 0 ∧ ∃ nm : String, Cond.classLink o w.catchType nm ∈ m_tb ∧ (E, nm) ∈ m_ncL)
  | [], h => by cases h
  | (a, b, h, ct) :: t, hh => by
    have step : ∀ (hw : covers (⟨a, b, h, ct⟩ : ExceptionTableEntry) pc = false ∨ (ct ≠ 0 ∧ ∃ nm : String, Cond.classLink o ct nm ∈ m_tb ∧ (E, nm) ∈ m_ncL)), m_hnd own pc x t = some hp →
        ∃ (pre : List ExceptionTableEntry) (z : ExceptionTableEntry) (suf : List ExceptionTableEntry), tableOf ((a, b, h, ct) :: t) = pre ++ z :: suf ∧ z.handlerPc = hp ∧ covers z pc = true ∧ z.catchType ≠ 0 ∧ Cond.classLink o z.catchType E ∈ m_tb ∧
          ∀ w ∈ pre, covers w pc = false ∨ (w.catchType ≠ 0 ∧ ∃ nm : String, Cond.classLink o w.catchType nm ∈ m_tb ∧ (E, nm) ∈ m_ncL) := by
      intro hw ht
      obtain ⟨pre, z, suf, h1, h2, h3, h4, h5, h6⟩ := m_hnd_ok ho hE t ht
      refine ⟨⟨a, b, h, ct⟩ :: pre, z, suf, ?_, h2, h3, h4, h5, fun w hw2 => ?_⟩
      · show (⟨a, b, h, ct⟩ : ExceptionTableEntry) :: tableOf t = _
        rw [h1]; rfl
      · rcases List.mem_cons.mp hw2 with rfl | hw2
        · exact hw
        · exact h6 w hw2
    unfold m_hnd at hh
    by_cases hc : a ≤ pc ∧ pc < b
    · rw [if_pos hc] at hh
      cases hy : m_cty own ct with
      | none => rw [hy] at hh; cases hh
      | some y =>
        rw [hy] at hh
        dsimp only at hh
        obtain ⟨E2, e1, e2, e3⟩ := m_cty_at hy ho
        by_cases hyx : y = x
        · rw [if_pos hyx] at hh
          cases hh
          subst hyx
          cases Option.some.inj (hE.symm.trans e1)
          exact ⟨[], ⟨a, b, hp, ct⟩, tableOf t, rfl, rfl, by simp [covers, hc.1, hc.2], e3, e2, fun w hw => nomatch hw⟩
        · rw [if_neg hyx] at hh
          obtain ⟨hn, hh⟩ := m_if_inv hh
          unfold m_nc at hn
          rw [hE, e1] at hn
          exact step (Or.inr ⟨e3, E2, e2, of_decide_eq_true hn⟩) hh
    · rw [if_neg hc] at hh
      refine step (Or.inl ?_) hh
      simp only [covers]
      by_cases h1 : a ≤ pc
      · simp [h1, show ¬ pc < b from fun z => hc ⟨h1, z⟩]
      · simp [h1]
def m_ast (q : mI) : Option Nat := match q.2.1 with
  | .astore_n k => some k
  | .astore i => some i
  | _ => none
def m_drp (lv : mL) (i : Nat) : mL := lv.filter (fun q => !(q.1 == i) && !(q.1 + 1 == i && q.2.category == 2))
def m_R7 (P : mP) : Prop := ∀ (d k1 k2 j pc hp i : Nat) (lv : mL) (st vs : List Value) (h h1 h' : mH) (x : Nat) (o : mO) (M : mM) (q r : mI), m_prog[j]? = some M → m_hnd (m_own M) pc x (m_hh M) = some hp → m_at j pc = some q → m_cal h vs q = true → m_fit q.2.2.2.1 vs = true → m_ctg st ≤ 8 →
  m_at j hp = some r → m_ast r = some i → i < m_mL M → P d k1 q.2.2.2.1 0 (lv_args 0 vs) [] h (.inr x) h1 → P (d + 1) k2 j (hp + r.2.2.1) (m_drp lv i) [] h1 o h' → P (d + 1) (k1 + k2) j pc lv (vs.reverse ++ st) h o h'
section Catches
variable {l : Launch} {D : va_G} {ad : Nat → Nat} {cI cJ : ClassId} {A : Nat → Prop} {X : Nat × (Nat → Int32)}
theorem m_drp_has {ad : Nat → Nat} {lv : mL} {i : Nat} {v : Value} {ls : Array Slot} {nL : Nat} (h : lv_has ls nL ((i, v) :: (m_Lv ad lv).filter (fun q => !(q.1 == i) && !(q.1 + 1 == i && q.2.category == 2)))) : lv_has ls nL (m_Lv ad (m_drp lv i)) := by
  refine ⟨h.1, h.2.1, fun q hq => h.2.2 q ?_⟩
  obtain ⟨q0, hq0, rfl⟩ := List.mem_map.mp hq
  obtain ⟨h1, h2⟩ := List.mem_filter.mp hq0
  exact List.mem_cons_of_mem _ (List.mem_filter.mpr ⟨List.mem_map.mpr ⟨q0, h1, rfl⟩, by simpa [m_V_cat] using h2⟩)
theorem m_sp7 : m_R7 (m_SP D ad cI cJ A l X) := by
  intro d k1 k2 j pc hp i lv st vs h h1 h' x o M1 q r hM1 hhn hq hcal hfit hst hr hast hi IH1 IH2 p e R s m args below meth c H locs cells slots ls M mc ms hM hx hb hml htab hlk hret hown hts hE hf hlo hmc hms hc1 hc2 hPw hD hS hl
  have e01 : M = M1 := Option.some.inj (hM.symm.trans hM1)
  rw [← e01] at hhn hi
  have hrun := m_crun (e := e) (below := below) (meth := meth) hM hx hb hml hown hts hE hf hlo (cells := cells) (slots := slots) (k := k1) (by omega) (by omega) hPw hD hS hl.1 hq hcal hfit hst IH1
  intro T hT X1
  rcases hrun T hT X1 with ⟨v9, st₀, t, T', L, h0, X', hL, e1, e2, ⟨⟨v2, hv2, -⟩, -⟩, -⟩ | ⟨q9, st₀, t, T', L, E, ce, h0, X', hL, e1, e2, ⟨⟨x2, hx2, hE2, hP1, hD1⟩, hF⟩, hce, hcv, hcl, stp⟩
  · cases hv2
  · cases hx2
    obtain ⟨g1, g2, g3⟩ := vx_keep h0 e1 hS (fun _ _ z => z) (fun _ z => z) hL hF
    obtain ⟨-, -, -, ho, -, -⟩ := m_fact_of hM
    obtain ⟨pre, z, suf, s1, s2, s3, s4, s5, s6⟩ := m_hnd_ok ho hE2 (m_hh M) hhn
    subst s2
    have hw : vx_W p l e R s m args below meth c T'.heap (locs ++ L) (cells + k1) (slots + 6 * k1) (vx_MQ below (m_Qc D ad cI cJ A o h') (m_XC D ad cI cJ A o h') args s mc ms A) (F0 m pc ls (st.map (m_V ad))) q9 := by
      refine m_catch (E := E) (own := (m_y M).cls) hown pre z suf (by rw [htab]; exact s1) (fun w hw => ?_) s3 s4 (hts _ s5) (by rw [e1]; exact hce) hcv hcl ?_
      · rcases s6 w hw with h | ⟨h6, nm, h7, h8⟩
        · exact Or.inl h
        · exact Or.inr ⟨h6, nm, hts _ h7, hE.2.2.2.2.2.2.2.2.1 _ h8⟩
      · obtain ⟨M2, hM2, hrm, hrp⟩ := m_at_inv hr
        have e02 : M = M2 := Option.some.inj (hM.symm.trans hM2)
        rw [← e02] at hrm
        obtain ⟨hd, -, hln, -⟩ := m_row hM hrm
        obtain ⟨pc2, ins, len, a, b⟩ := r
        dsimp only at hrp
        subst hrp
        unfold m_ast at hast
        dsimp only at hast hd hln IH2
        have fin : ∀ ls2, lv_has ls2 (m_mL M) ((i, Value.ref q9) :: (m_Lv ad lv).filter (fun q => !(q.1 == i) && !(q.1 + 1 == i && q.2.category == 2))) → W p l e R s m args below meth c T'.heap (locs ++ L) (cells + k1) (slots + 6 * k1) (vx_MQ below (m_Qc D ad cI cJ A o h') (m_XC D ad cI cJ A o h') args s mc ms A) (F0 m (z.handlerPc + len) ls2 []) := by
          intro ls2 hl2
          exact IH2 p e R s m args below meth c T'.heap (locs ++ L) (cells + k1) (slots + 6 * k1) ls2 M mc ms hM hx hb hml htab hlk hret hown hts hE hf hlo hmc hms (by omega) (by omega) (by rw [e1]; exact hP1) hD1 g3 (m_drp_has hl2)
        cases ins with
        | astore_n kf =>
          cases hast
          rcases hln with hln | hln
          · cases hln
          · subst hln
            exact lv_astore_n hx hb hd rfl hl hi rfl fin
        | astore kf =>
          cases hast
          rcases hln with hln | hln
          · cases hln
          · subst hln
            exact lv_astore hx hb hd hl hi rfl fin
        | _ => cases hast
    obtain ⟨t2, a1, b1⟩ := hw T' rfl X'
    exact ⟨t2, stp.trans a1, b1⟩
end Catches
