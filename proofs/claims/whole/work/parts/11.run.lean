/-! runs of the small machine: the least relation that is closed under its rules (depth, exceptions, method, pc, locals, stack, cells; how it ends, cells then) -/
abbrev mO : Type := Option Value ⊕ Nat
abbrev mP : Type := Nat → Nat → Nat → Nat → mL → List Value → mH → mO → mH → Prop
def m_at (j pc : Nat) : Option mI := m_opt m_prog[j]? fun M => (m_cd M).find? (fun q => q.1 == pc)
def m_step (X : Nat × (Nat → Int32)) (j : Nat) (c : mS) : Option mS := m_opt (m_at j c.1) fun q => m_loc m_ft X q.2.1 q.2.2.2.1 q.2.2.2.2 c.1 c.2.1 c.2.2.1 c.2.2.2
def m_ctg (st : List Value) : Nat := (st.map fun v => v.category).sum
/-- a call's row: its callee -/
def m_cal (h : mH) (vs : List Value) (q : mI) : Bool := match q.2.1 with
  | .invokestatic _ => decide (q.2.2.2.1 < 157) && decide (vs.length = q.2.2.2.2)
  | .invokevirtual _ => decide (q.2.2.2.1 < 157) && (match vs with
    | .ref r :: as => decide (as.length = q.2.2.2.2) && (match h[r]?, m_prog[q.2.2.2.1]? with
      | some (.inr (.inr (c, _))), some M => c == m_own M
      | _, _ => false)
    | _ => false)
  | _ => false
def m_fit (a : Nat) (vs : List Value) : Bool := match m_prog[a]? with
  | some M => decide ((lg_sl vs).length ≤ m_mL M)
  | none => false
def m_R0 (P : mP) : Prop := ∀ (d k j pc : Nat) (lv lv' : mL) (st : List Value) (h : mH) (o : mO) (h' : mH), (∀ q ∈ lv', q ∈ lv) → P d k j pc lv' st h o h' → P d k j pc lv st h o h'
def m_R1 (X : Nat × (Nat → Int32)) (P : mP) : Prop := ∀ (d k j : Nat) (c r : mS) (o : mO) (h' : mH), m_step X j c = some r → P d k j r.1 r.2.1 r.2.2.1 r.2.2.2 o h' → P d k j c.1 c.2.1 c.2.2.1 c.2.2.2 o h'
def m_R2 (P : mP) : Prop := ∀ (d k j pc : Nat) (lv : mL) (v : Int32) (h : mH) (M : mM) (ty : FieldType) (q : mI), m_prog[j]? = some M → m_at j pc = some q → q.2.1 = .ireturn → m_ret M = some ty → narrow ty (.int v) = .int v → P d k j pc lv [.int v] h (.inl (some (.int v))) h
def m_R3 (P : mP) : Prop := ∀ (d k j pc : Nat) (lv : mL) (h : mH) (M : mM) (q : mI), m_prog[j]? = some M → m_at j pc = some q → q.2.1 = .return_ → m_ret M = none → P d k j pc lv [] h (.inl none) h
def m_R5 (P : mP) : Prop := ∀ (d k1 k2 j pc : Nat) (lv : mL) (st vs : List Value) (v : Option Value) (h h1 h' : mH) (o : mO) (q : mI), m_at j pc = some q → m_cal h vs q = true → m_fit q.2.2.2.1 vs = true → m_ctg st ≤ 8 →
  P d k1 q.2.2.2.1 0 (lv_args 0 vs) [] h (.inl v) h1 → P (d + 1) k2 j (pc + 3) lv (v.toList ++ st) h1 o h' → P (d + 1) (k1 + k2) j pc lv (vs.reverse ++ st) h o h'
def m_R6 (P : mP) : Prop := ∀ (d k j pc : Nat) (lv : mL) (st vs : List Value) (h h1 : mH) (x : Nat) (M : mM) (q : mI), m_prog[j]? = some M → m_hh M = [] → m_at j pc = some q → m_cal h vs q = true → m_fit q.2.2.2.1 vs = true → m_ctg st ≤ 8 →
  P d k q.2.2.2.1 0 (lv_args 0 vs) [] h (.inr x) h1 → P (d + 1) k j pc lv (vs.reverse ++ st) h (.inr x) h1
theorem m_at_inv {j pc : Nat} {q : mI} (h : m_at j pc = some q) : ∃ M, m_prog[j]? = some M ∧ q ∈ m_cd M ∧ q.1 = pc := by
  obtain ⟨M, h1, h2⟩ := m_opt_inv h
  exact ⟨M, h1, List.mem_of_find?_eq_some h2, by simpa using List.find?_some h2⟩
theorem m_row {j : Nat} {M : mM} {q : mI} (hM : m_prog[j]? = some M) (hq : q ∈ m_cd M) : decode (m_by M) q.1 = .ok (q.2.1, q.2.2.1) ∧ m_sok (m_own M) (m_mL M) q = true ∧ (m_ln q.2.1 = 0 ∨ q.2.2.1 = m_ln q.2.1) ∧ m_cok q = true := by
  have h0 := List.mem_of_getElem? hM
  have h1 := List.all_eq_true.mp (List.all_eq_true.mp m_sok_all M h0) q hq
  have h2 := List.all_eq_true.mp (List.all_eq_true.mp m_ln_all M h0) q hq
  have h3 := List.all_eq_true.mp (List.all_eq_true.mp m_cok_all M h0) q hq
  exact ⟨m_decs M h0 q hq, h1, by simpa using h2, h3⟩
theorem m_row_ln {M : mM} {q : mI} {n : Nat} (h : m_ln q.2.1 = 0 ∨ q.2.2.1 = m_ln q.2.1) (hn : m_ln q.2.1 = n + 1) (hd : decode (m_by M) q.1 = .ok (q.2.1, q.2.2.1)) : decode (m_by M) q.1 = .ok (q.2.1, n + 1) := by
  rcases h with h | h
  · rw [hn] at h; cases h
  · rw [hn] at h; rw [← h]; exact hd
theorem m_Lv_args (ad : Nat → Nat) : ∀ (vs : List Value) (i : Nat), m_Lv ad (lv_args i vs) = lv_args i (vs.map (m_V ad))
  | [], _ => rfl
  | v :: vs, i => by
    show (i, m_V ad v) :: m_Lv ad (lv_args _ vs) = (i, m_V ad v) :: lv_args _ (vs.map (m_V ad))
    rw [m_Lv_args ad vs, m_V_cat]
theorem m_sl (ad : Nat → Nat) (vs : List Value) : (lg_sl (vs.map (m_V ad))).length = (lg_sl vs).length := by
  induction vs with
  | nil => rfl
  | cons v t ih =>
    have e1 : lg_sl ((v :: t).map (m_V ad)) = (if (m_V ad v).category = 2 then [.val (m_V ad v), .second] else [.val (m_V ad v)]) ++ lg_sl (t.map (m_V ad)) := by simp [lg_sl]
    have e2 : lg_sl (v :: t) = (if v.category = 2 then [.val v, .second] else [.val v]) ++ lg_sl t := by simp [lg_sl]
    rw [e1, e2, List.length_append, List.length_append, ih, m_V_cat]
    by_cases h : v.category = 2 <;> simp [h]
theorem m_ctg_V (ad : Nat → Nat) (st : List Value) : m_ctg (st.map (m_V ad)) = m_ctg st := by
  unfold m_ctg
  rw [List.map_map]
  congr 1
  apply List.map_congr_left
  intro v _
  exact m_V_cat ad v
/-! what the real machine owes -/
section SP
variable (D : va_G) (ad : Nat → Nat) (cI cJ : ClassId) (A : Nat → Prop)
def m_Pc (X : Nat × (Nat → Int32)) (vs : List Value) (h : mH) : Array Value → State → Prop := fun a U => a = (vs.map (m_V ad)).toArray ∧ va_P D m_cl (m_W ad cI cJ h) U.heap ∧ va_D A (m_W ad cI cJ h) ∧ m_EV D ad cI cJ A X U
def m_Qc (o : mO) (h' : mH) : Array Value → State → Outcome → State → Prop := fun _ st oc t => (∃ v, o = .inl v ∧ oc = .returned (v.map (m_V ad)) ∧ va_P D m_cl (m_W ad cI cJ h') t.heap ∧ va_D A (m_W ad cI cJ h')) ∧ va_F A st t
def m_XC (o : mO) (h' : mH) : String → State → State → Prop := fun E st t => (∃ x, o = .inr x ∧ m_en[x]? = some E ∧ va_P D m_cl (m_W ad cI cJ h') t.heap ∧ va_D A (m_W ad cI cJ h')) ∧ va_F A st t
def m_SP (l : Launch) (X : Nat × (Nat → Int32)) : mP := fun d k j pc lv st h o h' => ∀ (p : Program) (e : Env) (R : Room) (s : State) (m : MethodId) (args : Array Value) (below : List Frame) (meth : Method) (c : Code) (H : Heap) (locs : List Loc) (cells slots : Nat) (ls : Array Slot) (M : mM) (mc ms : Nat),
  m_prog[j]? = some M → p.tables.exec = Jvm.exec → c.code = m_by M → c.maxLocals = m_mL M → c.exceptionTable.toList = tableOf (m_hh M) → meth.locks = false → meth.sig.returnType = m_ret M → s.vm.findClass (m_y M).cls = some m.cls →
  (∀ w ∈ m_tb, w.before args s = true) → m_EV D ad cI cJ A X s → d + 12 ≤ R.frames → 40 * d + 200 ≤ R.locals → mc ≤ R.cells → ms ≤ R.slots → cells + k ≤ mc → slots + 6 * k ≤ ms →
  va_P D m_cl (m_W ad cI cJ h) H → va_D A (m_W ad cI cJ h) → va_S A s.heap H locs → lv_has ls (m_mL M) (m_Lv ad lv) →
  W p l e R s m args below meth c H locs cells slots (vx_MQ below (m_Qc D ad cI cJ A o h') (m_XC D ad cI cJ A o h') args s mc ms A) (F0 m pc ls (st.map (m_V ad)))
end SP
section Rules
variable {l : Launch} {D : va_G} {ad : Nat → Nat} {cI cJ : ClassId} {A : Nat → Prop} {X : Nat × (Nat → Int32)}
theorem m_sp0 : m_R0 (m_SP D ad cI cJ A l X) := by
  intro d k j pc lv lv' st h o h' hs hP p e R s m args below meth c H locs cells slots ls M mc ms hM hx hb hml htab hlk hret hown hts hE hf hlo hmc hms hc1 hc2 hPw hD hS hl
  exact hP p e R s m args below meth c H locs cells slots ls M mc ms hM hx hb hml htab hlk hret hown hts hE hf hlo hmc hms hc1 hc2 hPw hD hS (m_has_sub hl hs)
theorem m_sp1 : m_R1 X (m_SP D ad cI cJ A l X) := by
  intro d k j cc r o h' hs hP
  obtain ⟨pc, lv, st, h⟩ := cc
  dsimp only at hP ⊢
  intro p e R s m args below meth c H locs cells slots ls M mc ms hM hx hb hml htab hlk hret hown hts hE hf hlo hmc hms hc1 hc2 hPw hD hS hl
  obtain ⟨q, hq, hr⟩ := m_opt_inv hs
  obtain ⟨M2, hM2, hqm, hpc⟩ := m_at_inv hq
  cases Option.some.inj (hM.symm.trans hM2)
  obtain ⟨hd, hok, hln, -⟩ := m_row hM hqm
  dsimp only at hpc hr
  subst hpc
  exact m_locsim hx hb (m_fact_of hM).2.2.2.1 hown hts hE hd hok hln hr hPw hD hS hl (fun H1 locs1 ls1 g1 g2 g3 g4 => hP p e R s m args below meth c H1 locs1 cells slots ls1 M mc ms hM hx hb hml htab hlk hret hown hts hE hf hlo hmc hms hc1 hc2 g1 g2 g3 g4)
theorem m_sp2 : m_R2 (m_SP D ad cI cJ A l X) := by
  intro d k j pc lv v h M1 ty q hM1 hq hi hty hn p e R s m args below meth c H locs cells slots ls M mc ms hM hx hb hml htab hlk hret hown hts hE hf hlo hmc hms hc1 hc2 hPw hD hS hl
  cases Option.some.inj (hM.symm.trans hM1)
  obtain ⟨M2, hM2, hqm, rfl⟩ := m_at_inv hq
  cases Option.some.inj (hM.symm.trans hM2)
  obtain ⟨hd, -, hln, -⟩ := m_row hM hqm
  have hd1 := m_row_ln (n := 0) hln (by rw [hi]; rfl) hd
  rw [hi] at hd1
  exact vx_ret (W.widen (k := mc) (n := ms) (by omega) (by omega) (W.zret hx hb (hret.trans hty) hn (fun t ht hw => ⟨⟨some (.int v), rfl, rfl, by rw [ht]; exact hPw, hD⟩, hS.F ht⟩) hS.2.2 hd1 hlk))
theorem m_sp3 : m_R3 (m_SP D ad cI cJ A l X) := by
  intro d k j pc lv h M1 q hM1 hq hi hty p e R s m args below meth c H locs cells slots ls M mc ms hM hx hb hml htab hlk hret hown hts hE hf hlo hmc hms hc1 hc2 hPw hD hS hl
  cases Option.some.inj (hM.symm.trans hM1)
  obtain ⟨M2, hM2, hqm, rfl⟩ := m_at_inv hq
  cases Option.some.inj (hM.symm.trans hM2)
  obtain ⟨hd, -, hln, -⟩ := m_row hM hqm
  have hd1 := m_row_ln (n := 0) hln (by rw [hi]; rfl) hd
  rw [hi] at hd1
  exact vx_ret (W.widen (k := mc) (n := ms) (by omega) (by omega) (W.vret hx hb (hret.trans hty) (fun t ht hw => ⟨⟨none, rfl, rfl, by rw [ht]; exact hPw, hD⟩, hS.F ht⟩) hS.2.2 hd1 hlk))
end Rules
