/-! the least relation under the rules, and that the real machine does what it says -/
def m_R12 (P : mP) : Prop := ∀ (d d' k k' j pc : Nat) (lv : mL) (st : List Value) (h : mH) (o : mO) (h' : mH), d ≤ d' → k ≤ k' → P d k j pc lv st h o h' → P d' k' j pc lv st h o h'
def m_Cl (X : Nat × (Nat → Int32)) (P : mP) : Prop := m_R0 P ∧ m_R1 X P ∧ m_R2 P ∧ m_R3 P ∧ m_R4 P ∧ m_R5 P ∧ m_R6 P ∧ m_R7 P ∧ m_R8 P ∧ m_R9 P ∧ m_R10 P ∧ m_R11 P ∧ m_R12 P ∧ m_R13 P
def m_Run (X : Nat × (Nat → Int32)) : mP := fun d k j pc lv st h o h' => ∀ P : mP, m_Cl X P → P d k j pc lv st h o h'
section Least
variable {l : Launch} {D : va_G} {ad : Nat → Nat} {cI cJ : ClassId} {A : Nat → Prop} {X : Nat × (Nat → Int32)}
theorem m_sp12 : m_R12 (m_SP D ad cI cJ A l X) := by
  intro d d' k k' j pc lv st h o h' h1 h2 IH p e R s m args below meth c H locs cells slots ls M mc ms hM hx hb hml htab hlk hret hown hts hE hf hlo hmc hms hc1 hc2 hPw hD hS hl
  exact IH p e R s m args below meth c H locs cells slots ls M mc ms hM hx hb hml htab hlk hret hown hts hE (by omega) (by omega) hmc hms (by omega) (by omega) hPw hD hS hl
theorem m_sim (hnt : l.stackTraces = false) {d k j pc : Nat} {lv : mL} {st : List Value} {h : mH} {o : mO} {h' : mH} (hr : m_Run X d k j pc lv st h o h') : m_SP D ad cI cJ A l X d k j pc lv st h o h' :=
  hr _ ⟨m_sp0, m_sp1, m_sp2, m_sp3, m_sp4 hnt, m_sp5, m_sp6, m_sp7, m_sp8, m_sp9, m_sp10, m_sp11, m_sp12, m_sp13⟩
theorem m_r0 : m_R0 (m_Run X) := fun d k j pc lv lv' st h o h' hs hr P hP => hP.1 d k j pc lv lv' st h o h' hs (hr P hP)
theorem m_r1 : m_R1 X (m_Run X) := fun d k j c r o h' hs hr P hP => hP.2.1 d k j c r o h' hs (hr P hP)
theorem m_r2 : m_R2 (m_Run X) := fun d k j pc lv v h M ty q h1 h2 h3 h4 h5 P hP => hP.2.2.1 d k j pc lv v h M ty q h1 h2 h3 h4 h5
theorem m_r3 : m_R3 (m_Run X) := fun d k j pc lv h M q h1 h2 h3 h4 P hP => hP.2.2.2.1 d k j pc lv h M q h1 h2 h3 h4
theorem m_r4 : m_R4 (m_Run X) := fun d k j pc ik lv st h M q h1 h2 h3 h4 h5 h6 P hP => hP.2.2.2.2.1 d k j pc ik lv st h M q h1 h2 h3 h4 h5 h6
theorem m_r5 : m_R5 (m_Run X) := fun d k1 k2 j pc lv st vs v h h1 h' o q a1 a2 a3 a4 r1 r2 P hP => hP.2.2.2.2.2.1 d k1 k2 j pc lv st vs v h h1 h' o q a1 a2 a3 a4 (r1 P hP) (r2 P hP)
theorem m_r6 : m_R6 (m_Run X) := fun d k j pc lv st vs h h1 x M q a1 a2 a3 a4 a5 a6 r P hP => hP.2.2.2.2.2.2.1 d k j pc lv st vs h h1 x M q a1 a2 a3 a4 a5 a6 (r P hP)
theorem m_r7 : m_R7 (m_Run X) := fun d k1 k2 j pc hp i lv st vs h h1 h' x o M q r a1 a2 a3 a4 a5 a6 a7 a8 a9 r1 r2 P hP => hP.2.2.2.2.2.2.2.1 d k1 k2 j pc hp i lv st vs h h1 h' x o M q r a1 a2 a3 a4 a5 a6 a7 a8 a9 (r1 P hP) (r2 P hP)
theorem m_r8 : m_R8 (m_Run X) := fun d k j pc idx q0 q1 n0 n1 lv st h f g sp dp n o h' q a1 a2 a3 a4 a5 a6 a7 a8 a9 a10 a11 r P hP => hP.2.2.2.2.2.2.2.2.1 d k j pc idx q0 q1 n0 n1 lv st h f g sp dp n o h' q a1 a2 a3 a4 a5 a6 a7 a8 a9 a10 a11 (r P hP)
theorem m_r9 : m_R9 (m_Run X) := fun d k j pc idx lv st h x y o h' q a1 a2 a3 a4 r P hP => hP.2.2.2.2.2.2.2.2.2.1 d k j pc idx lv st h x y o h' q a1 a2 a3 a4 (r P hP)
theorem m_r10 : m_R10 (m_Run X) := fun d k j pc idx n lv st h o h' q a1 a2 a3 a4 a5 r P hP => hP.2.2.2.2.2.2.2.2.2.2.1 d k j pc idx n lv st h o h' q a1 a2 a3 a4 a5 (r P hP)
theorem m_r11 : m_R11 (m_Run X) := fun d k j pc idx n i lv st h o h' q a1 a2 a3 a4 a5 a6 a7 r P hP => hP.2.2.2.2.2.2.2.2.2.2.2.1 d k j pc idx n i lv st h o h' q a1 a2 a3 a4 a5 a6 a7 (r P hP)
theorem m_r12 : m_R12 (m_Run X) := fun d d' k k' j pc lv st h o h' h1 h2 r P hP => hP.2.2.2.2.2.2.2.2.2.2.2.2.1 d d' k k' j pc lv st h o h' h1 h2 (r P hP)
theorem m_r13 : m_R13 (m_Run X) := fun d k j pc idx lv st h x y o h' q a1 a2 a3 a4 r P hP => hP.2.2.2.2.2.2.2.2.2.2.2.2.2 d k j pc idx lv st h x y o h' q a1 a2 a3 a4 (r P hP)
/-- a stretch of rows -/
def m_xs (X : Nat × (Nat → Int32)) : List mI → mS → Option mS
  | [], c => some c
  | q :: t, c => if q.1 = c.1 then m_opt (m_loc m_ft X q.2.1 q.2.2.2.1 q.2.2.2.2 c.1 c.2.1 c.2.2.1 c.2.2.2) (m_xs X t) else none
theorem m_go {L : List mI} {d k j pc pc1 : Nat} {lv lv1 : mL} {st st1 : List Value} {h h1 h' : mH} {o : mO} (hL : L.all (fun q => decide (m_at j q.1 = some q)) = true) (hx : m_xs X L (pc, lv, st, h) = some (pc1, lv1, st1, h1)) (hk : m_Run X d k j pc1 lv1 st1 h1 o h') : m_Run X d k j pc lv st h o h' := by
  induction L generalizing pc lv st h with
  | nil => cases hx; exact hk
  | cons q t ih =>
    have hL2 := List.all_eq_true.mp hL
    obtain ⟨e1, hx⟩ := m_if_inv hx
    obtain ⟨r, e2, hx⟩ := m_opt_inv hx
    obtain ⟨pc2, lv2, st2, h2⟩ := r
    have e3 : m_at j q.1 = some q := of_decide_eq_true (hL2 q List.mem_cons_self)
    dsimp only at e1
    refine m_r1 d k j (pc, lv, st, h) (pc2, lv2, st2, h2) o h' ?_ (ih (List.all_eq_true.mpr (fun z hz => hL2 z (List.mem_cons_of_mem _ hz))) hx)
    show m_opt (m_at j pc) _ = _
    rw [← e1, e3]
    rw [e1]
    exact e2
theorem m_gob {L : List mI} {c : Prop} [Decidable c] {d k j pc t f : Nat} {lv lv1 : mL} {st st1 : List Value} {h h1 h' : mH} {o : mO} (hL : L.all (fun q => decide (m_at j q.1 = some q)) = true) (hx : m_xs X L (pc, lv, st, h) = some (if c then t else f, lv1, st1, h1)) (kt : c → m_Run X d k j t lv1 st1 h1 o h') (kf : ¬ c → m_Run X d k j f lv1 st1 h1 o h') : m_Run X d k j pc lv st h o h' := by
  by_cases hc : c
  · rw [if_pos hc] at hx
    exact m_go hL hx (kt hc)
  · rw [if_neg hc] at hx
    exact m_go hL hx (kf hc)
theorem m_go1 {q : mI} {d k j pc pc1 : Nat} {lv lv1 : mL} {st st1 : List Value} {h h1 h' : mH} {o : mO} (hL : m_at j pc = some q) (hx : m_loc m_ft X q.2.1 q.2.2.2.1 q.2.2.2.2 pc lv st h = some (pc1, lv1, st1, h1)) (hk : m_Run X d k j pc1 lv1 st1 h1 o h') : m_Run X d k j pc lv st h o h' := by
  refine m_r1 d k j (pc, lv, st, h) (pc1, lv1, st1, h1) o h' ?_ hk
  show m_opt (m_at j pc) _ = _
  rw [hL]
  exact hx
def m_rok (j pc : Nat) (ty : Option FieldType) : Bool := match m_prog[j]?, m_at j pc with
  | some M, some q => decide (m_ret M = ty) && (match ty, q.2.1 with
    | some _, .ireturn => true
    | none, .return_ => true
    | _, _ => false)
  | _, _ => false
theorem m_rok_inv {j pc : Nat} {ty : Option FieldType} (h : m_rok j pc ty = true) : ∃ M q, m_prog[j]? = some M ∧ m_at j pc = some q ∧ m_ret M = ty ∧ ((∃ t, ty = some t ∧ q.2.1 = .ireturn) ∨ (ty = none ∧ q.2.1 = .return_)) := by
  unfold m_rok at h
  split at h
  · rename_i M q h1 h2
    rw [Bool.and_eq_true, decide_eq_true_eq] at h
    refine ⟨M, q, h1, h2, h.1, ?_⟩
    have h3 := h.2
    split at h3
    · rename_i t _ hq; exact Or.inl ⟨_, rfl, hq⟩
    · rename_i hq; exact Or.inr ⟨rfl, hq⟩
    · cases h3
  · cases h
theorem m_ri {d k j pc : Nat} {lv : mL} {v : Int32} {h : mH} (hc : m_rok j pc (some .int) = true) : m_Run X d k j pc lv [.int v] h (.inl (some (.int v))) h := by
  obtain ⟨M, q, h1, h2, h3, ⟨t, -, h4⟩ | ⟨h4, -⟩⟩ := m_rok_inv hc
  · exact m_r2 d k j pc lv v h M .int q h1 h2 h4 h3 rfl
  · cases h4
theorem m_rz {d k j pc : Nat} {lv : mL} {v : Int32} {h : mH} (hc : m_rok j pc (some .boolean) = true) (hv : v = 0 ∨ v = 1) : m_Run X d k j pc lv [.int v] h (.inl (some (.int v))) h := by
  obtain ⟨M, q, h1, h2, h3, ⟨t, -, h4⟩ | ⟨h4, -⟩⟩ := m_rok_inv hc
  · exact m_r2 d k j pc lv v h M .boolean q h1 h2 h4 h3 (by rcases hv with rfl | rfl <;> decide)
  · cases h4
theorem m_rv {d k j pc : Nat} {lv : mL} {h : mH} (hc : m_rok j pc none = true) : m_Run X d k j pc lv [] h (.inl none) h := by
  obtain ⟨M, q, h1, h2, h3, ⟨t, h4, -⟩ | ⟨-, h4⟩⟩ := m_rok_inv hc
  · cases h4
  · exact m_r3 d k j pc lv h M q h1 h2 h4 h3
theorem m_ca {d d1 k j pc a : Nat} {lv : mL} {st vs : List Value} {v : Option Value} {h h1 h' : mH} {o : mO} {q : mI} (hq : m_at j pc = some q) (ha : q.2.2.2.1 = a) (hcal : m_cal h vs q = true) (hfit : m_fit a vs = true) (hst : Nat.ble (m_ctg st) 8 = true) (hd : d1 ≤ d)
    (r1 : m_Run X d1 0 a 0 (lv_args 0 vs) [] h (.inl v) h1) (r2 : m_Run X (d + 1) k j (pc + 3) lv (v.toList ++ st) h1 o h') : m_Run X (d + 1) k j pc lv (vs.reverse ++ st) h o h' := by
  subst ha
  have r := m_r5 d 0 k j pc lv st vs v h h1 h' o q hq hcal hfit (Nat.le_of_ble_eq_true hst) (m_r12 _ _ _ _ _ _ _ _ _ _ _ hd (Nat.le_refl 0) r1) r2
  rw [Nat.zero_add] at r
  exact r
theorem m_ca1 {d d1 j pc a : Nat} {lv : mL} {st vs : List Value} {v : Option Value} {h h1 h' : mH} {o : mO} {q : mI} (hq : m_at j pc = some q) (ha : q.2.2.2.1 = a) (hcal : m_cal h vs q = true) (hfit : m_fit a vs = true) (hst : Nat.ble (m_ctg st) 8 = true) (hd : d1 ≤ d)
    (r1 : m_Run X d1 1 a 0 (lv_args 0 vs) [] h (.inl v) h1) (r2 : m_Run X (d + 1) 0 j (pc + 3) lv (v.toList ++ st) h1 o h') : m_Run X (d + 1) 1 j pc lv (vs.reverse ++ st) h o h' := by
  subst ha
  exact m_r5 d 1 0 j pc lv st vs v h h1 h' o q hq hcal hfit (Nat.le_of_ble_eq_true hst) (m_r12 _ _ _ _ _ _ _ _ _ _ _ hd (Nat.le_refl 1) r1) r2
def m_noh (j : Nat) : Bool := match m_prog[j]? with
  | some M => (m_hh M).isEmpty
  | none => false
theorem m_noh_inv {j : Nat} (h : m_noh j = true) : ∃ M, m_prog[j]? = some M ∧ m_hh M = [] := by
  unfold m_noh at h
  split at h
  · rename_i M h1
    exact ⟨M, h1, List.isEmpty_iff.mp h⟩
  · cases h
theorem m_cx {d d1 j pc a x : Nat} {lv : mL} {st vs : List Value} {h h1 : mH} {q : mI} (hq : m_at j pc = some q) (hn : m_noh j = true) (ha : q.2.2.2.1 = a) (hcal : m_cal h vs q = true) (hfit : m_fit a vs = true) (hst : Nat.ble (m_ctg st) 8 = true) (hd : d1 ≤ d)
    (r1 : m_Run X d1 1 a 0 (lv_args 0 vs) [] h (.inr x) h1) : m_Run X (d + 1) 1 j pc lv (vs.reverse ++ st) h (.inr x) h1 := by
  subst ha
  obtain ⟨M, h1, h2⟩ := m_noh_inv hn
  exact m_r6 d 1 j pc lv st vs h _ x M q h1 h2 hq hcal hfit (Nat.le_of_ble_eq_true hst) (m_r12 _ _ _ _ _ _ _ _ _ _ _ hd (Nat.le_refl 1) r1)
def m_tok (j pc x : Nat) : Bool := match m_at j pc with
  | some q => decide (q.2.2.2.1 = x) && decide (x < 4) && (match q.2.1 with | .new _ => true | _ => false)
  | none => false
theorem m_th {d j pc x : Nat} {lv : mL} {st : List Value} {h : mH} (hc : m_tok j pc x = true) (hn : m_noh j = true) (hst : Nat.ble (m_ctg st) 8 = true) : m_Run X d 1 j pc lv st h (.inr x) h := by
  obtain ⟨M, h1, h2⟩ := m_noh_inv hn
  unfold m_tok at hc
  cases hq : m_at j pc with
  | none => rw [hq] at hc; cases hc
  | some q =>
    rw [hq] at hc
    simp only [Bool.and_eq_true, decide_eq_true_eq] at hc
    obtain ⟨⟨rfl, h4⟩, h5⟩ := hc
    split at h5
    · rename_i ik hi
      exact m_r4 d 0 j pc ik lv st h M q h1 h2 hq hi h4 (Nat.le_of_ble_eq_true hst)
    · cases h5
/-- a call whose exception is taken here -/
def m_hok (j pc x hp i len : Nat) : Bool := match m_prog[j]?, m_at j hp with
  | some M, some r => decide (m_hnd (m_own M) pc x (m_hh M) = some hp) && decide (m_ast r = some i) && decide (i < m_mL M) && decide (r.2.2.1 = len)
  | _, _ => false
theorem m_ct {d d1 j pc a x hp i len : Nat} {lv lv1 : mL} {st vs : List Value} {h h1 h' : mH} {o : mO} {q : mI} (hq : m_at j pc = some q) (hh : m_hok j pc x hp i len = true) (ha : q.2.2.2.1 = a) (hcal : m_cal h vs q = true) (hfit : m_fit a vs = true) (hst : Nat.ble (m_ctg st) 8 = true) (hd : d1 ≤ d)
    (r1 : m_Run X d1 1 a 0 (lv_args 0 vs) [] h (.inr x) h1) (hlv : m_drp lv i = lv1) (r2 : m_Run X (d + 1) 0 j (hp + len) lv1 [] h1 o h') : m_Run X (d + 1) 1 j pc lv (vs.reverse ++ st) h o h' := by
  subst ha
  subst hlv
  unfold m_hok at hh
  split at hh
  · rename_i M r h2 h3
    simp only [Bool.and_eq_true, decide_eq_true_eq] at hh
    obtain ⟨⟨⟨h4, h5⟩, h6⟩, rfl⟩ := hh
    exact m_r7 d 1 0 j pc hp i lv st vs h h1 h' x o M q r h2 h4 hq hcal hfit (Nat.le_of_ble_eq_true hst) h3 h5 h6 (m_r12 _ _ _ _ _ _ _ _ _ _ _ hd (Nat.le_refl 1) r1) r2
  · cases hh
theorem m_pick {lv lv' : mL} (ks : List Nat) (h : lv_pick lv ks = lv') : ∀ q ∈ lv', q ∈ lv := by
  intro q hq
  rw [← h] at hq
  obtain ⟨k, -, hk⟩ := List.mem_filterMap.mp hq
  exact List.mem_of_getElem? hk
theorem m_ne {x k : Int32} {z : Int} (hk : k.toInt = z) (h : ¬ x = k) : z ≠ x.toInt := fun e => h (Int32.toInt_inj.mp (by rw [hk]; exact e.symm))
theorem m_lkd {d x : Int} : ∀ (ps : List (Int × Int)), (∀ p ∈ ps, p.1 ≠ x) → Op.lookupswitch.offset ps d x = d
  | [], _ => Op.lookupswitch.offset_nil ..
  | (a, o) :: t, h => by
    rw [Op.lookupswitch.offset_cons, if_neg (h (a, o) List.mem_cons_self)]
    exact m_lkd t (fun q hq => h q (List.mem_cons_of_mem _ hq))
end Least
