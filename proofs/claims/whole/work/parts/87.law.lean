/-! the law: from its entry to its loop -/
theorem kw_1 : (Cond.initialized RX6) ∈ m_tb := m_tb_t (i := 1) rfl rfl
theorem kw_7 : (Cond.initialized RX7) ∈ m_tb := m_tb_t (i := 7) rfl rfl
theorem kw_27 : (Cond.classLink "GasContractLaw" 8 RX6) ∈ m_tb := m_tb_t (i := 27) rfl rfl
theorem kw_28 : (Cond.instantiable RX6 8) ∈ m_tb := m_tb_t (i := 28) rfl rfl
theorem kw_29 : (Cond.methodLink "GasContractLaw" 35 ⟨"GasContract", "<init>", "()V"⟩) ∈ m_tb := m_tb_t (i := 29) rfl rfl
theorem kw_30 : (Cond.instanceMethod ⟨"GasContract", "<init>", "()V"⟩) ∈ m_tb := m_tb_t (i := 30) rfl rfl
theorem kw_31 : (Cond.code ⟨"GasContract", "<init>", "()V"⟩ prog_1_method_1_code 1 none) ∈ m_tb := m_tb_t (i := 31) rfl rfl
set_option maxRecDepth 40000 in
theorem kw_1024 : (Cond.classLink "GasContractLaw" 36 RX7) ∈ m_tb := m_tb_t (i := 1024) rfl rfl
set_option maxRecDepth 40000 in
theorem kw_1025 : (Cond.instantiable RX7 47) ∈ m_tb := m_tb_t (i := 1025) rfl rfl
set_option maxRecDepth 40000 in
theorem kw_1026 : (Cond.methodLink "GasContractLaw" 38 ⟨"GasContractModel", "<init>", "()V"⟩) ∈ m_tb := m_tb_t (i := 1026) rfl rfl
set_option maxRecDepth 40000 in
theorem kw_1027 : (Cond.instanceMethod ⟨"GasContractModel", "<init>", "()V"⟩) ∈ m_tb := m_tb_t (i := 1027) rfl rfl
set_option maxRecDepth 40000 in
theorem kw_1028 : (Cond.code ⟨"GasContractModel", "<init>", "()V"⟩ prog_9_method_1_code 1 none) ∈ m_tb := m_tb_t (i := 1028) rfl rfl
set_option maxRecDepth 40000 in
theorem kw_1443 : (Cond.arrayClass .long) ∈ m_tb := m_tb_t (i := 1443) rfl rfl
theorem dL_0 : decode code 0 = .ok (.new 8, 3) := by decide +kernel
theorem dL_3 : decode code 3 = .ok (.dup, 1) := by decide +kernel
theorem dL_4 : decode code 4 = .ok (.invokespecial 35, 3) := by decide +kernel
theorem dL_7 : decode code 7 = .ok (.astore_n 1, 1) := by decide +kernel
theorem dL_8 : decode code 8 = .ok (.new 36, 3) := by decide +kernel
theorem dL_11 : decode code 11 = .ok (.dup, 1) := by decide +kernel
theorem dL_12 : decode code 12 = .ok (.invokespecial 38, 3) := by decide +kernel
theorem dL_15 : decode code 15 = .ok (.astore_n 2, 1) := by decide +kernel
theorem dL_16 : decode code 16 = .ok (.iconst 1, 1) := by decide +kernel
theorem dL_17 : decode code 17 = .ok (.newarray .long, 2) := by decide +kernel
theorem dL_19 : decode code 19 = .ok (.astore_n 3, 1) := by decide +kernel
theorem dL_20 : decode code 20 = .ok (.iconst 0, 1) := by decide +kernel
theorem dL_21 : decode code 21 = .ok (.istore 4, 2) := by decide +kernel
def z1 : Nat → Int64 := fun _ => 0
def g0 : mG := (fun i => if i = 6 then (-1) else 0, fun _ => z0, 0, z1)
theorem J0 : J g0 := by
  refine ⟨⟨0, rfl, rfl, by omega, rfl⟩, ⟨0, rfl, rfl, by omega, rfl, rfl, ?_⟩, ⟨rfl, rfl, rfl⟩, Or.inl ⟨rfl, rfl⟩⟩
  intro i j hi
  omega
theorem k_tab {w : Cond} (h : w ∈ k_nw) : w.onTables = true := by
  have h2 := (List.mem_filter.mp h).2
  cases w <;> first | rfl | exact absurd h2 (by simp [k_isM])
section Kl
variable {p : Program} {l : Launch} {e : Env} {R : Room} {s : State} {m : MethodId} {args : Array Value} {below : List Frame} {meth : Method} {c : Jvm.ClassFile.Code} {H : Heap} {locs : List Loc} {cells slots : Nat} {Q : State → Prop} {pc : Nat} {ls : Array Slot} {rest : List Value} {cc : ByteArray} {D : va_G} {cI cJ : ClassId} {A : Nat → Prop} {H0 : Heap} {ws : va_W}
theorem kn_long {n : Int32} {N : Nat} (hexec : p.tables.exec = Jvm.exec) (hb : c.code = cc) (harr : (Cond.arrayClass .long).before args s = true) (hK : va_K D m_cl [(cI, .int), (cJ, .long)] s) (hP : va_P D m_cl ws H) (hD : va_D A ws) (hS : va_S A H0 H locs) (hA : ∀ q, H0.size ≤ q → A q) (hn : ¬ n < 0) (hN : n.toNatClampNeg = N) (hbytes : N * componentBytes .long ≤ 536870912) (hcells : cells + 1 ≤ R.cells) (hslots : slots + N ≤ R.slots) (hdg : decode cc pc = .ok (.newarray .long, 2))
    (kk : ∀ (q : Nat) (H1 : Heap), va_P D m_cl (ws ++ [(q, .inl (cJ, N, .inr (.inl z1)))]) H1 → va_D A (ws ++ [(q, .inl (cJ, N, .inr (.inl z1)))]) → va_S A H0 H1 locs → W p l e R s m args below meth c H1 locs (cells + 1) (slots + N) Q (F0 m (pc + 2) ls (.ref q :: rest))) : W p l e R s m args below meth c H locs cells slots Q (F0 m pc ls (.int n :: rest)) := by
  refine va_newa (atype := .long) (ty := .long) (a0 := (N, .inr (.inl z1))) hexec hb harr rfl hK hP hD hS hA (fun _ => rfl) hn hN hbytes hcells hslots hdg (fun q cA H1 hK1 hP1 hD1 hS1 => ?_)
  have e1 : s.vm.findClass ("[" ++ FieldType.long.toString) = some cA := (hK1.2 2 (cA, .long) rfl).2
  have e2 : s.vm.findClass ("[" ++ FieldType.long.toString) = some cJ := (hK.2 1 (cJ, .long) rfl).2
  cases Option.some.inj (e1.symm.trans e2)
  exact kk q H1 hP1 hD1 hS1
end Kl
/-! THE CLAIM OUT OF ONE WALK OF THE LAW'S BODY. Your part is whole_start (and what it stands on); all else here is the same for every law, but numbers. -/
def R_law : String := "GasContractLaw"
def lw_P (b : Addr) (xs : List Int32) (args : Array Value) (s : State) : Prop := args = #[.ref b] ∧ s.IntsAt b xs ∧ xs.length ≤ 3072 ∧ (Jvm.Cond.and given_1 narrow_1).before args s = true
def lw_Q (_ : Array Value) (s : State) (o : Outcome) (t : State) : Prop := o = .returned (some (.int 1)) ∧ Framed s o t [] 601024 7293034
def lw_Z (below : List Frame) (a : Array Value) (s : State) : State → Prop := fun t => ∃ o, t.status = .running ∧ Ended t below o ∧ lw_Q a s o t
/-- what holds at the law's entry: the machine, the code, the tables' words (any of lw_tbl by 'hts w (by decide +kernel)'), the script of L ints xs at the cell b, what the Statement gives of the start (any of its parts by flat_of_before) -/
def lw_At (p : Program) (s : State) (m : MethodId) (meth : Method) (c : Jvm.ClassFile.Code) (b L : Nat) (xs : Nat → Int32) : Prop :=
  p.tables.exec = Jvm.exec ∧ c.code = code ∧ meth.sig.returnType = ret ∧ c.maxLocals = 7 ∧ s.vm.findClass R_law = some m.cls ∧ (∀ w ∈ lw_tbl, w.before #[Value.ref b] s = true) ∧ va_X b L xs s s.heap ∧ b < s.heap.size ∧ meth.locks = false ∧ c.exceptionTable.toList = [] ∧ (Jvm.Cond.and given_1 narrow_1).before #[Value.ref b] s = true
theorem law_end {p : Program} {l : Launch} {e : Env} {s : State} {m : MethodId} {below : List Frame} {meth : Method} {c : Jvm.ClassFile.Code} {b : Nat} {H : Heap} {locs : List Loc} {cells slots : Nat} {g : JFrame} {D : va_G} {ad : Nat → Nat} {cI cJ : ClassId} {h' : mH}
    (k : W p l e room_1 s m #[Value.ref b] below meth c H locs cells slots (vx_MQ below (m_Qc D ad cI cJ (fun q : Nat => s.heap.size ≤ q) (.inl (some (.int 1))) h') (m_XC D ad cI cJ (fun q : Nat => s.heap.size ≤ q) (.inl (some (.int 1))) h') #[Value.ref b] s 601024 7293034 (fun q : Nat => s.heap.size ≤ q)) g) : W p l e room_1 s m #[Value.ref b] below meth c H locs cells slots (lw_Z below #[Value.ref b] s) g := by
  intro T hT X
  obtain ⟨t, a1, oc, b1, b2, b3⟩ := k T hT X
  rcases b3 with ⟨⟨⟨v, hv, ho, -⟩, -⟩, L, ⟨f1, f2, f3⟩, hL⟩ | ⟨q, -, E, ce, L, ⟨⟨x, hx, -⟩, -⟩, -⟩
  · cases hv
    refine ⟨t, a1, oc, b1, b2, ho, f1, f2, ?_⟩
    obtain ⟨g1, g2, g3, g4, g5, g6⟩ := f3
    refine ⟨g1, g2, g3, g4, g5, fun a c ha => ?_⟩
    obtain ⟨c', k1, k2, k3, k4⟩ := g6 a c ha
    refine ⟨c', k1, k2, k3, fun i _ => k4 i (fun hm => ?_)⟩
    have h1 := hL _ hm
    have h2 := (Array.getElem?_eq_some_iff.mp ha).1
    exact absurd h1 (Nat.not_le.mpr h2)
  · cases hx
theorem law_go {p : Program} {e : Env} {s : State} {m : MethodId} {below : List Frame} {meth : Method} {c : Jvm.ClassFile.Code} (l : Launch) (hnt : l.stackTraces = false) {b L : Nat} {xs : Nat → Int32} {D : va_G} {cI cJ : ClassId} {Q : List Nat} {sA sV : Nat → Nat} {H : Heap} {locs : List Loc} {cells slots : Nat} {ls : Array Slot} (hL : L ≤ 3072) (C0 : lw_At p s m meth c b L xs) (hE : m_EV D (adF Q b sA sV) cI cJ (fun q : Nat => s.heap.size ≤ q) (L, xs) s) (hP : va_P D m_cl (m_W (adF Q b sA sV) cI cJ (hO 16 g0)) H) (hD : va_D (fun q : Nat => s.heap.size ≤ q) (m_W (adF Q b sA sV) cI cJ (hO 16 g0))) (hS : va_S (fun q : Nat => s.heap.size ≤ q) s.heap H locs) (hc : cells + 600 ≤ 601024) (hs : slots + 6 * 600 ≤ 7293034) (hl : lv_has ls 7 [(0, .ref b), (1, .ref (Q.getD 0 0)), (2, .ref (Q.getD 7 0)), (3, .ref (Q.getD 56 0)), (4, .int 0)]) : W p l e room_1 s m #[Value.ref b] below meth c H locs cells slots (lw_Z below #[Value.ref b] s) (F0 m 23 ls []) := by
  obtain ⟨hx, hb, hr, hml, hown, hts0, hX, hbl, hlocks, htab, hgv⟩ := C0
  have hts : ∀ w ∈ m_tb, w.before #[Value.ref b] s = true := fun w hw => hts0 w (List.mem_filter.mp hw).1
  obtain ⟨g1, hg1⟩ := p_law (X := (L, xs)) (n := 2000000) (by omega) hL 600 0 g0 J0 (by show L < _; omega) (by omega) (by omega)
  obtain ⟨h1, r1⟩ := Fr157_23 (X := (L, xs)) (n := 2000000) 600 (nI 0) g0 g1 _ 16 hg1
  have hM : m_prog[157]? = some mM157 := rfl
  have hb' : c.code = m_by mM157 := hb
  have hml' : c.maxLocals = m_mL mM157 := hml
  have htab' : c.exceptionTable.toList = tableOf (m_hh mM157) := htab
  have hr' : meth.sig.returnType = m_ret mM157 := hr
  have hown' : s.vm.findClass (m_y mM157).cls = some m.cls := hown
  have hl' : lv_has ls (m_mL mM157) (m_Lv (adF Q b sA sV) [(0, .ref m_scr), (1, .ref 0), (2, .ref 7), (3, .ref 56), (4, .int (nI 0))]) := by
    have e : m_Lv (adF Q b sA sV) [(0, .ref m_scr), (1, .ref 0), (2, .ref 7), (3, .ref 56), (4, .int (nI 0))] = [(0, .ref (adF Q b sA sV 1000000)), (1, .ref (adF Q b sA sV 0)), (2, .ref (adF Q b sA sV 7)), (3, .ref (adF Q b sA sV 56)), (4, .int 0)] := rfl
    rw [e, adF_b]
    exact hl
  have f1 : 400 + 12 ≤ room_1.frames := Nat.le_of_ble_eq_true rfl
  have f2 : 40 * 400 + 200 ≤ room_1.locals := Nat.le_of_ble_eq_true rfl
  have f3 : 601024 ≤ room_1.cells := Nat.le_of_ble_eq_true rfl
  have f4 : 7293034 ≤ room_1.slots := Nat.le_of_ble_eq_true rfl
  exact law_end (m_sim hnt r1 p e room_1 s m #[Value.ref b] below meth c H locs cells slots ls mM157 601024 7293034 hM hx hb' hml' htab' hlocks hr' hown' hts hE f1 f2 f3 f4 hc hs hP hD hS hl')
