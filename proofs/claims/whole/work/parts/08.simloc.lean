/-! one instruction of the small machine is one of the real one -/
def m_en : List String := ["java/lang/IllegalStateException", "java/lang/IllegalArgumentException", "java/lang/UnsupportedOperationException", "java/lang/IndexOutOfBoundsException"]
/-- an exception, and a type that doesn't take it -/
def m_ncL : List (String × String) := [("java/lang/UnsupportedOperationException", "java/lang/IllegalArgumentException"), ("java/lang/IndexOutOfBoundsException", "java/lang/IllegalStateException"), ("java/lang/IllegalArgumentException", "java/lang/IllegalStateException"), ("java/lang/IllegalArgumentException", "java/lang/IndexOutOfBoundsException")]
/-- the words' texts: their lengths, their bytes -/
def m_sLen : List Nat := [2, 2, 3, 4, 4, 4, 5, 5, 5, 6, 7]
def m_sByt : List (List Int32) := [[102, 110], [105, 102], [108, 101, 116], [108, 111, 97, 100], [101, 108, 115, 101], [116, 114, 117, 101], [115, 116, 111, 114, 101], [119, 104, 105, 108, 101], [102, 97, 108, 115, 101], [114, 101, 116, 117, 114, 110], [114, 101, 113, 117, 105, 114, 101]]
def m_ES (ad : Nat → Nat) (A : Nat → Prop) (U : State) : Prop := vk_S 11 m_sLen m_sByt (fun i => ad (m_scr + 1 + i)) (fun i => ad (m_scr + 101 + i)) A U U.heap ∧ va_Z "java/lang/String" "COMPACT_STRINGS" "Z" (.int 1) A U U.heap ∧ va_Zq "jdk/internal/util/Preconditions" "SIOOBE_FORMATTER" "Ljava/util/function/BiFunction;" A U U.heap
theorem m_ES.move {ad : Nat → Nat} {A : Nat → Prop} {s U : State} (h : m_ES ad A s) (hW : s.WarmedH U.vm) (hk : ∀ q : Nat, q < s.heap.size → ¬ A q → U.heap[q]? = s.heap[q]?) : m_ES ad A U :=
  ⟨(vk_S.moved hW.alike h.1).kept hk, (va_Z.moved hW.alike h.2.1).kept hk, (va_Zq.moved hW.alike h.2.2).kept hk⟩
def m_EV (D : va_G) (ad : Nat → Nat) (cI cJ : ClassId) (A : Nat → Prop) (X : Nat × (Nat → Int32)) (U : State) : Prop :=
  va_K D m_cl [(cI, .int), (cJ, .long)] U ∧ (∀ w ∈ m_nw, va_Nw w U) ∧ (∀ (k : Nat) (f : Nat × Nat × String × Nat), m_strL[k]? = some f → ∀ o, m_cn[f.1]? = some o → vk_R o f.2.1 f.2.2.1 (ad (m_scr + 1 + k)) U) ∧
  va_X (ad m_scr) X.1 X.2 U U.heap ∧ ad m_scr < U.heap.size ∧ ¬ A (ad m_scr) ∧ vx_Zq Bundle.tN "UNASSIGNED_STACK" Bundle.steD A U U.heap ∧ vx_Zq Bundle.tN "SUPPRESSED_SENTINEL" Bundle.listD A U U.heap ∧ (∀ q ∈ m_ncL, va_Nc q.1 q.2 U) ∧ m_ES ad A U
theorem m_EV.move {D : va_G} {ad : Nat → Nat} {cI cJ : ClassId} {A : Nat → Prop} {X : Nat × (Nat → Int32)} {s U : State} (h : m_EV D ad cI cJ A X s) (hW : s.WarmedH U.vm) (hz : s.heap.size ≤ U.heap.size) (hk : ∀ q : Nat, q < s.heap.size → ¬ A q → U.heap[q]? = s.heap[q]?) : m_EV D ad cI cJ A X U := by
  obtain ⟨h1, h2, h3, h4, h5, h6, h7, h8, h9, h10⟩ := h
  exact ⟨va_K.moved hW.alike h1, m_nw_warm hW h2, fun k f hf o ho => vk_R.warm hW (h3 k f hf o ho), (va_X.moved hW.alike h4).kept (hk _ h5 h6), Nat.lt_of_lt_of_le h5 hz, h6, (vx_Zq.moved hW.alike h7).kept hk, (vx_Zq.moved hW.alike h8).kept hk, fun q hq => va_Nc.moved hW.alike (h9 q hq), h10.move hW hk⟩
theorem m_narrow {ad : Nat → Nat} {ty : FieldType} {v : Value} (h : narrow ty v = v) : narrow ty (m_V ad v) = m_V ad v := by
  cases v <;> first | exact h | (cases ty <;> rfl)
theorem m_fits {ad : Nat → Nat} {ty : FieldType} {v : Value} (h : fits ty v = true) : fits ty (m_V ad v) = true := by
  cases v <;> first | exact h | (cases ty <;> first | rfl | exact h)
theorem m_lk {pc : Nat} {d x : Int} : ∀ (ps : List (Int × Int)), 0 ≤ (pc : Int) + d → (∀ o ∈ ps, 0 ≤ (pc : Int) + o.2) → 0 ≤ (pc : Int) + Op.lookupswitch.offset ps d x
  | [], h, _ => by rw [Op.lookupswitch.offset_nil]; exact h
  | (a, o) :: t, h, ht => by
    rw [Op.lookupswitch.offset_cons]
    split
    · exact ht (a, o) List.mem_cons_self
    · exact m_lk t h (fun q hq => ht q (List.mem_cons_of_mem _ hq))
theorem m_isN_tab {w : Cond} (h : w ∈ m_nw) : w.onTables = true := by
  have h2 := (List.mem_filter.mp h).2
  cases w <;> first | rfl | exact absurd h2 (by simp [m_isN])
section Loc
variable {p : Program} {l : Launch} {e : Env} {R : Room} {s : State} {m : MethodId} {args : Array Value} {below : List Frame} {meth : Method} {c : Code} {H : Heap} {locs : List Loc} {cells slots : Nat} {Q : State → Prop} {ls : Array Slot}
variable {D : va_G} {ad : Nat → Nat} {cI cJ : ClassId} {A : Nat → Prop} {X : Nat × (Nat → Int32)}
set_option maxHeartbeats 4000000 in
theorem m_locsim (hx : p.tables.exec = Jvm.exec) {cc : ByteArray} (hb : c.code = cc) {o : String} {own nL : Nat} (ho : m_cn[own]? = some o) (hown : s.vm.findClass o = some m.cls)
    (hts : ∀ w ∈ m_tb, w.before args s = true) (hE : m_EV D ad cI cJ A X s) {q : mI} (hd : decode cc q.1 = .ok (q.2.1, q.2.2.1)) (hok : m_sok own nL q = true) (hln : m_ln q.2.1 = 0 ∨ q.2.2.1 = m_ln q.2.1)
    {lv : mL} {st : List Value} {h : mH} {r : mS} (hr : m_loc m_ft X q.2.1 q.2.2.2.1 q.2.2.2.2 q.1 lv st h = some r)
    (hP : va_P D m_cl (m_W ad cI cJ h) H) (hD : va_D A (m_W ad cI cJ h)) (hS : va_S A s.heap H locs) (hl : lv_has ls nL (m_Lv ad lv))
    (kk : ∀ (H1 : Heap) (locs1 : List Loc) (ls1 : Array Slot), va_P D m_cl (m_W ad cI cJ r.2.2.2) H1 → va_D A (m_W ad cI cJ r.2.2.2) → va_S A s.heap H1 locs1 → lv_has ls1 nL (m_Lv ad r.2.1) →
      W p l e R s m args below meth c H1 locs1 cells slots Q (F0 m r.1 ls1 (r.2.2.1.map (m_V ad)))) :
    W p l e R s m args below meth c H locs cells slots Q (F0 m q.1 ls (st.map (m_V ad))) := by
  obtain ⟨pc, ins, len, a, b⟩ := q
  dsimp only at hd hok hln hr ⊢
  have hd2 : ∀ n, m_ln ins = n + 1 → decode cc pc = .ok (ins, n + 1) := by
    intro n hn
    rcases hln with h1 | h1
    · rw [hn] at h1; cases h1
    · rw [hn] at h1; rw [← h1]; exact hd
  cases ins with
  | aload_n k =>
    obtain ⟨x, h1, hr⟩ := m_ldr_inv hr
    cases hr
    exact lv_aload_n hx hb (hd2 0 rfl) rfl (m_lg_at h1 hl) (kk H locs ls hP hD hS hl)
  | aload i =>
    obtain ⟨x, h1, hr⟩ := m_ldr_inv hr
    cases hr
    exact lv_aload hx hb (hd2 1 rfl) (m_lg_at h1 hl) (kk H locs ls hP hD hS hl)
  | iload_n k =>
    obtain ⟨x, h1, hr⟩ := m_ldi_inv hr
    cases hr
    exact lv_iload_n hx hb (hd2 0 rfl) rfl (m_lg_at h1 hl) (kk H locs ls hP hD hS hl)
  | iload i =>
    obtain ⟨x, h1, hr⟩ := m_ldi_inv hr
    cases hr
    exact lv_iload hx hb (hd2 1 rfl) (m_lg_at h1 hl) (kk H locs ls hP hD hS hl)
  | lload_n k =>
    obtain ⟨x, h1, hr⟩ := m_ldl_inv hr
    cases hr
    exact lv_lload_n hx hb (hd2 0 rfl) rfl (m_lg_at h1 hl) (kk H locs ls hP hD hS hl)
  | istore_n k =>
    obtain ⟨x, t, rfl, hr⟩ := m_i_inv hr
    cases hr
    exact lv_istore_n hx hb (hd2 0 rfl) rfl hl (of_decide_eq_true hok) rfl (fun ls1 h1 => kk H locs ls1 hP hD hS (m_Lv_ls (v := .int x) h1))
  | istore i =>
    obtain ⟨x, t, rfl, hr⟩ := m_i_inv hr
    cases hr
    exact lv_istore hx hb (hd2 1 rfl) hl (of_decide_eq_true hok) rfl (fun ls1 h1 => kk H locs ls1 hP hD hS (m_Lv_ls (v := .int x) h1))
  | lstore_n k =>
    obtain ⟨x, t, rfl, hr⟩ := m_l_inv hr
    cases hr
    exact lv_lstore_n hx hb (hd2 0 rfl) rfl hl (of_decide_eq_true hok) rfl (fun ls1 h1 => kk H locs ls1 hP hD hS (m_Lv_ls2 (v := .long x) h1))
  | iinc i n =>
    obtain ⟨x, h1, hr⟩ := m_ldi_inv hr
    cases hr
    obtain ⟨k, hk⟩ := m_lg_pl (ad := ad) h1
    exact lv_iinc hx hb (hd2 2 rfl) hl hk rfl (of_decide_eq_true hok) rfl (fun ls1 h2 => kk H locs ls1 hP hD hS (m_Lv_ls (v := .int _) h2))
  | iconst n => cases hr; exact lv_iconst hx hb (hd2 0 rfl) rfl (kk H locs ls hP hD hS hl)
  | bipush n => cases hr; exact lv_bipush hx hb (hd2 1 rfl) rfl (kk H locs ls hP hD hS hl)
  | sipush n => cases hr; exact lv_sipush hx hb (hd2 2 rfl) rfl (kk H locs ls hP hD hS hl)
  | lconst n => cases hr; exact lv_lconst hx hb (hd2 0 rfl) rfl (kk H locs ls hP hD hS hl)
  | ldc idx =>
    dsimp only [m_loc, m_sok] at hr hok
    by_cases ha : a = 0
    · rw [if_pos ha] at hr hok
      cases hr
      exact lv_ldc hx hb hown (hts _ (m_cst_at hok ho)) (hd2 1 rfl) (kk H locs ls hP hD hS hl)
    · rw [if_neg ha] at hr hok
      cases hr
      cases hf : m_strL[b]? with
      | none => rw [hf] at hok; cases hok
      | some f =>
        rw [hf] at hok
        simp only [Bool.and_eq_true, beq_iff_eq] at hok
        obtain ⟨h1, h2⟩ := hok
        have h3 := hE.2.2.1 b f hf o (by rw [h1]; exact ho)
        rw [h2] at h3
        exact va_ldcS hx hb hown h3 (hd2 1 rfl) (kk H locs ls hP hD hS hl)
  | ldc_w idx => cases hr; exact lv_ldcw hx hb hown (hts _ (m_cst_at hok ho)) (hd2 2 rfl) (kk H locs ls hP hD hS hl)
  | ldc2_w idx => cases hr; exact lv_ldc2 hx hb hown (hts _ (m_csl_at hok ho)) (hd2 2 rfl) (kk H locs ls hP hD hS hl)
  | iadd =>
    obtain ⟨x, y, t, rfl, hr⟩ := m_ii_inv hr
    cases hr
    exact lv_iadd hx hb (hd2 0 rfl) (kk H locs ls hP hD hS hl)
  | isub =>
    obtain ⟨x, y, t, rfl, hr⟩ := m_ii_inv hr
    cases hr
    exact lv_isub hx hb (hd2 0 rfl) (kk H locs ls hP hD hS hl)
  | imul =>
    obtain ⟨x, y, t, rfl, hr⟩ := m_ii_inv hr
    cases hr
    exact lv_imul hx hb (hd2 0 rfl) (kk H locs ls hP hD hS hl)
  | idiv =>
    obtain ⟨x, y, t, rfl, hr⟩ := m_ii_inv hr
    obtain ⟨h0, hr⟩ := m_ifn_inv hr
    cases hr
    exact lv_idiv hx hb (hd2 0 rfl) h0 (kk H locs ls hP hD hS hl)
  | irem =>
    obtain ⟨x, y, t, rfl, hr⟩ := m_ii_inv hr
    obtain ⟨h0, hr⟩ := m_ifn_inv hr
    cases hr
    exact lv_irem hx hb (hd2 0 rfl) h0 (kk H locs ls hP hD hS hl)
  | iand =>
    obtain ⟨x, y, t, rfl, hr⟩ := m_ii_inv hr
    cases hr
    exact lv_iand hx hb (hd2 0 rfl) (kk H locs ls hP hD hS hl)
  | ishr =>
    obtain ⟨x, y, t, rfl, hr⟩ := m_ii_inv hr
    cases hr
    exact lv_ishr hx hb (hd2 0 rfl) (kk H locs ls hP hD hS hl)
  | ineg =>
    obtain ⟨x, t, rfl, hr⟩ := m_i_inv hr
    cases hr
    exact lv_ineg hx hb (hd2 0 rfl) (kk H locs ls hP hD hS hl)
  | ladd =>
    obtain ⟨x, y, t, rfl, hr⟩ := m_ll_inv hr
    cases hr
    exact lv_ladd hx hb (hd2 0 rfl) (kk H locs ls hP hD hS hl)
  | lsub =>
    obtain ⟨x, y, t, rfl, hr⟩ := m_ll_inv hr
    cases hr
    exact lv_lsub hx hb (hd2 0 rfl) (kk H locs ls hP hD hS hl)
  | lmul =>
    obtain ⟨x, y, t, rfl, hr⟩ := m_ll_inv hr
    cases hr
    exact lv_lmul hx hb (hd2 0 rfl) (kk H locs ls hP hD hS hl)
  | lcmp =>
    obtain ⟨x, y, t, rfl, hr⟩ := m_ll_inv hr
    cases hr
    exact W.lcmp hx hb (hd2 0 rfl) (kk H locs ls hP hD hS hl)
  | i2l =>
    obtain ⟨x, t, rfl, hr⟩ := m_i_inv hr
    cases hr
    exact lv_i2l hx hb (hd2 0 rfl) rfl (kk H locs ls hP hD hS hl)
  | l2i =>
    obtain ⟨x, t, rfl, hr⟩ := m_l_inv hr
    cases hr
    exact lv_l2i hx hb (hd2 0 rfl) rfl (kk H locs ls hP hD hS hl)
  | dup =>
    cases st with
    | nil => cases hr
    | cons v t =>
      obtain ⟨h1, hr⟩ := m_if_inv hr
      cases hr
      exact lv_dup hx hb (hd2 0 rfl) ((m_V_cat ad v).trans h1) (kk H locs ls hP hD hS hl)
  | dup2 =>
    cases st with
    | nil => cases hr
    | cons v t =>
      cases t with
      | nil => cases hr
      | cons w t =>
        obtain ⟨⟨h1, h2⟩, hr⟩ := m_if_inv hr
        cases hr
        exact lv_dup2_11 hx hb (hd2 0 rfl) ((m_V_cat ad v).trans h1) ((m_V_cat ad w).trans h2) (kk H locs ls hP hD hS hl)
  | pop =>
    cases st with
    | nil => cases hr
    | cons v t =>
      obtain ⟨h1, hr⟩ := m_if_inv hr
      cases hr
      exact lv_pop hx hb (hd2 0 rfl) ((m_V_cat ad v).trans h1) (kk H locs ls hP hD hS hl)
  | goto off =>
    obtain ⟨h1, hr⟩ := m_if_inv hr
    cases hr
    exact lv_goto hx hb (hd2 2 rfl) (m_tg_eq h1) (kk H locs ls hP hD hS hl)
  | ifCond cd off =>
    have hof := m_tg_eq (of_decide_eq_true hok)
    cases cd with
    | eq =>
      obtain ⟨x, t, rfl, hr⟩ := m_i_inv hr
      cases hr
      exact lv_if_eq hx hb (hd2 2 rfl) hof (fun h0 => by have := kk H locs ls hP hD hS hl; rw [if_pos h0] at this; exact this) (fun h0 => by have := kk H locs ls hP hD hS hl; rw [if_neg h0] at this; exact this)
    | ne =>
      obtain ⟨x, t, rfl, hr⟩ := m_i_inv hr
      cases hr
      exact lv_if_ne hx hb (hd2 2 rfl) hof (fun h0 => by have := kk H locs ls hP hD hS hl; rw [if_pos h0] at this; exact this) (fun h0 => by have := kk H locs ls hP hD hS hl; rw [if_neg (fun z => z h0)] at this; exact this)
    | lt =>
      obtain ⟨x, t, rfl, hr⟩ := m_i_inv hr
      cases hr
      exact lv_if_lt hx hb (hd2 2 rfl) hof (fun h0 => by have := kk H locs ls hP hD hS hl; rw [if_pos h0] at this; exact this) (fun h0 => by have := kk H locs ls hP hD hS hl; rw [if_neg h0] at this; exact this)
    | ge =>
      obtain ⟨x, t, rfl, hr⟩ := m_i_inv hr
      cases hr
      exact lv_if_ge hx hb (hd2 2 rfl) hof (fun h0 => by have := kk H locs ls hP hD hS hl; rw [if_pos h0] at this; exact this) (fun h0 => by have := kk H locs ls hP hD hS hl; rw [if_neg h0] at this; exact this)
    | gt =>
      obtain ⟨x, t, rfl, hr⟩ := m_i_inv hr
      cases hr
      exact lv_if_gt hx hb (hd2 2 rfl) hof (fun h0 => by have := kk H locs ls hP hD hS hl; rw [if_pos h0] at this; exact this) (fun h0 => by have := kk H locs ls hP hD hS hl; rw [if_neg h0] at this; exact this)
    | le =>
      obtain ⟨x, t, rfl, hr⟩ := m_i_inv hr
      cases hr
      exact lv_if_le hx hb (hd2 2 rfl) hof (fun h0 => by have := kk H locs ls hP hD hS hl; rw [if_pos h0] at this; exact this) (fun h0 => by have := kk H locs ls hP hD hS hl; rw [if_neg h0] at this; exact this)
  | if_icmp cd off =>
    have hof := m_tg_eq (of_decide_eq_true hok)
    cases cd with
    | eq =>
      obtain ⟨x, y, t, rfl, hr⟩ := m_ii_inv hr
      cases hr
      exact lv_icmp_eq hx hb (hd2 2 rfl) hof (fun h0 => by have := kk H locs ls hP hD hS hl; rw [if_pos h0] at this; exact this) (fun h0 => by have := kk H locs ls hP hD hS hl; rw [if_neg h0] at this; exact this)
    | ne =>
      obtain ⟨x, y, t, rfl, hr⟩ := m_ii_inv hr
      cases hr
      exact lv_icmp_ne hx hb (hd2 2 rfl) hof (fun h0 => by have := kk H locs ls hP hD hS hl; rw [if_pos h0] at this; exact this) (fun h0 => by have := kk H locs ls hP hD hS hl; rw [if_neg (fun z => z h0)] at this; exact this)
    | lt =>
      obtain ⟨x, y, t, rfl, hr⟩ := m_ii_inv hr
      cases hr
      exact lv_icmp_lt hx hb (hd2 2 rfl) hof (fun h0 => by have := kk H locs ls hP hD hS hl; rw [if_pos h0] at this; exact this) (fun h0 => by have := kk H locs ls hP hD hS hl; rw [if_neg h0] at this; exact this)
    | ge =>
      obtain ⟨x, y, t, rfl, hr⟩ := m_ii_inv hr
      cases hr
      exact lv_icmp_ge hx hb (hd2 2 rfl) hof (fun h0 => by have := kk H locs ls hP hD hS hl; rw [if_pos h0] at this; exact this) (fun h0 => by have := kk H locs ls hP hD hS hl; rw [if_neg h0] at this; exact this)
    | gt =>
      obtain ⟨x, y, t, rfl, hr⟩ := m_ii_inv hr
      cases hr
      exact lv_icmp_gt hx hb (hd2 2 rfl) hof (fun h0 => by have := kk H locs ls hP hD hS hl; rw [if_pos h0] at this; exact this) (fun h0 => by have := kk H locs ls hP hD hS hl; rw [if_neg h0] at this; exact this)
    | le =>
      obtain ⟨x, y, t, rfl, hr⟩ := m_ii_inv hr
      cases hr
      exact lv_icmp_le hx hb (hd2 2 rfl) hof (fun h0 => by have := kk H locs ls hP hD hS hl; rw [if_pos h0] at this; exact this) (fun h0 => by have := kk H locs ls hP hD hS hl; rw [if_neg h0] at this; exact this)
  | tableswitch dflt lo hi offs =>
    dsimp only [m_sok] at hok
    simp only [Bool.and_eq_true, decide_eq_true_eq, List.all_eq_true] at hok
    obtain ⟨x, t, rfl, hr2⟩ := m_i_inv hr
    by_cases h0 : x.toInt < lo ∨ hi < x.toInt
    · rw [if_pos h0] at hr2
      cases hr2
      exact lv_tableOut hx hb hd h0 (m_tg_eq hok.1) (kk H locs ls hP hD hS hl)
    · rw [if_neg h0] at hr2
      obtain ⟨off, h2, hr3⟩ := m_opt_inv hr2
      cases hr3
      exact lv_tableIn hx hb hd (fun z => h0 (Or.inl z)) (fun z => h0 (Or.inr z)) h2 (m_tg_eq (hok.2 off (Array.mem_toList_iff.mpr (Array.mem_of_getElem? h2)))) (kk H locs ls hP hD hS hl)
  | lookupswitch dflt ps =>
    dsimp only [m_sok] at hok
    simp only [Bool.and_eq_true, decide_eq_true_eq] at hok
    obtain ⟨⟨h1, h2⟩, h3⟩ := hok
    obtain ⟨x, t, rfl, hr⟩ := m_i_inv hr
    cases hr
    exact lv_lookup hx hb hd h1 rfl (m_tg_eq (m_lk ps.toList h2 (fun o ho => of_decide_eq_true (List.all_eq_true.mp h3 o ho)))) (kk H locs ls hP hD hS hl)
  | getfield idx =>
    obtain ⟨q0, t, rfl, hr⟩ := m_r_inv hr
    obtain ⟨cn, fs, hq, hr⟩ := m_obj_inv hr
    obtain ⟨e0, hr2⟩ := m_if_inv hr
    subst e0
    obtain ⟨v, hv, hr3⟩ := m_opt_inv hr2
    cases hr3
    obtain ⟨nest, pos, hmem⟩ := m_any2 hok
    have hw := m_W_at (ad := ad) (cI := cI) (cJ := cJ) hq
    obtain ⟨rr, hcl, -⟩ := hP q0 _ hw
    obtain ⟨hk, hT1, hw2⟩ := m_fld_at hmem ho hcl
    have hv2 : (fs.map (m_V ad))[b]? = some (m_V ad v) := by rw [List.getElem?_map, hv]; rfl
    rcases hw2 with hw2 | hw2
    · exact va_get hx hb hts (m_lays _ _ hcl) hown hE.1 hP q0 hw hcl b hk (hts _ hw2) (fun x hx => by rw [hT1] at hx; exact hx) hv2 (hd2 2 rfl) (kk H locs ls hP hD hS hl)
    · exact va_getN hx hb hts (m_lays _ _ hcl) hown hE.1 hP q0 hw hcl b hk (va_Nw.use (m_isN_tab hw2) (hE.2.1 _ hw2)) (fun x hx => by rw [hT1] at hx; exact hx) hv2 (hd2 2 rfl) (kk H locs ls hP hD hS hl)
  | putfield idx =>
    dsimp only [m_sok] at hok
    rw [Bool.and_eq_true] at hok
    obtain ⟨hok, hfin⟩ := hok
    dsimp only [m_loc] at hr
    split at hr
    · rename_i v q0 t
      obtain ⟨cn, fs, hq, hr⟩ := m_obj_inv hr
      obtain ⟨⟨rfl, hbl⟩, hr⟩ := m_if_inv hr
      obtain ⟨ty, hft, hr⟩ := m_opt_inv hr
      obtain ⟨hnf, hr⟩ := m_if_inv hr
      obtain ⟨hn, hf⟩ := m_nf_ok hnf
      cases hr
      obtain ⟨nest, pos, hmem⟩ := m_any2 hok
      have hw := m_W_at (ad := ad) (cI := cI) (cJ := cJ) hq
      obtain ⟨rr, hcl, -⟩ := hP q0 _ hw
      obtain ⟨hk, hT1, hw2⟩ := m_fld_at hmem ho hcl
      obtain ⟨hnm, ty0, hty, hft2⟩ := m_cls _ _ hcl
      obtain ⟨-, rfl⟩ := hft2 _ _ hft
      rw [hcl] at hfin
      have hfin2 : (rr.2.1 b).2.2.2 = false := by simpa using hfin
      have hset : m_W ad cI cJ (h.set q0 (.inr (.inr (cn, fs.set b v)))) = (m_W ad cI cJ h).set q0 (ad q0, .inr (cn, (fs.map (m_V ad)).set b (m_V ad v))) := by
        rw [m_W_set]
        show _ = (m_W ad cI cJ h).set q0 (ad q0, .inr (cn, (fs.map (m_V ad)).set b (m_V ad v)))
        rw [← List.map_set]
        rfl
      have kk2 : ∀ (H1 : Heap) (locs1 : List Loc), va_P D m_cl ((m_W ad cI cJ h).set q0 (ad q0, .inr (cn, (fs.map (m_V ad)).set b (m_V ad v)))) H1 → va_D A ((m_W ad cI cJ h).set q0 (ad q0, .inr (cn, (fs.map (m_V ad)).set b (m_V ad v)))) → va_S A s.heap H1 locs1 → W p l e R s m args below meth c H1 locs1 cells slots Q (F0 m (pc + 3) ls (t.map (m_V ad))) := by
        intro H1 locs1 g1 g2 g3
        rw [← hset] at g1 g2
        exact kk H1 locs1 ls g1 g2 g3 hl
      rcases hw2 with hw2 | hw2
      · exact va_put hx hb hts (m_lays _ _ hcl) ty0 hty hnm hown hE.1 hP hD hS q0 hw hcl b hk (hts _ hw2) (fun x hx => by rw [hT1] at hx; exact hx) hfin2 (hty b hk) (m_narrow hn) (m_fits hf) (by rw [List.length_map]; exact hbl) (hd2 2 rfl) kk2
      · exact va_putN hx hb hts (m_lays _ _ hcl) ty0 hty hnm hown hE.1 hP hD hS q0 hw hcl b hk (va_Nw.use (m_isN_tab hw2) (hE.2.1 _ hw2)) (fun x hx => by rw [hT1] at hx; exact hx) hfin2 (hty b hk) (m_narrow hn) (m_fits hf) (by rw [List.length_map]; exact hbl) (hd2 2 rfl) kk2
    · cases hr
  | iaload =>
    obtain ⟨j, t1, rfl, hr1⟩ := m_i_inv hr
    obtain ⟨q0, t2, rfl, hr2⟩ := m_r_inv hr1
    by_cases hs : q0 = m_scr
    · rw [if_pos hs] at hr2
      obtain ⟨hin, hr3⟩ := m_ifn_inv hr2
      cases hr3
      subst hs
      exact va_sld hx hb hE.2.2.2.1 hE.2.2.2.2.1 hE.2.2.2.2.2.1 hS hin (hd2 0 rfl) (kk H locs ls hP hD hS hl)
    · rw [if_neg hs] at hr2
      obtain ⟨n, f, hq, hr3⟩ := m_arr_inv hr2
      obtain ⟨hin, hr4⟩ := m_ifn_inv hr3
      cases hr4
      exact va_iald hx hb hE.1 hP q0 0 (m_W_at hq) rfl hin (hd2 0 rfl) (kk H locs ls hP hD hS hl)
  | iastore =>
    obtain ⟨x, t, rfl, hr⟩ := m_i_inv hr
    obtain ⟨j, t, rfl, hr⟩ := m_i_inv hr
    obtain ⟨q0, t, rfl, hr⟩ := m_r_inv hr
    obtain ⟨n, f, hq, hr⟩ := m_arr_inv hr
    obtain ⟨hin, hr⟩ := m_ifn_inv hr
    cases hr
    refine va_iast hx hb hE.1 hP hD hS q0 0 (m_W_at hq) rfl hin (hd2 0 rfl) (fun H1 locs1 g1 g2 g3 => ?_)
    refine kk H1 locs1 ls ?_ ?_ g3 hl
    · show va_P D m_cl (m_W ad cI cJ (h.set q0 _)) H1
      rw [m_W_set]; exact g1
    · show va_D A (m_W ad cI cJ (h.set q0 _))
      rw [m_W_set]; exact g2
  | laload =>
    obtain ⟨j, t, rfl, hr⟩ := m_i_inv hr
    obtain ⟨q0, t, rfl, hr⟩ := m_r_inv hr
    obtain ⟨n, f, hq, hr⟩ := m_arl_inv hr
    obtain ⟨hin, hr⟩ := m_ifn_inv hr
    cases hr
    exact va_lald hx hb hE.1 hP q0 1 (m_W_at hq) rfl hin (hd2 0 rfl) (kk H locs ls hP hD hS hl)
  | lastore =>
    obtain ⟨x, t, rfl, hr⟩ := m_l_inv hr
    obtain ⟨j, t, rfl, hr⟩ := m_i_inv hr
    obtain ⟨q0, t, rfl, hr⟩ := m_r_inv hr
    obtain ⟨n, f, hq, hr⟩ := m_arl_inv hr
    obtain ⟨hin, hr⟩ := m_ifn_inv hr
    cases hr
    refine va_last hx hb hE.1 hP hD hS q0 1 (m_W_at hq) rfl hin (hd2 0 rfl) (fun H1 locs1 g1 g2 g3 => ?_)
    refine kk H1 locs1 ls ?_ ?_ g3 hl
    · show va_P D m_cl (m_W ad cI cJ (h.set q0 _)) H1
      rw [m_W_set]; exact g1
    · show va_D A (m_W ad cI cJ (h.set q0 _))
      rw [m_W_set]; exact g2
  | arraylength =>
    obtain ⟨q0, t1, rfl, hr2⟩ := m_r_inv hr
    by_cases hs : q0 = m_scr
    · rw [if_pos hs] at hr2
      cases hr2
      subst hs
      exact va_slen hx hb hE.2.2.2.1 hE.2.2.2.2.1 hE.2.2.2.2.2.1 hS (hd2 0 rfl) (kk H locs ls hP hD hS hl)
    · rw [if_neg hs] at hr2
      split at hr2
      · rename_i n f hq
        cases hr2
        exact va_alen hx hb hE.1 hP q0 0 (m_W_at hq) rfl rfl (hd2 0 rfl) (kk H locs ls hP hD hS hl)
      · rename_i n f hq
        cases hr2
        exact va_alen hx hb hE.1 hP q0 1 (m_W_at hq) rfl rfl (hd2 0 rfl) (kk H locs ls hP hD hS hl)
      · cases hr2
  | _ => simp [m_loc] at hr
end Loc
