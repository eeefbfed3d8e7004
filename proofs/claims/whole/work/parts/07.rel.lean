/-! the small machine's cells and the real ones -/
def m_V (ad : Nat → Nat) (v : Value) : Value := match v with
  | .ref i => .ref (ad i)
  | v => v
def m_E (ad : Nat → Nat) (cI cJ : ClassId) (c : mC) : va_E := match c with
  | .inl q => .inl (cI, q.1, .inl q.2)
  | .inr (.inl q) => .inl (cJ, q.1, .inr (.inl q.2))
  | .inr (.inr q) => .inr (q.1, q.2.map (m_V ad))
def m_W (ad : Nat → Nat) (cI cJ : ClassId) (h : mH) : va_W := h.mapIdx (fun i c => (ad i, m_E ad cI cJ c))
def m_Lv (ad : Nat → Nat) (lv : mL) : mL := lv.map (fun q => (q.1, m_V ad q.2))
theorem m_V_cat (ad : Nat → Nat) (v : Value) : (m_V ad v).category = v.category := by cases v <;> rfl
theorem m_W_at {ad : Nat → Nat} {cI cJ : ClassId} {h : mH} {i : Nat} {c : mC} (hh : h[i]? = some c) : (m_W ad cI cJ h)[i]? = some (ad i, m_E ad cI cJ c) := by
  simp [m_W, List.getElem?_mapIdx, hh]
theorem m_W_set {ad : Nat → Nat} {cI cJ : ClassId} (h : mH) (i : Nat) (c : mC) : m_W ad cI cJ (h.set i c) = (m_W ad cI cJ h).set i (ad i, m_E ad cI cJ c) := by
  apply List.ext_getElem?
  intro j
  simp only [m_W, List.getElem?_mapIdx, List.getElem?_set, List.length_mapIdx]
  by_cases hj : i = j
  · subst hj
    by_cases hl : i < h.length <;> simp [hl]
  · simp [hj]
theorem m_W_len {ad : Nat → Nat} {cI cJ : ClassId} (h : mH) : (m_W ad cI cJ h).length = h.length := by simp [m_W]
theorem m_ins_mem {f : mL} {i : Nat} {v : Value} {q : Nat × Value} (h : q ∈ m_ins f i v) : q = (i, v) ∨ q ∈ f := by
  unfold m_ins at h
  rcases List.mem_append.mp h with h | h
  · exact Or.inr (List.takeWhile_subset _ h)
  · rcases List.mem_cons.mp h with h | h
    · exact Or.inl h
    · exact Or.inr (List.dropWhile_subset _ h)
theorem m_has_sub {ad : Nat → Nat} {lv lv' : mL} {ls : Array Slot} {nL : Nat} (h : lv_has ls nL (m_Lv ad lv)) (hs : ∀ q ∈ lv', q ∈ lv) : lv_has ls nL (m_Lv ad lv') := by
  refine ⟨h.1, h.2.1, fun q hq => ?_⟩
  obtain ⟨q0, hq0, rfl⟩ := List.mem_map.mp hq
  exact h.2.2 _ (List.mem_map.mpr ⟨q0, hs q0 hq0, rfl⟩)
theorem m_Lv_ls {ad : Nat → Nat} {lv : mL} {i : Nat} {v : Value} {ls : Array Slot} {nL : Nat} (h : lv_has ls nL ((i, m_V ad v) :: (m_Lv ad lv).filter (fun q => !(q.1 == i) && !(q.1 + 1 == i && q.2.category == 2)))) : lv_has ls nL (m_Lv ad (m_ls lv i v)) := by
  refine ⟨h.1, h.2.1, fun q hq => h.2.2 q ?_⟩
  obtain ⟨q0, hq0, rfl⟩ := List.mem_map.mp hq
  rcases m_ins_mem hq0 with rfl | hq0
  · exact List.mem_cons_self
  · obtain ⟨h1, h2⟩ := List.mem_filter.mp hq0
    exact List.mem_cons_of_mem _ (List.mem_filter.mpr ⟨List.mem_map.mpr ⟨q0, h1, rfl⟩, by simpa [m_V_cat] using h2⟩)
theorem m_Lv_ls2 {ad : Nat → Nat} {lv : mL} {i : Nat} {v : Value} {ls : Array Slot} {nL : Nat} (h : lv_has ls nL ((i, m_V ad v) :: (m_Lv ad lv).filter (fun q => !(q.1 == i) && (!(q.1 == i + 1) && !(q.1 + 1 == i && q.2.category == 2))))) : lv_has ls nL (m_Lv ad (m_ls2 lv i v)) := by
  refine ⟨h.1, h.2.1, fun q hq => h.2.2 q ?_⟩
  obtain ⟨q0, hq0, rfl⟩ := List.mem_map.mp hq
  rcases m_ins_mem hq0 with rfl | hq0
  · exact List.mem_cons_self
  · obtain ⟨h1, h2⟩ := List.mem_filter.mp hq0
    exact List.mem_cons_of_mem _ (List.mem_filter.mpr ⟨List.mem_map.mpr ⟨q0, h1, rfl⟩, by simpa [m_V_cat] using h2⟩)
theorem m_nf_ok {ty : FieldType} {v : Value} (h : m_nf ty v = true) : narrow ty v = v ∧ fits ty v = true := by
  cases ty <;> cases v <;> first
    | exact ⟨rfl, rfl⟩
    | (simp only [m_nf, Bool.or_eq_true, beq_iff_eq] at h
       rcases h with rfl | rfl <;> exact ⟨by decide, by decide⟩)
    | (exact absurd h (by simp [m_nf]))
theorem m_lg_mem {lv : mL} {i : Nat} {v : Value} (h : m_lg lv i = some v) : (i, v) ∈ lv := by
  unfold m_lg at h
  cases hf : lv.find? (fun q => q.1 == i) with
  | none => rw [hf] at h; cases h
  | some q =>
    rw [hf] at h
    have h1 := List.mem_of_find?_eq_some hf
    have h2 := List.find?_some hf
    simp only [beq_iff_eq] at h2
    cases h
    rw [← h2]
    exact h1
theorem m_lg_at {ad : Nat → Nat} {lv : mL} {i nL : Nat} {v : Value} {ls : Array Slot} (h : m_lg lv i = some v) (hl : lv_has ls nL (m_Lv ad lv)) : ls[i]? = some (.val (m_V ad v)) :=
  hl.2.2 (i, m_V ad v) (List.mem_map.mpr ⟨(i, v), m_lg_mem h, rfl⟩)
/-- the place of a local among the listed ones -/
theorem m_lg_pl {ad : Nat → Nat} {lv : mL} {i : Nat} {v : Value} (h : m_lg lv i = some v) : ∃ k : Nat, (m_Lv ad lv)[k]? = some (i, m_V ad v) := by
  obtain ⟨k, hk⟩ := List.getElem?_of_mem (m_lg_mem h)
  exact ⟨k, by simp [m_Lv, hk]⟩
section Inv
variable {r : mS}
theorem m_i_inv {st : List Value} {k : Int32 → List Value → Option mS} (h : m_i st k = some r) : ∃ x t, st = .int x :: t ∧ k x t = some r := by
  unfold m_i at h
  split at h
  · exact ⟨_, _, rfl, h⟩
  · cases h
theorem m_l_inv {st : List Value} {k : Int64 → List Value → Option mS} (h : m_l st k = some r) : ∃ x t, st = .long x :: t ∧ k x t = some r := by
  unfold m_l at h
  split at h
  · exact ⟨_, _, rfl, h⟩
  · cases h
theorem m_r_inv {st : List Value} {k : Nat → List Value → Option mS} (h : m_r st k = some r) : ∃ x t, st = .ref x :: t ∧ k x t = some r := by
  unfold m_r at h
  split at h
  · exact ⟨_, _, rfl, h⟩
  · cases h
theorem m_ii_inv {st : List Value} {k : Int32 → Int32 → List Value → Option mS} (h : m_ii st k = some r) : ∃ x y t, st = .int y :: .int x :: t ∧ k x y t = some r := by
  obtain ⟨y, t, e1, h1⟩ := m_i_inv h
  obtain ⟨x, t2, e2, h2⟩ := m_i_inv h1
  exact ⟨x, y, t2, by rw [e1, e2], h2⟩
theorem m_ll_inv {st : List Value} {k : Int64 → Int64 → List Value → Option mS} (h : m_ll st k = some r) : ∃ x y t, st = .long y :: .long x :: t ∧ k x y t = some r := by
  obtain ⟨y, t, e1, h1⟩ := m_l_inv h
  obtain ⟨x, t2, e2, h2⟩ := m_l_inv h1
  exact ⟨x, y, t2, by rw [e1, e2], h2⟩
theorem m_ldi_inv {lv : mL} {i : Nat} {k : Int32 → Option mS} (h : m_ldi lv i k = some r) : ∃ x, m_lg lv i = some (.int x) ∧ k x = some r := by
  unfold m_ldi at h
  split at h
  · exact ⟨_, by assumption, h⟩
  · cases h
theorem m_ldl_inv {lv : mL} {i : Nat} {k : Int64 → Option mS} (h : m_ldl lv i k = some r) : ∃ x, m_lg lv i = some (.long x) ∧ k x = some r := by
  unfold m_ldl at h
  split at h
  · exact ⟨_, by assumption, h⟩
  · cases h
theorem m_ldr_inv {lv : mL} {i : Nat} {k : Nat → Option mS} (h : m_ldr lv i k = some r) : ∃ x, m_lg lv i = some (.ref x) ∧ k x = some r := by
  unfold m_ldr at h
  split at h
  · exact ⟨_, by assumption, h⟩
  · cases h
theorem m_obj_inv {h : mH} {q : Nat} {k : Nat → List Value → Option mS} (hh : m_obj h q k = some r) : ∃ c fs, h[q]? = some (.inr (.inr (c, fs))) ∧ k c fs = some r := by
  unfold m_obj at hh
  split at hh
  · exact ⟨_, _, by assumption, hh⟩
  · cases hh
theorem m_arr_inv {h : mH} {q : Nat} {k : Nat → (Nat → Int32) → Option mS} (hh : m_arr h q k = some r) : ∃ n f, h[q]? = some (.inl (n, f)) ∧ k n f = some r := by
  unfold m_arr at hh
  split at hh
  · exact ⟨_, _, by assumption, hh⟩
  · cases hh
theorem m_arl_inv {h : mH} {q : Nat} {k : Nat → (Nat → Int64) → Option mS} (hh : m_arl h q k = some r) : ∃ n f, h[q]? = some (.inr (.inl (n, f))) ∧ k n f = some r := by
  unfold m_arl at hh
  split at hh
  · exact ⟨_, _, by assumption, hh⟩
  · cases hh
theorem m_opt_inv {α β : Type} {o : Option α} {k : α → Option β} {r : β} (h : m_opt o k = some r) : ∃ a, o = some a ∧ k a = some r := by
  cases o with
  | none => cases h
  | some a => exact ⟨a, rfl, h⟩
theorem m_if_inv {c : Prop} [Decidable c] {α : Type} {a : Option α} {r : α} (h : (if c then a else none) = some r) : c ∧ a = some r := by
  by_cases hc : c
  · rw [if_pos hc] at h; exact ⟨hc, h⟩
  · rw [if_neg hc] at h; cases h
theorem m_ifn_inv {c : Prop} [Decidable c] {α : Type} {a : Option α} {r : α} (h : (if c then none else a) = some r) : ¬ c ∧ a = some r := by
  by_cases hc : c
  · rw [if_pos hc] at h; cases h
  · rw [if_neg hc] at h; exact ⟨hc, h⟩
end Inv
theorem m_tg_eq {pc : Nat} {off : Int} (h : 0 ≤ (pc : Int) + off) : (pc : Int) + off = ((m_tg pc off : Nat) : Int) := (Int.toNat_of_nonneg h).symm
theorem m_any2 {own idx a b : Nat} (h : m_fldL.any (fun f => f.1 == own && f.2.1 == idx && f.2.2.1 == a && f.2.2.2.1 == b) = true) : ∃ nest pos, (own, idx, a, b, nest, pos) ∈ m_fldL := by
  obtain ⟨f, hf, h⟩ := List.any_eq_true.mp h
  simp only [Bool.and_eq_true, beq_iff_eq] at h
  obtain ⟨⟨⟨rfl, rfl⟩, rfl⟩, rfl⟩ := h
  exact ⟨f.2.2.2.2.1, f.2.2.2.2.2, hf⟩
theorem m_cst_ok : m_cstL.all (fun f => match m_cn[f.1]? with | some o => decide (tables_1[f.2.2.2]? = some (.constant o f.2.1 (Int32.ofNat f.2.2.1))) && goodWord (.constant o f.2.1 (Int32.ofNat f.2.2.1)) | none => false) = true := by decide +kernel
theorem m_csl_ok : m_cslL.all (fun f => match m_cn[f.1]? with | some o => decide (tables_1[f.2.2.2.2]? = some (.constantLong o f.2.1 (if f.2.2.1 = 0 then Int64.ofNat f.2.2.2.1 else -1))) && goodWord (.constantLong o f.2.1 (if f.2.2.1 = 0 then Int64.ofNat f.2.2.2.1 else -1)) | none => false) = true := by decide +kernel
theorem m_cst_at {own idx b : Nat} (h : m_cstL.any (fun f => f.1 == own && f.2.1 == idx && f.2.2.1 == b) = true) {o : String} (ho : m_cn[own]? = some o) : Cond.constant o idx (Int32.ofNat b) ∈ m_tb := by
  obtain ⟨f, hf, h⟩ := List.any_eq_true.mp h
  simp only [Bool.and_eq_true, beq_iff_eq] at h
  obtain ⟨⟨rfl, rfl⟩, rfl⟩ := h
  have h1 := List.all_eq_true.mp m_cst_ok _ hf
  simp only [ho, Bool.and_eq_true, decide_eq_true_eq] at h1
  exact m_tb_t h1.1 h1.2
theorem m_csl_at {own idx a b : Nat} (h : m_cslL.any (fun f => f.1 == own && f.2.1 == idx && f.2.2.1 == a && f.2.2.2.1 == b) = true) {o : String} (ho : m_cn[own]? = some o) : Cond.constantLong o idx (if a = 0 then Int64.ofNat b else -1) ∈ m_tb := by
  obtain ⟨f, hf, h⟩ := List.any_eq_true.mp h
  simp only [Bool.and_eq_true, beq_iff_eq] at h
  obtain ⟨⟨⟨rfl, rfl⟩, rfl⟩, rfl⟩ := h
  have h1 := List.all_eq_true.mp m_csl_ok _ hf
  simp only [ho, Bool.and_eq_true, decide_eq_true_eq] at h1
  exact m_tb_t h1.1 h1.2
/-- the lengths of the instructions that are used -/
def m_ln : Instr → Nat
  | .aload _ | .iload _ | .istore _ | .bipush _ | .ldc _ | .astore _ | .newarray _ => 2
  | .sipush _ | .iinc .. | .ldc2_w _ | .ldc_w _ | .goto _ | .ifCond .. | .if_icmp .. | .getfield _ | .putfield _ | .invokevirtual _ | .invokestatic _ | .invokespecial _ | .new _ => 3
  | .tableswitch .. | .lookupswitch .. => 0
  | _ => 1
theorem m_ln_all : m_prog.all (fun M => (m_cd M).all (fun q => m_ln q.2.1 == 0 || q.2.2.1 == m_ln q.2.1)) = true := by decide +kernel
