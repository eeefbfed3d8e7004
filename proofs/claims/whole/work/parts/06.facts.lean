/-! what the tables say, for every row -/
abbrev m_own (M : mM) : Nat := M.1
abbrev m_y (M : mM) : MethodName := M.2.1
abbrev m_by (M : mM) : ByteArray := M.2.2.1
abbrev m_mL (M : mM) : Nat := M.2.2.2.1
abbrev m_ret (M : mM) : Option FieldType := M.2.2.2.2.1
abbrev m_hh (M : mM) : List (Nat × Nat × Nat × Nat) := M.2.2.2.2.2.1
abbrev m_cd (M : mM) : List mI := M.2.2.2.2.2.2
def m_tb : List Cond := lw_tbl.filter goodWord
theorem m_tb_of {i : Nat} {w : Cond} (h : lw_tbl[i]? = some w) (hg : goodWord w = true) : w ∈ m_tb := List.mem_filter.mpr ⟨List.mem_of_getElem? h, hg⟩
theorem m_tb_t {i : Nat} {w : Cond} (h : tables_1[i]? = some w) (hg : goodWord w = true) : w ∈ m_tb := List.mem_filter.mpr ⟨List.mem_append_right _ (List.mem_of_getElem? h), hg⟩
theorem m_tb_good : GoodIn m_tb m_tb := fun w hw => ⟨hw, good_of_word (List.mem_filter.mp hw).2⟩
theorem m_tb_sub {w : Cond} (h : w ∈ m_tb) : w ∈ lw_tbl := (List.mem_filter.mp h).1
theorem m_lay_in {ws : List Cond} (ps : List Nat) (h : ws = ps.filterMap (fun i => tables_1[i]?)) (hg : ws.all goodWord = true) : ∀ w ∈ ws, w ∈ m_tb := by
  intro w hw
  have h1 := List.all_eq_true.mp hg w hw
  rw [h] at hw
  obtain ⟨i, -, hi⟩ := List.mem_filterMap.mp hw
  exact m_tb_t hi h1
theorem m_lays : ∀ (c : Nat) (q : vw_C), m_cl[c]? = some q → ∀ w ∈ u_ws q.1 q.2.1 q.2.2, w ∈ m_tb := by
  intro c q h
  match c, h with
  | 0, h => cases h; exact m_lay_in _ m_lay0 (by decide +kernel)
  | 1, h => cases h; exact m_lay_in _ m_lay1 (by decide +kernel)
  | 2, h => cases h; exact m_lay_in _ m_lay2 (by decide +kernel)
  | 3, h => cases h; exact m_lay_in _ m_lay3 (by decide +kernel)
  | 4, h => cases h; exact m_lay_in _ m_lay4 (by decide +kernel)
  | 5, h => cases h; exact m_lay_in _ m_lay5 (by decide +kernel)
  | 6, h => cases h; exact m_lay_in _ m_lay6 (by decide +kernel)
  | k + 7, h => simp [m_cl] at h
/-- names apart, types known -/
theorem m_cls : ∀ (c : Nat) (q : vw_C), m_cl[c]? = some q → (∀ a, a < q.2.2 → ∀ b, b < q.2.2 → a ≠ b → (q.2.1 a).2.1 ≠ (q.2.1 b).2.1) ∧ ∃ ty : Nat → FieldType, (∀ k, k < q.2.2 → parseFieldDescriptor (q.2.1 k).2.2.1 = some (ty k)) ∧ ∀ k t, m_ft c k = some t → k < q.2.2 ∧ ty k = t := by
  intro c q h
  match c, h with
  | 0, h => cases h; exact ⟨nmX0, tyX0, tyX0_ok, fun k t h => by match k, h with | 0, h => (cases h; decide) | 1, h => (cases h; decide) | 2, h => (cases h; decide) | 3, h => (cases h; decide) | 4, h => (cases h; decide) | 5, h => (cases h; decide) | 6, h => (cases h; decide) | 7, h => (cases h; decide) | k + 8, h => simp [m_ft, m_ftL] at h⟩
  | 1, h => cases h; exact ⟨nmX1, tyX1, tyX1_ok, fun k t h => by match k, h with | 0, h => (cases h; decide) | 1, h => (cases h; decide) | 2, h => (cases h; decide) | 3, h => (cases h; decide) | 4, h => (cases h; decide) | 5, h => (cases h; decide) | k + 6, h => simp [m_ft, m_ftL] at h⟩
  | 2, h => cases h; exact ⟨nmX2, tyX2, tyX2_ok, fun k t h => by match k, h with | 0, h => (cases h; decide) | 1, h => (cases h; decide) | 2, h => (cases h; decide) | 3, h => (cases h; decide) | 4, h => (cases h; decide) | 5, h => (cases h; decide) | 6, h => (cases h; decide) | 7, h => (cases h; decide) | 8, h => (cases h; decide) | 9, h => (cases h; decide) | 10, h => (cases h; decide) | k + 11, h => simp [m_ft, m_ftL] at h⟩
  | 3, h => cases h; exact ⟨nmX4, tyX4, tyX4_ok, fun k t h => by match k, h with | 0, h => (cases h; decide) | 1, h => (cases h; decide) | 2, h => (cases h; decide) | 3, h => (cases h; decide) | 4, h => (cases h; decide) | 5, h => (cases h; decide) | k + 6, h => simp [m_ft, m_ftL] at h⟩
  | 4, h => cases h; exact ⟨nmX5, tyX5, tyX5_ok, fun k t h => by match k, h with | 0, h => (cases h; decide) | 1, h => (cases h; decide) | 2, h => (cases h; decide) | 3, h => (cases h; decide) | 4, h => (cases h; decide) | 5, h => (cases h; decide) | 6, h => (cases h; decide) | 7, h => (cases h; decide) | 8, h => (cases h; decide) | k + 9, h => simp [m_ft, m_ftL] at h⟩
  | 5, h => cases h; exact ⟨nmX6, tyX6, tyX6_ok, fun k t h => by match k, h with | 0, h => (cases h; decide) | 1, h => (cases h; decide) | 2, h => (cases h; decide) | 3, h => (cases h; decide) | 4, h => (cases h; decide) | 5, h => (cases h; decide) | 6, h => (cases h; decide) | 7, h => (cases h; decide) | k + 8, h => simp [m_ft, m_ftL] at h⟩
  | 6, h =>
    cases h
    refine ⟨nmX7, tyX7, tyX7_ok, fun k t h => ?_⟩
    have hk : k < 47 := by
      rcases Nat.lt_or_ge k 47 with h1 | h1
      · exact h1
      · exact absurd h (by
          have : (m_ftL[6]?).bind (fun l => l[k]?) = none := by
            show ([_, _, _, _, _, _, _, _, _, _, _, _, _, _, _, _, _, _, _, _, _, _, _, _, _, _, _, _, _, _, _, _, _, _, _, _, _, _, _, _, _, _, _, _, _, _, _] : List FieldType)[k]? = none
            exact List.getElem?_eq_none (by simpa using h1)
          rw [show m_ft 6 k = _ from this]; exact fun h => nomatch h)
    refine ⟨hk, ?_⟩
    have key : ∀ k, k < 47 → m_ft 6 k = some (tyX7 k) := by decide +kernel
    rw [key k hk] at h
    exact Option.some.inj h
  | k + 7, h => simp [m_cl] at h
/-- the words of fields of nest mates: they are carried beside the others -/
def m_isN : Cond → Bool
  | .fieldLinkNest .. => true
  | .castable .. => true
  | .declares .. => true
  | _ => false
def m_nw : List Cond := lw_tbl.filter m_isN
theorem m_nw_warm {s U : State} (hW : s.WarmedH U.vm) (h : ∀ w ∈ m_nw, va_Nw w s) : ∀ w ∈ m_nw, va_Nw w U := by
  intro w hw
  have h1 := h w hw
  have h2 := (List.mem_filter.mp hw).2
  cases w <;> first | exact va_Nw.warmF hW h1 | exact va_Nw.warmC hW h1 | exact va_Nw.warmD hW h1 | exact absurd h2 (by simp [m_isN])
theorem m_nw_t {i : Nat} {w : Cond} (h : tables_1[i]? = some w) (hg : m_isN w = true) : w ∈ m_nw := List.mem_filter.mpr ⟨List.mem_append_right _ (List.mem_of_getElem? h), hg⟩
/-- a field's row: the word by its place -/
def m_fw (f : Nat × Nat × Nat × Nat × Bool × Nat) (own : String) (c : vw_C) : Cond := if f.2.2.2.2.1 = true then .fieldLinkNest own f.2.1 c.1 (c.2.1 f.2.2.2.1).2.1 (c.2.1 f.2.2.2.1).2.2.1 "GasContract" else .fieldLink own f.2.1 c.1 (c.2.1 f.2.2.2.1).2.1 (c.2.1 f.2.2.2.1).2.2.1
def m_fok (f : Nat × Nat × Nat × Nat × Bool × Nat) : Bool := match m_cn[f.1]?, m_cl[f.2.2.1]? with
  | some own, some c => decide (tables_1[f.2.2.2.2.2]? = some (m_fw f own c)) && (if f.2.2.2.2.1 = true then m_isN (m_fw f own c) else goodWord (m_fw f own c)) && decide (f.2.2.2.1 < c.2.2) && decide ((c.2.1 f.2.2.2.1).1 = c.1)
  | _, _ => false
theorem m_fld_ok : m_fldL.all m_fok = true := by decide +kernel
theorem m_fld_at {own idx c k : Nat} {nest : Bool} {pos : Nat} (h : (own, idx, c, k, nest, pos) ∈ m_fldL) {o : String} (ho : m_cn[own]? = some o) {q : vw_C} (hq : m_cl[c]? = some q) :
    k < q.2.2 ∧ (q.2.1 k).1 = q.1 ∧ (Cond.fieldLink o idx q.1 (q.2.1 k).2.1 (q.2.1 k).2.2.1 ∈ m_tb ∨ Cond.fieldLinkNest o idx q.1 (q.2.1 k).2.1 (q.2.1 k).2.2.1 "GasContract" ∈ m_nw) := by
  have h1 := List.all_eq_true.mp m_fld_ok _ h
  simp only [m_fok, ho, hq, Bool.and_eq_true, decide_eq_true_eq] at h1
  obtain ⟨⟨⟨h2, h3⟩, h4⟩, h5⟩ := h1
  refine ⟨h4, h5, ?_⟩
  cases nest with
  | true => exact Or.inr (m_nw_t h2 h3)
  | false => exact Or.inl (m_tb_t h2 h3)
/-- what a row of code must satisfy by itself -/
def m_sok (own nL : Nat) (q : mI) : Bool := match q.2.1 with
  | .istore_n k => decide ((k : Nat) < nL)
  | .istore i => decide (i < nL)
  | .lstore_n k => decide ((k : Nat) + 1 < nL)
  | .iinc i _ => decide (i < nL)
  | .goto off => decide (0 ≤ (q.1 : Int) + off)
  | .ifCond _ off => decide (0 ≤ (q.1 : Int) + off)
  | .if_icmp _ off => decide (0 ≤ (q.1 : Int) + off)
  | .tableswitch d _ _ offs => decide (0 ≤ (q.1 : Int) + d) && offs.toList.all (fun o => decide (0 ≤ (q.1 : Int) + o))
  | .lookupswitch d ps => (ps.toList.zip (ps.toList.drop 1)).all (fun (a, next) => a.1 < next.1) && decide (0 ≤ (q.1 : Int) + d) && ps.toList.all (fun o => decide (0 ≤ (q.1 : Int) + o.2))
  | .getfield idx => m_fldL.any (fun f => f.1 == own && f.2.1 == idx && f.2.2.1 == q.2.2.2.1 && f.2.2.2.1 == q.2.2.2.2)
  | .putfield idx => m_fldL.any (fun f => f.1 == own && f.2.1 == idx && f.2.2.1 == q.2.2.2.1 && f.2.2.2.1 == q.2.2.2.2) && (match m_cl[q.2.2.2.1]? with | some c => (c.2.1 q.2.2.2.2).2.2.2 == false | none => false)
  | .ldc idx => if q.2.2.2.1 = 0 then m_cstL.any (fun f => f.1 == own && f.2.1 == idx && f.2.2.1 == q.2.2.2.2) else (match m_strL[q.2.2.2.2]? with | some f => f.1 == own && f.2.1 == idx | none => false)
  | .ldc_w idx => m_cstL.any (fun f => f.1 == own && f.2.1 == idx && f.2.2.1 == q.2.2.2.2)
  | .ldc2_w idx => m_cslL.any (fun f => f.1 == own && f.2.1 == idx && f.2.2.1 == q.2.2.2.1 && f.2.2.2.1 == q.2.2.2.2)
  | .invokevirtual idx => decide (1000 ≤ q.2.2.2.1) || m_lnkL.any (fun f => f.1 == own && f.2.1 == idx && f.2.2.1 == q.2.2.2.1)
  | .invokestatic idx => decide (1000 ≤ q.2.2.2.1) || m_lnkL.any (fun f => f.1 == own && f.2.1 == idx && f.2.2.1 == q.2.2.2.1)
  | _ => true
theorem m_sok_all : m_prog.all (fun M => (m_cd M).all (m_sok (m_own M) (m_mL M))) = true := by decide +kernel
theorem m_decs : ∀ M ∈ m_prog, ∀ q ∈ m_cd M, decode (m_by M) q.1 = .ok (q.2.1, q.2.2.1) := by
  simp only [m_prog]
  exact List.forall_mem_cons.mpr ⟨m_dec0, List.forall_mem_cons.mpr ⟨m_dec1, List.forall_mem_cons.mpr ⟨m_dec2, List.forall_mem_cons.mpr ⟨m_dec3, List.forall_mem_cons.mpr ⟨m_dec4, List.forall_mem_cons.mpr ⟨m_dec5, List.forall_mem_cons.mpr ⟨m_dec6, List.forall_mem_cons.mpr ⟨m_dec7, List.forall_mem_cons.mpr ⟨m_dec8, List.forall_mem_cons.mpr ⟨m_dec9, List.forall_mem_cons.mpr ⟨m_dec10, List.forall_mem_cons.mpr ⟨m_dec11, List.forall_mem_cons.mpr ⟨m_dec12, List.forall_mem_cons.mpr ⟨m_dec13, List.forall_mem_cons.mpr ⟨m_dec14, List.forall_mem_cons.mpr ⟨m_dec15, List.forall_mem_cons.mpr ⟨m_dec16, List.forall_mem_cons.mpr ⟨m_dec17, List.forall_mem_cons.mpr ⟨m_dec18, List.forall_mem_cons.mpr ⟨m_dec19, List.forall_mem_cons.mpr ⟨m_dec20, List.forall_mem_cons.mpr ⟨m_dec21, List.forall_mem_cons.mpr ⟨m_dec22, List.forall_mem_cons.mpr ⟨m_dec23, List.forall_mem_cons.mpr ⟨m_dec24, List.forall_mem_cons.mpr ⟨m_dec25, List.forall_mem_cons.mpr ⟨m_dec26, List.forall_mem_cons.mpr ⟨m_dec27, List.forall_mem_cons.mpr ⟨m_dec28, List.forall_mem_cons.mpr ⟨m_dec29, List.forall_mem_cons.mpr ⟨m_dec30, List.forall_mem_cons.mpr ⟨m_dec31, List.forall_mem_cons.mpr ⟨m_dec32, List.forall_mem_cons.mpr ⟨m_dec33, List.forall_mem_cons.mpr ⟨m_dec34, List.forall_mem_cons.mpr ⟨m_dec35, List.forall_mem_cons.mpr ⟨m_dec36, List.forall_mem_cons.mpr ⟨m_dec37, List.forall_mem_cons.mpr ⟨m_dec38, List.forall_mem_cons.mpr ⟨m_dec39, List.forall_mem_cons.mpr ⟨m_dec40, List.forall_mem_cons.mpr ⟨m_dec41, List.forall_mem_cons.mpr ⟨m_dec42, List.forall_mem_cons.mpr ⟨m_dec43, List.forall_mem_cons.mpr ⟨m_dec44, List.forall_mem_cons.mpr ⟨m_dec45, List.forall_mem_cons.mpr ⟨m_dec46, List.forall_mem_cons.mpr ⟨m_dec47, List.forall_mem_cons.mpr ⟨m_dec48, List.forall_mem_cons.mpr ⟨m_dec49, List.forall_mem_cons.mpr ⟨m_dec50, List.forall_mem_cons.mpr ⟨m_dec51, List.forall_mem_cons.mpr ⟨m_dec52, List.forall_mem_cons.mpr ⟨m_dec53, List.forall_mem_cons.mpr ⟨m_dec54, List.forall_mem_cons.mpr ⟨m_dec55, List.forall_mem_cons.mpr ⟨m_dec56, List.forall_mem_cons.mpr ⟨m_dec57, List.forall_mem_cons.mpr ⟨m_dec58, List.forall_mem_cons.mpr ⟨m_dec59, List.forall_mem_cons.mpr ⟨m_dec60, List.forall_mem_cons.mpr ⟨m_dec61, List.forall_mem_cons.mpr ⟨m_dec62, List.forall_mem_cons.mpr ⟨m_dec63, List.forall_mem_cons.mpr ⟨m_dec64, List.forall_mem_cons.mpr ⟨m_dec65, List.forall_mem_cons.mpr ⟨m_dec66, List.forall_mem_cons.mpr ⟨m_dec67, List.forall_mem_cons.mpr ⟨m_dec68, List.forall_mem_cons.mpr ⟨m_dec69, List.forall_mem_cons.mpr ⟨m_dec70, List.forall_mem_cons.mpr ⟨m_dec71, List.forall_mem_cons.mpr ⟨m_dec72, List.forall_mem_cons.mpr ⟨m_dec73, List.forall_mem_cons.mpr ⟨m_dec74, List.forall_mem_cons.mpr ⟨m_dec75, List.forall_mem_cons.mpr ⟨m_dec76, List.forall_mem_cons.mpr ⟨m_dec77, List.forall_mem_cons.mpr ⟨m_dec78, List.forall_mem_cons.mpr ⟨m_dec79, List.forall_mem_cons.mpr ⟨m_dec80, List.forall_mem_cons.mpr ⟨m_dec81, List.forall_mem_cons.mpr ⟨m_dec82, List.forall_mem_cons.mpr ⟨m_dec83, List.forall_mem_cons.mpr ⟨m_dec84, List.forall_mem_cons.mpr ⟨m_dec85, List.forall_mem_cons.mpr ⟨m_dec86, List.forall_mem_cons.mpr ⟨m_dec87, List.forall_mem_cons.mpr ⟨m_dec88, List.forall_mem_cons.mpr ⟨m_dec89, List.forall_mem_cons.mpr ⟨m_dec90, List.forall_mem_cons.mpr ⟨m_dec91, List.forall_mem_cons.mpr ⟨m_dec92, List.forall_mem_cons.mpr ⟨m_dec93, List.forall_mem_cons.mpr ⟨m_dec94, List.forall_mem_cons.mpr ⟨m_dec95, List.forall_mem_cons.mpr ⟨m_dec96, List.forall_mem_cons.mpr ⟨m_dec97, List.forall_mem_cons.mpr ⟨m_dec98, List.forall_mem_cons.mpr ⟨m_dec99, List.forall_mem_cons.mpr ⟨m_dec100, List.forall_mem_cons.mpr ⟨m_dec101, List.forall_mem_cons.mpr ⟨m_dec102, List.forall_mem_cons.mpr ⟨m_dec103, List.forall_mem_cons.mpr ⟨m_dec104, List.forall_mem_cons.mpr ⟨m_dec105, List.forall_mem_cons.mpr ⟨m_dec106, List.forall_mem_cons.mpr ⟨m_dec107, List.forall_mem_cons.mpr ⟨m_dec108, List.forall_mem_cons.mpr ⟨m_dec109, List.forall_mem_cons.mpr ⟨m_dec110, List.forall_mem_cons.mpr ⟨m_dec111, List.forall_mem_cons.mpr ⟨m_dec112, List.forall_mem_cons.mpr ⟨m_dec113, List.forall_mem_cons.mpr ⟨m_dec114, List.forall_mem_cons.mpr ⟨m_dec115, List.forall_mem_cons.mpr ⟨m_dec116, List.forall_mem_cons.mpr ⟨m_dec117, List.forall_mem_cons.mpr ⟨m_dec118, List.forall_mem_cons.mpr ⟨m_dec119, List.forall_mem_cons.mpr ⟨m_dec120, List.forall_mem_cons.mpr ⟨m_dec121, List.forall_mem_cons.mpr ⟨m_dec122, List.forall_mem_cons.mpr ⟨m_dec123, List.forall_mem_cons.mpr ⟨m_dec124, List.forall_mem_cons.mpr ⟨m_dec125, List.forall_mem_cons.mpr ⟨m_dec126, List.forall_mem_cons.mpr ⟨m_dec127, List.forall_mem_cons.mpr ⟨m_dec128, List.forall_mem_cons.mpr ⟨m_dec129, List.forall_mem_cons.mpr ⟨m_dec130, List.forall_mem_cons.mpr ⟨m_dec131, List.forall_mem_cons.mpr ⟨m_dec132, List.forall_mem_cons.mpr ⟨m_dec133, List.forall_mem_cons.mpr ⟨m_dec134, List.forall_mem_cons.mpr ⟨m_dec135, List.forall_mem_cons.mpr ⟨m_dec136, List.forall_mem_cons.mpr ⟨m_dec137, List.forall_mem_cons.mpr ⟨m_dec138, List.forall_mem_cons.mpr ⟨m_dec139, List.forall_mem_cons.mpr ⟨m_dec140, List.forall_mem_cons.mpr ⟨m_dec141, List.forall_mem_cons.mpr ⟨m_dec142, List.forall_mem_cons.mpr ⟨m_dec143, List.forall_mem_cons.mpr ⟨m_dec144, List.forall_mem_cons.mpr ⟨m_dec145, List.forall_mem_cons.mpr ⟨m_dec146, List.forall_mem_cons.mpr ⟨m_dec147, List.forall_mem_cons.mpr ⟨m_dec148, List.forall_mem_cons.mpr ⟨m_dec149, List.forall_mem_cons.mpr ⟨m_dec150, List.forall_mem_cons.mpr ⟨m_dec151, List.forall_mem_cons.mpr ⟨m_dec152, List.forall_mem_cons.mpr ⟨m_dec153, List.forall_mem_cons.mpr ⟨m_dec154, List.forall_mem_cons.mpr ⟨m_dec155, List.forall_mem_cons.mpr ⟨m_dec156, List.forall_mem_cons.mpr ⟨m_dec157, fun _ h => absurd h List.not_mem_nil⟩⟩⟩⟩⟩⟩⟩⟩⟩⟩⟩⟩⟩⟩⟩⟩⟩⟩⟩⟩⟩⟩⟩⟩⟩⟩⟩⟩⟩⟩⟩⟩⟩⟩⟩⟩⟩⟩⟩⟩⟩⟩⟩⟩⟩⟩⟩⟩⟩⟩⟩⟩⟩⟩⟩⟩⟩⟩⟩⟩⟩⟩⟩⟩⟩⟩⟩⟩⟩⟩⟩⟩⟩⟩⟩⟩⟩⟩⟩⟩⟩⟩⟩⟩⟩⟩⟩⟩⟩⟩⟩⟩⟩⟩⟩⟩⟩⟩⟩⟩⟩⟩⟩⟩⟩⟩⟩⟩⟩⟩⟩⟩⟩⟩⟩⟩⟩⟩⟩⟩⟩⟩⟩⟩⟩⟩⟩⟩⟩⟩⟩⟩⟩⟩⟩⟩⟩⟩⟩⟩⟩⟩⟩⟩⟩⟩⟩⟩⟩⟩⟩⟩⟩⟩⟩⟩⟩⟩
