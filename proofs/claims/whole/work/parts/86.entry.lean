/-! statics and strings at the law's entry -/
theorem st_gin {i : Nat} (hi : i < 11) {w : Cond} (h : w ∈ st_g i) : w ∈ nl := nlS_in (List.mem_append_right _ (List.mem_append_left _ (List.mem_flatMap.mpr ⟨i, List.mem_range.mpr hi, h⟩)))
theorem st_1 {i : Nat} (hi : i < 11) : Cond.exactly (st_tm i) "java/lang/String" ∈ nl := st_gin hi List.mem_cons_self
theorem st_2 {i : Nat} (hi : i < 11) : Cond.eq (.field (st_tm i) "java/lang/String" "coder" "B") (.int 0) ∈ nl := st_gin hi (List.mem_cons_of_mem _ List.mem_cons_self)
theorem st_3 {i : Nat} (hi : i < 11) : Cond.arrayOf (.field (st_tm i) "java/lang/String" "value" "[B") .byte ∈ nl := st_gin hi (List.mem_cons_of_mem _ (List.mem_cons_of_mem _ List.mem_cons_self))
theorem st_4 {i : Nat} (hi : i < 11) : Cond.eq (.length (.field (st_tm i) "java/lang/String" "value" "[B")) (.int (Int32.ofNat (m_sLen.getD i 0))) ∈ nl := st_gin hi (List.mem_cons_of_mem _ (List.mem_cons_of_mem _ (List.mem_cons_of_mem _ List.mem_cons_self)))
theorem st_5 {i j : Nat} (hi : i < 11) (hj : j < m_sLen.getD i 0) : Cond.eq (.elem (.field (st_tm i) "java/lang/String" "value" "[B") (.int (Int32.ofNat j))) (.int ((m_sByt.getD i []).getD j 0)) ∈ nl := st_gin hi (List.mem_cons_of_mem _ (List.mem_cons_of_mem _ (List.mem_cons_of_mem _ (List.mem_cons_of_mem _ (List.mem_append_left _ (List.mem_map.mpr ⟨j, List.mem_range.mpr hj, rfl⟩))))))
theorem st_6 {i j : Nat} (hi : i < 11) (hj : j < i) : Cond.not (Cond.eq (st_tm j) (st_tm i)) ∈ nl := st_gin hi (List.mem_cons_of_mem _ (List.mem_cons_of_mem _ (List.mem_cons_of_mem _ (List.mem_cons_of_mem _ (List.mem_append_right _ (List.mem_map.mpr ⟨j, List.mem_range.mpr hj, rfl⟩))))))
def st_own (c : Nat) : String := m_cn.getD c ""
set_option maxRecDepth 100000 in
theorem st_7 : m_strL.all (fun f => decide (Cond.exactly (.string (st_own f.1) f.2.1) "java/lang/String" ∈ nlS) && decide (tables_1[f.2.2.2]? = some (Cond.stringRef (st_own f.1) f.2.1 f.2.2.1))) = true := by decide +kernel
set_option maxRecDepth 100000 in
theorem st_8 : m_ncL.all (fun f => decide (Cond.not (.castable f.1 f.2) ∈ nlP)) = true := by decide +kernel
theorem st_9 : (Cond.eq (.static "java/lang/String" "COMPACT_STRINGS" "Z") (.int 1) ∈ nl) ∧ (Cond.isRef (.static "jdk/internal/util/Preconditions" "SIOOBE_FORMATTER" "Ljava/util/function/BiFunction;") ∈ nl) ∧ (Cond.isRef (.static Bundle.tN "UNASSIGNED_STACK" Bundle.steD) ∈ nl) ∧ (Cond.isRef (.static Bundle.tN "SUPPRESSED_SENTINEL" Bundle.listD) ∈ nl) :=
  ⟨nlS_in (List.mem_append_left _ List.mem_cons_self), nlS_in (List.mem_append_left _ (List.mem_cons_of_mem _ List.mem_cons_self)), nlS_in (List.mem_append_left _ (List.mem_cons_of_mem _ (List.mem_cons_of_mem _ List.mem_cons_self))), nlS_in (List.mem_append_left _ (List.mem_cons_of_mem _ (List.mem_cons_of_mem _ (List.mem_cons_of_mem _ List.mem_cons_self))))⟩
section Ent
variable {args : Array Value} {s : State} {A : Nat → Prop}
theorem e_words (hgv : (Jvm.Cond.and given_1 narrow_1).before args s = true) (hA : ∀ a : Nat, a < s.heap.size → ¬ A a) : ∃ adK adV : Nat → Nat, vk_S 11 m_sLen m_sByt adK adV A s s.heap ∧ ∀ i : Nat, i < 11 → (st_tm i).eval args s none [] s = some (.ref (adK i)) := by
  have hs := flat_of_before _ hgv
  refine vk_Sof (tm := st_tm) (fun i hi => ?_) (fun i hi => hs _ (st_1 hi)) (fun i hi => hs _ (st_2 hi)) (fun i hi => hs _ (st_3 hi)) (fun i hi => hs _ (st_4 hi)) (fun i hi j hj => hs _ (st_5 hi hj)) (fun i j hi hj hij => ?_) hA
  · have : ∀ i, i < 11 → m_sLen.getD i 0 < 2 ^ 31 := by decide
    exact this i hi
  · rcases Nat.lt_or_gt_of_ne hij with h | h
    · exact Or.inl (hs _ (st_6 hj h))
    · exact Or.inr (hs _ (st_6 hi h))
theorem e_str (hts : ∀ w ∈ lw_tbl, w.before args s = true) (hgv : (Jvm.Cond.and given_1 narrow_1).before args s = true) {k : Nat} {f : Nat × Nat × String × Nat} (hf : m_strL[k]? = some f) : ∃ a, ∀ o, m_cn[f.1]? = some o → vk_R o f.2.1 f.2.2.1 a s ∧ (Term.string o f.2.1).eval args s none [] s = some (.ref a) := by
  have hs := flat_of_before _ hgv
  have h := List.all_eq_true.mp st_7 f (List.mem_of_getElem? hf)
  rw [Bool.and_eq_true] at h
  obtain ⟨h1, h2⟩ := h
  have h1 := nlS_in (of_decide_eq_true h1)
  have h2 := of_decide_eq_true h2
  obtain ⟨a, c, cA, kA, q1, -⟩ := Cond.exactly_spec (args := args) (first := s) (o := none) (s := s) (idx := []) (t := .string (st_own f.1) f.2.1) (cls := "java/lang/String") (hs _ h1)
  refine ⟨a, fun o ho => ?_⟩
  have e : st_own f.1 = o := by unfold st_own; rw [List.getD_eq_getElem?_getD, ho]; rfl
  rw [← e]
  exact ⟨vk_R.of (hts _ (List.mem_append_right _ (List.mem_of_getElem? h2))) q1, q1⟩
/-- addresses of the strings and of their bytes -/
theorem e_all (hts : ∀ w ∈ lw_tbl, w.before args s = true) (hgv : (Jvm.Cond.and given_1 narrow_1).before args s = true) (hA : ∀ a : Nat, a < s.heap.size → ¬ A a) : ∃ sA sV : Nat → Nat, (∀ (k : Nat) (f : Nat × Nat × String × Nat), m_strL[k]? = some f → ∀ o, m_cn[f.1]? = some o → vk_R o f.2.1 f.2.2.1 (sA k) s) ∧ vk_S 11 m_sLen m_sByt sA sV A s s.heap := by
  obtain ⟨adK, adV, h1, h2⟩ := e_words hgv hA
  have h3 : ∀ k : Nat, ∃ a : Nat, ∀ f, m_strL[k]? = some f → ∀ o, m_cn[f.1]? = some o → vk_R o f.2.1 f.2.2.1 a s ∧ (Term.string o f.2.1).eval args s none [] s = some (.ref a) := fun k => by
    cases hf : m_strL[k]? with
    | none => exact ⟨0, fun f h => by cases h⟩
    | some f =>
      obtain ⟨a, ha⟩ := e_str hts hgv hf
      exact ⟨a, fun f' h => by cases h; exact ha⟩
  obtain ⟨sA, hsA⟩ := Classical.axiomOfChoice h3
  have h4 : ∀ i, i < 11 → sA i = adK i := fun i hi => by
    have e := h2 i hi
    have hx : ∃ f, m_strL[i]? = some f ∧ m_cn[f.1]? = some "GasContract$Tokens" ∧ f.2.1 = st_ix.getD i 0 := by
      have : ∀ i, i < 11 → ∃ f, m_strL[i]? = some f ∧ m_cn[f.1]? = some "GasContract$Tokens" ∧ f.2.1 = st_ix.getD i 0 := fun i hi => by
        match i, hi with
        | 0, _ => exact ⟨_, rfl, rfl, rfl⟩
        | 1, _ => exact ⟨_, rfl, rfl, rfl⟩
        | 2, _ => exact ⟨_, rfl, rfl, rfl⟩
        | 3, _ => exact ⟨_, rfl, rfl, rfl⟩
        | 4, _ => exact ⟨_, rfl, rfl, rfl⟩
        | 5, _ => exact ⟨_, rfl, rfl, rfl⟩
        | 6, _ => exact ⟨_, rfl, rfl, rfl⟩
        | 7, _ => exact ⟨_, rfl, rfl, rfl⟩
        | 8, _ => exact ⟨_, rfl, rfl, rfl⟩
        | 9, _ => exact ⟨_, rfl, rfl, rfl⟩
        | 10, _ => exact ⟨_, rfl, rfl, rfl⟩
        | i + 11, h => omega
      exact this i hi
    obtain ⟨f, q1, q2, q3⟩ := hx
    have e2 := (hsA i f q1 _ q2).2
    rw [q3] at e2
    have := e2.symm.trans e
    simpa using this
  refine ⟨sA, adV, fun k f hf o ho => (hsA k f hf o ho).1, fun i hi => ?_, fun i j hi hj e => h1.2 i j hi hj (by rw [← h4 i hi, ← h4 j hj]; exact e)⟩
  rw [h4 i hi]
  exact h1.1 i hi
def adF (Q : List Nat) (b : Nat) (sA sV : Nat → Nat) (i : Nat) : Nat := if i < 57 then Q.getD i 0 else if i = 1000000 then b else if i < 1000101 then sA (i - 1000001) else sV (i - 1000101)
theorem adF_b {Q : List Nat} {b : Nat} {sA sV : Nat → Nat} : adF Q b sA sV 1000000 = b := by
  unfold adF
  rw [if_neg (by omega), if_pos rfl]
theorem adF_A {Q : List Nat} {b : Nat} {sA sV : Nat → Nat} {k : Nat} (hk : k < 100) : adF Q b sA sV (1000000 + 1 + k) = sA k := by
  unfold adF
  rw [if_neg (by omega), if_neg (by omega), if_pos (by omega), show 1000000 + 1 + k - 1000001 = k by omega]
theorem adF_V {Q : List Nat} {b : Nat} {sA sV : Nat → Nat} {k : Nat} : adF Q b sA sV (1000000 + 101 + k) = sV k := by
  unfold adF
  rw [if_neg (by omega), if_neg (by omega), if_neg (by omega), show 1000000 + 101 + k - 1000101 = k by omega]
theorem e_EV {D : va_G} {cI cJ : ClassId} {b L : Nat} {xs : Nat → Int32} {Q : List Nat} {sA sV : Nat → Nat} (hts : ∀ w ∈ lw_tbl, w.before args s = true) (hgv : (Jvm.Cond.and given_1 narrow_1).before args s = true) (hA : ∀ a : Nat, a < s.heap.size → ¬ A a) (hK : va_K D m_cl [(cI, .int), (cJ, .long)] s) (hX : va_X b L xs s s.heap) (hbl : b < s.heap.size) (h1 : ∀ (k : Nat) (f : Nat × Nat × String × Nat), m_strL[k]? = some f → ∀ o, m_cn[f.1]? = some o → vk_R o f.2.1 f.2.2.1 (sA k) s) (h2 : vk_S 11 m_sLen m_sByt sA sV A s s.heap) : m_EV D (adF Q b sA sV) cI cJ A (L, xs) s := by
  have hs := flat_of_before _ hgv
  have hw : ∀ {i : Nat} {w : Cond}, tables_1[i]? = some w → w.before args s = true := fun h => hts _ (List.mem_append_right _ (List.mem_of_getElem? h))
  obtain ⟨n1, n2, n3, n4⟩ := st_9
  refine ⟨hK, fun w hw => va_Nw.of (m_isN_tab hw) (hts w (List.mem_filter.mp hw).1), fun k f hf o ho => ?_, ?_, ?_, ?_, vx_Zqof (hw (i := 395) rfl) (hw (i := 8) rfl) (hs _ n3) hA, vx_Zqof (hw (i := 397) rfl) (hw (i := 8) rfl) (hs _ n4) hA, fun q hq => va_Nc.of (hs _ (nlS_in (List.mem_append_left _ (of_decide_eq_true (List.all_eq_true.mp st_8 q hq))))), ?_, va_Zof (hw (i := 280) rfl) (hw (i := 13) rfl) (va_eqt (hs _ n1)) hA, va_Zqof (hw (i := 296) rfl) (hw (i := 15) rfl) (hs _ n2) hA⟩
  · have hk : k < 19 := by
      have := (List.getElem?_eq_some_iff.mp hf).1
      exact this
    rw [show adF Q b sA sV (m_scr + 1 + k) = sA k from adF_A (by omega)]
    exact h1 k f hf o ho
  · rw [show adF Q b sA sV m_scr = b from adF_b]
    exact hX
  · rw [show adF Q b sA sV m_scr = b from adF_b]
    exact hbl
  · rw [show adF Q b sA sV m_scr = b from adF_b]
    exact hA b hbl
  · refine ⟨fun i hi => ?_, fun i j hi hj e => h2.2 i j hi hj ?_⟩
    · show va_O "java/lang/String" (adF Q b sA sV (m_scr + 1 + i)) A s s.heap ∧ va_OF "java/lang/String" "coder" "B" (.int 0) (adF Q b sA sV (m_scr + 1 + i)) A s s.heap ∧ va_OF "java/lang/String" "value" "[B" (.ref (adF Q b sA sV (m_scr + 101 + i))) (adF Q b sA sV (m_scr + 1 + i)) A s s.heap ∧ va_T .byte (adF Q b sA sV (m_scr + 101 + i)) (m_sLen.getD i 0) (fun j => .int ((m_sByt.getD i []).getD j 0)) A s s.heap
      rw [show adF Q b sA sV (m_scr + 1 + i) = sA i from adF_A (by omega), show adF Q b sA sV (m_scr + 101 + i) = sV i from adF_V]
      exact h2.1 i hi
    · have e1 : adF Q b sA sV (m_scr + 1 + i) = sA i := adF_A (by omega)
      have e2 : adF Q b sA sV (m_scr + 1 + j) = sA j := adF_A (by omega)
      rw [← e1, ← e2]
      exact e
end Ent
