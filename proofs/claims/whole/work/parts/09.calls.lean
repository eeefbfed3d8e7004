/-! the words of calls -/
def m_wd (M : mM) : Cond := match m_hh M with
  | [] => .code (m_y M) (m_by M) (m_mL M) (m_ret M)
  | h :: t => .codeWith (m_y M) (m_by M) (m_mL M) (m_ret M) (h :: t)
theorem m_wdg0 : ∀ M ∈ [mM0, mM1, mM2, mM3, mM4, mM5, mM6, mM7, mM8, mM9, mM10, mM11, mM12, mM13, mM14, mM15, mM16, mM17, mM18, mM19], m_wd M ∈ m_tb := List.forall_mem_cons.mpr ⟨m_tb_of m_cw0 rfl, List.forall_mem_cons.mpr ⟨m_tb_of m_cw1 rfl, List.forall_mem_cons.mpr ⟨m_tb_of m_cw2 rfl, List.forall_mem_cons.mpr ⟨m_tb_of m_cw3 rfl, List.forall_mem_cons.mpr ⟨m_tb_of m_cw4 rfl, List.forall_mem_cons.mpr ⟨m_tb_of m_cw5 rfl, List.forall_mem_cons.mpr ⟨m_tb_of m_cw6 rfl, List.forall_mem_cons.mpr ⟨m_tb_of m_cw7 rfl, List.forall_mem_cons.mpr ⟨m_tb_of m_cw8 rfl, List.forall_mem_cons.mpr ⟨m_tb_of m_cw9 rfl, List.forall_mem_cons.mpr ⟨m_tb_of m_cw10 rfl, List.forall_mem_cons.mpr ⟨m_tb_of m_cw11 rfl, List.forall_mem_cons.mpr ⟨m_tb_of m_cw12 rfl, List.forall_mem_cons.mpr ⟨m_tb_of m_cw13 rfl, List.forall_mem_cons.mpr ⟨m_tb_of m_cw14 rfl, List.forall_mem_cons.mpr ⟨m_tb_of m_cw15 rfl, List.forall_mem_cons.mpr ⟨m_tb_of m_cw16 rfl, List.forall_mem_cons.mpr ⟨m_tb_of m_cw17 rfl, List.forall_mem_cons.mpr ⟨m_tb_of m_cw18 rfl, List.forall_mem_cons.mpr ⟨m_tb_of m_cw19 rfl, fun _ h => absurd h List.not_mem_nil⟩⟩⟩⟩⟩⟩⟩⟩⟩⟩⟩⟩⟩⟩⟩⟩⟩⟩⟩⟩
theorem m_wdg1 : ∀ M ∈ [mM20, mM21, mM22, mM23, mM24, mM25, mM26, mM27, mM28, mM29, mM30, mM31, mM32, mM33, mM34, mM35, mM36, mM37, mM38, mM39], m_wd M ∈ m_tb := List.forall_mem_cons.mpr ⟨m_tb_of m_cw20 rfl, List.forall_mem_cons.mpr ⟨m_tb_of m_cw21 rfl, List.forall_mem_cons.mpr ⟨m_tb_of m_cw22 rfl, List.forall_mem_cons.mpr ⟨m_tb_of m_cw23 rfl, List.forall_mem_cons.mpr ⟨m_tb_of m_cw24 rfl, List.forall_mem_cons.mpr ⟨m_tb_of m_cw25 rfl, List.forall_mem_cons.mpr ⟨m_tb_of m_cw26 rfl, List.forall_mem_cons.mpr ⟨m_tb_of m_cw27 rfl, List.forall_mem_cons.mpr ⟨m_tb_of m_cw28 rfl, List.forall_mem_cons.mpr ⟨m_tb_of m_cw29 rfl, List.forall_mem_cons.mpr ⟨m_tb_of m_cw30 rfl, List.forall_mem_cons.mpr ⟨m_tb_of m_cw31 rfl, List.forall_mem_cons.mpr ⟨m_tb_of m_cw32 rfl, List.forall_mem_cons.mpr ⟨m_tb_of m_cw33 rfl, List.forall_mem_cons.mpr ⟨m_tb_of m_cw34 rfl, List.forall_mem_cons.mpr ⟨m_tb_of m_cw35 rfl, List.forall_mem_cons.mpr ⟨m_tb_of m_cw36 rfl, List.forall_mem_cons.mpr ⟨m_tb_of m_cw37 rfl, List.forall_mem_cons.mpr ⟨m_tb_of m_cw38 rfl, List.forall_mem_cons.mpr ⟨m_tb_of m_cw39 rfl, fun _ h => absurd h List.not_mem_nil⟩⟩⟩⟩⟩⟩⟩⟩⟩⟩⟩⟩⟩⟩⟩⟩⟩⟩⟩⟩
theorem m_wdg2 : ∀ M ∈ [mM40, mM41, mM42, mM43, mM44, mM45, mM46, mM47, mM48, mM49, mM50, mM51, mM52, mM53, mM54, mM55, mM56, mM57, mM58, mM59], m_wd M ∈ m_tb := List.forall_mem_cons.mpr ⟨m_tb_of m_cw40 rfl, List.forall_mem_cons.mpr ⟨m_tb_of m_cw41 rfl, List.forall_mem_cons.mpr ⟨m_tb_of m_cw42 rfl, List.forall_mem_cons.mpr ⟨m_tb_of m_cw43 rfl, List.forall_mem_cons.mpr ⟨m_tb_of m_cw44 rfl, List.forall_mem_cons.mpr ⟨m_tb_of m_cw45 rfl, List.forall_mem_cons.mpr ⟨m_tb_of m_cw46 rfl, List.forall_mem_cons.mpr ⟨m_tb_of m_cw47 rfl, List.forall_mem_cons.mpr ⟨m_tb_of m_cw48 rfl, List.forall_mem_cons.mpr ⟨m_tb_of m_cw49 rfl, List.forall_mem_cons.mpr ⟨m_tb_of m_cw50 rfl, List.forall_mem_cons.mpr ⟨m_tb_of m_cw51 rfl, List.forall_mem_cons.mpr ⟨m_tb_of m_cw52 rfl, List.forall_mem_cons.mpr ⟨m_tb_of m_cw53 rfl, List.forall_mem_cons.mpr ⟨m_tb_of m_cw54 rfl, List.forall_mem_cons.mpr ⟨m_tb_of m_cw55 rfl, List.forall_mem_cons.mpr ⟨m_tb_of m_cw56 rfl, List.forall_mem_cons.mpr ⟨m_tb_of m_cw57 rfl, List.forall_mem_cons.mpr ⟨m_tb_of m_cw58 rfl, List.forall_mem_cons.mpr ⟨m_tb_of m_cw59 rfl, fun _ h => absurd h List.not_mem_nil⟩⟩⟩⟩⟩⟩⟩⟩⟩⟩⟩⟩⟩⟩⟩⟩⟩⟩⟩⟩
theorem m_wdg3 : ∀ M ∈ [mM60, mM61, mM62, mM63, mM64, mM65, mM66, mM67, mM68, mM69, mM70, mM71, mM72, mM73, mM74, mM75, mM76, mM77, mM78, mM79], m_wd M ∈ m_tb := List.forall_mem_cons.mpr ⟨m_tb_of m_cw60 rfl, List.forall_mem_cons.mpr ⟨m_tb_of m_cw61 rfl, List.forall_mem_cons.mpr ⟨m_tb_of m_cw62 rfl, List.forall_mem_cons.mpr ⟨m_tb_of m_cw63 rfl, List.forall_mem_cons.mpr ⟨m_tb_of m_cw64 rfl, List.forall_mem_cons.mpr ⟨m_tb_of m_cw65 rfl, List.forall_mem_cons.mpr ⟨m_tb_of m_cw66 rfl, List.forall_mem_cons.mpr ⟨m_tb_of m_cw67 rfl, List.forall_mem_cons.mpr ⟨m_tb_of m_cw68 rfl, List.forall_mem_cons.mpr ⟨m_tb_of m_cw69 rfl, List.forall_mem_cons.mpr ⟨m_tb_of m_cw70 rfl, List.forall_mem_cons.mpr ⟨m_tb_of m_cw71 rfl, List.forall_mem_cons.mpr ⟨m_tb_of m_cw72 rfl, List.forall_mem_cons.mpr ⟨m_tb_of m_cw73 rfl, List.forall_mem_cons.mpr ⟨m_tb_of m_cw74 rfl, List.forall_mem_cons.mpr ⟨m_tb_of m_cw75 rfl, List.forall_mem_cons.mpr ⟨m_tb_of m_cw76 rfl, List.forall_mem_cons.mpr ⟨m_tb_of m_cw77 rfl, List.forall_mem_cons.mpr ⟨m_tb_of m_cw78 rfl, List.forall_mem_cons.mpr ⟨m_tb_of m_cw79 rfl, fun _ h => absurd h List.not_mem_nil⟩⟩⟩⟩⟩⟩⟩⟩⟩⟩⟩⟩⟩⟩⟩⟩⟩⟩⟩⟩
theorem m_wdg4 : ∀ M ∈ [mM80, mM81, mM82, mM83, mM84, mM85, mM86, mM87, mM88, mM89, mM90, mM91, mM92, mM93, mM94, mM95, mM96, mM97, mM98, mM99], m_wd M ∈ m_tb := List.forall_mem_cons.mpr ⟨m_tb_of m_cw80 rfl, List.forall_mem_cons.mpr ⟨m_tb_of m_cw81 rfl, List.forall_mem_cons.mpr ⟨m_tb_of m_cw82 rfl, List.forall_mem_cons.mpr ⟨m_tb_of m_cw83 rfl, List.forall_mem_cons.mpr ⟨m_tb_of m_cw84 rfl, List.forall_mem_cons.mpr ⟨m_tb_of m_cw85 rfl, List.forall_mem_cons.mpr ⟨m_tb_of m_cw86 rfl, List.forall_mem_cons.mpr ⟨m_tb_of m_cw87 rfl, List.forall_mem_cons.mpr ⟨m_tb_of m_cw88 rfl, List.forall_mem_cons.mpr ⟨m_tb_of m_cw89 rfl, List.forall_mem_cons.mpr ⟨m_tb_of m_cw90 rfl, List.forall_mem_cons.mpr ⟨m_tb_of m_cw91 rfl, List.forall_mem_cons.mpr ⟨m_tb_of m_cw92 rfl, List.forall_mem_cons.mpr ⟨m_tb_of m_cw93 rfl, List.forall_mem_cons.mpr ⟨m_tb_of m_cw94 rfl, List.forall_mem_cons.mpr ⟨m_tb_of m_cw95 rfl, List.forall_mem_cons.mpr ⟨m_tb_of m_cw96 rfl, List.forall_mem_cons.mpr ⟨m_tb_of m_cw97 rfl, List.forall_mem_cons.mpr ⟨m_tb_of m_cw98 rfl, List.forall_mem_cons.mpr ⟨m_tb_of m_cw99 rfl, fun _ h => absurd h List.not_mem_nil⟩⟩⟩⟩⟩⟩⟩⟩⟩⟩⟩⟩⟩⟩⟩⟩⟩⟩⟩⟩
theorem m_wdg5 : ∀ M ∈ [mM100, mM101, mM102, mM103, mM104, mM105, mM106, mM107, mM108, mM109, mM110, mM111, mM112, mM113, mM114, mM115, mM116, mM117, mM118, mM119], m_wd M ∈ m_tb := List.forall_mem_cons.mpr ⟨m_tb_of m_cw100 rfl, List.forall_mem_cons.mpr ⟨m_tb_of m_cw101 rfl, List.forall_mem_cons.mpr ⟨m_tb_of m_cw102 rfl, List.forall_mem_cons.mpr ⟨m_tb_of m_cw103 rfl, List.forall_mem_cons.mpr ⟨m_tb_of m_cw104 rfl, List.forall_mem_cons.mpr ⟨m_tb_of m_cw105 rfl, List.forall_mem_cons.mpr ⟨m_tb_of m_cw106 rfl, List.forall_mem_cons.mpr ⟨m_tb_of m_cw107 rfl, List.forall_mem_cons.mpr ⟨m_tb_of m_cw108 rfl, List.forall_mem_cons.mpr ⟨m_tb_of m_cw109 rfl, List.forall_mem_cons.mpr ⟨m_tb_of m_cw110 rfl, List.forall_mem_cons.mpr ⟨m_tb_of m_cw111 rfl, List.forall_mem_cons.mpr ⟨m_tb_of m_cw112 rfl, List.forall_mem_cons.mpr ⟨m_tb_of m_cw113 rfl, List.forall_mem_cons.mpr ⟨m_tb_of m_cw114 rfl, List.forall_mem_cons.mpr ⟨m_tb_of m_cw115 rfl, List.forall_mem_cons.mpr ⟨m_tb_of m_cw116 rfl, List.forall_mem_cons.mpr ⟨m_tb_of m_cw117 rfl, List.forall_mem_cons.mpr ⟨m_tb_of m_cw118 rfl, List.forall_mem_cons.mpr ⟨m_tb_of m_cw119 rfl, fun _ h => absurd h List.not_mem_nil⟩⟩⟩⟩⟩⟩⟩⟩⟩⟩⟩⟩⟩⟩⟩⟩⟩⟩⟩⟩
theorem m_wdg6 : ∀ M ∈ [mM120, mM121, mM122, mM123, mM124, mM125, mM126, mM127, mM128, mM129, mM130, mM131, mM132, mM133, mM134, mM135, mM136, mM137, mM138, mM139], m_wd M ∈ m_tb := List.forall_mem_cons.mpr ⟨m_tb_of m_cw120 rfl, List.forall_mem_cons.mpr ⟨m_tb_of m_cw121 rfl, List.forall_mem_cons.mpr ⟨m_tb_of m_cw122 rfl, List.forall_mem_cons.mpr ⟨m_tb_of m_cw123 rfl, List.forall_mem_cons.mpr ⟨m_tb_of m_cw124 rfl, List.forall_mem_cons.mpr ⟨m_tb_of m_cw125 rfl, List.forall_mem_cons.mpr ⟨m_tb_of m_cw126 rfl, List.forall_mem_cons.mpr ⟨m_tb_of m_cw127 rfl, List.forall_mem_cons.mpr ⟨m_tb_of m_cw128 rfl, List.forall_mem_cons.mpr ⟨m_tb_of m_cw129 rfl, List.forall_mem_cons.mpr ⟨m_tb_of m_cw130 rfl, List.forall_mem_cons.mpr ⟨m_tb_of m_cw131 rfl, List.forall_mem_cons.mpr ⟨m_tb_of m_cw132 rfl, List.forall_mem_cons.mpr ⟨m_tb_of m_cw133 rfl, List.forall_mem_cons.mpr ⟨m_tb_of m_cw134 rfl, List.forall_mem_cons.mpr ⟨m_tb_of m_cw135 rfl, List.forall_mem_cons.mpr ⟨m_tb_of m_cw136 rfl, List.forall_mem_cons.mpr ⟨m_tb_of m_cw137 rfl, List.forall_mem_cons.mpr ⟨m_tb_of m_cw138 rfl, List.forall_mem_cons.mpr ⟨m_tb_of m_cw139 rfl, fun _ h => absurd h List.not_mem_nil⟩⟩⟩⟩⟩⟩⟩⟩⟩⟩⟩⟩⟩⟩⟩⟩⟩⟩⟩⟩
theorem m_wdg7 : ∀ M ∈ [mM140, mM141, mM142, mM143, mM144, mM145, mM146, mM147, mM148, mM149, mM150, mM151, mM152, mM153, mM154, mM155, mM156], m_wd M ∈ m_tb := List.forall_mem_cons.mpr ⟨m_tb_of m_cw140 rfl, List.forall_mem_cons.mpr ⟨m_tb_of m_cw141 rfl, List.forall_mem_cons.mpr ⟨m_tb_of m_cw142 rfl, List.forall_mem_cons.mpr ⟨m_tb_of m_cw143 rfl, List.forall_mem_cons.mpr ⟨m_tb_of m_cw144 rfl, List.forall_mem_cons.mpr ⟨m_tb_of m_cw145 rfl, List.forall_mem_cons.mpr ⟨m_tb_of m_cw146 rfl, List.forall_mem_cons.mpr ⟨m_tb_of m_cw147 rfl, List.forall_mem_cons.mpr ⟨m_tb_of m_cw148 rfl, List.forall_mem_cons.mpr ⟨m_tb_of m_cw149 rfl, List.forall_mem_cons.mpr ⟨m_tb_of m_cw150 rfl, List.forall_mem_cons.mpr ⟨m_tb_of m_cw151 rfl, List.forall_mem_cons.mpr ⟨m_tb_of m_cw152 rfl, List.forall_mem_cons.mpr ⟨m_tb_of m_cw153 rfl, List.forall_mem_cons.mpr ⟨m_tb_of m_cw154 rfl, List.forall_mem_cons.mpr ⟨m_tb_of m_cw155 rfl, List.forall_mem_cons.mpr ⟨m_tb_of m_cw156 rfl, fun _ h => absurd h List.not_mem_nil⟩⟩⟩⟩⟩⟩⟩⟩⟩⟩⟩⟩⟩⟩⟩⟩⟩
theorem m_wds : ∀ M ∈ m_prog.take 157, m_wd M ∈ m_tb := by
  show ∀ M ∈ [mM0, mM1, mM2, mM3, mM4, mM5, mM6, mM7, mM8, mM9, mM10, mM11, mM12, mM13, mM14, mM15, mM16, mM17, mM18, mM19] ++ ([mM20, mM21, mM22, mM23, mM24, mM25, mM26, mM27, mM28, mM29, mM30, mM31, mM32, mM33, mM34, mM35, mM36, mM37, mM38, mM39] ++ ([mM40, mM41, mM42, mM43, mM44, mM45, mM46, mM47, mM48, mM49, mM50, mM51, mM52, mM53, mM54, mM55, mM56, mM57, mM58, mM59] ++ ([mM60, mM61, mM62, mM63, mM64, mM65, mM66, mM67, mM68, mM69, mM70, mM71, mM72, mM73, mM74, mM75, mM76, mM77, mM78, mM79] ++ ([mM80, mM81, mM82, mM83, mM84, mM85, mM86, mM87, mM88, mM89, mM90, mM91, mM92, mM93, mM94, mM95, mM96, mM97, mM98, mM99] ++ ([mM100, mM101, mM102, mM103, mM104, mM105, mM106, mM107, mM108, mM109, mM110, mM111, mM112, mM113, mM114, mM115, mM116, mM117, mM118, mM119] ++ ([mM120, mM121, mM122, mM123, mM124, mM125, mM126, mM127, mM128, mM129, mM130, mM131, mM132, mM133, mM134, mM135, mM136, mM137, mM138, mM139] ++ ([mM140, mM141, mM142, mM143, mM144, mM145, mM146, mM147, mM148, mM149, mM150, mM151, mM152, mM153, mM154, mM155, mM156]))))))), m_wd M ∈ m_tb
  exact List.forall_mem_append.mpr ⟨m_wdg0, List.forall_mem_append.mpr ⟨m_wdg1, List.forall_mem_append.mpr ⟨m_wdg2, List.forall_mem_append.mpr ⟨m_wdg3, List.forall_mem_append.mpr ⟨m_wdg4, List.forall_mem_append.mpr ⟨m_wdg5, List.forall_mem_append.mpr ⟨m_wdg6, m_wdg7⟩⟩⟩⟩⟩⟩⟩
theorem m_wd_tb {j : Nat} {M : mM} (h : m_prog[j]? = some M) (hj : j < 157) : m_wd M ∈ m_tb := m_wds M (List.mem_of_getElem? (i := j) (by rw [List.getElem?_take, if_pos hj]; exact h))
def m_ar (M : mM) : Nat := ((parseMethodDescriptor (m_y M).desc).map (fun d => d.parameters.length)).getD 0
def m_fact (M : mM) : Bool := plainName (m_y M).cls && decide ((m_y M).cls ≠ "java/lang/invoke/MethodHandle") && decide ((m_y M).cls ≠ "java/lang/invoke/VarHandle") && decide (m_cn[m_own M]? = some (m_y M).cls) && decide (m_mL M ≤ 21) && decide ((parseMethodDescriptor (m_y M).desc).map (fun d => d.parameters.length) = some (m_ar M))
theorem m_facts : m_prog.all m_fact = true := by decide +kernel
theorem m_fact_of {j : Nat} {M : mM} (h : m_prog[j]? = some M) : plainName (m_y M).cls = true ∧ (m_y M).cls ≠ "java/lang/invoke/MethodHandle" ∧ (m_y M).cls ≠ "java/lang/invoke/VarHandle" ∧ m_cn[m_own M]? = some (m_y M).cls ∧ m_mL M ≤ 21 ∧ (parseMethodDescriptor (m_y M).desc).map (fun d => d.parameters.length) = some (m_ar M) := by
  have h1 := List.all_eq_true.mp m_facts M (List.mem_of_getElem? h)
  simp only [m_fact, Bool.and_eq_true, decide_eq_true_eq] at h1
  obtain ⟨⟨⟨⟨⟨h1, h2⟩, h3⟩, h4⟩, h5⟩, h6⟩ := h1
  exact ⟨h1, h2, h3, h4, h5, h6⟩
def m_lnkok (f : Nat × Nat × Nat × Nat) : Bool := match m_cn[f.1]?, m_prog[f.2.2.1]? with
  | some o, some M => decide (tables_1[f.2.2.2]? = some (.methodLink o f.2.1 (m_y M))) && goodWord (.methodLink o f.2.1 (m_y M))
  | _, _ => false
theorem m_lnk_ok : m_lnkL.all m_lnkok = true := by decide +kernel
theorem m_lnk_at {own idx a : Nat} (h : m_lnkL.any (fun f => f.1 == own && f.2.1 == idx && f.2.2.1 == a) = true) {o : String} (ho : m_cn[own]? = some o) {M : mM} (hM : m_prog[a]? = some M) : Cond.methodLink o idx (m_y M) ∈ m_tb := by
  obtain ⟨f, hf, h⟩ := List.any_eq_true.mp h
  simp only [Bool.and_eq_true, beq_iff_eq] at h
  obtain ⟨⟨rfl, rfl⟩, rfl⟩ := h
  have h1 := List.all_eq_true.mp m_lnk_ok _ hf
  simp only [m_lnkok, ho, hM, Bool.and_eq_true, decide_eq_true_eq] at h1
  exact m_tb_t h1.1 h1.2
def m_mwok (j : Nat) : Bool := match m_prog[j]?, m_mw[j]? with
  | some M, some f => if f.2.2 = true then decide (lw_tbl[f.1]? = some (.static (m_y M))) && goodWord (.static (m_y M)) else decide (lw_tbl[f.1]? = some (.instanceMethod (m_y M))) && goodWord (.instanceMethod (m_y M)) && decide (lw_tbl[f.2.1]? = some (.selects (m_y M).cls (m_y M) (m_y M))) && goodWord (.selects (m_y M).cls (m_y M) (m_y M))
  | _, _ => false
theorem m_mw_ok : (List.range 157).all m_mwok = true := by decide +kernel
def m_sta (j : Nat) : Bool := match m_mw[j]? with
  | some f => f.2.2
  | none => false
theorem m_mw_s {j : Nat} {M : mM} (h : m_prog[j]? = some M) (hj : j < 157) (hs : m_sta j = true) : Cond.static (m_y M) ∈ m_tb := by
  have h1 := List.all_eq_true.mp m_mw_ok j (List.mem_range.mpr hj)
  unfold m_mwok at h1
  unfold m_sta at hs
  rw [h] at h1
  cases hf : m_mw[j]? with
  | none => rw [hf] at hs; cases hs
  | some f =>
    rw [hf] at h1 hs
    dsimp only at h1 hs
    rw [if_pos hs] at h1
    simp only [Bool.and_eq_true, decide_eq_true_eq] at h1
    exact m_tb_of h1.1 h1.2
theorem m_mw_v {j : Nat} {M : mM} (h : m_prog[j]? = some M) (hj : j < 157) (hs : m_sta j = false) : Cond.instanceMethod (m_y M) ∈ m_tb ∧ Cond.selects (m_y M).cls (m_y M) (m_y M) ∈ m_tb := by
  have h1 := List.all_eq_true.mp m_mw_ok j (List.mem_range.mpr hj)
  unfold m_mwok at h1
  unfold m_sta at hs
  rw [h] at h1
  cases hf : m_mw[j]? with
  | none => rw [hf] at h1; cases h1
  | some f =>
    rw [hf] at h1 hs
    dsimp only at h1 hs
    rw [if_neg (by rw [hs]; decide)] at h1
    simp only [Bool.and_eq_true, decide_eq_true_eq] at h1
    exact ⟨m_tb_of h1.1.1.1 h1.1.1.2, m_tb_of h1.1.2 h1.2⟩
def m_iniok (n : Nat) : Bool := match m_cn[n]?, m_ini[n]? with
  | some o, some i => decide (lw_tbl[i]? = some (.initialized o)) && goodWord (.initialized o)
  | _, _ => false
theorem m_ini_ok : (List.range 9).all m_iniok = true := by decide +kernel
theorem m_cn_len : m_cn.length = 9 := by decide +kernel
theorem m_ini_at {n : Nat} {o : String} (h : m_cn[n]? = some o) : Cond.initialized o ∈ m_tb := by
  have hn : n < 9 := by rw [← m_cn_len]; exact (List.getElem?_eq_some_iff.mp h).1
  have h1 := List.all_eq_true.mp m_ini_ok n (List.mem_range.mpr hn)
  unfold m_iniok at h1
  rw [h] at h1
  cases hi : m_ini[n]? with
  | none => rw [hi] at h1; cases h1
  | some i =>
    rw [hi] at h1
    simp only [Bool.and_eq_true, decide_eq_true_eq] at h1
    exact m_tb_of h1.1 h1.2
/-- the rows of calls: their callees, their numbers of arguments -/
def m_cok (q : mI) : Bool := match q.2.1 with
  | .invokevirtual _ => decide (1000 ≤ q.2.2.2.1) || (decide (q.2.2.2.1 < 157) && !m_sta q.2.2.2.1 && (match m_prog[q.2.2.2.1]? with | some M => m_ar M == q.2.2.2.2 | none => false))
  | .invokestatic _ => decide (1000 ≤ q.2.2.2.1) || (decide (q.2.2.2.1 < 157) && m_sta q.2.2.2.1 && (match m_prog[q.2.2.2.1]? with | some M => m_ar M == q.2.2.2.2 | none => false))
  | _ => true
theorem m_cok_all : m_prog.all (fun M => (m_cd M).all m_cok) = true := by decide +kernel
