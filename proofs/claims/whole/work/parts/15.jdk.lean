/-! length and charAt of the words' texts, arraycopy, min -/
section Jdk
variable {l : Launch} {ad : Nat → Nat} {A : Nat → Prop}
abbrev m_rmJ (n : Nat) : Room := { frames := n, locals := 30 * n, cells := 0, slots := 0 }
def m_JP (ad : Nat → Nat) (A : Nat → Prop) (av : List Value) : Array Value → State → Prop := fun a U => a = av.toArray ∧ m_ES ad A U
theorem m_JP_blind {av : List Value} : FrameBlind (m_JP ad A av) := by
  intro a U g mk hh
  exact ⟨hh.1, hh.2.move (State.WarmedH.refl U) (fun _ _ _ => rfl)⟩
abbrev mYci : MethodName := ⟨"jdk/internal/util/Preconditions", "checkIndex", "(IILjava/util/function/BiFunction;)I"⟩
abbrev mYsi : MethodName := ⟨"java/lang/String", "checkIndex", "(II)V"⟩
abbrev mYlc : MethodName := ⟨"java/lang/StringLatin1", "charAt", "([BI)C"⟩
abbrev mYil : MethodName := ⟨"java/lang/String", "isLatin1", "()Z"⟩
abbrev mYca : MethodName := ⟨"java/lang/String", "charAt", "(I)C"⟩
abbrev mYco : MethodName := ⟨"java/lang/String", "coder", "()B"⟩
abbrev mYle : MethodName := ⟨"java/lang/String", "length", "()I"⟩
theorem m_jgood {w : Cond} (h : w ∈ m_tb) : GoodIn m_tb (w :: m_tb) := by
  intro x hx
  refine m_tb_good x ?_
  rcases List.mem_cons.mp hx with rfl | hx
  · exact h
  · exact hx
theorem m_jci {i n : Int32} {F : Value} (hF : F.category = 1) (h1 : ¬ i < 0) (h2 : i < n) : Met l mYci (Cond.code mYci prog_29_method_11_code 3 (some .int) :: m_tb) (m_rmJ 0) (m_JP ad A [.int i, .int n, F]) (QcRead i) 0 0 (fun _ => False) := by
  refine Met.ofW (by decide) rfl ?_
  intro p e s m args below meth c s₁ B hml hp
  obtain ⟨rfl, hE⟩ := hp
  rw [lg_entry_eq]
  have hl := lv_entry [.int i, .int n, F] (n := 3) (by cases F <;> first | (cases hF; done) | simp [lg_sl, Value.category])
  refine lv_iload_n B.exec B.bytes (pc := 0) (k := 0) (by decide +kernel) rfl (lv_at hl 0 rfl) ?_
  refine lv_if_lt B.exec B.bytes (pc := 1) (tgt := 9) (off := 8) (by decide +kernel) rfl (fun h => absurd h h1) (fun _ => ?_)
  refine lv_iload_n B.exec B.bytes (pc := 4) (k := 0) (by decide +kernel) rfl (lv_at hl 0 rfl) ?_
  refine lv_iload_n B.exec B.bytes (pc := 5) (k := 1) (by decide +kernel) rfl (lv_at hl 1 rfl) ?_
  refine lv_icmp_lt B.exec B.bytes (pc := 6) (tgt := 16) (off := 10) (by decide +kernel) rfl (fun _ => ?_) (fun h => absurd h2 h)
  refine lv_iload_n B.exec B.bytes (pc := 16) (k := 0) (by decide +kernel) rfl (lv_at hl 0 rfl) ?_
  exact W.iret B.exec B.bytes B.returns (fun t ht hw => ⟨rfl, ht⟩) (fun q h => nomatch h) (by decide +kernel) B.notSynchronized
/-- nothing but an end -/
def m_Qn : Array Value → State → Outcome → State → Prop := fun _ st o t => o = .returned none ∧ t.heap = st.heap
theorem m_calln {p : Program} {e : Env} {R : Room} {s : State} {m : MethodId} {args : Array Value} {below : List Frame} {meth : Method} {c : Code} {H : Heap} {locs : List Loc} {cells slots : Nat} {Q : State → Prop} {g : JFrame} {rest : List Value} {a : Array Value} (hr : CallRun p l e R s m args below meth c H locs cells slots 0 0 g rest (m_Qn a) (fun _ => False))
    (kk : W p l e R s m args below meth c H locs cells slots Q { g with pc := g.pc + 3, stack := rest }) : W p l e R s m args below meth c H locs cells slots Q g := by
  intro T hT X
  obtain ⟨v, st₀, t, T', L, h0, X', hL, e1, ⟨hv, hh⟩, st⟩ := hr T hT X
  cases hv
  obtain ⟨t2, a1, b1⟩ := kk T' (by rw [e1, hh, h0]) (Stand.forget X' (fun q h => (hL q h).elim))
  exact ⟨t2, st t2 a1, b1⟩
theorem m_jsi {i n : Int32} (h1 : ¬ i < 0) (h2 : i < n) : Met l mYsi (Cond.code mYsi prog_20_method_155_code 2 none :: m_tb) (m_rmJ 1) (m_JP ad A [.int i, .int n]) m_Qn 0 0 (fun _ => False) := by
  refine Met.ofW (by decide) rfl ?_
  intro p e s m args below meth c s₁ B hml hp
  obtain ⟨rfl, hE⟩ := hp
  have hts : ∀ w ∈ m_tb, w.before _ s = true := fun w hw => atoms_spec (ws := Cond.code mYsi prog_20_method_155_code 2 none :: m_tb) B.pre w (List.mem_cons_of_mem _ hw)
  have hown := findClass_of_methodNamed B.named
  rw [lg_entry_eq]
  have hl := lv_entry [.int i, .int n] (n := 2) (by simp [lg_sl, Value.category])
  refine lv_iload_n B.exec B.bytes (pc := 0) (k := 0) (by decide +kernel) rfl (lv_at hl 0 rfl) ?_
  refine lv_iload_n B.exec B.bytes (pc := 1) (k := 1) (by decide +kernel) rfl (lv_at hl 1 rfl) ?_
  have go : ∀ F : Value, F.category = 1 → va_Z "jdk/internal/util/Preconditions" "SIOOBE_FORMATTER" "Ljava/util/function/BiFunction;" F A s s.heap → W p l e (m_rmJ 1) s m ([Value.int i, .int n].toArray) below meth c s.heap [] 0 0 (MQ below m_Qn ([Value.int i, .int n].toArray) s 0 0 (fun _ => False)) (F0 m (1 + 1) ((lg_sl [Value.int i, .int n] ++ List.replicate (2 - (lg_sl [Value.int i, .int n]).length) Slot.unset).toArray) (.int n :: .int i :: [])) := by
    intro F hF hZ
    refine va_gets (ref := "jdk/internal/util/Preconditions") B.exec B.bytes hZ va_S.rf hown (hts _ m_jw295) (fun _ h => h) (by decide +kernel) ?_
    have hr := W.runS (p := p) (e := e) (below := below) (meth := meth) (cells := 0) (slots := 0) (H := s.heap) (locs := []) (rest := []) (nL := 2) (g := F0 m (1 + 1 + 3) ((lg_sl [Value.int i, .int n] ++ List.replicate (2 - (lg_sl [Value.int i, .int n]).length) Slot.unset).toArray) (F :: .int n :: .int i :: [])) (R := m_rmJ 1) (own := "java/lang/String") (index := 1059) (As := [.int i, .int n, F]) (n := 3) (bytes := prog_29_method_11_code) (maxL := 3) (ret := some .int)
      ⟨B.exec, B.bytes, hml, hown, hts⟩ (m_jci (l := l) (ad := ad) (A := A) hF h1 h2) ⟨callB_of 3 hts (m_jgood m_jw299) rfl rfl rfl (hts _ m_jw15) (hts _ m_jw297) ⟨by decide, by decide, by decide +kernel⟩ ⟨by decide, by decide⟩, hts _ m_jw298⟩
      ⟨m_JP_blind, fun U hU hW => ⟨rfl, hE.move hW (fun q _ _ => by rw [hU])⟩⟩ rfl rfl hl.1 rfl (lv_room (by decide)) (show decode prog_20_method_155_code 5 = _ by decide +kernel) ⟨by decide, by decide⟩
    refine W.callR hr ?_
    refine lv_pop B.exec B.bytes (pc := 1 + 1 + 3 + 3) (by decide +kernel) rfl ?_
    exact W.vret B.exec B.bytes B.returns (fun t ht hw => ⟨rfl, ht⟩) (fun q h => nomatch h) (by decide +kernel) B.notSynchronized
  rcases hE.2.2 with hZ | ⟨t, hZ⟩
  · exact go .null rfl hZ
  · exact go (.ref t) rfl hZ
theorem m_ilt {i : Int32} {n : Nat} (hn : n < 2 ^ 31) (h0 : ¬ i < 0) (h : i.toNatClampNeg < n) : i < Int32.ofNat n := by
  rw [Int32.lt_iff_toInt_lt, toInt_of rfl hn]
  have h1 : (0 : Int) ≤ i.toInt := by
    have := Int32.not_lt.mp h0
    simpa using Int32.le_iff_toInt_le.mp this
  have h2 : i.toNatClampNeg = i.toInt.toNat := rfl
  omega
def m_ch (k i : Nat) : Int32 := (m_sByt.getD k []).getD i 0
theorem m_chb : ∀ k, k < 11 → ∀ i, i < m_sLen.getD k 0 → ((m_ch k i &&& 255).toUInt32 % 65536).toInt32 = m_ch k i := by decide +kernel
theorem m_chn : ∀ k, k < 11 → ∀ i, i < m_sLen.getD k 0 → narrow .char (.int (m_ch k i)) = .int (m_ch k i) := by decide +kernel
theorem m_sln : ∀ k, k < 11 → m_sLen.getD k 0 < 2 ^ 31 := by decide +kernel
theorem m_jlc {k : Nat} {i : Int32} (hk : k < 11) (h1 : ¬ i < 0) (h2 : i.toNatClampNeg < m_sLen.getD k 0) : Met l mYlc (Cond.code mYlc prog_22_method_2_code 2 (some .char) :: m_tb) (m_rmJ 2) (m_JP ad A [.ref (ad (m_scr + 101 + k)), .int i]) (QcRead (m_ch k i.toNatClampNeg)) 0 0 (fun _ => False) := by
  refine Met.ofW (by decide) rfl ?_
  intro p e s m args below meth c s₁ B hml hp
  obtain ⟨rfl, hE⟩ := hp
  have hts : ∀ w ∈ m_tb, w.before _ s = true := fun w hw => atoms_spec (ws := Cond.code mYlc prog_22_method_2_code 2 (some .char) :: m_tb) B.pre w (List.mem_cons_of_mem _ hw)
  have hown := findClass_of_methodNamed B.named
  obtain ⟨-, -, -, hT⟩ := hE.1.1 k hk
  rw [lg_entry_eq]
  have hl := lv_entry [.ref (ad (m_scr + 101 + k)), .int i] (n := 2) (by simp [lg_sl, Value.category])
  generalize ((lg_sl [Value.ref (ad (m_scr + 101 + k)), .int i] ++ List.replicate (2 - (lg_sl [Value.ref (ad (m_scr + 101 + k)), .int i]).length) Slot.unset).toArray) = ls at hl ⊢
  refine lv_iload_n B.exec B.bytes (pc := 0) (k := 1) (by decide +kernel) rfl (lv_at hl 1 rfl) ?_
  refine lv_aload_n B.exec B.bytes (pc := 1) (k := 0) (by decide +kernel) rfl (lv_at hl 0 rfl) ?_
  refine va_tlen B.exec B.bytes (pc := 2) hT va_S.rf rfl (by decide +kernel) ?_
  have hr := W.runS (p := p) (e := e) (below := below) (meth := meth) (cells := 0) (slots := 0) (H := s.heap) (locs := []) (rest := []) (nL := 2) (g := F0 m 3 ls (.int (Int32.ofNat (m_sLen.getD k 0)) :: .int i :: [])) (R := m_rmJ 2) (own := "java/lang/StringLatin1") (index := 9) (As := [.int i, .int (Int32.ofNat (m_sLen.getD k 0))]) (n := 2) (bytes := prog_20_method_155_code) (maxL := 2) (ret := none)
    ⟨B.exec, B.bytes, hml, hown, hts⟩ (m_jsi (l := l) (ad := ad) (A := A) h1 (m_ilt (m_sln k hk) h1 h2)) ⟨callB_of 2 hts (m_jgood m_jw294) rfl rfl rfl (hts _ m_jw13) (hts _ m_jw292) ⟨by decide, by decide, by decide +kernel⟩ ⟨by decide, by decide⟩, hts _ m_jw293⟩
    ⟨m_JP_blind, fun U hU hW => ⟨rfl, hE.move hW (fun q _ _ => by rw [hU])⟩⟩ rfl rfl hl.1 rfl (lv_room (by decide)) (show decode prog_22_method_2_code 3 = _ by decide +kernel) ⟨by decide, by decide⟩
  refine m_calln hr ?_
  refine lv_aload_n B.exec B.bytes (pc := 6) (k := 0) (by decide +kernel) rfl (lv_at hl 0 rfl) ?_
  refine lv_iload_n B.exec B.bytes (pc := 7) (k := 1) (by decide +kernel) rfl (lv_at hl 1 rfl) ?_
  refine va_tb B.exec B.bytes (pc := 8) hT va_S.rf (fun z => z.elim h1 (fun z => absurd h2 (Nat.not_lt.mpr z))) (v := .int (m_ch k i.toNatClampNeg)) rfl (by decide +kernel) ?_
  refine lv_sipush B.exec B.bytes (pc := 9) (n := 255) (v := 255) (by decide +kernel) (by decide) ?_
  refine lv_iand B.exec B.bytes (pc := 12) (by decide +kernel) ?_
  refine lv_i2c B.exec B.bytes (pc := 13) (by decide +kernel) (m_chb k hk _ h2) ?_
  exact W.zret B.exec B.bytes B.returns (m_chn k hk _ h2) (fun t ht hw => ⟨rfl, ht⟩) (fun q h => nomatch h) (by decide +kernel) B.notSynchronized
theorem m_jil {k : Nat} (hk : k < 11) : Met l mYil (Cond.code mYil prog_20_method_154_code 1 (some .boolean) :: m_tb) (m_rmJ 0) (m_JP ad A [.ref (ad (m_scr + 1 + k))]) (QcRead 1) 0 0 (fun _ => False) := by
  refine Met.ofW (by decide) rfl ?_
  intro p e s m args below meth c s₁ B hml hp
  obtain ⟨rfl, hE⟩ := hp
  have hts : ∀ w ∈ m_tb, w.before _ s = true := fun w hw => atoms_spec (ws := Cond.code mYil prog_20_method_154_code 1 (some .boolean) :: m_tb) B.pre w (List.mem_cons_of_mem _ hw)
  have hown := findClass_of_methodNamed B.named
  obtain ⟨-, hco, -, -⟩ := hE.1.1 k hk
  rw [lg_entry_eq]
  have hl := lv_entry [.ref (ad (m_scr + 1 + k))] (n := 1) (by simp [lg_sl, Value.category])
  generalize ((lg_sl [Value.ref (ad (m_scr + 1 + k))] ++ List.replicate (1 - (lg_sl [Value.ref (ad (m_scr + 1 + k))]).length) Slot.unset).toArray) = ls at hl ⊢
  refine va_gets (ref := "java/lang/String") B.exec B.bytes (pc := 0) hE.2.1 va_S.rf hown (hts _ m_jw279) (fun _ h => h) (by decide +kernel) ?_
  refine lv_if_eq B.exec B.bytes (pc := 3) (off := 14) (tgt := 17) (by decide +kernel) rfl (fun h => absurd h (by decide)) (fun _ => ?_)
  refine lv_aload_n B.exec B.bytes (pc := 6) (k := 0) (by decide +kernel) rfl (lv_at hl 0 rfl) ?_
  refine vk_getf (ref := "java/lang/String") B.exec B.bytes (pc := 7) hco va_S.rf hown (hts _ m_jw926) (fun _ h => h) (by decide +kernel) ?_
  refine lv_if_ne B.exec B.bytes (pc := 10) (off := 7) (tgt := 17) (by decide +kernel) rfl (fun h => absurd rfl h) (fun _ => ?_)
  refine lv_iconst B.exec B.bytes (pc := 13) (n := 1) (v := 1) (by decide +kernel) (by decide) ?_
  refine lv_goto B.exec B.bytes (pc := 14) (off := 4) (tgt := 18) (by decide +kernel) rfl ?_
  exact W.zret B.exec B.bytes B.returns (by decide) (fun t ht hw => ⟨rfl, ht⟩) (fun q h => nomatch h) (by decide +kernel) B.notSynchronized
theorem m_jco {k : Nat} (hk : k < 11) : Met l mYco (Cond.code mYco prog_20_method_152_code 1 (some .byte) :: m_tb) (m_rmJ 0) (m_JP ad A [.ref (ad (m_scr + 1 + k))]) (QcRead 0) 0 0 (fun _ => False) := by
  refine Met.ofW (by decide) rfl ?_
  intro p e s m args below meth c s₁ B hml hp
  obtain ⟨rfl, hE⟩ := hp
  have hts : ∀ w ∈ m_tb, w.before _ s = true := fun w hw => atoms_spec (ws := Cond.code mYco prog_20_method_152_code 1 (some .byte) :: m_tb) B.pre w (List.mem_cons_of_mem _ hw)
  have hown := findClass_of_methodNamed B.named
  obtain ⟨-, hco, -, -⟩ := hE.1.1 k hk
  rw [lg_entry_eq]
  have hl := lv_entry [.ref (ad (m_scr + 1 + k))] (n := 1) (by simp [lg_sl, Value.category])
  generalize ((lg_sl [Value.ref (ad (m_scr + 1 + k))] ++ List.replicate (1 - (lg_sl [Value.ref (ad (m_scr + 1 + k))]).length) Slot.unset).toArray) = ls at hl ⊢
  refine va_gets (ref := "java/lang/String") B.exec B.bytes (pc := 0) hE.2.1 va_S.rf hown (hts _ m_jw279) (fun _ h => h) (by decide +kernel) ?_
  refine lv_if_eq B.exec B.bytes (pc := 3) (off := 10) (tgt := 13) (by decide +kernel) rfl (fun h => absurd h (by decide)) (fun _ => ?_)
  refine lv_aload_n B.exec B.bytes (pc := 6) (k := 0) (by decide +kernel) rfl (lv_at hl 0 rfl) ?_
  refine vk_getf (ref := "java/lang/String") B.exec B.bytes (pc := 7) hco va_S.rf hown (hts _ m_jw926) (fun _ h => h) (by decide +kernel) ?_
  refine lv_goto B.exec B.bytes (pc := 10) (off := 4) (tgt := 14) (by decide +kernel) rfl ?_
  exact W.zret B.exec B.bytes B.returns (by decide) (fun t ht hw => ⟨rfl, ht⟩) (fun q h => nomatch h) (by decide +kernel) B.notSynchronized
theorem m_jwsV {own C : String} {idx : Nat} {y : MethodName} {w : Cond} (h1 : Cond.methodLink own idx y ∈ m_tb) (h2 : Cond.instanceMethod y ∈ m_tb) (h3 : Cond.selects C y y ∈ m_tb) (h4 : Cond.initialized C ∈ m_tb) (h5 : w ∈ m_tb) : GoodIn m_tb (wsV own idx C y (w :: m_tb)) := by
  intro x hx
  refine m_tb_good x ?_
  unfold wsV at hx
  simp only [List.cons_append, List.nil_append, List.mem_cons] at hx
  rcases hx with rfl | rfl | rfl | rfl | rfl | hx
  · exact h1
  · exact h2
  · exact h3
  · exact h4
  · exact h5
  · exact hx
theorem m_jrecv {k : Nat} {s : State} (hk : k < 11) (hE : m_ES ad A s) : ∃ cell : Cell, s.heap[ad (m_scr + 1 + k)]? = some cell ∧ cell.vm.isStatics = false ∧ s.vm.findClass "java/lang/String" = some cell.cls := vk_recv (adK := fun i => ad (m_scr + 1 + i)) (i := k) hE.1 hk va_S.rf
theorem m_jle {k : Nat} (hk : k < 11) : Met l mYle (Cond.code mYle prog_20_method_54_code 1 (some .int) :: m_tb) (m_rmJ 1) (m_JP ad A [.ref (ad (m_scr + 1 + k))]) (QcRead (Int32.ofNat (m_sLen.getD k 0))) 0 0 (fun _ => False) := by
  refine Met.ofW (by decide) rfl ?_
  intro p e s m args below meth c s₁ B hml hp
  obtain ⟨rfl, hE⟩ := hp
  have hts : ∀ w ∈ m_tb, w.before _ s = true := fun w hw => atoms_spec (ws := Cond.code mYle prog_20_method_54_code 1 (some .int) :: m_tb) B.pre w (List.mem_cons_of_mem _ hw)
  have hown := findClass_of_methodNamed B.named
  obtain ⟨-, -, hva, hT⟩ := hE.1.1 k hk
  rw [lg_entry_eq]
  have hl := lv_entry [.ref (ad (m_scr + 1 + k))] (n := 1) (by simp [lg_sl, Value.category])
  generalize ((lg_sl [Value.ref (ad (m_scr + 1 + k))] ++ List.replicate (1 - (lg_sl [Value.ref (ad (m_scr + 1 + k))]).length) Slot.unset).toArray) = ls at hl ⊢
  refine lv_aload_n B.exec B.bytes (pc := 0) (k := 0) (by decide +kernel) rfl (lv_at hl 0 rfl) ?_
  refine vk_getf (ref := "java/lang/String") B.exec B.bytes (pc := 1) hva va_S.rf hown (hts _ m_jw925) (fun _ h => h) (by decide +kernel) ?_
  refine va_tlen B.exec B.bytes (pc := 4) hT va_S.rf rfl (by decide +kernel) ?_
  refine lv_aload_n B.exec B.bytes (pc := 5) (k := 0) (by decide +kernel) rfl (lv_at hl 0 rfl) ?_
  have hr := W.runV (p := p) (e := e) (below := below) (meth := meth) (cells := 0) (slots := 0) (H := s.heap) (locs := []) (rest := [.int (Int32.ofNat (m_sLen.getD k 0))]) (nL := 1) (g := F0 m 6 ls (.ref (ad (m_scr + 1 + k)) :: .int (Int32.ofNat (m_sLen.getD k 0)) :: [])) (R := m_rmJ 1) (own := "java/lang/String") (C := "java/lang/String") (index := 335) (As := []) (b := ad (m_scr + 1 + k)) (n := 0) (bytes := prog_20_method_152_code) (maxL := 1) (ret := some .byte)
    ⟨B.exec, B.bytes, hml, hown, hts⟩ (m_jco (l := l) (ad := ad) (A := A) hk) (cwV 0 hts (m_jwsV m_jw275 m_jw276 m_jw277 m_jw13 m_jw278) rfl rfl rfl ⟨rfl, by decide, by decide, by decide +kernel⟩ ⟨by decide, by decide⟩)
    ⟨m_JP_blind, m_jrecv hk hE, fun U hU hW => ⟨rfl, hE.move hW (fun q _ _ => by rw [hU])⟩⟩ rfl rfl hl.1 rfl (lv_room (show 1 ≤ 8 by decide)) (show decode prog_20_method_54_code 6 = _ by decide +kernel) ⟨by decide, by decide⟩
  refine W.callR hr ?_
  refine lv_ishr B.exec B.bytes (pc := 9) (by decide +kernel) ?_
  have e0 : Int32.ofNat (m_sLen.getD k 0) >>> ((0 : Int32) &&& 31) = Int32.ofNat (m_sLen.getD k 0) := (by decide +kernel : ∀ k, k < 11 → Int32.ofNat (m_sLen.getD k 0) >>> ((0 : Int32) &&& 31) = Int32.ofNat (m_sLen.getD k 0)) k hk
  rw [e0]
  exact W.iret B.exec B.bytes B.returns (fun t ht hw => ⟨rfl, ht⟩) (fun q h => nomatch h) (by decide +kernel) B.notSynchronized
theorem m_jca {k : Nat} {i : Int32} (hk : k < 11) (h1 : ¬ i < 0) (h2 : i.toNatClampNeg < m_sLen.getD k 0) : Met l mYca (Cond.code mYca prog_20_method_56_code 2 (some .char) :: m_tb) (m_rmJ 3) (m_JP ad A [.ref (ad (m_scr + 1 + k)), .int i]) (QcRead (m_ch k i.toNatClampNeg)) 0 0 (fun _ => False) := by
  refine Met.ofW (by decide) rfl ?_
  intro p e s m args below meth c s₁ B hml hp
  obtain ⟨rfl, hE⟩ := hp
  have hts : ∀ w ∈ m_tb, w.before _ s = true := fun w hw => atoms_spec (ws := Cond.code mYca prog_20_method_56_code 2 (some .char) :: m_tb) B.pre w (List.mem_cons_of_mem _ hw)
  have hown := findClass_of_methodNamed B.named
  obtain ⟨-, -, hva, hT⟩ := hE.1.1 k hk
  rw [lg_entry_eq]
  have hl := lv_entry [.ref (ad (m_scr + 1 + k)), .int i] (n := 2) (by simp [lg_sl, Value.category])
  generalize ((lg_sl [Value.ref (ad (m_scr + 1 + k)), .int i] ++ List.replicate (2 - (lg_sl [Value.ref (ad (m_scr + 1 + k)), .int i]).length) Slot.unset).toArray) = ls at hl ⊢
  refine lv_aload_n B.exec B.bytes (pc := 0) (k := 0) (by decide +kernel) rfl (lv_at hl 0 rfl) ?_
  have hr := W.runV (p := p) (e := e) (below := below) (meth := meth) (cells := 0) (slots := 0) (H := s.heap) (locs := []) (rest := []) (nL := 2) (g := F0 m 1 ls (.ref (ad (m_scr + 1 + k)) :: [])) (R := m_rmJ 3) (own := "java/lang/String") (C := "java/lang/String") (index := 492) (As := []) (b := ad (m_scr + 1 + k)) (n := 0) (bytes := prog_20_method_154_code) (maxL := 1) (ret := some .boolean)
    ⟨B.exec, B.bytes, hml, hown, hts⟩ (m_jil (l := l) (ad := ad) (A := A) hk) (cwV 0 hts (m_jwsV m_jw285 m_jw286 m_jw287 m_jw13 m_jw288) rfl rfl rfl ⟨rfl, by decide, by decide, by decide +kernel⟩ ⟨by decide, by decide⟩)
    ⟨m_JP_blind, m_jrecv hk hE, fun U hU hW => ⟨rfl, hE.move hW (fun q _ _ => by rw [hU])⟩⟩ rfl rfl hl.1 rfl (lv_room (by decide)) (show decode prog_20_method_56_code 1 = _ by decide +kernel) ⟨by decide, by decide⟩
  refine W.callR hr ?_
  refine lv_if_eq B.exec B.bytes (pc := 4) (off := 12) (tgt := 16) (by decide +kernel) rfl (fun h => absurd h (by decide)) (fun _ => ?_)
  refine lv_aload_n B.exec B.bytes (pc := 7) (k := 0) (by decide +kernel) rfl (lv_at hl 0 rfl) ?_
  refine vk_getf (ref := "java/lang/String") B.exec B.bytes (pc := 8) hva va_S.rf hown (hts _ m_jw925) (fun _ h => h) (by decide +kernel) ?_
  refine lv_iload_n B.exec B.bytes (pc := 11) (k := 1) (by decide +kernel) rfl (lv_at hl 1 rfl) ?_
  have hr2 := W.runS (p := p) (e := e) (below := below) (meth := meth) (cells := 0) (slots := 0) (H := s.heap) (locs := []) (rest := []) (nL := 2) (g := F0 m 12 ls (.int i :: .ref (ad (m_scr + 101 + k)) :: [])) (R := m_rmJ 3) (own := "java/lang/String") (index := 495) (As := [.ref (ad (m_scr + 101 + k)), .int i]) (n := 2) (bytes := prog_22_method_2_code) (maxL := 2) (ret := some .char)
    ⟨B.exec, B.bytes, hml, hown, hts⟩ (m_jlc (l := l) (ad := ad) (A := A) hk h1 h2) ⟨callB_of 2 hts (m_jgood m_jw291) rfl rfl rfl (hts _ m_jw14) (hts _ m_jw289) ⟨by decide, by decide, by decide +kernel⟩ ⟨by decide, by decide⟩, hts _ m_jw290⟩
    ⟨m_JP_blind, fun U hU hW => ⟨rfl, hE.move hW (fun q _ _ => by rw [hU])⟩⟩ rfl rfl hl.1 rfl (lv_room (by decide)) (show decode prog_20_method_56_code 12 = _ by decide +kernel) ⟨by decide, by decide⟩
  refine W.callR hr2 ?_
  exact W.zret B.exec B.bytes B.returns (m_chn k hk _ h2) (fun t ht hw => ⟨rfl, ht⟩) (fun q h => nomatch h) (show decode prog_20_method_56_code 15 = _ by decide +kernel) B.notSynchronized
end Jdk
/-! the rules of the five callees -/
def m_prL : List (Nat × Nat × Nat) := [(1, 31, 1000), (3, 35, 1000), (4, 84, 1001), (4, 116, 1002), (4, 121, 1003), (4, 49, 1004)]
def m_prok (M : mM) (q : mI) : Bool := match q.2.1 with
  | .invokestatic idx => decide (q.2.2.2.1 < 1000) || (m_prL.contains (m_own M, idx, q.2.2.2.1) && (decide (q.2.2.2.1 ≤ 1001) || decide (q.2.2.2.1 = 1004)))
  | .invokevirtual idx => decide (q.2.2.2.1 < 1000) || (m_prL.contains (m_own M, idx, q.2.2.2.1) && decide (1002 ≤ q.2.2.2.1) && decide (q.2.2.2.1 ≤ 1003))
  | _ => true
theorem m_pr_ok : m_prog.all (fun M => (m_cd M).all (m_prok M)) = true := by decide +kernel
def m_R8 (P : mP) : Prop := ∀ (d k j pc idx q0 q1 n0 n1 : Nat) (lv : mL) (st : List Value) (h : mH) (f g : Nat → Int32) (sp dp n : Int32) (o : mO) (h' : mH) (q : mI), m_at j pc = some q → q.2.1 = .invokestatic idx → q.2.2.2.1 = 1000 → h[q0]? = some (.inl (n0, f)) → h[q1]? = some (.inl (n1, g)) →
  ¬ sp < 0 → ¬ dp < 0 → ¬ n < 0 → sp.toNatClampNeg + n.toNatClampNeg ≤ n0 → dp.toNatClampNeg + n.toNatClampNeg ≤ n1 → m_ctg st ≤ 8 → P d k j (pc + 3) lv st (h.set q1 (.inl (n1, va_cpy f g sp.toNatClampNeg dp.toNatClampNeg n.toNatClampNeg))) o h' →
  P d k j pc lv (.int n :: .int dp :: .ref q1 :: .int sp :: .ref q0 :: st) h o h'
def m_R9 (P : mP) : Prop := ∀ (d k j pc idx : Nat) (lv : mL) (st : List Value) (h : mH) (x y : Int64) (o : mO) (h' : mH) (q : mI), m_at j pc = some q → q.2.1 = .invokestatic idx → q.2.2.2.1 = 1001 → m_ctg st ≤ 8 → P d k j (pc + 3) lv (.long (if y < x then y else x) :: st) h o h' → P d k j pc lv (.long y :: .long x :: st) h o h'
def m_R10 (P : mP) : Prop := ∀ (d k j pc idx n : Nat) (lv : mL) (st : List Value) (h : mH) (o : mO) (h' : mH) (q : mI), m_at j pc = some q → q.2.1 = .invokevirtual idx → q.2.2.2.1 = 1002 → n < 11 → m_ctg st ≤ 8 → P d k j (pc + 3) lv (.int (Int32.ofNat (m_sLen.getD n 0)) :: st) h o h' → P d k j pc lv (.ref (m_scr + 1 + n) :: st) h o h'
def m_R11 (P : mP) : Prop := ∀ (d k j pc idx n : Nat) (i : Int32) (lv : mL) (st : List Value) (h : mH) (o : mO) (h' : mH) (q : mI), m_at j pc = some q → q.2.1 = .invokevirtual idx → q.2.2.2.1 = 1003 → n < 11 → ¬ i < 0 → i.toNatClampNeg < m_sLen.getD n 0 → m_ctg st ≤ 8 → P d k j (pc + 3) lv (.int (m_ch n i.toNatClampNeg) :: st) h o h' → P d k j pc lv (.int i :: .ref (m_scr + 1 + n) :: st) h o h'
def m_R13 (P : mP) : Prop := ∀ (d k j pc idx : Nat) (lv : mL) (st : List Value) (h : mH) (x y : Int32) (o : mO) (h' : mH) (q : mI), m_at j pc = some q → q.2.1 = .invokestatic idx → q.2.2.2.1 = 1004 → m_ctg st ≤ 8 → P d k j (pc + 3) lv (.int (if x < y then y else x) :: st) h o h' → P d k j pc lv (.int y :: .int x :: st) h o h'
theorem m_prow {j pc idx : Nat} {M : mM} {q : mI} (hM : m_prog[j]? = some M) (hq : m_at j pc = some q) (hi : q.2.1 = .invokestatic idx ∨ q.2.1 = .invokevirtual idx) (ha : 1000 ≤ q.2.2.2.1) : decode (m_by M) pc = .ok (q.2.1, 3) ∧ (m_own M, idx, q.2.2.2.1) ∈ m_prL := by
  obtain ⟨M2, hM2, hqm, rfl⟩ := m_at_inv hq
  have e02 : M = M2 := Option.some.inj (hM.symm.trans hM2)
  rw [← e02] at hqm
  obtain ⟨hd, -, hln, -⟩ := m_row hM hqm
  have hp := List.all_eq_true.mp (List.all_eq_true.mp m_pr_ok M (List.mem_of_getElem? hM)) q hqm
  unfold m_prok at hp
  rcases hi with hi | hi
  · rw [hi] at hp
    simp only [Bool.or_eq_true, decide_eq_true_eq, Bool.and_eq_true, List.contains_iff_mem] at hp
    exact ⟨m_row_ln (n := 2) hln (by rw [hi]; rfl) hd, (hp.elim (fun z => absurd z (by omega)) id).1⟩
  · rw [hi] at hp
    simp only [Bool.or_eq_true, decide_eq_true_eq, Bool.and_eq_true, List.contains_iff_mem] at hp
    exact ⟨m_row_ln (n := 2) hln (by rw [hi]; rfl) hd, (hp.elim (fun z => absurd z (by omega)) id).1.1⟩
theorem m_pr_cases {own idx a : Nat} (h : (own, idx, a) ∈ m_prL) : (own = 1 ∧ idx = 31 ∧ a = 1000) ∨ (own = 3 ∧ idx = 35 ∧ a = 1000) ∨ (own = 4 ∧ idx = 84 ∧ a = 1001) ∨ (own = 4 ∧ idx = 116 ∧ a = 1002) ∨ (own = 4 ∧ idx = 121 ∧ a = 1003) ∨ (own = 4 ∧ idx = 49 ∧ a = 1004) := by
  simpa [m_prL] using h
section Rules3
variable {l : Launch} {D : va_G} {ad : Nat → Nat} {cI cJ : ClassId} {A : Nat → Prop} {X : Nat × (Nat → Int32)}
theorem m_cat8 {ad : Nat → Nat} {st : List Value} (h : m_ctg st ≤ 8) : (List.map (fun v => v.category) (st.map (m_V ad))).sum ≤ 8 := by
  have := m_ctg_V ad st
  unfold m_ctg at this h
  rw [this]; exact h
theorem m_nfw : nativeFrameWords "java/lang/System" "arraycopy" 5 + 11 ≤ 100 := by decide +kernel
theorem m_sp8 : m_R8 (m_SP D ad cI cJ A l X) := by
  intro d k j pc idx q0 q1 n0 n1 lv st h f g sp dp n o h' q hq hi ha h0 h1 z1 z2 z3 z4 z5 hst IH p e R s m args below meth c H locs cells slots ls M mc ms hM hx hb hml htab hlk hret hown hts hE hf hlo hmc hms hc1 hc2 hPw hD hS hl
  obtain ⟨hd, hmem⟩ := m_prow hM hq (Or.inl hi) (by omega)
  rw [hi] at hd
  obtain ⟨-, -, -, ho, -, -⟩ := m_fact_of hM
  have hlink : Cond.methodLink (m_y M).cls idx arraycopyName ∈ m_tb := by
    rcases m_pr_cases hmem with ⟨e1, e2, -⟩ | ⟨e1, e2, -⟩ | ⟨-, -, e3⟩ | ⟨-, -, e3⟩ | ⟨-, -, e3⟩ | ⟨-, -, e3⟩
    · rw [e1] at ho; rw [← Option.some.inj ho, e2]; exact m_jw580
    · rw [e1] at ho; rw [← Option.some.inj ho, e2]; exact m_jw695
    · omega
    · omega
    · omega
    · omega
  have h8 := m_cat8 (ad := ad) hst
  have hn := m_nfw
  refine va_copyi hx hb (by rw [hml]; exact hl.1.symm) hown (hts _ hlink) (hts _ m_jw582) (hts _ m_jw581) (hts _ m_jw19) hE.1 hPw hD hS q0 q1 0 0 (m_W_at h0) (m_W_at h1) rfl rfl rfl z1 z2 z3 z4 z5 (fun _ _ => rfl) (by omega) (by omega) hd (fun H1 locs1 g1 g2 g3 => ?_)
  refine IH p e R s m args below meth c H1 locs1 cells slots ls M mc ms hM hx hb hml htab hlk hret hown hts hE hf hlo hmc hms hc1 hc2 ?_ ?_ g3 hl
  · rw [m_W_set]; exact g1
  · rw [m_W_set]; exact g2
theorem m_sp9 : m_R9 (m_SP D ad cI cJ A l X) := by
  intro d k j pc idx lv st h x y o h' q hq hi ha hst IH p e R s m args below meth c H locs cells slots ls M mc ms hM hx hb hml htab hlk hret hown hts hE hf hlo hmc hms hc1 hc2 hPw hD hS hl
  obtain ⟨hd, hmem⟩ := m_prow hM hq (Or.inl hi) (by omega)
  rw [hi] at hd
  obtain ⟨-, -, -, ho, -, -⟩ := m_fact_of hM
  have hlink : Cond.methodLink (m_y M).cls idx Lib.MathLoose.min_long.x ∈ m_tb := by
    rcases m_pr_cases hmem with ⟨-, -, e3⟩ | ⟨-, -, e3⟩ | ⟨e1, e2, -⟩ | ⟨-, -, e3⟩ | ⟨-, -, e3⟩ | ⟨-, -, e3⟩
    · omega
    · omega
    · rw [e1] at ho; rw [← Option.some.inj ho, e2]; exact m_jw335
    · omega
    · omega
    · omega
  have h8 := m_cat8 (ad := ad) hst
  exact va_mmin_long hx hb (by rw [hml]; exact hl.1.symm) hown (hts _ hlink) (hts _ m_jw336) (hts _ m_jw17) (hts _ m_jw337) (by omega) (by omega) (by omega) (by omega) hd
    (IH p e R s m args below meth c H locs cells slots ls M mc ms hM hx hb hml htab hlk hret hown hts hE hf hlo hmc hms hc1 hc2 hPw hD hS hl)
theorem m_sp13 : m_R13 (m_SP D ad cI cJ A l X) := by
  intro d k j pc idx lv st h x y o h' q hq hi ha hst IH p e R s m args below meth c H locs cells slots ls M mc ms hM hx hb hml htab hlk hret hown hts hE hf hlo hmc hms hc1 hc2 hPw hD hS hl
  obtain ⟨hd, hmem⟩ := m_prow hM hq (Or.inl hi) (by omega)
  rw [hi] at hd
  obtain ⟨-, -, -, ho, -, -⟩ := m_fact_of hM
  have hlink : Cond.methodLink (m_y M).cls idx Lib.Math.max.name ∈ m_tb := by
    rcases m_pr_cases hmem with ⟨-, -, e3⟩ | ⟨-, -, e3⟩ | ⟨-, -, e3⟩ | ⟨-, -, e3⟩ | ⟨-, -, e3⟩ | ⟨e1, e2, -⟩
    · omega
    · omega
    · omega
    · omega
    · omega
    · rw [e1] at ho; rw [← Option.some.inj ho, e2]; exact m_jw446
  have h8 := m_cat8 (ad := ad) hst
  exact va_mmax hx hb (by rw [hml]; exact hl.1.symm) hown (hts _ hlink) (hts _ m_jw447) (hts _ m_jw17) (hts _ m_jw448) (by omega) (by omega) (by omega) (by omega) hd
    (IH p e R s m args below meth c H locs cells slots ls M mc ms hM hx hb hml htab hlk hret hown hts hE hf hlo hmc hms hc1 hc2 hPw hD hS hl)
theorem m_recvH {n : Nat} {s : State} {H : Heap} {locs : List Loc} (hn : n < 11) (hE : m_ES ad A s) (hS : va_S A s.heap H locs) : ∃ cell : Cell, H[ad (m_scr + 1 + n)]? = some cell ∧ cell.vm.isStatics = false ∧ s.vm.findClass "java/lang/String" = some cell.cls := vk_recv (adK := fun i => ad (m_scr + 1 + i)) (i := n) hE.1 hn hS
theorem m_sp10 : m_R10 (m_SP D ad cI cJ A l X) := by
  intro d k j pc idx n lv st h o h' q hq hi ha hn hst IH p e R s m args below meth c H locs cells slots ls M mc ms hM hx hb hml htab hlk hret hown hts hE hf hlo hmc hms hc1 hc2 hPw hD hS hl
  obtain ⟨hd, hmem⟩ := m_prow hM hq (Or.inr hi) (by omega)
  rw [hi] at hd
  obtain ⟨-, -, -, ho, -, -⟩ := m_fact_of hM
  have hlink : (m_y M).cls = "GasContract$Tokens" ∧ idx = 116 := by
    rcases m_pr_cases hmem with ⟨-, -, e3⟩ | ⟨-, -, e3⟩ | ⟨-, -, e3⟩ | ⟨e1, e2, -⟩ | ⟨-, -, e3⟩ | ⟨-, -, e3⟩
    · omega
    · omega
    · omega
    · rw [e1] at ho; exact ⟨(Option.some.inj ho).symm, e2⟩
    · omega
    · omega
  rw [hlink.1] at hown
  rw [hlink.2] at hd
  have hES : m_ES ad A s := hE.2.2.2.2.2.2.2.2.2
  have hr := W.runV (p := p) (e := e) (below := below) (meth := meth) (cells := cells) (slots := slots) (H := H) (locs := locs) (rest := st.map (m_V ad)) (nL := m_mL M) (g := F0 m pc ls (.ref (ad (m_scr + 1 + n)) :: st.map (m_V ad))) (R := R) (own := "GasContract$Tokens") (C := "java/lang/String") (index := 116) (As := []) (b := ad (m_scr + 1 + n)) (n := 0) (bytes := prog_20_method_54_code) (maxL := 1) (ret := some .int)
    ⟨hx, hb, hml, hown, hts⟩ (m_jle (l := l) (ad := ad) (A := A) hn) (cwV 0 hts (m_jwsV m_jw271 m_jw272 m_jw273 m_jw13 m_jw274) rfl rfl rfl ⟨rfl, by decide, by decide, by decide +kernel⟩ ⟨by show 1 + 1 ≤ _; omega, by show 8 + (1 + 11) + 30 * 1 ≤ _; omega⟩)
    ⟨m_JP_blind, m_recvH hn hES hS, fun U hU hW => ⟨rfl, hES.move hW (fun q h1 h2 => by rw [hU]; exact hS.2.1 q h1 h2)⟩⟩ rfl rfl hl.1 rfl (lv_room (m_cat8 hst)) hd ⟨by omega, by omega⟩
  refine W.callR hr ?_
  exact IH p e R s m args below meth c H locs cells slots ls M mc ms hM hx hb hml htab hlk hret (by rw [hlink.1]; exact hown) hts hE hf hlo hmc hms hc1 hc2 hPw hD hS hl
theorem m_sp11 : m_R11 (m_SP D ad cI cJ A l X) := by
  intro d k j pc idx n i lv st h o h' q hq hi ha hn h1 h2 hst IH p e R s m args below meth c H locs cells slots ls M mc ms hM hx hb hml htab hlk hret hown hts hE hf hlo hmc hms hc1 hc2 hPw hD hS hl
  obtain ⟨hd, hmem⟩ := m_prow hM hq (Or.inr hi) (by omega)
  rw [hi] at hd
  obtain ⟨-, -, -, ho, -, -⟩ := m_fact_of hM
  have hlink : (m_y M).cls = "GasContract$Tokens" ∧ idx = 121 := by
    rcases m_pr_cases hmem with ⟨-, -, e3⟩ | ⟨-, -, e3⟩ | ⟨-, -, e3⟩ | ⟨-, -, e3⟩ | ⟨e1, e2, -⟩ | ⟨-, -, e3⟩
    · omega
    · omega
    · omega
    · omega
    · rw [e1] at ho; exact ⟨(Option.some.inj ho).symm, e2⟩
    · omega
  rw [hlink.1] at hown
  rw [hlink.2] at hd
  have hES : m_ES ad A s := hE.2.2.2.2.2.2.2.2.2
  have hr := W.runV (p := p) (e := e) (below := below) (meth := meth) (cells := cells) (slots := slots) (H := H) (locs := locs) (rest := st.map (m_V ad)) (nL := m_mL M) (g := F0 m pc ls (.int i :: .ref (ad (m_scr + 1 + n)) :: st.map (m_V ad))) (R := R) (own := "GasContract$Tokens") (C := "java/lang/String") (index := 121) (As := [.int i]) (b := ad (m_scr + 1 + n)) (n := 1) (bytes := prog_20_method_56_code) (maxL := 2) (ret := some .char)
    ⟨hx, hb, hml, hown, hts⟩ (m_jca (l := l) (ad := ad) (A := A) hn h1 h2) (cwV 1 hts (m_jwsV m_jw281 m_jw282 m_jw283 m_jw13 m_jw284) rfl rfl rfl ⟨rfl, by decide, by decide, by decide +kernel⟩ ⟨by show 3 + 1 ≤ _; omega, by show 8 + (2 + 11) + 30 * 3 ≤ _; omega⟩)
    ⟨m_JP_blind, m_recvH hn hES hS, fun U hU hW => ⟨rfl, hES.move hW (fun q h1 h2 => by rw [hU]; exact hS.2.1 q h1 h2)⟩⟩ rfl rfl hl.1 rfl (lv_room (m_cat8 hst)) hd ⟨by omega, by omega⟩
  refine W.callR hr ?_
  exact IH p e R s m args below meth c H locs cells slots ls M mc ms hM hx hb hml htab hlk hret (by rw [hlink.1]; exact hown) hts hE hf hlo hmc hms hc1 hc2 hPw hD hS hl
end Rules3
