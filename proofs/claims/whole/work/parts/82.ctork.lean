/-! making arrays -/
def k_isM : Cond → Bool
  | .methodLinkNest .. => true
  | _ => false
def k_nw : List Cond := tables_1.filter k_isM
theorem k_nw_warm {s U : State} (hW : s.WarmedH U.vm) (h : ∀ w ∈ k_nw, va_Nw w s) : ∀ w ∈ k_nw, va_Nw w U := by
  intro w hw
  have h1 := h w hw
  have h2 := (List.mem_filter.mp hw).2
  cases w <;> first | exact va_Nw.warmM hW h1 | exact absurd h2 (by simp [k_isM])
theorem k_nw_t {i : Nat} {w : Cond} (h : tables_1[i]? = some w) (hg : k_isM w = true) : w ∈ k_nw := List.mem_filter.mpr ⟨List.mem_of_getElem? h, hg⟩
def z0 : Nat → Int32 := fun _ => 0
theorem kg {c c' : Cond} (h : c' ∈ m_tb) : GoodIn (c :: m_tb) (c' :: m_tb) := fun w hw => by
  obtain ⟨h1, h2⟩ := m_jgood h w hw
  exact ⟨List.mem_cons_of_mem _ h1, h2⟩
theorem kf {ty : Nat → FieldType} {fs : List Value} {N : Nat} (h : (List.range N).all (fun j => decide (defaultValue (ty j) = vp_V fs j)) = true) : ∀ j, j < N → defaultValue (ty j) = vp_V fs j := fun j hj => by
  have := List.all_eq_true.mp h j (List.mem_range.mpr hj)
  exact of_decide_eq_true this
section Kn
variable {p : Program} {l : Launch} {e : Env} {R : Room} {s : State} {m : MethodId} {args : Array Value} {below : List Frame} {meth : Method} {c : Jvm.ClassFile.Code} {H : Heap} {locs : List Loc} {cells slots : Nat} {Q : State → Prop} {pc : Nat} {ls : Array Slot} {rest : List Value} {cc : ByteArray} {D : va_G} {cI cJ : ClassId} {A : Nat → Prop} {H0 : Heap} {ws : va_W}
theorem kn_int {n : Int32} {N : Nat} (hexec : p.tables.exec = Jvm.exec) (hb : c.code = cc) (harr : (Cond.arrayClass .int).before args s = true) (hK : va_K D m_cl [(cI, .int), (cJ, .long)] s) (hP : va_P D m_cl ws H) (hD : va_D A ws) (hS : va_S A H0 H locs) (hA : ∀ q, H0.size ≤ q → A q) (hn : ¬ n < 0) (hN : n.toNatClampNeg = N) (hbytes : N * componentBytes .int ≤ 536870912) (hcells : cells + 1 ≤ R.cells) (hslots : slots + N ≤ R.slots) (hdg : decode cc pc = .ok (.newarray .int, 2))
    (kk : ∀ (q : Nat) (H1 : Heap), va_P D m_cl (ws ++ [(q, .inl (cI, N, .inl z0))]) H1 → va_D A (ws ++ [(q, .inl (cI, N, .inl z0))]) → va_S A H0 H1 locs → W p l e R s m args below meth c H1 locs (cells + 1) (slots + N) Q (F0 m (pc + 2) ls (.ref q :: rest))) : W p l e R s m args below meth c H locs cells slots Q (F0 m pc ls (.int n :: rest)) := by
  refine va_newa (atype := .int) (ty := .int) (a0 := (N, .inl z0)) hexec hb harr rfl hK hP hD hS hA (fun _ => rfl) hn hN hbytes hcells hslots hdg (fun q cA H1 hK1 hP1 hD1 hS1 => ?_)
  have e1 : s.vm.findClass ("[" ++ FieldType.int.toString) = some cA := (hK1.2 2 (cA, .int) rfl).2
  have e2 : s.vm.findClass ("[" ++ FieldType.int.toString) = some cI := (hK.2 0 (cI, .int) rfl).2
  cases Option.some.inj (e1.symm.trans e2)
  exact kk q H1 hP1 hD1 hS1
end Kn
