/-! printed by wip/whole/dec.py: the pure state and its cells
0: GasContract.length
1: GasContract.compiled
2: GasContract.given
3: GasContract.charged
4: GasContract.transactions
5: Compiler.at
6: Compiler.fault
7: Compiler.variableCount
8: Tokens.size
9: Tokens.length
10: Tokens.stop
11: Tokens.number
12: draft.size
13: draft.functionCount
14: Machine.top
15: Machine.calls
16: Machine.next
17: Machine.outcome
18: Machine.cost
19: Machine.given
20: contract.size
21: contract.functionCount
22: Store.size
23: Store.keptSize
24: Model.thrown
25: Model.size
26: Model.kind
27: Model.at
28: Model.behind
29: Model.number
30: Model.fault
31: Model.height
32: Model.noted
33: Model.typed
34: Model.depth
35: Model.functions
36: Model.variables
37: Model.steps
38: Model.contract
39: Model.stored
40: Model.wasStored
41: Model.worths
42: Model.calls
43: Model.gave
44: Model.charged
45: Model.transactions
-/
/-- scalars, arrays, the reference's cost, the long of the law -/
abbrev mG : Type := (Nat → Int32) × (Nat → Nat → Int32) × Int64 × (Nat → Int64)
def gI (g : mG) (i : Nat) (v : Int32) : mG := (fun j => bif Nat.beq j i then v else g.1 j, g.2)
def gS (g : mG) (a : Nat) (f : Nat → Int32) : mG := (g.1, fun b => bif Nat.beq b a then f else g.2.1 b, g.2.2)
def gC (g : mG) (v : Int64) : mG := (g.1, g.2.1, v, g.2.2.2)
def gO (g : mG) (f : Nat → Int64) : mG := (g.1, g.2.1, g.2.2.1, f)
abbrev mZ : Type := Option (mO × mG)
def hO (R : Nat) (g : mG) : mH := [.inr (.inr (5, [.ref 8, .int (g.1 0), .ref 1, .ref 4, .int (g.1 1), .int (g.1 2), .int (g.1 3), .int (g.1 4)])), .inr (.inr (0, [.ref 2, .ref 3, .int (g.1 5), .int (g.1 6), .ref 9, .ref 10, .ref 11, .int (g.1 7)])), .inr (.inr (4, [.ref 12, .ref 13, .ref 14, .ref 15, .int (g.1 8), .ref R, .int (g.1 9), .int (g.1 10), .int (g.1 11)])), .inr (.inr (1, [.ref 17, .ref 18, .int (g.1 12), .ref 19, .ref 20, .int (g.1 13)])), .inr (.inr (2, [.ref 6, .ref 5, .ref 25, .int (g.1 14), .ref 26, .ref 27, .int (g.1 15), .int (g.1 16), .int (g.1 17), .int (g.1 18), .int (g.1 19)])), .inr (.inr (1, [.ref 21, .ref 22, .int (g.1 20), .ref 23, .ref 24, .int (g.1 21)])), .inr (.inr (3, [.ref 28, .ref 29, .int (g.1 22), .ref 30, .ref 31, .int (g.1 23)])), .inr (.inr (6, [.int (g.1 24), .ref 32, .int (g.1 25), .int (g.1 26), .int (g.1 27), .int (g.1 28), .int (g.1 29), .int (g.1 30), .ref 33, .int (g.1 31), .ref 34, .int (g.1 32), .ref 35, .int (g.1 33), .int (g.1 34), .int (g.1 35), .ref 36, .ref 37, .ref 38, .ref 39, .int (g.1 36), .ref 40, .ref 41, .ref 42, .int (g.1 37), .ref 43, .ref 44, .int (g.1 38), .ref 45, .ref 46, .ref 47, .ref 48, .int (g.1 39), .ref 49, .ref 50, .int (g.1 40), .ref 51, .ref 52, .long g.2.2.1, .ref 53, .int (g.1 41), .int (g.1 42), .ref 54, .ref 55, .int (g.1 43), .int (g.1 44), .int (g.1 45)])), .inl (600, g.2.1 8), .inl (8, g.2.1 9), .inl (8, g.2.1 10), .inl (8, g.2.1 11), .inl (601, g.2.1 12), .inl (601, g.2.1 13), .inl (601, g.2.1 14), .inl (601, g.2.1 15), .inl (0, g.2.1 16), .inl (600, g.2.1 17), .inl (600, g.2.1 18), .inl (8, g.2.1 19), .inl (8, g.2.1 20), .inl (600, g.2.1 21), .inl (600, g.2.1 22), .inl (8, g.2.1 23), .inl (8, g.2.1 24), .inl (1080, g.2.1 25), .inl (96, g.2.1 26), .inl (12, g.2.1 27), .inl (32, g.2.1 28), .inl (32, g.2.1 29), .inl (32, g.2.1 30), .inl (32, g.2.1 31), .inl (600, g.2.1 32), .inl (900, g.2.1 33), .inl (600, g.2.1 34), .inl (400, g.2.1 35), .inl (9, g.2.1 36), .inl (9, g.2.1 37), .inl (9, g.2.1 38), .inl (9, g.2.1 39), .inl (8, g.2.1 40), .inl (8, g.2.1 41), .inl (8, g.2.1 42), .inl (2400, g.2.1 43), .inl (2400, g.2.1 44), .inl (8, g.2.1 45), .inl (8, g.2.1 46), .inl (2400, g.2.1 47), .inl (2400, g.2.1 48), .inl (32, g.2.1 49), .inl (32, g.2.1 50), .inl (32, g.2.1 51), .inl (32, g.2.1 52), .inl (3000, g.2.1 53), .inl (13, g.2.1 54), .inl (104, g.2.1 55), .inr (.inl (1, g.2.2.2))]
def m_ko (o : mO) : Nat := match o with
  | .inl _ => 0
  | .inr _ => 1
def m_ci (r : mZ) (k : Int32 → mG → mZ) : mZ := match r with
  | some (.inl (some (.int v)), g) => k v g
  | some (.inr x, g) => some (.inr x, g)
  | _ => none
def m_cv (r : mZ) (k : mG → mZ) : mZ := match r with
  | some (.inl none, g) => k g
  | some (.inr x, g) => some (.inr x, g)
  | _ => none
def m_ti (r : mZ) (k : Int32 → mG → mZ) (c : Nat → mG → mZ) : mZ := match r with
  | some (.inl (some (.int v)), g) => k v g
  | some (.inr x, g) => c x g
  | _ => none
def m_tv (r : mZ) (k : mG → mZ) (c : Nat → mG → mZ) : mZ := match r with
  | some (.inl none, g) => k g
  | some (.inr x, g) => c x g
  | _ => none
theorem m_ci_inv {r : mZ} {k : Int32 → mG → mZ} {o : mO} {g' : mG} (h : m_ci r k = some (o, g')) : (∃ v g1, r = some (.inl (some (.int v)), g1) ∧ k v g1 = some (o, g')) ∨ (∃ x g1, r = some (.inr x, g1) ∧ o = .inr x ∧ g' = g1) := by
  unfold m_ci at h
  split at h
  · exact Or.inl ⟨_, _, rfl, h⟩
  · cases h; exact Or.inr ⟨_, _, rfl, rfl, rfl⟩
  · cases h
theorem m_cv_inv {r : mZ} {k : mG → mZ} {o : mO} {g' : mG} (h : m_cv r k = some (o, g')) : (∃ g1, r = some (.inl none, g1) ∧ k g1 = some (o, g')) ∨ (∃ x g1, r = some (.inr x, g1) ∧ o = .inr x ∧ g' = g1) := by
  unfold m_cv at h
  split at h
  · exact Or.inl ⟨_, rfl, h⟩
  · cases h; exact Or.inr ⟨_, _, rfl, rfl, rfl⟩
  · cases h
theorem m_ti_inv {r : mZ} {k : Int32 → mG → mZ} {c : Nat → mG → mZ} {o : mO} {g' : mG} (h : m_ti r k c = some (o, g')) : (∃ v g1, r = some (.inl (some (.int v)), g1) ∧ k v g1 = some (o, g')) ∨ (∃ x g1, r = some (.inr x, g1) ∧ c x g1 = some (o, g')) := by
  unfold m_ti at h
  split at h
  · exact Or.inl ⟨_, _, rfl, h⟩
  · exact Or.inr ⟨_, _, rfl, h⟩
  · cases h
theorem m_tv_inv {r : mZ} {k : mG → mZ} {c : Nat → mG → mZ} {o : mO} {g' : mG} (h : m_tv r k c = some (o, g')) : (∃ g1, r = some (.inl none, g1) ∧ k g1 = some (o, g')) ∨ (∃ x g1, r = some (.inr x, g1) ∧ c x g1 = some (o, g')) := by
  unfold m_tv at h
  split at h
  · exact Or.inl ⟨_, rfl, h⟩
  · exact Or.inr ⟨_, _, rfl, h⟩
  · cases h
/-- the arguments of the methods that call themselves -/
def m_av (w : Nat) (x y z : Int32) : List Value := bif Nat.beq w 17 then [.ref 1, .int x, .int y, .int z] else bif Nat.beq w 15 || Nat.beq w 19 || Nat.beq w 30 then [.ref 1, .int x, .int y] else [.ref 1, .int x]
abbrev mRec : Type := Nat → Int32 → Int32 → Int32 → mG → mZ
def m_Rec (X : Nat × (Nat → Int32)) (d : Nat) (rc : mRec) : Prop := ∀ (w : Nat) (x y z : Int32) (g : mG) (o : mO) (g' : mG), rc w x y z g = some (o, g') → m_Run X (d + 30) (m_ko o) w 0 (lv_args 0 (m_av w x y z)) [] (hO 8 g) o (hO 8 g')
theorem m_swx {x k : Int32} {r : Option mS} (f : Int32 → Option mS) (h : x = k) (hk : f k = r) : f x = r := by rw [h]; exact hk
