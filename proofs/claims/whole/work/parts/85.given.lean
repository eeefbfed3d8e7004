/-! what the Statement gives at the law's entry, that is used: a part of its list -/
abbrev nl : List Cond := flatC (Jvm.Cond.and given_1 narrow_1)
def st_ix : List Nat := [90, 96, 98, 100, 102, 104, 106, 108, 110, 112, 114]
def st_tm (i : Nat) : Term := .string "GasContract$Tokens" (st_ix.getD i 0)
def st_v (i : Nat) : Term := .field (st_tm i) "java/lang/String" "value" "[B"
def st_el (i j : Nat) : Cond := Cond.eq (.elem (st_v i) (.int (Int32.ofNat j))) (.int ((m_sByt.getD i []).getD j 0))
def st_g (i : Nat) : List Cond := Cond.exactly (st_tm i) "java/lang/String" :: Cond.eq (.field (st_tm i) "java/lang/String" "coder" "B") (.int 0) :: Cond.arrayOf (st_v i) .byte :: Cond.eq (.length (st_v i)) (.int (Int32.ofNat (m_sLen.getD i 0))) :: ((List.range (m_sLen.getD i 0)).map (st_el i) ++ (List.range i).map (fun j => Cond.not (Cond.eq (st_tm j) (st_tm i))))
def nlP : List Cond := [Cond.eq (.static "java/lang/String" "COMPACT_STRINGS" "Z") (.int 1), Cond.isRef (.static "jdk/internal/util/Preconditions" "SIOOBE_FORMATTER" "Ljava/util/function/BiFunction;"), Cond.isRef (.static Bundle.tN "UNASSIGNED_STACK" Bundle.steD), Cond.isRef (.static Bundle.tN "SUPPRESSED_SENTINEL" Bundle.listD), Cond.not (.castable "java/lang/IllegalArgumentException" "java/lang/IllegalStateException"), Cond.not (.castable "java/lang/IndexOutOfBoundsException" "java/lang/IllegalStateException"), Cond.not (.castable "java/lang/UnsupportedOperationException" "java/lang/IllegalArgumentException"), Cond.not (.castable "java/lang/IllegalArgumentException" "java/lang/IndexOutOfBoundsException")]
def nlE : List Cond := [("GasContract$Compiler", 187), ("GasContract", 46), ("GasContract", 53), ("GasContract", 60), ("GasContract", 81), ("GasContract", 93), ("GasContract", 101), ("GasContract", 123)].map (fun q => Cond.exactly (.string q.1 q.2) "java/lang/String")
def nlS : List Cond := nlP ++ ((List.range 11).flatMap st_g ++ nlE)
def isSb : List Cond → List Cond → Bool
  | as, [] => as.isEmpty
  | as, b :: bs => match as with
    | [] => true
    | a :: at' => if a = b then isSb at' bs else isSb (a :: at') bs
theorem isSb_mem : ∀ (bs as : List Cond), isSb as bs = true → ∀ w ∈ as, w ∈ bs
  | [], as, h, w, hw => by
    rw [isSb] at h
    cases as with
    | nil => cases hw
    | cons a t => cases h
  | b :: bs, as, h, w, hw => by
    cases as with
    | nil => cases hw
    | cons a t =>
      rw [isSb] at h
      by_cases e : a = b
      · rw [if_pos e] at h
        rcases List.mem_cons.mp hw with hw | hw
        · rw [hw, e]; exact List.mem_cons_self
        · exact List.mem_cons_of_mem _ (isSb_mem bs t h w hw)
      · rw [if_neg e] at h
        exact List.mem_cons_of_mem _ (isSb_mem bs (a :: t) h w hw)
set_option maxRecDepth 100000 in
theorem nlS_sb : isSb nlS nl = true := by decide +kernel
theorem nlS_in {w : Cond} (h : w ∈ nlS) : w ∈ nl := isSb_mem _ _ nlS_sb w h
