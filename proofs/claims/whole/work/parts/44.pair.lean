/-! both compilers in step -/
abbrev CS : List Nat := [5, 6, 7, 12, 13]
abbrev CA : List Nat := [9, 10, 11, 17, 18, 19, 20]
abbrev MS : List Nat := [26, 27, 28, 29, 30, 31, 32, 33, 34, 35, 36, 37]
abbrev MA : List Nat := [33, 34, 35, 36, 37, 38, 39, 40, 41, 42, 43, 44]
/-- the class answers, and the reference goes on; or both find the fault. E bounds the reference's turns -/
def Pr (n : Nat) (g gm : mG) (E : Nat) (r : mZ) (Q : Option Value → mG → mG → Nat → Prop) : Prop :=
  (∃ o g' gm' k, r = some (.inl o, g') ∧ (∀ c, f91_55 n (c + k) gm = f91_55 n c gm') ∧ k ≤ E ∧ Chg CS CA g g' ∧ Chg MS MA gm gm' ∧ Q o g' gm' (E - k)) ∨
  (∃ g' gm' k, r = some (.inr 0, g') ∧ (∀ c, f91_55 n (c + k) gm = some (.inl (some (.int (g'.1 6))), gm')) ∧ k ≤ E ∧ Chg CS CA g g' ∧ Chg MS MA gm gm' ∧ ¬ g'.1 6 < 0)
def QI (Q : Int32 → mG → mG → Nat → Prop) (o : Option Value) (g gm : mG) (E : Nat) : Prop := ∃ x, o = some (.int x) ∧ Q x g gm E
def QV (Q : mG → mG → Nat → Prop) (o : Option Value) (g gm : mG) (E : Nat) : Prop := o = none ∧ Q g gm E
section Pair
variable {n E : Nat} {g gm : mG}
theorem m_ci_f (x : Nat) (g : mG) (k : Int32 → mG → mZ) : m_ci (some (.inr x, g)) k = some (.inr x, g) := rfl
theorem m_cv_f (x : Nat) (g : mG) (k : mG → mZ) : m_cv (some (.inr x, g)) k = some (.inr x, g) := rfl
theorem Pr.ci {r : mZ} {k : Int32 → mG → mZ} {Q : Int32 → mG → mG → Nat → Prop} {Q' : Option Value → mG → mG → Nat → Prop} (h : Pr n g gm E r (QI Q)) (hk : ∀ x g' gm' E', Chg CS CA g g' → Chg MS MA gm gm' → Q x g' gm' E' → Pr n g' gm' E' (k x g') Q') : Pr n g gm E (m_ci r k) Q' := by
  rcases h with ⟨o, g', gm', j, h1, h2, h3, h4, h5, x, rfl, h6⟩ | ⟨g', gm', j, h1, h2, h3, h4, h5⟩
  · rw [h1, m_ci_s]
    rcases hk x g' gm' (E - j) h4 h5 h6 with ⟨o, g2, gm2, i, q1, q2, q3, q4, q5, q6⟩ | ⟨g2, gm2, i, q1, q2, q3, q4, q5⟩
    · exact Or.inl ⟨o, g2, gm2, i + j, q1, fun c => by rw [← Nat.add_assoc, h2, q2], by omega, h4.tr q4, h5.tr q5, by rw [show E - (i + j) = E - j - i by omega]; exact q6⟩
    · exact Or.inr ⟨g2, gm2, i + j, q1, fun c => by rw [← Nat.add_assoc, h2, q2], by omega, h4.tr q4, h5.tr q5.1, q5.2⟩
  · exact Or.inr ⟨g', gm', j, by rw [h1, m_ci_f], h2, h3, h4, h5⟩
theorem Pr.cv {r : mZ} {k : mG → mZ} {Q : mG → mG → Nat → Prop} {Q' : Option Value → mG → mG → Nat → Prop} (h : Pr n g gm E r (QV Q)) (hk : ∀ g' gm' E', Chg CS CA g g' → Chg MS MA gm gm' → Q g' gm' E' → Pr n g' gm' E' (k g') Q') : Pr n g gm E (m_cv r k) Q' := by
  rcases h with ⟨o, g', gm', j, h1, h2, h3, h4, h5, rfl, h6⟩ | ⟨g', gm', j, h1, h2, h3, h4, h5⟩
  · rw [h1, m_cv_s]
    rcases hk g' gm' (E - j) h4 h5 h6 with ⟨o, g2, gm2, i, q1, q2, q3, q4, q5, q6⟩ | ⟨g2, gm2, i, q1, q2, q3, q4, q5⟩
    · exact Or.inl ⟨o, g2, gm2, i + j, q1, fun c => by rw [← Nat.add_assoc, h2, q2], by omega, h4.tr q4, h5.tr q5, by rw [show E - (i + j) = E - j - i by omega]; exact q6⟩
    · exact Or.inr ⟨g2, gm2, i + j, q1, fun c => by rw [← Nat.add_assoc, h2, q2], by omega, h4.tr q4, h5.tr q5.1, q5.2⟩
  · exact Or.inr ⟨g', gm', j, by rw [h1, m_cv_f], h2, h3, h4, h5⟩
/-- a turn of the reference alone -/
theorem Pr.turn {r : mZ} {gm1 : mG} {Q : Option Value → mG → mG → Nat → Prop} (h1 : ∀ c, f91_55 n (c + 1) gm = f91_55 n c gm1) (h2 : Chg MS MA gm gm1) (h : Pr n g gm1 E r Q) : Pr n g gm (E + 1) r Q := by
  rcases h with ⟨o, g', gm', j, q1, q2, q3, q4, q5, q6⟩ | ⟨g', gm', j, q1, q2, q3, q4, q5⟩
  · exact Or.inl ⟨o, g', gm', j + 1, q1, fun c => by rw [← Nat.add_assoc, h1, q2], by omega, q4, h2.tr q5, by rw [show E + 1 - (j + 1) = E - j by omega]; exact q6⟩
  · exact Or.inr ⟨g', gm', j + 1, q1, fun c => by rw [← Nat.add_assoc, h1, q2], by omega, q4, h2.tr q5.1, q5.2⟩
/-- a step of the class alone -/
theorem Pr.own {r : mZ} {g1 : mG} {Q : Option Value → mG → mG → Nat → Prop} (h2 : Chg CS CA g g1) (h : Pr n g1 gm E r Q) : Pr n g gm E r Q := by
  rcases h with ⟨o, g', gm', j, q1, q2, q3, q4, q5, q6⟩ | ⟨g', gm', j, q1, q2, q3, q4, q5⟩
  · exact Or.inl ⟨o, g', gm', j, q1, q2, q3, h2.tr q4, q5, q6⟩
  · exact Or.inr ⟨g', gm', j, q1, q2, q3, h2.tr q4, q5⟩
theorem Pr.ret {o : Option Value} {Q : Option Value → mG → mG → Nat → Prop} (h : Q o g gm E) : Pr n g gm E (some (.inl o, g)) Q :=
  Or.inl ⟨o, g, gm, 0, rfl, fun c => rfl, Nat.zero_le _, Chg.rf _, Chg.rf _, h⟩
theorem Pr.mono {r : mZ} {Q Q' : Option Value → mG → mG → Nat → Prop} (h : Pr n g gm E r Q) (hq : ∀ o g' gm' E', Chg CS CA g g' → Chg MS MA gm gm' → Q o g' gm' E' → Q' o g' gm' E') : Pr n g gm E r Q' := by
  rcases h with ⟨o, g', gm', j, q1, q2, q3, q4, q5, q6⟩ | ⟨g', gm', j, q1, q2, q3, q4, q5⟩
  · exact Or.inl ⟨o, g', gm', j, q1, q2, q3, q4, q5, hq o g' gm' _ q4 q5 q6⟩
  · exact Or.inr ⟨g', gm', j, q1, q2, q3, q4, q5⟩
theorem m_stop {p c : Nat} (hp : p < 2 ^ 31) (h : gm.1 30 = nI p) : f91_55 n (c + 1) gm = some (.inl (some (.int (nI p))), gm) := by
  have h0 : f91_95 n gm = some (.inl (some (.int (nI p))), gm) := by
    unfold f91_95
    rw [h, if_neg (nI_pos hp)]
  have h1 : (0 : Int32) ≤ nI p := nI_le (a := 0) (b := p) (Nat.zero_le _) hp
  rw [f91_55]
  by_cases z : gm.1 31 ≤ 0
  · rw [if_pos z, h0]
  · rw [if_neg z, h, if_pos h1, h0]
/-- both find the fault -/
theorem Pr.no {g1 gm1 : mG} {p : Nat} {Q : Option Value → mG → mG → Nat → Prop} (hE : 2 ≤ E) (hp : p < 2 ^ 31) (h1 : ∀ c, f91_55 n (c + 1) gm = f91_55 n c gm1) (h2 : Chg MS MA gm gm1) (h3 : gm1.1 30 = nI p) (h4 : Chg CS CA g g1) (h5 : g1.1 6 = nI p) : Pr n g gm E (some (.inr 0, g1)) Q :=
  Or.inr ⟨g1, gm1, 2, rfl, fun c => by rw [show c + 2 = (c + 1) + 1 by omega, h1, m_stop hp h3, h5], hE, h4, h2, by rw [h5]; exact nI_pos hp⟩
/-- the topmost symbol is performed -/
theorem m_top {x : Int32} {h : Nat} {gm1 : mG} (hh : h < 900) (h31 : gm.1 31 = nI (h + 1)) (h30 : gm.1 30 = -1) (hx : gm.2.1 33 h = x) (e : f101 n x (gI gm 31 (nI h)) = some (.inl none, gm1)) (c : Nat) : f91_55 n (c + 1) gm = f91_55 n c gm1 := by
  rw [f91_55, h31, h30, if_neg (show ¬ nI (h + 1) ≤ (0 : Int32) from nI_ge (a := 0) (b := h + 1) (by omega) (by omega)), if_neg (by decide), nI_pred, if_neg (nI_in (by omega) (by decide)), nI_clamp (by omega), hx, e, m_cv_s]
/-! pushing on the pile, the notes, the types -/
def pu (g : mG) (h : Nat) (x : Int32) : mG := gI (gS g 33 (upd (g.2.1 33) h x)) 31 (nI (h + 1))
def nt (g : mG) (k : Nat) (x : Int32) : mG := gI (gS g 34 (upd (g.2.1 34) k x)) 32 (nI (k + 1))
def ty (g : mG) (y : Nat) (x : Int32) : mG := gI (gS g 35 (upd (g.2.1 35) y x)) 33 (nI (y + 1))
theorem m100 {h : Nat} {x : Int32} (hh : h < 900) (h31 : gm.1 31 = nI h) : f100 n x gm = some (.inl none, pu gm h x) := by
  unfold f100 pu
  rw [h31, if_neg (nI_in (by omega) (by decide)), nI_clamp (by omega), nI_1]
theorem m107 {k : Nat} {x : Int32} (hk : k < 600) (h32 : gm.1 32 = nI k) : f107 n x gm = some (.inl none, nt gm k x) := by
  unfold f107 nt
  rw [h32, if_neg (nI_in (by omega) (by decide)), nI_clamp (by omega), nI_1]
theorem m110 {y : Nat} {x : Int32} (hy : y < 400) (h33 : gm.1 33 = nI y) : f110 n x gm = some (.inl none, ty gm y x) := by
  unfold f110 ty
  rw [h33, if_neg (nI_in (by omega) (by decide)), nI_clamp (by omega), nI_1]
theorem m115 {k : Nat} (hk : k < 600) (h32 : gm.1 32 = nI (k + 1)) : f115 n gm = some (.inl (some (.int (gm.2.1 34 k))), gI gm 32 (nI k)) := by
  unfold f115
  rw [h32, nI_pred, if_neg (nI_in (by omega) (by decide)), nI_clamp (by omega)]
theorem m117 {y : Nat} (hy : y < 400) (h33 : gm.1 33 = nI (y + 1)) : f117 n gm = some (.inl (some (.int (gm.2.1 35 y))), gI gm 33 (nI y)) := by
  unfold f117
  rw [h33, nI_pred, if_neg (nI_in (by omega) (by decide)), nI_clamp (by omega)]
theorem m103 {p : Nat} (hp : p < 2 ^ 31) (h30 : gm.1 30 = -1) : f103 n (nI p) gm = some (.inl none, gI gm 30 (nI p)) := by
  unfold f103 f103_16
  rw [h30, if_neg (by decide)]
theorem pu_c {h : Nat} {x : Int32} : Chg [31] [33] gm (pu gm h x) := (Chg.s 33 _ (by simp)).tr (Chg.i 31 _ (by simp))
theorem nt_c {h : Nat} {x : Int32} : Chg [32] [34] gm (nt gm h x) := (Chg.s 34 _ (by simp)).tr (Chg.i 32 _ (by simp))
theorem ty_c {h : Nat} {x : Int32} : Chg [33] [35] gm (ty gm h x) := (Chg.s 35 _ (by simp)).tr (Chg.i 33 _ (by simp))
theorem pu_h {h : Nat} {x : Int32} : (pu gm h x).1 31 = nI (h + 1) := by simp [pu, rI]
theorem nt_h {h : Nat} {x : Int32} : (nt gm h x).1 32 = nI (h + 1) := by simp [nt, rI]
theorem ty_h {h : Nat} {x : Int32} : (ty gm h x).1 33 = nI (h + 1) := by simp [ty, rI]
theorem pu_t {h : Nat} {x : Int32} : (pu gm h x).2.1 33 h = x := by simp [pu, rI2, rS, upd]
theorem nt_t {h : Nat} {x : Int32} : (nt gm h x).2.1 34 h = x := by simp [nt, rI2, rS, upd]
theorem ty_t {h : Nat} {x : Int32} : (ty gm h x).2.1 35 h = x := by simp [ty, rI2, rS, upd]
theorem pu_o {h i : Nat} {x : Int32} (hi : i < h) : (pu gm h x).2.1 33 i = gm.2.1 33 i := by simp [pu, rI2, rS, upd, show ¬ i = h by omega]
theorem nt_o {h i : Nat} {x : Int32} (hi : i < h) : (nt gm h x).2.1 34 i = gm.2.1 34 i := by simp [nt, rI2, rS, upd, show ¬ i = h by omega]
theorem ty_o {h i : Nat} {x : Int32} (hi : i < h) : (ty gm h x).2.1 35 i = gm.2.1 35 i := by simp [ty, rI2, rS, upd, show ¬ i = h by omega]
/-- two, three, four symbols at once -/
theorem m108_2 {h : Nat} {x1 x2 : Int32} (hh : h + 1 < 900) (h31 : gm.1 31 = nI h) (h2 : ¬ x2 ≤ 0) : f108 n x1 x2 0 0 gm = some (.inl none, pu (pu gm h x2) (h + 1) x1) := by
  unfold f108 f108_11 f108_20 f108_29
  rw [if_pos (by decide), if_pos (by decide), if_neg h2, m100 (by omega) h31, m_cv_s, m100 (by omega) pu_h, m_cv_s]
theorem m108_3 {h : Nat} {x1 x2 x3 : Int32} (hh : h + 2 < 900) (h31 : gm.1 31 = nI h) (h2 : ¬ x2 ≤ 0) (h3 : ¬ x3 ≤ 0) : f108 n x1 x2 x3 0 gm = some (.inl none, pu (pu (pu gm h x3) (h + 1) x2) (h + 2) x1) := by
  unfold f108 f108_11 f108_20 f108_29
  rw [if_pos (by decide), if_neg h3, m100 (by omega) h31, m_cv_s, if_neg h2, m100 (by omega) pu_h, m_cv_s, m100 (by omega) pu_h, m_cv_s]
theorem m108_4 {h : Nat} {x1 x2 x3 x4 : Int32} (hh : h + 3 < 900) (h31 : gm.1 31 = nI h) (h2 : ¬ x2 ≤ 0) (h3 : ¬ x3 ≤ 0) (h4 : ¬ x4 ≤ 0) : f108 n x1 x2 x3 x4 gm = some (.inl none, pu (pu (pu (pu gm h x4) (h + 1) x3) (h + 2) x2) (h + 3) x1) := by
  unfold f108 f108_11 f108_20 f108_29
  rw [if_neg h4, m100 (by omega) h31, m_cv_s, if_neg h3, m100 (by omega) pu_h, m_cv_s, if_neg h2, m100 (by omega) pu_h, m_cv_s, m100 (by omega) pu_h, m_cv_s]
end Pair
