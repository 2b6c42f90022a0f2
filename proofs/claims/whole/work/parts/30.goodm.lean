/-! a GOOD row, kind by kind, as the reference has it -/
theorem all4_iff {P : Nat → Prop} : (∀ k, k < 4 → P k) ↔ (P 0 ∧ P 1 ∧ P 2 ∧ P 3) := ⟨fun h => ⟨h 0 (by omega), h 1 (by omega), h 2 (by omega), h 3 (by omega)⟩, fun h => all4 h.1 h.2.1 h.2.2.1 h.2.2.2⟩
def fcb (t : Nat → sp_T) (o : Option Nat) : Bool := match o with
  | none => false
  | some j => decide (sp_so (t j) = 2)
theorem fit_0 {t : Nat → sp_T} {o : Option Nat} : sp_fit t o 0 = true ↔ o = none := by cases o <;> simp [sp_fit]
theorem fit_1 {t : Nat → sp_T} {o : Option Nat} : sp_fit t o 1 = true ↔ ¬ o = none := by cases o <;> simp [sp_fit]
theorem fit_2 {t : Nat → sp_T} {o : Option Nat} : sp_fit t o 2 = true ↔ fcb t o = true := by cases o <;> simp [sp_fit, fcb]
theorem fit_3 {t : Nat → sp_T} {o : Option Nat} : sp_fit t o 3 = true ↔ (o = none ∨ fcb t o = true) := by cases o <;> simp [sp_fit, fcb]
theorem fcb_s {t : Nat → sp_T} {o : Option Nat} (h : fcb t o = true) : ¬ o = none := by
  rintro rfl
  cases h
theorem le_max (x : Int32) : x ≤ 2147483647 := Int32.le_iff_toInt_le.mpr (by have := Int32.toInt_lt x; have e : (2147483647 : Int32).toInt = 2147483647 := rfl; omega)
theorem nlt_min (x : Int32) : ¬ x < (-2147483648) := fun h => by
  have h1 := Int32.lt_iff_toInt_lt.mp h
  have := Int32.le_toInt x
  have e : (-2147483648 : Int32).toInt = -2147483648 := rfl
  omega
theorem num_0 {x : Int32} : (¬ x < 0 ∧ x ≤ 0) ↔ x = 0 := ⟨fun h => Int32.le_antisymm h.2 (Int32.not_lt.mp h.1), fun h => by rw [h]; decide⟩
theorem num_r {x a b : Int32} : (¬ x < a ∧ x ≤ b) ↔ (a ≤ x ∧ x ≤ b) := by rw [Int32.not_lt]
theorem num_1 {x : Int32} : (¬ x < 1 ∧ x ≤ 2147483647) ↔ ¬ x < 1 := ⟨fun h => h.1, fun h => ⟨h, le_max x⟩⟩
theorem num_a {x : Int32} : (¬ x < (-2147483648) ∧ x ≤ 2147483647) ↔ True := ⟨fun _ => trivial, fun _ => ⟨nlt_min x, le_max x⟩⟩
theorem gap_0 {d : sp_T} : sp_gap d 0 = false := rfl
theorem gap_s {d : sp_T} {k : Nat} : sp_gap d (k + 1) = true ↔ sp_pa d k = none := by
  show (sp_pa d k).isNone = true ↔ _
  cases sp_pa d k <;> simp

theorem good_0 {t : Nat → sp_T} {d : sp_T} : (sp_gn d 0 ∧ sp_gt t d 0) ↔ (((0 ≤ sp_nu d 0 ∧ sp_nu d 0 ≤ 5) ∧ True ∧ sp_nu d 2 = 0 ∧ sp_nu d 3 = 0) ∧ (fcb t (sp_pa d 0) = true ∧ sp_pa d 1 = none ∧ sp_pa d 2 = none ∧ sp_pa d 3 = none)) := by
  unfold sp_gn sp_gt
  rw [all4_iff, all4_iff]
  simp only [show sg_tab 2 (0 * 4 + 0) = 0 from rfl, show sg_tab 2 (0 * 4 + 1) = (-2147483648) from rfl, show sg_tab 2 (0 * 4 + 2) = 0 from rfl, show sg_tab 2 (0 * 4 + 3) = 0 from rfl, show sg_tab 3 (0 * 4 + 0) = 5 from rfl, show sg_tab 3 (0 * 4 + 1) = 2147483647 from rfl, show sg_tab 3 (0 * 4 + 2) = 0 from rfl, show sg_tab 3 (0 * 4 + 3) = 0 from rfl, show sg_tab 4 (0 * 4 + 0) = 2 from rfl, show sg_tab 4 (0 * 4 + 1) = 0 from rfl, show sg_tab 4 (0 * 4 + 2) = 0 from rfl, show sg_tab 4 (0 * 4 + 3) = 0 from rfl]
  rw [num_r, num_a, num_0, num_0]
  rw [fit_2, fit_0, fit_0, fit_0]
  simp only [gap_s, gap_0]
  constructor
  · rintro ⟨hn, h0, h1, h2, h3⟩
    exact ⟨hn, h0.1, h1.1, h2.1, h3.1⟩
  · rintro ⟨hn, h0, h1, h2, h3⟩
    exact ⟨hn, ⟨h0, (fun z => by cases z.1)⟩, ⟨h1, (fun z => z.2 h1)⟩, ⟨h2, (fun z => z.2 h2)⟩, ⟨h3, (fun z => z.2 h3)⟩⟩
theorem good_1 {t : Nat → sp_T} {d : sp_T} : (sp_gn d 1 ∧ sp_gt t d 1) ↔ (((0 ≤ sp_nu d 0 ∧ sp_nu d 0 ≤ 5) ∧ True ∧ sp_nu d 2 = 0 ∧ sp_nu d 3 = 0) ∧ (fcb t (sp_pa d 0) = true ∧ sp_pa d 1 = none ∧ sp_pa d 2 = none ∧ sp_pa d 3 = none)) := by
  unfold sp_gn sp_gt
  rw [all4_iff, all4_iff]
  simp only [show sg_tab 2 (1 * 4 + 0) = 0 from rfl, show sg_tab 2 (1 * 4 + 1) = (-2147483648) from rfl, show sg_tab 2 (1 * 4 + 2) = 0 from rfl, show sg_tab 2 (1 * 4 + 3) = 0 from rfl, show sg_tab 3 (1 * 4 + 0) = 5 from rfl, show sg_tab 3 (1 * 4 + 1) = 2147483647 from rfl, show sg_tab 3 (1 * 4 + 2) = 0 from rfl, show sg_tab 3 (1 * 4 + 3) = 0 from rfl, show sg_tab 4 (1 * 4 + 0) = 2 from rfl, show sg_tab 4 (1 * 4 + 1) = 0 from rfl, show sg_tab 4 (1 * 4 + 2) = 0 from rfl, show sg_tab 4 (1 * 4 + 3) = 0 from rfl]
  rw [num_r, num_a, num_0, num_0]
  rw [fit_2, fit_0, fit_0, fit_0]
  simp only [gap_s, gap_0]
  constructor
  · rintro ⟨hn, h0, h1, h2, h3⟩
    exact ⟨hn, h0.1, h1.1, h2.1, h3.1⟩
  · rintro ⟨hn, h0, h1, h2, h3⟩
    exact ⟨hn, ⟨h0, (fun z => by cases z.1)⟩, ⟨h1, (fun z => z.2 h1)⟩, ⟨h2, (fun z => z.2 h2)⟩, ⟨h3, (fun z => z.2 h3)⟩⟩
theorem good_2 {t : Nat → sp_T} {d : sp_T} : (sp_gn d 2 ∧ sp_gt t d 2) ↔ (((0 ≤ sp_nu d 0 ∧ sp_nu d 0 ≤ 5) ∧ (0 ≤ sp_nu d 1 ∧ sp_nu d 1 ≤ 5) ∧ (0 ≤ sp_nu d 2 ∧ sp_nu d 2 ≤ 9999) ∧ (0 ≤ sp_nu d 3 ∧ sp_nu d 3 ≤ 9999)) ∧ (fcb t (sp_pa d 0) = true ∧ fcb t (sp_pa d 1) = true ∧ (sp_pa d 2 = none ∨ fcb t (sp_pa d 2) = true) ∧ (sp_pa d 3 = none ∨ fcb t (sp_pa d 3) = true)) ∧ (sp_pa d 2 = none → sp_pa d 3 = none)) := by
  unfold sp_gn sp_gt
  rw [all4_iff, all4_iff]
  simp only [show sg_tab 2 (2 * 4 + 0) = 0 from rfl, show sg_tab 2 (2 * 4 + 1) = 0 from rfl, show sg_tab 2 (2 * 4 + 2) = 0 from rfl, show sg_tab 2 (2 * 4 + 3) = 0 from rfl, show sg_tab 3 (2 * 4 + 0) = 5 from rfl, show sg_tab 3 (2 * 4 + 1) = 5 from rfl, show sg_tab 3 (2 * 4 + 2) = 9999 from rfl, show sg_tab 3 (2 * 4 + 3) = 9999 from rfl, show sg_tab 4 (2 * 4 + 0) = 2 from rfl, show sg_tab 4 (2 * 4 + 1) = 2 from rfl, show sg_tab 4 (2 * 4 + 2) = 3 from rfl, show sg_tab 4 (2 * 4 + 3) = 3 from rfl]
  rw [num_r, num_r, num_r, num_r]
  rw [fit_2, fit_2, fit_3, fit_3]
  simp only [gap_s, gap_0]
  constructor
  · rintro ⟨hn, h0, h1, h2, h3⟩
    exact ⟨hn, ⟨h0.1, h1.1, h2.1, h3.1⟩, fun z => Classical.byContradiction (fun q => h3.2 ⟨z, q⟩)⟩
  · rintro ⟨hn, ⟨h0, h1, h2, h3⟩, hg⟩
    exact ⟨hn, ⟨h0, fun z => by cases z.1⟩, ⟨h1, fun z => fcb_s h0 z.1⟩, ⟨h2, fun z => fcb_s h1 z.1⟩, ⟨h3, fun z => z.2 (hg z.1)⟩⟩
theorem good_3 {t : Nat → sp_T} {d : sp_T} : (sp_gn d 3 ∧ sp_gt t d 3) ↔ ((sp_nu d 0 = 0 ∧ sp_nu d 1 = 0 ∧ sp_nu d 2 = 0 ∧ sp_nu d 3 = 0) ∧ (¬ sp_pa d 0 = none ∧ sp_pa d 1 = none ∧ sp_pa d 2 = none ∧ sp_pa d 3 = none)) := by
  unfold sp_gn sp_gt
  rw [all4_iff, all4_iff]
  simp only [show sg_tab 2 (3 * 4 + 0) = 0 from rfl, show sg_tab 2 (3 * 4 + 1) = 0 from rfl, show sg_tab 2 (3 * 4 + 2) = 0 from rfl, show sg_tab 2 (3 * 4 + 3) = 0 from rfl, show sg_tab 3 (3 * 4 + 0) = 0 from rfl, show sg_tab 3 (3 * 4 + 1) = 0 from rfl, show sg_tab 3 (3 * 4 + 2) = 0 from rfl, show sg_tab 3 (3 * 4 + 3) = 0 from rfl, show sg_tab 4 (3 * 4 + 0) = 1 from rfl, show sg_tab 4 (3 * 4 + 1) = 0 from rfl, show sg_tab 4 (3 * 4 + 2) = 0 from rfl, show sg_tab 4 (3 * 4 + 3) = 0 from rfl]
  rw [num_0, num_0, num_0, num_0]
  rw [fit_1, fit_0, fit_0, fit_0]
  simp only [gap_s, gap_0]
  constructor
  · rintro ⟨hn, h0, h1, h2, h3⟩
    exact ⟨hn, h0.1, h1.1, h2.1, h3.1⟩
  · rintro ⟨hn, h0, h1, h2, h3⟩
    exact ⟨hn, ⟨h0, (fun z => by cases z.1)⟩, ⟨h1, (fun z => z.2 h1)⟩, ⟨h2, (fun z => z.2 h2)⟩, ⟨h3, (fun z => z.2 h3)⟩⟩
theorem good_4 {t : Nat → sp_T} {d : sp_T} : (sp_gn d 4 ∧ sp_gt t d 4) ↔ (((0 ≤ sp_nu d 0 ∧ sp_nu d 0 ≤ 3) ∧ ¬ sp_nu d 1 < 1 ∧ (0 ≤ sp_nu d 2 ∧ sp_nu d 2 ≤ 9999) ∧ sp_nu d 3 = 0) ∧ (¬ sp_pa d 0 = none ∧ fcb t (sp_pa d 1) = true ∧ sp_pa d 2 = none ∧ sp_pa d 3 = none)) := by
  unfold sp_gn sp_gt
  rw [all4_iff, all4_iff]
  simp only [show sg_tab 2 (4 * 4 + 0) = 0 from rfl, show sg_tab 2 (4 * 4 + 1) = 1 from rfl, show sg_tab 2 (4 * 4 + 2) = 0 from rfl, show sg_tab 2 (4 * 4 + 3) = 0 from rfl, show sg_tab 3 (4 * 4 + 0) = 3 from rfl, show sg_tab 3 (4 * 4 + 1) = 2147483647 from rfl, show sg_tab 3 (4 * 4 + 2) = 9999 from rfl, show sg_tab 3 (4 * 4 + 3) = 0 from rfl, show sg_tab 4 (4 * 4 + 0) = 1 from rfl, show sg_tab 4 (4 * 4 + 1) = 2 from rfl, show sg_tab 4 (4 * 4 + 2) = 0 from rfl, show sg_tab 4 (4 * 4 + 3) = 0 from rfl]
  rw [num_r, num_1, num_r, num_0]
  rw [fit_1, fit_2, fit_0, fit_0]
  simp only [gap_s, gap_0]
  constructor
  · rintro ⟨hn, h0, h1, h2, h3⟩
    exact ⟨hn, h0.1, h1.1, h2.1, h3.1⟩
  · rintro ⟨hn, h0, h1, h2, h3⟩
    exact ⟨hn, ⟨h0, (fun z => by cases z.1)⟩, ⟨h1, (fun z => h0 z.1)⟩, ⟨h2, (fun z => z.2 h2)⟩, ⟨h3, (fun z => z.2 h3)⟩⟩
theorem good_5 {t : Nat → sp_T} {d : sp_T} : (sp_gn d 5 ∧ sp_gt t d 5) ↔ (((0 ≤ sp_nu d 0 ∧ sp_nu d 0 ≤ 3) ∧ ¬ sp_nu d 1 < 1 ∧ (0 ≤ sp_nu d 2 ∧ sp_nu d 2 ≤ 63) ∧ sp_nu d 3 = 0) ∧ (sp_pa d 0 = none ∧ sp_pa d 1 = none ∧ sp_pa d 2 = none ∧ sp_pa d 3 = none)) := by
  unfold sp_gn sp_gt
  rw [all4_iff, all4_iff]
  simp only [show sg_tab 2 (5 * 4 + 0) = 0 from rfl, show sg_tab 2 (5 * 4 + 1) = 1 from rfl, show sg_tab 2 (5 * 4 + 2) = 0 from rfl, show sg_tab 2 (5 * 4 + 3) = 0 from rfl, show sg_tab 3 (5 * 4 + 0) = 3 from rfl, show sg_tab 3 (5 * 4 + 1) = 2147483647 from rfl, show sg_tab 3 (5 * 4 + 2) = 63 from rfl, show sg_tab 3 (5 * 4 + 3) = 0 from rfl, show sg_tab 4 (5 * 4 + 0) = 0 from rfl, show sg_tab 4 (5 * 4 + 1) = 0 from rfl, show sg_tab 4 (5 * 4 + 2) = 0 from rfl, show sg_tab 4 (5 * 4 + 3) = 0 from rfl]
  rw [num_r, num_1, num_r, num_0]
  rw [fit_0, fit_0, fit_0, fit_0]
  simp only [gap_s, gap_0]
  constructor
  · rintro ⟨hn, h0, h1, h2, h3⟩
    exact ⟨hn, h0.1, h1.1, h2.1, h3.1⟩
  · rintro ⟨hn, h0, h1, h2, h3⟩
    exact ⟨hn, ⟨h0, (fun z => by cases z.1)⟩, ⟨h1, (fun z => z.2 h1)⟩, ⟨h2, (fun z => z.2 h2)⟩, ⟨h3, (fun z => z.2 h3)⟩⟩
theorem good_6 {t : Nat → sp_T} {d : sp_T} : (sp_gn d 6 ∧ sp_gt t d 6) ↔ (((0 ≤ sp_nu d 0 ∧ sp_nu d 0 ≤ 3) ∧ (0 ≤ sp_nu d 1 ∧ sp_nu d 1 ≤ 5) ∧ ¬ sp_nu d 2 < 1 ∧ (0 ≤ sp_nu d 3 ∧ sp_nu d 3 ≤ 9999)) ∧ (sp_pa d 0 = none ∧ sp_pa d 1 = none ∧ sp_pa d 2 = none ∧ sp_pa d 3 = none)) := by
  unfold sp_gn sp_gt
  rw [all4_iff, all4_iff]
  simp only [show sg_tab 2 (6 * 4 + 0) = 0 from rfl, show sg_tab 2 (6 * 4 + 1) = 0 from rfl, show sg_tab 2 (6 * 4 + 2) = 1 from rfl, show sg_tab 2 (6 * 4 + 3) = 0 from rfl, show sg_tab 3 (6 * 4 + 0) = 3 from rfl, show sg_tab 3 (6 * 4 + 1) = 5 from rfl, show sg_tab 3 (6 * 4 + 2) = 2147483647 from rfl, show sg_tab 3 (6 * 4 + 3) = 9999 from rfl, show sg_tab 4 (6 * 4 + 0) = 0 from rfl, show sg_tab 4 (6 * 4 + 1) = 0 from rfl, show sg_tab 4 (6 * 4 + 2) = 0 from rfl, show sg_tab 4 (6 * 4 + 3) = 0 from rfl]
  rw [num_r, num_r, num_1, num_r]
  rw [fit_0, fit_0, fit_0, fit_0]
  simp only [gap_s, gap_0]
  constructor
  · rintro ⟨hn, h0, h1, h2, h3⟩
    exact ⟨hn, h0.1, h1.1, h2.1, h3.1⟩
  · rintro ⟨hn, h0, h1, h2, h3⟩
    exact ⟨hn, ⟨h0, (fun z => by cases z.1)⟩, ⟨h1, (fun z => z.2 h1)⟩, ⟨h2, (fun z => z.2 h2)⟩, ⟨h3, (fun z => z.2 h3)⟩⟩
theorem bare_iff {d : sp_T} {a b : Nat} : (∀ x, a ≤ x → x < b → e8 d x = 0) ↔ ∀ x, a ≤ x → x < b → e8 d x = 0 := Iff.rfl
theorem e8_none {d : sp_T} (h : sp_so d = 7) {k : Nat} (hb : ∀ j, sp_pa d k = some j → j < 1000) : e8 d (4 + k) = 0 ↔ sp_pa d k = none := by
  rw [e8_7p h]
  constructor
  · intro z
    exact px_inj hb (fun j e => by cases e) z
  · intro z
    rw [z]; rfl

