/-! the reference's rows -/
theorem e8_row0 {k : Int32} : ∀ q, q < 8 → e8 (7, k, z4, sp_p4 none none none) q = 0 := by
  intro q hq
  rcases (show q = 0 ∨ q = 1 ∨ q = 2 ∨ q = 3 ∨ q = 4 ∨ q = 5 ∨ q = 6 ∨ q = 7 by omega) with rfl | rfl | rfl | rfl | rfl | rfl | rfl | rfl <;> rfl
theorem e8_def {la : Int32} {nu : Nat → Int32} {p : Nat → Option Nat} (q : Nat) : e8 (7, la, nu, p) q = if q < 4 then nu q else px (p (q - 4)) := by
  unfold e8
  rw [if_pos (show sp_so ((7, la, nu, p) : sp_T) = 7 from rfl)]
  rfl
theorem e8_is {d : sp_T} (h : sp_so d = 7) (q : Nat) : e8 d q = if q < 4 then sp_nu d q else px (sp_pa d (q - 4)) := by
  unfold e8
  rw [if_pos h]
theorem e8_alter {d : sp_T} {la v : Int32} {l1 : Nat → Int32} {j : Nat} (h : sp_so d = 7) (hl : ∀ q, q < 8 → l1 q = e8 d q) (hj : j < 4) : ∀ q, q < 8 → upd l1 j v q = e8 (7, la, upd (sp_nu d) j v, sp_pa d) q := by
  intro q hq
  rw [e8_def]
  by_cases e : q = j
  · subst e
    rw [pk_us, if_pos hj, pk_us]
  · rw [pk_un e, hl q hq, e8_is h]
    by_cases h4 : q < 4
    · rw [if_pos h4, if_pos h4, pk_un e]
    · rw [if_neg h4, if_neg h4]
theorem e8_kind {d : sp_T} {la : Int32} {l1 : Nat → Int32} (h : sp_so d = 7) (hl : ∀ q, q < 8 → l1 q = e8 d q) : ∀ q, q < 8 → l1 q = e8 (7, la, sp_nu d, sp_pa d) q := by
  intro q hq
  rw [e8_def, hl q hq, e8_is h]
theorem e8_swap {d : sp_T} {la : Int32} {l1 : Nat → Int32} {j : Nat} {o : Option Nat} (h : sp_so d = 7) (hl : ∀ q, q < 8 → l1 q = e8 d q) (hj : j < 4) : ∀ q, q < 8 → upd l1 (4 + j) (px o) q = e8 (7, la, sp_nu d, va_up (sp_pa d) j o) q := by
  intro q hq
  rw [e8_def]
  by_cases e : q = 4 + j
  · subst e
    rw [pk_us, if_neg (by omega), Nat.add_sub_cancel_left, va_up_self]
  · rw [pk_un e, hl q hq, e8_is h]
    by_cases h4 : q < 4
    · rw [if_pos h4, if_pos h4]
    · rw [if_neg h4, if_neg h4, va_up_ne _ _ (by omega)]
theorem sl_tab : ∀ j, j < 4 → sg_tab 0 j = 7 ∧ sp_sl j = j := by decide +kernel
theorem ik_no1 {v : Int32} (h : v < 1) : sp_ik v = false := decide_eq_false (fun z => absurd h (Int32.not_lt.mpr z.1))
theorem ik_no7 {v : Int32} (h : ¬ v ≤ 7) : sp_ik v = false := decide_eq_false (fun z => h z.2)
theorem ik_yes {v : Int32} (h1 : ¬ v < 1) (h7 : v ≤ 7) : sp_ik v = true := decide_eq_true ⟨Int32.not_lt.mp h1, h7⟩
theorem is_neg {k : Int32} (h : k < 0) : sp_is k = false := decide_eq_false (fun z => z.1 h)
theorem is_big {k : Int32} (h : 3 < k) : sp_is k = false := by
  refine decide_eq_false (fun z => ?_)
  have h1 := Int32.lt_iff_toInt_lt.mp h
  have h2 := Int32.lt_iff_toInt_lt.mp z.2
  have e3 : (3 : Int32).toInt = 3 := rfl
  have e4 : (4 : Int32).toInt = 4 := rfl
  omega
theorem is_big4 {k : Int32} (h : 4 < k) : sp_is k = false := is_big (Int32.lt_trans (by decide) h)
theorem k_not4 {k : Int32} (h : 4 < k) : ¬ k = 4 := fun e => by rw [e] at h; exact absurd h (by decide)
theorem k_not4n {k : Int32} (h : k < 0) : ¬ k = 4 := fun e => by rw [e] at h; exact absurd h (by decide)
theorem k_slot {k : Int32} (h0 : ¬ k < 0) (h4 : ¬ 4 < k) (n4 : ¬ k = 4) : ∃ j, j < 4 ∧ k = nI j := by
  rcases pk_ix k (n := 4) (by decide) with a | a | a
  · exact absurd a h0
  · exact absurd (Int32.le_antisymm (Int32.not_lt.mp h4) a) n4
  · exact a
theorem k_slot3 {k : Int32} (h0 : ¬ k < 0) (h4 : ¬ 3 < k) : ∃ j, j < 4 ∧ k = nI j := by
  rcases pk_ix k (n := 4) (by decide) with a | a | a
  · exact absurd a h0
  · exact absurd (Int32.lt_of_lt_of_le (show (3 : Int32) < nI 4 by decide) a) h4
  · exact a
theorem w_slot {w : Int32} (h0 : ¬ w < 0) (h9 : w ≤ 9) : ∃ j, j < 10 ∧ w = nI j := by
  rcases pk_ix w (n := 10) (by decide) with a | a | a
  · exact absurd a h0
  · exact absurd (Int32.lt_of_lt_of_le (show (9 : Int32) < nI 10 by decide) a) (Int32.not_lt.mpr h9)
  · exact a
theorem po_out1 {d : sp_T} {w : Int32} (h : w < 0) : sp_po d w = none := if_neg (fun z => z.1 h)
theorem po_out2 {d : sp_T} {w : Int32} (h : ¬ w ≤ 9) : sp_po d w = none := by
  refine if_neg (fun z => z.2 ?_)
  have h1 := Int32.lt_iff_toInt_lt.mp (Int32.not_le.mp h)
  exact Int32.le_iff_toInt_le.mpr (by have e9 : (9 : Int32).toInt = 9 := rfl; have e10 : (10 : Int32).toInt = 10 := rfl; omega)
theorem po_n {d : sp_T} {j : Nat} (h : j < 10) (n : ¬ sp_so d = sg_tab 0 j) : (0 : Int32) = px (sp_po d (nI j)) := by rw [sp_po_nI h, if_neg n]; rfl
theorem po_y {d : sp_T} {j : Nat} (h : j < 10) (y : sp_so d = sg_tab 0 j) : sp_po d (nI j) = sp_pa d (sp_sl j) := by rw [sp_po_nI h, if_pos y]
theorem po_lt {t : Nat → sp_T} {i k : Nat} {w : Int32} (hb : sp_bd i (t i)) (h : sp_po (t i) w = some k) : k < i := by
  unfold sp_po at h
  split at h
  · split at h
    · rename_i hw _
      have hj : w.toNatClampNeg < 10 := by
        rcases pk_ix w (n := 10) (by decide) with a | a | ⟨j, hj, e⟩
        · exact absurd a hw.1
        · exact absurd a hw.2
        · rw [e, nI_clamp (by omega)]; exact hj
      exact hb _ (sp_sl_ok _ hj).2 k h
    · cases h
  · cases h
