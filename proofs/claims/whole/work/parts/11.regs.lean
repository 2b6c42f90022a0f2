/-! registers, slots, kinds -/
def sp_ir (x : Int32) : Bool := decide (¬ x < 0 ∧ x < 64)
def sp_is (x : Int32) : Bool := decide (¬ x < 0 ∧ x < 4)
def sp_ik (x : Int32) : Bool := decide (1 ≤ x ∧ x ≤ 7)
theorem sp_ir_of {x : Int32} (h : sp_ir x = true) : ∃ j, j < 64 ∧ x = nI j := by
  have h' := of_decide_eq_true h
  rcases pk_ix x (n := 64) (by decide) with a | a | a
  · exact absurd a h'.1
  · exact absurd h'.2 (Int32.not_lt.mpr a)
  · exact a
theorem sp_is_of {x : Int32} (h : sp_is x = true) : ∃ j, j < 4 ∧ x = nI j := by
  have h' := of_decide_eq_true h
  rcases pk_ix x (n := 4) (by decide) with a | a | a
  · exact absurd a h'.1
  · exact absurd h'.2 (Int32.not_lt.mpr a)
  · exact a
theorem sp_ir_nI {j : Nat} (h : j < 64) : sp_ir (nI j) = true := decide_eq_true ⟨nI_pos (by omega), (nI_ltI (a := j) (b := 64) (by omega) (by omega)).mpr h⟩
theorem sp_is_nI {j : Nat} (h : j < 4) : sp_is (nI j) = true := decide_eq_true ⟨nI_pos (by omega), (nI_ltI (a := j) (b := 4) (by omega) (by omega)).mpr h⟩
theorem sp_ik_of {x : Int32} (h : sp_ik x = true) : ∃ k, k < 7 ∧ x = nI (k + 1) := by
  have h' := of_decide_eq_true h
  rcases pk_ix x (n := 8) (by decide) with a | a | ⟨j, hj, e⟩
  · exact absurd (Int32.lt_of_lt_of_le a (show (0 : Int32) ≤ 1 by decide)) (Int32.not_lt.mpr h'.1)
  · exact absurd (Int32.lt_of_lt_of_le (show (7 : Int32) < nI 8 by decide) a) (Int32.not_lt.mpr h'.2)
  · have h1 : 1 ≤ j := (nI_leI (a := 1) (b := j) (by omega) (by omega)).mp (by rw [← e]; exact h'.1)
    exact ⟨j - 1, by omega, by rw [e]; congr 1; omega⟩
def sp_rg (rg : Nat → Option Nat) (x : Int32) : Option Nat := if sp_ir x = true then rg x.toNatClampNeg else none
theorem sp_rg_nI {rg : Nat → Option Nat} {j : Nat} (h : j < 64) : sp_rg rg (nI j) = rg j := by
  unfold sp_rg
  rw [if_pos (sp_ir_nI h), nI_clamp (by omega)]
theorem sp_rg_no {rg : Nat → Option Nat} {x : Int32} (h : sp_ir x = false) : sp_rg rg x = none := by
  unfold sp_rg
  rw [h, if_neg (by decide)]
theorem sp_rg_lt {rg : Nat → Option Nat} {n i : Nat} {x : Int32} (hr : ∀ k, k < 64 → ∀ i, rg k = some i → i < n) (h : sp_rg rg x = some i) : i < n := by
  cases hx : sp_ir x with
  | false => rw [sp_rg_no hx] at h; cases h
  | true =>
    obtain ⟨j, hj, rfl⟩ := sp_ir_of hx
    rw [sp_rg_nI hj] at h
    exact hr j hj i h
def sp_rs (t : Nat → sp_T) (rg : Nat → Option Nat) (x v : Int32) : Option Nat := match sp_rg rg x with
  | some i => if sp_so (t i) = v then some i else none
  | none => none
theorem sp_rs_n {t : Nat → sp_T} {rg : Nat → Option Nat} {x v : Int32} (h : sp_rg rg x = none) : sp_rs t rg x v = none := by unfold sp_rs; rw [h]
theorem sp_rs_s {t : Nat → sp_T} {rg : Nat → Option Nat} {x v : Int32} {i : Nat} (h : sp_rg rg x = some i) (e : sp_so (t i) = v) : sp_rs t rg x v = some i := by unfold sp_rs; rw [h]; exact if_pos e
theorem sp_rs_x {t : Nat → sp_T} {rg : Nat → Option Nat} {x v : Int32} {i : Nat} (h : sp_rg rg x = some i) (e : ¬ sp_so (t i) = v) : sp_rs t rg x v = none := by unfold sp_rs; rw [h]; exact if_neg e
theorem sp_rs_of {t : Nat → sp_T} {rg : Nat → Option Nat} {x v : Int32} {i : Nat} (h : sp_rs t rg x v = some i) : sp_rg rg x = some i ∧ sp_so (t i) = v := by
  unfold sp_rs at h
  split at h
  · rename_i j hj
    split at h
    · rename_i e
      cases h
      exact ⟨hj, e⟩
    · cases h
  · cases h
def sp_tn (rg : Nat → Option Nat) (y : Int32) : Bool := decide (y = -1) || (sp_rg rg y).isSome
/-- four terms -/
def sp_p4 (o1 o2 o3 : Option Nat) : Nat → Option Nat := va_up (va_up (va_up (va_up (fun _ => none) 0 o1) 1 o2) 2 o3) 3 none
theorem sp_p4_map (f : Nat → Nat) (o1 o2 o3 : Option Nat) (k : Nat) : sp_p4 (o1.map f) (o2.map f) (o3.map f) k = (sp_p4 o1 o2 o3 k).map f := by
  unfold sp_p4 va_up
  repeat' split
  all_goals rfl
