/-! a GOOD row -/
noncomputable def cB (P : Prop) : Bool := @decide P (Classical.propDecidable P)
theorem cB_t {P : Prop} : cB P = true ↔ P := by
  unfold cB
  exact @decide_eq_true_iff _ (Classical.propDecidable _)
def sp_fit (t : Nat → sp_T) (o : Option Nat) (wv : Int32) : Bool := match o with
  | none => decide (wv = 0) || decide (wv = 3)
  | some j => decide (wv = 1) || (!decide (wv = 0) && decide (sp_so (t j) = 2))
def sp_gn (d : sp_T) (kk : Nat) : Prop := ∀ k, k < 4 → ¬ sp_nu d k < sg_tab 2 (kk * 4 + k) ∧ sp_nu d k ≤ sg_tab 3 (kk * 4 + k)
def sp_gap (d : sp_T) : Nat → Bool
  | 0 => false
  | q + 1 => (sp_pa d q).isNone
def sp_gt (t : Nat → sp_T) (d : sp_T) (kk : Nat) : Prop := ∀ k, k < 4 → sp_fit t (sp_pa d k) (sg_tab 4 (kk * 4 + k)) = true ∧ ¬ (sp_gap d k = true ∧ ¬ sp_pa d k = none)
noncomputable def op_good (a : sp_S) (x : Int32) : Int32 := match sp_rs a.2.1 a.2.2.1 x 7 with
  | some i => bI (cB (sp_gn (a.2.1 i) ((sp_la (a.2.1 i)).toNatClampNeg - 1) ∧ sp_gt a.2.1 (a.2.1 i) ((sp_la (a.2.1 i)).toNatClampNeg - 1)))
  | none => -1
theorem sp_lt28 {kk k : Nat} (h : kk < 7) (h4 : k < 4) : kk * 4 + k < 28 := by omega
