/-! DERIVING, as the class does it -/
abbrev sp_B (dv : Nat → Bool) : Nat → Prop := fun j => dv j = true
def fcI (n : Nat) (t : Nat → sp_T) (dv fc : Nat → Bool) : Prop := ∀ x, x < n → sp_so (t x) = 1 → (fc x = true ↔ sp_sh n t (sp_B dv) x)
def sc_V (G : sg_G) (b lo n : Nat) (t : Nat → sp_T) (rg : Nat → Option Nat) (ta na pa : Nat → Nat) (dv : Nat → Bool) (H : Heap) : Prop := ∃ fc, sc_X G b lo n t dv fc rg (sp_ct dv n) ta na pa H ∧ fcI n t dv fc
theorem sp_up_id {dv : Nat → Bool} {i : Nat} (h : dv i = true) : sp_up dv i = dv := by
  funext j
  by_cases e : j = i
  · rw [e, sp_up_self, h]
  · exact sp_up_ne dv e
def sp_uo (dv : Nat → Bool) (o : Option Nat) : Nat → Bool := match o with
  | none => dv
  | some i => sp_up dv i
def sp_us (dv : Nat → Bool) (p : Nat → Option Nat) : Nat → Nat → Bool
  | 0 => dv
  | k + 1 => sp_uo (sp_us dv p k) (p k)
def sp_pi (dv : Nat → Bool) (o : Option Nat) : Bool := match o with
  | none => true
  | some j => dv j
def sp_ta (t : Nat → sp_T) (dv : Nat → Bool) (i : Nat) : Nat → Bool :=
  if sp_so (t i) = 7 then sp_us dv (sp_pa (t i)) 4
  else if sp_so (t i) = 5 then (if sp_pi (sp_uo dv (sp_pa (t i) 1)) (sp_pa (t i) 0) = true then sp_uo (sp_uo dv (sp_pa (t i) 1)) (sp_pa (t i) 2) else sp_uo dv (sp_pa (t i) 1))
  else if sp_so (t i) = 6 then sp_uo dv (sp_pa (t i) 1) else dv
def sp_tA (t : Nat → sp_T) : Nat → (Nat → Bool) → Nat → Bool
  | 0, dv => dv
  | k + 1, dv => sp_tA t k (if dv k = true then sp_ta t dv k else dv)
noncomputable def mkB (n : Nat) (t : Nat → sp_T) (dv : Nat → Bool) (i : Nat) : Bool := @decide (sp_mk n t (sp_B dv) (t i)) (Classical.propDecidable _)
noncomputable def sp_pA (n : Nat) (t : Nat → sp_T) (dv : Nat → Bool) : Nat → Nat → Bool
  | 0 => dv
  | k + 1 => if sp_pA n t dv k k = false ∧ mkB n t (sp_pA n t dv k) k = true then sp_up (sp_pA n t dv k) k else sp_pA n t dv k
theorem mkB_t {n : Nat} {t : Nat → sp_T} {dv : Nat → Bool} {i : Nat} : mkB n t dv i = true ↔ sp_mk n t (sp_B dv) (t i) := by
  unfold mkB
  exact @decide_eq_true_iff _ (Classical.propDecidable _)
/-! what grows -/
theorem sp_uo_ext {dv : Nat → Bool} {o : Option Nat} {j : Nat} (h : dv j = true) : sp_uo dv o j = true := by
  cases o with
  | none => exact h
  | some i => exact sp_up_mono dv i j h
theorem sp_uo_in {dv : Nat → Bool} {o : Option Nat} : sp_in (sp_B (sp_uo dv o)) o := by
  intro j e
  subst e
  exact sp_up_self dv j
theorem sp_uo_of {dv : Nat → Bool} {o : Option Nat} {D : Nat → Prop} {n : Nat} (h : ∀ i, i < n → dv i = true → D i) (ho : sp_in D o) : ∀ i, i < n → sp_uo dv o i = true → D i := by
  intro i hi e
  cases o with
  | none => exact h i hi e
  | some x =>
    rcases sp_up_of e with rfl | e
    · exact ho i rfl
    · exact h i hi e
theorem sp_us_ext {dv : Nat → Bool} {p : Nat → Option Nat} (k : Nat) {j : Nat} (h : dv j = true) : sp_us dv p k j = true := by
  induction k with
  | zero => exact h
  | succ k ih => exact sp_uo_ext ih
theorem sp_us_in {dv : Nat → Bool} {p : Nat → Option Nat} (m : Nat) : ∀ k, k < m → sp_in (sp_B (sp_us dv p m)) (p k) := by
  induction m with
  | zero => intro k hk; omega
  | succ m ih =>
    intro k hk
    by_cases e : k = m
    · subst e; exact sp_uo_in
    · intro j ej
      exact sp_uo_ext (ih k (by omega) j ej)
theorem sp_us_of {dv : Nat → Bool} {p : Nat → Option Nat} {D : Nat → Prop} {n : Nat} (h : ∀ i, i < n → dv i = true → D i) (m : Nat) (ho : ∀ k, k < m → sp_in D (p k)) : ∀ i, i < n → sp_us dv p m i = true → D i := by
  induction m with
  | zero => exact h
  | succ m ih => exact sp_uo_of (ih (fun k hk => ho k (by omega))) (ho m (by omega))
theorem sp_pi_in {dv : Nat → Bool} {o : Option Nat} : sp_pi dv o = true ↔ sp_in (sp_B dv) o := by
  cases o with
  | none => exact ⟨fun _ j e => (by cases e), fun _ => rfl⟩
  | some x => exact ⟨fun h j e => by cases e; exact h, fun h => h x rfl⟩
theorem sp_ta_ext {t : Nat → sp_T} {dv : Nat → Bool} {i j : Nat} (h : dv j = true) : sp_ta t dv i j = true := by
  unfold sp_ta
  split
  · exact sp_us_ext 4 h
  · split
    · split
      · exact sp_uo_ext (sp_uo_ext h)
      · exact sp_uo_ext h
    · split
      · exact sp_uo_ext h
      · exact h
theorem sp_in_ofl {S D : Nat → Prop} {n : Nat} (h : ∀ i, i < n → S i → D i) {o : Option Nat} (ho : ∀ j, o = some j → j < n) (a : sp_in S o) : sp_in D o := fun j e => h j (ho j e) (a j e)
theorem sp_ta_of {t : Nat → sp_T} {dv : Nat → Bool} {D : Nat → Prop} {n i : Nat} (h : ∀ i, i < n → dv i = true → D i) (hb : sp_bd n (t i)) (ha : sp_an D (t i)) : ∀ j, j < n → sp_ta t dv i j = true → D j := by
  unfold sp_ta
  split
  · rename_i h7
    exact sp_us_of h 4 (ha.1 h7)
  · split
    · rename_i h5
      have h1 := sp_uo_of h (ha.2.1 h5).1
      split
      · rename_i hk
        exact sp_uo_of h1 ((ha.2.1 h5).2 (sp_in_ofl h1 (hb 0 (by omega)) (sp_pi_in.mp hk)))
      · exact h1
    · split
      · rename_i h6
        exact sp_uo_of h (ha.2.2 h6)
      · exact h
/-- taken apart, and nothing new: it was closed there -/
theorem sp_ta_an {t : Nat → sp_T} {dv : Nat → Bool} {n i : Nat} (hb : sp_bd n (t i)) (h : ∀ j, j < n → sp_ta t dv i j = true → dv j = true) : sp_an (sp_B dv) (t i) := by
  refine ⟨fun h7 k hk => ?_, fun h5 => ?_, fun h6 => ?_⟩
  · have e : sp_ta t dv i = sp_us dv (sp_pa (t i)) 4 := by unfold sp_ta; rw [if_pos h7]
    rw [e] at h
    exact sp_in_ofl (S := sp_B (sp_us dv (sp_pa (t i)) 4)) h (hb k hk) (sp_us_in 4 k hk)
  · have n7 : ¬ sp_so (t i) = 7 := by rw [h5]; decide
    have e : sp_ta t dv i = (if sp_pi (sp_uo dv (sp_pa (t i) 1)) (sp_pa (t i) 0) = true then sp_uo (sp_uo dv (sp_pa (t i) 1)) (sp_pa (t i) 2) else sp_uo dv (sp_pa (t i) 1)) := by unfold sp_ta; rw [if_neg n7, if_pos h5]
    rw [e] at h
    refine ⟨?_, fun hk => ?_⟩
    · intro j ej
      refine h j (hb 1 (by omega) j ej) ?_
      split
      · exact sp_uo_ext (sp_uo_in j ej)
      · exact sp_uo_in j ej
    · have hp : sp_pi (sp_uo dv (sp_pa (t i) 1)) (sp_pa (t i) 0) = true := sp_pi_in.mpr (fun j ej => sp_uo_ext (hk j ej))
      rw [if_pos hp] at h
      intro j ej
      exact h j (hb 2 (by omega) j ej) (sp_uo_in j ej)
  · have n7 : ¬ sp_so (t i) = 7 := by rw [h6]; decide
    have n5 : ¬ sp_so (t i) = 5 := by rw [h6]; decide
    have e : sp_ta t dv i = sp_uo dv (sp_pa (t i) 1) := by unfold sp_ta; rw [if_neg n7, if_neg n5, if_pos h6]
    rw [e] at h
    intro j ej
    exact h j (hb 1 (by omega) j ej) (sp_uo_in j ej)
theorem sp_an_to {n : Nat} {S S' : Nat → Prop} {d : sp_T} (hb : sp_bd n d) (h : ∀ i, i < n → (S i ↔ S' i)) (a : sp_an S d) : sp_an S' d :=
  ⟨fun h7 k hk => sp_in_ofl (fun i hi => (h i hi).mp) (hb k hk) (a.1 h7 k hk), fun h5 => ⟨sp_in_ofl (fun i hi => (h i hi).mp) (hb 1 (by omega)) (a.2.1 h5).1, fun hk => sp_in_ofl (fun i hi => (h i hi).mp) (hb 2 (by omega)) ((a.2.1 h5).2 (sp_in_ofl (fun i hi => (h i hi).mpr) (hb 0 (by omega)) hk))⟩, fun h6 => sp_in_ofl (fun i hi => (h i hi).mp) (hb 1 (by omega)) (a.2.2 h6)⟩
theorem sp_sh_to {n : Nat} {t : Nat → sp_T} {S S' : Nat → Prop} (h : ∀ i, i < n → S i → S' i) {x : Nat} (hx : x < n) (a : sp_sh n t S x) : sp_sh n t S' x := by
  rcases a with a | ⟨j, h1, h2, h3, h4⟩
  · exact Or.inl (h x hx a)
  · exact Or.inr ⟨j, h1, h2, h3, h j h1 h4⟩
theorem sp_mk_to {n : Nat} {t : Nat → sp_T} {S S' : Nat → Prop} {d : sp_T} (hb : sp_bd n d) (h : ∀ i, i < n → S i → S' i) (a : sp_mk n t S d) : sp_mk n t S' d := by
  rcases a with ⟨h1, x, y, h2, h3, h4⟩ | ⟨h1, h2, h3⟩
  · refine Or.inl ⟨h1, x, y, h2, h3, ?_⟩
    have hx := hb 0 (by omega) x h2
    have hy := hb 1 (by omega) y h3
    rcases h4 with ⟨u, v⟩ | ⟨u, v⟩
    · exact Or.inl ⟨h x hx u, sp_sh_to h hy v⟩
    · exact Or.inr ⟨h y hy u, sp_sh_to h hx v⟩
  · exact Or.inr ⟨h1, h2, fun k hk => sp_in_ofl h (hb k hk) (h3 k hk)⟩
theorem sp_tA_ext {t : Nat → sp_T} (k : Nat) : ∀ {dv : Nat → Bool} {j : Nat}, dv j = true → sp_tA t k dv j = true := by
  induction k with
  | zero => intro dv j h; exact h
  | succ k ih =>
    intro dv j h
    refine ih ?_
    split
    · exact sp_ta_ext h
    · exact h
theorem sp_tA_of {t : Nat → sp_T} {D : Nat → Prop} {n : Nat} (hb : ∀ i, i < n → sp_bd n (t i)) (ha : ∀ i, i < n → D i → sp_an D (t i)) (k : Nat) : k ≤ n → ∀ {dv : Nat → Bool}, (∀ i, i < n → dv i = true → D i) → ∀ j, j < n → sp_tA t k dv j = true → D j := by
  induction k with
  | zero => intro _ dv h; exact h
  | succ k ih =>
    intro hk dv h
    refine ih (by omega) (dv := if dv k = true then sp_ta t dv k else dv) ?_
    split
    · rename_i hdk
      exact sp_ta_of h (hb k (by omega)) (ha k (by omega) (h k (by omega) hdk))
    · exact h
theorem sp_tA_an {t : Nat → sp_T} {n : Nat} (hb : ∀ i, i < n → sp_bd n (t i)) (k : Nat) : k ≤ n → ∀ {dv : Nat → Bool}, (∀ j, j < n → sp_tA t k dv j = true → dv j = true) → ∀ i, i < k → dv i = true → sp_an (sp_B dv) (t i) := by
  induction k with
  | zero => intro _ dv _ i hi; omega
  | succ k ih =>
    intro hk dv h i hi hdi
    have e1 : ∀ j, j < n → ((if dv k = true then sp_ta t dv k else dv) j = true ↔ dv j = true) := by
      intro j hj
      refine ⟨fun a => h j hj (sp_tA_ext k a), fun a => ?_⟩
      split
      · exact sp_ta_ext a
      · exact a
    by_cases e : i = k
    · subst e
      rw [if_pos hdi] at e1
      exact sp_ta_an (hb i (by omega)) (fun j hj a => (e1 j hj).mp a)
    · have := ih (by omega) (dv := if dv k = true then sp_ta t dv k else dv) (fun j hj a => (e1 j hj).mpr (h j hj a)) i (by omega) ((e1 i (by omega)).mpr hdi)
      exact sp_an_to (hb i (by omega)) e1 this
theorem sp_pA_ext {n : Nat} {t : Nat → sp_T} {dv : Nat → Bool} (k : Nat) {j : Nat} (h : dv j = true) : sp_pA n t dv k j = true := by
  induction k with
  | zero => exact h
  | succ k ih =>
    show (if _ then _ else _ : Nat → Bool) j = true
    split
    · exact sp_up_mono _ _ _ ih
    · exact ih
theorem sp_pA_of {n : Nat} {t : Nat → sp_T} {D : Nat → Prop} (hb : ∀ i, i < n → sp_bd n (t i)) (hm : ∀ i, i < n → sp_mk n t D (t i) → D i) {dv : Nat → Bool} (h : ∀ i, i < n → dv i = true → D i) (k : Nat) : k ≤ n → ∀ j, j < n → sp_pA n t dv k j = true → D j := by
  induction k with
  | zero => intro _; exact h
  | succ k ih =>
    intro hk
    have ih := ih (by omega)
    intro j hj e
    rw [show sp_pA n t dv (k + 1) = (if sp_pA n t dv k k = false ∧ mkB n t (sp_pA n t dv k) k = true then sp_up (sp_pA n t dv k) k else sp_pA n t dv k) from rfl] at e
    split at e
    · rename_i hc
      rcases sp_up_of e with rfl | e
      · exact hm j hj (sp_mk_to (hb j hj) ih (mkB_t.mp hc.2))
      · exact ih j hj e
    · exact ih j hj e
theorem sp_pA_step {n : Nat} {t : Nat → sp_T} {dv : Nat → Bool} (k m : Nat) {j : Nat} (h : sp_pA n t dv k j = true) : sp_pA n t dv (k + m) j = true := by
  induction m with
  | zero => exact h
  | succ m ih =>
    show (if _ then _ else _ : Nat → Bool) j = true
    split
    · exact sp_up_mono _ _ _ ih
    · exact ih
theorem sp_pA_cl {n : Nat} {t : Nat → sp_T} (hb : ∀ i, i < n → sp_bd n (t i)) {dv : Nat → Bool} (h : ∀ j, j < n → sp_pA n t dv n j = true → dv j = true) : ∀ i, i < n → sp_mk n t (sp_B dv) (t i) → dv i = true := by
  intro i hi hm
  have e : ∀ k, k ≤ n → ∀ j, j < n → (sp_pA n t dv k j = true ↔ dv j = true) := fun k hk j hj => ⟨fun a => h j hj (by have := sp_pA_step k (n - k) a; rw [show k + (n - k) = n by omega] at this; exact this), sp_pA_ext k⟩
  cases hd : dv i with
  | true => rfl
  | false =>
    have h1 : sp_pA n t dv i i = false := by
      cases hc : sp_pA n t dv i i with
      | false => rfl
      | true => rw [(e i (by omega) i hi).mp hc] at hd; cases hd
    have h2 : mkB n t (sp_pA n t dv i) i = true := mkB_t.mpr (sp_mk_to (hb i hi) (fun j hj a => (e i (by omega) j hj).mpr a) hm)
    have h3 : sp_pA n t dv (i + 1) i = true := by
      show (if _ then _ else _ : Nat → Bool) i = true
      rw [if_pos ⟨h1, h2⟩]
      exact sp_up_self _ _
    rw [(e (i + 1) (by omega) i hi).mp h3] at hd
    cases hd
/-- what spread has done -/
def sp_ok (n : Nat) (t : Nat → sp_T) (dv dv' : Nat → Bool) : Prop :=
  (∀ j, dv j = true → dv' j = true) ∧ ∀ D : Nat → Prop, (∀ i, i < n → D i → sp_an D (t i)) → (∀ i, i < n → sp_mk n t D (t i) → D i) → (∀ i, i < n → dv i = true → D i) → ∀ i, i < n → dv' i = true → D i
def sp_cd (n : Nat) (t : Nat → sp_T) (dv : Nat → Bool) : Prop := (∀ i, i < n → dv i = true → sp_an (sp_B dv) (t i)) ∧ ∀ i, i < n → sp_mk n t (sp_B dv) (t i) → dv i = true
theorem sp_ok_rf {n : Nat} {t : Nat → sp_T} {dv : Nat → Bool} : sp_ok n t dv dv := ⟨fun _ h => h, fun _ _ _ h => h⟩
theorem sp_ok_ps {n : Nat} {t : Nat → sp_T} {dv e : Nat → Bool} (hb : ∀ i, i < n → sp_bd n (t i)) (h : sp_ok n t dv e) : sp_ok n t dv (sp_pA n t (sp_tA t n e) n) :=
  ⟨fun j a => sp_pA_ext n (sp_tA_ext n (h.1 j a)), fun D ha hm hd => sp_pA_of hb hm (sp_tA_of hb ha n (Nat.le_refl n) (h.2 D ha hm hd)) n (Nat.le_refl n)⟩
theorem sp_cd_ps {n : Nat} {t : Nat → sp_T} {e : Nat → Bool} (hb : ∀ i, i < n → sp_bd n (t i)) (h : sp_ct (sp_pA n t (sp_tA t n e) n) n ≤ sp_ct e n) : sp_cd n t (sp_pA n t (sp_tA t n e) n) := by
  have h0 := sp_ct_same (n := n) (b := e) (b' := sp_pA n t (sp_tA t n e) n) (fun i _ a => sp_pA_ext n (sp_tA_ext n a)) h
  have h1 : ∀ j, j < n → sp_tA t n e j = true → e j = true := fun j hj a => h0 j hj (sp_pA_ext n a)
  have q : ∀ j, j < n → (sp_B e j ↔ sp_B (sp_pA n t (sp_tA t n e) n) j) := fun j hj => ⟨fun a => sp_pA_ext n (sp_tA_ext n a), h0 j hj⟩
  refine ⟨fun i hi a => sp_an_to (hb i hi) q (sp_tA_an hb n (Nat.le_refl n) h1 i hi ((q i hi).mpr a)), fun i hi a => ?_⟩
  refine sp_pA_ext n (sp_pA_cl hb (dv := sp_tA t n e) (fun j hj a => sp_tA_ext n (h0 j hj a)) i hi ?_)
  exact sp_mk_to (hb i hi) (fun j hj a => sp_tA_ext n (h0 j hj a)) a
/-! the face's mark -/
theorem fcI_2 {n : Nat} {t : Nat → sp_T} {dv fc : Nat → Bool} (h : fcI n t dv fc) {i x : Nat} (hi : i < n) (h2 : sp_so (t i) = 2) (hx : sp_pa (t i) 0 = some x) : fcI n t (sp_up dv i) (sp_up fc x) := by
  intro y hy h1
  constructor
  · intro a
    rcases sp_up_of a with rfl | a
    · exact Or.inr ⟨i, hi, h2, hx, sp_up_self dv i⟩
    · exact sp_sh_to (fun j _ q => sp_up_mono dv i j q) hy ((h y hy h1).mp a)
  · intro a
    rcases a with a | ⟨j, q1, q2, q3, q4⟩
    · rcases sp_up_of a with rfl | a
      · rw [h1] at h2; exact absurd h2 (by decide)
      · exact sp_up_mono _ _ _ ((h y hy h1).mpr (Or.inl a))
    · rcases sp_up_of q4 with rfl | q4
      · rw [q3] at hx; cases hx; exact sp_up_self _ _
      · exact sp_up_mono _ _ _ ((h y hy h1).mpr (Or.inr ⟨j, q1, q2, q3, q4⟩))
theorem fcI_1 {n : Nat} {t : Nat → sp_T} {dv fc : Nat → Bool} (h : fcI n t dv fc) {i : Nat} (hs : sp_so (t i) = 1) : fcI n t (sp_up dv i) (sp_up fc i) := by
  intro y hy h1
  constructor
  · intro a
    rcases sp_up_of a with rfl | a
    · exact Or.inl (sp_up_self dv y)
    · exact sp_sh_to (fun j _ q => sp_up_mono dv i j q) hy ((h y hy h1).mp a)
  · intro a
    rcases a with a | ⟨j, q1, q2, q3, q4⟩
    · rcases sp_up_of a with rfl | a
      · exact sp_up_self _ _
      · exact sp_up_mono _ _ _ ((h y hy h1).mpr (Or.inl a))
    · rcases sp_up_of q4 with rfl | q4
      · rw [hs] at q2; exact absurd q2 (by decide)
      · exact sp_up_mono _ _ _ ((h y hy h1).mpr (Or.inr ⟨j, q1, q2, q3, q4⟩))
theorem fcI_0 {n : Nat} {t : Nat → sp_T} {dv fc : Nat → Bool} (h : fcI n t dv fc) {i : Nat} (n1 : ¬ sp_so (t i) = 1) (n2 : ¬ sp_so (t i) = 2) : fcI n t (sp_up dv i) fc := by
  intro y hy h1
  constructor
  · intro a
    exact sp_sh_to (fun j _ q => sp_up_mono dv i j q) hy ((h y hy h1).mp a)
  · intro a
    rcases a with a | ⟨j, q1, q2, q3, q4⟩
    · rcases sp_up_of a with rfl | a
      · exact absurd h1 n1
      · exact (h y hy h1).mpr (Or.inl a)
    · rcases sp_up_of q4 with rfl | q4
      · exact absurd q2 n2
      · exact (h y hy h1).mpr (Or.inr ⟨j, q1, q2, q3, q4⟩)
/-- of a PUBLIC its SECRET -/
theorem sp_wf2 {t : Nat → sp_T} {n : Nat} {d : sp_T} (h : sp_wf t n d) (h2 : sp_so d = 2) : ∃ x, sp_pa d 0 = some x ∧ x < n ∧ sp_so (t x) = 1 := by
  obtain ⟨hb, h⟩ := h
  rcases h with h | ⟨-, -, -, ⟨x, h3, h4⟩, -⟩ | h | h | h | h | h
  · rw [h2] at h; exact absurd h.1 (by decide)
  · exact ⟨x, h3, hb 0 (by omega) x h3, h4⟩
  all_goals (rw [h2] at h; exact absurd h.1 (by decide))
theorem sp_wf3 {t : Nat → sp_T} {n : Nat} {d : sp_T} (h : sp_wf t n d) (h3 : sp_so d = 3) : ∃ x y, sp_pa d 0 = some x ∧ sp_pa d 1 = some y ∧ x < n ∧ y < n ∧ sp_so (t x) = 1 ∧ sp_so (t y) = 1 := by
  obtain ⟨hb, h⟩ := h
  rcases h with h | h | ⟨-, -, -, ⟨x, y, q1, q2, q3, q4⟩, -⟩ | h | h | h | h
  · rw [h3] at h; exact absurd h.1 (by decide)
  · rw [h3] at h; exact absurd h.1 (by decide)
  · exact ⟨x, y, q1, q2, hb 0 (by omega) x q1, hb 1 (by omega) y q2, q3, q4⟩
  all_goals (rw [h3] at h; exact absurd h.1 (by decide))
theorem sc_pin {G : sg_G} {b lo n dc : Nat} {t : Nat → sp_T} {dv fc : Nat → Bool} {rg : Nat → Option Nat} {ta na pa : Nat → Nat} {H : Heap} (h : sc_X G b lo n t dv fc rg dc ta na pa H) {o : Option Nat} (ho : ∀ j, o = some j → j < n) : pin G H (o.map ta) (sp_pi dv o) := by
  obtain ⟨-, -, -, -, -, -, -, -, -, hT, -⟩ := h
  cases o with
  | none => exact ⟨fun _ => rfl, (fun q e => by cases e)⟩
  | some j => exact ⟨(fun e => by cases e), fun q e => by cases e; exact ⟨_, _, _, _, _, _, (hT j (ho j rfl)).2.2.2.1⟩⟩
theorem sc_bd {G : sg_G} {b lo n dc : Nat} {t : Nat → sp_T} {dv fc : Nat → Bool} {rg : Nat → Option Nat} {ta na pa : Nat → Nat} {H : Heap} (h : sc_X G b lo n t dv fc rg dc ta na pa H) : ∀ i, i < n → sp_bd n (t i) := by
  obtain ⟨-, -, -, -, -, -, -, -, -, -, -, hwf⟩ := h
  intro i hi k hk j e
  exact Nat.lt_trans ((hwf i hi).1 k hk j e) hi
theorem bool_eq {a b : Bool} (h : a = true ↔ b = true) : a = b := by
  cases a <;> cases b <;> simp at h ⊢
/-- canBeMadeByAttacker, of a term that is made -/
theorem c_can (l : Launch) (G : sg_G) (H : Heap) (b lo n dc : Nat) (t : Nat → sp_T) (dv fc : Nat → Bool) (rg : Nat → Option Nat) (ta na pa : Nat → Nat) (hC : sc_X G b lo n t dv fc rg dc ta na pa H) (hfI : fcI n t dv fc) (i : Nat) (hi : i < n) :
    xC l G yX0_canBeMadeByAttacker cX0_canBeMadeByAttacker 2 (some FieldType.boolean) 2 0 0 [.ref (ta i)] H (xPu (.int (bI (mkB n t dv i))) H) := by
  obtain ⟨-, -, -, -, -, -, -, -, -, hT, -, hwf⟩ := id hC
  obtain ⟨o1, o2, o3, o4, o5, o6⟩ := hT i hi
  have hbd := sc_bd hC i hi
  refine c_X0_canBeMade l G H (ta i) (na i) (pa i) _ _ _ _ _ _ o4 o6 _ (fun h1 => ?_) (fun h3 => ?_) (fun n1 n3 => ?_)
  · refine bF mkB_t (fun z => ?_)
    rcases z with z | z
    · rw [h1] at z; exact absurd z.1 (by decide)
    · exact z.1 h1
  · obtain ⟨x, y, q1, q2, q3, q4, q5, q6⟩ := sp_wf3 (hwf i hi) h3
    have hx := hT x (by omega)
    have hy := hT y (by omega)
    refine ⟨ta x, ta y, _, _, _, _, _, _, _, _, _, _, _, _, _, _, by rw [q1]; rfl, by rw [q2]; rfl, hx.2.2.2.1, hy.2.2.2.1, bool_eq ?_⟩
    rw [mkB_t, Bool.or_eq_true, Bool.and_eq_true, Bool.and_eq_true, hfI y (by omega) q6, hfI x (by omega) q5]
    constructor
    · intro z
      rcases z with ⟨-, x', y', e1, e2, z⟩ | z
      · rw [q1] at e1; rw [q2] at e2; cases e1; cases e2; exact z
      · exact absurd h3 z.2.1
    · intro z
      exact Or.inl ⟨h3, x, y, q1, q2, z⟩
  · refine ⟨fun k => sp_pi dv (sp_pa (t i) k), fun k hk => sc_pin hC (hbd k hk), bool_eq ?_⟩
    rw [mkB_t, Bool.and_eq_true, Bool.and_eq_true, Bool.and_eq_true, sp_pi_in, sp_pi_in, sp_pi_in, sp_pi_in]
    constructor
    · intro z
      rcases z with z | z
      · exact absurd z.1 n3
      · exact ⟨⟨⟨z.2.2 0 (by omega), z.2.2 1 (by omega)⟩, z.2.2 2 (by omega)⟩, z.2.2 3 (by omega)⟩
    · intro z
      refine Or.inr ⟨n1, n3, fun k hk => ?_⟩
      rcases (show k = 0 ∨ k = 1 ∨ k = 2 ∨ k = 3 by omega) with rfl | rfl | rfl | rfl
      · exact z.1.1.1
      · exact z.1.1.2
      · exact z.1.2
      · exact z.2
