/-! MAKING -/
abbrev sp_S : Type := Nat × (Nat → sp_T) × (Nat → Option Nat) × (Nat → Prop)
def sp_lk (x d : sp_T) : Prop := ¬ sp_so x = 1 ∧ sp_so x = sp_so d ∧ sp_la x = sp_la d ∧ ∀ k, k < 4 → sp_pa x k = sp_pa d k ∧ sp_nu x k = sp_nu d k
noncomputable def sp_al (x d : sp_T) : Bool := @decide (sp_lk x d) (Classical.propDecidable _)
theorem sp_al_t {x d : sp_T} : sp_al x d = true ↔ sp_lk x d := by
  unfold sp_al
  exact @decide_eq_true_iff _ (Classical.propDecidable _)
def sp_fd (P : Nat → Bool) : Nat → Option Nat
  | 0 => none
  | k + 1 => match sp_fd P k with
    | some i => some i
    | none => if P k = true then some k else none
theorem sp_fd_s {P : Nat → Bool} {k : Nat} (h : sp_fd P k = none) (n : P k = false) : sp_fd P (k + 1) = none := by
  show (match sp_fd P k with | some i => some i | none => if P k = true then some k else none) = none
  rw [h, n]; rfl
theorem sp_fd_y {P : Nat → Bool} {k : Nat} (h : sp_fd P k = none) (n : P k = true) (m : Nat) : sp_fd P (k + 1 + m) = some k := by
  induction m with
  | zero =>
    show (match sp_fd P k with | some i => some i | none => if P k = true then some k else none) = some k
    rw [h, n]; rfl
  | succ m ih =>
    show (match sp_fd P (k + 1 + m) with | some i => some i | none => if P (k + 1 + m) = true then some (k + 1 + m) else none) = some k
    rw [ih]
theorem sp_fd_hit {P : Nat → Bool} {k n : Nat} (h : sp_fd P k = none) (y : P k = true) (hn : k < n) : sp_fd P n = some k := by
  have := sp_fd_y h y (n - (k + 1))
  rw [show k + 1 + (n - (k + 1)) = n by omega] at this
  exact this
theorem sp_fd_lt {P : Nat → Bool} {n i : Nat} (h : sp_fd P n = some i) : i < n ∧ P i = true := by
  induction n with
  | zero => cases h
  | succ k ih =>
    have h' : (match sp_fd P k with | some i => some i | none => if P k = true then some k else none) = some i := h
    cases hk : sp_fd P k with
    | some j =>
      rw [hk] at h'
      cases h'
      have := ih hk
      exact ⟨by omega, this.2⟩
    | none =>
      rw [hk] at h'
      by_cases e : P k = true
      · rw [if_pos e] at h'; cases h'; exact ⟨by omega, e⟩
      · rw [if_neg e] at h'; cases h'
theorem sp_fd_eq {P P' : Nat → Bool} {n : Nat} (h : ∀ i, i < n → P i = P' i) : sp_fd P n = sp_fd P' n := by
  induction n with
  | zero => rfl
  | succ k ih =>
    show (match sp_fd P k with | some i => some i | none => if P k = true then some k else none) = (match sp_fd P' k with | some i => some i | none => if P' k = true then some k else none)
    rw [ih (fun i hi => h i (by omega)), h k (by omega)]
noncomputable def sp_mkS (a : sp_S) (k : Nat) (d : sp_T) : sp_S := match sp_fd (fun i => sp_al (a.2.1 i) d) a.1 with
  | some i => (a.1, a.2.1, va_up a.2.2.1 k (some i), a.2.2.2)
  | none => (a.1 + 1, va_up a.2.1 a.1 d, va_up a.2.2.1 k (some a.1), a.2.2.2)
noncomputable def sp_mi (a : sp_S) (r : Int32) (d : sp_T) : Int32 × sp_S := if sp_ir r = true then (1, sp_mkS a r.toNatClampNeg d) else (-1, a)
noncomputable def sp_mo (a : sp_S) (r : Int32) (o : Option sp_T) : Int32 × sp_S := match o with
  | some d => sp_mi a r d
  | none => (-1, a)
def sp_pt (rg : Nat → Option Nat) (r : Int32) (i : Nat) : Nat → Option Nat := if sp_ir r = true then va_up rg r.toNatClampNeg (some i) else rg
def sp_r1 (r : Int32) : Int32 := if sp_ir r = true then 1 else -1
def sc_H (G : sg_G) (b lo n : Nat) (t : Nat → sp_T) (rg : Nat → Option Nat) (g : Nat → Prop) (H : Heap) : Prop := ∃ ta na pa dv, sc_V G b lo n t rg ta na pa dv H ∧ (∀ i, i < n → (dv i = true ↔ sp_der n t g i)) ∧ ∀ i, g i → i < n
def sc_HS (G : sg_G) (b lo : Nat) (a : sp_S) (H : Heap) : Prop := sc_H G b lo a.1 a.2.1 a.2.2.1 a.2.2.2 H
theorem fcI_grow {n : Nat} {t : Nat → sp_T} {dv fc : Nat → Bool} {d : sp_T} (h : fcI n t dv fc) (hb : ∀ i, i < n → sp_bd n (t i)) (hd : sp_bd n d) : fcI (n + 1) (va_up t n d) (va_up dv n false) (va_up fc n false) := by
  intro y hy h1
  by_cases e : y = n
  · subst e
    rw [va_up_self]
    refine ⟨(fun a => by cases a), fun a => ?_⟩
    rcases a with a | ⟨j, q1, q2, q3, q4⟩
    · rw [sp_B, va_up_self] at a; cases a
    · by_cases ej : j = y
      · subst ej
        rw [sp_B, va_up_self] at q4; cases q4
      · rw [va_up_ne _ _ ej] at q3
        have := hb j (by omega) 0 (by omega) y q3
        omega
  · have hy' : y < n := by omega
    rw [va_up_ne _ _ e] at h1 ⊢
    rw [h y hy' h1]
    constructor
    · intro a
      rcases a with a | ⟨j, q1, q2, q3, q4⟩
      · exact Or.inl (by rw [sp_B, va_up_ne _ _ e]; exact a)
      · exact Or.inr ⟨j, by omega, by rw [va_up_ne _ _ (by omega)]; exact q2, by rw [va_up_ne _ _ (by omega)]; exact q3, by rw [sp_B, va_up_ne _ _ (by omega)]; exact q4⟩
    · intro a
      rcases a with a | ⟨j, q1, q2, q3, q4⟩
      · exact Or.inl (by rw [sp_B, va_up_ne _ _ e] at a; exact a)
      · by_cases ej : j = n
        · subst ej
          rw [sp_B, va_up_self] at q4; cases q4
        · rw [va_up_ne _ _ ej] at q2 q3
          rw [sp_B, va_up_ne _ _ ej] at q4
          exact Or.inr ⟨j, by omega, q2, q3, q4⟩
theorem sp_ct_grow {dv : Nat → Bool} {n : Nat} : sp_ct (va_up dv n false) (n + 1) = sp_ct dv n := by
  show sp_ct (va_up dv n false) n + _ = _
  rw [va_up_self, if_neg (by decide), sp_ct_eq (b := va_up dv n false) (b' := dv) (fun i hi => va_up_ne _ _ (Nat.ne_of_lt hi))]
  rfl
theorem sp_up_grow {dv : Nat → Bool} {n : Nat} : sp_up (va_up dv n false) n = va_up dv n true := by
  funext j
  by_cases e : j = n
  · subst e; rw [sp_up_self, va_up_self]
  · rw [sp_up_ne _ e, va_up_ne _ _ e, va_up_ne _ _ e]
/-- a fresh plain term beside the world -/
theorem sc_plain {G : sg_G} {b lo n : Nat} {t : Nat → sp_T} {rg : Nat → Option Nat} {ta na pa : Nat → Nat} {dv : Nat → Bool} {H H1 : Heap} (hV : sc_V G b lo n t rg ta na pa dv H) (o1 o2 o3 : Option Nat) (so la : Int32) (ht : tob G H1 (H.size + 1) so la (b + 3) H.size 0 false false) (hr : ra_ G H1 H.size 4 (sp_p4 (o1.map ta) (o2.map ta) (o3.map ta))) (hz : H1.size = H.size + 2) (hq : ∀ q, q < H.size → H1[q]? = H[q]?) :
    sc_V G b lo n t rg ta na pa dv H1 ∧ sc_O G H1 b lo ta (so, la, (fun _ => 0), sp_p4 o1 o2 o3) (H.size + 1) (b + 3) H.size 0 false false ∧ (∀ i, i < n → ta i ≠ H.size + 1) ∧ sc_F b lo H H1 := by
  obtain ⟨fc, hC, hfI⟩ := hV
  obtain ⟨hw, hb0, hb4, hlo, hn5, hX, hRG, hMD, hZR, hT, hrg, hwf⟩ := id hC
  refine ⟨⟨fc, hC.kept (by omega) (fun q _ _ h => hq q h), hfI⟩, ⟨by omega, Or.inl rfl, hlo, ht, hZR.kept (hq _ (va_at.lt hZR)), ra_to hr (fun k _ => sp_p4_map ta o1 o2 o3 k)⟩, fun i hi => ?_, ⟨by omega, fun q _ h => hq q (by omega)⟩⟩
  have := va_at.lt (hT i hi).2.2.2.1
  have : ta i < H.size := this
  omega
/-- the terms of a register are objects -/
theorem sc_obo {G : sg_G} {b lo n dc : Nat} {t : Nat → sp_T} {dv fc : Nat → Bool} {rg : Nat → Option Nat} {ta na pa : Nat → Nat} {H : Heap} (h : sc_X G b lo n t dv fc rg dc ta na pa H) {o : Option Nat} (ho : ∀ j, o = some j → j < n) : ∀ v, o.map ta = some v → ∃ fs, ob_ G H v 0 fs := by
  obtain ⟨-, -, -, -, -, -, -, -, -, hT, -⟩ := h
  intro v e
  cases o with
  | none => cases e
  | some j => cases e; exact ⟨_, (hT j (ho j rfl)).2.2.2.1⟩
/-- what is derived, with one more term -/
theorem sp_der_grow {n : Nat} {t : Nat → sp_T} {g : Nat → Prop} {dv : Nat → Bool} {d : sp_T} (hb : ∀ i, i < n → sp_bd n (t i)) (hd : sp_bd n d) (hg : ∀ i, g i → i < n) (hD : ∀ i, i < n → (dv i = true ↔ sp_der n t g i)) :
    ∀ i, i < n + 1 → (va_up dv n (mkB (n + 1) (va_up t n d) (va_up dv n false) n) i = true ↔ sp_der (n + 1) (va_up t n d) g i) := by
  have key := sp_der_new (t' := va_up t n d) hb hd (fun i hi => va_up_ne _ _ (Nat.ne_of_lt hi)) (va_up_self _ _ _) (fun h => Nat.lt_irrefl n (hg n h))
  intro i hi
  by_cases e : i = n
  · subst e
    rw [va_up_self, key.2, mkB_t, va_up_self]
    constructor
    · intro a
      rcases a with ⟨h1, x, y, h2, h3, h4⟩ | ⟨h1, h2, h3⟩
      · refine Or.inl ⟨h1, x, y, h2, h3, ?_⟩
        have hx := hd 0 (by omega) x h2
        have hy := hd 1 (by omega) y h3
        have low : ∀ z, z < i → sp_B (va_up dv i false) z → sp_der i t g z := fun z hz a => (hD z hz).mp (by rw [sp_B, va_up_ne _ _ (by omega)] at a; exact a)
        have sh : ∀ z, z < i → sp_sh (i + 1) (va_up t i d) (sp_B (va_up dv i false)) z → sp_sh i t (sp_der i t g) z := by
          intro z hz a
          rcases a with a | ⟨j, q1, q2, q3, q4⟩
          · exact Or.inl (low z hz a)
          · by_cases ej : j = i
            · subst ej; rw [sp_B, va_up_self] at q4; cases q4
            · rw [va_up_ne _ _ ej] at q2 q3
              exact Or.inr ⟨j, by omega, q2, q3, low j (by omega) q4⟩
        rcases h4 with ⟨u, v⟩ | ⟨u, v⟩
        · exact Or.inl ⟨low x hx u, sh y hy v⟩
        · exact Or.inr ⟨low y hy u, sh x hx v⟩
      · exact Or.inr ⟨h1, h2, fun k hk j ej => (hD j (hd k hk j ej)).mp (by have := h3 k hk j ej; rw [sp_B, va_up_ne _ _ (Nat.ne_of_lt (hd k hk j ej))] at this; exact this)⟩
    · intro a
      have upl : ∀ z, z < i → sp_der i t g z → sp_B (va_up dv i false) z := fun z hz a => by rw [sp_B, va_up_ne _ _ (by omega)]; exact (hD z hz).mpr a
      rcases a with ⟨h1, x, y, h2, h3, h4⟩ | ⟨h1, h2, h3⟩
      · refine Or.inl ⟨h1, x, y, h2, h3, ?_⟩
        have hx := hd 0 (by omega) x h2
        have hy := hd 1 (by omega) y h3
        have sh : ∀ z, z < i → sp_sh i t (sp_der i t g) z → sp_sh (i + 1) (va_up t i d) (sp_B (va_up dv i false)) z := by
          intro z hz a
          rcases a with a | ⟨j, q1, q2, q3, q4⟩
          · exact Or.inl (upl z hz a)
          · exact Or.inr ⟨j, by omega, by rw [va_up_ne _ _ (by omega)]; exact q2, by rw [va_up_ne _ _ (by omega)]; exact q3, upl j q1 q4⟩
        rcases h4 with ⟨u, v⟩ | ⟨u, v⟩
        · exact Or.inl ⟨upl x hx u, sh y hy v⟩
        · exact Or.inr ⟨upl y hy u, sh x hx v⟩
      · exact Or.inr ⟨h1, h2, fun k hk j ej => upl j (hd k hk j ej) (h3 k hk j ej)⟩
  · rw [va_up_ne _ _ e, key.1 i (by omega)]
    exact hD i (by omega)
theorem sp_mi_no {a : sp_S} {r : Int32} {d : sp_T} (h : sp_ir r = false) : sp_mi a r d = (-1, a) := by unfold sp_mi; rw [if_neg (by rw [h]; decide)]
theorem sp_mi_old {n : Nat} {t : Nat → sp_T} {rg : Nat → Option Nat} {g : Nat → Prop} {r : Int32} {d : sp_T} {i : Nat} (h : sp_ir r = true) (hf : sp_fd (fun i => sp_al (t i) d) n = some i) : sp_mi (n, t, rg, g) r d = (1, (n, t, va_up rg r.toNatClampNeg (some i), g)) := by
  unfold sp_mi sp_mkS
  rw [if_pos h]
  dsimp only
  rw [hf]
theorem sp_mi_new {n : Nat} {t : Nat → sp_T} {rg : Nat → Option Nat} {g : Nat → Prop} {r : Int32} {d : sp_T} (h : sp_ir r = true) (hf : sp_fd (fun i => sp_al (t i) d) n = none) : sp_mi (n, t, rg, g) r d = (1, (n + 1, va_up t n d, va_up rg r.toNatClampNeg (some n), g)) := by
  unfold sp_mi sp_mkS
  rw [if_pos h]
  dsimp only
  rw [hf]
