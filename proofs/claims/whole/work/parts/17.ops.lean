/-! WHAT A CALL DOES, for the class and for the reference alike: its answer, and the terms, registers and what is given behind it -/
abbrev z4 : Nat → Int32 := fun _ => 0
noncomputable def op_secret (a : sp_S) (r : Int32) : Int32 × sp_S := sp_mi a r (1, 0, z4, sp_p4 none none none)
noncomputable def op_face (a : sp_S) (r x : Int32) : Int32 × sp_S := match sp_rs a.2.1 a.2.2.1 x 1 with
  | some i => sp_mi a r (2, 0, z4, sp_p4 (some i) none none)
  | none => (-1, a)
def sp_sd (x y : Nat) : sp_T := (3, 0, z4, sp_p4 (some (if x ≤ y then x else y)) (some (if x ≤ y then y else x)) none)
noncomputable def op_shared (a : sp_S) (r x y : Int32) : Int32 × sp_S := match sp_rs a.2.1 a.2.2.1 x 1 with
  | some i => (match sp_rs a.2.1 a.2.2.1 y 1 with
    | some j => sp_mi a r (sp_sd i j)
    | none => (-1, a))
  | none => (-1, a)
noncomputable def op_agreed (a : sp_S) (r x y : Int32) : Int32 × sp_S := match sp_rs a.2.1 a.2.2.1 x 1 with
  | some i => (match sp_rs a.2.1 a.2.2.1 y 2 with
    | some j => (match sp_pa (a.2.1 j) 0 with
      | some k => sp_mi a r (sp_sd i k)
      | none => (-1, a))
    | none => (-1, a))
  | none => (-1, a)
noncomputable def op_mix (a : sp_S) (r n x y : Int32) : Int32 × sp_S := if ¬ n < 0 ∧ ¬ 9 < n then (match sp_rg a.2.2.1 x with
  | some i => if sp_tn a.2.2.1 y = true then sp_mi a r (4, n, z4, sp_p4 (some i) (sp_rg a.2.2.1 y) none) else (-1, a)
  | none => (-1, a)) else (-1, a)
noncomputable def op_sealed (a : sp_S) (r k h b : Int32) : Int32 × sp_S := match sp_rg a.2.2.1 k with
  | some i => (match sp_rg a.2.2.1 h with
    | some j => (match sp_rg a.2.2.1 b with
      | some q => sp_mi a r (5, 0, z4, sp_p4 (some i) (some j) (some q))
      | none => (-1, a))
    | none => (-1, a))
  | none => (-1, a)
noncomputable def op_signed (a : sp_S) (r x y : Int32) : Int32 × sp_S := match sp_rs a.2.1 a.2.2.1 x 1 with
  | some i => (match sp_rg a.2.2.1 y with
    | some j => sp_mi a r (6, 0, z4, sp_p4 (some i) (some j) none)
    | none => (-1, a))
  | none => (-1, a)
noncomputable def op_row (a : sp_S) (r k : Int32) : Int32 × sp_S := if sp_ik k = true then sp_mi a r (7, k, z4, sp_p4 none none none) else (-1, a)
noncomputable def op_alter (a : sp_S) (r x k v : Int32) : Int32 × sp_S := match sp_rs a.2.1 a.2.2.1 x 7 with
  | some i => if sp_is k = true then sp_mi a r (7, sp_la (a.2.1 i), upd (sp_nu (a.2.1 i)) k.toNatClampNeg v, sp_pa (a.2.1 i)) else if k = 4 ∧ sp_ik v = true then sp_mi a r (7, v, sp_nu (a.2.1 i), sp_pa (a.2.1 i)) else (-1, a)
  | none => (-1, a)
noncomputable def op_swap (a : sp_S) (r x k y : Int32) : Int32 × sp_S := match sp_rs a.2.1 a.2.2.1 x 7 with
  | some i => if sp_is k = true ∧ sp_tn a.2.2.1 y = true then sp_mi a r (7, sp_la (a.2.1 i), sp_nu (a.2.1 i), va_up (sp_pa (a.2.1 i)) k.toNatClampNeg (sp_rg a.2.2.1 y)) else (-1, a)
  | none => (-1, a)
def sp_sl (j : Nat) : Nat := ([0, 1, 2, 3, 0, 1, 2, 1, 0, 1] : List Nat).getD j 0
theorem sp_sl_ok : ∀ j, j < 10 → sg_tab 1 j = nI (sp_sl j) ∧ sp_sl j < 4 := by decide +kernel
def op_part (a : sp_S) (r x w : Int32) : Int32 × sp_S := match sp_rg a.2.2.1 x with
  | some i => if ¬ w < 0 ∧ ¬ 10 ≤ w then (if sp_so (a.2.1 i) = sg_tab 0 w.toNatClampNeg then (match sp_pa (a.2.1 i) (sp_sl w.toNatClampNeg) with
    | some k => (sp_r1 r, (a.1, a.2.1, sp_pt a.2.2.1 r k, a.2.2.2))
    | none => (-1, a)) else (-1, a)) else (-1, a)
  | none => (-1, a)
noncomputable def sp_dB (n : Nat) (t : Nat → sp_T) (g : Nat → Prop) (i : Nat) : Bool := @decide (sp_der n t g i) (Classical.propDecidable _)
theorem sp_dB_t {n : Nat} {t : Nat → sp_T} {g : Nat → Prop} {i : Nat} : sp_dB n t g i = true ↔ sp_der n t g i := by
  unfold sp_dB
  exact @decide_eq_true_iff _ (Classical.propDecidable _)
noncomputable def sp_dc (n : Nat) (t : Nat → sp_T) (g : Nat → Prop) : Nat := sp_ct (sp_dB n t g) n
noncomputable def op_give (a : sp_S) (x : Int32) : Int32 × sp_S := match sp_rg a.2.2.1 x with
  | some i => (nI (sp_dc a.1 a.2.1 (sp_gv a.2.2.2 i)) - nI (sp_dc a.1 a.2.1 a.2.2.2), (a.1, a.2.1, a.2.2.1, sp_gv a.2.2.2 i))
  | none => (-1, a)
noncomputable def op_derived (a : sp_S) (x : Int32) : Int32 := match sp_rg a.2.2.1 x with
  | some i => bI (sp_dB a.1 a.2.1 a.2.2.2 i)
  | none => -1
def op_same (a : sp_S) (x y : Int32) : Int32 := match sp_rg a.2.2.1 x with
  | some i => (match sp_rg a.2.2.1 y with
    | some j => if i = j then 1 else 0
    | none => -1)
  | none => -1
def op_about (a : sp_S) (x w : Int32) : Int32 := match sp_rg a.2.2.1 x with
  | some i => if w = 0 then sp_so (a.2.1 i) else if w = 1 then sp_la (a.2.1 i) else if sp_is (w - 2) = true then sp_nu (a.2.1 i) (w - 2).toNatClampNeg else -1
  | none => -1
noncomputable def op_count (a : sp_S) (w : Int32) : Int32 := if w = 0 then nI a.1 else if w = 1 then nI (sp_dc a.1 a.2.1 a.2.2.2) else -1
theorem sp_dc_eq {n : Nat} {t : Nat → sp_T} {g : Nat → Prop} {dv : Nat → Bool} (h : ∀ i, i < n → (dv i = true ↔ sp_der n t g i)) : sp_ct dv n = sp_dc n t g := sp_ct_eq (fun i hi => bool_eq ((h i hi).trans sp_dB_t.symm))
/-! how what is made is made -/
theorem p4_0 {o1 o2 o3 : Option Nat} : sp_p4 o1 o2 o3 0 = o1 := rfl
theorem p4_1 {o1 o2 o3 : Option Nat} : sp_p4 o1 o2 o3 1 = o2 := rfl
theorem p4_2 {o1 o2 o3 : Option Nat} : sp_p4 o1 o2 o3 2 = o3 := rfl
theorem p4_3 {o1 o2 o3 : Option Nat} : sp_p4 o1 o2 o3 3 = none := rfl
theorem bd_p4 {n : Nat} {so la : Int32} {nu : Nat → Int32} {o1 o2 o3 : Option Nat} (h1 : ∀ j, o1 = some j → j < n) (h2 : ∀ j, o2 = some j → j < n) (h3 : ∀ j, o3 = some j → j < n) : sp_bd n (so, la, nu, sp_p4 o1 o2 o3) := by
  intro k hk j e
  have e : sp_p4 o1 o2 o3 k = some j := e
  rcases (show k = 0 ∨ k = 1 ∨ k = 2 ∨ k = 3 by omega) with rfl | rfl | rfl | rfl
  · exact h1 j e
  · exact h2 j e
  · exact h3 j e
  · cases e
theorem no_b {n : Nat} : ∀ j, (none : Option Nat) = some j → j < n := fun j e => by cases e
theorem so_b {n i : Nat} (h : i < n) : ∀ j, some i = some j → j < n := fun j e => by cases e; exact h
theorem wf_secret {t : Nat → sp_T} {n : Nat} : sp_wf t n (1, 0, z4, sp_p4 none none none) := ⟨bd_p4 no_b no_b no_b, Or.inl ⟨rfl, rfl, fun _ _ => rfl, fun k hk => by rcases (show k = 0 ∨ k = 1 ∨ k = 2 ∨ k = 3 by omega) with rfl | rfl | rfl | rfl <;> rfl⟩⟩
theorem wf_face {t : Nat → sp_T} {n x : Nat} (hx : x < n) (h1 : sp_so (t x) = 1) : sp_wf t n (2, 0, z4, sp_p4 (some x) none none) := ⟨bd_p4 (so_b hx) no_b no_b, Or.inr (Or.inl ⟨rfl, rfl, fun _ _ => rfl, ⟨x, rfl, h1⟩, rfl, rfl, rfl⟩)⟩
theorem wf_sd {t : Nat → sp_T} {n x y : Nat} (hx : x < n) (hy : y < n) (h1 : sp_so (t x) = 1) (h2 : sp_so (t y) = 1) : sp_wf t n (sp_sd x y) := by
  unfold sp_sd
  by_cases h : x ≤ y
  · rw [if_pos h, if_pos h]
    exact ⟨bd_p4 (so_b hx) (so_b hy) no_b, Or.inr (Or.inr (Or.inl ⟨rfl, rfl, fun _ _ => rfl, ⟨x, y, rfl, rfl, h1, h2⟩, rfl, rfl⟩))⟩
  · rw [if_neg h, if_neg h]
    exact ⟨bd_p4 (so_b hy) (so_b hx) no_b, Or.inr (Or.inr (Or.inl ⟨rfl, rfl, fun _ _ => rfl, ⟨y, x, rfl, rfl, h2, h1⟩, rfl, rfl⟩))⟩
theorem wf_mix {t : Nat → sp_T} {n x : Nat} {m : Int32} {o : Option Nat} (hx : x < n) (ho : ∀ j, o = some j → j < n) : sp_wf t n (4, m, z4, sp_p4 (some x) o none) := ⟨bd_p4 (so_b hx) ho no_b, Or.inr (Or.inr (Or.inr (Or.inl ⟨rfl, fun _ _ => rfl, ⟨x, rfl⟩, rfl, rfl⟩)))⟩
theorem wf_sealed {t : Nat → sp_T} {n x y z : Nat} (hx : x < n) (hy : y < n) (hz : z < n) : sp_wf t n (5, 0, z4, sp_p4 (some x) (some y) (some z)) := ⟨bd_p4 (so_b hx) (so_b hy) (so_b hz), Or.inr (Or.inr (Or.inr (Or.inr (Or.inl ⟨rfl, rfl, fun _ _ => rfl, ⟨x, y, z, rfl, rfl, rfl⟩, rfl⟩))))⟩
theorem wf_signed {t : Nat → sp_T} {n x y : Nat} (hx : x < n) (hy : y < n) (h1 : sp_so (t x) = 1) : sp_wf t n (6, 0, z4, sp_p4 (some x) (some y) none) := ⟨bd_p4 (so_b hx) (so_b hy) no_b, Or.inr (Or.inr (Or.inr (Or.inr (Or.inr (Or.inl ⟨rfl, rfl, fun _ _ => rfl, ⟨x, y, rfl, rfl, h1⟩, rfl, rfl⟩)))))⟩
theorem wf_row {t : Nat → sp_T} {n : Nat} {k : Int32} {nu : Nat → Int32} {p : Nat → Option Nat} (hk : ∃ j, j < 7 ∧ k = nI (j + 1)) (hp : ∀ q, q < 4 → ∀ j, p q = some j → j < n) : sp_wf t n (7, k, nu, p) := ⟨hp, Or.inr (Or.inr (Or.inr (Or.inr (Or.inr (Or.inr ⟨rfl, hk⟩)))))⟩
theorem sp_wf7 {t : Nat → sp_T} {n : Nat} {d : sp_T} (h : sp_wf t n d) (h7 : sp_so d = 7) : ∃ j, j < 7 ∧ sp_la d = nI (j + 1) := by
  obtain ⟨-, h⟩ := h
  rcases h with h | h | h | h | h | h | h
  · rw [h7] at h; exact absurd h.1 (by decide)
  · rw [h7] at h; exact absurd h.1 (by decide)
  · rw [h7] at h; exact absurd h.1 (by decide)
  · rw [h7] at h; exact absurd h.1 (by decide)
  · rw [h7] at h; exact absurd h.1 (by decide)
  · rw [h7] at h; exact absurd h.1 (by decide)
  · exact h.2
/-- fresh cells beside the world -/
theorem sc_more {G : sg_G} {b lo n : Nat} {t : Nat → sp_T} {rg : Nat → Option Nat} {ta na pa : Nat → Nat} {dv : Nat → Bool} {H H1 : Heap} (hV : sc_V G b lo n t rg ta na pa dv H) (hz : H.size ≤ H1.size) (hq : ∀ q, q < H.size → H1[q]? = H[q]?) :
    sc_V G b lo n t rg ta na pa dv H1 ∧ sc_F b lo H H1 ∧ ∀ w, H.size ≤ w → ∀ i, i < n → ta i ≠ w := by
  obtain ⟨fc, hC, hfI⟩ := hV
  obtain ⟨hw, hb0, hb4, hlo, hn5, hX, hRG, hMD, hZR, hT, hrg, hwf⟩ := id hC
  refine ⟨⟨fc, hC.kept hz (fun q _ _ h => hq q h), hfI⟩, ⟨hz, fun q _ h => hq q (by omega)⟩, fun w h i hi => ?_⟩
  have : ta i < H.size := va_at.lt (hT i hi).2.2.2.1
  omega
/-- given, and spread: the least set -/
theorem sp_der_give {n : Nat} {t : Nat → sp_T} {g : Nat → Prop} {dv dv' : Nat → Bool} {i : Nat} (hi : i < n) (hD : ∀ j, j < n → (dv j = true ↔ sp_der n t g j)) (ho : sp_ok n t (sp_up dv i) dv') (hc : sp_cd n t dv') : ∀ j, j < n → (dv' j = true ↔ sp_der n t (sp_gv g i) j) := by
  have D := sp_der_cl n t (sp_gv g i)
  intro j hj
  constructor
  · refine ho.2 (sp_der n t (sp_gv g i)) D.2.1 D.2.2 (fun x hx a => ?_) j hj
    rcases sp_up_of a with rfl | a
    · exact sp_der_gv_self hx
    · exact sp_der_gv_mono i x ((hD x hx).mp a)
  · intro a
    refine a (sp_B dv') ⟨fun x hx hgx => ?_, hc.1, hc.2⟩
    rcases hgx with hgx | rfl
    · exact ho.1 x (sp_up_mono dv i x ((hD x hx).mpr ((sp_der_cl n t g).1 x hx hgx)))
    · exact ho.1 x (sp_up_self dv x)
theorem sp_dc_same {n : Nat} {t : Nat → sp_T} {g : Nat → Prop} {i : Nat} (h : sp_der n t g i) : sp_dc n t (sp_gv g i) = sp_dc n t g := sp_ct_eq (fun j _ => bool_eq ((sp_dB_t.trans ⟨sp_der_gv_old h j, sp_der_gv_mono i j⟩).trans sp_dB_t.symm))
