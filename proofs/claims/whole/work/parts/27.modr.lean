/-! the reference's deriving -/
theorem upd_bI (kb : Nat → Bool) (j : Nat) : upd (fun i => bI (kb i)) j 1 = fun i => bI (sp_up kb j i) := by
  funext x
  by_cases e : x = j
  · subst e; rw [pk_us, sp_up_self]; rfl
  · rw [pk_un e, sp_up_ne _ e]
theorem upd_bI2 (kb : Nat → Bool) (j : Nat) (v : Bool) : upd (fun i => bI (kb i)) j (bI v) = fun i => bI (va_up kb j v i) := by
  funext x
  by_cases e : x = j
  · subst e; rw [pk_us, va_up_self]
  · rw [pk_un e, va_up_ne _ _ e]
theorem upd_gv (g : Nat → Prop) (j : Nat) : upd (fun i => bI (cB (g i))) j 1 = fun i => bI (cB (sp_gv g j i)) := by
  funext x
  by_cases e : x = j
  · subst e; rw [pk_us, show cB (sp_gv g x x) = true from cB_t.mpr (Or.inr rfl)]; rfl
  · rw [pk_un e, show cB (sp_gv g j x) = cB (g x) from bool_eq (cB_t.trans ⟨fun z => cB_t.mpr (z.elim id (fun q => absurd q e)), fun z => Or.inl (cB_t.mp z)⟩)]
/-- whether something came new -/
def chg (n : Nat) (kb kc : Nat → Bool) (mo : Bool) : Prop := (mo = false → kc = kb) ∧ (mo = true → sp_ct kb n < sp_ct kc n) ∧ ∀ j, kb j = true → kc j = true
theorem chg_rf {n : Nat} {kb : Nat → Bool} : chg n kb kb false := ⟨fun _ => rfl, (fun z => by cases z), fun _ h => h⟩
theorem chg_tr {n : Nat} {a b c : Nat → Bool} {m1 m2 : Bool} (h1 : chg n a b m1) (h2 : chg n b c m2) : chg n a c (m2 || m1) := by
  have l1 := sp_ct_mono (n := n) (b := a) (b' := b) (fun i _ => h1.2.2 i)
  have l2 := sp_ct_mono (n := n) (b := b) (b' := c) (fun i _ => h2.2.2 i)
  refine ⟨fun z => ?_, fun z => ?_, fun j h => h2.2.2 j (h1.2.2 j h)⟩
  · cases m1 with
    | true => cases m2 <;> cases z
    | false => cases m2 with
      | true => cases z
      | false => rw [h2.1 rfl, h1.1 rfl]
  · cases m2 with
    | true => have := h2.2.1 rfl; omega
    | false => cases m1 with
      | true => have := h1.2.1 rfl; omega
      | false => cases z
theorem chg_learn {n : Nat} {kb : Nat → Bool} {o : Option Nat} (ho : ∀ j, o = some j → j < n) : chg n kb (sp_uo kb o) (!(sp_pi kb o)) := by
  cases o with
  | none => exact chg_rf
  | some j =>
    show chg n kb (sp_up kb j) (!kb j)
    cases h : kb j with
    | true => rw [sp_up_id h]; exact chg_rf
    | false => exact ⟨(fun z => by cases z), fun _ => by rw [sp_ct_up (ho j rfl) h]; omega, fun i hi => sp_up_mono kb j i hi⟩
theorem sp_ok_uo {n : Nat} {t : Nat → sp_T} {ka kb kc : Nat → Bool} (h : sp_ok n t ka kb) (e : ∀ j, kb j = true → kc j = true) (hs : ∀ D : Nat → Prop, (∀ i, i < n → D i → sp_an D (t i)) → (∀ i, i < n → sp_mk n t D (t i) → D i) → (∀ i, i < n → kb i = true → D i) → ∀ i, i < n → kc i = true → D i) : sp_ok n t ka kc :=
  ⟨fun j a => e j (h.1 j a), fun D ha hm hd => hs D ha hm (h.2 D ha hm hd)⟩
theorem sp_ok_mk {n : Nat} {t : Nat → sp_T} {ka kb : Nat → Bool} (hb : ∀ i, i < n → sp_bd n (t i)) (h : sp_ok n t ka kb) {i : Nat} (hi : i < n) (hm : mkB n t kb i = true) : sp_ok n t ka (sp_up kb i) := by
  refine sp_ok_uo h (fun j => sp_up_mono kb i j) (fun D ha hm' hd j hj e => ?_)
  rcases sp_up_of e with rfl | e
  · exact hm' j hj (sp_mk_to (hb j hj) hd (mkB_t.mp hm))
  · exact hd j hj e
theorem sp_ok_ta {n : Nat} {t : Nat → sp_T} {ka kb : Nat → Bool} (hb : ∀ i, i < n → sp_bd n (t i)) (h : sp_ok n t ka kb) {i : Nat} (hi : i < n) (hk : kb i = true) : sp_ok n t ka (sp_ta t kb i) := by
  refine sp_ok_uo h (fun j => sp_ta_ext) (fun D ha hm' hd => sp_ta_of hd (hb i hi) (ha i hi (hd i hi hk)))
/-- from what is given -/
theorem sp_der_init {n : Nat} {t : Nat → sp_T} {g : Nat → Prop} {ka kb : Nat → Bool} (hg : ∀ j, j < n → ka j = cB (g j)) (ho : sp_ok n t ka kb) (hc : sp_cd n t kb) : ∀ j, j < n → (kb j = true ↔ sp_der n t g j) := by
  have D := sp_der_cl n t g
  intro j hj
  constructor
  · exact ho.2 (sp_der n t g) D.2.1 D.2.2 (fun x hx a => D.1 x hx (cB_t.mp (by rw [← hg x hx]; exact a))) j hj
  · intro a
    exact a (sp_B kb) ⟨fun x hx hgx => ho.1 x (by rw [hg x hx]; exact cB_t.mpr hgx), hc.1, hc.2⟩
/-! what can be made, sort by sort -/
theorem mk_oth {n : Nat} {t : Nat → sp_T} {kb : Nat → Bool} {i : Nat} (n1 : ¬ sp_so (t i) = 1) (n3 : ¬ sp_so (t i) = 3) : mkB n t kb i = true ↔ ∀ k, k < 4 → sp_pi kb (sp_pa (t i) k) = true := by
  rw [mkB_t]
  constructor
  · intro z k hk
    rcases z with z | z
    · exact absurd z.1 n3
    · exact sp_pi_in.mpr (z.2.2 k hk)
  · intro z
    exact Or.inr ⟨n1, n3, fun k hk => sp_pi_in.mp (z k hk)⟩
theorem mk_b1 {n : Nat} {t : Nat → sp_T} {kb : Nat → Bool} {i : Nat} (n1 : ¬ sp_so (t i) = 1) (n3 : ¬ sp_so (t i) = 3) : mkB n t kb i = (sp_pi kb (sp_pa (t i) 0) && sp_pi kb (sp_pa (t i) 1) && sp_pi kb (sp_pa (t i) 2) && sp_pi kb (sp_pa (t i) 3)) := by
  refine bool_eq ((mk_oth n1 n3).trans ?_)
  rw [Bool.and_eq_true, Bool.and_eq_true, Bool.and_eq_true]
  exact ⟨fun z => ⟨⟨⟨z 0 (by omega), z 1 (by omega)⟩, z 2 (by omega)⟩, z 3 (by omega)⟩, fun z => all4 z.1.1.1 z.1.1.2 z.1.2 z.2⟩
theorem mk_2 {n : Nat} {t : Nat → sp_T} {kb : Nat → Bool} {i m : Nat} (hw : sp_wf t m (t i)) (h : sp_so (t i) = 2) : mkB n t kb i = sp_pi kb (sp_pa (t i) 0) := by
  have z := (wf_no hw).2.1 h
  rw [mk_b1 (so_ne h (by decide)) (so_ne h (by decide)), z.1, z.2.1, z.2.2]
  cases sp_pi kb (sp_pa (t i) 0) <;> rfl
theorem mk_4 {n : Nat} {t : Nat → sp_T} {kb : Nat → Bool} {i m : Nat} (hw : sp_wf t m (t i)) (h : sp_so (t i) = 4) : mkB n t kb i = (sp_pi kb (sp_pa (t i) 0) && sp_pi kb (sp_pa (t i) 1)) := by
  have z := (wf_no hw).2.2.2.1 h
  rw [mk_b1 (so_ne h (by decide)) (so_ne h (by decide)), z.1, z.2]
  cases sp_pi kb (sp_pa (t i) 0) <;> cases sp_pi kb (sp_pa (t i) 1) <;> rfl
theorem mk_5 {n : Nat} {t : Nat → sp_T} {kb : Nat → Bool} {i m : Nat} (hw : sp_wf t m (t i)) (h : sp_so (t i) = 5) : mkB n t kb i = (sp_pi kb (sp_pa (t i) 0) && sp_pi kb (sp_pa (t i) 1) && sp_pi kb (sp_pa (t i) 2)) := by
  have z := (wf_no hw).2.2.2.2.1 h
  rw [mk_b1 (so_ne h (by decide)) (so_ne h (by decide)), z]
  cases sp_pi kb (sp_pa (t i) 0) <;> cases sp_pi kb (sp_pa (t i) 1) <;> cases sp_pi kb (sp_pa (t i) 2) <;> rfl
theorem mk_6 {n : Nat} {t : Nat → sp_T} {kb : Nat → Bool} {i m : Nat} (hw : sp_wf t m (t i)) (h : sp_so (t i) = 6) : mkB n t kb i = (sp_pi kb (sp_pa (t i) 0) && sp_pi kb (sp_pa (t i) 1)) := by
  have z := (wf_no hw).2.2.2.2.2 h
  rw [mk_b1 (so_ne h (by decide)) (so_ne h (by decide)), z.1, z.2]
  cases sp_pi kb (sp_pa (t i) 0) <;> cases sp_pi kb (sp_pa (t i) 1) <;> rfl
theorem mk_7 {n : Nat} {t : Nat → sp_T} {kb : Nat → Bool} {i m : Nat} (hw : sp_wf t m (t i)) (n2 : ¬ sp_so (t i) = 2) (n3 : ¬ sp_so (t i) = 3) (n4 : ¬ sp_so (t i) = 4) (n5 : ¬ sp_so (t i) = 5) (n6 : ¬ sp_so (t i) = 6) : mkB n t kb i = true ↔ (sp_so (t i) = 7 ∧ ∀ k, k < 4 → sp_pi kb (sp_pa (t i) k) = true) := by
  rcases wf_sort hw with h | h | h | h | h | h | h
  · constructor
    · intro z
      rcases mkB_t.mp z with z | z
      · exact absurd z.1 n3
      · exact absurd h z.1
    · intro z
      rw [h] at z
      exact absurd z.1 (by decide)
  · exact absurd h n2
  · exact absurd h n3
  · exact absurd h n4
  · exact absurd h n5
  · exact absurd h n6
  · rw [mk_oth (so_ne h (by decide)) n3]
    exact ⟨fun z => ⟨h, z⟩, fun z => z.2⟩
theorem mk_3 {n : Nat} {t : Nat → sp_T} {kb : Nat → Bool} {i x y : Nat} (h : sp_so (t i) = 3) (hx : sp_pa (t i) 0 = some x) (hy : sp_pa (t i) 1 = some y) : mkB n t kb i = ((kb x && cB (sp_sh n t (sp_B kb) y)) || (kb y && cB (sp_sh n t (sp_B kb) x))) := by
  refine bool_eq ?_
  rw [mkB_t, Bool.or_eq_true, Bool.and_eq_true, Bool.and_eq_true, cB_t, cB_t]
  constructor
  · intro z
    rcases z with ⟨-, x', y', e1, e2, z⟩ | z
    · rw [hx] at e1; rw [hy] at e2; cases e1; cases e2; exact z
    · exact absurd h z.2.1
  · intro z
    exact Or.inl ⟨h, x, y, hx, hy, z⟩
