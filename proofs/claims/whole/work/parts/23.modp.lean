/-! the reference: putting a term -/
theorem put_lk {n : Nat} {t : Nat → sp_T} {rg : Nat → Option Nat} {so on tw th ce re li : Nat → Int32} (hn : n ≤ 512) (hR : sm_R n t rg so on tw th ce re) {dd : sp_T} (hwd : sp_wf t n dd) {s1 a1 b1 c1 : Int32} (hs : s1 = sp_so dd) (ha : ¬ sp_so dd = 1 → a1 = e1 dd) (hb : b1 = e2 dd) (hc : c1 = e3 dd) (hli : sp_so dd = 7 → ∀ k, k < 8 → li k = e8 dd k) (h1s : sp_so dd = 1 → ∀ i, i < n → sp_so (t i) = 1 → ¬ on i = a1) {i : Nat} (hi : i < n) :
    sp_al (t i) dd = true ↔ (so i = s1 ∧ on i = a1 ∧ tw i = b1 ∧ th i = c1 ∧ (s1 = 7 → ∀ k, k < 8 → ce (8 * i + k) = li k)) := by
  obtain ⟨q1, q2, q3, q4, q5⟩ := hR.1 i hi
  rw [sp_al_t]
  by_cases h1 : sp_so dd = 1
  · constructor
    · intro z
      exact absurd (z.2.1.trans h1) z.1
    · intro z
      rw [q1, hs] at z
      exact absurd z.2.1 (h1s h1 i hi (z.1.trans h1))
  · rw [enc_lk (by omega) hn (hR.2.2.2 i hi) hwd h1, q1, q3, q4, hs, hb, hc]
    constructor
    · rintro ⟨z1, z2, z3, z4, z5⟩
      refine ⟨z1, ?_, z3, z4, fun h7 k hk => ?_⟩
      · rw [q2 (by rw [z1]; exact h1), z2, ha h1]
      · rw [q5 k hk, z5 h7 k hk, hli h7 k hk]
    · rintro ⟨z1, z2, z3, z4, z5⟩
      refine ⟨z1, ?_, z3, z4, fun h7 k hk => ?_⟩
      · rw [← q2 (by rw [z1]; exact h1), z2, ha h1]
      · rw [← q5 k hk, z5 h7 k hk, hli h7 k hk]
theorem sm_R_new {n : Nat} {t : Nat → sp_T} {rg : Nat → Option Nat} {so on tw th ce re ck : Nat → Int32} (hR : sm_R n t rg so on tw th ce re) {dd : sp_T} (hwd : sp_wf t n dd) {s1 a1 b1 c1 : Int32} {rr : Nat} (hs : s1 = sp_so dd) (ha : ¬ sp_so dd = 1 → a1 = e1 dd) (hb : b1 = e2 dd) (hc : c1 = e3 dd) (hlow : ∀ x, x < 8 * n → ck x = ce x) (hcs : ∀ q, q < 8 → ck (8 * n + q) = e8 dd q) :
    sm_R (n + 1) (va_up t n dd) (va_up rg rr (some n)) (upd so n s1) (upd on n a1) (upd tw n b1) (upd th n c1) ck (upd re rr (nI (n + 1))) := by
  refine ⟨fun i hi => ?_, fun k hk => ?_, fun k hk i hi => ?_, fun i hi => ?_⟩
  · by_cases e : i = n
    · subst e
      rw [va_up_self, pk_us, pk_us, pk_us, pk_us]
      exact ⟨hs, ha, hb, hc, hcs⟩
    · have hin : i < n := by omega
      obtain ⟨q1, q2, q3, q4, q5⟩ := hR.1 i hin
      rw [va_up_ne _ _ e, pk_un e, pk_un e, pk_un e, pk_un e]
      exact ⟨q1, q2, q3, q4, fun k hk => by rw [hlow _ (by omega)]; exact q5 k hk⟩
  · by_cases e : k = rr
    · subst e
      rw [va_up_self, pk_us]
      rfl
    · rw [va_up_ne _ _ e, pk_un e]
      exact hR.2.1 k hk
  · by_cases e : k = rr
    · subst e
      rw [va_up_self] at hi
      cases hi
      omega
    · rw [va_up_ne _ _ e] at hi
      have := hR.2.2.1 k hk i hi
      omega
  · by_cases e : i = n
    · subst e
      rw [va_up_self]
      exact sp_wf_to hwd (fun j hj => va_up_ne _ _ (Nat.ne_of_lt hj))
    · rw [va_up_ne _ _ e]
      exact sp_wf_to (hR.2.2.2 i (by omega)) (fun j hj => va_up_ne _ _ (by omega))
theorem sm_R_old {n : Nat} {t : Nat → sp_T} {rg : Nat → Option Nat} {so on tw th ce re : Nat → Int32} (hR : sm_R n t rg so on tw th ce re) {rr i : Nat} (hi : i < n) : sm_R n t (va_up rg rr (some i)) so on tw th ce (upd re rr (nI (i + 1))) := by
  refine ⟨hR.1, fun k hk => ?_, fun k hk j hj => ?_, hR.2.2.2⟩
  · by_cases e : k = rr
    · subst e
      rw [va_up_self, pk_us]
      rfl
    · rw [va_up_ne _ _ e, pk_un e]
      exact hR.2.1 k hk
  · by_cases e : k = rr
    · subst e
      rw [va_up_self] at hj
      cases hj
      exact hi
    · rw [va_up_ne _ _ e] at hj
      exact hR.2.2.1 k hk j hj
theorem sm_Q_new {n ns : Nat} {t : Nat → sp_T} {on : Nat → Int32} (h : sm_Q n t ns on) {dd : sp_T} {a1 : Int32} (h1 : sp_so dd = 1 → a1 = nI ns ∧ 1 ≤ ns) : sm_Q (n + 1) (va_up t n dd) ns (upd on n a1) := by
  intro i hi hs
  by_cases e : i = n
  · subst e
    rw [va_up_self] at hs
    exact ⟨ns, (h1 hs).2, Nat.le_refl ns, by rw [pk_us]; exact (h1 hs).1⟩
  · rw [va_up_ne _ _ e] at hs
    obtain ⟨k, q1, q2, q3⟩ := h i (by omega) hs
    exact ⟨k, q1, q2, by rw [pk_un e]; exact q3⟩
theorem mkS_old {n : Nat} {t : Nat → sp_T} {rg : Nat → Option Nat} {g : Nat → Prop} {d : sp_T} {rr i : Nat} (h : sp_fd (fun i => sp_al (t i) d) n = some i) : sp_mkS (n, t, rg, g) rr d = (n, t, va_up rg rr (some i), g) := by
  unfold sp_mkS
  dsimp only
  rw [h]
theorem mkS_new {n : Nat} {t : Nat → sp_T} {rg : Nat → Option Nat} {g : Nat → Prop} {d : sp_T} {rr : Nat} (h : sp_fd (fun i => sp_al (t i) d) n = none) : sp_mkS (n, t, rg, g) rr d = (n + 1, va_up t n d, va_up rg rr (some n), g) := by
  unfold sp_mkS
  dsimp only
  rw [h]
theorem mkS_le {n : Nat} {t : Nat → sp_T} {rg : Nat → Option Nat} {g : Nat → Prop} {d : sp_T} {rr : Nat} : n ≤ (sp_mkS (n, t, rg, g) rr d).1 ∧ (sp_mkS (n, t, rg, g) rr d).2.2.2 = g := by
  cases h : sp_fd (fun i => sp_al (t i) d) n with
  | none => rw [mkS_new h]; exact ⟨Nat.le_succ n, rfl⟩
  | some i => rw [mkS_old h]; exact ⟨Nat.le_refl n, rfl⟩
theorem fd_none {P : Nat → Bool} {n : Nat} (h : ∀ i, i < n → P i = false) : sp_fd P n = none := by
  induction n with
  | zero => rfl
  | succ k ih => exact sp_fd_s (ih (fun i hi => h i (by omega))) (h k (by omega))
theorem fd_secret {n : Nat} {t : Nat → sp_T} {d : sp_T} (h : sp_so d = 1) : sp_fd (fun i => sp_al (t i) d) n = none := fd_none (fun i _ => bF sp_al_t (fun z => z.1 (z.2.1.trans h)))
theorem sp_mi_nI {a : sp_S} {rr : Nat} {d : sp_T} (h : rr < 64) : sp_mi a (nI rr) d = (1, sp_mkS a rr d) := by
  unfold sp_mi
  rw [if_pos (sp_ir_nI h), nI_clamp (by omega)]
theorem sp_rg_m1 {rg : Nat → Option Nat} : sp_rg rg (-1) = none := sp_rg_no (by decide)
theorem sp_sd_so (x y : Nat) : sp_so (sp_sd x y) = 3 := rfl
/-- a register gets a part -/
def sp_po (d : sp_T) (w : Int32) : Option Nat := if ¬ w < 0 ∧ ¬ 10 ≤ w then (if sp_so d = sg_tab 0 w.toNatClampNeg then sp_pa d (sp_sl w.toNatClampNeg) else none) else none
theorem sp_po_nI {d : sp_T} {j : Nat} (h : j < 10) : sp_po d (nI j) = if sp_so d = sg_tab 0 j then sp_pa d (sp_sl j) else none := by
  unfold sp_po
  rw [if_pos ⟨nI_pos (by omega), nI_ge (b := 10) h (by decide)⟩, nI_clamp (by omega)]
theorem op_part_eq {a : sp_S} {r x w : Int32} {i : Nat} (h : sp_rg a.2.2.1 x = some i) : op_part a r x w = match sp_po (a.2.1 i) w with
    | some k => (sp_r1 r, (a.1, a.2.1, sp_pt a.2.2.1 r k, a.2.2.2))
    | none => (-1, a) := by
  unfold op_part sp_po
  rw [h]
  dsimp only
  by_cases h1 : ¬ w < 0 ∧ ¬ 10 ≤ w
  · rw [if_pos h1, if_pos h1]
    by_cases h2 : sp_so (a.2.1 i) = sg_tab 0 w.toNatClampNeg
    · rw [if_pos h2, if_pos h2]
      cases sp_pa (a.2.1 i) (sp_sl w.toNatClampNeg) <;> rfl
    · rw [if_neg h2, if_neg h2]
  · rw [if_neg h1, if_neg h1]
theorem sm_R_part {n : Nat} {t : Nat → sp_T} {rg : Nat → Option Nat} {so on tw th ce re : Nat → Int32} (hR : sm_R n t rg so on tw th ce re) {rr k : Nat} (hk : k < n) : sm_R n t (va_up rg rr (some k)) so on tw th ce (upd re rr (nI (k + 1))) := sm_R_old hR hk
theorem so_ne {d : sp_T} {a b : Int32} (h : sp_so d = a) (n : ¬ a = b) : ¬ sp_so d = b := fun e => n (h.symm.trans e)
