/-! THE REFERENCE'S WORLD: its object at mb, its nine arrays behind it -/
def sm_X (G : sg_G) (mb n : Nat) (so on tw th ce gi kn li re : Nat → Int32) (sec : Int32) (H : Heap) : Prop :=
  sg_B G ≤ mb ∧ n ≤ 512 ∧ ob_ G H mb 2 [.int (nI n), .ref (mb + 1), .ref (mb + 2), .ref (mb + 3), .ref (mb + 4), .ref (mb + 5), .ref (mb + 6), .ref (mb + 7), .ref (mb + 8), .ref (mb + 9), .int sec] ∧
  ia_ G H (mb + 1) 640 so ∧ ia_ G H (mb + 2) 640 on ∧ ia_ G H (mb + 3) 640 tw ∧ ia_ G H (mb + 4) 640 th ∧ ia_ G H (mb + 5) 5120 ce ∧ za_ G H (mb + 6) 640 gi ∧ za_ G H (mb + 7) 640 kn ∧ ia_ G H (mb + 8) 8 li ∧ ia_ G H (mb + 9) 64 re
theorem sm_X.kept {G : sg_G} {mb n : Nat} {so on tw th ce gi kn li re : Nat → Int32} {sec : Int32} {H H1 : Heap} (h : sm_X G mb n so on tw th ce gi kn li re sec H) (hq : ∀ q, mb ≤ q → q < mb + 10 → H1[q]? = H[q]?) : sm_X G mb n so on tw th ce gi kn li re sec H1 := by
  obtain ⟨a, b, c, d1, d2, d3, d4, d5, d6, d7, d8, d9⟩ := h
  exact ⟨a, b, c.kept (hq _ (by omega) (by omega)), d1.kept (hq _ (by omega) (by omega)), d2.kept (hq _ (by omega) (by omega)), d3.kept (hq _ (by omega) (by omega)), d4.kept (hq _ (by omega) (by omega)), d5.kept (hq _ (by omega) (by omega)), d6.kept (hq _ (by omega) (by omega)), d7.kept (hq _ (by omega) (by omega)), d8.kept (hq _ (by omega) (by omega)), d9.kept (hq _ (by omega) (by omega))⟩
def sm_F (mb : Nat) (H H' : Heap) : Prop := H'.size = H.size ∧ ∀ q, (q < mb ∨ mb + 10 ≤ q) → H'[q]? = H[q]?
theorem sm_F.rf {mb : Nat} {H : Heap} : sm_F mb H H := ⟨rfl, fun _ _ => rfl⟩
theorem sm_F.tr {mb : Nat} {H H1 H2 : Heap} (h1 : sm_F mb H H1) (h2 : sm_F mb H1 H2) : sm_F mb H H2 := ⟨h2.1.trans h1.1, fun q a => (h2.2 q a).trans (h1.2 q a)⟩
theorem sm_F.put {mb a : Nat} {H H1 H2 : Heap} (h1 : sm_F mb H H1) (hz : H2.size = H1.size) (hq : ∀ q, q ≠ a → H2[q]? = H1[q]?) (ha : mb ≤ a ∧ a < mb + 10) : sm_F mb H H2 := ⟨hz.trans h1.1, fun q h => (hq q (by omega)).trans (h1.2 q h)⟩
def px (o : Option Nat) : Int32 := match o with
  | none => 0
  | some j => nI (j + 1)
theorem px_inj {o o' : Option Nat} (h : ∀ j, o = some j → j < 1000) (h' : ∀ j, o' = some j → j < 1000) (e : px o = px o') : o = o' := by
  cases o with
  | none => cases o' with
    | none => rfl
    | some y =>
      have := (nI_eq (a := 0) (b := y + 1) (by omega) (by have := h' y rfl; omega)).mp e
      omega
  | some x => cases o' with
    | none =>
      have := (nI_eq (a := x + 1) (b := 0) (by have := h x rfl; omega) (by omega)).mp e
      omega
    | some y =>
      have := (nI_eq (a := x + 1) (b := y + 1) (by have := h x rfl; omega) (by have := h' y rfl; omega)).mp e
      rw [show x = y by omega]
def e1 (d : sp_T) : Int32 := if sp_so d = 4 ∨ sp_so d = 7 then sp_la d else px (sp_pa d 0)
def e2 (d : sp_T) : Int32 := if sp_so d = 4 then px (sp_pa d 0) else if sp_so d = 3 ∨ sp_so d = 5 ∨ sp_so d = 6 then px (sp_pa d 1) else 0
def e3 (d : sp_T) : Int32 := if sp_so d = 4 then px (sp_pa d 1) else if sp_so d = 5 then px (sp_pa d 2) else 0
def e8 (d : sp_T) (k : Nat) : Int32 := if sp_so d = 7 then (if k < 4 then sp_nu d k else px (sp_pa d (k - 4))) else 0
def sm_R (n : Nat) (t : Nat → sp_T) (rg : Nat → Option Nat) (so on tw th ce re : Nat → Int32) : Prop :=
  (∀ i, i < n → so i = sp_so (t i) ∧ (¬ sp_so (t i) = 1 → on i = e1 (t i)) ∧ tw i = e2 (t i) ∧ th i = e3 (t i) ∧ ∀ k, k < 8 → ce (8 * i + k) = e8 (t i) k) ∧ (∀ k, k < 64 → re k = px (rg k)) ∧ (∀ k, k < 64 → ∀ i, rg k = some i → i < n) ∧ ∀ i, i < n → sp_wf t i (t i)
def sm_Q (n : Nat) (t : Nat → sp_T) (ns : Nat) (on : Nat → Int32) : Prop := ∀ i, i < n → sp_so (t i) = 1 → ∃ k, 1 ≤ k ∧ k ≤ ns ∧ on i = nI k
def sm_H (G : sg_G) (mb n : Nat) (t : Nat → sp_T) (rg : Nat → Option Nat) (g : Nat → Prop) (H : Heap) : Prop :=
  ∃ (so on tw th ce : Nat → Int32) (kb : Nat → Bool) (li re : Nat → Int32) (ns : Nat), sm_X G mb n so on tw th ce (fun i => bI (cB (g i))) (fun i => bI (kb i)) li re (nI ns) H ∧ sm_R n t rg so on tw th ce re ∧ sm_Q n t ns on ∧ ns ≤ n ∧ ∀ i, g i → i < n
def sm_HS (G : sg_G) (mb : Nat) (a : sp_S) (H : Heap) : Prop := sm_H G mb a.1 a.2.1 a.2.2.1 a.2.2.2 H
/-! how a term of each sort is made -/
theorem wf_sort {t : Nat → sp_T} {n : Nat} {d : sp_T} (h : sp_wf t n d) : sp_so d = 1 ∨ sp_so d = 2 ∨ sp_so d = 3 ∨ sp_so d = 4 ∨ sp_so d = 5 ∨ sp_so d = 6 ∨ sp_so d = 7 := by
  obtain ⟨-, h⟩ := h
  rcases h with h | h | h | h | h | h | h
  · exact Or.inl h.1
  · exact Or.inr (Or.inl h.1)
  · exact Or.inr (Or.inr (Or.inl h.1))
  · exact Or.inr (Or.inr (Or.inr (Or.inl h.1)))
  · exact Or.inr (Or.inr (Or.inr (Or.inr (Or.inl h.1))))
  · exact Or.inr (Or.inr (Or.inr (Or.inr (Or.inr (Or.inl h.1)))))
  · exact Or.inr (Or.inr (Or.inr (Or.inr (Or.inr (Or.inr h.1)))))
theorem wf_la {t : Nat → sp_T} {n : Nat} {d : sp_T} (h : sp_wf t n d) (n4 : ¬ sp_so d = 4) (n7 : ¬ sp_so d = 7) : sp_la d = 0 := by
  obtain ⟨-, h⟩ := h
  rcases h with h | h | h | h | h | h | h
  · exact h.2.1
  · exact h.2.1
  · exact h.2.1
  · exact absurd h.1 n4
  · exact h.2.1
  · exact h.2.1
  · exact absurd h.1 n7
theorem wf_nu {t : Nat → sp_T} {n : Nat} {d : sp_T} (h : sp_wf t n d) (n7 : ¬ sp_so d = 7) : ∀ k, k < 4 → sp_nu d k = 0 := by
  obtain ⟨-, h⟩ := h
  rcases h with h | h | h | h | h | h | h
  · exact h.2.2.1
  · exact h.2.2.1
  · exact h.2.2.1
  · exact h.2.1
  · exact h.2.2.1
  · exact h.2.2.1
  · exact absurd h.1 n7
/-- beyond a term's own places there is NOTHING -/
theorem wf_no {t : Nat → sp_T} {n : Nat} {d : sp_T} (h : sp_wf t n d) : (sp_so d = 1 → ∀ k, k < 4 → sp_pa d k = none) ∧ (sp_so d = 2 → sp_pa d 1 = none ∧ sp_pa d 2 = none ∧ sp_pa d 3 = none) ∧ (sp_so d = 3 → sp_pa d 2 = none ∧ sp_pa d 3 = none) ∧ (sp_so d = 4 → sp_pa d 2 = none ∧ sp_pa d 3 = none) ∧ (sp_so d = 5 → sp_pa d 3 = none) ∧ (sp_so d = 6 → sp_pa d 2 = none ∧ sp_pa d 3 = none) := by
  obtain ⟨-, h⟩ := h
  rcases h with h | h | h | h | h | h | h <;> rw [h.1]
  · exact ⟨fun _ => h.2.2.2, fun e => absurd e (by decide), fun e => absurd e (by decide), fun e => absurd e (by decide), fun e => absurd e (by decide), fun e => absurd e (by decide)⟩
  · exact ⟨fun e => absurd e (by decide), fun _ => h.2.2.2.2, fun e => absurd e (by decide), fun e => absurd e (by decide), fun e => absurd e (by decide), fun e => absurd e (by decide)⟩
  · exact ⟨fun e => absurd e (by decide), fun e => absurd e (by decide), fun _ => h.2.2.2.2, fun e => absurd e (by decide), fun e => absurd e (by decide), fun e => absurd e (by decide)⟩
  · exact ⟨fun e => absurd e (by decide), fun e => absurd e (by decide), fun e => absurd e (by decide), fun _ => h.2.2.2, fun e => absurd e (by decide), fun e => absurd e (by decide)⟩
  · exact ⟨fun e => absurd e (by decide), fun e => absurd e (by decide), fun e => absurd e (by decide), fun e => absurd e (by decide), fun _ => h.2.2.2.2, fun e => absurd e (by decide)⟩
  · exact ⟨fun e => absurd e (by decide), fun e => absurd e (by decide), fun e => absurd e (by decide), fun e => absurd e (by decide), fun e => absurd e (by decide), fun _ => h.2.2.2.2⟩
  · exact ⟨fun e => absurd e (by decide), fun e => absurd e (by decide), fun e => absurd e (by decide), fun e => absurd e (by decide), fun e => absurd e (by decide), fun e => absurd e (by decide)⟩
/-! the numbers of a term, sort by sort -/
theorem e_2 {d : sp_T} (h : sp_so d = 2) : e1 d = px (sp_pa d 0) ∧ e2 d = 0 ∧ e3 d = 0 := by simp [e1, e2, e3, h]
theorem e_3 {d : sp_T} (h : sp_so d = 3) : e1 d = px (sp_pa d 0) ∧ e2 d = px (sp_pa d 1) ∧ e3 d = 0 := by simp [e1, e2, e3, h]
theorem e_4 {d : sp_T} (h : sp_so d = 4) : e1 d = sp_la d ∧ e2 d = px (sp_pa d 0) ∧ e3 d = px (sp_pa d 1) := by simp [e1, e2, e3, h]
theorem e_5 {d : sp_T} (h : sp_so d = 5) : e1 d = px (sp_pa d 0) ∧ e2 d = px (sp_pa d 1) ∧ e3 d = px (sp_pa d 2) := by simp [e1, e2, e3, h]
theorem e_6 {d : sp_T} (h : sp_so d = 6) : e1 d = px (sp_pa d 0) ∧ e2 d = px (sp_pa d 1) ∧ e3 d = 0 := by simp [e1, e2, e3, h]
theorem e_7 {d : sp_T} (h : sp_so d = 7) : e1 d = sp_la d ∧ e2 d = 0 ∧ e3 d = 0 := by simp [e1, e2, e3, h]
theorem e8_7n {d : sp_T} (h : sp_so d = 7) {k : Nat} (hk : k < 4) : e8 d k = sp_nu d k := by simp [e8, h, hk]
theorem e8_7p {d : sp_T} (h : sp_so d = 7) (k : Nat) : e8 d (4 + k) = px (sp_pa d k) := by
  unfold e8
  rw [if_pos h, if_neg (by omega), Nat.add_sub_cancel_left]
theorem e8_0 {d : sp_T} (h : ¬ sp_so d = 7) (k : Nat) : e8 d k = 0 := by simp [e8, h]
theorem all4 {P : Nat → Prop} (h0 : P 0) (h1 : P 1) (h2 : P 2) (h3 : P 3) : ∀ k, k < 4 → P k := by
  intro k hk
  rcases (show k = 0 ∨ k = 1 ∨ k = 2 ∨ k = 3 by omega) with rfl | rfl | rfl | rfl
  · exact h0
  · exact h1
  · exact h2
  · exact h3
/-- two terms are made alike just if their numbers are -/
theorem enc_lk {t : Nat → sp_T} {n m : Nat} {x d : sp_T} (hn : n ≤ 512) (hm : m ≤ 512) (hx : sp_wf t n x) (hd : sp_wf t m d) (n1 : ¬ sp_so d = 1) : sp_lk x d ↔ (sp_so x = sp_so d ∧ e1 x = e1 d ∧ e2 x = e2 d ∧ e3 x = e3 d ∧ (sp_so d = 7 → ∀ k, k < 8 → e8 x k = e8 d k)) := by
  constructor
  · rintro ⟨-, h1, h2, h3⟩
    refine ⟨h1, ?_, ?_, ?_, fun h7 k hk => ?_⟩
    · unfold e1; rw [h1, h2, (h3 0 (by omega)).1]
    · unfold e2; rw [h1, (h3 0 (by omega)).1, (h3 1 (by omega)).1]
    · unfold e3; rw [h1, (h3 1 (by omega)).1, (h3 2 (by omega)).1]
    · unfold e8
      rw [h1]
      by_cases h4 : k < 4
      · rw [if_pos h4, if_pos h4, (h3 k h4).2]
      · rw [if_neg h4, if_neg h4, (h3 (k - 4) (by omega)).1]
  · rintro ⟨h1, q1, q2, q3, q8⟩
    have px_i : ∀ k, k < 4 → px (sp_pa x k) = px (sp_pa d k) → sp_pa x k = sp_pa d k := fun k hk e => px_inj (fun j h => by have := hx.1 k hk j h; omega) (fun j h => by have := hd.1 k hk j h; omega) e
    have zx := wf_no hx
    have zd := wf_no hd
    rcases wf_sort hd with h | h | h | h | h | h | h
    · exact absurd h n1
    · have hx' := h1.trans h
      have a := e_2 h
      have b := e_2 hx'
      refine ⟨by rw [hx']; decide, h1, (wf_la hx (by rw [hx']; decide) (by rw [hx']; decide)).trans (wf_la hd (by rw [h]; decide) (by rw [h]; decide)).symm, fun k hk => ⟨?_, (wf_nu hx (by rw [hx']; decide) k hk).trans (wf_nu hd (by rw [h]; decide) k hk).symm⟩⟩
      revert k
      refine all4 (px_i 0 (by omega) ?_) ?_ ?_ ?_
      · rw [← a.1, ← b.1]; exact q1
      · rw [(zx.2.1 hx').1, (zd.2.1 h).1]
      · rw [(zx.2.1 hx').2.1, (zd.2.1 h).2.1]
      · rw [(zx.2.1 hx').2.2, (zd.2.1 h).2.2]
    · have hx' := h1.trans h
      have a := e_3 h
      have b := e_3 hx'
      refine ⟨by rw [hx']; decide, h1, (wf_la hx (by rw [hx']; decide) (by rw [hx']; decide)).trans (wf_la hd (by rw [h]; decide) (by rw [h]; decide)).symm, fun k hk => ⟨?_, (wf_nu hx (by rw [hx']; decide) k hk).trans (wf_nu hd (by rw [h]; decide) k hk).symm⟩⟩
      revert k
      refine all4 (px_i 0 (by omega) ?_) (px_i 1 (by omega) ?_) ?_ ?_
      · rw [← a.1, ← b.1]; exact q1
      · rw [← a.2.1, ← b.2.1]; exact q2
      · rw [(zx.2.2.1 hx').1, (zd.2.2.1 h).1]
      · rw [(zx.2.2.1 hx').2, (zd.2.2.1 h).2]
    · have hx' := h1.trans h
      have a := e_4 h
      have b := e_4 hx'
      refine ⟨by rw [hx']; decide, h1, by rw [← a.1, ← b.1]; exact q1, fun k hk => ⟨?_, (wf_nu hx (by rw [hx']; decide) k hk).trans (wf_nu hd (by rw [h]; decide) k hk).symm⟩⟩
      revert k
      refine all4 (px_i 0 (by omega) ?_) (px_i 1 (by omega) ?_) ?_ ?_
      · rw [← a.2.1, ← b.2.1]; exact q2
      · rw [← a.2.2, ← b.2.2]; exact q3
      · rw [(zx.2.2.2.1 hx').1, (zd.2.2.2.1 h).1]
      · rw [(zx.2.2.2.1 hx').2, (zd.2.2.2.1 h).2]
    · have hx' := h1.trans h
      have a := e_5 h
      have b := e_5 hx'
      refine ⟨by rw [hx']; decide, h1, (wf_la hx (by rw [hx']; decide) (by rw [hx']; decide)).trans (wf_la hd (by rw [h]; decide) (by rw [h]; decide)).symm, fun k hk => ⟨?_, (wf_nu hx (by rw [hx']; decide) k hk).trans (wf_nu hd (by rw [h]; decide) k hk).symm⟩⟩
      revert k
      refine all4 (px_i 0 (by omega) ?_) (px_i 1 (by omega) ?_) (px_i 2 (by omega) ?_) ?_
      · rw [← a.1, ← b.1]; exact q1
      · rw [← a.2.1, ← b.2.1]; exact q2
      · rw [← a.2.2, ← b.2.2]; exact q3
      · rw [zx.2.2.2.2.1 hx', zd.2.2.2.2.1 h]
    · have hx' := h1.trans h
      have a := e_6 h
      have b := e_6 hx'
      refine ⟨by rw [hx']; decide, h1, (wf_la hx (by rw [hx']; decide) (by rw [hx']; decide)).trans (wf_la hd (by rw [h]; decide) (by rw [h]; decide)).symm, fun k hk => ⟨?_, (wf_nu hx (by rw [hx']; decide) k hk).trans (wf_nu hd (by rw [h]; decide) k hk).symm⟩⟩
      revert k
      refine all4 (px_i 0 (by omega) ?_) (px_i 1 (by omega) ?_) ?_ ?_
      · rw [← a.1, ← b.1]; exact q1
      · rw [← a.2.1, ← b.2.1]; exact q2
      · rw [(zx.2.2.2.2.2 hx').1, (zd.2.2.2.2.2 h).1]
      · rw [(zx.2.2.2.2.2 hx').2, (zd.2.2.2.2.2 h).2]
    · have hx' := h1.trans h
      have a := e_7 h
      have b := e_7 hx'
      have q8 := q8 h
      refine ⟨by rw [hx']; decide, h1, by rw [← a.1, ← b.1]; exact q1, fun k hk => ⟨px_i k hk ?_, ?_⟩⟩
      · rw [← e8_7p h, ← e8_7p hx']; exact q8 (4 + k) (by omega)
      · rw [← e8_7n h hk, ← e8_7n hx' hk]; exact q8 k (by omega)
theorem sp_rg_s {rg : Nat → Option Nat} {x : Int32} {i : Nat} (h : sp_rg rg x = some i) : ∃ j, j < 64 ∧ x = nI j ∧ rg j = some i := by
  cases hx : sp_ir x with
  | false => rw [sp_rg_no hx] at h; cases h
  | true =>
    obtain ⟨j, hj, rfl⟩ := sp_ir_of hx
    rw [sp_rg_nI hj] at h
    exact ⟨j, hj, rfl, h⟩
theorem isS {α : Type} {o : Option α} (h : o.isSome = true) : ∃ i, o = some i := Option.isSome_iff_exists.mp h
theorem isN {α : Type} {o : Option α} (h : o.isSome = false) : o = none := by cases o with
  | none => rfl
  | some x => cases h
