/-! THE CLASS'S WORLD. b: the object; b + 1 the registers, b + 2 what is made, b + 3 the zeros; all else of the class lies from lo on. Terms by their places: ta i the term, na i its numbers, pa i its parts. -/
/-- how a term is made, its parts lying below n -/
def sp_wf (t : Nat → sp_T) (n : Nat) (d : sp_T) : Prop := sp_bd n d ∧
  ((sp_so d = 1 ∧ sp_la d = 0 ∧ (∀ k, k < 4 → sp_nu d k = 0) ∧ ∀ k, k < 4 → sp_pa d k = none) ∨
   (sp_so d = 2 ∧ sp_la d = 0 ∧ (∀ k, k < 4 → sp_nu d k = 0) ∧ (∃ x, sp_pa d 0 = some x ∧ sp_so (t x) = 1) ∧ sp_pa d 1 = none ∧ sp_pa d 2 = none ∧ sp_pa d 3 = none) ∨
   (sp_so d = 3 ∧ sp_la d = 0 ∧ (∀ k, k < 4 → sp_nu d k = 0) ∧ (∃ x y, sp_pa d 0 = some x ∧ sp_pa d 1 = some y ∧ sp_so (t x) = 1 ∧ sp_so (t y) = 1) ∧ sp_pa d 2 = none ∧ sp_pa d 3 = none) ∨
   (sp_so d = 4 ∧ (∀ k, k < 4 → sp_nu d k = 0) ∧ (∃ x, sp_pa d 0 = some x) ∧ sp_pa d 2 = none ∧ sp_pa d 3 = none) ∨
   (sp_so d = 5 ∧ sp_la d = 0 ∧ (∀ k, k < 4 → sp_nu d k = 0) ∧ (∃ x y z, sp_pa d 0 = some x ∧ sp_pa d 1 = some y ∧ sp_pa d 2 = some z) ∧ sp_pa d 3 = none) ∨
   (sp_so d = 6 ∧ sp_la d = 0 ∧ (∀ k, k < 4 → sp_nu d k = 0) ∧ (∃ x y, sp_pa d 0 = some x ∧ sp_pa d 1 = some y ∧ sp_so (t x) = 1) ∧ sp_pa d 2 = none ∧ sp_pa d 3 = none) ∨
   (sp_so d = 7 ∧ ∃ k, k < 7 ∧ sp_la d = nI (k + 1)))
/-- a term's object -/
def sc_O (G : sg_G) (H : Heap) (b lo : Nat) (ta : Nat → Nat) (d : sp_T) (w nw pw : Nat) (pl : Int32) (dv fc : Bool) : Prop :=
  lo ≤ w ∧ (nw = b + 3 ∨ lo ≤ nw) ∧ lo ≤ pw ∧ tob G H w (sp_so d) (sp_la d) nw pw pl dv fc ∧ ia_ G H nw 4 (sp_nu d) ∧ ra_ G H pw 4 (fun k => (sp_pa d k).map ta)
def sc_X (G : sg_G) (b lo n : Nat) (t : Nat → sp_T) (dv fc : Nat → Bool) (rg : Nat → Option Nat) (dc : Nat) (ta na pa : Nat → Nat) (H : Heap) : Prop :=
  ((sg_D G).1 0 ≠ sg_I G ∧ (sg_D G).1 0 ≠ sg_Y G) ∧ sg_B G ≤ b ∧ b + 4 ≤ lo ∧ lo ≤ H.size ∧ n ≤ 512 ∧
  ob_ G H b 1 [.ref (b + 1), .ref (b + 2), .int (nI n), .int (nI dc), .ref (b + 3)] ∧
  ra_ G H (b + 1) 64 (fun k => (rg k).map ta) ∧ ra_ G H (b + 2) 512 (fun k => if k < n then some (ta k) else none) ∧ ia_ G H (b + 3) 4 (fun _ => 0) ∧
  (∀ i, i < n → sc_O G H b lo ta (t i) (ta i) (na i) (pa i) (nI i) (dv i) (fc i)) ∧ (∀ k, k < 64 → ∀ i, rg k = some i → i < n) ∧ ∀ i, i < n → sp_wf t i (t i)
/-- what a call of the class leaves as it was -/
def sc_F (b lo : Nat) (H H' : Heap) : Prop := H.size ≤ H'.size ∧ ∀ q, b + 3 ≤ q → q < lo → H'[q]? = H[q]?
theorem sc_F.rf {b lo : Nat} {H : Heap} : sc_F b lo H H := ⟨Nat.le_refl _, fun _ _ _ => rfl⟩
theorem sc_F.tr {b lo : Nat} {H H1 H2 : Heap} (h1 : sc_F b lo H H1) (h2 : sc_F b lo H1 H2) : sc_F b lo H H2 := ⟨Nat.le_trans h1.1 h2.1, fun q a c => (h2.2 q a c).trans (h1.2 q a c)⟩
theorem ob_ia {G : sg_G} {H : Heap} {a a' n : Nat} {fs : List Value} {f : Nat → Int32} (hw : (sg_D G).1 0 ≠ sg_I G) (h : ob_ G H a 0 fs) (h' : ia_ G H a' n f) : a' ≠ a := by
  rintro rfl
  obtain ⟨r, h1, cell, q1, q2, q3, q4⟩ := h
  have h2 : H[a']? = some (arrV (sg_I G) n (fun j => .int (f j))) := h'
  have e := Option.some.inj (q1.symm.trans h2)
  rw [e] at q2
  exact hw q2.symm
theorem ob_ra {G : sg_G} {H : Heap} {a a' n : Nat} {fs : List Value} {f : Nat → Option Nat} (hw : (sg_D G).1 0 ≠ sg_Y G) (h : ob_ G H a 0 fs) (h' : ra_ G H a' n f) : a' ≠ a := by
  rintro rfl
  obtain ⟨r, h1, cell, q1, q2, q3, q4⟩ := h
  have h2 : H[a']? = some (arrV (sg_Y G) n (fun j => va_rf (f j))) := h'
  have e := Option.some.inj (q1.symm.trans h2)
  rw [e] at q2
  exact hw q2.symm
/-- one object, one list of fields -/
theorem ob_one {G : sg_G} {H : Heap} {a ci : Nat} {fs fs' : List Value} (h : ob_ G H a ci fs) (h' : ob_ G H a ci fs') {r : vw_C} (hc : vwCl[ci]? = some r) {k : Nat} (hk : k < r.2.2) : vp_V fs k = vp_V fs' k := by
  obtain ⟨r1, h1, cell, q1, q2, q3, q4⟩ := h
  obtain ⟨r2, g1, cell', p1, p2, p3, p4⟩ := h'
  have e := Option.some.inj (q1.symm.trans p1)
  subst e
  have e1 : r1 = r := Option.some.inj (h1.symm.trans hc)
  have e2 : r2 = r := Option.some.inj (g1.symm.trans hc)
  subst e1
  subst e2
  have := (q4 k hk).symm.trans (p4 k hk)
  exact Option.some.inj this
theorem tob_pl {G : sg_G} {H : Heap} {a na pa na' pa' : Nat} {so la pl so' la' pl' : Int32} {dv fc dv' fc' : Bool} (h : tob G H a so la na pa pl dv fc) (h' : tob G H a so' la' na' pa' pl' dv' fc') : pl = pl' := by
  have := ob_one h h' (r := (RX0, TX0, 7)) rfl (k := 4) (by decide)
  exact Value.int.inj this
section SCX
variable {G : sg_G} {b lo n dc : Nat} {t : Nat → sp_T} {dv fc : Nat → Bool} {rg : Nat → Option Nat} {ta na pa : Nat → Nat} {H : Heap}
theorem sc_inj (h : sc_X G b lo n t dv fc rg dc ta na pa H) {i j : Nat} (hi : i < n) (hj : j < n) (e : ta i = ta j) : i = j := by
  obtain ⟨-, -, -, -, hn, -, -, -, -, hT, -⟩ := h
  have h1 := (hT i hi).2.2.2.1
  have h2 := (hT j hj).2.2.2.1
  rw [e] at h1
  exact (nI_eq (by omega) (by omega)).mp (tob_pl h1 h2)
theorem sc_injo (h : sc_X G b lo n t dv fc rg dc ta na pa H) {o o' : Option Nat} (ho : ∀ j, o = some j → j < n) (ho' : ∀ j, o' = some j → j < n) (e : o.map ta = o'.map ta) : o = o' := by
  cases o with
  | none => cases o' with
    | none => rfl
    | some y => cases e
  | some x => cases o' with
    | none => cases e
    | some y => rw [sc_inj h (ho x rfl) (ho' y rfl) (Option.some.inj e)]
theorem sc_O.kept {H1 : Heap} {d : sp_T} {w nw pw : Nat} {pl : Int32} {v f : Bool} (h : sc_O G H b lo ta d w nw pw pl v f) (h1 : H1[w]? = H[w]?) (h2 : H1[nw]? = H[nw]?) (h3 : H1[pw]? = H[pw]?) : sc_O G H1 b lo ta d w nw pw pl v f :=
  ⟨h.1, h.2.1, h.2.2.1, h.2.2.2.1.kept h1, h.2.2.2.2.1.kept h2, h.2.2.2.2.2.kept h3⟩
/-- nothing of the class has changed -/
theorem sc_X.kept {H1 : Heap} (h : sc_X G b lo n t dv fc rg dc ta na pa H) (hz : H.size ≤ H1.size) (hq : ∀ q, (q < b + 4 ∨ lo ≤ q) → b ≤ q → q < H.size → H1[q]? = H[q]?) : sc_X G b lo n t dv fc rg dc ta na pa H1 := by
  obtain ⟨hw, h0, h4, hl, hn, hX, hR, hM, hZ, hT, hr, hwf⟩ := h
  refine ⟨hw, h0, h4, by omega, hn, hX.kept (hq _ (by omega) (by omega) (va_at.lt hX)), hR.kept (hq _ (by omega) (by omega) (va_at.lt hR)), hM.kept (hq _ (by omega) (by omega) (va_at.lt hM)), hZ.kept (hq _ (by omega) (by omega) (va_at.lt hZ)), fun i hi => ?_, hr, hwf⟩
  have a := hT i hi
  obtain ⟨a1, a2, a3, a4, a5, a6⟩ := id a
  exact a.kept (hq _ (by omega) (by omega) (va_at.lt a4)) (hq _ (by omega) (by omega) (va_at.lt a5)) (hq _ (by omega) (by omega) (va_at.lt a6))
/-- a term's two marks change -/
theorem sc_fl {H1 : Heap} {dv' fc' : Nat → Bool} (h : sc_X G b lo n t dv fc rg dc ta na pa H) {i : Nat} (hi : i < n) (hd : ∀ j, j ≠ i → dv' j = dv j) (hf : ∀ j, j ≠ i → fc' j = fc j) (ho : tob G H1 (ta i) (sp_so (t i)) (sp_la (t i)) (na i) (pa i) (nI i) (dv' i) (fc' i)) (hz : H1.size = H.size) (hq : ∀ q, q ≠ ta i → H1[q]? = H[q]?) : sc_X G b lo n t dv' fc' rg dc ta na pa H1 := by
  have inj := @sc_inj G b lo n dc t dv fc rg ta na pa H h
  obtain ⟨hw, h0, h4, hl, hn, hX, hR, hM, hZ, hT, hr, hwf⟩ := h
  obtain ⟨a1, a2, a3, a4, a5, a6⟩ := hT i hi
  refine ⟨hw, h0, h4, by omega, hn, hX.kept (hq _ (by omega)), hR.kept (hq _ (by omega)), hM.kept (hq _ (by omega)), hZ.kept (hq _ (by omega)), fun j hj => ?_, hr, hwf⟩
  obtain ⟨c1, c2, c3, c4, c5, c6⟩ := hT j hj
  by_cases e : j = i
  · subst e
    exact ⟨c1, c2, c3, ho, c5.kept (hq _ (ob_ia hw.1 a4 c5)), c6.kept (hq _ (ob_ra hw.2 a4 c6))⟩
  · rw [hd j e, hf j e]
    exact ⟨c1, c2, c3, c4.kept (hq _ (fun z => e (inj hj hi z))), c5.kept (hq _ (ob_ia hw.1 a4 c5)), c6.kept (hq _ (ob_ra hw.2 a4 c6))⟩
/-- the count of what is derived changes -/
theorem sc_dc {H1 : Heap} {dc' : Nat} (h : sc_X G b lo n t dv fc rg dc ta na pa H) (ho : ob_ G H1 b 1 [.ref (b + 1), .ref (b + 2), .int (nI n), .int (nI dc'), .ref (b + 3)]) (hz : H1.size = H.size) (hq : ∀ q, q ≠ b → H1[q]? = H[q]?) : sc_X G b lo n t dv fc rg dc' ta na pa H1 := by
  obtain ⟨hw, h0, h4, hl, hn, hX, hR, hM, hZ, hT, hr, hwf⟩ := h
  refine ⟨hw, h0, h4, by omega, hn, ho, hR.kept (hq _ (by omega)), hM.kept (hq _ (by omega)), hZ.kept (hq _ (by omega)), fun j hj => ?_, hr, hwf⟩
  have a := hT j hj
  obtain ⟨a1, a2, a3, a4, a5, a6⟩ := id a
  exact a.kept (hq _ (by omega)) (hq _ (by omega)) (hq _ (by omega))
/-- a register gets a term -/
theorem sc_rg {H1 : Heap} (h : sc_X G b lo n t dv fc rg dc ta na pa H) {k i : Nat} (hk : k < 64) (hi : i < n) (ho : ra_ G H1 (b + 1) 64 (va_up (fun k => (rg k).map ta) k (some (ta i)))) (hz : H1.size = H.size) (hq : ∀ q, q ≠ b + 1 → H1[q]? = H[q]?) : sc_X G b lo n t dv fc (va_up rg k (some i)) dc ta na pa H1 := by
  obtain ⟨hw, h0, h4, hl, hn, hX, hR, hM, hZ, hT, hr, hwf⟩ := h
  refine ⟨hw, h0, h4, by omega, hn, hX.kept (hq _ (by omega)), ra_to ho (fun j hj => ?_), hM.kept (hq _ (by omega)), hZ.kept (hq _ (by omega)), fun j hj => ?_, fun j hj x hx => ?_, hwf⟩
  · by_cases e : j = k
    · subst e; rw [va_up_self, va_up_self]; rfl
    · rw [va_up_ne _ _ e, va_up_ne _ _ e]
  · have a := hT j hj
    obtain ⟨a1, a2, a3, a4, a5, a6⟩ := id a
    exact a.kept (hq _ (by omega)) (hq _ (by omega)) (hq _ (by omega))
  · by_cases e : j = k
    · subst e; rw [va_up_self] at hx; cases hx; exact hi
    · rw [va_up_ne _ _ e] at hx; exact hr j hj x hx
/-- how a term is made doesn't depend on later ones -/
theorem sp_wf_to {t t' : Nat → sp_T} {n : Nat} {d : sp_T} (h : sp_wf t n d) (e : ∀ i, i < n → t' i = t i) : sp_wf t' n d := by
  obtain ⟨hb, h⟩ := h
  refine ⟨hb, ?_⟩
  rcases h with h | ⟨a, b, c, ⟨x, h1, h2⟩, h3⟩ | ⟨a, b, c, ⟨x, y, h1, h2, h3, h4⟩, h5⟩ | h | h | ⟨a, b, c, ⟨x, y, h1, h2, h3⟩, h4⟩ | h
  · exact Or.inl h
  · exact Or.inr (Or.inl ⟨a, b, c, ⟨x, h1, by rw [e x (hb 0 (by omega) x h1)]; exact h2⟩, h3⟩)
  · exact Or.inr (Or.inr (Or.inl ⟨a, b, c, ⟨x, y, h1, h2, by rw [e x (hb 0 (by omega) x h1)]; exact h3, by rw [e y (hb 1 (by omega) y h2)]; exact h4⟩, h5⟩))
  · exact Or.inr (Or.inr (Or.inr (Or.inl h)))
  · exact Or.inr (Or.inr (Or.inr (Or.inr (Or.inl h))))
  · exact Or.inr (Or.inr (Or.inr (Or.inr (Or.inr (Or.inl ⟨a, b, c, ⟨x, y, h1, h2, by rw [e x (hb 0 (by omega) x h1)]; exact h3⟩, h4⟩)))))
  · exact Or.inr (Or.inr (Or.inr (Or.inr (Or.inr (Or.inr h)))))
theorem mapta {ta : Nat → Nat} {n w : Nat} {o : Option Nat} (h : ∀ j, o = some j → j < n) : o.map (va_up ta n w) = o.map ta := by
  cases o with
  | none => rfl
  | some j => rw [Option.map_some, Option.map_some, va_up_ne _ _ (Nat.ne_of_lt (h j rfl))]
/-- one more term -/
theorem sc_grow {H1 : Heap} {d : sp_T} {w nw pw : Nat} (h : sc_X G b lo n t dv fc rg dc ta na pa H) (hn1 : n < 512) (hO : sc_O G H1 b lo ta d w nw pw (nI n) false false) (hne : ∀ i, i < n → ta i ≠ w) (hwf : sp_wf t n d)
    (hX1 : ob_ G H1 b 1 [.ref (b + 1), .ref (b + 2), .int (nI (n + 1)), .int (nI dc), .ref (b + 3)]) (hM1 : ra_ G H1 (b + 2) 512 (va_up (fun k => if k < n then some (ta k) else none) n (some w))) (hz : H1.size = H.size) (hob : ∃ fs, ob_ G H w 0 fs) (hq : ∀ q, q ≠ b → q ≠ b + 2 → q ≠ w → H1[q]? = H[q]?) :
    sc_X G b lo (n + 1) (va_up t n d) (va_up dv n false) (va_up fc n false) rg dc (va_up ta n w) (va_up na n nw) (va_up pa n pw) H1 := by
  obtain ⟨hw, h0, h4, hl, hn, hX, hR, hM, hZ, hT, hr, hwf0⟩ := h
  obtain ⟨fs, hob⟩ := hob
  have hO' := hO
  obtain ⟨o1, o2, o3, o4, o5, o6⟩ := hO
  refine ⟨hw, h0, h4, by omega, by omega, hX1, ?_, ra_to hM1 (fun j hj => ?_), hZ.kept (hq _ (by omega) (by omega) (by omega)), fun i hi => ?_, fun k hk i hi => ?_, fun i hi => ?_⟩
  · exact ra_to (hR.kept (hq _ (by omega) (by omega) (by omega))) (fun j hj => (mapta (hr j hj)).symm)
  · by_cases e : j = n
    · subst e; rw [va_up_self, if_pos (by omega), va_up_self]
    · rw [va_up_ne _ _ e, va_up_ne _ _ e]
      by_cases hjn : j < n
      · rw [if_pos hjn, if_pos (by omega)]
      · rw [if_neg hjn, if_neg (by omega)]
  · by_cases e : i = n
    · subst e
      rw [va_up_self, va_up_self, va_up_self, va_up_self, va_up_self, va_up_self]
      exact ⟨o1, o2, o3, o4, o5, ra_to o6 (fun k hk => (mapta (hwf.1 k hk)).symm)⟩
    · have hin : i < n := by omega
      rw [va_up_ne _ _ e, va_up_ne _ _ e, va_up_ne _ _ e, va_up_ne _ _ e, va_up_ne _ _ e, va_up_ne _ _ e]
      obtain ⟨c1, c2, c3, c4, c5, c6⟩ := hT i hin
      have hbw := hwf0 i hin
      refine ⟨c1, c2, c3, c4.kept (hq _ (by omega) (by omega) (hne i hin)), c5.kept (hq _ (by omega) (by omega) (ob_ia hw.1 hob c5)), ra_to (c6.kept (hq _ (by omega) (by omega) (ob_ra hw.2 hob c6))) (fun k hk => (mapta (fun j hj => Nat.lt_trans (hbw.1 k hk j hj) hin)).symm)⟩
  · have := hr k hk i hi
    omega
  · by_cases e : i = n
    · subst e
      rw [va_up_self]
      exact sp_wf_to hwf (fun j hj => va_up_ne _ _ (Nat.ne_of_lt hj))
    · rw [va_up_ne _ _ e]
      exact sp_wf_to (hwf0 i (by omega)) (fun j hj => va_up_ne _ _ (by omega))
end SCX
