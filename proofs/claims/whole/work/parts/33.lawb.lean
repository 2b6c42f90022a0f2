/-! THE LAW: both worlds side by side -/
theorem sm_H.kept {G : sg_G} {mb n : Nat} {t : Nat → sp_T} {rg : Nat → Option Nat} {g : Nat → Prop} {H H1 : Heap} (h : sm_H G mb n t rg g H) (hq : ∀ q, mb ≤ q → q < mb + 10 → H1[q]? = H[q]?) : sm_H G mb n t rg g H1 := by
  obtain ⟨so, on, tw, th, ce, kb, li, re, ns, hM, hr⟩ := h
  exact ⟨so, on, tw, th, ce, kb, li, re, ns, hM.kept hq, hr⟩
theorem sm_H.ob {G : sg_G} {mb n : Nat} {t : Nat → sp_T} {rg : Nat → Option Nat} {g : Nat → Prop} {H : Heap} (h : sm_H G mb n t rg g H) : ∃ fs, ob_ G H mb 2 fs := by
  obtain ⟨so, on, tw, th, ce, kb, li, re, ns, hM, hr⟩ := h
  exact ⟨_, hM.2.2.1⟩
theorem sc_H.kept {G : sg_G} {b lo n : Nat} {t : Nat → sp_T} {rg : Nat → Option Nat} {g : Nat → Prop} {H H1 : Heap} (h : sc_H G b lo n t rg g H) (hz : H.size ≤ H1.size) (hq : ∀ q, (q < b + 4 ∨ lo ≤ q) → b ≤ q → q < H.size → H1[q]? = H[q]?) : sc_H G b lo n t rg g H1 := by
  obtain ⟨ta, na, pa, dv, ⟨fc, hC, hf⟩, hr⟩ := h
  exact ⟨ta, na, pa, dv, ⟨fc, hC.kept hz hq, hf⟩, hr⟩
theorem sc_H.ob {G : sg_G} {b lo n : Nat} {t : Nat → sp_T} {rg : Nat → Option Nat} {g : Nat → Prop} {H : Heap} (h : sc_H G b lo n t rg g H) : ∃ fs, ob_ G H b 1 fs := by
  obtain ⟨ta, na, pa, dv, ⟨fc, hC, hf⟩, hr⟩ := h
  exact ⟨_, hC.2.2.2.2.2.1⟩
def lw_J (G : sg_G) (b : Nat) (a : sp_S) (H : Heap) : Prop := sc_HS G b (b + 14) a H ∧ sm_HS G (b + 4) a H
/-- behind a call of the class: the reference's world is as it was -/
theorem lw_J1 {G : sg_G} {b : Nat} {a : sp_S} {H H1 : Heap} (h : sm_HS G (b + 4) a H) (hF : sc_F b (b + 14) H H1) : sm_HS G (b + 4) a H1 := sm_H.kept h (fun q h1 h2 => hF.2 q (by omega) (by omega))
/-- behind a call of the reference: the class's world is as it was -/
theorem lw_J2 {G : sg_G} {b : Nat} {a : sp_S} {H H1 : Heap} (h : sc_HS G b (b + 14) a H) (hF : sm_F (b + 4) H H1) : sc_HS G b (b + 14) a H1 := sc_H.kept h (Nat.le_of_eq hF.1.symm) (fun q h1 h2 h3 => hF.2 q (by omega))
theorem sp_mi_n (a : sp_S) (r : Int32) (d : sp_T) : (sp_mi a r d).2.1 ≤ a.1 + 1 := by
  unfold sp_mi
  split
  · show (sp_mkS a r.toNatClampNeg d).1 ≤ _
    unfold sp_mkS
    split
    · exact Nat.le_succ _
    · exact Nat.le_refl _
  · exact Nat.le_succ _
theorem opn_secret (a : sp_S) (w1 : Int32) : (op_secret a w1).2.1 ≤ a.1 + 1 := by
  unfold op_secret
  repeat' split
  all_goals first | exact sp_mi_n _ _ _ | exact Nat.le_succ _
theorem opn_face (a : sp_S) (w1 w2 : Int32) : (op_face a w1 w2).2.1 ≤ a.1 + 1 := by
  unfold op_face
  repeat' split
  all_goals first | exact sp_mi_n _ _ _ | exact Nat.le_succ _
theorem opn_shared (a : sp_S) (w1 w2 w3 : Int32) : (op_shared a w1 w2 w3).2.1 ≤ a.1 + 1 := by
  unfold op_shared
  repeat' split
  all_goals first | exact sp_mi_n _ _ _ | exact Nat.le_succ _
theorem opn_agreed (a : sp_S) (w1 w2 w3 : Int32) : (op_agreed a w1 w2 w3).2.1 ≤ a.1 + 1 := by
  unfold op_agreed
  repeat' split
  all_goals first | exact sp_mi_n _ _ _ | exact Nat.le_succ _
theorem opn_mix (a : sp_S) (w1 w2 w3 w4 : Int32) : (op_mix a w1 w2 w3 w4).2.1 ≤ a.1 + 1 := by
  unfold op_mix
  repeat' split
  all_goals first | exact sp_mi_n _ _ _ | exact Nat.le_succ _
theorem opn_sealed (a : sp_S) (w1 w2 w3 w4 : Int32) : (op_sealed a w1 w2 w3 w4).2.1 ≤ a.1 + 1 := by
  unfold op_sealed
  repeat' split
  all_goals first | exact sp_mi_n _ _ _ | exact Nat.le_succ _
theorem opn_signed (a : sp_S) (w1 w2 w3 : Int32) : (op_signed a w1 w2 w3).2.1 ≤ a.1 + 1 := by
  unfold op_signed
  repeat' split
  all_goals first | exact sp_mi_n _ _ _ | exact Nat.le_succ _
theorem opn_row (a : sp_S) (w1 w2 : Int32) : (op_row a w1 w2).2.1 ≤ a.1 + 1 := by
  unfold op_row
  repeat' split
  all_goals first | exact sp_mi_n _ _ _ | exact Nat.le_succ _
theorem opn_alter (a : sp_S) (w1 w2 w3 w4 : Int32) : (op_alter a w1 w2 w3 w4).2.1 ≤ a.1 + 1 := by
  unfold op_alter
  repeat' split
  all_goals first | exact sp_mi_n _ _ _ | exact Nat.le_succ _
theorem opn_swap (a : sp_S) (w1 w2 w3 w4 : Int32) : (op_swap a w1 w2 w3 w4).2.1 ≤ a.1 + 1 := by
  unfold op_swap
  repeat' split
  all_goals first | exact sp_mi_n _ _ _ | exact Nat.le_succ _
theorem opn_part (a : sp_S) (w1 w2 w3 : Int32) : (op_part a w1 w2 w3).2.1 ≤ a.1 + 1 := by
  unfold op_part
  repeat' split
  all_goals first | exact sp_mi_n _ _ _ | exact Nat.le_succ _
theorem opn_give (a : sp_S) (w1 : Int32) : (op_give a w1).2.1 ≤ a.1 + 1 := by
  unfold op_give
  repeat' split
  all_goals first | exact sp_mi_n _ _ _ | exact Nat.le_succ _
section LAW
variable {p : Program} {l : Launch} {e : Env} {R : Room} {s : State} {m : MethodId} {args : Array Value} {below : List Frame} {meth : Method} {c : Code} {H : Heap} {cells slots : Nat} {Q : State → Prop} {G : sg_G} {cc : ByteArray} {pc : Nat} {ls : Array Slot} {rest : List Value} {b L : Nat} {ys : Nat → Int32}
theorem lw_nA (hB : sg_B G = s.heap.size) (hbl : b < s.heap.size) : ¬ sg_fr G b := by
  show ¬ sg_B G ≤ b
  omega
theorem x_sld (hx : p.tables.exec = Jvm.exec) (hb : c.code = cc) (hX : va_X b L ys s s.heap) (hbl : b < s.heap.size) (hB : sg_B G = s.heap.size) (hL : L ≤ 2560) {i : Int32} (k : Nat) (hi : i = nI k) (hk : k < L) (hdg : decode cc pc = .ok (.iaload, 1))
    (kk : xV p l e R s m args below meth c G H cells slots Q (F0 m (pc + 1) ls (.int (ys k) :: rest))) : xV p l e R s m args below meth c G H cells slots Q (F0 m pc ls (.int i :: .ref b :: rest)) := fun locs hS => by
  subst hi
  refine va_sld (A := sg_fr G) hx hb hX hbl (lw_nA hB hbl) hS (vp_in_nI hk (by omega)) hdg ?_
  rw [nI_clamp (by omega)]
  exact kk locs hS
theorem x_slen (hx : p.tables.exec = Jvm.exec) (hb : c.code = cc) (hX : va_X b L ys s s.heap) (hbl : b < s.heap.size) (hB : sg_B G = s.heap.size) (hdg : decode cc pc = .ok (.arraylength, 1))
    (kk : xV p l e R s m args below meth c G H cells slots Q (F0 m (pc + 1) ls (.int (nI L) :: rest))) : xV p l e R s m args below meth c G H cells slots Q (F0 m pc ls (.ref b :: rest)) := fun locs hS =>
  va_slen (A := sg_fr G) hx hb hX hbl (lw_nA hB hbl) hS hdg (kk locs hS)
theorem lw_ge {L k : Nat} (hL : L ≤ 2560) (hk : k ≤ L) (h : ¬ nI L - 5 < nI k) : k + 5 ≤ L := by
  have h1 : (nI L - 5).toInt = (L : Int) - 5 := pk_sub_toInt (a := L) (b := 5) (by omega) (by omega)
  have h2 : (nI k).toInt = (k : Int) := nI_toInt (by omega)
  have h3 : ¬ (nI L - 5).toInt < (nI k).toInt := fun q => h (Int32.lt_iff_toInt_lt.mpr q)
  omega
end LAW
