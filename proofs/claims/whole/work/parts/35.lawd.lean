section LAWD
variable {p : Program} {e : Env} {s : State} {m : MethodId} {below : List Frame} {meth : Method} {c : Code} {G : sg_G} {b L : Nat} {ys : Nat → Int32}
set_option maxHeartbeats 4000000 in
set_option maxRecDepth 100000 in
theorem law_loop (l : Launch) (hX : va_X b L ys s s.heap) (hbl : b < s.heap.size) (hB : sg_B G = s.heap.size) (hL : L ≤ 2560) (E : xE p s m #[Value.ref b] meth c G RL cL_law 4 ret) : ∀ (d k0 n : Nat) (t : Nat → sp_T) (rg : Nat → Option Nat) (g : Nat → Prop) (H : Heap) (ls : Array Slot), 5 * k0 ≤ L → L < 5 * k0 + 5 * d → n ≤ k0 → lw_J G s.heap.size (n, t, rg, g) H → lv_has ls 4 [(3, .int (nI (5 * k0))), (2, .ref (s.heap.size + 4)), (1, .ref s.heap.size), (0, .ref b)] → xV p l e room_1 s m #[Value.ref b] below meth c G H (14 + 2 * k0) (10268 + 11 * k0) (lw_Z below #[Value.ref b] s) (F0 m 18 ls []) := by
  obtain ⟨hx, hb, hml, hown, hts, hr, hlocks, hK, hbs⟩ := id E
  intro d
  induction d with
  | zero => intro k0 n t rg g H ls h5 hd; omega
  | succ d ih =>
    intro k0 n t rg g H ls h5 hd hn hJ hl
    refine xl (fun _ => lv_iload_n hx hb dL_law_18 rfl (lv_at hl 0 rfl)) ?_
    refine xl (fun _ => lv_aload_n hx hb dL_law_19 rfl (lv_at hl 3 rfl)) ?_
    refine x_slen hx hb hX hbl hB dL_law_20 ?_
    refine xl (fun _ => lv_iconst (v := 5) hx hb dL_law_21 (by decide)) ?_
    refine xl (fun _ => lv_isub hx hb dL_law_22) ?_
    refine xb (fun _ => lv_icmp_gt (tgt := 753) hx hb dL_law_23 (by decide)) (fun _ => ?_) (fun q => ?_)
    · refine xl (fun _ => lv_iconst (v := 1) hx hb dL_law_753 (by decide)) ?_
      exact fun locs hS => va_forget (fun q hq => by rw [← hB]; exact hS.2.2 q hq) (W.widen (k := 600000) (n := 7302250) (by omega) (by omega) (lw_ret hx hb hr hlocks dL_law_754))
    · have h55 : 5 * k0 + 5 ≤ L := lw_ge hL h5 q
      refine xl (fun _ => lv_aload_n hx hb dL_law_26 rfl (lv_at hl 3 rfl)) ?_
      refine xl (fun _ => lv_iload_n hx hb dL_law_27 rfl (lv_at hl 0 rfl)) ?_
      refine x_sld hx hb hX hbl hB hL (5 * k0) rfl (by omega) dL_law_28 ?_
      refine xl (fun _ => lv_bipush (v := 31) hx hb dL_law_29 (by decide)) ?_
      refine xl (fun _ => lv_iand hx hb dL_law_31) ?_
      obtain ⟨j, hj, ej⟩ := pk_andE (ys (5 * k0)) (m := 31) 5 (by decide)
      rw [ej]
      have K : ∀ (a1 : sp_S) (H1 : Heap), a1.1 ≤ n + 1 → lw_J G s.heap.size a1 H1 → xV p l e room_1 s m #[Value.ref b] below meth c G H1 (14 + 2 * k0 + 2) (10268 + 11 * k0 + 11) (lw_Z below #[Value.ref b] s) (F0 m 747 ls []) := by
        intro a1 H1 ha1 hJ1
        obtain ⟨n1, t1, rg1, g1⟩ := a1
        have ha1 : n1 ≤ n + 1 := ha1
        refine xs (fun _ => lv_iinc (v := nI (5 * (k0 + 1))) (lv' := [(3, .int (nI (5 * (k0 + 1)))), (2, .ref (s.heap.size + 4)), (1, .ref s.heap.size), (0, .ref b)]) hx hb dL_law_747 hl (k := 0) rfl (nI_add (5 * k0) 5) (by decide) rfl) (fun ls hl => ?_)
        refine xl (fun _ => lv_goto (tgt := 18) hx hb dL_law_750 (by decide)) ?_
        exact xw (by omega) (by omega) (ih (k0 + 1) n1 t1 rg1 g1 H1 ls (by omega) (by omega) (by omega) hJ1 hl)
      rcases Nat.lt_or_ge j 17 with h17 | h17
      · rcases (show j = 0 ∨ j = 1 ∨ j = 2 ∨ j = 3 ∨ j = 4 ∨ j = 5 ∨ j = 6 ∨ j = 7 ∨ j = 8 ∨ j = 9 ∨ j = 10 ∨ j = 11 ∨ j = 12 ∨ j = 13 ∨ j = 14 ∨ j = 15 ∨ j = 16 by omega) with rfl | rfl | rfl | rfl | rfl | rfl | rfl | rfl | rfl | rfl | rfl | rfl | rfl | rfl | rfl | rfl | rfl
        · refine xl (fun _ => lv_tableIn (off := 84) (tgt := 116) hx hb dL_law_32 (by decide) (by decide) (by decide) (by decide)) ?_
          exact law_secret l hX hbl hB hL E h55 (by omega) hJ (by omega) (by omega) hl K
        · refine xl (fun _ => lv_tableIn (off := 107) (tgt := 139) hx hb dL_law_32 (by decide) (by decide) (by decide) (by decide)) ?_
          exact law_face l hX hbl hB hL E h55 (by omega) hJ (by omega) (by omega) hl K
        · refine xl (fun _ => lv_tableIn (off := 140) (tgt := 172) hx hb dL_law_32 (by decide) (by decide) (by decide) (by decide)) ?_
          exact law_shared l hX hbl hB hL E h55 (by omega) hJ (by omega) (by omega) hl K
        · refine xl (fun _ => lv_tableIn (off := 183) (tgt := 215) hx hb dL_law_32 (by decide) (by decide) (by decide) (by decide)) ?_
          exact law_agreed l hX hbl hB hL E h55 (by omega) hJ (by omega) (by omega) hl K
        · refine xl (fun _ => lv_tableIn (off := 226) (tgt := 258) hx hb dL_law_32 (by decide) (by decide) (by decide) (by decide)) ?_
          exact law_mix l hX hbl hB hL E h55 (by omega) hJ (by omega) (by omega) hl K
        · refine xl (fun _ => lv_tableIn (off := 279) (tgt := 311) hx hb dL_law_32 (by decide) (by decide) (by decide) (by decide)) ?_
          exact law_sealed l hX hbl hB hL E h55 (by omega) hJ (by omega) (by omega) hl K
        · refine xl (fun _ => lv_tableIn (off := 332) (tgt := 364) hx hb dL_law_32 (by decide) (by decide) (by decide) (by decide)) ?_
          exact law_signed l hX hbl hB hL E h55 (by omega) hJ (by omega) (by omega) hl K
        · refine xl (fun _ => lv_tableIn (off := 375) (tgt := 407) hx hb dL_law_32 (by decide) (by decide) (by decide) (by decide)) ?_
          exact law_row l hX hbl hB hL E h55 (by omega) hJ (by omega) (by omega) hl K
        · refine xl (fun _ => lv_tableIn (off := 408) (tgt := 440) hx hb dL_law_32 (by decide) (by decide) (by decide) (by decide)) ?_
          exact law_alter l hX hbl hB hL E h55 (by omega) hJ (by omega) (by omega) hl K
        · refine xl (fun _ => lv_tableIn (off := 461) (tgt := 493) hx hb dL_law_32 (by decide) (by decide) (by decide) (by decide)) ?_
          exact law_swap l hX hbl hB hL E h55 (by omega) hJ (by omega) (by omega) hl K
        · refine xl (fun _ => lv_tableIn (off := 514) (tgt := 546) hx hb dL_law_32 (by decide) (by decide) (by decide) (by decide)) ?_
          exact law_part l hX hbl hB hL E h55 (by omega) hJ (by omega) (by omega) hl K
        · refine xl (fun _ => lv_tableIn (off := 557) (tgt := 589) hx hb dL_law_32 (by decide) (by decide) (by decide) (by decide)) ?_
          exact law_give l hX hbl hB hL E h55 (by omega) hJ (by omega) (by omega) hl K
        · refine xl (fun _ => lv_tableIn (off := 580) (tgt := 612) hx hb dL_law_32 (by decide) (by decide) (by decide) (by decide)) ?_
          exact law_derived l hX hbl hB hL E h55 (by omega) hJ (by omega) (by omega) hl K
        · refine xl (fun _ => lv_tableIn (off := 603) (tgt := 635) hx hb dL_law_32 (by decide) (by decide) (by decide) (by decide)) ?_
          exact law_same l hX hbl hB hL E h55 (by omega) hJ (by omega) (by omega) hl K
        · refine xl (fun _ => lv_tableIn (off := 636) (tgt := 668) hx hb dL_law_32 (by decide) (by decide) (by decide) (by decide)) ?_
          exact law_good l hX hbl hB hL E h55 (by omega) hJ (by omega) (by omega) hl K
        · refine xl (fun _ => lv_tableIn (off := 659) (tgt := 691) hx hb dL_law_32 (by decide) (by decide) (by decide) (by decide)) ?_
          exact law_about l hX hbl hB hL E h55 (by omega) hJ (by omega) (by omega) hl K
        · refine xl (fun _ => lv_tableIn (off := 692) (tgt := 724) hx hb dL_law_32 (by decide) (by decide) (by decide) (by decide)) ?_
          exact law_count l hX hbl hB hL E h55 (by omega) hJ (by omega) (by omega) hl K
      · refine xl (fun _ => lv_tableOut (tgt := 747) hx hb dL_law_32 (Or.inr (by rw [nI_toInt (by omega)]; omega)) (by decide)) ?_
        exact xw (by omega) (by omega) (K (n, t, rg, g) H (Nat.le_succ _) hJ)
theorem cB_F : cB False = false := by
  cases h : cB False with
  | false => rfl
  | true => exact (cB_t.mp h).elim
/-- both worlds at their start -/
theorem lw_J0 {H : Heap} {b : Nat} (hw : (sg_D G).1 0 ≠ sg_I G ∧ (sg_D G).1 0 ≠ sg_Y G) (h0 : sg_B G ≤ b) (hz : H.size = b + 14) (hX : ob_ G H b 1 [.ref (b + 1), .ref (b + 2), .int 0, .int 0, .ref (b + 3)]) (hR : ra_ G H (b + 1) 64 (fun _ => none)) (hM : ra_ G H (b + 2) 512 (fun _ => none)) (hZ : ia_ G H (b + 3) 4 (fun _ => 0))
    (hm : sm_X G (b + 4) 0 (fun _ => 0) (fun _ => 0) (fun _ => 0) (fun _ => 0) (fun _ => 0) (fun _ => 0) (fun _ => 0) (fun _ => 0) (fun _ => 0) 0 H) : lw_J G b (0, (fun _ => (0, 0, (fun _ => 0), fun _ => none)), (fun _ => none), fun _ => False) H := by
  refine ⟨⟨fun _ => 0, fun _ => 0, fun _ => 0, fun _ => false, ⟨fun _ => false, ⟨hw, h0, by omega, by omega, by omega, hX, ra_to hR (fun _ _ => rfl), ra_to hM (fun j _ => by rw [if_neg (by show ¬ j < 0; omega)]), hZ, fun i hi => absurd hi (Nat.not_lt_zero i), (fun k _ i hi => by cases hi), fun i hi => absurd hi (Nat.not_lt_zero i)⟩, fun i hi => absurd hi (Nat.not_lt_zero i)⟩, fun i hi => absurd hi (Nat.not_lt_zero i), fun i hi => hi.elim⟩, ?_⟩
  obtain ⟨m0, m1, m2, d1, d2, d3, d4, d5, d6, d7, d8, d9⟩ := hm
  exact ⟨fun _ => 0, fun _ => 0, fun _ => 0, fun _ => 0, fun _ => 0, fun _ => false, fun _ => 0, fun _ => 0, 0, ⟨m0, m1, m2, d1, d2, d3, d4, d5, za_to d6 (fun j _ => by show 0 = bI (cB False); rw [cB_F]; rfl), za_to d7 (fun _ _ => rfl), d8, d9⟩, ⟨fun i hi => absurd hi (Nat.not_lt_zero i), fun _ _ => rfl, (fun k _ i hi => by cases hi), fun i hi => absurd hi (Nat.not_lt_zero i)⟩, fun i hi => absurd hi (Nat.not_lt_zero i), Nat.le_refl 0, fun i hi => hi.elim⟩
set_option maxHeartbeats 4000000 in
set_option maxRecDepth 100000 in
theorem law_start (l : Launch) (hX : va_X b L ys s s.heap) (hbl : b < s.heap.size) (hB : sg_B G = s.heap.size) (hL : L ≤ 2560) (hw : (sg_D G).1 0 ≠ sg_I G ∧ (sg_D G).1 0 ≠ sg_Y G) (E : xE p s m #[Value.ref b] meth c G RL cL_law 4 ret) (ls : Array Slot) (hl : lv_has ls 4 [(0, .ref b)]) : xV p l e room_1 s m #[Value.ref b] below meth c G s.heap 0 0 (lw_Z below #[Value.ref b] s) (F0 m 0 ls []) := by
  obtain ⟨hx, hb, hml, hown, hts, hr, hlocks, hK, hbs⟩ := id E
  refine x_new (ci := 1) (fs := [.null, .null, .int 0, .int 0, .null]) hx hb hts hown hK wiX1 tyX1 tyX1_ok wKL_7 wN_X1 wZ_X1 rfl (fun j hj => by rcases (show j = 0 ∨ j = 1 ∨ j = 2 ∨ j = 3 ∨ j = 4 by omega) with rfl | rfl | rfl | rfl | rfl <;> rfl) (by decide) (by decide) dL_law_0 (fun H1 ho1 hz1 hq1 => ?_)
  refine xl (fun _ => lv_dup hx hb dL_law_3 rfl) ?_
  refine x_callI E hl (c_X1_init l G H1 s.heap.size ho1 hz1 (Nat.le_of_eq hB)) xm_yX1_init rfl wML_9 wI_yX1_init (rest := [.ref s.heap.size]) rfl (by simp [cat_ref]) (by decide) ⟨by decide, by decide⟩ dL_law_4 (fun v1 H2 hp2 hz2 hq2 => ?_)
  obtain ⟨rfl, hs2, hX2, hR2, hM2, hZ2, -⟩ := hp2
  refine xg (g2 := F0 m 7 ls [.ref s.heap.size]) rfl ?_
  refine xs (fun _ => lv_astore_n (i := 1) (lv' := [(1, .ref s.heap.size), (0, .ref b)]) hx hb dL_law_7 rfl hl (by decide) rfl) (fun ls hl => ?_)
  refine x_new (ci := 2) (fs := [.int 0, .null, .null, .null, .null, .null, .null, .null, .null, .null, .int 0]) hx hb hts hown hK wiX2 tyX2 tyX2_ok wKL_10 wN_X2 wZ_X2 rfl (fun j hj => by rcases (show j = 0 ∨ j = 1 ∨ j = 2 ∨ j = 3 ∨ j = 4 ∨ j = 5 ∨ j = 6 ∨ j = 7 ∨ j = 8 ∨ j = 9 ∨ j = 10 by omega) with rfl | rfl | rfl | rfl | rfl | rfl | rfl | rfl | rfl | rfl | rfl <;> rfl) (by decide) (by decide) dL_law_8 (fun H3 ho3 hz3 hq3 => ?_)
  refine xl (fun _ => lv_dup hx hb dL_law_11 rfl) ?_
  refine xg (g2 := F0 m 12 ls [.ref (s.heap.size + 4), .ref (s.heap.size + 4)]) (by rw [hs2]) ?_
  rw [hs2] at ho3 hz3
  refine x_callI E hl (c_X2_init l G H3 (s.heap.size + 4) ho3 hz3 (by omega)) xm_yX2_init rfl wML_12 wI_yX2_init (rest := [.ref (s.heap.size + 4)]) rfl (by simp [cat_ref]) (by decide) ⟨by decide, by decide⟩ dL_law_12 (fun v4 H4 hp4 hz4 hq4 => ?_)
  obtain ⟨rfl, hs4, hm4, ho4⟩ := hp4
  refine xg (g2 := F0 m 15 ls [.ref (s.heap.size + 4)]) rfl ?_
  refine xs (fun _ => lv_astore_n (i := 2) (lv' := [(2, .ref (s.heap.size + 4)), (1, .ref s.heap.size), (0, .ref b)]) hx hb dL_law_15 rfl hl (by decide) rfl) (fun ls hl => ?_)
  refine xl (fun _ => lv_iconst (v := 0) hx hb dL_law_16 (by decide)) ?_
  refine xs (fun _ => lv_istore_n (i := 3) (lv' := [(3, .int (nI (5 * 0))), (2, .ref (s.heap.size + 4)), (1, .ref s.heap.size), (0, .ref b)]) hx hb dL_law_17 rfl hl (by decide) rfl) (fun ls hl => ?_)
  have kq : ∀ q, q < s.heap.size + 4 → H4[q]? = H2[q]? := fun q h => (ho4 q h).trans (hq3 q (by omega))
  have hJ := lw_J0 hw (Nat.le_of_eq hB) (by omega) (va_at.kept (H1 := H4) hX2 (kq _ (by omega))) (va_at.kept (H1 := H4) hR2 (kq _ (by omega))) (va_at.kept (H1 := H4) hM2 (kq _ (by omega))) (va_at.kept (H1 := H4) hZ2 (kq _ (by omega))) hm4
  exact law_loop l hX hbl hB hL E (L + 1) 0 0 _ _ _ H4 ls (by omega) (by omega) (Nat.le_refl 0) hJ hl
end LAWD
theorem st_w0 : Cond.laysStatic sg_own (sg_nm 0) "[I" ∈ lw_tbl := List.mem_append_right _ (List.mem_of_getElem? (i := 196) rfl)
theorem st_a0 : Cond.arrayOf (.static sg_own (sg_nm 0) "[I") .int ∈ flatC (Jvm.Cond.and given_1 narrow_1) := by decide +kernel
theorem st_l0 : Cond.eq (.length (.static sg_own (sg_nm 0) "[I")) (.int (Int32.ofNat (sg_len 0))) ∈ flatC (Jvm.Cond.and given_1 narrow_1) := by decide +kernel
theorem st_e0 : ∀ j, j < sg_len 0 → Cond.eq (.elem (.static sg_own (sg_nm 0) "[I") (.int (Int32.ofNat j))) (.int (sg_tab 0 j)) ∈ flatC (Jvm.Cond.and given_1 narrow_1) := by decide +kernel
theorem st_w1 : Cond.laysStatic sg_own (sg_nm 1) "[I" ∈ lw_tbl := List.mem_append_right _ (List.mem_of_getElem? (i := 198) rfl)
theorem st_a1 : Cond.arrayOf (.static sg_own (sg_nm 1) "[I") .int ∈ flatC (Jvm.Cond.and given_1 narrow_1) := by decide +kernel
theorem st_l1 : Cond.eq (.length (.static sg_own (sg_nm 1) "[I")) (.int (Int32.ofNat (sg_len 1))) ∈ flatC (Jvm.Cond.and given_1 narrow_1) := by decide +kernel
theorem st_e1 : ∀ j, j < sg_len 1 → Cond.eq (.elem (.static sg_own (sg_nm 1) "[I") (.int (Int32.ofNat j))) (.int (sg_tab 1 j)) ∈ flatC (Jvm.Cond.and given_1 narrow_1) := by decide +kernel
theorem st_w2 : Cond.laysStatic sg_own (sg_nm 2) "[I" ∈ lw_tbl := List.mem_append_right _ (List.mem_of_getElem? (i := 242) rfl)
theorem st_a2 : Cond.arrayOf (.static sg_own (sg_nm 2) "[I") .int ∈ flatC (Jvm.Cond.and given_1 narrow_1) := by decide +kernel
theorem st_l2 : Cond.eq (.length (.static sg_own (sg_nm 2) "[I")) (.int (Int32.ofNat (sg_len 2))) ∈ flatC (Jvm.Cond.and given_1 narrow_1) := by decide +kernel
theorem st_e2 : ∀ j, j < sg_len 2 → Cond.eq (.elem (.static sg_own (sg_nm 2) "[I") (.int (Int32.ofNat j))) (.int (sg_tab 2 j)) ∈ flatC (Jvm.Cond.and given_1 narrow_1) := by decide +kernel
theorem st_w3 : Cond.laysStatic sg_own (sg_nm 3) "[I" ∈ lw_tbl := List.mem_append_right _ (List.mem_of_getElem? (i := 244) rfl)
theorem st_a3 : Cond.arrayOf (.static sg_own (sg_nm 3) "[I") .int ∈ flatC (Jvm.Cond.and given_1 narrow_1) := by decide +kernel
theorem st_l3 : Cond.eq (.length (.static sg_own (sg_nm 3) "[I")) (.int (Int32.ofNat (sg_len 3))) ∈ flatC (Jvm.Cond.and given_1 narrow_1) := by decide +kernel
theorem st_e3 : ∀ j, j < sg_len 3 → Cond.eq (.elem (.static sg_own (sg_nm 3) "[I") (.int (Int32.ofNat j))) (.int (sg_tab 3 j)) ∈ flatC (Jvm.Cond.and given_1 narrow_1) := by decide +kernel
theorem st_w4 : Cond.laysStatic sg_own (sg_nm 4) "[I" ∈ lw_tbl := List.mem_append_right _ (List.mem_of_getElem? (i := 250) rfl)
theorem st_a4 : Cond.arrayOf (.static sg_own (sg_nm 4) "[I") .int ∈ flatC (Jvm.Cond.and given_1 narrow_1) := by decide +kernel
theorem st_l4 : Cond.eq (.length (.static sg_own (sg_nm 4) "[I")) (.int (Int32.ofNat (sg_len 4))) ∈ flatC (Jvm.Cond.and given_1 narrow_1) := by decide +kernel
theorem st_e4 : ∀ j, j < sg_len 4 → Cond.eq (.elem (.static sg_own (sg_nm 4) "[I") (.int (Int32.ofNat j))) (.int (sg_tab 4 j)) ∈ flatC (Jvm.Cond.and given_1 narrow_1) := by decide +kernel
theorem ao_w : Cond.arrayOver (.object sg_term) ∈ lw_tbl := List.mem_append_right _ (List.mem_of_getElem? (i := 14) rfl)
theorem st_of {args : Array Value} {s : State} (hts : ∀ w ∈ lw_tbl, w.before args s = true) (hgv : (Jvm.Cond.and given_1 narrow_1).before args s = true) (k : Nat) (h1 : Cond.laysStatic sg_own (sg_nm k) "[I" ∈ lw_tbl) (h2 : Cond.arrayOf (.static sg_own (sg_nm k) "[I") .int ∈ flatC (Jvm.Cond.and given_1 narrow_1)) (h3 : Cond.eq (.length (.static sg_own (sg_nm k) "[I")) (.int (Int32.ofNat (sg_len k))) ∈ flatC (Jvm.Cond.and given_1 narrow_1)) (h4 : ∀ j, j < sg_len k → Cond.eq (.elem (.static sg_own (sg_nm k) "[I") (.int (Int32.ofNat j))) (.int (sg_tab k j)) ∈ flatC (Jvm.Cond.and given_1 narrow_1)) (h5 : sg_len k < 2 ^ 31) :
    ∃ a : Nat, va_Z sg_own (sg_nm k) "[I" (.ref a) (fun q => s.heap.size ≤ q) s s.heap ∧ va_T .int a (sg_len k) (fun j => .int (sg_tab k j)) (fun q => s.heap.size ≤ q) s s.heap := by
  have hs := flat_of_before _ hgv
  have hA : ∀ a : Nat, a < s.heap.size → ¬ (fun q => s.heap.size ≤ q) a := fun a h => Nat.not_le.mpr h
  obtain ⟨a, e1, e2⟩ := va_Tof (f := fun j => .int (sg_tab k j)) (A := fun q => s.heap.size ≤ q) h5 (hs _ h2) (va_eqt (hs _ h3)) (fun j hj => va_eqt (hs _ (h4 j hj))) hA
  exact ⟨a, va_Zref (hts _ h1) (hts _ (List.mem_filter.mp wZ_X1).1) e1 hA, e2⟩
/-- the classes, the arrays' classes, the static tables: all that sg_K says -/
theorem lw_G {args : Array Value} {s : State} (hts : ∀ w ∈ lw_tbl, w.before args s = true) (hgv : (Jvm.Cond.and given_1 narrow_1).before args s = true) : ∃ G : sg_G, sg_B G = s.heap.size ∧ sg_K G s ∧ ((sg_D G).1 0 ≠ sg_I G ∧ (sg_D G).1 0 ≠ sg_Y G) := by
  have hw : ∀ w ∈ xW, w.before args s = true := fun w h => hts w (List.mem_filter.mp h).1
  obtain ⟨c0, i0, k0⟩ := u_known (C := RX0) (T := TX0) (N := 7) (n := 7) hw wiX0 (hw _ wN_X0)
  obtain ⟨c1, i1, k1⟩ := u_known (C := RX1) (T := TX1) (N := 5) (n := 5) hw wiX1 (hw _ wN_X1)
  obtain ⟨c2, i2, k2⟩ := u_known (C := RX2) (T := TX2) (N := 11) (n := 11) hw wiX2 (hw _ wN_X2)
  obtain ⟨cI, kI, compI, fI, gI, rI⟩ := Cond.arrayClass_spec (hw _ wA_int)
  obtain ⟨cZ, kZ, compZ, fZ, gZ, rZ⟩ := Cond.arrayClass_spec (hw _ wA_boolean)
  obtain ⟨compT, cT, kT, f1, f2, f3, f4, f5⟩ := Cond.arrayOver_spec (hts _ ao_w)
  obtain ⟨a0, z0, t0⟩ := st_of hts hgv 0 st_w0 st_a0 st_l0 st_e0 (by decide)
  obtain ⟨a1, z1, t1⟩ := st_of hts hgv 1 st_w1 st_a1 st_l1 st_e1 (by decide)
  obtain ⟨a2, z2, t2⟩ := st_of hts hgv 2 st_w2 st_a2 st_l2 st_e2 (by decide)
  obtain ⟨a3, z3, t3⟩ := st_of hts hgv 3 st_w3 st_a3 st_l3 st_e3 (by decide)
  obtain ⟨a4, z4, t4⟩ := st_of hts hgv 4 st_w4 st_a4 st_l4 st_e4 (by decide)
  refine ⟨((fun k => if k = 0 then c0 else if k = 1 then c1 else c2, fun k => if k = 0 then i0 else if k = 1 then i1 else i2), (cI, cZ, cT), s.heap.size, fun k => if k = 0 then a0 else if k = 1 then a1 else if k = 2 then a2 else if k = 3 then a3 else a4), rfl, ⟨⟨?_, ?_⟩, va_AO.of (hts _ ao_w), ?_⟩, ?_⟩
  · intro k q hq
    match k, hq with
    | 0, hq => cases hq; exact k0
    | 1, hq => cases hq; exact k1
    | 2, hq => cases hq; exact k2
    | k + 3, hq => simp [vwCl] at hq
  · intro k q hq
    match k, hq with
    | 0, hq => cases hq; exact ⟨fun N z => ⟨(fun k h => by cases h), kI, gI, compI, rI⟩, fI⟩
    | 1, hq => cases hq; exact ⟨fun N z => ⟨(fun k h => by cases h), kZ, gZ, compZ, rZ⟩, fZ⟩
    | 2, hq => cases hq; exact ⟨fun N z => ⟨(fun k h => by cases h), kT, f3, compT, f4⟩, kT, compT, f3, f4, f1, f5⟩
    | k + 3, hq => simp [sg_ty] at hq
  · intro k hk
    rcases (show k = 0 ∨ k = 1 ∨ k = 2 ∨ k = 3 ∨ k = 4 by omega) with rfl | rfl | rfl | rfl | rfl
    · exact ⟨z0, t0⟩
    · exact ⟨z1, t1⟩
    · exact ⟨z2, t2⟩
    · exact ⟨z3, t3⟩
    · exact ⟨z4, t4⟩
  · obtain ⟨-, -, kC, hkC, hkind⟩ := k0
    refine ⟨fun h => ?_, fun h => ?_⟩
    · have h : c0 = cI := h
      rw [h, gI] at hkC
      cases hkC
      rw [rI] at hkind
      cases hkind
    · have h : c0 = cT := h
      rw [h, f3] at hkC
      cases hkC
      rw [f4] at hkind
      cases hkind
theorem whole_start {p : Program} {e : Env} {s : State} {m : MethodId} {below : List Frame} {meth : Method} {c : Code} (l : Launch) {b L : Nat} {xs : Nat → Int32} (hL : L ≤ 2560) (C0 : lw_At p s m meth c b L xs) : W p l e room_1 s m #[Value.ref b] below meth c s.heap [] 0 0 (lw_Z below #[Value.ref b] s) (entryFrame m ([Value.ref b] : List Value).toArray 4) := by
  obtain ⟨hx, hb, hr, hml, hown, hts, hX, hbl, hlocks, hgv⟩ := id C0
  obtain ⟨G, hB, hK, hw⟩ := lw_G hts hgv
  have E : xE p s m #[Value.ref b] meth c G RL cL_law 4 ret := ⟨hx, hb, hml, hown, fun w h => hts w (List.mem_filter.mp h).1, hr, hlocks, hK, Nat.le_of_eq hB⟩
  have hl := lv_entry ([.ref b]) (n := 4) (Nat.le_of_ble_eq_true rfl)
  rw [lg_entry_eq]
  generalize (lg_sl ([.ref b]) ++ List.replicate (4 - (lg_sl ([.ref b])).length) Slot.unset).toArray = ls at hl ⊢
  have hl : lv_has ls 4 [(0, .ref b)] := hl
  exact law_start l hX hbl hB hL hw E ls hl [] va_S.rf
