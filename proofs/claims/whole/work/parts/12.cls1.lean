set_option maxHeartbeats 4000000 in
set_option maxRecDepth 100000 in
theorem c_X1_isRegister (l : Launch) (G : sg_G) (H : Heap) (x : Int32) : xC l G yX1_isRegister cX1_isRegister 1 (some FieldType.boolean) 0 0 0 [.int x] H (xPu (.int (bI (sp_ir x))) H) := by
  refine xC.start (by decide) (Nat.le_of_ble_eq_true rfl) ?_
  intro p e s m args below meth c ls E hnm hs0 hl
  obtain ⟨hx, hb, hml, hown, hts, hr, hlocks, hK, hbs⟩ := id E
  have hl : lv_has ls 1 [(0, .int x)] := hl
  refine xl (fun _ => lv_iload_n hx hb dX1_isRegister_0 rfl (lv_at hl 0 rfl)) ?_
  refine xb (fun _ => lv_if_lt (tgt := 14) hx hb dX1_isRegister_1 (by decide)) (fun c_1 => ?_) (fun c_1 => ?_)
  · refine xl (fun _ => lv_iconst (v := 0) hx hb dX1_isRegister_14 (by decide)) ?_
    exact x_zret hx hb hr hlocks hs0 hbs (by decide) (by decide) (by decide) dX1_isRegister_15 (pu0 (decide_eq_false (fun z => z.1 c_1)))
  · refine xl (fun _ => lv_iload_n hx hb dX1_isRegister_4 rfl (lv_at hl 0 rfl)) ?_
    refine xl (fun _ => lv_bipush (v := 64) hx hb dX1_isRegister_5 (by decide)) ?_
    refine xb (fun _ => lv_icmp_ge (tgt := 14) hx hb dX1_isRegister_7 (by decide)) (fun c_7 => ?_) (fun c_7 => ?_)
    · refine xl (fun _ => lv_iconst (v := 0) hx hb dX1_isRegister_14 (by decide)) ?_
      exact x_zret hx hb hr hlocks hs0 hbs (by decide) (by decide) (by decide) dX1_isRegister_15 (pu0 (decide_eq_false (fun z => absurd z.2 (Int32.not_lt.mpr c_7))))
    · refine xl (fun _ => lv_iconst (v := 1) hx hb dX1_isRegister_10 (by decide)) ?_
      refine xl (fun _ => lv_goto (tgt := 15) hx hb dX1_isRegister_11 (by decide)) ?_
      exact x_zret hx hb hr hlocks hs0 hbs (by decide) (by decide) (by decide) dX1_isRegister_15 (pu1 (decide_eq_true ⟨c_1, Int32.not_le.mp c_7⟩))

set_option maxHeartbeats 4000000 in
set_option maxRecDepth 100000 in
theorem c_X1_isSlot (l : Launch) (G : sg_G) (H : Heap) (x : Int32) : xC l G yX1_isSlot cX1_isSlot 1 (some FieldType.boolean) 0 0 0 [.int x] H (xPu (.int (bI (sp_is x))) H) := by
  refine xC.start (by decide) (Nat.le_of_ble_eq_true rfl) ?_
  intro p e s m args below meth c ls E hnm hs0 hl
  obtain ⟨hx, hb, hml, hown, hts, hr, hlocks, hK, hbs⟩ := id E
  have hl : lv_has ls 1 [(0, .int x)] := hl
  refine xl (fun _ => lv_iload_n hx hb dX1_isSlot_0 rfl (lv_at hl 0 rfl)) ?_
  refine xb (fun _ => lv_if_lt (tgt := 13) hx hb dX1_isSlot_1 (by decide)) (fun c_1 => ?_) (fun c_1 => ?_)
  · refine xl (fun _ => lv_iconst (v := 0) hx hb dX1_isSlot_13 (by decide)) ?_
    exact x_zret hx hb hr hlocks hs0 hbs (by decide) (by decide) (by decide) dX1_isSlot_14 (pu0 (decide_eq_false (fun z => z.1 c_1)))
  · refine xl (fun _ => lv_iload_n hx hb dX1_isSlot_4 rfl (lv_at hl 0 rfl)) ?_
    refine xl (fun _ => lv_iconst (v := 4) hx hb dX1_isSlot_5 (by decide)) ?_
    refine xb (fun _ => lv_icmp_ge (tgt := 13) hx hb dX1_isSlot_6 (by decide)) (fun c_6 => ?_) (fun c_6 => ?_)
    · refine xl (fun _ => lv_iconst (v := 0) hx hb dX1_isSlot_13 (by decide)) ?_
      exact x_zret hx hb hr hlocks hs0 hbs (by decide) (by decide) (by decide) dX1_isSlot_14 (pu0 (decide_eq_false (fun z => absurd z.2 (Int32.not_lt.mpr c_6))))
    · refine xl (fun _ => lv_iconst (v := 1) hx hb dX1_isSlot_9 (by decide)) ?_
      refine xl (fun _ => lv_goto (tgt := 14) hx hb dX1_isSlot_10 (by decide)) ?_
      exact x_zret hx hb hr hlocks hs0 hbs (by decide) (by decide) (by decide) dX1_isSlot_14 (pu1 (decide_eq_true ⟨c_1, Int32.not_le.mp c_6⟩))

set_option maxHeartbeats 4000000 in
set_option maxRecDepth 100000 in
theorem c_X1_isKind (l : Launch) (G : sg_G) (H : Heap) (x : Int32) : xC l G yX1_isKind cX1_isKind 1 (some FieldType.boolean) 0 0 0 [.int x] H (xPu (.int (bI (sp_ik x))) H) := by
  refine xC.start (by decide) (Nat.le_of_ble_eq_true rfl) ?_
  intro p e s m args below meth c ls E hnm hs0 hl
  obtain ⟨hx, hb, hml, hown, hts, hr, hlocks, hK, hbs⟩ := id E
  have hl : lv_has ls 1 [(0, .int x)] := hl
  refine xl (fun _ => lv_iload_n hx hb dX1_isKind_0 rfl (lv_at hl 0 rfl)) ?_
  refine xl (fun _ => lv_iconst (v := 1) hx hb dX1_isKind_1 (by decide)) ?_
  refine xb (fun _ => lv_icmp_lt (tgt := 15) hx hb dX1_isKind_2 (by decide)) (fun c_2 => ?_) (fun c_2 => ?_)
  · refine xl (fun _ => lv_iconst (v := 0) hx hb dX1_isKind_15 (by decide)) ?_
    exact x_zret hx hb hr hlocks hs0 hbs (by decide) (by decide) (by decide) dX1_isKind_16 (pu0 (decide_eq_false (fun z => absurd c_2 (Int32.not_lt.mpr z.1))))
  · refine xl (fun _ => lv_iload_n hx hb dX1_isKind_5 rfl (lv_at hl 0 rfl)) ?_
    refine xl (fun _ => lv_bipush (v := 7) hx hb dX1_isKind_6 (by decide)) ?_
    refine xb (fun _ => lv_icmp_gt (tgt := 15) hx hb dX1_isKind_8 (by decide)) (fun c_8 => ?_) (fun c_8 => ?_)
    · refine xl (fun _ => lv_iconst (v := 0) hx hb dX1_isKind_15 (by decide)) ?_
      exact x_zret hx hb hr hlocks hs0 hbs (by decide) (by decide) (by decide) dX1_isKind_16 (pu0 (decide_eq_false (fun z => absurd c_8 (Int32.not_lt.mpr z.2))))
    · refine xl (fun _ => lv_iconst (v := 1) hx hb dX1_isKind_11 (by decide)) ?_
      refine xl (fun _ => lv_goto (tgt := 16) hx hb dX1_isKind_12 (by decide)) ?_
      exact x_zret hx hb hr hlocks hs0 hbs (by decide) (by decide) (by decide) dX1_isKind_16 (pu1 (decide_eq_true ⟨Int32.not_lt.mp c_2, Int32.not_lt.mp c_8⟩))

set_option maxHeartbeats 4000000 in
set_option maxRecDepth 100000 in
theorem c_X1_termIn (l : Launch) (G : sg_G) (H : Heap) (b lo n dc : Nat) (t : Nat → sp_T) (dv fc : Nat → Bool) (rg : Nat → Option Nat) (ta na pa : Nat → Nat) (hC : sc_X G b lo n t dv fc rg dc ta na pa H) (x : Int32) : xC l G yX1_termIn cX1_termIn 2 (some (FieldType.object "TermSpread$Term")) 1 0 0 [.ref b, .int x] H (xPu (va_rf ((sp_rg rg x).map ta)) H) := by
  refine xC.start (by decide) (Nat.le_of_ble_eq_true rfl) ?_
  intro p e s m args below meth c ls E hnm hs0 hl
  obtain ⟨hx, hb, hml, hown, hts, hr, hlocks, hK, hbs⟩ := id E
  have hl : lv_has ls 2 [(0, .ref b), (1, .int x)] := hl
  obtain ⟨hw, hb0, hb4, hlo, hn5, hX, hRG, hMD, hZR, hT, hrg, hwf⟩ := id hC
  refine xl (fun _ => lv_iload_n hx hb dX1_termIn_0 rfl (lv_at hl 1 rfl)) ?_
  refine x_callS E hl (c_X1_isRegister l G H x) xm_yX1_isRegister wMX1_109 wS_yX1_isRegister (rest := []) rfl (by decide) (by decide) ⟨by decide, by decide⟩ dX1_termIn_1 (x_pure (r := .int (bI (sp_ir x))) (st1 := []) ?_)
  refine xb (fun _ => lv_if_eq (tgt := 16) hx hb dX1_termIn_4 (by decide)) (fun c_4 => ?_) (fun c_4 => ?_)
  · have c_4 := bI_f c_4
    refine xl (fun _ => lv_null hx hb dX1_termIn_16) ?_
    exact x_aret hx hb hr hlocks hs0 hbs (Or.inl rfl) (by decide) (by decide) dX1_termIn_17 (⟨by rw [sp_rg_no c_4]; rfl, rfl⟩)
  · have c_4 := bI_t c_4
    obtain ⟨j, hj, rfl⟩ := sp_ir_of c_4
    refine xl (fun _ => lv_aload_n hx hb dX1_termIn_7 rfl (lv_at hl 0 rfl)) ?_
    refine x_get (ci := 1) hx hb hts hown hK wiX1 hX rfl 0 (by decide) wFX1_11 rfl rfl dX1_termIn_8 ?_
    refine xl (fun _ => lv_iload_n hx hb dX1_termIn_11 rfl (lv_at hl 1 rfl)) ?_
    refine x_aald hx hb hK hRG j (rfl) (by omega) (by decide) dX1_termIn_12 ?_
    refine xl (fun _ => lv_goto (tgt := 17) hx hb dX1_termIn_13 (by decide)) ?_
    exact x_aret hx hb hr hlocks hs0 hbs (va_rf_or _) (by decide) (by decide) dX1_termIn_17 (⟨by rw [sp_rg_nI hj], rfl⟩)

theorem c_X1_termIn_n (l : Launch) (G : sg_G) (H : Heap) (b lo n dc : Nat) (t : Nat → sp_T) (dv fc : Nat → Bool) (rg : Nat → Option Nat) (ta na pa : Nat → Nat) (hC : sc_X G b lo n t dv fc rg dc ta na pa H) (x : Int32) (h : sp_rg rg x = none) : xC l G yX1_termIn cX1_termIn 2 (some (.object "TermSpread$Term")) 1 0 0 [.ref b, .int x] H (xPu .null H) := by
  have q := c_X1_termIn l G H b lo n dc t dv fc rg ta na pa hC x
  rw [h] at q
  exact q
theorem c_X1_termIn_s (l : Launch) (G : sg_G) (H : Heap) (b lo n dc : Nat) (t : Nat → sp_T) (dv fc : Nat → Bool) (rg : Nat → Option Nat) (ta na pa : Nat → Nat) (hC : sc_X G b lo n t dv fc rg dc ta na pa H) (x : Int32) {i : Nat} (h : sp_rg rg x = some i) : xC l G yX1_termIn cX1_termIn 2 (some (.object "TermSpread$Term")) 1 0 0 [.ref b, .int x] H (xPu (.ref (ta i)) H) := by
  have q := c_X1_termIn l G H b lo n dc t dv fc rg ta na pa hC x
  rw [h] at q
  exact q

set_option maxHeartbeats 4000000 in
set_option maxRecDepth 100000 in
theorem c_X1_termOfSort (l : Launch) (G : sg_G) (H : Heap) (b lo n dc : Nat) (t : Nat → sp_T) (dv fc : Nat → Bool) (rg : Nat → Option Nat) (ta na pa : Nat → Nat) (hC : sc_X G b lo n t dv fc rg dc ta na pa H) (x v : Int32) : xC l G yX1_termOfSort cX1_termOfSort 4 (some (FieldType.object "TermSpread$Term")) 2 0 0 [.ref b, .int x, .int v] H (xPu (va_rf ((sp_rs t rg x v).map ta)) H) := by
  refine xC.start (by decide) (Nat.le_of_ble_eq_true rfl) ?_
  intro p e s m args below meth c ls E hnm hs0 hl
  obtain ⟨hx, hb, hml, hown, hts, hr, hlocks, hK, hbs⟩ := id E
  have hl : lv_has ls 4 [(0, .ref b), (1, .int x), (2, .int v)] := hl
  obtain ⟨hw, hb0, hb4, hlo, hn5, hX, hRG, hMD, hZR, hT, hrg, hwf⟩ := id hC
  refine xl (fun _ => lv_aload_n hx hb dX1_termOfSort_0 rfl (lv_at hl 0 rfl)) ?_
  refine xl (fun _ => lv_iload_n hx hb dX1_termOfSort_1 rfl (lv_at hl 1 rfl)) ?_
  rcases hs_2 : sp_rg rg x with _ | i
  · refine x_callV E hl (c_X1_termIn_n l G H b lo n dc t dv fc rg ta na pa hC x hs_2) xm_yX1_termIn wMX1_49 wI_yX1_termIn wT_yX1_termIn (ci := 1) rfl rfl hX (rest := []) rfl (by decide) (by decide) ⟨by decide, by decide⟩ dX1_termOfSort_2 (x_pure (r := .null) (st1 := []) ?_)
    refine xs (fun _ => lv_astore_nN (i := 3) (lv' := [(3, .null), (0, .ref b), (1, .int x), (2, .int v)]) hx hb dX1_termOfSort_5 rfl hl (by decide) (rfl)) (fun ls hl => ?_)
    refine xl (fun _ => lv_aload_nN hx hb dX1_termOfSort_6 rfl (lv_at hl 0 rfl)) ?_
    refine xl (fun _ => lv_ifnullN (tgt := 22) hx hb dX1_termOfSort_7 (by decide)) ?_
    refine xl (fun _ => lv_null hx hb dX1_termOfSort_22) ?_
    exact x_aret hx hb hr hlocks hs0 hbs (Or.inl rfl) (by decide) (by decide) dX1_termOfSort_23 (⟨by rw [sp_rs_n hs_2]; rfl, rfl⟩)
  · have hi := sp_rg_lt hrg hs_2
    refine x_callV E hl (c_X1_termIn_s l G H b lo n dc t dv fc rg ta na pa hC x hs_2) xm_yX1_termIn wMX1_49 wI_yX1_termIn wT_yX1_termIn (ci := 1) rfl rfl hX (rest := []) rfl (by decide) (by decide) ⟨by decide, by decide⟩ dX1_termOfSort_2 (x_pure (r := .ref (ta i)) (st1 := []) ?_)
    refine xs (fun _ => lv_astore_n (i := 3) (lv' := [(3, .ref (ta i)), (0, .ref b), (1, .int x), (2, .int v)]) hx hb dX1_termOfSort_5 rfl hl (by decide) (rfl)) (fun ls hl => ?_)
    refine xl (fun _ => lv_aload_n hx hb dX1_termOfSort_6 rfl (lv_at hl 0 rfl)) ?_
    refine xl (fun _ => lv_ifnull hx hb dX1_termOfSort_7) ?_
    refine xl (fun _ => lv_aload_n hx hb dX1_termOfSort_10 rfl (lv_at hl 0 rfl)) ?_
    refine x_get (ci := 0) hx hb hts hown hK wiX0 ((hT i hi).2.2.2.1) rfl 0 (by decide) wFX1_78 rfl rfl dX1_termOfSort_11 ?_
    refine xl (fun _ => lv_iload_n hx hb dX1_termOfSort_14 rfl (lv_at hl 3 rfl)) ?_
    refine xb (fun _ => lv_icmp_ne (tgt := 22) hx hb dX1_termOfSort_15 (by decide)) (fun c_15 => ?_) (fun c_15 => ?_)
    · refine xl (fun _ => lv_null hx hb dX1_termOfSort_22) ?_
      exact x_aret hx hb hr hlocks hs0 hbs (Or.inl rfl) (by decide) (by decide) dX1_termOfSort_23 (⟨by rw [sp_rs_x hs_2 c_15]; rfl, rfl⟩)
    · refine xl (fun _ => lv_aload_n hx hb dX1_termOfSort_18 rfl (lv_at hl 0 rfl)) ?_
      refine xl (fun _ => lv_goto (tgt := 23) hx hb dX1_termOfSort_19 (by decide)) ?_
      exact x_aret hx hb hr hlocks hs0 hbs (Or.inr ⟨_, rfl⟩) (by decide) (by decide) dX1_termOfSort_23 (⟨by rw [sp_rs_s hs_2 c_15]; rfl, rfl⟩)

theorem c_X1_termOfSort_n (l : Launch) (G : sg_G) (H : Heap) (b lo n dc : Nat) (t : Nat → sp_T) (dv fc : Nat → Bool) (rg : Nat → Option Nat) (ta na pa : Nat → Nat) (hC : sc_X G b lo n t dv fc rg dc ta na pa H) (x v : Int32) (h : sp_rs t rg x v = none) : xC l G yX1_termOfSort cX1_termOfSort 4 (some (.object "TermSpread$Term")) 2 0 0 [.ref b, .int x, .int v] H (xPu .null H) := by
  have q := c_X1_termOfSort l G H b lo n dc t dv fc rg ta na pa hC x v
  rw [h] at q
  exact q
theorem c_X1_termOfSort_s (l : Launch) (G : sg_G) (H : Heap) (b lo n dc : Nat) (t : Nat → sp_T) (dv fc : Nat → Bool) (rg : Nat → Option Nat) (ta na pa : Nat → Nat) (hC : sc_X G b lo n t dv fc rg dc ta na pa H) (x v : Int32) {i : Nat} (h : sp_rs t rg x v = some i) : xC l G yX1_termOfSort cX1_termOfSort 4 (some (.object "TermSpread$Term")) 2 0 0 [.ref b, .int x, .int v] H (xPu (.ref (ta i)) H) := by
  have q := c_X1_termOfSort l G H b lo n dc t dv fc rg ta na pa hC x v
  rw [h] at q
  exact q

set_option maxHeartbeats 4000000 in
set_option maxRecDepth 100000 in
theorem c_X1_isTermOrNothing (l : Launch) (G : sg_G) (H : Heap) (b lo n dc : Nat) (t : Nat → sp_T) (dv fc : Nat → Bool) (rg : Nat → Option Nat) (ta na pa : Nat → Nat) (hC : sc_X G b lo n t dv fc rg dc ta na pa H) (y : Int32) : xC l G yX1_isTermOrNothing cX1_isTermOrNothing 2 (some FieldType.boolean) 2 0 0 [.ref b, .int y] H (xPu (.int (bI (sp_tn rg y))) H) := by
  refine xC.start (by decide) (Nat.le_of_ble_eq_true rfl) ?_
  intro p e s m args below meth c ls E hnm hs0 hl
  obtain ⟨hx, hb, hml, hown, hts, hr, hlocks, hK, hbs⟩ := id E
  have hl : lv_has ls 2 [(0, .ref b), (1, .int y)] := hl
  obtain ⟨hw, hb0, hb4, hlo, hn5, hX, hRG, hMD, hZR, hT, hrg, hwf⟩ := id hC
  refine xl (fun _ => lv_iload_n hx hb dX1_isTermOrNothing_0 rfl (lv_at hl 1 rfl)) ?_
  refine xl (fun _ => lv_iconst (v := (-1)) hx hb dX1_isTermOrNothing_1 (by decide)) ?_
  refine xb (fun _ => lv_icmp_eq (tgt := 13) hx hb dX1_isTermOrNothing_2 (by decide)) (fun c_2 => ?_) (fun c_2 => ?_)
  · refine xl (fun _ => lv_iconst (v := 1) hx hb dX1_isTermOrNothing_13 (by decide)) ?_
    refine xl (fun _ => lv_goto (tgt := 18) hx hb dX1_isTermOrNothing_14 (by decide)) ?_
    exact x_zret hx hb hr hlocks hs0 hbs (by decide) (by decide) (by decide) dX1_isTermOrNothing_18 (pu1 (by simp [sp_tn, c_2]))
  · refine xl (fun _ => lv_aload_n hx hb dX1_isTermOrNothing_5 rfl (lv_at hl 0 rfl)) ?_
    refine xl (fun _ => lv_iload_n hx hb dX1_isTermOrNothing_6 rfl (lv_at hl 1 rfl)) ?_
    rcases hs_7 : sp_rg rg y with _ | i
    · refine x_callV E hl (c_X1_termIn_n l G H b lo n dc t dv fc rg ta na pa hC y hs_7) xm_yX1_termIn wMX1_49 wI_yX1_termIn wT_yX1_termIn (ci := 1) rfl rfl hX (rest := []) rfl (by decide) (by decide) ⟨by decide, by decide⟩ dX1_isTermOrNothing_7 (x_pure (r := .null) (st1 := []) ?_)
      refine xl (fun _ => lv_ifnullN (tgt := 17) hx hb dX1_isTermOrNothing_10 (by decide)) ?_
      refine xl (fun _ => lv_iconst (v := 0) hx hb dX1_isTermOrNothing_17 (by decide)) ?_
      exact x_zret hx hb hr hlocks hs0 hbs (by decide) (by decide) (by decide) dX1_isTermOrNothing_18 (pu0 (by simp [sp_tn, hs_7, c_2]))
    · have hi := sp_rg_lt hrg hs_7
      refine x_callV E hl (c_X1_termIn_s l G H b lo n dc t dv fc rg ta na pa hC y hs_7) xm_yX1_termIn wMX1_49 wI_yX1_termIn wT_yX1_termIn (ci := 1) rfl rfl hX (rest := []) rfl (by decide) (by decide) ⟨by decide, by decide⟩ dX1_isTermOrNothing_7 (x_pure (r := .ref (ta i)) (st1 := []) ?_)
      refine xl (fun _ => lv_ifnull hx hb dX1_isTermOrNothing_10) ?_
      refine xl (fun _ => lv_iconst (v := 1) hx hb dX1_isTermOrNothing_13 (by decide)) ?_
      refine xl (fun _ => lv_goto (tgt := 18) hx hb dX1_isTermOrNothing_14 (by decide)) ?_
      exact x_zret hx hb hr hlocks hs0 hbs (by decide) (by decide) (by decide) dX1_isTermOrNothing_18 (pu1 (by simp [sp_tn, hs_7]))

set_option maxHeartbeats 4000000 in
set_option maxRecDepth 100000 in
theorem c_X1_plainTerm (l : Launch) (G : sg_G) (H : Heap) (b dc : Nat) (xn : Int32) (hX : ob_ G H b 1 [.ref (b + 1), .ref (b + 2), .int xn, .int (nI dc), .ref (b + 3)]) (so la : Int32) (o1 o2 o3 : Option Nat) (h1 : ∀ v, o1 = some v → ∃ fs, ob_ G H v 0 fs) (h2 : ∀ v, o2 = some v → ∃ fs, ob_ G H v 0 fs) (h3 : ∀ v, o3 = some v → ∃ fs, ob_ G H v 0 fs) : xC l G yX1_plainTerm cX1_plainTerm 7 (some (FieldType.object "TermSpread$Term")) 2 2 11 [.ref b, .int so, .int la, va_rf o1, va_rf o2, va_rf o3] H (fun r H' => r = some (.ref (H.size + 1)) ∧ tob G H' (H.size + 1) so la (b + 3) H.size 0 false false ∧ ra_ G H' H.size 4 (sp_p4 o1 o2 o3) ∧ H'.size = H.size + 2 ∧ ∀ q, q < H.size → H'[q]? = H[q]?) := by
  refine xC.start (by decide) (by simp [lg_sl, cat_rf, cat_int, cat_ref, cat_null]) ?_
  intro p e s m args below meth c ls E hnm hs0 hl
  obtain ⟨hx, hb, hml, hown, hts, hr, hlocks, hK, hbs⟩ := id E
  have hl : lv_has ls 7 [(0, .ref b), (1, .int so), (2, .int la), (3, va_rf o1), (4, va_rf o2), (5, va_rf o3)] := by simpa [lv_args, cat_rf, cat_int, cat_ref, cat_null] using hl
  have hBH : sg_B G ≤ H.size := by rw [← hs0]; exact hbs
  refine xl (fun _ => lv_iconst (v := 4) hx hb dX1_plainTerm_0 (by decide)) ?_
  refine x_newr (N := 4) hx hb hts hown hK wKX1_9 (by decide) (by decide) (by decide) (by decide) (by decide) dX1_plainTerm_1 (fun H_1 ho_2 hz_3 hq_4 => ?_)
  have k_5 := va_at.kept (H1 := H_1) (hX) (hq_4 _ (va_at.lt (hX)))
  have hF : ∀ q, q < H.size → H_1[q]? = H[q]? := hq_4
  have hZ : H_1.size = H.size + 1 := hz_3
  refine xl (fun _ => lv_dup hx hb dX1_plainTerm_4 rfl) ?_
  refine xl (fun _ => lv_iconst (v := 0) hx hb dX1_plainTerm_5 (by decide)) ?_
  refine x_aload_nq hx hb dX1_plainTerm_6 rfl (lv_at hl 3 rfl) ?_
  refine x_aast (o := o1) hx hb hK ho_2 (fun v h => by obtain ⟨fs, hf⟩ := h1 v h; exact ⟨fs, va_at.kept hf (hF _ (va_at.lt hf))⟩) 0 (rfl) (by decide) (by decide) (by omega) dX1_plainTerm_7 (fun H_6 ho_7 hz_8 hq_9 => ?_)
  have ho_7 : ra_ G H_6 H.size 4 (va_up (fun _ => none) 0 o1) := ho_7
  have k_10 := va_at.kept (H1 := H_6) (k_5) (hq_9 _ (by have := va_at.lt hX; omega))
  have hF : ∀ q, q < H.size → H_6[q]? = H[q]? := fun q h => (hq_9 q (by omega)).trans (hF q h)
  have hZ : H_6.size = H.size + 1 := hz_8.trans hZ
  refine xl (fun _ => lv_dup hx hb dX1_plainTerm_8 rfl) ?_
  refine xl (fun _ => lv_iconst (v := 1) hx hb dX1_plainTerm_9 (by decide)) ?_
  refine x_aloadq hx hb dX1_plainTerm_10 (lv_at hl 4 rfl) ?_
  refine x_aast (o := o2) hx hb hK ho_7 (fun v h => by obtain ⟨fs, hf⟩ := h2 v h; exact ⟨fs, va_at.kept hf (hF _ (va_at.lt hf))⟩) 1 (rfl) (by decide) (by decide) (by omega) dX1_plainTerm_12 (fun H_11 ho_12 hz_13 hq_14 => ?_)
  have ho_12 : ra_ G H_11 H.size 4 (va_up (va_up (fun _ => none) 0 o1) 1 o2) := ho_12
  have k_15 := va_at.kept (H1 := H_11) (k_10) (hq_14 _ (by have := va_at.lt hX; omega))
  have hF : ∀ q, q < H.size → H_11[q]? = H[q]? := fun q h => (hq_14 q (by omega)).trans (hF q h)
  have hZ : H_11.size = H.size + 1 := hz_13.trans hZ
  refine xl (fun _ => lv_dup hx hb dX1_plainTerm_13 rfl) ?_
  refine xl (fun _ => lv_iconst (v := 2) hx hb dX1_plainTerm_14 (by decide)) ?_
  refine x_aloadq hx hb dX1_plainTerm_15 (lv_at hl 5 rfl) ?_
  refine x_aast (o := o3) hx hb hK ho_12 (fun v h => by obtain ⟨fs, hf⟩ := h3 v h; exact ⟨fs, va_at.kept hf (hF _ (va_at.lt hf))⟩) 2 (rfl) (by decide) (by decide) (by omega) dX1_plainTerm_17 (fun H_16 ho_17 hz_18 hq_19 => ?_)
  have ho_17 : ra_ G H_16 H.size 4 (va_up (va_up (va_up (fun _ => none) 0 o1) 1 o2) 2 o3) := ho_17
  have k_20 := va_at.kept (H1 := H_16) (k_15) (hq_19 _ (by have := va_at.lt hX; omega))
  have hF : ∀ q, q < H.size → H_16[q]? = H[q]? := fun q h => (hq_19 q (by omega)).trans (hF q h)
  have hZ : H_16.size = H.size + 1 := hz_18.trans hZ
  refine xl (fun _ => lv_dup hx hb dX1_plainTerm_18 rfl) ?_
  refine xl (fun _ => lv_iconst (v := 3) hx hb dX1_plainTerm_19 (by decide)) ?_
  refine xl (fun _ => lv_null hx hb dX1_plainTerm_20) ?_
  refine x_aast (o := none) hx hb hK ho_17 (fun v h => by cases h) 3 (rfl) (by decide) (by decide) (by omega) dX1_plainTerm_21 (fun H_21 ho_22 hz_23 hq_24 => ?_)
  have ho_22 : ra_ G H_21 H.size 4 (va_up (va_up (va_up (va_up (fun _ => none) 0 o1) 1 o2) 2 o3) 3 none) := ho_22
  have k_25 := va_at.kept (H1 := H_21) (k_20) (hq_24 _ (by have := va_at.lt hX; omega))
  have hF : ∀ q, q < H.size → H_21[q]? = H[q]? := fun q h => (hq_24 q (by omega)).trans (hF q h)
  have hZ : H_21.size = H.size + 1 := hz_23.trans hZ
  refine xs (fun _ => lv_astore (i := 6) (lv' := [(6, .ref H.size), (0, .ref b), (1, .int so), (2, .int la), (3, va_rf o1), (4, va_rf o2), (5, va_rf o3)]) hx hb dX1_plainTerm_22 hl (by decide) (by simp [List.filter, cat_rf, cat_int, cat_ref, cat_null])) (fun ls hl => ?_)
  refine x_new (ci := 0) (fs := [.int 0, .int 0, .null, .null, .int 0, .int 0, .int 0]) hx hb hts hown hK wiX0 tyX0 tyX0_ok wKX1_9 wN_X0 wZ_X0 rfl (fun j hj => by rcases (show j = 0 ∨ j = 1 ∨ j = 2 ∨ j = 3 ∨ j = 4 ∨ j = 5 ∨ j = 6 by omega) with rfl | rfl | rfl | rfl | rfl | rfl | rfl <;> rfl) (by decide) (by decide) dX1_plainTerm_24 (fun H_26 ho_27 hz_28 hq_29 => ?_)
  have k_30 := va_at.kept (H1 := H_26) (k_25) (hq_29 _ (va_at.lt (k_25)))
  have k_31 := va_at.kept (H1 := H_26) (ho_22) (hq_29 _ (va_at.lt (ho_22)))
  have hA2 := k_31
  refine xl (fun _ => lv_dup hx hb dX1_plainTerm_27 rfl) ?_
  refine xl (fun _ => lv_iload_n hx hb dX1_plainTerm_28 rfl (lv_at hl 2 rfl)) ?_
  refine xl (fun _ => lv_iload_n hx hb dX1_plainTerm_29 rfl (lv_at hl 3 rfl)) ?_
  refine xl (fun _ => lv_aload_n hx hb dX1_plainTerm_30 rfl (lv_at hl 1 rfl)) ?_
  refine x_get (ci := 1) hx hb hts hown hK wiX1 k_30 rfl 4 (by decide) wFX1_25 rfl rfl dX1_plainTerm_31 ?_
  refine xl (fun _ => lv_aload hx hb dX1_plainTerm_34 (lv_at hl 0 rfl)) ?_
  refine x_callI E hl (c_X0_init l G H_26 H_21.size (b + 3) H.size so la ho_27 (by omega)) xm_yX0_init rfl wMX1_112 wI_yX0_init (rest := [.ref H_21.size]) rfl (by simp [cat_rf, cat_int, cat_ref, cat_null]) (by decide) ⟨by decide, by decide⟩ dX1_plainTerm_36 (fun v_32 H_33 hp_34 hz_35 hq_36 => ?_)
  obtain ⟨rfl, ht1, ht2, ht3⟩ := hp_34
  refine xg (g2 := F0 m 39 ls [.ref H_21.size]) rfl ?_
  exact x_aret hx hb hr hlocks hs0 hbs (Or.inr ⟨_, rfl⟩) (by decide) (by decide) dX1_plainTerm_39 (⟨by rw [hZ], by rw [← hZ]; exact ht1, va_at.kept (H1 := H_33) hA2 (ht3 _ (by omega)), by omega, fun q h => ((ht3 q (by omega)).trans (hq_29 q (by omega))).trans (hF q h)⟩)
