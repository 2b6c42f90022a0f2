set_option maxHeartbeats 4000000 in
set_option maxRecDepth 100000 in
theorem c_X1_secret (l : Launch) (G : sg_G) (H : Heap) (b lo n : Nat) (t : Nat → sp_T) (rg : Nat → Option Nat) (g : Nat → Prop) (hH : sc_H G b lo n t rg g H) (hn1 : n < 512) (r : Int32) : xC l G yX1_secret cX1_secret 2 (some FieldType.int) 5 2 11 [.ref b, .int r] H (fun ans H' => ans = some (.int (op_secret (n, t, rg, g) r).1) ∧ sc_HS G b lo (op_secret (n, t, rg, g) r).2 H' ∧ sc_F b lo H H') := by
  refine xC.start (by decide) (Nat.le_of_ble_eq_true rfl) ?_
  intro p e s m args below meth c ls E hnm hs0 hl
  obtain ⟨hx, hb, hml, hown, hts, hr, hlocks, hK, hbs⟩ := id E
  have hl : lv_has ls 2 [(0, .ref b), (1, .int r)] := hl
  obtain ⟨ta, na, pa, dv, hV, hD, hg⟩ := id hH
  obtain ⟨fc, hC, hfI⟩ := id hV
  obtain ⟨hw, hb0, hb4, hlo, hn5, hX, hRG, hMD, hZR, hT, hrg, hwf⟩ := id hC
  have hFF : sc_F b lo H H := sc_F.rf
  have hSS : H.size = H.size := rfl
  refine xl (fun _ => lv_aload_n hx hb dX1_secret_0 rfl (lv_at hl 0 rfl)) ?_
  refine xl (fun _ => lv_iload_n hx hb dX1_secret_1 rfl (lv_at hl 1 rfl)) ?_
  refine xl (fun _ => lv_aload_n hx hb dX1_secret_2 rfl (lv_at hl 0 rfl)) ?_
  refine xl (fun _ => lv_iconst (v := 1) hx hb dX1_secret_3 (by decide)) ?_
  refine xl (fun _ => lv_iconst (v := 0) hx hb dX1_secret_4 (by decide)) ?_
  refine xl (fun _ => lv_null hx hb dX1_secret_5) ?_
  refine xl (fun _ => lv_null hx hb dX1_secret_6) ?_
  refine xl (fun _ => lv_null hx hb dX1_secret_7) ?_
  refine x_callV E hl (c_X1_plainTerm l G H b _ _ hX 1 0 (Option.map ta none) (Option.map ta none) (Option.map ta none) (sc_obo hC (o := none) (no_b)) (sc_obo hC (o := none) (no_b)) (sc_obo hC (o := none) (no_b))) xm_yX1_plainTerm wMX1_29 wI_yX1_plainTerm wT_yX1_plainTerm (ci := 1) rfl rfl hX (rest := [.int r, .ref b]) rfl (by simp [cat_rf, cat_int, cat_ref, cat_null]) (by decide) ⟨by decide, by decide⟩ dX1_secret_8 (fun v_1 H_2 hp_3 hz_4 hq_5 => ?_)
  obtain ⟨rfl, ht1, ht2, ht3, ht4⟩ := hp_3
  obtain ⟨hV1, hO1, hne1, hF1⟩ := sc_plain hV none none none 1 0 ht1 ht2 ht3 ht4
  obtain ⟨fc1, hC1, hfI1⟩ := id hV1
  obtain ⟨-, -, -, -, -, hX1, -⟩ := id hC1
  refine xg (g2 := F0 m 11 ls [.ref (H.size + 1), .int r, .ref b]) rfl ?_
  refine x_callV E hl (c_X1_makeInto l G H_2 b lo n t rg ta na pa dv g hV1 hD hg (1, 0, z4, sp_p4 none none none) (H.size + 1) (b + 3) H.size hO1 hne1 (wf_secret) hn1 r) xm_yX1_makeInto wMX1_33 wI_yX1_makeInto wT_yX1_makeInto (ci := 1) rfl rfl hX1 (rest := []) rfl (by decide) (by decide) ⟨by decide, by decide⟩ dX1_secret_11 (fun v_6 H_7 hp_8 hz_9 hq_10 => ?_)
  obtain ⟨rfl, hH2, hF2, hS2⟩ := hp_8
  refine xg (g2 := F0 m 14 ls [.int (sp_mi (n, t, rg, g) r (1, 0, z4, sp_p4 none none none)).1]) rfl ?_
  exact x_iret hx hb hr hlocks hs0 hbs (by decide) (by decide) dX1_secret_14 (⟨rfl, hH2, hF1.tr hF2⟩)

set_option maxHeartbeats 4000000 in
set_option maxRecDepth 100000 in
theorem c_X1_face (l : Launch) (G : sg_G) (H : Heap) (b lo n : Nat) (t : Nat → sp_T) (rg : Nat → Option Nat) (g : Nat → Prop) (hH : sc_H G b lo n t rg g H) (hn1 : n < 512) (r x : Int32) : xC l G yX1_face cX1_face 4 (some FieldType.int) 5 2 11 [.ref b, .int r, .int x] H (fun ans H' => ans = some (.int (op_face (n, t, rg, g) r x).1) ∧ sc_HS G b lo (op_face (n, t, rg, g) r x).2 H' ∧ sc_F b lo H H') := by
  refine xC.start (by decide) (Nat.le_of_ble_eq_true rfl) ?_
  intro p e s m args below meth c ls E hnm hs0 hl
  obtain ⟨hx, hb, hml, hown, hts, hr, hlocks, hK, hbs⟩ := id E
  have hl : lv_has ls 4 [(0, .ref b), (1, .int r), (2, .int x)] := hl
  obtain ⟨ta, na, pa, dv, hV, hD, hg⟩ := id hH
  obtain ⟨fc, hC, hfI⟩ := id hV
  obtain ⟨hw, hb0, hb4, hlo, hn5, hX, hRG, hMD, hZR, hT, hrg, hwf⟩ := id hC
  have hFF : sc_F b lo H H := sc_F.rf
  have hSS : H.size = H.size := rfl
  refine xl (fun _ => lv_aload_n hx hb dX1_face_0 rfl (lv_at hl 0 rfl)) ?_
  refine xl (fun _ => lv_iload_n hx hb dX1_face_1 rfl (lv_at hl 2 rfl)) ?_
  refine xl (fun _ => lv_iconst (v := 1) hx hb dX1_face_2 (by decide)) ?_
  rcases hs_3 : sp_rs t rg x 1 with _ | i
  · refine x_callV E hl (c_X1_termOfSort_n l G H b lo n _ t dv fc rg ta na pa hC x 1 hs_3) xm_yX1_termOfSort wMX1_37 wI_yX1_termOfSort wT_yX1_termOfSort (ci := 1) rfl rfl hX (rest := []) rfl (by decide) (by decide) ⟨by decide, by decide⟩ dX1_face_3 (x_pure (r := .null) (st1 := []) ?_)
    refine xs (fun _ => lv_astore_nN (i := 3) (lv' := [(3, .null), (0, .ref b), (1, .int r), (2, .int x)]) hx hb dX1_face_6 rfl hl (by decide) (rfl)) (fun ls hl => ?_)
    refine xl (fun _ => lv_aload_nN hx hb dX1_face_7 rfl (lv_at hl 0 rfl)) ?_
    refine xl (fun _ => lv_ifnonnullN hx hb dX1_face_8) ?_
    refine xl (fun _ => lv_iconst (v := (-1)) hx hb dX1_face_11 (by decide)) ?_
    exact x_iret hx hb hr hlocks hs0 hbs (by decide) (by decide) dX1_face_12 (⟨by simp only [op_face, hs_3], by simp only [op_face, hs_3]; exact hH, sc_F.rf⟩)
  · have hi := sp_rg_lt hrg (sp_rs_of hs_3).1
    refine x_callV E hl (c_X1_termOfSort_s l G H b lo n _ t dv fc rg ta na pa hC x 1 hs_3) xm_yX1_termOfSort wMX1_37 wI_yX1_termOfSort wT_yX1_termOfSort (ci := 1) rfl rfl hX (rest := []) rfl (by decide) (by decide) ⟨by decide, by decide⟩ dX1_face_3 (x_pure (r := .ref (ta i)) (st1 := []) ?_)
    refine xs (fun _ => lv_astore_n (i := 3) (lv' := [(3, .ref (ta i)), (0, .ref b), (1, .int r), (2, .int x)]) hx hb dX1_face_6 rfl hl (by decide) (rfl)) (fun ls hl => ?_)
    refine xl (fun _ => lv_aload_n hx hb dX1_face_7 rfl (lv_at hl 0 rfl)) ?_
    refine xl (fun _ => lv_ifnonnull (tgt := 13) hx hb dX1_face_8 (by decide)) ?_
    refine xl (fun _ => lv_aload_n hx hb dX1_face_13 rfl (lv_at hl 1 rfl)) ?_
    refine xl (fun _ => lv_iload_n hx hb dX1_face_14 rfl (lv_at hl 2 rfl)) ?_
    refine xl (fun _ => lv_aload_n hx hb dX1_face_15 rfl (lv_at hl 1 rfl)) ?_
    refine xl (fun _ => lv_iconst (v := 2) hx hb dX1_face_16 (by decide)) ?_
    refine xl (fun _ => lv_iconst (v := 0) hx hb dX1_face_17 (by decide)) ?_
    refine xl (fun _ => lv_aload_n hx hb dX1_face_18 rfl (lv_at hl 0 rfl)) ?_
    refine xl (fun _ => lv_null hx hb dX1_face_19) ?_
    refine xl (fun _ => lv_null hx hb dX1_face_20) ?_
    refine x_callV E hl (c_X1_plainTerm l G H b _ _ hX 2 0 (Option.map ta (some i)) (Option.map ta none) (Option.map ta none) (sc_obo hC (o := (some i)) (so_b hi)) (sc_obo hC (o := none) (no_b)) (sc_obo hC (o := none) (no_b))) xm_yX1_plainTerm wMX1_29 wI_yX1_plainTerm wT_yX1_plainTerm (ci := 1) rfl rfl hX (rest := [.int r, .ref b]) rfl (by simp [cat_rf, cat_int, cat_ref, cat_null]) (by decide) ⟨by decide, by decide⟩ dX1_face_21 (fun v_1 H_2 hp_3 hz_4 hq_5 => ?_)
    obtain ⟨rfl, ht1, ht2, ht3, ht4⟩ := hp_3
    obtain ⟨hV1, hO1, hne1, hF1⟩ := sc_plain hV (some i) none none 2 0 ht1 ht2 ht3 ht4
    obtain ⟨fc1, hC1, hfI1⟩ := id hV1
    obtain ⟨-, -, -, -, -, hX1, -⟩ := id hC1
    refine xg (g2 := F0 m 24 ls [.ref (H.size + 1), .int r, .ref b]) rfl ?_
    refine x_callV E hl (c_X1_makeInto l G H_2 b lo n t rg ta na pa dv g hV1 hD hg (2, 0, z4, sp_p4 (some i) none none) (H.size + 1) (b + 3) H.size hO1 hne1 (wf_face hi (sp_rs_of hs_3).2) hn1 r) xm_yX1_makeInto wMX1_33 wI_yX1_makeInto wT_yX1_makeInto (ci := 1) rfl rfl hX1 (rest := []) rfl (by decide) (by decide) ⟨by decide, by decide⟩ dX1_face_24 (fun v_6 H_7 hp_8 hz_9 hq_10 => ?_)
    obtain ⟨rfl, hH2, hF2, hS2⟩ := hp_8
    refine xg (g2 := F0 m 27 ls [.int (sp_mi (n, t, rg, g) r (2, 0, z4, sp_p4 (some i) none none)).1]) rfl ?_
    exact x_iret hx hb hr hlocks hs0 hbs (by decide) (by decide) dX1_face_27 (⟨by simp only [op_face, hs_3], by simp only [op_face, hs_3]; exact hH2, hF1.tr hF2⟩)

set_option maxHeartbeats 4000000 in
set_option maxRecDepth 100000 in
theorem c_X1_makeSharedInto (l : Launch) (G : sg_G) (H : Heap) (b lo n : Nat) (t : Nat → sp_T) (rg : Nat → Option Nat) (ta na pa : Nat → Nat) (dv : Nat → Bool) (g : Nat → Prop) (hV : sc_V G b lo n t rg ta na pa dv H) (hD : ∀ i, i < n → (dv i = true ↔ sp_der n t g i)) (hg : ∀ i, g i → i < n) (hn1 : n < 512) (r : Int32) (x y : Nat) (hxx : x < n) (hy : y < n) (hx1 : sp_so (t x) = 1) (hy1 : sp_so (t y) = 1) : xC l G yX1_makeSharedInto cX1_makeSharedInto 5 (some FieldType.int) 5 2 11 [.ref b, .int r, .ref (ta x), .ref (ta y)] H (fun ans H' => ans = some (.int (sp_mi (n, t, rg, g) r (sp_sd x y)).1) ∧ sc_HS G b lo (sp_mi (n, t, rg, g) r (sp_sd x y)).2 H' ∧ sc_F b lo H H') := by
  refine xC.start (by decide) (Nat.le_of_ble_eq_true rfl) ?_
  intro p e s m args below meth c ls E hnm hs0 hl
  obtain ⟨hx, hb, hml, hown, hts, hr, hlocks, hK, hbs⟩ := id E
  have hl : lv_has ls 5 [(0, .ref b), (1, .int r), (2, .ref (ta x)), (3, .ref (ta y))] := hl
  obtain ⟨fc, hC, hfI⟩ := id hV
  obtain ⟨hw, hb0, hb4, hlo, hn5, hX, hRG, hMD, hZR, hT, hrg, hwf⟩ := id hC
  have hFF : sc_F b lo H H := sc_F.rf
  have hSS : H.size = H.size := rfl
  refine xl (fun _ => lv_aload_n hx hb dX1_makeSharedInto_0 rfl (lv_at hl 2 rfl)) ?_
  refine xl (fun _ => lv_ifnull hx hb dX1_makeSharedInto_1) ?_
  refine xl (fun _ => lv_aload_n hx hb dX1_makeSharedInto_4 rfl (lv_at hl 3 rfl)) ?_
  refine xl (fun _ => lv_ifnonnull (tgt := 10) hx hb dX1_makeSharedInto_5 (by decide)) ?_
  refine xl (fun _ => lv_aload_n hx hb dX1_makeSharedInto_10 rfl (lv_at hl 2 rfl)) ?_
  refine x_get (ci := 0) hx hb hts hown hK wiX0 ((hT x hxx).2.2.2.1) rfl 4 (by decide) wFX1_115 rfl rfl dX1_makeSharedInto_11 ?_
  refine xl (fun _ => lv_aload_n hx hb dX1_makeSharedInto_14 rfl (lv_at hl 3 rfl)) ?_
  refine x_get (ci := 0) hx hb hts hown hK wiX0 ((hT y hy).2.2.2.1) rfl 4 (by decide) wFX1_115 rfl rfl dX1_makeSharedInto_15 ?_
  refine xb (fun _ => lv_icmp_gt (tgt := 25) hx hb dX1_makeSharedInto_18 (by decide)) (fun c_18 => ?_) (fun c_18 => ?_)
  · refine xl (fun _ => lv_iconst (v := 0) hx hb dX1_makeSharedInto_25 (by decide)) ?_
    refine xs (fun _ => lv_istore (i := 4) (lv' := [(4, .int 0), (0, .ref b), (1, .int r), (2, .ref (ta x)), (3, .ref (ta y))]) hx hb dX1_makeSharedInto_26 hl (by decide) (rfl)) (fun ls hl => ?_)
    refine xl (fun _ => lv_aload_n hx hb dX1_makeSharedInto_28 rfl (lv_at hl 1 rfl)) ?_
    refine xl (fun _ => lv_iload_n hx hb dX1_makeSharedInto_29 rfl (lv_at hl 2 rfl)) ?_
    refine xl (fun _ => lv_aload_n hx hb dX1_makeSharedInto_30 rfl (lv_at hl 1 rfl)) ?_
    refine xl (fun _ => lv_iconst (v := 3) hx hb dX1_makeSharedInto_31 (by decide)) ?_
    refine xl (fun _ => lv_iconst (v := 0) hx hb dX1_makeSharedInto_32 (by decide)) ?_
    refine xl (fun _ => lv_iload hx hb dX1_makeSharedInto_33 (lv_at hl 0 rfl)) ?_
    refine xb (fun _ => lv_if_eq (tgt := 42) hx hb dX1_makeSharedInto_35 (by decide)) (fun c_35 => ?_) (fun c_35 => ?_)
    · refine xl (fun _ => lv_aload_n hx hb dX1_makeSharedInto_42 rfl (lv_at hl 4 rfl)) ?_
      refine xl (fun _ => lv_iload hx hb dX1_makeSharedInto_43 (lv_at hl 0 rfl)) ?_
      refine xb (fun _ => lv_if_eq (tgt := 52) hx hb dX1_makeSharedInto_45 (by decide)) (fun c_45 => ?_) (fun c_45 => ?_)
      · refine xl (fun _ => lv_aload_n hx hb dX1_makeSharedInto_52 rfl (lv_at hl 3 rfl)) ?_
        refine xl (fun _ => lv_null hx hb dX1_makeSharedInto_53) ?_
        refine x_callV E hl (c_X1_plainTerm l G H b _ _ hX 3 0 (Option.map ta (some y)) (Option.map ta (some x)) (Option.map ta none) (sc_obo hC (o := (some y)) (so_b hy)) (sc_obo hC (o := (some x)) (so_b hxx)) (sc_obo hC (o := none) (no_b))) xm_yX1_plainTerm wMX1_29 wI_yX1_plainTerm wT_yX1_plainTerm (ci := 1) rfl rfl hX (rest := [.int r, .ref b]) rfl (by simp [cat_rf, cat_int, cat_ref, cat_null]) (by decide) ⟨by decide, by decide⟩ dX1_makeSharedInto_54 (fun v_1 H_2 hp_3 hz_4 hq_5 => ?_)
        obtain ⟨rfl, ht1, ht2, ht3, ht4⟩ := hp_3
        obtain ⟨hV1, hO1, hne1, hF1⟩ := sc_plain hV (some y) (some x) none 3 0 ht1 ht2 ht3 ht4
        obtain ⟨fc1, hC1, hfI1⟩ := id hV1
        obtain ⟨-, -, -, -, -, hX1, -⟩ := id hC1
        refine xg (g2 := F0 m 57 ls [.ref (H.size + 1), .int r, .ref b]) rfl ?_
        have hxy : y < x := (nI_ltI (by omega) (by omega)).mp c_18
        have hsd : sp_sd x y = (3, 0, z4, sp_p4 (some y) (some x) none) := by unfold sp_sd; rw [if_neg (by omega), if_neg (by omega)]
        rw [← hsd] at hO1
        refine x_callV E hl (c_X1_makeInto l G H_2 b lo n t rg ta na pa dv g hV1 hD hg (sp_sd x y) (H.size + 1) (b + 3) H.size hO1 hne1 (wf_sd hxx hy hx1 hy1) hn1 r) xm_yX1_makeInto wMX1_33 wI_yX1_makeInto wT_yX1_makeInto (ci := 1) rfl rfl hX1 (rest := []) rfl (by decide) (by decide) ⟨by decide, by decide⟩ dX1_makeSharedInto_57 (fun v_6 H_7 hp_8 hz_9 hq_10 => ?_)
        obtain ⟨rfl, hH2, hF2, hS2⟩ := hp_8
        refine xg (g2 := F0 m 60 ls [.int (sp_mi (n, t, rg, g) r (sp_sd x y)).1]) rfl ?_
        exact x_iret hx hb hr hlocks hs0 hbs (by decide) (by decide) dX1_makeSharedInto_60 (⟨rfl, hH2, hF1.tr hF2⟩)
      · exact absurd rfl c_45
    · exact absurd rfl c_35
  · refine xl (fun _ => lv_iconst (v := 1) hx hb dX1_makeSharedInto_21 (by decide)) ?_
    refine xl (fun _ => lv_goto (tgt := 26) hx hb dX1_makeSharedInto_22 (by decide)) ?_
    refine xs (fun _ => lv_istore (i := 4) (lv' := [(4, .int 1), (0, .ref b), (1, .int r), (2, .ref (ta x)), (3, .ref (ta y))]) hx hb dX1_makeSharedInto_26 hl (by decide) (rfl)) (fun ls hl => ?_)
    refine xl (fun _ => lv_aload_n hx hb dX1_makeSharedInto_28 rfl (lv_at hl 1 rfl)) ?_
    refine xl (fun _ => lv_iload_n hx hb dX1_makeSharedInto_29 rfl (lv_at hl 2 rfl)) ?_
    refine xl (fun _ => lv_aload_n hx hb dX1_makeSharedInto_30 rfl (lv_at hl 1 rfl)) ?_
    refine xl (fun _ => lv_iconst (v := 3) hx hb dX1_makeSharedInto_31 (by decide)) ?_
    refine xl (fun _ => lv_iconst (v := 0) hx hb dX1_makeSharedInto_32 (by decide)) ?_
    refine xl (fun _ => lv_iload hx hb dX1_makeSharedInto_33 (lv_at hl 0 rfl)) ?_
    refine xb (fun _ => lv_if_eq (tgt := 42) hx hb dX1_makeSharedInto_35 (by decide)) (fun c_35 => ?_) (fun c_35 => ?_)
    · exact absurd c_35 (by decide)
    · refine xl (fun _ => lv_aload_n hx hb dX1_makeSharedInto_38 rfl (lv_at hl 3 rfl)) ?_
      refine xl (fun _ => lv_goto (tgt := 43) hx hb dX1_makeSharedInto_39 (by decide)) ?_
      refine xl (fun _ => lv_iload hx hb dX1_makeSharedInto_43 (lv_at hl 0 rfl)) ?_
      refine xb (fun _ => lv_if_eq (tgt := 52) hx hb dX1_makeSharedInto_45 (by decide)) (fun c_45 => ?_) (fun c_45 => ?_)
      · exact absurd c_45 (by decide)
      · refine xl (fun _ => lv_aload_n hx hb dX1_makeSharedInto_48 rfl (lv_at hl 4 rfl)) ?_
        refine xl (fun _ => lv_goto (tgt := 53) hx hb dX1_makeSharedInto_49 (by decide)) ?_
        refine xl (fun _ => lv_null hx hb dX1_makeSharedInto_53) ?_
        refine x_callV E hl (c_X1_plainTerm l G H b _ _ hX 3 0 (Option.map ta (some x)) (Option.map ta (some y)) (Option.map ta none) (sc_obo hC (o := (some x)) (so_b hxx)) (sc_obo hC (o := (some y)) (so_b hy)) (sc_obo hC (o := none) (no_b))) xm_yX1_plainTerm wMX1_29 wI_yX1_plainTerm wT_yX1_plainTerm (ci := 1) rfl rfl hX (rest := [.int r, .ref b]) rfl (by simp [cat_rf, cat_int, cat_ref, cat_null]) (by decide) ⟨by decide, by decide⟩ dX1_makeSharedInto_54 (fun v_11 H_12 hp_13 hz_14 hq_15 => ?_)
        obtain ⟨rfl, ht1, ht2, ht3, ht4⟩ := hp_13
        obtain ⟨hV1, hO1, hne1, hF1⟩ := sc_plain hV (some x) (some y) none 3 0 ht1 ht2 ht3 ht4
        obtain ⟨fc1, hC1, hfI1⟩ := id hV1
        obtain ⟨-, -, -, -, -, hX1, -⟩ := id hC1
        refine xg (g2 := F0 m 57 ls [.ref (H.size + 1), .int r, .ref b]) rfl ?_
        have hxy : x ≤ y := Nat.not_lt.mp fun z => c_18 ((nI_ltI (by omega) (by omega)).mpr z)
        have hsd : sp_sd x y = (3, 0, z4, sp_p4 (some x) (some y) none) := by unfold sp_sd; rw [if_pos hxy, if_pos hxy]
        rw [← hsd] at hO1
        refine x_callV E hl (c_X1_makeInto l G H_12 b lo n t rg ta na pa dv g hV1 hD hg (sp_sd x y) (H.size + 1) (b + 3) H.size hO1 hne1 (wf_sd hxx hy hx1 hy1) hn1 r) xm_yX1_makeInto wMX1_33 wI_yX1_makeInto wT_yX1_makeInto (ci := 1) rfl rfl hX1 (rest := []) rfl (by decide) (by decide) ⟨by decide, by decide⟩ dX1_makeSharedInto_57 (fun v_16 H_17 hp_18 hz_19 hq_20 => ?_)
        obtain ⟨rfl, hH2, hF2, hS2⟩ := hp_18
        refine xg (g2 := F0 m 60 ls [.int (sp_mi (n, t, rg, g) r (sp_sd x y)).1]) rfl ?_
        exact x_iret hx hb hr hlocks hs0 hbs (by decide) (by decide) dX1_makeSharedInto_60 (⟨rfl, hH2, hF1.tr hF2⟩)

set_option maxHeartbeats 4000000 in
set_option maxRecDepth 100000 in
theorem c_X1_makeSharedInto_n1 (l : Launch) (G : sg_G) (H : Heap) (b lo n : Nat) (t : Nat → sp_T) (rg : Nat → Option Nat) (ta na pa : Nat → Nat) (dv : Nat → Bool) (hV : sc_V G b lo n t rg ta na pa dv H) (r : Int32) (q : Option Nat) : xC l G yX1_makeSharedInto cX1_makeSharedInto 5 (some FieldType.int) 5 2 11 [.ref b, .int r, .null, va_rf q] H (xPu (.int (-1)) H) := by
  refine xC.start (by decide) (by simp [lg_sl, cat_rf, cat_int, cat_ref, cat_null]) ?_
  intro p e s m args below meth c ls E hnm hs0 hl
  obtain ⟨hx, hb, hml, hown, hts, hr, hlocks, hK, hbs⟩ := id E
  have hl : lv_has ls 5 [(0, .ref b), (1, .int r), (2, .null), (3, va_rf q)] := by simpa [lv_args, cat_rf, cat_int, cat_ref, cat_null] using hl
  obtain ⟨fc, hC, hfI⟩ := id hV
  obtain ⟨hw, hb0, hb4, hlo, hn5, hX, hRG, hMD, hZR, hT, hrg, hwf⟩ := id hC
  have hFF : sc_F b lo H H := sc_F.rf
  have hSS : H.size = H.size := rfl
  refine xl (fun _ => lv_aload_nN hx hb dX1_makeSharedInto_0 rfl (lv_at hl 2 rfl)) ?_
  refine xl (fun _ => lv_ifnullN (tgt := 8) hx hb dX1_makeSharedInto_1 (by decide)) ?_
  refine xl (fun _ => lv_iconst (v := (-1)) hx hb dX1_makeSharedInto_8 (by decide)) ?_
  exact x_iret hx hb hr hlocks hs0 hbs (by decide) (by decide) dX1_makeSharedInto_9 (⟨rfl, rfl⟩)

set_option maxHeartbeats 4000000 in
set_option maxRecDepth 100000 in
theorem c_X1_makeSharedInto_n2 (l : Launch) (G : sg_G) (H : Heap) (b lo n : Nat) (t : Nat → sp_T) (rg : Nat → Option Nat) (ta na pa : Nat → Nat) (dv : Nat → Bool) (hV : sc_V G b lo n t rg ta na pa dv H) (r : Int32) (x : Nat) : xC l G yX1_makeSharedInto cX1_makeSharedInto 5 (some FieldType.int) 5 2 11 [.ref b, .int r, .ref (ta x), .null] H (xPu (.int (-1)) H) := by
  refine xC.start (by decide) (Nat.le_of_ble_eq_true rfl) ?_
  intro p e s m args below meth c ls E hnm hs0 hl
  obtain ⟨hx, hb, hml, hown, hts, hr, hlocks, hK, hbs⟩ := id E
  have hl : lv_has ls 5 [(0, .ref b), (1, .int r), (2, .ref (ta x)), (3, .null)] := hl
  obtain ⟨fc, hC, hfI⟩ := id hV
  obtain ⟨hw, hb0, hb4, hlo, hn5, hX, hRG, hMD, hZR, hT, hrg, hwf⟩ := id hC
  have hFF : sc_F b lo H H := sc_F.rf
  have hSS : H.size = H.size := rfl
  refine xl (fun _ => lv_aload_n hx hb dX1_makeSharedInto_0 rfl (lv_at hl 2 rfl)) ?_
  refine xl (fun _ => lv_ifnull hx hb dX1_makeSharedInto_1) ?_
  refine xl (fun _ => lv_aload_nN hx hb dX1_makeSharedInto_4 rfl (lv_at hl 3 rfl)) ?_
  refine xl (fun _ => lv_ifnonnullN hx hb dX1_makeSharedInto_5) ?_
  refine xl (fun _ => lv_iconst (v := (-1)) hx hb dX1_makeSharedInto_8 (by decide)) ?_
  exact x_iret hx hb hr hlocks hs0 hbs (by decide) (by decide) dX1_makeSharedInto_9 (⟨rfl, rfl⟩)

set_option maxHeartbeats 4000000 in
set_option maxRecDepth 100000 in
theorem c_X1_shared (l : Launch) (G : sg_G) (H : Heap) (b lo n : Nat) (t : Nat → sp_T) (rg : Nat → Option Nat) (g : Nat → Prop) (hH : sc_H G b lo n t rg g H) (hn1 : n < 512) (r x y : Int32) : xC l G yX1_shared cX1_shared 4 (some FieldType.int) 6 2 11 [.ref b, .int r, .int x, .int y] H (fun ans H' => ans = some (.int (op_shared (n, t, rg, g) r x y).1) ∧ sc_HS G b lo (op_shared (n, t, rg, g) r x y).2 H' ∧ sc_F b lo H H') := by
  refine xC.start (by decide) (Nat.le_of_ble_eq_true rfl) ?_
  intro p e s m args below meth c ls E hnm hs0 hl
  obtain ⟨hx, hb, hml, hown, hts, hr, hlocks, hK, hbs⟩ := id E
  have hl : lv_has ls 4 [(0, .ref b), (1, .int r), (2, .int x), (3, .int y)] := hl
  obtain ⟨ta, na, pa, dv, hV, hD, hg⟩ := id hH
  obtain ⟨fc, hC, hfI⟩ := id hV
  obtain ⟨hw, hb0, hb4, hlo, hn5, hX, hRG, hMD, hZR, hT, hrg, hwf⟩ := id hC
  have hFF : sc_F b lo H H := sc_F.rf
  have hSS : H.size = H.size := rfl
  refine xl (fun _ => lv_aload_n hx hb dX1_shared_0 rfl (lv_at hl 0 rfl)) ?_
  refine xl (fun _ => lv_iload_n hx hb dX1_shared_1 rfl (lv_at hl 1 rfl)) ?_
  refine xl (fun _ => lv_aload_n hx hb dX1_shared_2 rfl (lv_at hl 0 rfl)) ?_
  refine xl (fun _ => lv_iload_n hx hb dX1_shared_3 rfl (lv_at hl 2 rfl)) ?_
  refine xl (fun _ => lv_iconst (v := 1) hx hb dX1_shared_4 (by decide)) ?_
  rcases hs_5 : sp_rs t rg x 1 with _ | i
  · refine x_callV E hl (c_X1_termOfSort_n l G H b lo n _ t dv fc rg ta na pa hC x 1 hs_5) xm_yX1_termOfSort wMX1_37 wI_yX1_termOfSort wT_yX1_termOfSort (ci := 1) rfl rfl hX (rest := [.int r, .ref b]) rfl (by simp [cat_rf, cat_int, cat_ref, cat_null]) (by decide) ⟨by decide, by decide⟩ dX1_shared_5 (x_pure (r := .null) (st1 := []) ?_)
    refine xl (fun _ => lv_aload_n hx hb dX1_shared_8 rfl (lv_at hl 0 rfl)) ?_
    refine xl (fun _ => lv_iload_n hx hb dX1_shared_9 rfl (lv_at hl 3 rfl)) ?_
    refine xl (fun _ => lv_iconst (v := 1) hx hb dX1_shared_10 (by decide)) ?_
    rcases hs_11 : sp_rs t rg y 1 with _ | j
    · refine x_callV E hl (c_X1_termOfSort_n l G H b lo n _ t dv fc rg ta na pa hC y 1 hs_11) xm_yX1_termOfSort wMX1_37 wI_yX1_termOfSort wT_yX1_termOfSort (ci := 1) rfl rfl hX (rest := [.null, .int r, .ref b]) rfl (by simp [cat_rf, cat_int, cat_ref, cat_null]) (by decide) ⟨by decide, by decide⟩ dX1_shared_11 (x_pure (r := .null) (st1 := []) ?_)
      refine x_callV E hl (c_X1_makeSharedInto_n1 l G H b lo n t rg ta na pa dv hV r none) xm_yX1_makeSharedInto wMX1_41 wI_yX1_makeSharedInto wT_yX1_makeSharedInto (ci := 1) rfl rfl hX (rest := []) rfl (by decide) (by decide) ⟨by decide, by decide⟩ dX1_shared_14 (fun v_1 H_2 hp_3 hz_4 hq_5 => ?_)
      obtain ⟨rfl, rfl⟩ := hp_3
      refine xg (g2 := F0 m 17 ls [.int (-1)]) rfl ?_
      exact x_iret hx hb hr hlocks hs0 hbs (by decide) (by decide) dX1_shared_17 (⟨by simp only [op_shared, hs_5, hs_11], by simp only [op_shared, hs_5, hs_11]; exact hH, sc_F.rf⟩)
    · have hj := sp_rg_lt hrg (sp_rs_of hs_11).1
      refine x_callV E hl (c_X1_termOfSort_s l G H b lo n _ t dv fc rg ta na pa hC y 1 hs_11) xm_yX1_termOfSort wMX1_37 wI_yX1_termOfSort wT_yX1_termOfSort (ci := 1) rfl rfl hX (rest := [.null, .int r, .ref b]) rfl (by simp [cat_rf, cat_int, cat_ref, cat_null]) (by decide) ⟨by decide, by decide⟩ dX1_shared_11 (x_pure (r := .ref (ta j)) (st1 := []) ?_)
      refine x_callV E hl (c_X1_makeSharedInto_n1 l G H b lo n t rg ta na pa dv hV r (some (ta j))) xm_yX1_makeSharedInto wMX1_41 wI_yX1_makeSharedInto wT_yX1_makeSharedInto (ci := 1) rfl rfl hX (rest := []) rfl (by decide) (by decide) ⟨by decide, by decide⟩ dX1_shared_14 (fun v_6 H_7 hp_8 hz_9 hq_10 => ?_)
      obtain ⟨rfl, rfl⟩ := hp_8
      refine xg (g2 := F0 m 17 ls [.int (-1)]) rfl ?_
      exact x_iret hx hb hr hlocks hs0 hbs (by decide) (by decide) dX1_shared_17 (⟨by simp only [op_shared, hs_5, hs_11], by simp only [op_shared, hs_5, hs_11]; exact hH, sc_F.rf⟩)
  · have hi := sp_rg_lt hrg (sp_rs_of hs_5).1
    refine x_callV E hl (c_X1_termOfSort_s l G H b lo n _ t dv fc rg ta na pa hC x 1 hs_5) xm_yX1_termOfSort wMX1_37 wI_yX1_termOfSort wT_yX1_termOfSort (ci := 1) rfl rfl hX (rest := [.int r, .ref b]) rfl (by simp [cat_rf, cat_int, cat_ref, cat_null]) (by decide) ⟨by decide, by decide⟩ dX1_shared_5 (x_pure (r := .ref (ta i)) (st1 := []) ?_)
    refine xl (fun _ => lv_aload_n hx hb dX1_shared_8 rfl (lv_at hl 0 rfl)) ?_
    refine xl (fun _ => lv_iload_n hx hb dX1_shared_9 rfl (lv_at hl 3 rfl)) ?_
    refine xl (fun _ => lv_iconst (v := 1) hx hb dX1_shared_10 (by decide)) ?_
    rcases hs_11 : sp_rs t rg y 1 with _ | j
    · refine x_callV E hl (c_X1_termOfSort_n l G H b lo n _ t dv fc rg ta na pa hC y 1 hs_11) xm_yX1_termOfSort wMX1_37 wI_yX1_termOfSort wT_yX1_termOfSort (ci := 1) rfl rfl hX (rest := [.ref (ta i), .int r, .ref b]) rfl (by simp [cat_rf, cat_int, cat_ref, cat_null]) (by decide) ⟨by decide, by decide⟩ dX1_shared_11 (x_pure (r := .null) (st1 := []) ?_)
      refine x_callV E hl (c_X1_makeSharedInto_n2 l G H b lo n t rg ta na pa dv hV r i) xm_yX1_makeSharedInto wMX1_41 wI_yX1_makeSharedInto wT_yX1_makeSharedInto (ci := 1) rfl rfl hX (rest := []) rfl (by decide) (by decide) ⟨by decide, by decide⟩ dX1_shared_14 (fun v_11 H_12 hp_13 hz_14 hq_15 => ?_)
      obtain ⟨rfl, rfl⟩ := hp_13
      refine xg (g2 := F0 m 17 ls [.int (-1)]) rfl ?_
      exact x_iret hx hb hr hlocks hs0 hbs (by decide) (by decide) dX1_shared_17 (⟨by simp only [op_shared, hs_5, hs_11], by simp only [op_shared, hs_5, hs_11]; exact hH, sc_F.rf⟩)
    · have hj := sp_rg_lt hrg (sp_rs_of hs_11).1
      refine x_callV E hl (c_X1_termOfSort_s l G H b lo n _ t dv fc rg ta na pa hC y 1 hs_11) xm_yX1_termOfSort wMX1_37 wI_yX1_termOfSort wT_yX1_termOfSort (ci := 1) rfl rfl hX (rest := [.ref (ta i), .int r, .ref b]) rfl (by simp [cat_rf, cat_int, cat_ref, cat_null]) (by decide) ⟨by decide, by decide⟩ dX1_shared_11 (x_pure (r := .ref (ta j)) (st1 := []) ?_)
      refine x_callV E hl (c_X1_makeSharedInto l G H b lo n t rg ta na pa dv g hV hD hg hn1 r i j hi hj ((sp_rs_of hs_5).2) ((sp_rs_of hs_11).2)) xm_yX1_makeSharedInto wMX1_41 wI_yX1_makeSharedInto wT_yX1_makeSharedInto (ci := 1) rfl rfl hX (rest := []) rfl (by decide) (by decide) ⟨by decide, by decide⟩ dX1_shared_14 (fun v_16 H_17 hp_18 hz_19 hq_20 => ?_)
      obtain ⟨rfl, hH2, hF2⟩ := hp_18
      refine xg (g2 := F0 m 17 ls [.int (sp_mi (n, t, rg, g) r (sp_sd i j)).1]) rfl ?_
      exact x_iret hx hb hr hlocks hs0 hbs (by decide) (by decide) dX1_shared_17 (⟨by simp only [op_shared, hs_5, hs_11], by simp only [op_shared, hs_5, hs_11]; exact hH2, hF2⟩)

set_option maxHeartbeats 4000000 in
set_option maxRecDepth 100000 in
theorem c_X1_agreed (l : Launch) (G : sg_G) (H : Heap) (b lo n : Nat) (t : Nat → sp_T) (rg : Nat → Option Nat) (g : Nat → Prop) (hH : sc_H G b lo n t rg g H) (hn1 : n < 512) (r x y : Int32) : xC l G yX1_agreed cX1_agreed 5 (some FieldType.int) 6 2 11 [.ref b, .int r, .int x, .int y] H (fun ans H' => ans = some (.int (op_agreed (n, t, rg, g) r x y).1) ∧ sc_HS G b lo (op_agreed (n, t, rg, g) r x y).2 H' ∧ sc_F b lo H H') := by
  refine xC.start (by decide) (Nat.le_of_ble_eq_true rfl) ?_
  intro p e s m args below meth c ls E hnm hs0 hl
  obtain ⟨hx, hb, hml, hown, hts, hr, hlocks, hK, hbs⟩ := id E
  have hl : lv_has ls 5 [(0, .ref b), (1, .int r), (2, .int x), (3, .int y)] := hl
  obtain ⟨ta, na, pa, dv, hV, hD, hg⟩ := id hH
  obtain ⟨fc, hC, hfI⟩ := id hV
  obtain ⟨hw, hb0, hb4, hlo, hn5, hX, hRG, hMD, hZR, hT, hrg, hwf⟩ := id hC
  have hFF : sc_F b lo H H := sc_F.rf
  have hSS : H.size = H.size := rfl
  refine xl (fun _ => lv_aload_n hx hb dX1_agreed_0 rfl (lv_at hl 0 rfl)) ?_
  refine xl (fun _ => lv_iload_n hx hb dX1_agreed_1 rfl (lv_at hl 3 rfl)) ?_
  refine xl (fun _ => lv_iconst (v := 2) hx hb dX1_agreed_2 (by decide)) ?_
  rcases hs_3 : sp_rs t rg y 2 with _ | j
  · refine x_callV E hl (c_X1_termOfSort_n l G H b lo n _ t dv fc rg ta na pa hC y 2 hs_3) xm_yX1_termOfSort wMX1_37 wI_yX1_termOfSort wT_yX1_termOfSort (ci := 1) rfl rfl hX (rest := []) rfl (by decide) (by decide) ⟨by decide, by decide⟩ dX1_agreed_3 (x_pure (r := .null) (st1 := []) ?_)
    refine xs (fun _ => lv_astoreN (i := 4) (lv' := [(4, .null), (0, .ref b), (1, .int r), (2, .int x), (3, .int y)]) hx hb dX1_agreed_6 hl (by decide) (rfl)) (fun ls hl => ?_)
    refine xl (fun _ => lv_aloadN hx hb dX1_agreed_8 (lv_at hl 0 rfl)) ?_
    refine xl (fun _ => lv_ifnonnullN hx hb dX1_agreed_10) ?_
    refine xl (fun _ => lv_iconst (v := (-1)) hx hb dX1_agreed_13 (by decide)) ?_
    exact x_iret hx hb hr hlocks hs0 hbs (by decide) (by decide) dX1_agreed_14 (⟨by simp only [op_agreed, hs_3]; cases sp_rs t rg x 1 <;> rfl, by simp only [op_agreed, hs_3]; cases sp_rs t rg x 1 <;> exact hH, sc_F.rf⟩)
  · have hj := sp_rg_lt hrg (sp_rs_of hs_3).1
    refine x_callV E hl (c_X1_termOfSort_s l G H b lo n _ t dv fc rg ta na pa hC y 2 hs_3) xm_yX1_termOfSort wMX1_37 wI_yX1_termOfSort wT_yX1_termOfSort (ci := 1) rfl rfl hX (rest := []) rfl (by decide) (by decide) ⟨by decide, by decide⟩ dX1_agreed_3 (x_pure (r := .ref (ta j)) (st1 := []) ?_)
    refine xs (fun _ => lv_astore (i := 4) (lv' := [(4, .ref (ta j)), (0, .ref b), (1, .int r), (2, .int x), (3, .int y)]) hx hb dX1_agreed_6 hl (by decide) (rfl)) (fun ls hl => ?_)
    refine xl (fun _ => lv_aload hx hb dX1_agreed_8 (lv_at hl 0 rfl)) ?_
    refine xl (fun _ => lv_ifnonnull (tgt := 15) hx hb dX1_agreed_10 (by decide)) ?_
    refine xl (fun _ => lv_aload_n hx hb dX1_agreed_15 rfl (lv_at hl 1 rfl)) ?_
    refine xl (fun _ => lv_iload_n hx hb dX1_agreed_16 rfl (lv_at hl 2 rfl)) ?_
    refine xl (fun _ => lv_aload_n hx hb dX1_agreed_17 rfl (lv_at hl 1 rfl)) ?_
    refine xl (fun _ => lv_iload_n hx hb dX1_agreed_18 rfl (lv_at hl 3 rfl)) ?_
    refine xl (fun _ => lv_iconst (v := 1) hx hb dX1_agreed_19 (by decide)) ?_
    rcases hs_20 : sp_rs t rg x 1 with _ | i
    · refine x_callV E hl (c_X1_termOfSort_n l G H b lo n _ t dv fc rg ta na pa hC x 1 hs_20) xm_yX1_termOfSort wMX1_37 wI_yX1_termOfSort wT_yX1_termOfSort (ci := 1) rfl rfl hX (rest := [.int r, .ref b]) rfl (by simp [cat_rf, cat_int, cat_ref, cat_null]) (by decide) ⟨by decide, by decide⟩ dX1_agreed_20 (x_pure (r := .null) (st1 := []) ?_)
      refine xl (fun _ => lv_aload hx hb dX1_agreed_23 (lv_at hl 0 rfl)) ?_
      refine xl (fun _ => lv_iconst (v := 0) hx hb dX1_agreed_25 (by decide)) ?_
      refine x_callV E hl (c_X0_partAt l G H (ta j) (na j) (pa j) _ _ _ _ _ _ (hT j hj).2.2.2.1 (hT j hj).2.2.2.2.2 0 (by decide)) xm_yX0_partAt wMX1_45 wI_yX0_partAt wT_yX0_partAt (ci := 0) rfl rfl ((hT j hj).2.2.2.1) (rest := [.null, .int r, .ref b]) rfl (by simp [cat_rf, cat_int, cat_ref, cat_null]) (by decide) ⟨by decide, by decide⟩ dX1_agreed_26 (x_pure (r := va_rf ((sp_pa (t j) 0).map ta)) (st1 := []) ?_)
      obtain ⟨k, hk0, hkj, hk1⟩ := sp_wf2 (hwf j hj) (sp_rs_of hs_3).2
      have hk : k < n := by omega
      refine xg (g2 := F0 m 29 ls [.ref (ta k), .null, .int r, .ref b]) (by rw [hk0]; rfl) ?_
      refine x_callV E hl (c_X1_makeSharedInto_n1 l G H b lo n t rg ta na pa dv hV r (some (ta k))) xm_yX1_makeSharedInto wMX1_41 wI_yX1_makeSharedInto wT_yX1_makeSharedInto (ci := 1) rfl rfl hX (rest := []) rfl (by decide) (by decide) ⟨by decide, by decide⟩ dX1_agreed_29 (fun v_1 H_2 hp_3 hz_4 hq_5 => ?_)
      obtain ⟨rfl, rfl⟩ := hp_3
      refine xg (g2 := F0 m 32 ls [.int (-1)]) rfl ?_
      exact x_iret hx hb hr hlocks hs0 hbs (by decide) (by decide) dX1_agreed_32 (⟨by simp only [op_agreed, hs_3, hs_20, hk0], by simp only [op_agreed, hs_3, hs_20, hk0]; exact hH, sc_F.rf⟩)
    · have hi := sp_rg_lt hrg (sp_rs_of hs_20).1
      refine x_callV E hl (c_X1_termOfSort_s l G H b lo n _ t dv fc rg ta na pa hC x 1 hs_20) xm_yX1_termOfSort wMX1_37 wI_yX1_termOfSort wT_yX1_termOfSort (ci := 1) rfl rfl hX (rest := [.int r, .ref b]) rfl (by simp [cat_rf, cat_int, cat_ref, cat_null]) (by decide) ⟨by decide, by decide⟩ dX1_agreed_20 (x_pure (r := .ref (ta i)) (st1 := []) ?_)
      refine xl (fun _ => lv_aload hx hb dX1_agreed_23 (lv_at hl 0 rfl)) ?_
      refine xl (fun _ => lv_iconst (v := 0) hx hb dX1_agreed_25 (by decide)) ?_
      refine x_callV E hl (c_X0_partAt l G H (ta j) (na j) (pa j) _ _ _ _ _ _ (hT j hj).2.2.2.1 (hT j hj).2.2.2.2.2 0 (by decide)) xm_yX0_partAt wMX1_45 wI_yX0_partAt wT_yX0_partAt (ci := 0) rfl rfl ((hT j hj).2.2.2.1) (rest := [.ref (ta i), .int r, .ref b]) rfl (by simp [cat_rf, cat_int, cat_ref, cat_null]) (by decide) ⟨by decide, by decide⟩ dX1_agreed_26 (x_pure (r := va_rf ((sp_pa (t j) 0).map ta)) (st1 := []) ?_)
      obtain ⟨k, hk0, hkj, hk1⟩ := sp_wf2 (hwf j hj) (sp_rs_of hs_3).2
      have hk : k < n := by omega
      refine xg (g2 := F0 m 29 ls [.ref (ta k), .ref (ta i), .int r, .ref b]) (by rw [hk0]; rfl) ?_
      refine x_callV E hl (c_X1_makeSharedInto l G H b lo n t rg ta na pa dv g hV hD hg hn1 r i k hi hk ((sp_rs_of hs_20).2) (hk1)) xm_yX1_makeSharedInto wMX1_41 wI_yX1_makeSharedInto wT_yX1_makeSharedInto (ci := 1) rfl rfl hX (rest := []) rfl (by decide) (by decide) ⟨by decide, by decide⟩ dX1_agreed_29 (fun v_6 H_7 hp_8 hz_9 hq_10 => ?_)
      obtain ⟨rfl, hH2, hF2⟩ := hp_8
      refine xg (g2 := F0 m 32 ls [.int (sp_mi (n, t, rg, g) r (sp_sd i k)).1]) rfl ?_
      exact x_iret hx hb hr hlocks hs0 hbs (by decide) (by decide) dX1_agreed_32 (⟨by simp only [op_agreed, hs_3, hs_20, hk0], by simp only [op_agreed, hs_3, hs_20, hk0]; exact hH2, hF2⟩)

set_option maxHeartbeats 4000000 in
set_option maxRecDepth 100000 in
theorem c_X1_mix (l : Launch) (G : sg_G) (H : Heap) (b lo n : Nat) (t : Nat → sp_T) (rg : Nat → Option Nat) (g : Nat → Prop) (hH : sc_H G b lo n t rg g H) (hn1 : n < 512) (r q x y : Int32) : xC l G yX1_mix cX1_mix 6 (some FieldType.int) 5 2 11 [.ref b, .int r, .int q, .int x, .int y] H (fun ans H' => ans = some (.int (op_mix (n, t, rg, g) r q x y).1) ∧ sc_HS G b lo (op_mix (n, t, rg, g) r q x y).2 H' ∧ sc_F b lo H H') := by
  refine xC.start (by decide) (Nat.le_of_ble_eq_true rfl) ?_
  intro p e s m args below meth c ls E hnm hs0 hl
  obtain ⟨hx, hb, hml, hown, hts, hr, hlocks, hK, hbs⟩ := id E
  have hl : lv_has ls 6 [(0, .ref b), (1, .int r), (2, .int q), (3, .int x), (4, .int y)] := hl
  obtain ⟨ta, na, pa, dv, hV, hD, hg⟩ := id hH
  obtain ⟨fc, hC, hfI⟩ := id hV
  obtain ⟨hw, hb0, hb4, hlo, hn5, hX, hRG, hMD, hZR, hT, hrg, hwf⟩ := id hC
  have hFF : sc_F b lo H H := sc_F.rf
  have hSS : H.size = H.size := rfl
  refine xl (fun _ => lv_aload_n hx hb dX1_mix_0 rfl (lv_at hl 0 rfl)) ?_
  refine xl (fun _ => lv_iload_n hx hb dX1_mix_1 rfl (lv_at hl 3 rfl)) ?_
  rcases hs_2 : sp_rg rg x with _ | i
  · refine x_callV E hl (c_X1_termIn_n l G H b lo n _ t dv fc rg ta na pa hC x hs_2) xm_yX1_termIn wMX1_49 wI_yX1_termIn wT_yX1_termIn (ci := 1) rfl rfl hX (rest := []) rfl (by decide) (by decide) ⟨by decide, by decide⟩ dX1_mix_2 (x_pure (r := .null) (st1 := []) ?_)
    refine xs (fun _ => lv_astoreN (i := 5) (lv' := [(5, .null), (0, .ref b), (1, .int r), (2, .int q), (3, .int x), (4, .int y)]) hx hb dX1_mix_5 hl (by decide) (rfl)) (fun ls hl => ?_)
    refine xl (fun _ => lv_iload_n hx hb dX1_mix_7 rfl (lv_at hl 3 rfl)) ?_
    refine xb (fun _ => lv_if_lt (tgt := 31) hx hb dX1_mix_8 (by decide)) (fun c_8 => ?_) (fun c_8 => ?_)
    · refine xl (fun _ => lv_iconst (v := (-1)) hx hb dX1_mix_31 (by decide)) ?_
      exact x_iret hx hb hr hlocks hs0 hbs (by decide) (by decide) dX1_mix_32 (⟨by simp only [op_mix, c_8, not_true_eq_false, not_false_eq_true, and_true, true_and, and_false, false_and, and_self, if_true, if_false, reduceIte, Bool.false_eq_true, if_true_left], by simp only [op_mix, c_8, not_true_eq_false, not_false_eq_true, and_true, true_and, and_false, false_and, and_self, if_true, if_false, reduceIte, Bool.false_eq_true, if_true_left]; exact hH, sc_F.rf⟩)
    · refine xl (fun _ => lv_iload_n hx hb dX1_mix_11 rfl (lv_at hl 3 rfl)) ?_
      refine xl (fun _ => lv_bipush (v := 9) hx hb dX1_mix_12 (by decide)) ?_
      refine xb (fun _ => lv_icmp_gt (tgt := 31) hx hb dX1_mix_14 (by decide)) (fun c_14 => ?_) (fun c_14 => ?_)
      · refine xl (fun _ => lv_iconst (v := (-1)) hx hb dX1_mix_31 (by decide)) ?_
        exact x_iret hx hb hr hlocks hs0 hbs (by decide) (by decide) dX1_mix_32 (⟨by simp only [op_mix, c_8, c_14, not_true_eq_false, not_false_eq_true, and_true, true_and, and_false, false_and, and_self, if_true, if_false, reduceIte, Bool.false_eq_true, if_true_left], by simp only [op_mix, c_8, c_14, not_true_eq_false, not_false_eq_true, and_true, true_and, and_false, false_and, and_self, if_true, if_false, reduceIte, Bool.false_eq_true, if_true_left]; exact hH, sc_F.rf⟩)
      · refine xl (fun _ => lv_aloadN hx hb dX1_mix_17 (lv_at hl 0 rfl)) ?_
        refine xl (fun _ => lv_ifnullN (tgt := 31) hx hb dX1_mix_19 (by decide)) ?_
        refine xl (fun _ => lv_iconst (v := (-1)) hx hb dX1_mix_31 (by decide)) ?_
        exact x_iret hx hb hr hlocks hs0 hbs (by decide) (by decide) dX1_mix_32 (⟨by simp only [op_mix, c_8, c_14, hs_2, not_true_eq_false, not_false_eq_true, and_true, true_and, and_false, false_and, and_self, if_true, if_false, reduceIte, Bool.false_eq_true, if_true_left], by simp only [op_mix, c_8, c_14, hs_2, not_true_eq_false, not_false_eq_true, and_true, true_and, and_false, false_and, and_self, if_true, if_false, reduceIte, Bool.false_eq_true, if_true_left]; exact hH, sc_F.rf⟩)
  · have hi := sp_rg_lt hrg hs_2
    refine x_callV E hl (c_X1_termIn_s l G H b lo n _ t dv fc rg ta na pa hC x hs_2) xm_yX1_termIn wMX1_49 wI_yX1_termIn wT_yX1_termIn (ci := 1) rfl rfl hX (rest := []) rfl (by decide) (by decide) ⟨by decide, by decide⟩ dX1_mix_2 (x_pure (r := .ref (ta i)) (st1 := []) ?_)
    refine xs (fun _ => lv_astore (i := 5) (lv' := [(5, .ref (ta i)), (0, .ref b), (1, .int r), (2, .int q), (3, .int x), (4, .int y)]) hx hb dX1_mix_5 hl (by decide) (rfl)) (fun ls hl => ?_)
    refine xl (fun _ => lv_iload_n hx hb dX1_mix_7 rfl (lv_at hl 3 rfl)) ?_
    refine xb (fun _ => lv_if_lt (tgt := 31) hx hb dX1_mix_8 (by decide)) (fun c_8 => ?_) (fun c_8 => ?_)
    · refine xl (fun _ => lv_iconst (v := (-1)) hx hb dX1_mix_31 (by decide)) ?_
      exact x_iret hx hb hr hlocks hs0 hbs (by decide) (by decide) dX1_mix_32 (⟨by simp only [op_mix, c_8, not_true_eq_false, not_false_eq_true, and_true, true_and, and_false, false_and, and_self, if_true, if_false, reduceIte, Bool.false_eq_true, if_true_left], by simp only [op_mix, c_8, not_true_eq_false, not_false_eq_true, and_true, true_and, and_false, false_and, and_self, if_true, if_false, reduceIte, Bool.false_eq_true, if_true_left]; exact hH, sc_F.rf⟩)
    · refine xl (fun _ => lv_iload_n hx hb dX1_mix_11 rfl (lv_at hl 3 rfl)) ?_
      refine xl (fun _ => lv_bipush (v := 9) hx hb dX1_mix_12 (by decide)) ?_
      refine xb (fun _ => lv_icmp_gt (tgt := 31) hx hb dX1_mix_14 (by decide)) (fun c_14 => ?_) (fun c_14 => ?_)
      · refine xl (fun _ => lv_iconst (v := (-1)) hx hb dX1_mix_31 (by decide)) ?_
        exact x_iret hx hb hr hlocks hs0 hbs (by decide) (by decide) dX1_mix_32 (⟨by simp only [op_mix, c_8, c_14, not_true_eq_false, not_false_eq_true, and_true, true_and, and_false, false_and, and_self, if_true, if_false, reduceIte, Bool.false_eq_true, if_true_left], by simp only [op_mix, c_8, c_14, not_true_eq_false, not_false_eq_true, and_true, true_and, and_false, false_and, and_self, if_true, if_false, reduceIte, Bool.false_eq_true, if_true_left]; exact hH, sc_F.rf⟩)
      · refine xl (fun _ => lv_aload hx hb dX1_mix_17 (lv_at hl 0 rfl)) ?_
        refine xl (fun _ => lv_ifnull hx hb dX1_mix_19) ?_
        refine xl (fun _ => lv_aload_n hx hb dX1_mix_22 rfl (lv_at hl 1 rfl)) ?_
        refine xl (fun _ => lv_iload hx hb dX1_mix_23 (lv_at hl 5 rfl)) ?_
        refine x_callV E hl (c_X1_isTermOrNothing l G H b lo n _ t dv fc rg ta na pa hC y) xm_yX1_isTermOrNothing wMX1_52 wI_yX1_isTermOrNothing wT_yX1_isTermOrNothing (ci := 1) rfl rfl hX (rest := []) rfl (by decide) (by decide) ⟨by decide, by decide⟩ dX1_mix_25 (x_pure (r := .int (bI (sp_tn rg y))) (st1 := []) ?_)
        refine xb (fun _ => lv_if_ne (tgt := 33) hx hb dX1_mix_28 (by decide)) (fun c_28 => ?_) (fun c_28 => ?_)
        · have c_28 := bI_t c_28
          refine xl (fun _ => lv_aload_n hx hb dX1_mix_33 rfl (lv_at hl 1 rfl)) ?_
          refine xl (fun _ => lv_iload_n hx hb dX1_mix_34 rfl (lv_at hl 2 rfl)) ?_
          refine xl (fun _ => lv_aload_n hx hb dX1_mix_35 rfl (lv_at hl 1 rfl)) ?_
          refine xl (fun _ => lv_iconst (v := 4) hx hb dX1_mix_36 (by decide)) ?_
          refine xl (fun _ => lv_iload_n hx hb dX1_mix_37 rfl (lv_at hl 3 rfl)) ?_
          refine xl (fun _ => lv_aload hx hb dX1_mix_38 (lv_at hl 0 rfl)) ?_
          refine xl (fun _ => lv_aload_n hx hb dX1_mix_40 rfl (lv_at hl 1 rfl)) ?_
          refine xl (fun _ => lv_iload hx hb dX1_mix_41 (lv_at hl 5 rfl)) ?_
          refine x_callV E hl (c_X1_termIn l G H b lo n _ t dv fc rg ta na pa hC y) xm_yX1_termIn wMX1_49 wI_yX1_termIn wT_yX1_termIn (ci := 1) rfl rfl hX (rest := [.ref (ta i), .int q, .int 4, .ref b, .int r, .ref b]) rfl (by simp [cat_rf, cat_int, cat_ref, cat_null]) (by decide) ⟨by decide, by decide⟩ dX1_mix_43 (x_pure (r := va_rf (Option.map ta (sp_rg rg y))) (st1 := []) ?_)
          refine xl (fun _ => lv_null hx hb dX1_mix_46) ?_
          refine x_callV E hl (c_X1_plainTerm l G H b _ _ hX 4 q (Option.map ta (some i)) (Option.map ta (sp_rg rg y)) (Option.map ta none) (sc_obo hC (o := (some i)) (so_b hi)) (sc_obo hC (o := (sp_rg rg y)) (fun j e => sp_rg_lt hrg e)) (sc_obo hC (o := none) (no_b))) xm_yX1_plainTerm wMX1_29 wI_yX1_plainTerm wT_yX1_plainTerm (ci := 1) rfl rfl hX (rest := [.int r, .ref b]) rfl (by simp [cat_rf, cat_int, cat_ref, cat_null]) (by decide) ⟨by decide, by decide⟩ dX1_mix_47 (fun v_1 H_2 hp_3 hz_4 hq_5 => ?_)
          obtain ⟨rfl, ht1, ht2, ht3, ht4⟩ := hp_3
          obtain ⟨hV1, hO1, hne1, hF1⟩ := sc_plain hV (some i) (sp_rg rg y) none 4 q ht1 ht2 ht3 ht4
          obtain ⟨fc1, hC1, hfI1⟩ := id hV1
          obtain ⟨-, -, -, -, -, hX1, -⟩ := id hC1
          refine xg (g2 := F0 m 50 ls [.ref (H.size + 1), .int r, .ref b]) rfl ?_
          refine x_callV E hl (c_X1_makeInto l G H_2 b lo n t rg ta na pa dv g hV1 hD hg (4, q, z4, sp_p4 (some i) (sp_rg rg y) none) (H.size + 1) (b + 3) H.size hO1 hne1 (wf_mix hi (fun j e => sp_rg_lt hrg e)) hn1 r) xm_yX1_makeInto wMX1_33 wI_yX1_makeInto wT_yX1_makeInto (ci := 1) rfl rfl hX1 (rest := []) rfl (by decide) (by decide) ⟨by decide, by decide⟩ dX1_mix_50 (fun v_6 H_7 hp_8 hz_9 hq_10 => ?_)
          obtain ⟨rfl, hH2, hF2, hS2⟩ := hp_8
          refine xg (g2 := F0 m 53 ls [.int (sp_mi (n, t, rg, g) r (4, q, z4, sp_p4 (some i) (sp_rg rg y) none)).1]) rfl ?_
          exact x_iret hx hb hr hlocks hs0 hbs (by decide) (by decide) dX1_mix_53 (⟨by simp only [op_mix, c_8, c_14, hs_2, c_28, not_true_eq_false, not_false_eq_true, and_true, true_and, and_false, false_and, and_self, if_true, if_false, reduceIte, Bool.false_eq_true, if_true_left], by simp only [op_mix, c_8, c_14, hs_2, c_28, not_true_eq_false, not_false_eq_true, and_true, true_and, and_false, false_and, and_self, if_true, if_false, reduceIte, Bool.false_eq_true, if_true_left]; exact hH2, hF1.tr hF2⟩)
        · have c_28 := bI_f c_28
          refine xl (fun _ => lv_iconst (v := (-1)) hx hb dX1_mix_31 (by decide)) ?_
          exact x_iret hx hb hr hlocks hs0 hbs (by decide) (by decide) dX1_mix_32 (⟨by simp only [op_mix, c_8, c_14, hs_2, c_28, not_true_eq_false, not_false_eq_true, and_true, true_and, and_false, false_and, and_self, if_true, if_false, reduceIte, Bool.false_eq_true, if_true_left], by simp only [op_mix, c_8, c_14, hs_2, c_28, not_true_eq_false, not_false_eq_true, and_true, true_and, and_false, false_and, and_self, if_true, if_false, reduceIte, Bool.false_eq_true, if_true_left]; exact hH, sc_F.rf⟩)

set_option maxHeartbeats 4000000 in
set_option maxRecDepth 100000 in
theorem c_X1_sealed (l : Launch) (G : sg_G) (H : Heap) (b lo n : Nat) (t : Nat → sp_T) (rg : Nat → Option Nat) (g : Nat → Prop) (hH : sc_H G b lo n t rg g H) (hn1 : n < 512) (r k h q : Int32) : xC l G yX1_sealed cX1_sealed 8 (some FieldType.int) 5 2 11 [.ref b, .int r, .int k, .int h, .int q] H (fun ans H' => ans = some (.int (op_sealed (n, t, rg, g) r k h q).1) ∧ sc_HS G b lo (op_sealed (n, t, rg, g) r k h q).2 H' ∧ sc_F b lo H H') := by
  refine xC.start (by decide) (Nat.le_of_ble_eq_true rfl) ?_
  intro p e s m args below meth c ls E hnm hs0 hl
  obtain ⟨hx, hb, hml, hown, hts, hr, hlocks, hK, hbs⟩ := id E
  have hl : lv_has ls 8 [(0, .ref b), (1, .int r), (2, .int k), (3, .int h), (4, .int q)] := hl
  obtain ⟨ta, na, pa, dv, hV, hD, hg⟩ := id hH
  obtain ⟨fc, hC, hfI⟩ := id hV
  obtain ⟨hw, hb0, hb4, hlo, hn5, hX, hRG, hMD, hZR, hT, hrg, hwf⟩ := id hC
  have hFF : sc_F b lo H H := sc_F.rf
  have hSS : H.size = H.size := rfl
  refine xl (fun _ => lv_aload_n hx hb dX1_sealed_0 rfl (lv_at hl 0 rfl)) ?_
  refine xl (fun _ => lv_iload_n hx hb dX1_sealed_1 rfl (lv_at hl 2 rfl)) ?_
  rcases hs_2 : sp_rg rg k with _ | i
  · refine x_callV E hl (c_X1_termIn_n l G H b lo n _ t dv fc rg ta na pa hC k hs_2) xm_yX1_termIn wMX1_49 wI_yX1_termIn wT_yX1_termIn (ci := 1) rfl rfl hX (rest := []) rfl (by decide) (by decide) ⟨by decide, by decide⟩ dX1_sealed_2 (x_pure (r := .null) (st1 := []) ?_)
    refine xs (fun _ => lv_astoreN (i := 5) (lv' := [(5, .null), (0, .ref b), (1, .int r), (2, .int k), (3, .int h), (4, .int q)]) hx hb dX1_sealed_5 hl (by decide) (rfl)) (fun ls hl => ?_)
    refine xl (fun _ => lv_aload_n hx hb dX1_sealed_7 rfl (lv_at hl 1 rfl)) ?_
    refine xl (fun _ => lv_iload_n hx hb dX1_sealed_8 rfl (lv_at hl 4 rfl)) ?_
    rcases hs_9 : sp_rg rg h with _ | j
    · refine x_callV E hl (c_X1_termIn_n l G H b lo n _ t dv fc rg ta na pa hC h hs_9) xm_yX1_termIn wMX1_49 wI_yX1_termIn wT_yX1_termIn (ci := 1) rfl rfl hX (rest := []) rfl (by decide) (by decide) ⟨by decide, by decide⟩ dX1_sealed_9 (x_pure (r := .null) (st1 := []) ?_)
      refine xs (fun _ => lv_astoreN (i := 6) (lv' := [(6, .null), (5, .null), (0, .ref b), (1, .int r), (2, .int k), (3, .int h), (4, .int q)]) hx hb dX1_sealed_12 hl (by decide) (rfl)) (fun ls hl => ?_)
      refine xl (fun _ => lv_aload_n hx hb dX1_sealed_14 rfl (lv_at hl 2 rfl)) ?_
      refine xl (fun _ => lv_iload hx hb dX1_sealed_15 (lv_at hl 6 rfl)) ?_
      rcases hs_17 : sp_rg rg q with _ | u
      · refine x_callV E hl (c_X1_termIn_n l G H b lo n _ t dv fc rg ta na pa hC q hs_17) xm_yX1_termIn wMX1_49 wI_yX1_termIn wT_yX1_termIn (ci := 1) rfl rfl hX (rest := []) rfl (by decide) (by decide) ⟨by decide, by decide⟩ dX1_sealed_17 (x_pure (r := .null) (st1 := []) ?_)
        refine xs (fun _ => lv_astoreN (i := 7) (lv' := [(7, .null), (6, .null), (5, .null), (0, .ref b), (1, .int r), (2, .int k), (3, .int h), (4, .int q)]) hx hb dX1_sealed_20 hl (by decide) (rfl)) (fun ls hl => ?_)
        refine xl (fun _ => lv_aloadN hx hb dX1_sealed_22 (lv_at hl 2 rfl)) ?_
        refine xl (fun _ => lv_ifnullN (tgt := 37) hx hb dX1_sealed_24 (by decide)) ?_
        refine xl (fun _ => lv_iconst (v := (-1)) hx hb dX1_sealed_37 (by decide)) ?_
        exact x_iret hx hb hr hlocks hs0 hbs (by decide) (by decide) dX1_sealed_38 (⟨by simp only [op_sealed, hs_2, hs_9, hs_17], by simp only [op_sealed, hs_2, hs_9, hs_17]; exact hH, sc_F.rf⟩)
      · have hu := sp_rg_lt hrg hs_17
        refine x_callV E hl (c_X1_termIn_s l G H b lo n _ t dv fc rg ta na pa hC q hs_17) xm_yX1_termIn wMX1_49 wI_yX1_termIn wT_yX1_termIn (ci := 1) rfl rfl hX (rest := []) rfl (by decide) (by decide) ⟨by decide, by decide⟩ dX1_sealed_17 (x_pure (r := .ref (ta u)) (st1 := []) ?_)
        refine xs (fun _ => lv_astore (i := 7) (lv' := [(7, .ref (ta u)), (6, .null), (5, .null), (0, .ref b), (1, .int r), (2, .int k), (3, .int h), (4, .int q)]) hx hb dX1_sealed_20 hl (by decide) (rfl)) (fun ls hl => ?_)
        refine xl (fun _ => lv_aloadN hx hb dX1_sealed_22 (lv_at hl 2 rfl)) ?_
        refine xl (fun _ => lv_ifnullN (tgt := 37) hx hb dX1_sealed_24 (by decide)) ?_
        refine xl (fun _ => lv_iconst (v := (-1)) hx hb dX1_sealed_37 (by decide)) ?_
        exact x_iret hx hb hr hlocks hs0 hbs (by decide) (by decide) dX1_sealed_38 (⟨by simp only [op_sealed, hs_2, hs_9, hs_17], by simp only [op_sealed, hs_2, hs_9, hs_17]; exact hH, sc_F.rf⟩)
    · have hj := sp_rg_lt hrg hs_9
      refine x_callV E hl (c_X1_termIn_s l G H b lo n _ t dv fc rg ta na pa hC h hs_9) xm_yX1_termIn wMX1_49 wI_yX1_termIn wT_yX1_termIn (ci := 1) rfl rfl hX (rest := []) rfl (by decide) (by decide) ⟨by decide, by decide⟩ dX1_sealed_9 (x_pure (r := .ref (ta j)) (st1 := []) ?_)
      refine xs (fun _ => lv_astore (i := 6) (lv' := [(6, .ref (ta j)), (5, .null), (0, .ref b), (1, .int r), (2, .int k), (3, .int h), (4, .int q)]) hx hb dX1_sealed_12 hl (by decide) (rfl)) (fun ls hl => ?_)
      refine xl (fun _ => lv_aload_n hx hb dX1_sealed_14 rfl (lv_at hl 2 rfl)) ?_
      refine xl (fun _ => lv_iload hx hb dX1_sealed_15 (lv_at hl 6 rfl)) ?_
      rcases hs_17 : sp_rg rg q with _ | u
      · refine x_callV E hl (c_X1_termIn_n l G H b lo n _ t dv fc rg ta na pa hC q hs_17) xm_yX1_termIn wMX1_49 wI_yX1_termIn wT_yX1_termIn (ci := 1) rfl rfl hX (rest := []) rfl (by decide) (by decide) ⟨by decide, by decide⟩ dX1_sealed_17 (x_pure (r := .null) (st1 := []) ?_)
        refine xs (fun _ => lv_astoreN (i := 7) (lv' := [(7, .null), (6, .ref (ta j)), (5, .null), (0, .ref b), (1, .int r), (2, .int k), (3, .int h), (4, .int q)]) hx hb dX1_sealed_20 hl (by decide) (rfl)) (fun ls hl => ?_)
        refine xl (fun _ => lv_aloadN hx hb dX1_sealed_22 (lv_at hl 2 rfl)) ?_
        refine xl (fun _ => lv_ifnullN (tgt := 37) hx hb dX1_sealed_24 (by decide)) ?_
        refine xl (fun _ => lv_iconst (v := (-1)) hx hb dX1_sealed_37 (by decide)) ?_
        exact x_iret hx hb hr hlocks hs0 hbs (by decide) (by decide) dX1_sealed_38 (⟨by simp only [op_sealed, hs_2, hs_9, hs_17], by simp only [op_sealed, hs_2, hs_9, hs_17]; exact hH, sc_F.rf⟩)
      · have hu := sp_rg_lt hrg hs_17
        refine x_callV E hl (c_X1_termIn_s l G H b lo n _ t dv fc rg ta na pa hC q hs_17) xm_yX1_termIn wMX1_49 wI_yX1_termIn wT_yX1_termIn (ci := 1) rfl rfl hX (rest := []) rfl (by decide) (by decide) ⟨by decide, by decide⟩ dX1_sealed_17 (x_pure (r := .ref (ta u)) (st1 := []) ?_)
        refine xs (fun _ => lv_astore (i := 7) (lv' := [(7, .ref (ta u)), (6, .ref (ta j)), (5, .null), (0, .ref b), (1, .int r), (2, .int k), (3, .int h), (4, .int q)]) hx hb dX1_sealed_20 hl (by decide) (rfl)) (fun ls hl => ?_)
        refine xl (fun _ => lv_aloadN hx hb dX1_sealed_22 (lv_at hl 2 rfl)) ?_
        refine xl (fun _ => lv_ifnullN (tgt := 37) hx hb dX1_sealed_24 (by decide)) ?_
        refine xl (fun _ => lv_iconst (v := (-1)) hx hb dX1_sealed_37 (by decide)) ?_
        exact x_iret hx hb hr hlocks hs0 hbs (by decide) (by decide) dX1_sealed_38 (⟨by simp only [op_sealed, hs_2, hs_9, hs_17], by simp only [op_sealed, hs_2, hs_9, hs_17]; exact hH, sc_F.rf⟩)
  · have hi := sp_rg_lt hrg hs_2
    refine x_callV E hl (c_X1_termIn_s l G H b lo n _ t dv fc rg ta na pa hC k hs_2) xm_yX1_termIn wMX1_49 wI_yX1_termIn wT_yX1_termIn (ci := 1) rfl rfl hX (rest := []) rfl (by decide) (by decide) ⟨by decide, by decide⟩ dX1_sealed_2 (x_pure (r := .ref (ta i)) (st1 := []) ?_)
    refine xs (fun _ => lv_astore (i := 5) (lv' := [(5, .ref (ta i)), (0, .ref b), (1, .int r), (2, .int k), (3, .int h), (4, .int q)]) hx hb dX1_sealed_5 hl (by decide) (rfl)) (fun ls hl => ?_)
    refine xl (fun _ => lv_aload_n hx hb dX1_sealed_7 rfl (lv_at hl 1 rfl)) ?_
    refine xl (fun _ => lv_iload_n hx hb dX1_sealed_8 rfl (lv_at hl 4 rfl)) ?_
    rcases hs_9 : sp_rg rg h with _ | j
    · refine x_callV E hl (c_X1_termIn_n l G H b lo n _ t dv fc rg ta na pa hC h hs_9) xm_yX1_termIn wMX1_49 wI_yX1_termIn wT_yX1_termIn (ci := 1) rfl rfl hX (rest := []) rfl (by decide) (by decide) ⟨by decide, by decide⟩ dX1_sealed_9 (x_pure (r := .null) (st1 := []) ?_)
      refine xs (fun _ => lv_astoreN (i := 6) (lv' := [(6, .null), (5, .ref (ta i)), (0, .ref b), (1, .int r), (2, .int k), (3, .int h), (4, .int q)]) hx hb dX1_sealed_12 hl (by decide) (rfl)) (fun ls hl => ?_)
      refine xl (fun _ => lv_aload_n hx hb dX1_sealed_14 rfl (lv_at hl 2 rfl)) ?_
      refine xl (fun _ => lv_iload hx hb dX1_sealed_15 (lv_at hl 6 rfl)) ?_
      rcases hs_17 : sp_rg rg q with _ | u
      · refine x_callV E hl (c_X1_termIn_n l G H b lo n _ t dv fc rg ta na pa hC q hs_17) xm_yX1_termIn wMX1_49 wI_yX1_termIn wT_yX1_termIn (ci := 1) rfl rfl hX (rest := []) rfl (by decide) (by decide) ⟨by decide, by decide⟩ dX1_sealed_17 (x_pure (r := .null) (st1 := []) ?_)
        refine xs (fun _ => lv_astoreN (i := 7) (lv' := [(7, .null), (6, .null), (5, .ref (ta i)), (0, .ref b), (1, .int r), (2, .int k), (3, .int h), (4, .int q)]) hx hb dX1_sealed_20 hl (by decide) (rfl)) (fun ls hl => ?_)
        refine xl (fun _ => lv_aload hx hb dX1_sealed_22 (lv_at hl 2 rfl)) ?_
        refine xl (fun _ => lv_ifnull hx hb dX1_sealed_24) ?_
        refine xl (fun _ => lv_aloadN hx hb dX1_sealed_27 (lv_at hl 1 rfl)) ?_
        refine xl (fun _ => lv_ifnullN (tgt := 37) hx hb dX1_sealed_29 (by decide)) ?_
        refine xl (fun _ => lv_iconst (v := (-1)) hx hb dX1_sealed_37 (by decide)) ?_
        exact x_iret hx hb hr hlocks hs0 hbs (by decide) (by decide) dX1_sealed_38 (⟨by simp only [op_sealed, hs_2, hs_9, hs_17], by simp only [op_sealed, hs_2, hs_9, hs_17]; exact hH, sc_F.rf⟩)
      · have hu := sp_rg_lt hrg hs_17
        refine x_callV E hl (c_X1_termIn_s l G H b lo n _ t dv fc rg ta na pa hC q hs_17) xm_yX1_termIn wMX1_49 wI_yX1_termIn wT_yX1_termIn (ci := 1) rfl rfl hX (rest := []) rfl (by decide) (by decide) ⟨by decide, by decide⟩ dX1_sealed_17 (x_pure (r := .ref (ta u)) (st1 := []) ?_)
        refine xs (fun _ => lv_astore (i := 7) (lv' := [(7, .ref (ta u)), (6, .null), (5, .ref (ta i)), (0, .ref b), (1, .int r), (2, .int k), (3, .int h), (4, .int q)]) hx hb dX1_sealed_20 hl (by decide) (rfl)) (fun ls hl => ?_)
        refine xl (fun _ => lv_aload hx hb dX1_sealed_22 (lv_at hl 2 rfl)) ?_
        refine xl (fun _ => lv_ifnull hx hb dX1_sealed_24) ?_
        refine xl (fun _ => lv_aloadN hx hb dX1_sealed_27 (lv_at hl 1 rfl)) ?_
        refine xl (fun _ => lv_ifnullN (tgt := 37) hx hb dX1_sealed_29 (by decide)) ?_
        refine xl (fun _ => lv_iconst (v := (-1)) hx hb dX1_sealed_37 (by decide)) ?_
        exact x_iret hx hb hr hlocks hs0 hbs (by decide) (by decide) dX1_sealed_38 (⟨by simp only [op_sealed, hs_2, hs_9, hs_17], by simp only [op_sealed, hs_2, hs_9, hs_17]; exact hH, sc_F.rf⟩)
    · have hj := sp_rg_lt hrg hs_9
      refine x_callV E hl (c_X1_termIn_s l G H b lo n _ t dv fc rg ta na pa hC h hs_9) xm_yX1_termIn wMX1_49 wI_yX1_termIn wT_yX1_termIn (ci := 1) rfl rfl hX (rest := []) rfl (by decide) (by decide) ⟨by decide, by decide⟩ dX1_sealed_9 (x_pure (r := .ref (ta j)) (st1 := []) ?_)
      refine xs (fun _ => lv_astore (i := 6) (lv' := [(6, .ref (ta j)), (5, .ref (ta i)), (0, .ref b), (1, .int r), (2, .int k), (3, .int h), (4, .int q)]) hx hb dX1_sealed_12 hl (by decide) (rfl)) (fun ls hl => ?_)
      refine xl (fun _ => lv_aload_n hx hb dX1_sealed_14 rfl (lv_at hl 2 rfl)) ?_
      refine xl (fun _ => lv_iload hx hb dX1_sealed_15 (lv_at hl 6 rfl)) ?_
      rcases hs_17 : sp_rg rg q with _ | u
      · refine x_callV E hl (c_X1_termIn_n l G H b lo n _ t dv fc rg ta na pa hC q hs_17) xm_yX1_termIn wMX1_49 wI_yX1_termIn wT_yX1_termIn (ci := 1) rfl rfl hX (rest := []) rfl (by decide) (by decide) ⟨by decide, by decide⟩ dX1_sealed_17 (x_pure (r := .null) (st1 := []) ?_)
        refine xs (fun _ => lv_astoreN (i := 7) (lv' := [(7, .null), (6, .ref (ta j)), (5, .ref (ta i)), (0, .ref b), (1, .int r), (2, .int k), (3, .int h), (4, .int q)]) hx hb dX1_sealed_20 hl (by decide) (rfl)) (fun ls hl => ?_)
        refine xl (fun _ => lv_aload hx hb dX1_sealed_22 (lv_at hl 2 rfl)) ?_
        refine xl (fun _ => lv_ifnull hx hb dX1_sealed_24) ?_
        refine xl (fun _ => lv_aload hx hb dX1_sealed_27 (lv_at hl 1 rfl)) ?_
        refine xl (fun _ => lv_ifnull hx hb dX1_sealed_29) ?_
        refine xl (fun _ => lv_aloadN hx hb dX1_sealed_32 (lv_at hl 0 rfl)) ?_
        refine xl (fun _ => lv_ifnonnullN hx hb dX1_sealed_34) ?_
        refine xl (fun _ => lv_iconst (v := (-1)) hx hb dX1_sealed_37 (by decide)) ?_
        exact x_iret hx hb hr hlocks hs0 hbs (by decide) (by decide) dX1_sealed_38 (⟨by simp only [op_sealed, hs_2, hs_9, hs_17], by simp only [op_sealed, hs_2, hs_9, hs_17]; exact hH, sc_F.rf⟩)
      · have hu := sp_rg_lt hrg hs_17
        refine x_callV E hl (c_X1_termIn_s l G H b lo n _ t dv fc rg ta na pa hC q hs_17) xm_yX1_termIn wMX1_49 wI_yX1_termIn wT_yX1_termIn (ci := 1) rfl rfl hX (rest := []) rfl (by decide) (by decide) ⟨by decide, by decide⟩ dX1_sealed_17 (x_pure (r := .ref (ta u)) (st1 := []) ?_)
        refine xs (fun _ => lv_astore (i := 7) (lv' := [(7, .ref (ta u)), (6, .ref (ta j)), (5, .ref (ta i)), (0, .ref b), (1, .int r), (2, .int k), (3, .int h), (4, .int q)]) hx hb dX1_sealed_20 hl (by decide) (rfl)) (fun ls hl => ?_)
        refine xl (fun _ => lv_aload hx hb dX1_sealed_22 (lv_at hl 2 rfl)) ?_
        refine xl (fun _ => lv_ifnull hx hb dX1_sealed_24) ?_
        refine xl (fun _ => lv_aload hx hb dX1_sealed_27 (lv_at hl 1 rfl)) ?_
        refine xl (fun _ => lv_ifnull hx hb dX1_sealed_29) ?_
        refine xl (fun _ => lv_aload hx hb dX1_sealed_32 (lv_at hl 0 rfl)) ?_
        refine xl (fun _ => lv_ifnonnull (tgt := 39) hx hb dX1_sealed_34 (by decide)) ?_
        refine xl (fun _ => lv_aload_n hx hb dX1_sealed_39 rfl (lv_at hl 3 rfl)) ?_
        refine xl (fun _ => lv_iload_n hx hb dX1_sealed_40 rfl (lv_at hl 4 rfl)) ?_
        refine xl (fun _ => lv_aload_n hx hb dX1_sealed_41 rfl (lv_at hl 3 rfl)) ?_
        refine xl (fun _ => lv_iconst (v := 5) hx hb dX1_sealed_42 (by decide)) ?_
        refine xl (fun _ => lv_iconst (v := 0) hx hb dX1_sealed_43 (by decide)) ?_
        refine xl (fun _ => lv_aload hx hb dX1_sealed_44 (lv_at hl 2 rfl)) ?_
        refine xl (fun _ => lv_aload hx hb dX1_sealed_46 (lv_at hl 1 rfl)) ?_
        refine xl (fun _ => lv_aload hx hb dX1_sealed_48 (lv_at hl 0 rfl)) ?_
        refine x_callV E hl (c_X1_plainTerm l G H b _ _ hX 5 0 (Option.map ta (some i)) (Option.map ta (some j)) (Option.map ta (some u)) (sc_obo hC (o := (some i)) (so_b hi)) (sc_obo hC (o := (some j)) (so_b hj)) (sc_obo hC (o := (some u)) (so_b hu))) xm_yX1_plainTerm wMX1_29 wI_yX1_plainTerm wT_yX1_plainTerm (ci := 1) rfl rfl hX (rest := [.int r, .ref b]) rfl (by simp [cat_rf, cat_int, cat_ref, cat_null]) (by decide) ⟨by decide, by decide⟩ dX1_sealed_50 (fun v_1 H_2 hp_3 hz_4 hq_5 => ?_)
        obtain ⟨rfl, ht1, ht2, ht3, ht4⟩ := hp_3
        obtain ⟨hV1, hO1, hne1, hF1⟩ := sc_plain hV (some i) (some j) (some u) 5 0 ht1 ht2 ht3 ht4
        obtain ⟨fc1, hC1, hfI1⟩ := id hV1
        obtain ⟨-, -, -, -, -, hX1, -⟩ := id hC1
        refine xg (g2 := F0 m 53 ls [.ref (H.size + 1), .int r, .ref b]) rfl ?_
        refine x_callV E hl (c_X1_makeInto l G H_2 b lo n t rg ta na pa dv g hV1 hD hg (5, 0, z4, sp_p4 (some i) (some j) (some u)) (H.size + 1) (b + 3) H.size hO1 hne1 (wf_sealed hi hj hu) hn1 r) xm_yX1_makeInto wMX1_33 wI_yX1_makeInto wT_yX1_makeInto (ci := 1) rfl rfl hX1 (rest := []) rfl (by decide) (by decide) ⟨by decide, by decide⟩ dX1_sealed_53 (fun v_6 H_7 hp_8 hz_9 hq_10 => ?_)
        obtain ⟨rfl, hH2, hF2, hS2⟩ := hp_8
        refine xg (g2 := F0 m 56 ls [.int (sp_mi (n, t, rg, g) r (5, 0, z4, sp_p4 (some i) (some j) (some u))).1]) rfl ?_
        exact x_iret hx hb hr hlocks hs0 hbs (by decide) (by decide) dX1_sealed_56 (⟨by simp only [op_sealed, hs_2, hs_9, hs_17], by simp only [op_sealed, hs_2, hs_9, hs_17]; exact hH2, hF1.tr hF2⟩)

set_option maxHeartbeats 4000000 in
set_option maxRecDepth 100000 in
theorem c_X1_signed (l : Launch) (G : sg_G) (H : Heap) (b lo n : Nat) (t : Nat → sp_T) (rg : Nat → Option Nat) (g : Nat → Prop) (hH : sc_H G b lo n t rg g H) (hn1 : n < 512) (r x y : Int32) : xC l G yX1_signed cX1_signed 6 (some FieldType.int) 5 2 11 [.ref b, .int r, .int x, .int y] H (fun ans H' => ans = some (.int (op_signed (n, t, rg, g) r x y).1) ∧ sc_HS G b lo (op_signed (n, t, rg, g) r x y).2 H' ∧ sc_F b lo H H') := by
  refine xC.start (by decide) (Nat.le_of_ble_eq_true rfl) ?_
  intro p e s m args below meth c ls E hnm hs0 hl
  obtain ⟨hx, hb, hml, hown, hts, hr, hlocks, hK, hbs⟩ := id E
  have hl : lv_has ls 6 [(0, .ref b), (1, .int r), (2, .int x), (3, .int y)] := hl
  obtain ⟨ta, na, pa, dv, hV, hD, hg⟩ := id hH
  obtain ⟨fc, hC, hfI⟩ := id hV
  obtain ⟨hw, hb0, hb4, hlo, hn5, hX, hRG, hMD, hZR, hT, hrg, hwf⟩ := id hC
  have hFF : sc_F b lo H H := sc_F.rf
  have hSS : H.size = H.size := rfl
  refine xl (fun _ => lv_aload_n hx hb dX1_signed_0 rfl (lv_at hl 0 rfl)) ?_
  refine xl (fun _ => lv_iload_n hx hb dX1_signed_1 rfl (lv_at hl 2 rfl)) ?_
  refine xl (fun _ => lv_iconst (v := 1) hx hb dX1_signed_2 (by decide)) ?_
  rcases hs_3 : sp_rs t rg x 1 with _ | i
  · refine x_callV E hl (c_X1_termOfSort_n l G H b lo n _ t dv fc rg ta na pa hC x 1 hs_3) xm_yX1_termOfSort wMX1_37 wI_yX1_termOfSort wT_yX1_termOfSort (ci := 1) rfl rfl hX (rest := []) rfl (by decide) (by decide) ⟨by decide, by decide⟩ dX1_signed_3 (x_pure (r := .null) (st1 := []) ?_)
    refine xs (fun _ => lv_astoreN (i := 4) (lv' := [(4, .null), (0, .ref b), (1, .int r), (2, .int x), (3, .int y)]) hx hb dX1_signed_6 hl (by decide) (rfl)) (fun ls hl => ?_)
    refine xl (fun _ => lv_aload_n hx hb dX1_signed_8 rfl (lv_at hl 1 rfl)) ?_
    refine xl (fun _ => lv_iload_n hx hb dX1_signed_9 rfl (lv_at hl 4 rfl)) ?_
    rcases hs_10 : sp_rg rg y with _ | j
    · refine x_callV E hl (c_X1_termIn_n l G H b lo n _ t dv fc rg ta na pa hC y hs_10) xm_yX1_termIn wMX1_49 wI_yX1_termIn wT_yX1_termIn (ci := 1) rfl rfl hX (rest := []) rfl (by decide) (by decide) ⟨by decide, by decide⟩ dX1_signed_10 (x_pure (r := .null) (st1 := []) ?_)
      refine xs (fun _ => lv_astoreN (i := 5) (lv' := [(5, .null), (4, .null), (0, .ref b), (1, .int r), (2, .int x), (3, .int y)]) hx hb dX1_signed_13 hl (by decide) (rfl)) (fun ls hl => ?_)
      refine xl (fun _ => lv_aloadN hx hb dX1_signed_15 (lv_at hl 1 rfl)) ?_
      refine xl (fun _ => lv_ifnullN (tgt := 25) hx hb dX1_signed_17 (by decide)) ?_
      refine xl (fun _ => lv_iconst (v := (-1)) hx hb dX1_signed_25 (by decide)) ?_
      exact x_iret hx hb hr hlocks hs0 hbs (by decide) (by decide) dX1_signed_26 (⟨by simp only [op_signed, hs_3, hs_10], by simp only [op_signed, hs_3, hs_10]; exact hH, sc_F.rf⟩)
    · have hj := sp_rg_lt hrg hs_10
      refine x_callV E hl (c_X1_termIn_s l G H b lo n _ t dv fc rg ta na pa hC y hs_10) xm_yX1_termIn wMX1_49 wI_yX1_termIn wT_yX1_termIn (ci := 1) rfl rfl hX (rest := []) rfl (by decide) (by decide) ⟨by decide, by decide⟩ dX1_signed_10 (x_pure (r := .ref (ta j)) (st1 := []) ?_)
      refine xs (fun _ => lv_astore (i := 5) (lv' := [(5, .ref (ta j)), (4, .null), (0, .ref b), (1, .int r), (2, .int x), (3, .int y)]) hx hb dX1_signed_13 hl (by decide) (rfl)) (fun ls hl => ?_)
      refine xl (fun _ => lv_aloadN hx hb dX1_signed_15 (lv_at hl 1 rfl)) ?_
      refine xl (fun _ => lv_ifnullN (tgt := 25) hx hb dX1_signed_17 (by decide)) ?_
      refine xl (fun _ => lv_iconst (v := (-1)) hx hb dX1_signed_25 (by decide)) ?_
      exact x_iret hx hb hr hlocks hs0 hbs (by decide) (by decide) dX1_signed_26 (⟨by simp only [op_signed, hs_3, hs_10], by simp only [op_signed, hs_3, hs_10]; exact hH, sc_F.rf⟩)
  · have hi := sp_rg_lt hrg (sp_rs_of hs_3).1
    refine x_callV E hl (c_X1_termOfSort_s l G H b lo n _ t dv fc rg ta na pa hC x 1 hs_3) xm_yX1_termOfSort wMX1_37 wI_yX1_termOfSort wT_yX1_termOfSort (ci := 1) rfl rfl hX (rest := []) rfl (by decide) (by decide) ⟨by decide, by decide⟩ dX1_signed_3 (x_pure (r := .ref (ta i)) (st1 := []) ?_)
    refine xs (fun _ => lv_astore (i := 4) (lv' := [(4, .ref (ta i)), (0, .ref b), (1, .int r), (2, .int x), (3, .int y)]) hx hb dX1_signed_6 hl (by decide) (rfl)) (fun ls hl => ?_)
    refine xl (fun _ => lv_aload_n hx hb dX1_signed_8 rfl (lv_at hl 1 rfl)) ?_
    refine xl (fun _ => lv_iload_n hx hb dX1_signed_9 rfl (lv_at hl 4 rfl)) ?_
    rcases hs_10 : sp_rg rg y with _ | j
    · refine x_callV E hl (c_X1_termIn_n l G H b lo n _ t dv fc rg ta na pa hC y hs_10) xm_yX1_termIn wMX1_49 wI_yX1_termIn wT_yX1_termIn (ci := 1) rfl rfl hX (rest := []) rfl (by decide) (by decide) ⟨by decide, by decide⟩ dX1_signed_10 (x_pure (r := .null) (st1 := []) ?_)
      refine xs (fun _ => lv_astoreN (i := 5) (lv' := [(5, .null), (4, .ref (ta i)), (0, .ref b), (1, .int r), (2, .int x), (3, .int y)]) hx hb dX1_signed_13 hl (by decide) (rfl)) (fun ls hl => ?_)
      refine xl (fun _ => lv_aload hx hb dX1_signed_15 (lv_at hl 1 rfl)) ?_
      refine xl (fun _ => lv_ifnull hx hb dX1_signed_17) ?_
      refine xl (fun _ => lv_aloadN hx hb dX1_signed_20 (lv_at hl 0 rfl)) ?_
      refine xl (fun _ => lv_ifnonnullN hx hb dX1_signed_22) ?_
      refine xl (fun _ => lv_iconst (v := (-1)) hx hb dX1_signed_25 (by decide)) ?_
      exact x_iret hx hb hr hlocks hs0 hbs (by decide) (by decide) dX1_signed_26 (⟨by simp only [op_signed, hs_3, hs_10], by simp only [op_signed, hs_3, hs_10]; exact hH, sc_F.rf⟩)
    · have hj := sp_rg_lt hrg hs_10
      refine x_callV E hl (c_X1_termIn_s l G H b lo n _ t dv fc rg ta na pa hC y hs_10) xm_yX1_termIn wMX1_49 wI_yX1_termIn wT_yX1_termIn (ci := 1) rfl rfl hX (rest := []) rfl (by decide) (by decide) ⟨by decide, by decide⟩ dX1_signed_10 (x_pure (r := .ref (ta j)) (st1 := []) ?_)
      refine xs (fun _ => lv_astore (i := 5) (lv' := [(5, .ref (ta j)), (4, .ref (ta i)), (0, .ref b), (1, .int r), (2, .int x), (3, .int y)]) hx hb dX1_signed_13 hl (by decide) (rfl)) (fun ls hl => ?_)
      refine xl (fun _ => lv_aload hx hb dX1_signed_15 (lv_at hl 1 rfl)) ?_
      refine xl (fun _ => lv_ifnull hx hb dX1_signed_17) ?_
      refine xl (fun _ => lv_aload hx hb dX1_signed_20 (lv_at hl 0 rfl)) ?_
      refine xl (fun _ => lv_ifnonnull (tgt := 27) hx hb dX1_signed_22 (by decide)) ?_
      refine xl (fun _ => lv_aload_n hx hb dX1_signed_27 rfl (lv_at hl 2 rfl)) ?_
      refine xl (fun _ => lv_iload_n hx hb dX1_signed_28 rfl (lv_at hl 3 rfl)) ?_
      refine xl (fun _ => lv_aload_n hx hb dX1_signed_29 rfl (lv_at hl 2 rfl)) ?_
      refine xl (fun _ => lv_bipush (v := 6) hx hb dX1_signed_30 (by decide)) ?_
      refine xl (fun _ => lv_iconst (v := 0) hx hb dX1_signed_32 (by decide)) ?_
      refine xl (fun _ => lv_aload hx hb dX1_signed_33 (lv_at hl 1 rfl)) ?_
      refine xl (fun _ => lv_aload hx hb dX1_signed_35 (lv_at hl 0 rfl)) ?_
      refine xl (fun _ => lv_null hx hb dX1_signed_37) ?_
      refine x_callV E hl (c_X1_plainTerm l G H b _ _ hX 6 0 (Option.map ta (some i)) (Option.map ta (some j)) (Option.map ta none) (sc_obo hC (o := (some i)) (so_b hi)) (sc_obo hC (o := (some j)) (so_b hj)) (sc_obo hC (o := none) (no_b))) xm_yX1_plainTerm wMX1_29 wI_yX1_plainTerm wT_yX1_plainTerm (ci := 1) rfl rfl hX (rest := [.int r, .ref b]) rfl (by simp [cat_rf, cat_int, cat_ref, cat_null]) (by decide) ⟨by decide, by decide⟩ dX1_signed_38 (fun v_1 H_2 hp_3 hz_4 hq_5 => ?_)
      obtain ⟨rfl, ht1, ht2, ht3, ht4⟩ := hp_3
      obtain ⟨hV1, hO1, hne1, hF1⟩ := sc_plain hV (some i) (some j) none 6 0 ht1 ht2 ht3 ht4
      obtain ⟨fc1, hC1, hfI1⟩ := id hV1
      obtain ⟨-, -, -, -, -, hX1, -⟩ := id hC1
      refine xg (g2 := F0 m 41 ls [.ref (H.size + 1), .int r, .ref b]) rfl ?_
      refine x_callV E hl (c_X1_makeInto l G H_2 b lo n t rg ta na pa dv g hV1 hD hg (6, 0, z4, sp_p4 (some i) (some j) none) (H.size + 1) (b + 3) H.size hO1 hne1 (wf_signed hi hj (sp_rs_of hs_3).2) hn1 r) xm_yX1_makeInto wMX1_33 wI_yX1_makeInto wT_yX1_makeInto (ci := 1) rfl rfl hX1 (rest := []) rfl (by decide) (by decide) ⟨by decide, by decide⟩ dX1_signed_41 (fun v_6 H_7 hp_8 hz_9 hq_10 => ?_)
      obtain ⟨rfl, hH2, hF2, hS2⟩ := hp_8
      refine xg (g2 := F0 m 44 ls [.int (sp_mi (n, t, rg, g) r (6, 0, z4, sp_p4 (some i) (some j) none)).1]) rfl ?_
      exact x_iret hx hb hr hlocks hs0 hbs (by decide) (by decide) dX1_signed_44 (⟨by simp only [op_signed, hs_3, hs_10], by simp only [op_signed, hs_3, hs_10]; exact hH2, hF1.tr hF2⟩)

set_option maxHeartbeats 4000000 in
set_option maxRecDepth 100000 in
theorem c_X1_row (l : Launch) (G : sg_G) (H : Heap) (b lo n : Nat) (t : Nat → sp_T) (rg : Nat → Option Nat) (g : Nat → Prop) (hH : sc_H G b lo n t rg g H) (hn1 : n < 512) (r k : Int32) : xC l G yX1_row cX1_row 3 (some FieldType.int) 5 2 11 [.ref b, .int r, .int k] H (fun ans H' => ans = some (.int (op_row (n, t, rg, g) r k).1) ∧ sc_HS G b lo (op_row (n, t, rg, g) r k).2 H' ∧ sc_F b lo H H') := by
  refine xC.start (by decide) (Nat.le_of_ble_eq_true rfl) ?_
  intro p e s m args below meth c ls E hnm hs0 hl
  obtain ⟨hx, hb, hml, hown, hts, hr, hlocks, hK, hbs⟩ := id E
  have hl : lv_has ls 3 [(0, .ref b), (1, .int r), (2, .int k)] := hl
  obtain ⟨ta, na, pa, dv, hV, hD, hg⟩ := id hH
  obtain ⟨fc, hC, hfI⟩ := id hV
  obtain ⟨hw, hb0, hb4, hlo, hn5, hX, hRG, hMD, hZR, hT, hrg, hwf⟩ := id hC
  have hFF : sc_F b lo H H := sc_F.rf
  have hSS : H.size = H.size := rfl
  refine xl (fun _ => lv_iload_n hx hb dX1_row_0 rfl (lv_at hl 2 rfl)) ?_
  refine x_callS E hl (c_X1_isKind l G H k) xm_yX1_isKind wMX1_56 wS_yX1_isKind (rest := []) rfl (by decide) (by decide) ⟨by decide, by decide⟩ dX1_row_1 (x_pure (r := .int (bI (sp_ik k))) (st1 := []) ?_)
  refine xb (fun _ => lv_if_ne (tgt := 9) hx hb dX1_row_4 (by decide)) (fun c_4 => ?_) (fun c_4 => ?_)
  · have c_4 := bI_t c_4
    refine xl (fun _ => lv_aload_n hx hb dX1_row_9 rfl (lv_at hl 0 rfl)) ?_
    refine xl (fun _ => lv_iload_n hx hb dX1_row_10 rfl (lv_at hl 1 rfl)) ?_
    refine xl (fun _ => lv_aload_n hx hb dX1_row_11 rfl (lv_at hl 0 rfl)) ?_
    refine xl (fun _ => lv_bipush (v := 7) hx hb dX1_row_12 (by decide)) ?_
    refine xl (fun _ => lv_iload_n hx hb dX1_row_14 rfl (lv_at hl 2 rfl)) ?_
    refine xl (fun _ => lv_null hx hb dX1_row_15) ?_
    refine xl (fun _ => lv_null hx hb dX1_row_16) ?_
    refine xl (fun _ => lv_null hx hb dX1_row_17) ?_
    refine x_callV E hl (c_X1_plainTerm l G H b _ _ hX 7 k (Option.map ta none) (Option.map ta none) (Option.map ta none) (sc_obo hC (o := none) (no_b)) (sc_obo hC (o := none) (no_b)) (sc_obo hC (o := none) (no_b))) xm_yX1_plainTerm wMX1_29 wI_yX1_plainTerm wT_yX1_plainTerm (ci := 1) rfl rfl hX (rest := [.int r, .ref b]) rfl (by simp [cat_rf, cat_int, cat_ref, cat_null]) (by decide) ⟨by decide, by decide⟩ dX1_row_18 (fun v_1 H_2 hp_3 hz_4 hq_5 => ?_)
    obtain ⟨rfl, ht1, ht2, ht3, ht4⟩ := hp_3
    obtain ⟨hV1, hO1, hne1, hF1⟩ := sc_plain hV none none none 7 k ht1 ht2 ht3 ht4
    obtain ⟨fc1, hC1, hfI1⟩ := id hV1
    obtain ⟨-, -, -, -, -, hX1, -⟩ := id hC1
    refine xg (g2 := F0 m 21 ls [.ref (H.size + 1), .int r, .ref b]) rfl ?_
    refine x_callV E hl (c_X1_makeInto l G H_2 b lo n t rg ta na pa dv g hV1 hD hg (7, k, z4, sp_p4 none none none) (H.size + 1) (b + 3) H.size hO1 hne1 (wf_row (sp_ik_of c_4) (bd_p4 (so := 7) (la := k) (nu := z4) no_b no_b no_b)) hn1 r) xm_yX1_makeInto wMX1_33 wI_yX1_makeInto wT_yX1_makeInto (ci := 1) rfl rfl hX1 (rest := []) rfl (by decide) (by decide) ⟨by decide, by decide⟩ dX1_row_21 (fun v_6 H_7 hp_8 hz_9 hq_10 => ?_)
    obtain ⟨rfl, hH2, hF2, hS2⟩ := hp_8
    refine xg (g2 := F0 m 24 ls [.int (sp_mi (n, t, rg, g) r (7, k, z4, sp_p4 none none none)).1]) rfl ?_
    exact x_iret hx hb hr hlocks hs0 hbs (by decide) (by decide) dX1_row_24 (⟨by simp only [op_row, c_4, reduceIte, Bool.false_eq_true, and_true, true_and, and_false, false_and, and_self, not_true_eq_false, not_false_eq_true], by simp only [op_row, c_4, reduceIte, Bool.false_eq_true, and_true, true_and, and_false, false_and, and_self, not_true_eq_false, not_false_eq_true]; exact hH2, hF1.tr hF2⟩)
  · have c_4 := bI_f c_4
    refine xl (fun _ => lv_iconst (v := (-1)) hx hb dX1_row_7 (by decide)) ?_
    exact x_iret hx hb hr hlocks hs0 hbs (by decide) (by decide) dX1_row_8 (⟨by simp only [op_row, c_4, reduceIte, Bool.false_eq_true, and_true, true_and, and_false, false_and, and_self, not_true_eq_false, not_false_eq_true], by simp only [op_row, c_4, reduceIte, Bool.false_eq_true, and_true, true_and, and_false, false_and, and_self, not_true_eq_false, not_false_eq_true]; exact hH, sc_F.rf⟩)
