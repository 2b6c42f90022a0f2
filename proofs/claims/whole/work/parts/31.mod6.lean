set_option maxHeartbeats 4000000 in
set_option maxRecDepth 100000 in
theorem c_X2_give (l : Launch) (G : sg_G) (H : Heap) (mb n : Nat) (t : Nat → sp_T) (rg : Nat → Option Nat) (g : Nat → Prop) (hH : sm_H G mb n t rg g H) (x : Int32) : xC l G yX2_give cX2_give 3 (some FieldType.int) 5 0 0 [.ref mb, .int x] H (fun ans H' => ans = some (.int (op_give (n, t, rg, g) x).1) ∧ sm_HS G mb (op_give (n, t, rg, g) x).2 H' ∧ sm_F mb H H') := by
  refine xC.start (by decide) (Nat.le_of_ble_eq_true rfl) ?_
  intro p e s m args below meth c ls E hnm hs0 hl
  obtain ⟨hx, hb, hml, hown, hts, hr, hlocks, hK, hbs⟩ := id E
  have hl : lv_has ls 3 [(0, .ref mb), (1, .int x)] := hl
  obtain ⟨so, on, tw, th, ce, kb, li, re, ns, hM, hR, hQ, hns, hg⟩ := id hH
  obtain ⟨hm0, hmn, hX, h1, h2, h3, h4, h5, h6, h7, h8, h9⟩ := id hM
  obtain ⟨hRt, hRr, hRg, hRw⟩ := id hR
  have hF : sm_F mb H H := sm_F.rf
  refine xl (fun _ => lv_aload_n hx hb dX2_give_0 rfl (lv_at hl 0 rfl)) ?_
  refine xl (fun _ => lv_iload_n hx hb dX2_give_1 rfl (lv_at hl 1 rfl)) ?_
  refine x_callV E hl (c_X2_holds l G H mb n _ _ _ _ _ _ _ _ _ _ ⟨hm0, hmn, hX, h1, h2, h3, h4, h5, h6, h7, h8, h9⟩ t rg hR x) xm_yX2_holds wMX2_50 wI_yX2_holds wT_yX2_holds (ci := 2) rfl rfl hX (rest := []) rfl (by decide) (by decide) ⟨by decide, by decide⟩ dX2_give_2 (x_pure (r := .int (bI (sp_rg rg x).isSome)) (st1 := []) ?_)
  refine xb (fun _ => lv_if_ne (tgt := 10) hx hb dX2_give_5 (by decide)) (fun c_5 => ?_) (fun c_5 => ?_)
  · have c_5 := bI_t c_5
    obtain ⟨i, hs_5⟩ := isS c_5
    obtain ⟨j_x, hj_x, he_x, hg_x⟩ := sp_rg_s hs_5
    have hi_i : i < n := hRg j_x hj_x i hg_x
    have hr_x : re j_x = nI (i + 1) := by rw [hRr j_x hj_x, hg_x]; rfl
    refine xl (fun _ => lv_aload_n hx hb dX2_give_10 rfl (lv_at hl 0 rfl)) ?_
    refine x_callV E hl (c_X2_derivedNow l G H mb n so on tw th ce li re kb g (nI ns) ⟨hm0, hmn, hX, h1, h2, h3, h4, h5, h6, h7, h8, h9⟩ t rg hR) xm_yX2_derivedNow wMX2_94 wI_yX2_derivedNow wT_yX2_derivedNow (ci := 2) rfl rfl hX (rest := []) rfl (by decide) (by decide) ⟨by decide, by decide⟩ dX2_give_11 (fun v_1 H_2 hp_3 hz_4 hq_5 => ?_)
    obtain ⟨rfl, ⟨k5, hM⟩, hF1⟩ := hp_3
    have hF : sm_F mb H H_2 := hF.tr hF1
    refine xg (g2 := F0 m 14 ls [.int (nI (sp_dc n t g))]) rfl ?_
    obtain ⟨hm0, hmn, hX, h1, h2, h3, h4, h5, h6, h7, h8, h9⟩ := id hM
    refine xs (fun _ => lv_istore_n (i := 2) (lv' := [(2, .int (nI (sp_dc n t g))), (0, .ref mb), (1, .int x)]) hx hb dX2_give_14 rfl hl (by decide) (rfl)) (fun ls hl => ?_)
    refine xl (fun _ => lv_aload_n hx hb dX2_give_15 rfl (lv_at hl 1 rfl)) ?_
    refine x_get (ci := 2) hx hb hts hown hK wiX2 hX rfl 6 (by decide) wFX2_25 rfl rfl dX2_give_16 ?_
    refine xl (fun _ => lv_aload_n hx hb dX2_give_19 rfl (lv_at hl 1 rfl)) ?_
    refine x_get (ci := 2) hx hb hts hown hK wiX2 hX rfl 9 (by decide) wFX2_35 rfl rfl dX2_give_20 ?_
    refine xl (fun _ => lv_iload_n hx hb dX2_give_23 rfl (lv_at hl 2 rfl)) ?_
    refine x_iald hx hb hK h9 j_x (he_x) (by have := hj_x; omega) (by decide) dX2_give_24 ?_
    rw [show (re j_x) = (nI (i + 1)) from hr_x]
    refine xl (fun _ => lv_iconst (v := 1) hx hb dX2_give_25 (by decide)) ?_
    refine xl (fun _ => lv_isub hx hb dX2_give_26) ?_
    rw [show ((nI (i + 1)) - 1) = (nI i) from nI_pred i]
    refine xl (fun _ => lv_iconst (v := 1) hx hb dX2_give_27 (by decide)) ?_
    refine x_zast hx hb hK h6 i (rfl) (by omega) (by decide) (by omega) (by decide) dX2_give_28 (fun H_6 ho_7 hz_8 hq_9 => ?_)
    have ho_7 : za_ G H_6 (mb + 6) 640 (fun z => bI (cB (sp_gv g i z))) := by rw [show (upd (fun i => bI (cB (g i))) i 1) = (fun z => bI (cB (sp_gv g i z))) from upd_gv g i] at ho_7; exact ho_7
    have k_10 := va_at.kept (H1 := H_6) (hX) (hq_9 _ (by omega))
    have k_11 := va_at.kept (H1 := H_6) (h1) (hq_9 _ (by omega))
    have k_12 := va_at.kept (H1 := H_6) (h2) (hq_9 _ (by omega))
    have k_13 := va_at.kept (H1 := H_6) (h3) (hq_9 _ (by omega))
    have k_14 := va_at.kept (H1 := H_6) (h4) (hq_9 _ (by omega))
    have k_15 := va_at.kept (H1 := H_6) (h5) (hq_9 _ (by omega))
    have k_16 := va_at.kept (H1 := H_6) (h7) (hq_9 _ (by omega))
    have k_17 := va_at.kept (H1 := H_6) (h8) (hq_9 _ (by omega))
    have k_18 := va_at.kept (H1 := H_6) (h9) (hq_9 _ (by omega))
    have hF : sm_F mb H H_6 := hF.put (a := (mb + 6)) hz_8 hq_9 ⟨by omega, by omega⟩
    refine xl (fun _ => lv_aload_n hx hb dX2_give_29 rfl (lv_at hl 1 rfl)) ?_
    refine x_callV E hl (c_X2_derivedNow l G H_6 mb n so on tw th ce li re k5 (sp_gv g i) (nI ns) ⟨hm0, hmn, k_10, k_11, k_12, k_13, k_14, k_15, ho_7, k_16, k_17, k_18⟩ t rg hR) xm_yX2_derivedNow wMX2_94 wI_yX2_derivedNow wT_yX2_derivedNow (ci := 2) rfl rfl k_10 (rest := []) rfl (by decide) (by decide) ⟨by decide, by decide⟩ dX2_give_30 (fun v_19 H_20 hp_21 hz_22 hq_23 => ?_)
    obtain ⟨rfl, ⟨k23, hM⟩, hF1⟩ := hp_21
    have hF : sm_F mb H H_20 := hF.tr hF1
    refine xg (g2 := F0 m 33 ls [.int (nI (sp_dc n t (sp_gv g i)))]) rfl ?_
    obtain ⟨hm0, hmn, hX, h1, h2, h3, h4, h5, h6, h7, h8, h9⟩ := id hM
    refine xl (fun _ => lv_iload_n hx hb dX2_give_33 rfl (lv_at hl 0 rfl)) ?_
    refine xl (fun _ => lv_isub hx hb dX2_give_34) ?_
    exact x_iret hx hb hr hlocks hs0 hbs (by decide) (by decide) dX2_give_35 (⟨by simp only [op_give, hs_5], by simp only [op_give, hs_5]; exact ⟨so, on, tw, th, ce, _, li, re, ns, hM, hR, hQ, hns, fun j h => by rcases h with h | rfl; exact hg j h; exact hi_i⟩, hF⟩)
  · have c_5 := bI_f c_5
    have hs_5 := isN c_5
    refine xl (fun _ => lv_iconst (v := (-1)) hx hb dX2_give_8 (by decide)) ?_
    exact x_iret hx hb hr hlocks hs0 hbs (by decide) (by decide) dX2_give_9 (⟨by simp only [op_give, hs_5], by simp only [op_give, hs_5]; exact hH, sm_F.rf⟩)

set_option maxHeartbeats 4000000 in
set_option maxRecDepth 100000 in
theorem c_X2_derived (l : Launch) (G : sg_G) (H : Heap) (mb n : Nat) (t : Nat → sp_T) (rg : Nat → Option Nat) (g : Nat → Prop) (hH : sm_H G mb n t rg g H) (x : Int32) : xC l G yX2_derived cX2_derived 2 (some FieldType.int) 4 0 0 [.ref mb, .int x] H (fun ans H' => ans = some (.int (op_derived (n, t, rg, g) x)) ∧ sm_H G mb n t rg g H' ∧ sm_F mb H H') := by
  refine xC.start (by decide) (Nat.le_of_ble_eq_true rfl) ?_
  intro p e s m args below meth c ls E hnm hs0 hl
  obtain ⟨hx, hb, hml, hown, hts, hr, hlocks, hK, hbs⟩ := id E
  have hl : lv_has ls 2 [(0, .ref mb), (1, .int x)] := hl
  obtain ⟨so, on, tw, th, ce, kb, li, re, ns, hM, hR, hQ, hns, hg⟩ := id hH
  obtain ⟨hm0, hmn, hX, h1, h2, h3, h4, h5, h6, h7, h8, h9⟩ := id hM
  obtain ⟨hRt, hRr, hRg, hRw⟩ := id hR
  have hF : sm_F mb H H := sm_F.rf
  refine xl (fun _ => lv_aload_n hx hb dX2_derived_0 rfl (lv_at hl 0 rfl)) ?_
  refine xl (fun _ => lv_iload_n hx hb dX2_derived_1 rfl (lv_at hl 1 rfl)) ?_
  refine x_callV E hl (c_X2_holds l G H mb n _ _ _ _ _ _ _ _ _ _ ⟨hm0, hmn, hX, h1, h2, h3, h4, h5, h6, h7, h8, h9⟩ t rg hR x) xm_yX2_holds wMX2_50 wI_yX2_holds wT_yX2_holds (ci := 2) rfl rfl hX (rest := []) rfl (by decide) (by decide) ⟨by decide, by decide⟩ dX2_derived_2 (x_pure (r := .int (bI (sp_rg rg x).isSome)) (st1 := []) ?_)
  refine xb (fun _ => lv_if_ne (tgt := 10) hx hb dX2_derived_5 (by decide)) (fun c_5 => ?_) (fun c_5 => ?_)
  · have c_5 := bI_t c_5
    obtain ⟨i, hs_5⟩ := isS c_5
    obtain ⟨j_x, hj_x, he_x, hg_x⟩ := sp_rg_s hs_5
    have hi_i : i < n := hRg j_x hj_x i hg_x
    have hr_x : re j_x = nI (i + 1) := by rw [hRr j_x hj_x, hg_x]; rfl
    refine xl (fun _ => lv_aload_n hx hb dX2_derived_10 rfl (lv_at hl 0 rfl)) ?_
    refine x_callV E hl (c_X2_derive l G H mb n so on tw th ce li re _ g _ ⟨hm0, hmn, hX, h1, h2, h3, h4, h5, h6, h7, h8, h9⟩ t rg hR) xm_yX2_derive wMX2_91 wI_yX2_derive wT_yX2_derive (ci := 2) rfl rfl hX (rest := []) rfl (by decide) (by decide) ⟨by decide, by decide⟩ dX2_derived_11 (fun v_1 H_2 hp_3 hz_4 hq_5 => ?_)
    obtain ⟨rfl, ⟨k2, hM, hD2⟩, hF1⟩ := hp_3
    have hF : sm_F mb H H_2 := hF.tr hF1
    refine xg (g2 := F0 m 14 ls []) rfl ?_
    obtain ⟨hm0, hmn, hX, h1, h2, h3, h4, h5, h6, h7, h8, h9⟩ := id hM
    refine xl (fun _ => lv_aload_n hx hb dX2_derived_14 rfl (lv_at hl 0 rfl)) ?_
    refine x_get (ci := 2) hx hb hts hown hK wiX2 hX rfl 7 (by decide) wFX2_29 rfl rfl dX2_derived_15 ?_
    refine xl (fun _ => lv_aload_n hx hb dX2_derived_18 rfl (lv_at hl 0 rfl)) ?_
    refine x_get (ci := 2) hx hb hts hown hK wiX2 hX rfl 9 (by decide) wFX2_35 rfl rfl dX2_derived_19 ?_
    refine xl (fun _ => lv_iload_n hx hb dX2_derived_22 rfl (lv_at hl 1 rfl)) ?_
    refine x_iald hx hb hK h9 j_x (he_x) (by have := hj_x; omega) (by decide) dX2_derived_23 ?_
    rw [show (re j_x) = (nI (i + 1)) from hr_x]
    refine xl (fun _ => lv_iconst (v := 1) hx hb dX2_derived_24 (by decide)) ?_
    refine xl (fun _ => lv_isub hx hb dX2_derived_25) ?_
    rw [show ((nI (i + 1)) - 1) = (nI i) from nI_pred i]
    refine x_zald hx hb hK h7 i (rfl) (by omega) (by decide) dX2_derived_26 ?_
    refine xb (fun _ => lv_if_eq (tgt := 34) hx hb dX2_derived_27 (by decide)) (fun c_27 => ?_) (fun c_27 => ?_)
    · have c_27 := bI_f c_27
      refine xl (fun _ => lv_iconst (v := 0) hx hb dX2_derived_34 (by decide)) ?_
      exact x_iret hx hb hr hlocks hs0 hbs (by decide) (by decide) dX2_derived_35 (⟨by simp only [op_derived, hs_5]; rw [show sp_dB n t g i = k2 i from bool_eq (sp_dB_t.trans (hD2 i hi_i).symm), c_27]; rfl, ⟨so, on, tw, th, ce, k2, li, re, ns, hM, hR, hQ, hns, hg⟩, hF⟩)
    · have c_27 := bI_t c_27
      refine xl (fun _ => lv_iconst (v := 1) hx hb dX2_derived_30 (by decide)) ?_
      refine xl (fun _ => lv_goto (tgt := 35) hx hb dX2_derived_31 (by decide)) ?_
      exact x_iret hx hb hr hlocks hs0 hbs (by decide) (by decide) dX2_derived_35 (⟨by simp only [op_derived, hs_5]; rw [show sp_dB n t g i = k2 i from bool_eq (sp_dB_t.trans (hD2 i hi_i).symm), c_27]; rfl, ⟨so, on, tw, th, ce, k2, li, re, ns, hM, hR, hQ, hns, hg⟩, hF⟩)
  · have c_5 := bI_f c_5
    have hs_5 := isN c_5
    refine xl (fun _ => lv_iconst (v := (-1)) hx hb dX2_derived_8 (by decide)) ?_
    exact x_iret hx hb hr hlocks hs0 hbs (by decide) (by decide) dX2_derived_9 (⟨by simp only [op_derived, hs_5], hH, sm_F.rf⟩)

set_option maxHeartbeats 4000000 in
set_option maxRecDepth 100000 in
theorem c_X2_count (l : Launch) (G : sg_G) (H : Heap) (mb n : Nat) (t : Nat → sp_T) (rg : Nat → Option Nat) (g : Nat → Prop) (hH : sm_H G mb n t rg g H) (w : Int32) : xC l G yX2_count cX2_count 2 (some FieldType.int) 5 0 0 [.ref mb, .int w] H (fun ans H' => ans = some (.int (op_count (n, t, rg, g) w)) ∧ sm_H G mb n t rg g H' ∧ sm_F mb H H') := by
  refine xC.start (by decide) (Nat.le_of_ble_eq_true rfl) ?_
  intro p e s m args below meth c ls E hnm hs0 hl
  obtain ⟨hx, hb, hml, hown, hts, hr, hlocks, hK, hbs⟩ := id E
  have hl : lv_has ls 2 [(0, .ref mb), (1, .int w)] := hl
  obtain ⟨so, on, tw, th, ce, kb, li, re, ns, hM, hR, hQ, hns, hg⟩ := id hH
  obtain ⟨hm0, hmn, hX, h1, h2, h3, h4, h5, h6, h7, h8, h9⟩ := id hM
  obtain ⟨hRt, hRr, hRg, hRw⟩ := id hR
  have hF : sm_F mb H H := sm_F.rf
  refine xl (fun _ => lv_iload_n hx hb dX2_count_0 rfl (lv_at hl 1 rfl)) ?_
  refine xb (fun _ => lv_if_ne (tgt := 11) hx hb dX2_count_1 (by decide)) (fun c_1 => ?_) (fun c_1 => ?_)
  · refine xl (fun _ => lv_iload_n hx hb dX2_count_11 rfl (lv_at hl 1 rfl)) ?_
    refine xl (fun _ => lv_iconst (v := 1) hx hb dX2_count_12 (by decide)) ?_
    refine xb (fun _ => lv_icmp_ne (tgt := 23) hx hb dX2_count_13 (by decide)) (fun c_13 => ?_) (fun c_13 => ?_)
    · refine xl (fun _ => lv_iconst (v := (-1)) hx hb dX2_count_23 (by decide)) ?_
      exact x_iret hx hb hr hlocks hs0 hbs (by decide) (by decide) dX2_count_24 (⟨by simp only [op_count, c_1, c_13, reduceIte, Bool.false_eq_true, and_true, true_and, and_false, false_and, and_self, not_true_eq_false, not_false_eq_true], hH, hF⟩)
    · have c_1 : ¬ (1 : Int32) = 0 := by decide
      refine xl (fun _ => lv_aload_n hx hb dX2_count_16 rfl (lv_at hl 0 rfl)) ?_
      refine x_callV E hl (c_X2_derivedNow l G H mb n so on tw th ce li re kb g (nI ns) ⟨hm0, hmn, hX, h1, h2, h3, h4, h5, h6, h7, h8, h9⟩ t rg hR) xm_yX2_derivedNow wMX2_94 wI_yX2_derivedNow wT_yX2_derivedNow (ci := 2) rfl rfl hX (rest := []) rfl (by decide) (by decide) ⟨by decide, by decide⟩ dX2_count_17 (fun v_1 H_2 hp_3 hz_4 hq_5 => ?_)
      obtain ⟨rfl, ⟨k5, hM⟩, hF1⟩ := hp_3
      have hF : sm_F mb H H_2 := hF.tr hF1
      refine xg (g2 := F0 m 20 ls [.int (nI (sp_dc n t g))]) rfl ?_
      obtain ⟨hm0, hmn, hX, h1, h2, h3, h4, h5, h6, h7, h8, h9⟩ := id hM
      refine xl (fun _ => lv_goto (tgt := 24) hx hb dX2_count_20 (by decide)) ?_
      exact x_iret hx hb hr hlocks hs0 hbs (by decide) (by decide) dX2_count_24 (⟨by simp only [op_count, c_1, c_13, reduceIte, Bool.false_eq_true, and_true, true_and, and_false, false_and, and_self, not_true_eq_false, not_false_eq_true], ⟨so, on, tw, th, ce, _, li, re, ns, hM, hR, hQ, hns, hg⟩, hF⟩)
  · refine xl (fun _ => lv_aload_n hx hb dX2_count_4 rfl (lv_at hl 0 rfl)) ?_
    refine x_get (ci := 2) hx hb hts hown hK wiX2 hX rfl 0 (by decide) wFX2_38 rfl rfl dX2_count_5 ?_
    refine xl (fun _ => lv_goto (tgt := 24) hx hb dX2_count_8 (by decide)) ?_
    exact x_iret hx hb hr hlocks hs0 hbs (by decide) (by decide) dX2_count_24 (⟨by simp only [op_count, c_1, reduceIte, Bool.false_eq_true, and_true, true_and, and_false, false_and, and_self, not_true_eq_false, not_false_eq_true], hH, hF⟩)

set_option maxHeartbeats 4000000 in
set_option maxRecDepth 100000 in
theorem c_X2_same (l : Launch) (G : sg_G) (H : Heap) (mb n : Nat) (t : Nat → sp_T) (rg : Nat → Option Nat) (g : Nat → Prop) (hH : sm_H G mb n t rg g H) (x y : Int32) : xC l G yX2_same cX2_same 3 (some FieldType.int) 2 0 0 [.ref mb, .int x, .int y] H (xPu (.int (op_same (n, t, rg, g) x y)) H) := by
  refine xC.start (by decide) (Nat.le_of_ble_eq_true rfl) ?_
  intro p e s m args below meth c ls E hnm hs0 hl
  obtain ⟨hx, hb, hml, hown, hts, hr, hlocks, hK, hbs⟩ := id E
  have hl : lv_has ls 3 [(0, .ref mb), (1, .int x), (2, .int y)] := hl
  obtain ⟨so, on, tw, th, ce, kb, li, re, ns, hM, hR, hQ, hns, hg⟩ := id hH
  obtain ⟨hm0, hmn, hX, h1, h2, h3, h4, h5, h6, h7, h8, h9⟩ := id hM
  obtain ⟨hRt, hRr, hRg, hRw⟩ := id hR
  have hF : sm_F mb H H := sm_F.rf
  refine xl (fun _ => lv_aload_n hx hb dX2_same_0 rfl (lv_at hl 0 rfl)) ?_
  refine xl (fun _ => lv_iload_n hx hb dX2_same_1 rfl (lv_at hl 1 rfl)) ?_
  refine x_callV E hl (c_X2_holds l G H mb n _ _ _ _ _ _ _ _ _ _ ⟨hm0, hmn, hX, h1, h2, h3, h4, h5, h6, h7, h8, h9⟩ t rg hR x) xm_yX2_holds wMX2_50 wI_yX2_holds wT_yX2_holds (ci := 2) rfl rfl hX (rest := []) rfl (by decide) (by decide) ⟨by decide, by decide⟩ dX2_same_2 (x_pure (r := .int (bI (sp_rg rg x).isSome)) (st1 := []) ?_)
  refine xb (fun _ => lv_if_eq (tgt := 16) hx hb dX2_same_5 (by decide)) (fun c_5 => ?_) (fun c_5 => ?_)
  · have c_5 := bI_f c_5
    have hs_5 := isN c_5
    refine xl (fun _ => lv_iconst (v := (-1)) hx hb dX2_same_16 (by decide)) ?_
    refine xl (fun _ => lv_goto (tgt := 40) hx hb dX2_same_17 (by decide)) ?_
    exact x_iret hx hb hr hlocks hs0 hbs (by decide) (by decide) dX2_same_40 (⟨by simp only [op_same, hs_5], rfl⟩)
  · have c_5 := bI_t c_5
    obtain ⟨i, hs_5⟩ := isS c_5
    obtain ⟨j_x, hj_x, he_x, hg_x⟩ := sp_rg_s hs_5
    have hi_i : i < n := hRg j_x hj_x i hg_x
    have hr_x : re j_x = nI (i + 1) := by rw [hRr j_x hj_x, hg_x]; rfl
    refine xl (fun _ => lv_aload_n hx hb dX2_same_8 rfl (lv_at hl 0 rfl)) ?_
    refine xl (fun _ => lv_iload_n hx hb dX2_same_9 rfl (lv_at hl 2 rfl)) ?_
    refine x_callV E hl (c_X2_holds l G H mb n _ _ _ _ _ _ _ _ _ _ ⟨hm0, hmn, hX, h1, h2, h3, h4, h5, h6, h7, h8, h9⟩ t rg hR y) xm_yX2_holds wMX2_50 wI_yX2_holds wT_yX2_holds (ci := 2) rfl rfl hX (rest := []) rfl (by decide) (by decide) ⟨by decide, by decide⟩ dX2_same_10 (x_pure (r := .int (bI (sp_rg rg y).isSome)) (st1 := []) ?_)
    refine xb (fun _ => lv_if_ne (tgt := 20) hx hb dX2_same_13 (by decide)) (fun c_13 => ?_) (fun c_13 => ?_)
    · have c_13 := bI_t c_13
      obtain ⟨j, hs_13⟩ := isS c_13
      obtain ⟨j_y, hj_y, he_y, hg_y⟩ := sp_rg_s hs_13
      have hi_j : j < n := hRg j_y hj_y j hg_y
      have hr_y : re j_y = nI (j + 1) := by rw [hRr j_y hj_y, hg_y]; rfl
      refine xl (fun _ => lv_aload_n hx hb dX2_same_20 rfl (lv_at hl 0 rfl)) ?_
      refine x_get (ci := 2) hx hb hts hown hK wiX2 hX rfl 9 (by decide) wFX2_35 rfl rfl dX2_same_21 ?_
      refine xl (fun _ => lv_iload_n hx hb dX2_same_24 rfl (lv_at hl 1 rfl)) ?_
      refine x_iald hx hb hK h9 j_x (he_x) (by have := hj_x; omega) (by decide) dX2_same_25 ?_
      rw [show (re j_x) = (nI (i + 1)) from hr_x]
      refine xl (fun _ => lv_aload_n hx hb dX2_same_26 rfl (lv_at hl 0 rfl)) ?_
      refine x_get (ci := 2) hx hb hts hown hK wiX2 hX rfl 9 (by decide) wFX2_35 rfl rfl dX2_same_27 ?_
      refine xl (fun _ => lv_iload_n hx hb dX2_same_30 rfl (lv_at hl 2 rfl)) ?_
      refine x_iald hx hb hK h9 j_y (he_y) (by have := hj_y; omega) (by decide) dX2_same_31 ?_
      rw [show (re j_y) = (nI (j + 1)) from hr_y]
      refine xb (fun _ => lv_icmp_ne (tgt := 39) hx hb dX2_same_32 (by decide)) (fun c_32 => ?_) (fun c_32 => ?_)
      · refine xl (fun _ => lv_iconst (v := 0) hx hb dX2_same_39 (by decide)) ?_
        exact x_iret hx hb hr hlocks hs0 hbs (by decide) (by decide) dX2_same_40 (⟨by simp only [op_same, hs_5, hs_13]; rw [if_neg (fun e => c_32 (by rw [e]))], rfl⟩)
      · refine xl (fun _ => lv_iconst (v := 1) hx hb dX2_same_35 (by decide)) ?_
        refine xl (fun _ => lv_goto (tgt := 40) hx hb dX2_same_36 (by decide)) ?_
        exact x_iret hx hb hr hlocks hs0 hbs (by decide) (by decide) dX2_same_40 (⟨by simp only [op_same, hs_5, hs_13]; rw [if_pos (by have := (nI_eq (by omega) (by omega)).mp c_32; omega)], rfl⟩)
    · have c_13 := bI_f c_13
      have hs_13 := isN c_13
      refine xl (fun _ => lv_iconst (v := (-1)) hx hb dX2_same_16 (by decide)) ?_
      refine xl (fun _ => lv_goto (tgt := 40) hx hb dX2_same_17 (by decide)) ?_
      exact x_iret hx hb hr hlocks hs0 hbs (by decide) (by decide) dX2_same_40 (⟨by simp only [op_same, hs_5, hs_13], rfl⟩)

theorem about_neg {w : Int32} (h : w < 0) : sp_is (w - 2) = false := by
  refine decide_eq_false (fun z => ?_)
  have h1 := Int32.lt_iff_toInt_lt.mp h
  have h2 := Int32.lt_iff_toInt_lt.mp z.2
  have h3 := Int32.le_iff_toInt_le.mp (Int32.not_lt.mp z.1)
  have e0 : (0 : Int32).toInt = 0 := rfl
  have e4 : (4 : Int32).toInt = 4 := rfl
  have e2 : (2 : Int32).toInt = 2 := rfl
  have := Int32.le_toInt w
  rw [Int32.toInt_sub, e2] at h2 h3
  rw [e0] at h1 h3
  rw [e4] at h2
  rw [Int.bmod_def] at h2 h3
  split at h2 <;> split at h3 <;> omega
theorem about_big {w : Int32} (h : ¬ w ≤ 5) : sp_is (w - 2) = false := by
  refine decide_eq_false (fun z => ?_)
  have h1 := Int32.lt_iff_toInt_lt.mp (Int32.not_le.mp h)
  have h2 := Int32.lt_iff_toInt_lt.mp z.2
  have h3 := Int32.le_iff_toInt_le.mp (Int32.not_lt.mp z.1)
  have e0 : (0 : Int32).toInt = 0 := rfl
  have e4 : (4 : Int32).toInt = 4 := rfl
  have e5 : (5 : Int32).toInt = 5 := rfl
  have e2 : (2 : Int32).toInt = 2 := rfl
  have := Int32.toInt_lt w
  rw [Int32.toInt_sub, e2] at h2 h3
  rw [e5] at h1
  rw [e0] at h3
  rw [e4] at h2
  rw [Int.bmod_def] at h2 h3
  split at h2 <;> split at h3 <;> omega

set_option maxHeartbeats 4000000 in
set_option maxRecDepth 100000 in
theorem c_X2_about (l : Launch) (G : sg_G) (H : Heap) (mb n : Nat) (t : Nat → sp_T) (rg : Nat → Option Nat) (g : Nat → Prop) (hH : sm_H G mb n t rg g H) (x w : Int32) : xC l G yX2_about cX2_about 4 (some FieldType.int) 2 0 0 [.ref mb, .int x, .int w] H (xPu (.int (op_about (n, t, rg, g) x w)) H) := by
  refine xC.start (by decide) (Nat.le_of_ble_eq_true rfl) ?_
  intro p e s m args below meth c ls E hnm hs0 hl
  obtain ⟨hx, hb, hml, hown, hts, hr, hlocks, hK, hbs⟩ := id E
  have hl : lv_has ls 4 [(0, .ref mb), (1, .int x), (2, .int w)] := hl
  obtain ⟨so, on, tw, th, ce, kb, li, re, ns, hM, hR, hQ, hns, hg⟩ := id hH
  obtain ⟨hm0, hmn, hX, h1, h2, h3, h4, h5, h6, h7, h8, h9⟩ := id hM
  obtain ⟨hRt, hRr, hRg, hRw⟩ := id hR
  have hF : sm_F mb H H := sm_F.rf
  refine xl (fun _ => lv_aload_n hx hb dX2_about_0 rfl (lv_at hl 0 rfl)) ?_
  refine xl (fun _ => lv_iload_n hx hb dX2_about_1 rfl (lv_at hl 1 rfl)) ?_
  refine x_callV E hl (c_X2_holds l G H mb n _ _ _ _ _ _ _ _ _ _ ⟨hm0, hmn, hX, h1, h2, h3, h4, h5, h6, h7, h8, h9⟩ t rg hR x) xm_yX2_holds wMX2_50 wI_yX2_holds wT_yX2_holds (ci := 2) rfl rfl hX (rest := []) rfl (by decide) (by decide) ⟨by decide, by decide⟩ dX2_about_2 (x_pure (r := .int (bI (sp_rg rg x).isSome)) (st1 := []) ?_)
  refine xb (fun _ => lv_if_eq (tgt := 17) hx hb dX2_about_5 (by decide)) (fun c_5 => ?_) (fun c_5 => ?_)
  · have c_5 := bI_f c_5
    have hs_5 := isN c_5
    refine xl (fun _ => lv_iconst (v := (-1)) hx hb dX2_about_17 (by decide)) ?_
    exact x_iret hx hb hr hlocks hs0 hbs (by decide) (by decide) dX2_about_18 (⟨by simp only [op_about, hs_5, reduceIte, Bool.false_eq_true, and_true, true_and, and_false, false_and, and_self, not_true_eq_false, not_false_eq_true], rfl⟩)
  · have c_5 := bI_t c_5
    obtain ⟨i, hs_5⟩ := isS c_5
    obtain ⟨j_x, hj_x, he_x, hg_x⟩ := sp_rg_s hs_5
    have hi_i : i < n := hRg j_x hj_x i hg_x
    have hr_x : re j_x = nI (i + 1) := by rw [hRr j_x hj_x, hg_x]; rfl
    refine xl (fun _ => lv_iload_n hx hb dX2_about_8 rfl (lv_at hl 2 rfl)) ?_
    refine xb (fun _ => lv_if_lt (tgt := 17) hx hb dX2_about_9 (by decide)) (fun c_9 => ?_) (fun c_9 => ?_)
    · have n0 : ¬ w = 0 := fun e => by rw [e] at c_9; exact absurd c_9 (by decide)
      have n1 : ¬ w = 1 := fun e => by rw [e] at c_9; exact absurd c_9 (by decide)
      have ns2 : sp_is (w - 2) = false := about_neg c_9
      refine xl (fun _ => lv_iconst (v := (-1)) hx hb dX2_about_17 (by decide)) ?_
      exact x_iret hx hb hr hlocks hs0 hbs (by decide) (by decide) dX2_about_18 (⟨by simp only [op_about, hs_5, n0, n1, ns2, reduceIte, Bool.false_eq_true, and_true, true_and, and_false, false_and, and_self, not_true_eq_false, not_false_eq_true], rfl⟩)
    · refine xl (fun _ => lv_iload_n hx hb dX2_about_12 rfl (lv_at hl 2 rfl)) ?_
      refine xl (fun _ => lv_iconst (v := 5) hx hb dX2_about_13 (by decide)) ?_
      refine xb (fun _ => lv_icmp_le (tgt := 19) hx hb dX2_about_14 (by decide)) (fun c_14 => ?_) (fun c_14 => ?_)
      · obtain ⟨j, hj, rfl⟩ : ∃ j, j < 6 ∧ w = nI j := by
          rcases pk_ix w (n := 6) (by decide) with a | a | a
          · exact absurd a c_9
          · exact absurd (Int32.lt_of_lt_of_le (show (5 : Int32) < nI 6 by decide) a) (Int32.not_lt.mpr c_14)
          · exact a
        obtain ⟨q1, q2, q3, q4, q5⟩ := hRt i hi_i
        refine xl (fun _ => lv_aload_n hx hb dX2_about_19 rfl (lv_at hl 0 rfl)) ?_
        refine x_get (ci := 2) hx hb hts hown hK wiX2 hX rfl 9 (by decide) wFX2_35 rfl rfl dX2_about_20 ?_
        refine xl (fun _ => lv_iload_n hx hb dX2_about_23 rfl (lv_at hl 1 rfl)) ?_
        refine x_iald hx hb hK h9 j_x (he_x) (by have := hj_x; omega) (by decide) dX2_about_24 ?_
        rw [show (re j_x) = (nI (i + 1)) from hr_x]
        refine xl (fun _ => lv_iconst (v := 1) hx hb dX2_about_25 (by decide)) ?_
        refine xl (fun _ => lv_isub hx hb dX2_about_26) ?_
        rw [show ((nI (i + 1)) - 1) = (nI i) from nI_pred i]
        refine xs (fun _ => lv_istore_n (i := 3) (lv' := [(3, .int (nI i)), (0, .ref mb), (1, .int x), (2, .int (nI j))]) hx hb dX2_about_27 rfl hl (by decide) (rfl)) (fun ls hl => ?_)
        refine xl (fun _ => lv_iload_n hx hb dX2_about_28 rfl (lv_at hl 3 rfl)) ?_
        refine xb (fun _ => lv_if_ne (tgt := 39) hx hb dX2_about_29 (by decide)) (fun c_29 => ?_) (fun c_29 => ?_)
        · refine xl (fun _ => lv_iload_n hx hb dX2_about_39 rfl (lv_at hl 3 rfl)) ?_
          refine xl (fun _ => lv_iconst (v := 1) hx hb dX2_about_40 (by decide)) ?_
          refine xb (fun _ => lv_icmp_ne (tgt := 76) hx hb dX2_about_41 (by decide)) (fun c_41 => ?_) (fun c_41 => ?_)
          · have hj2 : 2 ≤ j := by
              have z0 : ¬ j = 0 := fun e => c_29 (by rw [e]; rfl)
              have z1 : ¬ j = 1 := fun e => c_41 (by rw [e]; rfl)
              omega
            have hsub : nI j - 2 = nI (j - 2) := pk_sub (b := 2) hj2
            have hiss : sp_is (nI (j - 2)) = true := sp_is_nI (by omega)
            have hcl : (nI (j - 2)).toNatClampNeg = j - 2 := nI_clamp (by omega)
            refine xl (fun _ => lv_aload_n hx hb dX2_about_76 rfl (lv_at hl 1 rfl)) ?_
            refine x_get (ci := 2) hx hb hts hown hK wiX2 hX rfl 1 (by decide) wFX2_9 rfl rfl dX2_about_77 ?_
            refine xl (fun _ => lv_iload_n hx hb dX2_about_80 rfl (lv_at hl 0 rfl)) ?_
            refine x_iald hx hb hK h1 i (rfl) (by omega) (by decide) dX2_about_81 ?_
            rw [show (so i) = (sp_so (t i)) from q1]
            refine xl (fun _ => lv_bipush (v := 7) hx hb dX2_about_82 (by decide)) ?_
            refine xb (fun _ => lv_icmp_ne (tgt := 103) hx hb dX2_about_84 (by decide)) (fun c_84 => ?_) (fun c_84 => ?_)
            · have hnu := wf_nu (hRw i hi_i) c_84 (j - 2) (by omega)
              refine xl (fun _ => lv_iconst (v := 0) hx hb dX2_about_103 (by decide)) ?_
              exact x_iret hx hb hr hlocks hs0 hbs (by decide) (by decide) dX2_about_104 (⟨by simp only [op_about, hs_5, c_29, c_41, hsub, hiss, hcl, hnu, reduceIte, Bool.false_eq_true, and_true, true_and, and_false, false_and, and_self, not_true_eq_false, not_false_eq_true], rfl⟩)
            · refine xl (fun _ => lv_aload_n hx hb dX2_about_87 rfl (lv_at hl 1 rfl)) ?_
              refine x_get (ci := 2) hx hb hts hown hK wiX2 hX rfl 5 (by decide) wFX2_22 rfl rfl dX2_about_88 ?_
              refine xl (fun _ => lv_bipush (v := 8) hx hb dX2_about_91 (by decide)) ?_
              refine xl (fun _ => lv_iload_n hx hb dX2_about_93 rfl (lv_at hl 0 rfl)) ?_
              refine xl (fun _ => lv_imul hx hb dX2_about_94) ?_
              rw [show (8 * (nI i)) = (nI (8 * i)) from pk_mul 8 i]
              refine xl (fun _ => lv_iload_n hx hb dX2_about_95 rfl (lv_at hl 3 rfl)) ?_
              refine xl (fun _ => lv_iadd hx hb dX2_about_96) ?_
              rw [show ((nI (8 * i)) + (nI j)) = (nI (8 * i + j)) from nI_add _ _]
              refine xl (fun _ => lv_iconst (v := 2) hx hb dX2_about_97 (by decide)) ?_
              refine xl (fun _ => lv_isub hx hb dX2_about_98) ?_
              rw [show ((nI (8 * i + j)) - 2) = (nI (8 * i + j - 2)) from pk_sub (b := 2) (by omega)]
              refine x_iald hx hb hK h5 (8 * i + j - 2) (rfl) (by omega) (by decide) dX2_about_99 ?_
              rw [show (ce (8 * i + j - 2)) = (sp_nu (t i) (j - 2)) from by rw [show 8 * i + j - 2 = 8 * i + (j - 2) by omega, q5 (j - 2) (by omega)]; exact e8_7n c_84 (by omega)]
              refine xl (fun _ => lv_goto (tgt := 104) hx hb dX2_about_100 (by decide)) ?_
              exact x_iret hx hb hr hlocks hs0 hbs (by decide) (by decide) dX2_about_104 (⟨by simp only [op_about, hs_5, c_29, c_41, hsub, hiss, hcl, reduceIte, Bool.false_eq_true, and_true, true_and, and_false, false_and, and_self, not_true_eq_false, not_false_eq_true], rfl⟩)
          · have c_29 : ¬ (1 : Int32) = 0 := by decide
            refine xl (fun _ => lv_aload_n hx hb dX2_about_44 rfl (lv_at hl 1 rfl)) ?_
            refine x_get (ci := 2) hx hb hts hown hK wiX2 hX rfl 1 (by decide) wFX2_9 rfl rfl dX2_about_45 ?_
            refine xl (fun _ => lv_iload_n hx hb dX2_about_48 rfl (lv_at hl 0 rfl)) ?_
            refine x_iald hx hb hK h1 i (rfl) (by omega) (by decide) dX2_about_49 ?_
            rw [show (so i) = (sp_so (t i)) from q1]
            refine xl (fun _ => lv_iconst (v := 4) hx hb dX2_about_50 (by decide)) ?_
            refine xb (fun _ => lv_icmp_eq (tgt := 65) hx hb dX2_about_51 (by decide)) (fun c_51 => ?_) (fun c_51 => ?_)
            · refine xl (fun _ => lv_aload_n hx hb dX2_about_65 rfl (lv_at hl 1 rfl)) ?_
              refine x_get (ci := 2) hx hb hts hown hK wiX2 hX rfl 2 (by decide) wFX2_13 rfl rfl dX2_about_66 ?_
              refine xl (fun _ => lv_iload_n hx hb dX2_about_69 rfl (lv_at hl 0 rfl)) ?_
              refine x_iald hx hb hK h2 i (rfl) (by omega) (by decide) dX2_about_70 ?_
              rw [show (on i) = (sp_la (t i)) from (q2 (by rw [c_51]; decide)).trans (e_4 c_51).1]
              refine xl (fun _ => lv_goto (tgt := 75) hx hb dX2_about_71 (by decide)) ?_
              exact x_iret hx hb hr hlocks hs0 hbs (by decide) (by decide) dX2_about_75 (⟨by simp only [op_about, hs_5, c_29, c_41, reduceIte, Bool.false_eq_true, and_true, true_and, and_false, false_and, and_self, not_true_eq_false, not_false_eq_true], rfl⟩)
            · refine xl (fun _ => lv_aload_n hx hb dX2_about_54 rfl (lv_at hl 1 rfl)) ?_
              refine x_get (ci := 2) hx hb hts hown hK wiX2 hX rfl 1 (by decide) wFX2_9 rfl rfl dX2_about_55 ?_
              refine xl (fun _ => lv_iload_n hx hb dX2_about_58 rfl (lv_at hl 0 rfl)) ?_
              refine x_iald hx hb hK h1 i (rfl) (by omega) (by decide) dX2_about_59 ?_
              rw [show (so i) = (sp_so (t i)) from q1]
              refine xl (fun _ => lv_bipush (v := 7) hx hb dX2_about_60 (by decide)) ?_
              refine xb (fun _ => lv_icmp_ne (tgt := 74) hx hb dX2_about_62 (by decide)) (fun c_62 => ?_) (fun c_62 => ?_)
              · have hla := wf_la (hRw i hi_i) c_51 c_62
                refine xl (fun _ => lv_iconst (v := 0) hx hb dX2_about_74 (by decide)) ?_
                exact x_iret hx hb hr hlocks hs0 hbs (by decide) (by decide) dX2_about_75 (⟨by simp only [op_about, hs_5, c_29, c_41, hla, reduceIte, Bool.false_eq_true, and_true, true_and, and_false, false_and, and_self, not_true_eq_false, not_false_eq_true], rfl⟩)
              · refine xl (fun _ => lv_aload_n hx hb dX2_about_65 rfl (lv_at hl 1 rfl)) ?_
                refine x_get (ci := 2) hx hb hts hown hK wiX2 hX rfl 2 (by decide) wFX2_13 rfl rfl dX2_about_66 ?_
                refine xl (fun _ => lv_iload_n hx hb dX2_about_69 rfl (lv_at hl 0 rfl)) ?_
                refine x_iald hx hb hK h2 i (rfl) (by omega) (by decide) dX2_about_70 ?_
                rw [show (on i) = (sp_la (t i)) from (q2 (by rw [c_62]; decide)).trans (e_7 c_62).1]
                refine xl (fun _ => lv_goto (tgt := 75) hx hb dX2_about_71 (by decide)) ?_
                exact x_iret hx hb hr hlocks hs0 hbs (by decide) (by decide) dX2_about_75 (⟨by simp only [op_about, hs_5, c_29, c_41, reduceIte, Bool.false_eq_true, and_true, true_and, and_false, false_and, and_self, not_true_eq_false, not_false_eq_true], rfl⟩)
        · refine xl (fun _ => lv_aload_n hx hb dX2_about_32 rfl (lv_at hl 1 rfl)) ?_
          refine x_get (ci := 2) hx hb hts hown hK wiX2 hX rfl 1 (by decide) wFX2_9 rfl rfl dX2_about_33 ?_
          refine xl (fun _ => lv_iload_n hx hb dX2_about_36 rfl (lv_at hl 0 rfl)) ?_
          refine x_iald hx hb hK h1 i (rfl) (by omega) (by decide) dX2_about_37 ?_
          rw [show (so i) = (sp_so (t i)) from q1]
          exact x_iret hx hb hr hlocks hs0 hbs (by decide) (by decide) dX2_about_38 (⟨by simp only [op_about, hs_5, c_29, reduceIte, Bool.false_eq_true, and_true, true_and, and_false, false_and, and_self, not_true_eq_false, not_false_eq_true], rfl⟩)
      · have n0 : ¬ w = 0 := fun e => by rw [e] at c_14; exact absurd (by decide) c_14
        have n1 : ¬ w = 1 := fun e => by rw [e] at c_14; exact absurd (by decide) c_14
        have ns2 : sp_is (w - 2) = false := about_big c_14
        refine xl (fun _ => lv_iconst (v := (-1)) hx hb dX2_about_17 (by decide)) ?_
        exact x_iret hx hb hr hlocks hs0 hbs (by decide) (by decide) dX2_about_18 (⟨by simp only [op_about, hs_5, n0, n1, ns2, reduceIte, Bool.false_eq_true, and_true, true_and, and_false, false_and, and_self, not_true_eq_false, not_false_eq_true], rfl⟩)

set_option maxHeartbeats 4000000 in
set_option maxRecDepth 100000 in
theorem c_X2_in (l : Launch) (G : sg_G) (H : Heap) (x a b : Int32) : xC l G yX2_in cX2_in 3 (some FieldType.boolean) 0 0 0 [.int x, .int a, .int b] H (xPu (.int (bI (decide (a ≤ x ∧ x ≤ b)))) H) := by
  refine xC.start (by decide) (Nat.le_of_ble_eq_true rfl) ?_
  intro p e s m args below meth c ls E hnm hs0 hl
  obtain ⟨hx, hb, hml, hown, hts, hr, hlocks, hK, hbs⟩ := id E
  have hl : lv_has ls 3 [(0, .int x), (1, .int a), (2, .int b)] := hl
  refine xl (fun _ => lv_iload_n hx hb dX2_in_0 rfl (lv_at hl 0 rfl)) ?_
  refine xl (fun _ => lv_iload_n hx hb dX2_in_1 rfl (lv_at hl 1 rfl)) ?_
  refine xb (fun _ => lv_icmp_lt (tgt := 14) hx hb dX2_in_2 (by decide)) (fun c_2 => ?_) (fun c_2 => ?_)
  · refine xl (fun _ => lv_iconst (v := 0) hx hb dX2_in_14 (by decide)) ?_
    exact x_zret hx hb hr hlocks hs0 hbs (by decide) (by decide) (by decide) dX2_in_15 (pu0 (decide_eq_false (fun z => absurd c_2 (Int32.not_lt.mpr z.1))))
  · refine xl (fun _ => lv_iload_n hx hb dX2_in_5 rfl (lv_at hl 0 rfl)) ?_
    refine xl (fun _ => lv_iload_n hx hb dX2_in_6 rfl (lv_at hl 2 rfl)) ?_
    refine xb (fun _ => lv_icmp_gt (tgt := 14) hx hb dX2_in_7 (by decide)) (fun c_7 => ?_) (fun c_7 => ?_)
    · refine xl (fun _ => lv_iconst (v := 0) hx hb dX2_in_14 (by decide)) ?_
      exact x_zret hx hb hr hlocks hs0 hbs (by decide) (by decide) (by decide) dX2_in_15 (pu0 (decide_eq_false (fun z => absurd c_7 (Int32.not_lt.mpr z.2))))
    · refine xl (fun _ => lv_iconst (v := 1) hx hb dX2_in_10 (by decide)) ?_
      refine xl (fun _ => lv_goto (tgt := 15) hx hb dX2_in_11 (by decide)) ?_
      exact x_zret hx hb hr hlocks hs0 hbs (by decide) (by decide) (by decide) dX2_in_15 (pu1 (decide_eq_true ⟨Int32.not_lt.mp c_2, Int32.not_lt.mp c_7⟩))

set_option maxHeartbeats 4000000 in
set_option maxRecDepth 100000 in
theorem c_X2_isFace_n (l : Launch) (G : sg_G) (H : Heap) (mb n : Nat) (so on tw th ce gi kn li re : Nat → Int32) (sec : Int32) (hM : sm_X G mb n so on tw th ce gi kn li re sec H)  : xC l G yX2_isFace cX2_isFace 2 (some FieldType.boolean) 0 0 0 [.ref mb, .int 0] H (xPu (.int (bI false)) H) := by
  refine xC.start (by decide) (Nat.le_of_ble_eq_true rfl) ?_
  intro p e s m args below meth c ls E hnm hs0 hl
  obtain ⟨hx, hb, hml, hown, hts, hr, hlocks, hK, hbs⟩ := id E
  have hl : lv_has ls 2 [(0, .ref mb), (1, .int 0)] := hl
  obtain ⟨hm0, hmn, hX, h1, h2, h3, h4, h5, h6, h7, h8, h9⟩ := id hM
  refine xl (fun _ => lv_iload_n hx hb dX2_isFace_0 rfl (lv_at hl 1 rfl)) ?_
  refine xb (fun _ => lv_if_le (tgt := 20) hx hb dX2_isFace_1 (by decide)) (fun c_1 => ?_) (fun c_1 => ?_)
  · refine xl (fun _ => lv_iconst (v := 0) hx hb dX2_isFace_20 (by decide)) ?_
    exact x_zret hx hb hr hlocks hs0 hbs (by decide) (by decide) (by decide) dX2_isFace_21 (pu0 rfl)
  · exact absurd (by decide) c_1

set_option maxHeartbeats 4000000 in
set_option maxRecDepth 100000 in
theorem c_X2_isFace_s (l : Launch) (G : sg_G) (H : Heap) (mb n : Nat) (so on tw th ce gi kn li re : Nat → Int32) (sec : Int32) (hM : sm_X G mb n so on tw th ce gi kn li re sec H) (t : Nat → sp_T) (rg : Nat → Option Nat) (hR : sm_R n t rg so on tw th ce re) (j : Nat) (hj : j < n) : xC l G yX2_isFace cX2_isFace 2 (some FieldType.boolean) 0 0 0 [.ref mb, .int (nI (j + 1))] H (xPu (.int (bI (decide (sp_so (t j) = 2)))) H) := by
  refine xC.start (by decide) (Nat.le_of_ble_eq_true rfl) ?_
  intro p e s m args below meth c ls E hnm hs0 hl
  obtain ⟨hx, hb, hml, hown, hts, hr, hlocks, hK, hbs⟩ := id E
  have hl : lv_has ls 2 [(0, .ref mb), (1, .int (nI (j + 1)))] := hl
  obtain ⟨hm0, hmn, hX, h1, h2, h3, h4, h5, h6, h7, h8, h9⟩ := id hM
  obtain ⟨hRt, hRr, hRg, hRw⟩ := id hR
  refine xl (fun _ => lv_iload_n hx hb dX2_isFace_0 rfl (lv_at hl 1 rfl)) ?_
  refine xb (fun _ => lv_if_le (tgt := 20) hx hb dX2_isFace_1 (by decide)) (fun c_1 => ?_) (fun c_1 => ?_)
  · exact absurd c_1 (nI_nle (by omega) (by omega))
  · refine xl (fun _ => lv_aload_n hx hb dX2_isFace_4 rfl (lv_at hl 0 rfl)) ?_
    refine x_get (ci := 2) hx hb hts hown hK wiX2 hX rfl 1 (by decide) wFX2_9 rfl rfl dX2_isFace_5 ?_
    refine xl (fun _ => lv_iload_n hx hb dX2_isFace_8 rfl (lv_at hl 1 rfl)) ?_
    refine xl (fun _ => lv_iconst (v := 1) hx hb dX2_isFace_9 (by decide)) ?_
    refine xl (fun _ => lv_isub hx hb dX2_isFace_10) ?_
    rw [show ((nI (j + 1)) - 1) = (nI j) from nI_pred j]
    refine x_iald hx hb hK h1 j (rfl) (by omega) (by decide) dX2_isFace_11 ?_
    rw [show (so j) = (sp_so (t j)) from (hRt j hj).1]
    refine xl (fun _ => lv_iconst (v := 2) hx hb dX2_isFace_12 (by decide)) ?_
    refine xb (fun _ => lv_icmp_ne (tgt := 20) hx hb dX2_isFace_13 (by decide)) (fun c_13 => ?_) (fun c_13 => ?_)
    · refine xl (fun _ => lv_iconst (v := 0) hx hb dX2_isFace_20 (by decide)) ?_
      exact x_zret hx hb hr hlocks hs0 hbs (by decide) (by decide) (by decide) dX2_isFace_21 (pu0 (decide_eq_false c_13))
    · refine xl (fun _ => lv_iconst (v := 1) hx hb dX2_isFace_16 (by decide)) ?_
      refine xl (fun _ => lv_goto (tgt := 21) hx hb dX2_isFace_17 (by decide)) ?_
      exact x_zret hx hb hr hlocks hs0 hbs (by decide) (by decide) (by decide) dX2_isFace_21 (pu1 (decide_eq_true c_13))

theorem c_X2_isFace (l : Launch) (G : sg_G) (H : Heap) (mb n : Nat) (so on tw th ce gi kn li re : Nat → Int32) (sec : Int32) (hM : sm_X G mb n so on tw th ce gi kn li re sec H) (t : Nat → sp_T) (rg : Nat → Option Nat) (hR : sm_R n t rg so on tw th ce re) (o : Option Nat) (ho : ∀ j, o = some j → j < n) : xC l G yX2_isFace cX2_isFace 2 (some FieldType.boolean) 0 0 0 [.ref mb, .int (px o)] H (xPu (.int (bI (fcb t o))) H) := by
  cases o with
  | none => exact c_X2_isFace_n l G H mb n so on tw th ce gi kn li re sec hM
  | some j => exact c_X2_isFace_s l G H mb n so on tw th ce gi kn li re sec hM t rg hR j (ho j rfl)

set_option maxHeartbeats 4000000 in
set_option maxRecDepth 100000 in
theorem c_X2_isBare (l : Launch) (G : sg_G) (H : Heap) (mb n : Nat) (so on tw th ce gi kn li re : Nat → Int32) (sec : Int32) (hM : sm_X G mb n so on tw th ce gi kn li re sec H) (t : Nat → sp_T) (rg : Nat → Option Nat) (hR : sm_R n t rg so on tw th ce re) (i : Nat) (hi : i < n) (a b : Nat) (hab : a ≤ b) (hb8 : b ≤ 8) (B : Bool) (hB : B = true ↔ (∀ x, a ≤ x → x < b → e8 (t i) x = 0)) : xC l G yX2_isBare cX2_isBare 6 (some FieldType.boolean) 0 0 0 [.ref mb, .int (nI i), .int (nI a), .int (nI b)] H (xPu (.int (bI B)) H) := by
  refine xC.start (by decide) (Nat.le_of_ble_eq_true rfl) ?_
  intro p e s m args below meth c ls E hnm hs0 hl
  obtain ⟨hx, hb, hml, hown, hts, hr, hlocks, hK, hbs⟩ := id E
  have hl : lv_has ls 6 [(0, .ref mb), (1, .int (nI i)), (2, .int (nI a)), (3, .int (nI b))] := hl
  obtain ⟨hm0, hmn, hX, h1, h2, h3, h4, h5, h6, h7, h8, h9⟩ := id hM
  obtain ⟨hRt, hRr, hRg, hRw⟩ := id hR
  refine xl (fun _ => lv_iconst (v := 1) hx hb dX2_isBare_0 (by decide)) ?_
  refine xs (fun _ => lv_istore (i := 4) (lv' := [(4, .int 1), (0, .ref mb), (1, .int (nI i)), (2, .int (nI a)), (3, .int (nI b))]) hx hb dX2_isBare_1 hl (by decide) (rfl)) (fun ls hl => ?_)
  refine xl (fun _ => lv_iload_n hx hb dX2_isBare_3 rfl (lv_at hl 3 rfl)) ?_
  refine xs (fun _ => lv_istore (i := 5) (lv' := [(5, .int (nI a)), (4, .int 1), (0, .ref mb), (1, .int (nI i)), (2, .int (nI a)), (3, .int (nI b))]) hx hb dX2_isBare_4 hl (by decide) (rfl)) (fun ls hl => ?_)
  have hloop : ∀ (d : Nat) (k : Nat) (fl : Bool), a ≤ k → k ≤ b → b < k + d → (fl = true ↔ (∀ x, a ≤ x → x < k → e8 (t i) x = 0)) → ∀ (ls : Array Slot), lv_has ls 6 [(5, .int (nI k)), (4, .int (bI fl)), (0, .ref mb), (1, .int (nI i)), (2, .int (nI a)), (3, .int (nI b))] → xV p l e (xR 0 0 0) s m args below meth c G H 0 0 (MQ below (xQ G H (xPu (.int (bI B)) H)) args s 0 0 (sg_fr G)) (F0 m 6 ls []) := by
    intro d
    induction d with
    | zero =>
      intro k fl h1 h2 h3
      exact absurd h3 (by omega)
    | succ d ih =>
      intro k fl hak hkb hd hfl ls hl
      refine xl (fun _ => lv_iload hx hb dX2_isBare_6 (lv_at hl 0 rfl)) ?_
      refine xl (fun _ => lv_iload_n hx hb dX2_isBare_8 rfl (lv_at hl 5 rfl)) ?_
      refine xb (fun _ => lv_icmp_ge (tgt := 45) hx hb dX2_isBare_9 (by decide)) (fun c_9 => ?_) (fun c_9 => ?_)
      · have ekb : k = b := by have := nI_le4 (by omega) (by omega) c_9; omega
        rw [ekb] at hfl
        have hfB : fl = B := bool_eq (hfl.trans hB.symm)
        refine xl (fun _ => lv_iload hx hb dX2_isBare_45 (lv_at hl 1 rfl)) ?_
        exact x_zret hx hb hr hlocks hs0 hbs (bI_and _) (by decide) (by decide) dX2_isBare_47 (⟨by rw [hfB], rfl⟩)
      · have hkb2 : k < b := nI_nle4 (by omega) (by omega) c_9
        refine xl (fun _ => lv_iload hx hb dX2_isBare_12 (lv_at hl 1 rfl)) ?_
        refine xb (fun _ => lv_if_eq (tgt := 36) hx hb dX2_isBare_14 (by decide)) (fun c_14 => ?_) (fun c_14 => ?_)
        · have c_14 := bI_f c_14
          refine xl (fun _ => lv_iconst (v := 0) hx hb dX2_isBare_36 (by decide)) ?_
          refine xg (g2 := F0 m 37 ls [.int (bI false)]) rfl ?_
          refine xs (fun _ => lv_istore (i := 4) (lv' := [(4, .int (bI false)), (5, .int (nI k)), (0, .ref mb), (1, .int (nI i)), (2, .int (nI a)), (3, .int (nI b))]) hx hb dX2_isBare_37 hl (by decide) (rfl)) (fun ls hl => ?_)
          refine xs (fun _ => lv_iinc (v := (nI (k + 1))) (lv' := [(5, .int (nI (k + 1))), (4, .int (bI false)), (0, .ref mb), (1, .int (nI i)), (2, .int (nI a)), (3, .int (nI b))]) hx hb dX2_isBare_39 hl (k := 1) rfl (nI_1 k) (by decide) (rfl)) (fun ls hl => ?_)
          refine xl (fun _ => lv_goto (tgt := 6) hx hb dX2_isBare_42 (by decide)) ?_
          exact ih (k + 1) false (by omega) (by omega) (by omega) (⟨(fun z => by cases z), fun z => by rw [hfl.mpr (fun x h1 h2 => z x h1 (by omega))] at c_14; cases c_14⟩) ls (lv_sub hl [0, 1, 2, 3, 4, 5] rfl)
        · have c_14 := bI_t c_14
          refine xl (fun _ => lv_aload_n hx hb dX2_isBare_17 rfl (lv_at hl 2 rfl)) ?_
          refine x_get (ci := 2) hx hb hts hown hK wiX2 hX rfl 5 (by decide) wFX2_22 rfl rfl dX2_isBare_18 ?_
          refine xl (fun _ => lv_bipush (v := 8) hx hb dX2_isBare_21 (by decide)) ?_
          refine xl (fun _ => lv_iload_n hx hb dX2_isBare_23 rfl (lv_at hl 3 rfl)) ?_
          refine xl (fun _ => lv_imul hx hb dX2_isBare_24) ?_
          rw [show (8 * (nI i)) = (nI (8 * i)) from pk_mul 8 i]
          refine xl (fun _ => lv_iload hx hb dX2_isBare_25 (lv_at hl 0 rfl)) ?_
          refine xl (fun _ => lv_iadd hx hb dX2_isBare_27) ?_
          rw [show ((nI (8 * i)) + (nI k)) = (nI (8 * i + k)) from nI_add _ _]
          refine x_iald hx hb hK h5 (8 * i + k) (rfl) (by omega) (by decide) dX2_isBare_28 ?_
          rw [show (ce (8 * i + k)) = (e8 (t i) k) from (hRt i hi).2.2.2.2 k (by omega)]
          refine xb (fun _ => lv_if_ne (tgt := 36) hx hb dX2_isBare_29 (by decide)) (fun c_29 => ?_) (fun c_29 => ?_)
          · refine xl (fun _ => lv_iconst (v := 0) hx hb dX2_isBare_36 (by decide)) ?_
            refine xg (g2 := F0 m 37 ls [.int (bI false)]) rfl ?_
            refine xs (fun _ => lv_istore (i := 4) (lv' := [(4, .int (bI false)), (5, .int (nI k)), (0, .ref mb), (1, .int (nI i)), (2, .int (nI a)), (3, .int (nI b))]) hx hb dX2_isBare_37 hl (by decide) (rfl)) (fun ls hl => ?_)
            refine xs (fun _ => lv_iinc (v := (nI (k + 1))) (lv' := [(5, .int (nI (k + 1))), (4, .int (bI false)), (0, .ref mb), (1, .int (nI i)), (2, .int (nI a)), (3, .int (nI b))]) hx hb dX2_isBare_39 hl (k := 1) rfl (nI_1 k) (by decide) (rfl)) (fun ls hl => ?_)
            refine xl (fun _ => lv_goto (tgt := 6) hx hb dX2_isBare_42 (by decide)) ?_
            exact ih (k + 1) false (by omega) (by omega) (by omega) (⟨(fun z => by cases z), fun z => absurd (z k hak (by omega)) c_29⟩) ls (lv_sub hl [0, 1, 2, 3, 4, 5] rfl)
          · refine xl (fun _ => lv_iconst (v := 1) hx hb dX2_isBare_32 (by decide)) ?_
            refine xl (fun _ => lv_goto (tgt := 37) hx hb dX2_isBare_33 (by decide)) ?_
            refine xg (g2 := F0 m 37 ls [.int (bI true)]) rfl ?_
            refine xs (fun _ => lv_istore (i := 4) (lv' := [(4, .int (bI true)), (5, .int (nI k)), (0, .ref mb), (1, .int (nI i)), (2, .int (nI a)), (3, .int (nI b))]) hx hb dX2_isBare_37 hl (by decide) (rfl)) (fun ls hl => ?_)
            refine xs (fun _ => lv_iinc (v := (nI (k + 1))) (lv' := [(5, .int (nI (k + 1))), (4, .int (bI true)), (0, .ref mb), (1, .int (nI i)), (2, .int (nI a)), (3, .int (nI b))]) hx hb dX2_isBare_39 hl (k := 1) rfl (nI_1 k) (by decide) (rfl)) (fun ls hl => ?_)
            refine xl (fun _ => lv_goto (tgt := 6) hx hb dX2_isBare_42 (by decide)) ?_
            exact ih (k + 1) true (by omega) (by omega) (by omega) (⟨fun _ x h1 h2 => by by_cases e : x = k; (rw [e]; exact c_29); exact hfl.mp c_14 x h1 (by omega), fun _ => rfl⟩) ls (lv_sub hl [0, 1, 2, 3, 4, 5] rfl)
  exact hloop (b + 1) a true (by omega) (by omega) (by omega) ⟨fun _ x h1 h2 => absurd h2 (by omega), fun _ => rfl⟩ ls (lv_sub hl [0, 1, 2, 3, 4, 5] rfl)

set_option maxHeartbeats 4000000 in
set_option maxRecDepth 100000 in
theorem c_X2_isGood (l : Launch) (G : sg_G) (H : Heap) (mb n : Nat) (so on tw th ce gi kn li re : Nat → Int32) (sec : Int32) (hM : sm_X G mb n so on tw th ce gi kn li re sec H) (t : Nat → sp_T) (rg : Nat → Option Nat) (hR : sm_R n t rg so on tw th ce re) (i : Nat) (hi : i < n) (h77 : sp_so (t i) = 7) (kk : Nat) (hkk : kk < 7) (hla : sp_la (t i) = nI (kk + 1)) : xC l G yX2_isGood cX2_isGood 7 (some FieldType.boolean) 1 0 0 [.ref mb, .int (nI i)] H (xPu (.int (bI (cB (sp_gn (t i) kk ∧ sp_gt t (t i) kk)))) H) := by
  refine xC.start (by decide) (Nat.le_of_ble_eq_true rfl) ?_
  intro p e s m args below meth c ls E hnm hs0 hl
  obtain ⟨hx, hb, hml, hown, hts, hr, hlocks, hK, hbs⟩ := id E
  have hl : lv_has ls 7 [(0, .ref mb), (1, .int (nI i))] := hl
  obtain ⟨hm0, hmn, hX, h1, h2, h3, h4, h5, h6, h7, h8, h9⟩ := id hM
  obtain ⟨hRt, hRr, hRg, hRw⟩ := id hR
  obtain ⟨q1, q2, q3, q4, q5⟩ := hRt i hi
  have pb : ∀ k, k < 4 → ∀ j, sp_pa (t i) k = some j → j < n := fun k hk j e => Nat.lt_trans ((hRw i hi).1 k hk j e) hi
  have EZ : ∀ k, k < 4 → (e8 (t i) k = 0 ↔ sp_nu (t i) k = 0) := fun k hk => by rw [e8_7n h77 hk]
  have PZ : ∀ k, k < 4 → (e8 (t i) (4 + k) = 0 ↔ sp_pa (t i) k = none) := fun k hk => e8_none h77 (fun j e => by have := pb k hk j e; omega)
  have pz : ∀ k, k < 4 → px (sp_pa (t i) k) = 0 → sp_pa (t i) k = none := fun k hk e => (PZ k hk).mp ((e8_7p h77 k).trans e)
  refine xl (fun _ => lv_bipush (v := 8) hx hb dX2_isGood_0 (by decide)) ?_
  refine xl (fun _ => lv_iload_n hx hb dX2_isGood_2 rfl (lv_at hl 1 rfl)) ?_
  refine xl (fun _ => lv_imul hx hb dX2_isGood_3) ?_
  rw [show (8 * (nI i)) = (nI (8 * i)) from pk_mul 8 i]
  refine xs (fun _ => lv_istore_n (i := 2) (lv' := [(2, .int (nI (8 * i))), (0, .ref mb), (1, .int (nI i))]) hx hb dX2_isGood_4 rfl hl (by decide) (rfl)) (fun ls hl => ?_)
  refine xl (fun _ => lv_aload_n hx hb dX2_isGood_5 rfl (lv_at hl 1 rfl)) ?_
  refine x_get (ci := 2) hx hb hts hown hK wiX2 hX rfl 5 (by decide) wFX2_22 rfl rfl dX2_isGood_6 ?_
  refine xl (fun _ => lv_iload_n hx hb dX2_isGood_9 rfl (lv_at hl 0 rfl)) ?_
  refine x_iald hx hb hK h5 (8 * i) (rfl) (by omega) (by decide) dX2_isGood_10 ?_
  rw [show (ce (8 * i)) = (sp_nu (t i) 0) from (q5 0 (by omega)).trans (e8_7n h77 (by omega))]
  refine xs (fun _ => lv_istore_n (i := 3) (lv' := [(3, .int (sp_nu (t i) 0)), (2, .int (nI (8 * i))), (0, .ref mb), (1, .int (nI i))]) hx hb dX2_isGood_11 rfl hl (by decide) (rfl)) (fun ls hl => ?_)
  refine xl (fun _ => lv_aload_n hx hb dX2_isGood_12 rfl (lv_at hl 2 rfl)) ?_
  refine x_get (ci := 2) hx hb hts hown hK wiX2 hX rfl 5 (by decide) wFX2_22 rfl rfl dX2_isGood_13 ?_
  refine xl (fun _ => lv_iload_n hx hb dX2_isGood_16 rfl (lv_at hl 1 rfl)) ?_
  refine xl (fun _ => lv_iconst (v := 1) hx hb dX2_isGood_17 (by decide)) ?_
  refine xl (fun _ => lv_iadd hx hb dX2_isGood_18) ?_
  rw [show ((nI (8 * i)) + 1) = (nI (8 * i + 1)) from nI_add _ 1]
  refine x_iald hx hb hK h5 (8 * i + 1) (rfl) (by omega) (by decide) dX2_isGood_19 ?_
  rw [show (ce (8 * i + 1)) = (sp_nu (t i) 1) from (q5 1 (by omega)).trans (e8_7n h77 (by omega))]
  refine xs (fun _ => lv_istore (i := 4) (lv' := [(4, .int (sp_nu (t i) 1)), (3, .int (sp_nu (t i) 0)), (2, .int (nI (8 * i))), (0, .ref mb), (1, .int (nI i))]) hx hb dX2_isGood_20 hl (by decide) (rfl)) (fun ls hl => ?_)
  refine xl (fun _ => lv_aload_n hx hb dX2_isGood_22 rfl (lv_at hl 3 rfl)) ?_
  refine x_get (ci := 2) hx hb hts hown hK wiX2 hX rfl 5 (by decide) wFX2_22 rfl rfl dX2_isGood_23 ?_
  refine xl (fun _ => lv_iload_n hx hb dX2_isGood_26 rfl (lv_at hl 2 rfl)) ?_
  refine xl (fun _ => lv_iconst (v := 2) hx hb dX2_isGood_27 (by decide)) ?_
  refine xl (fun _ => lv_iadd hx hb dX2_isGood_28) ?_
  rw [show ((nI (8 * i)) + 2) = (nI (8 * i + 2)) from nI_add _ 2]
  refine x_iald hx hb hK h5 (8 * i + 2) (rfl) (by omega) (by decide) dX2_isGood_29 ?_
  rw [show (ce (8 * i + 2)) = (sp_nu (t i) 2) from (q5 2 (by omega)).trans (e8_7n h77 (by omega))]
  refine xs (fun _ => lv_istore (i := 5) (lv' := [(5, .int (sp_nu (t i) 2)), (4, .int (sp_nu (t i) 1)), (3, .int (sp_nu (t i) 0)), (2, .int (nI (8 * i))), (0, .ref mb), (1, .int (nI i))]) hx hb dX2_isGood_30 hl (by decide) (rfl)) (fun ls hl => ?_)
  refine xl (fun _ => lv_aload_n hx hb dX2_isGood_32 rfl (lv_at hl 4 rfl)) ?_
  refine x_get (ci := 2) hx hb hts hown hK wiX2 hX rfl 5 (by decide) wFX2_22 rfl rfl dX2_isGood_33 ?_
  refine xl (fun _ => lv_iload_n hx hb dX2_isGood_36 rfl (lv_at hl 3 rfl)) ?_
  refine xl (fun _ => lv_iconst (v := 3) hx hb dX2_isGood_37 (by decide)) ?_
  refine xl (fun _ => lv_iadd hx hb dX2_isGood_38) ?_
  rw [show ((nI (8 * i)) + 3) = (nI (8 * i + 3)) from nI_add _ 3]
  refine x_iald hx hb hK h5 (8 * i + 3) (rfl) (by omega) (by decide) dX2_isGood_39 ?_
  rw [show (ce (8 * i + 3)) = (sp_nu (t i) 3) from (q5 3 (by omega)).trans (e8_7n h77 (by omega))]
  refine xs (fun _ => lv_istore (i := 6) (lv' := [(6, .int (sp_nu (t i) 3)), (5, .int (sp_nu (t i) 2)), (4, .int (sp_nu (t i) 1)), (3, .int (sp_nu (t i) 0)), (2, .int (nI (8 * i))), (0, .ref mb), (1, .int (nI i))]) hx hb dX2_isGood_40 hl (by decide) (rfl)) (fun ls hl => ?_)
  refine xl (fun _ => lv_aload_n hx hb dX2_isGood_42 rfl (lv_at hl 5 rfl)) ?_
  refine x_get (ci := 2) hx hb hts hown hK wiX2 hX rfl 2 (by decide) wFX2_13 rfl rfl dX2_isGood_43 ?_
  refine xl (fun _ => lv_iload_n hx hb dX2_isGood_46 rfl (lv_at hl 6 rfl)) ?_
  refine x_iald hx hb hK h2 i (rfl) (by omega) (by decide) dX2_isGood_47 ?_
  rw [show (on i) = (nI (kk + 1)) from ((q2 (by rw [h77]; decide)).trans (e_7 h77).1).trans hla]
  rcases (show kk = 0 ∨ kk = 1 ∨ kk = 2 ∨ kk = 3 ∨ kk = 4 ∨ kk = 5 ∨ kk = 6 by omega) with rfl | rfl | rfl | rfl | rfl | rfl | rfl
  · refine xl (fun _ => lv_tableIn (off := 40) (tgt := 88) hx hb dX2_isGood_48 (by decide) (by decide) (by decide) (by decide)) ?_
    refine xl (fun _ => lv_iload_n hx hb dX2_isGood_88 rfl (lv_at hl 3 rfl)) ?_
    refine xl (fun _ => lv_iconst (v := 0) hx hb dX2_isGood_89 (by decide)) ?_
    refine xl (fun _ => lv_iconst (v := 5) hx hb dX2_isGood_90 (by decide)) ?_
    refine x_callS E hl (c_X2_in l G H (sp_nu (t i) 0) 0 5) xm_yX2_in wMX2_98 wS_yX2_in (rest := []) rfl (by decide) (by decide) ⟨by decide, by decide⟩ dX2_isGood_91 (x_pure (r := .int (bI (decide (0 ≤ (sp_nu (t i) 0) ∧ (sp_nu (t i) 0) ≤ 5)))) (st1 := []) ?_)
    refine xb (fun _ => lv_if_eq (tgt := 137) hx hb dX2_isGood_94 (by decide)) (fun c_94 => ?_) (fun c_94 => ?_)
    · have c_94 := bI_f c_94
      refine xl (fun _ => lv_iconst (v := 0) hx hb dX2_isGood_137 (by decide)) ?_
      exact x_zret hx hb hr hlocks hs0 hbs (by decide) (by decide) (by decide) dX2_isGood_138 (pu0 (bF cB_t (fun y => by
        have z := good_0.mp y
        exact of_decide_eq_false c_94 z.1.1)))
    · have c_94 := bI_t c_94
      refine xl (fun _ => lv_aload_n hx hb dX2_isGood_97 rfl (lv_at hl 5 rfl)) ?_
      refine xl (fun _ => lv_iload_n hx hb dX2_isGood_98 rfl (lv_at hl 6 rfl)) ?_
      refine xl (fun _ => lv_iconst (v := 2) hx hb dX2_isGood_99 (by decide)) ?_
      refine xl (fun _ => lv_iconst (v := 4) hx hb dX2_isGood_100 (by decide)) ?_
      have hb_2_4 : cB (∀ x, 2 ≤ x → x < 4 → e8 (t i) x = 0) = true ↔ (sp_nu (t i) 2 = 0 ∧ sp_nu (t i) 3 = 0) := by
        rw [cB_t]
        constructor
        · intro z
          exact ⟨(EZ 2 (by omega)).mp (z 2 (by omega) (by omega)), (EZ 3 (by omega)).mp (z 3 (by omega) (by omega))⟩
        · intro z x h1 h2
          rcases (show x = 2 ∨ x = 3 by omega) with rfl | rfl
          · exact (EZ 2 (by omega)).mpr (z.1)
          · exact (EZ 3 (by omega)).mpr (z.2)
      refine x_callV E hl (c_X2_isBare l G H mb n so on tw th ce gi kn li re sec hM t rg hR i hi 2 4 (by omega) (by omega) (cB (∀ x, 2 ≤ x → x < 4 → e8 (t i) x = 0)) cB_t) xm_yX2_isBare wMX2_102 wI_yX2_isBare wT_yX2_isBare (ci := 2) rfl rfl hX (rest := []) rfl (by decide) (by decide) ⟨by decide, by decide⟩ dX2_isGood_101 (x_pure (r := .int (bI (cB (∀ x, 2 ≤ x → x < 4 → e8 (t i) x = 0)))) (st1 := []) ?_)
      refine xb (fun _ => lv_if_eq (tgt := 137) hx hb dX2_isGood_104 (by decide)) (fun c_104 => ?_) (fun c_104 => ?_)
      · have c_104 := bI_f c_104
        refine xl (fun _ => lv_iconst (v := 0) hx hb dX2_isGood_137 (by decide)) ?_
        exact x_zret hx hb hr hlocks hs0 hbs (by decide) (by decide) (by decide) dX2_isGood_138 (pu0 (bF cB_t (fun y => by
          have z := good_0.mp y
          rw [hb_2_4.mpr ⟨z.1.2.2.1, z.1.2.2.2⟩] at c_104; cases c_104)))
      · have c_104 := bI_t c_104
        refine xl (fun _ => lv_aload_n hx hb dX2_isGood_107 rfl (lv_at hl 5 rfl)) ?_
        refine xl (fun _ => lv_aload_n hx hb dX2_isGood_108 rfl (lv_at hl 5 rfl)) ?_
        refine x_get (ci := 2) hx hb hts hown hK wiX2 hX rfl 5 (by decide) wFX2_22 rfl rfl dX2_isGood_109 ?_
        refine xl (fun _ => lv_iload_n hx hb dX2_isGood_112 rfl (lv_at hl 4 rfl)) ?_
        refine xl (fun _ => lv_iconst (v := 4) hx hb dX2_isGood_113 (by decide)) ?_
        refine xl (fun _ => lv_iadd hx hb dX2_isGood_114) ?_
        rw [show ((nI (8 * i)) + 4) = (nI (8 * i + 4)) from nI_add _ 4]
        refine x_iald hx hb hK h5 (8 * i + 4) (rfl) (by omega) (by decide) dX2_isGood_115 ?_
        rw [show (ce (8 * i + 4)) = (px (sp_pa (t i) 0)) from (q5 4 (by omega)).trans (e8_7p h77 0)]
        refine x_callV E hl (c_X2_isFace l G H mb n so on tw th ce gi kn li re sec hM t rg hR (sp_pa (t i) 0) (pb 0 (by omega))) xm_yX2_isFace wMX2_105 wI_yX2_isFace wT_yX2_isFace (ci := 2) rfl rfl hX (rest := []) rfl (by decide) (by decide) ⟨by decide, by decide⟩ dX2_isGood_116 (x_pure (r := .int (bI (fcb t (sp_pa (t i) 0)))) (st1 := []) ?_)
        refine xb (fun _ => lv_if_eq (tgt := 137) hx hb dX2_isGood_119 (by decide)) (fun c_119 => ?_) (fun c_119 => ?_)
        · have c_119 := bI_f c_119
          refine xl (fun _ => lv_iconst (v := 0) hx hb dX2_isGood_137 (by decide)) ?_
          exact x_zret hx hb hr hlocks hs0 hbs (by decide) (by decide) (by decide) dX2_isGood_138 (pu0 (bF cB_t (fun y => by
            have z := good_0.mp y
            rw [z.2.1] at c_119; cases c_119)))
        · have c_119 := bI_t c_119
          refine xl (fun _ => lv_aload_n hx hb dX2_isGood_122 rfl (lv_at hl 5 rfl)) ?_
          refine xl (fun _ => lv_iload_n hx hb dX2_isGood_123 rfl (lv_at hl 6 rfl)) ?_
          refine xl (fun _ => lv_iconst (v := 5) hx hb dX2_isGood_124 (by decide)) ?_
          refine xl (fun _ => lv_bipush (v := 8) hx hb dX2_isGood_125 (by decide)) ?_
          have hb_5_8 : cB (∀ x, 5 ≤ x → x < 8 → e8 (t i) x = 0) = true ↔ (sp_pa (t i) 1 = none ∧ sp_pa (t i) 2 = none ∧ sp_pa (t i) 3 = none) := by
            rw [cB_t]
            constructor
            · intro z
              exact ⟨(PZ 1 (by omega)).mp (z 5 (by omega) (by omega)), (PZ 2 (by omega)).mp (z 6 (by omega) (by omega)), (PZ 3 (by omega)).mp (z 7 (by omega) (by omega))⟩
            · intro z x h1 h2
              rcases (show x = 5 ∨ x = 6 ∨ x = 7 by omega) with rfl | rfl | rfl
              · exact (PZ 1 (by omega)).mpr (z.1)
              · exact (PZ 2 (by omega)).mpr (z.2.1)
              · exact (PZ 3 (by omega)).mpr (z.2.2)
          refine x_callV E hl (c_X2_isBare l G H mb n so on tw th ce gi kn li re sec hM t rg hR i hi 5 8 (by omega) (by omega) (cB (∀ x, 5 ≤ x → x < 8 → e8 (t i) x = 0)) cB_t) xm_yX2_isBare wMX2_102 wI_yX2_isBare wT_yX2_isBare (ci := 2) rfl rfl hX (rest := []) rfl (by decide) (by decide) ⟨by decide, by decide⟩ dX2_isGood_127 (x_pure (r := .int (bI (cB (∀ x, 5 ≤ x → x < 8 → e8 (t i) x = 0)))) (st1 := []) ?_)
          refine xb (fun _ => lv_if_eq (tgt := 137) hx hb dX2_isGood_130 (by decide)) (fun c_130 => ?_) (fun c_130 => ?_)
          · have c_130 := bI_f c_130
            refine xl (fun _ => lv_iconst (v := 0) hx hb dX2_isGood_137 (by decide)) ?_
            exact x_zret hx hb hr hlocks hs0 hbs (by decide) (by decide) (by decide) dX2_isGood_138 (pu0 (bF cB_t (fun y => by
              have z := good_0.mp y
              rw [hb_5_8.mpr ⟨z.2.2.1, z.2.2.2.1, z.2.2.2.2⟩] at c_130; cases c_130)))
          · have c_130 := bI_t c_130
            refine xl (fun _ => lv_iconst (v := 1) hx hb dX2_isGood_133 (by decide)) ?_
            refine xl (fun _ => lv_goto (tgt := 138) hx hb dX2_isGood_134 (by decide)) ?_
            exact x_zret hx hb hr hlocks hs0 hbs (by decide) (by decide) (by decide) dX2_isGood_138 (pu1 (cB_t.mpr (good_0.mpr ⟨⟨of_decide_eq_true c_94, trivial, (hb_2_4.mp c_104).1, (hb_2_4.mp c_104).2⟩, c_119, (hb_5_8.mp c_130).1, (hb_5_8.mp c_130).2.1, (hb_5_8.mp c_130).2.2⟩)))
  · refine xl (fun _ => lv_tableIn (off := 40) (tgt := 88) hx hb dX2_isGood_48 (by decide) (by decide) (by decide) (by decide)) ?_
    refine xl (fun _ => lv_iload_n hx hb dX2_isGood_88 rfl (lv_at hl 3 rfl)) ?_
    refine xl (fun _ => lv_iconst (v := 0) hx hb dX2_isGood_89 (by decide)) ?_
    refine xl (fun _ => lv_iconst (v := 5) hx hb dX2_isGood_90 (by decide)) ?_
    refine x_callS E hl (c_X2_in l G H (sp_nu (t i) 0) 0 5) xm_yX2_in wMX2_98 wS_yX2_in (rest := []) rfl (by decide) (by decide) ⟨by decide, by decide⟩ dX2_isGood_91 (x_pure (r := .int (bI (decide (0 ≤ (sp_nu (t i) 0) ∧ (sp_nu (t i) 0) ≤ 5)))) (st1 := []) ?_)
    refine xb (fun _ => lv_if_eq (tgt := 137) hx hb dX2_isGood_94 (by decide)) (fun c_94 => ?_) (fun c_94 => ?_)
    · have c_94 := bI_f c_94
      refine xl (fun _ => lv_iconst (v := 0) hx hb dX2_isGood_137 (by decide)) ?_
      exact x_zret hx hb hr hlocks hs0 hbs (by decide) (by decide) (by decide) dX2_isGood_138 (pu0 (bF cB_t (fun y => by
        have z := good_1.mp y
        exact of_decide_eq_false c_94 z.1.1)))
    · have c_94 := bI_t c_94
      refine xl (fun _ => lv_aload_n hx hb dX2_isGood_97 rfl (lv_at hl 5 rfl)) ?_
      refine xl (fun _ => lv_iload_n hx hb dX2_isGood_98 rfl (lv_at hl 6 rfl)) ?_
      refine xl (fun _ => lv_iconst (v := 2) hx hb dX2_isGood_99 (by decide)) ?_
      refine xl (fun _ => lv_iconst (v := 4) hx hb dX2_isGood_100 (by decide)) ?_
      have hb_2_4 : cB (∀ x, 2 ≤ x → x < 4 → e8 (t i) x = 0) = true ↔ (sp_nu (t i) 2 = 0 ∧ sp_nu (t i) 3 = 0) := by
        rw [cB_t]
        constructor
        · intro z
          exact ⟨(EZ 2 (by omega)).mp (z 2 (by omega) (by omega)), (EZ 3 (by omega)).mp (z 3 (by omega) (by omega))⟩
        · intro z x h1 h2
          rcases (show x = 2 ∨ x = 3 by omega) with rfl | rfl
          · exact (EZ 2 (by omega)).mpr (z.1)
          · exact (EZ 3 (by omega)).mpr (z.2)
      refine x_callV E hl (c_X2_isBare l G H mb n so on tw th ce gi kn li re sec hM t rg hR i hi 2 4 (by omega) (by omega) (cB (∀ x, 2 ≤ x → x < 4 → e8 (t i) x = 0)) cB_t) xm_yX2_isBare wMX2_102 wI_yX2_isBare wT_yX2_isBare (ci := 2) rfl rfl hX (rest := []) rfl (by decide) (by decide) ⟨by decide, by decide⟩ dX2_isGood_101 (x_pure (r := .int (bI (cB (∀ x, 2 ≤ x → x < 4 → e8 (t i) x = 0)))) (st1 := []) ?_)
      refine xb (fun _ => lv_if_eq (tgt := 137) hx hb dX2_isGood_104 (by decide)) (fun c_104 => ?_) (fun c_104 => ?_)
      · have c_104 := bI_f c_104
        refine xl (fun _ => lv_iconst (v := 0) hx hb dX2_isGood_137 (by decide)) ?_
        exact x_zret hx hb hr hlocks hs0 hbs (by decide) (by decide) (by decide) dX2_isGood_138 (pu0 (bF cB_t (fun y => by
          have z := good_1.mp y
          rw [hb_2_4.mpr ⟨z.1.2.2.1, z.1.2.2.2⟩] at c_104; cases c_104)))
      · have c_104 := bI_t c_104
        refine xl (fun _ => lv_aload_n hx hb dX2_isGood_107 rfl (lv_at hl 5 rfl)) ?_
        refine xl (fun _ => lv_aload_n hx hb dX2_isGood_108 rfl (lv_at hl 5 rfl)) ?_
        refine x_get (ci := 2) hx hb hts hown hK wiX2 hX rfl 5 (by decide) wFX2_22 rfl rfl dX2_isGood_109 ?_
        refine xl (fun _ => lv_iload_n hx hb dX2_isGood_112 rfl (lv_at hl 4 rfl)) ?_
        refine xl (fun _ => lv_iconst (v := 4) hx hb dX2_isGood_113 (by decide)) ?_
        refine xl (fun _ => lv_iadd hx hb dX2_isGood_114) ?_
        rw [show ((nI (8 * i)) + 4) = (nI (8 * i + 4)) from nI_add _ 4]
        refine x_iald hx hb hK h5 (8 * i + 4) (rfl) (by omega) (by decide) dX2_isGood_115 ?_
        rw [show (ce (8 * i + 4)) = (px (sp_pa (t i) 0)) from (q5 4 (by omega)).trans (e8_7p h77 0)]
        refine x_callV E hl (c_X2_isFace l G H mb n so on tw th ce gi kn li re sec hM t rg hR (sp_pa (t i) 0) (pb 0 (by omega))) xm_yX2_isFace wMX2_105 wI_yX2_isFace wT_yX2_isFace (ci := 2) rfl rfl hX (rest := []) rfl (by decide) (by decide) ⟨by decide, by decide⟩ dX2_isGood_116 (x_pure (r := .int (bI (fcb t (sp_pa (t i) 0)))) (st1 := []) ?_)
        refine xb (fun _ => lv_if_eq (tgt := 137) hx hb dX2_isGood_119 (by decide)) (fun c_119 => ?_) (fun c_119 => ?_)
        · have c_119 := bI_f c_119
          refine xl (fun _ => lv_iconst (v := 0) hx hb dX2_isGood_137 (by decide)) ?_
          exact x_zret hx hb hr hlocks hs0 hbs (by decide) (by decide) (by decide) dX2_isGood_138 (pu0 (bF cB_t (fun y => by
            have z := good_1.mp y
            rw [z.2.1] at c_119; cases c_119)))
        · have c_119 := bI_t c_119
          refine xl (fun _ => lv_aload_n hx hb dX2_isGood_122 rfl (lv_at hl 5 rfl)) ?_
          refine xl (fun _ => lv_iload_n hx hb dX2_isGood_123 rfl (lv_at hl 6 rfl)) ?_
          refine xl (fun _ => lv_iconst (v := 5) hx hb dX2_isGood_124 (by decide)) ?_
          refine xl (fun _ => lv_bipush (v := 8) hx hb dX2_isGood_125 (by decide)) ?_
          have hb_5_8 : cB (∀ x, 5 ≤ x → x < 8 → e8 (t i) x = 0) = true ↔ (sp_pa (t i) 1 = none ∧ sp_pa (t i) 2 = none ∧ sp_pa (t i) 3 = none) := by
            rw [cB_t]
            constructor
            · intro z
              exact ⟨(PZ 1 (by omega)).mp (z 5 (by omega) (by omega)), (PZ 2 (by omega)).mp (z 6 (by omega) (by omega)), (PZ 3 (by omega)).mp (z 7 (by omega) (by omega))⟩
            · intro z x h1 h2
              rcases (show x = 5 ∨ x = 6 ∨ x = 7 by omega) with rfl | rfl | rfl
              · exact (PZ 1 (by omega)).mpr (z.1)
              · exact (PZ 2 (by omega)).mpr (z.2.1)
              · exact (PZ 3 (by omega)).mpr (z.2.2)
          refine x_callV E hl (c_X2_isBare l G H mb n so on tw th ce gi kn li re sec hM t rg hR i hi 5 8 (by omega) (by omega) (cB (∀ x, 5 ≤ x → x < 8 → e8 (t i) x = 0)) cB_t) xm_yX2_isBare wMX2_102 wI_yX2_isBare wT_yX2_isBare (ci := 2) rfl rfl hX (rest := []) rfl (by decide) (by decide) ⟨by decide, by decide⟩ dX2_isGood_127 (x_pure (r := .int (bI (cB (∀ x, 5 ≤ x → x < 8 → e8 (t i) x = 0)))) (st1 := []) ?_)
          refine xb (fun _ => lv_if_eq (tgt := 137) hx hb dX2_isGood_130 (by decide)) (fun c_130 => ?_) (fun c_130 => ?_)
          · have c_130 := bI_f c_130
            refine xl (fun _ => lv_iconst (v := 0) hx hb dX2_isGood_137 (by decide)) ?_
            exact x_zret hx hb hr hlocks hs0 hbs (by decide) (by decide) (by decide) dX2_isGood_138 (pu0 (bF cB_t (fun y => by
              have z := good_1.mp y
              rw [hb_5_8.mpr ⟨z.2.2.1, z.2.2.2.1, z.2.2.2.2⟩] at c_130; cases c_130)))
          · have c_130 := bI_t c_130
            refine xl (fun _ => lv_iconst (v := 1) hx hb dX2_isGood_133 (by decide)) ?_
            refine xl (fun _ => lv_goto (tgt := 138) hx hb dX2_isGood_134 (by decide)) ?_
            exact x_zret hx hb hr hlocks hs0 hbs (by decide) (by decide) (by decide) dX2_isGood_138 (pu1 (cB_t.mpr (good_1.mpr ⟨⟨of_decide_eq_true c_94, trivial, (hb_2_4.mp c_104).1, (hb_2_4.mp c_104).2⟩, c_119, (hb_5_8.mp c_130).1, (hb_5_8.mp c_130).2.1, (hb_5_8.mp c_130).2.2⟩)))
  · refine xl (fun _ => lv_tableIn (off := 91) (tgt := 139) hx hb dX2_isGood_48 (by decide) (by decide) (by decide) (by decide)) ?_
    refine xl (fun _ => lv_iload_n hx hb dX2_isGood_139 rfl (lv_at hl 3 rfl)) ?_
    refine xl (fun _ => lv_iconst (v := 0) hx hb dX2_isGood_140 (by decide)) ?_
    refine xl (fun _ => lv_iconst (v := 5) hx hb dX2_isGood_141 (by decide)) ?_
    refine x_callS E hl (c_X2_in l G H (sp_nu (t i) 0) 0 5) xm_yX2_in wMX2_98 wS_yX2_in (rest := []) rfl (by decide) (by decide) ⟨by decide, by decide⟩ dX2_isGood_142 (x_pure (r := .int (bI (decide (0 ≤ (sp_nu (t i) 0) ∧ (sp_nu (t i) 0) ≤ 5)))) (st1 := []) ?_)
    refine xb (fun _ => lv_if_eq (tgt := 287) hx hb dX2_isGood_145 (by decide)) (fun c_145 => ?_) (fun c_145 => ?_)
    · have c_145 := bI_f c_145
      refine xl (fun _ => lv_iconst (v := 0) hx hb dX2_isGood_287 (by decide)) ?_
      exact x_zret hx hb hr hlocks hs0 hbs (by decide) (by decide) (by decide) dX2_isGood_288 (pu0 (bF cB_t (fun y => by
        have z := good_2.mp y
        exact of_decide_eq_false c_145 z.1.1)))
    · have c_145 := bI_t c_145
      refine xl (fun _ => lv_iload hx hb dX2_isGood_148 (lv_at hl 2 rfl)) ?_
      refine xl (fun _ => lv_iconst (v := 0) hx hb dX2_isGood_150 (by decide)) ?_
      refine xl (fun _ => lv_iconst (v := 5) hx hb dX2_isGood_151 (by decide)) ?_
      refine x_callS E hl (c_X2_in l G H (sp_nu (t i) 1) 0 5) xm_yX2_in wMX2_98 wS_yX2_in (rest := []) rfl (by decide) (by decide) ⟨by decide, by decide⟩ dX2_isGood_152 (x_pure (r := .int (bI (decide (0 ≤ (sp_nu (t i) 1) ∧ (sp_nu (t i) 1) ≤ 5)))) (st1 := []) ?_)
      refine xb (fun _ => lv_if_eq (tgt := 287) hx hb dX2_isGood_155 (by decide)) (fun c_155 => ?_) (fun c_155 => ?_)
      · have c_155 := bI_f c_155
        refine xl (fun _ => lv_iconst (v := 0) hx hb dX2_isGood_287 (by decide)) ?_
        exact x_zret hx hb hr hlocks hs0 hbs (by decide) (by decide) (by decide) dX2_isGood_288 (pu0 (bF cB_t (fun y => by
          have z := good_2.mp y
          exact of_decide_eq_false c_155 z.1.2.1)))
      · have c_155 := bI_t c_155
        refine xl (fun _ => lv_iload hx hb dX2_isGood_158 (lv_at hl 1 rfl)) ?_
        refine xl (fun _ => lv_iconst (v := 0) hx hb dX2_isGood_160 (by decide)) ?_
        refine xl (fun _ => lv_sipush (v := 9999) hx hb dX2_isGood_161 (by decide)) ?_
        refine x_callS E hl (c_X2_in l G H (sp_nu (t i) 2) 0 9999) xm_yX2_in wMX2_98 wS_yX2_in (rest := []) rfl (by decide) (by decide) ⟨by decide, by decide⟩ dX2_isGood_164 (x_pure (r := .int (bI (decide (0 ≤ (sp_nu (t i) 2) ∧ (sp_nu (t i) 2) ≤ 9999)))) (st1 := []) ?_)
        refine xb (fun _ => lv_if_eq (tgt := 287) hx hb dX2_isGood_167 (by decide)) (fun c_167 => ?_) (fun c_167 => ?_)
        · have c_167 := bI_f c_167
          refine xl (fun _ => lv_iconst (v := 0) hx hb dX2_isGood_287 (by decide)) ?_
          exact x_zret hx hb hr hlocks hs0 hbs (by decide) (by decide) (by decide) dX2_isGood_288 (pu0 (bF cB_t (fun y => by
            have z := good_2.mp y
            exact of_decide_eq_false c_167 z.1.2.2.1)))
        · have c_167 := bI_t c_167
          refine xl (fun _ => lv_iload hx hb dX2_isGood_170 (lv_at hl 0 rfl)) ?_
          refine xl (fun _ => lv_iconst (v := 0) hx hb dX2_isGood_172 (by decide)) ?_
          refine xl (fun _ => lv_sipush (v := 9999) hx hb dX2_isGood_173 (by decide)) ?_
          refine x_callS E hl (c_X2_in l G H (sp_nu (t i) 3) 0 9999) xm_yX2_in wMX2_98 wS_yX2_in (rest := []) rfl (by decide) (by decide) ⟨by decide, by decide⟩ dX2_isGood_176 (x_pure (r := .int (bI (decide (0 ≤ (sp_nu (t i) 3) ∧ (sp_nu (t i) 3) ≤ 9999)))) (st1 := []) ?_)
          refine xb (fun _ => lv_if_eq (tgt := 287) hx hb dX2_isGood_179 (by decide)) (fun c_179 => ?_) (fun c_179 => ?_)
          · have c_179 := bI_f c_179
            refine xl (fun _ => lv_iconst (v := 0) hx hb dX2_isGood_287 (by decide)) ?_
            exact x_zret hx hb hr hlocks hs0 hbs (by decide) (by decide) (by decide) dX2_isGood_288 (pu0 (bF cB_t (fun y => by
              have z := good_2.mp y
              exact of_decide_eq_false c_179 z.1.2.2.2)))
          · have c_179 := bI_t c_179
            refine xl (fun _ => lv_aload_n hx hb dX2_isGood_182 rfl (lv_at hl 5 rfl)) ?_
            refine xl (fun _ => lv_aload_n hx hb dX2_isGood_183 rfl (lv_at hl 5 rfl)) ?_
            refine x_get (ci := 2) hx hb hts hown hK wiX2 hX rfl 5 (by decide) wFX2_22 rfl rfl dX2_isGood_184 ?_
            refine xl (fun _ => lv_iload_n hx hb dX2_isGood_187 rfl (lv_at hl 4 rfl)) ?_
            refine xl (fun _ => lv_iconst (v := 4) hx hb dX2_isGood_188 (by decide)) ?_
            refine xl (fun _ => lv_iadd hx hb dX2_isGood_189) ?_
            rw [show ((nI (8 * i)) + 4) = (nI (8 * i + 4)) from nI_add _ 4]
            refine x_iald hx hb hK h5 (8 * i + 4) (rfl) (by omega) (by decide) dX2_isGood_190 ?_
            rw [show (ce (8 * i + 4)) = (px (sp_pa (t i) 0)) from (q5 4 (by omega)).trans (e8_7p h77 0)]
            refine x_callV E hl (c_X2_isFace l G H mb n so on tw th ce gi kn li re sec hM t rg hR (sp_pa (t i) 0) (pb 0 (by omega))) xm_yX2_isFace wMX2_105 wI_yX2_isFace wT_yX2_isFace (ci := 2) rfl rfl hX (rest := []) rfl (by decide) (by decide) ⟨by decide, by decide⟩ dX2_isGood_191 (x_pure (r := .int (bI (fcb t (sp_pa (t i) 0)))) (st1 := []) ?_)
            refine xb (fun _ => lv_if_eq (tgt := 287) hx hb dX2_isGood_194 (by decide)) (fun c_194 => ?_) (fun c_194 => ?_)
            · have c_194 := bI_f c_194
              refine xl (fun _ => lv_iconst (v := 0) hx hb dX2_isGood_287 (by decide)) ?_
              exact x_zret hx hb hr hlocks hs0 hbs (by decide) (by decide) (by decide) dX2_isGood_288 (pu0 (bF cB_t (fun y => by
                have z := good_2.mp y
                rw [z.2.1.1] at c_194; cases c_194)))
            · have c_194 := bI_t c_194
              refine xl (fun _ => lv_aload_n hx hb dX2_isGood_197 rfl (lv_at hl 5 rfl)) ?_
              refine xl (fun _ => lv_aload_n hx hb dX2_isGood_198 rfl (lv_at hl 5 rfl)) ?_
              refine x_get (ci := 2) hx hb hts hown hK wiX2 hX rfl 5 (by decide) wFX2_22 rfl rfl dX2_isGood_199 ?_
              refine xl (fun _ => lv_iload_n hx hb dX2_isGood_202 rfl (lv_at hl 4 rfl)) ?_
              refine xl (fun _ => lv_iconst (v := 5) hx hb dX2_isGood_203 (by decide)) ?_
              refine xl (fun _ => lv_iadd hx hb dX2_isGood_204) ?_
              rw [show ((nI (8 * i)) + 5) = (nI (8 * i + 5)) from nI_add _ 5]
              refine x_iald hx hb hK h5 (8 * i + 5) (rfl) (by omega) (by decide) dX2_isGood_205 ?_
              rw [show (ce (8 * i + 5)) = (px (sp_pa (t i) 1)) from (q5 5 (by omega)).trans (e8_7p h77 1)]
              refine x_callV E hl (c_X2_isFace l G H mb n so on tw th ce gi kn li re sec hM t rg hR (sp_pa (t i) 1) (pb 1 (by omega))) xm_yX2_isFace wMX2_105 wI_yX2_isFace wT_yX2_isFace (ci := 2) rfl rfl hX (rest := []) rfl (by decide) (by decide) ⟨by decide, by decide⟩ dX2_isGood_206 (x_pure (r := .int (bI (fcb t (sp_pa (t i) 1)))) (st1 := []) ?_)
              refine xb (fun _ => lv_if_eq (tgt := 287) hx hb dX2_isGood_209 (by decide)) (fun c_209 => ?_) (fun c_209 => ?_)
              · have c_209 := bI_f c_209
                refine xl (fun _ => lv_iconst (v := 0) hx hb dX2_isGood_287 (by decide)) ?_
                exact x_zret hx hb hr hlocks hs0 hbs (by decide) (by decide) (by decide) dX2_isGood_288 (pu0 (bF cB_t (fun y => by
                  have z := good_2.mp y
                  rw [z.2.1.2.1] at c_209; cases c_209)))
              · have c_209 := bI_t c_209
                refine xl (fun _ => lv_aload_n hx hb dX2_isGood_212 rfl (lv_at hl 5 rfl)) ?_
                refine x_get (ci := 2) hx hb hts hown hK wiX2 hX rfl 5 (by decide) wFX2_22 rfl rfl dX2_isGood_213 ?_
                refine xl (fun _ => lv_iload_n hx hb dX2_isGood_216 rfl (lv_at hl 4 rfl)) ?_
                refine xl (fun _ => lv_bipush (v := 6) hx hb dX2_isGood_217 (by decide)) ?_
                refine xl (fun _ => lv_iadd hx hb dX2_isGood_219) ?_
                rw [show ((nI (8 * i)) + 6) = (nI (8 * i + 6)) from nI_add _ 6]
                refine x_iald hx hb hK h5 (8 * i + 6) (rfl) (by omega) (by decide) dX2_isGood_220 ?_
                rw [show (ce (8 * i + 6)) = (px (sp_pa (t i) 2)) from (q5 6 (by omega)).trans (e8_7p h77 2)]
                refine xb (fun _ => lv_if_ne (tgt := 239) hx hb dX2_isGood_221 (by decide)) (fun c_221 => ?_) (fun c_221 => ?_)
                · refine xl (fun _ => lv_aload_n hx hb dX2_isGood_239 rfl (lv_at hl 5 rfl)) ?_
                  refine xl (fun _ => lv_aload_n hx hb dX2_isGood_240 rfl (lv_at hl 5 rfl)) ?_
                  refine x_get (ci := 2) hx hb hts hown hK wiX2 hX rfl 5 (by decide) wFX2_22 rfl rfl dX2_isGood_241 ?_
                  refine xl (fun _ => lv_iload_n hx hb dX2_isGood_244 rfl (lv_at hl 4 rfl)) ?_
                  refine xl (fun _ => lv_bipush (v := 6) hx hb dX2_isGood_245 (by decide)) ?_
                  refine xl (fun _ => lv_iadd hx hb dX2_isGood_247) ?_
                  rw [show ((nI (8 * i)) + 6) = (nI (8 * i + 6)) from nI_add _ 6]
                  refine x_iald hx hb hK h5 (8 * i + 6) (rfl) (by omega) (by decide) dX2_isGood_248 ?_
                  rw [show (ce (8 * i + 6)) = (px (sp_pa (t i) 2)) from (q5 6 (by omega)).trans (e8_7p h77 2)]
                  refine x_callV E hl (c_X2_isFace l G H mb n so on tw th ce gi kn li re sec hM t rg hR (sp_pa (t i) 2) (pb 2 (by omega))) xm_yX2_isFace wMX2_105 wI_yX2_isFace wT_yX2_isFace (ci := 2) rfl rfl hX (rest := []) rfl (by decide) (by decide) ⟨by decide, by decide⟩ dX2_isGood_249 (x_pure (r := .int (bI (fcb t (sp_pa (t i) 2)))) (st1 := []) ?_)
                  refine xb (fun _ => lv_if_eq (tgt := 287) hx hb dX2_isGood_252 (by decide)) (fun c_252 => ?_) (fun c_252 => ?_)
                  · have c_252 := bI_f c_252
                    refine xl (fun _ => lv_iconst (v := 0) hx hb dX2_isGood_287 (by decide)) ?_
                    exact x_zret hx hb hr hlocks hs0 hbs (by decide) (by decide) (by decide) dX2_isGood_288 (pu0 (bF cB_t (fun y => by
                      have z := good_2.mp y
                      exact z.2.1.2.2.1.elim (fun q => c_221 (by rw [q]; rfl)) (fun q => by rw [q] at c_252; cases c_252))))
                  · have c_252 := bI_t c_252
                    refine xl (fun _ => lv_aload_n hx hb dX2_isGood_255 rfl (lv_at hl 5 rfl)) ?_
                    refine x_get (ci := 2) hx hb hts hown hK wiX2 hX rfl 5 (by decide) wFX2_22 rfl rfl dX2_isGood_256 ?_
                    refine xl (fun _ => lv_iload_n hx hb dX2_isGood_259 rfl (lv_at hl 4 rfl)) ?_
                    refine xl (fun _ => lv_bipush (v := 7) hx hb dX2_isGood_260 (by decide)) ?_
                    refine xl (fun _ => lv_iadd hx hb dX2_isGood_262) ?_
                    rw [show ((nI (8 * i)) + 7) = (nI (8 * i + 7)) from nI_add _ 7]
                    refine x_iald hx hb hK h5 (8 * i + 7) (rfl) (by omega) (by decide) dX2_isGood_263 ?_
                    rw [show (ce (8 * i + 7)) = (px (sp_pa (t i) 3)) from (q5 7 (by omega)).trans (e8_7p h77 3)]
                    refine xb (fun _ => lv_if_eq (tgt := 283) hx hb dX2_isGood_264 (by decide)) (fun c_264 => ?_) (fun c_264 => ?_)
                    · refine xl (fun _ => lv_iconst (v := 1) hx hb dX2_isGood_283 (by decide)) ?_
                      refine xl (fun _ => lv_goto (tgt := 288) hx hb dX2_isGood_284 (by decide)) ?_
                      exact x_zret hx hb hr hlocks hs0 hbs (by decide) (by decide) (by decide) dX2_isGood_288 (pu1 (cB_t.mpr (good_2.mpr ⟨⟨of_decide_eq_true c_145, of_decide_eq_true c_155, of_decide_eq_true c_167, of_decide_eq_true c_179⟩, ⟨c_194, c_209, Or.inr c_252, Or.inl (pz 3 (by omega) c_264)⟩, fun _ => pz 3 (by omega) c_264⟩)))
                    · refine xl (fun _ => lv_aload_n hx hb dX2_isGood_267 rfl (lv_at hl 5 rfl)) ?_
                      refine xl (fun _ => lv_aload_n hx hb dX2_isGood_268 rfl (lv_at hl 5 rfl)) ?_
                      refine x_get (ci := 2) hx hb hts hown hK wiX2 hX rfl 5 (by decide) wFX2_22 rfl rfl dX2_isGood_269 ?_
                      refine xl (fun _ => lv_iload_n hx hb dX2_isGood_272 rfl (lv_at hl 4 rfl)) ?_
                      refine xl (fun _ => lv_bipush (v := 7) hx hb dX2_isGood_273 (by decide)) ?_
                      refine xl (fun _ => lv_iadd hx hb dX2_isGood_275) ?_
                      rw [show ((nI (8 * i)) + 7) = (nI (8 * i + 7)) from nI_add _ 7]
                      refine x_iald hx hb hK h5 (8 * i + 7) (rfl) (by omega) (by decide) dX2_isGood_276 ?_
                      rw [show (ce (8 * i + 7)) = (px (sp_pa (t i) 3)) from (q5 7 (by omega)).trans (e8_7p h77 3)]
                      refine x_callV E hl (c_X2_isFace l G H mb n so on tw th ce gi kn li re sec hM t rg hR (sp_pa (t i) 3) (pb 3 (by omega))) xm_yX2_isFace wMX2_105 wI_yX2_isFace wT_yX2_isFace (ci := 2) rfl rfl hX (rest := []) rfl (by decide) (by decide) ⟨by decide, by decide⟩ dX2_isGood_277 (x_pure (r := .int (bI (fcb t (sp_pa (t i) 3)))) (st1 := []) ?_)
                      refine xb (fun _ => lv_if_eq (tgt := 287) hx hb dX2_isGood_280 (by decide)) (fun c_280 => ?_) (fun c_280 => ?_)
                      · have c_280 := bI_f c_280
                        refine xl (fun _ => lv_iconst (v := 0) hx hb dX2_isGood_287 (by decide)) ?_
                        exact x_zret hx hb hr hlocks hs0 hbs (by decide) (by decide) (by decide) dX2_isGood_288 (pu0 (bF cB_t (fun y => by
                          have z := good_2.mp y
                          exact z.2.1.2.2.2.elim (fun q => c_264 (by rw [q]; rfl)) (fun q => by rw [q] at c_280; cases c_280))))
                      · have c_280 := bI_t c_280
                        refine xl (fun _ => lv_iconst (v := 1) hx hb dX2_isGood_283 (by decide)) ?_
                        refine xl (fun _ => lv_goto (tgt := 288) hx hb dX2_isGood_284 (by decide)) ?_
                        exact x_zret hx hb hr hlocks hs0 hbs (by decide) (by decide) (by decide) dX2_isGood_288 (pu1 (cB_t.mpr (good_2.mpr ⟨⟨of_decide_eq_true c_145, of_decide_eq_true c_155, of_decide_eq_true c_167, of_decide_eq_true c_179⟩, ⟨c_194, c_209, Or.inr c_252, Or.inr c_280⟩, fun q => absurd (by rw [q]; rfl) c_221⟩)))
                · refine xl (fun _ => lv_aload_n hx hb dX2_isGood_224 rfl (lv_at hl 5 rfl)) ?_
                  refine x_get (ci := 2) hx hb hts hown hK wiX2 hX rfl 5 (by decide) wFX2_22 rfl rfl dX2_isGood_225 ?_
                  refine xl (fun _ => lv_iload_n hx hb dX2_isGood_228 rfl (lv_at hl 4 rfl)) ?_
                  refine xl (fun _ => lv_bipush (v := 7) hx hb dX2_isGood_229 (by decide)) ?_
                  refine xl (fun _ => lv_iadd hx hb dX2_isGood_231) ?_
                  rw [show ((nI (8 * i)) + 7) = (nI (8 * i + 7)) from nI_add _ 7]
                  refine x_iald hx hb hK h5 (8 * i + 7) (rfl) (by omega) (by decide) dX2_isGood_232 ?_
                  rw [show (ce (8 * i + 7)) = (px (sp_pa (t i) 3)) from (q5 7 (by omega)).trans (e8_7p h77 3)]
                  refine xb (fun _ => lv_if_ne (tgt := 287) hx hb dX2_isGood_233 (by decide)) (fun c_233 => ?_) (fun c_233 => ?_)
                  · refine xl (fun _ => lv_iconst (v := 0) hx hb dX2_isGood_287 (by decide)) ?_
                    exact x_zret hx hb hr hlocks hs0 hbs (by decide) (by decide) (by decide) dX2_isGood_288 (pu0 (bF cB_t (fun y => by
                      have z := good_2.mp y
                      exact c_233 (by rw [z.2.2 (pz 2 (by omega) c_221)]; rfl))))
                  · refine xl (fun _ => lv_goto (tgt := 283) hx hb dX2_isGood_236 (by decide)) ?_
                    refine xl (fun _ => lv_iconst (v := 1) hx hb dX2_isGood_283 (by decide)) ?_
                    refine xl (fun _ => lv_goto (tgt := 288) hx hb dX2_isGood_284 (by decide)) ?_
                    exact x_zret hx hb hr hlocks hs0 hbs (by decide) (by decide) (by decide) dX2_isGood_288 (pu1 (cB_t.mpr (good_2.mpr ⟨⟨of_decide_eq_true c_145, of_decide_eq_true c_155, of_decide_eq_true c_167, of_decide_eq_true c_179⟩, ⟨c_194, c_209, Or.inl (pz 2 (by omega) c_221), Or.inl (pz 3 (by omega) c_233)⟩, fun _ => pz 3 (by omega) c_233⟩)))
  · refine xl (fun _ => lv_tableIn (off := 241) (tgt := 289) hx hb dX2_isGood_48 (by decide) (by decide) (by decide) (by decide)) ?_
    refine xl (fun _ => lv_aload_n hx hb dX2_isGood_289 rfl (lv_at hl 5 rfl)) ?_
    refine xl (fun _ => lv_iload_n hx hb dX2_isGood_290 rfl (lv_at hl 6 rfl)) ?_
    refine xl (fun _ => lv_iconst (v := 0) hx hb dX2_isGood_291 (by decide)) ?_
    refine xl (fun _ => lv_iconst (v := 4) hx hb dX2_isGood_292 (by decide)) ?_
    have hb_0_4 : cB (∀ x, 0 ≤ x → x < 4 → e8 (t i) x = 0) = true ↔ (sp_nu (t i) 0 = 0 ∧ sp_nu (t i) 1 = 0 ∧ sp_nu (t i) 2 = 0 ∧ sp_nu (t i) 3 = 0) := by
      rw [cB_t]
      constructor
      · intro z
        exact ⟨(EZ 0 (by omega)).mp (z 0 (by omega) (by omega)), (EZ 1 (by omega)).mp (z 1 (by omega) (by omega)), (EZ 2 (by omega)).mp (z 2 (by omega) (by omega)), (EZ 3 (by omega)).mp (z 3 (by omega) (by omega))⟩
      · intro z x h1 h2
        rcases (show x = 0 ∨ x = 1 ∨ x = 2 ∨ x = 3 by omega) with rfl | rfl | rfl | rfl
        · exact (EZ 0 (by omega)).mpr (z.1)
        · exact (EZ 1 (by omega)).mpr (z.2.1)
        · exact (EZ 2 (by omega)).mpr (z.2.2.1)
        · exact (EZ 3 (by omega)).mpr (z.2.2.2)
    refine x_callV E hl (c_X2_isBare l G H mb n so on tw th ce gi kn li re sec hM t rg hR i hi 0 4 (by omega) (by omega) (cB (∀ x, 0 ≤ x → x < 4 → e8 (t i) x = 0)) cB_t) xm_yX2_isBare wMX2_102 wI_yX2_isBare wT_yX2_isBare (ci := 2) rfl rfl hX (rest := []) rfl (by decide) (by decide) ⟨by decide, by decide⟩ dX2_isGood_293 (x_pure (r := .int (bI (cB (∀ x, 0 ≤ x → x < 4 → e8 (t i) x = 0)))) (st1 := []) ?_)
    refine xb (fun _ => lv_if_eq (tgt := 325) hx hb dX2_isGood_296 (by decide)) (fun c_296 => ?_) (fun c_296 => ?_)
    · have c_296 := bI_f c_296
      refine xl (fun _ => lv_iconst (v := 0) hx hb dX2_isGood_325 (by decide)) ?_
      exact x_zret hx hb hr hlocks hs0 hbs (by decide) (by decide) (by decide) dX2_isGood_326 (pu0 (bF cB_t (fun y => by
        have z := good_3.mp y
        rw [hb_0_4.mpr ⟨z.1.1, z.1.2.1, z.1.2.2.1, z.1.2.2.2⟩] at c_296; cases c_296)))
    · have c_296 := bI_t c_296
      refine xl (fun _ => lv_aload_n hx hb dX2_isGood_299 rfl (lv_at hl 5 rfl)) ?_
      refine x_get (ci := 2) hx hb hts hown hK wiX2 hX rfl 5 (by decide) wFX2_22 rfl rfl dX2_isGood_300 ?_
      refine xl (fun _ => lv_iload_n hx hb dX2_isGood_303 rfl (lv_at hl 4 rfl)) ?_
      refine xl (fun _ => lv_iconst (v := 4) hx hb dX2_isGood_304 (by decide)) ?_
      refine xl (fun _ => lv_iadd hx hb dX2_isGood_305) ?_
      rw [show ((nI (8 * i)) + 4) = (nI (8 * i + 4)) from nI_add _ 4]
      refine x_iald hx hb hK h5 (8 * i + 4) (rfl) (by omega) (by decide) dX2_isGood_306 ?_
      rw [show (ce (8 * i + 4)) = (px (sp_pa (t i) 0)) from (q5 4 (by omega)).trans (e8_7p h77 0)]
      refine xb (fun _ => lv_if_eq (tgt := 325) hx hb dX2_isGood_307 (by decide)) (fun c_307 => ?_) (fun c_307 => ?_)
      · refine xl (fun _ => lv_iconst (v := 0) hx hb dX2_isGood_325 (by decide)) ?_
        exact x_zret hx hb hr hlocks hs0 hbs (by decide) (by decide) (by decide) dX2_isGood_326 (pu0 (bF cB_t (fun y => by
          have z := good_3.mp y
          exact z.2.1 (pz 0 (by omega) c_307))))
      · refine xl (fun _ => lv_aload_n hx hb dX2_isGood_310 rfl (lv_at hl 5 rfl)) ?_
        refine xl (fun _ => lv_iload_n hx hb dX2_isGood_311 rfl (lv_at hl 6 rfl)) ?_
        refine xl (fun _ => lv_iconst (v := 5) hx hb dX2_isGood_312 (by decide)) ?_
        refine xl (fun _ => lv_bipush (v := 8) hx hb dX2_isGood_313 (by decide)) ?_
        have hb_5_8 : cB (∀ x, 5 ≤ x → x < 8 → e8 (t i) x = 0) = true ↔ (sp_pa (t i) 1 = none ∧ sp_pa (t i) 2 = none ∧ sp_pa (t i) 3 = none) := by
          rw [cB_t]
          constructor
          · intro z
            exact ⟨(PZ 1 (by omega)).mp (z 5 (by omega) (by omega)), (PZ 2 (by omega)).mp (z 6 (by omega) (by omega)), (PZ 3 (by omega)).mp (z 7 (by omega) (by omega))⟩
          · intro z x h1 h2
            rcases (show x = 5 ∨ x = 6 ∨ x = 7 by omega) with rfl | rfl | rfl
            · exact (PZ 1 (by omega)).mpr (z.1)
            · exact (PZ 2 (by omega)).mpr (z.2.1)
            · exact (PZ 3 (by omega)).mpr (z.2.2)
        refine x_callV E hl (c_X2_isBare l G H mb n so on tw th ce gi kn li re sec hM t rg hR i hi 5 8 (by omega) (by omega) (cB (∀ x, 5 ≤ x → x < 8 → e8 (t i) x = 0)) cB_t) xm_yX2_isBare wMX2_102 wI_yX2_isBare wT_yX2_isBare (ci := 2) rfl rfl hX (rest := []) rfl (by decide) (by decide) ⟨by decide, by decide⟩ dX2_isGood_315 (x_pure (r := .int (bI (cB (∀ x, 5 ≤ x → x < 8 → e8 (t i) x = 0)))) (st1 := []) ?_)
        refine xb (fun _ => lv_if_eq (tgt := 325) hx hb dX2_isGood_318 (by decide)) (fun c_318 => ?_) (fun c_318 => ?_)
        · have c_318 := bI_f c_318
          refine xl (fun _ => lv_iconst (v := 0) hx hb dX2_isGood_325 (by decide)) ?_
          exact x_zret hx hb hr hlocks hs0 hbs (by decide) (by decide) (by decide) dX2_isGood_326 (pu0 (bF cB_t (fun y => by
            have z := good_3.mp y
            rw [hb_5_8.mpr ⟨z.2.2.1, z.2.2.2.1, z.2.2.2.2⟩] at c_318; cases c_318)))
        · have c_318 := bI_t c_318
          refine xl (fun _ => lv_iconst (v := 1) hx hb dX2_isGood_321 (by decide)) ?_
          refine xl (fun _ => lv_goto (tgt := 326) hx hb dX2_isGood_322 (by decide)) ?_
          exact x_zret hx hb hr hlocks hs0 hbs (by decide) (by decide) (by decide) dX2_isGood_326 (pu1 (cB_t.mpr (good_3.mpr ⟨hb_0_4.mp c_296, (fun q => c_307 (by rw [q]; rfl)), (hb_5_8.mp c_318).1, (hb_5_8.mp c_318).2.1, (hb_5_8.mp c_318).2.2⟩)))
  · refine xl (fun _ => lv_tableIn (off := 279) (tgt := 327) hx hb dX2_isGood_48 (by decide) (by decide) (by decide) (by decide)) ?_
    refine xl (fun _ => lv_iload_n hx hb dX2_isGood_327 rfl (lv_at hl 3 rfl)) ?_
    refine xl (fun _ => lv_iconst (v := 0) hx hb dX2_isGood_328 (by decide)) ?_
    refine xl (fun _ => lv_iconst (v := 3) hx hb dX2_isGood_329 (by decide)) ?_
    refine x_callS E hl (c_X2_in l G H (sp_nu (t i) 0) 0 3) xm_yX2_in wMX2_98 wS_yX2_in (rest := []) rfl (by decide) (by decide) ⟨by decide, by decide⟩ dX2_isGood_330 (x_pure (r := .int (bI (decide (0 ≤ (sp_nu (t i) 0) ∧ (sp_nu (t i) 0) ≤ 3)))) (st1 := []) ?_)
    refine xb (fun _ => lv_if_eq (tgt := 401) hx hb dX2_isGood_333 (by decide)) (fun c_333 => ?_) (fun c_333 => ?_)
    · have c_333 := bI_f c_333
      refine xl (fun _ => lv_iconst (v := 0) hx hb dX2_isGood_401 (by decide)) ?_
      exact x_zret hx hb hr hlocks hs0 hbs (by decide) (by decide) (by decide) dX2_isGood_402 (pu0 (bF cB_t (fun y => by
        have z := good_4.mp y
        exact of_decide_eq_false c_333 z.1.1)))
    · have c_333 := bI_t c_333
      refine xl (fun _ => lv_iload hx hb dX2_isGood_336 (lv_at hl 2 rfl)) ?_
      refine xl (fun _ => lv_iconst (v := 1) hx hb dX2_isGood_338 (by decide)) ?_
      refine xb (fun _ => lv_icmp_lt (tgt := 401) hx hb dX2_isGood_339 (by decide)) (fun c_339 => ?_) (fun c_339 => ?_)
      · refine xl (fun _ => lv_iconst (v := 0) hx hb dX2_isGood_401 (by decide)) ?_
        exact x_zret hx hb hr hlocks hs0 hbs (by decide) (by decide) (by decide) dX2_isGood_402 (pu0 (bF cB_t (fun y => by
          have z := good_4.mp y
          exact z.1.2.1 c_339)))
      · refine xl (fun _ => lv_iload hx hb dX2_isGood_342 (lv_at hl 1 rfl)) ?_
        refine xl (fun _ => lv_iconst (v := 0) hx hb dX2_isGood_344 (by decide)) ?_
        refine xl (fun _ => lv_sipush (v := 9999) hx hb dX2_isGood_345 (by decide)) ?_
        refine x_callS E hl (c_X2_in l G H (sp_nu (t i) 2) 0 9999) xm_yX2_in wMX2_98 wS_yX2_in (rest := []) rfl (by decide) (by decide) ⟨by decide, by decide⟩ dX2_isGood_348 (x_pure (r := .int (bI (decide (0 ≤ (sp_nu (t i) 2) ∧ (sp_nu (t i) 2) ≤ 9999)))) (st1 := []) ?_)
        refine xb (fun _ => lv_if_eq (tgt := 401) hx hb dX2_isGood_351 (by decide)) (fun c_351 => ?_) (fun c_351 => ?_)
        · have c_351 := bI_f c_351
          refine xl (fun _ => lv_iconst (v := 0) hx hb dX2_isGood_401 (by decide)) ?_
          exact x_zret hx hb hr hlocks hs0 hbs (by decide) (by decide) (by decide) dX2_isGood_402 (pu0 (bF cB_t (fun y => by
            have z := good_4.mp y
            exact of_decide_eq_false c_351 z.1.2.2.1)))
        · have c_351 := bI_t c_351
          refine xl (fun _ => lv_iload hx hb dX2_isGood_354 (lv_at hl 0 rfl)) ?_
          refine xb (fun _ => lv_if_ne (tgt := 401) hx hb dX2_isGood_356 (by decide)) (fun c_356 => ?_) (fun c_356 => ?_)
          · refine xl (fun _ => lv_iconst (v := 0) hx hb dX2_isGood_401 (by decide)) ?_
            exact x_zret hx hb hr hlocks hs0 hbs (by decide) (by decide) (by decide) dX2_isGood_402 (pu0 (bF cB_t (fun y => by
              have z := good_4.mp y
              exact c_356 z.1.2.2.2)))
          · refine xl (fun _ => lv_aload_n hx hb dX2_isGood_359 rfl (lv_at hl 5 rfl)) ?_
            refine x_get (ci := 2) hx hb hts hown hK wiX2 hX rfl 5 (by decide) wFX2_22 rfl rfl dX2_isGood_360 ?_
            refine xl (fun _ => lv_iload_n hx hb dX2_isGood_363 rfl (lv_at hl 4 rfl)) ?_
            refine xl (fun _ => lv_iconst (v := 4) hx hb dX2_isGood_364 (by decide)) ?_
            refine xl (fun _ => lv_iadd hx hb dX2_isGood_365) ?_
            rw [show ((nI (8 * i)) + 4) = (nI (8 * i + 4)) from nI_add _ 4]
            refine x_iald hx hb hK h5 (8 * i + 4) (rfl) (by omega) (by decide) dX2_isGood_366 ?_
            rw [show (ce (8 * i + 4)) = (px (sp_pa (t i) 0)) from (q5 4 (by omega)).trans (e8_7p h77 0)]
            refine xb (fun _ => lv_if_eq (tgt := 401) hx hb dX2_isGood_367 (by decide)) (fun c_367 => ?_) (fun c_367 => ?_)
            · refine xl (fun _ => lv_iconst (v := 0) hx hb dX2_isGood_401 (by decide)) ?_
              exact x_zret hx hb hr hlocks hs0 hbs (by decide) (by decide) (by decide) dX2_isGood_402 (pu0 (bF cB_t (fun y => by
                have z := good_4.mp y
                exact z.2.1 (pz 0 (by omega) c_367))))
            · refine xl (fun _ => lv_aload_n hx hb dX2_isGood_370 rfl (lv_at hl 5 rfl)) ?_
              refine xl (fun _ => lv_aload_n hx hb dX2_isGood_371 rfl (lv_at hl 5 rfl)) ?_
              refine x_get (ci := 2) hx hb hts hown hK wiX2 hX rfl 5 (by decide) wFX2_22 rfl rfl dX2_isGood_372 ?_
              refine xl (fun _ => lv_iload_n hx hb dX2_isGood_375 rfl (lv_at hl 4 rfl)) ?_
              refine xl (fun _ => lv_iconst (v := 5) hx hb dX2_isGood_376 (by decide)) ?_
              refine xl (fun _ => lv_iadd hx hb dX2_isGood_377) ?_
              rw [show ((nI (8 * i)) + 5) = (nI (8 * i + 5)) from nI_add _ 5]
              refine x_iald hx hb hK h5 (8 * i + 5) (rfl) (by omega) (by decide) dX2_isGood_378 ?_
              rw [show (ce (8 * i + 5)) = (px (sp_pa (t i) 1)) from (q5 5 (by omega)).trans (e8_7p h77 1)]
              refine x_callV E hl (c_X2_isFace l G H mb n so on tw th ce gi kn li re sec hM t rg hR (sp_pa (t i) 1) (pb 1 (by omega))) xm_yX2_isFace wMX2_105 wI_yX2_isFace wT_yX2_isFace (ci := 2) rfl rfl hX (rest := []) rfl (by decide) (by decide) ⟨by decide, by decide⟩ dX2_isGood_379 (x_pure (r := .int (bI (fcb t (sp_pa (t i) 1)))) (st1 := []) ?_)
              refine xb (fun _ => lv_if_eq (tgt := 401) hx hb dX2_isGood_382 (by decide)) (fun c_382 => ?_) (fun c_382 => ?_)
              · have c_382 := bI_f c_382
                refine xl (fun _ => lv_iconst (v := 0) hx hb dX2_isGood_401 (by decide)) ?_
                exact x_zret hx hb hr hlocks hs0 hbs (by decide) (by decide) (by decide) dX2_isGood_402 (pu0 (bF cB_t (fun y => by
                  have z := good_4.mp y
                  rw [z.2.2.1] at c_382; cases c_382)))
              · have c_382 := bI_t c_382
                refine xl (fun _ => lv_aload_n hx hb dX2_isGood_385 rfl (lv_at hl 5 rfl)) ?_
                refine xl (fun _ => lv_iload_n hx hb dX2_isGood_386 rfl (lv_at hl 6 rfl)) ?_
                refine xl (fun _ => lv_bipush (v := 6) hx hb dX2_isGood_387 (by decide)) ?_
                refine xl (fun _ => lv_bipush (v := 8) hx hb dX2_isGood_389 (by decide)) ?_
                have hb_6_8 : cB (∀ x, 6 ≤ x → x < 8 → e8 (t i) x = 0) = true ↔ (sp_pa (t i) 2 = none ∧ sp_pa (t i) 3 = none) := by
                  rw [cB_t]
                  constructor
                  · intro z
                    exact ⟨(PZ 2 (by omega)).mp (z 6 (by omega) (by omega)), (PZ 3 (by omega)).mp (z 7 (by omega) (by omega))⟩
                  · intro z x h1 h2
                    rcases (show x = 6 ∨ x = 7 by omega) with rfl | rfl
                    · exact (PZ 2 (by omega)).mpr (z.1)
                    · exact (PZ 3 (by omega)).mpr (z.2)
                refine x_callV E hl (c_X2_isBare l G H mb n so on tw th ce gi kn li re sec hM t rg hR i hi 6 8 (by omega) (by omega) (cB (∀ x, 6 ≤ x → x < 8 → e8 (t i) x = 0)) cB_t) xm_yX2_isBare wMX2_102 wI_yX2_isBare wT_yX2_isBare (ci := 2) rfl rfl hX (rest := []) rfl (by decide) (by decide) ⟨by decide, by decide⟩ dX2_isGood_391 (x_pure (r := .int (bI (cB (∀ x, 6 ≤ x → x < 8 → e8 (t i) x = 0)))) (st1 := []) ?_)
                refine xb (fun _ => lv_if_eq (tgt := 401) hx hb dX2_isGood_394 (by decide)) (fun c_394 => ?_) (fun c_394 => ?_)
                · have c_394 := bI_f c_394
                  refine xl (fun _ => lv_iconst (v := 0) hx hb dX2_isGood_401 (by decide)) ?_
                  exact x_zret hx hb hr hlocks hs0 hbs (by decide) (by decide) (by decide) dX2_isGood_402 (pu0 (bF cB_t (fun y => by
                    have z := good_4.mp y
                    rw [hb_6_8.mpr ⟨z.2.2.2.1, z.2.2.2.2⟩] at c_394; cases c_394)))
                · have c_394 := bI_t c_394
                  refine xl (fun _ => lv_iconst (v := 1) hx hb dX2_isGood_397 (by decide)) ?_
                  refine xl (fun _ => lv_goto (tgt := 402) hx hb dX2_isGood_398 (by decide)) ?_
                  exact x_zret hx hb hr hlocks hs0 hbs (by decide) (by decide) (by decide) dX2_isGood_402 (pu1 (cB_t.mpr (good_4.mpr ⟨⟨of_decide_eq_true c_333, c_339, of_decide_eq_true c_351, c_356⟩, (fun q => c_367 (by rw [q]; rfl)), c_382, (hb_6_8.mp c_394).1, (hb_6_8.mp c_394).2⟩)))
  · refine xl (fun _ => lv_tableIn (off := 355) (tgt := 403) hx hb dX2_isGood_48 (by decide) (by decide) (by decide) (by decide)) ?_
    refine xl (fun _ => lv_iload_n hx hb dX2_isGood_403 rfl (lv_at hl 3 rfl)) ?_
    refine xl (fun _ => lv_iconst (v := 0) hx hb dX2_isGood_404 (by decide)) ?_
    refine xl (fun _ => lv_iconst (v := 3) hx hb dX2_isGood_405 (by decide)) ?_
    refine x_callS E hl (c_X2_in l G H (sp_nu (t i) 0) 0 3) xm_yX2_in wMX2_98 wS_yX2_in (rest := []) rfl (by decide) (by decide) ⟨by decide, by decide⟩ dX2_isGood_406 (x_pure (r := .int (bI (decide (0 ≤ (sp_nu (t i) 0) ∧ (sp_nu (t i) 0) ≤ 3)))) (st1 := []) ?_)
    refine xb (fun _ => lv_if_eq (tgt := 444) hx hb dX2_isGood_409 (by decide)) (fun c_409 => ?_) (fun c_409 => ?_)
    · have c_409 := bI_f c_409
      refine xl (fun _ => lv_iconst (v := 0) hx hb dX2_isGood_444 (by decide)) ?_
      exact x_zret hx hb hr hlocks hs0 hbs (by decide) (by decide) (by decide) dX2_isGood_445 (pu0 (bF cB_t (fun y => by
        have z := good_5.mp y
        exact of_decide_eq_false c_409 z.1.1)))
    · have c_409 := bI_t c_409
      refine xl (fun _ => lv_iload hx hb dX2_isGood_412 (lv_at hl 2 rfl)) ?_
      refine xl (fun _ => lv_iconst (v := 1) hx hb dX2_isGood_414 (by decide)) ?_
      refine xb (fun _ => lv_icmp_lt (tgt := 444) hx hb dX2_isGood_415 (by decide)) (fun c_415 => ?_) (fun c_415 => ?_)
      · refine xl (fun _ => lv_iconst (v := 0) hx hb dX2_isGood_444 (by decide)) ?_
        exact x_zret hx hb hr hlocks hs0 hbs (by decide) (by decide) (by decide) dX2_isGood_445 (pu0 (bF cB_t (fun y => by
          have z := good_5.mp y
          exact z.1.2.1 c_415)))
      · refine xl (fun _ => lv_iload hx hb dX2_isGood_418 (lv_at hl 1 rfl)) ?_
        refine xl (fun _ => lv_iconst (v := 0) hx hb dX2_isGood_420 (by decide)) ?_
        refine xl (fun _ => lv_bipush (v := 63) hx hb dX2_isGood_421 (by decide)) ?_
        refine x_callS E hl (c_X2_in l G H (sp_nu (t i) 2) 0 63) xm_yX2_in wMX2_98 wS_yX2_in (rest := []) rfl (by decide) (by decide) ⟨by decide, by decide⟩ dX2_isGood_423 (x_pure (r := .int (bI (decide (0 ≤ (sp_nu (t i) 2) ∧ (sp_nu (t i) 2) ≤ 63)))) (st1 := []) ?_)
        refine xb (fun _ => lv_if_eq (tgt := 444) hx hb dX2_isGood_426 (by decide)) (fun c_426 => ?_) (fun c_426 => ?_)
        · have c_426 := bI_f c_426
          refine xl (fun _ => lv_iconst (v := 0) hx hb dX2_isGood_444 (by decide)) ?_
          exact x_zret hx hb hr hlocks hs0 hbs (by decide) (by decide) (by decide) dX2_isGood_445 (pu0 (bF cB_t (fun y => by
            have z := good_5.mp y
            exact of_decide_eq_false c_426 z.1.2.2.1)))
        · have c_426 := bI_t c_426
          refine xl (fun _ => lv_aload_n hx hb dX2_isGood_429 rfl (lv_at hl 5 rfl)) ?_
          refine xl (fun _ => lv_iload_n hx hb dX2_isGood_430 rfl (lv_at hl 6 rfl)) ?_
          refine xl (fun _ => lv_iconst (v := 3) hx hb dX2_isGood_431 (by decide)) ?_
          refine xl (fun _ => lv_bipush (v := 8) hx hb dX2_isGood_432 (by decide)) ?_
          have hb_3_8 : cB (∀ x, 3 ≤ x → x < 8 → e8 (t i) x = 0) = true ↔ (sp_nu (t i) 3 = 0 ∧ sp_pa (t i) 0 = none ∧ sp_pa (t i) 1 = none ∧ sp_pa (t i) 2 = none ∧ sp_pa (t i) 3 = none) := by
            rw [cB_t]
            constructor
            · intro z
              exact ⟨(EZ 3 (by omega)).mp (z 3 (by omega) (by omega)), (PZ 0 (by omega)).mp (z 4 (by omega) (by omega)), (PZ 1 (by omega)).mp (z 5 (by omega) (by omega)), (PZ 2 (by omega)).mp (z 6 (by omega) (by omega)), (PZ 3 (by omega)).mp (z 7 (by omega) (by omega))⟩
            · intro z x h1 h2
              rcases (show x = 3 ∨ x = 4 ∨ x = 5 ∨ x = 6 ∨ x = 7 by omega) with rfl | rfl | rfl | rfl | rfl
              · exact (EZ 3 (by omega)).mpr (z.1)
              · exact (PZ 0 (by omega)).mpr (z.2.1)
              · exact (PZ 1 (by omega)).mpr (z.2.2.1)
              · exact (PZ 2 (by omega)).mpr (z.2.2.2.1)
              · exact (PZ 3 (by omega)).mpr (z.2.2.2.2)
          refine x_callV E hl (c_X2_isBare l G H mb n so on tw th ce gi kn li re sec hM t rg hR i hi 3 8 (by omega) (by omega) (cB (∀ x, 3 ≤ x → x < 8 → e8 (t i) x = 0)) cB_t) xm_yX2_isBare wMX2_102 wI_yX2_isBare wT_yX2_isBare (ci := 2) rfl rfl hX (rest := []) rfl (by decide) (by decide) ⟨by decide, by decide⟩ dX2_isGood_434 (x_pure (r := .int (bI (cB (∀ x, 3 ≤ x → x < 8 → e8 (t i) x = 0)))) (st1 := []) ?_)
          refine xb (fun _ => lv_if_eq (tgt := 444) hx hb dX2_isGood_437 (by decide)) (fun c_437 => ?_) (fun c_437 => ?_)
          · have c_437 := bI_f c_437
            refine xl (fun _ => lv_iconst (v := 0) hx hb dX2_isGood_444 (by decide)) ?_
            exact x_zret hx hb hr hlocks hs0 hbs (by decide) (by decide) (by decide) dX2_isGood_445 (pu0 (bF cB_t (fun y => by
              have z := good_5.mp y
              rw [hb_3_8.mpr ⟨z.1.2.2.2, z.2.1, z.2.2.1, z.2.2.2.1, z.2.2.2.2⟩] at c_437; cases c_437)))
          · have c_437 := bI_t c_437
            refine xl (fun _ => lv_iconst (v := 1) hx hb dX2_isGood_440 (by decide)) ?_
            refine xl (fun _ => lv_goto (tgt := 445) hx hb dX2_isGood_441 (by decide)) ?_
            exact x_zret hx hb hr hlocks hs0 hbs (by decide) (by decide) (by decide) dX2_isGood_445 (pu1 (cB_t.mpr (good_5.mpr ⟨⟨of_decide_eq_true c_409, c_415, of_decide_eq_true c_426, (hb_3_8.mp c_437).1⟩, (hb_3_8.mp c_437).2.1, (hb_3_8.mp c_437).2.2.1, (hb_3_8.mp c_437).2.2.2.1, (hb_3_8.mp c_437).2.2.2.2⟩)))
  · refine xl (fun _ => lv_tableOut (tgt := 446) hx hb dX2_isGood_48 (by decide) (by decide)) ?_
    refine xl (fun _ => lv_iload_n hx hb dX2_isGood_446 rfl (lv_at hl 3 rfl)) ?_
    refine xl (fun _ => lv_iconst (v := 0) hx hb dX2_isGood_447 (by decide)) ?_
    refine xl (fun _ => lv_iconst (v := 3) hx hb dX2_isGood_448 (by decide)) ?_
    refine x_callS E hl (c_X2_in l G H (sp_nu (t i) 0) 0 3) xm_yX2_in wMX2_98 wS_yX2_in (rest := []) rfl (by decide) (by decide) ⟨by decide, by decide⟩ dX2_isGood_449 (x_pure (r := .int (bI (decide (0 ≤ (sp_nu (t i) 0) ∧ (sp_nu (t i) 0) ≤ 3)))) (st1 := []) ?_)
    refine xb (fun _ => lv_if_eq (tgt := 498) hx hb dX2_isGood_452 (by decide)) (fun c_452 => ?_) (fun c_452 => ?_)
    · have c_452 := bI_f c_452
      refine xl (fun _ => lv_iconst (v := 0) hx hb dX2_isGood_498 (by decide)) ?_
      exact x_zret hx hb hr hlocks hs0 hbs (by decide) (by decide) (by decide) dX2_isGood_499 (pu0 (bF cB_t (fun y => by
        have z := good_6.mp y
        exact of_decide_eq_false c_452 z.1.1)))
    · have c_452 := bI_t c_452
      refine xl (fun _ => lv_iload hx hb dX2_isGood_455 (lv_at hl 2 rfl)) ?_
      refine xl (fun _ => lv_iconst (v := 0) hx hb dX2_isGood_457 (by decide)) ?_
      refine xl (fun _ => lv_iconst (v := 5) hx hb dX2_isGood_458 (by decide)) ?_
      refine x_callS E hl (c_X2_in l G H (sp_nu (t i) 1) 0 5) xm_yX2_in wMX2_98 wS_yX2_in (rest := []) rfl (by decide) (by decide) ⟨by decide, by decide⟩ dX2_isGood_459 (x_pure (r := .int (bI (decide (0 ≤ (sp_nu (t i) 1) ∧ (sp_nu (t i) 1) ≤ 5)))) (st1 := []) ?_)
      refine xb (fun _ => lv_if_eq (tgt := 498) hx hb dX2_isGood_462 (by decide)) (fun c_462 => ?_) (fun c_462 => ?_)
      · have c_462 := bI_f c_462
        refine xl (fun _ => lv_iconst (v := 0) hx hb dX2_isGood_498 (by decide)) ?_
        exact x_zret hx hb hr hlocks hs0 hbs (by decide) (by decide) (by decide) dX2_isGood_499 (pu0 (bF cB_t (fun y => by
          have z := good_6.mp y
          exact of_decide_eq_false c_462 z.1.2.1)))
      · have c_462 := bI_t c_462
        refine xl (fun _ => lv_iload hx hb dX2_isGood_465 (lv_at hl 1 rfl)) ?_
        refine xl (fun _ => lv_iconst (v := 1) hx hb dX2_isGood_467 (by decide)) ?_
        refine xb (fun _ => lv_icmp_lt (tgt := 498) hx hb dX2_isGood_468 (by decide)) (fun c_468 => ?_) (fun c_468 => ?_)
        · refine xl (fun _ => lv_iconst (v := 0) hx hb dX2_isGood_498 (by decide)) ?_
          exact x_zret hx hb hr hlocks hs0 hbs (by decide) (by decide) (by decide) dX2_isGood_499 (pu0 (bF cB_t (fun y => by
            have z := good_6.mp y
            exact z.1.2.2.1 c_468)))
        · refine xl (fun _ => lv_iload hx hb dX2_isGood_471 (lv_at hl 0 rfl)) ?_
          refine xl (fun _ => lv_iconst (v := 0) hx hb dX2_isGood_473 (by decide)) ?_
          refine xl (fun _ => lv_sipush (v := 9999) hx hb dX2_isGood_474 (by decide)) ?_
          refine x_callS E hl (c_X2_in l G H (sp_nu (t i) 3) 0 9999) xm_yX2_in wMX2_98 wS_yX2_in (rest := []) rfl (by decide) (by decide) ⟨by decide, by decide⟩ dX2_isGood_477 (x_pure (r := .int (bI (decide (0 ≤ (sp_nu (t i) 3) ∧ (sp_nu (t i) 3) ≤ 9999)))) (st1 := []) ?_)
          refine xb (fun _ => lv_if_eq (tgt := 498) hx hb dX2_isGood_480 (by decide)) (fun c_480 => ?_) (fun c_480 => ?_)
          · have c_480 := bI_f c_480
            refine xl (fun _ => lv_iconst (v := 0) hx hb dX2_isGood_498 (by decide)) ?_
            exact x_zret hx hb hr hlocks hs0 hbs (by decide) (by decide) (by decide) dX2_isGood_499 (pu0 (bF cB_t (fun y => by
              have z := good_6.mp y
              exact of_decide_eq_false c_480 z.1.2.2.2)))
          · have c_480 := bI_t c_480
            refine xl (fun _ => lv_aload_n hx hb dX2_isGood_483 rfl (lv_at hl 5 rfl)) ?_
            refine xl (fun _ => lv_iload_n hx hb dX2_isGood_484 rfl (lv_at hl 6 rfl)) ?_
            refine xl (fun _ => lv_iconst (v := 4) hx hb dX2_isGood_485 (by decide)) ?_
            refine xl (fun _ => lv_bipush (v := 8) hx hb dX2_isGood_486 (by decide)) ?_
            have hb_4_8 : cB (∀ x, 4 ≤ x → x < 8 → e8 (t i) x = 0) = true ↔ (sp_pa (t i) 0 = none ∧ sp_pa (t i) 1 = none ∧ sp_pa (t i) 2 = none ∧ sp_pa (t i) 3 = none) := by
              rw [cB_t]
              constructor
              · intro z
                exact ⟨(PZ 0 (by omega)).mp (z 4 (by omega) (by omega)), (PZ 1 (by omega)).mp (z 5 (by omega) (by omega)), (PZ 2 (by omega)).mp (z 6 (by omega) (by omega)), (PZ 3 (by omega)).mp (z 7 (by omega) (by omega))⟩
              · intro z x h1 h2
                rcases (show x = 4 ∨ x = 5 ∨ x = 6 ∨ x = 7 by omega) with rfl | rfl | rfl | rfl
                · exact (PZ 0 (by omega)).mpr (z.1)
                · exact (PZ 1 (by omega)).mpr (z.2.1)
                · exact (PZ 2 (by omega)).mpr (z.2.2.1)
                · exact (PZ 3 (by omega)).mpr (z.2.2.2)
            refine x_callV E hl (c_X2_isBare l G H mb n so on tw th ce gi kn li re sec hM t rg hR i hi 4 8 (by omega) (by omega) (cB (∀ x, 4 ≤ x → x < 8 → e8 (t i) x = 0)) cB_t) xm_yX2_isBare wMX2_102 wI_yX2_isBare wT_yX2_isBare (ci := 2) rfl rfl hX (rest := []) rfl (by decide) (by decide) ⟨by decide, by decide⟩ dX2_isGood_488 (x_pure (r := .int (bI (cB (∀ x, 4 ≤ x → x < 8 → e8 (t i) x = 0)))) (st1 := []) ?_)
            refine xb (fun _ => lv_if_eq (tgt := 498) hx hb dX2_isGood_491 (by decide)) (fun c_491 => ?_) (fun c_491 => ?_)
            · have c_491 := bI_f c_491
              refine xl (fun _ => lv_iconst (v := 0) hx hb dX2_isGood_498 (by decide)) ?_
              exact x_zret hx hb hr hlocks hs0 hbs (by decide) (by decide) (by decide) dX2_isGood_499 (pu0 (bF cB_t (fun y => by
                have z := good_6.mp y
                rw [hb_4_8.mpr ⟨z.2.1, z.2.2.1, z.2.2.2.1, z.2.2.2.2⟩] at c_491; cases c_491)))
            · have c_491 := bI_t c_491
              refine xl (fun _ => lv_iconst (v := 1) hx hb dX2_isGood_494 (by decide)) ?_
              refine xl (fun _ => lv_goto (tgt := 499) hx hb dX2_isGood_495 (by decide)) ?_
              exact x_zret hx hb hr hlocks hs0 hbs (by decide) (by decide) (by decide) dX2_isGood_499 (pu1 (cB_t.mpr (good_6.mpr ⟨⟨of_decide_eq_true c_452, of_decide_eq_true c_462, c_468, of_decide_eq_true c_480⟩, (hb_4_8.mp c_491).1, (hb_4_8.mp c_491).2.1, (hb_4_8.mp c_491).2.2.1, (hb_4_8.mp c_491).2.2.2⟩)))

set_option maxHeartbeats 4000000 in
set_option maxRecDepth 100000 in
theorem c_X2_good (l : Launch) (G : sg_G) (H : Heap) (mb n : Nat) (t : Nat → sp_T) (rg : Nat → Option Nat) (g : Nat → Prop) (hH : sm_H G mb n t rg g H) (x : Int32) : xC l G yX2_good cX2_good 2 (some FieldType.int) 3 0 0 [.ref mb, .int x] H (xPu (.int (op_good (n, t, rg, g) x)) H) := by
  refine xC.start (by decide) (Nat.le_of_ble_eq_true rfl) ?_
  intro p e s m args below meth c ls E hnm hs0 hl
  obtain ⟨hx, hb, hml, hown, hts, hr, hlocks, hK, hbs⟩ := id E
  have hl : lv_has ls 2 [(0, .ref mb), (1, .int x)] := hl
  obtain ⟨so, on, tw, th, ce, kb, li, re, ns, hM, hR, hQ, hns, hg⟩ := id hH
  obtain ⟨hm0, hmn, hX, h1, h2, h3, h4, h5, h6, h7, h8, h9⟩ := id hM
  obtain ⟨hRt, hRr, hRg, hRw⟩ := id hR
  have hF : sm_F mb H H := sm_F.rf
  refine xl (fun _ => lv_aload_n hx hb dX2_good_0 rfl (lv_at hl 0 rfl)) ?_
  refine xl (fun _ => lv_iload_n hx hb dX2_good_1 rfl (lv_at hl 1 rfl)) ?_
  refine xl (fun _ => lv_bipush (v := 7) hx hb dX2_good_2 (by decide)) ?_
  refine x_callV E hl (c_X2_has l G H mb n _ _ _ _ _ _ _ _ _ _ ⟨hm0, hmn, hX, h1, h2, h3, h4, h5, h6, h7, h8, h9⟩ t rg hR x 7) xm_yX2_has wMX2_60 wI_yX2_has wT_yX2_has (ci := 2) rfl rfl hX (rest := []) rfl (by decide) (by decide) ⟨by decide, by decide⟩ dX2_good_4 (x_pure (r := .int (bI (sp_rs t rg x 7).isSome)) (st1 := []) ?_)
  refine xb (fun _ => lv_if_ne (tgt := 14) hx hb dX2_good_7 (by decide)) (fun c_7 => ?_) (fun c_7 => ?_)
  · have c_7 := bI_t c_7
    obtain ⟨i, hs_7⟩ := isS c_7
    obtain ⟨j_x, hj_x, he_x, hg_x⟩ := sp_rg_s (sp_rs_of hs_7).1
    have hi_i : i < n := hRg j_x hj_x i hg_x
    have hr_x : re j_x = nI (i + 1) := by rw [hRr j_x hj_x, hg_x]; rfl
    refine xl (fun _ => lv_aload_n hx hb dX2_good_14 rfl (lv_at hl 0 rfl)) ?_
    refine xl (fun _ => lv_aload_n hx hb dX2_good_15 rfl (lv_at hl 0 rfl)) ?_
    refine x_get (ci := 2) hx hb hts hown hK wiX2 hX rfl 9 (by decide) wFX2_35 rfl rfl dX2_good_16 ?_
    refine xl (fun _ => lv_iload_n hx hb dX2_good_19 rfl (lv_at hl 1 rfl)) ?_
    refine x_iald hx hb hK h9 j_x (he_x) (by have := hj_x; omega) (by decide) dX2_good_20 ?_
    rw [show (re j_x) = (nI (i + 1)) from hr_x]
    refine xl (fun _ => lv_iconst (v := 1) hx hb dX2_good_21 (by decide)) ?_
    refine xl (fun _ => lv_isub hx hb dX2_good_22) ?_
    rw [show ((nI (i + 1)) - 1) = (nI i) from nI_pred i]
    have h77 := (sp_rs_of hs_7).2
    obtain ⟨kk, hkk, hla⟩ := sp_wf7 (hRw i hi_i) h77
    have hcl : (sp_la (t i)).toNatClampNeg - 1 = kk := by rw [hla, nI_clamp (by omega)]; omega
    refine x_callV E hl (c_X2_isGood l G H mb n _ _ _ _ _ _ _ _ _ _ ⟨hm0, hmn, hX, h1, h2, h3, h4, h5, h6, h7, h8, h9⟩ t rg hR i hi_i h77 kk hkk hla) xm_yX2_isGood wMX2_108 wI_yX2_isGood wT_yX2_isGood (ci := 2) rfl rfl hX (rest := []) rfl (by decide) (by decide) ⟨by decide, by decide⟩ dX2_good_23 (x_pure (r := .int (bI (cB (sp_gn (t i) kk ∧ sp_gt t (t i) kk)))) (st1 := []) ?_)
    refine xb (fun _ => lv_if_eq (tgt := 33) hx hb dX2_good_26 (by decide)) (fun c_26 => ?_) (fun c_26 => ?_)
    · have c_26 := bI_f c_26
      refine xl (fun _ => lv_iconst (v := 0) hx hb dX2_good_33 (by decide)) ?_
      exact x_iret hx hb hr hlocks hs0 hbs (by decide) (by decide) dX2_good_34 (⟨by simp only [op_good, hs_7, hcl]; rw [c_26]; rfl, rfl⟩)
    · have c_26 := bI_t c_26
      refine xl (fun _ => lv_iconst (v := 1) hx hb dX2_good_29 (by decide)) ?_
      refine xl (fun _ => lv_goto (tgt := 34) hx hb dX2_good_30 (by decide)) ?_
      exact x_iret hx hb hr hlocks hs0 hbs (by decide) (by decide) dX2_good_34 (⟨by simp only [op_good, hs_7, hcl]; rw [c_26]; rfl, rfl⟩)
  · have c_7 := bI_f c_7
    have hs_7 := isN c_7
    refine xl (fun _ => lv_iconst (v := (-1)) hx hb dX2_good_10 (by decide)) ?_
    refine xl (fun _ => lv_goto (tgt := 34) hx hb dX2_good_11 (by decide)) ?_
    exact x_iret hx hb hr hlocks hs0 hbs (by decide) (by decide) dX2_good_34 (⟨by simp only [op_good, hs_7], rfl⟩)

set_option maxHeartbeats 4000000 in
set_option maxRecDepth 100000 in
theorem c_X2_init (l : Launch) (G : sg_G) (H : Heap) (mb : Nat) (hX : ob_ G H mb 2 [.int 0, .null, .null, .null, .null, .null, .null, .null, .null, .null, .int 0]) (hsz : H.size = mb + 1) (hm0 : sg_B G ≤ mb) : xC l G yX2_init cX2_init 1 none 1 9 9672 [.ref mb] H (fun v H' => v = none ∧ H'.size = mb + 10 ∧ sm_X G mb 0 (fun _ => 0) (fun _ => 0) (fun _ => 0) (fun _ => 0) (fun _ => 0) (fun _ => 0) (fun _ => 0) (fun _ => 0) (fun _ => 0) 0 H' ∧ ∀ q, q < mb → H'[q]? = H[q]?) := by
  refine xC.start (by decide) (Nat.le_of_ble_eq_true rfl) ?_
  intro p e s m args below meth c ls E hnm hs0 hl
  obtain ⟨hx, hb, hml, hown, hts, hr, hlocks, hK, hbs⟩ := id E
  have hl : lv_has ls 1 [(0, .ref mb)] := hl
  have hszp := hsz
  have hF : ∀ q, q < mb → H[q]? = H[q]? := fun _ _ => rfl
  refine xl (fun _ => lv_aload_n hx hb dX2_init_0 rfl (lv_at hl 0 rfl)) ?_
  refine xl (fun _ => W.objInit hx hb hown (hts _ wMX2_1) (hts _ wI_yO) (hts _ wC_yO) rfl (by rw [hml]; exact hl.1) rfl dX2_init_1 (Nat.le_of_ble_eq_true rfl) (Nat.le_of_ble_eq_true rfl)) ?_
  refine xg (g2 := F0 m 4 ls []) rfl ?_
  refine xl (fun _ => lv_aload_n hx hb dX2_init_4 rfl (lv_at hl 0 rfl)) ?_
  refine xl (fun _ => lv_sipush (v := 640) hx hb dX2_init_5 (by decide)) ?_
  refine x_newi (N := 640) hx hb hts hK wA_int (by decide) (by decide) (by decide) (by decide) (by decide) dX2_init_8 (fun H_1 ho_2 hz_3 hq_4 => ?_)
  have k_5 := va_at.kept (H1 := H_1) (hX) (hq_4 _ (va_at.lt (hX)))
  have hA1 : ia_ G H_1 (mb + 1) 640 (fun _ => 0) := by rw [← hsz]; exact ho_2
  have hsz : H_1.size = mb + 2 := by omega
  have hF : ∀ q, q < mb → H_1[q]? = H[q]? := fun q h => (hq_4 q (by omega)).trans (hF q h)
  refine xg (g2 := F0 m 10 ls [.ref (mb + 1), .ref mb]) (by rw [hszp]) ?_
  refine x_putF (ci := 2) hx hb hts hown hK wiX2 tyX2 tyX2_ok nmX2 k_5 rfl 1 (by decide) wFX2_9 rfl rfl hnm rfl (rfl) (rfl) (by simp) (hm0) dX2_init_10 (fun H_6 ho_7 hz_8 hq_9 => ?_)
  have ho_7 : ob_ G H_6 mb 2 [.int 0, .ref (mb + 1), .null, .null, .null, .null, .null, .null, .null, .null, .int 0] := ho_7
  have k_10 := va_at.kept (H1 := H_6) (hA1) (hq_9 _ (by omega))
  have hszp : H_6.size = mb + 2 := hz_8.trans hsz
  have hsz := hszp
  have hF : ∀ q, q < mb → H_6[q]? = H[q]? := fun q h => (hq_9 q (by omega)).trans (hF q h)
  refine xl (fun _ => lv_aload_n hx hb dX2_init_13 rfl (lv_at hl 0 rfl)) ?_
  refine xl (fun _ => lv_sipush (v := 640) hx hb dX2_init_14 (by decide)) ?_
  refine x_newi (N := 640) hx hb hts hK wA_int (by decide) (by decide) (by decide) (by decide) (by decide) dX2_init_17 (fun H_11 ho_12 hz_13 hq_14 => ?_)
  have k_15 := va_at.kept (H1 := H_11) (ho_7) (hq_14 _ (va_at.lt (ho_7)))
  have k_16 := va_at.kept (H1 := H_11) (k_10) (hq_14 _ (va_at.lt (k_10)))
  have hA2 : ia_ G H_11 (mb + 2) 640 (fun _ => 0) := by rw [← hsz]; exact ho_12
  have hsz : H_11.size = mb + 3 := by omega
  have hF : ∀ q, q < mb → H_11[q]? = H[q]? := fun q h => (hq_14 q (by omega)).trans (hF q h)
  refine xg (g2 := F0 m 19 ls [.ref (mb + 2), .ref mb]) (by rw [hszp]) ?_
  refine x_putF (ci := 2) hx hb hts hown hK wiX2 tyX2 tyX2_ok nmX2 k_15 rfl 2 (by decide) wFX2_13 rfl rfl hnm rfl (rfl) (rfl) (by simp) (hm0) dX2_init_19 (fun H_17 ho_18 hz_19 hq_20 => ?_)
  have ho_18 : ob_ G H_17 mb 2 [.int 0, .ref (mb + 1), .ref (mb + 2), .null, .null, .null, .null, .null, .null, .null, .int 0] := ho_18
  have k_21 := va_at.kept (H1 := H_17) (k_16) (hq_20 _ (by omega))
  have k_22 := va_at.kept (H1 := H_17) (hA2) (hq_20 _ (by omega))
  have hszp : H_17.size = mb + 3 := hz_19.trans hsz
  have hsz := hszp
  have hF : ∀ q, q < mb → H_17[q]? = H[q]? := fun q h => (hq_20 q (by omega)).trans (hF q h)
  refine xl (fun _ => lv_aload_n hx hb dX2_init_22 rfl (lv_at hl 0 rfl)) ?_
  refine xl (fun _ => lv_sipush (v := 640) hx hb dX2_init_23 (by decide)) ?_
  refine x_newi (N := 640) hx hb hts hK wA_int (by decide) (by decide) (by decide) (by decide) (by decide) dX2_init_26 (fun H_23 ho_24 hz_25 hq_26 => ?_)
  have k_27 := va_at.kept (H1 := H_23) (ho_18) (hq_26 _ (va_at.lt (ho_18)))
  have k_28 := va_at.kept (H1 := H_23) (k_21) (hq_26 _ (va_at.lt (k_21)))
  have k_29 := va_at.kept (H1 := H_23) (k_22) (hq_26 _ (va_at.lt (k_22)))
  have hA3 : ia_ G H_23 (mb + 3) 640 (fun _ => 0) := by rw [← hsz]; exact ho_24
  have hsz : H_23.size = mb + 4 := by omega
  have hF : ∀ q, q < mb → H_23[q]? = H[q]? := fun q h => (hq_26 q (by omega)).trans (hF q h)
  refine xg (g2 := F0 m 28 ls [.ref (mb + 3), .ref mb]) (by rw [hszp]) ?_
  refine x_putF (ci := 2) hx hb hts hown hK wiX2 tyX2 tyX2_ok nmX2 k_27 rfl 3 (by decide) wFX2_16 rfl rfl hnm rfl (rfl) (rfl) (by simp) (hm0) dX2_init_28 (fun H_30 ho_31 hz_32 hq_33 => ?_)
  have ho_31 : ob_ G H_30 mb 2 [.int 0, .ref (mb + 1), .ref (mb + 2), .ref (mb + 3), .null, .null, .null, .null, .null, .null, .int 0] := ho_31
  have k_34 := va_at.kept (H1 := H_30) (k_28) (hq_33 _ (by omega))
  have k_35 := va_at.kept (H1 := H_30) (k_29) (hq_33 _ (by omega))
  have k_36 := va_at.kept (H1 := H_30) (hA3) (hq_33 _ (by omega))
  have hszp : H_30.size = mb + 4 := hz_32.trans hsz
  have hsz := hszp
  have hF : ∀ q, q < mb → H_30[q]? = H[q]? := fun q h => (hq_33 q (by omega)).trans (hF q h)
  refine xl (fun _ => lv_aload_n hx hb dX2_init_31 rfl (lv_at hl 0 rfl)) ?_
  refine xl (fun _ => lv_sipush (v := 640) hx hb dX2_init_32 (by decide)) ?_
  refine x_newi (N := 640) hx hb hts hK wA_int (by decide) (by decide) (by decide) (by decide) (by decide) dX2_init_35 (fun H_37 ho_38 hz_39 hq_40 => ?_)
  have k_41 := va_at.kept (H1 := H_37) (ho_31) (hq_40 _ (va_at.lt (ho_31)))
  have k_42 := va_at.kept (H1 := H_37) (k_34) (hq_40 _ (va_at.lt (k_34)))
  have k_43 := va_at.kept (H1 := H_37) (k_35) (hq_40 _ (va_at.lt (k_35)))
  have k_44 := va_at.kept (H1 := H_37) (k_36) (hq_40 _ (va_at.lt (k_36)))
  have hA4 : ia_ G H_37 (mb + 4) 640 (fun _ => 0) := by rw [← hsz]; exact ho_38
  have hsz : H_37.size = mb + 5 := by omega
  have hF : ∀ q, q < mb → H_37[q]? = H[q]? := fun q h => (hq_40 q (by omega)).trans (hF q h)
  refine xg (g2 := F0 m 37 ls [.ref (mb + 4), .ref mb]) (by rw [hszp]) ?_
  refine x_putF (ci := 2) hx hb hts hown hK wiX2 tyX2 tyX2_ok nmX2 k_41 rfl 4 (by decide) wFX2_19 rfl rfl hnm rfl (rfl) (rfl) (by simp) (hm0) dX2_init_37 (fun H_45 ho_46 hz_47 hq_48 => ?_)
  have ho_46 : ob_ G H_45 mb 2 [.int 0, .ref (mb + 1), .ref (mb + 2), .ref (mb + 3), .ref (mb + 4), .null, .null, .null, .null, .null, .int 0] := ho_46
  have k_49 := va_at.kept (H1 := H_45) (k_42) (hq_48 _ (by omega))
  have k_50 := va_at.kept (H1 := H_45) (k_43) (hq_48 _ (by omega))
  have k_51 := va_at.kept (H1 := H_45) (k_44) (hq_48 _ (by omega))
  have k_52 := va_at.kept (H1 := H_45) (hA4) (hq_48 _ (by omega))
  have hszp : H_45.size = mb + 5 := hz_47.trans hsz
  have hsz := hszp
  have hF : ∀ q, q < mb → H_45[q]? = H[q]? := fun q h => (hq_48 q (by omega)).trans (hF q h)
  refine xl (fun _ => lv_aload_n hx hb dX2_init_40 rfl (lv_at hl 0 rfl)) ?_
  refine xl (fun _ => lv_sipush (v := 5120) hx hb dX2_init_41 (by decide)) ?_
  refine x_newi (N := 5120) hx hb hts hK wA_int (by decide) (by decide) (by decide) (by decide) (by decide) dX2_init_44 (fun H_53 ho_54 hz_55 hq_56 => ?_)
  have k_57 := va_at.kept (H1 := H_53) (ho_46) (hq_56 _ (va_at.lt (ho_46)))
  have k_58 := va_at.kept (H1 := H_53) (k_49) (hq_56 _ (va_at.lt (k_49)))
  have k_59 := va_at.kept (H1 := H_53) (k_50) (hq_56 _ (va_at.lt (k_50)))
  have k_60 := va_at.kept (H1 := H_53) (k_51) (hq_56 _ (va_at.lt (k_51)))
  have k_61 := va_at.kept (H1 := H_53) (k_52) (hq_56 _ (va_at.lt (k_52)))
  have hA5 : ia_ G H_53 (mb + 5) 5120 (fun _ => 0) := by rw [← hsz]; exact ho_54
  have hsz : H_53.size = mb + 6 := by omega
  have hF : ∀ q, q < mb → H_53[q]? = H[q]? := fun q h => (hq_56 q (by omega)).trans (hF q h)
  refine xg (g2 := F0 m 46 ls [.ref (mb + 5), .ref mb]) (by rw [hszp]) ?_
  refine x_putF (ci := 2) hx hb hts hown hK wiX2 tyX2 tyX2_ok nmX2 k_57 rfl 5 (by decide) wFX2_22 rfl rfl hnm rfl (rfl) (rfl) (by simp) (hm0) dX2_init_46 (fun H_62 ho_63 hz_64 hq_65 => ?_)
  have ho_63 : ob_ G H_62 mb 2 [.int 0, .ref (mb + 1), .ref (mb + 2), .ref (mb + 3), .ref (mb + 4), .ref (mb + 5), .null, .null, .null, .null, .int 0] := ho_63
  have k_66 := va_at.kept (H1 := H_62) (k_58) (hq_65 _ (by omega))
  have k_67 := va_at.kept (H1 := H_62) (k_59) (hq_65 _ (by omega))
  have k_68 := va_at.kept (H1 := H_62) (k_60) (hq_65 _ (by omega))
  have k_69 := va_at.kept (H1 := H_62) (k_61) (hq_65 _ (by omega))
  have k_70 := va_at.kept (H1 := H_62) (hA5) (hq_65 _ (by omega))
  have hszp : H_62.size = mb + 6 := hz_64.trans hsz
  have hsz := hszp
  have hF : ∀ q, q < mb → H_62[q]? = H[q]? := fun q h => (hq_65 q (by omega)).trans (hF q h)
  refine xl (fun _ => lv_aload_n hx hb dX2_init_49 rfl (lv_at hl 0 rfl)) ?_
  refine xl (fun _ => lv_sipush (v := 640) hx hb dX2_init_50 (by decide)) ?_
  refine x_newz (N := 640) hx hb hts hK wA_boolean (by decide) (by decide) (by decide) (by decide) (by decide) dX2_init_53 (fun H_71 ho_72 hz_73 hq_74 => ?_)
  have k_75 := va_at.kept (H1 := H_71) (ho_63) (hq_74 _ (va_at.lt (ho_63)))
  have k_76 := va_at.kept (H1 := H_71) (k_66) (hq_74 _ (va_at.lt (k_66)))
  have k_77 := va_at.kept (H1 := H_71) (k_67) (hq_74 _ (va_at.lt (k_67)))
  have k_78 := va_at.kept (H1 := H_71) (k_68) (hq_74 _ (va_at.lt (k_68)))
  have k_79 := va_at.kept (H1 := H_71) (k_69) (hq_74 _ (va_at.lt (k_69)))
  have k_80 := va_at.kept (H1 := H_71) (k_70) (hq_74 _ (va_at.lt (k_70)))
  have hA6 : za_ G H_71 (mb + 6) 640 (fun _ => 0) := by rw [← hsz]; exact ho_72
  have hsz : H_71.size = mb + 7 := by omega
  have hF : ∀ q, q < mb → H_71[q]? = H[q]? := fun q h => (hq_74 q (by omega)).trans (hF q h)
  refine xg (g2 := F0 m 55 ls [.ref (mb + 6), .ref mb]) (by rw [hszp]) ?_
  refine x_putF (ci := 2) hx hb hts hown hK wiX2 tyX2 tyX2_ok nmX2 k_75 rfl 6 (by decide) wFX2_25 rfl rfl hnm rfl (rfl) (rfl) (by simp) (hm0) dX2_init_55 (fun H_81 ho_82 hz_83 hq_84 => ?_)
  have ho_82 : ob_ G H_81 mb 2 [.int 0, .ref (mb + 1), .ref (mb + 2), .ref (mb + 3), .ref (mb + 4), .ref (mb + 5), .ref (mb + 6), .null, .null, .null, .int 0] := ho_82
  have k_85 := va_at.kept (H1 := H_81) (k_76) (hq_84 _ (by omega))
  have k_86 := va_at.kept (H1 := H_81) (k_77) (hq_84 _ (by omega))
  have k_87 := va_at.kept (H1 := H_81) (k_78) (hq_84 _ (by omega))
  have k_88 := va_at.kept (H1 := H_81) (k_79) (hq_84 _ (by omega))
  have k_89 := va_at.kept (H1 := H_81) (k_80) (hq_84 _ (by omega))
  have k_90 := va_at.kept (H1 := H_81) (hA6) (hq_84 _ (by omega))
  have hszp : H_81.size = mb + 7 := hz_83.trans hsz
  have hsz := hszp
  have hF : ∀ q, q < mb → H_81[q]? = H[q]? := fun q h => (hq_84 q (by omega)).trans (hF q h)
  refine xl (fun _ => lv_aload_n hx hb dX2_init_58 rfl (lv_at hl 0 rfl)) ?_
  refine xl (fun _ => lv_sipush (v := 640) hx hb dX2_init_59 (by decide)) ?_
  refine x_newz (N := 640) hx hb hts hK wA_boolean (by decide) (by decide) (by decide) (by decide) (by decide) dX2_init_62 (fun H_91 ho_92 hz_93 hq_94 => ?_)
  have k_95 := va_at.kept (H1 := H_91) (ho_82) (hq_94 _ (va_at.lt (ho_82)))
  have k_96 := va_at.kept (H1 := H_91) (k_85) (hq_94 _ (va_at.lt (k_85)))
  have k_97 := va_at.kept (H1 := H_91) (k_86) (hq_94 _ (va_at.lt (k_86)))
  have k_98 := va_at.kept (H1 := H_91) (k_87) (hq_94 _ (va_at.lt (k_87)))
  have k_99 := va_at.kept (H1 := H_91) (k_88) (hq_94 _ (va_at.lt (k_88)))
  have k_100 := va_at.kept (H1 := H_91) (k_89) (hq_94 _ (va_at.lt (k_89)))
  have k_101 := va_at.kept (H1 := H_91) (k_90) (hq_94 _ (va_at.lt (k_90)))
  have hA7 : za_ G H_91 (mb + 7) 640 (fun _ => 0) := by rw [← hsz]; exact ho_92
  have hsz : H_91.size = mb + 8 := by omega
  have hF : ∀ q, q < mb → H_91[q]? = H[q]? := fun q h => (hq_94 q (by omega)).trans (hF q h)
  refine xg (g2 := F0 m 64 ls [.ref (mb + 7), .ref mb]) (by rw [hszp]) ?_
  refine x_putF (ci := 2) hx hb hts hown hK wiX2 tyX2 tyX2_ok nmX2 k_95 rfl 7 (by decide) wFX2_29 rfl rfl hnm rfl (rfl) (rfl) (by simp) (hm0) dX2_init_64 (fun H_102 ho_103 hz_104 hq_105 => ?_)
  have ho_103 : ob_ G H_102 mb 2 [.int 0, .ref (mb + 1), .ref (mb + 2), .ref (mb + 3), .ref (mb + 4), .ref (mb + 5), .ref (mb + 6), .ref (mb + 7), .null, .null, .int 0] := ho_103
  have k_106 := va_at.kept (H1 := H_102) (k_96) (hq_105 _ (by omega))
  have k_107 := va_at.kept (H1 := H_102) (k_97) (hq_105 _ (by omega))
  have k_108 := va_at.kept (H1 := H_102) (k_98) (hq_105 _ (by omega))
  have k_109 := va_at.kept (H1 := H_102) (k_99) (hq_105 _ (by omega))
  have k_110 := va_at.kept (H1 := H_102) (k_100) (hq_105 _ (by omega))
  have k_111 := va_at.kept (H1 := H_102) (k_101) (hq_105 _ (by omega))
  have k_112 := va_at.kept (H1 := H_102) (hA7) (hq_105 _ (by omega))
  have hszp : H_102.size = mb + 8 := hz_104.trans hsz
  have hsz := hszp
  have hF : ∀ q, q < mb → H_102[q]? = H[q]? := fun q h => (hq_105 q (by omega)).trans (hF q h)
  refine xl (fun _ => lv_aload_n hx hb dX2_init_67 rfl (lv_at hl 0 rfl)) ?_
  refine xl (fun _ => lv_bipush (v := 8) hx hb dX2_init_68 (by decide)) ?_
  refine x_newi (N := 8) hx hb hts hK wA_int (by decide) (by decide) (by decide) (by decide) (by decide) dX2_init_70 (fun H_113 ho_114 hz_115 hq_116 => ?_)
  have k_117 := va_at.kept (H1 := H_113) (ho_103) (hq_116 _ (va_at.lt (ho_103)))
  have k_118 := va_at.kept (H1 := H_113) (k_106) (hq_116 _ (va_at.lt (k_106)))
  have k_119 := va_at.kept (H1 := H_113) (k_107) (hq_116 _ (va_at.lt (k_107)))
  have k_120 := va_at.kept (H1 := H_113) (k_108) (hq_116 _ (va_at.lt (k_108)))
  have k_121 := va_at.kept (H1 := H_113) (k_109) (hq_116 _ (va_at.lt (k_109)))
  have k_122 := va_at.kept (H1 := H_113) (k_110) (hq_116 _ (va_at.lt (k_110)))
  have k_123 := va_at.kept (H1 := H_113) (k_111) (hq_116 _ (va_at.lt (k_111)))
  have k_124 := va_at.kept (H1 := H_113) (k_112) (hq_116 _ (va_at.lt (k_112)))
  have hA8 : ia_ G H_113 (mb + 8) 8 (fun _ => 0) := by rw [← hsz]; exact ho_114
  have hsz : H_113.size = mb + 9 := by omega
  have hF : ∀ q, q < mb → H_113[q]? = H[q]? := fun q h => (hq_116 q (by omega)).trans (hF q h)
  refine xg (g2 := F0 m 72 ls [.ref (mb + 8), .ref mb]) (by rw [hszp]) ?_
  refine x_putF (ci := 2) hx hb hts hown hK wiX2 tyX2 tyX2_ok nmX2 k_117 rfl 8 (by decide) wFX2_32 rfl rfl hnm rfl (rfl) (rfl) (by simp) (hm0) dX2_init_72 (fun H_125 ho_126 hz_127 hq_128 => ?_)
  have ho_126 : ob_ G H_125 mb 2 [.int 0, .ref (mb + 1), .ref (mb + 2), .ref (mb + 3), .ref (mb + 4), .ref (mb + 5), .ref (mb + 6), .ref (mb + 7), .ref (mb + 8), .null, .int 0] := ho_126
  have k_129 := va_at.kept (H1 := H_125) (k_118) (hq_128 _ (by omega))
  have k_130 := va_at.kept (H1 := H_125) (k_119) (hq_128 _ (by omega))
  have k_131 := va_at.kept (H1 := H_125) (k_120) (hq_128 _ (by omega))
  have k_132 := va_at.kept (H1 := H_125) (k_121) (hq_128 _ (by omega))
  have k_133 := va_at.kept (H1 := H_125) (k_122) (hq_128 _ (by omega))
  have k_134 := va_at.kept (H1 := H_125) (k_123) (hq_128 _ (by omega))
  have k_135 := va_at.kept (H1 := H_125) (k_124) (hq_128 _ (by omega))
  have k_136 := va_at.kept (H1 := H_125) (hA8) (hq_128 _ (by omega))
  have hszp : H_125.size = mb + 9 := hz_127.trans hsz
  have hsz := hszp
  have hF : ∀ q, q < mb → H_125[q]? = H[q]? := fun q h => (hq_128 q (by omega)).trans (hF q h)
  refine xl (fun _ => lv_aload_n hx hb dX2_init_75 rfl (lv_at hl 0 rfl)) ?_
  refine xl (fun _ => lv_bipush (v := 64) hx hb dX2_init_76 (by decide)) ?_
  refine x_newi (N := 64) hx hb hts hK wA_int (by decide) (by decide) (by decide) (by decide) (by decide) dX2_init_78 (fun H_137 ho_138 hz_139 hq_140 => ?_)
  have k_141 := va_at.kept (H1 := H_137) (ho_126) (hq_140 _ (va_at.lt (ho_126)))
  have k_142 := va_at.kept (H1 := H_137) (k_129) (hq_140 _ (va_at.lt (k_129)))
  have k_143 := va_at.kept (H1 := H_137) (k_130) (hq_140 _ (va_at.lt (k_130)))
  have k_144 := va_at.kept (H1 := H_137) (k_131) (hq_140 _ (va_at.lt (k_131)))
  have k_145 := va_at.kept (H1 := H_137) (k_132) (hq_140 _ (va_at.lt (k_132)))
  have k_146 := va_at.kept (H1 := H_137) (k_133) (hq_140 _ (va_at.lt (k_133)))
  have k_147 := va_at.kept (H1 := H_137) (k_134) (hq_140 _ (va_at.lt (k_134)))
  have k_148 := va_at.kept (H1 := H_137) (k_135) (hq_140 _ (va_at.lt (k_135)))
  have k_149 := va_at.kept (H1 := H_137) (k_136) (hq_140 _ (va_at.lt (k_136)))
  have hA9 : ia_ G H_137 (mb + 9) 64 (fun _ => 0) := by rw [← hsz]; exact ho_138
  have hsz : H_137.size = mb + 10 := by omega
  have hF : ∀ q, q < mb → H_137[q]? = H[q]? := fun q h => (hq_140 q (by omega)).trans (hF q h)
  refine xg (g2 := F0 m 80 ls [.ref (mb + 9), .ref mb]) (by rw [hszp]) ?_
  refine x_putF (ci := 2) hx hb hts hown hK wiX2 tyX2 tyX2_ok nmX2 k_141 rfl 9 (by decide) wFX2_35 rfl rfl hnm rfl (rfl) (rfl) (by simp) (hm0) dX2_init_80 (fun H_150 ho_151 hz_152 hq_153 => ?_)
  have ho_151 : ob_ G H_150 mb 2 [.int 0, .ref (mb + 1), .ref (mb + 2), .ref (mb + 3), .ref (mb + 4), .ref (mb + 5), .ref (mb + 6), .ref (mb + 7), .ref (mb + 8), .ref (mb + 9), .int 0] := ho_151
  have k_154 := va_at.kept (H1 := H_150) (k_142) (hq_153 _ (by omega))
  have k_155 := va_at.kept (H1 := H_150) (k_143) (hq_153 _ (by omega))
  have k_156 := va_at.kept (H1 := H_150) (k_144) (hq_153 _ (by omega))
  have k_157 := va_at.kept (H1 := H_150) (k_145) (hq_153 _ (by omega))
  have k_158 := va_at.kept (H1 := H_150) (k_146) (hq_153 _ (by omega))
  have k_159 := va_at.kept (H1 := H_150) (k_147) (hq_153 _ (by omega))
  have k_160 := va_at.kept (H1 := H_150) (k_148) (hq_153 _ (by omega))
  have k_161 := va_at.kept (H1 := H_150) (k_149) (hq_153 _ (by omega))
  have k_162 := va_at.kept (H1 := H_150) (hA9) (hq_153 _ (by omega))
  have hszp : H_150.size = mb + 10 := hz_152.trans hsz
  have hsz := hszp
  have hF : ∀ q, q < mb → H_150[q]? = H[q]? := fun q h => (hq_153 q (by omega)).trans (hF q h)
  exact x_vret hx hb hr hlocks hs0 hbs (by decide) (by decide) dX2_init_83 (⟨rfl, hsz, ⟨hm0, by omega, ho_151, k_154, k_155, k_156, k_157, k_158, k_159, k_160, k_161, k_162⟩, hF⟩)
