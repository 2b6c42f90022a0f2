set_option maxHeartbeats 4000000 in
set_option maxRecDepth 100000 in
theorem c_X1_alter (l : Launch) (G : sg_G) (H : Heap) (b lo n : Nat) (t : Nat → sp_T) (rg : Nat → Option Nat) (g : Nat → Prop) (hH : sc_H G b lo n t rg g H) (hn1 : n < 512) (r x k v : Int32) : xC l G yX1_alter cX1_alter 6 (some FieldType.int) 5 2 11 [.ref b, .int r, .int x, .int k, .int v] H (fun ans H' => ans = some (.int (op_alter (n, t, rg, g) r x k v).1) ∧ sc_HS G b lo (op_alter (n, t, rg, g) r x k v).2 H' ∧ sc_F b lo H H') := by
  refine xC.start (by decide) (Nat.le_of_ble_eq_true rfl) ?_
  intro p e s m args below meth c ls E hnm hs0 hl
  obtain ⟨hx, hb, hml, hown, hts, hr, hlocks, hK, hbs⟩ := id E
  have hl : lv_has ls 6 [(0, .ref b), (1, .int r), (2, .int x), (3, .int k), (4, .int v)] := hl
  obtain ⟨ta, na, pa, dv, hV, hD, hg⟩ := id hH
  obtain ⟨fc, hC, hfI⟩ := id hV
  obtain ⟨hw, hb0, hb4, hlo, hn5, hX, hRG, hMD, hZR, hT, hrg, hwf⟩ := id hC
  have hFF : sc_F b lo H H := sc_F.rf
  have hSS : H.size = H.size := rfl
  refine xl (fun _ => lv_aload_n hx hb dX1_alter_0 rfl (lv_at hl 0 rfl)) ?_
  refine xl (fun _ => lv_iload_n hx hb dX1_alter_1 rfl (lv_at hl 2 rfl)) ?_
  refine xl (fun _ => lv_bipush (v := 7) hx hb dX1_alter_2 (by decide)) ?_
  rcases hs_4 : sp_rs t rg x 7 with _ | i
  · refine x_callV E hl (c_X1_termOfSort_n l G H b lo n _ t dv fc rg ta na pa hC x 7 hs_4) xm_yX1_termOfSort wMX1_37 wI_yX1_termOfSort wT_yX1_termOfSort (ci := 1) rfl rfl hX (rest := []) rfl (by decide) (by decide) ⟨by decide, by decide⟩ dX1_alter_4 (x_pure (r := .null) (st1 := []) ?_)
    refine xs (fun _ => lv_astoreN (i := 5) (lv' := [(5, .null), (0, .ref b), (1, .int r), (2, .int x), (3, .int k), (4, .int v)]) hx hb dX1_alter_7 hl (by decide) (rfl)) (fun ls hl => ?_)
    refine xl (fun _ => lv_aloadN hx hb dX1_alter_9 (lv_at hl 0 rfl)) ?_
    refine xl (fun _ => lv_ifnonnullN hx hb dX1_alter_11) ?_
    refine xl (fun _ => lv_iconst (v := (-1)) hx hb dX1_alter_14 (by decide)) ?_
    exact x_iret hx hb hr hlocks hs0 hbs (by decide) (by decide) dX1_alter_15 (⟨by simp only [op_alter, hs_4, reduceIte, Bool.false_eq_true, and_true, true_and, and_false, false_and, and_self, not_true_eq_false, not_false_eq_true], by simp only [op_alter, hs_4, reduceIte, Bool.false_eq_true, and_true, true_and, and_false, false_and, and_self, not_true_eq_false, not_false_eq_true]; exact hH, sc_F.rf⟩)
  · have hi := sp_rg_lt hrg (sp_rs_of hs_4).1
    refine x_callV E hl (c_X1_termOfSort_s l G H b lo n _ t dv fc rg ta na pa hC x 7 hs_4) xm_yX1_termOfSort wMX1_37 wI_yX1_termOfSort wT_yX1_termOfSort (ci := 1) rfl rfl hX (rest := []) rfl (by decide) (by decide) ⟨by decide, by decide⟩ dX1_alter_4 (x_pure (r := .ref (ta i)) (st1 := []) ?_)
    refine xs (fun _ => lv_astore (i := 5) (lv' := [(5, .ref (ta i)), (0, .ref b), (1, .int r), (2, .int x), (3, .int k), (4, .int v)]) hx hb dX1_alter_7 hl (by decide) (rfl)) (fun ls hl => ?_)
    refine xl (fun _ => lv_aload hx hb dX1_alter_9 (lv_at hl 0 rfl)) ?_
    refine xl (fun _ => lv_ifnonnull (tgt := 16) hx hb dX1_alter_11 (by decide)) ?_
    refine xl (fun _ => lv_iload_n hx hb dX1_alter_16 rfl (lv_at hl 4 rfl)) ?_
    refine x_callS E hl (c_X1_isSlot l G H k) xm_yX1_isSlot wMX1_59 wS_yX1_isSlot (rest := []) rfl (by decide) (by decide) ⟨by decide, by decide⟩ dX1_alter_17 (x_pure (r := .int (bI (sp_is k))) (st1 := []) ?_)
    refine xb (fun _ => lv_if_eq (tgt := 37) hx hb dX1_alter_20 (by decide)) (fun c_20 => ?_) (fun c_20 => ?_)
    · have c_20 := bI_f c_20
      refine xl (fun _ => lv_iload_n hx hb dX1_alter_37 rfl (lv_at hl 4 rfl)) ?_
      refine xl (fun _ => lv_iconst (v := 4) hx hb dX1_alter_38 (by decide)) ?_
      refine xb (fun _ => lv_icmp_ne (tgt := 63) hx hb dX1_alter_39 (by decide)) (fun c_39 => ?_) (fun c_39 => ?_)
      · refine xl (fun _ => lv_iconst (v := (-1)) hx hb dX1_alter_63 (by decide)) ?_
        exact x_iret hx hb hr hlocks hs0 hbs (by decide) (by decide) dX1_alter_64 (⟨by simp only [op_alter, hs_4, c_20, c_39, reduceIte, Bool.false_eq_true, and_true, true_and, and_false, false_and, and_self, not_true_eq_false, not_false_eq_true], by simp only [op_alter, hs_4, c_20, c_39, reduceIte, Bool.false_eq_true, and_true, true_and, and_false, false_and, and_self, not_true_eq_false, not_false_eq_true]; exact hH, sc_F.rf⟩)
      · have c_20 : sp_is 4 = false := by rw [← c_39]; exact c_20
        refine xl (fun _ => lv_iload hx hb dX1_alter_42 (lv_at hl 5 rfl)) ?_
        refine x_callS E hl (c_X1_isKind l G H v) xm_yX1_isKind wMX1_56 wS_yX1_isKind (rest := []) rfl (by decide) (by decide) ⟨by decide, by decide⟩ dX1_alter_44 (x_pure (r := .int (bI (sp_ik v))) (st1 := []) ?_)
        refine xb (fun _ => lv_if_eq (tgt := 63) hx hb dX1_alter_47 (by decide)) (fun c_47 => ?_) (fun c_47 => ?_)
        · have c_47 := bI_f c_47
          refine xl (fun _ => lv_iconst (v := (-1)) hx hb dX1_alter_63 (by decide)) ?_
          exact x_iret hx hb hr hlocks hs0 hbs (by decide) (by decide) dX1_alter_64 (⟨by simp only [op_alter, hs_4, c_20, c_39, c_47, reduceIte, Bool.false_eq_true, and_true, true_and, and_false, false_and, and_self, not_true_eq_false, not_false_eq_true], by simp only [op_alter, hs_4, c_20, c_39, c_47, reduceIte, Bool.false_eq_true, and_true, true_and, and_false, false_and, and_self, not_true_eq_false, not_false_eq_true]; exact hH, sc_F.rf⟩)
        · have c_47 := bI_t c_47
          refine xl (fun _ => lv_aload_n hx hb dX1_alter_50 rfl (lv_at hl 1 rfl)) ?_
          refine xl (fun _ => lv_iload_n hx hb dX1_alter_51 rfl (lv_at hl 2 rfl)) ?_
          refine xl (fun _ => lv_aload hx hb dX1_alter_52 (lv_at hl 0 rfl)) ?_
          refine xl (fun _ => lv_iload hx hb dX1_alter_54 (lv_at hl 5 rfl)) ?_
          refine x_callV E hl (c_X0_withLabel l G H (ta i) (na i) (pa i) _ _ _ _ _ (hT i hi).2.2.2.1 v) xm_yX0_withLabel wMX1_65 wI_yX0_withLabel wT_yX0_withLabel (ci := 0) rfl rfl ((hT i hi).2.2.2.1) (rest := [.int r, .ref b]) rfl (by simp [cat_rf, cat_int, cat_ref, cat_null]) (by decide) ⟨by decide, by decide⟩ dX1_alter_56 (fun v_1 H_2 hp_3 hz_4 hq_5 => ?_)
          obtain ⟨rfl, ht1, ht3, ht4⟩ := hp_3
          obtain ⟨hV1, hF1, hne0⟩ := sc_more hV (by omega) ht4
          have hne1 := hne0 H.size (by omega)
          obtain ⟨fc1, hC1, hfI1⟩ := id hV1
          obtain ⟨-, -, -, -, -, hX1, -⟩ := id hC1
          have h7 := (sp_rs_of hs_4).2
          rw [h7] at ht1
          have hO1 : sc_O G H_2 b lo ta (7, v, sp_nu (t i), sp_pa (t i)) H.size (na i) (pa i) 0 false false := ⟨hlo, (hT i hi).2.1, (hT i hi).2.2.1, ht1, va_at.kept (H1 := H_2) (hT i hi).2.2.2.2.1 (ht4 _ (va_at.lt (hT i hi).2.2.2.2.1)), va_at.kept (H1 := H_2) (hT i hi).2.2.2.2.2 (ht4 _ (va_at.lt (hT i hi).2.2.2.2.2))⟩
          refine xg (g2 := F0 m 59 ls [.ref H.size, .int r, .ref b]) rfl ?_
          refine x_callV E hl (c_X1_makeInto l G H_2 b lo n t rg ta na pa dv g hV1 hD hg (7, v, sp_nu (t i), sp_pa (t i)) H.size (na i) (pa i) hO1 hne1 (wf_row (sp_ik_of c_47) (sc_bd hC i hi)) hn1 r) xm_yX1_makeInto wMX1_33 wI_yX1_makeInto wT_yX1_makeInto (ci := 1) rfl rfl hX1 (rest := []) rfl (by decide) (by decide) ⟨by decide, by decide⟩ dX1_alter_59 (fun v_6 H_7 hp_8 hz_9 hq_10 => ?_)
          obtain ⟨rfl, hH2, hF2, hS2⟩ := hp_8
          refine xg (g2 := F0 m 62 ls [.int (sp_mi (n, t, rg, g) r (7, v, sp_nu (t i), sp_pa (t i))).1]) rfl ?_
          exact x_iret hx hb hr hlocks hs0 hbs (by decide) (by decide) dX1_alter_62 (⟨by simp only [op_alter, hs_4, c_20, c_39, c_47, reduceIte, Bool.false_eq_true, and_true, true_and, and_false, false_and, and_self, not_true_eq_false, not_false_eq_true], by simp only [op_alter, hs_4, c_20, c_39, c_47, reduceIte, Bool.false_eq_true, and_true, true_and, and_false, false_and, and_self, not_true_eq_false, not_false_eq_true]; exact hH2, hF1.tr hF2⟩)
    · have c_20 := bI_t c_20
      obtain ⟨j, hj, rfl⟩ := sp_is_of c_20
      have hcl : (nI j).toNatClampNeg = j := nI_clamp (by omega)
      refine xl (fun _ => lv_aload_n hx hb dX1_alter_23 rfl (lv_at hl 1 rfl)) ?_
      refine xl (fun _ => lv_iload_n hx hb dX1_alter_24 rfl (lv_at hl 2 rfl)) ?_
      refine xl (fun _ => lv_aload hx hb dX1_alter_25 (lv_at hl 0 rfl)) ?_
      refine xl (fun _ => lv_iload_n hx hb dX1_alter_27 rfl (lv_at hl 4 rfl)) ?_
      refine xl (fun _ => lv_iload hx hb dX1_alter_28 (lv_at hl 5 rfl)) ?_
      refine x_callV E hl (c_X0_withNumber l G H (ta i) (na i) (pa i) _ _ _ _ _ _ (hT i hi).2.2.2.1 (hT i hi).2.2.2.2.1 j hj v) xm_yX0_withNumber wMX1_62 wI_yX0_withNumber wT_yX0_withNumber (ci := 0) rfl rfl ((hT i hi).2.2.2.1) (rest := [.int r, .ref b]) rfl (by simp [cat_rf, cat_int, cat_ref, cat_null]) (by decide) ⟨by decide, by decide⟩ dX1_alter_30 (fun v_11 H_12 hp_13 hz_14 hq_15 => ?_)
      obtain ⟨rfl, ht1, ht2, ht3, ht4⟩ := hp_13
      obtain ⟨hV1, hF1, hne0⟩ := sc_more hV (by omega) ht4
      have hne1 := hne0 (H.size + 1) (by omega)
      obtain ⟨fc1, hC1, hfI1⟩ := id hV1
      obtain ⟨-, -, -, -, -, hX1, -⟩ := id hC1
      have h7 := (sp_rs_of hs_4).2
      rw [h7] at ht1
      have hO1 : sc_O G H_12 b lo ta (7, sp_la (t i), upd (sp_nu (t i)) j v, sp_pa (t i)) (H.size + 1) H.size (pa i) 0 false false := ⟨by omega, Or.inr hlo, (hT i hi).2.2.1, ht1, ht2, va_at.kept (H1 := H_12) (hT i hi).2.2.2.2.2 (ht4 _ (va_at.lt (hT i hi).2.2.2.2.2))⟩
      refine xg (g2 := F0 m 33 ls [.ref (H.size + 1), .int r, .ref b]) rfl ?_
      refine x_callV E hl (c_X1_makeInto l G H_12 b lo n t rg ta na pa dv g hV1 hD hg (7, sp_la (t i), upd (sp_nu (t i)) j v, sp_pa (t i)) (H.size + 1) H.size (pa i) hO1 hne1 (wf_row (sp_wf7 (hwf i hi) h7) (sc_bd hC i hi)) hn1 r) xm_yX1_makeInto wMX1_33 wI_yX1_makeInto wT_yX1_makeInto (ci := 1) rfl rfl hX1 (rest := []) rfl (by decide) (by decide) ⟨by decide, by decide⟩ dX1_alter_33 (fun v_16 H_17 hp_18 hz_19 hq_20 => ?_)
      obtain ⟨rfl, hH2, hF2, hS2⟩ := hp_18
      refine xg (g2 := F0 m 36 ls [.int (sp_mi (n, t, rg, g) r (7, sp_la (t i), upd (sp_nu (t i)) j v, sp_pa (t i))).1]) rfl ?_
      exact x_iret hx hb hr hlocks hs0 hbs (by decide) (by decide) dX1_alter_36 (⟨by simp only [op_alter, hs_4, c_20, hcl, reduceIte, Bool.false_eq_true, and_true, true_and, and_false, false_and, and_self, not_true_eq_false, not_false_eq_true], by simp only [op_alter, hs_4, c_20, hcl, reduceIte, Bool.false_eq_true, and_true, true_and, and_false, false_and, and_self, not_true_eq_false, not_false_eq_true]; exact hH2, hF1.tr hF2⟩)

theorem va_up_map (f : Nat → Nat) (p : Nat → Option Nat) (j : Nat) (o : Option Nat) (q : Nat) : va_up (fun k => (p k).map f) j (o.map f) q = (va_up p j o q).map f := by
  by_cases e : q = j
  · subst e; rw [va_up_self, va_up_self]
  · rw [va_up_ne _ _ e, va_up_ne _ _ e]
theorem bd_up {n j : Nat} {p : Nat → Option Nat} {o : Option Nat} (hp : ∀ q, q < 4 → ∀ x, p q = some x → x < n) (ho : ∀ x, o = some x → x < n) : ∀ q, q < 4 → ∀ x, va_up p j o q = some x → x < n := by
  intro q hq x e
  by_cases h : q = j
  · subst h; rw [va_up_self] at e; exact ho x e
  · rw [va_up_ne _ _ h] at e; exact hp q hq x e

set_option maxHeartbeats 4000000 in
set_option maxRecDepth 100000 in
theorem c_X1_swap (l : Launch) (G : sg_G) (H : Heap) (b lo n : Nat) (t : Nat → sp_T) (rg : Nat → Option Nat) (g : Nat → Prop) (hH : sc_H G b lo n t rg g H) (hn1 : n < 512) (r x k y : Int32) : xC l G yX1_swap cX1_swap 6 (some FieldType.int) 5 2 11 [.ref b, .int r, .int x, .int k, .int y] H (fun ans H' => ans = some (.int (op_swap (n, t, rg, g) r x k y).1) ∧ sc_HS G b lo (op_swap (n, t, rg, g) r x k y).2 H' ∧ sc_F b lo H H') := by
  refine xC.start (by decide) (Nat.le_of_ble_eq_true rfl) ?_
  intro p e s m args below meth c ls E hnm hs0 hl
  obtain ⟨hx, hb, hml, hown, hts, hr, hlocks, hK, hbs⟩ := id E
  have hl : lv_has ls 6 [(0, .ref b), (1, .int r), (2, .int x), (3, .int k), (4, .int y)] := hl
  obtain ⟨ta, na, pa, dv, hV, hD, hg⟩ := id hH
  obtain ⟨fc, hC, hfI⟩ := id hV
  obtain ⟨hw, hb0, hb4, hlo, hn5, hX, hRG, hMD, hZR, hT, hrg, hwf⟩ := id hC
  have hFF : sc_F b lo H H := sc_F.rf
  have hSS : H.size = H.size := rfl
  refine xl (fun _ => lv_aload_n hx hb dX1_swap_0 rfl (lv_at hl 0 rfl)) ?_
  refine xl (fun _ => lv_iload_n hx hb dX1_swap_1 rfl (lv_at hl 2 rfl)) ?_
  refine xl (fun _ => lv_bipush (v := 7) hx hb dX1_swap_2 (by decide)) ?_
  rcases hs_4 : sp_rs t rg x 7 with _ | i
  · refine x_callV E hl (c_X1_termOfSort_n l G H b lo n _ t dv fc rg ta na pa hC x 7 hs_4) xm_yX1_termOfSort wMX1_37 wI_yX1_termOfSort wT_yX1_termOfSort (ci := 1) rfl rfl hX (rest := []) rfl (by decide) (by decide) ⟨by decide, by decide⟩ dX1_swap_4 (x_pure (r := .null) (st1 := []) ?_)
    refine xs (fun _ => lv_astoreN (i := 5) (lv' := [(5, .null), (0, .ref b), (1, .int r), (2, .int x), (3, .int k), (4, .int y)]) hx hb dX1_swap_7 hl (by decide) (rfl)) (fun ls hl => ?_)
    refine xl (fun _ => lv_aloadN hx hb dX1_swap_9 (lv_at hl 0 rfl)) ?_
    refine xl (fun _ => lv_ifnullN (tgt := 30) hx hb dX1_swap_11 (by decide)) ?_
    refine xl (fun _ => lv_iconst (v := (-1)) hx hb dX1_swap_30 (by decide)) ?_
    exact x_iret hx hb hr hlocks hs0 hbs (by decide) (by decide) dX1_swap_31 (⟨by simp only [op_swap, hs_4, reduceIte, Bool.false_eq_true, and_true, true_and, and_false, false_and, and_self, not_true_eq_false, not_false_eq_true], by simp only [op_swap, hs_4, reduceIte, Bool.false_eq_true, and_true, true_and, and_false, false_and, and_self, not_true_eq_false, not_false_eq_true]; exact hH, sc_F.rf⟩)
  · have hi := sp_rg_lt hrg (sp_rs_of hs_4).1
    refine x_callV E hl (c_X1_termOfSort_s l G H b lo n _ t dv fc rg ta na pa hC x 7 hs_4) xm_yX1_termOfSort wMX1_37 wI_yX1_termOfSort wT_yX1_termOfSort (ci := 1) rfl rfl hX (rest := []) rfl (by decide) (by decide) ⟨by decide, by decide⟩ dX1_swap_4 (x_pure (r := .ref (ta i)) (st1 := []) ?_)
    refine xs (fun _ => lv_astore (i := 5) (lv' := [(5, .ref (ta i)), (0, .ref b), (1, .int r), (2, .int x), (3, .int k), (4, .int y)]) hx hb dX1_swap_7 hl (by decide) (rfl)) (fun ls hl => ?_)
    refine xl (fun _ => lv_aload hx hb dX1_swap_9 (lv_at hl 0 rfl)) ?_
    refine xl (fun _ => lv_ifnull hx hb dX1_swap_11) ?_
    refine xl (fun _ => lv_iload_n hx hb dX1_swap_14 rfl (lv_at hl 4 rfl)) ?_
    refine x_callS E hl (c_X1_isSlot l G H k) xm_yX1_isSlot wMX1_59 wS_yX1_isSlot (rest := []) rfl (by decide) (by decide) ⟨by decide, by decide⟩ dX1_swap_15 (x_pure (r := .int (bI (sp_is k))) (st1 := []) ?_)
    refine xb (fun _ => lv_if_eq (tgt := 30) hx hb dX1_swap_18 (by decide)) (fun c_18 => ?_) (fun c_18 => ?_)
    · have c_18 := bI_f c_18
      refine xl (fun _ => lv_iconst (v := (-1)) hx hb dX1_swap_30 (by decide)) ?_
      exact x_iret hx hb hr hlocks hs0 hbs (by decide) (by decide) dX1_swap_31 (⟨by simp only [op_swap, hs_4, c_18, reduceIte, Bool.false_eq_true, and_true, true_and, and_false, false_and, and_self, not_true_eq_false, not_false_eq_true], by simp only [op_swap, hs_4, c_18, reduceIte, Bool.false_eq_true, and_true, true_and, and_false, false_and, and_self, not_true_eq_false, not_false_eq_true]; exact hH, sc_F.rf⟩)
    · have c_18 := bI_t c_18
      obtain ⟨j, hj, rfl⟩ := sp_is_of c_18
      have hcl : (nI j).toNatClampNeg = j := nI_clamp (by omega)
      refine xl (fun _ => lv_aload_n hx hb dX1_swap_21 rfl (lv_at hl 1 rfl)) ?_
      refine xl (fun _ => lv_iload hx hb dX1_swap_22 (lv_at hl 5 rfl)) ?_
      refine x_callV E hl (c_X1_isTermOrNothing l G H b lo n _ t dv fc rg ta na pa hC y) xm_yX1_isTermOrNothing wMX1_52 wI_yX1_isTermOrNothing wT_yX1_isTermOrNothing (ci := 1) rfl rfl hX (rest := []) rfl (by decide) (by decide) ⟨by decide, by decide⟩ dX1_swap_24 (x_pure (r := .int (bI (sp_tn rg y))) (st1 := []) ?_)
      refine xb (fun _ => lv_if_ne (tgt := 32) hx hb dX1_swap_27 (by decide)) (fun c_27 => ?_) (fun c_27 => ?_)
      · have c_27 := bI_t c_27
        refine xl (fun _ => lv_aload_n hx hb dX1_swap_32 rfl (lv_at hl 1 rfl)) ?_
        refine xl (fun _ => lv_iload_n hx hb dX1_swap_33 rfl (lv_at hl 2 rfl)) ?_
        refine xl (fun _ => lv_aload hx hb dX1_swap_34 (lv_at hl 0 rfl)) ?_
        refine xl (fun _ => lv_iload_n hx hb dX1_swap_36 rfl (lv_at hl 4 rfl)) ?_
        refine xl (fun _ => lv_aload_n hx hb dX1_swap_37 rfl (lv_at hl 1 rfl)) ?_
        refine xl (fun _ => lv_iload hx hb dX1_swap_38 (lv_at hl 5 rfl)) ?_
        refine x_callV E hl (c_X1_termIn l G H b lo n _ t dv fc rg ta na pa hC y) xm_yX1_termIn wMX1_49 wI_yX1_termIn wT_yX1_termIn (ci := 1) rfl rfl hX (rest := [.int (nI j), .ref (ta i), .int r, .ref b]) rfl (by simp [cat_rf, cat_int, cat_ref, cat_null]) (by decide) ⟨by decide, by decide⟩ dX1_swap_40 (x_pure (r := va_rf (Option.map ta (sp_rg rg y))) (st1 := []) ?_)
        refine x_callV E hl (c_X0_withPart l G H (ta i) (na i) (pa i) _ _ _ _ _ (fun k => (sp_pa (t i) k).map ta) (hT i hi).2.2.2.1 (hT i hi).2.2.2.2.2 (fun q hq => sc_obo hC (sc_bd hC i hi q hq)) j hj (Option.map ta (sp_rg rg y)) (sc_obo hC (fun j e => sp_rg_lt hrg e))) xm_yX0_withPart wMX1_68 wI_yX0_withPart wT_yX0_withPart (ci := 0) rfl rfl ((hT i hi).2.2.2.1) (rest := [.int r, .ref b]) rfl (by simp [cat_rf, cat_int, cat_ref, cat_null]) (by decide) ⟨by decide, by decide⟩ dX1_swap_43 (fun v_1 H_2 hp_3 hz_4 hq_5 => ?_)
        obtain ⟨rfl, ht1, ht2, ht3, ht4⟩ := hp_3
        obtain ⟨hV1, hF1, hne0⟩ := sc_more hV (by omega) ht4
        have hne1 := hne0 (H.size + 1) (by omega)
        obtain ⟨fc1, hC1, hfI1⟩ := id hV1
        obtain ⟨-, -, -, -, -, hX1, -⟩ := id hC1
        have h7 := (sp_rs_of hs_4).2
        rw [h7] at ht1
        have hO1 : sc_O G H_2 b lo ta (7, sp_la (t i), sp_nu (t i), va_up (sp_pa (t i)) j (sp_rg rg y)) (H.size + 1) (na i) H.size 0 false false := ⟨by omega, (hT i hi).2.1, hlo, ht1, va_at.kept (H1 := H_2) (hT i hi).2.2.2.2.1 (ht4 _ (va_at.lt (hT i hi).2.2.2.2.1)), ra_to ht2 (fun q _ => va_up_map ta (sp_pa (t i)) j (sp_rg rg y) q)⟩
        refine xg (g2 := F0 m 46 ls [.ref (H.size + 1), .int r, .ref b]) rfl ?_
        refine x_callV E hl (c_X1_makeInto l G H_2 b lo n t rg ta na pa dv g hV1 hD hg (7, sp_la (t i), sp_nu (t i), va_up (sp_pa (t i)) j (sp_rg rg y)) (H.size + 1) (na i) H.size hO1 hne1 (wf_row (sp_wf7 (hwf i hi) h7) (bd_up (sc_bd hC i hi) (fun x e => sp_rg_lt hrg e))) hn1 r) xm_yX1_makeInto wMX1_33 wI_yX1_makeInto wT_yX1_makeInto (ci := 1) rfl rfl hX1 (rest := []) rfl (by decide) (by decide) ⟨by decide, by decide⟩ dX1_swap_46 (fun v_6 H_7 hp_8 hz_9 hq_10 => ?_)
        obtain ⟨rfl, hH2, hF2, hS2⟩ := hp_8
        refine xg (g2 := F0 m 49 ls [.int (sp_mi (n, t, rg, g) r (7, sp_la (t i), sp_nu (t i), va_up (sp_pa (t i)) j (sp_rg rg y))).1]) rfl ?_
        exact x_iret hx hb hr hlocks hs0 hbs (by decide) (by decide) dX1_swap_49 (⟨by simp only [op_swap, hs_4, c_18, c_27, hcl, reduceIte, Bool.false_eq_true, and_true, true_and, and_false, false_and, and_self, not_true_eq_false, not_false_eq_true], by simp only [op_swap, hs_4, c_18, c_27, hcl, reduceIte, Bool.false_eq_true, and_true, true_and, and_false, false_and, and_self, not_true_eq_false, not_false_eq_true]; exact hH2, hF1.tr hF2⟩)
      · have c_27 := bI_f c_27
        refine xl (fun _ => lv_iconst (v := (-1)) hx hb dX1_swap_30 (by decide)) ?_
        exact x_iret hx hb hr hlocks hs0 hbs (by decide) (by decide) dX1_swap_31 (⟨by simp only [op_swap, hs_4, c_18, c_27, hcl, reduceIte, Bool.false_eq_true, and_true, true_and, and_false, false_and, and_self, not_true_eq_false, not_false_eq_true], by simp only [op_swap, hs_4, c_18, c_27, hcl, reduceIte, Bool.false_eq_true, and_true, true_and, and_false, false_and, and_self, not_true_eq_false, not_false_eq_true]; exact hH, sc_F.rf⟩)

set_option maxHeartbeats 4000000 in
set_option maxRecDepth 100000 in
theorem c_X1_part (l : Launch) (G : sg_G) (H : Heap) (b lo n : Nat) (t : Nat → sp_T) (rg : Nat → Option Nat) (g : Nat → Prop) (hH : sc_H G b lo n t rg g H) (r x w : Int32) : xC l G yX1_part cX1_part 5 (some FieldType.int) 3 0 0 [.ref b, .int r, .int x, .int w] H (fun ans H' => ans = some (.int (op_part (n, t, rg, g) r x w).1) ∧ sc_HS G b lo (op_part (n, t, rg, g) r x w).2 H' ∧ sc_F b lo H H') := by
  refine xC.start (by decide) (Nat.le_of_ble_eq_true rfl) ?_
  intro p e s m args below meth c ls E hnm hs0 hl
  obtain ⟨hx, hb, hml, hown, hts, hr, hlocks, hK, hbs⟩ := id E
  have hl : lv_has ls 5 [(0, .ref b), (1, .int r), (2, .int x), (3, .int w)] := hl
  obtain ⟨ta, na, pa, dv, hV, hD, hg⟩ := id hH
  obtain ⟨fc, hC, hfI⟩ := id hV
  obtain ⟨hw, hb0, hb4, hlo, hn5, hX, hRG, hMD, hZR, hT, hrg, hwf⟩ := id hC
  have hFF : sc_F b lo H H := sc_F.rf
  have hSS : H.size = H.size := rfl
  refine xl (fun _ => lv_aload_n hx hb dX1_part_0 rfl (lv_at hl 0 rfl)) ?_
  refine xl (fun _ => lv_iload_n hx hb dX1_part_1 rfl (lv_at hl 2 rfl)) ?_
  rcases hs_2 : sp_rg rg x with _ | i
  · refine x_callV E hl (c_X1_termIn_n l G H b lo n _ t dv fc rg ta na pa hC x hs_2) xm_yX1_termIn wMX1_49 wI_yX1_termIn wT_yX1_termIn (ci := 1) rfl rfl hX (rest := []) rfl (by decide) (by decide) ⟨by decide, by decide⟩ dX1_part_2 (x_pure (r := .null) (st1 := []) ?_)
    refine xs (fun _ => lv_astoreN (i := 4) (lv' := [(4, .null), (0, .ref b), (1, .int r), (2, .int x), (3, .int w)]) hx hb dX1_part_5 hl (by decide) (rfl)) (fun ls hl => ?_)
    refine xl (fun _ => lv_aloadN hx hb dX1_part_7 (lv_at hl 0 rfl)) ?_
    refine xl (fun _ => lv_ifnullN (tgt := 32) hx hb dX1_part_9 (by decide)) ?_
    refine xl (fun _ => lv_iconst (v := (-1)) hx hb dX1_part_32 (by decide)) ?_
    exact x_iret hx hb hr hlocks hs0 hbs (by decide) (by decide) dX1_part_33 (⟨by simp only [op_part, hs_2, reduceIte, Bool.false_eq_true, and_true, true_and, and_false, false_and, and_self, not_true_eq_false, not_false_eq_true], by simp only [op_part, hs_2, reduceIte, Bool.false_eq_true, and_true, true_and, and_false, false_and, and_self, not_true_eq_false, not_false_eq_true]; exact hH, sc_F.rf⟩)
  · have hi := sp_rg_lt hrg hs_2
    refine x_callV E hl (c_X1_termIn_s l G H b lo n _ t dv fc rg ta na pa hC x hs_2) xm_yX1_termIn wMX1_49 wI_yX1_termIn wT_yX1_termIn (ci := 1) rfl rfl hX (rest := []) rfl (by decide) (by decide) ⟨by decide, by decide⟩ dX1_part_2 (x_pure (r := .ref (ta i)) (st1 := []) ?_)
    refine xs (fun _ => lv_astore (i := 4) (lv' := [(4, .ref (ta i)), (0, .ref b), (1, .int r), (2, .int x), (3, .int w)]) hx hb dX1_part_5 hl (by decide) (rfl)) (fun ls hl => ?_)
    refine xl (fun _ => lv_aload hx hb dX1_part_7 (lv_at hl 0 rfl)) ?_
    refine xl (fun _ => lv_ifnull hx hb dX1_part_9) ?_
    refine xl (fun _ => lv_iload_n hx hb dX1_part_12 rfl (lv_at hl 4 rfl)) ?_
    refine xb (fun _ => lv_if_lt (tgt := 32) hx hb dX1_part_13 (by decide)) (fun c_13 => ?_) (fun c_13 => ?_)
    · refine xl (fun _ => lv_iconst (v := (-1)) hx hb dX1_part_32 (by decide)) ?_
      exact x_iret hx hb hr hlocks hs0 hbs (by decide) (by decide) dX1_part_33 (⟨by simp only [op_part, hs_2, c_13, reduceIte, Bool.false_eq_true, and_true, true_and, and_false, false_and, and_self, not_true_eq_false, not_false_eq_true], by simp only [op_part, hs_2, c_13, reduceIte, Bool.false_eq_true, and_true, true_and, and_false, false_and, and_self, not_true_eq_false, not_false_eq_true]; exact hH, sc_F.rf⟩)
    · refine xl (fun _ => lv_iload_n hx hb dX1_part_16 rfl (lv_at hl 4 rfl)) ?_
      refine x_gets hx hb hts hown hK 0 (by decide) wFX1_72 dX1_part_17 ?_
      refine x_tlen hx hb hK 0 (by decide) dX1_part_20 ?_
      refine xb (fun _ => lv_icmp_ge (tgt := 32) hx hb dX1_part_21 (by decide)) (fun c_21 => ?_) (fun c_21 => ?_)
      · have c_21 : 10 ≤ w := c_21
        refine xl (fun _ => lv_iconst (v := (-1)) hx hb dX1_part_32 (by decide)) ?_
        exact x_iret hx hb hr hlocks hs0 hbs (by decide) (by decide) dX1_part_33 (⟨by simp only [op_part, hs_2, c_13, c_21, reduceIte, Bool.false_eq_true, and_true, true_and, and_false, false_and, and_self, not_true_eq_false, not_false_eq_true], by simp only [op_part, hs_2, c_13, c_21, reduceIte, Bool.false_eq_true, and_true, true_and, and_false, false_and, and_self, not_true_eq_false, not_false_eq_true]; exact hH, sc_F.rf⟩)
      · have c_21 : ¬ 10 ≤ w := c_21
        refine xl (fun _ => lv_iload_n hx hb dX1_part_24 rfl (lv_at hl 4 rfl)) ?_
        refine x_gets hx hb hts hown hK 1 (by decide) wFX1_75 dX1_part_25 ?_
        refine x_tlen hx hb hK 1 (by decide) dX1_part_28 ?_
        refine xb (fun _ => lv_icmp_lt (tgt := 34) hx hb dX1_part_29 (by decide)) (fun c_29 => ?_) (fun c_29 => ?_)
        · obtain ⟨j, hj, rfl⟩ : ∃ j, j < 10 ∧ w = nI j := by
            rcases pk_ix w (n := 10) (by decide) with a | a | a
            · exact absurd a c_13
            · exact absurd a c_21
            · exact a
          have hcl : (nI j).toNatClampNeg = j := nI_clamp (by omega)
          have hsl := sp_sl_ok j hj
          refine xl (fun _ => lv_aload hx hb dX1_part_34 (lv_at hl 0 rfl)) ?_
          refine x_get (ci := 0) hx hb hts hown hK wiX0 ((hT i hi).2.2.2.1) rfl 0 (by decide) wFX1_78 rfl rfl dX1_part_36 ?_
          refine x_gets hx hb hts hown hK 0 (by decide) wFX1_72 dX1_part_39 ?_
          refine xl (fun _ => lv_iload_n hx hb dX1_part_42 rfl (lv_at hl 4 rfl)) ?_
          refine x_tald hx hb hK 0 (by decide) j (rfl) (by show _ < 10; omega) (by decide) dX1_part_43 ?_
          refine xb (fun _ => lv_icmp_eq (tgt := 49) hx hb dX1_part_44 (by decide)) (fun c_44 => ?_) (fun c_44 => ?_)
          · refine xl (fun _ => lv_aload_n hx hb dX1_part_49 rfl (lv_at hl 1 rfl)) ?_
            refine xl (fun _ => lv_iload_n hx hb dX1_part_50 rfl (lv_at hl 2 rfl)) ?_
            refine xl (fun _ => lv_aload hx hb dX1_part_51 (lv_at hl 0 rfl)) ?_
            refine x_gets hx hb hts hown hK 1 (by decide) wFX1_75 dX1_part_53 ?_
            refine xl (fun _ => lv_iload_n hx hb dX1_part_56 rfl (lv_at hl 4 rfl)) ?_
            refine x_tald hx hb hK 1 (by decide) j (rfl) (by show _ < 10; omega) (by decide) dX1_part_57 ?_
            rw [hsl.1]
            rcases hs_58 : sp_pa (t i) (sp_sl j) with _ | k
            · refine x_callV E hl (show xC l G yX0_partAt cX0_partAt 2 (some (.object "TermSpread$Term")) 0 0 0 [.ref (ta i), .int (nI (sp_sl j))] H (xPu .null H) from by have q := c_X0_partAt l G H (ta i) (na i) (pa i) _ _ _ _ _ _ (hT i hi).2.2.2.1 (hT i hi).2.2.2.2.2 (sp_sl j) hsl.2; rw [hs_58] at q; exact q) xm_yX0_partAt wMX1_45 wI_yX0_partAt wT_yX0_partAt (ci := 0) rfl rfl ((hT i hi).2.2.2.1) (rest := [.int r, .ref b]) rfl (by simp [cat_rf, cat_int, cat_ref, cat_null]) (by decide) ⟨by decide, by decide⟩ dX1_part_58 (x_pure (r := .null) (st1 := []) ?_)
              refine x_callV E hl (c_X1_putInto_n l G H b lo n t rg ta na pa dv hV r) xm_yX1_putInto wMX1_81 wI_yX1_putInto wT_yX1_putInto (ci := 1) rfl rfl hX (rest := []) rfl (by decide) (by decide) ⟨by decide, by decide⟩ dX1_part_61 (fun v_1 H_2 hp_3 hz_4 hq_5 => ?_)
              obtain ⟨rfl, rfl⟩ := hp_3
              refine xg (g2 := F0 m 64 ls [.int (-1)]) rfl ?_
              exact x_iret hx hb hr hlocks hs0 hbs (by decide) (by decide) dX1_part_64 (⟨by simp only [op_part, hs_2, c_13, c_21, hcl, c_44, hs_58, reduceIte, Bool.false_eq_true, and_true, true_and, and_false, false_and, and_self, not_true_eq_false, not_false_eq_true], by simp only [op_part, hs_2, c_13, c_21, hcl, c_44, hs_58, reduceIte, Bool.false_eq_true, and_true, true_and, and_false, false_and, and_self, not_true_eq_false, not_false_eq_true]; exact hH, sc_F.rf⟩)
            · have hk := sc_bd hC i hi (sp_sl j) hsl.2 k hs_58
              refine x_callV E hl (show xC l G yX0_partAt cX0_partAt 2 (some (.object "TermSpread$Term")) 0 0 0 [.ref (ta i), .int (nI (sp_sl j))] H (xPu (.ref (ta k)) H) from by have q := c_X0_partAt l G H (ta i) (na i) (pa i) _ _ _ _ _ _ (hT i hi).2.2.2.1 (hT i hi).2.2.2.2.2 (sp_sl j) hsl.2; rw [hs_58] at q; exact q) xm_yX0_partAt wMX1_45 wI_yX0_partAt wT_yX0_partAt (ci := 0) rfl rfl ((hT i hi).2.2.2.1) (rest := [.int r, .ref b]) rfl (by simp [cat_rf, cat_int, cat_ref, cat_null]) (by decide) ⟨by decide, by decide⟩ dX1_part_58 (x_pure (r := .ref (ta k)) (st1 := []) ?_)
              refine x_callV E hl (c_X1_putInto l G H b lo n t rg ta na pa dv hV r k hk) xm_yX1_putInto wMX1_81 wI_yX1_putInto wT_yX1_putInto (ci := 1) rfl rfl hX (rest := []) rfl (by decide) (by decide) ⟨by decide, by decide⟩ dX1_part_61 (fun v_6 H_7 hp_8 hz_9 hq_10 => ?_)
              obtain ⟨rfl, hV2, hF2, hS2⟩ := hp_8
              refine xg (g2 := F0 m 64 ls [.int (sp_r1 r)]) rfl ?_
              exact x_iret hx hb hr hlocks hs0 hbs (by decide) (by decide) dX1_part_64 (⟨by simp only [op_part, hs_2, c_13, c_21, hcl, c_44, hs_58, reduceIte, Bool.false_eq_true, and_true, true_and, and_false, false_and, and_self, not_true_eq_false, not_false_eq_true], by simp only [op_part, hs_2, c_13, c_21, hcl, c_44, hs_58, reduceIte, Bool.false_eq_true, and_true, true_and, and_false, false_and, and_self, not_true_eq_false, not_false_eq_true]; exact ⟨ta, na, pa, dv, hV2, hD, hg⟩, hF2⟩)
          · refine xl (fun _ => lv_iconst (v := (-1)) hx hb dX1_part_47 (by decide)) ?_
            exact x_iret hx hb hr hlocks hs0 hbs (by decide) (by decide) dX1_part_48 (⟨by simp only [op_part, hs_2, c_13, c_21, hcl, c_44, reduceIte, Bool.false_eq_true, and_true, true_and, and_false, false_and, and_self, not_true_eq_false, not_false_eq_true], by simp only [op_part, hs_2, c_13, c_21, hcl, c_44, reduceIte, Bool.false_eq_true, and_true, true_and, and_false, false_and, and_self, not_true_eq_false, not_false_eq_true]; exact hH, sc_F.rf⟩)
        · exact absurd (Int32.not_le.mp c_21) c_29

set_option maxHeartbeats 4000000 in
set_option maxRecDepth 100000 in
theorem c_X1_give (l : Launch) (G : sg_G) (H : Heap) (b lo n : Nat) (t : Nat → sp_T) (rg : Nat → Option Nat) (g : Nat → Prop) (hH : sc_H G b lo n t rg g H) (x : Int32) : xC l G yX1_give cX1_give 4 (some FieldType.int) 5 0 0 [.ref b, .int x] H (fun ans H' => ans = some (.int (op_give (n, t, rg, g) x).1) ∧ sc_HS G b lo (op_give (n, t, rg, g) x).2 H' ∧ sc_F b lo H H') := by
  refine xC.start (by decide) (Nat.le_of_ble_eq_true rfl) ?_
  intro p e s m args below meth c ls E hnm hs0 hl
  obtain ⟨hx, hb, hml, hown, hts, hr, hlocks, hK, hbs⟩ := id E
  have hl : lv_has ls 4 [(0, .ref b), (1, .int x)] := hl
  obtain ⟨ta, na, pa, dv, hV, hD, hg⟩ := id hH
  obtain ⟨fc, hC, hfI⟩ := id hV
  obtain ⟨hw, hb0, hb4, hlo, hn5, hX, hRG, hMD, hZR, hT, hrg, hwf⟩ := id hC
  have hFF : sc_F b lo H H := sc_F.rf
  have hSS : H.size = H.size := rfl
  refine xl (fun _ => lv_aload_n hx hb dX1_give_0 rfl (lv_at hl 0 rfl)) ?_
  refine xl (fun _ => lv_iload_n hx hb dX1_give_1 rfl (lv_at hl 1 rfl)) ?_
  rcases hs_2 : sp_rg rg x with _ | i
  · refine x_callV E hl (c_X1_termIn_n l G H b lo n _ t dv fc rg ta na pa hC x hs_2) xm_yX1_termIn wMX1_49 wI_yX1_termIn wT_yX1_termIn (ci := 1) rfl rfl hX (rest := []) rfl (by decide) (by decide) ⟨by decide, by decide⟩ dX1_give_2 (x_pure (r := .null) (st1 := []) ?_)
    refine xs (fun _ => lv_astore_nN (i := 2) (lv' := [(2, .null), (0, .ref b), (1, .int x)]) hx hb dX1_give_5 rfl hl (by decide) (rfl)) (fun ls hl => ?_)
    refine xl (fun _ => lv_aload_nN hx hb dX1_give_6 rfl (lv_at hl 0 rfl)) ?_
    refine xl (fun _ => lv_ifnonnullN hx hb dX1_give_7) ?_
    refine xl (fun _ => lv_iconst (v := (-1)) hx hb dX1_give_10 (by decide)) ?_
    exact x_iret hx hb hr hlocks hs0 hbs (by decide) (by decide) dX1_give_11 (⟨by simp only [op_give, hs_2], by simp only [op_give, hs_2]; exact hH, sc_F.rf⟩)
  · have hi := sp_rg_lt hrg hs_2
    refine x_callV E hl (c_X1_termIn_s l G H b lo n _ t dv fc rg ta na pa hC x hs_2) xm_yX1_termIn wMX1_49 wI_yX1_termIn wT_yX1_termIn (ci := 1) rfl rfl hX (rest := []) rfl (by decide) (by decide) ⟨by decide, by decide⟩ dX1_give_2 (x_pure (r := .ref (ta i)) (st1 := []) ?_)
    refine xs (fun _ => lv_astore_n (i := 2) (lv' := [(2, .ref (ta i)), (0, .ref b), (1, .int x)]) hx hb dX1_give_5 rfl hl (by decide) (rfl)) (fun ls hl => ?_)
    refine xl (fun _ => lv_aload_n hx hb dX1_give_6 rfl (lv_at hl 0 rfl)) ?_
    refine xl (fun _ => lv_ifnonnull (tgt := 12) hx hb dX1_give_7 (by decide)) ?_
    refine xl (fun _ => lv_aload_n hx hb dX1_give_12 rfl (lv_at hl 0 rfl)) ?_
    refine x_get (ci := 0) hx hb hts hown hK wiX0 ((hT i hi).2.2.2.1) rfl 5 (by decide) wFX1_84 rfl rfl dX1_give_13 ?_
    refine xb (fun _ => lv_if_eq (tgt := 21) hx hb dX1_give_16 (by decide)) (fun c_16 => ?_) (fun c_16 => ?_)
    · have c_16 := bI_f c_16
      refine xl (fun _ => lv_aload_n hx hb dX1_give_21 rfl (lv_at hl 1 rfl)) ?_
      refine x_get (ci := 1) hx hb hts hown hK wiX1 hX rfl 3 (by decide) wFX1_22 rfl rfl dX1_give_22 ?_
      refine xs (fun _ => lv_istore_n (i := 3) (lv' := [(3, .int (nI (sp_ct dv n))), (2, .ref (ta i)), (0, .ref b), (1, .int x)]) hx hb dX1_give_25 rfl hl (by decide) (rfl)) (fun ls hl => ?_)
      refine xl (fun _ => lv_aload_n hx hb dX1_give_26 rfl (lv_at hl 2 rfl)) ?_
      refine xl (fun _ => lv_aload_n hx hb dX1_give_27 rfl (lv_at hl 1 rfl)) ?_
      refine x_callV E hl (c_X1_derive_s l G H b lo n t rg ta na pa dv hV i hi) xm_yX1_derive wMX1_88 wI_yX1_derive wT_yX1_derive (ci := 1) rfl rfl hX (rest := []) rfl (by decide) (by decide) ⟨by decide, by decide⟩ dX1_give_28 (fun v_1 H_2 hp_3 hz_4 hq_5 => ?_)
      obtain ⟨rfl, hV, hF2, hS2⟩ := hp_3
      have hFF := hFF.tr hF2
      refine xg (g2 := F0 m 31 ls []) rfl ?_
      obtain ⟨fc, hC, hfI⟩ := id hV
      obtain ⟨hw, hb0, hb4, hlo, hn5, hX, hRG, hMD, hZR, hT, hrg, hwf⟩ := id hC
      refine xl (fun _ => lv_aload_n hx hb dX1_give_31 rfl (lv_at hl 2 rfl)) ?_
      refine x_callV E hl (c_X1_spread l G H_2 b lo n t rg ta na pa _ hV) xm_yX1_spread wMX1_92 wI_yX1_spread wT_yX1_spread (ci := 1) rfl rfl hX (rest := []) rfl (by decide) (by decide) ⟨by decide, by decide⟩ dX1_give_32 (fun v_6 H_7 hp_8 hz_9 hq_10 => ?_)
      obtain ⟨rfl, ⟨dv2, hV, hok, hcd⟩, hF2, hS2⟩ := hp_8
      have hFF := hFF.tr hF2
      refine xg (g2 := F0 m 35 ls []) rfl ?_
      obtain ⟨fc, hC, hfI⟩ := id hV
      obtain ⟨hw, hb0, hb4, hlo, hn5, hX, hRG, hMD, hZR, hT, hrg, hwf⟩ := id hC
      have hD2 := sp_der_give hi hD hok hcd
      refine xl (fun _ => lv_aload_n hx hb dX1_give_35 rfl (lv_at hl 2 rfl)) ?_
      refine x_get (ci := 1) hx hb hts hown hK wiX1 hX rfl 3 (by decide) wFX1_22 rfl rfl dX1_give_36 ?_
      refine xl (fun _ => lv_iload_n hx hb dX1_give_39 rfl (lv_at hl 0 rfl)) ?_
      refine xl (fun _ => lv_isub hx hb dX1_give_40) ?_
      exact x_iret hx hb hr hlocks hs0 hbs (by decide) (by decide) dX1_give_41 (⟨by simp only [op_give, hs_2]; rw [sp_dc_eq hD2, sp_dc_eq hD], by simp only [op_give, hs_2]; exact ⟨ta, na, pa, dv2, hV, hD2, fun j h => by rcases h with h | rfl; exact hg j h; exact hi⟩, hFF⟩)
    · have c_16 := bI_t c_16
      refine xl (fun _ => lv_iconst (v := 0) hx hb dX1_give_19 (by decide)) ?_
      exact x_iret hx hb hr hlocks hs0 hbs (by decide) (by decide) dX1_give_20 (⟨by simp only [op_give, hs_2]; rw [sp_dc_same ((hD i hi).mp c_16), Int32.sub_self], by simp only [op_give, hs_2]; exact ⟨ta, na, pa, dv, hV, fun j hj => (hD j hj).trans ⟨sp_der_gv_mono i j, sp_der_gv_old ((hD i hi).mp c_16) j⟩, fun j h => by rcases h with h | rfl; exact hg j h; exact hi⟩, sc_F.rf⟩)

set_option maxHeartbeats 4000000 in
set_option maxRecDepth 100000 in
theorem c_X1_derived (l : Launch) (G : sg_G) (H : Heap) (b lo n : Nat) (t : Nat → sp_T) (rg : Nat → Option Nat) (g : Nat → Prop) (hH : sc_H G b lo n t rg g H) (x : Int32) : xC l G yX1_derived cX1_derived 3 (some FieldType.int) 2 0 0 [.ref b, .int x] H (xPu (.int (op_derived (n, t, rg, g) x)) H) := by
  refine xC.start (by decide) (Nat.le_of_ble_eq_true rfl) ?_
  intro p e s m args below meth c ls E hnm hs0 hl
  obtain ⟨hx, hb, hml, hown, hts, hr, hlocks, hK, hbs⟩ := id E
  have hl : lv_has ls 3 [(0, .ref b), (1, .int x)] := hl
  obtain ⟨ta, na, pa, dv, hV, hD, hg⟩ := id hH
  obtain ⟨fc, hC, hfI⟩ := id hV
  obtain ⟨hw, hb0, hb4, hlo, hn5, hX, hRG, hMD, hZR, hT, hrg, hwf⟩ := id hC
  have hFF : sc_F b lo H H := sc_F.rf
  have hSS : H.size = H.size := rfl
  refine xl (fun _ => lv_aload_n hx hb dX1_derived_0 rfl (lv_at hl 0 rfl)) ?_
  refine xl (fun _ => lv_iload_n hx hb dX1_derived_1 rfl (lv_at hl 1 rfl)) ?_
  rcases hs_2 : sp_rg rg x with _ | i
  · refine x_callV E hl (c_X1_termIn_n l G H b lo n _ t dv fc rg ta na pa hC x hs_2) xm_yX1_termIn wMX1_49 wI_yX1_termIn wT_yX1_termIn (ci := 1) rfl rfl hX (rest := []) rfl (by decide) (by decide) ⟨by decide, by decide⟩ dX1_derived_2 (x_pure (r := .null) (st1 := []) ?_)
    refine xs (fun _ => lv_astore_nN (i := 2) (lv' := [(2, .null), (0, .ref b), (1, .int x)]) hx hb dX1_derived_5 rfl hl (by decide) (rfl)) (fun ls hl => ?_)
    refine xl (fun _ => lv_aload_nN hx hb dX1_derived_6 rfl (lv_at hl 0 rfl)) ?_
    refine xl (fun _ => lv_ifnonnullN hx hb dX1_derived_7) ?_
    refine xl (fun _ => lv_iconst (v := (-1)) hx hb dX1_derived_10 (by decide)) ?_
    exact x_iret hx hb hr hlocks hs0 hbs (by decide) (by decide) dX1_derived_11 (⟨by simp only [op_derived, hs_2], rfl⟩)
  · have hi := sp_rg_lt hrg hs_2
    refine x_callV E hl (c_X1_termIn_s l G H b lo n _ t dv fc rg ta na pa hC x hs_2) xm_yX1_termIn wMX1_49 wI_yX1_termIn wT_yX1_termIn (ci := 1) rfl rfl hX (rest := []) rfl (by decide) (by decide) ⟨by decide, by decide⟩ dX1_derived_2 (x_pure (r := .ref (ta i)) (st1 := []) ?_)
    refine xs (fun _ => lv_astore_n (i := 2) (lv' := [(2, .ref (ta i)), (0, .ref b), (1, .int x)]) hx hb dX1_derived_5 rfl hl (by decide) (rfl)) (fun ls hl => ?_)
    refine xl (fun _ => lv_aload_n hx hb dX1_derived_6 rfl (lv_at hl 0 rfl)) ?_
    refine xl (fun _ => lv_ifnonnull (tgt := 12) hx hb dX1_derived_7 (by decide)) ?_
    refine xl (fun _ => lv_aload_n hx hb dX1_derived_12 rfl (lv_at hl 0 rfl)) ?_
    refine x_get (ci := 0) hx hb hts hown hK wiX0 ((hT i hi).2.2.2.1) rfl 5 (by decide) wFX1_84 rfl rfl dX1_derived_13 ?_
    refine xb (fun _ => lv_if_eq (tgt := 23) hx hb dX1_derived_16 (by decide)) (fun c_16 => ?_) (fun c_16 => ?_)
    · have c_16 := bI_f c_16
      refine xl (fun _ => lv_iconst (v := 0) hx hb dX1_derived_23 (by decide)) ?_
      exact x_iret hx hb hr hlocks hs0 hbs (by decide) (by decide) dX1_derived_24 (⟨by simp only [op_derived, hs_2]; rw [show sp_dB n t g i = dv i from bool_eq (sp_dB_t.trans (hD i hi).symm), c_16]; rfl, rfl⟩)
    · have c_16 := bI_t c_16
      refine xl (fun _ => lv_iconst (v := 1) hx hb dX1_derived_19 (by decide)) ?_
      refine xl (fun _ => lv_goto (tgt := 24) hx hb dX1_derived_20 (by decide)) ?_
      exact x_iret hx hb hr hlocks hs0 hbs (by decide) (by decide) dX1_derived_24 (⟨by simp only [op_derived, hs_2]; rw [show sp_dB n t g i = dv i from bool_eq (sp_dB_t.trans (hD i hi).symm), c_16]; rfl, rfl⟩)

set_option maxHeartbeats 4000000 in
set_option maxRecDepth 100000 in
theorem c_X1_same (l : Launch) (G : sg_G) (H : Heap) (b lo n : Nat) (t : Nat → sp_T) (rg : Nat → Option Nat) (g : Nat → Prop) (hH : sc_H G b lo n t rg g H) (x y : Int32) : xC l G yX1_same cX1_same 5 (some FieldType.int) 2 0 0 [.ref b, .int x, .int y] H (xPu (.int (op_same (n, t, rg, g) x y)) H) := by
  refine xC.start (by decide) (Nat.le_of_ble_eq_true rfl) ?_
  intro p e s m args below meth c ls E hnm hs0 hl
  obtain ⟨hx, hb, hml, hown, hts, hr, hlocks, hK, hbs⟩ := id E
  have hl : lv_has ls 5 [(0, .ref b), (1, .int x), (2, .int y)] := hl
  obtain ⟨ta, na, pa, dv, hV, hD, hg⟩ := id hH
  obtain ⟨fc, hC, hfI⟩ := id hV
  obtain ⟨hw, hb0, hb4, hlo, hn5, hX, hRG, hMD, hZR, hT, hrg, hwf⟩ := id hC
  have hFF : sc_F b lo H H := sc_F.rf
  have hSS : H.size = H.size := rfl
  refine xl (fun _ => lv_aload_n hx hb dX1_same_0 rfl (lv_at hl 0 rfl)) ?_
  refine xl (fun _ => lv_iload_n hx hb dX1_same_1 rfl (lv_at hl 1 rfl)) ?_
  rcases hs_2 : sp_rg rg x with _ | i
  · refine x_callV E hl (c_X1_termIn_n l G H b lo n _ t dv fc rg ta na pa hC x hs_2) xm_yX1_termIn wMX1_49 wI_yX1_termIn wT_yX1_termIn (ci := 1) rfl rfl hX (rest := []) rfl (by decide) (by decide) ⟨by decide, by decide⟩ dX1_same_2 (x_pure (r := .null) (st1 := []) ?_)
    refine xs (fun _ => lv_astore_nN (i := 3) (lv' := [(3, .null), (0, .ref b), (1, .int x), (2, .int y)]) hx hb dX1_same_5 rfl hl (by decide) (rfl)) (fun ls hl => ?_)
    refine xl (fun _ => lv_aload_n hx hb dX1_same_6 rfl (lv_at hl 1 rfl)) ?_
    refine xl (fun _ => lv_iload_n hx hb dX1_same_7 rfl (lv_at hl 3 rfl)) ?_
    rcases hs_8 : sp_rg rg y with _ | j
    · refine x_callV E hl (c_X1_termIn_n l G H b lo n _ t dv fc rg ta na pa hC y hs_8) xm_yX1_termIn wMX1_49 wI_yX1_termIn wT_yX1_termIn (ci := 1) rfl rfl hX (rest := []) rfl (by decide) (by decide) ⟨by decide, by decide⟩ dX1_same_8 (x_pure (r := .null) (st1 := []) ?_)
      refine xs (fun _ => lv_astoreN (i := 4) (lv' := [(4, .null), (3, .null), (0, .ref b), (1, .int x), (2, .int y)]) hx hb dX1_same_11 hl (by decide) (rfl)) (fun ls hl => ?_)
      refine xl (fun _ => lv_aload_nN hx hb dX1_same_13 rfl (lv_at hl 1 rfl)) ?_
      refine xl (fun _ => lv_ifnullN (tgt := 22) hx hb dX1_same_14 (by decide)) ?_
      refine xl (fun _ => lv_iconst (v := (-1)) hx hb dX1_same_22 (by decide)) ?_
      exact x_iret hx hb hr hlocks hs0 hbs (by decide) (by decide) dX1_same_23 (⟨by simp only [op_same, hs_2, hs_8], rfl⟩)
    · have hj := sp_rg_lt hrg hs_8
      refine x_callV E hl (c_X1_termIn_s l G H b lo n _ t dv fc rg ta na pa hC y hs_8) xm_yX1_termIn wMX1_49 wI_yX1_termIn wT_yX1_termIn (ci := 1) rfl rfl hX (rest := []) rfl (by decide) (by decide) ⟨by decide, by decide⟩ dX1_same_8 (x_pure (r := .ref (ta j)) (st1 := []) ?_)
      refine xs (fun _ => lv_astore (i := 4) (lv' := [(4, .ref (ta j)), (3, .null), (0, .ref b), (1, .int x), (2, .int y)]) hx hb dX1_same_11 hl (by decide) (rfl)) (fun ls hl => ?_)
      refine xl (fun _ => lv_aload_nN hx hb dX1_same_13 rfl (lv_at hl 1 rfl)) ?_
      refine xl (fun _ => lv_ifnullN (tgt := 22) hx hb dX1_same_14 (by decide)) ?_
      refine xl (fun _ => lv_iconst (v := (-1)) hx hb dX1_same_22 (by decide)) ?_
      exact x_iret hx hb hr hlocks hs0 hbs (by decide) (by decide) dX1_same_23 (⟨by simp only [op_same, hs_2, hs_8], rfl⟩)
  · have hi := sp_rg_lt hrg hs_2
    refine x_callV E hl (c_X1_termIn_s l G H b lo n _ t dv fc rg ta na pa hC x hs_2) xm_yX1_termIn wMX1_49 wI_yX1_termIn wT_yX1_termIn (ci := 1) rfl rfl hX (rest := []) rfl (by decide) (by decide) ⟨by decide, by decide⟩ dX1_same_2 (x_pure (r := .ref (ta i)) (st1 := []) ?_)
    refine xs (fun _ => lv_astore_n (i := 3) (lv' := [(3, .ref (ta i)), (0, .ref b), (1, .int x), (2, .int y)]) hx hb dX1_same_5 rfl hl (by decide) (rfl)) (fun ls hl => ?_)
    refine xl (fun _ => lv_aload_n hx hb dX1_same_6 rfl (lv_at hl 1 rfl)) ?_
    refine xl (fun _ => lv_iload_n hx hb dX1_same_7 rfl (lv_at hl 3 rfl)) ?_
    rcases hs_8 : sp_rg rg y with _ | j
    · refine x_callV E hl (c_X1_termIn_n l G H b lo n _ t dv fc rg ta na pa hC y hs_8) xm_yX1_termIn wMX1_49 wI_yX1_termIn wT_yX1_termIn (ci := 1) rfl rfl hX (rest := []) rfl (by decide) (by decide) ⟨by decide, by decide⟩ dX1_same_8 (x_pure (r := .null) (st1 := []) ?_)
      refine xs (fun _ => lv_astoreN (i := 4) (lv' := [(4, .null), (3, .ref (ta i)), (0, .ref b), (1, .int x), (2, .int y)]) hx hb dX1_same_11 hl (by decide) (rfl)) (fun ls hl => ?_)
      refine xl (fun _ => lv_aload_n hx hb dX1_same_13 rfl (lv_at hl 1 rfl)) ?_
      refine xl (fun _ => lv_ifnull hx hb dX1_same_14) ?_
      refine xl (fun _ => lv_aloadN hx hb dX1_same_17 (lv_at hl 0 rfl)) ?_
      refine xl (fun _ => lv_ifnonnullN hx hb dX1_same_19) ?_
      refine xl (fun _ => lv_iconst (v := (-1)) hx hb dX1_same_22 (by decide)) ?_
      exact x_iret hx hb hr hlocks hs0 hbs (by decide) (by decide) dX1_same_23 (⟨by simp only [op_same, hs_2, hs_8], rfl⟩)
    · have hj := sp_rg_lt hrg hs_8
      refine x_callV E hl (c_X1_termIn_s l G H b lo n _ t dv fc rg ta na pa hC y hs_8) xm_yX1_termIn wMX1_49 wI_yX1_termIn wT_yX1_termIn (ci := 1) rfl rfl hX (rest := []) rfl (by decide) (by decide) ⟨by decide, by decide⟩ dX1_same_8 (x_pure (r := .ref (ta j)) (st1 := []) ?_)
      refine xs (fun _ => lv_astore (i := 4) (lv' := [(4, .ref (ta j)), (3, .ref (ta i)), (0, .ref b), (1, .int x), (2, .int y)]) hx hb dX1_same_11 hl (by decide) (rfl)) (fun ls hl => ?_)
      refine xl (fun _ => lv_aload_n hx hb dX1_same_13 rfl (lv_at hl 1 rfl)) ?_
      refine xl (fun _ => lv_ifnull hx hb dX1_same_14) ?_
      refine xl (fun _ => lv_aload hx hb dX1_same_17 (lv_at hl 0 rfl)) ?_
      refine xl (fun _ => lv_ifnonnull (tgt := 24) hx hb dX1_same_19 (by decide)) ?_
      refine xl (fun _ => lv_aload_n hx hb dX1_same_24 rfl (lv_at hl 1 rfl)) ?_
      refine xl (fun _ => lv_aload hx hb dX1_same_25 (lv_at hl 0 rfl)) ?_
      refine xb (fun _ => lv_acmp_ne (rx := (some (ta i))) (ry := (some (ta j))) (tgt := 34) hx hb dX1_same_27 (by decide)) (fun c_27 => ?_) (fun c_27 => ?_)
      · refine xl (fun _ => lv_iconst (v := 0) hx hb dX1_same_34 (by decide)) ?_
        exact x_iret hx hb hr hlocks hs0 hbs (by decide) (by decide) dX1_same_35 (⟨by simp only [op_same, hs_2, hs_8]; rw [if_neg (fun e => c_27 (by rw [e]))], rfl⟩)
      · refine xl (fun _ => lv_iconst (v := 1) hx hb dX1_same_30 (by decide)) ?_
        refine xl (fun _ => lv_goto (tgt := 35) hx hb dX1_same_31 (by decide)) ?_
        exact x_iret hx hb hr hlocks hs0 hbs (by decide) (by decide) dX1_same_35 (⟨by simp only [op_same, hs_2, hs_8]; rw [if_pos (sc_inj hC hi hj (Option.some.inj c_27))], rfl⟩)

set_option maxHeartbeats 4000000 in
set_option maxRecDepth 100000 in
theorem c_X1_about (l : Launch) (G : sg_G) (H : Heap) (b lo n : Nat) (t : Nat → sp_T) (rg : Nat → Option Nat) (g : Nat → Prop) (hH : sc_H G b lo n t rg g H) (x w : Int32) : xC l G yX1_about cX1_about 4 (some FieldType.int) 2 0 0 [.ref b, .int x, .int w] H (xPu (.int (op_about (n, t, rg, g) x w)) H) := by
  refine xC.start (by decide) (Nat.le_of_ble_eq_true rfl) ?_
  intro p e s m args below meth c ls E hnm hs0 hl
  obtain ⟨hx, hb, hml, hown, hts, hr, hlocks, hK, hbs⟩ := id E
  have hl : lv_has ls 4 [(0, .ref b), (1, .int x), (2, .int w)] := hl
  obtain ⟨ta, na, pa, dv, hV, hD, hg⟩ := id hH
  obtain ⟨fc, hC, hfI⟩ := id hV
  obtain ⟨hw, hb0, hb4, hlo, hn5, hX, hRG, hMD, hZR, hT, hrg, hwf⟩ := id hC
  have hFF : sc_F b lo H H := sc_F.rf
  have hSS : H.size = H.size := rfl
  refine xl (fun _ => lv_aload_n hx hb dX1_about_0 rfl (lv_at hl 0 rfl)) ?_
  refine xl (fun _ => lv_iload_n hx hb dX1_about_1 rfl (lv_at hl 1 rfl)) ?_
  rcases hs_2 : sp_rg rg x with _ | i
  · refine x_callV E hl (c_X1_termIn_n l G H b lo n _ t dv fc rg ta na pa hC x hs_2) xm_yX1_termIn wMX1_49 wI_yX1_termIn wT_yX1_termIn (ci := 1) rfl rfl hX (rest := []) rfl (by decide) (by decide) ⟨by decide, by decide⟩ dX1_about_2 (x_pure (r := .null) (st1 := []) ?_)
    refine xs (fun _ => lv_astore_nN (i := 3) (lv' := [(3, .null), (0, .ref b), (1, .int x), (2, .int w)]) hx hb dX1_about_5 rfl hl (by decide) (rfl)) (fun ls hl => ?_)
    refine xl (fun _ => lv_aload_nN hx hb dX1_about_6 rfl (lv_at hl 0 rfl)) ?_
    refine xl (fun _ => lv_ifnonnullN hx hb dX1_about_7) ?_
    refine xl (fun _ => lv_iconst (v := (-1)) hx hb dX1_about_10 (by decide)) ?_
    exact x_iret hx hb hr hlocks hs0 hbs (by decide) (by decide) dX1_about_11 (⟨by simp only [op_about, hs_2, reduceIte, Bool.false_eq_true, and_true, true_and, and_false, false_and, and_self, not_true_eq_false, not_false_eq_true], rfl⟩)
  · have hi := sp_rg_lt hrg hs_2
    refine x_callV E hl (c_X1_termIn_s l G H b lo n _ t dv fc rg ta na pa hC x hs_2) xm_yX1_termIn wMX1_49 wI_yX1_termIn wT_yX1_termIn (ci := 1) rfl rfl hX (rest := []) rfl (by decide) (by decide) ⟨by decide, by decide⟩ dX1_about_2 (x_pure (r := .ref (ta i)) (st1 := []) ?_)
    refine xs (fun _ => lv_astore_n (i := 3) (lv' := [(3, .ref (ta i)), (0, .ref b), (1, .int x), (2, .int w)]) hx hb dX1_about_5 rfl hl (by decide) (rfl)) (fun ls hl => ?_)
    refine xl (fun _ => lv_aload_n hx hb dX1_about_6 rfl (lv_at hl 0 rfl)) ?_
    refine xl (fun _ => lv_ifnonnull (tgt := 12) hx hb dX1_about_7 (by decide)) ?_
    refine xl (fun _ => lv_iload_n hx hb dX1_about_12 rfl (lv_at hl 3 rfl)) ?_
    refine xb (fun _ => lv_if_ne (tgt := 21) hx hb dX1_about_13 (by decide)) (fun c_13 => ?_) (fun c_13 => ?_)
    · refine xl (fun _ => lv_iload_n hx hb dX1_about_21 rfl (lv_at hl 3 rfl)) ?_
      refine xl (fun _ => lv_iconst (v := 1) hx hb dX1_about_22 (by decide)) ?_
      refine xb (fun _ => lv_icmp_ne (tgt := 31) hx hb dX1_about_23 (by decide)) (fun c_23 => ?_) (fun c_23 => ?_)
      · refine xl (fun _ => lv_iload_n hx hb dX1_about_31 rfl (lv_at hl 3 rfl)) ?_
        refine xl (fun _ => lv_iconst (v := 2) hx hb dX1_about_32 (by decide)) ?_
        refine xl (fun _ => lv_isub hx hb dX1_about_33) ?_
        refine x_callS E hl (c_X1_isSlot l G H (w - 2)) xm_yX1_isSlot wMX1_59 wS_yX1_isSlot (rest := []) rfl (by decide) (by decide) ⟨by decide, by decide⟩ dX1_about_34 (x_pure (r := .int (bI (sp_is (w - 2)))) (st1 := []) ?_)
        refine xb (fun _ => lv_if_eq (tgt := 50) hx hb dX1_about_37 (by decide)) (fun c_37 => ?_) (fun c_37 => ?_)
        · have c_37 := bI_f c_37
          refine xl (fun _ => lv_iconst (v := (-1)) hx hb dX1_about_50 (by decide)) ?_
          exact x_iret hx hb hr hlocks hs0 hbs (by decide) (by decide) dX1_about_51 (⟨by simp only [op_about, hs_2, c_13, c_23, c_37, reduceIte, Bool.false_eq_true, and_true, true_and, and_false, false_and, and_self, not_true_eq_false, not_false_eq_true], rfl⟩)
        · have c_37 := bI_t c_37
          obtain ⟨j, hj, hje⟩ := sp_is_of c_37
          have hcl : (w - 2).toNatClampNeg = j := by rw [hje]; exact nI_clamp (by omega)
          refine xl (fun _ => lv_aload_n hx hb dX1_about_40 rfl (lv_at hl 0 rfl)) ?_
          refine xl (fun _ => lv_iload_n hx hb dX1_about_41 rfl (lv_at hl 3 rfl)) ?_
          refine xl (fun _ => lv_iconst (v := 2) hx hb dX1_about_42 (by decide)) ?_
          refine xl (fun _ => lv_isub hx hb dX1_about_43) ?_
          rw [show (w - 2) = (nI j) from hje]
          refine x_callV E hl (c_X0_numberAt l G H (ta i) (na i) (pa i) _ _ _ _ _ _ (hT i hi).2.2.2.1 (hT i hi).2.2.2.2.1 j hj) xm_yX0_numberAt wMX1_105 wI_yX0_numberAt wT_yX0_numberAt (ci := 0) rfl rfl ((hT i hi).2.2.2.1) (rest := []) rfl (by decide) (by decide) ⟨by decide, by decide⟩ dX1_about_44 (x_pure (r := .int (sp_nu (t i) j)) (st1 := []) ?_)
          refine xl (fun _ => lv_goto (tgt := 51) hx hb dX1_about_47 (by decide)) ?_
          exact x_iret hx hb hr hlocks hs0 hbs (by decide) (by decide) dX1_about_51 (⟨by simp only [op_about, hs_2, c_13, c_23, c_37, hcl, reduceIte, Bool.false_eq_true, and_true, true_and, and_false, false_and, and_self, not_true_eq_false, not_false_eq_true], rfl⟩)
      · have c_13 : ¬ (1 : Int32) = 0 := by decide
        refine xl (fun _ => lv_aload_n hx hb dX1_about_26 rfl (lv_at hl 0 rfl)) ?_
        refine x_get (ci := 0) hx hb hts hown hK wiX0 ((hT i hi).2.2.2.1) rfl 1 (by decide) wFX1_102 rfl rfl dX1_about_27 ?_
        exact x_iret hx hb hr hlocks hs0 hbs (by decide) (by decide) dX1_about_30 (⟨by simp only [op_about, hs_2, c_13, c_23, reduceIte, Bool.false_eq_true, and_true, true_and, and_false, false_and, and_self, not_true_eq_false, not_false_eq_true], rfl⟩)
    · refine xl (fun _ => lv_aload_n hx hb dX1_about_16 rfl (lv_at hl 0 rfl)) ?_
      refine x_get (ci := 0) hx hb hts hown hK wiX0 ((hT i hi).2.2.2.1) rfl 0 (by decide) wFX1_78 rfl rfl dX1_about_17 ?_
      exact x_iret hx hb hr hlocks hs0 hbs (by decide) (by decide) dX1_about_20 (⟨by simp only [op_about, hs_2, c_13, reduceIte, Bool.false_eq_true, and_true, true_and, and_false, false_and, and_self, not_true_eq_false, not_false_eq_true], rfl⟩)

set_option maxHeartbeats 4000000 in
set_option maxRecDepth 100000 in
theorem c_X1_count (l : Launch) (G : sg_G) (H : Heap) (b lo n : Nat) (t : Nat → sp_T) (rg : Nat → Option Nat) (g : Nat → Prop) (hH : sc_H G b lo n t rg g H) (w : Int32) : xC l G yX1_count cX1_count 2 (some FieldType.int) 1 0 0 [.ref b, .int w] H (xPu (.int (op_count (n, t, rg, g) w)) H) := by
  refine xC.start (by decide) (Nat.le_of_ble_eq_true rfl) ?_
  intro p e s m args below meth c ls E hnm hs0 hl
  obtain ⟨hx, hb, hml, hown, hts, hr, hlocks, hK, hbs⟩ := id E
  have hl : lv_has ls 2 [(0, .ref b), (1, .int w)] := hl
  obtain ⟨ta, na, pa, dv, hV, hD, hg⟩ := id hH
  obtain ⟨fc, hC, hfI⟩ := id hV
  obtain ⟨hw, hb0, hb4, hlo, hn5, hX, hRG, hMD, hZR, hT, hrg, hwf⟩ := id hC
  have hFF : sc_F b lo H H := sc_F.rf
  have hSS : H.size = H.size := rfl
  refine xl (fun _ => lv_iload_n hx hb dX1_count_0 rfl (lv_at hl 1 rfl)) ?_
  refine xb (fun _ => lv_if_ne (tgt := 9) hx hb dX1_count_1 (by decide)) (fun c_1 => ?_) (fun c_1 => ?_)
  · refine xl (fun _ => lv_iload_n hx hb dX1_count_9 rfl (lv_at hl 1 rfl)) ?_
    refine xl (fun _ => lv_iconst (v := 1) hx hb dX1_count_10 (by decide)) ?_
    refine xb (fun _ => lv_icmp_ne (tgt := 21) hx hb dX1_count_11 (by decide)) (fun c_11 => ?_) (fun c_11 => ?_)
    · refine xl (fun _ => lv_iconst (v := (-1)) hx hb dX1_count_21 (by decide)) ?_
      exact x_iret hx hb hr hlocks hs0 hbs (by decide) (by decide) dX1_count_22 (⟨by simp only [op_count, c_1, c_11, reduceIte, Bool.false_eq_true, and_true, true_and, and_false, false_and, and_self, not_true_eq_false, not_false_eq_true], rfl⟩)
    · have c_1 : ¬ (1 : Int32) = 0 := by decide
      refine xl (fun _ => lv_aload_n hx hb dX1_count_14 rfl (lv_at hl 0 rfl)) ?_
      refine x_get (ci := 1) hx hb hts hown hK wiX1 hX rfl 3 (by decide) wFX1_22 rfl rfl dX1_count_15 ?_
      refine xl (fun _ => lv_goto (tgt := 22) hx hb dX1_count_18 (by decide)) ?_
      exact x_iret hx hb hr hlocks hs0 hbs (by decide) (by decide) dX1_count_22 (⟨by simp only [op_count, c_1, c_11, reduceIte, Bool.false_eq_true, and_true, true_and, and_false, false_and, and_self, not_true_eq_false, not_false_eq_true]; rw [sp_dc_eq hD], rfl⟩)
  · refine xl (fun _ => lv_aload_n hx hb dX1_count_4 rfl (lv_at hl 0 rfl)) ?_
    refine x_get (ci := 1) hx hb hts hown hK wiX1 hX rfl 2 (by decide) wFX1_18 rfl rfl dX1_count_5 ?_
    exact x_iret hx hb hr hlocks hs0 hbs (by decide) (by decide) dX1_count_8 (⟨by simp only [op_count, c_1, reduceIte, Bool.false_eq_true, and_true, true_and, and_false, false_and, and_self, not_true_eq_false, not_false_eq_true], rfl⟩)

set_option maxHeartbeats 4000000 in
set_option maxRecDepth 100000 in
theorem c_X1_placeInTable (l : Launch) (G : sg_G) (H : Heap) (kk k : Nat) : xC l G yX1_placeInTable cX1_placeInTable 2 (some FieldType.int) 0 0 0 [.int (nI (kk + 1)), .int (nI k)] H (xPu (.int (nI (kk * 4 + k))) H) := by
  refine xC.start (by decide) (Nat.le_of_ble_eq_true rfl) ?_
  intro p e s m args below meth c ls E hnm hs0 hl
  obtain ⟨hx, hb, hml, hown, hts, hr, hlocks, hK, hbs⟩ := id E
  have hl : lv_has ls 2 [(0, .int (nI (kk + 1))), (1, .int (nI k))] := hl
  refine xl (fun _ => lv_iload_n hx hb dX1_placeInTable_0 rfl (lv_at hl 0 rfl)) ?_
  refine xl (fun _ => lv_iconst (v := 1) hx hb dX1_placeInTable_1 (by decide)) ?_
  refine xl (fun _ => lv_isub hx hb dX1_placeInTable_2) ?_
  refine xl (fun _ => lv_iconst (v := 4) hx hb dX1_placeInTable_3 (by decide)) ?_
  refine xl (fun _ => lv_imul hx hb dX1_placeInTable_4) ?_
  refine xl (fun _ => lv_iload_n hx hb dX1_placeInTable_5 rfl (lv_at hl 1 rfl)) ?_
  refine xl (fun _ => lv_iadd hx hb dX1_placeInTable_6) ?_
  exact x_iret hx hb hr hlocks hs0 hbs (by decide) (by decide) dX1_placeInTable_7 (⟨by rw [nI_pred, show (4 : Int32) = nI 4 from rfl, pk_mul, nI_add], rfl⟩)

set_option maxHeartbeats 4000000 in
set_option maxRecDepth 100000 in
theorem c_X1_fits_n (l : Launch) (G : sg_G) (H : Heap) (t : Nat → sp_T) (q : Int32) : xC l G yX1_fits cX1_fits 2 (some FieldType.boolean) 0 0 0 [.null, .int q] H (xPu (.int (bI (sp_fit t none q))) H) := by
  refine xC.start (by decide) (Nat.le_of_ble_eq_true rfl) ?_
  intro p e s m args below meth c ls E hnm hs0 hl
  obtain ⟨hx, hb, hml, hown, hts, hr, hlocks, hK, hbs⟩ := id E
  have hl : lv_has ls 2 [(0, .null), (1, .int q)] := hl
  refine xl (fun _ => lv_aload_nN hx hb dX1_fits_0 rfl (lv_at hl 0 rfl)) ?_
  refine xl (fun _ => lv_ifnonnullN hx hb dX1_fits_1) ?_
  refine xl (fun _ => lv_iload_n hx hb dX1_fits_4 rfl (lv_at hl 1 rfl)) ?_
  refine xb (fun _ => lv_if_eq (tgt := 13) hx hb dX1_fits_5 (by decide)) (fun c_5 => ?_) (fun c_5 => ?_)
  · refine xl (fun _ => lv_iconst (v := 1) hx hb dX1_fits_13 (by decide)) ?_
    refine xl (fun _ => lv_goto (tgt := 18) hx hb dX1_fits_14 (by decide)) ?_
    exact x_zret hx hb hr hlocks hs0 hbs (by decide) (by decide) (by decide) dX1_fits_18 (pu1 (by simp [sp_fit, c_5]))
  · refine xl (fun _ => lv_iload_n hx hb dX1_fits_8 rfl (lv_at hl 1 rfl)) ?_
    refine xl (fun _ => lv_iconst (v := 3) hx hb dX1_fits_9 (by decide)) ?_
    refine xb (fun _ => lv_icmp_ne (tgt := 17) hx hb dX1_fits_10 (by decide)) (fun c_10 => ?_) (fun c_10 => ?_)
    · refine xl (fun _ => lv_iconst (v := 0) hx hb dX1_fits_17 (by decide)) ?_
      exact x_zret hx hb hr hlocks hs0 hbs (by decide) (by decide) (by decide) dX1_fits_18 (pu0 (by simp [sp_fit, c_5, c_10]))
    · refine xl (fun _ => lv_iconst (v := 1) hx hb dX1_fits_13 (by decide)) ?_
      refine xl (fun _ => lv_goto (tgt := 18) hx hb dX1_fits_14 (by decide)) ?_
      exact x_zret hx hb hr hlocks hs0 hbs (by decide) (by decide) (by decide) dX1_fits_18 (pu1 (by simp [sp_fit, c_5, c_10]))

set_option maxHeartbeats 4000000 in
set_option maxRecDepth 100000 in
theorem c_X1_fits_s (l : Launch) (G : sg_G) (H : Heap) (b lo n dc : Nat) (t : Nat → sp_T) (dv fc : Nat → Bool) (rg : Nat → Option Nat) (ta na pa : Nat → Nat) (hC : sc_X G b lo n t dv fc rg dc ta na pa H) (q : Int32) (j : Nat) (hj : j < n) : xC l G yX1_fits cX1_fits 2 (some FieldType.boolean) 0 0 0 [.ref (ta j), .int q] H (xPu (.int (bI (sp_fit t (some j) q))) H) := by
  refine xC.start (by decide) (Nat.le_of_ble_eq_true rfl) ?_
  intro p e s m args below meth c ls E hnm hs0 hl
  obtain ⟨hx, hb, hml, hown, hts, hr, hlocks, hK, hbs⟩ := id E
  have hl : lv_has ls 2 [(0, .ref (ta j)), (1, .int q)] := hl
  obtain ⟨hw, hb0, hb4, hlo, hn5, hX, hRG, hMD, hZR, hT, hrg, hwf⟩ := id hC
  refine xl (fun _ => lv_aload_n hx hb dX1_fits_0 rfl (lv_at hl 0 rfl)) ?_
  refine xl (fun _ => lv_ifnonnull (tgt := 19) hx hb dX1_fits_1 (by decide)) ?_
  refine xl (fun _ => lv_iload_n hx hb dX1_fits_19 rfl (lv_at hl 1 rfl)) ?_
  refine xl (fun _ => lv_iconst (v := 1) hx hb dX1_fits_20 (by decide)) ?_
  refine xb (fun _ => lv_icmp_eq (tgt := 36) hx hb dX1_fits_21 (by decide)) (fun c_21 => ?_) (fun c_21 => ?_)
  · refine xl (fun _ => lv_iconst (v := 1) hx hb dX1_fits_36 (by decide)) ?_
    refine xl (fun _ => lv_goto (tgt := 41) hx hb dX1_fits_37 (by decide)) ?_
    exact x_zret hx hb hr hlocks hs0 hbs (by decide) (by decide) (by decide) dX1_fits_41 (pu1 (by simp [sp_fit, c_21]))
  · refine xl (fun _ => lv_iload_n hx hb dX1_fits_24 rfl (lv_at hl 1 rfl)) ?_
    refine xb (fun _ => lv_if_eq (tgt := 40) hx hb dX1_fits_25 (by decide)) (fun c_25 => ?_) (fun c_25 => ?_)
    · refine xl (fun _ => lv_iconst (v := 0) hx hb dX1_fits_40 (by decide)) ?_
      exact x_zret hx hb hr hlocks hs0 hbs (by decide) (by decide) (by decide) dX1_fits_41 (pu0 (by simp [sp_fit, c_21, c_25]))
    · refine xl (fun _ => lv_aload_n hx hb dX1_fits_28 rfl (lv_at hl 0 rfl)) ?_
      refine x_get (ci := 0) hx hb hts hown hK wiX0 ((hT j hj).2.2.2.1) rfl 0 (by decide) wFX1_78 rfl rfl dX1_fits_29 ?_
      refine xl (fun _ => lv_iconst (v := 2) hx hb dX1_fits_32 (by decide)) ?_
      refine xb (fun _ => lv_icmp_ne (tgt := 40) hx hb dX1_fits_33 (by decide)) (fun c_33 => ?_) (fun c_33 => ?_)
      · refine xl (fun _ => lv_iconst (v := 0) hx hb dX1_fits_40 (by decide)) ?_
        exact x_zret hx hb hr hlocks hs0 hbs (by decide) (by decide) (by decide) dX1_fits_41 (pu0 (by simp [sp_fit, c_21, c_25, c_33]))
      · refine xl (fun _ => lv_iconst (v := 1) hx hb dX1_fits_36 (by decide)) ?_
        refine xl (fun _ => lv_goto (tgt := 41) hx hb dX1_fits_37 (by decide)) ?_
        exact x_zret hx hb hr hlocks hs0 hbs (by decide) (by decide) (by decide) dX1_fits_41 (pu1 (by simp [sp_fit, c_21, c_25, c_33]))

theorem c_X1_fits (l : Launch) (G : sg_G) (H : Heap) (b lo n dc : Nat) (t : Nat → sp_T) (dv fc : Nat → Bool) (rg : Nat → Option Nat) (ta na pa : Nat → Nat) (hC : sc_X G b lo n t dv fc rg dc ta na pa H) (q : Int32) (o : Option Nat) (ho : ∀ j, o = some j → j < n) : xC l G yX1_fits cX1_fits 2 (some FieldType.boolean) 0 0 0 [va_rf (o.map ta), .int q] H (xPu (.int (bI (sp_fit t o q))) H) := by
  cases o with
  | none => exact c_X1_fits_n l G H t q
  | some j => exact c_X1_fits_s l G H b lo n dc t dv fc rg ta na pa hC q j (ho j rfl)

set_option maxHeartbeats 4000000 in
set_option maxRecDepth 100000 in
theorem c_X1_hasGoodNumbers (l : Launch) (G : sg_G) (H : Heap) (b lo n dc : Nat) (t : Nat → sp_T) (dv fc : Nat → Bool) (rg : Nat → Option Nat) (ta na pa : Nat → Nat) (hC : sc_X G b lo n t dv fc rg dc ta na pa H) (i : Nat) (hi : i < n) (kk : Nat) (hkk : kk < 7) (hla : sp_la (t i) = nI (kk + 1)) (B : Bool) (hB : B = true ↔ sp_gn (t i) kk) : xC l G yX1_hasGoodNumbers cX1_hasGoodNumbers 4 (some FieldType.boolean) 1 0 0 [.ref (ta i)] H (xPu (.int (bI B)) H) := by
  refine xC.start (by decide) (Nat.le_of_ble_eq_true rfl) ?_
  intro p e s m args below meth c ls E hnm hs0 hl
  obtain ⟨hx, hb, hml, hown, hts, hr, hlocks, hK, hbs⟩ := id E
  have hl : lv_has ls 4 [(0, .ref (ta i))] := hl
  obtain ⟨hw, hb0, hb4, hlo, hn5, hX, hRG, hMD, hZR, hT, hrg, hwf⟩ := id hC
  refine xl (fun _ => lv_iconst (v := 0) hx hb dX1_hasGoodNumbers_0 (by decide)) ?_
  refine xs (fun _ => lv_istore_n (i := 1) (lv' := [(1, .int 0), (0, .ref (ta i))]) hx hb dX1_hasGoodNumbers_1 rfl hl (by decide) (rfl)) (fun ls hl => ?_)
  have hloop : ∀ (d : Nat) (k : Nat), k ≤ 4 → 4 < k + d → (∀ q, q < k → ¬ sp_nu (t i) q < sg_tab 2 (kk * 4 + q) ∧ sp_nu (t i) q ≤ sg_tab 3 (kk * 4 + q)) → ∀ (ls : Array Slot), lv_has ls 4 [(1, .int (nI k)), (0, .ref (ta i))] → xV p l e (xR 1 0 0) s m args below meth c G H 0 0 (MQ below (xQ G H (xPu (.int (bI B)) H)) args s 0 0 (sg_fr G)) (F0 m 2 ls []) := by
    intro d
    induction d with
    | zero =>
      intro k h1 h2
      exact absurd h2 (by omega)
    | succ d ih =>
      intro k hk hd hall ls hl
      refine xl (fun _ => lv_iload_n hx hb dX1_hasGoodNumbers_2 rfl (lv_at hl 0 rfl)) ?_
      refine xl (fun _ => lv_iconst (v := 4) hx hb dX1_hasGoodNumbers_3 (by decide)) ?_
      refine xb (fun _ => lv_icmp_ge (tgt := 70) hx hb dX1_hasGoodNumbers_4 (by decide)) (fun c_4 => ?_) (fun c_4 => ?_)
      · have e4 : k = 4 := by have := nI_le4 (n := 4) (by omega) (by decide) c_4; omega
        refine xl (fun _ => lv_iconst (v := 1) hx hb dX1_hasGoodNumbers_70 (by decide)) ?_
        exact x_zret hx hb hr hlocks hs0 hbs (by decide) (by decide) (by decide) dX1_hasGoodNumbers_71 (pu1 (hB.mpr (fun q hq => hall q (by omega))))
      · have hi4 : k < 4 := nI_nle4 (n := 4) (by omega) (by decide) c_4
        have h28 := sp_lt28 hkk hi4
        refine xl (fun _ => lv_aload_n hx hb dX1_hasGoodNumbers_7 rfl (lv_at hl 1 rfl)) ?_
        refine x_get (ci := 0) hx hb hts hown hK wiX0 ((hT i hi).2.2.2.1) rfl 1 (by decide) wFX1_102 rfl rfl dX1_hasGoodNumbers_8 ?_
        refine xg (g2 := F0 m 11 ls [.int (nI (kk + 1))]) (by rw [hla]) ?_
        refine xl (fun _ => lv_iload_n hx hb dX1_hasGoodNumbers_11 rfl (lv_at hl 0 rfl)) ?_
        refine x_callS E hl (c_X1_placeInTable l G H kk k) xm_yX1_placeInTable wMX1_153 wS_yX1_placeInTable (rest := []) rfl (by decide) (by decide) ⟨by decide, by decide⟩ dX1_hasGoodNumbers_12 (x_pure (r := .int (nI (kk * 4 + k))) (st1 := []) ?_)
        refine xs (fun _ => lv_istore_n (i := 2) (lv' := [(2, .int (nI (kk * 4 + k))), (1, .int (nI k)), (0, .ref (ta i))]) hx hb dX1_hasGoodNumbers_15 rfl hl (by decide) (rfl)) (fun ls hl => ?_)
        refine xl (fun _ => lv_iload_n hx hb dX1_hasGoodNumbers_16 rfl (lv_at hl 0 rfl)) ?_
        refine xb (fun _ => lv_if_lt (tgt := 36) hx hb dX1_hasGoodNumbers_17 (by decide)) (fun c_17 => ?_) (fun c_17 => ?_)
        · exact absurd c_17 (nI_pos (by omega))
        · refine xl (fun _ => lv_iload_n hx hb dX1_hasGoodNumbers_20 rfl (lv_at hl 0 rfl)) ?_
          refine x_gets hx hb hts hown hK 2 (by decide) wFX1_156 dX1_hasGoodNumbers_21 ?_
          refine x_tlen hx hb hK 2 (by decide) dX1_hasGoodNumbers_24 ?_
          refine xb (fun _ => lv_icmp_ge (tgt := 36) hx hb dX1_hasGoodNumbers_25 (by decide)) (fun c_25 => ?_) (fun c_25 => ?_)
          · exact absurd c_25 (nI_ge (b := 28) h28 (by decide))
          · refine xl (fun _ => lv_iload_n hx hb dX1_hasGoodNumbers_28 rfl (lv_at hl 0 rfl)) ?_
            refine x_gets hx hb hts hown hK 3 (by decide) wFX1_159 dX1_hasGoodNumbers_29 ?_
            refine x_tlen hx hb hK 3 (by decide) dX1_hasGoodNumbers_32 ?_
            refine xb (fun _ => lv_icmp_lt (tgt := 38) hx hb dX1_hasGoodNumbers_33 (by decide)) (fun c_33 => ?_) (fun c_33 => ?_)
            · refine xl (fun _ => lv_aload_n hx hb dX1_hasGoodNumbers_38 rfl (lv_at hl 2 rfl)) ?_
              refine xl (fun _ => lv_iload_n hx hb dX1_hasGoodNumbers_39 rfl (lv_at hl 1 rfl)) ?_
              refine x_callV E hl (c_X0_numberAt l G H (ta i) (na i) (pa i) _ _ _ _ _ _ (hT i hi).2.2.2.1 (hT i hi).2.2.2.2.1 k hi4) xm_yX0_numberAt wMX1_105 wI_yX0_numberAt wT_yX0_numberAt (ci := 0) rfl rfl ((hT i hi).2.2.2.1) (rest := []) rfl (by decide) (by decide) ⟨by decide, by decide⟩ dX1_hasGoodNumbers_40 (x_pure (r := .int (sp_nu (t i) k)) (st1 := []) ?_)
              refine xs (fun _ => lv_istore_n (i := 3) (lv' := [(3, .int (sp_nu (t i) k)), (2, .int (nI (kk * 4 + k))), (1, .int (nI k)), (0, .ref (ta i))]) hx hb dX1_hasGoodNumbers_43 rfl hl (by decide) (rfl)) (fun ls hl => ?_)
              refine xl (fun _ => lv_iload_n hx hb dX1_hasGoodNumbers_44 rfl (lv_at hl 0 rfl)) ?_
              refine x_gets hx hb hts hown hK 2 (by decide) wFX1_156 dX1_hasGoodNumbers_45 ?_
              refine xl (fun _ => lv_iload_n hx hb dX1_hasGoodNumbers_48 rfl (lv_at hl 1 rfl)) ?_
              refine x_tald hx hb hK 2 (by decide) (kk * 4 + k) (rfl) (sp_lt28 hkk hi4) (by decide) dX1_hasGoodNumbers_49 ?_
              refine xb (fun _ => lv_icmp_lt (tgt := 62) hx hb dX1_hasGoodNumbers_50 (by decide)) (fun c_50 => ?_) (fun c_50 => ?_)
              · refine xl (fun _ => lv_iconst (v := 0) hx hb dX1_hasGoodNumbers_62 (by decide)) ?_
                exact x_zret hx hb hr hlocks hs0 hbs (by decide) (by decide) (by decide) dX1_hasGoodNumbers_63 (pu0 (bF hB (fun z => (z k hi4).1 c_50)))
              · refine xl (fun _ => lv_iload_n hx hb dX1_hasGoodNumbers_53 rfl (lv_at hl 0 rfl)) ?_
                refine x_gets hx hb hts hown hK 3 (by decide) wFX1_159 dX1_hasGoodNumbers_54 ?_
                refine xl (fun _ => lv_iload_n hx hb dX1_hasGoodNumbers_57 rfl (lv_at hl 1 rfl)) ?_
                refine x_tald hx hb hK 3 (by decide) (kk * 4 + k) (rfl) (sp_lt28 hkk hi4) (by decide) dX1_hasGoodNumbers_58 ?_
                refine xb (fun _ => lv_icmp_le (tgt := 64) hx hb dX1_hasGoodNumbers_59 (by decide)) (fun c_59 => ?_) (fun c_59 => ?_)
                · refine xs (fun _ => lv_iinc (v := (nI (k + 1))) (lv' := [(1, .int (nI (k + 1))), (3, .int (sp_nu (t i) k)), (2, .int (nI (kk * 4 + k))), (0, .ref (ta i))]) hx hb dX1_hasGoodNumbers_64 hl (k := 2) rfl (nI_1 k) (by decide) (rfl)) (fun ls hl => ?_)
                  refine xl (fun _ => lv_goto (tgt := 2) hx hb dX1_hasGoodNumbers_67 (by decide)) ?_
                  exact ih (k + 1) (by omega) (by omega) (fun q hq => by by_cases e : q = k; (rw [e]; exact ⟨c_50, c_59⟩); exact hall q (by omega)) ls (lv_sub hl [0, 3] rfl)
                · refine xl (fun _ => lv_iconst (v := 0) hx hb dX1_hasGoodNumbers_62 (by decide)) ?_
                  exact x_zret hx hb hr hlocks hs0 hbs (by decide) (by decide) (by decide) dX1_hasGoodNumbers_63 (pu0 (bF hB (fun z => c_59 (z k hi4).2)))
            · exact absurd ((nI_ltI (b := 28) (by omega) (by decide)).mpr h28) c_33
  exact hloop 5 0 (by decide) (by decide) (fun k hk => absurd hk (Nat.not_lt_zero k)) ls (lv_sub hl [0, 1] rfl)

set_option maxHeartbeats 4000000 in
set_option maxRecDepth 100000 in
theorem c_X1_hasGoodTerms (l : Launch) (G : sg_G) (H : Heap) (b lo n dc : Nat) (t : Nat → sp_T) (dv fc : Nat → Bool) (rg : Nat → Option Nat) (ta na pa : Nat → Nat) (hC : sc_X G b lo n t dv fc rg dc ta na pa H) (i : Nat) (hi : i < n) (kk : Nat) (hkk : kk < 7) (hla : sp_la (t i) = nI (kk + 1)) (B : Bool) (hB : B = true ↔ sp_gt t (t i) kk) : xC l G yX1_hasGoodTerms cX1_hasGoodTerms 5 (some FieldType.boolean) 1 0 0 [.ref (ta i)] H (xPu (.int (bI B)) H) := by
  refine xC.start (by decide) (Nat.le_of_ble_eq_true rfl) ?_
  intro p e s m args below meth c ls E hnm hs0 hl
  obtain ⟨hx, hb, hml, hown, hts, hr, hlocks, hK, hbs⟩ := id E
  have hl : lv_has ls 5 [(0, .ref (ta i))] := hl
  obtain ⟨hw, hb0, hb4, hlo, hn5, hX, hRG, hMD, hZR, hT, hrg, hwf⟩ := id hC
  refine xl (fun _ => lv_iconst (v := 0) hx hb dX1_hasGoodTerms_0 (by decide)) ?_
  refine xs (fun _ => lv_istore_n (i := 1) (lv' := [(1, .int 0), (0, .ref (ta i))]) hx hb dX1_hasGoodTerms_1 rfl hl (by decide) (rfl)) (fun ls hl => ?_)
  refine xl (fun _ => lv_iconst (v := 0) hx hb dX1_hasGoodTerms_2 (by decide)) ?_
  refine xs (fun _ => lv_istore_n (i := 2) (lv' := [(2, .int 0), (1, .int 0), (0, .ref (ta i))]) hx hb dX1_hasGoodTerms_3 rfl hl (by decide) (rfl)) (fun ls hl => ?_)
  have hloop : ∀ (d : Nat) (k : Nat) (gp : Bool), k ≤ 4 → 4 < k + d → gp = sp_gap (t i) k → (∀ q, q < k → sp_fit t (sp_pa (t i) q) (sg_tab 4 (kk * 4 + q)) = true ∧ ¬ (sp_gap (t i) q = true ∧ ¬ sp_pa (t i) q = none)) → ∀ (ls : Array Slot), lv_has ls 5 [(2, .int (nI k)), (1, .int (bI gp)), (0, .ref (ta i))] → xV p l e (xR 1 0 0) s m args below meth c G H 0 0 (MQ below (xQ G H (xPu (.int (bI B)) H)) args s 0 0 (sg_fr G)) (F0 m 4 ls []) := by
    intro d
    induction d with
    | zero =>
      intro k gp h1 h2
      exact absurd h2 (by omega)
    | succ d ih =>
      intro k gp hk hd hgp hall ls hl
      refine xl (fun _ => lv_iload_n hx hb dX1_hasGoodTerms_4 rfl (lv_at hl 0 rfl)) ?_
      refine xl (fun _ => lv_iconst (v := 4) hx hb dX1_hasGoodTerms_5 (by decide)) ?_
      refine xb (fun _ => lv_icmp_ge (tgt := 80) hx hb dX1_hasGoodTerms_6 (by decide)) (fun c_6 => ?_) (fun c_6 => ?_)
      · have e4 : k = 4 := by have := nI_le4 (n := 4) (by omega) (by decide) c_6; omega
        refine xl (fun _ => lv_iconst (v := 1) hx hb dX1_hasGoodTerms_80 (by decide)) ?_
        exact x_zret hx hb hr hlocks hs0 hbs (by decide) (by decide) (by decide) dX1_hasGoodTerms_81 (pu1 (hB.mpr (fun q hq => hall q (by omega))))
      · have hi4 : k < 4 := nI_nle4 (n := 4) (by omega) (by decide) c_6
        have h28 := sp_lt28 hkk hi4
        refine xl (fun _ => lv_aload_n hx hb dX1_hasGoodTerms_9 rfl (lv_at hl 2 rfl)) ?_
        refine x_get (ci := 0) hx hb hts hown hK wiX0 ((hT i hi).2.2.2.1) rfl 1 (by decide) wFX1_102 rfl rfl dX1_hasGoodTerms_10 ?_
        refine xg (g2 := F0 m 13 ls [.int (nI (kk + 1))]) (by rw [hla]) ?_
        refine xl (fun _ => lv_iload_n hx hb dX1_hasGoodTerms_13 rfl (lv_at hl 0 rfl)) ?_
        refine x_callS E hl (c_X1_placeInTable l G H kk k) xm_yX1_placeInTable wMX1_153 wS_yX1_placeInTable (rest := []) rfl (by decide) (by decide) ⟨by decide, by decide⟩ dX1_hasGoodTerms_14 (x_pure (r := .int (nI (kk * 4 + k))) (st1 := []) ?_)
        refine xs (fun _ => lv_istore_n (i := 3) (lv' := [(3, .int (nI (kk * 4 + k))), (2, .int (nI k)), (1, .int (bI gp)), (0, .ref (ta i))]) hx hb dX1_hasGoodTerms_17 rfl hl (by decide) (rfl)) (fun ls hl => ?_)
        refine xl (fun _ => lv_iload_n hx hb dX1_hasGoodTerms_18 rfl (lv_at hl 0 rfl)) ?_
        refine xb (fun _ => lv_if_lt (tgt := 30) hx hb dX1_hasGoodTerms_19 (by decide)) (fun c_19 => ?_) (fun c_19 => ?_)
        · exact absurd c_19 (nI_pos (by omega))
        · refine xl (fun _ => lv_iload_n hx hb dX1_hasGoodTerms_22 rfl (lv_at hl 0 rfl)) ?_
          refine x_gets hx hb hts hown hK 4 (by decide) wFX1_162 dX1_hasGoodTerms_23 ?_
          refine x_tlen hx hb hK 4 (by decide) dX1_hasGoodTerms_26 ?_
          refine xb (fun _ => lv_icmp_lt (tgt := 32) hx hb dX1_hasGoodTerms_27 (by decide)) (fun c_27 => ?_) (fun c_27 => ?_)
          · refine xl (fun _ => lv_aload_n hx hb dX1_hasGoodTerms_32 rfl (lv_at hl 3 rfl)) ?_
            refine xl (fun _ => lv_iload_n hx hb dX1_hasGoodTerms_33 rfl (lv_at hl 1 rfl)) ?_
            rcases hs_34 : sp_pa (t i) k with _ | j
            · have hpk := hs_34
              refine x_callV E hl (show xC l G yX0_partAt cX0_partAt 2 (some (.object "TermSpread$Term")) 0 0 0 [.ref (ta i), .int (nI k)] H (xPu .null H) from by have q := c_X0_partAt l G H (ta i) (na i) (pa i) _ _ _ _ _ _ (hT i hi).2.2.2.1 (hT i hi).2.2.2.2.2 k hi4; rw [hs_34] at q; exact q) xm_yX0_partAt wMX1_45 wI_yX0_partAt wT_yX0_partAt (ci := 0) rfl rfl ((hT i hi).2.2.2.1) (rest := []) rfl (by decide) (by decide) ⟨by decide, by decide⟩ dX1_hasGoodTerms_34 (x_pure (r := .null) (st1 := []) ?_)
              refine xs (fun _ => lv_astoreN (i := 4) (lv' := [(4, .null), (3, .int (nI (kk * 4 + k))), (2, .int (nI k)), (1, .int (bI gp)), (0, .ref (ta i))]) hx hb dX1_hasGoodTerms_37 hl (by decide) (rfl)) (fun ls hl => ?_)
              refine xl (fun _ => lv_aloadN hx hb dX1_hasGoodTerms_39 (lv_at hl 0 rfl)) ?_
              refine x_gets hx hb hts hown hK 4 (by decide) wFX1_162 dX1_hasGoodTerms_41 ?_
              refine xl (fun _ => lv_iload_n hx hb dX1_hasGoodTerms_44 rfl (lv_at hl 1 rfl)) ?_
              refine x_tald hx hb hK 4 (by decide) (kk * 4 + k) (rfl) (sp_lt28 hkk hi4) (by decide) dX1_hasGoodTerms_45 ?_
              refine x_callS E hl (c_X1_fits l G H b lo n dc t dv fc rg ta na pa hC (sg_tab 4 (kk * 4 + k)) none (no_b)) xm_yX1_fits wMX1_165 wS_yX1_fits (rest := []) rfl (by decide) (by decide) ⟨by decide, by decide⟩ dX1_hasGoodTerms_46 (x_pure (r := .int (bI (sp_fit t none (sg_tab 4 (kk * 4 + k))))) (st1 := []) ?_)
              refine xb (fun _ => lv_if_eq (tgt := 61) hx hb dX1_hasGoodTerms_49 (by decide)) (fun c_49 => ?_) (fun c_49 => ?_)
              · have c_49 := bI_f c_49
                refine xl (fun _ => lv_iconst (v := 0) hx hb dX1_hasGoodTerms_61 (by decide)) ?_
                exact x_zret hx hb hr hlocks hs0 hbs (by decide) (by decide) (by decide) dX1_hasGoodTerms_62 (pu0 (bF hB (fun z => by have := (z k hi4).1; rw [hpk, c_49] at this; cases this)))
              · have c_49 := bI_t c_49
                refine xl (fun _ => lv_iload_n hx hb dX1_hasGoodTerms_52 rfl (lv_at hl 3 rfl)) ?_
                refine xb (fun _ => lv_if_eq (tgt := 63) hx hb dX1_hasGoodTerms_53 (by decide)) (fun c_53 => ?_) (fun c_53 => ?_)
                · have c_53 := bI_f c_53
                  have hok : sp_fit t (sp_pa (t i) k) (sg_tab 4 (kk * 4 + k)) = true ∧ ¬ (sp_gap (t i) k = true ∧ ¬ sp_pa (t i) k = none) := ⟨by rw [hpk]; exact c_49, fun z => z.2 hpk⟩
                  refine xl (fun _ => lv_aloadN hx hb dX1_hasGoodTerms_63 (lv_at hl 0 rfl)) ?_
                  refine xl (fun _ => lv_ifnonnullN hx hb dX1_hasGoodTerms_65) ?_
                  refine xl (fun _ => lv_iconst (v := 1) hx hb dX1_hasGoodTerms_68 (by decide)) ?_
                  refine xl (fun _ => lv_goto (tgt := 73) hx hb dX1_hasGoodTerms_69 (by decide)) ?_
                  refine xg (g2 := F0 m 73 ls [.int (bI true)]) rfl ?_
                  refine xs (fun _ => lv_istore_n (i := 1) (lv' := [(1, .int (bI true)), (4, .null), (3, .int (nI (kk * 4 + k))), (2, .int (nI k)), (0, .ref (ta i))]) hx hb dX1_hasGoodTerms_73 rfl hl (by decide) (rfl)) (fun ls hl => ?_)
                  refine xs (fun _ => lv_iinc (v := (nI (k + 1))) (lv' := [(2, .int (nI (k + 1))), (1, .int (bI true)), (4, .null), (3, .int (nI (kk * 4 + k))), (0, .ref (ta i))]) hx hb dX1_hasGoodTerms_74 hl (k := 3) rfl (nI_1 k) (by decide) (rfl)) (fun ls hl => ?_)
                  refine xl (fun _ => lv_goto (tgt := 4) hx hb dX1_hasGoodTerms_77 (by decide)) ?_
                  exact ih (k + 1) true (by omega) (by omega) (by show _ = (sp_pa (t i) k).isNone; rw [hpk]; rfl) (fun q hq => by by_cases e : q = k; (rw [e]; exact hok); exact hall q (by omega)) ls (lv_sub hl [0, 1, 4] rfl)
                · have c_53 := bI_t c_53
                  refine xl (fun _ => lv_aloadN hx hb dX1_hasGoodTerms_56 (lv_at hl 0 rfl)) ?_
                  refine xl (fun _ => lv_ifnullN (tgt := 63) hx hb dX1_hasGoodTerms_58 (by decide)) ?_
                  have hok : sp_fit t (sp_pa (t i) k) (sg_tab 4 (kk * 4 + k)) = true ∧ ¬ (sp_gap (t i) k = true ∧ ¬ sp_pa (t i) k = none) := ⟨by rw [hpk]; exact c_49, fun z => z.2 hpk⟩
                  refine xl (fun _ => lv_aloadN hx hb dX1_hasGoodTerms_63 (lv_at hl 0 rfl)) ?_
                  refine xl (fun _ => lv_ifnonnullN hx hb dX1_hasGoodTerms_65) ?_
                  refine xl (fun _ => lv_iconst (v := 1) hx hb dX1_hasGoodTerms_68 (by decide)) ?_
                  refine xl (fun _ => lv_goto (tgt := 73) hx hb dX1_hasGoodTerms_69 (by decide)) ?_
                  refine xg (g2 := F0 m 73 ls [.int (bI true)]) rfl ?_
                  refine xs (fun _ => lv_istore_n (i := 1) (lv' := [(1, .int (bI true)), (4, .null), (3, .int (nI (kk * 4 + k))), (2, .int (nI k)), (0, .ref (ta i))]) hx hb dX1_hasGoodTerms_73 rfl hl (by decide) (rfl)) (fun ls hl => ?_)
                  refine xs (fun _ => lv_iinc (v := (nI (k + 1))) (lv' := [(2, .int (nI (k + 1))), (1, .int (bI true)), (4, .null), (3, .int (nI (kk * 4 + k))), (0, .ref (ta i))]) hx hb dX1_hasGoodTerms_74 hl (k := 3) rfl (nI_1 k) (by decide) (rfl)) (fun ls hl => ?_)
                  refine xl (fun _ => lv_goto (tgt := 4) hx hb dX1_hasGoodTerms_77 (by decide)) ?_
                  exact ih (k + 1) true (by omega) (by omega) (by show _ = (sp_pa (t i) k).isNone; rw [hpk]; rfl) (fun q hq => by by_cases e : q = k; (rw [e]; exact hok); exact hall q (by omega)) ls (lv_sub hl [0, 1, 4] rfl)
            · have hpk := hs_34
              have hj := sc_bd hC i hi k hi4 j hs_34
              refine x_callV E hl (show xC l G yX0_partAt cX0_partAt 2 (some (.object "TermSpread$Term")) 0 0 0 [.ref (ta i), .int (nI k)] H (xPu (.ref (ta j)) H) from by have q := c_X0_partAt l G H (ta i) (na i) (pa i) _ _ _ _ _ _ (hT i hi).2.2.2.1 (hT i hi).2.2.2.2.2 k hi4; rw [hs_34] at q; exact q) xm_yX0_partAt wMX1_45 wI_yX0_partAt wT_yX0_partAt (ci := 0) rfl rfl ((hT i hi).2.2.2.1) (rest := []) rfl (by decide) (by decide) ⟨by decide, by decide⟩ dX1_hasGoodTerms_34 (x_pure (r := .ref (ta j)) (st1 := []) ?_)
              refine xs (fun _ => lv_astore (i := 4) (lv' := [(4, .ref (ta j)), (3, .int (nI (kk * 4 + k))), (2, .int (nI k)), (1, .int (bI gp)), (0, .ref (ta i))]) hx hb dX1_hasGoodTerms_37 hl (by decide) (rfl)) (fun ls hl => ?_)
              refine xl (fun _ => lv_aload hx hb dX1_hasGoodTerms_39 (lv_at hl 0 rfl)) ?_
              refine x_gets hx hb hts hown hK 4 (by decide) wFX1_162 dX1_hasGoodTerms_41 ?_
              refine xl (fun _ => lv_iload_n hx hb dX1_hasGoodTerms_44 rfl (lv_at hl 1 rfl)) ?_
              refine x_tald hx hb hK 4 (by decide) (kk * 4 + k) (rfl) (sp_lt28 hkk hi4) (by decide) dX1_hasGoodTerms_45 ?_
              refine x_callS E hl (c_X1_fits l G H b lo n dc t dv fc rg ta na pa hC (sg_tab 4 (kk * 4 + k)) (some j) (so_b hj)) xm_yX1_fits wMX1_165 wS_yX1_fits (rest := []) rfl (by decide) (by decide) ⟨by decide, by decide⟩ dX1_hasGoodTerms_46 (x_pure (r := .int (bI (sp_fit t (some j) (sg_tab 4 (kk * 4 + k))))) (st1 := []) ?_)
              refine xb (fun _ => lv_if_eq (tgt := 61) hx hb dX1_hasGoodTerms_49 (by decide)) (fun c_49 => ?_) (fun c_49 => ?_)
              · have c_49 := bI_f c_49
                refine xl (fun _ => lv_iconst (v := 0) hx hb dX1_hasGoodTerms_61 (by decide)) ?_
                exact x_zret hx hb hr hlocks hs0 hbs (by decide) (by decide) (by decide) dX1_hasGoodTerms_62 (pu0 (bF hB (fun z => by have := (z k hi4).1; rw [hpk, c_49] at this; cases this)))
              · have c_49 := bI_t c_49
                refine xl (fun _ => lv_iload_n hx hb dX1_hasGoodTerms_52 rfl (lv_at hl 3 rfl)) ?_
                refine xb (fun _ => lv_if_eq (tgt := 63) hx hb dX1_hasGoodTerms_53 (by decide)) (fun c_53 => ?_) (fun c_53 => ?_)
                · have c_53 := bI_f c_53
                  have hok : sp_fit t (sp_pa (t i) k) (sg_tab 4 (kk * 4 + k)) = true ∧ ¬ (sp_gap (t i) k = true ∧ ¬ sp_pa (t i) k = none) := ⟨by rw [hpk]; exact c_49, fun z => by rw [← hgp, c_53] at z; cases z.1⟩
                  refine xl (fun _ => lv_aload hx hb dX1_hasGoodTerms_63 (lv_at hl 0 rfl)) ?_
                  refine xl (fun _ => lv_ifnonnull (tgt := 72) hx hb dX1_hasGoodTerms_65 (by decide)) ?_
                  refine xl (fun _ => lv_iconst (v := 0) hx hb dX1_hasGoodTerms_72 (by decide)) ?_
                  refine xg (g2 := F0 m 73 ls [.int (bI false)]) rfl ?_
                  refine xs (fun _ => lv_istore_n (i := 1) (lv' := [(1, .int (bI false)), (4, .ref (ta j)), (3, .int (nI (kk * 4 + k))), (2, .int (nI k)), (0, .ref (ta i))]) hx hb dX1_hasGoodTerms_73 rfl hl (by decide) (rfl)) (fun ls hl => ?_)
                  refine xs (fun _ => lv_iinc (v := (nI (k + 1))) (lv' := [(2, .int (nI (k + 1))), (1, .int (bI false)), (4, .ref (ta j)), (3, .int (nI (kk * 4 + k))), (0, .ref (ta i))]) hx hb dX1_hasGoodTerms_74 hl (k := 3) rfl (nI_1 k) (by decide) (rfl)) (fun ls hl => ?_)
                  refine xl (fun _ => lv_goto (tgt := 4) hx hb dX1_hasGoodTerms_77 (by decide)) ?_
                  exact ih (k + 1) false (by omega) (by omega) (by show _ = (sp_pa (t i) k).isNone; rw [hpk]; rfl) (fun q hq => by by_cases e : q = k; (rw [e]; exact hok); exact hall q (by omega)) ls (lv_sub hl [0, 1, 4] rfl)
                · have c_53 := bI_t c_53
                  refine xl (fun _ => lv_aload hx hb dX1_hasGoodTerms_56 (lv_at hl 0 rfl)) ?_
                  refine xl (fun _ => lv_ifnull hx hb dX1_hasGoodTerms_58) ?_
                  refine xl (fun _ => lv_iconst (v := 0) hx hb dX1_hasGoodTerms_61 (by decide)) ?_
                  exact x_zret hx hb hr hlocks hs0 hbs (by decide) (by decide) (by decide) dX1_hasGoodTerms_62 (pu0 (bF hB (fun z => (z k hi4).2 ⟨by rw [← hgp]; exact c_53, by rw [hpk]; exact fun e => by cases e⟩)))
          · exact absurd ((nI_ltI (b := 28) (by omega) (by decide)).mpr h28) c_27
  exact hloop 5 0 false (by decide) (by decide) rfl (fun k hk => absurd hk (Nat.not_lt_zero k)) ls (lv_sub hl [0, 1, 2] rfl)

set_option maxHeartbeats 4000000 in
set_option maxRecDepth 100000 in
theorem c_X1_good (l : Launch) (G : sg_G) (H : Heap) (b lo n : Nat) (t : Nat → sp_T) (rg : Nat → Option Nat) (g : Nat → Prop) (hH : sc_H G b lo n t rg g H) (x : Int32) : xC l G yX1_good cX1_good 3 (some FieldType.int) 3 0 0 [.ref b, .int x] H (xPu (.int (op_good (n, t, rg, g) x)) H) := by
  refine xC.start (by decide) (Nat.le_of_ble_eq_true rfl) ?_
  intro p e s m args below meth c ls E hnm hs0 hl
  obtain ⟨hx, hb, hml, hown, hts, hr, hlocks, hK, hbs⟩ := id E
  have hl : lv_has ls 3 [(0, .ref b), (1, .int x)] := hl
  obtain ⟨ta, na, pa, dv, hV, hD, hg⟩ := id hH
  obtain ⟨fc, hC, hfI⟩ := id hV
  obtain ⟨hw, hb0, hb4, hlo, hn5, hX, hRG, hMD, hZR, hT, hrg, hwf⟩ := id hC
  have hFF : sc_F b lo H H := sc_F.rf
  have hSS : H.size = H.size := rfl
  refine xl (fun _ => lv_aload_n hx hb dX1_good_0 rfl (lv_at hl 0 rfl)) ?_
  refine xl (fun _ => lv_iload_n hx hb dX1_good_1 rfl (lv_at hl 1 rfl)) ?_
  refine xl (fun _ => lv_bipush (v := 7) hx hb dX1_good_2 (by decide)) ?_
  rcases hs_4 : sp_rs t rg x 7 with _ | i
  · refine x_callV E hl (c_X1_termOfSort_n l G H b lo n _ t dv fc rg ta na pa hC x 7 hs_4) xm_yX1_termOfSort wMX1_37 wI_yX1_termOfSort wT_yX1_termOfSort (ci := 1) rfl rfl hX (rest := []) rfl (by decide) (by decide) ⟨by decide, by decide⟩ dX1_good_4 (x_pure (r := .null) (st1 := []) ?_)
    refine xs (fun _ => lv_astore_nN (i := 2) (lv' := [(2, .null), (0, .ref b), (1, .int x)]) hx hb dX1_good_7 rfl hl (by decide) (rfl)) (fun ls hl => ?_)
    refine xl (fun _ => lv_aload_nN hx hb dX1_good_8 rfl (lv_at hl 0 rfl)) ?_
    refine xl (fun _ => lv_ifnonnullN hx hb dX1_good_9) ?_
    refine xl (fun _ => lv_iconst (v := (-1)) hx hb dX1_good_12 (by decide)) ?_
    exact x_iret hx hb hr hlocks hs0 hbs (by decide) (by decide) dX1_good_13 (⟨by simp only [op_good, hs_4], rfl⟩)
  · have hi := sp_rg_lt hrg (sp_rs_of hs_4).1
    refine x_callV E hl (c_X1_termOfSort_s l G H b lo n _ t dv fc rg ta na pa hC x 7 hs_4) xm_yX1_termOfSort wMX1_37 wI_yX1_termOfSort wT_yX1_termOfSort (ci := 1) rfl rfl hX (rest := []) rfl (by decide) (by decide) ⟨by decide, by decide⟩ dX1_good_4 (x_pure (r := .ref (ta i)) (st1 := []) ?_)
    refine xs (fun _ => lv_astore_n (i := 2) (lv' := [(2, .ref (ta i)), (0, .ref b), (1, .int x)]) hx hb dX1_good_7 rfl hl (by decide) (rfl)) (fun ls hl => ?_)
    refine xl (fun _ => lv_aload_n hx hb dX1_good_8 rfl (lv_at hl 0 rfl)) ?_
    refine xl (fun _ => lv_ifnonnull (tgt := 14) hx hb dX1_good_9 (by decide)) ?_
    refine xl (fun _ => lv_aload_n hx hb dX1_good_14 rfl (lv_at hl 0 rfl)) ?_
    obtain ⟨kk, hkk, hla⟩ := sp_wf7 (hwf i hi) (sp_rs_of hs_4).2
    have hcl : (sp_la (t i)).toNatClampNeg - 1 = kk := by rw [hla, nI_clamp (by omega)]; omega
    refine x_callS E hl (c_X1_hasGoodNumbers l G H b lo n _ t dv fc rg ta na pa hC i hi kk hkk hla (cB (sp_gn (t i) kk)) cB_t) xm_yX1_hasGoodNumbers wMX1_95 wS_yX1_hasGoodNumbers (rest := []) rfl (by decide) (by decide) ⟨by decide, by decide⟩ dX1_good_15 (x_pure (r := .int (bI (cB (sp_gn (t i) kk)))) (st1 := []) ?_)
    refine xb (fun _ => lv_if_eq (tgt := 32) hx hb dX1_good_18 (by decide)) (fun c_18 => ?_) (fun c_18 => ?_)
    · have c_18 := bI_f c_18
      refine xl (fun _ => lv_iconst (v := 0) hx hb dX1_good_32 (by decide)) ?_
      exact x_iret hx hb hr hlocks hs0 hbs (by decide) (by decide) dX1_good_33 (⟨by simp only [op_good, hs_4, hcl]; rw [bF cB_t (fun z => by rw [cB_t.mpr z.1] at c_18; cases c_18)]; rfl, rfl⟩)
    · have c_18 := bI_t c_18
      refine xl (fun _ => lv_aload_n hx hb dX1_good_21 rfl (lv_at hl 0 rfl)) ?_
      refine x_callS E hl (c_X1_hasGoodTerms l G H b lo n _ t dv fc rg ta na pa hC i hi kk hkk hla (cB (sp_gt t (t i) kk)) cB_t) xm_yX1_hasGoodTerms wMX1_99 wS_yX1_hasGoodTerms (rest := []) rfl (by decide) (by decide) ⟨by decide, by decide⟩ dX1_good_22 (x_pure (r := .int (bI (cB (sp_gt t (t i) kk)))) (st1 := []) ?_)
      refine xb (fun _ => lv_if_eq (tgt := 32) hx hb dX1_good_25 (by decide)) (fun c_25 => ?_) (fun c_25 => ?_)
      · have c_25 := bI_f c_25
        refine xl (fun _ => lv_iconst (v := 0) hx hb dX1_good_32 (by decide)) ?_
        exact x_iret hx hb hr hlocks hs0 hbs (by decide) (by decide) dX1_good_33 (⟨by simp only [op_good, hs_4, hcl]; rw [bF cB_t (fun z => by rw [cB_t.mpr z.2] at c_25; cases c_25)]; rfl, rfl⟩)
      · have c_25 := bI_t c_25
        refine xl (fun _ => lv_iconst (v := 1) hx hb dX1_good_28 (by decide)) ?_
        refine xl (fun _ => lv_goto (tgt := 33) hx hb dX1_good_29 (by decide)) ?_
        exact x_iret hx hb hr hlocks hs0 hbs (by decide) (by decide) dX1_good_33 (⟨by simp only [op_good, hs_4, hcl]; rw [cB_t.mpr ⟨cB_t.mp c_18, cB_t.mp c_25⟩]; rfl, rfl⟩)

set_option maxHeartbeats 4000000 in
set_option maxRecDepth 100000 in
theorem c_X1_init (l : Launch) (G : sg_G) (H : Heap) (b : Nat) (hX : ob_ G H b 1 [.null, .null, .int 0, .int 0, .null]) (hsz : H.size = b + 1) (hba : sg_B G ≤ b) : xC l G yX1_init cX1_init 1 none 1 3 580 [.ref b] H (fun v H' => v = none ∧ H'.size = b + 4 ∧ ob_ G H' b 1 [.ref (b + 1), .ref (b + 2), .int 0, .int 0, .ref (b + 3)] ∧ ra_ G H' (b + 1) 64 (fun _ => none) ∧ ra_ G H' (b + 2) 512 (fun _ => none) ∧ ia_ G H' (b + 3) 4 (fun _ => 0) ∧ ∀ q, q < b → H'[q]? = H[q]?) := by
  refine xC.start (by decide) (Nat.le_of_ble_eq_true rfl) ?_
  intro p e s m args below meth c ls E hnm hs0 hl
  obtain ⟨hx, hb, hml, hown, hts, hr, hlocks, hK, hbs⟩ := id E
  have hl : lv_has ls 1 [(0, .ref b)] := hl
  have hszp := hsz
  have hF : ∀ q, q < b → H[q]? = H[q]? := fun _ _ => rfl
  refine xl (fun _ => lv_aload_n hx hb dX1_init_0 rfl (lv_at hl 0 rfl)) ?_
  refine xl (fun _ => W.objInit hx hb hown (hts _ wMX1_1) (hts _ wI_yO) (hts _ wC_yO) rfl (by rw [hml]; exact hl.1) rfl dX1_init_1 (Nat.le_of_ble_eq_true rfl) (Nat.le_of_ble_eq_true rfl)) ?_
  refine xg (g2 := F0 m 4 ls []) rfl ?_
  refine xl (fun _ => lv_aload_n hx hb dX1_init_4 rfl (lv_at hl 0 rfl)) ?_
  refine xl (fun _ => lv_bipush (v := 64) hx hb dX1_init_5 (by decide)) ?_
  refine x_newr (N := 64) hx hb hts hown hK wKX1_9 (by decide) (by decide) (by decide) (by decide) (by decide) dX1_init_7 (fun H_1 ho_2 hz_3 hq_4 => ?_)
  have k_5 := va_at.kept (H1 := H_1) (hX) (hq_4 _ (va_at.lt (hX)))
  have hA1 : ra_ G H_1 (b + 1) 64 (fun _ => none) := by rw [← hsz]; exact ho_2
  have hsz : H_1.size = b + 2 := by omega
  have hF : ∀ q, q < b → H_1[q]? = H[q]? := fun q h => (hq_4 q (by omega)).trans (hF q h)
  refine xg (g2 := F0 m 10 ls [.ref (b + 1), .ref b]) (by rw [hszp]) ?_
  refine x_putF (ci := 1) hx hb hts hown hK wiX1 tyX1 tyX1_ok nmX1 k_5 rfl 0 (by decide) wFX1_11 rfl rfl hnm rfl (rfl) (rfl) (by simp) (hba) dX1_init_10 (fun H_6 ho_7 hz_8 hq_9 => ?_)
  have ho_7 : ob_ G H_6 b 1 [.ref (b + 1), .null, .int 0, .int 0, .null] := ho_7
  have k_10 := va_at.kept (H1 := H_6) (hA1) (hq_9 _ (by omega))
  have hszp : H_6.size = b + 2 := hz_8.trans hsz
  have hsz := hszp
  have hF : ∀ q, q < b → H_6[q]? = H[q]? := fun q h => (hq_9 q (by omega)).trans (hF q h)
  refine xl (fun _ => lv_aload_n hx hb dX1_init_13 rfl (lv_at hl 0 rfl)) ?_
  refine xl (fun _ => lv_sipush (v := 512) hx hb dX1_init_14 (by decide)) ?_
  refine x_newr (N := 512) hx hb hts hown hK wKX1_9 (by decide) (by decide) (by decide) (by decide) (by decide) dX1_init_17 (fun H_11 ho_12 hz_13 hq_14 => ?_)
  have k_15 := va_at.kept (H1 := H_11) (ho_7) (hq_14 _ (va_at.lt (ho_7)))
  have k_16 := va_at.kept (H1 := H_11) (k_10) (hq_14 _ (va_at.lt (k_10)))
  have hA2 : ra_ G H_11 (b + 2) 512 (fun _ => none) := by rw [← hsz]; exact ho_12
  have hsz : H_11.size = b + 3 := by omega
  have hF : ∀ q, q < b → H_11[q]? = H[q]? := fun q h => (hq_14 q (by omega)).trans (hF q h)
  refine xg (g2 := F0 m 20 ls [.ref (b + 2), .ref b]) (by rw [hszp]) ?_
  refine x_putF (ci := 1) hx hb hts hown hK wiX1 tyX1 tyX1_ok nmX1 k_15 rfl 1 (by decide) wFX1_15 rfl rfl hnm rfl (rfl) (rfl) (by simp) (hba) dX1_init_20 (fun H_17 ho_18 hz_19 hq_20 => ?_)
  have ho_18 : ob_ G H_17 b 1 [.ref (b + 1), .ref (b + 2), .int 0, .int 0, .null] := ho_18
  have k_21 := va_at.kept (H1 := H_17) (k_16) (hq_20 _ (by omega))
  have k_22 := va_at.kept (H1 := H_17) (hA2) (hq_20 _ (by omega))
  have hszp : H_17.size = b + 3 := hz_19.trans hsz
  have hsz := hszp
  have hF : ∀ q, q < b → H_17[q]? = H[q]? := fun q h => (hq_20 q (by omega)).trans (hF q h)
  refine xl (fun _ => lv_aload_n hx hb dX1_init_23 rfl (lv_at hl 0 rfl)) ?_
  refine xl (fun _ => lv_iconst (v := 0) hx hb dX1_init_24 (by decide)) ?_
  refine x_put (ci := 1) hx hb hts hown hK wiX1 tyX1 tyX1_ok nmX1 ho_18 rfl 2 (by decide) wFX1_18 rfl rfl (rfl) (rfl) (by simp) (hba) dX1_init_25 (fun H_23 ho_24 hz_25 hq_26 => ?_)
  have ho_24 : ob_ G H_23 b 1 [.ref (b + 1), .ref (b + 2), .int 0, .int 0, .null] := ho_24
  have k_27 := va_at.kept (H1 := H_23) (k_21) (hq_26 _ (by omega))
  have k_28 := va_at.kept (H1 := H_23) (k_22) (hq_26 _ (by omega))
  have hszp : H_23.size = b + 3 := hz_25.trans hsz
  have hsz := hszp
  have hF : ∀ q, q < b → H_23[q]? = H[q]? := fun q h => (hq_26 q (by omega)).trans (hF q h)
  refine xl (fun _ => lv_aload_n hx hb dX1_init_28 rfl (lv_at hl 0 rfl)) ?_
  refine xl (fun _ => lv_iconst (v := 0) hx hb dX1_init_29 (by decide)) ?_
  refine x_put (ci := 1) hx hb hts hown hK wiX1 tyX1 tyX1_ok nmX1 ho_24 rfl 3 (by decide) wFX1_22 rfl rfl (rfl) (rfl) (by simp) (hba) dX1_init_30 (fun H_29 ho_30 hz_31 hq_32 => ?_)
  have ho_30 : ob_ G H_29 b 1 [.ref (b + 1), .ref (b + 2), .int 0, .int 0, .null] := ho_30
  have k_33 := va_at.kept (H1 := H_29) (k_27) (hq_32 _ (by omega))
  have k_34 := va_at.kept (H1 := H_29) (k_28) (hq_32 _ (by omega))
  have hszp : H_29.size = b + 3 := hz_31.trans hsz
  have hsz := hszp
  have hF : ∀ q, q < b → H_29[q]? = H[q]? := fun q h => (hq_32 q (by omega)).trans (hF q h)
  refine xl (fun _ => lv_aload_n hx hb dX1_init_33 rfl (lv_at hl 0 rfl)) ?_
  refine xl (fun _ => lv_iconst (v := 4) hx hb dX1_init_34 (by decide)) ?_
  refine x_newi (N := 4) hx hb hts hK wA_int (by decide) (by decide) (by decide) (by decide) (by decide) dX1_init_35 (fun H_35 ho_36 hz_37 hq_38 => ?_)
  have k_39 := va_at.kept (H1 := H_35) (ho_30) (hq_38 _ (va_at.lt (ho_30)))
  have k_40 := va_at.kept (H1 := H_35) (k_33) (hq_38 _ (va_at.lt (k_33)))
  have k_41 := va_at.kept (H1 := H_35) (k_34) (hq_38 _ (va_at.lt (k_34)))
  have hA3 : ia_ G H_35 (b + 3) 4 (fun _ => 0) := by rw [← hsz]; exact ho_36
  have hsz : H_35.size = b + 4 := by omega
  have hF : ∀ q, q < b → H_35[q]? = H[q]? := fun q h => (hq_38 q (by omega)).trans (hF q h)
  refine xg (g2 := F0 m 37 ls [.ref (b + 3), .ref b]) (by rw [hszp]) ?_
  refine x_putF (ci := 1) hx hb hts hown hK wiX1 tyX1 tyX1_ok nmX1 k_39 rfl 4 (by decide) wFX1_25 rfl rfl hnm rfl (rfl) (rfl) (by simp) (hba) dX1_init_37 (fun H_42 ho_43 hz_44 hq_45 => ?_)
  have ho_43 : ob_ G H_42 b 1 [.ref (b + 1), .ref (b + 2), .int 0, .int 0, .ref (b + 3)] := ho_43
  have k_46 := va_at.kept (H1 := H_42) (k_40) (hq_45 _ (by omega))
  have k_47 := va_at.kept (H1 := H_42) (k_41) (hq_45 _ (by omega))
  have k_48 := va_at.kept (H1 := H_42) (hA3) (hq_45 _ (by omega))
  have hszp : H_42.size = b + 4 := hz_44.trans hsz
  have hsz := hszp
  have hF : ∀ q, q < b → H_42[q]? = H[q]? := fun q h => (hq_45 q (by omega)).trans (hF q h)
  exact x_vret hx hb hr hlocks hs0 hbs (by decide) (by decide) dX1_init_40 (⟨rfl, hsz, ho_43, k_46, k_47, k_48, hF⟩)
