set_option maxHeartbeats 4000000 in
set_option maxRecDepth 100000 in
theorem c_X2_row (l : Launch) (G : sg_G) (H : Heap) (mb n : Nat) (t : Nat → sp_T) (rg : Nat → Option Nat) (g : Nat → Prop) (hH : sm_H G mb n t rg g H) (hn1 : n < 512) (r k : Int32) : xC l G yX2_row cX2_row 4 (some FieldType.int) 2 0 0 [.ref mb, .int r, .int k] H (fun ans H' => ans = some (.int (op_row (n, t, rg, g) r k).1) ∧ sm_HS G mb (op_row (n, t, rg, g) r k).2 H' ∧ sm_F mb H H') := by
  refine xC.start (by decide) (Nat.le_of_ble_eq_true rfl) ?_
  intro p e s m args below meth c ls E hnm hs0 hl
  obtain ⟨hx, hb, hml, hown, hts, hr, hlocks, hK, hbs⟩ := id E
  have hl : lv_has ls 4 [(0, .ref mb), (1, .int r), (2, .int k)] := hl
  obtain ⟨so, on, tw, th, ce, kb, li, re, ns, hM, hR, hQ, hns, hg⟩ := id hH
  obtain ⟨hm0, hmn, hX, h1, h2, h3, h4, h5, h6, h7, h8, h9⟩ := id hM
  obtain ⟨hRt, hRr, hRg, hRw⟩ := id hR
  have hF : sm_F mb H H := sm_F.rf
  refine xl (fun _ => lv_iload_n hx hb dX2_row_0 rfl (lv_at hl 1 rfl)) ?_
  refine x_callS E hl (c_X2_isRegister l G H r) xm_yX2_isRegister wMX2_46 wS_yX2_isRegister (rest := []) rfl (by decide) (by decide) ⟨by decide, by decide⟩ dX2_row_1 (x_pure (r := .int (bI (sp_ir r))) (st1 := []) ?_)
  refine xb (fun _ => lv_if_eq (tgt := 18) hx hb dX2_row_4 (by decide)) (fun c_4 => ?_) (fun c_4 => ?_)
  · have c_4 := bI_f c_4
    refine xl (fun _ => lv_iconst (v := (-1)) hx hb dX2_row_18 (by decide)) ?_
    exact x_iret hx hb hr hlocks hs0 hbs (by decide) (by decide) dX2_row_19 (⟨by simp only [op_row, mi_no c_4]; (repeat' split) <;> rfl, by simp only [op_row, mi_no c_4]; (repeat' split) <;> exact hH, sm_F.rf⟩)
  · have c_4 := bI_t c_4
    obtain ⟨rr, hrr, rfl⟩ := sp_ir_of c_4
    refine xl (fun _ => lv_iload_n hx hb dX2_row_7 rfl (lv_at hl 2 rfl)) ?_
    refine xl (fun _ => lv_iconst (v := 1) hx hb dX2_row_8 (by decide)) ?_
    refine xb (fun _ => lv_icmp_lt (tgt := 18) hx hb dX2_row_9 (by decide)) (fun c_9 => ?_) (fun c_9 => ?_)
    · have hik := ik_no1 c_9
      refine xl (fun _ => lv_iconst (v := (-1)) hx hb dX2_row_18 (by decide)) ?_
      exact x_iret hx hb hr hlocks hs0 hbs (by decide) (by decide) dX2_row_19 (⟨by simp only [op_row, hik, reduceIte, Bool.false_eq_true, and_true, true_and, and_false, false_and, and_self, not_true_eq_false, not_false_eq_true], by simp only [op_row, hik, reduceIte, Bool.false_eq_true, and_true, true_and, and_false, false_and, and_self, not_true_eq_false, not_false_eq_true]; exact hH, sm_F.rf⟩)
    · refine xl (fun _ => lv_iload_n hx hb dX2_row_12 rfl (lv_at hl 2 rfl)) ?_
      refine xl (fun _ => lv_bipush (v := 7) hx hb dX2_row_13 (by decide)) ?_
      refine xb (fun _ => lv_icmp_le (tgt := 20) hx hb dX2_row_15 (by decide)) (fun c_15 => ?_) (fun c_15 => ?_)
      · have hik := ik_yes c_9 c_15
        refine xl (fun _ => lv_iconst (v := 0) hx hb dX2_row_20 (by decide)) ?_
        refine xs (fun _ => lv_istore_n (i := 3) (lv' := [(3, .int 0), (0, .ref mb), (1, .int (nI rr)), (2, .int k)]) hx hb dX2_row_21 rfl hl (by decide) (rfl)) (fun ls hl => ?_)
        have hfill : ∀ (d : Nat) (q : Nat) (Hk : Heap) (lk : Nat → Int32), q ≤ 8 → 8 < q + d → sm_X G mb n so on tw th ce (fun i => bI (cB (g i))) (fun i => bI (kb i)) lk re (nI ns) Hk → (∀ x, x < q → lk x = 0) → sm_F mb H Hk → ∀ (ls : Array Slot), lv_has ls 4 [(3, .int (nI q)), (0, .ref mb), (1, .int (nI rr)), (2, .int k)] → xV p l e (xR 2 0 0) s m args below meth c G Hk 0 0 (MQ below (xQ G H (fun ans H' => ans = some (.int (op_row (n, t, rg, g) (nI rr) k).1) ∧ sm_HS G mb (op_row (n, t, rg, g) (nI rr) k).2 H' ∧ sm_F mb H H')) args s 0 0 (sg_fr G)) (F0 m 22 ls []) := by
          intro d
          induction d with
          | zero =>
            intro q Hk lk h1 h2
            exact absurd h2 (by omega)
          | succ d ih =>
            intro q Hk lk hq8 hd hMk hz0 hF ls hl
            obtain ⟨hm0, hmn, hX, h1, h2, h3, h4, h5, h6, h7, h8, h9⟩ := id hMk
            refine xl (fun _ => lv_iload_n hx hb dX2_row_22 rfl (lv_at hl 0 rfl)) ?_
            refine xl (fun _ => lv_bipush (v := 8) hx hb dX2_row_23 (by decide)) ?_
            refine xb (fun _ => lv_icmp_ge (tgt := 41) hx hb dX2_row_25 (by decide)) (fun c_25 => ?_) (fun c_25 => ?_)
            · have e8k : q = 8 := by have := nI_le4 (n := 8) (by omega) (by decide) c_25; omega
              rw [e8k] at hz0
              refine xl (fun _ => lv_aload_n hx hb dX2_row_41 rfl (lv_at hl 1 rfl)) ?_
              refine xl (fun _ => lv_iload_n hx hb dX2_row_42 rfl (lv_at hl 2 rfl)) ?_
              refine xl (fun _ => lv_bipush (v := 7) hx hb dX2_row_43 (by decide)) ?_
              refine xl (fun _ => lv_iload_n hx hb dX2_row_45 rfl (lv_at hl 3 rfl)) ?_
              refine xl (fun _ => lv_iconst (v := 0) hx hb dX2_row_46 (by decide)) ?_
              refine xl (fun _ => lv_iconst (v := 0) hx hb dX2_row_47 (by decide)) ?_
              refine x_callV E hl (c_X2_put l G Hk mb n _ _ _ _ _ _ _ _ _ _ ⟨hm0, hmn, hX, h1, h2, h3, h4, h5, h6, h7, h8, h9⟩ t rg hR g (7, k, z4, sp_p4 none none none) (wf_row (sp_ik_of hik) (bd_p4 (so := 7) (la := k) (nu := z4) no_b no_b no_b)) rr hrr 7 k 0 0 rfl (fun _ => (e_7 (d := (7, k, z4, sp_p4 none none none)) rfl).1.symm) ((e_7 (d := (7, k, z4, sp_p4 none none none)) rfl).2.1.symm) ((e_7 (d := (7, k, z4, sp_p4 none none none)) rfl).2.2.symm) (fun _ x hx => (hz0 x hx).trans (e8_row0 x hx).symm) ns hQ (fun z => absurd z (show ¬ (7 : Int32) = 1 by decide)) hn1) xm_yX2_put wMX2_56 wI_yX2_put wT_yX2_put (ci := 2) rfl rfl hX (rest := []) rfl (by decide) (by decide) ⟨by decide, by decide⟩ dX2_row_48 (fun v_1 H_2 hp_3 hz_4 hq_5 => ?_)
              obtain ⟨rfl, ⟨so2, on2, tw2, th2, ce2, re2, hM2, hR2, hQ2⟩, hF2⟩ := hp_3
              refine xg (g2 := F0 m 51 ls [.int 1]) rfl ?_
              have hH2 : sm_HS G mb (sp_mkS (n, t, rg, g) rr (7, k, z4, sp_p4 none none none)) H_2 := by
                unfold sm_HS
                rw [show (sp_mkS (n, t, rg, g) rr (7, k, z4, sp_p4 none none none)).2.2.2 = g from mkS_le.2]
                exact ⟨_, _, _, _, _, _, _, _, ns, hM2, hR2, hQ2, Nat.le_trans hns mkS_le.1, fun i h => Nat.lt_of_lt_of_le (hg i h) mkS_le.1⟩
              exact x_iret hx hb hr hlocks hs0 hbs (by decide) (by decide) dX2_row_51 (⟨by simp only [op_row, hik, reduceIte, Bool.false_eq_true, and_true, true_and, and_false, false_and, and_self, not_true_eq_false, not_false_eq_true]; rw [sp_mi_nI hrr], by simp only [op_row, hik, reduceIte, Bool.false_eq_true, and_true, true_and, and_false, false_and, and_self, not_true_eq_false, not_false_eq_true]; rw [sp_mi_nI hrr]; exact hH2, hF.tr hF2⟩)
            · have hk8 : q < 8 := nI_nle4 (n := 8) (by omega) (by decide) c_25
              refine xl (fun _ => lv_aload_n hx hb dX2_row_28 rfl (lv_at hl 1 rfl)) ?_
              refine x_get (ci := 2) hx hb hts hown hK wiX2 hX rfl 8 (by decide) wFX2_32 rfl rfl dX2_row_29 ?_
              refine xl (fun _ => lv_iload_n hx hb dX2_row_32 rfl (lv_at hl 0 rfl)) ?_
              refine xl (fun _ => lv_iconst (v := 0) hx hb dX2_row_33 (by decide)) ?_
              refine x_iast hx hb hK h8 q (rfl) (by omega) (by decide) (by omega) dX2_row_34 (fun H_6 ho_7 hz_8 hq_9 => ?_)
              have ho_7 : ia_ G H_6 (mb + 8) 8 (upd lk q 0) := ho_7
              have k_10 := va_at.kept (H1 := H_6) (hX) (hq_9 _ (by omega))
              have k_11 := va_at.kept (H1 := H_6) (h1) (hq_9 _ (by omega))
              have k_12 := va_at.kept (H1 := H_6) (h2) (hq_9 _ (by omega))
              have k_13 := va_at.kept (H1 := H_6) (h3) (hq_9 _ (by omega))
              have k_14 := va_at.kept (H1 := H_6) (h4) (hq_9 _ (by omega))
              have k_15 := va_at.kept (H1 := H_6) (h5) (hq_9 _ (by omega))
              have k_16 := va_at.kept (H1 := H_6) (h6) (hq_9 _ (by omega))
              have k_17 := va_at.kept (H1 := H_6) (h7) (hq_9 _ (by omega))
              have k_18 := va_at.kept (H1 := H_6) (h9) (hq_9 _ (by omega))
              have hF : sm_F mb H H_6 := hF.put (a := (mb + 8)) hz_8 hq_9 ⟨by omega, by omega⟩
              refine xs (fun _ => lv_iinc (v := (nI (q + 1))) (lv' := [(3, .int (nI (q + 1))), (0, .ref mb), (1, .int (nI rr)), (2, .int k)]) hx hb dX2_row_35 hl (k := 0) rfl (nI_1 q) (by decide) (rfl)) (fun ls hl => ?_)
              refine xl (fun _ => lv_goto (tgt := 22) hx hb dX2_row_38 (by decide)) ?_
              exact ih (q + 1) _ _ (by omega) (by omega) ⟨hm0, hmn, k_10, k_11, k_12, k_13, k_14, k_15, k_16, k_17, ho_7, k_18⟩ (fun x hx => by by_cases e : x = q; (subst e; rw [pk_us]); (rw [pk_un e]; exact hz0 x (by omega))) hF ls (lv_sub hl [0, 1, 2, 3] rfl)
        exact hfill 9 0 _ _ (by decide) (by decide) ⟨hm0, hmn, hX, h1, h2, h3, h4, h5, h6, h7, h8, h9⟩ (fun x hx => absurd hx (Nat.not_lt_zero x)) hF ls (lv_sub hl [0, 1, 2, 3] rfl)
      · have hik := ik_no7 c_15
        refine xl (fun _ => lv_iconst (v := (-1)) hx hb dX2_row_18 (by decide)) ?_
        exact x_iret hx hb hr hlocks hs0 hbs (by decide) (by decide) dX2_row_19 (⟨by simp only [op_row, hik, reduceIte, Bool.false_eq_true, and_true, true_and, and_false, false_and, and_self, not_true_eq_false, not_false_eq_true], by simp only [op_row, hik, reduceIte, Bool.false_eq_true, and_true, true_and, and_false, false_and, and_self, not_true_eq_false, not_false_eq_true]; exact hH, sm_F.rf⟩)

set_option maxHeartbeats 4000000 in
set_option maxRecDepth 100000 in
theorem c_X2_copy (l : Launch) (G : sg_G) (H : Heap) (mb n : Nat) (so on tw th ce gi kn li re : Nat → Int32) (sec : Int32) (hM : sm_X G mb n so on tw th ce gi kn li re sec H) (t : Nat → sp_T) (rg : Nat → Option Nat) (hR : sm_R n t rg so on tw th ce re) (x : Int32) (i : Nat) (hxi : sp_rg rg x = some i) : xC l G yX2_copy cX2_copy 3 none 0 0 0 [.ref mb, .int x] H (fun v H' => v = none ∧ (∃ li', sm_X G mb n so on tw th ce gi kn li' re sec H' ∧ ∀ k, k < 8 → li' k = e8 (t i) k) ∧ sm_F mb H H') := by
  refine xC.start (by decide) (Nat.le_of_ble_eq_true rfl) ?_
  intro p e s m args below meth c ls E hnm hs0 hl
  obtain ⟨hx, hb, hml, hown, hts, hr, hlocks, hK, hbs⟩ := id E
  have hl : lv_has ls 3 [(0, .ref mb), (1, .int x)] := hl
  obtain ⟨hm0, hmn, hX, h1, h2, h3, h4, h5, h6, h7, h8, h9⟩ := id hM
  obtain ⟨hRt, hRr, hRg, hRw⟩ := id hR
  have hF : sm_F mb H H := sm_F.rf
  obtain ⟨j_x, hj_x, he_x, hg_x⟩ := sp_rg_s hxi
  have hi_i : i < n := hRg j_x hj_x i hg_x
  have hr_x : re j_x = nI (i + 1) := by rw [hRr j_x hj_x, hg_x]; rfl
  refine xl (fun _ => lv_iconst (v := 0) hx hb dX2_copy_0 (by decide)) ?_
  refine xs (fun _ => lv_istore_n (i := 2) (lv' := [(2, .int 0), (0, .ref mb), (1, .int x)]) hx hb dX2_copy_1 rfl hl (by decide) (rfl)) (fun ls hl => ?_)
  have hfill : ∀ (d : Nat) (k : Nat) (Hk : Heap) (lk : Nat → Int32), k ≤ 8 → 8 < k + d → sm_X G mb n so on tw th ce gi kn lk re sec Hk → (∀ q, q < k → lk q = e8 (t i) q) → sm_F mb H Hk → ∀ (ls : Array Slot), lv_has ls 3 [(2, .int (nI k)), (0, .ref mb), (1, .int x)] → xV p l e (xR 0 0 0) s m args below meth c G Hk 0 0 (MQ below (xQ G H (fun v H' => v = none ∧ (∃ li', sm_X G mb n so on tw th ce gi kn li' re sec H' ∧ ∀ k, k < 8 → li' k = e8 (t i) k) ∧ sm_F mb H H')) args s 0 0 (sg_fr G)) (F0 m 2 ls []) := by
    intro d
    induction d with
    | zero =>
      intro k Hk lk h1 h2
      exact absurd h2 (by omega)
    | succ d ih =>
      intro k Hk lk hk hd hMk hcs hF ls hl
      obtain ⟨hm0, hmn, hX, h1, h2, h3, h4, h5, h6, h7, h8, h9⟩ := id hMk
      refine xl (fun _ => lv_iload_n hx hb dX2_copy_2 rfl (lv_at hl 0 rfl)) ?_
      refine xl (fun _ => lv_bipush (v := 8) hx hb dX2_copy_3 (by decide)) ?_
      refine xb (fun _ => lv_icmp_ge (tgt := 38) hx hb dX2_copy_5 (by decide)) (fun c_5 => ?_) (fun c_5 => ?_)
      · have e8k : k = 8 := by have := nI_le4 (n := 8) (by omega) (by decide) c_5; omega
        rw [e8k] at hcs
        exact x_vret hx hb hr hlocks hs0 hbs (by decide) (by decide) dX2_copy_38 (⟨rfl, ⟨_, ⟨hm0, hmn, hX, h1, h2, h3, h4, h5, h6, h7, h8, h9⟩, hcs⟩, hF⟩)
      · have hk8 : k < 8 := nI_nle4 (n := 8) (by omega) (by decide) c_5
        refine xl (fun _ => lv_aload_n hx hb dX2_copy_8 rfl (lv_at hl 1 rfl)) ?_
        refine x_get (ci := 2) hx hb hts hown hK wiX2 hX rfl 8 (by decide) wFX2_32 rfl rfl dX2_copy_9 ?_
        refine xl (fun _ => lv_iload_n hx hb dX2_copy_12 rfl (lv_at hl 0 rfl)) ?_
        refine xl (fun _ => lv_aload_n hx hb dX2_copy_13 rfl (lv_at hl 1 rfl)) ?_
        refine x_get (ci := 2) hx hb hts hown hK wiX2 hX rfl 5 (by decide) wFX2_22 rfl rfl dX2_copy_14 ?_
        refine xl (fun _ => lv_bipush (v := 8) hx hb dX2_copy_17 (by decide)) ?_
        refine xl (fun _ => lv_aload_n hx hb dX2_copy_19 rfl (lv_at hl 1 rfl)) ?_
        refine x_get (ci := 2) hx hb hts hown hK wiX2 hX rfl 9 (by decide) wFX2_35 rfl rfl dX2_copy_20 ?_
        refine xl (fun _ => lv_iload_n hx hb dX2_copy_23 rfl (lv_at hl 2 rfl)) ?_
        refine x_iald hx hb hK h9 j_x (he_x) (by have := hj_x; omega) (by decide) dX2_copy_24 ?_
        rw [show (re j_x) = (nI (i + 1)) from hr_x]
        refine xl (fun _ => lv_iconst (v := 1) hx hb dX2_copy_25 (by decide)) ?_
        refine xl (fun _ => lv_isub hx hb dX2_copy_26) ?_
        rw [show ((nI (i + 1)) - 1) = (nI i) from nI_pred i]
        refine xl (fun _ => lv_imul hx hb dX2_copy_27) ?_
        rw [show (8 * (nI i)) = (nI (8 * i)) from pk_mul 8 i]
        refine xl (fun _ => lv_iload_n hx hb dX2_copy_28 rfl (lv_at hl 0 rfl)) ?_
        refine xl (fun _ => lv_iadd hx hb dX2_copy_29) ?_
        rw [show ((nI (8 * i)) + (nI k)) = (nI (8 * i + k)) from nI_add _ _]
        refine x_iald hx hb hK h5 (8 * i + k) (rfl) (by omega) (by decide) dX2_copy_30 ?_
        rw [show (ce (8 * i + k)) = (e8 (t i) k) from (hRt i hi_i).2.2.2.2 k hk8]
        refine x_iast hx hb hK h8 k (rfl) (by omega) (by decide) (by omega) dX2_copy_31 (fun H_1 ho_2 hz_3 hq_4 => ?_)
        have ho_2 : ia_ G H_1 (mb + 8) 8 (upd lk k (e8 (t i) k)) := ho_2
        have k_5 := va_at.kept (H1 := H_1) (hX) (hq_4 _ (by omega))
        have k_6 := va_at.kept (H1 := H_1) (h1) (hq_4 _ (by omega))
        have k_7 := va_at.kept (H1 := H_1) (h2) (hq_4 _ (by omega))
        have k_8 := va_at.kept (H1 := H_1) (h3) (hq_4 _ (by omega))
        have k_9 := va_at.kept (H1 := H_1) (h4) (hq_4 _ (by omega))
        have k_10 := va_at.kept (H1 := H_1) (h5) (hq_4 _ (by omega))
        have k_11 := va_at.kept (H1 := H_1) (h6) (hq_4 _ (by omega))
        have k_12 := va_at.kept (H1 := H_1) (h7) (hq_4 _ (by omega))
        have k_13 := va_at.kept (H1 := H_1) (h9) (hq_4 _ (by omega))
        have hF : sm_F mb H H_1 := hF.put (a := (mb + 8)) hz_3 hq_4 ⟨by omega, by omega⟩
        refine xs (fun _ => lv_iinc (v := (nI (k + 1))) (lv' := [(2, .int (nI (k + 1))), (0, .ref mb), (1, .int x)]) hx hb dX2_copy_32 hl (k := 0) rfl (nI_1 k) (by decide) (rfl)) (fun ls hl => ?_)
        refine xl (fun _ => lv_goto (tgt := 2) hx hb dX2_copy_35 (by decide)) ?_
        exact ih (k + 1) _ _ (by omega) (by omega) ⟨hm0, hmn, k_5, k_6, k_7, k_8, k_9, k_10, k_11, k_12, ho_2, k_13⟩ (fun q hq => by by_cases e : q = k; (subst e; rw [pk_us]); (rw [pk_un e]; exact hcs q (by omega))) hF ls (lv_sub hl [0, 1, 2] rfl)
  exact hfill 9 0 _ _ (by decide) (by decide) ⟨hm0, hmn, hX, h1, h2, h3, h4, h5, h6, h7, h8, h9⟩ (fun q hq => absurd hq (Nat.not_lt_zero q)) hF ls (lv_sub hl [0, 1, 2] rfl)

set_option maxHeartbeats 4000000 in
set_option maxRecDepth 100000 in
theorem c_X2_alter (l : Launch) (G : sg_G) (H : Heap) (mb n : Nat) (t : Nat → sp_T) (rg : Nat → Option Nat) (g : Nat → Prop) (hH : sm_H G mb n t rg g H) (hn1 : n < 512) (r x k v : Int32) : xC l G yX2_alter cX2_alter 5 (some FieldType.int) 3 0 0 [.ref mb, .int r, .int x, .int k, .int v] H (fun ans H' => ans = some (.int (op_alter (n, t, rg, g) r x k v).1) ∧ sm_HS G mb (op_alter (n, t, rg, g) r x k v).2 H' ∧ sm_F mb H H') := by
  refine xC.start (by decide) (Nat.le_of_ble_eq_true rfl) ?_
  intro p e s m args below meth c ls E hnm hs0 hl
  obtain ⟨hx, hb, hml, hown, hts, hr, hlocks, hK, hbs⟩ := id E
  have hl : lv_has ls 5 [(0, .ref mb), (1, .int r), (2, .int x), (3, .int k), (4, .int v)] := hl
  obtain ⟨so, on, tw, th, ce, kb, li, re, ns, hM, hR, hQ, hns, hg⟩ := id hH
  obtain ⟨hm0, hmn, hX, h1, h2, h3, h4, h5, h6, h7, h8, h9⟩ := id hM
  obtain ⟨hRt, hRr, hRg, hRw⟩ := id hR
  have hF : sm_F mb H H := sm_F.rf
  refine xl (fun _ => lv_iload_n hx hb dX2_alter_0 rfl (lv_at hl 1 rfl)) ?_
  refine x_callS E hl (c_X2_isRegister l G H r) xm_yX2_isRegister wMX2_46 wS_yX2_isRegister (rest := []) rfl (by decide) (by decide) ⟨by decide, by decide⟩ dX2_alter_1 (x_pure (r := .int (bI (sp_ir r))) (st1 := []) ?_)
  refine xb (fun _ => lv_if_eq (tgt := 44) hx hb dX2_alter_4 (by decide)) (fun c_4 => ?_) (fun c_4 => ?_)
  · have c_4 := bI_f c_4
    refine xl (fun _ => lv_iconst (v := (-1)) hx hb dX2_alter_44 (by decide)) ?_
    exact x_iret hx hb hr hlocks hs0 hbs (by decide) (by decide) dX2_alter_45 (⟨by simp only [op_alter, mi_no c_4]; (repeat' split) <;> rfl, by simp only [op_alter, mi_no c_4]; (repeat' split) <;> exact hH, sm_F.rf⟩)
  · have c_4 := bI_t c_4
    obtain ⟨rr, hrr, rfl⟩ := sp_ir_of c_4
    refine xl (fun _ => lv_aload_n hx hb dX2_alter_7 rfl (lv_at hl 0 rfl)) ?_
    refine xl (fun _ => lv_iload_n hx hb dX2_alter_8 rfl (lv_at hl 2 rfl)) ?_
    refine xl (fun _ => lv_bipush (v := 7) hx hb dX2_alter_9 (by decide)) ?_
    refine x_callV E hl (c_X2_has l G H mb n _ _ _ _ _ _ _ _ _ _ ⟨hm0, hmn, hX, h1, h2, h3, h4, h5, h6, h7, h8, h9⟩ t rg hR x 7) xm_yX2_has wMX2_60 wI_yX2_has wT_yX2_has (ci := 2) rfl rfl hX (rest := []) rfl (by decide) (by decide) ⟨by decide, by decide⟩ dX2_alter_11 (x_pure (r := .int (bI (sp_rs t rg x 7).isSome)) (st1 := []) ?_)
    refine xb (fun _ => lv_if_eq (tgt := 44) hx hb dX2_alter_14 (by decide)) (fun c_14 => ?_) (fun c_14 => ?_)
    · have c_14 := bI_f c_14
      have hs_14 := isN c_14
      refine xl (fun _ => lv_iconst (v := (-1)) hx hb dX2_alter_44 (by decide)) ?_
      exact x_iret hx hb hr hlocks hs0 hbs (by decide) (by decide) dX2_alter_45 (⟨by simp only [op_alter, hs_14, reduceIte, Bool.false_eq_true, and_true, true_and, and_false, false_and, and_self, not_true_eq_false, not_false_eq_true], by simp only [op_alter, hs_14, reduceIte, Bool.false_eq_true, and_true, true_and, and_false, false_and, and_self, not_true_eq_false, not_false_eq_true]; exact hH, sm_F.rf⟩)
    · have c_14 := bI_t c_14
      obtain ⟨i, hs_14⟩ := isS c_14
      obtain ⟨j_x, hj_x, he_x, hg_x⟩ := sp_rg_s (sp_rs_of hs_14).1
      have hi_i : i < n := hRg j_x hj_x i hg_x
      have hr_x : re j_x = nI (i + 1) := by rw [hRr j_x hj_x, hg_x]; rfl
      refine xl (fun _ => lv_iload_n hx hb dX2_alter_17 rfl (lv_at hl 3 rfl)) ?_
      refine xb (fun _ => lv_if_lt (tgt := 44) hx hb dX2_alter_18 (by decide)) (fun c_18 => ?_) (fun c_18 => ?_)
      · have hiss := is_neg c_18
        have hk4 := k_not4n c_18
        refine xl (fun _ => lv_iconst (v := (-1)) hx hb dX2_alter_44 (by decide)) ?_
        exact x_iret hx hb hr hlocks hs0 hbs (by decide) (by decide) dX2_alter_45 (⟨by simp only [op_alter, hs_14, hiss, hk4, reduceIte, Bool.false_eq_true, and_true, true_and, and_false, false_and, and_self, not_true_eq_false, not_false_eq_true], by simp only [op_alter, hs_14, hiss, hk4, reduceIte, Bool.false_eq_true, and_true, true_and, and_false, false_and, and_self, not_true_eq_false, not_false_eq_true]; exact hH, sm_F.rf⟩)
      · refine xl (fun _ => lv_iload_n hx hb dX2_alter_21 rfl (lv_at hl 3 rfl)) ?_
        refine xl (fun _ => lv_iconst (v := 4) hx hb dX2_alter_22 (by decide)) ?_
        refine xb (fun _ => lv_icmp_gt (tgt := 44) hx hb dX2_alter_23 (by decide)) (fun c_23 => ?_) (fun c_23 => ?_)
        · have hiss := is_big4 c_23
          have hk4 := k_not4 c_23
          refine xl (fun _ => lv_iconst (v := (-1)) hx hb dX2_alter_44 (by decide)) ?_
          exact x_iret hx hb hr hlocks hs0 hbs (by decide) (by decide) dX2_alter_45 (⟨by simp only [op_alter, hs_14, hiss, hk4, reduceIte, Bool.false_eq_true, and_true, true_and, and_false, false_and, and_self, not_true_eq_false, not_false_eq_true], by simp only [op_alter, hs_14, hiss, hk4, reduceIte, Bool.false_eq_true, and_true, true_and, and_false, false_and, and_self, not_true_eq_false, not_false_eq_true]; exact hH, sm_F.rf⟩)
        · refine xl (fun _ => lv_iload_n hx hb dX2_alter_26 rfl (lv_at hl 3 rfl)) ?_
          refine xl (fun _ => lv_iconst (v := 4) hx hb dX2_alter_27 (by decide)) ?_
          refine xb (fun _ => lv_icmp_ne (tgt := 46) hx hb dX2_alter_28 (by decide)) (fun c_28 => ?_) (fun c_28 => ?_)
          · obtain ⟨j, hj, rfl⟩ := k_slot c_18 c_23 c_28
            have hcl : (nI j).toNatClampNeg = j := nI_clamp (by omega)
            have hiss := sp_is_nI hj
            refine xl (fun _ => lv_aload_n hx hb dX2_alter_46 rfl (lv_at hl 0 rfl)) ?_
            refine xl (fun _ => lv_iload_n hx hb dX2_alter_47 rfl (lv_at hl 2 rfl)) ?_
            refine x_callV E hl (c_X2_copy l G H mb n _ _ _ _ _ _ _ _ _ _ ⟨hm0, hmn, hX, h1, h2, h3, h4, h5, h6, h7, h8, h9⟩ t rg hR x i (sp_rs_of hs_14).1) xm_yX2_copy wMX2_68 wI_yX2_copy wT_yX2_copy (ci := 2) rfl rfl hX (rest := []) rfl (by decide) (by decide) ⟨by decide, by decide⟩ dX2_alter_48 (fun v_1 H_2 hp_3 hz_4 hq_5 => ?_)
            obtain ⟨rfl, ⟨l1, hM1, hl1⟩, hF1⟩ := hp_3
            have hF : sm_F mb H H_2 := hF.tr hF1
            refine xg (g2 := F0 m 51 ls []) rfl ?_
            obtain ⟨hm0, hmn, hX, h1, h2, h3, h4, h5, h6, h7, h8, h9⟩ := id hM1
            have h77 := (sp_rs_of hs_14).2
            have hon : on i = sp_la (t i) := by rw [(hRt i hi_i).2.1 (by rw [h77]; decide), (e_7 h77).1]
            refine xl (fun _ => lv_iload_n hx hb dX2_alter_51 rfl (lv_at hl 3 rfl)) ?_
            refine xl (fun _ => lv_iconst (v := 4) hx hb dX2_alter_52 (by decide)) ?_
            refine xb (fun _ => lv_icmp_ge (tgt := 64) hx hb dX2_alter_53 (by decide)) (fun c_53 => ?_) (fun c_53 => ?_)
            · exact absurd c_53 (nI_ge (b := 4) hj (by decide))
            · refine xl (fun _ => lv_aload_n hx hb dX2_alter_56 rfl (lv_at hl 0 rfl)) ?_
              refine x_get (ci := 2) hx hb hts hown hK wiX2 hX rfl 8 (by decide) wFX2_32 rfl rfl dX2_alter_57 ?_
              refine xl (fun _ => lv_iload_n hx hb dX2_alter_60 rfl (lv_at hl 3 rfl)) ?_
              refine xl (fun _ => lv_iload hx hb dX2_alter_61 (lv_at hl 4 rfl)) ?_
              refine x_iast hx hb hK h8 j (rfl) (by omega) (by decide) (by omega) dX2_alter_63 (fun H_6 ho_7 hz_8 hq_9 => ?_)
              have ho_7 : ia_ G H_6 (mb + 8) 8 (upd l1 j v) := ho_7
              have k_10 := va_at.kept (H1 := H_6) (hX) (hq_9 _ (by omega))
              have k_11 := va_at.kept (H1 := H_6) (h1) (hq_9 _ (by omega))
              have k_12 := va_at.kept (H1 := H_6) (h2) (hq_9 _ (by omega))
              have k_13 := va_at.kept (H1 := H_6) (h3) (hq_9 _ (by omega))
              have k_14 := va_at.kept (H1 := H_6) (h4) (hq_9 _ (by omega))
              have k_15 := va_at.kept (H1 := H_6) (h5) (hq_9 _ (by omega))
              have k_16 := va_at.kept (H1 := H_6) (h6) (hq_9 _ (by omega))
              have k_17 := va_at.kept (H1 := H_6) (h7) (hq_9 _ (by omega))
              have k_18 := va_at.kept (H1 := H_6) (h9) (hq_9 _ (by omega))
              have hF : sm_F mb H H_6 := hF.put (a := (mb + 8)) hz_8 hq_9 ⟨by omega, by omega⟩
              refine xl (fun _ => lv_aload_n hx hb dX2_alter_64 rfl (lv_at hl 0 rfl)) ?_
              refine xl (fun _ => lv_iload_n hx hb dX2_alter_65 rfl (lv_at hl 1 rfl)) ?_
              refine xl (fun _ => lv_bipush (v := 7) hx hb dX2_alter_66 (by decide)) ?_
              refine xl (fun _ => lv_iload_n hx hb dX2_alter_68 rfl (lv_at hl 3 rfl)) ?_
              refine xl (fun _ => lv_iconst (v := 4) hx hb dX2_alter_69 (by decide)) ?_
              refine xb (fun _ => lv_icmp_ne (tgt := 78) hx hb dX2_alter_70 (by decide)) (fun c_70 => ?_) (fun c_70 => ?_)
              · refine xl (fun _ => lv_aload_n hx hb dX2_alter_78 rfl (lv_at hl 0 rfl)) ?_
                refine x_get (ci := 2) hx hb hts hown hK wiX2 k_10 rfl 2 (by decide) wFX2_13 rfl rfl dX2_alter_79 ?_
                refine xl (fun _ => lv_aload_n hx hb dX2_alter_82 rfl (lv_at hl 0 rfl)) ?_
                refine x_get (ci := 2) hx hb hts hown hK wiX2 k_10 rfl 9 (by decide) wFX2_35 rfl rfl dX2_alter_83 ?_
                refine xl (fun _ => lv_iload_n hx hb dX2_alter_86 rfl (lv_at hl 2 rfl)) ?_
                refine x_iald hx hb hK k_18 j_x (he_x) (by have := hj_x; omega) (by decide) dX2_alter_87 ?_
                rw [show (re j_x) = (nI (i + 1)) from hr_x]
                refine xl (fun _ => lv_iconst (v := 1) hx hb dX2_alter_88 (by decide)) ?_
                refine xl (fun _ => lv_isub hx hb dX2_alter_89) ?_
                rw [show ((nI (i + 1)) - 1) = (nI i) from nI_pred i]
                refine x_iald hx hb hK k_12 i (rfl) (by omega) (by decide) dX2_alter_90 ?_
                rw [show (on i) = (sp_la (t i)) from hon]
                refine xl (fun _ => lv_iconst (v := 0) hx hb dX2_alter_91 (by decide)) ?_
                refine xl (fun _ => lv_iconst (v := 0) hx hb dX2_alter_92 (by decide)) ?_
                refine x_callV E hl (c_X2_put l G H_6 mb n _ _ _ _ _ _ _ _ _ _ ⟨hm0, hmn, k_10, k_11, k_12, k_13, k_14, k_15, k_16, k_17, ho_7, k_18⟩ t rg hR g (7, sp_la (t i), upd (sp_nu (t i)) j v, sp_pa (t i)) (wf_row (sp_wf7 (hRw i hi_i) h77) (fun q hq jj e => Nat.lt_trans ((hRw i hi_i).1 q hq jj e) hi_i)) rr hrr 7 (sp_la (t i)) 0 0 rfl (fun _ => (e_7 (d := (7, sp_la (t i), upd (sp_nu (t i)) j v, sp_pa (t i))) rfl).1.symm) ((e_7 (d := (7, sp_la (t i), upd (sp_nu (t i)) j v, sp_pa (t i))) rfl).2.1.symm) ((e_7 (d := (7, sp_la (t i), upd (sp_nu (t i)) j v, sp_pa (t i))) rfl).2.2.symm) (fun _ => e8_alter h77 hl1 hj) ns hQ (fun z => absurd z (show ¬ (7 : Int32) = 1 by decide)) hn1) xm_yX2_put wMX2_56 wI_yX2_put wT_yX2_put (ci := 2) rfl rfl k_10 (rest := []) rfl (by decide) (by decide) ⟨by decide, by decide⟩ dX2_alter_93 (fun v_19 H_20 hp_21 hz_22 hq_23 => ?_)
                obtain ⟨rfl, ⟨so2, on2, tw2, th2, ce2, re2, hM2, hR2, hQ2⟩, hF2⟩ := hp_21
                refine xg (g2 := F0 m 96 ls [.int 1]) rfl ?_
                have hH2 : sm_HS G mb (sp_mkS (n, t, rg, g) rr (7, sp_la (t i), upd (sp_nu (t i)) j v, sp_pa (t i))) H_20 := by
                  unfold sm_HS
                  rw [show (sp_mkS (n, t, rg, g) rr (7, sp_la (t i), upd (sp_nu (t i)) j v, sp_pa (t i))).2.2.2 = g from mkS_le.2]
                  exact ⟨_, _, _, _, _, _, _, _, ns, hM2, hR2, hQ2, Nat.le_trans hns mkS_le.1, fun i h => Nat.lt_of_lt_of_le (hg i h) mkS_le.1⟩
                exact x_iret hx hb hr hlocks hs0 hbs (by decide) (by decide) dX2_alter_96 (⟨by simp only [op_alter, hs_14, hiss, hcl, reduceIte, Bool.false_eq_true, and_true, true_and, and_false, false_and, and_self, not_true_eq_false, not_false_eq_true]; rw [sp_mi_nI hrr], by simp only [op_alter, hs_14, hiss, hcl, reduceIte, Bool.false_eq_true, and_true, true_and, and_false, false_and, and_self, not_true_eq_false, not_false_eq_true]; rw [sp_mi_nI hrr]; exact hH2, hF.tr hF2⟩)
              · exact absurd ((nI_eq (b := 4) (by omega) (by decide)).mp c_70) (by omega)
          · subst c_28
            have hiss : sp_is 4 = false := by decide
            refine xl (fun _ => lv_iload hx hb dX2_alter_31 (lv_at hl 4 rfl)) ?_
            refine xl (fun _ => lv_iconst (v := 1) hx hb dX2_alter_33 (by decide)) ?_
            refine xb (fun _ => lv_icmp_lt (tgt := 44) hx hb dX2_alter_34 (by decide)) (fun c_34 => ?_) (fun c_34 => ?_)
            · have hik := ik_no1 c_34
              refine xl (fun _ => lv_iconst (v := (-1)) hx hb dX2_alter_44 (by decide)) ?_
              exact x_iret hx hb hr hlocks hs0 hbs (by decide) (by decide) dX2_alter_45 (⟨by simp only [op_alter, hs_14, hiss, hik, reduceIte, Bool.false_eq_true, and_true, true_and, and_false, false_and, and_self, not_true_eq_false, not_false_eq_true], by simp only [op_alter, hs_14, hiss, hik, reduceIte, Bool.false_eq_true, and_true, true_and, and_false, false_and, and_self, not_true_eq_false, not_false_eq_true]; exact hH, sm_F.rf⟩)
            · refine xl (fun _ => lv_iload hx hb dX2_alter_37 (lv_at hl 4 rfl)) ?_
              refine xl (fun _ => lv_bipush (v := 7) hx hb dX2_alter_39 (by decide)) ?_
              refine xb (fun _ => lv_icmp_le (tgt := 46) hx hb dX2_alter_41 (by decide)) (fun c_41 => ?_) (fun c_41 => ?_)
              · have hik := ik_yes c_34 c_41
                refine xl (fun _ => lv_aload_n hx hb dX2_alter_46 rfl (lv_at hl 0 rfl)) ?_
                refine xl (fun _ => lv_iload_n hx hb dX2_alter_47 rfl (lv_at hl 2 rfl)) ?_
                refine x_callV E hl (c_X2_copy l G H mb n _ _ _ _ _ _ _ _ _ _ ⟨hm0, hmn, hX, h1, h2, h3, h4, h5, h6, h7, h8, h9⟩ t rg hR x i (sp_rs_of hs_14).1) xm_yX2_copy wMX2_68 wI_yX2_copy wT_yX2_copy (ci := 2) rfl rfl hX (rest := []) rfl (by decide) (by decide) ⟨by decide, by decide⟩ dX2_alter_48 (fun v_24 H_25 hp_26 hz_27 hq_28 => ?_)
                obtain ⟨rfl, ⟨l1, hM1, hl1⟩, hF1⟩ := hp_26
                have hF : sm_F mb H H_25 := hF.tr hF1
                refine xg (g2 := F0 m 51 ls []) rfl ?_
                obtain ⟨hm0, hmn, hX, h1, h2, h3, h4, h5, h6, h7, h8, h9⟩ := id hM1
                have h77 := (sp_rs_of hs_14).2
                have hon : on i = sp_la (t i) := by rw [(hRt i hi_i).2.1 (by rw [h77]; decide), (e_7 h77).1]
                refine xl (fun _ => lv_iload_n hx hb dX2_alter_51 rfl (lv_at hl 3 rfl)) ?_
                refine xl (fun _ => lv_iconst (v := 4) hx hb dX2_alter_52 (by decide)) ?_
                refine xb (fun _ => lv_icmp_ge (tgt := 64) hx hb dX2_alter_53 (by decide)) (fun c_53 => ?_) (fun c_53 => ?_)
                · refine xl (fun _ => lv_aload_n hx hb dX2_alter_64 rfl (lv_at hl 0 rfl)) ?_
                  refine xl (fun _ => lv_iload_n hx hb dX2_alter_65 rfl (lv_at hl 1 rfl)) ?_
                  refine xl (fun _ => lv_bipush (v := 7) hx hb dX2_alter_66 (by decide)) ?_
                  refine xl (fun _ => lv_iload_n hx hb dX2_alter_68 rfl (lv_at hl 3 rfl)) ?_
                  refine xl (fun _ => lv_iconst (v := 4) hx hb dX2_alter_69 (by decide)) ?_
                  refine xb (fun _ => lv_icmp_ne (tgt := 78) hx hb dX2_alter_70 (by decide)) (fun c_70 => ?_) (fun c_70 => ?_)
                  · exact absurd rfl c_70
                  · refine xl (fun _ => lv_iload hx hb dX2_alter_73 (lv_at hl 4 rfl)) ?_
                    refine xl (fun _ => lv_goto (tgt := 91) hx hb dX2_alter_75 (by decide)) ?_
                    refine xl (fun _ => lv_iconst (v := 0) hx hb dX2_alter_91 (by decide)) ?_
                    refine xl (fun _ => lv_iconst (v := 0) hx hb dX2_alter_92 (by decide)) ?_
                    refine x_callV E hl (c_X2_put l G H_25 mb n _ _ _ _ _ _ _ _ _ _ ⟨hm0, hmn, hX, h1, h2, h3, h4, h5, h6, h7, h8, h9⟩ t rg hR g (7, v, sp_nu (t i), sp_pa (t i)) (wf_row (sp_ik_of hik) (fun q hq jj e => Nat.lt_trans ((hRw i hi_i).1 q hq jj e) hi_i)) rr hrr 7 v 0 0 rfl (fun _ => (e_7 (d := (7, v, sp_nu (t i), sp_pa (t i))) rfl).1.symm) ((e_7 (d := (7, v, sp_nu (t i), sp_pa (t i))) rfl).2.1.symm) ((e_7 (d := (7, v, sp_nu (t i), sp_pa (t i))) rfl).2.2.symm) (fun _ => e8_kind h77 hl1) ns hQ (fun z => absurd z (show ¬ (7 : Int32) = 1 by decide)) hn1) xm_yX2_put wMX2_56 wI_yX2_put wT_yX2_put (ci := 2) rfl rfl hX (rest := []) rfl (by decide) (by decide) ⟨by decide, by decide⟩ dX2_alter_93 (fun v_29 H_30 hp_31 hz_32 hq_33 => ?_)
                    obtain ⟨rfl, ⟨so2, on2, tw2, th2, ce2, re2, hM2, hR2, hQ2⟩, hF2⟩ := hp_31
                    refine xg (g2 := F0 m 96 ls [.int 1]) rfl ?_
                    have hH2 : sm_HS G mb (sp_mkS (n, t, rg, g) rr (7, v, sp_nu (t i), sp_pa (t i))) H_30 := by
                      unfold sm_HS
                      rw [show (sp_mkS (n, t, rg, g) rr (7, v, sp_nu (t i), sp_pa (t i))).2.2.2 = g from mkS_le.2]
                      exact ⟨_, _, _, _, _, _, _, _, ns, hM2, hR2, hQ2, Nat.le_trans hns mkS_le.1, fun i h => Nat.lt_of_lt_of_le (hg i h) mkS_le.1⟩
                    exact x_iret hx hb hr hlocks hs0 hbs (by decide) (by decide) dX2_alter_96 (⟨by simp only [op_alter, hs_14, hiss, hik, reduceIte, Bool.false_eq_true, and_true, true_and, and_false, false_and, and_self, not_true_eq_false, not_false_eq_true]; rw [sp_mi_nI hrr], by simp only [op_alter, hs_14, hiss, hik, reduceIte, Bool.false_eq_true, and_true, true_and, and_false, false_and, and_self, not_true_eq_false, not_false_eq_true]; rw [sp_mi_nI hrr]; exact hH2, hF.tr hF2⟩)
                · exact absurd (by decide) c_53
              · have hik := ik_no7 c_41
                refine xl (fun _ => lv_iconst (v := (-1)) hx hb dX2_alter_44 (by decide)) ?_
                exact x_iret hx hb hr hlocks hs0 hbs (by decide) (by decide) dX2_alter_45 (⟨by simp only [op_alter, hs_14, hiss, hik, reduceIte, Bool.false_eq_true, and_true, true_and, and_false, false_and, and_self, not_true_eq_false, not_false_eq_true], by simp only [op_alter, hs_14, hiss, hik, reduceIte, Bool.false_eq_true, and_true, true_and, and_false, false_and, and_self, not_true_eq_false, not_false_eq_true]; exact hH, sm_F.rf⟩)

set_option maxHeartbeats 4000000 in
set_option maxRecDepth 100000 in
theorem c_X2_swap (l : Launch) (G : sg_G) (H : Heap) (mb n : Nat) (t : Nat → sp_T) (rg : Nat → Option Nat) (g : Nat → Prop) (hH : sm_H G mb n t rg g H) (hn1 : n < 512) (r x k y : Int32) : xC l G yX2_swap cX2_swap 5 (some FieldType.int) 3 0 0 [.ref mb, .int r, .int x, .int k, .int y] H (fun ans H' => ans = some (.int (op_swap (n, t, rg, g) r x k y).1) ∧ sm_HS G mb (op_swap (n, t, rg, g) r x k y).2 H' ∧ sm_F mb H H') := by
  refine xC.start (by decide) (Nat.le_of_ble_eq_true rfl) ?_
  intro p e s m args below meth c ls E hnm hs0 hl
  obtain ⟨hx, hb, hml, hown, hts, hr, hlocks, hK, hbs⟩ := id E
  have hl : lv_has ls 5 [(0, .ref mb), (1, .int r), (2, .int x), (3, .int k), (4, .int y)] := hl
  obtain ⟨so, on, tw, th, ce, kb, li, re, ns, hM, hR, hQ, hns, hg⟩ := id hH
  obtain ⟨hm0, hmn, hX, h1, h2, h3, h4, h5, h6, h7, h8, h9⟩ := id hM
  obtain ⟨hRt, hRr, hRg, hRw⟩ := id hR
  have hF : sm_F mb H H := sm_F.rf
  refine xl (fun _ => lv_iload_n hx hb dX2_swap_0 rfl (lv_at hl 1 rfl)) ?_
  refine x_callS E hl (c_X2_isRegister l G H r) xm_yX2_isRegister wMX2_46 wS_yX2_isRegister (rest := []) rfl (by decide) (by decide) ⟨by decide, by decide⟩ dX2_swap_1 (x_pure (r := .int (bI (sp_ir r))) (st1 := []) ?_)
  refine xb (fun _ => lv_if_eq (tgt := 41) hx hb dX2_swap_4 (by decide)) (fun c_4 => ?_) (fun c_4 => ?_)
  · have c_4 := bI_f c_4
    refine xl (fun _ => lv_iconst (v := (-1)) hx hb dX2_swap_41 (by decide)) ?_
    exact x_iret hx hb hr hlocks hs0 hbs (by decide) (by decide) dX2_swap_42 (⟨by simp only [op_swap, mi_no c_4]; (repeat' split) <;> rfl, by simp only [op_swap, mi_no c_4]; (repeat' split) <;> exact hH, sm_F.rf⟩)
  · have c_4 := bI_t c_4
    obtain ⟨rr, hrr, rfl⟩ := sp_ir_of c_4
    refine xl (fun _ => lv_aload_n hx hb dX2_swap_7 rfl (lv_at hl 0 rfl)) ?_
    refine xl (fun _ => lv_iload_n hx hb dX2_swap_8 rfl (lv_at hl 2 rfl)) ?_
    refine xl (fun _ => lv_bipush (v := 7) hx hb dX2_swap_9 (by decide)) ?_
    refine x_callV E hl (c_X2_has l G H mb n _ _ _ _ _ _ _ _ _ _ ⟨hm0, hmn, hX, h1, h2, h3, h4, h5, h6, h7, h8, h9⟩ t rg hR x 7) xm_yX2_has wMX2_60 wI_yX2_has wT_yX2_has (ci := 2) rfl rfl hX (rest := []) rfl (by decide) (by decide) ⟨by decide, by decide⟩ dX2_swap_11 (x_pure (r := .int (bI (sp_rs t rg x 7).isSome)) (st1 := []) ?_)
    refine xb (fun _ => lv_if_eq (tgt := 41) hx hb dX2_swap_14 (by decide)) (fun c_14 => ?_) (fun c_14 => ?_)
    · have c_14 := bI_f c_14
      have hs_14 := isN c_14
      refine xl (fun _ => lv_iconst (v := (-1)) hx hb dX2_swap_41 (by decide)) ?_
      exact x_iret hx hb hr hlocks hs0 hbs (by decide) (by decide) dX2_swap_42 (⟨by simp only [op_swap, hs_14, reduceIte, Bool.false_eq_true, and_true, true_and, and_false, false_and, and_self, not_true_eq_false, not_false_eq_true], by simp only [op_swap, hs_14, reduceIte, Bool.false_eq_true, and_true, true_and, and_false, false_and, and_self, not_true_eq_false, not_false_eq_true]; exact hH, sm_F.rf⟩)
    · have c_14 := bI_t c_14
      obtain ⟨i, hs_14⟩ := isS c_14
      obtain ⟨j_x, hj_x, he_x, hg_x⟩ := sp_rg_s (sp_rs_of hs_14).1
      have hi_i : i < n := hRg j_x hj_x i hg_x
      have hr_x : re j_x = nI (i + 1) := by rw [hRr j_x hj_x, hg_x]; rfl
      refine xl (fun _ => lv_iload_n hx hb dX2_swap_17 rfl (lv_at hl 3 rfl)) ?_
      refine xb (fun _ => lv_if_lt (tgt := 41) hx hb dX2_swap_18 (by decide)) (fun c_18 => ?_) (fun c_18 => ?_)
      · have hiss := is_neg c_18
        refine xl (fun _ => lv_iconst (v := (-1)) hx hb dX2_swap_41 (by decide)) ?_
        exact x_iret hx hb hr hlocks hs0 hbs (by decide) (by decide) dX2_swap_42 (⟨by simp only [op_swap, hs_14, hiss, reduceIte, Bool.false_eq_true, and_true, true_and, and_false, false_and, and_self, not_true_eq_false, not_false_eq_true], by simp only [op_swap, hs_14, hiss, reduceIte, Bool.false_eq_true, and_true, true_and, and_false, false_and, and_self, not_true_eq_false, not_false_eq_true]; exact hH, sm_F.rf⟩)
      · refine xl (fun _ => lv_iload_n hx hb dX2_swap_21 rfl (lv_at hl 3 rfl)) ?_
        refine xl (fun _ => lv_iconst (v := 3) hx hb dX2_swap_22 (by decide)) ?_
        refine xb (fun _ => lv_icmp_gt (tgt := 41) hx hb dX2_swap_23 (by decide)) (fun c_23 => ?_) (fun c_23 => ?_)
        · have hiss := is_big c_23
          refine xl (fun _ => lv_iconst (v := (-1)) hx hb dX2_swap_41 (by decide)) ?_
          exact x_iret hx hb hr hlocks hs0 hbs (by decide) (by decide) dX2_swap_42 (⟨by simp only [op_swap, hs_14, hiss, reduceIte, Bool.false_eq_true, and_true, true_and, and_false, false_and, and_self, not_true_eq_false, not_false_eq_true], by simp only [op_swap, hs_14, hiss, reduceIte, Bool.false_eq_true, and_true, true_and, and_false, false_and, and_self, not_true_eq_false, not_false_eq_true]; exact hH, sm_F.rf⟩)
        · obtain ⟨j, hj, rfl⟩ := k_slot3 c_18 c_23
          have hcl : (nI j).toNatClampNeg = j := nI_clamp (by omega)
          have hiss := sp_is_nI hj
          refine xl (fun _ => lv_iload hx hb dX2_swap_26 (lv_at hl 4 rfl)) ?_
          refine xl (fun _ => lv_iconst (v := (-1)) hx hb dX2_swap_28 (by decide)) ?_
          refine xb (fun _ => lv_icmp_eq (tgt := 43) hx hb dX2_swap_29 (by decide)) (fun c_29 => ?_) (fun c_29 => ?_)
          · have hyn : sp_rg rg y = none := by rw [c_29]; exact sp_rg_m1
            have htn : sp_tn rg y = true := by simp [sp_tn, c_29]
            have hpy : (0 : Int32) = px (sp_rg rg y) := by rw [hyn]; rfl
            refine xl (fun _ => lv_aload_n hx hb dX2_swap_43 rfl (lv_at hl 0 rfl)) ?_
            refine xl (fun _ => lv_iload_n hx hb dX2_swap_44 rfl (lv_at hl 2 rfl)) ?_
            refine x_callV E hl (c_X2_copy l G H mb n _ _ _ _ _ _ _ _ _ _ ⟨hm0, hmn, hX, h1, h2, h3, h4, h5, h6, h7, h8, h9⟩ t rg hR x i (sp_rs_of hs_14).1) xm_yX2_copy wMX2_68 wI_yX2_copy wT_yX2_copy (ci := 2) rfl rfl hX (rest := []) rfl (by decide) (by decide) ⟨by decide, by decide⟩ dX2_swap_45 (fun v_1 H_2 hp_3 hz_4 hq_5 => ?_)
            obtain ⟨rfl, ⟨l1, hM1, hl1⟩, hF1⟩ := hp_3
            have hF : sm_F mb H H_2 := hF.tr hF1
            refine xg (g2 := F0 m 48 ls []) rfl ?_
            obtain ⟨hm0, hmn, hX, h1, h2, h3, h4, h5, h6, h7, h8, h9⟩ := id hM1
            have h77 := (sp_rs_of hs_14).2
            have hon : on i = sp_la (t i) := by rw [(hRt i hi_i).2.1 (by rw [h77]; decide), (e_7 h77).1]
            refine xl (fun _ => lv_aload_n hx hb dX2_swap_48 rfl (lv_at hl 0 rfl)) ?_
            refine x_get (ci := 2) hx hb hts hown hK wiX2 hX rfl 8 (by decide) wFX2_32 rfl rfl dX2_swap_49 ?_
            refine xl (fun _ => lv_iconst (v := 4) hx hb dX2_swap_52 (by decide)) ?_
            refine xl (fun _ => lv_iload_n hx hb dX2_swap_53 rfl (lv_at hl 3 rfl)) ?_
            refine xl (fun _ => lv_iadd hx hb dX2_swap_54) ?_
            rw [show (4 + (nI j)) = (nI (4 + j)) from nI_add 4 j]
            refine xl (fun _ => lv_iload hx hb dX2_swap_55 (lv_at hl 4 rfl)) ?_
            refine xl (fun _ => lv_iconst (v := (-1)) hx hb dX2_swap_57 (by decide)) ?_
            refine xb (fun _ => lv_icmp_ne (tgt := 65) hx hb dX2_swap_58 (by decide)) (fun c_58 => ?_) (fun c_58 => ?_)
            · exact absurd c_29 c_58
            · refine xl (fun _ => lv_iconst (v := 0) hx hb dX2_swap_61 (by decide)) ?_
              refine xl (fun _ => lv_goto (tgt := 72) hx hb dX2_swap_62 (by decide)) ?_
              refine x_iast hx hb hK h8 (4 + j) (rfl) (by omega) (by decide) (by omega) dX2_swap_72 (fun H_6 ho_7 hz_8 hq_9 => ?_)
              have ho_7 : ia_ G H_6 (mb + 8) 8 (upd l1 (4 + j) 0) := ho_7
              have k_10 := va_at.kept (H1 := H_6) (hX) (hq_9 _ (by omega))
              have k_11 := va_at.kept (H1 := H_6) (h1) (hq_9 _ (by omega))
              have k_12 := va_at.kept (H1 := H_6) (h2) (hq_9 _ (by omega))
              have k_13 := va_at.kept (H1 := H_6) (h3) (hq_9 _ (by omega))
              have k_14 := va_at.kept (H1 := H_6) (h4) (hq_9 _ (by omega))
              have k_15 := va_at.kept (H1 := H_6) (h5) (hq_9 _ (by omega))
              have k_16 := va_at.kept (H1 := H_6) (h6) (hq_9 _ (by omega))
              have k_17 := va_at.kept (H1 := H_6) (h7) (hq_9 _ (by omega))
              have k_18 := va_at.kept (H1 := H_6) (h9) (hq_9 _ (by omega))
              have hF : sm_F mb H H_6 := hF.put (a := (mb + 8)) hz_8 hq_9 ⟨by omega, by omega⟩
              refine xl (fun _ => lv_aload_n hx hb dX2_swap_73 rfl (lv_at hl 0 rfl)) ?_
              refine xl (fun _ => lv_iload_n hx hb dX2_swap_74 rfl (lv_at hl 1 rfl)) ?_
              refine xl (fun _ => lv_bipush (v := 7) hx hb dX2_swap_75 (by decide)) ?_
              refine xl (fun _ => lv_aload_n hx hb dX2_swap_77 rfl (lv_at hl 0 rfl)) ?_
              refine x_get (ci := 2) hx hb hts hown hK wiX2 k_10 rfl 2 (by decide) wFX2_13 rfl rfl dX2_swap_78 ?_
              refine xl (fun _ => lv_aload_n hx hb dX2_swap_81 rfl (lv_at hl 0 rfl)) ?_
              refine x_get (ci := 2) hx hb hts hown hK wiX2 k_10 rfl 9 (by decide) wFX2_35 rfl rfl dX2_swap_82 ?_
              refine xl (fun _ => lv_iload_n hx hb dX2_swap_85 rfl (lv_at hl 2 rfl)) ?_
              refine x_iald hx hb hK k_18 j_x (he_x) (by have := hj_x; omega) (by decide) dX2_swap_86 ?_
              rw [show (re j_x) = (nI (i + 1)) from hr_x]
              refine xl (fun _ => lv_iconst (v := 1) hx hb dX2_swap_87 (by decide)) ?_
              refine xl (fun _ => lv_isub hx hb dX2_swap_88) ?_
              rw [show ((nI (i + 1)) - 1) = (nI i) from nI_pred i]
              refine x_iald hx hb hK k_12 i (rfl) (by omega) (by decide) dX2_swap_89 ?_
              rw [show (on i) = (sp_la (t i)) from hon]
              refine xl (fun _ => lv_iconst (v := 0) hx hb dX2_swap_90 (by decide)) ?_
              refine xl (fun _ => lv_iconst (v := 0) hx hb dX2_swap_91 (by decide)) ?_
              refine x_callV E hl (c_X2_put l G H_6 mb n _ _ _ _ _ _ _ _ _ _ ⟨hm0, hmn, k_10, k_11, k_12, k_13, k_14, k_15, k_16, k_17, ho_7, k_18⟩ t rg hR g (7, sp_la (t i), sp_nu (t i), va_up (sp_pa (t i)) j (sp_rg rg y)) (wf_row (sp_wf7 (hRw i hi_i) h77) (bd_up (fun q hq jj e => Nat.lt_trans ((hRw i hi_i).1 q hq jj e) hi_i) (fun jj e => by obtain ⟨ju, hju, -, hjg⟩ := sp_rg_s e; exact hRg ju hju jj hjg))) rr hrr 7 (sp_la (t i)) 0 0 rfl (fun _ => (e_7 (d := (7, sp_la (t i), sp_nu (t i), va_up (sp_pa (t i)) j (sp_rg rg y))) rfl).1.symm) ((e_7 (d := (7, sp_la (t i), sp_nu (t i), va_up (sp_pa (t i)) j (sp_rg rg y))) rfl).2.1.symm) ((e_7 (d := (7, sp_la (t i), sp_nu (t i), va_up (sp_pa (t i)) j (sp_rg rg y))) rfl).2.2.symm) (fun _ => by rw [hpy]; exact e8_swap h77 hl1 hj) ns hQ (fun z => absurd z (show ¬ (7 : Int32) = 1 by decide)) hn1) xm_yX2_put wMX2_56 wI_yX2_put wT_yX2_put (ci := 2) rfl rfl k_10 (rest := []) rfl (by decide) (by decide) ⟨by decide, by decide⟩ dX2_swap_92 (fun v_19 H_20 hp_21 hz_22 hq_23 => ?_)
              obtain ⟨rfl, ⟨so2, on2, tw2, th2, ce2, re2, hM2, hR2, hQ2⟩, hF2⟩ := hp_21
              refine xg (g2 := F0 m 95 ls [.int 1]) rfl ?_
              have hH2 : sm_HS G mb (sp_mkS (n, t, rg, g) rr (7, sp_la (t i), sp_nu (t i), va_up (sp_pa (t i)) j (sp_rg rg y))) H_20 := by
                unfold sm_HS
                rw [show (sp_mkS (n, t, rg, g) rr (7, sp_la (t i), sp_nu (t i), va_up (sp_pa (t i)) j (sp_rg rg y))).2.2.2 = g from mkS_le.2]
                exact ⟨_, _, _, _, _, _, _, _, ns, hM2, hR2, hQ2, Nat.le_trans hns mkS_le.1, fun i h => Nat.lt_of_lt_of_le (hg i h) mkS_le.1⟩
              exact x_iret hx hb hr hlocks hs0 hbs (by decide) (by decide) dX2_swap_95 (⟨by simp only [op_swap, hs_14, hiss, hcl, htn, reduceIte, Bool.false_eq_true, and_true, true_and, and_false, false_and, and_self, not_true_eq_false, not_false_eq_true]; rw [sp_mi_nI hrr], by simp only [op_swap, hs_14, hiss, hcl, htn, reduceIte, Bool.false_eq_true, and_true, true_and, and_false, false_and, and_self, not_true_eq_false, not_false_eq_true]; rw [sp_mi_nI hrr]; exact hH2, hF.tr hF2⟩)
          · refine xl (fun _ => lv_aload_n hx hb dX2_swap_32 rfl (lv_at hl 0 rfl)) ?_
            refine xl (fun _ => lv_iload hx hb dX2_swap_33 (lv_at hl 4 rfl)) ?_
            refine x_callV E hl (c_X2_holds l G H mb n _ _ _ _ _ _ _ _ _ _ ⟨hm0, hmn, hX, h1, h2, h3, h4, h5, h6, h7, h8, h9⟩ t rg hR y) xm_yX2_holds wMX2_50 wI_yX2_holds wT_yX2_holds (ci := 2) rfl rfl hX (rest := []) rfl (by decide) (by decide) ⟨by decide, by decide⟩ dX2_swap_35 (x_pure (r := .int (bI (sp_rg rg y).isSome)) (st1 := []) ?_)
            refine xb (fun _ => lv_if_ne (tgt := 43) hx hb dX2_swap_38 (by decide)) (fun c_38 => ?_) (fun c_38 => ?_)
            · have c_38 := bI_t c_38
              obtain ⟨u, hs_38⟩ := isS c_38
              obtain ⟨j_y, hj_y, he_y, hg_y⟩ := sp_rg_s hs_38
              have hi_u : u < n := hRg j_y hj_y u hg_y
              have hr_y : re j_y = nI (u + 1) := by rw [hRr j_y hj_y, hg_y]; rfl
              have htn : sp_tn rg y = true := by simp [sp_tn, hs_38]
              have hpy : nI (u + 1) = px (sp_rg rg y) := by rw [hs_38]; rfl
              refine xl (fun _ => lv_aload_n hx hb dX2_swap_43 rfl (lv_at hl 0 rfl)) ?_
              refine xl (fun _ => lv_iload_n hx hb dX2_swap_44 rfl (lv_at hl 2 rfl)) ?_
              refine x_callV E hl (c_X2_copy l G H mb n _ _ _ _ _ _ _ _ _ _ ⟨hm0, hmn, hX, h1, h2, h3, h4, h5, h6, h7, h8, h9⟩ t rg hR x i (sp_rs_of hs_14).1) xm_yX2_copy wMX2_68 wI_yX2_copy wT_yX2_copy (ci := 2) rfl rfl hX (rest := []) rfl (by decide) (by decide) ⟨by decide, by decide⟩ dX2_swap_45 (fun v_24 H_25 hp_26 hz_27 hq_28 => ?_)
              obtain ⟨rfl, ⟨l1, hM1, hl1⟩, hF1⟩ := hp_26
              have hF : sm_F mb H H_25 := hF.tr hF1
              refine xg (g2 := F0 m 48 ls []) rfl ?_
              obtain ⟨hm0, hmn, hX, h1, h2, h3, h4, h5, h6, h7, h8, h9⟩ := id hM1
              have h77 := (sp_rs_of hs_14).2
              have hon : on i = sp_la (t i) := by rw [(hRt i hi_i).2.1 (by rw [h77]; decide), (e_7 h77).1]
              refine xl (fun _ => lv_aload_n hx hb dX2_swap_48 rfl (lv_at hl 0 rfl)) ?_
              refine x_get (ci := 2) hx hb hts hown hK wiX2 hX rfl 8 (by decide) wFX2_32 rfl rfl dX2_swap_49 ?_
              refine xl (fun _ => lv_iconst (v := 4) hx hb dX2_swap_52 (by decide)) ?_
              refine xl (fun _ => lv_iload_n hx hb dX2_swap_53 rfl (lv_at hl 3 rfl)) ?_
              refine xl (fun _ => lv_iadd hx hb dX2_swap_54) ?_
              rw [show (4 + (nI j)) = (nI (4 + j)) from nI_add 4 j]
              refine xl (fun _ => lv_iload hx hb dX2_swap_55 (lv_at hl 4 rfl)) ?_
              refine xl (fun _ => lv_iconst (v := (-1)) hx hb dX2_swap_57 (by decide)) ?_
              refine xb (fun _ => lv_icmp_ne (tgt := 65) hx hb dX2_swap_58 (by decide)) (fun c_58 => ?_) (fun c_58 => ?_)
              · refine xl (fun _ => lv_aload_n hx hb dX2_swap_65 rfl (lv_at hl 0 rfl)) ?_
                refine x_get (ci := 2) hx hb hts hown hK wiX2 hX rfl 9 (by decide) wFX2_35 rfl rfl dX2_swap_66 ?_
                refine xl (fun _ => lv_iload hx hb dX2_swap_69 (lv_at hl 4 rfl)) ?_
                refine x_iald hx hb hK h9 j_y (he_y) (by have := hj_y; omega) (by decide) dX2_swap_71 ?_
                rw [show (re j_y) = (nI (u + 1)) from hr_y]
                refine x_iast hx hb hK h8 (4 + j) (rfl) (by omega) (by decide) (by omega) dX2_swap_72 (fun H_29 ho_30 hz_31 hq_32 => ?_)
                have ho_30 : ia_ G H_29 (mb + 8) 8 (upd l1 (4 + j) (nI (u + 1))) := ho_30
                have k_33 := va_at.kept (H1 := H_29) (hX) (hq_32 _ (by omega))
                have k_34 := va_at.kept (H1 := H_29) (h1) (hq_32 _ (by omega))
                have k_35 := va_at.kept (H1 := H_29) (h2) (hq_32 _ (by omega))
                have k_36 := va_at.kept (H1 := H_29) (h3) (hq_32 _ (by omega))
                have k_37 := va_at.kept (H1 := H_29) (h4) (hq_32 _ (by omega))
                have k_38 := va_at.kept (H1 := H_29) (h5) (hq_32 _ (by omega))
                have k_39 := va_at.kept (H1 := H_29) (h6) (hq_32 _ (by omega))
                have k_40 := va_at.kept (H1 := H_29) (h7) (hq_32 _ (by omega))
                have k_41 := va_at.kept (H1 := H_29) (h9) (hq_32 _ (by omega))
                have hF : sm_F mb H H_29 := hF.put (a := (mb + 8)) hz_31 hq_32 ⟨by omega, by omega⟩
                refine xl (fun _ => lv_aload_n hx hb dX2_swap_73 rfl (lv_at hl 0 rfl)) ?_
                refine xl (fun _ => lv_iload_n hx hb dX2_swap_74 rfl (lv_at hl 1 rfl)) ?_
                refine xl (fun _ => lv_bipush (v := 7) hx hb dX2_swap_75 (by decide)) ?_
                refine xl (fun _ => lv_aload_n hx hb dX2_swap_77 rfl (lv_at hl 0 rfl)) ?_
                refine x_get (ci := 2) hx hb hts hown hK wiX2 k_33 rfl 2 (by decide) wFX2_13 rfl rfl dX2_swap_78 ?_
                refine xl (fun _ => lv_aload_n hx hb dX2_swap_81 rfl (lv_at hl 0 rfl)) ?_
                refine x_get (ci := 2) hx hb hts hown hK wiX2 k_33 rfl 9 (by decide) wFX2_35 rfl rfl dX2_swap_82 ?_
                refine xl (fun _ => lv_iload_n hx hb dX2_swap_85 rfl (lv_at hl 2 rfl)) ?_
                refine x_iald hx hb hK k_41 j_x (he_x) (by have := hj_x; omega) (by decide) dX2_swap_86 ?_
                rw [show (re j_x) = (nI (i + 1)) from hr_x]
                refine xl (fun _ => lv_iconst (v := 1) hx hb dX2_swap_87 (by decide)) ?_
                refine xl (fun _ => lv_isub hx hb dX2_swap_88) ?_
                rw [show ((nI (i + 1)) - 1) = (nI i) from nI_pred i]
                refine x_iald hx hb hK k_35 i (rfl) (by omega) (by decide) dX2_swap_89 ?_
                rw [show (on i) = (sp_la (t i)) from hon]
                refine xl (fun _ => lv_iconst (v := 0) hx hb dX2_swap_90 (by decide)) ?_
                refine xl (fun _ => lv_iconst (v := 0) hx hb dX2_swap_91 (by decide)) ?_
                refine x_callV E hl (c_X2_put l G H_29 mb n _ _ _ _ _ _ _ _ _ _ ⟨hm0, hmn, k_33, k_34, k_35, k_36, k_37, k_38, k_39, k_40, ho_30, k_41⟩ t rg hR g (7, sp_la (t i), sp_nu (t i), va_up (sp_pa (t i)) j (sp_rg rg y)) (wf_row (sp_wf7 (hRw i hi_i) h77) (bd_up (fun q hq jj e => Nat.lt_trans ((hRw i hi_i).1 q hq jj e) hi_i) (fun jj e => by obtain ⟨ju, hju, -, hjg⟩ := sp_rg_s e; exact hRg ju hju jj hjg))) rr hrr 7 (sp_la (t i)) 0 0 rfl (fun _ => (e_7 (d := (7, sp_la (t i), sp_nu (t i), va_up (sp_pa (t i)) j (sp_rg rg y))) rfl).1.symm) ((e_7 (d := (7, sp_la (t i), sp_nu (t i), va_up (sp_pa (t i)) j (sp_rg rg y))) rfl).2.1.symm) ((e_7 (d := (7, sp_la (t i), sp_nu (t i), va_up (sp_pa (t i)) j (sp_rg rg y))) rfl).2.2.symm) (fun _ => by rw [hpy]; exact e8_swap h77 hl1 hj) ns hQ (fun z => absurd z (show ¬ (7 : Int32) = 1 by decide)) hn1) xm_yX2_put wMX2_56 wI_yX2_put wT_yX2_put (ci := 2) rfl rfl k_33 (rest := []) rfl (by decide) (by decide) ⟨by decide, by decide⟩ dX2_swap_92 (fun v_42 H_43 hp_44 hz_45 hq_46 => ?_)
                obtain ⟨rfl, ⟨so2, on2, tw2, th2, ce2, re2, hM2, hR2, hQ2⟩, hF2⟩ := hp_44
                refine xg (g2 := F0 m 95 ls [.int 1]) rfl ?_
                have hH2 : sm_HS G mb (sp_mkS (n, t, rg, g) rr (7, sp_la (t i), sp_nu (t i), va_up (sp_pa (t i)) j (sp_rg rg y))) H_43 := by
                  unfold sm_HS
                  rw [show (sp_mkS (n, t, rg, g) rr (7, sp_la (t i), sp_nu (t i), va_up (sp_pa (t i)) j (sp_rg rg y))).2.2.2 = g from mkS_le.2]
                  exact ⟨_, _, _, _, _, _, _, _, ns, hM2, hR2, hQ2, Nat.le_trans hns mkS_le.1, fun i h => Nat.lt_of_lt_of_le (hg i h) mkS_le.1⟩
                exact x_iret hx hb hr hlocks hs0 hbs (by decide) (by decide) dX2_swap_95 (⟨by simp only [op_swap, hs_14, hiss, hcl, htn, reduceIte, Bool.false_eq_true, and_true, true_and, and_false, false_and, and_self, not_true_eq_false, not_false_eq_true]; rw [sp_mi_nI hrr], by simp only [op_swap, hs_14, hiss, hcl, htn, reduceIte, Bool.false_eq_true, and_true, true_and, and_false, false_and, and_self, not_true_eq_false, not_false_eq_true]; rw [sp_mi_nI hrr]; exact hH2, hF.tr hF2⟩)
              · exact absurd c_58 c_29
            · have c_38 := bI_f c_38
              have htn : sp_tn rg y = false := by simp [sp_tn, isN c_38, c_29]
              refine xl (fun _ => lv_iconst (v := (-1)) hx hb dX2_swap_41 (by decide)) ?_
              exact x_iret hx hb hr hlocks hs0 hbs (by decide) (by decide) dX2_swap_42 (⟨by simp only [op_swap, hs_14, hiss, htn, reduceIte, Bool.false_eq_true, and_true, true_and, and_false, false_and, and_self, not_true_eq_false, not_false_eq_true], by simp only [op_swap, hs_14, hiss, htn, reduceIte, Bool.false_eq_true, and_true, true_and, and_false, false_and, and_self, not_true_eq_false, not_false_eq_true]; exact hH, sm_F.rf⟩)

set_option maxHeartbeats 4000000 in
set_option maxRecDepth 100000 in
theorem c_X2_partOf (l : Launch) (G : sg_G) (H : Heap) (mb n : Nat) (so on tw th ce gi kn li re : Nat → Int32) (sec : Int32) (hM : sm_X G mb n so on tw th ce gi kn li re sec H) (t : Nat → sp_T) (rg : Nat → Option Nat) (hR : sm_R n t rg so on tw th ce re) (i : Nat) (hi : i < n) (w : Int32) : xC l G yX2_partOf cX2_partOf 3 (some FieldType.int) 0 0 0 [.ref mb, .int (nI i), .int w] H (xPu (.int (px (sp_po (t i) w))) H) := by
  refine xC.start (by decide) (Nat.le_of_ble_eq_true rfl) ?_
  intro p e s m args below meth c ls E hnm hs0 hl
  obtain ⟨hx, hb, hml, hown, hts, hr, hlocks, hK, hbs⟩ := id E
  have hl : lv_has ls 3 [(0, .ref mb), (1, .int (nI i)), (2, .int w)] := hl
  obtain ⟨hm0, hmn, hX, h1, h2, h3, h4, h5, h6, h7, h8, h9⟩ := id hM
  obtain ⟨hRt, hRr, hRg, hRw⟩ := id hR
  refine xl (fun _ => lv_iload_n hx hb dX2_partOf_0 rfl (lv_at hl 2 rfl)) ?_
  refine xb (fun _ => lv_if_lt (tgt := 10) hx hb dX2_partOf_1 (by decide)) (fun c_1 => ?_) (fun c_1 => ?_)
  · refine xl (fun _ => lv_iconst (v := 0) hx hb dX2_partOf_10 (by decide)) ?_
    exact x_iret hx hb hr hlocks hs0 hbs (by decide) (by decide) dX2_partOf_11 (⟨by rw [po_out1 c_1]; rfl, rfl⟩)
  · refine xl (fun _ => lv_iload_n hx hb dX2_partOf_4 rfl (lv_at hl 2 rfl)) ?_
    refine xl (fun _ => lv_bipush (v := 9) hx hb dX2_partOf_5 (by decide)) ?_
    refine xb (fun _ => lv_icmp_le (tgt := 12) hx hb dX2_partOf_7 (by decide)) (fun c_7 => ?_) (fun c_7 => ?_)
    · obtain ⟨j, hj, rfl⟩ := w_slot c_1 c_7
      obtain ⟨q1, q2, q3, q4, q5⟩ := hRt i hi
      have ej : ∀ k, nI j = nI k → k < 100 → j = k := fun k e hk => (nI_eq (by omega) (by omega)).mp e
      have lj : ∀ k, k < 100 → (nI k ≤ nI j ↔ k ≤ j) := fun k hk => nI_leI (by omega) (by omega)
      refine xl (fun _ => lv_iload_n hx hb dX2_partOf_12 rfl (lv_at hl 2 rfl)) ?_
      refine xl (fun _ => lv_iconst (v := 4) hx hb dX2_partOf_13 (by decide)) ?_
      refine xb (fun _ => lv_icmp_ge (tgt := 46) hx hb dX2_partOf_14 (by decide)) (fun c_14 => ?_) (fun c_14 => ?_)
      · have hj4 : 4 ≤ j := (lj 4 (by omega)).mp c_14
        refine xl (fun _ => lv_iload_n hx hb dX2_partOf_46 rfl (lv_at hl 2 rfl)) ?_
        refine xl (fun _ => lv_bipush (v := 7) hx hb dX2_partOf_47 (by decide)) ?_
        refine xb (fun _ => lv_icmp_ge (tgt := 101) hx hb dX2_partOf_49 (by decide)) (fun c_49 => ?_) (fun c_49 => ?_)
        · have hj7 : 7 ≤ j := (lj 7 (by omega)).mp c_49
          refine xl (fun _ => lv_iload_n hx hb dX2_partOf_101 rfl (lv_at hl 2 rfl)) ?_
          refine xl (fun _ => lv_bipush (v := 7) hx hb dX2_partOf_102 (by decide)) ?_
          refine xb (fun _ => lv_icmp_ne (tgt := 129) hx hb dX2_partOf_104 (by decide)) (fun c_104 => ?_) (fun c_104 => ?_)
          · have hj8 : 8 ≤ j := by have z7 : ¬ j = 7 := fun e => c_104 (by rw [e]; rfl); omega
            refine xl (fun _ => lv_aload_n hx hb dX2_partOf_129 rfl (lv_at hl 0 rfl)) ?_
            refine x_get (ci := 2) hx hb hts hown hK wiX2 hX rfl 1 (by decide) wFX2_9 rfl rfl dX2_partOf_130 ?_
            refine xl (fun _ => lv_iload_n hx hb dX2_partOf_133 rfl (lv_at hl 1 rfl)) ?_
            refine x_iald hx hb hK h1 i (rfl) (by omega) (by decide) dX2_partOf_134 ?_
            rw [show (so i) = (sp_so (t i)) from q1]
            refine xl (fun _ => lv_iconst (v := 4) hx hb dX2_partOf_135 (by decide)) ?_
            refine xb (fun _ => lv_icmp_eq (tgt := 143) hx hb dX2_partOf_136 (by decide)) (fun c_136 => ?_) (fun c_136 => ?_)
            · refine xl (fun _ => lv_iload_n hx hb dX2_partOf_143 rfl (lv_at hl 2 rfl)) ?_
              refine xl (fun _ => lv_bipush (v := 8) hx hb dX2_partOf_144 (by decide)) ?_
              refine xb (fun _ => lv_icmp_ne (tgt := 158) hx hb dX2_partOf_146 (by decide)) (fun c_146 => ?_) (fun c_146 => ?_)
              · have ejj : j = 9 := by
                  have z8 : ¬ j = 8 := fun e => c_146 (by rw [e]; rfl)
                  omega
                subst ejj
                refine xl (fun _ => lv_aload_n hx hb dX2_partOf_158 rfl (lv_at hl 0 rfl)) ?_
                refine x_get (ci := 2) hx hb hts hown hK wiX2 hX rfl 4 (by decide) wFX2_19 rfl rfl dX2_partOf_159 ?_
                refine xl (fun _ => lv_iload_n hx hb dX2_partOf_162 rfl (lv_at hl 1 rfl)) ?_
                refine x_iald hx hb hK h4 i (rfl) (by omega) (by decide) dX2_partOf_163 ?_
                rw [show (th i) = (e3 (t i)) from q4]
                exact x_iret hx hb hr hlocks hs0 hbs (by decide) (by decide) dX2_partOf_164 (⟨by rw [po_y (j := 9) hj c_136, (e_4 c_136).2.2]; rfl, rfl⟩)
              · have ejj : j = 8 := ej 8 c_146 (by omega)
                subst ejj
                refine xl (fun _ => lv_aload_n hx hb dX2_partOf_149 rfl (lv_at hl 0 rfl)) ?_
                refine x_get (ci := 2) hx hb hts hown hK wiX2 hX rfl 3 (by decide) wFX2_16 rfl rfl dX2_partOf_150 ?_
                refine xl (fun _ => lv_iload_n hx hb dX2_partOf_153 rfl (lv_at hl 1 rfl)) ?_
                refine x_iald hx hb hK h3 i (rfl) (by omega) (by decide) dX2_partOf_154 ?_
                rw [show (tw i) = (e2 (t i)) from q3]
                refine xl (fun _ => lv_goto (tgt := 164) hx hb dX2_partOf_155 (by decide)) ?_
                exact x_iret hx hb hr hlocks hs0 hbs (by decide) (by decide) dX2_partOf_164 (⟨by rw [po_y (j := 8) hj c_136, (e_4 c_136).2.1]; rfl, rfl⟩)
            · refine xl (fun _ => lv_iconst (v := 0) hx hb dX2_partOf_139 (by decide)) ?_
              refine xl (fun _ => lv_goto (tgt := 164) hx hb dX2_partOf_140 (by decide)) ?_
              exact x_iret hx hb hr hlocks hs0 hbs (by decide) (by decide) dX2_partOf_164 (⟨congrArg (fun x => some (Value.int x)) (po_n hj (by rcases (show j = 8 ∨ j = 9 by omega) with rfl | rfl <;> exact c_136)), rfl⟩)
          · have ejj : j = 7 := ej 7 c_104 (by omega)
            subst ejj
            refine xl (fun _ => lv_aload_n hx hb dX2_partOf_107 rfl (lv_at hl 0 rfl)) ?_
            refine x_get (ci := 2) hx hb hts hown hK wiX2 hX rfl 1 (by decide) wFX2_9 rfl rfl dX2_partOf_108 ?_
            refine xl (fun _ => lv_iload_n hx hb dX2_partOf_111 rfl (lv_at hl 1 rfl)) ?_
            refine x_iald hx hb hK h1 i (rfl) (by omega) (by decide) dX2_partOf_112 ?_
            rw [show (so i) = (sp_so (t i)) from q1]
            refine xl (fun _ => lv_bipush (v := 6) hx hb dX2_partOf_113 (by decide)) ?_
            refine xb (fun _ => lv_icmp_ne (tgt := 127) hx hb dX2_partOf_115 (by decide)) (fun c_115 => ?_) (fun c_115 => ?_)
            · refine xl (fun _ => lv_iconst (v := 0) hx hb dX2_partOf_127 (by decide)) ?_
              exact x_iret hx hb hr hlocks hs0 hbs (by decide) (by decide) dX2_partOf_128 (⟨congrArg (fun x => some (Value.int x)) (po_n (j := 7) hj c_115), rfl⟩)
            · refine xl (fun _ => lv_aload_n hx hb dX2_partOf_118 rfl (lv_at hl 0 rfl)) ?_
              refine x_get (ci := 2) hx hb hts hown hK wiX2 hX rfl 3 (by decide) wFX2_16 rfl rfl dX2_partOf_119 ?_
              refine xl (fun _ => lv_iload_n hx hb dX2_partOf_122 rfl (lv_at hl 1 rfl)) ?_
              refine x_iald hx hb hK h3 i (rfl) (by omega) (by decide) dX2_partOf_123 ?_
              rw [show (tw i) = (e2 (t i)) from q3]
              refine xl (fun _ => lv_goto (tgt := 128) hx hb dX2_partOf_124 (by decide)) ?_
              exact x_iret hx hb hr hlocks hs0 hbs (by decide) (by decide) dX2_partOf_128 (⟨by rw [po_y (j := 7) hj c_115, (e_6 c_115).2.1]; rfl, rfl⟩)
        · have hj7 : j < 7 := Nat.not_le.mp fun z => c_49 ((lj 7 (by omega)).mpr z)
          refine xl (fun _ => lv_aload_n hx hb dX2_partOf_52 rfl (lv_at hl 0 rfl)) ?_
          refine x_get (ci := 2) hx hb hts hown hK wiX2 hX rfl 1 (by decide) wFX2_9 rfl rfl dX2_partOf_53 ?_
          refine xl (fun _ => lv_iload_n hx hb dX2_partOf_56 rfl (lv_at hl 1 rfl)) ?_
          refine x_iald hx hb hK h1 i (rfl) (by omega) (by decide) dX2_partOf_57 ?_
          rw [show (so i) = (sp_so (t i)) from q1]
          refine xl (fun _ => lv_iconst (v := 5) hx hb dX2_partOf_58 (by decide)) ?_
          refine xb (fun _ => lv_icmp_eq (tgt := 66) hx hb dX2_partOf_59 (by decide)) (fun c_59 => ?_) (fun c_59 => ?_)
          · refine xl (fun _ => lv_iload_n hx hb dX2_partOf_66 rfl (lv_at hl 2 rfl)) ?_
            refine xl (fun _ => lv_iconst (v := 4) hx hb dX2_partOf_67 (by decide)) ?_
            refine xb (fun _ => lv_icmp_ne (tgt := 80) hx hb dX2_partOf_68 (by decide)) (fun c_68 => ?_) (fun c_68 => ?_)
            · refine xl (fun _ => lv_iload_n hx hb dX2_partOf_80 rfl (lv_at hl 2 rfl)) ?_
              refine xl (fun _ => lv_iconst (v := 5) hx hb dX2_partOf_81 (by decide)) ?_
              refine xb (fun _ => lv_icmp_ne (tgt := 94) hx hb dX2_partOf_82 (by decide)) (fun c_82 => ?_) (fun c_82 => ?_)
              · have ejj : j = 6 := by
                  have z4 : ¬ j = 4 := fun e => c_68 (by rw [e]; rfl)
                  have z5 : ¬ j = 5 := fun e => c_82 (by rw [e]; rfl)
                  omega
                subst ejj
                refine xl (fun _ => lv_aload_n hx hb dX2_partOf_94 rfl (lv_at hl 0 rfl)) ?_
                refine x_get (ci := 2) hx hb hts hown hK wiX2 hX rfl 4 (by decide) wFX2_19 rfl rfl dX2_partOf_95 ?_
                refine xl (fun _ => lv_iload_n hx hb dX2_partOf_98 rfl (lv_at hl 1 rfl)) ?_
                refine x_iald hx hb hK h4 i (rfl) (by omega) (by decide) dX2_partOf_99 ?_
                rw [show (th i) = (e3 (t i)) from q4]
                exact x_iret hx hb hr hlocks hs0 hbs (by decide) (by decide) dX2_partOf_100 (⟨by rw [po_y (j := 6) hj c_59, (e_5 c_59).2.2]; rfl, rfl⟩)
              · have ejj : j = 5 := ej 5 c_82 (by omega)
                subst ejj
                refine xl (fun _ => lv_aload_n hx hb dX2_partOf_85 rfl (lv_at hl 0 rfl)) ?_
                refine x_get (ci := 2) hx hb hts hown hK wiX2 hX rfl 3 (by decide) wFX2_16 rfl rfl dX2_partOf_86 ?_
                refine xl (fun _ => lv_iload_n hx hb dX2_partOf_89 rfl (lv_at hl 1 rfl)) ?_
                refine x_iald hx hb hK h3 i (rfl) (by omega) (by decide) dX2_partOf_90 ?_
                rw [show (tw i) = (e2 (t i)) from q3]
                refine xl (fun _ => lv_goto (tgt := 100) hx hb dX2_partOf_91 (by decide)) ?_
                exact x_iret hx hb hr hlocks hs0 hbs (by decide) (by decide) dX2_partOf_100 (⟨by rw [po_y (j := 5) hj c_59, (e_5 c_59).2.1]; rfl, rfl⟩)
            · have ejj : j = 4 := ej 4 c_68 (by omega)
              subst ejj
              refine xl (fun _ => lv_aload_n hx hb dX2_partOf_71 rfl (lv_at hl 0 rfl)) ?_
              refine x_get (ci := 2) hx hb hts hown hK wiX2 hX rfl 2 (by decide) wFX2_13 rfl rfl dX2_partOf_72 ?_
              refine xl (fun _ => lv_iload_n hx hb dX2_partOf_75 rfl (lv_at hl 1 rfl)) ?_
              refine x_iald hx hb hK h2 i (rfl) (by omega) (by decide) dX2_partOf_76 ?_
              rw [show (on i) = (e1 (t i)) from q2 (by rw [c_59]; decide)]
              refine xl (fun _ => lv_goto (tgt := 100) hx hb dX2_partOf_77 (by decide)) ?_
              exact x_iret hx hb hr hlocks hs0 hbs (by decide) (by decide) dX2_partOf_100 (⟨by rw [po_y (j := 4) hj c_59, (e_5 c_59).1]; rfl, rfl⟩)
          · refine xl (fun _ => lv_iconst (v := 0) hx hb dX2_partOf_62 (by decide)) ?_
            refine xl (fun _ => lv_goto (tgt := 100) hx hb dX2_partOf_63 (by decide)) ?_
            exact x_iret hx hb hr hlocks hs0 hbs (by decide) (by decide) dX2_partOf_100 (⟨congrArg (fun x => some (Value.int x)) (po_n hj (by rcases (show j = 4 ∨ j = 5 ∨ j = 6 by omega) with rfl | rfl | rfl <;> exact c_59)), rfl⟩)
      · have hj4 : j < 4 := Nat.not_le.mp fun z => c_14 ((lj 4 (by omega)).mpr z)
        have hst := sl_tab j hj4
        refine xl (fun _ => lv_aload_n hx hb dX2_partOf_17 rfl (lv_at hl 0 rfl)) ?_
        refine x_get (ci := 2) hx hb hts hown hK wiX2 hX rfl 1 (by decide) wFX2_9 rfl rfl dX2_partOf_18 ?_
        refine xl (fun _ => lv_iload_n hx hb dX2_partOf_21 rfl (lv_at hl 1 rfl)) ?_
        refine x_iald hx hb hK h1 i (rfl) (by omega) (by decide) dX2_partOf_22 ?_
        rw [show (so i) = (sp_so (t i)) from q1]
        refine xl (fun _ => lv_bipush (v := 7) hx hb dX2_partOf_23 (by decide)) ?_
        refine xb (fun _ => lv_icmp_ne (tgt := 44) hx hb dX2_partOf_25 (by decide)) (fun c_25 => ?_) (fun c_25 => ?_)
        · refine xl (fun _ => lv_iconst (v := 0) hx hb dX2_partOf_44 (by decide)) ?_
          exact x_iret hx hb hr hlocks hs0 hbs (by decide) (by decide) dX2_partOf_45 (⟨congrArg (fun x => some (Value.int x)) (po_n hj (by rw [hst.1]; exact c_25)), rfl⟩)
        · refine xl (fun _ => lv_aload_n hx hb dX2_partOf_28 rfl (lv_at hl 0 rfl)) ?_
          refine x_get (ci := 2) hx hb hts hown hK wiX2 hX rfl 5 (by decide) wFX2_22 rfl rfl dX2_partOf_29 ?_
          refine xl (fun _ => lv_bipush (v := 8) hx hb dX2_partOf_32 (by decide)) ?_
          refine xl (fun _ => lv_iload_n hx hb dX2_partOf_34 rfl (lv_at hl 1 rfl)) ?_
          refine xl (fun _ => lv_imul hx hb dX2_partOf_35) ?_
          rw [show (8 * (nI i)) = (nI (8 * i)) from pk_mul 8 i]
          refine xl (fun _ => lv_iconst (v := 4) hx hb dX2_partOf_36 (by decide)) ?_
          refine xl (fun _ => lv_iadd hx hb dX2_partOf_37) ?_
          rw [show ((nI (8 * i)) + 4) = (nI (8 * i + 4)) from nI_add _ 4]
          refine xl (fun _ => lv_iload_n hx hb dX2_partOf_38 rfl (lv_at hl 2 rfl)) ?_
          refine xl (fun _ => lv_iadd hx hb dX2_partOf_39) ?_
          rw [show ((nI (8 * i + 4)) + (nI j)) = (nI (8 * i + 4 + j)) from nI_add _ _]
          refine x_iald hx hb hK h5 (8 * i + 4 + j) (rfl) (by omega) (by decide) dX2_partOf_40 ?_
          rw [show (ce (8 * i + 4 + j)) = (e8 (t i) (4 + j)) from by rw [Nat.add_assoc]; exact q5 (4 + j) (by omega)]
          refine xl (fun _ => lv_goto (tgt := 45) hx hb dX2_partOf_41 (by decide)) ?_
          exact x_iret hx hb hr hlocks hs0 hbs (by decide) (by decide) dX2_partOf_45 (⟨by rw [po_y hj (c_25.trans hst.1.symm), hst.2, e8_7p c_25], rfl⟩)
    · refine xl (fun _ => lv_iconst (v := 0) hx hb dX2_partOf_10 (by decide)) ?_
      exact x_iret hx hb hr hlocks hs0 hbs (by decide) (by decide) dX2_partOf_11 (⟨by rw [po_out2 c_7]; rfl, rfl⟩)

set_option maxHeartbeats 4000000 in
set_option maxRecDepth 100000 in
theorem c_X2_part (l : Launch) (G : sg_G) (H : Heap) (mb n : Nat) (t : Nat → sp_T) (rg : Nat → Option Nat) (g : Nat → Prop) (hH : sm_H G mb n t rg g H) (r x w : Int32) : xC l G yX2_part cX2_part 5 (some FieldType.int) 2 0 0 [.ref mb, .int r, .int x, .int w] H (fun ans H' => ans = some (.int (op_part (n, t, rg, g) r x w).1) ∧ sm_HS G mb (op_part (n, t, rg, g) r x w).2 H' ∧ sm_F mb H H') := by
  refine xC.start (by decide) (Nat.le_of_ble_eq_true rfl) ?_
  intro p e s m args below meth c ls E hnm hs0 hl
  obtain ⟨hx, hb, hml, hown, hts, hr, hlocks, hK, hbs⟩ := id E
  have hl : lv_has ls 5 [(0, .ref mb), (1, .int r), (2, .int x), (3, .int w)] := hl
  obtain ⟨so, on, tw, th, ce, kb, li, re, ns, hM, hR, hQ, hns, hg⟩ := id hH
  obtain ⟨hm0, hmn, hX, h1, h2, h3, h4, h5, h6, h7, h8, h9⟩ := id hM
  obtain ⟨hRt, hRr, hRg, hRw⟩ := id hR
  have hF : sm_F mb H H := sm_F.rf
  refine xl (fun _ => lv_iload_n hx hb dX2_part_0 rfl (lv_at hl 1 rfl)) ?_
  refine x_callS E hl (c_X2_isRegister l G H r) xm_yX2_isRegister wMX2_46 wS_yX2_isRegister (rest := []) rfl (by decide) (by decide) ⟨by decide, by decide⟩ dX2_part_1 (x_pure (r := .int (bI (sp_ir r))) (st1 := []) ?_)
  refine xb (fun _ => lv_if_eq (tgt := 15) hx hb dX2_part_4 (by decide)) (fun c_4 => ?_) (fun c_4 => ?_)
  · have c_4 := bI_f c_4
    refine xl (fun _ => lv_iconst (v := (-1)) hx hb dX2_part_15 (by decide)) ?_
    exact x_iret hx hb hr hlocks hs0 hbs (by decide) (by decide) dX2_part_16 (⟨by simp only [op_part, sp_r1, sp_pt, c_4, reduceIte, Bool.false_eq_true, and_true, true_and, and_false, false_and, and_self, not_true_eq_false, not_false_eq_true]; (repeat' split) <;> rfl, by simp only [op_part, sp_r1, sp_pt, c_4, reduceIte, Bool.false_eq_true, and_true, true_and, and_false, false_and, and_self, not_true_eq_false, not_false_eq_true]; (repeat' split) <;> exact hH, sm_F.rf⟩)
  · have c_4 := bI_t c_4
    obtain ⟨rr, hrr, rfl⟩ := sp_ir_of c_4
    refine xl (fun _ => lv_aload_n hx hb dX2_part_7 rfl (lv_at hl 0 rfl)) ?_
    refine xl (fun _ => lv_iload_n hx hb dX2_part_8 rfl (lv_at hl 2 rfl)) ?_
    refine x_callV E hl (c_X2_holds l G H mb n _ _ _ _ _ _ _ _ _ _ ⟨hm0, hmn, hX, h1, h2, h3, h4, h5, h6, h7, h8, h9⟩ t rg hR x) xm_yX2_holds wMX2_50 wI_yX2_holds wT_yX2_holds (ci := 2) rfl rfl hX (rest := []) rfl (by decide) (by decide) ⟨by decide, by decide⟩ dX2_part_9 (x_pure (r := .int (bI (sp_rg rg x).isSome)) (st1 := []) ?_)
    refine xb (fun _ => lv_if_ne (tgt := 17) hx hb dX2_part_12 (by decide)) (fun c_12 => ?_) (fun c_12 => ?_)
    · have c_12 := bI_t c_12
      obtain ⟨i, hs_12⟩ := isS c_12
      obtain ⟨j_x, hj_x, he_x, hg_x⟩ := sp_rg_s hs_12
      have hi_i : i < n := hRg j_x hj_x i hg_x
      have hr_x : re j_x = nI (i + 1) := by rw [hRr j_x hj_x, hg_x]; rfl
      refine xl (fun _ => lv_aload_n hx hb dX2_part_17 rfl (lv_at hl 0 rfl)) ?_
      refine xl (fun _ => lv_aload_n hx hb dX2_part_18 rfl (lv_at hl 0 rfl)) ?_
      refine x_get (ci := 2) hx hb hts hown hK wiX2 hX rfl 9 (by decide) wFX2_35 rfl rfl dX2_part_19 ?_
      refine xl (fun _ => lv_iload_n hx hb dX2_part_22 rfl (lv_at hl 2 rfl)) ?_
      refine x_iald hx hb hK h9 j_x (he_x) (by have := hj_x; omega) (by decide) dX2_part_23 ?_
      rw [show (re j_x) = (nI (i + 1)) from hr_x]
      refine xl (fun _ => lv_iconst (v := 1) hx hb dX2_part_24 (by decide)) ?_
      refine xl (fun _ => lv_isub hx hb dX2_part_25) ?_
      rw [show ((nI (i + 1)) - 1) = (nI i) from nI_pred i]
      refine xl (fun _ => lv_iload_n hx hb dX2_part_26 rfl (lv_at hl 3 rfl)) ?_
      rcases hs_27 : sp_po (t i) w with _ | k
      · refine x_callV E hl (show xC l G yX2_partOf cX2_partOf 3 (some FieldType.int) 0 0 0 [.ref mb, .int (nI i), .int w] H (xPu (.int 0) H) from by have q := c_X2_partOf l G H mb n _ _ _ _ _ _ _ _ _ _ ⟨hm0, hmn, hX, h1, h2, h3, h4, h5, h6, h7, h8, h9⟩ t rg hR i hi_i w; rw [hs_27] at q; exact q) xm_yX2_partOf wMX2_72 wI_yX2_partOf wT_yX2_partOf (ci := 2) rfl rfl hX (rest := []) rfl (by decide) (by decide) ⟨by decide, by decide⟩ dX2_part_27 (x_pure (r := .int 0) (st1 := []) ?_)
        refine xs (fun _ => lv_istore (i := 4) (lv' := [(4, .int 0), (0, .ref mb), (1, .int (nI rr)), (2, .int x), (3, .int w)]) hx hb dX2_part_30 hl (by decide) (rfl)) (fun ls hl => ?_)
        refine xl (fun _ => lv_iload hx hb dX2_part_32 (lv_at hl 0 rfl)) ?_
        refine xb (fun _ => lv_if_ne (tgt := 39) hx hb dX2_part_34 (by decide)) (fun c_34 => ?_) (fun c_34 => ?_)
        · exact absurd rfl c_34
        · refine xl (fun _ => lv_iconst (v := (-1)) hx hb dX2_part_37 (by decide)) ?_
          exact x_iret hx hb hr hlocks hs0 hbs (by decide) (by decide) dX2_part_38 (⟨by rw [op_part_eq hs_12]; dsimp only; rw [hs_27], by rw [op_part_eq hs_12]; dsimp only; rw [hs_27]; exact hH, sm_F.rf⟩)
      · have hkn : k < n := Nat.lt_trans (po_lt (hRw i hi_i).1 hs_27) hi_i
        refine x_callV E hl (show xC l G yX2_partOf cX2_partOf 3 (some FieldType.int) 0 0 0 [.ref mb, .int (nI i), .int w] H (xPu (.int (nI (k + 1))) H) from by have q := c_X2_partOf l G H mb n _ _ _ _ _ _ _ _ _ _ ⟨hm0, hmn, hX, h1, h2, h3, h4, h5, h6, h7, h8, h9⟩ t rg hR i hi_i w; rw [hs_27] at q; exact q) xm_yX2_partOf wMX2_72 wI_yX2_partOf wT_yX2_partOf (ci := 2) rfl rfl hX (rest := []) rfl (by decide) (by decide) ⟨by decide, by decide⟩ dX2_part_27 (x_pure (r := .int (nI (k + 1))) (st1 := []) ?_)
        refine xs (fun _ => lv_istore (i := 4) (lv' := [(4, .int (nI (k + 1))), (0, .ref mb), (1, .int (nI rr)), (2, .int x), (3, .int w)]) hx hb dX2_part_30 hl (by decide) (rfl)) (fun ls hl => ?_)
        refine xl (fun _ => lv_iload hx hb dX2_part_32 (lv_at hl 0 rfl)) ?_
        refine xb (fun _ => lv_if_ne (tgt := 39) hx hb dX2_part_34 (by decide)) (fun c_34 => ?_) (fun c_34 => ?_)
        · refine xl (fun _ => lv_aload_n hx hb dX2_part_39 rfl (lv_at hl 1 rfl)) ?_
          refine x_get (ci := 2) hx hb hts hown hK wiX2 hX rfl 9 (by decide) wFX2_35 rfl rfl dX2_part_40 ?_
          refine xl (fun _ => lv_iload_n hx hb dX2_part_43 rfl (lv_at hl 2 rfl)) ?_
          refine xl (fun _ => lv_iload hx hb dX2_part_44 (lv_at hl 0 rfl)) ?_
          refine x_iast hx hb hK h9 rr (rfl) (by omega) (by decide) (by omega) dX2_part_46 (fun H_1 ho_2 hz_3 hq_4 => ?_)
          have ho_2 : ia_ G H_1 (mb + 9) 64 (upd re rr (nI (k + 1))) := ho_2
          have k_5 := va_at.kept (H1 := H_1) (hX) (hq_4 _ (by omega))
          have k_6 := va_at.kept (H1 := H_1) (h1) (hq_4 _ (by omega))
          have k_7 := va_at.kept (H1 := H_1) (h2) (hq_4 _ (by omega))
          have k_8 := va_at.kept (H1 := H_1) (h3) (hq_4 _ (by omega))
          have k_9 := va_at.kept (H1 := H_1) (h4) (hq_4 _ (by omega))
          have k_10 := va_at.kept (H1 := H_1) (h5) (hq_4 _ (by omega))
          have k_11 := va_at.kept (H1 := H_1) (h6) (hq_4 _ (by omega))
          have k_12 := va_at.kept (H1 := H_1) (h7) (hq_4 _ (by omega))
          have k_13 := va_at.kept (H1 := H_1) (h8) (hq_4 _ (by omega))
          have hF : sm_F mb H H_1 := hF.put (a := (mb + 9)) hz_3 hq_4 ⟨by omega, by omega⟩
          refine xl (fun _ => lv_iconst (v := 1) hx hb dX2_part_47 (by decide)) ?_
          exact x_iret hx hb hr hlocks hs0 hbs (by decide) (by decide) dX2_part_48 (⟨by rw [op_part_eq hs_12]; dsimp only; rw [hs_27]; dsimp only; unfold sp_r1; rw [if_pos (sp_ir_nI hrr)], by rw [op_part_eq hs_12]; dsimp only; rw [hs_27]; dsimp only; unfold sp_pt; rw [if_pos (sp_ir_nI hrr), nI_clamp (by omega)]; exact ⟨_, _, _, _, _, _, _, _, ns, ⟨hm0, hmn, k_5, k_6, k_7, k_8, k_9, k_10, k_11, k_12, k_13, ho_2⟩, sm_R_part hR hkn, hQ, hns, hg⟩, hF⟩)
        · exact absurd c_34 (nI_ne0 (by omega) (by omega))
    · have c_12 := bI_f c_12
      have hs_12 := isN c_12
      refine xl (fun _ => lv_iconst (v := (-1)) hx hb dX2_part_15 (by decide)) ?_
      exact x_iret hx hb hr hlocks hs0 hbs (by decide) (by decide) dX2_part_16 (⟨by simp only [op_part, hs_12], by simp only [op_part, hs_12]; exact hH, sm_F.rf⟩)
