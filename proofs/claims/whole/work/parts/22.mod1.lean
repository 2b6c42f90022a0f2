set_option maxHeartbeats 4000000 in
set_option maxRecDepth 100000 in
theorem c_X2_isRegister (l : Launch) (G : sg_G) (H : Heap) (x : Int32) : xC l G yX2_isRegister cX2_isRegister 1 (some FieldType.boolean) 0 0 0 [.int x] H (xPu (.int (bI (sp_ir x))) H) := by
  refine xC.start (by decide) (Nat.le_of_ble_eq_true rfl) ?_
  intro p e s m args below meth c ls E hnm hs0 hl
  obtain ⟨hx, hb, hml, hown, hts, hr, hlocks, hK, hbs⟩ := id E
  have hl : lv_has ls 1 [(0, .int x)] := hl
  refine xl (fun _ => lv_iload_n hx hb dX2_isRegister_0 rfl (lv_at hl 0 rfl)) ?_
  refine xb (fun _ => lv_if_lt (tgt := 14) hx hb dX2_isRegister_1 (by decide)) (fun c_1 => ?_) (fun c_1 => ?_)
  · refine xl (fun _ => lv_iconst (v := 0) hx hb dX2_isRegister_14 (by decide)) ?_
    exact x_zret hx hb hr hlocks hs0 hbs (by decide) (by decide) (by decide) dX2_isRegister_15 (pu0 (decide_eq_false (fun z => z.1 c_1)))
  · refine xl (fun _ => lv_iload_n hx hb dX2_isRegister_4 rfl (lv_at hl 0 rfl)) ?_
    refine xl (fun _ => lv_bipush (v := 64) hx hb dX2_isRegister_5 (by decide)) ?_
    refine xb (fun _ => lv_icmp_ge (tgt := 14) hx hb dX2_isRegister_7 (by decide)) (fun c_7 => ?_) (fun c_7 => ?_)
    · refine xl (fun _ => lv_iconst (v := 0) hx hb dX2_isRegister_14 (by decide)) ?_
      exact x_zret hx hb hr hlocks hs0 hbs (by decide) (by decide) (by decide) dX2_isRegister_15 (pu0 (decide_eq_false (fun z => absurd z.2 (Int32.not_lt.mpr c_7))))
    · refine xl (fun _ => lv_iconst (v := 1) hx hb dX2_isRegister_10 (by decide)) ?_
      refine xl (fun _ => lv_goto (tgt := 15) hx hb dX2_isRegister_11 (by decide)) ?_
      exact x_zret hx hb hr hlocks hs0 hbs (by decide) (by decide) (by decide) dX2_isRegister_15 (pu1 (decide_eq_true ⟨c_1, Int32.not_le.mp c_7⟩))

set_option maxHeartbeats 4000000 in
set_option maxRecDepth 100000 in
theorem c_X2_holds (l : Launch) (G : sg_G) (H : Heap) (mb n : Nat) (so on tw th ce gi kn li re : Nat → Int32) (sec : Int32) (hM : sm_X G mb n so on tw th ce gi kn li re sec H) (t : Nat → sp_T) (rg : Nat → Option Nat) (hR : sm_R n t rg so on tw th ce re) (x : Int32) : xC l G yX2_holds cX2_holds 2 (some FieldType.boolean) 1 0 0 [.ref mb, .int x] H (xPu (.int (bI (sp_rg rg x).isSome)) H) := by
  refine xC.start (by decide) (Nat.le_of_ble_eq_true rfl) ?_
  intro p e s m args below meth c ls E hnm hs0 hl
  obtain ⟨hx, hb, hml, hown, hts, hr, hlocks, hK, hbs⟩ := id E
  have hl : lv_has ls 2 [(0, .ref mb), (1, .int x)] := hl
  obtain ⟨hm0, hmn, hX, h1, h2, h3, h4, h5, h6, h7, h8, h9⟩ := id hM
  obtain ⟨hRt, hRr, hRg, hRw⟩ := id hR
  refine xl (fun _ => lv_iload_n hx hb dX2_holds_0 rfl (lv_at hl 1 rfl)) ?_
  refine x_callS E hl (c_X2_isRegister l G H x) xm_yX2_isRegister wMX2_46 wS_yX2_isRegister (rest := []) rfl (by decide) (by decide) ⟨by decide, by decide⟩ dX2_holds_1 (x_pure (r := .int (bI (sp_ir x))) (st1 := []) ?_)
  refine xb (fun _ => lv_if_eq (tgt := 20) hx hb dX2_holds_4 (by decide)) (fun c_4 => ?_) (fun c_4 => ?_)
  · have c_4 := bI_f c_4
    refine xl (fun _ => lv_iconst (v := 0) hx hb dX2_holds_20 (by decide)) ?_
    exact x_zret hx hb hr hlocks hs0 hbs (by decide) (by decide) (by decide) dX2_holds_21 (pu0 (by rw [sp_rg_no c_4]; rfl))
  · have c_4 := bI_t c_4
    obtain ⟨j, hj, rfl⟩ := sp_ir_of c_4
    have hrj := hRr j hj
    refine xl (fun _ => lv_aload_n hx hb dX2_holds_7 rfl (lv_at hl 0 rfl)) ?_
    refine x_get (ci := 2) hx hb hts hown hK wiX2 hX rfl 9 (by decide) wFX2_35 rfl rfl dX2_holds_8 ?_
    refine xl (fun _ => lv_iload_n hx hb dX2_holds_11 rfl (lv_at hl 1 rfl)) ?_
    refine x_iald hx hb hK h9 j (rfl) (by omega) (by decide) dX2_holds_12 ?_
    refine xb (fun _ => lv_if_le (tgt := 20) hx hb dX2_holds_13 (by decide)) (fun c_13 => ?_) (fun c_13 => ?_)
    · refine xl (fun _ => lv_iconst (v := 0) hx hb dX2_holds_20 (by decide)) ?_
      exact x_zret hx hb hr hlocks hs0 hbs (by decide) (by decide) (by decide) dX2_holds_21 (pu0 (by rw [sp_rg_nI hj]; cases hg : rg j with | none => rfl | some i => (rw [hrj, hg] at c_13; exact absurd c_13 (nI_nle (n := i + 1) (by omega) (by have := hRg j hj i hg; omega)))))
    · refine xl (fun _ => lv_iconst (v := 1) hx hb dX2_holds_16 (by decide)) ?_
      refine xl (fun _ => lv_goto (tgt := 21) hx hb dX2_holds_17 (by decide)) ?_
      exact x_zret hx hb hr hlocks hs0 hbs (by decide) (by decide) (by decide) dX2_holds_21 (pu1 (by rw [sp_rg_nI hj]; cases hg : rg j with | none => (rw [hrj, hg] at c_13; exact absurd (show (0 : Int32) ≤ 0 by decide) c_13) | some i => rfl))

set_option maxHeartbeats 4000000 in
set_option maxRecDepth 100000 in
theorem c_X2_has (l : Launch) (G : sg_G) (H : Heap) (mb n : Nat) (so on tw th ce gi kn li re : Nat → Int32) (sec : Int32) (hM : sm_X G mb n so on tw th ce gi kn li re sec H) (t : Nat → sp_T) (rg : Nat → Option Nat) (hR : sm_R n t rg so on tw th ce re) (x v : Int32) : xC l G yX2_has cX2_has 3 (some FieldType.boolean) 2 0 0 [.ref mb, .int x, .int v] H (xPu (.int (bI (sp_rs t rg x v).isSome)) H) := by
  refine xC.start (by decide) (Nat.le_of_ble_eq_true rfl) ?_
  intro p e s m args below meth c ls E hnm hs0 hl
  obtain ⟨hx, hb, hml, hown, hts, hr, hlocks, hK, hbs⟩ := id E
  have hl : lv_has ls 3 [(0, .ref mb), (1, .int x), (2, .int v)] := hl
  obtain ⟨hm0, hmn, hX, h1, h2, h3, h4, h5, h6, h7, h8, h9⟩ := id hM
  obtain ⟨hRt, hRr, hRg, hRw⟩ := id hR
  refine xl (fun _ => lv_aload_n hx hb dX2_has_0 rfl (lv_at hl 0 rfl)) ?_
  refine xl (fun _ => lv_iload_n hx hb dX2_has_1 rfl (lv_at hl 1 rfl)) ?_
  refine x_callV E hl (c_X2_holds l G H mb n so on tw th ce gi kn li re sec hM t rg hR x) xm_yX2_holds wMX2_50 wI_yX2_holds wT_yX2_holds (ci := 2) rfl rfl hX (rest := []) rfl (by decide) (by decide) ⟨by decide, by decide⟩ dX2_has_2 (x_pure (r := .int (bI (sp_rg rg x).isSome)) (st1 := []) ?_)
  refine xb (fun _ => lv_if_eq (tgt := 29) hx hb dX2_has_5 (by decide)) (fun c_5 => ?_) (fun c_5 => ?_)
  · have c_5 := bI_f c_5
    refine xl (fun _ => lv_iconst (v := 0) hx hb dX2_has_29 (by decide)) ?_
    exact x_zret hx hb hr hlocks hs0 hbs (by decide) (by decide) (by decide) dX2_has_30 (pu0 (by rw [sp_rs_n (isN c_5)]; rfl))
  · have c_5 := bI_t c_5
    obtain ⟨i, hxi⟩ := isS c_5
    obtain ⟨j_x, hj_x, he_x, hg_x⟩ := sp_rg_s hxi
    have hi_i : i < n := hRg j_x hj_x i hg_x
    have hr_x : re j_x = nI (i + 1) := by rw [hRr j_x hj_x, hg_x]; rfl
    refine xl (fun _ => lv_aload_n hx hb dX2_has_8 rfl (lv_at hl 0 rfl)) ?_
    refine x_get (ci := 2) hx hb hts hown hK wiX2 hX rfl 1 (by decide) wFX2_9 rfl rfl dX2_has_9 ?_
    refine xl (fun _ => lv_aload_n hx hb dX2_has_12 rfl (lv_at hl 0 rfl)) ?_
    refine x_get (ci := 2) hx hb hts hown hK wiX2 hX rfl 9 (by decide) wFX2_35 rfl rfl dX2_has_13 ?_
    refine xl (fun _ => lv_iload_n hx hb dX2_has_16 rfl (lv_at hl 1 rfl)) ?_
    refine x_iald hx hb hK h9 j_x (he_x) (by have := hj_x; omega) (by decide) dX2_has_17 ?_
    rw [show (re j_x) = (nI (i + 1)) from hr_x]
    refine xl (fun _ => lv_iconst (v := 1) hx hb dX2_has_18 (by decide)) ?_
    refine xl (fun _ => lv_isub hx hb dX2_has_19) ?_
    rw [show ((nI (i + 1)) - 1) = (nI i) from nI_pred i]
    refine x_iald hx hb hK h1 i (rfl) (by omega) (by decide) dX2_has_20 ?_
    rw [show (so i) = (sp_so (t i)) from (hRt i hi_i).1]
    refine xl (fun _ => lv_iload_n hx hb dX2_has_21 rfl (lv_at hl 2 rfl)) ?_
    refine xb (fun _ => lv_icmp_ne (tgt := 29) hx hb dX2_has_22 (by decide)) (fun c_22 => ?_) (fun c_22 => ?_)
    · refine xl (fun _ => lv_iconst (v := 0) hx hb dX2_has_29 (by decide)) ?_
      exact x_zret hx hb hr hlocks hs0 hbs (by decide) (by decide) (by decide) dX2_has_30 (pu0 (by rw [sp_rs_x hxi c_22]; rfl))
    · refine xl (fun _ => lv_iconst (v := 1) hx hb dX2_has_25 (by decide)) ?_
      refine xl (fun _ => lv_goto (tgt := 30) hx hb dX2_has_26 (by decide)) ?_
      exact x_zret hx hb hr hlocks hs0 hbs (by decide) (by decide) (by decide) dX2_has_30 (pu1 (by rw [sp_rs_s hxi c_22]; rfl))

theorem and_assoc5 {A B C D E : Prop} : (A ∧ B ∧ C ∧ D ∧ E) ↔ (A ∧ B ∧ C ∧ D) ∧ E := ⟨fun h => ⟨⟨h.1, h.2.1, h.2.2.1, h.2.2.2.1⟩, h.2.2.2.2⟩, fun h => ⟨h.1.1, h.1.2.1, h.1.2.2.1, h.1.2.2.2, h.2⟩⟩

set_option maxHeartbeats 4000000 in
set_option maxRecDepth 100000 in
theorem c_X2_isLike (l : Launch) (G : sg_G) (H : Heap) (mb n : Nat) (so on tw th ce gi kn li re : Nat → Int32) (sec : Int32) (hM : sm_X G mb n so on tw th ce gi kn li re sec H) (i : Nat) (hi : i < 512) (s1 a1 b1 c1 : Int32) (B : Bool) (hB : B = true ↔ (so i = s1 ∧ on i = a1 ∧ tw i = b1 ∧ th i = c1 ∧ (s1 = 7 → ∀ k, k < 8 → ce (8 * i + k) = li k))) : xC l G yX2_isLike cX2_isLike 8 (some FieldType.boolean) 0 0 0 [.ref mb, .int (nI i), .int s1, .int a1, .int b1, .int c1] H (xPu (.int (bI B)) H) := by
  refine xC.start (by decide) (Nat.le_of_ble_eq_true rfl) ?_
  intro p e s m args below meth c ls E hnm hs0 hl
  obtain ⟨hx, hb, hml, hown, hts, hr, hlocks, hK, hbs⟩ := id E
  have hl : lv_has ls 8 [(0, .ref mb), (1, .int (nI i)), (2, .int s1), (3, .int a1), (4, .int b1), (5, .int c1)] := hl
  obtain ⟨hm0, hmn, hX, h1, h2, h3, h4, h5, h6, h7, h8, h9⟩ := id hM
  refine xl (fun _ => lv_aload_n hx hb dX2_isLike_0 rfl (lv_at hl 0 rfl)) ?_
  refine x_get (ci := 2) hx hb hts hown hK wiX2 hX rfl 1 (by decide) wFX2_9 rfl rfl dX2_isLike_1 ?_
  refine xl (fun _ => lv_iload_n hx hb dX2_isLike_4 rfl (lv_at hl 1 rfl)) ?_
  refine x_iald hx hb hK h1 i (rfl) (by omega) (by decide) dX2_isLike_5 ?_
  refine xl (fun _ => lv_iload_n hx hb dX2_isLike_6 rfl (lv_at hl 2 rfl)) ?_
  refine xb (fun _ => lv_icmp_ne (tgt := 46) hx hb dX2_isLike_7 (by decide)) (fun c_7 => ?_) (fun c_7 => ?_)
  · refine xl (fun _ => lv_iconst (v := 0) hx hb dX2_isLike_46 (by decide)) ?_
    refine xg (g2 := F0 m 47 ls [.int (bI false)]) rfl ?_
    refine xs (fun _ => lv_istore (i := 6) (lv' := [(6, .int (bI false)), (0, .ref mb), (1, .int (nI i)), (2, .int s1), (3, .int a1), (4, .int b1), (5, .int c1)]) hx hb dX2_isLike_47 hl (by decide) (rfl)) (fun ls hl => ?_)
    refine xl (fun _ => lv_iconst (v := 0) hx hb dX2_isLike_49 (by decide)) ?_
    refine xs (fun _ => lv_istore (i := 7) (lv' := [(7, .int 0), (6, .int (bI false)), (0, .ref mb), (1, .int (nI i)), (2, .int s1), (3, .int a1), (4, .int b1), (5, .int c1)]) hx hb dX2_isLike_50 hl (by decide) (rfl)) (fun ls hl => ?_)
    have hloop : ∀ (d : Nat) (k : Nat) (sm : Bool), k ≤ 8 → 8 < k + d → (sm = true ↔ (so i = s1 ∧ on i = a1 ∧ tw i = b1 ∧ th i = c1) ∧ (s1 = 7 → ∀ q, q < k → ce (8 * i + q) = li q)) → ∀ (ls : Array Slot), lv_has ls 8 [(7, .int (nI k)), (6, .int (bI sm)), (0, .ref mb), (1, .int (nI i)), (2, .int s1), (3, .int a1), (4, .int b1), (5, .int c1)] → xV p l e (xR 0 0 0) s m args below meth c G H 0 0 (MQ below (xQ G H (xPu (.int (bI B)) H)) args s 0 0 (sg_fr G)) (F0 m 52 ls []) := by
      intro d
      induction d with
      | zero =>
        intro k sm h1 h2
        exact absurd h2 (by omega)
      | succ d ih =>
        intro k sm hk hd hsm ls hl
        refine xl (fun _ => lv_iload hx hb dX2_isLike_52 (lv_at hl 0 rfl)) ?_
        refine xl (fun _ => lv_bipush (v := 8) hx hb dX2_isLike_54 (by decide)) ?_
        refine xb (fun _ => lv_icmp_ge (tgt := 105) hx hb dX2_isLike_56 (by decide)) (fun c_56 => ?_) (fun c_56 => ?_)
        · have e8k : k = 8 := by have := nI_le4 (n := 8) (by omega) (by decide) c_56; omega
          refine xl (fun _ => lv_iload hx hb dX2_isLike_105 (lv_at hl 1 rfl)) ?_
          exact x_zret hx hb hr hlocks hs0 hbs (bI_and _) (by decide) (by decide) dX2_isLike_107 (⟨by rw [show sm = B from bool_eq (hsm.trans (by rw [hB, e8k]; exact and_assoc5.symm))], rfl⟩)
        · have hk8 : k < 8 := nI_nle4 (n := 8) (by omega) (by decide) c_56
          refine xl (fun _ => lv_iload hx hb dX2_isLike_59 (lv_at hl 1 rfl)) ?_
          refine xb (fun _ => lv_if_eq (tgt := 105) hx hb dX2_isLike_61 (by decide)) (fun c_61 => ?_) (fun c_61 => ?_)
          · have c_61 := bI_f c_61
            refine xl (fun _ => lv_iload hx hb dX2_isLike_105 (lv_at hl 1 rfl)) ?_
            exact x_zret hx hb hr hlocks hs0 hbs (bI_and _) (by decide) (by decide) dX2_isLike_107 (⟨by rw [show sm = B from bool_eq ⟨(fun z => by rw [c_61] at z; cases z), fun z => by have q := hB.mp z; exact absurd (hsm.mpr ⟨⟨q.1, q.2.1, q.2.2.1, q.2.2.2.1⟩, fun e7 x hx => q.2.2.2.2 e7 x (by omega)⟩) (by rw [c_61]; decide)⟩], rfl⟩)
          · have c_61 := bI_t c_61
            refine xl (fun _ => lv_iload_n hx hb dX2_isLike_64 rfl (lv_at hl 4 rfl)) ?_
            refine xl (fun _ => lv_bipush (v := 7) hx hb dX2_isLike_65 (by decide)) ?_
            refine xb (fun _ => lv_icmp_ne (tgt := 92) hx hb dX2_isLike_67 (by decide)) (fun c_67 => ?_) (fun c_67 => ?_)
            · refine xl (fun _ => lv_iconst (v := 1) hx hb dX2_isLike_92 (by decide)) ?_
              refine xl (fun _ => lv_goto (tgt := 97) hx hb dX2_isLike_93 (by decide)) ?_
              refine xg (g2 := F0 m 97 ls [.int (bI true)]) rfl ?_
              refine xs (fun _ => lv_istore (i := 6) (lv' := [(6, .int (bI true)), (7, .int (nI k)), (0, .ref mb), (1, .int (nI i)), (2, .int s1), (3, .int a1), (4, .int b1), (5, .int c1)]) hx hb dX2_isLike_97 hl (by decide) (rfl)) (fun ls hl => ?_)
              refine xs (fun _ => lv_iinc (v := (nI (k + 1))) (lv' := [(7, .int (nI (k + 1))), (6, .int (bI true)), (0, .ref mb), (1, .int (nI i)), (2, .int s1), (3, .int a1), (4, .int b1), (5, .int c1)]) hx hb dX2_isLike_99 hl (k := 1) rfl (nI_1 k) (by decide) (rfl)) (fun ls hl => ?_)
              refine xl (fun _ => lv_goto (tgt := 52) hx hb dX2_isLike_102 (by decide)) ?_
              exact ih (k + 1) true (by omega) (by omega) (⟨fun _ => ⟨(hsm.mp c_61).1, fun e7 => absurd e7 c_67⟩, fun _ => rfl⟩) ls (lv_sub hl [0, 1, 2, 3, 4, 5, 6, 7] rfl)
            · refine xl (fun _ => lv_aload_n hx hb dX2_isLike_70 rfl (lv_at hl 2 rfl)) ?_
              refine x_get (ci := 2) hx hb hts hown hK wiX2 hX rfl 5 (by decide) wFX2_22 rfl rfl dX2_isLike_71 ?_
              refine xl (fun _ => lv_bipush (v := 8) hx hb dX2_isLike_74 (by decide)) ?_
              refine xl (fun _ => lv_iload_n hx hb dX2_isLike_76 rfl (lv_at hl 3 rfl)) ?_
              refine xl (fun _ => lv_imul hx hb dX2_isLike_77) ?_
              rw [show (8 * (nI i)) = (nI (8 * i)) from pk_mul 8 i]
              refine xl (fun _ => lv_iload hx hb dX2_isLike_78 (lv_at hl 0 rfl)) ?_
              refine xl (fun _ => lv_iadd hx hb dX2_isLike_80) ?_
              rw [show ((nI (8 * i)) + (nI k)) = (nI (8 * i + k)) from nI_add _ _]
              refine x_iald hx hb hK h5 (8 * i + k) (rfl) (by omega) (by decide) dX2_isLike_81 ?_
              refine xl (fun _ => lv_aload_n hx hb dX2_isLike_82 rfl (lv_at hl 2 rfl)) ?_
              refine x_get (ci := 2) hx hb hts hown hK wiX2 hX rfl 8 (by decide) wFX2_32 rfl rfl dX2_isLike_83 ?_
              refine xl (fun _ => lv_iload hx hb dX2_isLike_86 (lv_at hl 0 rfl)) ?_
              refine x_iald hx hb hK h8 k (rfl) (by omega) (by decide) dX2_isLike_88 ?_
              refine xb (fun _ => lv_icmp_ne (tgt := 96) hx hb dX2_isLike_89 (by decide)) (fun c_89 => ?_) (fun c_89 => ?_)
              · refine xl (fun _ => lv_iconst (v := 0) hx hb dX2_isLike_96 (by decide)) ?_
                refine xg (g2 := F0 m 97 ls [.int (bI false)]) rfl ?_
                refine xs (fun _ => lv_istore (i := 6) (lv' := [(6, .int (bI false)), (7, .int (nI k)), (0, .ref mb), (1, .int (nI i)), (2, .int s1), (3, .int a1), (4, .int b1), (5, .int c1)]) hx hb dX2_isLike_97 hl (by decide) (rfl)) (fun ls hl => ?_)
                refine xs (fun _ => lv_iinc (v := (nI (k + 1))) (lv' := [(7, .int (nI (k + 1))), (6, .int (bI false)), (0, .ref mb), (1, .int (nI i)), (2, .int s1), (3, .int a1), (4, .int b1), (5, .int c1)]) hx hb dX2_isLike_99 hl (k := 1) rfl (nI_1 k) (by decide) (rfl)) (fun ls hl => ?_)
                refine xl (fun _ => lv_goto (tgt := 52) hx hb dX2_isLike_102 (by decide)) ?_
                exact ih (k + 1) false (by omega) (by omega) (⟨(fun z => by cases z), fun z => absurd (z.2 c_67 k (by omega)) c_89⟩) ls (lv_sub hl [0, 1, 2, 3, 4, 5, 6, 7] rfl)
              · refine xl (fun _ => lv_iconst (v := 1) hx hb dX2_isLike_92 (by decide)) ?_
                refine xl (fun _ => lv_goto (tgt := 97) hx hb dX2_isLike_93 (by decide)) ?_
                refine xg (g2 := F0 m 97 ls [.int (bI true)]) rfl ?_
                refine xs (fun _ => lv_istore (i := 6) (lv' := [(6, .int (bI true)), (7, .int (nI k)), (0, .ref mb), (1, .int (nI i)), (2, .int s1), (3, .int a1), (4, .int b1), (5, .int c1)]) hx hb dX2_isLike_97 hl (by decide) (rfl)) (fun ls hl => ?_)
                refine xs (fun _ => lv_iinc (v := (nI (k + 1))) (lv' := [(7, .int (nI (k + 1))), (6, .int (bI true)), (0, .ref mb), (1, .int (nI i)), (2, .int s1), (3, .int a1), (4, .int b1), (5, .int c1)]) hx hb dX2_isLike_99 hl (k := 1) rfl (nI_1 k) (by decide) (rfl)) (fun ls hl => ?_)
                refine xl (fun _ => lv_goto (tgt := 52) hx hb dX2_isLike_102 (by decide)) ?_
                exact ih (k + 1) true (by omega) (by omega) (⟨fun _ => ⟨(hsm.mp c_61).1, fun e7 q hq => by by_cases e : q = k; (rw [e]; exact c_89); exact (hsm.mp c_61).2 e7 q (by omega)⟩, fun _ => rfl⟩) ls (lv_sub hl [0, 1, 2, 3, 4, 5, 6, 7] rfl)
    exact hloop 9 0 false (by decide) (by decide) (⟨(fun z => by cases z), fun z => absurd z.1.1 c_7⟩) ls (lv_sub hl [0, 1, 2, 3, 4, 5, 6, 7] rfl)
  · refine xl (fun _ => lv_aload_n hx hb dX2_isLike_10 rfl (lv_at hl 0 rfl)) ?_
    refine x_get (ci := 2) hx hb hts hown hK wiX2 hX rfl 2 (by decide) wFX2_13 rfl rfl dX2_isLike_11 ?_
    refine xl (fun _ => lv_iload_n hx hb dX2_isLike_14 rfl (lv_at hl 1 rfl)) ?_
    refine x_iald hx hb hK h2 i (rfl) (by omega) (by decide) dX2_isLike_15 ?_
    refine xl (fun _ => lv_iload_n hx hb dX2_isLike_16 rfl (lv_at hl 3 rfl)) ?_
    refine xb (fun _ => lv_icmp_ne (tgt := 46) hx hb dX2_isLike_17 (by decide)) (fun c_17 => ?_) (fun c_17 => ?_)
    · refine xl (fun _ => lv_iconst (v := 0) hx hb dX2_isLike_46 (by decide)) ?_
      refine xg (g2 := F0 m 47 ls [.int (bI false)]) rfl ?_
      refine xs (fun _ => lv_istore (i := 6) (lv' := [(6, .int (bI false)), (0, .ref mb), (1, .int (nI i)), (2, .int s1), (3, .int a1), (4, .int b1), (5, .int c1)]) hx hb dX2_isLike_47 hl (by decide) (rfl)) (fun ls hl => ?_)
      refine xl (fun _ => lv_iconst (v := 0) hx hb dX2_isLike_49 (by decide)) ?_
      refine xs (fun _ => lv_istore (i := 7) (lv' := [(7, .int 0), (6, .int (bI false)), (0, .ref mb), (1, .int (nI i)), (2, .int s1), (3, .int a1), (4, .int b1), (5, .int c1)]) hx hb dX2_isLike_50 hl (by decide) (rfl)) (fun ls hl => ?_)
      have hloop : ∀ (d : Nat) (k : Nat) (sm : Bool), k ≤ 8 → 8 < k + d → (sm = true ↔ (so i = s1 ∧ on i = a1 ∧ tw i = b1 ∧ th i = c1) ∧ (s1 = 7 → ∀ q, q < k → ce (8 * i + q) = li q)) → ∀ (ls : Array Slot), lv_has ls 8 [(7, .int (nI k)), (6, .int (bI sm)), (0, .ref mb), (1, .int (nI i)), (2, .int s1), (3, .int a1), (4, .int b1), (5, .int c1)] → xV p l e (xR 0 0 0) s m args below meth c G H 0 0 (MQ below (xQ G H (xPu (.int (bI B)) H)) args s 0 0 (sg_fr G)) (F0 m 52 ls []) := by
        intro d
        induction d with
        | zero =>
          intro k sm h1 h2
          exact absurd h2 (by omega)
        | succ d ih =>
          intro k sm hk hd hsm ls hl
          refine xl (fun _ => lv_iload hx hb dX2_isLike_52 (lv_at hl 0 rfl)) ?_
          refine xl (fun _ => lv_bipush (v := 8) hx hb dX2_isLike_54 (by decide)) ?_
          refine xb (fun _ => lv_icmp_ge (tgt := 105) hx hb dX2_isLike_56 (by decide)) (fun c_56 => ?_) (fun c_56 => ?_)
          · have e8k : k = 8 := by have := nI_le4 (n := 8) (by omega) (by decide) c_56; omega
            refine xl (fun _ => lv_iload hx hb dX2_isLike_105 (lv_at hl 1 rfl)) ?_
            exact x_zret hx hb hr hlocks hs0 hbs (bI_and _) (by decide) (by decide) dX2_isLike_107 (⟨by rw [show sm = B from bool_eq (hsm.trans (by rw [hB, e8k]; exact and_assoc5.symm))], rfl⟩)
          · have hk8 : k < 8 := nI_nle4 (n := 8) (by omega) (by decide) c_56
            refine xl (fun _ => lv_iload hx hb dX2_isLike_59 (lv_at hl 1 rfl)) ?_
            refine xb (fun _ => lv_if_eq (tgt := 105) hx hb dX2_isLike_61 (by decide)) (fun c_61 => ?_) (fun c_61 => ?_)
            · have c_61 := bI_f c_61
              refine xl (fun _ => lv_iload hx hb dX2_isLike_105 (lv_at hl 1 rfl)) ?_
              exact x_zret hx hb hr hlocks hs0 hbs (bI_and _) (by decide) (by decide) dX2_isLike_107 (⟨by rw [show sm = B from bool_eq ⟨(fun z => by rw [c_61] at z; cases z), fun z => by have q := hB.mp z; exact absurd (hsm.mpr ⟨⟨q.1, q.2.1, q.2.2.1, q.2.2.2.1⟩, fun e7 x hx => q.2.2.2.2 e7 x (by omega)⟩) (by rw [c_61]; decide)⟩], rfl⟩)
            · have c_61 := bI_t c_61
              refine xl (fun _ => lv_iload_n hx hb dX2_isLike_64 rfl (lv_at hl 4 rfl)) ?_
              refine xl (fun _ => lv_bipush (v := 7) hx hb dX2_isLike_65 (by decide)) ?_
              refine xb (fun _ => lv_icmp_ne (tgt := 92) hx hb dX2_isLike_67 (by decide)) (fun c_67 => ?_) (fun c_67 => ?_)
              · refine xl (fun _ => lv_iconst (v := 1) hx hb dX2_isLike_92 (by decide)) ?_
                refine xl (fun _ => lv_goto (tgt := 97) hx hb dX2_isLike_93 (by decide)) ?_
                refine xg (g2 := F0 m 97 ls [.int (bI true)]) rfl ?_
                refine xs (fun _ => lv_istore (i := 6) (lv' := [(6, .int (bI true)), (7, .int (nI k)), (0, .ref mb), (1, .int (nI i)), (2, .int s1), (3, .int a1), (4, .int b1), (5, .int c1)]) hx hb dX2_isLike_97 hl (by decide) (rfl)) (fun ls hl => ?_)
                refine xs (fun _ => lv_iinc (v := (nI (k + 1))) (lv' := [(7, .int (nI (k + 1))), (6, .int (bI true)), (0, .ref mb), (1, .int (nI i)), (2, .int s1), (3, .int a1), (4, .int b1), (5, .int c1)]) hx hb dX2_isLike_99 hl (k := 1) rfl (nI_1 k) (by decide) (rfl)) (fun ls hl => ?_)
                refine xl (fun _ => lv_goto (tgt := 52) hx hb dX2_isLike_102 (by decide)) ?_
                exact ih (k + 1) true (by omega) (by omega) (⟨fun _ => ⟨(hsm.mp c_61).1, fun e7 => absurd e7 c_67⟩, fun _ => rfl⟩) ls (lv_sub hl [0, 1, 2, 3, 4, 5, 6, 7] rfl)
              · refine xl (fun _ => lv_aload_n hx hb dX2_isLike_70 rfl (lv_at hl 2 rfl)) ?_
                refine x_get (ci := 2) hx hb hts hown hK wiX2 hX rfl 5 (by decide) wFX2_22 rfl rfl dX2_isLike_71 ?_
                refine xl (fun _ => lv_bipush (v := 8) hx hb dX2_isLike_74 (by decide)) ?_
                refine xl (fun _ => lv_iload_n hx hb dX2_isLike_76 rfl (lv_at hl 3 rfl)) ?_
                refine xl (fun _ => lv_imul hx hb dX2_isLike_77) ?_
                rw [show (8 * (nI i)) = (nI (8 * i)) from pk_mul 8 i]
                refine xl (fun _ => lv_iload hx hb dX2_isLike_78 (lv_at hl 0 rfl)) ?_
                refine xl (fun _ => lv_iadd hx hb dX2_isLike_80) ?_
                rw [show ((nI (8 * i)) + (nI k)) = (nI (8 * i + k)) from nI_add _ _]
                refine x_iald hx hb hK h5 (8 * i + k) (rfl) (by omega) (by decide) dX2_isLike_81 ?_
                refine xl (fun _ => lv_aload_n hx hb dX2_isLike_82 rfl (lv_at hl 2 rfl)) ?_
                refine x_get (ci := 2) hx hb hts hown hK wiX2 hX rfl 8 (by decide) wFX2_32 rfl rfl dX2_isLike_83 ?_
                refine xl (fun _ => lv_iload hx hb dX2_isLike_86 (lv_at hl 0 rfl)) ?_
                refine x_iald hx hb hK h8 k (rfl) (by omega) (by decide) dX2_isLike_88 ?_
                refine xb (fun _ => lv_icmp_ne (tgt := 96) hx hb dX2_isLike_89 (by decide)) (fun c_89 => ?_) (fun c_89 => ?_)
                · refine xl (fun _ => lv_iconst (v := 0) hx hb dX2_isLike_96 (by decide)) ?_
                  refine xg (g2 := F0 m 97 ls [.int (bI false)]) rfl ?_
                  refine xs (fun _ => lv_istore (i := 6) (lv' := [(6, .int (bI false)), (7, .int (nI k)), (0, .ref mb), (1, .int (nI i)), (2, .int s1), (3, .int a1), (4, .int b1), (5, .int c1)]) hx hb dX2_isLike_97 hl (by decide) (rfl)) (fun ls hl => ?_)
                  refine xs (fun _ => lv_iinc (v := (nI (k + 1))) (lv' := [(7, .int (nI (k + 1))), (6, .int (bI false)), (0, .ref mb), (1, .int (nI i)), (2, .int s1), (3, .int a1), (4, .int b1), (5, .int c1)]) hx hb dX2_isLike_99 hl (k := 1) rfl (nI_1 k) (by decide) (rfl)) (fun ls hl => ?_)
                  refine xl (fun _ => lv_goto (tgt := 52) hx hb dX2_isLike_102 (by decide)) ?_
                  exact ih (k + 1) false (by omega) (by omega) (⟨(fun z => by cases z), fun z => absurd (z.2 c_67 k (by omega)) c_89⟩) ls (lv_sub hl [0, 1, 2, 3, 4, 5, 6, 7] rfl)
                · refine xl (fun _ => lv_iconst (v := 1) hx hb dX2_isLike_92 (by decide)) ?_
                  refine xl (fun _ => lv_goto (tgt := 97) hx hb dX2_isLike_93 (by decide)) ?_
                  refine xg (g2 := F0 m 97 ls [.int (bI true)]) rfl ?_
                  refine xs (fun _ => lv_istore (i := 6) (lv' := [(6, .int (bI true)), (7, .int (nI k)), (0, .ref mb), (1, .int (nI i)), (2, .int s1), (3, .int a1), (4, .int b1), (5, .int c1)]) hx hb dX2_isLike_97 hl (by decide) (rfl)) (fun ls hl => ?_)
                  refine xs (fun _ => lv_iinc (v := (nI (k + 1))) (lv' := [(7, .int (nI (k + 1))), (6, .int (bI true)), (0, .ref mb), (1, .int (nI i)), (2, .int s1), (3, .int a1), (4, .int b1), (5, .int c1)]) hx hb dX2_isLike_99 hl (k := 1) rfl (nI_1 k) (by decide) (rfl)) (fun ls hl => ?_)
                  refine xl (fun _ => lv_goto (tgt := 52) hx hb dX2_isLike_102 (by decide)) ?_
                  exact ih (k + 1) true (by omega) (by omega) (⟨fun _ => ⟨(hsm.mp c_61).1, fun e7 q hq => by by_cases e : q = k; (rw [e]; exact c_89); exact (hsm.mp c_61).2 e7 q (by omega)⟩, fun _ => rfl⟩) ls (lv_sub hl [0, 1, 2, 3, 4, 5, 6, 7] rfl)
      exact hloop 9 0 false (by decide) (by decide) (⟨(fun z => by cases z), fun z => absurd z.1.2.1 c_17⟩) ls (lv_sub hl [0, 1, 2, 3, 4, 5, 6, 7] rfl)
    · refine xl (fun _ => lv_aload_n hx hb dX2_isLike_20 rfl (lv_at hl 0 rfl)) ?_
      refine x_get (ci := 2) hx hb hts hown hK wiX2 hX rfl 3 (by decide) wFX2_16 rfl rfl dX2_isLike_21 ?_
      refine xl (fun _ => lv_iload_n hx hb dX2_isLike_24 rfl (lv_at hl 1 rfl)) ?_
      refine x_iald hx hb hK h3 i (rfl) (by omega) (by decide) dX2_isLike_25 ?_
      refine xl (fun _ => lv_iload hx hb dX2_isLike_26 (lv_at hl 4 rfl)) ?_
      refine xb (fun _ => lv_icmp_ne (tgt := 46) hx hb dX2_isLike_28 (by decide)) (fun c_28 => ?_) (fun c_28 => ?_)
      · refine xl (fun _ => lv_iconst (v := 0) hx hb dX2_isLike_46 (by decide)) ?_
        refine xg (g2 := F0 m 47 ls [.int (bI false)]) rfl ?_
        refine xs (fun _ => lv_istore (i := 6) (lv' := [(6, .int (bI false)), (0, .ref mb), (1, .int (nI i)), (2, .int s1), (3, .int a1), (4, .int b1), (5, .int c1)]) hx hb dX2_isLike_47 hl (by decide) (rfl)) (fun ls hl => ?_)
        refine xl (fun _ => lv_iconst (v := 0) hx hb dX2_isLike_49 (by decide)) ?_
        refine xs (fun _ => lv_istore (i := 7) (lv' := [(7, .int 0), (6, .int (bI false)), (0, .ref mb), (1, .int (nI i)), (2, .int s1), (3, .int a1), (4, .int b1), (5, .int c1)]) hx hb dX2_isLike_50 hl (by decide) (rfl)) (fun ls hl => ?_)
        have hloop : ∀ (d : Nat) (k : Nat) (sm : Bool), k ≤ 8 → 8 < k + d → (sm = true ↔ (so i = s1 ∧ on i = a1 ∧ tw i = b1 ∧ th i = c1) ∧ (s1 = 7 → ∀ q, q < k → ce (8 * i + q) = li q)) → ∀ (ls : Array Slot), lv_has ls 8 [(7, .int (nI k)), (6, .int (bI sm)), (0, .ref mb), (1, .int (nI i)), (2, .int s1), (3, .int a1), (4, .int b1), (5, .int c1)] → xV p l e (xR 0 0 0) s m args below meth c G H 0 0 (MQ below (xQ G H (xPu (.int (bI B)) H)) args s 0 0 (sg_fr G)) (F0 m 52 ls []) := by
          intro d
          induction d with
          | zero =>
            intro k sm h1 h2
            exact absurd h2 (by omega)
          | succ d ih =>
            intro k sm hk hd hsm ls hl
            refine xl (fun _ => lv_iload hx hb dX2_isLike_52 (lv_at hl 0 rfl)) ?_
            refine xl (fun _ => lv_bipush (v := 8) hx hb dX2_isLike_54 (by decide)) ?_
            refine xb (fun _ => lv_icmp_ge (tgt := 105) hx hb dX2_isLike_56 (by decide)) (fun c_56 => ?_) (fun c_56 => ?_)
            · have e8k : k = 8 := by have := nI_le4 (n := 8) (by omega) (by decide) c_56; omega
              refine xl (fun _ => lv_iload hx hb dX2_isLike_105 (lv_at hl 1 rfl)) ?_
              exact x_zret hx hb hr hlocks hs0 hbs (bI_and _) (by decide) (by decide) dX2_isLike_107 (⟨by rw [show sm = B from bool_eq (hsm.trans (by rw [hB, e8k]; exact and_assoc5.symm))], rfl⟩)
            · have hk8 : k < 8 := nI_nle4 (n := 8) (by omega) (by decide) c_56
              refine xl (fun _ => lv_iload hx hb dX2_isLike_59 (lv_at hl 1 rfl)) ?_
              refine xb (fun _ => lv_if_eq (tgt := 105) hx hb dX2_isLike_61 (by decide)) (fun c_61 => ?_) (fun c_61 => ?_)
              · have c_61 := bI_f c_61
                refine xl (fun _ => lv_iload hx hb dX2_isLike_105 (lv_at hl 1 rfl)) ?_
                exact x_zret hx hb hr hlocks hs0 hbs (bI_and _) (by decide) (by decide) dX2_isLike_107 (⟨by rw [show sm = B from bool_eq ⟨(fun z => by rw [c_61] at z; cases z), fun z => by have q := hB.mp z; exact absurd (hsm.mpr ⟨⟨q.1, q.2.1, q.2.2.1, q.2.2.2.1⟩, fun e7 x hx => q.2.2.2.2 e7 x (by omega)⟩) (by rw [c_61]; decide)⟩], rfl⟩)
              · have c_61 := bI_t c_61
                refine xl (fun _ => lv_iload_n hx hb dX2_isLike_64 rfl (lv_at hl 4 rfl)) ?_
                refine xl (fun _ => lv_bipush (v := 7) hx hb dX2_isLike_65 (by decide)) ?_
                refine xb (fun _ => lv_icmp_ne (tgt := 92) hx hb dX2_isLike_67 (by decide)) (fun c_67 => ?_) (fun c_67 => ?_)
                · refine xl (fun _ => lv_iconst (v := 1) hx hb dX2_isLike_92 (by decide)) ?_
                  refine xl (fun _ => lv_goto (tgt := 97) hx hb dX2_isLike_93 (by decide)) ?_
                  refine xg (g2 := F0 m 97 ls [.int (bI true)]) rfl ?_
                  refine xs (fun _ => lv_istore (i := 6) (lv' := [(6, .int (bI true)), (7, .int (nI k)), (0, .ref mb), (1, .int (nI i)), (2, .int s1), (3, .int a1), (4, .int b1), (5, .int c1)]) hx hb dX2_isLike_97 hl (by decide) (rfl)) (fun ls hl => ?_)
                  refine xs (fun _ => lv_iinc (v := (nI (k + 1))) (lv' := [(7, .int (nI (k + 1))), (6, .int (bI true)), (0, .ref mb), (1, .int (nI i)), (2, .int s1), (3, .int a1), (4, .int b1), (5, .int c1)]) hx hb dX2_isLike_99 hl (k := 1) rfl (nI_1 k) (by decide) (rfl)) (fun ls hl => ?_)
                  refine xl (fun _ => lv_goto (tgt := 52) hx hb dX2_isLike_102 (by decide)) ?_
                  exact ih (k + 1) true (by omega) (by omega) (⟨fun _ => ⟨(hsm.mp c_61).1, fun e7 => absurd e7 c_67⟩, fun _ => rfl⟩) ls (lv_sub hl [0, 1, 2, 3, 4, 5, 6, 7] rfl)
                · refine xl (fun _ => lv_aload_n hx hb dX2_isLike_70 rfl (lv_at hl 2 rfl)) ?_
                  refine x_get (ci := 2) hx hb hts hown hK wiX2 hX rfl 5 (by decide) wFX2_22 rfl rfl dX2_isLike_71 ?_
                  refine xl (fun _ => lv_bipush (v := 8) hx hb dX2_isLike_74 (by decide)) ?_
                  refine xl (fun _ => lv_iload_n hx hb dX2_isLike_76 rfl (lv_at hl 3 rfl)) ?_
                  refine xl (fun _ => lv_imul hx hb dX2_isLike_77) ?_
                  rw [show (8 * (nI i)) = (nI (8 * i)) from pk_mul 8 i]
                  refine xl (fun _ => lv_iload hx hb dX2_isLike_78 (lv_at hl 0 rfl)) ?_
                  refine xl (fun _ => lv_iadd hx hb dX2_isLike_80) ?_
                  rw [show ((nI (8 * i)) + (nI k)) = (nI (8 * i + k)) from nI_add _ _]
                  refine x_iald hx hb hK h5 (8 * i + k) (rfl) (by omega) (by decide) dX2_isLike_81 ?_
                  refine xl (fun _ => lv_aload_n hx hb dX2_isLike_82 rfl (lv_at hl 2 rfl)) ?_
                  refine x_get (ci := 2) hx hb hts hown hK wiX2 hX rfl 8 (by decide) wFX2_32 rfl rfl dX2_isLike_83 ?_
                  refine xl (fun _ => lv_iload hx hb dX2_isLike_86 (lv_at hl 0 rfl)) ?_
                  refine x_iald hx hb hK h8 k (rfl) (by omega) (by decide) dX2_isLike_88 ?_
                  refine xb (fun _ => lv_icmp_ne (tgt := 96) hx hb dX2_isLike_89 (by decide)) (fun c_89 => ?_) (fun c_89 => ?_)
                  · refine xl (fun _ => lv_iconst (v := 0) hx hb dX2_isLike_96 (by decide)) ?_
                    refine xg (g2 := F0 m 97 ls [.int (bI false)]) rfl ?_
                    refine xs (fun _ => lv_istore (i := 6) (lv' := [(6, .int (bI false)), (7, .int (nI k)), (0, .ref mb), (1, .int (nI i)), (2, .int s1), (3, .int a1), (4, .int b1), (5, .int c1)]) hx hb dX2_isLike_97 hl (by decide) (rfl)) (fun ls hl => ?_)
                    refine xs (fun _ => lv_iinc (v := (nI (k + 1))) (lv' := [(7, .int (nI (k + 1))), (6, .int (bI false)), (0, .ref mb), (1, .int (nI i)), (2, .int s1), (3, .int a1), (4, .int b1), (5, .int c1)]) hx hb dX2_isLike_99 hl (k := 1) rfl (nI_1 k) (by decide) (rfl)) (fun ls hl => ?_)
                    refine xl (fun _ => lv_goto (tgt := 52) hx hb dX2_isLike_102 (by decide)) ?_
                    exact ih (k + 1) false (by omega) (by omega) (⟨(fun z => by cases z), fun z => absurd (z.2 c_67 k (by omega)) c_89⟩) ls (lv_sub hl [0, 1, 2, 3, 4, 5, 6, 7] rfl)
                  · refine xl (fun _ => lv_iconst (v := 1) hx hb dX2_isLike_92 (by decide)) ?_
                    refine xl (fun _ => lv_goto (tgt := 97) hx hb dX2_isLike_93 (by decide)) ?_
                    refine xg (g2 := F0 m 97 ls [.int (bI true)]) rfl ?_
                    refine xs (fun _ => lv_istore (i := 6) (lv' := [(6, .int (bI true)), (7, .int (nI k)), (0, .ref mb), (1, .int (nI i)), (2, .int s1), (3, .int a1), (4, .int b1), (5, .int c1)]) hx hb dX2_isLike_97 hl (by decide) (rfl)) (fun ls hl => ?_)
                    refine xs (fun _ => lv_iinc (v := (nI (k + 1))) (lv' := [(7, .int (nI (k + 1))), (6, .int (bI true)), (0, .ref mb), (1, .int (nI i)), (2, .int s1), (3, .int a1), (4, .int b1), (5, .int c1)]) hx hb dX2_isLike_99 hl (k := 1) rfl (nI_1 k) (by decide) (rfl)) (fun ls hl => ?_)
                    refine xl (fun _ => lv_goto (tgt := 52) hx hb dX2_isLike_102 (by decide)) ?_
                    exact ih (k + 1) true (by omega) (by omega) (⟨fun _ => ⟨(hsm.mp c_61).1, fun e7 q hq => by by_cases e : q = k; (rw [e]; exact c_89); exact (hsm.mp c_61).2 e7 q (by omega)⟩, fun _ => rfl⟩) ls (lv_sub hl [0, 1, 2, 3, 4, 5, 6, 7] rfl)
        exact hloop 9 0 false (by decide) (by decide) (⟨(fun z => by cases z), fun z => absurd z.1.2.2.1 c_28⟩) ls (lv_sub hl [0, 1, 2, 3, 4, 5, 6, 7] rfl)
      · refine xl (fun _ => lv_aload_n hx hb dX2_isLike_31 rfl (lv_at hl 0 rfl)) ?_
        refine x_get (ci := 2) hx hb hts hown hK wiX2 hX rfl 4 (by decide) wFX2_19 rfl rfl dX2_isLike_32 ?_
        refine xl (fun _ => lv_iload_n hx hb dX2_isLike_35 rfl (lv_at hl 1 rfl)) ?_
        refine x_iald hx hb hK h4 i (rfl) (by omega) (by decide) dX2_isLike_36 ?_
        refine xl (fun _ => lv_iload hx hb dX2_isLike_37 (lv_at hl 5 rfl)) ?_
        refine xb (fun _ => lv_icmp_ne (tgt := 46) hx hb dX2_isLike_39 (by decide)) (fun c_39 => ?_) (fun c_39 => ?_)
        · refine xl (fun _ => lv_iconst (v := 0) hx hb dX2_isLike_46 (by decide)) ?_
          refine xg (g2 := F0 m 47 ls [.int (bI false)]) rfl ?_
          refine xs (fun _ => lv_istore (i := 6) (lv' := [(6, .int (bI false)), (0, .ref mb), (1, .int (nI i)), (2, .int s1), (3, .int a1), (4, .int b1), (5, .int c1)]) hx hb dX2_isLike_47 hl (by decide) (rfl)) (fun ls hl => ?_)
          refine xl (fun _ => lv_iconst (v := 0) hx hb dX2_isLike_49 (by decide)) ?_
          refine xs (fun _ => lv_istore (i := 7) (lv' := [(7, .int 0), (6, .int (bI false)), (0, .ref mb), (1, .int (nI i)), (2, .int s1), (3, .int a1), (4, .int b1), (5, .int c1)]) hx hb dX2_isLike_50 hl (by decide) (rfl)) (fun ls hl => ?_)
          have hloop : ∀ (d : Nat) (k : Nat) (sm : Bool), k ≤ 8 → 8 < k + d → (sm = true ↔ (so i = s1 ∧ on i = a1 ∧ tw i = b1 ∧ th i = c1) ∧ (s1 = 7 → ∀ q, q < k → ce (8 * i + q) = li q)) → ∀ (ls : Array Slot), lv_has ls 8 [(7, .int (nI k)), (6, .int (bI sm)), (0, .ref mb), (1, .int (nI i)), (2, .int s1), (3, .int a1), (4, .int b1), (5, .int c1)] → xV p l e (xR 0 0 0) s m args below meth c G H 0 0 (MQ below (xQ G H (xPu (.int (bI B)) H)) args s 0 0 (sg_fr G)) (F0 m 52 ls []) := by
            intro d
            induction d with
            | zero =>
              intro k sm h1 h2
              exact absurd h2 (by omega)
            | succ d ih =>
              intro k sm hk hd hsm ls hl
              refine xl (fun _ => lv_iload hx hb dX2_isLike_52 (lv_at hl 0 rfl)) ?_
              refine xl (fun _ => lv_bipush (v := 8) hx hb dX2_isLike_54 (by decide)) ?_
              refine xb (fun _ => lv_icmp_ge (tgt := 105) hx hb dX2_isLike_56 (by decide)) (fun c_56 => ?_) (fun c_56 => ?_)
              · have e8k : k = 8 := by have := nI_le4 (n := 8) (by omega) (by decide) c_56; omega
                refine xl (fun _ => lv_iload hx hb dX2_isLike_105 (lv_at hl 1 rfl)) ?_
                exact x_zret hx hb hr hlocks hs0 hbs (bI_and _) (by decide) (by decide) dX2_isLike_107 (⟨by rw [show sm = B from bool_eq (hsm.trans (by rw [hB, e8k]; exact and_assoc5.symm))], rfl⟩)
              · have hk8 : k < 8 := nI_nle4 (n := 8) (by omega) (by decide) c_56
                refine xl (fun _ => lv_iload hx hb dX2_isLike_59 (lv_at hl 1 rfl)) ?_
                refine xb (fun _ => lv_if_eq (tgt := 105) hx hb dX2_isLike_61 (by decide)) (fun c_61 => ?_) (fun c_61 => ?_)
                · have c_61 := bI_f c_61
                  refine xl (fun _ => lv_iload hx hb dX2_isLike_105 (lv_at hl 1 rfl)) ?_
                  exact x_zret hx hb hr hlocks hs0 hbs (bI_and _) (by decide) (by decide) dX2_isLike_107 (⟨by rw [show sm = B from bool_eq ⟨(fun z => by rw [c_61] at z; cases z), fun z => by have q := hB.mp z; exact absurd (hsm.mpr ⟨⟨q.1, q.2.1, q.2.2.1, q.2.2.2.1⟩, fun e7 x hx => q.2.2.2.2 e7 x (by omega)⟩) (by rw [c_61]; decide)⟩], rfl⟩)
                · have c_61 := bI_t c_61
                  refine xl (fun _ => lv_iload_n hx hb dX2_isLike_64 rfl (lv_at hl 4 rfl)) ?_
                  refine xl (fun _ => lv_bipush (v := 7) hx hb dX2_isLike_65 (by decide)) ?_
                  refine xb (fun _ => lv_icmp_ne (tgt := 92) hx hb dX2_isLike_67 (by decide)) (fun c_67 => ?_) (fun c_67 => ?_)
                  · refine xl (fun _ => lv_iconst (v := 1) hx hb dX2_isLike_92 (by decide)) ?_
                    refine xl (fun _ => lv_goto (tgt := 97) hx hb dX2_isLike_93 (by decide)) ?_
                    refine xg (g2 := F0 m 97 ls [.int (bI true)]) rfl ?_
                    refine xs (fun _ => lv_istore (i := 6) (lv' := [(6, .int (bI true)), (7, .int (nI k)), (0, .ref mb), (1, .int (nI i)), (2, .int s1), (3, .int a1), (4, .int b1), (5, .int c1)]) hx hb dX2_isLike_97 hl (by decide) (rfl)) (fun ls hl => ?_)
                    refine xs (fun _ => lv_iinc (v := (nI (k + 1))) (lv' := [(7, .int (nI (k + 1))), (6, .int (bI true)), (0, .ref mb), (1, .int (nI i)), (2, .int s1), (3, .int a1), (4, .int b1), (5, .int c1)]) hx hb dX2_isLike_99 hl (k := 1) rfl (nI_1 k) (by decide) (rfl)) (fun ls hl => ?_)
                    refine xl (fun _ => lv_goto (tgt := 52) hx hb dX2_isLike_102 (by decide)) ?_
                    exact ih (k + 1) true (by omega) (by omega) (⟨fun _ => ⟨(hsm.mp c_61).1, fun e7 => absurd e7 c_67⟩, fun _ => rfl⟩) ls (lv_sub hl [0, 1, 2, 3, 4, 5, 6, 7] rfl)
                  · refine xl (fun _ => lv_aload_n hx hb dX2_isLike_70 rfl (lv_at hl 2 rfl)) ?_
                    refine x_get (ci := 2) hx hb hts hown hK wiX2 hX rfl 5 (by decide) wFX2_22 rfl rfl dX2_isLike_71 ?_
                    refine xl (fun _ => lv_bipush (v := 8) hx hb dX2_isLike_74 (by decide)) ?_
                    refine xl (fun _ => lv_iload_n hx hb dX2_isLike_76 rfl (lv_at hl 3 rfl)) ?_
                    refine xl (fun _ => lv_imul hx hb dX2_isLike_77) ?_
                    rw [show (8 * (nI i)) = (nI (8 * i)) from pk_mul 8 i]
                    refine xl (fun _ => lv_iload hx hb dX2_isLike_78 (lv_at hl 0 rfl)) ?_
                    refine xl (fun _ => lv_iadd hx hb dX2_isLike_80) ?_
                    rw [show ((nI (8 * i)) + (nI k)) = (nI (8 * i + k)) from nI_add _ _]
                    refine x_iald hx hb hK h5 (8 * i + k) (rfl) (by omega) (by decide) dX2_isLike_81 ?_
                    refine xl (fun _ => lv_aload_n hx hb dX2_isLike_82 rfl (lv_at hl 2 rfl)) ?_
                    refine x_get (ci := 2) hx hb hts hown hK wiX2 hX rfl 8 (by decide) wFX2_32 rfl rfl dX2_isLike_83 ?_
                    refine xl (fun _ => lv_iload hx hb dX2_isLike_86 (lv_at hl 0 rfl)) ?_
                    refine x_iald hx hb hK h8 k (rfl) (by omega) (by decide) dX2_isLike_88 ?_
                    refine xb (fun _ => lv_icmp_ne (tgt := 96) hx hb dX2_isLike_89 (by decide)) (fun c_89 => ?_) (fun c_89 => ?_)
                    · refine xl (fun _ => lv_iconst (v := 0) hx hb dX2_isLike_96 (by decide)) ?_
                      refine xg (g2 := F0 m 97 ls [.int (bI false)]) rfl ?_
                      refine xs (fun _ => lv_istore (i := 6) (lv' := [(6, .int (bI false)), (7, .int (nI k)), (0, .ref mb), (1, .int (nI i)), (2, .int s1), (3, .int a1), (4, .int b1), (5, .int c1)]) hx hb dX2_isLike_97 hl (by decide) (rfl)) (fun ls hl => ?_)
                      refine xs (fun _ => lv_iinc (v := (nI (k + 1))) (lv' := [(7, .int (nI (k + 1))), (6, .int (bI false)), (0, .ref mb), (1, .int (nI i)), (2, .int s1), (3, .int a1), (4, .int b1), (5, .int c1)]) hx hb dX2_isLike_99 hl (k := 1) rfl (nI_1 k) (by decide) (rfl)) (fun ls hl => ?_)
                      refine xl (fun _ => lv_goto (tgt := 52) hx hb dX2_isLike_102 (by decide)) ?_
                      exact ih (k + 1) false (by omega) (by omega) (⟨(fun z => by cases z), fun z => absurd (z.2 c_67 k (by omega)) c_89⟩) ls (lv_sub hl [0, 1, 2, 3, 4, 5, 6, 7] rfl)
                    · refine xl (fun _ => lv_iconst (v := 1) hx hb dX2_isLike_92 (by decide)) ?_
                      refine xl (fun _ => lv_goto (tgt := 97) hx hb dX2_isLike_93 (by decide)) ?_
                      refine xg (g2 := F0 m 97 ls [.int (bI true)]) rfl ?_
                      refine xs (fun _ => lv_istore (i := 6) (lv' := [(6, .int (bI true)), (7, .int (nI k)), (0, .ref mb), (1, .int (nI i)), (2, .int s1), (3, .int a1), (4, .int b1), (5, .int c1)]) hx hb dX2_isLike_97 hl (by decide) (rfl)) (fun ls hl => ?_)
                      refine xs (fun _ => lv_iinc (v := (nI (k + 1))) (lv' := [(7, .int (nI (k + 1))), (6, .int (bI true)), (0, .ref mb), (1, .int (nI i)), (2, .int s1), (3, .int a1), (4, .int b1), (5, .int c1)]) hx hb dX2_isLike_99 hl (k := 1) rfl (nI_1 k) (by decide) (rfl)) (fun ls hl => ?_)
                      refine xl (fun _ => lv_goto (tgt := 52) hx hb dX2_isLike_102 (by decide)) ?_
                      exact ih (k + 1) true (by omega) (by omega) (⟨fun _ => ⟨(hsm.mp c_61).1, fun e7 q hq => by by_cases e : q = k; (rw [e]; exact c_89); exact (hsm.mp c_61).2 e7 q (by omega)⟩, fun _ => rfl⟩) ls (lv_sub hl [0, 1, 2, 3, 4, 5, 6, 7] rfl)
          exact hloop 9 0 false (by decide) (by decide) (⟨(fun z => by cases z), fun z => absurd z.1.2.2.2 c_39⟩) ls (lv_sub hl [0, 1, 2, 3, 4, 5, 6, 7] rfl)
        · refine xl (fun _ => lv_iconst (v := 1) hx hb dX2_isLike_42 (by decide)) ?_
          refine xl (fun _ => lv_goto (tgt := 47) hx hb dX2_isLike_43 (by decide)) ?_
          refine xg (g2 := F0 m 47 ls [.int (bI true)]) rfl ?_
          refine xs (fun _ => lv_istore (i := 6) (lv' := [(6, .int (bI true)), (0, .ref mb), (1, .int (nI i)), (2, .int s1), (3, .int a1), (4, .int b1), (5, .int c1)]) hx hb dX2_isLike_47 hl (by decide) (rfl)) (fun ls hl => ?_)
          refine xl (fun _ => lv_iconst (v := 0) hx hb dX2_isLike_49 (by decide)) ?_
          refine xs (fun _ => lv_istore (i := 7) (lv' := [(7, .int 0), (6, .int (bI true)), (0, .ref mb), (1, .int (nI i)), (2, .int s1), (3, .int a1), (4, .int b1), (5, .int c1)]) hx hb dX2_isLike_50 hl (by decide) (rfl)) (fun ls hl => ?_)
          have hloop : ∀ (d : Nat) (k : Nat) (sm : Bool), k ≤ 8 → 8 < k + d → (sm = true ↔ (so i = s1 ∧ on i = a1 ∧ tw i = b1 ∧ th i = c1) ∧ (s1 = 7 → ∀ q, q < k → ce (8 * i + q) = li q)) → ∀ (ls : Array Slot), lv_has ls 8 [(7, .int (nI k)), (6, .int (bI sm)), (0, .ref mb), (1, .int (nI i)), (2, .int s1), (3, .int a1), (4, .int b1), (5, .int c1)] → xV p l e (xR 0 0 0) s m args below meth c G H 0 0 (MQ below (xQ G H (xPu (.int (bI B)) H)) args s 0 0 (sg_fr G)) (F0 m 52 ls []) := by
            intro d
            induction d with
            | zero =>
              intro k sm h1 h2
              exact absurd h2 (by omega)
            | succ d ih =>
              intro k sm hk hd hsm ls hl
              refine xl (fun _ => lv_iload hx hb dX2_isLike_52 (lv_at hl 0 rfl)) ?_
              refine xl (fun _ => lv_bipush (v := 8) hx hb dX2_isLike_54 (by decide)) ?_
              refine xb (fun _ => lv_icmp_ge (tgt := 105) hx hb dX2_isLike_56 (by decide)) (fun c_56 => ?_) (fun c_56 => ?_)
              · have e8k : k = 8 := by have := nI_le4 (n := 8) (by omega) (by decide) c_56; omega
                refine xl (fun _ => lv_iload hx hb dX2_isLike_105 (lv_at hl 1 rfl)) ?_
                exact x_zret hx hb hr hlocks hs0 hbs (bI_and _) (by decide) (by decide) dX2_isLike_107 (⟨by rw [show sm = B from bool_eq (hsm.trans (by rw [hB, e8k]; exact and_assoc5.symm))], rfl⟩)
              · have hk8 : k < 8 := nI_nle4 (n := 8) (by omega) (by decide) c_56
                refine xl (fun _ => lv_iload hx hb dX2_isLike_59 (lv_at hl 1 rfl)) ?_
                refine xb (fun _ => lv_if_eq (tgt := 105) hx hb dX2_isLike_61 (by decide)) (fun c_61 => ?_) (fun c_61 => ?_)
                · have c_61 := bI_f c_61
                  refine xl (fun _ => lv_iload hx hb dX2_isLike_105 (lv_at hl 1 rfl)) ?_
                  exact x_zret hx hb hr hlocks hs0 hbs (bI_and _) (by decide) (by decide) dX2_isLike_107 (⟨by rw [show sm = B from bool_eq ⟨(fun z => by rw [c_61] at z; cases z), fun z => by have q := hB.mp z; exact absurd (hsm.mpr ⟨⟨q.1, q.2.1, q.2.2.1, q.2.2.2.1⟩, fun e7 x hx => q.2.2.2.2 e7 x (by omega)⟩) (by rw [c_61]; decide)⟩], rfl⟩)
                · have c_61 := bI_t c_61
                  refine xl (fun _ => lv_iload_n hx hb dX2_isLike_64 rfl (lv_at hl 4 rfl)) ?_
                  refine xl (fun _ => lv_bipush (v := 7) hx hb dX2_isLike_65 (by decide)) ?_
                  refine xb (fun _ => lv_icmp_ne (tgt := 92) hx hb dX2_isLike_67 (by decide)) (fun c_67 => ?_) (fun c_67 => ?_)
                  · refine xl (fun _ => lv_iconst (v := 1) hx hb dX2_isLike_92 (by decide)) ?_
                    refine xl (fun _ => lv_goto (tgt := 97) hx hb dX2_isLike_93 (by decide)) ?_
                    refine xg (g2 := F0 m 97 ls [.int (bI true)]) rfl ?_
                    refine xs (fun _ => lv_istore (i := 6) (lv' := [(6, .int (bI true)), (7, .int (nI k)), (0, .ref mb), (1, .int (nI i)), (2, .int s1), (3, .int a1), (4, .int b1), (5, .int c1)]) hx hb dX2_isLike_97 hl (by decide) (rfl)) (fun ls hl => ?_)
                    refine xs (fun _ => lv_iinc (v := (nI (k + 1))) (lv' := [(7, .int (nI (k + 1))), (6, .int (bI true)), (0, .ref mb), (1, .int (nI i)), (2, .int s1), (3, .int a1), (4, .int b1), (5, .int c1)]) hx hb dX2_isLike_99 hl (k := 1) rfl (nI_1 k) (by decide) (rfl)) (fun ls hl => ?_)
                    refine xl (fun _ => lv_goto (tgt := 52) hx hb dX2_isLike_102 (by decide)) ?_
                    exact ih (k + 1) true (by omega) (by omega) (⟨fun _ => ⟨(hsm.mp c_61).1, fun e7 => absurd e7 c_67⟩, fun _ => rfl⟩) ls (lv_sub hl [0, 1, 2, 3, 4, 5, 6, 7] rfl)
                  · refine xl (fun _ => lv_aload_n hx hb dX2_isLike_70 rfl (lv_at hl 2 rfl)) ?_
                    refine x_get (ci := 2) hx hb hts hown hK wiX2 hX rfl 5 (by decide) wFX2_22 rfl rfl dX2_isLike_71 ?_
                    refine xl (fun _ => lv_bipush (v := 8) hx hb dX2_isLike_74 (by decide)) ?_
                    refine xl (fun _ => lv_iload_n hx hb dX2_isLike_76 rfl (lv_at hl 3 rfl)) ?_
                    refine xl (fun _ => lv_imul hx hb dX2_isLike_77) ?_
                    rw [show (8 * (nI i)) = (nI (8 * i)) from pk_mul 8 i]
                    refine xl (fun _ => lv_iload hx hb dX2_isLike_78 (lv_at hl 0 rfl)) ?_
                    refine xl (fun _ => lv_iadd hx hb dX2_isLike_80) ?_
                    rw [show ((nI (8 * i)) + (nI k)) = (nI (8 * i + k)) from nI_add _ _]
                    refine x_iald hx hb hK h5 (8 * i + k) (rfl) (by omega) (by decide) dX2_isLike_81 ?_
                    refine xl (fun _ => lv_aload_n hx hb dX2_isLike_82 rfl (lv_at hl 2 rfl)) ?_
                    refine x_get (ci := 2) hx hb hts hown hK wiX2 hX rfl 8 (by decide) wFX2_32 rfl rfl dX2_isLike_83 ?_
                    refine xl (fun _ => lv_iload hx hb dX2_isLike_86 (lv_at hl 0 rfl)) ?_
                    refine x_iald hx hb hK h8 k (rfl) (by omega) (by decide) dX2_isLike_88 ?_
                    refine xb (fun _ => lv_icmp_ne (tgt := 96) hx hb dX2_isLike_89 (by decide)) (fun c_89 => ?_) (fun c_89 => ?_)
                    · refine xl (fun _ => lv_iconst (v := 0) hx hb dX2_isLike_96 (by decide)) ?_
                      refine xg (g2 := F0 m 97 ls [.int (bI false)]) rfl ?_
                      refine xs (fun _ => lv_istore (i := 6) (lv' := [(6, .int (bI false)), (7, .int (nI k)), (0, .ref mb), (1, .int (nI i)), (2, .int s1), (3, .int a1), (4, .int b1), (5, .int c1)]) hx hb dX2_isLike_97 hl (by decide) (rfl)) (fun ls hl => ?_)
                      refine xs (fun _ => lv_iinc (v := (nI (k + 1))) (lv' := [(7, .int (nI (k + 1))), (6, .int (bI false)), (0, .ref mb), (1, .int (nI i)), (2, .int s1), (3, .int a1), (4, .int b1), (5, .int c1)]) hx hb dX2_isLike_99 hl (k := 1) rfl (nI_1 k) (by decide) (rfl)) (fun ls hl => ?_)
                      refine xl (fun _ => lv_goto (tgt := 52) hx hb dX2_isLike_102 (by decide)) ?_
                      exact ih (k + 1) false (by omega) (by omega) (⟨(fun z => by cases z), fun z => absurd (z.2 c_67 k (by omega)) c_89⟩) ls (lv_sub hl [0, 1, 2, 3, 4, 5, 6, 7] rfl)
                    · refine xl (fun _ => lv_iconst (v := 1) hx hb dX2_isLike_92 (by decide)) ?_
                      refine xl (fun _ => lv_goto (tgt := 97) hx hb dX2_isLike_93 (by decide)) ?_
                      refine xg (g2 := F0 m 97 ls [.int (bI true)]) rfl ?_
                      refine xs (fun _ => lv_istore (i := 6) (lv' := [(6, .int (bI true)), (7, .int (nI k)), (0, .ref mb), (1, .int (nI i)), (2, .int s1), (3, .int a1), (4, .int b1), (5, .int c1)]) hx hb dX2_isLike_97 hl (by decide) (rfl)) (fun ls hl => ?_)
                      refine xs (fun _ => lv_iinc (v := (nI (k + 1))) (lv' := [(7, .int (nI (k + 1))), (6, .int (bI true)), (0, .ref mb), (1, .int (nI i)), (2, .int s1), (3, .int a1), (4, .int b1), (5, .int c1)]) hx hb dX2_isLike_99 hl (k := 1) rfl (nI_1 k) (by decide) (rfl)) (fun ls hl => ?_)
                      refine xl (fun _ => lv_goto (tgt := 52) hx hb dX2_isLike_102 (by decide)) ?_
                      exact ih (k + 1) true (by omega) (by omega) (⟨fun _ => ⟨(hsm.mp c_61).1, fun e7 q hq => by by_cases e : q = k; (rw [e]; exact c_89); exact (hsm.mp c_61).2 e7 q (by omega)⟩, fun _ => rfl⟩) ls (lv_sub hl [0, 1, 2, 3, 4, 5, 6, 7] rfl)
          exact hloop 9 0 true (by decide) (by decide) (⟨fun _ => ⟨⟨c_7, c_17, c_28, c_39⟩, fun _ q hq => absurd hq (Nat.not_lt_zero q)⟩, fun _ => rfl⟩) ls (lv_sub hl [0, 1, 2, 3, 4, 5, 6, 7] rfl)
