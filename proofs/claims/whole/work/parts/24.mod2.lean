set_option maxHeartbeats 4000000 in
set_option maxRecDepth 100000 in
theorem c_X2_put (l : Launch) (G : sg_G) (H : Heap) (mb n : Nat) (so on tw th ce gi kn li re : Nat → Int32) (sec : Int32) (hM : sm_X G mb n so on tw th ce gi kn li re sec H) (t : Nat → sp_T) (rg : Nat → Option Nat) (hR : sm_R n t rg so on tw th ce re) (g : Nat → Prop) (dd : sp_T) (hwd : sp_wf t n dd) (rr : Nat) (hrr : rr < 64) (s1 a1 b1 c1 : Int32) (hs : s1 = sp_so dd) (ha : ¬ sp_so dd = 1 → a1 = e1 dd) (hb1 : b1 = e2 dd) (hc1 : c1 = e3 dd) (hli : sp_so dd = 7 → ∀ k, k < 8 → li k = e8 dd k) (ns : Nat) (hQ : sm_Q n t ns on) (h1s : sp_so dd = 1 → (a1 = nI ns ∧ 1 ≤ ns) ∧ ∀ i, i < n → sp_so (t i) = 1 → ¬ on i = a1) (hn1 : n < 512) : xC l G yX2_put cX2_put 8 (some FieldType.int) 1 0 0 [.ref mb, .int (nI rr), .int s1, .int a1, .int b1, .int c1] H (fun ans H' => ans = some (.int 1) ∧ (∃ so' on' tw' th' ce' re', sm_X G mb (sp_mkS (n, t, rg, g) rr dd).1 so' on' tw' th' ce' gi kn li re' sec H' ∧ sm_R (sp_mkS (n, t, rg, g) rr dd).1 (sp_mkS (n, t, rg, g) rr dd).2.1 (sp_mkS (n, t, rg, g) rr dd).2.2.1 so' on' tw' th' ce' re' ∧ sm_Q (sp_mkS (n, t, rg, g) rr dd).1 (sp_mkS (n, t, rg, g) rr dd).2.1 ns on') ∧ sm_F mb H H') := by
  refine xC.start (by decide) (Nat.le_of_ble_eq_true rfl) ?_
  intro p e s m args below meth c ls E hnm hs0 hl
  obtain ⟨hx, hb, hml, hown, hts, hr, hlocks, hK, hbs⟩ := id E
  have hl : lv_has ls 8 [(0, .ref mb), (1, .int (nI rr)), (2, .int s1), (3, .int a1), (4, .int b1), (5, .int c1)] := hl
  obtain ⟨hm0, hmn, hX, h1, h2, h3, h4, h5, h6, h7, h8, h9⟩ := id hM
  obtain ⟨hRt, hRr, hRg, hRw⟩ := id hR
  have hF : sm_F mb H H := sm_F.rf
  refine xl (fun _ => lv_iconst (v := 0) hx hb dX2_put_0 (by decide)) ?_
  refine xs (fun _ => lv_istore (i := 6) (lv' := [(6, .int 0), (0, .ref mb), (1, .int (nI rr)), (2, .int s1), (3, .int a1), (4, .int b1), (5, .int c1)]) hx hb dX2_put_1 hl (by decide) (rfl)) (fun ls hl => ?_)
  have hlook : ∀ (d : Nat) (i : Nat), i ≤ n → n < i + d → sp_fd (fun i => sp_al (t i) dd) i = none → ∀ (ls : Array Slot), lv_has ls 8 [(6, .int (nI i)), (0, .ref mb), (1, .int (nI rr)), (2, .int s1), (3, .int a1), (4, .int b1), (5, .int c1)] → xV p l e (xR 1 0 0) s m args below meth c G H 0 0 (MQ below (xQ G H (fun ans H' => ans = some (.int 1) ∧ (∃ so' on' tw' th' ce' re', sm_X G mb (sp_mkS (n, t, rg, g) rr dd).1 so' on' tw' th' ce' gi kn li re' sec H' ∧ sm_R (sp_mkS (n, t, rg, g) rr dd).1 (sp_mkS (n, t, rg, g) rr dd).2.1 (sp_mkS (n, t, rg, g) rr dd).2.2.1 so' on' tw' th' ce' re' ∧ sm_Q (sp_mkS (n, t, rg, g) rr dd).1 (sp_mkS (n, t, rg, g) rr dd).2.1 ns on') ∧ sm_F mb H H')) args s 0 0 (sg_fr G)) (F0 m 3 ls []) := by
    intro d
    induction d with
    | zero =>
      intro i h1 h2
      exact absurd h2 (by omega)
    | succ d ih =>
      intro i hi hd hf ls hl
      refine xl (fun _ => lv_iload hx hb dX2_put_3 (lv_at hl 0 rfl)) ?_
      refine xl (fun _ => lv_aload_n hx hb dX2_put_5 rfl (lv_at hl 1 rfl)) ?_
      refine x_get (ci := 2) hx hb hts hown hK wiX2 hX rfl 0 (by decide) wFX2_38 rfl rfl dX2_put_6 ?_
      refine xb (fun _ => lv_icmp_ge (tgt := 33) hx hb dX2_put_9 (by decide)) (fun c_9 => ?_) (fun c_9 => ?_)
      · have ein : i = n := by have := nI_le4 (by omega) (by omega) c_9; omega
        rw [ein] at hf hl
        have hl : lv_has ls 8 [(6, .int (nI n)), (0, .ref mb), (1, .int (nI rr)), (2, .int s1), (3, .int a1), (4, .int b1), (5, .int c1)] := hl
        refine xl (fun _ => lv_iload hx hb dX2_put_33 (lv_at hl 0 rfl)) ?_
        refine xl (fun _ => lv_aload_n hx hb dX2_put_35 rfl (lv_at hl 1 rfl)) ?_
        refine x_get (ci := 2) hx hb hts hown hK wiX2 hX rfl 0 (by decide) wFX2_38 rfl rfl dX2_put_36 ?_
        refine xb (fun _ => lv_icmp_ne (tgt := 132) hx hb dX2_put_39 (by decide)) (fun c_39 => ?_) (fun c_39 => ?_)
        · exact absurd rfl c_39
        · refine xl (fun _ => lv_aload_n hx hb dX2_put_42 rfl (lv_at hl 1 rfl)) ?_
          refine x_get (ci := 2) hx hb hts hown hK wiX2 hX rfl 1 (by decide) wFX2_9 rfl rfl dX2_put_43 ?_
          refine xl (fun _ => lv_iload hx hb dX2_put_46 (lv_at hl 0 rfl)) ?_
          refine xl (fun _ => lv_iload_n hx hb dX2_put_48 rfl (lv_at hl 3 rfl)) ?_
          refine x_iast hx hb hK h1 n (rfl) (by omega) (by decide) (by omega) dX2_put_49 (fun H_1 ho_2 hz_3 hq_4 => ?_)
          have ho_2 : ia_ G H_1 (mb + 1) 640 (upd so n s1) := ho_2
          have k_5 := va_at.kept (H1 := H_1) (hX) (hq_4 _ (by omega))
          have k_6 := va_at.kept (H1 := H_1) (h2) (hq_4 _ (by omega))
          have k_7 := va_at.kept (H1 := H_1) (h3) (hq_4 _ (by omega))
          have k_8 := va_at.kept (H1 := H_1) (h4) (hq_4 _ (by omega))
          have k_9 := va_at.kept (H1 := H_1) (h5) (hq_4 _ (by omega))
          have k_10 := va_at.kept (H1 := H_1) (h6) (hq_4 _ (by omega))
          have k_11 := va_at.kept (H1 := H_1) (h7) (hq_4 _ (by omega))
          have k_12 := va_at.kept (H1 := H_1) (h8) (hq_4 _ (by omega))
          have k_13 := va_at.kept (H1 := H_1) (h9) (hq_4 _ (by omega))
          have hF : sm_F mb H H_1 := hF.put (a := (mb + 1)) hz_3 hq_4 ⟨by omega, by omega⟩
          refine xl (fun _ => lv_aload_n hx hb dX2_put_50 rfl (lv_at hl 1 rfl)) ?_
          refine x_get (ci := 2) hx hb hts hown hK wiX2 k_5 rfl 2 (by decide) wFX2_13 rfl rfl dX2_put_51 ?_
          refine xl (fun _ => lv_iload hx hb dX2_put_54 (lv_at hl 0 rfl)) ?_
          refine xl (fun _ => lv_iload_n hx hb dX2_put_56 rfl (lv_at hl 4 rfl)) ?_
          refine x_iast hx hb hK k_6 n (rfl) (by omega) (by decide) (by omega) dX2_put_57 (fun H_14 ho_15 hz_16 hq_17 => ?_)
          have ho_15 : ia_ G H_14 (mb + 2) 640 (upd on n a1) := ho_15
          have k_18 := va_at.kept (H1 := H_14) (k_5) (hq_17 _ (by omega))
          have k_19 := va_at.kept (H1 := H_14) (ho_2) (hq_17 _ (by omega))
          have k_20 := va_at.kept (H1 := H_14) (k_7) (hq_17 _ (by omega))
          have k_21 := va_at.kept (H1 := H_14) (k_8) (hq_17 _ (by omega))
          have k_22 := va_at.kept (H1 := H_14) (k_9) (hq_17 _ (by omega))
          have k_23 := va_at.kept (H1 := H_14) (k_10) (hq_17 _ (by omega))
          have k_24 := va_at.kept (H1 := H_14) (k_11) (hq_17 _ (by omega))
          have k_25 := va_at.kept (H1 := H_14) (k_12) (hq_17 _ (by omega))
          have k_26 := va_at.kept (H1 := H_14) (k_13) (hq_17 _ (by omega))
          have hF : sm_F mb H H_14 := hF.put (a := (mb + 2)) hz_16 hq_17 ⟨by omega, by omega⟩
          refine xl (fun _ => lv_aload_n hx hb dX2_put_58 rfl (lv_at hl 1 rfl)) ?_
          refine x_get (ci := 2) hx hb hts hown hK wiX2 k_18 rfl 3 (by decide) wFX2_16 rfl rfl dX2_put_59 ?_
          refine xl (fun _ => lv_iload hx hb dX2_put_62 (lv_at hl 0 rfl)) ?_
          refine xl (fun _ => lv_iload hx hb dX2_put_64 (lv_at hl 5 rfl)) ?_
          refine x_iast hx hb hK k_20 n (rfl) (by omega) (by decide) (by omega) dX2_put_66 (fun H_27 ho_28 hz_29 hq_30 => ?_)
          have ho_28 : ia_ G H_27 (mb + 3) 640 (upd tw n b1) := ho_28
          have k_31 := va_at.kept (H1 := H_27) (k_18) (hq_30 _ (by omega))
          have k_32 := va_at.kept (H1 := H_27) (k_19) (hq_30 _ (by omega))
          have k_33 := va_at.kept (H1 := H_27) (ho_15) (hq_30 _ (by omega))
          have k_34 := va_at.kept (H1 := H_27) (k_21) (hq_30 _ (by omega))
          have k_35 := va_at.kept (H1 := H_27) (k_22) (hq_30 _ (by omega))
          have k_36 := va_at.kept (H1 := H_27) (k_23) (hq_30 _ (by omega))
          have k_37 := va_at.kept (H1 := H_27) (k_24) (hq_30 _ (by omega))
          have k_38 := va_at.kept (H1 := H_27) (k_25) (hq_30 _ (by omega))
          have k_39 := va_at.kept (H1 := H_27) (k_26) (hq_30 _ (by omega))
          have hF : sm_F mb H H_27 := hF.put (a := (mb + 3)) hz_29 hq_30 ⟨by omega, by omega⟩
          refine xl (fun _ => lv_aload_n hx hb dX2_put_67 rfl (lv_at hl 1 rfl)) ?_
          refine x_get (ci := 2) hx hb hts hown hK wiX2 k_31 rfl 4 (by decide) wFX2_19 rfl rfl dX2_put_68 ?_
          refine xl (fun _ => lv_iload hx hb dX2_put_71 (lv_at hl 0 rfl)) ?_
          refine xl (fun _ => lv_iload hx hb dX2_put_73 (lv_at hl 6 rfl)) ?_
          refine x_iast hx hb hK k_34 n (rfl) (by omega) (by decide) (by omega) dX2_put_75 (fun H_40 ho_41 hz_42 hq_43 => ?_)
          have ho_41 : ia_ G H_40 (mb + 4) 640 (upd th n c1) := ho_41
          have k_44 := va_at.kept (H1 := H_40) (k_31) (hq_43 _ (by omega))
          have k_45 := va_at.kept (H1 := H_40) (k_32) (hq_43 _ (by omega))
          have k_46 := va_at.kept (H1 := H_40) (k_33) (hq_43 _ (by omega))
          have k_47 := va_at.kept (H1 := H_40) (ho_28) (hq_43 _ (by omega))
          have k_48 := va_at.kept (H1 := H_40) (k_35) (hq_43 _ (by omega))
          have k_49 := va_at.kept (H1 := H_40) (k_36) (hq_43 _ (by omega))
          have k_50 := va_at.kept (H1 := H_40) (k_37) (hq_43 _ (by omega))
          have k_51 := va_at.kept (H1 := H_40) (k_38) (hq_43 _ (by omega))
          have k_52 := va_at.kept (H1 := H_40) (k_39) (hq_43 _ (by omega))
          have hF : sm_F mb H H_40 := hF.put (a := (mb + 4)) hz_42 hq_43 ⟨by omega, by omega⟩
          refine xl (fun _ => lv_iconst (v := 0) hx hb dX2_put_76 (by decide)) ?_
          refine xs (fun _ => lv_istore (i := 7) (lv' := [(7, .int 0), (6, .int (nI n)), (0, .ref mb), (1, .int (nI rr)), (2, .int s1), (3, .int a1), (4, .int b1), (5, .int c1)]) hx hb dX2_put_77 hl (by decide) (rfl)) (fun ls hl => ?_)
          have hfill : ∀ (d : Nat) (k : Nat) (Hk : Heap) (ck : Nat → Int32), k ≤ 8 → 8 < k + d → sm_X G mb n (upd so n s1) (upd on n a1) (upd tw n b1) (upd th n c1) ck gi kn li re sec Hk → (∀ x, x < 8 * n → ck x = ce x) → (∀ q, q < k → ck (8 * n + q) = e8 dd q) → sm_F mb H Hk → ∀ (ls : Array Slot), lv_has ls 8 [(7, .int (nI k)), (6, .int (nI n)), (0, .ref mb), (1, .int (nI rr)), (2, .int s1), (3, .int a1), (4, .int b1), (5, .int c1)] → xV p l e (xR 1 0 0) s m args below meth c G Hk 0 0 (MQ below (xQ G H (fun ans H' => ans = some (.int 1) ∧ (∃ so' on' tw' th' ce' re', sm_X G mb (sp_mkS (n, t, rg, g) rr dd).1 so' on' tw' th' ce' gi kn li re' sec H' ∧ sm_R (sp_mkS (n, t, rg, g) rr dd).1 (sp_mkS (n, t, rg, g) rr dd).2.1 (sp_mkS (n, t, rg, g) rr dd).2.2.1 so' on' tw' th' ce' re' ∧ sm_Q (sp_mkS (n, t, rg, g) rr dd).1 (sp_mkS (n, t, rg, g) rr dd).2.1 ns on') ∧ sm_F mb H H')) args s 0 0 (sg_fr G)) (F0 m 79 ls []) := by
            intro d
            induction d with
            | zero =>
              intro k Hk ck h1 h2
              exact absurd h2 (by omega)
            | succ d ih =>
              intro k Hk ck hk hd hMk hlow hcs hF ls hl
              obtain ⟨hm0, hmn, hX, h1, h2, h3, h4, h5, h6, h7, h8, h9⟩ := id hMk
              refine xl (fun _ => lv_iload hx hb dX2_put_79 (lv_at hl 0 rfl)) ?_
              refine xl (fun _ => lv_bipush (v := 8) hx hb dX2_put_81 (by decide)) ?_
              refine xb (fun _ => lv_icmp_ge (tgt := 122) hx hb dX2_put_83 (by decide)) (fun c_83 => ?_) (fun c_83 => ?_)
              · have e8k : k = 8 := by have := nI_le4 (n := 8) (by omega) (by decide) c_83; omega
                rw [e8k] at hcs
                refine xl (fun _ => lv_aload_n hx hb dX2_put_122 rfl (lv_at hl 2 rfl)) ?_
                refine xl (fun _ => lv_dup hx hb dX2_put_123 rfl) ?_
                refine x_get (ci := 2) hx hb hts hown hK wiX2 hX rfl 0 (by decide) wFX2_38 rfl rfl dX2_put_124 ?_
                refine xl (fun _ => lv_iconst (v := 1) hx hb dX2_put_127 (by decide)) ?_
                refine xl (fun _ => lv_iadd hx hb dX2_put_128) ?_
                rw [show ((nI n) + 1) = (nI (n + 1)) from nI_1 n]
                refine x_put (ci := 2) hx hb hts hown hK wiX2 tyX2 tyX2_ok nmX2 hX rfl 0 (by decide) wFX2_38 rfl rfl (rfl) (rfl) (by simp) (hm0) dX2_put_129 (fun H_53 ho_54 hz_55 hq_56 => ?_)
                have ho_54 : ob_ G H_53 mb 2 [.int (nI (n + 1)), .ref (mb + 1), .ref (mb + 2), .ref (mb + 3), .ref (mb + 4), .ref (mb + 5), .ref (mb + 6), .ref (mb + 7), .ref (mb + 8), .ref (mb + 9), .int sec] := ho_54
                have k_57 := va_at.kept (H1 := H_53) (h1) (hq_56 _ (by omega))
                have k_58 := va_at.kept (H1 := H_53) (h2) (hq_56 _ (by omega))
                have k_59 := va_at.kept (H1 := H_53) (h3) (hq_56 _ (by omega))
                have k_60 := va_at.kept (H1 := H_53) (h4) (hq_56 _ (by omega))
                have k_61 := va_at.kept (H1 := H_53) (h5) (hq_56 _ (by omega))
                have k_62 := va_at.kept (H1 := H_53) (h6) (hq_56 _ (by omega))
                have k_63 := va_at.kept (H1 := H_53) (h7) (hq_56 _ (by omega))
                have k_64 := va_at.kept (H1 := H_53) (h8) (hq_56 _ (by omega))
                have k_65 := va_at.kept (H1 := H_53) (h9) (hq_56 _ (by omega))
                have hF : sm_F mb H H_53 := hF.put (a := mb) hz_55 hq_56 ⟨by omega, by omega⟩
                refine xl (fun _ => lv_aload_n hx hb dX2_put_132 rfl (lv_at hl 2 rfl)) ?_
                refine x_get (ci := 2) hx hb hts hown hK wiX2 ho_54 rfl 9 (by decide) wFX2_35 rfl rfl dX2_put_133 ?_
                refine xl (fun _ => lv_iload_n hx hb dX2_put_136 rfl (lv_at hl 3 rfl)) ?_
                refine xl (fun _ => lv_iload hx hb dX2_put_137 (lv_at hl 1 rfl)) ?_
                refine xl (fun _ => lv_iconst (v := 1) hx hb dX2_put_139 (by decide)) ?_
                refine xl (fun _ => lv_iadd hx hb dX2_put_140) ?_
                rw [show ((nI n) + 1) = (nI (n + 1)) from nI_1 n]
                refine x_iast hx hb hK k_65 rr (rfl) (by omega) (by decide) (by omega) dX2_put_141 (fun H_66 ho_67 hz_68 hq_69 => ?_)
                have ho_67 : ia_ G H_66 (mb + 9) 64 (upd re rr (nI (n + 1))) := ho_67
                have k_70 := va_at.kept (H1 := H_66) (ho_54) (hq_69 _ (by omega))
                have k_71 := va_at.kept (H1 := H_66) (k_57) (hq_69 _ (by omega))
                have k_72 := va_at.kept (H1 := H_66) (k_58) (hq_69 _ (by omega))
                have k_73 := va_at.kept (H1 := H_66) (k_59) (hq_69 _ (by omega))
                have k_74 := va_at.kept (H1 := H_66) (k_60) (hq_69 _ (by omega))
                have k_75 := va_at.kept (H1 := H_66) (k_61) (hq_69 _ (by omega))
                have k_76 := va_at.kept (H1 := H_66) (k_62) (hq_69 _ (by omega))
                have k_77 := va_at.kept (H1 := H_66) (k_63) (hq_69 _ (by omega))
                have k_78 := va_at.kept (H1 := H_66) (k_64) (hq_69 _ (by omega))
                have hF : sm_F mb H H_66 := hF.put (a := (mb + 9)) hz_68 hq_69 ⟨by omega, by omega⟩
                refine xl (fun _ => lv_iconst (v := 1) hx hb dX2_put_142 (by decide)) ?_
                exact x_iret hx hb hr hlocks hs0 hbs (by decide) (by decide) dX2_put_143 (⟨rfl, by rw [mkS_new hf]; exact ⟨_, _, _, _, _, _, ⟨hm0, (by omega), k_70, k_71, k_72, k_73, k_74, k_75, k_76, k_77, k_78, ho_67⟩, sm_R_new hR hwd hs ha hb1 hc1 hlow hcs, sm_Q_new hQ (fun z => (h1s z).1)⟩, hF⟩)
              · have hk8 : k < 8 := nI_nle4 (n := 8) (by omega) (by decide) c_83
                refine xl (fun _ => lv_aload_n hx hb dX2_put_86 rfl (lv_at hl 2 rfl)) ?_
                refine x_get (ci := 2) hx hb hts hown hK wiX2 hX rfl 5 (by decide) wFX2_22 rfl rfl dX2_put_87 ?_
                refine xl (fun _ => lv_bipush (v := 8) hx hb dX2_put_90 (by decide)) ?_
                refine xl (fun _ => lv_iload hx hb dX2_put_92 (lv_at hl 1 rfl)) ?_
                refine xl (fun _ => lv_imul hx hb dX2_put_94) ?_
                rw [show (8 * (nI n)) = (nI (8 * n)) from pk_mul 8 n]
                refine xl (fun _ => lv_iload hx hb dX2_put_95 (lv_at hl 0 rfl)) ?_
                refine xl (fun _ => lv_iadd hx hb dX2_put_97) ?_
                rw [show ((nI (8 * n)) + (nI k)) = (nI (8 * n + k)) from nI_add _ _]
                refine xl (fun _ => lv_iload_n hx hb dX2_put_98 rfl (lv_at hl 4 rfl)) ?_
                refine xl (fun _ => lv_bipush (v := 7) hx hb dX2_put_99 (by decide)) ?_
                refine xb (fun _ => lv_icmp_ne (tgt := 114) hx hb dX2_put_101 (by decide)) (fun c_101 => ?_) (fun c_101 => ?_)
                · refine xl (fun _ => lv_iconst (v := 0) hx hb dX2_put_114 (by decide)) ?_
                  refine x_iast hx hb hK h5 (8 * n + k) (rfl) (by omega) (by decide) (by omega) dX2_put_115 (fun H_79 ho_80 hz_81 hq_82 => ?_)
                  have ho_80 : ia_ G H_79 (mb + 5) 5120 (upd ck (8 * n + k) 0) := ho_80
                  have k_83 := va_at.kept (H1 := H_79) (hX) (hq_82 _ (by omega))
                  have k_84 := va_at.kept (H1 := H_79) (h1) (hq_82 _ (by omega))
                  have k_85 := va_at.kept (H1 := H_79) (h2) (hq_82 _ (by omega))
                  have k_86 := va_at.kept (H1 := H_79) (h3) (hq_82 _ (by omega))
                  have k_87 := va_at.kept (H1 := H_79) (h4) (hq_82 _ (by omega))
                  have k_88 := va_at.kept (H1 := H_79) (h6) (hq_82 _ (by omega))
                  have k_89 := va_at.kept (H1 := H_79) (h7) (hq_82 _ (by omega))
                  have k_90 := va_at.kept (H1 := H_79) (h8) (hq_82 _ (by omega))
                  have k_91 := va_at.kept (H1 := H_79) (h9) (hq_82 _ (by omega))
                  have hF : sm_F mb H H_79 := hF.put (a := (mb + 5)) hz_81 hq_82 ⟨by omega, by omega⟩
                  refine xs (fun _ => lv_iinc (v := (nI (k + 1))) (lv' := [(7, .int (nI (k + 1))), (6, .int (nI n)), (0, .ref mb), (1, .int (nI rr)), (2, .int s1), (3, .int a1), (4, .int b1), (5, .int c1)]) hx hb dX2_put_116 hl (k := 0) rfl (nI_1 k) (by decide) (rfl)) (fun ls hl => ?_)
                  refine xl (fun _ => lv_goto (tgt := 79) hx hb dX2_put_119 (by decide)) ?_
                  exact ih (k + 1) _ _ (by omega) (by omega) ⟨hm0, hmn, k_83, k_84, k_85, k_86, k_87, ho_80, k_88, k_89, k_90, k_91⟩ (fun x hx => by rw [pk_un (by omega)]; exact hlow x hx) (fun q hq => by by_cases e : q = k; (subst e; rw [pk_us]; exact (e8_0 (fun z => c_101 (hs.trans z)) q).symm); (rw [pk_un (by omega)]; exact hcs q (by omega))) hF ls (lv_sub hl [0, 1, 2, 3, 4, 5, 6, 7] rfl)
                · refine xl (fun _ => lv_aload_n hx hb dX2_put_104 rfl (lv_at hl 2 rfl)) ?_
                  refine x_get (ci := 2) hx hb hts hown hK wiX2 hX rfl 8 (by decide) wFX2_32 rfl rfl dX2_put_105 ?_
                  refine xl (fun _ => lv_iload hx hb dX2_put_108 (lv_at hl 0 rfl)) ?_
                  refine x_iald hx hb hK h8 k (rfl) (by omega) (by decide) dX2_put_110 ?_
                  refine xl (fun _ => lv_goto (tgt := 115) hx hb dX2_put_111 (by decide)) ?_
                  refine x_iast hx hb hK h5 (8 * n + k) (rfl) (by omega) (by decide) (by omega) dX2_put_115 (fun H_92 ho_93 hz_94 hq_95 => ?_)
                  have ho_93 : ia_ G H_92 (mb + 5) 5120 (upd ck (8 * n + k) (li k)) := ho_93
                  have k_96 := va_at.kept (H1 := H_92) (hX) (hq_95 _ (by omega))
                  have k_97 := va_at.kept (H1 := H_92) (h1) (hq_95 _ (by omega))
                  have k_98 := va_at.kept (H1 := H_92) (h2) (hq_95 _ (by omega))
                  have k_99 := va_at.kept (H1 := H_92) (h3) (hq_95 _ (by omega))
                  have k_100 := va_at.kept (H1 := H_92) (h4) (hq_95 _ (by omega))
                  have k_101 := va_at.kept (H1 := H_92) (h6) (hq_95 _ (by omega))
                  have k_102 := va_at.kept (H1 := H_92) (h7) (hq_95 _ (by omega))
                  have k_103 := va_at.kept (H1 := H_92) (h8) (hq_95 _ (by omega))
                  have k_104 := va_at.kept (H1 := H_92) (h9) (hq_95 _ (by omega))
                  have hF : sm_F mb H H_92 := hF.put (a := (mb + 5)) hz_94 hq_95 ⟨by omega, by omega⟩
                  refine xs (fun _ => lv_iinc (v := (nI (k + 1))) (lv' := [(7, .int (nI (k + 1))), (6, .int (nI n)), (0, .ref mb), (1, .int (nI rr)), (2, .int s1), (3, .int a1), (4, .int b1), (5, .int c1)]) hx hb dX2_put_116 hl (k := 0) rfl (nI_1 k) (by decide) (rfl)) (fun ls hl => ?_)
                  refine xl (fun _ => lv_goto (tgt := 79) hx hb dX2_put_119 (by decide)) ?_
                  exact ih (k + 1) _ _ (by omega) (by omega) ⟨hm0, hmn, k_96, k_97, k_98, k_99, k_100, ho_93, k_101, k_102, k_103, k_104⟩ (fun x hx => by rw [pk_un (by omega)]; exact hlow x hx) (fun q hq => by by_cases e : q = k; (subst e; rw [pk_us]; exact hli (hs.symm.trans c_101) q hk8); (rw [pk_un (by omega)]; exact hcs q (by omega))) hF ls (lv_sub hl [0, 1, 2, 3, 4, 5, 6, 7] rfl)
          exact hfill 9 0 _ ce (by decide) (by decide) ⟨hm0, hmn, k_44, k_45, k_46, k_47, ho_41, k_48, k_49, k_50, k_51, k_52⟩ (fun _ _ => rfl) (fun q hq => absurd hq (Nat.not_lt_zero q)) hF ls (lv_sub hl [0, 1, 2, 3, 4, 5, 6, 7] rfl)
      · have hin : i < n := nI_nle4 (by omega) (by omega) c_9
        refine xl (fun _ => lv_aload_n hx hb dX2_put_12 rfl (lv_at hl 1 rfl)) ?_
        refine xl (fun _ => lv_iload hx hb dX2_put_13 (lv_at hl 0 rfl)) ?_
        refine xl (fun _ => lv_iload_n hx hb dX2_put_15 rfl (lv_at hl 3 rfl)) ?_
        refine xl (fun _ => lv_iload_n hx hb dX2_put_16 rfl (lv_at hl 4 rfl)) ?_
        refine xl (fun _ => lv_iload hx hb dX2_put_17 (lv_at hl 5 rfl)) ?_
        refine xl (fun _ => lv_iload hx hb dX2_put_19 (lv_at hl 6 rfl)) ?_
        refine x_callV E hl (c_X2_isLike l G H mb n so on tw th ce gi kn li re sec hM i (by omega) s1 a1 b1 c1 (sp_al (t i) dd) (put_lk hmn hR hwd hs ha hb1 hc1 hli (fun z => (h1s z).2) hin)) xm_yX2_isLike wMX2_42 wI_yX2_isLike wT_yX2_isLike (ci := 2) rfl rfl hX (rest := []) rfl (by decide) (by decide) ⟨by decide, by decide⟩ dX2_put_21 (x_pure (r := .int (bI (sp_al (t i) dd))) (st1 := []) ?_)
        refine xb (fun _ => lv_if_ne (tgt := 33) hx hb dX2_put_24 (by decide)) (fun c_24 => ?_) (fun c_24 => ?_)
        · have c_24 := bI_t c_24
          refine xl (fun _ => lv_iload hx hb dX2_put_33 (lv_at hl 0 rfl)) ?_
          refine xl (fun _ => lv_aload_n hx hb dX2_put_35 rfl (lv_at hl 1 rfl)) ?_
          refine x_get (ci := 2) hx hb hts hown hK wiX2 hX rfl 0 (by decide) wFX2_38 rfl rfl dX2_put_36 ?_
          refine xb (fun _ => lv_icmp_ne (tgt := 132) hx hb dX2_put_39 (by decide)) (fun c_39 => ?_) (fun c_39 => ?_)
          · refine xl (fun _ => lv_aload_n hx hb dX2_put_132 rfl (lv_at hl 1 rfl)) ?_
            refine x_get (ci := 2) hx hb hts hown hK wiX2 hX rfl 9 (by decide) wFX2_35 rfl rfl dX2_put_133 ?_
            refine xl (fun _ => lv_iload_n hx hb dX2_put_136 rfl (lv_at hl 2 rfl)) ?_
            refine xl (fun _ => lv_iload hx hb dX2_put_137 (lv_at hl 0 rfl)) ?_
            refine xl (fun _ => lv_iconst (v := 1) hx hb dX2_put_139 (by decide)) ?_
            refine xl (fun _ => lv_iadd hx hb dX2_put_140) ?_
            rw [show ((nI i) + 1) = (nI (i + 1)) from nI_1 i]
            refine x_iast hx hb hK h9 rr (rfl) (by omega) (by decide) (by omega) dX2_put_141 (fun H_105 ho_106 hz_107 hq_108 => ?_)
            have ho_106 : ia_ G H_105 (mb + 9) 64 (upd re rr (nI (i + 1))) := ho_106
            have k_109 := va_at.kept (H1 := H_105) (hX) (hq_108 _ (by omega))
            have k_110 := va_at.kept (H1 := H_105) (h1) (hq_108 _ (by omega))
            have k_111 := va_at.kept (H1 := H_105) (h2) (hq_108 _ (by omega))
            have k_112 := va_at.kept (H1 := H_105) (h3) (hq_108 _ (by omega))
            have k_113 := va_at.kept (H1 := H_105) (h4) (hq_108 _ (by omega))
            have k_114 := va_at.kept (H1 := H_105) (h5) (hq_108 _ (by omega))
            have k_115 := va_at.kept (H1 := H_105) (h6) (hq_108 _ (by omega))
            have k_116 := va_at.kept (H1 := H_105) (h7) (hq_108 _ (by omega))
            have k_117 := va_at.kept (H1 := H_105) (h8) (hq_108 _ (by omega))
            have hF : sm_F mb H H_105 := hF.put (a := (mb + 9)) hz_107 hq_108 ⟨by omega, by omega⟩
            refine xl (fun _ => lv_iconst (v := 1) hx hb dX2_put_142 (by decide)) ?_
            exact x_iret hx hb hr hlocks hs0 hbs (by decide) (by decide) dX2_put_143 (⟨rfl, by rw [mkS_old (sp_fd_hit hf c_24 hin)]; exact ⟨_, _, _, _, _, _, ⟨hm0, hmn, k_109, k_110, k_111, k_112, k_113, k_114, k_115, k_116, k_117, ho_106⟩, sm_R_old hR hin, hQ⟩, hF⟩)
          · exact absurd ((nI_eq (by omega) (by omega)).mp c_39) (by omega)
        · have c_24 := bI_f c_24
          refine xs (fun _ => lv_iinc (v := (nI (i + 1))) (lv' := [(6, .int (nI (i + 1))), (0, .ref mb), (1, .int (nI rr)), (2, .int s1), (3, .int a1), (4, .int b1), (5, .int c1)]) hx hb dX2_put_27 hl (k := 0) rfl (nI_1 i) (by decide) (rfl)) (fun ls hl => ?_)
          refine xl (fun _ => lv_goto (tgt := 3) hx hb dX2_put_30 (by decide)) ?_
          exact ih (i + 1) (by omega) (by omega) (sp_fd_s hf c_24) ls (lv_sub hl [0, 1, 2, 3, 4, 5, 6] rfl)
  exact hlook (n + 1) 0 (by omega) (by omega) rfl ls (lv_sub hl [0, 1, 2, 3, 4, 5, 6] rfl)

set_option maxHeartbeats 4000000 in
set_option maxRecDepth 100000 in
theorem c_X2_share (l : Launch) (G : sg_G) (H : Heap) (mb n : Nat) (so on tw th ce gi kn li re : Nat → Int32) (sec : Int32) (hM : sm_X G mb n so on tw th ce gi kn li re sec H) (t : Nat → sp_T) (rg : Nat → Option Nat) (hR : sm_R n t rg so on tw th ce re) (g : Nat → Prop) (x y : Nat) (hxx : x < n) (hy : y < n) (hx1 : sp_so (t x) = 1) (hy1 : sp_so (t y) = 1) (rr : Nat) (hrr : rr < 64) (ns : Nat) (hQ : sm_Q n t ns on) (hn1 : n < 512) : xC l G yX2_share cX2_share 4 (some FieldType.int) 2 0 0 [.ref mb, .int (nI rr), .int (nI (x + 1)), .int (nI (y + 1))] H (fun ans H' => ans = some (.int 1) ∧ (∃ so' on' tw' th' ce' re', sm_X G mb (sp_mkS (n, t, rg, g) rr (sp_sd x y)).1 so' on' tw' th' ce' gi kn li re' sec H' ∧ sm_R (sp_mkS (n, t, rg, g) rr (sp_sd x y)).1 (sp_mkS (n, t, rg, g) rr (sp_sd x y)).2.1 (sp_mkS (n, t, rg, g) rr (sp_sd x y)).2.2.1 so' on' tw' th' ce' re' ∧ sm_Q (sp_mkS (n, t, rg, g) rr (sp_sd x y)).1 (sp_mkS (n, t, rg, g) rr (sp_sd x y)).2.1 ns on') ∧ sm_F mb H H') := by
  refine xC.start (by decide) (Nat.le_of_ble_eq_true rfl) ?_
  intro p e s m args below meth c ls E hnm hs0 hl
  obtain ⟨hx, hb, hml, hown, hts, hr, hlocks, hK, hbs⟩ := id E
  have hl : lv_has ls 4 [(0, .ref mb), (1, .int (nI rr)), (2, .int (nI (x + 1))), (3, .int (nI (y + 1)))] := hl
  obtain ⟨hm0, hmn, hX, h1, h2, h3, h4, h5, h6, h7, h8, h9⟩ := id hM
  obtain ⟨hRt, hRr, hRg, hRw⟩ := id hR
  refine xl (fun _ => lv_iload_n hx hb dX2_share_0 rfl (lv_at hl 2 rfl)) ?_
  refine xl (fun _ => lv_iload_n hx hb dX2_share_1 rfl (lv_at hl 3 rfl)) ?_
  refine xb (fun _ => lv_icmp_ge (tgt := 17) hx hb dX2_share_2 (by decide)) (fun c_2 => ?_) (fun c_2 => ?_)
  · refine xl (fun _ => lv_aload_n hx hb dX2_share_17 rfl (lv_at hl 0 rfl)) ?_
    refine xl (fun _ => lv_iload_n hx hb dX2_share_18 rfl (lv_at hl 1 rfl)) ?_
    refine xl (fun _ => lv_iconst (v := 3) hx hb dX2_share_19 (by decide)) ?_
    refine xl (fun _ => lv_iload_n hx hb dX2_share_20 rfl (lv_at hl 3 rfl)) ?_
    refine xl (fun _ => lv_iload_n hx hb dX2_share_21 rfl (lv_at hl 2 rfl)) ?_
    refine xl (fun _ => lv_iconst (v := 0) hx hb dX2_share_22 (by decide)) ?_
    have hxy : y ≤ x := by have := (nI_leI (a := y + 1) (b := x + 1) (by omega) (by omega)).mp c_2; omega
    have hsd : sp_sd x y = (3, 0, z4, sp_p4 (some y) (some x) none) := by
      unfold sp_sd
      by_cases e : x ≤ y
      · rw [if_pos e, if_pos e, show x = y by omega]
      · rw [if_neg e, if_neg e]
    have hwd := wf_sd hxx hy hx1 hy1
    rw [hsd] at hwd
    refine x_callV E hl (c_X2_put l G H mb n _ _ _ _ _ _ _ _ _ _ hM t rg hR g (3, 0, z4, sp_p4 (some y) (some x) none) (hwd) rr hrr 3 (nI (y + 1)) (nI (x + 1)) 0 rfl (fun _ => (e_3 (d := (3, 0, z4, sp_p4 (some y) (some x) none)) rfl).1.symm) ((e_3 (d := (3, 0, z4, sp_p4 (some y) (some x) none)) rfl).2.1.symm) ((e_3 (d := (3, 0, z4, sp_p4 (some y) (some x) none)) rfl).2.2.symm) (fun z => absurd z (show ¬ (3 : Int32) = 7 by decide)) ns hQ (fun z => absurd z (show ¬ (3 : Int32) = 1 by decide)) hn1) xm_yX2_put wMX2_56 wI_yX2_put wT_yX2_put (ci := 2) rfl rfl hX (rest := []) rfl (by decide) (by decide) ⟨by decide, by decide⟩ dX2_share_23 (fun v_1 H_2 hp_3 hz_4 hq_5 => ?_)
    rw [← hsd] at hp_3
    obtain ⟨rfl, hE2, hF2⟩ := hp_3
    refine xg (g2 := F0 m 26 ls [.int 1]) rfl ?_
    exact x_iret hx hb hr hlocks hs0 hbs (by decide) (by decide) dX2_share_26 (⟨rfl, hE2, hF2⟩)
  · refine xl (fun _ => lv_aload_n hx hb dX2_share_5 rfl (lv_at hl 0 rfl)) ?_
    refine xl (fun _ => lv_iload_n hx hb dX2_share_6 rfl (lv_at hl 1 rfl)) ?_
    refine xl (fun _ => lv_iconst (v := 3) hx hb dX2_share_7 (by decide)) ?_
    refine xl (fun _ => lv_iload_n hx hb dX2_share_8 rfl (lv_at hl 2 rfl)) ?_
    refine xl (fun _ => lv_iload_n hx hb dX2_share_9 rfl (lv_at hl 3 rfl)) ?_
    refine xl (fun _ => lv_iconst (v := 0) hx hb dX2_share_10 (by decide)) ?_
    have hxy : x < y := by have := Nat.not_le.mp (fun z => c_2 ((nI_leI (a := y + 1) (b := x + 1) (by omega) (by omega)).mpr z)); omega
    have hsd : sp_sd x y = (3, 0, z4, sp_p4 (some x) (some y) none) := by unfold sp_sd; rw [if_pos (by omega), if_pos (by omega)]
    have hwd := wf_sd hxx hy hx1 hy1
    rw [hsd] at hwd
    refine x_callV E hl (c_X2_put l G H mb n _ _ _ _ _ _ _ _ _ _ hM t rg hR g (3, 0, z4, sp_p4 (some x) (some y) none) (hwd) rr hrr 3 (nI (x + 1)) (nI (y + 1)) 0 rfl (fun _ => (e_3 (d := (3, 0, z4, sp_p4 (some x) (some y) none)) rfl).1.symm) ((e_3 (d := (3, 0, z4, sp_p4 (some x) (some y) none)) rfl).2.1.symm) ((e_3 (d := (3, 0, z4, sp_p4 (some x) (some y) none)) rfl).2.2.symm) (fun z => absurd z (show ¬ (3 : Int32) = 7 by decide)) ns hQ (fun z => absurd z (show ¬ (3 : Int32) = 1 by decide)) hn1) xm_yX2_put wMX2_56 wI_yX2_put wT_yX2_put (ci := 2) rfl rfl hX (rest := []) rfl (by decide) (by decide) ⟨by decide, by decide⟩ dX2_share_11 (fun v_6 H_7 hp_8 hz_9 hq_10 => ?_)
    rw [← hsd] at hp_8
    obtain ⟨rfl, hE2, hF2⟩ := hp_8
    refine xg (g2 := F0 m 14 ls [.int 1]) rfl ?_
    refine xl (fun _ => lv_goto (tgt := 26) hx hb dX2_share_14 (by decide)) ?_
    exact x_iret hx hb hr hlocks hs0 hbs (by decide) (by decide) dX2_share_26 (⟨rfl, hE2, hF2⟩)

theorem mi_no {a : sp_S} {r : Int32} (h : sp_ir r = false) : ∀ d, sp_mi a r d = (-1, a) := fun _ => sp_mi_no h

set_option maxHeartbeats 4000000 in
set_option maxRecDepth 100000 in
theorem c_X2_secret (l : Launch) (G : sg_G) (H : Heap) (mb n : Nat) (t : Nat → sp_T) (rg : Nat → Option Nat) (g : Nat → Prop) (hH : sm_H G mb n t rg g H) (hn1 : n < 512) (r : Int32) : xC l G yX2_secret cX2_secret 2 (some FieldType.int) 2 0 0 [.ref mb, .int r] H (fun ans H' => ans = some (.int (op_secret (n, t, rg, g) r).1) ∧ sm_HS G mb (op_secret (n, t, rg, g) r).2 H' ∧ sm_F mb H H') := by
  refine xC.start (by decide) (Nat.le_of_ble_eq_true rfl) ?_
  intro p e s m args below meth c ls E hnm hs0 hl
  obtain ⟨hx, hb, hml, hown, hts, hr, hlocks, hK, hbs⟩ := id E
  have hl : lv_has ls 2 [(0, .ref mb), (1, .int r)] := hl
  obtain ⟨so, on, tw, th, ce, kb, li, re, ns, hM, hR, hQ, hns, hg⟩ := id hH
  obtain ⟨hm0, hmn, hX, h1, h2, h3, h4, h5, h6, h7, h8, h9⟩ := id hM
  obtain ⟨hRt, hRr, hRg, hRw⟩ := id hR
  have hF : sm_F mb H H := sm_F.rf
  refine xl (fun _ => lv_iload_n hx hb dX2_secret_0 rfl (lv_at hl 1 rfl)) ?_
  refine x_callS E hl (c_X2_isRegister l G H r) xm_yX2_isRegister wMX2_46 wS_yX2_isRegister (rest := []) rfl (by decide) (by decide) ⟨by decide, by decide⟩ dX2_secret_1 (x_pure (r := .int (bI (sp_ir r))) (st1 := []) ?_)
  refine xb (fun _ => lv_if_ne (tgt := 9) hx hb dX2_secret_4 (by decide)) (fun c_4 => ?_) (fun c_4 => ?_)
  · have c_4 := bI_t c_4
    obtain ⟨rr, hrr, rfl⟩ := sp_ir_of c_4
    refine xl (fun _ => lv_aload_n hx hb dX2_secret_9 rfl (lv_at hl 0 rfl)) ?_
    refine xl (fun _ => lv_dup hx hb dX2_secret_10 rfl) ?_
    refine x_get (ci := 2) hx hb hts hown hK wiX2 hX rfl 10 (by decide) wFX2_53 rfl rfl dX2_secret_11 ?_
    refine xl (fun _ => lv_iconst (v := 1) hx hb dX2_secret_14 (by decide)) ?_
    refine xl (fun _ => lv_iadd hx hb dX2_secret_15) ?_
    rw [show ((nI ns) + 1) = (nI (ns + 1)) from nI_1 ns]
    refine x_put (ci := 2) hx hb hts hown hK wiX2 tyX2 tyX2_ok nmX2 hX rfl 10 (by decide) wFX2_53 rfl rfl (rfl) (rfl) (by simp) (hm0) dX2_secret_16 (fun H_1 ho_2 hz_3 hq_4 => ?_)
    have ho_2 : ob_ G H_1 mb 2 [.int (nI n), .ref (mb + 1), .ref (mb + 2), .ref (mb + 3), .ref (mb + 4), .ref (mb + 5), .ref (mb + 6), .ref (mb + 7), .ref (mb + 8), .ref (mb + 9), .int (nI (ns + 1))] := ho_2
    have k_5 := va_at.kept (H1 := H_1) (h1) (hq_4 _ (by omega))
    have k_6 := va_at.kept (H1 := H_1) (h2) (hq_4 _ (by omega))
    have k_7 := va_at.kept (H1 := H_1) (h3) (hq_4 _ (by omega))
    have k_8 := va_at.kept (H1 := H_1) (h4) (hq_4 _ (by omega))
    have k_9 := va_at.kept (H1 := H_1) (h5) (hq_4 _ (by omega))
    have k_10 := va_at.kept (H1 := H_1) (h6) (hq_4 _ (by omega))
    have k_11 := va_at.kept (H1 := H_1) (h7) (hq_4 _ (by omega))
    have k_12 := va_at.kept (H1 := H_1) (h8) (hq_4 _ (by omega))
    have k_13 := va_at.kept (H1 := H_1) (h9) (hq_4 _ (by omega))
    have hF : sm_F mb H H_1 := hF.put (a := mb) hz_3 hq_4 ⟨by omega, by omega⟩
    refine xl (fun _ => lv_aload_n hx hb dX2_secret_19 rfl (lv_at hl 0 rfl)) ?_
    refine xl (fun _ => lv_iload_n hx hb dX2_secret_20 rfl (lv_at hl 1 rfl)) ?_
    refine xl (fun _ => lv_iconst (v := 1) hx hb dX2_secret_21 (by decide)) ?_
    refine xl (fun _ => lv_aload_n hx hb dX2_secret_22 rfl (lv_at hl 0 rfl)) ?_
    refine x_get (ci := 2) hx hb hts hown hK wiX2 ho_2 rfl 10 (by decide) wFX2_53 rfl rfl dX2_secret_23 ?_
    refine xl (fun _ => lv_iconst (v := 0) hx hb dX2_secret_26 (by decide)) ?_
    refine xl (fun _ => lv_iconst (v := 0) hx hb dX2_secret_27 (by decide)) ?_
    have hQ1 : sm_Q n t (ns + 1) on := fun i hi h => by obtain ⟨k, q1, q2, q3⟩ := hQ i hi h; exact ⟨k, q1, by omega, q3⟩
    have hnw : ∀ i, i < n → sp_so (t i) = 1 → ¬ on i = nI (ns + 1) := fun i hi h e => by obtain ⟨k, q1, q2, q3⟩ := hQ i hi h; have := (nI_eq (by omega) (by omega)).mp (q3.symm.trans e); omega
    refine x_callV E hl (c_X2_put l G H_1 mb n _ _ _ _ _ _ _ _ _ _ ⟨hm0, hmn, ho_2, k_5, k_6, k_7, k_8, k_9, k_10, k_11, k_12, k_13⟩ t rg hR g (1, 0, z4, sp_p4 none none none) wf_secret rr hrr 1 (nI (ns + 1)) 0 0 rfl (fun z => absurd rfl z) (by decide) (by decide) (fun z => absurd z (by decide)) (ns + 1) hQ1 (fun _ => ⟨⟨rfl, by omega⟩, hnw⟩) hn1) xm_yX2_put wMX2_56 wI_yX2_put wT_yX2_put (ci := 2) rfl rfl ho_2 (rest := []) rfl (by decide) (by decide) ⟨by decide, by decide⟩ dX2_secret_28 (fun v_14 H_15 hp_16 hz_17 hq_18 => ?_)
    obtain ⟨rfl, ⟨so2, on2, tw2, th2, ce2, re2, hM2, hR2, hQ2⟩, hF2⟩ := hp_16
    refine xg (g2 := F0 m 31 ls [.int 1]) rfl ?_
    have hH2 : sm_HS G mb (sp_mkS (n, t, rg, g) rr (1, 0, z4, sp_p4 none none none)) H_15 := by
      unfold sm_HS
      rw [show (sp_mkS (n, t, rg, g) rr (1, 0, z4, sp_p4 none none none)).2.2.2 = g from mkS_le.2]
      exact by
        rw [mkS_new (fd_secret rfl)] at hM2 hR2 hQ2 ⊢
        exact ⟨_, _, _, _, _, _, _, _, ns + 1, hM2, hR2, hQ2, by show ns + 1 ≤ n + 1; omega, fun i h => Nat.lt_succ_of_lt (hg i h)⟩
    exact x_iret hx hb hr hlocks hs0 hbs (by decide) (by decide) dX2_secret_31 (⟨by unfold op_secret; rw [sp_mi_nI hrr], by unfold op_secret; rw [sp_mi_nI hrr]; exact hH2, hF.tr hF2⟩)
  · have c_4 := bI_f c_4
    refine xl (fun _ => lv_iconst (v := (-1)) hx hb dX2_secret_7 (by decide)) ?_
    exact x_iret hx hb hr hlocks hs0 hbs (by decide) (by decide) dX2_secret_8 (⟨by unfold op_secret; rw [sp_mi_no c_4], by unfold op_secret; rw [sp_mi_no c_4]; exact hH, sm_F.rf⟩)

set_option maxHeartbeats 4000000 in
set_option maxRecDepth 100000 in
theorem c_X2_face (l : Launch) (G : sg_G) (H : Heap) (mb n : Nat) (t : Nat → sp_T) (rg : Nat → Option Nat) (g : Nat → Prop) (hH : sm_H G mb n t rg g H) (hn1 : n < 512) (r x : Int32) : xC l G yX2_face cX2_face 3 (some FieldType.int) 3 0 0 [.ref mb, .int r, .int x] H (fun ans H' => ans = some (.int (op_face (n, t, rg, g) r x).1) ∧ sm_HS G mb (op_face (n, t, rg, g) r x).2 H' ∧ sm_F mb H H') := by
  refine xC.start (by decide) (Nat.le_of_ble_eq_true rfl) ?_
  intro p e s m args below meth c ls E hnm hs0 hl
  obtain ⟨hx, hb, hml, hown, hts, hr, hlocks, hK, hbs⟩ := id E
  have hl : lv_has ls 3 [(0, .ref mb), (1, .int r), (2, .int x)] := hl
  obtain ⟨so, on, tw, th, ce, kb, li, re, ns, hM, hR, hQ, hns, hg⟩ := id hH
  obtain ⟨hm0, hmn, hX, h1, h2, h3, h4, h5, h6, h7, h8, h9⟩ := id hM
  obtain ⟨hRt, hRr, hRg, hRw⟩ := id hR
  have hF : sm_F mb H H := sm_F.rf
  refine xl (fun _ => lv_iload_n hx hb dX2_face_0 rfl (lv_at hl 1 rfl)) ?_
  refine x_callS E hl (c_X2_isRegister l G H r) xm_yX2_isRegister wMX2_46 wS_yX2_isRegister (rest := []) rfl (by decide) (by decide) ⟨by decide, by decide⟩ dX2_face_1 (x_pure (r := .int (bI (sp_ir r))) (st1 := []) ?_)
  refine xb (fun _ => lv_if_eq (tgt := 33) hx hb dX2_face_4 (by decide)) (fun c_4 => ?_) (fun c_4 => ?_)
  · have c_4 := bI_f c_4
    refine xl (fun _ => lv_iconst (v := (-1)) hx hb dX2_face_33 (by decide)) ?_
    exact x_iret hx hb hr hlocks hs0 hbs (by decide) (by decide) dX2_face_34 (⟨by simp only [op_face, mi_no c_4]; (repeat' split) <;> rfl, by simp only [op_face, mi_no c_4]; (repeat' split) <;> exact hH, sm_F.rf⟩)
  · have c_4 := bI_t c_4
    obtain ⟨rr, hrr, rfl⟩ := sp_ir_of c_4
    refine xl (fun _ => lv_aload_n hx hb dX2_face_7 rfl (lv_at hl 0 rfl)) ?_
    refine xl (fun _ => lv_iload_n hx hb dX2_face_8 rfl (lv_at hl 2 rfl)) ?_
    refine xl (fun _ => lv_iconst (v := 1) hx hb dX2_face_9 (by decide)) ?_
    refine x_callV E hl (c_X2_has l G H mb n _ _ _ _ _ _ _ _ _ _ ⟨hm0, hmn, hX, h1, h2, h3, h4, h5, h6, h7, h8, h9⟩ t rg hR x 1) xm_yX2_has wMX2_60 wI_yX2_has wT_yX2_has (ci := 2) rfl rfl hX (rest := []) rfl (by decide) (by decide) ⟨by decide, by decide⟩ dX2_face_10 (x_pure (r := .int (bI (sp_rs t rg x 1).isSome)) (st1 := []) ?_)
    refine xb (fun _ => lv_if_eq (tgt := 33) hx hb dX2_face_13 (by decide)) (fun c_13 => ?_) (fun c_13 => ?_)
    · have c_13 := bI_f c_13
      have hs_13 := isN c_13
      refine xl (fun _ => lv_iconst (v := (-1)) hx hb dX2_face_33 (by decide)) ?_
      exact x_iret hx hb hr hlocks hs0 hbs (by decide) (by decide) dX2_face_34 (⟨by simp only [op_face, hs_13, reduceIte, Bool.false_eq_true, and_true, true_and, and_false, false_and, and_self, not_true_eq_false, not_false_eq_true], by simp only [op_face, hs_13, reduceIte, Bool.false_eq_true, and_true, true_and, and_false, false_and, and_self, not_true_eq_false, not_false_eq_true]; exact hH, sm_F.rf⟩)
    · have c_13 := bI_t c_13
      obtain ⟨i, hs_13⟩ := isS c_13
      obtain ⟨j_x, hj_x, he_x, hg_x⟩ := sp_rg_s (sp_rs_of hs_13).1
      have hi_i : i < n := hRg j_x hj_x i hg_x
      have hr_x : re j_x = nI (i + 1) := by rw [hRr j_x hj_x, hg_x]; rfl
      refine xl (fun _ => lv_aload_n hx hb dX2_face_16 rfl (lv_at hl 0 rfl)) ?_
      refine xl (fun _ => lv_iload_n hx hb dX2_face_17 rfl (lv_at hl 1 rfl)) ?_
      refine xl (fun _ => lv_iconst (v := 2) hx hb dX2_face_18 (by decide)) ?_
      refine xl (fun _ => lv_aload_n hx hb dX2_face_19 rfl (lv_at hl 0 rfl)) ?_
      refine x_get (ci := 2) hx hb hts hown hK wiX2 hX rfl 9 (by decide) wFX2_35 rfl rfl dX2_face_20 ?_
      refine xl (fun _ => lv_iload_n hx hb dX2_face_23 rfl (lv_at hl 2 rfl)) ?_
      refine x_iald hx hb hK h9 j_x (he_x) (by have := hj_x; omega) (by decide) dX2_face_24 ?_
      rw [show (re j_x) = (nI (i + 1)) from hr_x]
      refine xl (fun _ => lv_iconst (v := 0) hx hb dX2_face_25 (by decide)) ?_
      refine xl (fun _ => lv_iconst (v := 0) hx hb dX2_face_26 (by decide)) ?_
      refine x_callV E hl (c_X2_put l G H mb n _ _ _ _ _ _ _ _ _ _ ⟨hm0, hmn, hX, h1, h2, h3, h4, h5, h6, h7, h8, h9⟩ t rg hR g (2, 0, z4, sp_p4 (some i) none none) (wf_face hi_i (sp_rs_of hs_13).2) rr hrr 2 (nI (i + 1)) 0 0 rfl (fun _ => (e_2 (d := (2, 0, z4, sp_p4 (some i) none none)) rfl).1.symm) ((e_2 (d := (2, 0, z4, sp_p4 (some i) none none)) rfl).2.1.symm) ((e_2 (d := (2, 0, z4, sp_p4 (some i) none none)) rfl).2.2.symm) (fun z => absurd z (show ¬ (2 : Int32) = 7 by decide)) ns hQ (fun z => absurd z (show ¬ (2 : Int32) = 1 by decide)) hn1) xm_yX2_put wMX2_56 wI_yX2_put wT_yX2_put (ci := 2) rfl rfl hX (rest := []) rfl (by decide) (by decide) ⟨by decide, by decide⟩ dX2_face_27 (fun v_1 H_2 hp_3 hz_4 hq_5 => ?_)
      obtain ⟨rfl, ⟨so2, on2, tw2, th2, ce2, re2, hM2, hR2, hQ2⟩, hF2⟩ := hp_3
      refine xg (g2 := F0 m 30 ls [.int 1]) rfl ?_
      have hH2 : sm_HS G mb (sp_mkS (n, t, rg, g) rr (2, 0, z4, sp_p4 (some i) none none)) H_2 := by
        unfold sm_HS
        rw [show (sp_mkS (n, t, rg, g) rr (2, 0, z4, sp_p4 (some i) none none)).2.2.2 = g from mkS_le.2]
        exact ⟨_, _, _, _, _, _, _, _, ns, hM2, hR2, hQ2, Nat.le_trans hns mkS_le.1, fun i h => Nat.lt_of_lt_of_le (hg i h) mkS_le.1⟩
      refine xl (fun _ => lv_goto (tgt := 34) hx hb dX2_face_30 (by decide)) ?_
      exact x_iret hx hb hr hlocks hs0 hbs (by decide) (by decide) dX2_face_34 (⟨by simp only [op_face, hs_13, reduceIte, Bool.false_eq_true, and_true, true_and, and_false, false_and, and_self, not_true_eq_false, not_false_eq_true]; rw [sp_mi_nI hrr], by simp only [op_face, hs_13, reduceIte, Bool.false_eq_true, and_true, true_and, and_false, false_and, and_self, not_true_eq_false, not_false_eq_true]; rw [sp_mi_nI hrr]; exact hH2, hF.tr hF2⟩)

set_option maxHeartbeats 4000000 in
set_option maxRecDepth 100000 in
theorem c_X2_shared (l : Launch) (G : sg_G) (H : Heap) (mb n : Nat) (t : Nat → sp_T) (rg : Nat → Option Nat) (g : Nat → Prop) (hH : sm_H G mb n t rg g H) (hn1 : n < 512) (r x y : Int32) : xC l G yX2_shared cX2_shared 4 (some FieldType.int) 3 0 0 [.ref mb, .int r, .int x, .int y] H (fun ans H' => ans = some (.int (op_shared (n, t, rg, g) r x y).1) ∧ sm_HS G mb (op_shared (n, t, rg, g) r x y).2 H' ∧ sm_F mb H H') := by
  refine xC.start (by decide) (Nat.le_of_ble_eq_true rfl) ?_
  intro p e s m args below meth c ls E hnm hs0 hl
  obtain ⟨hx, hb, hml, hown, hts, hr, hlocks, hK, hbs⟩ := id E
  have hl : lv_has ls 4 [(0, .ref mb), (1, .int r), (2, .int x), (3, .int y)] := hl
  obtain ⟨so, on, tw, th, ce, kb, li, re, ns, hM, hR, hQ, hns, hg⟩ := id hH
  obtain ⟨hm0, hmn, hX, h1, h2, h3, h4, h5, h6, h7, h8, h9⟩ := id hM
  obtain ⟨hRt, hRr, hRg, hRw⟩ := id hR
  have hF : sm_F mb H H := sm_F.rf
  refine xl (fun _ => lv_iload_n hx hb dX2_shared_0 rfl (lv_at hl 1 rfl)) ?_
  refine x_callS E hl (c_X2_isRegister l G H r) xm_yX2_isRegister wMX2_46 wS_yX2_isRegister (rest := []) rfl (by decide) (by decide) ⟨by decide, by decide⟩ dX2_shared_1 (x_pure (r := .int (bI (sp_ir r))) (st1 := []) ?_)
  refine xb (fun _ => lv_if_eq (tgt := 45) hx hb dX2_shared_4 (by decide)) (fun c_4 => ?_) (fun c_4 => ?_)
  · have c_4 := bI_f c_4
    refine xl (fun _ => lv_iconst (v := (-1)) hx hb dX2_shared_45 (by decide)) ?_
    exact x_iret hx hb hr hlocks hs0 hbs (by decide) (by decide) dX2_shared_46 (⟨by simp only [op_shared, mi_no c_4]; (repeat' split) <;> rfl, by simp only [op_shared, mi_no c_4]; (repeat' split) <;> exact hH, sm_F.rf⟩)
  · have c_4 := bI_t c_4
    obtain ⟨rr, hrr, rfl⟩ := sp_ir_of c_4
    refine xl (fun _ => lv_aload_n hx hb dX2_shared_7 rfl (lv_at hl 0 rfl)) ?_
    refine xl (fun _ => lv_iload_n hx hb dX2_shared_8 rfl (lv_at hl 2 rfl)) ?_
    refine xl (fun _ => lv_iconst (v := 1) hx hb dX2_shared_9 (by decide)) ?_
    refine x_callV E hl (c_X2_has l G H mb n _ _ _ _ _ _ _ _ _ _ ⟨hm0, hmn, hX, h1, h2, h3, h4, h5, h6, h7, h8, h9⟩ t rg hR x 1) xm_yX2_has wMX2_60 wI_yX2_has wT_yX2_has (ci := 2) rfl rfl hX (rest := []) rfl (by decide) (by decide) ⟨by decide, by decide⟩ dX2_shared_10 (x_pure (r := .int (bI (sp_rs t rg x 1).isSome)) (st1 := []) ?_)
    refine xb (fun _ => lv_if_eq (tgt := 45) hx hb dX2_shared_13 (by decide)) (fun c_13 => ?_) (fun c_13 => ?_)
    · have c_13 := bI_f c_13
      have hs_13 := isN c_13
      refine xl (fun _ => lv_iconst (v := (-1)) hx hb dX2_shared_45 (by decide)) ?_
      exact x_iret hx hb hr hlocks hs0 hbs (by decide) (by decide) dX2_shared_46 (⟨by simp only [op_shared, hs_13, reduceIte, Bool.false_eq_true, and_true, true_and, and_false, false_and, and_self, not_true_eq_false, not_false_eq_true], by simp only [op_shared, hs_13, reduceIte, Bool.false_eq_true, and_true, true_and, and_false, false_and, and_self, not_true_eq_false, not_false_eq_true]; exact hH, sm_F.rf⟩)
    · have c_13 := bI_t c_13
      obtain ⟨i, hs_13⟩ := isS c_13
      obtain ⟨j_x, hj_x, he_x, hg_x⟩ := sp_rg_s (sp_rs_of hs_13).1
      have hi_i : i < n := hRg j_x hj_x i hg_x
      have hr_x : re j_x = nI (i + 1) := by rw [hRr j_x hj_x, hg_x]; rfl
      refine xl (fun _ => lv_aload_n hx hb dX2_shared_16 rfl (lv_at hl 0 rfl)) ?_
      refine xl (fun _ => lv_iload_n hx hb dX2_shared_17 rfl (lv_at hl 3 rfl)) ?_
      refine xl (fun _ => lv_iconst (v := 1) hx hb dX2_shared_18 (by decide)) ?_
      refine x_callV E hl (c_X2_has l G H mb n _ _ _ _ _ _ _ _ _ _ ⟨hm0, hmn, hX, h1, h2, h3, h4, h5, h6, h7, h8, h9⟩ t rg hR y 1) xm_yX2_has wMX2_60 wI_yX2_has wT_yX2_has (ci := 2) rfl rfl hX (rest := []) rfl (by decide) (by decide) ⟨by decide, by decide⟩ dX2_shared_19 (x_pure (r := .int (bI (sp_rs t rg y 1).isSome)) (st1 := []) ?_)
      refine xb (fun _ => lv_if_eq (tgt := 45) hx hb dX2_shared_22 (by decide)) (fun c_22 => ?_) (fun c_22 => ?_)
      · have c_22 := bI_f c_22
        have hs_22 := isN c_22
        refine xl (fun _ => lv_iconst (v := (-1)) hx hb dX2_shared_45 (by decide)) ?_
        exact x_iret hx hb hr hlocks hs0 hbs (by decide) (by decide) dX2_shared_46 (⟨by simp only [op_shared, hs_13, hs_22, reduceIte, Bool.false_eq_true, and_true, true_and, and_false, false_and, and_self, not_true_eq_false, not_false_eq_true], by simp only [op_shared, hs_13, hs_22, reduceIte, Bool.false_eq_true, and_true, true_and, and_false, false_and, and_self, not_true_eq_false, not_false_eq_true]; exact hH, sm_F.rf⟩)
      · have c_22 := bI_t c_22
        obtain ⟨j, hs_22⟩ := isS c_22
        obtain ⟨j_y, hj_y, he_y, hg_y⟩ := sp_rg_s (sp_rs_of hs_22).1
        have hi_j : j < n := hRg j_y hj_y j hg_y
        have hr_y : re j_y = nI (j + 1) := by rw [hRr j_y hj_y, hg_y]; rfl
        refine xl (fun _ => lv_aload_n hx hb dX2_shared_25 rfl (lv_at hl 0 rfl)) ?_
        refine xl (fun _ => lv_iload_n hx hb dX2_shared_26 rfl (lv_at hl 1 rfl)) ?_
        refine xl (fun _ => lv_aload_n hx hb dX2_shared_27 rfl (lv_at hl 0 rfl)) ?_
        refine x_get (ci := 2) hx hb hts hown hK wiX2 hX rfl 9 (by decide) wFX2_35 rfl rfl dX2_shared_28 ?_
        refine xl (fun _ => lv_iload_n hx hb dX2_shared_31 rfl (lv_at hl 2 rfl)) ?_
        refine x_iald hx hb hK h9 j_x (he_x) (by have := hj_x; omega) (by decide) dX2_shared_32 ?_
        rw [show (re j_x) = (nI (i + 1)) from hr_x]
        refine xl (fun _ => lv_aload_n hx hb dX2_shared_33 rfl (lv_at hl 0 rfl)) ?_
        refine x_get (ci := 2) hx hb hts hown hK wiX2 hX rfl 9 (by decide) wFX2_35 rfl rfl dX2_shared_34 ?_
        refine xl (fun _ => lv_iload_n hx hb dX2_shared_37 rfl (lv_at hl 3 rfl)) ?_
        refine x_iald hx hb hK h9 j_y (he_y) (by have := hj_y; omega) (by decide) dX2_shared_38 ?_
        rw [show (re j_y) = (nI (j + 1)) from hr_y]
        refine x_callV E hl (c_X2_share l G H mb n _ _ _ _ _ _ _ _ _ _ ⟨hm0, hmn, hX, h1, h2, h3, h4, h5, h6, h7, h8, h9⟩ t rg hR g i j hi_i hi_j ((sp_rs_of hs_13).2) ((sp_rs_of hs_22).2) rr hrr ns hQ hn1) xm_yX2_share wMX2_64 wI_yX2_share wT_yX2_share (ci := 2) rfl rfl hX (rest := []) rfl (by decide) (by decide) ⟨by decide, by decide⟩ dX2_shared_39 (fun v_1 H_2 hp_3 hz_4 hq_5 => ?_)
        obtain ⟨rfl, ⟨so2, on2, tw2, th2, ce2, re2, hM2, hR2, hQ2⟩, hF2⟩ := hp_3
        refine xg (g2 := F0 m 42 ls [.int 1]) rfl ?_
        have hH2 : sm_HS G mb (sp_mkS (n, t, rg, g) rr (sp_sd i j)) H_2 := by
          unfold sm_HS
          rw [show (sp_mkS (n, t, rg, g) rr (sp_sd i j)).2.2.2 = g from mkS_le.2]
          exact ⟨_, _, _, _, _, _, _, _, ns, hM2, hR2, hQ2, Nat.le_trans hns mkS_le.1, fun i h => Nat.lt_of_lt_of_le (hg i h) mkS_le.1⟩
        refine xl (fun _ => lv_goto (tgt := 46) hx hb dX2_shared_42 (by decide)) ?_
        exact x_iret hx hb hr hlocks hs0 hbs (by decide) (by decide) dX2_shared_46 (⟨by simp only [op_shared, hs_13, hs_22, reduceIte, Bool.false_eq_true, and_true, true_and, and_false, false_and, and_self, not_true_eq_false, not_false_eq_true]; rw [sp_mi_nI hrr], by simp only [op_shared, hs_13, hs_22, reduceIte, Bool.false_eq_true, and_true, true_and, and_false, false_and, and_self, not_true_eq_false, not_false_eq_true]; rw [sp_mi_nI hrr]; exact hH2, hF.tr hF2⟩)

set_option maxHeartbeats 4000000 in
set_option maxRecDepth 100000 in
theorem c_X2_agreed (l : Launch) (G : sg_G) (H : Heap) (mb n : Nat) (t : Nat → sp_T) (rg : Nat → Option Nat) (g : Nat → Prop) (hH : sm_H G mb n t rg g H) (hn1 : n < 512) (r x y : Int32) : xC l G yX2_agreed cX2_agreed 4 (some FieldType.int) 3 0 0 [.ref mb, .int r, .int x, .int y] H (fun ans H' => ans = some (.int (op_agreed (n, t, rg, g) r x y).1) ∧ sm_HS G mb (op_agreed (n, t, rg, g) r x y).2 H' ∧ sm_F mb H H') := by
  refine xC.start (by decide) (Nat.le_of_ble_eq_true rfl) ?_
  intro p e s m args below meth c ls E hnm hs0 hl
  obtain ⟨hx, hb, hml, hown, hts, hr, hlocks, hK, hbs⟩ := id E
  have hl : lv_has ls 4 [(0, .ref mb), (1, .int r), (2, .int x), (3, .int y)] := hl
  obtain ⟨so, on, tw, th, ce, kb, li, re, ns, hM, hR, hQ, hns, hg⟩ := id hH
  obtain ⟨hm0, hmn, hX, h1, h2, h3, h4, h5, h6, h7, h8, h9⟩ := id hM
  obtain ⟨hRt, hRr, hRg, hRw⟩ := id hR
  have hF : sm_F mb H H := sm_F.rf
  refine xl (fun _ => lv_iload_n hx hb dX2_agreed_0 rfl (lv_at hl 1 rfl)) ?_
  refine x_callS E hl (c_X2_isRegister l G H r) xm_yX2_isRegister wMX2_46 wS_yX2_isRegister (rest := []) rfl (by decide) (by decide) ⟨by decide, by decide⟩ dX2_agreed_1 (x_pure (r := .int (bI (sp_ir r))) (st1 := []) ?_)
  refine xb (fun _ => lv_if_eq (tgt := 52) hx hb dX2_agreed_4 (by decide)) (fun c_4 => ?_) (fun c_4 => ?_)
  · have c_4 := bI_f c_4
    refine xl (fun _ => lv_iconst (v := (-1)) hx hb dX2_agreed_52 (by decide)) ?_
    exact x_iret hx hb hr hlocks hs0 hbs (by decide) (by decide) dX2_agreed_53 (⟨by simp only [op_agreed, mi_no c_4]; (repeat' split) <;> rfl, by simp only [op_agreed, mi_no c_4]; (repeat' split) <;> exact hH, sm_F.rf⟩)
  · have c_4 := bI_t c_4
    obtain ⟨rr, hrr, rfl⟩ := sp_ir_of c_4
    refine xl (fun _ => lv_aload_n hx hb dX2_agreed_7 rfl (lv_at hl 0 rfl)) ?_
    refine xl (fun _ => lv_iload_n hx hb dX2_agreed_8 rfl (lv_at hl 2 rfl)) ?_
    refine xl (fun _ => lv_iconst (v := 1) hx hb dX2_agreed_9 (by decide)) ?_
    refine x_callV E hl (c_X2_has l G H mb n _ _ _ _ _ _ _ _ _ _ ⟨hm0, hmn, hX, h1, h2, h3, h4, h5, h6, h7, h8, h9⟩ t rg hR x 1) xm_yX2_has wMX2_60 wI_yX2_has wT_yX2_has (ci := 2) rfl rfl hX (rest := []) rfl (by decide) (by decide) ⟨by decide, by decide⟩ dX2_agreed_10 (x_pure (r := .int (bI (sp_rs t rg x 1).isSome)) (st1 := []) ?_)
    refine xb (fun _ => lv_if_eq (tgt := 52) hx hb dX2_agreed_13 (by decide)) (fun c_13 => ?_) (fun c_13 => ?_)
    · have c_13 := bI_f c_13
      have hs_13 := isN c_13
      refine xl (fun _ => lv_iconst (v := (-1)) hx hb dX2_agreed_52 (by decide)) ?_
      exact x_iret hx hb hr hlocks hs0 hbs (by decide) (by decide) dX2_agreed_53 (⟨by simp only [op_agreed, hs_13, reduceIte, Bool.false_eq_true, and_true, true_and, and_false, false_and, and_self, not_true_eq_false, not_false_eq_true], by simp only [op_agreed, hs_13, reduceIte, Bool.false_eq_true, and_true, true_and, and_false, false_and, and_self, not_true_eq_false, not_false_eq_true]; exact hH, sm_F.rf⟩)
    · have c_13 := bI_t c_13
      obtain ⟨i, hs_13⟩ := isS c_13
      obtain ⟨j_x, hj_x, he_x, hg_x⟩ := sp_rg_s (sp_rs_of hs_13).1
      have hi_i : i < n := hRg j_x hj_x i hg_x
      have hr_x : re j_x = nI (i + 1) := by rw [hRr j_x hj_x, hg_x]; rfl
      refine xl (fun _ => lv_aload_n hx hb dX2_agreed_16 rfl (lv_at hl 0 rfl)) ?_
      refine xl (fun _ => lv_iload_n hx hb dX2_agreed_17 rfl (lv_at hl 3 rfl)) ?_
      refine xl (fun _ => lv_iconst (v := 2) hx hb dX2_agreed_18 (by decide)) ?_
      refine x_callV E hl (c_X2_has l G H mb n _ _ _ _ _ _ _ _ _ _ ⟨hm0, hmn, hX, h1, h2, h3, h4, h5, h6, h7, h8, h9⟩ t rg hR y 2) xm_yX2_has wMX2_60 wI_yX2_has wT_yX2_has (ci := 2) rfl rfl hX (rest := []) rfl (by decide) (by decide) ⟨by decide, by decide⟩ dX2_agreed_19 (x_pure (r := .int (bI (sp_rs t rg y 2).isSome)) (st1 := []) ?_)
      refine xb (fun _ => lv_if_eq (tgt := 52) hx hb dX2_agreed_22 (by decide)) (fun c_22 => ?_) (fun c_22 => ?_)
      · have c_22 := bI_f c_22
        have hs_22 := isN c_22
        refine xl (fun _ => lv_iconst (v := (-1)) hx hb dX2_agreed_52 (by decide)) ?_
        exact x_iret hx hb hr hlocks hs0 hbs (by decide) (by decide) dX2_agreed_53 (⟨by simp only [op_agreed, hs_13, hs_22, reduceIte, Bool.false_eq_true, and_true, true_and, and_false, false_and, and_self, not_true_eq_false, not_false_eq_true], by simp only [op_agreed, hs_13, hs_22, reduceIte, Bool.false_eq_true, and_true, true_and, and_false, false_and, and_self, not_true_eq_false, not_false_eq_true]; exact hH, sm_F.rf⟩)
      · have c_22 := bI_t c_22
        obtain ⟨j, hs_22⟩ := isS c_22
        obtain ⟨j_y, hj_y, he_y, hg_y⟩ := sp_rg_s (sp_rs_of hs_22).1
        have hi_j : j < n := hRg j_y hj_y j hg_y
        have hr_y : re j_y = nI (j + 1) := by rw [hRr j_y hj_y, hg_y]; rfl
        have hj2 := (sp_rs_of hs_22).2
        obtain ⟨k, hk0, hkj, hk1⟩ := sp_wf2 (hRw j hi_j) hj2
        have hi_k : k < n := by omega
        have hoj : on j = nI (k + 1) := by rw [(hRt j hi_j).2.1 (by rw [hj2]; decide), (e_2 hj2).1, hk0]; rfl
        refine xl (fun _ => lv_aload_n hx hb dX2_agreed_25 rfl (lv_at hl 0 rfl)) ?_
        refine xl (fun _ => lv_iload_n hx hb dX2_agreed_26 rfl (lv_at hl 1 rfl)) ?_
        refine xl (fun _ => lv_aload_n hx hb dX2_agreed_27 rfl (lv_at hl 0 rfl)) ?_
        refine x_get (ci := 2) hx hb hts hown hK wiX2 hX rfl 9 (by decide) wFX2_35 rfl rfl dX2_agreed_28 ?_
        refine xl (fun _ => lv_iload_n hx hb dX2_agreed_31 rfl (lv_at hl 2 rfl)) ?_
        refine x_iald hx hb hK h9 j_x (he_x) (by have := hj_x; omega) (by decide) dX2_agreed_32 ?_
        rw [show (re j_x) = (nI (i + 1)) from hr_x]
        refine xl (fun _ => lv_aload_n hx hb dX2_agreed_33 rfl (lv_at hl 0 rfl)) ?_
        refine x_get (ci := 2) hx hb hts hown hK wiX2 hX rfl 2 (by decide) wFX2_13 rfl rfl dX2_agreed_34 ?_
        refine xl (fun _ => lv_aload_n hx hb dX2_agreed_37 rfl (lv_at hl 0 rfl)) ?_
        refine x_get (ci := 2) hx hb hts hown hK wiX2 hX rfl 9 (by decide) wFX2_35 rfl rfl dX2_agreed_38 ?_
        refine xl (fun _ => lv_iload_n hx hb dX2_agreed_41 rfl (lv_at hl 3 rfl)) ?_
        refine x_iald hx hb hK h9 j_y (he_y) (by have := hj_y; omega) (by decide) dX2_agreed_42 ?_
        rw [show (re j_y) = (nI (j + 1)) from hr_y]
        refine xl (fun _ => lv_iconst (v := 1) hx hb dX2_agreed_43 (by decide)) ?_
        refine xl (fun _ => lv_isub hx hb dX2_agreed_44) ?_
        rw [show ((nI (j + 1)) - 1) = (nI j) from nI_pred j]
        refine x_iald hx hb hK h2 j (rfl) (by omega) (by decide) dX2_agreed_45 ?_
        rw [show (on j) = (nI (k + 1)) from hoj]
        refine x_callV E hl (c_X2_share l G H mb n _ _ _ _ _ _ _ _ _ _ ⟨hm0, hmn, hX, h1, h2, h3, h4, h5, h6, h7, h8, h9⟩ t rg hR g i k hi_i hi_k ((sp_rs_of hs_13).2) (hk1) rr hrr ns hQ hn1) xm_yX2_share wMX2_64 wI_yX2_share wT_yX2_share (ci := 2) rfl rfl hX (rest := []) rfl (by decide) (by decide) ⟨by decide, by decide⟩ dX2_agreed_46 (fun v_1 H_2 hp_3 hz_4 hq_5 => ?_)
        obtain ⟨rfl, ⟨so2, on2, tw2, th2, ce2, re2, hM2, hR2, hQ2⟩, hF2⟩ := hp_3
        refine xg (g2 := F0 m 49 ls [.int 1]) rfl ?_
        have hH2 : sm_HS G mb (sp_mkS (n, t, rg, g) rr (sp_sd i k)) H_2 := by
          unfold sm_HS
          rw [show (sp_mkS (n, t, rg, g) rr (sp_sd i k)).2.2.2 = g from mkS_le.2]
          exact ⟨_, _, _, _, _, _, _, _, ns, hM2, hR2, hQ2, Nat.le_trans hns mkS_le.1, fun i h => Nat.lt_of_lt_of_le (hg i h) mkS_le.1⟩
        refine xl (fun _ => lv_goto (tgt := 53) hx hb dX2_agreed_49 (by decide)) ?_
        exact x_iret hx hb hr hlocks hs0 hbs (by decide) (by decide) dX2_agreed_53 (⟨by simp only [op_agreed, hs_13, hs_22, hk0, reduceIte, Bool.false_eq_true, and_true, true_and, and_false, false_and, and_self, not_true_eq_false, not_false_eq_true]; rw [sp_mi_nI hrr], by simp only [op_agreed, hs_13, hs_22, hk0, reduceIte, Bool.false_eq_true, and_true, true_and, and_false, false_and, and_self, not_true_eq_false, not_false_eq_true]; rw [sp_mi_nI hrr]; exact hH2, hF.tr hF2⟩)

set_option maxHeartbeats 4000000 in
set_option maxRecDepth 100000 in
theorem c_X2_mix (l : Launch) (G : sg_G) (H : Heap) (mb n : Nat) (t : Nat → sp_T) (rg : Nat → Option Nat) (g : Nat → Prop) (hH : sm_H G mb n t rg g H) (hn1 : n < 512) (r q x y : Int32) : xC l G yX2_mix cX2_mix 5 (some FieldType.int) 2 0 0 [.ref mb, .int r, .int q, .int x, .int y] H (fun ans H' => ans = some (.int (op_mix (n, t, rg, g) r q x y).1) ∧ sm_HS G mb (op_mix (n, t, rg, g) r q x y).2 H' ∧ sm_F mb H H') := by
  refine xC.start (by decide) (Nat.le_of_ble_eq_true rfl) ?_
  intro p e s m args below meth c ls E hnm hs0 hl
  obtain ⟨hx, hb, hml, hown, hts, hr, hlocks, hK, hbs⟩ := id E
  have hl : lv_has ls 5 [(0, .ref mb), (1, .int r), (2, .int q), (3, .int x), (4, .int y)] := hl
  obtain ⟨so, on, tw, th, ce, kb, li, re, ns, hM, hR, hQ, hns, hg⟩ := id hH
  obtain ⟨hm0, hmn, hX, h1, h2, h3, h4, h5, h6, h7, h8, h9⟩ := id hM
  obtain ⟨hRt, hRr, hRg, hRw⟩ := id hR
  have hF : sm_F mb H H := sm_F.rf
  refine xl (fun _ => lv_iload_n hx hb dX2_mix_0 rfl (lv_at hl 1 rfl)) ?_
  refine x_callS E hl (c_X2_isRegister l G H r) xm_yX2_isRegister wMX2_46 wS_yX2_isRegister (rest := []) rfl (by decide) (by decide) ⟨by decide, by decide⟩ dX2_mix_1 (x_pure (r := .int (bI (sp_ir r))) (st1 := []) ?_)
  refine xb (fun _ => lv_if_eq (tgt := 40) hx hb dX2_mix_4 (by decide)) (fun c_4 => ?_) (fun c_4 => ?_)
  · have c_4 := bI_f c_4
    refine xl (fun _ => lv_iconst (v := (-1)) hx hb dX2_mix_40 (by decide)) ?_
    exact x_iret hx hb hr hlocks hs0 hbs (by decide) (by decide) dX2_mix_41 (⟨by simp only [op_mix, mi_no c_4]; (repeat' split) <;> rfl, by simp only [op_mix, mi_no c_4]; (repeat' split) <;> exact hH, sm_F.rf⟩)
  · have c_4 := bI_t c_4
    obtain ⟨rr, hrr, rfl⟩ := sp_ir_of c_4
    refine xl (fun _ => lv_iload_n hx hb dX2_mix_7 rfl (lv_at hl 2 rfl)) ?_
    refine xb (fun _ => lv_if_lt (tgt := 40) hx hb dX2_mix_8 (by decide)) (fun c_8 => ?_) (fun c_8 => ?_)
    · refine xl (fun _ => lv_iconst (v := (-1)) hx hb dX2_mix_40 (by decide)) ?_
      exact x_iret hx hb hr hlocks hs0 hbs (by decide) (by decide) dX2_mix_41 (⟨by simp only [op_mix, c_8, reduceIte, Bool.false_eq_true, and_true, true_and, and_false, false_and, and_self, not_true_eq_false, not_false_eq_true], by simp only [op_mix, c_8, reduceIte, Bool.false_eq_true, and_true, true_and, and_false, false_and, and_self, not_true_eq_false, not_false_eq_true]; exact hH, sm_F.rf⟩)
    · refine xl (fun _ => lv_iload_n hx hb dX2_mix_11 rfl (lv_at hl 2 rfl)) ?_
      refine xl (fun _ => lv_bipush (v := 9) hx hb dX2_mix_12 (by decide)) ?_
      refine xb (fun _ => lv_icmp_gt (tgt := 40) hx hb dX2_mix_14 (by decide)) (fun c_14 => ?_) (fun c_14 => ?_)
      · refine xl (fun _ => lv_iconst (v := (-1)) hx hb dX2_mix_40 (by decide)) ?_
        exact x_iret hx hb hr hlocks hs0 hbs (by decide) (by decide) dX2_mix_41 (⟨by simp only [op_mix, c_8, c_14, reduceIte, Bool.false_eq_true, and_true, true_and, and_false, false_and, and_self, not_true_eq_false, not_false_eq_true], by simp only [op_mix, c_8, c_14, reduceIte, Bool.false_eq_true, and_true, true_and, and_false, false_and, and_self, not_true_eq_false, not_false_eq_true]; exact hH, sm_F.rf⟩)
      · refine xl (fun _ => lv_aload_n hx hb dX2_mix_17 rfl (lv_at hl 0 rfl)) ?_
        refine xl (fun _ => lv_iload_n hx hb dX2_mix_18 rfl (lv_at hl 3 rfl)) ?_
        refine x_callV E hl (c_X2_holds l G H mb n _ _ _ _ _ _ _ _ _ _ ⟨hm0, hmn, hX, h1, h2, h3, h4, h5, h6, h7, h8, h9⟩ t rg hR x) xm_yX2_holds wMX2_50 wI_yX2_holds wT_yX2_holds (ci := 2) rfl rfl hX (rest := []) rfl (by decide) (by decide) ⟨by decide, by decide⟩ dX2_mix_19 (x_pure (r := .int (bI (sp_rg rg x).isSome)) (st1 := []) ?_)
        refine xb (fun _ => lv_if_eq (tgt := 40) hx hb dX2_mix_22 (by decide)) (fun c_22 => ?_) (fun c_22 => ?_)
        · have c_22 := bI_f c_22
          have hs_22 := isN c_22
          refine xl (fun _ => lv_iconst (v := (-1)) hx hb dX2_mix_40 (by decide)) ?_
          exact x_iret hx hb hr hlocks hs0 hbs (by decide) (by decide) dX2_mix_41 (⟨by simp only [op_mix, c_8, c_14, hs_22, reduceIte, Bool.false_eq_true, and_true, true_and, and_false, false_and, and_self, not_true_eq_false, not_false_eq_true], by simp only [op_mix, c_8, c_14, hs_22, reduceIte, Bool.false_eq_true, and_true, true_and, and_false, false_and, and_self, not_true_eq_false, not_false_eq_true]; exact hH, sm_F.rf⟩)
        · have c_22 := bI_t c_22
          obtain ⟨i, hs_22⟩ := isS c_22
          obtain ⟨j_x, hj_x, he_x, hg_x⟩ := sp_rg_s hs_22
          have hi_i : i < n := hRg j_x hj_x i hg_x
          have hr_x : re j_x = nI (i + 1) := by rw [hRr j_x hj_x, hg_x]; rfl
          refine xl (fun _ => lv_iload hx hb dX2_mix_25 (lv_at hl 4 rfl)) ?_
          refine xl (fun _ => lv_iconst (v := (-1)) hx hb dX2_mix_27 (by decide)) ?_
          refine xb (fun _ => lv_icmp_eq (tgt := 42) hx hb dX2_mix_28 (by decide)) (fun c_28 => ?_) (fun c_28 => ?_)
          · have hyn : sp_rg rg y = none := by rw [c_28]; exact sp_rg_m1
            have htn : sp_tn rg y = true := by simp [sp_tn, c_28]
            refine xl (fun _ => lv_aload_n hx hb dX2_mix_42 rfl (lv_at hl 0 rfl)) ?_
            refine xl (fun _ => lv_iload_n hx hb dX2_mix_43 rfl (lv_at hl 1 rfl)) ?_
            refine xl (fun _ => lv_iconst (v := 4) hx hb dX2_mix_44 (by decide)) ?_
            refine xl (fun _ => lv_iload_n hx hb dX2_mix_45 rfl (lv_at hl 2 rfl)) ?_
            refine xl (fun _ => lv_aload_n hx hb dX2_mix_46 rfl (lv_at hl 0 rfl)) ?_
            refine x_get (ci := 2) hx hb hts hown hK wiX2 hX rfl 9 (by decide) wFX2_35 rfl rfl dX2_mix_47 ?_
            refine xl (fun _ => lv_iload_n hx hb dX2_mix_50 rfl (lv_at hl 3 rfl)) ?_
            refine x_iald hx hb hK h9 j_x (he_x) (by have := hj_x; omega) (by decide) dX2_mix_51 ?_
            rw [show (re j_x) = (nI (i + 1)) from hr_x]
            refine xl (fun _ => lv_iload hx hb dX2_mix_52 (lv_at hl 4 rfl)) ?_
            refine xl (fun _ => lv_iconst (v := (-1)) hx hb dX2_mix_54 (by decide)) ?_
            refine xb (fun _ => lv_icmp_ne (tgt := 62) hx hb dX2_mix_55 (by decide)) (fun c_55 => ?_) (fun c_55 => ?_)
            · exact absurd c_28 c_55
            · refine xl (fun _ => lv_iconst (v := 0) hx hb dX2_mix_58 (by decide)) ?_
              refine xl (fun _ => lv_goto (tgt := 69) hx hb dX2_mix_59 (by decide)) ?_
              refine x_callV E hl (c_X2_put l G H mb n _ _ _ _ _ _ _ _ _ _ ⟨hm0, hmn, hX, h1, h2, h3, h4, h5, h6, h7, h8, h9⟩ t rg hR g (4, q, z4, sp_p4 (some i) (sp_rg rg y) none) (wf_mix hi_i (fun j e => by obtain ⟨jj, hjj, -, hjg⟩ := sp_rg_s e; exact hRg jj hjj j hjg)) rr hrr 4 q (nI (i + 1)) 0 rfl (fun _ => (e_4 (d := (4, q, z4, sp_p4 (some i) (sp_rg rg y) none)) rfl).1.symm) ((e_4 (d := (4, q, z4, sp_p4 (some i) (sp_rg rg y) none)) rfl).2.1.symm) (by rw [(e_4 (d := (4, q, z4, sp_p4 (some i) (sp_rg rg y) none)) rfl).2.2]; show 0 = px (sp_rg rg y); rw [hyn]; rfl) (fun z => absurd z (show ¬ (4 : Int32) = 7 by decide)) ns hQ (fun z => absurd z (show ¬ (4 : Int32) = 1 by decide)) hn1) xm_yX2_put wMX2_56 wI_yX2_put wT_yX2_put (ci := 2) rfl rfl hX (rest := []) rfl (by decide) (by decide) ⟨by decide, by decide⟩ dX2_mix_69 (fun v_1 H_2 hp_3 hz_4 hq_5 => ?_)
              obtain ⟨rfl, ⟨so2, on2, tw2, th2, ce2, re2, hM2, hR2, hQ2⟩, hF2⟩ := hp_3
              refine xg (g2 := F0 m 72 ls [.int 1]) rfl ?_
              have hH2 : sm_HS G mb (sp_mkS (n, t, rg, g) rr (4, q, z4, sp_p4 (some i) (sp_rg rg y) none)) H_2 := by
                unfold sm_HS
                rw [show (sp_mkS (n, t, rg, g) rr (4, q, z4, sp_p4 (some i) (sp_rg rg y) none)).2.2.2 = g from mkS_le.2]
                exact ⟨_, _, _, _, _, _, _, _, ns, hM2, hR2, hQ2, Nat.le_trans hns mkS_le.1, fun i h => Nat.lt_of_lt_of_le (hg i h) mkS_le.1⟩
              exact x_iret hx hb hr hlocks hs0 hbs (by decide) (by decide) dX2_mix_72 (⟨by simp only [op_mix, c_8, c_14, hs_22, htn, reduceIte, Bool.false_eq_true, and_true, true_and, and_false, false_and, and_self, not_true_eq_false, not_false_eq_true]; rw [sp_mi_nI hrr], by simp only [op_mix, c_8, c_14, hs_22, htn, reduceIte, Bool.false_eq_true, and_true, true_and, and_false, false_and, and_self, not_true_eq_false, not_false_eq_true]; rw [sp_mi_nI hrr]; exact hH2, hF.tr hF2⟩)
          · refine xl (fun _ => lv_aload_n hx hb dX2_mix_31 rfl (lv_at hl 0 rfl)) ?_
            refine xl (fun _ => lv_iload hx hb dX2_mix_32 (lv_at hl 4 rfl)) ?_
            refine x_callV E hl (c_X2_holds l G H mb n _ _ _ _ _ _ _ _ _ _ ⟨hm0, hmn, hX, h1, h2, h3, h4, h5, h6, h7, h8, h9⟩ t rg hR y) xm_yX2_holds wMX2_50 wI_yX2_holds wT_yX2_holds (ci := 2) rfl rfl hX (rest := []) rfl (by decide) (by decide) ⟨by decide, by decide⟩ dX2_mix_34 (x_pure (r := .int (bI (sp_rg rg y).isSome)) (st1 := []) ?_)
            refine xb (fun _ => lv_if_ne (tgt := 42) hx hb dX2_mix_37 (by decide)) (fun c_37 => ?_) (fun c_37 => ?_)
            · have c_37 := bI_t c_37
              obtain ⟨j, hs_37⟩ := isS c_37
              obtain ⟨j_y, hj_y, he_y, hg_y⟩ := sp_rg_s hs_37
              have hi_j : j < n := hRg j_y hj_y j hg_y
              have hr_y : re j_y = nI (j + 1) := by rw [hRr j_y hj_y, hg_y]; rfl
              have htn : sp_tn rg y = true := by simp [sp_tn, hs_37]
              refine xl (fun _ => lv_aload_n hx hb dX2_mix_42 rfl (lv_at hl 0 rfl)) ?_
              refine xl (fun _ => lv_iload_n hx hb dX2_mix_43 rfl (lv_at hl 1 rfl)) ?_
              refine xl (fun _ => lv_iconst (v := 4) hx hb dX2_mix_44 (by decide)) ?_
              refine xl (fun _ => lv_iload_n hx hb dX2_mix_45 rfl (lv_at hl 2 rfl)) ?_
              refine xl (fun _ => lv_aload_n hx hb dX2_mix_46 rfl (lv_at hl 0 rfl)) ?_
              refine x_get (ci := 2) hx hb hts hown hK wiX2 hX rfl 9 (by decide) wFX2_35 rfl rfl dX2_mix_47 ?_
              refine xl (fun _ => lv_iload_n hx hb dX2_mix_50 rfl (lv_at hl 3 rfl)) ?_
              refine x_iald hx hb hK h9 j_x (he_x) (by have := hj_x; omega) (by decide) dX2_mix_51 ?_
              rw [show (re j_x) = (nI (i + 1)) from hr_x]
              refine xl (fun _ => lv_iload hx hb dX2_mix_52 (lv_at hl 4 rfl)) ?_
              refine xl (fun _ => lv_iconst (v := (-1)) hx hb dX2_mix_54 (by decide)) ?_
              refine xb (fun _ => lv_icmp_ne (tgt := 62) hx hb dX2_mix_55 (by decide)) (fun c_55 => ?_) (fun c_55 => ?_)
              · refine xl (fun _ => lv_aload_n hx hb dX2_mix_62 rfl (lv_at hl 0 rfl)) ?_
                refine x_get (ci := 2) hx hb hts hown hK wiX2 hX rfl 9 (by decide) wFX2_35 rfl rfl dX2_mix_63 ?_
                refine xl (fun _ => lv_iload hx hb dX2_mix_66 (lv_at hl 4 rfl)) ?_
                refine x_iald hx hb hK h9 j_y (he_y) (by have := hj_y; omega) (by decide) dX2_mix_68 ?_
                rw [show (re j_y) = (nI (j + 1)) from hr_y]
                refine x_callV E hl (c_X2_put l G H mb n _ _ _ _ _ _ _ _ _ _ ⟨hm0, hmn, hX, h1, h2, h3, h4, h5, h6, h7, h8, h9⟩ t rg hR g (4, q, z4, sp_p4 (some i) (sp_rg rg y) none) (wf_mix hi_i (fun j e => by obtain ⟨jj, hjj, -, hjg⟩ := sp_rg_s e; exact hRg jj hjj j hjg)) rr hrr 4 q (nI (i + 1)) (nI (j + 1)) rfl (fun _ => (e_4 (d := (4, q, z4, sp_p4 (some i) (sp_rg rg y) none)) rfl).1.symm) ((e_4 (d := (4, q, z4, sp_p4 (some i) (sp_rg rg y) none)) rfl).2.1.symm) (by rw [(e_4 (d := (4, q, z4, sp_p4 (some i) (sp_rg rg y) none)) rfl).2.2]; show (nI (j + 1)) = px (sp_rg rg y); rw [hs_37]; rfl) (fun z => absurd z (show ¬ (4 : Int32) = 7 by decide)) ns hQ (fun z => absurd z (show ¬ (4 : Int32) = 1 by decide)) hn1) xm_yX2_put wMX2_56 wI_yX2_put wT_yX2_put (ci := 2) rfl rfl hX (rest := []) rfl (by decide) (by decide) ⟨by decide, by decide⟩ dX2_mix_69 (fun v_6 H_7 hp_8 hz_9 hq_10 => ?_)
                obtain ⟨rfl, ⟨so2, on2, tw2, th2, ce2, re2, hM2, hR2, hQ2⟩, hF2⟩ := hp_8
                refine xg (g2 := F0 m 72 ls [.int 1]) rfl ?_
                have hH2 : sm_HS G mb (sp_mkS (n, t, rg, g) rr (4, q, z4, sp_p4 (some i) (sp_rg rg y) none)) H_7 := by
                  unfold sm_HS
                  rw [show (sp_mkS (n, t, rg, g) rr (4, q, z4, sp_p4 (some i) (sp_rg rg y) none)).2.2.2 = g from mkS_le.2]
                  exact ⟨_, _, _, _, _, _, _, _, ns, hM2, hR2, hQ2, Nat.le_trans hns mkS_le.1, fun i h => Nat.lt_of_lt_of_le (hg i h) mkS_le.1⟩
                exact x_iret hx hb hr hlocks hs0 hbs (by decide) (by decide) dX2_mix_72 (⟨by simp only [op_mix, c_8, c_14, hs_22, htn, reduceIte, Bool.false_eq_true, and_true, true_and, and_false, false_and, and_self, not_true_eq_false, not_false_eq_true]; rw [sp_mi_nI hrr], by simp only [op_mix, c_8, c_14, hs_22, htn, reduceIte, Bool.false_eq_true, and_true, true_and, and_false, false_and, and_self, not_true_eq_false, not_false_eq_true]; rw [sp_mi_nI hrr]; exact hH2, hF.tr hF2⟩)
              · exact absurd c_55 c_28
            · have c_37 := bI_f c_37
              have htn : sp_tn rg y = false := by simp [sp_tn, isN c_37, c_28]
              refine xl (fun _ => lv_iconst (v := (-1)) hx hb dX2_mix_40 (by decide)) ?_
              exact x_iret hx hb hr hlocks hs0 hbs (by decide) (by decide) dX2_mix_41 (⟨by simp only [op_mix, c_8, c_14, hs_22, htn, reduceIte, Bool.false_eq_true, and_true, true_and, and_false, false_and, and_self, not_true_eq_false, not_false_eq_true], by simp only [op_mix, c_8, c_14, hs_22, htn, reduceIte, Bool.false_eq_true, and_true, true_and, and_false, false_and, and_self, not_true_eq_false, not_false_eq_true]; exact hH, sm_F.rf⟩)

set_option maxHeartbeats 4000000 in
set_option maxRecDepth 100000 in
theorem c_X2_sealed (l : Launch) (G : sg_G) (H : Heap) (mb n : Nat) (t : Nat → sp_T) (rg : Nat → Option Nat) (g : Nat → Prop) (hH : sm_H G mb n t rg g H) (hn1 : n < 512) (r k h q : Int32) : xC l G yX2_sealed cX2_sealed 5 (some FieldType.int) 2 0 0 [.ref mb, .int r, .int k, .int h, .int q] H (fun ans H' => ans = some (.int (op_sealed (n, t, rg, g) r k h q).1) ∧ sm_HS G mb (op_sealed (n, t, rg, g) r k h q).2 H' ∧ sm_F mb H H') := by
  refine xC.start (by decide) (Nat.le_of_ble_eq_true rfl) ?_
  intro p e s m args below meth c ls E hnm hs0 hl
  obtain ⟨hx, hb, hml, hown, hts, hr, hlocks, hK, hbs⟩ := id E
  have hl : lv_has ls 5 [(0, .ref mb), (1, .int r), (2, .int k), (3, .int h), (4, .int q)] := hl
  obtain ⟨so, on, tw, th, ce, kb, li, re, ns, hM, hR, hQ, hns, hg⟩ := id hH
  obtain ⟨hm0, hmn, hX, h1, h2, h3, h4, h5, h6, h7, h8, h9⟩ := id hM
  obtain ⟨hRt, hRr, hRg, hRw⟩ := id hR
  have hF : sm_F mb H H := sm_F.rf
  refine xl (fun _ => lv_iload_n hx hb dX2_sealed_0 rfl (lv_at hl 1 rfl)) ?_
  refine x_callS E hl (c_X2_isRegister l G H r) xm_yX2_isRegister wMX2_46 wS_yX2_isRegister (rest := []) rfl (by decide) (by decide) ⟨by decide, by decide⟩ dX2_sealed_1 (x_pure (r := .int (bI (sp_ir r))) (st1 := []) ?_)
  refine xb (fun _ => lv_if_eq (tgt := 60) hx hb dX2_sealed_4 (by decide)) (fun c_4 => ?_) (fun c_4 => ?_)
  · have c_4 := bI_f c_4
    refine xl (fun _ => lv_iconst (v := (-1)) hx hb dX2_sealed_60 (by decide)) ?_
    exact x_iret hx hb hr hlocks hs0 hbs (by decide) (by decide) dX2_sealed_61 (⟨by simp only [op_sealed, mi_no c_4]; (repeat' split) <;> rfl, by simp only [op_sealed, mi_no c_4]; (repeat' split) <;> exact hH, sm_F.rf⟩)
  · have c_4 := bI_t c_4
    obtain ⟨rr, hrr, rfl⟩ := sp_ir_of c_4
    refine xl (fun _ => lv_aload_n hx hb dX2_sealed_7 rfl (lv_at hl 0 rfl)) ?_
    refine xl (fun _ => lv_iload_n hx hb dX2_sealed_8 rfl (lv_at hl 2 rfl)) ?_
    refine x_callV E hl (c_X2_holds l G H mb n _ _ _ _ _ _ _ _ _ _ ⟨hm0, hmn, hX, h1, h2, h3, h4, h5, h6, h7, h8, h9⟩ t rg hR k) xm_yX2_holds wMX2_50 wI_yX2_holds wT_yX2_holds (ci := 2) rfl rfl hX (rest := []) rfl (by decide) (by decide) ⟨by decide, by decide⟩ dX2_sealed_9 (x_pure (r := .int (bI (sp_rg rg k).isSome)) (st1 := []) ?_)
    refine xb (fun _ => lv_if_eq (tgt := 60) hx hb dX2_sealed_12 (by decide)) (fun c_12 => ?_) (fun c_12 => ?_)
    · have c_12 := bI_f c_12
      have hs_12 := isN c_12
      refine xl (fun _ => lv_iconst (v := (-1)) hx hb dX2_sealed_60 (by decide)) ?_
      exact x_iret hx hb hr hlocks hs0 hbs (by decide) (by decide) dX2_sealed_61 (⟨by simp only [op_sealed, hs_12, reduceIte, Bool.false_eq_true, and_true, true_and, and_false, false_and, and_self, not_true_eq_false, not_false_eq_true], by simp only [op_sealed, hs_12, reduceIte, Bool.false_eq_true, and_true, true_and, and_false, false_and, and_self, not_true_eq_false, not_false_eq_true]; exact hH, sm_F.rf⟩)
    · have c_12 := bI_t c_12
      obtain ⟨i, hs_12⟩ := isS c_12
      obtain ⟨j_k, hj_k, he_k, hg_k⟩ := sp_rg_s hs_12
      have hi_i : i < n := hRg j_k hj_k i hg_k
      have hr_k : re j_k = nI (i + 1) := by rw [hRr j_k hj_k, hg_k]; rfl
      refine xl (fun _ => lv_aload_n hx hb dX2_sealed_15 rfl (lv_at hl 0 rfl)) ?_
      refine xl (fun _ => lv_iload_n hx hb dX2_sealed_16 rfl (lv_at hl 3 rfl)) ?_
      refine x_callV E hl (c_X2_holds l G H mb n _ _ _ _ _ _ _ _ _ _ ⟨hm0, hmn, hX, h1, h2, h3, h4, h5, h6, h7, h8, h9⟩ t rg hR h) xm_yX2_holds wMX2_50 wI_yX2_holds wT_yX2_holds (ci := 2) rfl rfl hX (rest := []) rfl (by decide) (by decide) ⟨by decide, by decide⟩ dX2_sealed_17 (x_pure (r := .int (bI (sp_rg rg h).isSome)) (st1 := []) ?_)
      refine xb (fun _ => lv_if_eq (tgt := 60) hx hb dX2_sealed_20 (by decide)) (fun c_20 => ?_) (fun c_20 => ?_)
      · have c_20 := bI_f c_20
        have hs_20 := isN c_20
        refine xl (fun _ => lv_iconst (v := (-1)) hx hb dX2_sealed_60 (by decide)) ?_
        exact x_iret hx hb hr hlocks hs0 hbs (by decide) (by decide) dX2_sealed_61 (⟨by simp only [op_sealed, hs_12, hs_20, reduceIte, Bool.false_eq_true, and_true, true_and, and_false, false_and, and_self, not_true_eq_false, not_false_eq_true], by simp only [op_sealed, hs_12, hs_20, reduceIte, Bool.false_eq_true, and_true, true_and, and_false, false_and, and_self, not_true_eq_false, not_false_eq_true]; exact hH, sm_F.rf⟩)
      · have c_20 := bI_t c_20
        obtain ⟨j, hs_20⟩ := isS c_20
        obtain ⟨j_h, hj_h, he_h, hg_h⟩ := sp_rg_s hs_20
        have hi_j : j < n := hRg j_h hj_h j hg_h
        have hr_h : re j_h = nI (j + 1) := by rw [hRr j_h hj_h, hg_h]; rfl
        refine xl (fun _ => lv_aload_n hx hb dX2_sealed_23 rfl (lv_at hl 0 rfl)) ?_
        refine xl (fun _ => lv_iload hx hb dX2_sealed_24 (lv_at hl 4 rfl)) ?_
        refine x_callV E hl (c_X2_holds l G H mb n _ _ _ _ _ _ _ _ _ _ ⟨hm0, hmn, hX, h1, h2, h3, h4, h5, h6, h7, h8, h9⟩ t rg hR q) xm_yX2_holds wMX2_50 wI_yX2_holds wT_yX2_holds (ci := 2) rfl rfl hX (rest := []) rfl (by decide) (by decide) ⟨by decide, by decide⟩ dX2_sealed_26 (x_pure (r := .int (bI (sp_rg rg q).isSome)) (st1 := []) ?_)
        refine xb (fun _ => lv_if_eq (tgt := 60) hx hb dX2_sealed_29 (by decide)) (fun c_29 => ?_) (fun c_29 => ?_)
        · have c_29 := bI_f c_29
          have hs_29 := isN c_29
          refine xl (fun _ => lv_iconst (v := (-1)) hx hb dX2_sealed_60 (by decide)) ?_
          exact x_iret hx hb hr hlocks hs0 hbs (by decide) (by decide) dX2_sealed_61 (⟨by simp only [op_sealed, hs_12, hs_20, hs_29, reduceIte, Bool.false_eq_true, and_true, true_and, and_false, false_and, and_self, not_true_eq_false, not_false_eq_true], by simp only [op_sealed, hs_12, hs_20, hs_29, reduceIte, Bool.false_eq_true, and_true, true_and, and_false, false_and, and_self, not_true_eq_false, not_false_eq_true]; exact hH, sm_F.rf⟩)
        · have c_29 := bI_t c_29
          obtain ⟨u, hs_29⟩ := isS c_29
          obtain ⟨j_q, hj_q, he_q, hg_q⟩ := sp_rg_s hs_29
          have hi_u : u < n := hRg j_q hj_q u hg_q
          have hr_q : re j_q = nI (u + 1) := by rw [hRr j_q hj_q, hg_q]; rfl
          refine xl (fun _ => lv_aload_n hx hb dX2_sealed_32 rfl (lv_at hl 0 rfl)) ?_
          refine xl (fun _ => lv_iload_n hx hb dX2_sealed_33 rfl (lv_at hl 1 rfl)) ?_
          refine xl (fun _ => lv_iconst (v := 5) hx hb dX2_sealed_34 (by decide)) ?_
          refine xl (fun _ => lv_aload_n hx hb dX2_sealed_35 rfl (lv_at hl 0 rfl)) ?_
          refine x_get (ci := 2) hx hb hts hown hK wiX2 hX rfl 9 (by decide) wFX2_35 rfl rfl dX2_sealed_36 ?_
          refine xl (fun _ => lv_iload_n hx hb dX2_sealed_39 rfl (lv_at hl 2 rfl)) ?_
          refine x_iald hx hb hK h9 j_k (he_k) (by have := hj_k; omega) (by decide) dX2_sealed_40 ?_
          rw [show (re j_k) = (nI (i + 1)) from hr_k]
          refine xl (fun _ => lv_aload_n hx hb dX2_sealed_41 rfl (lv_at hl 0 rfl)) ?_
          refine x_get (ci := 2) hx hb hts hown hK wiX2 hX rfl 9 (by decide) wFX2_35 rfl rfl dX2_sealed_42 ?_
          refine xl (fun _ => lv_iload_n hx hb dX2_sealed_45 rfl (lv_at hl 3 rfl)) ?_
          refine x_iald hx hb hK h9 j_h (he_h) (by have := hj_h; omega) (by decide) dX2_sealed_46 ?_
          rw [show (re j_h) = (nI (j + 1)) from hr_h]
          refine xl (fun _ => lv_aload_n hx hb dX2_sealed_47 rfl (lv_at hl 0 rfl)) ?_
          refine x_get (ci := 2) hx hb hts hown hK wiX2 hX rfl 9 (by decide) wFX2_35 rfl rfl dX2_sealed_48 ?_
          refine xl (fun _ => lv_iload hx hb dX2_sealed_51 (lv_at hl 4 rfl)) ?_
          refine x_iald hx hb hK h9 j_q (he_q) (by have := hj_q; omega) (by decide) dX2_sealed_53 ?_
          rw [show (re j_q) = (nI (u + 1)) from hr_q]
          refine x_callV E hl (c_X2_put l G H mb n _ _ _ _ _ _ _ _ _ _ ⟨hm0, hmn, hX, h1, h2, h3, h4, h5, h6, h7, h8, h9⟩ t rg hR g (5, 0, z4, sp_p4 (some i) (some j) (some u)) (wf_sealed hi_i hi_j hi_u) rr hrr 5 (nI (i + 1)) (nI (j + 1)) (nI (u + 1)) rfl (fun _ => (e_5 (d := (5, 0, z4, sp_p4 (some i) (some j) (some u))) rfl).1.symm) ((e_5 (d := (5, 0, z4, sp_p4 (some i) (some j) (some u))) rfl).2.1.symm) ((e_5 (d := (5, 0, z4, sp_p4 (some i) (some j) (some u))) rfl).2.2.symm) (fun z => absurd z (show ¬ (5 : Int32) = 7 by decide)) ns hQ (fun z => absurd z (show ¬ (5 : Int32) = 1 by decide)) hn1) xm_yX2_put wMX2_56 wI_yX2_put wT_yX2_put (ci := 2) rfl rfl hX (rest := []) rfl (by decide) (by decide) ⟨by decide, by decide⟩ dX2_sealed_54 (fun v_1 H_2 hp_3 hz_4 hq_5 => ?_)
          obtain ⟨rfl, ⟨so2, on2, tw2, th2, ce2, re2, hM2, hR2, hQ2⟩, hF2⟩ := hp_3
          refine xg (g2 := F0 m 57 ls [.int 1]) rfl ?_
          have hH2 : sm_HS G mb (sp_mkS (n, t, rg, g) rr (5, 0, z4, sp_p4 (some i) (some j) (some u))) H_2 := by
            unfold sm_HS
            rw [show (sp_mkS (n, t, rg, g) rr (5, 0, z4, sp_p4 (some i) (some j) (some u))).2.2.2 = g from mkS_le.2]
            exact ⟨_, _, _, _, _, _, _, _, ns, hM2, hR2, hQ2, Nat.le_trans hns mkS_le.1, fun i h => Nat.lt_of_lt_of_le (hg i h) mkS_le.1⟩
          refine xl (fun _ => lv_goto (tgt := 61) hx hb dX2_sealed_57 (by decide)) ?_
          exact x_iret hx hb hr hlocks hs0 hbs (by decide) (by decide) dX2_sealed_61 (⟨by simp only [op_sealed, hs_12, hs_20, hs_29, reduceIte, Bool.false_eq_true, and_true, true_and, and_false, false_and, and_self, not_true_eq_false, not_false_eq_true]; rw [sp_mi_nI hrr], by simp only [op_sealed, hs_12, hs_20, hs_29, reduceIte, Bool.false_eq_true, and_true, true_and, and_false, false_and, and_self, not_true_eq_false, not_false_eq_true]; rw [sp_mi_nI hrr]; exact hH2, hF.tr hF2⟩)

set_option maxHeartbeats 4000000 in
set_option maxRecDepth 100000 in
theorem c_X2_signed (l : Launch) (G : sg_G) (H : Heap) (mb n : Nat) (t : Nat → sp_T) (rg : Nat → Option Nat) (g : Nat → Prop) (hH : sm_H G mb n t rg g H) (hn1 : n < 512) (r x y : Int32) : xC l G yX2_signed cX2_signed 4 (some FieldType.int) 3 0 0 [.ref mb, .int r, .int x, .int y] H (fun ans H' => ans = some (.int (op_signed (n, t, rg, g) r x y).1) ∧ sm_HS G mb (op_signed (n, t, rg, g) r x y).2 H' ∧ sm_F mb H H') := by
  refine xC.start (by decide) (Nat.le_of_ble_eq_true rfl) ?_
  intro p e s m args below meth c ls E hnm hs0 hl
  obtain ⟨hx, hb, hml, hown, hts, hr, hlocks, hK, hbs⟩ := id E
  have hl : lv_has ls 4 [(0, .ref mb), (1, .int r), (2, .int x), (3, .int y)] := hl
  obtain ⟨so, on, tw, th, ce, kb, li, re, ns, hM, hR, hQ, hns, hg⟩ := id hH
  obtain ⟨hm0, hmn, hX, h1, h2, h3, h4, h5, h6, h7, h8, h9⟩ := id hM
  obtain ⟨hRt, hRr, hRg, hRw⟩ := id hR
  have hF : sm_F mb H H := sm_F.rf
  refine xl (fun _ => lv_iload_n hx hb dX2_signed_0 rfl (lv_at hl 1 rfl)) ?_
  refine x_callS E hl (c_X2_isRegister l G H r) xm_yX2_isRegister wMX2_46 wS_yX2_isRegister (rest := []) rfl (by decide) (by decide) ⟨by decide, by decide⟩ dX2_signed_1 (x_pure (r := .int (bI (sp_ir r))) (st1 := []) ?_)
  refine xb (fun _ => lv_if_eq (tgt := 47) hx hb dX2_signed_4 (by decide)) (fun c_4 => ?_) (fun c_4 => ?_)
  · have c_4 := bI_f c_4
    refine xl (fun _ => lv_iconst (v := (-1)) hx hb dX2_signed_47 (by decide)) ?_
    exact x_iret hx hb hr hlocks hs0 hbs (by decide) (by decide) dX2_signed_48 (⟨by simp only [op_signed, mi_no c_4]; (repeat' split) <;> rfl, by simp only [op_signed, mi_no c_4]; (repeat' split) <;> exact hH, sm_F.rf⟩)
  · have c_4 := bI_t c_4
    obtain ⟨rr, hrr, rfl⟩ := sp_ir_of c_4
    refine xl (fun _ => lv_aload_n hx hb dX2_signed_7 rfl (lv_at hl 0 rfl)) ?_
    refine xl (fun _ => lv_iload_n hx hb dX2_signed_8 rfl (lv_at hl 2 rfl)) ?_
    refine xl (fun _ => lv_iconst (v := 1) hx hb dX2_signed_9 (by decide)) ?_
    refine x_callV E hl (c_X2_has l G H mb n _ _ _ _ _ _ _ _ _ _ ⟨hm0, hmn, hX, h1, h2, h3, h4, h5, h6, h7, h8, h9⟩ t rg hR x 1) xm_yX2_has wMX2_60 wI_yX2_has wT_yX2_has (ci := 2) rfl rfl hX (rest := []) rfl (by decide) (by decide) ⟨by decide, by decide⟩ dX2_signed_10 (x_pure (r := .int (bI (sp_rs t rg x 1).isSome)) (st1 := []) ?_)
    refine xb (fun _ => lv_if_eq (tgt := 47) hx hb dX2_signed_13 (by decide)) (fun c_13 => ?_) (fun c_13 => ?_)
    · have c_13 := bI_f c_13
      have hs_13 := isN c_13
      refine xl (fun _ => lv_iconst (v := (-1)) hx hb dX2_signed_47 (by decide)) ?_
      exact x_iret hx hb hr hlocks hs0 hbs (by decide) (by decide) dX2_signed_48 (⟨by simp only [op_signed, hs_13, reduceIte, Bool.false_eq_true, and_true, true_and, and_false, false_and, and_self, not_true_eq_false, not_false_eq_true], by simp only [op_signed, hs_13, reduceIte, Bool.false_eq_true, and_true, true_and, and_false, false_and, and_self, not_true_eq_false, not_false_eq_true]; exact hH, sm_F.rf⟩)
    · have c_13 := bI_t c_13
      obtain ⟨i, hs_13⟩ := isS c_13
      obtain ⟨j_x, hj_x, he_x, hg_x⟩ := sp_rg_s (sp_rs_of hs_13).1
      have hi_i : i < n := hRg j_x hj_x i hg_x
      have hr_x : re j_x = nI (i + 1) := by rw [hRr j_x hj_x, hg_x]; rfl
      refine xl (fun _ => lv_aload_n hx hb dX2_signed_16 rfl (lv_at hl 0 rfl)) ?_
      refine xl (fun _ => lv_iload_n hx hb dX2_signed_17 rfl (lv_at hl 3 rfl)) ?_
      refine x_callV E hl (c_X2_holds l G H mb n _ _ _ _ _ _ _ _ _ _ ⟨hm0, hmn, hX, h1, h2, h3, h4, h5, h6, h7, h8, h9⟩ t rg hR y) xm_yX2_holds wMX2_50 wI_yX2_holds wT_yX2_holds (ci := 2) rfl rfl hX (rest := []) rfl (by decide) (by decide) ⟨by decide, by decide⟩ dX2_signed_18 (x_pure (r := .int (bI (sp_rg rg y).isSome)) (st1 := []) ?_)
      refine xb (fun _ => lv_if_eq (tgt := 47) hx hb dX2_signed_21 (by decide)) (fun c_21 => ?_) (fun c_21 => ?_)
      · have c_21 := bI_f c_21
        have hs_21 := isN c_21
        refine xl (fun _ => lv_iconst (v := (-1)) hx hb dX2_signed_47 (by decide)) ?_
        exact x_iret hx hb hr hlocks hs0 hbs (by decide) (by decide) dX2_signed_48 (⟨by simp only [op_signed, hs_13, hs_21, reduceIte, Bool.false_eq_true, and_true, true_and, and_false, false_and, and_self, not_true_eq_false, not_false_eq_true], by simp only [op_signed, hs_13, hs_21, reduceIte, Bool.false_eq_true, and_true, true_and, and_false, false_and, and_self, not_true_eq_false, not_false_eq_true]; exact hH, sm_F.rf⟩)
      · have c_21 := bI_t c_21
        obtain ⟨j, hs_21⟩ := isS c_21
        obtain ⟨j_y, hj_y, he_y, hg_y⟩ := sp_rg_s hs_21
        have hi_j : j < n := hRg j_y hj_y j hg_y
        have hr_y : re j_y = nI (j + 1) := by rw [hRr j_y hj_y, hg_y]; rfl
        refine xl (fun _ => lv_aload_n hx hb dX2_signed_24 rfl (lv_at hl 0 rfl)) ?_
        refine xl (fun _ => lv_iload_n hx hb dX2_signed_25 rfl (lv_at hl 1 rfl)) ?_
        refine xl (fun _ => lv_bipush (v := 6) hx hb dX2_signed_26 (by decide)) ?_
        refine xl (fun _ => lv_aload_n hx hb dX2_signed_28 rfl (lv_at hl 0 rfl)) ?_
        refine x_get (ci := 2) hx hb hts hown hK wiX2 hX rfl 9 (by decide) wFX2_35 rfl rfl dX2_signed_29 ?_
        refine xl (fun _ => lv_iload_n hx hb dX2_signed_32 rfl (lv_at hl 2 rfl)) ?_
        refine x_iald hx hb hK h9 j_x (he_x) (by have := hj_x; omega) (by decide) dX2_signed_33 ?_
        rw [show (re j_x) = (nI (i + 1)) from hr_x]
        refine xl (fun _ => lv_aload_n hx hb dX2_signed_34 rfl (lv_at hl 0 rfl)) ?_
        refine x_get (ci := 2) hx hb hts hown hK wiX2 hX rfl 9 (by decide) wFX2_35 rfl rfl dX2_signed_35 ?_
        refine xl (fun _ => lv_iload_n hx hb dX2_signed_38 rfl (lv_at hl 3 rfl)) ?_
        refine x_iald hx hb hK h9 j_y (he_y) (by have := hj_y; omega) (by decide) dX2_signed_39 ?_
        rw [show (re j_y) = (nI (j + 1)) from hr_y]
        refine xl (fun _ => lv_iconst (v := 0) hx hb dX2_signed_40 (by decide)) ?_
        refine x_callV E hl (c_X2_put l G H mb n _ _ _ _ _ _ _ _ _ _ ⟨hm0, hmn, hX, h1, h2, h3, h4, h5, h6, h7, h8, h9⟩ t rg hR g (6, 0, z4, sp_p4 (some i) (some j) none) (wf_signed hi_i hi_j (sp_rs_of hs_13).2) rr hrr 6 (nI (i + 1)) (nI (j + 1)) 0 rfl (fun _ => (e_6 (d := (6, 0, z4, sp_p4 (some i) (some j) none)) rfl).1.symm) ((e_6 (d := (6, 0, z4, sp_p4 (some i) (some j) none)) rfl).2.1.symm) ((e_6 (d := (6, 0, z4, sp_p4 (some i) (some j) none)) rfl).2.2.symm) (fun z => absurd z (show ¬ (6 : Int32) = 7 by decide)) ns hQ (fun z => absurd z (show ¬ (6 : Int32) = 1 by decide)) hn1) xm_yX2_put wMX2_56 wI_yX2_put wT_yX2_put (ci := 2) rfl rfl hX (rest := []) rfl (by decide) (by decide) ⟨by decide, by decide⟩ dX2_signed_41 (fun v_1 H_2 hp_3 hz_4 hq_5 => ?_)
        obtain ⟨rfl, ⟨so2, on2, tw2, th2, ce2, re2, hM2, hR2, hQ2⟩, hF2⟩ := hp_3
        refine xg (g2 := F0 m 44 ls [.int 1]) rfl ?_
        have hH2 : sm_HS G mb (sp_mkS (n, t, rg, g) rr (6, 0, z4, sp_p4 (some i) (some j) none)) H_2 := by
          unfold sm_HS
          rw [show (sp_mkS (n, t, rg, g) rr (6, 0, z4, sp_p4 (some i) (some j) none)).2.2.2 = g from mkS_le.2]
          exact ⟨_, _, _, _, _, _, _, _, ns, hM2, hR2, hQ2, Nat.le_trans hns mkS_le.1, fun i h => Nat.lt_of_lt_of_le (hg i h) mkS_le.1⟩
        refine xl (fun _ => lv_goto (tgt := 48) hx hb dX2_signed_44 (by decide)) ?_
        exact x_iret hx hb hr hlocks hs0 hbs (by decide) (by decide) dX2_signed_48 (⟨by simp only [op_signed, hs_13, hs_21, reduceIte, Bool.false_eq_true, and_true, true_and, and_false, false_and, and_self, not_true_eq_false, not_false_eq_true]; rw [sp_mi_nI hrr], by simp only [op_signed, hs_13, hs_21, reduceIte, Bool.false_eq_true, and_true, true_and, and_false, false_and, and_self, not_true_eq_false, not_false_eq_true]; rw [sp_mi_nI hrr]; exact hH2, hF.tr hF2⟩)
