set_option maxHeartbeats 4000000 in
set_option maxRecDepth 100000 in
theorem c_X2_open (l : Launch) (G : sg_G) (H : Heap) (mb n : Nat) (so on tw th ce gi li re : Nat → Int32) (kb : Nat → Bool) (sec : Int32) (hM : sm_X G mb n so on tw th ce gi (fun i => bI (kb i)) li re sec H) (t : Nat → sp_T) (rg : Nat → Option Nat) (hR : sm_R n t rg so on tw th ce re) (i : Nat) (hi : i < n) : xC l G yX2_open cX2_open 4 (some FieldType.boolean) 2 0 0 [.ref mb, .int (nI i)] H (fun v H' => ∃ mo, v = some (.int (bI mo)) ∧ chg n kb (sp_ta t kb i) mo ∧ sm_X G mb n so on tw th ce gi (fun z => bI (sp_ta t kb i z)) li re sec H' ∧ sm_F mb H H') := by
  refine xC.start (by decide) (Nat.le_of_ble_eq_true rfl) ?_
  intro p e s m args below meth c ls E hnm hs0 hl
  obtain ⟨hx, hb, hml, hown, hts, hr, hlocks, hK, hbs⟩ := id E
  have hl : lv_has ls 4 [(0, .ref mb), (1, .int (nI i))] := hl
  obtain ⟨hm0, hmn, hX, h1, h2, h3, h4, h5, h6, h7, h8, h9⟩ := id hM
  obtain ⟨hRt, hRr, hRg, hRw⟩ := id hR
  have hF : sm_F mb H H := sm_F.rf
  obtain ⟨q1, q2, q3, q4, q5⟩ := hRt i hi
  refine xl (fun _ => lv_iconst (v := 0) hx hb dX2_open_0 (by decide)) ?_
  refine xs (fun _ => lv_istore_n (i := 2) (lv' := [(2, .int 0), (0, .ref mb), (1, .int (nI i))]) hx hb dX2_open_1 rfl hl (by decide) (rfl)) (fun ls hl => ?_)
  refine xl (fun _ => lv_iconst (v := 4) hx hb dX2_open_2 (by decide)) ?_
  refine xs (fun _ => lv_istore_n (i := 3) (lv' := [(3, .int 4), (2, .int 0), (0, .ref mb), (1, .int (nI i))]) hx hb dX2_open_3 rfl hl (by decide) (rfl)) (fun ls hl => ?_)
  have hloop : ∀ (d : Nat) (q : Nat) (mo : Bool) (Hk : Heap), q ≤ 4 → 4 < q + d → (0 < q → sp_so (t i) = 7) → chg n kb (sp_us kb (sp_pa (t i)) q) mo → sm_X G mb n so on tw th ce gi (fun z => bI (sp_us kb (sp_pa (t i)) q z)) li re sec Hk → sm_F mb H Hk → ∀ (ls : Array Slot), lv_has ls 4 [(3, .int (nI (4 + q))), (2, .int (bI mo)), (0, .ref mb), (1, .int (nI i))] → xV p l e (xR 2 0 0) s m args below meth c G Hk 0 0 (MQ below (xQ G H (fun v H' => ∃ mo, v = some (.int (bI mo)) ∧ chg n kb (sp_ta t kb i) mo ∧ sm_X G mb n so on tw th ce gi (fun z => bI (sp_ta t kb i z)) li re sec H' ∧ sm_F mb H H')) args s 0 0 (sg_fr G)) (F0 m 4 ls []) := by
    intro d
    induction d with
    | zero =>
      intro q mo Hk h1 h2
      exact absurd h2 (by omega)
    | succ d ih =>
      intro q mo Hk hq4 hd hq7 hch hMk hF ls hl
      obtain ⟨hm0, hmn, hX, h1, h2, h3, h4, h5, h6, h7, h8, h9⟩ := id hMk
      refine xl (fun _ => lv_iload_n hx hb dX2_open_4 rfl (lv_at hl 0 rfl)) ?_
      refine xl (fun _ => lv_bipush (v := 8) hx hb dX2_open_5 (by decide)) ?_
      refine xb (fun _ => lv_icmp_ge (tgt := 55) hx hb dX2_open_7 (by decide)) (fun c_7 => ?_) (fun c_7 => ?_)
      · have eq4 : q = 4 := by have := nI_le4 (n := 8) (i := 4 + q) (by omega) (by decide) c_7; omega
        subst eq4
        have hs7 := hq7 (by omega)
        have hta : sp_ta t kb i = sp_us kb (sp_pa (t i)) 4 := by unfold sp_ta; rw [if_pos hs7]
        refine xl (fun _ => lv_aload_n hx hb dX2_open_55 rfl (lv_at hl 2 rfl)) ?_
        refine x_get (ci := 2) hx hb hts hown hK wiX2 hX rfl 1 (by decide) wFX2_9 rfl rfl dX2_open_56 ?_
        refine xl (fun _ => lv_iload_n hx hb dX2_open_59 rfl (lv_at hl 3 rfl)) ?_
        refine x_iald hx hb hK h1 i (rfl) (by omega) (by decide) dX2_open_60 ?_
        rw [show (so i) = (sp_so (t i)) from q1]
        refine xl (fun _ => lv_iconst (v := 5) hx hb dX2_open_61 (by decide)) ?_
        refine xb (fun _ => lv_icmp_ne (tgt := 112) hx hb dX2_open_62 (by decide)) (fun c_62 => ?_) (fun c_62 => ?_)
        · refine xl (fun _ => lv_aload_n hx hb dX2_open_112 rfl (lv_at hl 2 rfl)) ?_
          refine x_get (ci := 2) hx hb hts hown hK wiX2 hX rfl 1 (by decide) wFX2_9 rfl rfl dX2_open_113 ?_
          refine xl (fun _ => lv_iload_n hx hb dX2_open_116 rfl (lv_at hl 3 rfl)) ?_
          refine x_iald hx hb hK h1 i (rfl) (by omega) (by decide) dX2_open_117 ?_
          rw [show (so i) = (sp_so (t i)) from q1]
          refine xl (fun _ => lv_bipush (v := 6) hx hb dX2_open_118 (by decide)) ?_
          refine xb (fun _ => lv_icmp_ne (tgt := 136) hx hb dX2_open_120 (by decide)) (fun c_120 => ?_) (fun c_120 => ?_)
          · refine xl (fun _ => lv_iload_n hx hb dX2_open_136 rfl (lv_at hl 1 rfl)) ?_
            exact x_zret hx hb hr hlocks hs0 hbs (bI_and _) (by decide) (by decide) dX2_open_137 (⟨_, rfl, by rw [hta]; exact hch, by rw [hta]; exact ⟨hm0, hmn, hX, h1, h2, h3, h4, h5, h6, h7, h8, h9⟩, hF⟩)
          · exact absurd c_120 (so_ne hs7 (by decide))
        · exact absurd c_62 (so_ne hs7 (by decide))
      · have hq3 : q < 4 := by have := nI_nle4 (n := 8) (i := 4 + q) (by omega) (by decide) c_7; omega
        refine xl (fun _ => lv_aload_n hx hb dX2_open_10 rfl (lv_at hl 2 rfl)) ?_
        refine x_get (ci := 2) hx hb hts hown hK wiX2 hX rfl 1 (by decide) wFX2_9 rfl rfl dX2_open_11 ?_
        refine xl (fun _ => lv_iload_n hx hb dX2_open_14 rfl (lv_at hl 3 rfl)) ?_
        refine x_iald hx hb hK h1 i (rfl) (by omega) (by decide) dX2_open_15 ?_
        rw [show (so i) = (sp_so (t i)) from q1]
        refine xl (fun _ => lv_bipush (v := 7) hx hb dX2_open_16 (by decide)) ?_
        refine xb (fun _ => lv_icmp_ne (tgt := 55) hx hb dX2_open_18 (by decide)) (fun c_18 => ?_) (fun c_18 => ?_)
        · have eq0 : q = 0 := by
            rcases Nat.eq_zero_or_pos q with z | z
            · exact z
            · exact absurd (hq7 z) c_18
          subst eq0
          refine xl (fun _ => lv_aload_n hx hb dX2_open_55 rfl (lv_at hl 2 rfl)) ?_
          refine x_get (ci := 2) hx hb hts hown hK wiX2 hX rfl 1 (by decide) wFX2_9 rfl rfl dX2_open_56 ?_
          refine xl (fun _ => lv_iload_n hx hb dX2_open_59 rfl (lv_at hl 3 rfl)) ?_
          refine x_iald hx hb hK h1 i (rfl) (by omega) (by decide) dX2_open_60 ?_
          rw [show (so i) = (sp_so (t i)) from q1]
          refine xl (fun _ => lv_iconst (v := 5) hx hb dX2_open_61 (by decide)) ?_
          refine xb (fun _ => lv_icmp_ne (tgt := 112) hx hb dX2_open_62 (by decide)) (fun c_62 => ?_) (fun c_62 => ?_)
          · refine xl (fun _ => lv_aload_n hx hb dX2_open_112 rfl (lv_at hl 2 rfl)) ?_
            refine x_get (ci := 2) hx hb hts hown hK wiX2 hX rfl 1 (by decide) wFX2_9 rfl rfl dX2_open_113 ?_
            refine xl (fun _ => lv_iload_n hx hb dX2_open_116 rfl (lv_at hl 3 rfl)) ?_
            refine x_iald hx hb hK h1 i (rfl) (by omega) (by decide) dX2_open_117 ?_
            rw [show (so i) = (sp_so (t i)) from q1]
            refine xl (fun _ => lv_bipush (v := 6) hx hb dX2_open_118 (by decide)) ?_
            refine xb (fun _ => lv_icmp_ne (tgt := 136) hx hb dX2_open_120 (by decide)) (fun c_120 => ?_) (fun c_120 => ?_)
            · have hta : sp_ta t kb i = kb := by unfold sp_ta; rw [if_neg c_18, if_neg c_62, if_neg c_120]
              refine xl (fun _ => lv_iload_n hx hb dX2_open_136 rfl (lv_at hl 1 rfl)) ?_
              exact x_zret hx hb hr hlocks hs0 hbs (bI_and _) (by decide) (by decide) dX2_open_137 (⟨_, rfl, by rw [hta]; exact hch, by rw [hta]; exact ⟨hm0, hmn, hX, h1, h2, h3, h4, h5, h6, h7, h8, h9⟩, hF⟩)
            · have hta : sp_ta t kb i = sp_uo kb (sp_pa (t i) 1) := by unfold sp_ta; rw [if_neg c_18, if_neg c_62, if_pos c_120]
              refine xl (fun _ => lv_aload_n hx hb dX2_open_123 rfl (lv_at hl 2 rfl)) ?_
              refine xl (fun _ => lv_aload_n hx hb dX2_open_124 rfl (lv_at hl 2 rfl)) ?_
              refine x_get (ci := 2) hx hb hts hown hK wiX2 hX rfl 3 (by decide) wFX2_16 rfl rfl dX2_open_125 ?_
              refine xl (fun _ => lv_iload_n hx hb dX2_open_128 rfl (lv_at hl 3 rfl)) ?_
              refine x_iald hx hb hK h3 i (rfl) (by omega) (by decide) dX2_open_129 ?_
              rw [show (tw i) = (px (sp_pa (t i) 1)) from q3.trans (e_6 c_120).2.1]
              refine x_callV E hl (c_X2_learn l G Hk mb n so on tw th ce _ li re kb sec ⟨hm0, hmn, hX, h1, h2, h3, h4, h5, h6, h7, h8, h9⟩ (sp_pa (t i) 1) (fun j e => by have := (hRw i hi).1 1 (by omega) j e; omega)) xm_yX2_learn wMX2_82 wI_yX2_learn wT_yX2_learn (ci := 2) rfl rfl hX (rest := []) rfl (by decide) (by decide) ⟨by decide, by decide⟩ dX2_open_130 (fun v_1 H_2 hp_3 hz_4 hq_5 => ?_)
              obtain ⟨rfl, hM, hF1⟩ := hp_3
              have hF : sm_F mb H H_2 := hF.tr hF1
              refine xg (g2 := F0 m 133 ls [.int (bI (!(sp_pi kb (sp_pa (t i) 1))))]) rfl ?_
              obtain ⟨hm0, hmn, hX, h1, h2, h3, h4, h5, h6, h7, h8, h9⟩ := id hM
              refine xl (fun _ => lv_goto (tgt := 137) hx hb dX2_open_133 (by decide)) ?_
              exact x_zret hx hb hr hlocks hs0 hbs (bI_and _) (by decide) (by decide) dX2_open_137 (⟨_, rfl, by rw [hta]; exact chg_learn (fun j e => Nat.lt_trans ((hRw i hi).1 1 (by omega) j e) hi), by rw [hta]; exact ⟨hm0, hmn, hX, h1, h2, h3, h4, h5, h6, h7, h8, h9⟩, hF⟩)
          · refine xl (fun _ => lv_aload_n hx hb dX2_open_65 rfl (lv_at hl 2 rfl)) ?_
            refine xl (fun _ => lv_aload_n hx hb dX2_open_66 rfl (lv_at hl 2 rfl)) ?_
            refine x_get (ci := 2) hx hb hts hown hK wiX2 hX rfl 3 (by decide) wFX2_16 rfl rfl dX2_open_67 ?_
            refine xl (fun _ => lv_iload_n hx hb dX2_open_70 rfl (lv_at hl 3 rfl)) ?_
            refine x_iald hx hb hK h3 i (rfl) (by omega) (by decide) dX2_open_71 ?_
            rw [show (tw i) = (px (sp_pa (t i) 1)) from q3.trans (e_5 c_62).2.1]
            refine x_callV E hl (c_X2_learn l G Hk mb n so on tw th ce _ li re kb sec ⟨hm0, hmn, hX, h1, h2, h3, h4, h5, h6, h7, h8, h9⟩ (sp_pa (t i) 1) (fun j e => by have := (hRw i hi).1 1 (by omega) j e; omega)) xm_yX2_learn wMX2_82 wI_yX2_learn wT_yX2_learn (ci := 2) rfl rfl hX (rest := []) rfl (by decide) (by decide) ⟨by decide, by decide⟩ dX2_open_72 (fun v_6 H_7 hp_8 hz_9 hq_10 => ?_)
            obtain ⟨rfl, hM, hF1⟩ := hp_8
            have hF : sm_F mb H H_7 := hF.tr hF1
            refine xg (g2 := F0 m 75 ls [.int (bI (!(sp_pi kb (sp_pa (t i) 1))))]) rfl ?_
            obtain ⟨hm0, hmn, hX, h1, h2, h3, h4, h5, h6, h7, h8, h9⟩ := id hM
            refine xs (fun _ => lv_istore_n (i := 2) (lv' := [(2, .int (bI (!(sp_pi kb (sp_pa (t i) 1))))), (3, .int (nI (4 + 0))), (0, .ref mb), (1, .int (nI i))]) hx hb dX2_open_75 rfl hl (by decide) (rfl)) (fun ls hl => ?_)
            refine xl (fun _ => lv_aload_n hx hb dX2_open_76 rfl (lv_at hl 2 rfl)) ?_
            refine xl (fun _ => lv_aload_n hx hb dX2_open_77 rfl (lv_at hl 2 rfl)) ?_
            refine x_get (ci := 2) hx hb hts hown hK wiX2 hX rfl 2 (by decide) wFX2_13 rfl rfl dX2_open_78 ?_
            refine xl (fun _ => lv_iload_n hx hb dX2_open_81 rfl (lv_at hl 3 rfl)) ?_
            refine x_iald hx hb hK h2 i (rfl) (by omega) (by decide) dX2_open_82 ?_
            rw [show (on i) = (px (sp_pa (t i) 0)) from (q2 (by rw [c_62]; decide)).trans (e_5 c_62).1]
            refine x_callV E hl (c_X2_is l G H_7 mb n _ _ _ _ _ _ _ _ _ _ ⟨hm0, hmn, hX, h1, h2, h3, h4, h5, h6, h7, h8, h9⟩ (sp_pa (t i) 0) (fun j e => by have := (hRw i hi).1 0 (by omega) j e; omega)) xm_yX2_is wMX2_76 wI_yX2_is wT_yX2_is (ci := 2) rfl rfl hX (rest := []) rfl (by decide) (by decide) ⟨by decide, by decide⟩ dX2_open_83 (x_pure (r := .int (bI (sp_pi (sp_uo kb (sp_pa (t i) 1)) (sp_pa (t i) 0)))) (st1 := []) ?_)
            refine xb (fun _ => lv_if_eq (tgt := 112) hx hb dX2_open_86 (by decide)) (fun c_86 => ?_) (fun c_86 => ?_)
            · have c_86 := bI_f c_86
              have hta : sp_ta t kb i = sp_uo kb (sp_pa (t i) 1) := by unfold sp_ta; rw [if_neg c_18, if_pos c_62, if_neg (by rw [c_86]; decide)]
              refine xl (fun _ => lv_aload_n hx hb dX2_open_112 rfl (lv_at hl 2 rfl)) ?_
              refine x_get (ci := 2) hx hb hts hown hK wiX2 hX rfl 1 (by decide) wFX2_9 rfl rfl dX2_open_113 ?_
              refine xl (fun _ => lv_iload_n hx hb dX2_open_116 rfl (lv_at hl 3 rfl)) ?_
              refine x_iald hx hb hK h1 i (rfl) (by omega) (by decide) dX2_open_117 ?_
              rw [show (so i) = (sp_so (t i)) from q1]
              refine xl (fun _ => lv_bipush (v := 6) hx hb dX2_open_118 (by decide)) ?_
              refine xb (fun _ => lv_icmp_ne (tgt := 136) hx hb dX2_open_120 (by decide)) (fun c_120 => ?_) (fun c_120 => ?_)
              · refine xl (fun _ => lv_iload_n hx hb dX2_open_136 rfl (lv_at hl 0 rfl)) ?_
                exact x_zret hx hb hr hlocks hs0 hbs (bI_and _) (by decide) (by decide) dX2_open_137 (⟨_, rfl, by rw [hta]; exact chg_learn (fun j e => Nat.lt_trans ((hRw i hi).1 1 (by omega) j e) hi), by rw [hta]; exact ⟨hm0, hmn, hX, h1, h2, h3, h4, h5, h6, h7, h8, h9⟩, hF⟩)
              · exact absurd c_120 (so_ne c_62 (by decide))
            · have c_86 := bI_t c_86
              have hta : sp_ta t kb i = sp_uo (sp_uo kb (sp_pa (t i) 1)) (sp_pa (t i) 2) := by unfold sp_ta; rw [if_neg c_18, if_pos c_62, if_pos c_86]
              refine xl (fun _ => lv_aload_n hx hb dX2_open_89 rfl (lv_at hl 2 rfl)) ?_
              refine xl (fun _ => lv_aload_n hx hb dX2_open_90 rfl (lv_at hl 2 rfl)) ?_
              refine x_get (ci := 2) hx hb hts hown hK wiX2 hX rfl 4 (by decide) wFX2_19 rfl rfl dX2_open_91 ?_
              refine xl (fun _ => lv_iload_n hx hb dX2_open_94 rfl (lv_at hl 3 rfl)) ?_
              refine x_iald hx hb hK h4 i (rfl) (by omega) (by decide) dX2_open_95 ?_
              rw [show (th i) = (px (sp_pa (t i) 2)) from q4.trans (e_5 c_62).2.2]
              refine x_callV E hl (c_X2_learn l G H_7 mb n so on tw th ce _ li re (sp_uo kb (sp_pa (t i) 1)) sec ⟨hm0, hmn, hX, h1, h2, h3, h4, h5, h6, h7, h8, h9⟩ (sp_pa (t i) 2) (fun j e => by have := (hRw i hi).1 2 (by omega) j e; omega)) xm_yX2_learn wMX2_82 wI_yX2_learn wT_yX2_learn (ci := 2) rfl rfl hX (rest := []) rfl (by decide) (by decide) ⟨by decide, by decide⟩ dX2_open_96 (fun v_11 H_12 hp_13 hz_14 hq_15 => ?_)
              obtain ⟨rfl, hM, hF1⟩ := hp_13
              have hF : sm_F mb H H_12 := hF.tr hF1
              refine xg (g2 := F0 m 99 ls [.int (bI (!(sp_pi (sp_uo kb (sp_pa (t i) 1)) (sp_pa (t i) 2))))]) rfl ?_
              obtain ⟨hm0, hmn, hX, h1, h2, h3, h4, h5, h6, h7, h8, h9⟩ := id hM
              refine xb (fun _ => lv_if_ne (tgt := 106) hx hb dX2_open_99 (by decide)) (fun c_99 => ?_) (fun c_99 => ?_)
              · have c_99 := bI_t c_99
                refine xl (fun _ => lv_iconst (v := 1) hx hb dX2_open_106 (by decide)) ?_
                refine xl (fun _ => lv_goto (tgt := 111) hx hb dX2_open_107 (by decide)) ?_
                refine xg (g2 := F0 m 111 ls [.int (bI true)]) rfl ?_
                have hch2 : chg n kb (sp_uo (sp_uo kb (sp_pa (t i) 1)) (sp_pa (t i) 2)) true := by
                  have z := chg_tr (chg_learn (n := n) (kb := kb) (o := sp_pa (t i) 1) (fun j e => Nat.lt_trans ((hRw i hi).1 1 (by omega) j e) hi)) (chg_learn (n := n) (kb := sp_uo kb (sp_pa (t i) 1)) (o := sp_pa (t i) 2) (fun j e => Nat.lt_trans ((hRw i hi).1 2 (by omega) j e) hi))
                  rw [c_99] at z
                  exact z
                refine xs (fun _ => lv_istore_n (i := 2) (lv' := [(2, .int (bI true)), (3, .int (nI (4 + 0))), (0, .ref mb), (1, .int (nI i))]) hx hb dX2_open_111 rfl hl (by decide) (rfl)) (fun ls hl => ?_)
                refine xl (fun _ => lv_aload_n hx hb dX2_open_112 rfl (lv_at hl 2 rfl)) ?_
                refine x_get (ci := 2) hx hb hts hown hK wiX2 hX rfl 1 (by decide) wFX2_9 rfl rfl dX2_open_113 ?_
                refine xl (fun _ => lv_iload_n hx hb dX2_open_116 rfl (lv_at hl 3 rfl)) ?_
                refine x_iald hx hb hK h1 i (rfl) (by omega) (by decide) dX2_open_117 ?_
                rw [show (so i) = (sp_so (t i)) from q1]
                refine xl (fun _ => lv_bipush (v := 6) hx hb dX2_open_118 (by decide)) ?_
                refine xb (fun _ => lv_icmp_ne (tgt := 136) hx hb dX2_open_120 (by decide)) (fun c_120 => ?_) (fun c_120 => ?_)
                · refine xl (fun _ => lv_iload_n hx hb dX2_open_136 rfl (lv_at hl 0 rfl)) ?_
                  exact x_zret hx hb hr hlocks hs0 hbs (bI_and _) (by decide) (by decide) dX2_open_137 (⟨_, rfl, by rw [hta]; exact hch2, by rw [hta]; exact ⟨hm0, hmn, hX, h1, h2, h3, h4, h5, h6, h7, h8, h9⟩, hF⟩)
                · exact absurd c_120 (so_ne c_62 (by decide))
              · have c_99 := bI_f c_99
                refine xl (fun _ => lv_iload_n hx hb dX2_open_102 rfl (lv_at hl 0 rfl)) ?_
                refine xb (fun _ => lv_if_eq (tgt := 110) hx hb dX2_open_103 (by decide)) (fun c_103 => ?_) (fun c_103 => ?_)
                · have c_103 := bI_f c_103
                  refine xl (fun _ => lv_iconst (v := 0) hx hb dX2_open_110 (by decide)) ?_
                  refine xg (g2 := F0 m 111 ls [.int (bI false)]) rfl ?_
                  have hch2 : chg n kb (sp_uo (sp_uo kb (sp_pa (t i) 1)) (sp_pa (t i) 2)) false := by
                    have z := chg_tr (chg_learn (n := n) (kb := kb) (o := sp_pa (t i) 1) (fun j e => Nat.lt_trans ((hRw i hi).1 1 (by omega) j e) hi)) (chg_learn (n := n) (kb := sp_uo kb (sp_pa (t i) 1)) (o := sp_pa (t i) 2) (fun j e => Nat.lt_trans ((hRw i hi).1 2 (by omega) j e) hi))
                    rw [c_99, c_103] at z
                    exact z
                  refine xs (fun _ => lv_istore_n (i := 2) (lv' := [(2, .int (bI false)), (3, .int (nI (4 + 0))), (0, .ref mb), (1, .int (nI i))]) hx hb dX2_open_111 rfl hl (by decide) (rfl)) (fun ls hl => ?_)
                  refine xl (fun _ => lv_aload_n hx hb dX2_open_112 rfl (lv_at hl 2 rfl)) ?_
                  refine x_get (ci := 2) hx hb hts hown hK wiX2 hX rfl 1 (by decide) wFX2_9 rfl rfl dX2_open_113 ?_
                  refine xl (fun _ => lv_iload_n hx hb dX2_open_116 rfl (lv_at hl 3 rfl)) ?_
                  refine x_iald hx hb hK h1 i (rfl) (by omega) (by decide) dX2_open_117 ?_
                  rw [show (so i) = (sp_so (t i)) from q1]
                  refine xl (fun _ => lv_bipush (v := 6) hx hb dX2_open_118 (by decide)) ?_
                  refine xb (fun _ => lv_icmp_ne (tgt := 136) hx hb dX2_open_120 (by decide)) (fun c_120 => ?_) (fun c_120 => ?_)
                  · refine xl (fun _ => lv_iload_n hx hb dX2_open_136 rfl (lv_at hl 0 rfl)) ?_
                    exact x_zret hx hb hr hlocks hs0 hbs (bI_and _) (by decide) (by decide) dX2_open_137 (⟨_, rfl, by rw [hta]; exact hch2, by rw [hta]; exact ⟨hm0, hmn, hX, h1, h2, h3, h4, h5, h6, h7, h8, h9⟩, hF⟩)
                  · exact absurd c_120 (so_ne c_62 (by decide))
                · have c_103 := bI_t c_103
                  refine xl (fun _ => lv_iconst (v := 1) hx hb dX2_open_106 (by decide)) ?_
                  refine xl (fun _ => lv_goto (tgt := 111) hx hb dX2_open_107 (by decide)) ?_
                  refine xg (g2 := F0 m 111 ls [.int (bI true)]) rfl ?_
                  have hch2 : chg n kb (sp_uo (sp_uo kb (sp_pa (t i) 1)) (sp_pa (t i) 2)) true := by
                    have z := chg_tr (chg_learn (n := n) (kb := kb) (o := sp_pa (t i) 1) (fun j e => Nat.lt_trans ((hRw i hi).1 1 (by omega) j e) hi)) (chg_learn (n := n) (kb := sp_uo kb (sp_pa (t i) 1)) (o := sp_pa (t i) 2) (fun j e => Nat.lt_trans ((hRw i hi).1 2 (by omega) j e) hi))
                    rw [c_99, c_103] at z
                    exact z
                  refine xs (fun _ => lv_istore_n (i := 2) (lv' := [(2, .int (bI true)), (3, .int (nI (4 + 0))), (0, .ref mb), (1, .int (nI i))]) hx hb dX2_open_111 rfl hl (by decide) (rfl)) (fun ls hl => ?_)
                  refine xl (fun _ => lv_aload_n hx hb dX2_open_112 rfl (lv_at hl 2 rfl)) ?_
                  refine x_get (ci := 2) hx hb hts hown hK wiX2 hX rfl 1 (by decide) wFX2_9 rfl rfl dX2_open_113 ?_
                  refine xl (fun _ => lv_iload_n hx hb dX2_open_116 rfl (lv_at hl 3 rfl)) ?_
                  refine x_iald hx hb hK h1 i (rfl) (by omega) (by decide) dX2_open_117 ?_
                  rw [show (so i) = (sp_so (t i)) from q1]
                  refine xl (fun _ => lv_bipush (v := 6) hx hb dX2_open_118 (by decide)) ?_
                  refine xb (fun _ => lv_icmp_ne (tgt := 136) hx hb dX2_open_120 (by decide)) (fun c_120 => ?_) (fun c_120 => ?_)
                  · refine xl (fun _ => lv_iload_n hx hb dX2_open_136 rfl (lv_at hl 0 rfl)) ?_
                    exact x_zret hx hb hr hlocks hs0 hbs (bI_and _) (by decide) (by decide) dX2_open_137 (⟨_, rfl, by rw [hta]; exact hch2, by rw [hta]; exact ⟨hm0, hmn, hX, h1, h2, h3, h4, h5, h6, h7, h8, h9⟩, hF⟩)
                  · exact absurd c_120 (so_ne c_62 (by decide))
        · refine xl (fun _ => lv_aload_n hx hb dX2_open_21 rfl (lv_at hl 2 rfl)) ?_
          refine xl (fun _ => lv_aload_n hx hb dX2_open_22 rfl (lv_at hl 2 rfl)) ?_
          refine x_get (ci := 2) hx hb hts hown hK wiX2 hX rfl 5 (by decide) wFX2_22 rfl rfl dX2_open_23 ?_
          refine xl (fun _ => lv_bipush (v := 8) hx hb dX2_open_26 (by decide)) ?_
          refine xl (fun _ => lv_iload_n hx hb dX2_open_28 rfl (lv_at hl 3 rfl)) ?_
          refine xl (fun _ => lv_imul hx hb dX2_open_29) ?_
          rw [show (8 * (nI i)) = (nI (8 * i)) from pk_mul 8 i]
          refine xl (fun _ => lv_iload_n hx hb dX2_open_30 rfl (lv_at hl 0 rfl)) ?_
          refine xl (fun _ => lv_iadd hx hb dX2_open_31) ?_
          rw [show ((nI (8 * i)) + (nI (4 + q))) = (nI (8 * i + (4 + q))) from nI_add _ _]
          refine x_iald hx hb hK h5 (8 * i + (4 + q)) (rfl) (by omega) (by decide) dX2_open_32 ?_
          rw [show (ce (8 * i + (4 + q))) = (px (sp_pa (t i) q)) from (q5 (4 + q) (by omega)).trans (e8_7p c_18 q)]
          refine x_callV E hl (c_X2_learn l G Hk mb n so on tw th ce _ li re (sp_us kb (sp_pa (t i)) q) sec ⟨hm0, hmn, hX, h1, h2, h3, h4, h5, h6, h7, h8, h9⟩ (sp_pa (t i) q) (fun j e => by have := (hRw i hi).1 q (by omega) j e; omega)) xm_yX2_learn wMX2_82 wI_yX2_learn wT_yX2_learn (ci := 2) rfl rfl hX (rest := []) rfl (by decide) (by decide) ⟨by decide, by decide⟩ dX2_open_33 (fun v_16 H_17 hp_18 hz_19 hq_20 => ?_)
          obtain ⟨rfl, hM, hF1⟩ := hp_18
          have hF : sm_F mb H H_17 := hF.tr hF1
          refine xg (g2 := F0 m 36 ls [.int (bI (!(sp_pi (sp_us kb (sp_pa (t i)) q) (sp_pa (t i) q))))]) rfl ?_
          obtain ⟨hm0, hmn, hX, h1, h2, h3, h4, h5, h6, h7, h8, h9⟩ := id hM
          refine xb (fun _ => lv_if_ne (tgt := 43) hx hb dX2_open_36 (by decide)) (fun c_36 => ?_) (fun c_36 => ?_)
          · have c_36 := bI_t c_36
            refine xl (fun _ => lv_iconst (v := 1) hx hb dX2_open_43 (by decide)) ?_
            refine xl (fun _ => lv_goto (tgt := 48) hx hb dX2_open_44 (by decide)) ?_
            refine xg (g2 := F0 m 48 ls [.int (bI true)]) rfl ?_
            have hch2 : chg n kb (sp_us kb (sp_pa (t i)) (q + 1)) true := by
              have z := chg_tr hch (chg_learn (n := n) (kb := (sp_us kb (sp_pa (t i)) q)) (o := sp_pa (t i) q) (fun j e => Nat.lt_trans ((hRw i hi).1 q (by omega) j e) hi))
              rw [c_36] at z
              exact z
            refine xs (fun _ => lv_istore_n (i := 2) (lv' := [(2, .int (bI true)), (3, .int (nI (4 + q))), (0, .ref mb), (1, .int (nI i))]) hx hb dX2_open_48 rfl hl (by decide) (rfl)) (fun ls hl => ?_)
            refine xs (fun _ => lv_iinc (v := (nI (4 + (q + 1)))) (lv' := [(3, .int (nI (4 + (q + 1)))), (2, .int (bI true)), (0, .ref mb), (1, .int (nI i))]) hx hb dX2_open_49 hl (k := 1) rfl (nI_1 _) (by decide) (rfl)) (fun ls hl => ?_)
            refine xl (fun _ => lv_goto (tgt := 4) hx hb dX2_open_52 (by decide)) ?_
            exact ih (q + 1) _ _ (by omega) (by omega) (fun _ => c_18) hch2 ⟨hm0, hmn, hX, h1, h2, h3, h4, h5, h6, h7, h8, h9⟩ hF ls (lv_sub hl [0, 1, 2, 3] rfl)
          · have c_36 := bI_f c_36
            refine xl (fun _ => lv_iload_n hx hb dX2_open_39 rfl (lv_at hl 1 rfl)) ?_
            refine xb (fun _ => lv_if_eq (tgt := 47) hx hb dX2_open_40 (by decide)) (fun c_40 => ?_) (fun c_40 => ?_)
            · have c_40 := bI_f c_40
              refine xl (fun _ => lv_iconst (v := 0) hx hb dX2_open_47 (by decide)) ?_
              refine xg (g2 := F0 m 48 ls [.int (bI false)]) rfl ?_
              have hch2 : chg n kb (sp_us kb (sp_pa (t i)) (q + 1)) false := by
                have z := chg_tr hch (chg_learn (n := n) (kb := (sp_us kb (sp_pa (t i)) q)) (o := sp_pa (t i) q) (fun j e => Nat.lt_trans ((hRw i hi).1 q (by omega) j e) hi))
                rw [c_36, c_40] at z
                exact z
              refine xs (fun _ => lv_istore_n (i := 2) (lv' := [(2, .int (bI false)), (3, .int (nI (4 + q))), (0, .ref mb), (1, .int (nI i))]) hx hb dX2_open_48 rfl hl (by decide) (rfl)) (fun ls hl => ?_)
              refine xs (fun _ => lv_iinc (v := (nI (4 + (q + 1)))) (lv' := [(3, .int (nI (4 + (q + 1)))), (2, .int (bI false)), (0, .ref mb), (1, .int (nI i))]) hx hb dX2_open_49 hl (k := 1) rfl (nI_1 _) (by decide) (rfl)) (fun ls hl => ?_)
              refine xl (fun _ => lv_goto (tgt := 4) hx hb dX2_open_52 (by decide)) ?_
              exact ih (q + 1) _ _ (by omega) (by omega) (fun _ => c_18) hch2 ⟨hm0, hmn, hX, h1, h2, h3, h4, h5, h6, h7, h8, h9⟩ hF ls (lv_sub hl [0, 1, 2, 3] rfl)
            · have c_40 := bI_t c_40
              refine xl (fun _ => lv_iconst (v := 1) hx hb dX2_open_43 (by decide)) ?_
              refine xl (fun _ => lv_goto (tgt := 48) hx hb dX2_open_44 (by decide)) ?_
              refine xg (g2 := F0 m 48 ls [.int (bI true)]) rfl ?_
              have hch2 : chg n kb (sp_us kb (sp_pa (t i)) (q + 1)) true := by
                have z := chg_tr hch (chg_learn (n := n) (kb := (sp_us kb (sp_pa (t i)) q)) (o := sp_pa (t i) q) (fun j e => Nat.lt_trans ((hRw i hi).1 q (by omega) j e) hi))
                rw [c_36, c_40] at z
                exact z
              refine xs (fun _ => lv_istore_n (i := 2) (lv' := [(2, .int (bI true)), (3, .int (nI (4 + q))), (0, .ref mb), (1, .int (nI i))]) hx hb dX2_open_48 rfl hl (by decide) (rfl)) (fun ls hl => ?_)
              refine xs (fun _ => lv_iinc (v := (nI (4 + (q + 1)))) (lv' := [(3, .int (nI (4 + (q + 1)))), (2, .int (bI true)), (0, .ref mb), (1, .int (nI i))]) hx hb dX2_open_49 hl (k := 1) rfl (nI_1 _) (by decide) (rfl)) (fun ls hl => ?_)
              refine xl (fun _ => lv_goto (tgt := 4) hx hb dX2_open_52 (by decide)) ?_
              exact ih (q + 1) _ _ (by omega) (by omega) (fun _ => c_18) hch2 ⟨hm0, hmn, hX, h1, h2, h3, h4, h5, h6, h7, h8, h9⟩ hF ls (lv_sub hl [0, 1, 2, 3] rfl)
  exact hloop 5 0 false _ (by decide) (by decide) (fun z => absurd z (Nat.lt_irrefl 0)) chg_rf ⟨hm0, hmn, hX, h1, h2, h3, h4, h5, h6, h7, h8, h9⟩ hF ls (lv_sub hl [0, 1, 2, 3] rfl)

set_option maxHeartbeats 4000000 in
set_option maxRecDepth 100000 in
theorem c_X2_derive (l : Launch) (G : sg_G) (H : Heap) (mb n : Nat) (so on tw th ce li re : Nat → Int32) (kb : Nat → Bool) (g : Nat → Prop) (sec : Int32) (hM : sm_X G mb n so on tw th ce (fun i => bI (cB (g i))) (fun i => bI (kb i)) li re sec H) (t : Nat → sp_T) (rg : Nat → Option Nat) (hR : sm_R n t rg so on tw th ce re)  : xC l G yX2_derive cX2_derive 3 none 3 0 0 [.ref mb] H (fun v H' => v = none ∧ (∃ k2 : Nat → Bool, sm_X G mb n so on tw th ce (fun i => bI (cB (g i))) (fun i => bI (k2 i)) li re sec H' ∧ ∀ j, j < n → (k2 j = true ↔ sp_der n t g j)) ∧ sm_F mb H H') := by
  refine xC.start (by decide) (Nat.le_of_ble_eq_true rfl) ?_
  intro p e s m args below meth c ls E hnm hs0 hl
  obtain ⟨hx, hb, hml, hown, hts, hr, hlocks, hK, hbs⟩ := id E
  have hl : lv_has ls 3 [(0, .ref mb)] := hl
  obtain ⟨hm0, hmn, hX, h1, h2, h3, h4, h5, h6, h7, h8, h9⟩ := id hM
  obtain ⟨hRt, hRr, hRg, hRw⟩ := id hR
  have hF : sm_F mb H H := sm_F.rf
  have hbd : ∀ i, i < n → sp_bd n (t i) := fun i hi k hk j e => Nat.lt_trans ((hRw i hi).1 k hk j e) hi
  refine xl (fun _ => lv_iconst (v := 0) hx hb dX2_derive_0 (by decide)) ?_
  refine xs (fun _ => lv_istore_n (i := 1) (lv' := [(1, .int 0), (0, .ref mb)]) hx hb dX2_derive_1 rfl hl (by decide) (rfl)) (fun ls hl => ?_)
  have hA : ∀ (d : Nat) (i : Nat) (ka : Nat → Bool) (Hk : Heap), i ≤ n → n < i + d → sm_X G mb n so on tw th ce (fun i => bI (cB (g i))) (fun z => bI (ka z)) li re sec Hk → (∀ j, j < i → ka j = cB (g j)) → sm_F mb H Hk → ∀ (ls : Array Slot), lv_has ls 3 [(1, .int (nI i)), (0, .ref mb)] → xV p l e (xR 3 0 0) s m args below meth c G Hk 0 0 (MQ below (xQ G H (fun v H' => v = none ∧ (∃ k2 : Nat → Bool, sm_X G mb n so on tw th ce (fun i => bI (cB (g i))) (fun i => bI (k2 i)) li re sec H' ∧ ∀ j, j < n → (k2 j = true ↔ sp_der n t g j)) ∧ sm_F mb H H')) args s 0 0 (sg_fr G)) (F0 m 2 ls []) := by
    intro d
    induction d with
    | zero =>
      intro i ka Hk h1 h2
      exact absurd h2 (by omega)
    | succ d ih =>
      intro i ka Hk hi hd hMk hka hF ls hl
      obtain ⟨hm0, hmn, hX, h1, h2, h3, h4, h5, h6, h7, h8, h9⟩ := id hMk
      refine xl (fun _ => lv_iload_n hx hb dX2_derive_2 rfl (lv_at hl 0 rfl)) ?_
      refine xl (fun _ => lv_aload_n hx hb dX2_derive_3 rfl (lv_at hl 1 rfl)) ?_
      refine x_get (ci := 2) hx hb hts hown hK wiX2 hX rfl 0 (by decide) wFX2_38 rfl rfl dX2_derive_4 ?_
      refine xb (fun _ => lv_icmp_ge (tgt := 28) hx hb dX2_derive_7 (by decide)) (fun c_7 => ?_) (fun c_7 => ?_)
      · have ein : i = n := by have := nI_le4 (by omega) (by omega) c_7; omega
        rw [ein] at hka
        refine xl (fun _ => lv_iconst (v := 1) hx hb dX2_derive_28 (by decide)) ?_
        refine xs (fun _ => lv_istore_n (i := 1) (lv' := [(1, .int 1), (0, .ref mb)]) hx hb dX2_derive_29 rfl hl (by decide) (rfl)) (fun ls hl => ?_)
        have hB : ∀ (dB : Nat) (kq : Nat → Bool) (mo : Bool) (Hk : Heap), n < sp_ct kq n + dB → (mo = true → n + 1 < sp_ct kq n + dB) → sm_X G mb n so on tw th ce (fun i => bI (cB (g i))) (fun z => bI (kq z)) li re sec Hk → sp_ok n t ka kq → (mo = false → sp_cd n t kq) → sm_F mb H Hk → ∀ (ls : Array Slot), lv_has ls 3 [(1, .int (bI mo)), (0, .ref mb)] → xV p l e (xR 3 0 0) s m args below meth c G Hk 0 0 (MQ below (xQ G H (fun v H' => v = none ∧ (∃ k2 : Nat → Bool, sm_X G mb n so on tw th ce (fun i => bI (cB (g i))) (fun i => bI (k2 i)) li re sec H' ∧ ∀ j, j < n → (k2 j = true ↔ sp_der n t g j)) ∧ sm_F mb H H')) args s 0 0 (sg_fr G)) (F0 m 30 ls []) := by
          intro dB
          induction dB with
          | zero =>
            intro kq mo Hk h1 h2
            exact absurd h1 (by have := sp_ct_le kq n; omega)
          | succ dB ihB =>
            intro kq mo Hk hf0 hf1 hMk hok hcl hF ls hl
            obtain ⟨hm0, hmn, hX, h1, h2, h3, h4, h5, h6, h7, h8, h9⟩ := id hMk
            refine xl (fun _ => lv_iload_n hx hb dX2_derive_30 rfl (lv_at hl 0 rfl)) ?_
            refine xb (fun _ => lv_if_eq (tgt := 119) hx hb dX2_derive_31 (by decide)) (fun c_31 => ?_) (fun c_31 => ?_)
            · have c_31 := bI_f c_31
              exact x_vret hx hb hr hlocks hs0 hbs (by decide) (by decide) dX2_derive_119 (⟨rfl, ⟨kq, hMk, sp_der_init hka hok (hcl c_31)⟩, hF⟩)
            · have c_31 := bI_t c_31
              refine xl (fun _ => lv_iconst (v := 0) hx hb dX2_derive_34 (by decide)) ?_
              refine xs (fun _ => lv_istore_n (i := 1) (lv' := [(1, .int 0), (0, .ref mb)]) hx hb dX2_derive_35 rfl hl (by decide) (rfl)) (fun ls hl => ?_)
              refine xl (fun _ => lv_iconst (v := 0) hx hb dX2_derive_36 (by decide)) ?_
              refine xs (fun _ => lv_istore_n (i := 2) (lv' := [(2, .int 0), (1, .int 0), (0, .ref mb)]) hx hb dX2_derive_37 rfl hl (by decide) (rfl)) (fun ls hl => ?_)
              have hC : ∀ (dC : Nat) (i : Nat) (kc : Nat → Bool) (mc1 : Bool) (Hk : Heap), i ≤ n → n < i + dC → sm_X G mb n so on tw th ce (fun i => bI (cB (g i))) (fun z => bI (kc z)) li re sec Hk → sp_ok n t ka kc → chg n kq kc mc1 → (mc1 = false → (∀ j, j < i → (kq j = true → sp_an (sp_B kq) (t j)) ∧ (sp_mk n t (sp_B kq) (t j) → kq j = true))) → sm_F mb H Hk → ∀ (ls : Array Slot), lv_has ls 3 [(2, .int (nI i)), (1, .int (bI mc1)), (0, .ref mb)] → xV p l e (xR 3 0 0) s m args below meth c G Hk 0 0 (MQ below (xQ G H (fun v H' => v = none ∧ (∃ k2 : Nat → Bool, sm_X G mb n so on tw th ce (fun i => bI (cB (g i))) (fun i => bI (k2 i)) li re sec H' ∧ ∀ j, j < n → (k2 j = true ↔ sp_der n t g j)) ∧ sm_F mb H H')) args s 0 0 (sg_fr G)) (F0 m 38 ls []) := by
                intro dC
                induction dC with
                | zero =>
                  intro i kc mc1 Hk h1 h2
                  exact absurd h2 (by omega)
                | succ dC ihC =>
                  intro i kc mc1 Hk hi hdC hMk hok hch hclo hF ls hl
                  obtain ⟨hm0, hmn, hX, h1, h2, h3, h4, h5, h6, h7, h8, h9⟩ := id hMk
                  refine xl (fun _ => lv_iload_n hx hb dX2_derive_38 rfl (lv_at hl 0 rfl)) ?_
                  refine xl (fun _ => lv_aload_n hx hb dX2_derive_39 rfl (lv_at hl 2 rfl)) ?_
                  refine x_get (ci := 2) hx hb hts hown hK wiX2 hX rfl 0 (by decide) wFX2_38 rfl rfl dX2_derive_40 ?_
                  refine xb (fun _ => lv_icmp_ge (tgt := 116) hx hb dX2_derive_43 (by decide)) (fun c_43 => ?_) (fun c_43 => ?_)
                  · have ein : i = n := by have := nI_le4 (by omega) (by omega) c_43; omega
                    rw [ein] at hclo
                    have hcd : mc1 = false → sp_cd n t kc := fun z => by rw [hch.1 z]; exact ⟨fun j hj => (hclo z j hj).1, fun j hj => (hclo z j hj).2⟩
                    refine xl (fun _ => lv_goto (tgt := 30) hx hb dX2_derive_116 (by decide)) ?_
                    exact ihB kc mc1 _ (by have := sp_ct_mono (n := n) (b := kq) (b' := kc) (fun j _ => hch.2.2 j); have := hf1 c_31; omega) (fun z => by have := hch.2.1 z; have := hf1 c_31; omega) hMk hok hcd hF ls (lv_sub hl [1, 2] rfl)
                  · have hin : i < n := nI_nle4 (by omega) (by omega) c_43
                    refine xl (fun _ => lv_aload_n hx hb dX2_derive_46 rfl (lv_at hl 2 rfl)) ?_
                    refine x_get (ci := 2) hx hb hts hown hK wiX2 hX rfl 7 (by decide) wFX2_29 rfl rfl dX2_derive_47 ?_
                    refine xl (fun _ => lv_iload_n hx hb dX2_derive_50 rfl (lv_at hl 0 rfl)) ?_
                    refine x_zald hx hb hK h7 i (rfl) (by omega) (by decide) dX2_derive_51 ?_
                    refine xb (fun _ => lv_if_ne (tgt := 83) hx hb dX2_derive_52 (by decide)) (fun c_52 => ?_) (fun c_52 => ?_)
                    · have c_52 := bI_t c_52
                      refine xl (fun _ => lv_aload_n hx hb dX2_derive_83 rfl (lv_at hl 2 rfl)) ?_
                      refine x_get (ci := 2) hx hb hts hown hK wiX2 hX rfl 7 (by decide) wFX2_29 rfl rfl dX2_derive_84 ?_
                      refine xl (fun _ => lv_iload_n hx hb dX2_derive_87 rfl (lv_at hl 0 rfl)) ?_
                      refine x_zald hx hb hK h7 i (rfl) (by omega) (by decide) dX2_derive_88 ?_
                      refine xb (fun _ => lv_if_eq (tgt := 110) hx hb dX2_derive_89 (by decide)) (fun c_89 => ?_) (fun c_89 => ?_)
                      · have c_89 := bI_f c_89
                        rw [c_52] at c_89; cases c_89
                      · have c_89 := bI_t c_89
                        refine xl (fun _ => lv_aload_n hx hb dX2_derive_92 rfl (lv_at hl 2 rfl)) ?_
                        refine xl (fun _ => lv_iload_n hx hb dX2_derive_93 rfl (lv_at hl 0 rfl)) ?_
                        refine x_callV E hl (c_X2_open l G Hk mb n so on tw th ce _ li re kc sec ⟨hm0, hmn, hX, h1, h2, h3, h4, h5, h6, h7, h8, h9⟩ t rg hR i hin) xm_yX2_open wMX2_88 wI_yX2_open wT_yX2_open (ci := 2) rfl rfl hX (rest := []) rfl (by decide) (by decide) ⟨by decide, by decide⟩ dX2_derive_94 (fun v_1 H_2 hp_3 hz_4 hq_5 => ?_)
                        obtain ⟨mo2, rfl, hch2, hMk, hF1⟩ := hp_3
                        have hF : sm_F mb H H_2 := hF.tr hF1
                        refine xg (g2 := F0 m 97 ls [.int (bI mo2)]) rfl ?_
                        obtain ⟨hm0, hmn, hX, h1, h2, h3, h4, h5, h6, h7, h8, h9⟩ := id hMk
                        have hok2 := sp_ok_ta hbd hok hin c_52
                        refine xb (fun _ => lv_if_ne (tgt := 104) hx hb dX2_derive_97 (by decide)) (fun c_97 => ?_) (fun c_97 => ?_)
                        · have c_97 := bI_t c_97
                          refine xl (fun _ => lv_iconst (v := 1) hx hb dX2_derive_104 (by decide)) ?_
                          refine xl (fun _ => lv_goto (tgt := 109) hx hb dX2_derive_105 (by decide)) ?_
                          refine xg (g2 := F0 m 109 ls [.int (bI true)]) rfl ?_
                          have hch3 : chg n kq (sp_ta t kc i) true := by
                            have z := chg_tr hch hch2
                            rw [c_97] at z
                            exact z
                          have hclo2 : true = false → (∀ j, j < i + 1 → (kq j = true → sp_an (sp_B kq) (t j)) ∧ (sp_mk n t (sp_B kq) (t j) → kq j = true)) := fun z => by cases z
                          refine xs (fun _ => lv_istore_n (i := 1) (lv' := [(1, .int (bI true)), (2, .int (nI i)), (0, .ref mb)]) hx hb dX2_derive_109 rfl hl (by decide) (rfl)) (fun ls hl => ?_)
                          refine xs (fun _ => lv_iinc (v := (nI (i + 1))) (lv' := [(2, .int (nI (i + 1))), (1, .int (bI true)), (0, .ref mb)]) hx hb dX2_derive_110 hl (k := 1) rfl (nI_1 i) (by decide) (rfl)) (fun ls hl => ?_)
                          refine xl (fun _ => lv_goto (tgt := 38) hx hb dX2_derive_113 (by decide)) ?_
                          exact ihC (i + 1) _ _ _ (by omega) (by omega) ⟨hm0, hmn, hX, h1, h2, h3, h4, h5, h6, h7, h8, h9⟩ hok2 hch3 hclo2 hF ls (lv_sub hl [0, 1, 2] rfl)
                        · have c_97 := bI_f c_97
                          refine xl (fun _ => lv_iload_n hx hb dX2_derive_100 rfl (lv_at hl 1 rfl)) ?_
                          refine xb (fun _ => lv_if_eq (tgt := 108) hx hb dX2_derive_101 (by decide)) (fun c_101 => ?_) (fun c_101 => ?_)
                          · have c_101 := bI_f c_101
                            refine xl (fun _ => lv_iconst (v := 0) hx hb dX2_derive_108 (by decide)) ?_
                            refine xg (g2 := F0 m 109 ls [.int (bI false)]) rfl ?_
                            have hch3 : chg n kq (sp_ta t kc i) false := by
                              have z := chg_tr hch hch2
                              rw [c_97, c_101] at z
                              exact z
                            have hclo2 : false = false → (∀ j, j < i + 1 → (kq j = true → sp_an (sp_B kq) (t j)) ∧ (sp_mk n t (sp_B kq) (t j) → kq j = true)) := fun _ j hj => by
                              by_cases e : j = i
                              · subst e
                                have ek := hch.1 c_101
                                rw [← ek]
                                exact ⟨fun _ => sp_ta_an (hbd j hin) (fun x hx a => by rw [hch2.1 c_97] at a; exact a), fun _ => c_52⟩
                              · exact hclo c_101 j (by omega)
                            refine xs (fun _ => lv_istore_n (i := 1) (lv' := [(1, .int (bI false)), (2, .int (nI i)), (0, .ref mb)]) hx hb dX2_derive_109 rfl hl (by decide) (rfl)) (fun ls hl => ?_)
                            refine xs (fun _ => lv_iinc (v := (nI (i + 1))) (lv' := [(2, .int (nI (i + 1))), (1, .int (bI false)), (0, .ref mb)]) hx hb dX2_derive_110 hl (k := 1) rfl (nI_1 i) (by decide) (rfl)) (fun ls hl => ?_)
                            refine xl (fun _ => lv_goto (tgt := 38) hx hb dX2_derive_113 (by decide)) ?_
                            exact ihC (i + 1) _ _ _ (by omega) (by omega) ⟨hm0, hmn, hX, h1, h2, h3, h4, h5, h6, h7, h8, h9⟩ hok2 hch3 hclo2 hF ls (lv_sub hl [0, 1, 2] rfl)
                          · have c_101 := bI_t c_101
                            refine xl (fun _ => lv_iconst (v := 1) hx hb dX2_derive_104 (by decide)) ?_
                            refine xl (fun _ => lv_goto (tgt := 109) hx hb dX2_derive_105 (by decide)) ?_
                            refine xg (g2 := F0 m 109 ls [.int (bI true)]) rfl ?_
                            have hch3 : chg n kq (sp_ta t kc i) true := by
                              have z := chg_tr hch hch2
                              rw [c_97, c_101] at z
                              exact z
                            have hclo2 : true = false → (∀ j, j < i + 1 → (kq j = true → sp_an (sp_B kq) (t j)) ∧ (sp_mk n t (sp_B kq) (t j) → kq j = true)) := fun z => by cases z
                            refine xs (fun _ => lv_istore_n (i := 1) (lv' := [(1, .int (bI true)), (2, .int (nI i)), (0, .ref mb)]) hx hb dX2_derive_109 rfl hl (by decide) (rfl)) (fun ls hl => ?_)
                            refine xs (fun _ => lv_iinc (v := (nI (i + 1))) (lv' := [(2, .int (nI (i + 1))), (1, .int (bI true)), (0, .ref mb)]) hx hb dX2_derive_110 hl (k := 1) rfl (nI_1 i) (by decide) (rfl)) (fun ls hl => ?_)
                            refine xl (fun _ => lv_goto (tgt := 38) hx hb dX2_derive_113 (by decide)) ?_
                            exact ihC (i + 1) _ _ _ (by omega) (by omega) ⟨hm0, hmn, hX, h1, h2, h3, h4, h5, h6, h7, h8, h9⟩ hok2 hch3 hclo2 hF ls (lv_sub hl [0, 1, 2] rfl)
                    · have c_52 := bI_f c_52
                      refine xl (fun _ => lv_aload_n hx hb dX2_derive_55 rfl (lv_at hl 2 rfl)) ?_
                      refine xl (fun _ => lv_iload_n hx hb dX2_derive_56 rfl (lv_at hl 0 rfl)) ?_
                      refine x_callV E hl (c_X2_canMake l G Hk mb n so on tw th ce _ li re kc sec ⟨hm0, hmn, hX, h1, h2, h3, h4, h5, h6, h7, h8, h9⟩ t rg hR i hin) xm_yX2_canMake wMX2_85 wI_yX2_canMake wT_yX2_canMake (ci := 2) rfl rfl hX (rest := []) rfl (by decide) (by decide) ⟨by decide, by decide⟩ dX2_derive_57 (x_pure (r := .int (bI (mkB n t kc i))) (st1 := []) ?_)
                      refine xb (fun _ => lv_if_eq (tgt := 83) hx hb dX2_derive_60 (by decide)) (fun c_60 => ?_) (fun c_60 => ?_)
                      · have c_60 := bI_f c_60
                        refine xl (fun _ => lv_aload_n hx hb dX2_derive_83 rfl (lv_at hl 2 rfl)) ?_
                        refine x_get (ci := 2) hx hb hts hown hK wiX2 hX rfl 7 (by decide) wFX2_29 rfl rfl dX2_derive_84 ?_
                        refine xl (fun _ => lv_iload_n hx hb dX2_derive_87 rfl (lv_at hl 0 rfl)) ?_
                        refine x_zald hx hb hK h7 i (rfl) (by omega) (by decide) dX2_derive_88 ?_
                        refine xb (fun _ => lv_if_eq (tgt := 110) hx hb dX2_derive_89 (by decide)) (fun c_89 => ?_) (fun c_89 => ?_)
                        · have c_89 := bI_f c_89
                          have hok2 := hok
                          have hch3 := hch
                          have hclo2 : mc1 = false → (∀ j, j < i + 1 → (kq j = true → sp_an (sp_B kq) (t j)) ∧ (sp_mk n t (sp_B kq) (t j) → kq j = true)) := fun z j hj => by
                            by_cases e : j = i
                            · subst e
                              rw [← hch.1 z]
                              exact ⟨fun a => (by rw [c_52] at a; cases a), fun a => by rw [mkB_t.mpr a] at c_60; cases c_60⟩
                            · exact hclo z j (by omega)
                          refine xs (fun _ => lv_iinc (v := (nI (i + 1))) (lv' := [(2, .int (nI (i + 1))), (1, .int (bI mc1)), (0, .ref mb)]) hx hb dX2_derive_110 hl (k := 0) rfl (nI_1 i) (by decide) (rfl)) (fun ls hl => ?_)
                          refine xl (fun _ => lv_goto (tgt := 38) hx hb dX2_derive_113 (by decide)) ?_
                          exact ihC (i + 1) _ _ _ (by omega) (by omega) ⟨hm0, hmn, hX, h1, h2, h3, h4, h5, h6, h7, h8, h9⟩ hok2 hch3 hclo2 hF ls (lv_sub hl [0, 1, 2] rfl)
                        · have c_89 := bI_t c_89
                          rw [c_52] at c_89; cases c_89
                      · have c_60 := bI_t c_60
                        refine xl (fun _ => lv_aload_n hx hb dX2_derive_63 rfl (lv_at hl 2 rfl)) ?_
                        refine xl (fun _ => lv_iload_n hx hb dX2_derive_64 rfl (lv_at hl 0 rfl)) ?_
                        refine xl (fun _ => lv_iconst (v := 1) hx hb dX2_derive_65 (by decide)) ?_
                        refine xl (fun _ => lv_iadd hx hb dX2_derive_66) ?_
                        rw [show ((nI i) + 1) = (nI (i + 1)) from nI_1 i]
                        refine x_callV E hl (c_X2_learn l G Hk mb n so on tw th ce _ li re kc sec ⟨hm0, hmn, hX, h1, h2, h3, h4, h5, h6, h7, h8, h9⟩ (some i) (so_b (by omega))) xm_yX2_learn wMX2_82 wI_yX2_learn wT_yX2_learn (ci := 2) rfl rfl hX (rest := []) rfl (by decide) (by decide) ⟨by decide, by decide⟩ dX2_derive_67 (fun v_6 H_7 hp_8 hz_9 hq_10 => ?_)
                        obtain ⟨rfl, hM, hF1⟩ := hp_8
                        have hF : sm_F mb H H_7 := hF.tr hF1
                        refine xg (g2 := F0 m 70 ls [.int (bI (!(sp_pi kc (some i))))]) rfl ?_
                        obtain ⟨hm0, hmn, hX, h1, h2, h3, h4, h5, h6, h7, h8, h9⟩ := id hM
                        refine xb (fun _ => lv_if_ne (tgt := 77) hx hb dX2_derive_70 (by decide)) (fun c_70 => ?_) (fun c_70 => ?_)
                        · have c_70 := bI_t c_70
                          have hch1 : chg n kq (sp_uo kc (some i)) true := by
                            have z := chg_tr hch (chg_learn (n := n) (kb := kc) (o := some i) (so_b hin))
                            rw [show sp_pi kc (some i) = false from c_52] at z
                            exact z
                          have hok1 : sp_ok n t ka (sp_uo kc (some i)) := sp_ok_mk hbd hok hin c_60
                          refine xl (fun _ => lv_iconst (v := 1) hx hb dX2_derive_77 (by decide)) ?_
                          refine xl (fun _ => lv_goto (tgt := 82) hx hb dX2_derive_78 (by decide)) ?_
                          refine xg (g2 := F0 m 82 ls [.int (bI true)]) rfl ?_
                          refine xs (fun _ => lv_istore_n (i := 1) (lv' := [(1, .int (bI true)), (2, .int (nI i)), (0, .ref mb)]) hx hb dX2_derive_82 rfl hl (by decide) (rfl)) (fun ls hl => ?_)
                          refine xl (fun _ => lv_aload_n hx hb dX2_derive_83 rfl (lv_at hl 2 rfl)) ?_
                          refine x_get (ci := 2) hx hb hts hown hK wiX2 hX rfl 7 (by decide) wFX2_29 rfl rfl dX2_derive_84 ?_
                          refine xl (fun _ => lv_iload_n hx hb dX2_derive_87 rfl (lv_at hl 1 rfl)) ?_
                          refine x_zald hx hb hK h7 i (rfl) (by omega) (by decide) dX2_derive_88 ?_
                          refine xb (fun _ => lv_if_eq (tgt := 110) hx hb dX2_derive_89 (by decide)) (fun c_89 => ?_) (fun c_89 => ?_)
                          · have c_89 := bI_f c_89
                            rw [show sp_uo kc (some i) i = true from sp_up_self kc i] at c_89; cases c_89
                          · have c_89 := bI_t c_89
                            refine xl (fun _ => lv_aload_n hx hb dX2_derive_92 rfl (lv_at hl 2 rfl)) ?_
                            refine xl (fun _ => lv_iload_n hx hb dX2_derive_93 rfl (lv_at hl 1 rfl)) ?_
                            refine x_callV E hl (c_X2_open l G H_7 mb n so on tw th ce _ li re (sp_uo kc (some i)) sec ⟨hm0, hmn, hX, h1, h2, h3, h4, h5, h6, h7, h8, h9⟩ t rg hR i hin) xm_yX2_open wMX2_88 wI_yX2_open wT_yX2_open (ci := 2) rfl rfl hX (rest := []) rfl (by decide) (by decide) ⟨by decide, by decide⟩ dX2_derive_94 (fun v_11 H_12 hp_13 hz_14 hq_15 => ?_)
                            obtain ⟨mo2, rfl, hch2, hMk, hF1⟩ := hp_13
                            have hF : sm_F mb H H_12 := hF.tr hF1
                            refine xg (g2 := F0 m 97 ls [.int (bI mo2)]) rfl ?_
                            obtain ⟨hm0, hmn, hX, h1, h2, h3, h4, h5, h6, h7, h8, h9⟩ := id hMk
                            have hok2 := sp_ok_ta hbd hok1 hin (show sp_uo kc (some i) i = true from sp_up_self kc i)
                            refine xb (fun _ => lv_if_ne (tgt := 104) hx hb dX2_derive_97 (by decide)) (fun c_97 => ?_) (fun c_97 => ?_)
                            · have c_97 := bI_t c_97
                              refine xl (fun _ => lv_iconst (v := 1) hx hb dX2_derive_104 (by decide)) ?_
                              refine xl (fun _ => lv_goto (tgt := 109) hx hb dX2_derive_105 (by decide)) ?_
                              refine xg (g2 := F0 m 109 ls [.int (bI true)]) rfl ?_
                              have hch3 : chg n kq (sp_ta t (sp_uo kc (some i)) i) true := by
                                have z := chg_tr hch1 hch2
                                rw [c_97] at z
                                exact z
                              have hclo2 : true = false → (∀ j, j < i + 1 → (kq j = true → sp_an (sp_B kq) (t j)) ∧ (sp_mk n t (sp_B kq) (t j) → kq j = true)) := fun z => by cases z
                              refine xs (fun _ => lv_istore_n (i := 1) (lv' := [(1, .int (bI true)), (2, .int (nI i)), (0, .ref mb)]) hx hb dX2_derive_109 rfl hl (by decide) (rfl)) (fun ls hl => ?_)
                              refine xs (fun _ => lv_iinc (v := (nI (i + 1))) (lv' := [(2, .int (nI (i + 1))), (1, .int (bI true)), (0, .ref mb)]) hx hb dX2_derive_110 hl (k := 1) rfl (nI_1 i) (by decide) (rfl)) (fun ls hl => ?_)
                              refine xl (fun _ => lv_goto (tgt := 38) hx hb dX2_derive_113 (by decide)) ?_
                              exact ihC (i + 1) _ _ _ (by omega) (by omega) ⟨hm0, hmn, hX, h1, h2, h3, h4, h5, h6, h7, h8, h9⟩ hok2 hch3 hclo2 hF ls (lv_sub hl [0, 1, 2] rfl)
                            · have c_97 := bI_f c_97
                              refine xl (fun _ => lv_iload_n hx hb dX2_derive_100 rfl (lv_at hl 0 rfl)) ?_
                              refine xb (fun _ => lv_if_eq (tgt := 108) hx hb dX2_derive_101 (by decide)) (fun c_101 => ?_) (fun c_101 => ?_)
                              · have c_101 := bI_f c_101
                                cases c_101
                              · have c_101 := bI_t c_101
                                refine xl (fun _ => lv_iconst (v := 1) hx hb dX2_derive_104 (by decide)) ?_
                                refine xl (fun _ => lv_goto (tgt := 109) hx hb dX2_derive_105 (by decide)) ?_
                                refine xg (g2 := F0 m 109 ls [.int (bI true)]) rfl ?_
                                have hch3 : chg n kq (sp_ta t (sp_uo kc (some i)) i) true := by
                                  have z := chg_tr hch1 hch2
                                  rw [c_97] at z
                                  exact z
                                have hclo2 : true = false → (∀ j, j < i + 1 → (kq j = true → sp_an (sp_B kq) (t j)) ∧ (sp_mk n t (sp_B kq) (t j) → kq j = true)) := fun z => by cases z
                                refine xs (fun _ => lv_istore_n (i := 1) (lv' := [(1, .int (bI true)), (2, .int (nI i)), (0, .ref mb)]) hx hb dX2_derive_109 rfl hl (by decide) (rfl)) (fun ls hl => ?_)
                                refine xs (fun _ => lv_iinc (v := (nI (i + 1))) (lv' := [(2, .int (nI (i + 1))), (1, .int (bI true)), (0, .ref mb)]) hx hb dX2_derive_110 hl (k := 1) rfl (nI_1 i) (by decide) (rfl)) (fun ls hl => ?_)
                                refine xl (fun _ => lv_goto (tgt := 38) hx hb dX2_derive_113 (by decide)) ?_
                                exact ihC (i + 1) _ _ _ (by omega) (by omega) ⟨hm0, hmn, hX, h1, h2, h3, h4, h5, h6, h7, h8, h9⟩ hok2 hch3 hclo2 hF ls (lv_sub hl [0, 1, 2] rfl)
                        · have c_70 := bI_f c_70
                          rw [show sp_pi kc (some i) = false from c_52] at c_70; cases c_70
              exact hC (n + 1) 0 kq false _ (by omega) (by omega) hMk hok chg_rf (fun _ j hj => absurd hj (Nat.not_lt_zero j)) hF ls (lv_sub hl [0, 1, 2] rfl)
        exact hB (n + 2) ka true _ (by omega) (fun _ => by omega) hMk sp_ok_rf (fun z => by cases z) hF ls (lv_sub hl [0, 1] rfl)
      · have hin : i < n := nI_nle4 (by omega) (by omega) c_7
        refine xl (fun _ => lv_aload_n hx hb dX2_derive_10 rfl (lv_at hl 1 rfl)) ?_
        refine x_get (ci := 2) hx hb hts hown hK wiX2 hX rfl 7 (by decide) wFX2_29 rfl rfl dX2_derive_11 ?_
        refine xl (fun _ => lv_iload_n hx hb dX2_derive_14 rfl (lv_at hl 0 rfl)) ?_
        refine xl (fun _ => lv_aload_n hx hb dX2_derive_15 rfl (lv_at hl 1 rfl)) ?_
        refine x_get (ci := 2) hx hb hts hown hK wiX2 hX rfl 6 (by decide) wFX2_25 rfl rfl dX2_derive_16 ?_
        refine xl (fun _ => lv_iload_n hx hb dX2_derive_19 rfl (lv_at hl 0 rfl)) ?_
        refine x_zald hx hb hK h6 i (rfl) (by omega) (by decide) dX2_derive_20 ?_
        refine x_zast hx hb hK h7 i (rfl) (by omega) (by decide) (by omega) (bI_and _) dX2_derive_21 (fun H_16 ho_17 hz_18 hq_19 => ?_)
        have ho_17 : za_ G H_16 (mb + 7) 640 (fun z => bI (va_up ka i (cB (g i)) z)) := by rw [show (upd (fun z => bI (ka z)) i (bI (cB (g i)))) = (fun z => bI (va_up ka i (cB (g i)) z)) from upd_bI2 ka i (cB (g i))] at ho_17; exact ho_17
        have k_20 := va_at.kept (H1 := H_16) (hX) (hq_19 _ (by omega))
        have k_21 := va_at.kept (H1 := H_16) (h1) (hq_19 _ (by omega))
        have k_22 := va_at.kept (H1 := H_16) (h2) (hq_19 _ (by omega))
        have k_23 := va_at.kept (H1 := H_16) (h3) (hq_19 _ (by omega))
        have k_24 := va_at.kept (H1 := H_16) (h4) (hq_19 _ (by omega))
        have k_25 := va_at.kept (H1 := H_16) (h5) (hq_19 _ (by omega))
        have k_26 := va_at.kept (H1 := H_16) (h6) (hq_19 _ (by omega))
        have k_27 := va_at.kept (H1 := H_16) (h8) (hq_19 _ (by omega))
        have k_28 := va_at.kept (H1 := H_16) (h9) (hq_19 _ (by omega))
        have hF : sm_F mb H H_16 := hF.put (a := (mb + 7)) hz_18 hq_19 ⟨by omega, by omega⟩
        refine xs (fun _ => lv_iinc (v := (nI (i + 1))) (lv' := [(1, .int (nI (i + 1))), (0, .ref mb)]) hx hb dX2_derive_22 hl (k := 0) rfl (nI_1 i) (by decide) (rfl)) (fun ls hl => ?_)
        refine xl (fun _ => lv_goto (tgt := 2) hx hb dX2_derive_25 (by decide)) ?_
        exact ih (i + 1) _ _ (by omega) (by omega) ⟨hm0, hmn, k_20, k_21, k_22, k_23, k_24, k_25, k_26, ho_17, k_27, k_28⟩ (fun j hj => by by_cases e : j = i; (rw [e, va_up_self]); (rw [va_up_ne _ _ e]; exact hka j (by omega))) hF ls (lv_sub hl [0, 1] rfl)
  exact hA (n + 1) 0 kb _ (by omega) (by omega) ⟨hm0, hmn, hX, h1, h2, h3, h4, h5, h6, h7, h8, h9⟩ (fun j hj => absurd hj (Nat.not_lt_zero j)) hF ls (lv_sub hl [0, 1] rfl)

set_option maxHeartbeats 4000000 in
set_option maxRecDepth 100000 in
theorem c_X2_derivedNow (l : Launch) (G : sg_G) (H : Heap) (mb n : Nat) (so on tw th ce li re : Nat → Int32) (kb : Nat → Bool) (g : Nat → Prop) (sec : Int32) (hM : sm_X G mb n so on tw th ce (fun i => bI (cB (g i))) (fun i => bI (kb i)) li re sec H) (t : Nat → sp_T) (rg : Nat → Option Nat) (hR : sm_R n t rg so on tw th ce re)  : xC l G yX2_derivedNow cX2_derivedNow 3 (some FieldType.int) 4 0 0 [.ref mb] H (fun v H' => v = some (.int (nI (sp_dc n t g))) ∧ (∃ k2 : Nat → Bool, sm_X G mb n so on tw th ce (fun i => bI (cB (g i))) (fun i => bI (k2 i)) li re sec H') ∧ sm_F mb H H') := by
  refine xC.start (by decide) (Nat.le_of_ble_eq_true rfl) ?_
  intro p e s m args below meth c ls E hnm hs0 hl
  obtain ⟨hx, hb, hml, hown, hts, hr, hlocks, hK, hbs⟩ := id E
  have hl : lv_has ls 3 [(0, .ref mb)] := hl
  obtain ⟨hm0, hmn, hX, h1, h2, h3, h4, h5, h6, h7, h8, h9⟩ := id hM
  obtain ⟨hRt, hRr, hRg, hRw⟩ := id hR
  have hF : sm_F mb H H := sm_F.rf
  have hbd : ∀ i, i < n → sp_bd n (t i) := fun i hi k hk j e => Nat.lt_trans ((hRw i hi).1 k hk j e) hi
  refine xl (fun _ => lv_aload_n hx hb dX2_derivedNow_0 rfl (lv_at hl 0 rfl)) ?_
  refine x_callV E hl (c_X2_derive l G H mb n so on tw th ce li re _ g _ ⟨hm0, hmn, hX, h1, h2, h3, h4, h5, h6, h7, h8, h9⟩ t rg hR) xm_yX2_derive wMX2_91 wI_yX2_derive wT_yX2_derive (ci := 2) rfl rfl hX (rest := []) rfl (by decide) (by decide) ⟨by decide, by decide⟩ dX2_derivedNow_1 (fun v_1 H_2 hp_3 hz_4 hq_5 => ?_)
  obtain ⟨rfl, ⟨k2, hM, hD2⟩, hF1⟩ := hp_3
  have hF : sm_F mb H H_2 := hF.tr hF1
  refine xg (g2 := F0 m 4 ls []) rfl ?_
  obtain ⟨hm0, hmn, hX, h1, h2, h3, h4, h5, h6, h7, h8, h9⟩ := id hM
  refine xl (fun _ => lv_iconst (v := 0) hx hb dX2_derivedNow_4 (by decide)) ?_
  refine xs (fun _ => lv_istore_n (i := 1) (lv' := [(1, .int 0), (0, .ref mb)]) hx hb dX2_derivedNow_5 rfl hl (by decide) (rfl)) (fun ls hl => ?_)
  refine xl (fun _ => lv_iconst (v := 0) hx hb dX2_derivedNow_6 (by decide)) ?_
  refine xs (fun _ => lv_istore_n (i := 2) (lv' := [(2, .int 0), (1, .int 0), (0, .ref mb)]) hx hb dX2_derivedNow_7 rfl hl (by decide) (rfl)) (fun ls hl => ?_)
  have hloop : ∀ (d : Nat) (i : Nat), i ≤ n → n < i + d → ∀ (ls : Array Slot), lv_has ls 3 [(2, .int (nI i)), (1, .int (nI (sp_ct k2 i))), (0, .ref mb)] → xV p l e (xR 4 0 0) s m args below meth c G H_2 0 0 (MQ below (xQ G H (fun v H' => v = some (.int (nI (sp_dc n t g))) ∧ (∃ k2 : Nat → Bool, sm_X G mb n so on tw th ce (fun i => bI (cB (g i))) (fun i => bI (k2 i)) li re sec H') ∧ sm_F mb H H')) args s 0 0 (sg_fr G)) (F0 m 8 ls []) := by
    intro d
    induction d with
    | zero =>
      intro i h1 h2
      exact absurd h2 (by omega)
    | succ d ih =>
      intro i hi hd ls hl
      refine xl (fun _ => lv_iload_n hx hb dX2_derivedNow_8 rfl (lv_at hl 0 rfl)) ?_
      refine xl (fun _ => lv_aload_n hx hb dX2_derivedNow_9 rfl (lv_at hl 2 rfl)) ?_
      refine x_get (ci := 2) hx hb hts hown hK wiX2 hX rfl 0 (by decide) wFX2_38 rfl rfl dX2_derivedNow_10 ?_
      refine xb (fun _ => lv_icmp_ge (tgt := 39) hx hb dX2_derivedNow_13 (by decide)) (fun c_13 => ?_) (fun c_13 => ?_)
      · have ein : i = n := by have := nI_le4 (by omega) (by omega) c_13; omega
        refine xl (fun _ => lv_iload_n hx hb dX2_derivedNow_39 rfl (lv_at hl 1 rfl)) ?_
        exact x_iret hx hb hr hlocks hs0 hbs (by decide) (by decide) dX2_derivedNow_40 (⟨by rw [ein, sp_dc_eq hD2], ⟨k2, hM⟩, hF⟩)
      · have hin : i < n := nI_nle4 (by omega) (by omega) c_13
        refine xl (fun _ => lv_iload_n hx hb dX2_derivedNow_16 rfl (lv_at hl 1 rfl)) ?_
        refine xl (fun _ => lv_aload_n hx hb dX2_derivedNow_17 rfl (lv_at hl 2 rfl)) ?_
        refine x_get (ci := 2) hx hb hts hown hK wiX2 hX rfl 7 (by decide) wFX2_29 rfl rfl dX2_derivedNow_18 ?_
        refine xl (fun _ => lv_iload_n hx hb dX2_derivedNow_21 rfl (lv_at hl 0 rfl)) ?_
        refine x_zald hx hb hK h7 i (rfl) (by omega) (by decide) dX2_derivedNow_22 ?_
        refine xb (fun _ => lv_if_eq (tgt := 30) hx hb dX2_derivedNow_23 (by decide)) (fun c_23 => ?_) (fun c_23 => ?_)
        · have c_23 := bI_f c_23
          refine xl (fun _ => lv_iconst (v := 0) hx hb dX2_derivedNow_30 (by decide)) ?_
          refine xl (fun _ => lv_iadd hx hb dX2_derivedNow_31) ?_
          refine xg (g2 := F0 m 32 ls [.int (nI (sp_ct k2 (i + 1)))]) (by rw [show sp_ct k2 (i + 1) = sp_ct k2 i + (if k2 i = true then 1 else 0) from rfl, c_23]; rw [if_neg (by decide), Int32.add_zero]; rfl) ?_
          refine xs (fun _ => lv_istore_n (i := 1) (lv' := [(1, .int (nI (sp_ct k2 (i + 1)))), (2, .int (nI i)), (0, .ref mb)]) hx hb dX2_derivedNow_32 rfl hl (by decide) (rfl)) (fun ls hl => ?_)
          refine xs (fun _ => lv_iinc (v := (nI (i + 1))) (lv' := [(2, .int (nI (i + 1))), (1, .int (nI (sp_ct k2 (i + 1)))), (0, .ref mb)]) hx hb dX2_derivedNow_33 hl (k := 1) rfl (nI_1 i) (by decide) (rfl)) (fun ls hl => ?_)
          refine xl (fun _ => lv_goto (tgt := 8) hx hb dX2_derivedNow_36 (by decide)) ?_
          exact ih (i + 1) (by omega) (by omega) ls (lv_sub hl [0, 1, 2] rfl)
        · have c_23 := bI_t c_23
          refine xl (fun _ => lv_iconst (v := 1) hx hb dX2_derivedNow_26 (by decide)) ?_
          refine xl (fun _ => lv_goto (tgt := 31) hx hb dX2_derivedNow_27 (by decide)) ?_
          refine xl (fun _ => lv_iadd hx hb dX2_derivedNow_31) ?_
          refine xg (g2 := F0 m 32 ls [.int (nI (sp_ct k2 (i + 1)))]) (by rw [show sp_ct k2 (i + 1) = sp_ct k2 i + (if k2 i = true then 1 else 0) from rfl, c_23]; rw [if_pos rfl, ← nI_1]) ?_
          refine xs (fun _ => lv_istore_n (i := 1) (lv' := [(1, .int (nI (sp_ct k2 (i + 1)))), (2, .int (nI i)), (0, .ref mb)]) hx hb dX2_derivedNow_32 rfl hl (by decide) (rfl)) (fun ls hl => ?_)
          refine xs (fun _ => lv_iinc (v := (nI (i + 1))) (lv' := [(2, .int (nI (i + 1))), (1, .int (nI (sp_ct k2 (i + 1)))), (0, .ref mb)]) hx hb dX2_derivedNow_33 hl (k := 1) rfl (nI_1 i) (by decide) (rfl)) (fun ls hl => ?_)
          refine xl (fun _ => lv_goto (tgt := 8) hx hb dX2_derivedNow_36 (by decide)) ?_
          exact ih (i + 1) (by omega) (by omega) ls (lv_sub hl [0, 1, 2] rfl)
  exact hloop (n + 1) 0 (by omega) (by omega) ls (lv_sub hl [0, 1, 2] rfl)
