set_option maxHeartbeats 4000000 in
set_option maxRecDepth 100000 in
theorem c_X1_derive_n (l : Launch) (G : sg_G) (H : Heap) (b lo n : Nat) (t : Nat → sp_T) (rg : Nat → Option Nat) (ta na pa : Nat → Nat) (dv : Nat → Bool) (hV : sc_V G b lo n t rg ta na pa dv H)  : xC l G yX1_derive cX1_derive 3 none 1 0 0 [.ref b, .null] H (fun v H' => v = none ∧ sc_V G b lo n t rg ta na pa dv H' ∧ sc_F b lo H H' ∧ H'.size = H.size) := by
  refine xC.start (by decide) (Nat.le_of_ble_eq_true rfl) ?_
  intro p e s m args below meth c ls E hnm hs0 hl
  obtain ⟨hx, hb, hml, hown, hts, hr, hlocks, hK, hbs⟩ := id E
  have hl : lv_has ls 3 [(0, .ref b), (1, .null)] := hl
  obtain ⟨fc, hC, hfI⟩ := id hV
  obtain ⟨hw, hb0, hb4, hlo, hn5, hX, hRG, hMD, hZR, hT, hrg, hwf⟩ := id hC
  have hFF : sc_F b lo H H := sc_F.rf
  have hSS : H.size = H.size := rfl
  refine xl (fun _ => lv_aload_nN hx hb dX1_derive_0 rfl (lv_at hl 1 rfl)) ?_
  refine xl (fun _ => lv_ifnullN (tgt := 11) hx hb dX1_derive_1 (by decide)) ?_
  exact x_vret hx hb hr hlocks hs0 hbs (by decide) (by decide) dX1_derive_11 (⟨rfl, hV, hFF, hSS⟩)

set_option maxHeartbeats 4000000 in
set_option maxRecDepth 100000 in
theorem c_X1_derive_s (l : Launch) (G : sg_G) (H : Heap) (b lo n : Nat) (t : Nat → sp_T) (rg : Nat → Option Nat) (ta na pa : Nat → Nat) (dv : Nat → Bool) (hV : sc_V G b lo n t rg ta na pa dv H) (i : Nat) (hi : i < n) : xC l G yX1_derive cX1_derive 3 none 1 0 0 [.ref b, .ref (ta i)] H (fun v H' => v = none ∧ sc_V G b lo n t rg ta na pa (sp_up dv i) H' ∧ sc_F b lo H H' ∧ H'.size = H.size) := by
  refine xC.start (by decide) (Nat.le_of_ble_eq_true rfl) ?_
  intro p e s m args below meth c ls E hnm hs0 hl
  obtain ⟨hx, hb, hml, hown, hts, hr, hlocks, hK, hbs⟩ := id E
  have hl : lv_has ls 3 [(0, .ref b), (1, .ref (ta i))] := hl
  obtain ⟨fc, hC, hfI⟩ := id hV
  obtain ⟨hw, hb0, hb4, hlo, hn5, hX, hRG, hMD, hZR, hT, hrg, hwf⟩ := id hC
  have hFF : sc_F b lo H H := sc_F.rf
  have hSS : H.size = H.size := rfl
  refine xl (fun _ => lv_aload_n hx hb dX1_derive_0 rfl (lv_at hl 1 rfl)) ?_
  refine xl (fun _ => lv_ifnull hx hb dX1_derive_1) ?_
  refine xl (fun _ => lv_aload_n hx hb dX1_derive_4 rfl (lv_at hl 1 rfl)) ?_
  refine x_get (ci := 0) hx hb hts hown hK wiX0 ((hT i hi).2.2.2.1) rfl 5 (by decide) wFX1_84 rfl rfl dX1_derive_5 ?_
  refine xb (fun _ => lv_if_eq (tgt := 12) hx hb dX1_derive_8 (by decide)) (fun c_8 => ?_) (fun c_8 => ?_)
  · have c_8 := bI_f c_8
    refine xl (fun _ => lv_aload_n hx hb dX1_derive_12 rfl (lv_at hl 1 rfl)) ?_
    refine xl (fun _ => lv_iconst (v := 1) hx hb dX1_derive_13 (by decide)) ?_
    refine x_put (ci := 0) hx hb hts hown hK wiX0 tyX0 tyX0_ok nmX0 ((hT i hi).2.2.2.1) rfl 5 (by decide) wFX1_84 rfl rfl (rfl) (rfl) (by simp) (by have := (hT i hi).1; omega) dX1_derive_14 (fun H_1 ho_2 hz_3 hq_4 => ?_)
    have ho_2 : ob_ G H_1 (ta i) 0 [.int (sp_so (t i)), .int (sp_la (t i)), .ref (na i), .ref (pa i), .int (nI i), .int 1, .int (bI (fc i))] := ho_2
    have hC : sc_X G b lo n t (sp_up dv i) fc rg (sp_ct dv n) ta na pa H_1 := sc_fl hC hi (fun j e => sp_up_ne dv e) (fun _ _ => rfl) (by rw [sp_up_self]; exact ho_2) hz_3 hq_4
    have hFF : sc_F b lo H H_1 := hFF.tr ⟨by omega, fun q h1 h2 => hq_4 q (by have := (hT i hi).1; omega)⟩
    have hSS : H_1.size = H.size := hz_3.trans hSS
    obtain ⟨hw, hb0, hb4, hlo, hn5, hX, hRG, hMD, hZR, hT, hrg, hwf⟩ := id hC
    refine xl (fun _ => lv_aload_n hx hb dX1_derive_17 rfl (lv_at hl 0 rfl)) ?_
    refine xl (fun _ => lv_dup hx hb dX1_derive_18 rfl) ?_
    refine x_get (ci := 1) hx hb hts hown hK wiX1 hX rfl 3 (by decide) wFX1_22 rfl rfl dX1_derive_19 ?_
    refine xl (fun _ => lv_iconst (v := 1) hx hb dX1_derive_22 (by decide)) ?_
    refine xl (fun _ => lv_iadd hx hb dX1_derive_23) ?_
    rw [show ((nI (sp_ct dv n)) + 1) = (nI (sp_ct dv n + 1)) from nI_1 _]
    refine x_put (ci := 1) hx hb hts hown hK wiX1 tyX1 tyX1_ok nmX1 hX rfl 3 (by decide) wFX1_22 rfl rfl (rfl) (rfl) (by simp) (hb0) dX1_derive_24 (fun H_5 ho_6 hz_7 hq_8 => ?_)
    have ho_6 : ob_ G H_5 b 1 [.ref (b + 1), .ref (b + 2), .int (nI n), .int (nI (sp_ct dv n + 1)), .ref (b + 3)] := ho_6
    have hC : sc_X G b lo n t (sp_up dv i) fc rg (sp_ct dv n + 1) ta na pa H_5 := sc_dc hC ho_6 hz_7 hq_8
    have hFF : sc_F b lo H H_5 := hFF.tr ⟨by omega, fun q h1 h2 => hq_8 q (by omega)⟩
    have hSS : H_5.size = H.size := hz_7.trans hSS
    obtain ⟨hw, hb0, hb4, hlo, hn5, hX, hRG, hMD, hZR, hT, hrg, hwf⟩ := id hC
    refine xl (fun _ => lv_aload_n hx hb dX1_derive_27 rfl (lv_at hl 1 rfl)) ?_
    refine x_get (ci := 0) hx hb hts hown hK wiX0 ((hT i hi).2.2.2.1) rfl 0 (by decide) wFX1_78 rfl rfl dX1_derive_28 ?_
    refine xl (fun _ => lv_iconst (v := 2) hx hb dX1_derive_31 (by decide)) ?_
    refine xb (fun _ => lv_icmp_ne (tgt := 43) hx hb dX1_derive_32 (by decide)) (fun c_32 => ?_) (fun c_32 => ?_)
    · refine xl (fun _ => lv_aload_n hx hb dX1_derive_43 rfl (lv_at hl 1 rfl)) ?_
      refine xs (fun _ => lv_astore_n (i := 2) (lv' := [(2, .ref (ta i)), (0, .ref b), (1, .ref (ta i))]) hx hb dX1_derive_44 rfl hl (by decide) (rfl)) (fun ls hl => ?_)
      refine xl (fun _ => lv_aload_n hx hb dX1_derive_45 rfl (lv_at hl 0 rfl)) ?_
      refine xl (fun _ => lv_ifnull hx hb dX1_derive_46) ?_
      refine xl (fun _ => lv_aload_n hx hb dX1_derive_49 rfl (lv_at hl 0 rfl)) ?_
      refine x_get (ci := 0) hx hb hts hown hK wiX0 ((hT i hi).2.2.2.1) rfl 0 (by decide) wFX1_78 rfl rfl dX1_derive_50 ?_
      refine xl (fun _ => lv_iconst (v := 1) hx hb dX1_derive_53 (by decide)) ?_
      refine xb (fun _ => lv_icmp_ne (tgt := 62) hx hb dX1_derive_54 (by decide)) (fun c_54 => ?_) (fun c_54 => ?_)
      · exact x_vret hx hb hr hlocks hs0 hbs (by decide) (by decide) dX1_derive_62 (⟨rfl, ⟨_, by rw [sp_ct_up hi c_8]; exact hC, fcI_0 hfI c_54 c_32⟩, hFF, hSS⟩)
      · refine xl (fun _ => lv_aload_n hx hb dX1_derive_57 rfl (lv_at hl 0 rfl)) ?_
        refine xl (fun _ => lv_iconst (v := 1) hx hb dX1_derive_58 (by decide)) ?_
        refine x_put (ci := 0) hx hb hts hown hK wiX0 tyX0 tyX0_ok nmX0 ((hT i hi).2.2.2.1) rfl 6 (by decide) wFX1_132 rfl rfl (rfl) (rfl) (by simp) (by have := (hT i hi).1; omega) dX1_derive_59 (fun H_9 ho_10 hz_11 hq_12 => ?_)
        have ho_10 : ob_ G H_9 (ta i) 0 [.int (sp_so (t i)), .int (sp_la (t i)), .ref (na i), .ref (pa i), .int (nI i), .int (bI ((sp_up dv i) i)), .int 1] := ho_10
        have hC : sc_X G b lo n t (sp_up dv i) (sp_up fc i) rg (sp_ct dv n + 1) ta na pa H_9 := sc_fl hC hi (fun _ _ => rfl) (fun j e => sp_up_ne fc e) (by rw [sp_up_self fc]; exact ho_10) hz_11 hq_12
        have hFF : sc_F b lo H H_9 := hFF.tr ⟨by omega, fun q h1 h2 => hq_12 q (by have := (hT i hi).1; omega)⟩
        have hSS : H_9.size = H.size := hz_11.trans hSS
        exact x_vret hx hb hr hlocks hs0 hbs (by decide) (by decide) dX1_derive_62 (⟨rfl, ⟨_, by rw [sp_ct_up hi c_8]; exact hC, fcI_1 hfI c_54⟩, hFF, hSS⟩)
    · refine xl (fun _ => lv_aload_n hx hb dX1_derive_35 rfl (lv_at hl 1 rfl)) ?_
      refine xl (fun _ => lv_iconst (v := 0) hx hb dX1_derive_36 (by decide)) ?_
      refine x_callV E hl (c_X0_partAt l G H_5 (ta i) (na i) (pa i) _ _ _ _ _ _ (hT i hi).2.2.2.1 (hT i hi).2.2.2.2.2 0 (by decide)) xm_yX0_partAt wMX1_45 wI_yX0_partAt wT_yX0_partAt (ci := 0) rfl rfl ((hT i hi).2.2.2.1) (rest := []) rfl (by decide) (by decide) ⟨by decide, by decide⟩ dX1_derive_37 (x_pure (r := va_rf ((sp_pa (t i) 0).map ta)) (st1 := []) ?_)
      obtain ⟨x, hx0, hxi, hx1⟩ := sp_wf2 (hwf i hi) c_32
      have hxn : x < n := by omega
      refine xg (g2 := F0 m 40 ls [.ref (ta x)]) (by rw [hx0]; rfl) ?_
      refine xl (fun _ => lv_goto (tgt := 44) hx hb dX1_derive_40 (by decide)) ?_
      refine xs (fun _ => lv_astore_n (i := 2) (lv' := [(2, .ref (ta x)), (0, .ref b), (1, .ref (ta i))]) hx hb dX1_derive_44 rfl hl (by decide) (rfl)) (fun ls hl => ?_)
      refine xl (fun _ => lv_aload_n hx hb dX1_derive_45 rfl (lv_at hl 0 rfl)) ?_
      refine xl (fun _ => lv_ifnull hx hb dX1_derive_46) ?_
      refine xl (fun _ => lv_aload_n hx hb dX1_derive_49 rfl (lv_at hl 0 rfl)) ?_
      refine x_get (ci := 0) hx hb hts hown hK wiX0 ((hT x hxn).2.2.2.1) rfl 0 (by decide) wFX1_78 rfl rfl dX1_derive_50 ?_
      refine xl (fun _ => lv_iconst (v := 1) hx hb dX1_derive_53 (by decide)) ?_
      refine xb (fun _ => lv_icmp_ne (tgt := 62) hx hb dX1_derive_54 (by decide)) (fun c_54 => ?_) (fun c_54 => ?_)
      · exact absurd hx1 c_54
      · refine xl (fun _ => lv_aload_n hx hb dX1_derive_57 rfl (lv_at hl 0 rfl)) ?_
        refine xl (fun _ => lv_iconst (v := 1) hx hb dX1_derive_58 (by decide)) ?_
        refine x_put (ci := 0) hx hb hts hown hK wiX0 tyX0 tyX0_ok nmX0 ((hT x hxn).2.2.2.1) rfl 6 (by decide) wFX1_132 rfl rfl (rfl) (rfl) (by simp) (by have := (hT x hxn).1; omega) dX1_derive_59 (fun H_13 ho_14 hz_15 hq_16 => ?_)
        have ho_14 : ob_ G H_13 (ta x) 0 [.int (sp_so (t x)), .int (sp_la (t x)), .ref (na x), .ref (pa x), .int (nI x), .int (bI ((sp_up dv i) x)), .int 1] := ho_14
        have hC : sc_X G b lo n t (sp_up dv i) (sp_up fc x) rg (sp_ct dv n + 1) ta na pa H_13 := sc_fl hC hxn (fun _ _ => rfl) (fun j e => sp_up_ne fc e) (by rw [sp_up_self fc]; exact ho_14) hz_15 hq_16
        have hFF : sc_F b lo H H_13 := hFF.tr ⟨by omega, fun q h1 h2 => hq_16 q (by have := (hT x hxn).1; omega)⟩
        have hSS : H_13.size = H.size := hz_15.trans hSS
        exact x_vret hx hb hr hlocks hs0 hbs (by decide) (by decide) dX1_derive_62 (⟨rfl, ⟨_, by rw [sp_ct_up hi c_8]; exact hC, fcI_2 hfI hi c_32 hx0⟩, hFF, hSS⟩)
  · have c_8 := bI_t c_8
    exact x_vret hx hb hr hlocks hs0 hbs (by decide) (by decide) dX1_derive_11 (⟨rfl, by rw [sp_up_id c_8]; exact hV, hFF, hSS⟩)

theorem c_X1_derive_o (l : Launch) (G : sg_G) (H : Heap) (b lo n : Nat) (t : Nat → sp_T) (rg : Nat → Option Nat) (ta na pa : Nat → Nat) (dv : Nat → Bool) (hV : sc_V G b lo n t rg ta na pa dv H) (o : Option Nat) (ho : ∀ j, o = some j → j < n) : xC l G yX1_derive cX1_derive 3 none 1 0 0 [.ref b, va_rf (o.map ta)] H (fun v H' => v = none ∧ sc_V G b lo n t rg ta na pa (sp_uo dv o) H' ∧ sc_F b lo H H' ∧ H'.size = H.size) := by
  cases o with
  | none => exact c_X1_derive_n l G H b lo n t rg ta na pa dv hV
  | some i => exact c_X1_derive_s l G H b lo n t rg ta na pa dv hV i (ho i rfl)

set_option maxHeartbeats 4000000 in
set_option maxRecDepth 100000 in
theorem c_X1_takeApart (l : Launch) (G : sg_G) (H : Heap) (b lo n : Nat) (t : Nat → sp_T) (rg : Nat → Option Nat) (ta na pa : Nat → Nat) (dv : Nat → Bool) (hV : sc_V G b lo n t rg ta na pa dv H) (i : Nat) (hi : i < n) : xC l G yX1_takeApart cX1_takeApart 3 none 2 0 0 [.ref b, .ref (ta i)] H (fun v H' => v = none ∧ sc_V G b lo n t rg ta na pa (sp_ta t dv i) H' ∧ sc_F b lo H H' ∧ H'.size = H.size) := by
  refine xC.start (by decide) (Nat.le_of_ble_eq_true rfl) ?_
  intro p e s m args below meth c ls E hnm hs0 hl
  obtain ⟨hx, hb, hml, hown, hts, hr, hlocks, hK, hbs⟩ := id E
  have hl : lv_has ls 3 [(0, .ref b), (1, .ref (ta i))] := hl
  obtain ⟨fc, hC, hfI⟩ := id hV
  obtain ⟨hw, hb0, hb4, hlo, hn5, hX, hRG, hMD, hZR, hT, hrg, hwf⟩ := id hC
  have hFF : sc_F b lo H H := sc_F.rf
  have hSS : H.size = H.size := rfl
  refine xl (fun _ => lv_aload_n hx hb dX1_takeApart_0 rfl (lv_at hl 1 rfl)) ?_
  refine x_get (ci := 0) hx hb hts hown hK wiX0 ((hT i hi).2.2.2.1) rfl 0 (by decide) wFX1_78 rfl rfl dX1_takeApart_1 ?_
  refine xl (fun _ => lv_bipush (v := 7) hx hb dX1_takeApart_4 (by decide)) ?_
  refine xb (fun _ => lv_icmp_ne (tgt := 34) hx hb dX1_takeApart_6 (by decide)) (fun c_6 => ?_) (fun c_6 => ?_)
  · refine xl (fun _ => lv_aload_n hx hb dX1_takeApart_34 rfl (lv_at hl 1 rfl)) ?_
    refine x_get (ci := 0) hx hb hts hown hK wiX0 ((hT i hi).2.2.2.1) rfl 0 (by decide) wFX1_78 rfl rfl dX1_takeApart_35 ?_
    refine xl (fun _ => lv_iconst (v := 5) hx hb dX1_takeApart_38 (by decide)) ?_
    refine xb (fun _ => lv_icmp_ne (tgt := 71) hx hb dX1_takeApart_39 (by decide)) (fun c_39 => ?_) (fun c_39 => ?_)
    · refine xl (fun _ => lv_aload_n hx hb dX1_takeApart_71 rfl (lv_at hl 1 rfl)) ?_
      refine x_get (ci := 0) hx hb hts hown hK wiX0 ((hT i hi).2.2.2.1) rfl 0 (by decide) wFX1_78 rfl rfl dX1_takeApart_72 ?_
      refine xl (fun _ => lv_bipush (v := 6) hx hb dX1_takeApart_75 (by decide)) ?_
      refine xb (fun _ => lv_icmp_ne (tgt := 89) hx hb dX1_takeApart_77 (by decide)) (fun c_77 => ?_) (fun c_77 => ?_)
      · exact x_vret hx hb hr hlocks hs0 hbs (by decide) (by decide) dX1_takeApart_89 (⟨rfl, by rw [show sp_ta t dv i = dv from by unfold sp_ta; rw [if_neg c_6, if_neg c_39, if_neg c_77]]; exact hV, hFF, hSS⟩)
      · refine xl (fun _ => lv_aload_n hx hb dX1_takeApart_80 rfl (lv_at hl 0 rfl)) ?_
        refine xl (fun _ => lv_aload_n hx hb dX1_takeApart_81 rfl (lv_at hl 1 rfl)) ?_
        refine xl (fun _ => lv_iconst (v := 1) hx hb dX1_takeApart_82 (by decide)) ?_
        refine x_callV E hl (c_X0_partAt l G H (ta i) (na i) (pa i) _ _ _ _ _ _ (hT i hi).2.2.2.1 (hT i hi).2.2.2.2.2 1 (by decide)) xm_yX0_partAt wMX1_45 wI_yX0_partAt wT_yX0_partAt (ci := 0) rfl rfl ((hT i hi).2.2.2.1) (rest := [.ref b]) rfl (by simp [cat_rf, cat_int, cat_ref, cat_null]) (by decide) ⟨by decide, by decide⟩ dX1_takeApart_83 (x_pure (r := va_rf ((sp_pa (t i) 1).map ta)) (st1 := []) ?_)
        refine x_callV E hl (c_X1_derive_o l G H b lo n t rg ta na pa _ hV (sp_pa (t i) 1) (fun j e => sc_bd hC i hi 1 (by omega) j e)) xm_yX1_derive wMX1_88 wI_yX1_derive wT_yX1_derive (ci := 1) rfl rfl hX (rest := []) rfl (by decide) (by decide) ⟨by decide, by decide⟩ dX1_takeApart_86 (fun v_1 H_2 hp_3 hz_4 hq_5 => ?_)
        obtain ⟨rfl, hV, hF2, hS2⟩ := hp_3
        have hFF := hFF.tr hF2
        have hSS := hS2.trans hSS
        refine xg (g2 := F0 m 89 ls []) rfl ?_
        obtain ⟨fc, hC, hfI⟩ := id hV
        obtain ⟨hw, hb0, hb4, hlo, hn5, hX, hRG, hMD, hZR, hT, hrg, hwf⟩ := id hC
        exact x_vret hx hb hr hlocks hs0 hbs (by decide) (by decide) dX1_takeApart_89 (⟨rfl, by rw [show sp_ta t dv i = (sp_uo dv (sp_pa (t i) 1)) from by unfold sp_ta; rw [if_neg c_6, if_neg c_39, if_pos c_77]]; exact hV, hFF, hSS⟩)
    · refine xl (fun _ => lv_aload_n hx hb dX1_takeApart_42 rfl (lv_at hl 0 rfl)) ?_
      refine xl (fun _ => lv_aload_n hx hb dX1_takeApart_43 rfl (lv_at hl 1 rfl)) ?_
      refine xl (fun _ => lv_iconst (v := 1) hx hb dX1_takeApart_44 (by decide)) ?_
      refine x_callV E hl (c_X0_partAt l G H (ta i) (na i) (pa i) _ _ _ _ _ _ (hT i hi).2.2.2.1 (hT i hi).2.2.2.2.2 1 (by decide)) xm_yX0_partAt wMX1_45 wI_yX0_partAt wT_yX0_partAt (ci := 0) rfl rfl ((hT i hi).2.2.2.1) (rest := [.ref b]) rfl (by simp [cat_rf, cat_int, cat_ref, cat_null]) (by decide) ⟨by decide, by decide⟩ dX1_takeApart_45 (x_pure (r := va_rf ((sp_pa (t i) 1).map ta)) (st1 := []) ?_)
      refine x_callV E hl (c_X1_derive_o l G H b lo n t rg ta na pa _ hV (sp_pa (t i) 1) (fun j e => sc_bd hC i hi 1 (by omega) j e)) xm_yX1_derive wMX1_88 wI_yX1_derive wT_yX1_derive (ci := 1) rfl rfl hX (rest := []) rfl (by decide) (by decide) ⟨by decide, by decide⟩ dX1_takeApart_48 (fun v_6 H_7 hp_8 hz_9 hq_10 => ?_)
      obtain ⟨rfl, hV, hF2, hS2⟩ := hp_8
      have hFF := hFF.tr hF2
      have hSS := hS2.trans hSS
      refine xg (g2 := F0 m 51 ls []) rfl ?_
      obtain ⟨fc, hC, hfI⟩ := id hV
      obtain ⟨hw, hb0, hb4, hlo, hn5, hX, hRG, hMD, hZR, hT, hrg, hwf⟩ := id hC
      refine xl (fun _ => lv_aload_n hx hb dX1_takeApart_51 rfl (lv_at hl 1 rfl)) ?_
      refine xl (fun _ => lv_iconst (v := 0) hx hb dX1_takeApart_52 (by decide)) ?_
      refine x_callV E hl (c_X0_isPartIn l G H_7 (ta i) (na i) (pa i) _ _ _ _ _ _ (hT i hi).2.2.2.1 (hT i hi).2.2.2.2.2 0 (by decide) _ (sc_pin hC (fun j e => sc_bd hC i hi 0 (by omega) j e))) xm_yX0_isPartIn wMX1_150 wI_yX0_isPartIn wT_yX0_isPartIn (ci := 0) rfl rfl ((hT i hi).2.2.2.1) (rest := []) rfl (by decide) (by decide) ⟨by decide, by decide⟩ dX1_takeApart_53 (x_pure (r := .int (bI (sp_pi (sp_uo dv (sp_pa (t i) 1)) (sp_pa (t i) 0)))) (st1 := []) ?_)
      refine xb (fun _ => lv_if_eq (tgt := 89) hx hb dX1_takeApart_56 (by decide)) (fun c_56 => ?_) (fun c_56 => ?_)
      · have c_56 := bI_f c_56
        exact x_vret hx hb hr hlocks hs0 hbs (by decide) (by decide) dX1_takeApart_89 (⟨rfl, by rw [show sp_ta t dv i = (sp_uo dv (sp_pa (t i) 1)) from by unfold sp_ta; rw [if_neg c_6, if_pos c_39, if_neg (by rw [c_56]; decide)]]; exact hV, hFF, hSS⟩)
      · have c_56 := bI_t c_56
        refine xl (fun _ => lv_aload_n hx hb dX1_takeApart_59 rfl (lv_at hl 0 rfl)) ?_
        refine xl (fun _ => lv_aload_n hx hb dX1_takeApart_60 rfl (lv_at hl 1 rfl)) ?_
        refine xl (fun _ => lv_iconst (v := 2) hx hb dX1_takeApart_61 (by decide)) ?_
        refine x_callV E hl (c_X0_partAt l G H_7 (ta i) (na i) (pa i) _ _ _ _ _ _ (hT i hi).2.2.2.1 (hT i hi).2.2.2.2.2 2 (by decide)) xm_yX0_partAt wMX1_45 wI_yX0_partAt wT_yX0_partAt (ci := 0) rfl rfl ((hT i hi).2.2.2.1) (rest := [.ref b]) rfl (by simp [cat_rf, cat_int, cat_ref, cat_null]) (by decide) ⟨by decide, by decide⟩ dX1_takeApart_62 (x_pure (r := va_rf ((sp_pa (t i) 2).map ta)) (st1 := []) ?_)
        refine x_callV E hl (c_X1_derive_o l G H_7 b lo n t rg ta na pa _ hV (sp_pa (t i) 2) (fun j e => sc_bd hC i hi 2 (by omega) j e)) xm_yX1_derive wMX1_88 wI_yX1_derive wT_yX1_derive (ci := 1) rfl rfl hX (rest := []) rfl (by decide) (by decide) ⟨by decide, by decide⟩ dX1_takeApart_65 (fun v_11 H_12 hp_13 hz_14 hq_15 => ?_)
        obtain ⟨rfl, hV, hF2, hS2⟩ := hp_13
        have hFF := hFF.tr hF2
        have hSS := hS2.trans hSS
        refine xg (g2 := F0 m 68 ls []) rfl ?_
        obtain ⟨fc, hC, hfI⟩ := id hV
        obtain ⟨hw, hb0, hb4, hlo, hn5, hX, hRG, hMD, hZR, hT, hrg, hwf⟩ := id hC
        refine xl (fun _ => lv_goto (tgt := 89) hx hb dX1_takeApart_68 (by decide)) ?_
        exact x_vret hx hb hr hlocks hs0 hbs (by decide) (by decide) dX1_takeApart_89 (⟨rfl, by rw [show sp_ta t dv i = (sp_uo (sp_uo dv (sp_pa (t i) 1)) (sp_pa (t i) 2)) from by unfold sp_ta; rw [if_neg c_6, if_pos c_39, if_pos c_56]]; exact hV, hFF, hSS⟩)
  · refine xl (fun _ => lv_iconst (v := 0) hx hb dX1_takeApart_9 (by decide)) ?_
    refine xs (fun _ => lv_istore_n (i := 2) (lv' := [(2, .int 0), (0, .ref b), (1, .ref (ta i))]) hx hb dX1_takeApart_10 rfl hl (by decide) (rfl)) (fun ls hl => ?_)
    have hloop : ∀ (d : Nat) (k : Nat) (Hk : Heap), k ≤ 4 → 4 < k + d → sc_V G b lo n t rg ta na pa (sp_us dv (sp_pa (t i)) k) Hk → sc_F b lo H Hk → Hk.size = H.size → ∀ (ls : Array Slot), lv_has ls 3 [(2, .int (nI k)), (0, .ref b), (1, .ref (ta i))] → xV p l e (xR 2 0 0) s m args below meth c G Hk 0 0 (MQ below (xQ G H (fun v H' => v = none ∧ sc_V G b lo n t rg ta na pa (sp_ta t dv i) H' ∧ sc_F b lo H H' ∧ H'.size = H.size)) args s 0 0 (sg_fr G)) (F0 m 11 ls []) := by
      intro d
      induction d with
      | zero =>
        intro k Hk h1 h2
        exact absurd h2 (by omega)
      | succ d ih =>
        intro k Hk hk hd hV hFF hSS ls hl
        obtain ⟨fc, hC, hfI⟩ := id hV
        obtain ⟨hw, hb0, hb4, hlo, hn5, hX, hRG, hMD, hZR, hT, hrg, hwf⟩ := id hC
        refine xl (fun _ => lv_iload_n hx hb dX1_takeApart_11 rfl (lv_at hl 0 rfl)) ?_
        refine xl (fun _ => lv_iconst (v := 4) hx hb dX1_takeApart_12 (by decide)) ?_
        refine xb (fun _ => lv_icmp_ge (tgt := 31) hx hb dX1_takeApart_13 (by decide)) (fun c_13 => ?_) (fun c_13 => ?_)
        · have e4 : k = 4 := by have := nI_le4 (n := 4) (by omega) (by decide) c_13; omega
          subst e4
          refine xl (fun _ => lv_goto (tgt := 89) hx hb dX1_takeApart_31 (by decide)) ?_
          exact x_vret hx hb hr hlocks hs0 hbs (by decide) (by decide) dX1_takeApart_89 (⟨rfl, by rw [show sp_ta t dv i = (sp_us dv (sp_pa (t i)) 4) from by unfold sp_ta; rw [if_pos c_6]]; exact hV, hFF, hSS⟩)
        · have hi4 : k < 4 := nI_nle4 (n := 4) (by omega) (by decide) c_13
          refine xl (fun _ => lv_aload_n hx hb dX1_takeApart_16 rfl (lv_at hl 1 rfl)) ?_
          refine xl (fun _ => lv_aload_n hx hb dX1_takeApart_17 rfl (lv_at hl 2 rfl)) ?_
          refine xl (fun _ => lv_iload_n hx hb dX1_takeApart_18 rfl (lv_at hl 0 rfl)) ?_
          refine x_callV E hl (c_X0_partAt l G Hk (ta i) (na i) (pa i) _ _ _ _ _ _ (hT i hi).2.2.2.1 (hT i hi).2.2.2.2.2 k (hi4)) xm_yX0_partAt wMX1_45 wI_yX0_partAt wT_yX0_partAt (ci := 0) rfl rfl ((hT i hi).2.2.2.1) (rest := [.ref b]) rfl (by simp [cat_rf, cat_int, cat_ref, cat_null]) (by decide) ⟨by decide, by decide⟩ dX1_takeApart_19 (x_pure (r := va_rf ((sp_pa (t i) k).map ta)) (st1 := []) ?_)
          refine x_callV E hl (c_X1_derive_o l G Hk b lo n t rg ta na pa _ hV (sp_pa (t i) k) (fun j e => sc_bd hC i hi k (by omega) j e)) xm_yX1_derive wMX1_88 wI_yX1_derive wT_yX1_derive (ci := 1) rfl rfl hX (rest := []) rfl (by decide) (by decide) ⟨by decide, by decide⟩ dX1_takeApart_22 (fun v_16 H_17 hp_18 hz_19 hq_20 => ?_)
          obtain ⟨rfl, hV, hF2, hS2⟩ := hp_18
          have hFF := hFF.tr hF2
          have hSS := hS2.trans hSS
          refine xg (g2 := F0 m 25 ls []) rfl ?_
          obtain ⟨fc, hC, hfI⟩ := id hV
          obtain ⟨hw, hb0, hb4, hlo, hn5, hX, hRG, hMD, hZR, hT, hrg, hwf⟩ := id hC
          refine xs (fun _ => lv_iinc (v := (nI (k + 1))) (lv' := [(2, .int (nI (k + 1))), (0, .ref b), (1, .ref (ta i))]) hx hb dX1_takeApart_25 hl (k := 0) rfl (nI_1 k) (by decide) (rfl)) (fun ls hl => ?_)
          refine xl (fun _ => lv_goto (tgt := 11) hx hb dX1_takeApart_28 (by decide)) ?_
          exact ih (k + 1) _ (by omega) (by omega) hV hFF hSS ls (lv_sub hl [0, 1, 2] rfl)
    exact hloop 5 0 _ (by decide) (by decide) hV hFF hSS ls (lv_sub hl [0, 1, 2] rfl)

set_option maxHeartbeats 4000000 in
set_option maxRecDepth 100000 in
theorem c_X1_takeAllApart (l : Launch) (G : sg_G) (H : Heap) (b lo n : Nat) (t : Nat → sp_T) (rg : Nat → Option Nat) (ta na pa : Nat → Nat) (dv : Nat → Bool) (hV : sc_V G b lo n t rg ta na pa dv H)  : xC l G yX1_takeAllApart cX1_takeAllApart 3 none 3 0 0 [.ref b] H (fun v H' => v = none ∧ sc_V G b lo n t rg ta na pa (sp_tA t n dv) H' ∧ sc_F b lo H H' ∧ H'.size = H.size) := by
  refine xC.start (by decide) (Nat.le_of_ble_eq_true rfl) ?_
  intro p e s m args below meth c ls E hnm hs0 hl
  obtain ⟨hx, hb, hml, hown, hts, hr, hlocks, hK, hbs⟩ := id E
  have hl : lv_has ls 3 [(0, .ref b)] := hl
  obtain ⟨fc, hC, hfI⟩ := id hV
  obtain ⟨hw, hb0, hb4, hlo, hn5, hX, hRG, hMD, hZR, hT, hrg, hwf⟩ := id hC
  have hFF : sc_F b lo H H := sc_F.rf
  have hSS : H.size = H.size := rfl
  refine xl (fun _ => lv_aload_n hx hb dX1_takeAllApart_0 rfl (lv_at hl 0 rfl)) ?_
  refine x_get (ci := 1) hx hb hts hown hK wiX1 hX rfl 2 (by decide) wFX1_18 rfl rfl dX1_takeAllApart_1 ?_
  refine xl (fun _ => lv_aload_n hx hb dX1_takeAllApart_4 rfl (lv_at hl 0 rfl)) ?_
  refine x_get (ci := 1) hx hb hts hown hK wiX1 hX rfl 1 (by decide) wFX1_15 rfl rfl dX1_takeAllApart_5 ?_
  refine x_alen (n := 512) hx hb hK 2 rfl hMD rfl dX1_takeAllApart_8 ?_
  refine xl (fun _ => va_mmin hx hb (hml.trans hl.1.symm) hown (hts _ wMX1_141) (hts _ wS_yJ) (hts _ wZ_J) (hts _ wC_yJ) (by decide) (by decide) (by decide) (by decide) dX1_takeAllApart_9) ?_
  rw [show (if (nI 512) < (nI n) then (nI 512) else (nI n)) = (nI n) from if_neg (nI_nlt (by omega) (by omega))]
  refine xl (fun _ => lv_iconst (v := 1) hx hb dX1_takeAllApart_12 (by decide)) ?_
  refine xl (fun _ => lv_isub hx hb dX1_takeAllApart_13) ?_
  refine xs (fun _ => lv_istore_n (i := 1) (lv' := [(1, .int ((nI n) - 1)), (0, .ref b)]) hx hb dX1_takeAllApart_14 rfl hl (by decide) (rfl)) (fun ls hl => ?_)
  have hloop : ∀ (k : Nat) (dk : Nat → Bool) (Hk : Heap), k ≤ n → sc_V G b lo n t rg ta na pa dk Hk → sp_tA t k dk = sp_tA t n dv → sc_F b lo H Hk → Hk.size = H.size → ∀ (ls : Array Slot), lv_has ls 3 [(1, .int (nI k - 1)), (0, .ref b)] → xV p l e (xR 3 0 0) s m args below meth c G Hk 0 0 (MQ below (xQ G H (fun v H' => v = none ∧ sc_V G b lo n t rg ta na pa (sp_tA t n dv) H' ∧ sc_F b lo H H' ∧ H'.size = H.size)) args s 0 0 (sg_fr G)) (F0 m 15 ls []) := by
    intro k
    induction k with
    | zero =>
      intro dk Hk hk hV hE hFF hSS ls hl
      refine xl (fun _ => lv_iload_n hx hb dX1_takeAllApart_15 rfl (lv_at hl 0 rfl)) ?_
      refine xb (fun _ => lv_if_lt (tgt := 48) hx hb dX1_takeAllApart_16 (by decide)) (fun c_16 => ?_) (fun c_16 => ?_)
      · exact x_vret hx hb hr hlocks hs0 hbs (by decide) (by decide) dX1_takeAllApart_48 (⟨rfl, by rw [← hE]; exact hV, hFF, hSS⟩)
      · exact absurd (show nI 0 - 1 < 0 by decide) c_16
    | succ k ih =>
      intro dk Hk hk hV hE hFF hSS ls hl
      have hl : lv_has ls 3 [(1, .int (nI k)), (0, .ref b)] := by rw [nI_pred] at hl; exact hl
      obtain ⟨fc, hC, hfI⟩ := id hV
      obtain ⟨hw, hb0, hb4, hlo, hn5, hX, hRG, hMD, hZR, hT, hrg, hwf⟩ := id hC
      have hkn : k < n := by omega
      refine xl (fun _ => lv_iload_n hx hb dX1_takeAllApart_15 rfl (lv_at hl 0 rfl)) ?_
      refine xb (fun _ => lv_if_lt (tgt := 48) hx hb dX1_takeAllApart_16 (by decide)) (fun c_16 => ?_) (fun c_16 => ?_)
      · exact absurd c_16 (nI_pos (by omega))
      · refine xl (fun _ => lv_aload_n hx hb dX1_takeAllApart_19 rfl (lv_at hl 1 rfl)) ?_
        refine x_get (ci := 1) hx hb hts hown hK wiX1 hX rfl 1 (by decide) wFX1_15 rfl rfl dX1_takeAllApart_20 ?_
        refine xl (fun _ => lv_iload_n hx hb dX1_takeAllApart_23 rfl (lv_at hl 0 rfl)) ?_
        refine x_aald hx hb hK hMD k (rfl) (by omega) (by decide) dX1_takeAllApart_24 ?_
        refine xg (g2 := F0 m 25 ls [.ref (ta k)]) (by show F0 m _ _ (va_rf (if k < n then some (ta k) else none) :: _) = _; rw [if_pos hkn]; rfl) ?_
        refine xs (fun _ => lv_astore_n (i := 2) (lv' := [(2, .ref (ta k)), (1, .int (nI k)), (0, .ref b)]) hx hb dX1_takeAllApart_25 rfl hl (by decide) (rfl)) (fun ls hl => ?_)
        refine xl (fun _ => lv_aload_n hx hb dX1_takeAllApart_26 rfl (lv_at hl 0 rfl)) ?_
        refine xl (fun _ => lv_ifnull hx hb dX1_takeAllApart_27) ?_
        refine xl (fun _ => lv_aload_n hx hb dX1_takeAllApart_30 rfl (lv_at hl 0 rfl)) ?_
        refine x_get (ci := 0) hx hb hts hown hK wiX0 ((hT k hkn).2.2.2.1) rfl 5 (by decide) wFX1_84 rfl rfl dX1_takeAllApart_31 ?_
        refine xb (fun _ => lv_if_eq (tgt := 42) hx hb dX1_takeAllApart_34 (by decide)) (fun c_34 => ?_) (fun c_34 => ?_)
        · have c_34 := bI_f c_34
          have hE : sp_tA t k dk = sp_tA t n dv := by rw [← hE]; show _ = sp_tA t k (if dk k = true then sp_ta t dk k else dk); rw [if_neg (by rw [c_34]; decide)]
          refine xs (fun _ => lv_iinc (v := (nI k - 1)) (lv' := [(1, .int (nI k - 1)), (2, .ref (ta k)), (0, .ref b)]) hx hb dX1_takeAllApart_42 hl (k := 1) rfl (by rw [Int32.sub_eq_add_neg]; rfl) (by decide) (rfl)) (fun ls hl => ?_)
          refine xl (fun _ => lv_goto (tgt := 15) hx hb dX1_takeAllApart_45 (by decide)) ?_
          exact ih _ _ (by omega) hV hE hFF hSS ls (lv_sub hl [0, 2] rfl)
        · have c_34 := bI_t c_34
          have hE : sp_tA t k (sp_ta t dk k) = sp_tA t n dv := by rw [← hE]; show _ = sp_tA t k (if dk k = true then sp_ta t dk k else dk); rw [if_pos c_34]
          refine xl (fun _ => lv_aload_n hx hb dX1_takeAllApart_37 rfl (lv_at hl 2 rfl)) ?_
          refine xl (fun _ => lv_aload_n hx hb dX1_takeAllApart_38 rfl (lv_at hl 0 rfl)) ?_
          refine x_callV E hl (c_X1_takeApart l G Hk b lo n t rg ta na pa dk hV k hkn) xm_yX1_takeApart wMX1_147 wI_yX1_takeApart wT_yX1_takeApart (ci := 1) rfl rfl hX (rest := []) rfl (by decide) (by decide) ⟨by decide, by decide⟩ dX1_takeAllApart_39 (fun v_1 H_2 hp_3 hz_4 hq_5 => ?_)
          obtain ⟨rfl, hV, hF2, hS2⟩ := hp_3
          have hFF := hFF.tr hF2
          have hSS := hS2.trans hSS
          refine xg (g2 := F0 m 42 ls []) rfl ?_
          obtain ⟨fc, hC, hfI⟩ := id hV
          obtain ⟨hw, hb0, hb4, hlo, hn5, hX, hRG, hMD, hZR, hT, hrg, hwf⟩ := id hC
          refine xs (fun _ => lv_iinc (v := (nI k - 1)) (lv' := [(1, .int (nI k - 1)), (2, .ref (ta k)), (0, .ref b)]) hx hb dX1_takeAllApart_42 hl (k := 1) rfl (by rw [Int32.sub_eq_add_neg]; rfl) (by decide) (rfl)) (fun ls hl => ?_)
          refine xl (fun _ => lv_goto (tgt := 15) hx hb dX1_takeAllApart_45 (by decide)) ?_
          exact ih _ _ (by omega) hV hE hFF hSS ls (lv_sub hl [0, 2] rfl)
  exact hloop n dv H (Nat.le_refl n) hV rfl hFF hSS ls (lv_sub hl [0, 1] rfl)

set_option maxHeartbeats 4000000 in
set_option maxRecDepth 100000 in
theorem c_X1_putAllTogether (l : Launch) (G : sg_G) (H : Heap) (b lo n : Nat) (t : Nat → sp_T) (rg : Nat → Option Nat) (ta na pa : Nat → Nat) (dv : Nat → Bool) (hV : sc_V G b lo n t rg ta na pa dv H)  : xC l G yX1_putAllTogether cX1_putAllTogether 3 none 3 0 0 [.ref b] H (fun v H' => v = none ∧ sc_V G b lo n t rg ta na pa (sp_pA n t dv n) H' ∧ sc_F b lo H H' ∧ H'.size = H.size) := by
  refine xC.start (by decide) (Nat.le_of_ble_eq_true rfl) ?_
  intro p e s m args below meth c ls E hnm hs0 hl
  obtain ⟨hx, hb, hml, hown, hts, hr, hlocks, hK, hbs⟩ := id E
  have hl : lv_has ls 3 [(0, .ref b)] := hl
  obtain ⟨fc, hC, hfI⟩ := id hV
  obtain ⟨hw, hb0, hb4, hlo, hn5, hX, hRG, hMD, hZR, hT, hrg, hwf⟩ := id hC
  have hFF : sc_F b lo H H := sc_F.rf
  have hSS : H.size = H.size := rfl
  refine xl (fun _ => lv_iconst (v := 0) hx hb dX1_putAllTogether_0 (by decide)) ?_
  refine xs (fun _ => lv_istore_n (i := 1) (lv' := [(1, .int 0), (0, .ref b)]) hx hb dX1_putAllTogether_1 rfl hl (by decide) (rfl)) (fun ls hl => ?_)
  have hloop : ∀ (d : Nat) (i : Nat) (Hk : Heap), i ≤ n → n < i + d → sc_V G b lo n t rg ta na pa (sp_pA n t dv i) Hk → sc_F b lo H Hk → Hk.size = H.size → ∀ (ls : Array Slot), lv_has ls 3 [(1, .int (nI i)), (0, .ref b)] → xV p l e (xR 3 0 0) s m args below meth c G Hk 0 0 (MQ below (xQ G H (fun v H' => v = none ∧ sc_V G b lo n t rg ta na pa (sp_pA n t dv n) H' ∧ sc_F b lo H H' ∧ H'.size = H.size)) args s 0 0 (sg_fr G)) (F0 m 2 ls []) := by
    intro d
    induction d with
    | zero =>
      intro i Hk h1 h2
      exact absurd h2 (by omega)
    | succ d ih =>
      intro i Hk hi hd hV hFF hSS ls hl
      obtain ⟨fc, hC, hfI⟩ := id hV
      obtain ⟨hw, hb0, hb4, hlo, hn5, hX, hRG, hMD, hZR, hT, hrg, hwf⟩ := id hC
      refine xl (fun _ => lv_iload_n hx hb dX1_putAllTogether_2 rfl (lv_at hl 0 rfl)) ?_
      refine xl (fun _ => lv_aload_n hx hb dX1_putAllTogether_3 rfl (lv_at hl 1 rfl)) ?_
      refine x_get (ci := 1) hx hb hts hown hK wiX1 hX rfl 2 (by decide) wFX1_18 rfl rfl dX1_putAllTogether_4 ?_
      refine xb (fun _ => lv_icmp_ge (tgt := 55) hx hb dX1_putAllTogether_7 (by decide)) (fun c_7 => ?_) (fun c_7 => ?_)
      · have e4 : i = n := by have := nI_le4 (by omega) (by omega) c_7; omega
        subst e4
        exact x_vret hx hb hr hlocks hs0 hbs (by decide) (by decide) dX1_putAllTogether_55 (⟨rfl, hV, hFF, hSS⟩)
      · have hin : i < n := nI_nle4 (by omega) (by omega) c_7
        refine xl (fun _ => lv_iload_n hx hb dX1_putAllTogether_10 rfl (lv_at hl 0 rfl)) ?_
        refine xl (fun _ => lv_aload_n hx hb dX1_putAllTogether_11 rfl (lv_at hl 1 rfl)) ?_
        refine x_get (ci := 1) hx hb hts hown hK wiX1 hX rfl 1 (by decide) wFX1_15 rfl rfl dX1_putAllTogether_12 ?_
        refine x_alen (n := 512) hx hb hK 2 rfl hMD rfl dX1_putAllTogether_15 ?_
        refine xb (fun _ => lv_icmp_ge (tgt := 55) hx hb dX1_putAllTogether_16 (by decide)) (fun c_16 => ?_) (fun c_16 => ?_)
        · exact absurd c_16 (nI_ge (by omega) (by decide))
        · refine xl (fun _ => lv_aload_n hx hb dX1_putAllTogether_19 rfl (lv_at hl 1 rfl)) ?_
          refine x_get (ci := 1) hx hb hts hown hK wiX1 hX rfl 1 (by decide) wFX1_15 rfl rfl dX1_putAllTogether_20 ?_
          refine xl (fun _ => lv_iload_n hx hb dX1_putAllTogether_23 rfl (lv_at hl 0 rfl)) ?_
          refine x_aald hx hb hK hMD i (rfl) (by omega) (by decide) dX1_putAllTogether_24 ?_
          refine xg (g2 := F0 m 25 ls [.ref (ta i)]) (by show F0 m _ _ (va_rf (if i < n then some (ta i) else none) :: _) = _; rw [if_pos hin]; rfl) ?_
          refine xs (fun _ => lv_astore_n (i := 2) (lv' := [(2, .ref (ta i)), (1, .int (nI i)), (0, .ref b)]) hx hb dX1_putAllTogether_25 rfl hl (by decide) (rfl)) (fun ls hl => ?_)
          refine xl (fun _ => lv_aload_n hx hb dX1_putAllTogether_26 rfl (lv_at hl 0 rfl)) ?_
          refine xl (fun _ => lv_ifnull hx hb dX1_putAllTogether_27) ?_
          refine xl (fun _ => lv_aload_n hx hb dX1_putAllTogether_30 rfl (lv_at hl 0 rfl)) ?_
          refine x_get (ci := 0) hx hb hts hown hK wiX0 ((hT i hin).2.2.2.1) rfl 5 (by decide) wFX1_84 rfl rfl dX1_putAllTogether_31 ?_
          refine xb (fun _ => lv_if_ne (tgt := 49) hx hb dX1_putAllTogether_34 (by decide)) (fun c_34 => ?_) (fun c_34 => ?_)
          · have c_34 := bI_t c_34
            refine xs (fun _ => lv_iinc (v := (nI (i + 1))) (lv' := [(1, .int (nI (i + 1))), (2, .ref (ta i)), (0, .ref b)]) hx hb dX1_putAllTogether_49 hl (k := 1) rfl (nI_1 i) (by decide) (rfl)) (fun ls hl => ?_)
            refine xl (fun _ => lv_goto (tgt := 2) hx hb dX1_putAllTogether_52 (by decide)) ?_
            exact ih (i + 1) _ (by omega) (by omega) (by rw [show sp_pA n t dv (i + 1) = (sp_pA n t dv i) from if_neg (fun z => by rw [c_34] at z; cases z.1)]; exact hV) hFF hSS ls (lv_sub hl [0, 2] rfl)
          · have c_34 := bI_f c_34
            refine xl (fun _ => lv_aload_n hx hb dX1_putAllTogether_37 rfl (lv_at hl 0 rfl)) ?_
            refine x_callV E hl (c_can l G Hk b lo n _ t _ fc rg ta na pa hC hfI i hin) xm_yX0_canBeMadeByAttacker wMX1_128 wI_yX0_canBeMadeByAttacker wT_yX0_canBeMadeByAttacker (ci := 0) rfl rfl ((hT i hin).2.2.2.1) (rest := []) rfl (by decide) (by decide) ⟨by decide, by decide⟩ dX1_putAllTogether_38 (x_pure (r := .int (bI (mkB n t (sp_pA n t dv i) i))) (st1 := []) ?_)
            refine xb (fun _ => lv_if_eq (tgt := 49) hx hb dX1_putAllTogether_41 (by decide)) (fun c_41 => ?_) (fun c_41 => ?_)
            · have c_41 := bI_f c_41
              refine xs (fun _ => lv_iinc (v := (nI (i + 1))) (lv' := [(1, .int (nI (i + 1))), (2, .ref (ta i)), (0, .ref b)]) hx hb dX1_putAllTogether_49 hl (k := 1) rfl (nI_1 i) (by decide) (rfl)) (fun ls hl => ?_)
              refine xl (fun _ => lv_goto (tgt := 2) hx hb dX1_putAllTogether_52 (by decide)) ?_
              exact ih (i + 1) _ (by omega) (by omega) (by rw [show sp_pA n t dv (i + 1) = (sp_pA n t dv i) from if_neg (fun z => by rw [c_41] at z; cases z.2)]; exact hV) hFF hSS ls (lv_sub hl [0, 2] rfl)
            · have c_41 := bI_t c_41
              refine xl (fun _ => lv_aload_n hx hb dX1_putAllTogether_44 rfl (lv_at hl 2 rfl)) ?_
              refine xl (fun _ => lv_aload_n hx hb dX1_putAllTogether_45 rfl (lv_at hl 0 rfl)) ?_
              refine x_callV E hl (c_X1_derive_s l G Hk b lo n t rg ta na pa _ hV i hin) xm_yX1_derive wMX1_88 wI_yX1_derive wT_yX1_derive (ci := 1) rfl rfl hX (rest := []) rfl (by decide) (by decide) ⟨by decide, by decide⟩ dX1_putAllTogether_46 (fun v_1 H_2 hp_3 hz_4 hq_5 => ?_)
              obtain ⟨rfl, hV, hF2, hS2⟩ := hp_3
              have hFF := hFF.tr hF2
              have hSS := hS2.trans hSS
              refine xg (g2 := F0 m 49 ls []) rfl ?_
              obtain ⟨fc, hC, hfI⟩ := id hV
              obtain ⟨hw, hb0, hb4, hlo, hn5, hX, hRG, hMD, hZR, hT, hrg, hwf⟩ := id hC
              refine xs (fun _ => lv_iinc (v := (nI (i + 1))) (lv' := [(1, .int (nI (i + 1))), (2, .ref (ta i)), (0, .ref b)]) hx hb dX1_putAllTogether_49 hl (k := 1) rfl (nI_1 i) (by decide) (rfl)) (fun ls hl => ?_)
              refine xl (fun _ => lv_goto (tgt := 2) hx hb dX1_putAllTogether_52 (by decide)) ?_
              exact ih (i + 1) _ (by omega) (by omega) (by rw [show sp_pA n t dv (i + 1) = (sp_up (sp_pA n t dv i) i) from if_pos ⟨c_34, c_41⟩]; exact hV) hFF hSS ls (lv_sub hl [0, 2] rfl)
  exact hloop (n + 1) 0 _ (by omega) (by omega) hV hFF hSS ls (lv_sub hl [0, 1] rfl)

set_option maxHeartbeats 4000000 in
set_option maxRecDepth 100000 in
theorem c_X1_spread (l : Launch) (G : sg_G) (H : Heap) (b lo n : Nat) (t : Nat → sp_T) (rg : Nat → Option Nat) (ta na pa : Nat → Nat) (dv : Nat → Bool) (hV : sc_V G b lo n t rg ta na pa dv H)  : xC l G yX1_spread cX1_spread 4 none 4 0 0 [.ref b] H (fun v H' => v = none ∧ (∃ dv', sc_V G b lo n t rg ta na pa dv' H' ∧ sp_ok n t dv dv' ∧ sp_cd n t dv') ∧ sc_F b lo H H' ∧ H'.size = H.size) := by
  refine xC.start (by decide) (Nat.le_of_ble_eq_true rfl) ?_
  intro p e s m args below meth c ls E hnm hs0 hl
  obtain ⟨hx, hb, hml, hown, hts, hr, hlocks, hK, hbs⟩ := id E
  have hl : lv_has ls 4 [(0, .ref b)] := hl
  obtain ⟨fc, hC, hfI⟩ := id hV
  obtain ⟨hw, hb0, hb4, hlo, hn5, hX, hRG, hMD, hZR, hT, hrg, hwf⟩ := id hC
  have hFF : sc_F b lo H H := sc_F.rf
  have hSS : H.size = H.size := rfl
  refine xl (fun _ => lv_iconst (v := 1) hx hb dX1_spread_0 (by decide)) ?_
  refine xs (fun _ => lv_istore_n (i := 1) (lv' := [(1, .int 1), (0, .ref b)]) hx hb dX1_spread_1 rfl hl (by decide) (rfl)) (fun ls hl => ?_)
  refine xl (fun _ => lv_iconst (v := 0) hx hb dX1_spread_2 (by decide)) ?_
  refine xs (fun _ => lv_istore_n (i := 2) (lv' := [(2, .int 0), (1, .int 1), (0, .ref b)]) hx hb dX1_spread_3 rfl hl (by decide) (rfl)) (fun ls hl => ?_)
  have hloop : ∀ (d : Nat) (q : Nat) (mo : Bool) (dk : Nat → Bool) (Hk : Heap), q ≤ 513 → 513 < q + d → sc_V G b lo n t rg ta na pa dk Hk → sp_ok n t dv dk → (mo = false → sp_cd n t dk) → (mo = true → q ≤ sp_ct dk n) → sc_F b lo H Hk → Hk.size = H.size → ∀ (ls : Array Slot), lv_has ls 4 [(2, .int (nI q)), (1, .int (bI mo)), (0, .ref b)] → xV p l e (xR 4 0 0) s m args below meth c G Hk 0 0 (MQ below (xQ G H (fun v H' => v = none ∧ (∃ dv', sc_V G b lo n t rg ta na pa dv' H' ∧ sp_ok n t dv dv' ∧ sp_cd n t dv') ∧ sc_F b lo H H' ∧ H'.size = H.size)) args s 0 0 (sg_fr G)) (F0 m 4 ls []) := by
    intro d
    induction d with
    | zero =>
      intro q mo dk Hk h1 h2
      exact absurd h2 (by omega)
    | succ d ih =>
      intro q mo dk Hk hq hd hV hO hN hM hFF hSS ls hl
      obtain ⟨fc, hC, hfI⟩ := id hV
      obtain ⟨hw, hb0, hb4, hlo, hn5, hX, hRG, hMD, hZR, hT, hrg, hwf⟩ := id hC
      refine xl (fun _ => lv_iload_n hx hb dX1_spread_4 rfl (lv_at hl 1 rfl)) ?_
      refine xb (fun _ => lv_if_eq (tgt := 48) hx hb dX1_spread_5 (by decide)) (fun c_5 => ?_) (fun c_5 => ?_)
      · have c_5 := bI_f c_5
        exact x_vret hx hb hr hlocks hs0 hbs (by decide) (by decide) dX1_spread_48 (⟨rfl, ⟨dk, hV, hO, hN c_5⟩, hFF, hSS⟩)
      · have c_5 := bI_t c_5
        refine xl (fun _ => lv_iload_n hx hb dX1_spread_8 rfl (lv_at hl 0 rfl)) ?_
        refine xl (fun _ => lv_sipush (v := 512) hx hb dX1_spread_9 (by decide)) ?_
        refine xb (fun _ => lv_icmp_gt (tgt := 48) hx hb dX1_spread_12 (by decide)) (fun c_12 => ?_) (fun c_12 => ?_)
        · have hct := sp_ct_le dk n
          exact absurd (hM c_5) (by have : 512 < q := (nI_ltI (a := 512) (by decide) (by omega)).mp c_12; omega)
        · have hq5 : q ≤ 512 := Nat.not_lt.mp fun z => c_12 ((nI_ltI (a := 512) (by decide) (by omega)).mpr z)
          have hbd := sc_bd hC
          refine xl (fun _ => lv_aload_n hx hb dX1_spread_15 rfl (lv_at hl 2 rfl)) ?_
          refine x_get (ci := 1) hx hb hts hown hK wiX1 hX rfl 3 (by decide) wFX1_22 rfl rfl dX1_spread_16 ?_
          refine xs (fun _ => lv_istore_n (i := 3) (lv' := [(3, .int (nI (sp_ct dk n))), (2, .int (nI q)), (1, .int (bI mo)), (0, .ref b)]) hx hb dX1_spread_19 rfl hl (by decide) (rfl)) (fun ls hl => ?_)
          refine xl (fun _ => lv_aload_n hx hb dX1_spread_20 rfl (lv_at hl 3 rfl)) ?_
          refine x_callV E hl (c_X1_takeAllApart l G Hk b lo n t rg ta na pa dk hV) xm_yX1_takeAllApart wMX1_135 wI_yX1_takeAllApart wT_yX1_takeAllApart (ci := 1) rfl rfl hX (rest := []) rfl (by decide) (by decide) ⟨by decide, by decide⟩ dX1_spread_21 (fun v_1 H_2 hp_3 hz_4 hq_5 => ?_)
          obtain ⟨rfl, hV, hF2, hS2⟩ := hp_3
          have hFF := hFF.tr hF2
          have hSS := hS2.trans hSS
          refine xg (g2 := F0 m 24 ls []) rfl ?_
          obtain ⟨fc, hC, hfI⟩ := id hV
          obtain ⟨hw, hb0, hb4, hlo, hn5, hX, hRG, hMD, hZR, hT, hrg, hwf⟩ := id hC
          refine xl (fun _ => lv_aload_n hx hb dX1_spread_24 rfl (lv_at hl 3 rfl)) ?_
          refine x_callV E hl (c_X1_putAllTogether l G H_2 b lo n t rg ta na pa _ hV) xm_yX1_putAllTogether wMX1_138 wI_yX1_putAllTogether wT_yX1_putAllTogether (ci := 1) rfl rfl hX (rest := []) rfl (by decide) (by decide) ⟨by decide, by decide⟩ dX1_spread_25 (fun v_6 H_7 hp_8 hz_9 hq_10 => ?_)
          obtain ⟨rfl, hV, hF2, hS2⟩ := hp_8
          have hFF := hFF.tr hF2
          have hSS := hS2.trans hSS
          refine xg (g2 := F0 m 28 ls []) rfl ?_
          obtain ⟨fc, hC, hfI⟩ := id hV
          obtain ⟨hw, hb0, hb4, hlo, hn5, hX, hRG, hMD, hZR, hT, hrg, hwf⟩ := id hC
          refine xl (fun _ => lv_aload_n hx hb dX1_spread_28 rfl (lv_at hl 3 rfl)) ?_
          refine x_get (ci := 1) hx hb hts hown hK wiX1 hX rfl 3 (by decide) wFX1_22 rfl rfl dX1_spread_29 ?_
          refine xl (fun _ => lv_iload_n hx hb dX1_spread_32 rfl (lv_at hl 0 rfl)) ?_
          refine xb (fun _ => lv_icmp_le (tgt := 40) hx hb dX1_spread_33 (by decide)) (fun c_33 => ?_) (fun c_33 => ?_)
          · have hcn := sp_ct_le (sp_pA n t (sp_tA t n dk) n) n
            have hck := sp_ct_le dk n
            have hle : sp_ct (sp_pA n t (sp_tA t n dk) n) n ≤ sp_ct dk n := (nI_leI (by omega) (by omega)).mp c_33
            refine xl (fun _ => lv_iconst (v := 0) hx hb dX1_spread_40 (by decide)) ?_
            refine xg (g2 := F0 m 41 ls [.int (bI false)]) rfl ?_
            refine xs (fun _ => lv_istore_n (i := 1) (lv' := [(1, .int (bI false)), (3, .int (nI (sp_ct dk n))), (2, .int (nI q)), (0, .ref b)]) hx hb dX1_spread_41 rfl hl (by decide) (rfl)) (fun ls hl => ?_)
            refine xs (fun _ => lv_iinc (v := (nI (q + 1))) (lv' := [(2, .int (nI (q + 1))), (1, .int (bI false)), (3, .int (nI (sp_ct dk n))), (0, .ref b)]) hx hb dX1_spread_42 hl (k := 2) rfl (nI_1 q) (by decide) (rfl)) (fun ls hl => ?_)
            refine xl (fun _ => lv_goto (tgt := 4) hx hb dX1_spread_45 (by decide)) ?_
            exact ih (q + 1) false _ _ (by omega) (by omega) hV (sp_ok_ps hbd hO) (fun _ => sp_cd_ps hbd hle) (fun z => by cases z) hFF hSS ls (lv_sub hl [0, 1, 3] rfl)
          · have hcn := sp_ct_le (sp_pA n t (sp_tA t n dk) n) n
            have hck := sp_ct_le dk n
            have hgr : sp_ct dk n < sp_ct (sp_pA n t (sp_tA t n dk) n) n := Nat.not_le.mp fun z => c_33 ((nI_leI (by omega) (by omega)).mpr z)
            refine xl (fun _ => lv_iconst (v := 1) hx hb dX1_spread_36 (by decide)) ?_
            refine xl (fun _ => lv_goto (tgt := 41) hx hb dX1_spread_37 (by decide)) ?_
            refine xg (g2 := F0 m 41 ls [.int (bI true)]) rfl ?_
            refine xs (fun _ => lv_istore_n (i := 1) (lv' := [(1, .int (bI true)), (3, .int (nI (sp_ct dk n))), (2, .int (nI q)), (0, .ref b)]) hx hb dX1_spread_41 rfl hl (by decide) (rfl)) (fun ls hl => ?_)
            refine xs (fun _ => lv_iinc (v := (nI (q + 1))) (lv' := [(2, .int (nI (q + 1))), (1, .int (bI true)), (3, .int (nI (sp_ct dk n))), (0, .ref b)]) hx hb dX1_spread_42 hl (k := 2) rfl (nI_1 q) (by decide) (rfl)) (fun ls hl => ?_)
            refine xl (fun _ => lv_goto (tgt := 4) hx hb dX1_spread_45 (by decide)) ?_
            exact ih (q + 1) true _ _ (by omega) (by omega) hV (sp_ok_ps hbd hO) (fun z => by cases z) (fun _ => by have := hM c_5; have := hgr; omega) hFF hSS ls (lv_sub hl [0, 1, 3] rfl)
  exact hloop 514 0 true _ _ (by omega) (by omega) hV sp_ok_rf (fun z => by cases z) (fun _ => Nat.zero_le _) hFF hSS ls (lv_sub hl [0, 1, 2] rfl)
