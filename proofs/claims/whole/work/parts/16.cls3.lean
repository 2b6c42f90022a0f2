set_option maxHeartbeats 4000000 in
set_option maxRecDepth 100000 in
theorem c_X1_findLike (l : Launch) (G : sg_G) (H : Heap) (b lo n dc : Nat) (t : Nat → sp_T) (dv fc : Nat → Bool) (rg : Nat → Option Nat) (ta na pa : Nat → Nat) (hC : sc_X G b lo n t dv fc rg dc ta na pa H) (dd : sp_T) (w nw pw : Nat) (pl : Int32) (dw fw : Bool) (hO : sc_O G H b lo ta dd w nw pw pl dw fw) (hbd : sp_bd n dd) : xC l G yX1_findLike cX1_findLike 4 (some (FieldType.object "TermSpread$Term")) 2 0 0 [.ref b, .ref w] H (xPu (va_rf ((sp_fd (fun i => sp_al (t i) dd) n).map ta)) H) := by
  refine xC.start (by decide) (Nat.le_of_ble_eq_true rfl) ?_
  intro p e s m args below meth c ls E hnm hs0 hl
  obtain ⟨hx, hb, hml, hown, hts, hr, hlocks, hK, hbs⟩ := id E
  have hl : lv_has ls 4 [(0, .ref b), (1, .ref w)] := hl
  obtain ⟨hw, hb0, hb4, hlo, hn5, hX, hRG, hMD, hZR, hT, hrg, hwf⟩ := id hC
  refine xl (fun _ => lv_iconst (v := 0) hx hb dX1_findLike_0 (by decide)) ?_
  refine xs (fun _ => lv_istore_n (i := 2) (lv' := [(2, .int 0), (0, .ref b), (1, .ref w)]) hx hb dX1_findLike_1 rfl hl (by decide) (rfl)) (fun ls hl => ?_)
  have hloop : ∀ (d : Nat) (i : Nat), i ≤ n → n < i + d → sp_fd (fun i => sp_al (t i) dd) i = none → ∀ (ls : Array Slot), lv_has ls 4 [(2, .int (nI i)), (0, .ref b), (1, .ref w)] → xV p l e (xR 2 0 0) s m args below meth c G H 0 0 (MQ below (xQ G H (xPu (va_rf ((sp_fd (fun i => sp_al (t i) dd) n).map ta)) H)) args s 0 0 (sg_fr G)) (F0 m 2 ls []) := by
    intro d
    induction d with
    | zero =>
      intro i h1 h2
      exact absurd h2 (by omega)
    | succ d ih =>
      intro i hi hd hf ls hl
      refine xl (fun _ => lv_iload_n hx hb dX1_findLike_2 rfl (lv_at hl 0 rfl)) ?_
      refine xl (fun _ => lv_aload_n hx hb dX1_findLike_3 rfl (lv_at hl 1 rfl)) ?_
      refine x_get (ci := 1) hx hb hts hown hK wiX1 hX rfl 2 (by decide) wFX1_18 rfl rfl dX1_findLike_4 ?_
      refine xb (fun _ => lv_icmp_ge (tgt := 46) hx hb dX1_findLike_7 (by decide)) (fun c_7 => ?_) (fun c_7 => ?_)
      · have e4 : i = n := by have := nI_le4 (by omega) (by omega) c_7; omega
        subst e4
        refine xl (fun _ => lv_null hx hb dX1_findLike_46) ?_
        exact x_aret hx hb hr hlocks hs0 hbs (Or.inl rfl) (by decide) (by decide) dX1_findLike_47 (⟨by rw [hf]; rfl, rfl⟩)
      · have hin : i < n := nI_nle4 (by omega) (by omega) c_7
        refine xl (fun _ => lv_iload_n hx hb dX1_findLike_10 rfl (lv_at hl 0 rfl)) ?_
        refine xl (fun _ => lv_aload_n hx hb dX1_findLike_11 rfl (lv_at hl 1 rfl)) ?_
        refine x_get (ci := 1) hx hb hts hown hK wiX1 hX rfl 1 (by decide) wFX1_15 rfl rfl dX1_findLike_12 ?_
        refine x_alen (n := 512) hx hb hK 2 rfl hMD rfl dX1_findLike_15 ?_
        refine xb (fun _ => lv_icmp_ge (tgt := 46) hx hb dX1_findLike_16 (by decide)) (fun c_16 => ?_) (fun c_16 => ?_)
        · exact absurd c_16 (nI_ge (by omega) (by decide))
        · refine xl (fun _ => lv_aload_n hx hb dX1_findLike_19 rfl (lv_at hl 1 rfl)) ?_
          refine x_get (ci := 1) hx hb hts hown hK wiX1 hX rfl 1 (by decide) wFX1_15 rfl rfl dX1_findLike_20 ?_
          refine xl (fun _ => lv_iload_n hx hb dX1_findLike_23 rfl (lv_at hl 0 rfl)) ?_
          refine x_aald hx hb hK hMD i (rfl) (by omega) (by decide) dX1_findLike_24 ?_
          refine xg (g2 := F0 m 25 ls [.ref (ta i)]) (by show F0 m _ _ (va_rf (if i < n then some (ta i) else none) :: _) = _; rw [if_pos hin]; rfl) ?_
          refine xs (fun _ => lv_astore_n (i := 3) (lv' := [(3, .ref (ta i)), (2, .int (nI i)), (0, .ref b), (1, .ref w)]) hx hb dX1_findLike_25 rfl hl (by decide) (rfl)) (fun ls hl => ?_)
          refine xl (fun _ => lv_aload_n hx hb dX1_findLike_26 rfl (lv_at hl 0 rfl)) ?_
          refine xl (fun _ => lv_ifnull hx hb dX1_findLike_27) ?_
          refine xl (fun _ => lv_aload_n hx hb dX1_findLike_30 rfl (lv_at hl 0 rfl)) ?_
          refine xl (fun _ => lv_aload_n hx hb dX1_findLike_31 rfl (lv_at hl 3 rfl)) ?_
          refine x_callV E hl (c_X0_isMadeLike l G H (ta i) (na i) (pa i) _ _ _ _ _ w nw pw _ _ _ _ _ _ _ _ _ (hT i hin).2.2.2.1 (hT i hin).2.2.2.2.1 (hT i hin).2.2.2.2.2 hO.2.2.2.1 hO.2.2.2.2.1 hO.2.2.2.2.2 (sp_al (t i) dd) (by rw [sp_al_t]; exact ⟨fun z => ⟨z.1, z.2.1, z.2.2.1, fun k hk => ⟨by rw [(z.2.2.2 k hk).1], (z.2.2.2 k hk).2⟩⟩, fun z => ⟨z.1, z.2.1, z.2.2.1, fun k hk => ⟨sc_injo hC (sc_bd hC i hin k hk) (hbd k hk) (z.2.2.2 k hk).1, (z.2.2.2 k hk).2⟩⟩⟩)) xm_yX0_isMadeLike wMX1_125 wI_yX0_isMadeLike wT_yX0_isMadeLike (ci := 0) rfl rfl ((hT i hin).2.2.2.1) (rest := []) rfl (by decide) (by decide) ⟨by decide, by decide⟩ dX1_findLike_32 (x_pure (r := .int (bI (sp_al (t i) dd))) (st1 := []) ?_)
          refine xb (fun _ => lv_if_eq (tgt := 40) hx hb dX1_findLike_35 (by decide)) (fun c_35 => ?_) (fun c_35 => ?_)
          · have c_35 := bI_f c_35
            refine xs (fun _ => lv_iinc (v := (nI (i + 1))) (lv' := [(2, .int (nI (i + 1))), (3, .ref (ta i)), (0, .ref b), (1, .ref w)]) hx hb dX1_findLike_40 hl (k := 1) rfl (nI_1 i) (by decide) (rfl)) (fun ls hl => ?_)
            refine xl (fun _ => lv_goto (tgt := 2) hx hb dX1_findLike_43 (by decide)) ?_
            exact ih (i + 1) (by omega) (by omega) (sp_fd_s hf c_35) ls (lv_sub hl [0, 2, 3] rfl)
          · have c_35 := bI_t c_35
            refine xl (fun _ => lv_aload_n hx hb dX1_findLike_38 rfl (lv_at hl 0 rfl)) ?_
            exact x_aret hx hb hr hlocks hs0 hbs (Or.inr ⟨_, rfl⟩) (by decide) (by decide) dX1_findLike_39 (⟨by rw [sp_fd_hit hf c_35 hin]; rfl, rfl⟩)
  exact hloop (n + 1) 0 (by omega) (by omega) rfl ls (lv_sub hl [0, 1, 2] rfl)

theorem c_X1_findLike_n (l : Launch) (G : sg_G) (H : Heap) (b lo n dc : Nat) (t : Nat → sp_T) (dv fc : Nat → Bool) (rg : Nat → Option Nat) (ta na pa : Nat → Nat) (hC : sc_X G b lo n t dv fc rg dc ta na pa H) (dd : sp_T) (w nw pw : Nat) (pl : Int32) (dw fw : Bool) (hO : sc_O G H b lo ta dd w nw pw pl dw fw) (hbd : sp_bd n dd) (h : sp_fd (fun i => sp_al (t i) dd) n = none) : xC l G yX1_findLike cX1_findLike 4 (some (.object "TermSpread$Term")) 2 0 0 [.ref b, .ref w] H (xPu .null H) := by
  have q := c_X1_findLike l G H b lo n dc t dv fc rg ta na pa hC dd w nw pw pl dw fw hO hbd
  rw [h] at q
  exact q

theorem c_X1_findLike_s (l : Launch) (G : sg_G) (H : Heap) (b lo n dc : Nat) (t : Nat → sp_T) (dv fc : Nat → Bool) (rg : Nat → Option Nat) (ta na pa : Nat → Nat) (hC : sc_X G b lo n t dv fc rg dc ta na pa H) (dd : sp_T) (w nw pw : Nat) (pl : Int32) (dw fw : Bool) (hO : sc_O G H b lo ta dd w nw pw pl dw fw) (hbd : sp_bd n dd) {i : Nat} (h : sp_fd (fun i => sp_al (t i) dd) n = some i) : xC l G yX1_findLike cX1_findLike 4 (some (.object "TermSpread$Term")) 2 0 0 [.ref b, .ref w] H (xPu (.ref (ta i)) H) := by
  have q := c_X1_findLike l G H b lo n dc t dv fc rg ta na pa hC dd w nw pw pl dw fw hO hbd
  rw [h] at q
  exact q

set_option maxHeartbeats 4000000 in
set_option maxRecDepth 100000 in
theorem c_X1_putInto (l : Launch) (G : sg_G) (H : Heap) (b lo n : Nat) (t : Nat → sp_T) (rg : Nat → Option Nat) (ta na pa : Nat → Nat) (dv : Nat → Bool) (hV : sc_V G b lo n t rg ta na pa dv H) (r : Int32) (i : Nat) (hi : i < n) : xC l G yX1_putInto cX1_putInto 3 (some FieldType.int) 1 0 0 [.ref b, .int r, .ref (ta i)] H (fun v H' => v = some (.int (sp_r1 r)) ∧ sc_V G b lo n t (sp_pt rg r i) ta na pa dv H' ∧ sc_F b lo H H' ∧ H'.size = H.size) := by
  refine xC.start (by decide) (Nat.le_of_ble_eq_true rfl) ?_
  intro p e s m args below meth c ls E hnm hs0 hl
  obtain ⟨hx, hb, hml, hown, hts, hr, hlocks, hK, hbs⟩ := id E
  have hl : lv_has ls 3 [(0, .ref b), (1, .int r), (2, .ref (ta i))] := hl
  obtain ⟨fc, hC, hfI⟩ := id hV
  obtain ⟨hw, hb0, hb4, hlo, hn5, hX, hRG, hMD, hZR, hT, hrg, hwf⟩ := id hC
  have hFF : sc_F b lo H H := sc_F.rf
  have hSS : H.size = H.size := rfl
  refine xl (fun _ => lv_iload_n hx hb dX1_putInto_0 rfl (lv_at hl 1 rfl)) ?_
  refine x_callS E hl (c_X1_isRegister l G H r) xm_yX1_isRegister wMX1_109 wS_yX1_isRegister (rest := []) rfl (by decide) (by decide) ⟨by decide, by decide⟩ dX1_putInto_1 (x_pure (r := .int (bI (sp_ir r))) (st1 := []) ?_)
  refine xb (fun _ => lv_if_eq (tgt := 11) hx hb dX1_putInto_4 (by decide)) (fun c_4 => ?_) (fun c_4 => ?_)
  · have c_4 := bI_f c_4
    refine xl (fun _ => lv_iconst (v := (-1)) hx hb dX1_putInto_11 (by decide)) ?_
    exact x_iret hx hb hr hlocks hs0 hbs (by decide) (by decide) dX1_putInto_12 (⟨by unfold sp_r1; rw [if_neg (by rw [c_4]; decide)], by unfold sp_pt; rw [if_neg (by rw [c_4]; decide)]; exact hV, hFF, hSS⟩)
  · have c_4 := bI_t c_4
    obtain ⟨j, hj, rfl⟩ := sp_ir_of c_4
    refine xl (fun _ => lv_aload_n hx hb dX1_putInto_7 rfl (lv_at hl 2 rfl)) ?_
    refine xl (fun _ => lv_ifnonnull (tgt := 13) hx hb dX1_putInto_8 (by decide)) ?_
    refine xl (fun _ => lv_aload_n hx hb dX1_putInto_13 rfl (lv_at hl 0 rfl)) ?_
    refine x_get (ci := 1) hx hb hts hown hK wiX1 hX rfl 0 (by decide) wFX1_11 rfl rfl dX1_putInto_14 ?_
    refine xl (fun _ => lv_iload_n hx hb dX1_putInto_17 rfl (lv_at hl 1 rfl)) ?_
    refine xl (fun _ => lv_aload_n hx hb dX1_putInto_18 rfl (lv_at hl 2 rfl)) ?_
    refine x_aast (o := (some (ta i))) hx hb hK hRG (fun v h => by cases h; exact ⟨_, (hT i hi).2.2.2.1⟩) j (rfl) (by omega) (by decide) (by omega) dX1_putInto_19 (fun H_1 ho_2 hz_3 hq_4 => ?_)
    have ho_2 : ra_ G H_1 (b + 1) 64 (va_up (fun k => (rg k).map ta) j (some (ta i))) := ho_2
    have hC : sc_X G b lo n t dv fc (va_up rg j (some i)) (sp_ct dv n) ta na pa H_1 := sc_rg hC hj hi ho_2 hz_3 hq_4
    have hFF : sc_F b lo H H_1 := hFF.tr ⟨by omega, fun q h1 h2 => hq_4 q (by omega)⟩
    have hSS : H_1.size = H.size := hz_3.trans hSS
    refine xl (fun _ => lv_iconst (v := 1) hx hb dX1_putInto_20 (by decide)) ?_
    exact x_iret hx hb hr hlocks hs0 hbs (by decide) (by decide) dX1_putInto_21 (⟨by unfold sp_r1; rw [if_pos (sp_ir_nI hj)], by unfold sp_pt; rw [if_pos (sp_ir_nI hj), nI_clamp (by omega)]; exact ⟨fc, hC, hfI⟩, hFF, hSS⟩)

set_option maxHeartbeats 4000000 in
set_option maxRecDepth 100000 in
theorem c_X1_putInto_n (l : Launch) (G : sg_G) (H : Heap) (b lo n : Nat) (t : Nat → sp_T) (rg : Nat → Option Nat) (ta na pa : Nat → Nat) (dv : Nat → Bool) (hV : sc_V G b lo n t rg ta na pa dv H) (r : Int32) : xC l G yX1_putInto cX1_putInto 3 (some FieldType.int) 1 0 0 [.ref b, .int r, .null] H (xPu (.int (-1)) H) := by
  refine xC.start (by decide) (Nat.le_of_ble_eq_true rfl) ?_
  intro p e s m args below meth c ls E hnm hs0 hl
  obtain ⟨hx, hb, hml, hown, hts, hr, hlocks, hK, hbs⟩ := id E
  have hl : lv_has ls 3 [(0, .ref b), (1, .int r), (2, .null)] := hl
  obtain ⟨fc, hC, hfI⟩ := id hV
  obtain ⟨hw, hb0, hb4, hlo, hn5, hX, hRG, hMD, hZR, hT, hrg, hwf⟩ := id hC
  have hFF : sc_F b lo H H := sc_F.rf
  have hSS : H.size = H.size := rfl
  refine xl (fun _ => lv_iload_n hx hb dX1_putInto_0 rfl (lv_at hl 1 rfl)) ?_
  refine x_callS E hl (c_X1_isRegister l G H r) xm_yX1_isRegister wMX1_109 wS_yX1_isRegister (rest := []) rfl (by decide) (by decide) ⟨by decide, by decide⟩ dX1_putInto_1 (x_pure (r := .int (bI (sp_ir r))) (st1 := []) ?_)
  refine xb (fun _ => lv_if_eq (tgt := 11) hx hb dX1_putInto_4 (by decide)) (fun c_4 => ?_) (fun c_4 => ?_)
  · have c_4 := bI_f c_4
    refine xl (fun _ => lv_iconst (v := (-1)) hx hb dX1_putInto_11 (by decide)) ?_
    exact x_iret hx hb hr hlocks hs0 hbs (by decide) (by decide) dX1_putInto_12 (⟨rfl, rfl⟩)
  · have c_4 := bI_t c_4
    refine xl (fun _ => lv_aload_nN hx hb dX1_putInto_7 rfl (lv_at hl 2 rfl)) ?_
    refine xl (fun _ => lv_ifnonnullN hx hb dX1_putInto_8) ?_
    refine xl (fun _ => lv_iconst (v := (-1)) hx hb dX1_putInto_11 (by decide)) ?_
    exact x_iret hx hb hr hlocks hs0 hbs (by decide) (by decide) dX1_putInto_12 (⟨rfl, rfl⟩)

set_option maxHeartbeats 4000000 in
set_option maxRecDepth 100000 in
theorem c_X1_keep (l : Launch) (G : sg_G) (H : Heap) (b lo n : Nat) (t : Nat → sp_T) (rg : Nat → Option Nat) (ta na pa : Nat → Nat) (dv : Nat → Bool) (hV : sc_V G b lo n t rg ta na pa dv H) (dd : sp_T) (w nw pw : Nat) (hO : sc_O G H b lo ta dd w nw pw 0 false false) (hne : ∀ i, i < n → ta i ≠ w) (hwd : sp_wf t n dd) (hn1 : n < 512) : xC l G yX1_keep cX1_keep 2 (some (FieldType.object "TermSpread$Term")) 3 0 0 [.ref b, .ref w] H (fun v H' => v = some (.ref w) ∧ sc_V G b lo (n + 1) (va_up t n dd) rg (va_up ta n w) (va_up na n nw) (va_up pa n pw) (va_up dv n (mkB (n + 1) (va_up t n dd) (va_up dv n false) n)) H' ∧ sc_F b lo H H' ∧ H'.size = H.size) := by
  refine xC.start (by decide) (Nat.le_of_ble_eq_true rfl) ?_
  intro p e s m args below meth c ls E hnm hs0 hl
  obtain ⟨hx, hb, hml, hown, hts, hr, hlocks, hK, hbs⟩ := id E
  have hl : lv_has ls 2 [(0, .ref b), (1, .ref w)] := hl
  obtain ⟨fc, hC, hfI⟩ := id hV
  obtain ⟨hw, hb0, hb4, hlo, hn5, hX, hRG, hMD, hZR, hT, hrg, hwf⟩ := id hC
  have hFF : sc_F b lo H H := sc_F.rf
  have hSS : H.size = H.size := rfl
  refine xl (fun _ => lv_aload_n hx hb dX1_keep_0 rfl (lv_at hl 0 rfl)) ?_
  refine x_get (ci := 1) hx hb hts hown hK wiX1 hX rfl 2 (by decide) wFX1_18 rfl rfl dX1_keep_1 ?_
  refine xb (fun _ => lv_if_lt (tgt := 19) hx hb dX1_keep_4 (by decide)) (fun c_4 => ?_) (fun c_4 => ?_)
  · exact absurd c_4 (nI_pos (by omega))
  · refine xl (fun _ => lv_aload_n hx hb dX1_keep_7 rfl (lv_at hl 0 rfl)) ?_
    refine x_get (ci := 1) hx hb hts hown hK wiX1 hX rfl 2 (by decide) wFX1_18 rfl rfl dX1_keep_8 ?_
    refine xl (fun _ => lv_aload_n hx hb dX1_keep_11 rfl (lv_at hl 0 rfl)) ?_
    refine x_get (ci := 1) hx hb hts hown hK wiX1 hX rfl 1 (by decide) wFX1_15 rfl rfl dX1_keep_12 ?_
    refine x_alen (n := 512) hx hb hK 2 rfl hMD rfl dX1_keep_15 ?_
    refine xb (fun _ => lv_icmp_lt (tgt := 21) hx hb dX1_keep_16 (by decide)) (fun c_16 => ?_) (fun c_16 => ?_)
    · refine xl (fun _ => lv_aload_n hx hb dX1_keep_21 rfl (lv_at hl 1 rfl)) ?_
      refine xl (fun _ => lv_aload_n hx hb dX1_keep_22 rfl (lv_at hl 0 rfl)) ?_
      refine x_get (ci := 1) hx hb hts hown hK wiX1 hX rfl 2 (by decide) wFX1_18 rfl rfl dX1_keep_23 ?_
      refine x_put (ci := 0) hx hb hts hown hK wiX0 tyX0 tyX0_ok nmX0 hO.2.2.2.1 rfl 4 (by decide) wFX1_115 rfl rfl (rfl) (rfl) (by simp) (by have := hO.1; omega) dX1_keep_26 (fun H_1 ho_2 hz_3 hq_4 => ?_)
      have ho_2 : ob_ G H_1 w 0 [.int (sp_so dd), .int (sp_la dd), .ref nw, .ref pw, .int (nI n), .int (bI false), .int (bI false)] := ho_2
      obtain ⟨o1, o2, o3, o4, o5, o6⟩ := id hO
      have hO1 := ho_2
      have hX1 := va_at.kept (H1 := H_1) hX (hq_4 _ (by omega))
      have hM1 := va_at.kept (H1 := H_1) hMD (hq_4 _ (by omega))
      have hz1 := hz_3
      have hq1 := hq_4
      refine xl (fun _ => lv_aload_n hx hb dX1_keep_29 rfl (lv_at hl 0 rfl)) ?_
      refine x_get (ci := 1) hx hb hts hown hK wiX1 hX1 rfl 1 (by decide) wFX1_15 rfl rfl dX1_keep_30 ?_
      refine xl (fun _ => lv_aload_n hx hb dX1_keep_33 rfl (lv_at hl 0 rfl)) ?_
      refine x_get (ci := 1) hx hb hts hown hK wiX1 hX1 rfl 2 (by decide) wFX1_18 rfl rfl dX1_keep_34 ?_
      refine xl (fun _ => lv_aload_n hx hb dX1_keep_37 rfl (lv_at hl 1 rfl)) ?_
      refine x_aast (o := (some w)) hx hb hK hM1 (fun v h => by cases h; exact ⟨_, hO1⟩) n (rfl) (by omega) (by decide) (by omega) dX1_keep_38 (fun H_5 ho_6 hz_7 hq_8 => ?_)
      have ho_6 : ra_ G H_5 (b + 2) 512 (va_up (fun k => if k < n then some (ta k) else none) n (some w)) := ho_6
      have hM2 := ho_6
      have hX2 := va_at.kept (H1 := H_5) hX1 (hq_8 _ (by omega))
      have hO2 := va_at.kept (H1 := H_5) hO1 (hq_8 _ (by omega))
      have hz2 := hz_7
      have hq2 := hq_8
      refine xl (fun _ => lv_aload_n hx hb dX1_keep_39 rfl (lv_at hl 0 rfl)) ?_
      refine xl (fun _ => lv_dup hx hb dX1_keep_40 rfl) ?_
      refine x_get (ci := 1) hx hb hts hown hK wiX1 hX2 rfl 2 (by decide) wFX1_18 rfl rfl dX1_keep_41 ?_
      refine xl (fun _ => lv_iconst (v := 1) hx hb dX1_keep_44 (by decide)) ?_
      refine xl (fun _ => lv_iadd hx hb dX1_keep_45) ?_
      rw [show ((nI n) + 1) = (nI (n + 1)) from nI_1 n]
      refine x_put (ci := 1) hx hb hts hown hK wiX1 tyX1 tyX1_ok nmX1 hX2 rfl 2 (by decide) wFX1_18 rfl rfl (rfl) (rfl) (by simp) (hb0) dX1_keep_46 (fun H_9 ho_10 hz_11 hq_12 => ?_)
      have ho_10 : ob_ G H_9 b 1 [.ref (b + 1), .ref (b + 2), .int (nI (n + 1)), .int (nI (sp_ct dv n)), .ref (b + 3)] := ho_10
      have hO3 := va_at.kept (H1 := H_9) hO2 (hq_12 _ (by omega))
      have hM3 := va_at.kept (H1 := H_9) hM2 (hq_12 _ (by omega))
      have hz3 : H_9.size = H.size := by omega
      have hq3 : ∀ q, q ≠ b → q ≠ b + 2 → q ≠ w → H_9[q]? = H[q]? := fun q n1 n2 n3 => ((hq_12 q n1).trans (hq2 q n2)).trans (hq1 q n3)
      have hnw : nw ≠ w := ob_ia hw.1 o4 o5
      have hpw : pw ≠ w := ob_ra hw.2 o4 o6
      have hOn : sc_O G H_9 b lo ta dd w nw pw (nI n) false false := ⟨o1, o2, o3, hO3, o5.kept (hq3 _ (by omega) (by omega) hnw), o6.kept (hq3 _ (by omega) (by omega) hpw)⟩
      have hC3 := sc_grow hC hn1 hOn hne hwd ho_10 hM3 hz3 ⟨_, o4⟩ hq3
      have hfI3 := fcI_grow hfI (sc_bd hC) hwd.1
      have hV3 : sc_V G b lo (n + 1) (va_up t n dd) rg (va_up ta n w) (va_up na n nw) (va_up pa n pw) (va_up dv n false) H_9 := ⟨_, by rw [sp_ct_grow]; exact hC3, hfI3⟩
      have hFF : sc_F b lo H H_9 := ⟨by omega, fun q h1 h2 => hq3 q (by omega) (by omega) (by omega)⟩
      refine xl (fun _ => lv_aload_n hx hb dX1_keep_49 rfl (lv_at hl 1 rfl)) ?_
      have hcan := c_can l G H_9 b lo (n + 1) _ (va_up t n dd) (va_up dv n false) (va_up fc n false) rg (va_up ta n w) (va_up na n nw) (va_up pa n pw) hC3 hfI3 n (by omega)
      rw [va_up_self] at hcan
      refine x_callV E hl hcan xm_yX0_canBeMadeByAttacker wMX1_128 wI_yX0_canBeMadeByAttacker wT_yX0_canBeMadeByAttacker (ci := 0) rfl rfl hO3 (rest := []) rfl (by decide) (by decide) ⟨by decide, by decide⟩ dX1_keep_50 (x_pure (r := .int (bI (mkB (n + 1) (va_up t n dd) (va_up dv n false) n))) (st1 := []) ?_)
      refine xb (fun _ => lv_if_eq (tgt := 61) hx hb dX1_keep_53 (by decide)) (fun c_53 => ?_) (fun c_53 => ?_)
      · have c_53 := bI_f c_53
        refine xl (fun _ => lv_aload_n hx hb dX1_keep_61 rfl (lv_at hl 1 rfl)) ?_
        exact x_aret hx hb hr hlocks hs0 hbs (Or.inr ⟨_, rfl⟩) (by decide) (by decide) dX1_keep_62 (⟨rfl, by rw [c_53]; exact hV3, hFF, hz3⟩)
      · have c_53 := bI_t c_53
        refine xl (fun _ => lv_aload_n hx hb dX1_keep_56 rfl (lv_at hl 0 rfl)) ?_
        refine xl (fun _ => lv_aload_n hx hb dX1_keep_57 rfl (lv_at hl 1 rfl)) ?_
        have hder := c_X1_derive_s l G H_9 b lo (n + 1) (va_up t n dd) rg (va_up ta n w) (va_up na n nw) (va_up pa n pw) (va_up dv n false) hV3 n (by omega)
        rw [va_up_self] at hder
        refine x_callV E hl hder xm_yX1_derive wMX1_88 wI_yX1_derive wT_yX1_derive (ci := 1) rfl rfl ho_10 (rest := []) rfl (by decide) (by decide) ⟨by decide, by decide⟩ dX1_keep_58 (fun v_13 H_14 hp_15 hz_16 hq_17 => ?_)
        obtain ⟨rfl, hV4, hF4, hS4⟩ := hp_15
        refine xg (g2 := F0 m 61 ls []) rfl ?_
        refine xl (fun _ => lv_aload_n hx hb dX1_keep_61 rfl (lv_at hl 1 rfl)) ?_
        exact x_aret hx hb hr hlocks hs0 hbs (Or.inr ⟨_, rfl⟩) (by decide) (by decide) dX1_keep_62 (⟨rfl, by rw [c_53, ← sp_up_grow]; exact hV4, hFF.tr hF4, hS4.trans hz3⟩)
    · exact absurd ((nI_ltI (by omega) (by decide)).mpr hn1) c_16

set_option maxHeartbeats 4000000 in
set_option maxRecDepth 100000 in
theorem c_X1_makeInto (l : Launch) (G : sg_G) (H : Heap) (b lo n : Nat) (t : Nat → sp_T) (rg : Nat → Option Nat) (ta na pa : Nat → Nat) (dv : Nat → Bool) (g : Nat → Prop) (hV : sc_V G b lo n t rg ta na pa dv H) (hD : ∀ i, i < n → (dv i = true ↔ sp_der n t g i)) (hg : ∀ i, g i → i < n) (dd : sp_T) (w nw pw : Nat) (hO : sc_O G H b lo ta dd w nw pw 0 false false) (hne : ∀ i, i < n → ta i ≠ w) (hwd : sp_wf t n dd) (hn1 : n < 512) (r : Int32) : xC l G yX1_makeInto cX1_makeInto 4 (some FieldType.int) 4 0 0 [.ref b, .int r, .ref w] H (fun v H' => v = some (.int (sp_mi (n, t, rg, g) r dd).1) ∧ sc_HS G b lo (sp_mi (n, t, rg, g) r dd).2 H' ∧ sc_F b lo H H' ∧ H'.size = H.size) := by
  refine xC.start (by decide) (Nat.le_of_ble_eq_true rfl) ?_
  intro p e s m args below meth c ls E hnm hs0 hl
  obtain ⟨hx, hb, hml, hown, hts, hr, hlocks, hK, hbs⟩ := id E
  have hl : lv_has ls 4 [(0, .ref b), (1, .int r), (2, .ref w)] := hl
  obtain ⟨fc, hC, hfI⟩ := id hV
  obtain ⟨hw, hb0, hb4, hlo, hn5, hX, hRG, hMD, hZR, hT, hrg, hwf⟩ := id hC
  have hFF : sc_F b lo H H := sc_F.rf
  have hSS : H.size = H.size := rfl
  refine xl (fun _ => lv_iload_n hx hb dX1_makeInto_0 rfl (lv_at hl 1 rfl)) ?_
  refine x_callS E hl (c_X1_isRegister l G H r) xm_yX1_isRegister wMX1_109 wS_yX1_isRegister (rest := []) rfl (by decide) (by decide) ⟨by decide, by decide⟩ dX1_makeInto_1 (x_pure (r := .int (bI (sp_ir r))) (st1 := []) ?_)
  refine xb (fun _ => lv_if_ne (tgt := 9) hx hb dX1_makeInto_4 (by decide)) (fun c_4 => ?_) (fun c_4 => ?_)
  · have c_4 := bI_t c_4
    refine xl (fun _ => lv_aload_n hx hb dX1_makeInto_9 rfl (lv_at hl 0 rfl)) ?_
    refine xl (fun _ => lv_aload_n hx hb dX1_makeInto_10 rfl (lv_at hl 2 rfl)) ?_
    rcases hs_11 : sp_fd (fun i => sp_al (t i) dd) n with _ | i
    · refine x_callV E hl (c_X1_findLike_n l G H b lo n _ t dv fc rg ta na pa hC dd w nw pw 0 false false hO hwd.1 hs_11) xm_yX1_findLike wMX1_118 wI_yX1_findLike wT_yX1_findLike (ci := 1) rfl rfl hX (rest := []) rfl (by decide) (by decide) ⟨by decide, by decide⟩ dX1_makeInto_11 (x_pure (r := .null) (st1 := []) ?_)
      refine xs (fun _ => lv_astore_nN (i := 3) (lv' := [(3, .null), (0, .ref b), (1, .int r), (2, .ref w)]) hx hb dX1_makeInto_14 rfl hl (by decide) (rfl)) (fun ls hl => ?_)
      refine xl (fun _ => lv_aload_n hx hb dX1_makeInto_15 rfl (lv_at hl 1 rfl)) ?_
      refine xl (fun _ => lv_iload_n hx hb dX1_makeInto_16 rfl (lv_at hl 2 rfl)) ?_
      refine xl (fun _ => lv_aload_nN hx hb dX1_makeInto_17 rfl (lv_at hl 0 rfl)) ?_
      refine xl (fun _ => lv_ifnullN (tgt := 25) hx hb dX1_makeInto_18 (by decide)) ?_
      refine xl (fun _ => lv_aload_n hx hb dX1_makeInto_25 rfl (lv_at hl 1 rfl)) ?_
      refine xl (fun _ => lv_aload_n hx hb dX1_makeInto_26 rfl (lv_at hl 3 rfl)) ?_
      refine x_callV E hl (c_X1_keep l G H b lo n t rg ta na pa dv hV dd w nw pw hO hne hwd hn1) xm_yX1_keep wMX1_122 wI_yX1_keep wT_yX1_keep (ci := 1) rfl rfl hX (rest := [.int r, .ref b]) rfl (by simp [cat_rf, cat_int, cat_ref, cat_null]) (by decide) ⟨by decide, by decide⟩ dX1_makeInto_27 (fun v_1 H_2 hp_3 hz_4 hq_5 => ?_)
      obtain ⟨rfl, hV, hFF, hSS⟩ := hp_3
      refine xg (g2 := F0 m 30 ls [.ref w, .int r, .ref b]) rfl ?_
      obtain ⟨fc2, hC2, hfI2⟩ := id hV
      obtain ⟨-, -, -, -, -, hX2, -⟩ := id hC2
      have hput := c_X1_putInto l G H_2 b lo (n + 1) _ rg _ _ _ _ hV r n (by omega)
      rw [va_up_self] at hput
      refine x_callV E hl hput xm_yX1_putInto wMX1_81 wI_yX1_putInto wT_yX1_putInto (ci := 1) rfl rfl hX2 (rest := []) rfl (by decide) (by decide) ⟨by decide, by decide⟩ dX1_makeInto_30 (fun v_6 H_7 hp_8 hz_9 hq_10 => ?_)
      obtain ⟨rfl, hV, hF2, hS2⟩ := hp_8
      refine xg (g2 := F0 m 33 ls [.int (sp_r1 r)]) rfl ?_
      exact x_iret hx hb hr hlocks hs0 hbs (by decide) (by decide) dX1_makeInto_33 (⟨by rw [sp_mi_new c_4 hs_11]; unfold sp_r1; rw [if_pos c_4], by rw [sp_mi_new c_4 hs_11]; exact ⟨_, _, _, _, by unfold sp_pt at hV; rw [if_pos c_4] at hV; exact hV, sp_der_grow (sc_bd hC) hwd.1 hg hD, fun i h => Nat.lt_succ_of_lt (hg i h)⟩, hFF.tr hF2, hS2.trans hSS⟩)
    · have hi := (sp_fd_lt hs_11).1
      refine x_callV E hl (c_X1_findLike_s l G H b lo n _ t dv fc rg ta na pa hC dd w nw pw 0 false false hO hwd.1 hs_11) xm_yX1_findLike wMX1_118 wI_yX1_findLike wT_yX1_findLike (ci := 1) rfl rfl hX (rest := []) rfl (by decide) (by decide) ⟨by decide, by decide⟩ dX1_makeInto_11 (x_pure (r := .ref (ta i)) (st1 := []) ?_)
      refine xs (fun _ => lv_astore_n (i := 3) (lv' := [(3, .ref (ta i)), (0, .ref b), (1, .int r), (2, .ref w)]) hx hb dX1_makeInto_14 rfl hl (by decide) (rfl)) (fun ls hl => ?_)
      refine xl (fun _ => lv_aload_n hx hb dX1_makeInto_15 rfl (lv_at hl 1 rfl)) ?_
      refine xl (fun _ => lv_iload_n hx hb dX1_makeInto_16 rfl (lv_at hl 2 rfl)) ?_
      refine xl (fun _ => lv_aload_n hx hb dX1_makeInto_17 rfl (lv_at hl 0 rfl)) ?_
      refine xl (fun _ => lv_ifnull hx hb dX1_makeInto_18) ?_
      refine xl (fun _ => lv_aload_n hx hb dX1_makeInto_21 rfl (lv_at hl 0 rfl)) ?_
      refine xl (fun _ => lv_goto (tgt := 30) hx hb dX1_makeInto_22 (by decide)) ?_
      refine x_callV E hl (c_X1_putInto l G H b lo n t rg ta na pa dv hV r i hi) xm_yX1_putInto wMX1_81 wI_yX1_putInto wT_yX1_putInto (ci := 1) rfl rfl hX (rest := []) rfl (by decide) (by decide) ⟨by decide, by decide⟩ dX1_makeInto_30 (fun v_11 H_12 hp_13 hz_14 hq_15 => ?_)
      obtain ⟨rfl, hV, hF2, hS2⟩ := hp_13
      refine xg (g2 := F0 m 33 ls [.int (sp_r1 r)]) rfl ?_
      exact x_iret hx hb hr hlocks hs0 hbs (by decide) (by decide) dX1_makeInto_33 (⟨by rw [sp_mi_old c_4 hs_11]; unfold sp_r1; rw [if_pos c_4], by rw [sp_mi_old c_4 hs_11]; exact ⟨ta, na, pa, dv, by unfold sp_pt at hV; rw [if_pos c_4] at hV; exact hV, hD, hg⟩, hFF.tr hF2, hS2.trans hSS⟩)
  · have c_4 := bI_f c_4
    refine xl (fun _ => lv_iconst (v := (-1)) hx hb dX1_makeInto_7 (by decide)) ?_
    exact x_iret hx hb hr hlocks hs0 hbs (by decide) (by decide) dX1_makeInto_8 (⟨by rw [sp_mi_no c_4], by rw [sp_mi_no c_4]; exact ⟨ta, na, pa, dv, hV, hD, hg⟩, hFF, hSS⟩)
