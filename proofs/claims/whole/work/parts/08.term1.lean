set_option maxHeartbeats 4000000 in
set_option maxRecDepth 100000 in
theorem c_X0_numberAt (l : Launch) (G : sg_G) (H : Heap) (a na pa : Nat) (so la pl : Int32) (dv fc : Bool) (f : Nat → Int32) (hO : tob G H a so la na pa pl dv fc) (hN : ia_ G H na 4 f) (j : Nat) (hj : j < 4) : xC l G yX0_numberAt cX0_numberAt 2 (some FieldType.int) 0 0 0 [.ref a, .int (nI j)] H (xPu (.int (f j)) H) := by
  refine xC.start (by decide) (Nat.le_of_ble_eq_true rfl) ?_
  intro p e s m args below meth c ls E hnm hs0 hl
  obtain ⟨hx, hb, hml, hown, hts, hr, hlocks, hK, hbs⟩ := id E
  have hl : lv_has ls 2 [(0, .ref a), (1, .int (nI j))] := hl
  refine xl (fun _ => lv_iload_n hx hb dX0_numberAt_0 rfl (lv_at hl 1 rfl)) ?_
  refine xb (fun _ => lv_if_lt (tgt := 22) hx hb dX0_numberAt_1 (by decide)) (fun c_1 => ?_) (fun c_1 => ?_)
  · exact absurd c_1 (nI_pos (by omega))
  · refine xl (fun _ => lv_iload_n hx hb dX0_numberAt_4 rfl (lv_at hl 1 rfl)) ?_
    refine xl (fun _ => lv_aload_n hx hb dX0_numberAt_5 rfl (lv_at hl 0 rfl)) ?_
    refine x_get (ci := 0) hx hb hts hown hK wiX0 hO rfl 2 (by decide) wFX0_18 rfl rfl dX0_numberAt_6 ?_
    refine x_alen (n := 4) hx hb hK 0 rfl hN rfl dX0_numberAt_9 ?_
    refine xb (fun _ => lv_icmp_ge (tgt := 22) hx hb dX0_numberAt_10 (by decide)) (fun c_10 => ?_) (fun c_10 => ?_)
    · exact absurd c_10 (nI_ge hj (by decide))
    · refine xl (fun _ => lv_aload_n hx hb dX0_numberAt_13 rfl (lv_at hl 0 rfl)) ?_
      refine x_get (ci := 0) hx hb hts hown hK wiX0 hO rfl 2 (by decide) wFX0_18 rfl rfl dX0_numberAt_14 ?_
      refine xl (fun _ => lv_iload_n hx hb dX0_numberAt_17 rfl (lv_at hl 1 rfl)) ?_
      refine x_iald hx hb hK hN j (rfl) (by omega) (by decide) dX0_numberAt_18 ?_
      refine xl (fun _ => lv_goto (tgt := 23) hx hb dX0_numberAt_19 (by decide)) ?_
      exact x_iret hx hb hr hlocks hs0 hbs (by decide) (by decide) dX0_numberAt_23 (⟨rfl, rfl⟩)

set_option maxHeartbeats 4000000 in
set_option maxRecDepth 100000 in
theorem c_X0_partAt (l : Launch) (G : sg_G) (H : Heap) (a na pa : Nat) (so la pl : Int32) (dv fc : Bool) (g : Nat → Option Nat) (hO : tob G H a so la na pa pl dv fc) (hP : ra_ G H pa 4 g) (j : Nat) (hj : j < 4) : xC l G yX0_partAt cX0_partAt 2 (some (FieldType.object "TermSpread$Term")) 0 0 0 [.ref a, .int (nI j)] H (xPu (va_rf (g j)) H) := by
  refine xC.start (by decide) (Nat.le_of_ble_eq_true rfl) ?_
  intro p e s m args below meth c ls E hnm hs0 hl
  obtain ⟨hx, hb, hml, hown, hts, hr, hlocks, hK, hbs⟩ := id E
  have hl : lv_has ls 2 [(0, .ref a), (1, .int (nI j))] := hl
  refine xl (fun _ => lv_iload_n hx hb dX0_partAt_0 rfl (lv_at hl 1 rfl)) ?_
  refine xb (fun _ => lv_if_lt (tgt := 22) hx hb dX0_partAt_1 (by decide)) (fun c_1 => ?_) (fun c_1 => ?_)
  · exact absurd c_1 (nI_pos (by omega))
  · refine xl (fun _ => lv_iload_n hx hb dX0_partAt_4 rfl (lv_at hl 1 rfl)) ?_
    refine xl (fun _ => lv_aload_n hx hb dX0_partAt_5 rfl (lv_at hl 0 rfl)) ?_
    refine x_get (ci := 0) hx hb hts hown hK wiX0 hO rfl 3 (by decide) wFX0_22 rfl rfl dX0_partAt_6 ?_
    refine x_alen (n := 4) hx hb hK 2 rfl hP rfl dX0_partAt_9 ?_
    refine xb (fun _ => lv_icmp_ge (tgt := 22) hx hb dX0_partAt_10 (by decide)) (fun c_10 => ?_) (fun c_10 => ?_)
    · exact absurd c_10 (nI_ge hj (by decide))
    · refine xl (fun _ => lv_aload_n hx hb dX0_partAt_13 rfl (lv_at hl 0 rfl)) ?_
      refine x_get (ci := 0) hx hb hts hown hK wiX0 hO rfl 3 (by decide) wFX0_22 rfl rfl dX0_partAt_14 ?_
      refine xl (fun _ => lv_iload_n hx hb dX0_partAt_17 rfl (lv_at hl 1 rfl)) ?_
      refine x_aald hx hb hK hP j (rfl) (by omega) (by decide) dX0_partAt_18 ?_
      refine xl (fun _ => lv_goto (tgt := 23) hx hb dX0_partAt_19 (by decide)) ?_
      exact x_aret hx hb hr hlocks hs0 hbs (va_rf_or _) (by decide) (by decide) dX0_partAt_23 (⟨rfl, rfl⟩)

set_option maxHeartbeats 4000000 in
set_option maxRecDepth 100000 in
theorem c_X0_isPartIn (l : Launch) (G : sg_G) (H : Heap) (a na pa : Nat) (so la pl : Int32) (dv fc : Bool) (g : Nat → Option Nat) (hO : tob G H a so la na pa pl dv fc) (hP : ra_ G H pa 4 g) (j : Nat) (hj : j < 4) (B : Bool) (hI : pin G H (g j) B) : xC l G yX0_isPartIn cX0_isPartIn 3 (some FieldType.boolean) 1 0 0 [.ref a, .int (nI j)] H (xPu (.int (bI B)) H) := by
  refine xC.start (by decide) (Nat.le_of_ble_eq_true rfl) ?_
  intro p e s m args below meth c ls E hnm hs0 hl
  obtain ⟨hx, hb, hml, hown, hts, hr, hlocks, hK, hbs⟩ := id E
  have hl : lv_has ls 3 [(0, .ref a), (1, .int (nI j))] := hl
  refine xl (fun _ => lv_aload_n hx hb dX0_isPartIn_0 rfl (lv_at hl 0 rfl)) ?_
  refine xl (fun _ => lv_iload_n hx hb dX0_isPartIn_1 rfl (lv_at hl 1 rfl)) ?_
  refine x_callV E hl (c_X0_partAt l G H a na pa so la pl dv fc g hO hP j (hj)) xm_yX0_partAt wMX0_43 wI_yX0_partAt wT_yX0_partAt (ci := 0) rfl rfl hO (rest := []) rfl (by decide) (by decide) ⟨by decide, by decide⟩ dX0_isPartIn_2 (x_pure (r := va_rf (g j)) (st1 := []) ?_)
  refine x_astore_nq (i := 2) (lv' := [(2, va_rf (g j)), (0, .ref a), (1, .int (nI j))]) hx hb dX0_isPartIn_5 rfl hl (by decide) (rfl) (fun ls hl => ?_)
  refine x_aload_nq hx hb dX0_isPartIn_6 rfl (lv_at hl 0 rfl) ?_
  refine x_ifnullq (tgt := 17) hx hb dX0_isPartIn_7 (by decide) (fun c_7 => ?_) (fun q_7 c_7 => ?_)
  · refine xl (fun _ => lv_iconst (v := 1) hx hb dX0_isPartIn_17 (by decide)) ?_
    refine xl (fun _ => lv_goto (tgt := 22) hx hb dX0_isPartIn_18 (by decide)) ?_
    exact x_zret hx hb hr hlocks hs0 hbs (by decide) (by decide) (by decide) dX0_isPartIn_22 (pu1 (hI.1 c_7))
  · obtain ⟨so2, la2, na2, pa2, pl2, fc2, hO2⟩ := hI.2 _ c_7
    have hl : lv_has ls 3 [(2, .ref q_7), (0, .ref a), (1, .int (nI j))] := by rw [c_7] at hl; exact hl
    refine xl (fun _ => lv_aload_n hx hb dX0_isPartIn_10 rfl (lv_at hl 0 rfl)) ?_
    refine x_get (ci := 0) hx hb hts hown hK wiX0 hO2 rfl 5 (by decide) wFX0_29 rfl rfl dX0_isPartIn_11 ?_
    refine xb (fun _ => lv_if_eq (tgt := 21) hx hb dX0_isPartIn_14 (by decide)) (fun c_14 => ?_) (fun c_14 => ?_)
    · have c_14 := bI_f c_14
      refine xl (fun _ => lv_iconst (v := 0) hx hb dX0_isPartIn_21 (by decide)) ?_
      exact x_zret hx hb hr hlocks hs0 hbs (by decide) (by decide) (by decide) dX0_isPartIn_22 (pu0 c_14)
    · have c_14 := bI_t c_14
      refine xl (fun _ => lv_iconst (v := 1) hx hb dX0_isPartIn_17 (by decide)) ?_
      refine xl (fun _ => lv_goto (tgt := 22) hx hb dX0_isPartIn_18 (by decide)) ?_
      exact x_zret hx hb hr hlocks hs0 hbs (by decide) (by decide) (by decide) dX0_isPartIn_22 (pu1 c_14)

set_option maxHeartbeats 4000000 in
set_option maxRecDepth 100000 in
theorem c_X0_canAgree (l : Launch) (G : sg_G) (H : Heap) (a b na pa nb pb : Nat) (so la pl so2 la2 pl2 : Int32) (dv fc dv2 fc2 : Bool) (hO : tob G H a so la na pa pl dv fc) (hO2 : tob G H b so2 la2 nb pb pl2 dv2 fc2) : xC l G yX0_canAgree cX0_canAgree 2 (some FieldType.boolean) 0 0 0 [.ref a, .ref b] H (xPu (.int (bI (dv && fc2))) H) := by
  refine xC.start (by decide) (Nat.le_of_ble_eq_true rfl) ?_
  intro p e s m args below meth c ls E hnm hs0 hl
  obtain ⟨hx, hb, hml, hown, hts, hr, hlocks, hK, hbs⟩ := id E
  have hl : lv_has ls 2 [(0, .ref a), (1, .ref b)] := hl
  refine xl (fun _ => lv_aload_n hx hb dX0_canAgree_0 rfl (lv_at hl 0 rfl)) ?_
  refine xl (fun _ => lv_ifnull hx hb dX0_canAgree_1) ?_
  refine xl (fun _ => lv_aload_n hx hb dX0_canAgree_4 rfl (lv_at hl 1 rfl)) ?_
  refine xl (fun _ => lv_ifnull hx hb dX0_canAgree_5) ?_
  refine xl (fun _ => lv_aload_n hx hb dX0_canAgree_8 rfl (lv_at hl 0 rfl)) ?_
  refine x_get (ci := 0) hx hb hts hown hK wiX0 hO rfl 5 (by decide) wFX0_29 rfl rfl dX0_canAgree_9 ?_
  refine xb (fun _ => lv_if_eq (tgt := 26) hx hb dX0_canAgree_12 (by decide)) (fun c_12 => ?_) (fun c_12 => ?_)
  · have c_12 := bI_f c_12
    refine xl (fun _ => lv_iconst (v := 0) hx hb dX0_canAgree_26 (by decide)) ?_
    exact x_zret hx hb hr hlocks hs0 hbs (by decide) (by decide) (by decide) dX0_canAgree_27 (pu0 (by rw [c_12]; rfl))
  · have c_12 := bI_t c_12
    refine xl (fun _ => lv_aload_n hx hb dX0_canAgree_15 rfl (lv_at hl 1 rfl)) ?_
    refine x_get (ci := 0) hx hb hts hown hK wiX0 hO2 rfl 6 (by decide) wFX0_33 rfl rfl dX0_canAgree_16 ?_
    refine xb (fun _ => lv_if_eq (tgt := 26) hx hb dX0_canAgree_19 (by decide)) (fun c_19 => ?_) (fun c_19 => ?_)
    · have c_19 := bI_f c_19
      refine xl (fun _ => lv_iconst (v := 0) hx hb dX0_canAgree_26 (by decide)) ?_
      exact x_zret hx hb hr hlocks hs0 hbs (by decide) (by decide) (by decide) dX0_canAgree_27 (pu0 (by rw [c_19]; cases dv <;> rfl))
    · have c_19 := bI_t c_19
      refine xl (fun _ => lv_iconst (v := 1) hx hb dX0_canAgree_22 (by decide)) ?_
      refine xl (fun _ => lv_goto (tgt := 27) hx hb dX0_canAgree_23 (by decide)) ?_
      exact x_zret hx hb hr hlocks hs0 hbs (by decide) (by decide) (by decide) dX0_canAgree_27 (pu1 (by rw [c_12, c_19]; rfl))

set_option maxHeartbeats 4000000 in
set_option maxRecDepth 100000 in
theorem c_X0_canBeMade (l : Launch) (G : sg_G) (H : Heap) (a na pa : Nat) (so la pl : Int32) (dv fc : Bool) (g : Nat → Option Nat) (hO : tob G H a so la na pa pl dv fc) (hP : ra_ G H pa 4 g) (B : Bool) (h1 : so = 1 → B = false) (h3 : so = 3 → ∃ (q0 q1 n0 p0 n1 p1 : Nat) (s0 l0 k0 s1 l1 k1 : Int32) (dv0 fc0 dv1 fc1 : Bool), g 0 = some q0 ∧ g 1 = some q1 ∧ tob G H q0 s0 l0 n0 p0 k0 dv0 fc0 ∧ tob G H q1 s1 l1 n1 p1 k1 dv1 fc1 ∧ B = ((dv0 && fc1) || (dv1 && fc0))) (h : ¬ so = 1 → ¬ so = 3 → ∃ b : Nat → Bool, (∀ k, k < 4 → pin G H (g k) (b k)) ∧ B = (b 0 && b 1 && b 2 && b 3)) : xC l G yX0_canBeMadeByAttacker cX0_canBeMadeByAttacker 2 (some FieldType.boolean) 2 0 0 [.ref a] H (xPu (.int (bI B)) H) := by
  refine xC.start (by decide) (Nat.le_of_ble_eq_true rfl) ?_
  intro p e s m args below meth c ls E hnm hs0 hl
  obtain ⟨hx, hb, hml, hown, hts, hr, hlocks, hK, hbs⟩ := id E
  have hl : lv_has ls 2 [(0, .ref a)] := hl
  refine xl (fun _ => lv_aload_n hx hb dX0_canBeMadeByAttacker_0 rfl (lv_at hl 0 rfl)) ?_
  refine x_get (ci := 0) hx hb hts hown hK wiX0 hO rfl 0 (by decide) wFX0_9 rfl rfl dX0_canBeMadeByAttacker_1 ?_
  refine xl (fun _ => lv_iconst (v := 1) hx hb dX0_canBeMadeByAttacker_4 (by decide)) ?_
  refine xb (fun _ => lv_icmp_ne (tgt := 10) hx hb dX0_canBeMadeByAttacker_5 (by decide)) (fun c_5 => ?_) (fun c_5 => ?_)
  · refine xl (fun _ => lv_aload_n hx hb dX0_canBeMadeByAttacker_10 rfl (lv_at hl 0 rfl)) ?_
    refine x_get (ci := 0) hx hb hts hown hK wiX0 hO rfl 0 (by decide) wFX0_9 rfl rfl dX0_canBeMadeByAttacker_11 ?_
    refine xl (fun _ => lv_iconst (v := 3) hx hb dX0_canBeMadeByAttacker_14 (by decide)) ?_
    refine xb (fun _ => lv_icmp_ne (tgt := 56) hx hb dX0_canBeMadeByAttacker_15 (by decide)) (fun c_15 => ?_) (fun c_15 => ?_)
    · obtain ⟨b, hb4, hB⟩ := h c_5 c_15
      refine xl (fun _ => lv_iconst (v := 0) hx hb dX0_canBeMadeByAttacker_56 (by decide)) ?_
      refine xs (fun _ => lv_istore_n (i := 1) (lv' := [(1, .int 0), (0, .ref a)]) hx hb dX0_canBeMadeByAttacker_57 rfl hl (by decide) (rfl)) (fun ls hl => ?_)
      have hloop : ∀ (d : Nat) (i : Nat), i ≤ 4 → 4 < i + d → (∀ k, k < i → b k = true) → ∀ (ls : Array Slot), lv_has ls 2 [(1, .int (nI i)), (0, .ref a)] → xV p l e (xR 2 0 0) s m args below meth c G H 0 0 (MQ below (xQ G H (xPu (.int (bI B)) H)) args s 0 0 (sg_fr G)) (F0 m 58 ls []) := by
        intro d
        induction d with
        | zero =>
          intro i h1 h2
          exact absurd h2 (by omega)
        | succ d ih =>
          intro i hi hd hall ls hl
          refine xl (fun _ => lv_iload_n hx hb dX0_canBeMadeByAttacker_58 rfl (lv_at hl 0 rfl)) ?_
          refine xl (fun _ => lv_iconst (v := 4) hx hb dX0_canBeMadeByAttacker_59 (by decide)) ?_
          refine xb (fun _ => lv_icmp_ge (tgt := 79) hx hb dX0_canBeMadeByAttacker_60 (by decide)) (fun c_60 => ?_) (fun c_60 => ?_)
          · have e4 : i = 4 := by have := nI_le4 (n := 4) (by omega) (by decide) c_60; omega
            have hall : B = true := by rw [hB, hall 0 (by omega), hall 1 (by omega), hall 2 (by omega), hall 3 (by omega)]; rfl
            refine xl (fun _ => lv_iconst (v := 1) hx hb dX0_canBeMadeByAttacker_79 (by decide)) ?_
            exact x_zret hx hb hr hlocks hs0 hbs (by decide) (by decide) (by decide) dX0_canBeMadeByAttacker_80 (pu1 hall)
          · have hi4 : i < 4 := nI_nle4 (n := 4) (by omega) (by decide) c_60
            refine xl (fun _ => lv_aload_n hx hb dX0_canBeMadeByAttacker_63 rfl (lv_at hl 1 rfl)) ?_
            refine xl (fun _ => lv_iload_n hx hb dX0_canBeMadeByAttacker_64 rfl (lv_at hl 0 rfl)) ?_
            refine x_callV E hl (c_X0_isPartIn l G H a na pa so la pl dv fc g hO hP i hi4 (b i) (hb4 i hi4)) xm_yX0_isPartIn wMX0_51 wI_yX0_isPartIn wT_yX0_isPartIn (ci := 0) rfl rfl hO (rest := []) rfl (by decide) (by decide) ⟨by decide, by decide⟩ dX0_canBeMadeByAttacker_65 (x_pure (r := .int (bI (b i))) (st1 := []) ?_)
            refine xb (fun _ => lv_if_ne (tgt := 73) hx hb dX0_canBeMadeByAttacker_68 (by decide)) (fun c_68 => ?_) (fun c_68 => ?_)
            · have c_68 := bI_t c_68
              refine xs (fun _ => lv_iinc (v := (nI (i + 1))) (lv' := [(1, .int (nI (i + 1))), (0, .ref a)]) hx hb dX0_canBeMadeByAttacker_73 hl (k := 0) rfl (nI_1 i) (by decide) (rfl)) (fun ls hl => ?_)
              refine xl (fun _ => lv_goto (tgt := 58) hx hb dX0_canBeMadeByAttacker_76 (by decide)) ?_
              exact ih (i + 1) (by omega) (by omega) (fun k hk => by by_cases e : k = i; (rw [e]; exact c_68); exact hall k (by omega)) ls (lv_sub hl [0, 1] rfl)
            · have c_68 := bI_f c_68
              have hno : B = false := by rw [hB]; rcases (show i = 0 ∨ i = 1 ∨ i = 2 ∨ i = 3 by omega) with rfl | rfl | rfl | rfl <;> (rw [c_68]; cases b 0 <;> cases b 1 <;> cases b 2 <;> rfl)
              refine xl (fun _ => lv_iconst (v := 0) hx hb dX0_canBeMadeByAttacker_71 (by decide)) ?_
              exact x_zret hx hb hr hlocks hs0 hbs (by decide) (by decide) (by decide) dX0_canBeMadeByAttacker_72 (pu0 hno)
      exact hloop 5 0 (by decide) (by decide) (fun k hk => absurd hk (Nat.not_lt_zero k)) ls (lv_sub hl [0, 1] rfl)
    · obtain ⟨q0, q1, n0, p0, n1, p1, s0, l0, k0, s1, l1, k1, dv0, fc0, dv1, fc1, hg0, hg1, hO0, hO1, hB⟩ := h3 c_15
      refine xl (fun _ => lv_aload_n hx hb dX0_canBeMadeByAttacker_18 rfl (lv_at hl 0 rfl)) ?_
      refine xl (fun _ => lv_iconst (v := 0) hx hb dX0_canBeMadeByAttacker_19 (by decide)) ?_
      refine x_callV E hl (c_X0_partAt l G H a na pa so la pl dv fc g hO hP 0 (by decide)) xm_yX0_partAt wMX0_43 wI_yX0_partAt wT_yX0_partAt (ci := 0) rfl rfl hO (rest := []) rfl (by decide) (by decide) ⟨by decide, by decide⟩ dX0_canBeMadeByAttacker_20 (x_pure (r := va_rf (g 0)) (st1 := []) ?_)
      refine xg (g2 := F0 m 23 ls [.ref q0]) (by rw [hg0]; rfl) ?_
      refine xl (fun _ => lv_aload_n hx hb dX0_canBeMadeByAttacker_23 rfl (lv_at hl 0 rfl)) ?_
      refine xl (fun _ => lv_iconst (v := 1) hx hb dX0_canBeMadeByAttacker_24 (by decide)) ?_
      refine x_callV E hl (c_X0_partAt l G H a na pa so la pl dv fc g hO hP 1 (by decide)) xm_yX0_partAt wMX0_43 wI_yX0_partAt wT_yX0_partAt (ci := 0) rfl rfl hO (rest := [.ref q0]) rfl (by simp [cat_rf, cat_int, cat_ref, cat_null]) (by decide) ⟨by decide, by decide⟩ dX0_canBeMadeByAttacker_25 (x_pure (r := va_rf (g 1)) (st1 := []) ?_)
      refine xg (g2 := F0 m 28 ls [.ref q1, .ref q0]) (by rw [hg1]; rfl) ?_
      refine x_callS E hl (c_X0_canAgree l G H q0 q1 n0 p0 n1 p1 s0 l0 k0 s1 l1 k1 dv0 fc0 dv1 fc1 hO0 hO1) xm_yX0_canAgree wMX0_47 wS_yX0_canAgree (rest := []) rfl (by decide) (by decide) ⟨by decide, by decide⟩ dX0_canBeMadeByAttacker_28 (x_pure (r := .int (bI (dv0 && fc1))) (st1 := []) ?_)
      refine xb (fun _ => lv_if_ne (tgt := 50) hx hb dX0_canBeMadeByAttacker_31 (by decide)) (fun c_31 => ?_) (fun c_31 => ?_)
      · have c_31 := bI_t c_31
        refine xl (fun _ => lv_iconst (v := 1) hx hb dX0_canBeMadeByAttacker_50 (by decide)) ?_
        refine xl (fun _ => lv_goto (tgt := 55) hx hb dX0_canBeMadeByAttacker_51 (by decide)) ?_
        exact x_zret hx hb hr hlocks hs0 hbs (by decide) (by decide) (by decide) dX0_canBeMadeByAttacker_55 (pu1 (by rw [hB, c_31]; rfl))
      · have c_31 := bI_f c_31
        refine xl (fun _ => lv_aload_n hx hb dX0_canBeMadeByAttacker_34 rfl (lv_at hl 0 rfl)) ?_
        refine xl (fun _ => lv_iconst (v := 1) hx hb dX0_canBeMadeByAttacker_35 (by decide)) ?_
        refine x_callV E hl (c_X0_partAt l G H a na pa so la pl dv fc g hO hP 1 (by decide)) xm_yX0_partAt wMX0_43 wI_yX0_partAt wT_yX0_partAt (ci := 0) rfl rfl hO (rest := []) rfl (by decide) (by decide) ⟨by decide, by decide⟩ dX0_canBeMadeByAttacker_36 (x_pure (r := va_rf (g 1)) (st1 := []) ?_)
        refine xg (g2 := F0 m 39 ls [.ref q1]) (by rw [hg1]; rfl) ?_
        refine xl (fun _ => lv_aload_n hx hb dX0_canBeMadeByAttacker_39 rfl (lv_at hl 0 rfl)) ?_
        refine xl (fun _ => lv_iconst (v := 0) hx hb dX0_canBeMadeByAttacker_40 (by decide)) ?_
        refine x_callV E hl (c_X0_partAt l G H a na pa so la pl dv fc g hO hP 0 (by decide)) xm_yX0_partAt wMX0_43 wI_yX0_partAt wT_yX0_partAt (ci := 0) rfl rfl hO (rest := [.ref q1]) rfl (by simp [cat_rf, cat_int, cat_ref, cat_null]) (by decide) ⟨by decide, by decide⟩ dX0_canBeMadeByAttacker_41 (x_pure (r := va_rf (g 0)) (st1 := []) ?_)
        refine xg (g2 := F0 m 44 ls [.ref q0, .ref q1]) (by rw [hg0]; rfl) ?_
        refine x_callS E hl (c_X0_canAgree l G H q1 q0 n1 p1 n0 p0 s1 l1 k1 s0 l0 k0 dv1 fc1 dv0 fc0 hO1 hO0) xm_yX0_canAgree wMX0_47 wS_yX0_canAgree (rest := []) rfl (by decide) (by decide) ⟨by decide, by decide⟩ dX0_canBeMadeByAttacker_44 (x_pure (r := .int (bI (dv1 && fc0))) (st1 := []) ?_)
        refine xb (fun _ => lv_if_eq (tgt := 54) hx hb dX0_canBeMadeByAttacker_47 (by decide)) (fun c_47 => ?_) (fun c_47 => ?_)
        · have c_47 := bI_f c_47
          refine xl (fun _ => lv_iconst (v := 0) hx hb dX0_canBeMadeByAttacker_54 (by decide)) ?_
          exact x_zret hx hb hr hlocks hs0 hbs (by decide) (by decide) (by decide) dX0_canBeMadeByAttacker_55 (pu0 (by rw [hB, c_31, c_47]; rfl))
        · have c_47 := bI_t c_47
          refine xl (fun _ => lv_iconst (v := 1) hx hb dX0_canBeMadeByAttacker_50 (by decide)) ?_
          refine xl (fun _ => lv_goto (tgt := 55) hx hb dX0_canBeMadeByAttacker_51 (by decide)) ?_
          exact x_zret hx hb hr hlocks hs0 hbs (by decide) (by decide) (by decide) dX0_canBeMadeByAttacker_55 (pu1 (by rw [hB, c_31, c_47]; rfl))
  · refine xl (fun _ => lv_iconst (v := 0) hx hb dX0_canBeMadeByAttacker_8 (by decide)) ?_
    exact x_zret hx hb hr hlocks hs0 hbs (by decide) (by decide) (by decide) dX0_canBeMadeByAttacker_9 (pu0 (h1 c_5))

set_option maxHeartbeats 4000000 in
set_option maxRecDepth 100000 in
theorem c_X0_isMadeLike (l : Launch) (G : sg_G) (H : Heap) (a na pa : Nat) (so la pl : Int32) (dv fc : Bool) (a2 na2 pa2 : Nat) (so2 la2 pl2 : Int32) (dv2 fc2 : Bool) (f f2 : Nat → Int32) (g g2 : Nat → Option Nat) (hO : tob G H a so la na pa pl dv fc) (hN : ia_ G H na 4 f) (hP : ra_ G H pa 4 g) (hO2 : tob G H a2 so2 la2 na2 pa2 pl2 dv2 fc2) (hN2 : ia_ G H na2 4 f2) (hP2 : ra_ G H pa2 4 g2) (B : Bool) (hB : B = true ↔ (¬ so = 1 ∧ so = so2 ∧ la = la2 ∧ ∀ k, k < 4 → g k = g2 k ∧ f k = f2 k)) : xC l G yX0_isMadeLike cX0_isMadeLike 3 (some FieldType.boolean) 1 0 0 [.ref a, .ref a2] H (xPu (.int (bI B)) H) := by
  refine xC.start (by decide) (Nat.le_of_ble_eq_true rfl) ?_
  intro p e s m args below meth c ls E hnm hs0 hl
  obtain ⟨hx, hb, hml, hown, hts, hr, hlocks, hK, hbs⟩ := id E
  have hl : lv_has ls 3 [(0, .ref a), (1, .ref a2)] := hl
  refine xl (fun _ => lv_aload_n hx hb dX0_isMadeLike_0 rfl (lv_at hl 0 rfl)) ?_
  refine x_get (ci := 0) hx hb hts hown hK wiX0 hO rfl 0 (by decide) wFX0_9 rfl rfl dX0_isMadeLike_1 ?_
  refine xl (fun _ => lv_iconst (v := 1) hx hb dX0_isMadeLike_4 (by decide)) ?_
  refine xb (fun _ => lv_icmp_eq (tgt := 30) hx hb dX0_isMadeLike_5 (by decide)) (fun c_5 => ?_) (fun c_5 => ?_)
  · refine xl (fun _ => lv_iconst (v := 0) hx hb dX0_isMadeLike_30 (by decide)) ?_
    exact x_zret hx hb hr hlocks hs0 hbs (by decide) (by decide) (by decide) dX0_isMadeLike_31 (pu0 (bF hB (fun z => z.1 c_5)))
  · refine xl (fun _ => lv_aload_n hx hb dX0_isMadeLike_8 rfl (lv_at hl 0 rfl)) ?_
    refine x_get (ci := 0) hx hb hts hown hK wiX0 hO rfl 0 (by decide) wFX0_9 rfl rfl dX0_isMadeLike_9 ?_
    refine xl (fun _ => lv_aload_n hx hb dX0_isMadeLike_12 rfl (lv_at hl 1 rfl)) ?_
    refine x_get (ci := 0) hx hb hts hown hK wiX0 hO2 rfl 0 (by decide) wFX0_9 rfl rfl dX0_isMadeLike_13 ?_
    refine xb (fun _ => lv_icmp_ne (tgt := 30) hx hb dX0_isMadeLike_16 (by decide)) (fun c_16 => ?_) (fun c_16 => ?_)
    · refine xl (fun _ => lv_iconst (v := 0) hx hb dX0_isMadeLike_30 (by decide)) ?_
      exact x_zret hx hb hr hlocks hs0 hbs (by decide) (by decide) (by decide) dX0_isMadeLike_31 (pu0 (bF hB (fun z => c_16 z.2.1)))
    · refine xl (fun _ => lv_aload_n hx hb dX0_isMadeLike_19 rfl (lv_at hl 0 rfl)) ?_
      refine x_get (ci := 0) hx hb hts hown hK wiX0 hO rfl 1 (by decide) wFX0_15 rfl rfl dX0_isMadeLike_20 ?_
      refine xl (fun _ => lv_aload_n hx hb dX0_isMadeLike_23 rfl (lv_at hl 1 rfl)) ?_
      refine x_get (ci := 0) hx hb hts hown hK wiX0 hO2 rfl 1 (by decide) wFX0_15 rfl rfl dX0_isMadeLike_24 ?_
      refine xb (fun _ => lv_icmp_eq (tgt := 32) hx hb dX0_isMadeLike_27 (by decide)) (fun c_27 => ?_) (fun c_27 => ?_)
      · refine xl (fun _ => lv_iconst (v := 0) hx hb dX0_isMadeLike_32 (by decide)) ?_
        refine xs (fun _ => lv_istore_n (i := 2) (lv' := [(2, .int 0), (0, .ref a), (1, .ref a2)]) hx hb dX0_isMadeLike_33 rfl hl (by decide) (rfl)) (fun ls hl => ?_)
        have hloop : ∀ (d : Nat) (i : Nat), i ≤ 4 → 4 < i + d → (∀ k, k < i → g k = g2 k ∧ f k = f2 k) → ∀ (ls : Array Slot), lv_has ls 3 [(2, .int (nI i)), (0, .ref a), (1, .ref a2)] → xV p l e (xR 1 0 0) s m args below meth c G H 0 0 (MQ below (xQ G H (xPu (.int (bI B)) H)) args s 0 0 (sg_fr G)) (F0 m 34 ls []) := by
          intro d
          induction d with
          | zero =>
            intro i h1 h2
            exact absurd h2 (by omega)
          | succ d ih =>
            intro i hi hd hall ls hl
            refine xl (fun _ => lv_iload_n hx hb dX0_isMadeLike_34 rfl (lv_at hl 0 rfl)) ?_
            refine xl (fun _ => lv_iconst (v := 4) hx hb dX0_isMadeLike_35 (by decide)) ?_
            refine xb (fun _ => lv_icmp_ge (tgt := 73) hx hb dX0_isMadeLike_36 (by decide)) (fun c_36 => ?_) (fun c_36 => ?_)
            · have e4 : i = 4 := by have := nI_le4 (n := 4) (by omega) (by decide) c_36; omega
              refine xl (fun _ => lv_iconst (v := 1) hx hb dX0_isMadeLike_73 (by decide)) ?_
              exact x_zret hx hb hr hlocks hs0 hbs (by decide) (by decide) (by decide) dX0_isMadeLike_74 (pu1 (hB.mpr ⟨c_5, c_16, c_27, fun k hk => hall k (by omega)⟩))
            · have hi4 : i < 4 := nI_nle4 (n := 4) (by omega) (by decide) c_36
              refine xl (fun _ => lv_aload_n hx hb dX0_isMadeLike_39 rfl (lv_at hl 1 rfl)) ?_
              refine xl (fun _ => lv_iload_n hx hb dX0_isMadeLike_40 rfl (lv_at hl 0 rfl)) ?_
              refine x_callV E hl (c_X0_partAt l G H a na pa so la pl dv fc g hO hP i hi4) xm_yX0_partAt wMX0_43 wI_yX0_partAt wT_yX0_partAt (ci := 0) rfl rfl hO (rest := []) rfl (by decide) (by decide) ⟨by decide, by decide⟩ dX0_isMadeLike_41 (x_pure (r := va_rf (g i)) (st1 := []) ?_)
              refine xl (fun _ => lv_aload_n hx hb dX0_isMadeLike_44 rfl (lv_at hl 2 rfl)) ?_
              refine xl (fun _ => lv_iload_n hx hb dX0_isMadeLike_45 rfl (lv_at hl 0 rfl)) ?_
              refine x_callV E hl (c_X0_partAt l G H a2 na2 pa2 so2 la2 pl2 dv2 fc2 g2 hO2 hP2 i hi4) xm_yX0_partAt wMX0_43 wI_yX0_partAt wT_yX0_partAt (ci := 0) rfl rfl hO2 (rest := [va_rf (g i)]) rfl (by simp [cat_rf, cat_int, cat_ref, cat_null]) (by decide) ⟨by decide, by decide⟩ dX0_isMadeLike_46 (x_pure (r := va_rf (g2 i)) (st1 := []) ?_)
              refine xb (fun _ => lv_acmp_ne (rx := (g i)) (ry := (g2 i)) (tgt := 65) hx hb dX0_isMadeLike_49 (by decide)) (fun c_49 => ?_) (fun c_49 => ?_)
              · refine xl (fun _ => lv_iconst (v := 0) hx hb dX0_isMadeLike_65 (by decide)) ?_
                exact x_zret hx hb hr hlocks hs0 hbs (by decide) (by decide) (by decide) dX0_isMadeLike_66 (pu0 (bF hB (fun z => c_49 (z.2.2.2 i hi4).1)))
              · refine xl (fun _ => lv_aload_n hx hb dX0_isMadeLike_52 rfl (lv_at hl 1 rfl)) ?_
                refine xl (fun _ => lv_iload_n hx hb dX0_isMadeLike_53 rfl (lv_at hl 0 rfl)) ?_
                refine x_callV E hl (c_X0_numberAt l G H a na pa so la pl dv fc f hO hN i hi4) xm_yX0_numberAt wMX0_39 wI_yX0_numberAt wT_yX0_numberAt (ci := 0) rfl rfl hO (rest := []) rfl (by decide) (by decide) ⟨by decide, by decide⟩ dX0_isMadeLike_54 (x_pure (r := .int (f i)) (st1 := []) ?_)
                refine xl (fun _ => lv_aload_n hx hb dX0_isMadeLike_57 rfl (lv_at hl 2 rfl)) ?_
                refine xl (fun _ => lv_iload_n hx hb dX0_isMadeLike_58 rfl (lv_at hl 0 rfl)) ?_
                refine x_callV E hl (c_X0_numberAt l G H a2 na2 pa2 so2 la2 pl2 dv2 fc2 f2 hO2 hN2 i hi4) xm_yX0_numberAt wMX0_39 wI_yX0_numberAt wT_yX0_numberAt (ci := 0) rfl rfl hO2 (rest := [.int (f i)]) rfl (by simp [cat_rf, cat_int, cat_ref, cat_null]) (by decide) ⟨by decide, by decide⟩ dX0_isMadeLike_59 (x_pure (r := .int (f2 i)) (st1 := []) ?_)
                refine xb (fun _ => lv_icmp_eq (tgt := 67) hx hb dX0_isMadeLike_62 (by decide)) (fun c_62 => ?_) (fun c_62 => ?_)
                · refine xs (fun _ => lv_iinc (v := (nI (i + 1))) (lv' := [(2, .int (nI (i + 1))), (0, .ref a), (1, .ref a2)]) hx hb dX0_isMadeLike_67 hl (k := 0) rfl (nI_1 i) (by decide) (rfl)) (fun ls hl => ?_)
                  refine xl (fun _ => lv_goto (tgt := 34) hx hb dX0_isMadeLike_70 (by decide)) ?_
                  exact ih (i + 1) (by omega) (by omega) (fun k hk => by by_cases e : k = i; (rw [e]; exact ⟨c_49, c_62⟩); exact hall k (by omega)) ls (lv_sub hl [0, 1, 2] rfl)
                · refine xl (fun _ => lv_iconst (v := 0) hx hb dX0_isMadeLike_65 (by decide)) ?_
                  exact x_zret hx hb hr hlocks hs0 hbs (by decide) (by decide) (by decide) dX0_isMadeLike_66 (pu0 (bF hB (fun z => c_62 (z.2.2.2 i hi4).2)))
        exact hloop 5 0 (by decide) (by decide) (fun k hk => absurd hk (Nat.not_lt_zero k)) ls (lv_sub hl [0, 1, 2] rfl)
      · refine xl (fun _ => lv_iconst (v := 0) hx hb dX0_isMadeLike_30 (by decide)) ?_
        exact x_zret hx hb hr hlocks hs0 hbs (by decide) (by decide) (by decide) dX0_isMadeLike_31 (pu0 (bF hB (fun z => c_27 z.2.2.1)))
