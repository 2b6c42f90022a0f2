set_option maxHeartbeats 4000000 in
set_option maxRecDepth 100000 in
theorem c_X0_init (l : Launch) (G : sg_G) (H : Heap) (a na pa : Nat) (so la : Int32) (hO : ob_ G H a 0 [.int 0, .int 0, .null, .null, .int 0, .int 0, .int 0]) (hba : sg_B G ≤ a) : xC l G yX0_init cX0_init 5 none 1 0 0 [.ref a, .int so, .int la, .ref na, .ref pa] H (fun v H' => v = none ∧ tob G H' a so la na pa 0 false false ∧ H'.size = H.size ∧ ∀ q, q ≠ a → H'[q]? = H[q]?) := by
  refine xC.start (by decide) (Nat.le_of_ble_eq_true rfl) ?_
  intro p e s m args below meth c ls E hnm hs0 hl
  obtain ⟨hx, hb, hml, hown, hts, hr, hlocks, hK, hbs⟩ := id E
  have hl : lv_has ls 5 [(0, .ref a), (1, .int so), (2, .int la), (3, .ref na), (4, .ref pa)] := hl
  have hZ : H.size = H.size := rfl
  have hF : ∀ q, q ≠ a → H[q]? = H[q]? := fun _ _ => rfl
  refine xl (fun _ => lv_aload_n hx hb dX0_init_0 rfl (lv_at hl 0 rfl)) ?_
  refine xl (fun _ => W.objInit hx hb hown (hts _ wMX0_3) (hts _ wI_yO) (hts _ wC_yO) rfl (by rw [hml]; exact hl.1) rfl dX0_init_1 (Nat.le_of_ble_eq_true rfl) (Nat.le_of_ble_eq_true rfl)) ?_
  refine xg (g2 := F0 m 4 ls []) rfl ?_
  refine xl (fun _ => lv_aload_n hx hb dX0_init_4 rfl (lv_at hl 0 rfl)) ?_
  refine xl (fun _ => lv_iload_n hx hb dX0_init_5 rfl (lv_at hl 1 rfl)) ?_
  refine x_putF (ci := 0) hx hb hts hown hK wiX0 tyX0 tyX0_ok nmX0 hO rfl 0 (by decide) wFX0_9 rfl rfl hnm rfl (rfl) (rfl) (by simp) (hba) dX0_init_6 (fun H_1 ho_2 hz_3 hq_4 => ?_)
  have ho_2 : ob_ G H_1 a 0 [.int so, .int 0, .null, .null, .int 0, .int 0, .int 0] := ho_2
  have hZ : H_1.size = H.size := hz_3.trans hZ
  have hF : ∀ q, q ≠ a → H_1[q]? = H[q]? := fun q n => (hq_4 q n).trans (hF q n)
  refine xl (fun _ => lv_aload_n hx hb dX0_init_9 rfl (lv_at hl 0 rfl)) ?_
  refine xl (fun _ => lv_iload_n hx hb dX0_init_10 rfl (lv_at hl 2 rfl)) ?_
  refine x_putF (ci := 0) hx hb hts hown hK wiX0 tyX0 tyX0_ok nmX0 ho_2 rfl 1 (by decide) wFX0_15 rfl rfl hnm rfl (rfl) (rfl) (by simp) (hba) dX0_init_11 (fun H_5 ho_6 hz_7 hq_8 => ?_)
  have ho_6 : ob_ G H_5 a 0 [.int so, .int la, .null, .null, .int 0, .int 0, .int 0] := ho_6
  have hZ : H_5.size = H.size := hz_7.trans hZ
  have hF : ∀ q, q ≠ a → H_5[q]? = H[q]? := fun q n => (hq_8 q n).trans (hF q n)
  refine xl (fun _ => lv_aload_n hx hb dX0_init_14 rfl (lv_at hl 0 rfl)) ?_
  refine xl (fun _ => lv_aload_n hx hb dX0_init_15 rfl (lv_at hl 3 rfl)) ?_
  refine x_putF (ci := 0) hx hb hts hown hK wiX0 tyX0 tyX0_ok nmX0 ho_6 rfl 2 (by decide) wFX0_18 rfl rfl hnm rfl (rfl) (rfl) (by simp) (hba) dX0_init_16 (fun H_9 ho_10 hz_11 hq_12 => ?_)
  have ho_10 : ob_ G H_9 a 0 [.int so, .int la, .ref na, .null, .int 0, .int 0, .int 0] := ho_10
  have hZ : H_9.size = H.size := hz_11.trans hZ
  have hF : ∀ q, q ≠ a → H_9[q]? = H[q]? := fun q n => (hq_12 q n).trans (hF q n)
  refine xl (fun _ => lv_aload_n hx hb dX0_init_19 rfl (lv_at hl 0 rfl)) ?_
  refine xl (fun _ => lv_aload hx hb dX0_init_20 (lv_at hl 4 rfl)) ?_
  refine x_putF (ci := 0) hx hb hts hown hK wiX0 tyX0 tyX0_ok nmX0 ho_10 rfl 3 (by decide) wFX0_22 rfl rfl hnm rfl (rfl) (rfl) (by simp) (hba) dX0_init_22 (fun H_13 ho_14 hz_15 hq_16 => ?_)
  have ho_14 : ob_ G H_13 a 0 [.int so, .int la, .ref na, .ref pa, .int 0, .int 0, .int 0] := ho_14
  have hZ : H_13.size = H.size := hz_15.trans hZ
  have hF : ∀ q, q ≠ a → H_13[q]? = H[q]? := fun q n => (hq_16 q n).trans (hF q n)
  refine xl (fun _ => lv_aload_n hx hb dX0_init_25 rfl (lv_at hl 0 rfl)) ?_
  refine xl (fun _ => lv_iconst (v := 0) hx hb dX0_init_26 (by decide)) ?_
  refine x_put (ci := 0) hx hb hts hown hK wiX0 tyX0 tyX0_ok nmX0 ho_14 rfl 4 (by decide) wFX0_26 rfl rfl (rfl) (rfl) (by simp) (hba) dX0_init_27 (fun H_17 ho_18 hz_19 hq_20 => ?_)
  have ho_18 : ob_ G H_17 a 0 [.int so, .int la, .ref na, .ref pa, .int 0, .int 0, .int 0] := ho_18
  have hZ : H_17.size = H.size := hz_19.trans hZ
  have hF : ∀ q, q ≠ a → H_17[q]? = H[q]? := fun q n => (hq_20 q n).trans (hF q n)
  refine xl (fun _ => lv_aload_n hx hb dX0_init_30 rfl (lv_at hl 0 rfl)) ?_
  refine xl (fun _ => lv_iconst (v := 0) hx hb dX0_init_31 (by decide)) ?_
  refine x_put (ci := 0) hx hb hts hown hK wiX0 tyX0 tyX0_ok nmX0 ho_18 rfl 5 (by decide) wFX0_29 rfl rfl (rfl) (rfl) (by simp) (hba) dX0_init_32 (fun H_21 ho_22 hz_23 hq_24 => ?_)
  have ho_22 : ob_ G H_21 a 0 [.int so, .int la, .ref na, .ref pa, .int 0, .int 0, .int 0] := ho_22
  have hZ : H_21.size = H.size := hz_23.trans hZ
  have hF : ∀ q, q ≠ a → H_21[q]? = H[q]? := fun q n => (hq_24 q n).trans (hF q n)
  refine xl (fun _ => lv_aload_n hx hb dX0_init_35 rfl (lv_at hl 0 rfl)) ?_
  refine xl (fun _ => lv_iconst (v := 0) hx hb dX0_init_36 (by decide)) ?_
  refine x_put (ci := 0) hx hb hts hown hK wiX0 tyX0 tyX0_ok nmX0 ho_22 rfl 6 (by decide) wFX0_33 rfl rfl (rfl) (rfl) (by simp) (hba) dX0_init_37 (fun H_25 ho_26 hz_27 hq_28 => ?_)
  have ho_26 : ob_ G H_25 a 0 [.int so, .int la, .ref na, .ref pa, .int 0, .int 0, .int 0] := ho_26
  have hZ : H_25.size = H.size := hz_27.trans hZ
  have hF : ∀ q, q ≠ a → H_25[q]? = H[q]? := fun q n => (hq_28 q n).trans (hF q n)
  exact x_vret hx hb hr hlocks hs0 hbs (by decide) (by decide) dX0_init_40 (⟨rfl, ho_26, hZ, hF⟩)

set_option maxHeartbeats 4000000 in
set_option maxRecDepth 100000 in
theorem c_X0_withLabel (l : Launch) (G : sg_G) (H : Heap) (a na pa : Nat) (so la pl : Int32) (dv fc : Bool) (hO : tob G H a so la na pa pl dv fc) (nl : Int32) : xC l G yX0_withLabel cX0_withLabel 2 (some (FieldType.object "TermSpread$Term")) 2 1 7 [.ref a, .int nl] H (fun v H' => v = some (.ref H.size) ∧ tob G H' H.size so nl na pa 0 false false ∧ H'.size = H.size + 1 ∧ ∀ q, q < H.size → H'[q]? = H[q]?) := by
  refine xC.start (by decide) (Nat.le_of_ble_eq_true rfl) ?_
  intro p e s m args below meth c ls E hnm hs0 hl
  obtain ⟨hx, hb, hml, hown, hts, hr, hlocks, hK, hbs⟩ := id E
  have hl : lv_has ls 2 [(0, .ref a), (1, .int nl)] := hl
  have hBH : sg_B G ≤ H.size := by rw [← hs0]; exact hbs
  refine x_new (ci := 0) (fs := [.int 0, .int 0, .null, .null, .int 0, .int 0, .int 0]) hx hb hts hown hK wiX0 tyX0 tyX0_ok wKX0_10 wN_X0 wZ_X0 rfl (fun j hj => by rcases (show j = 0 ∨ j = 1 ∨ j = 2 ∨ j = 3 ∨ j = 4 ∨ j = 5 ∨ j = 6 by omega) with rfl | rfl | rfl | rfl | rfl | rfl | rfl <;> rfl) (by decide) (by decide) dX0_withLabel_0 (fun H_1 ho_2 hz_3 hq_4 => ?_)
  have k_5 := va_at.kept (H1 := H_1) (hO) (hq_4 _ (va_at.lt (hO)))
  refine xl (fun _ => lv_dup hx hb dX0_withLabel_3 rfl) ?_
  refine xl (fun _ => lv_aload_n hx hb dX0_withLabel_4 rfl (lv_at hl 0 rfl)) ?_
  refine x_get (ci := 0) hx hb hts hown hK wiX0 k_5 rfl 0 (by decide) wFX0_9 rfl rfl dX0_withLabel_5 ?_
  refine xl (fun _ => lv_iload_n hx hb dX0_withLabel_8 rfl (lv_at hl 1 rfl)) ?_
  refine xl (fun _ => lv_aload_n hx hb dX0_withLabel_9 rfl (lv_at hl 0 rfl)) ?_
  refine x_get (ci := 0) hx hb hts hown hK wiX0 k_5 rfl 2 (by decide) wFX0_18 rfl rfl dX0_withLabel_10 ?_
  refine xl (fun _ => lv_aload_n hx hb dX0_withLabel_13 rfl (lv_at hl 0 rfl)) ?_
  refine x_get (ci := 0) hx hb hts hown hK wiX0 k_5 rfl 3 (by decide) wFX0_22 rfl rfl dX0_withLabel_14 ?_
  refine x_callI E hl (c_X0_init l G H_1 H.size na pa so nl ho_2 (by omega)) xm_yX0_init rfl wMX0_36 wI_yX0_init (rest := [.ref H.size]) rfl (by simp [cat_rf, cat_int, cat_ref, cat_null]) (by decide) ⟨by decide, by decide⟩ dX0_withLabel_17 (fun v_6 H_7 hp_8 hz_9 hq_10 => ?_)
  obtain ⟨rfl, ht1, ht2, ht3⟩ := hp_8
  refine xg (g2 := F0 m 20 ls [.ref H.size]) rfl ?_
  exact x_aret hx hb hr hlocks hs0 hbs (Or.inr ⟨_, rfl⟩) (by decide) (by decide) dX0_withLabel_20 (⟨rfl, ht1, by omega, fun q h => (ht3 q (by omega)).trans (hq_4 q h)⟩)

set_option maxHeartbeats 4000000 in
set_option maxRecDepth 100000 in
theorem c_X0_withNumber (l : Launch) (G : sg_G) (H : Heap) (a na pa : Nat) (so la pl : Int32) (dv fc : Bool) (f : Nat → Int32) (hO : tob G H a so la na pa pl dv fc) (hN : ia_ G H na 4 f) (j : Nat) (hj : j < 4) (v : Int32) : xC l G yX0_withNumber cX0_withNumber 5 (some (FieldType.object "TermSpread$Term")) 2 2 11 [.ref a, .int (nI j), .int v] H (fun r H' => r = some (.ref (H.size + 1)) ∧ tob G H' (H.size + 1) so la H.size pa 0 false false ∧ ia_ G H' H.size 4 (upd f j v) ∧ H'.size = H.size + 2 ∧ ∀ q, q < H.size → H'[q]? = H[q]?) := by
  refine xC.start (by decide) (Nat.le_of_ble_eq_true rfl) ?_
  intro p e s m args below meth c ls E hnm hs0 hl
  obtain ⟨hx, hb, hml, hown, hts, hr, hlocks, hK, hbs⟩ := id E
  have hl : lv_has ls 5 [(0, .ref a), (1, .int (nI j)), (2, .int v)] := hl
  have hBH : sg_B G ≤ H.size := by rw [← hs0]; exact hbs
  refine xl (fun _ => lv_iconst (v := 4) hx hb dX0_withNumber_0 (by decide)) ?_
  refine x_newi (N := 4) hx hb hts hK wA_int (by decide) (by decide) (by decide) (by decide) (by decide) dX0_withNumber_1 (fun H_1 ho_2 hz_3 hq_4 => ?_)
  have k_5 := va_at.kept (H1 := H_1) (hO) (hq_4 _ (va_at.lt (hO)))
  have k_6 := va_at.kept (H1 := H_1) (hN) (hq_4 _ (va_at.lt (hN)))
  refine xs (fun _ => lv_astore_n (i := 3) (lv' := [(3, .ref H.size), (0, .ref a), (1, .int (nI j)), (2, .int v)]) hx hb dX0_withNumber_3 rfl hl (by decide) (rfl)) (fun ls hl => ?_)
  refine xl (fun _ => lv_iconst (v := 0) hx hb dX0_withNumber_4 (by decide)) ?_
  refine xs (fun _ => lv_istore (i := 4) (lv' := [(4, .int 0), (3, .ref H.size), (0, .ref a), (1, .int (nI j)), (2, .int v)]) hx hb dX0_withNumber_5 hl (by decide) (rfl)) (fun ls hl => ?_)
  have hloop : ∀ (d : Nat) (i : Nat) (Hi : Heap) (fi : Nat → Int32), i ≤ 4 → 4 < i + d → ia_ G Hi H.size 4 fi → (∀ q, q < i → fi q = upd f j v q) → Hi.size = H.size + 1 → (∀ q, q < H.size → Hi[q]? = H[q]?) → ∀ (ls : Array Slot), lv_has ls 5 [(4, .int (nI i)), (3, .ref H.size), (0, .ref a), (1, .int (nI j)), (2, .int v)] → xV p l e (xR 2 2 11) s m args below meth c G Hi 1 4 (MQ below (xQ G H (fun r H' => r = some (.ref (H.size + 1)) ∧ tob G H' (H.size + 1) so la H.size pa 0 false false ∧ ia_ G H' H.size 4 (upd f j v) ∧ H'.size = H.size + 2 ∧ ∀ q, q < H.size → H'[q]? = H[q]?)) args s 2 11 (sg_fr G)) (F0 m 7 ls []) := by
    intro d
    induction d with
    | zero =>
      intro i Hi fi h1 h2
      exact absurd h2 (by omega)
    | succ d ih =>
      intro i Hi fi hi hd hA hV hZi hQ ls hl
      have hO := va_at.kept (H1 := Hi) hO (hQ _ (va_at.lt hO))
      have hN := va_at.kept (H1 := Hi) hN (hQ _ (va_at.lt hN))
      refine xl (fun _ => lv_iload hx hb dX0_withNumber_7 (lv_at hl 0 rfl)) ?_
      refine xl (fun _ => lv_iconst (v := 4) hx hb dX0_withNumber_9 (by decide)) ?_
      refine xb (fun _ => lv_icmp_ge (tgt := 39) hx hb dX0_withNumber_10 (by decide)) (fun c_10 => ?_) (fun c_10 => ?_)
      · have e4 : i = 4 := by have := nI_le4 (n := 4) (by omega) (by decide) c_10; omega
        subst e4
        have hA := ia_to hA hV
        refine x_new (ci := 0) (fs := [.int 0, .int 0, .null, .null, .int 0, .int 0, .int 0]) hx hb hts hown hK wiX0 tyX0 tyX0_ok wKX0_10 wN_X0 wZ_X0 rfl (fun j hj => by rcases (show j = 0 ∨ j = 1 ∨ j = 2 ∨ j = 3 ∨ j = 4 ∨ j = 5 ∨ j = 6 by omega) with rfl | rfl | rfl | rfl | rfl | rfl | rfl <;> rfl) (by decide) (by decide) dX0_withNumber_39 (fun H_7 ho_8 hz_9 hq_10 => ?_)
        have k_11 := va_at.kept (H1 := H_7) (hO) (hq_10 _ (va_at.lt (hO)))
        have k_12 := va_at.kept (H1 := H_7) (hA) (hq_10 _ (va_at.lt (hA)))
        have k_13 := va_at.kept (H1 := H_7) (hN) (hq_10 _ (va_at.lt (hN)))
        have hA2 := k_12
        refine xl (fun _ => lv_dup hx hb dX0_withNumber_42 rfl) ?_
        refine xl (fun _ => lv_aload_n hx hb dX0_withNumber_43 rfl (lv_at hl 2 rfl)) ?_
        refine x_get (ci := 0) hx hb hts hown hK wiX0 k_11 rfl 0 (by decide) wFX0_9 rfl rfl dX0_withNumber_44 ?_
        refine xl (fun _ => lv_aload_n hx hb dX0_withNumber_47 rfl (lv_at hl 2 rfl)) ?_
        refine x_get (ci := 0) hx hb hts hown hK wiX0 k_11 rfl 1 (by decide) wFX0_15 rfl rfl dX0_withNumber_48 ?_
        refine xl (fun _ => lv_aload_n hx hb dX0_withNumber_51 rfl (lv_at hl 1 rfl)) ?_
        refine xl (fun _ => lv_aload_n hx hb dX0_withNumber_52 rfl (lv_at hl 2 rfl)) ?_
        refine x_get (ci := 0) hx hb hts hown hK wiX0 k_11 rfl 3 (by decide) wFX0_22 rfl rfl dX0_withNumber_53 ?_
        refine x_callI E hl (c_X0_init l G H_7 Hi.size H.size pa so la ho_8 (by omega)) xm_yX0_init rfl wMX0_36 wI_yX0_init (rest := [.ref Hi.size]) rfl (by simp [cat_rf, cat_int, cat_ref, cat_null]) (by decide) ⟨by decide, by decide⟩ dX0_withNumber_56 (fun v_14 H_15 hp_16 hz_17 hq_18 => ?_)
        obtain ⟨rfl, ht1, ht2, ht3⟩ := hp_16
        refine xg (g2 := F0 m 59 ls [.ref Hi.size]) rfl ?_
        exact x_aret hx hb hr hlocks hs0 hbs (Or.inr ⟨_, rfl⟩) (by decide) (by decide) dX0_withNumber_59 (⟨by rw [hZi], by rw [← hZi]; exact ht1, va_at.kept (H1 := H_15) hA2 (ht3 _ (by omega)), by omega, fun q h => ((ht3 q (by omega)).trans (hq_10 q (by omega))).trans (hQ q h)⟩)
      · have hi4 : i < 4 := nI_nle4 (n := 4) (by omega) (by decide) c_10
        refine xl (fun _ => lv_aload_n hx hb dX0_withNumber_13 rfl (lv_at hl 1 rfl)) ?_
        refine xl (fun _ => lv_iload hx hb dX0_withNumber_14 (lv_at hl 0 rfl)) ?_
        refine xl (fun _ => lv_iload hx hb dX0_withNumber_16 (lv_at hl 0 rfl)) ?_
        refine xl (fun _ => lv_iload_n hx hb dX0_withNumber_18 rfl (lv_at hl 3 rfl)) ?_
        refine xb (fun _ => lv_icmp_ne (tgt := 26) hx hb dX0_withNumber_19 (by decide)) (fun c_19 => ?_) (fun c_19 => ?_)
        · refine xl (fun _ => lv_aload_n hx hb dX0_withNumber_26 rfl (lv_at hl 2 rfl)) ?_
          refine xl (fun _ => lv_iload hx hb dX0_withNumber_27 (lv_at hl 0 rfl)) ?_
          refine x_callV E hl (c_X0_numberAt l G Hi a na pa so la pl dv fc f hO hN i hi4) xm_yX0_numberAt wMX0_39 wI_yX0_numberAt wT_yX0_numberAt (ci := 0) rfl rfl hO (rest := [.int (nI i), .ref H.size]) rfl (by simp [cat_rf, cat_int, cat_ref, cat_null]) (by decide) ⟨by decide, by decide⟩ dX0_withNumber_29 (x_pure (r := .int (f i)) (st1 := []) ?_)
          refine x_iast hx hb hK hA i (rfl) (by omega) (by decide) (by omega) dX0_withNumber_32 (fun H_19 ho_20 hz_21 hq_22 => ?_)
          have ho_20 : ia_ G H_19 H.size 4 (upd fi i (f i)) := ho_20
          refine xs (fun _ => lv_iinc (v := (nI (i + 1))) (lv' := [(4, .int (nI (i + 1))), (3, .ref H.size), (0, .ref a), (1, .int (nI j)), (2, .int v)]) hx hb dX0_withNumber_33 hl (k := 0) rfl (nI_1 i) (by decide) (rfl)) (fun ls hl => ?_)
          refine xl (fun _ => lv_goto (tgt := 7) hx hb dX0_withNumber_36 (by decide)) ?_
          exact ih (i + 1) H_19 _ (by omega) (by omega) ho_20 (fun q hq => by by_cases e : q = i; (subst e; rw [pk_us]; rw [pk_un (fun e => c_19 (by rw [e]))]); (rw [pk_un e]; exact hV q (by omega))) (hz_21.trans hZi) (fun q h => (hq_22 q (by omega)).trans (hQ q h)) ls (lv_sub hl [0, 1, 2, 3, 4] rfl)
        · refine xl (fun _ => lv_iload_n hx hb dX0_withNumber_22 rfl (lv_at hl 4 rfl)) ?_
          refine xl (fun _ => lv_goto (tgt := 32) hx hb dX0_withNumber_23 (by decide)) ?_
          refine x_iast hx hb hK hA i (rfl) (by omega) (by decide) (by omega) dX0_withNumber_32 (fun H_23 ho_24 hz_25 hq_26 => ?_)
          have ho_24 : ia_ G H_23 H.size 4 (upd fi i v) := ho_24
          refine xs (fun _ => lv_iinc (v := (nI (i + 1))) (lv' := [(4, .int (nI (i + 1))), (3, .ref H.size), (0, .ref a), (1, .int (nI j)), (2, .int v)]) hx hb dX0_withNumber_33 hl (k := 0) rfl (nI_1 i) (by decide) (rfl)) (fun ls hl => ?_)
          refine xl (fun _ => lv_goto (tgt := 7) hx hb dX0_withNumber_36 (by decide)) ?_
          exact ih (i + 1) H_23 _ (by omega) (by omega) ho_24 (fun q hq => by by_cases e : q = i; (subst e; rw [pk_us]; rw [(nI_eq (by omega) (by omega)).mp c_19, pk_us]); (rw [pk_un e]; exact hV q (by omega))) (hz_25.trans hZi) (fun q h => (hq_26 q (by omega)).trans (hQ q h)) ls (lv_sub hl [0, 1, 2, 3, 4] rfl)
  exact hloop 5 0 H_1 _ (by decide) (by decide) ho_2 (fun q hq => absurd hq (Nat.not_lt_zero q)) hz_3 hq_4 ls (lv_sub hl [0, 1, 2, 3, 4] rfl)

set_option maxHeartbeats 4000000 in
set_option maxRecDepth 100000 in
theorem c_X0_withPart (l : Launch) (G : sg_G) (H : Heap) (a na pa : Nat) (so la pl : Int32) (dv fc : Bool) (g : Nat → Option Nat) (hO : tob G H a so la na pa pl dv fc) (hP : ra_ G H pa 4 g) (hg : ∀ k, k < 4 → ∀ v, g k = some v → ∃ fs, ob_ G H v 0 fs) (j : Nat) (hj : j < 4) (o : Option Nat) (ho : ∀ v, o = some v → ∃ fs, ob_ G H v 0 fs) : xC l G yX0_withPart cX0_withPart 5 (some (FieldType.object "TermSpread$Term")) 2 2 11 [.ref a, .int (nI j), va_rf o] H (fun r H' => r = some (.ref (H.size + 1)) ∧ tob G H' (H.size + 1) so la na H.size 0 false false ∧ ra_ G H' H.size 4 (va_up g j o) ∧ H'.size = H.size + 2 ∧ ∀ q, q < H.size → H'[q]? = H[q]?) := by
  refine xC.start (by decide) (by simp [lg_sl, cat_rf, cat_int, cat_ref, cat_null]) ?_
  intro p e s m args below meth c ls E hnm hs0 hl
  obtain ⟨hx, hb, hml, hown, hts, hr, hlocks, hK, hbs⟩ := id E
  have hl : lv_has ls 5 [(0, .ref a), (1, .int (nI j)), (2, va_rf o)] := by simpa [lv_args, cat_rf, cat_int, cat_ref, cat_null] using hl
  have hBH : sg_B G ≤ H.size := by rw [← hs0]; exact hbs
  refine xl (fun _ => lv_iconst (v := 4) hx hb dX0_withPart_0 (by decide)) ?_
  refine x_newr (N := 4) hx hb hts hown hK wKX0_10 (by decide) (by decide) (by decide) (by decide) (by decide) dX0_withPart_1 (fun H_1 ho_2 hz_3 hq_4 => ?_)
  have k_5 := va_at.kept (H1 := H_1) (hO) (hq_4 _ (va_at.lt (hO)))
  have k_6 := va_at.kept (H1 := H_1) (hP) (hq_4 _ (va_at.lt (hP)))
  refine xs (fun _ => lv_astore_n (i := 3) (lv' := [(3, .ref H.size), (0, .ref a), (1, .int (nI j)), (2, va_rf o)]) hx hb dX0_withPart_4 rfl hl (by decide) (by simp [List.filter, cat_rf, cat_int, cat_ref, cat_null])) (fun ls hl => ?_)
  refine xl (fun _ => lv_iconst (v := 0) hx hb dX0_withPart_5 (by decide)) ?_
  refine xs (fun _ => lv_istore (i := 4) (lv' := [(4, .int 0), (3, .ref H.size), (0, .ref a), (1, .int (nI j)), (2, va_rf o)]) hx hb dX0_withPart_6 hl (by decide) (rfl)) (fun ls hl => ?_)
  have hloop : ∀ (d : Nat) (i : Nat) (Hi : Heap) (fi : Nat → Option Nat), i ≤ 4 → 4 < i + d → ra_ G Hi H.size 4 fi → (∀ q, q < i → fi q = va_up g j o q) → Hi.size = H.size + 1 → (∀ q, q < H.size → Hi[q]? = H[q]?) → ∀ (ls : Array Slot), lv_has ls 5 [(4, .int (nI i)), (3, .ref H.size), (0, .ref a), (1, .int (nI j)), (2, va_rf o)] → xV p l e (xR 2 2 11) s m args below meth c G Hi 1 4 (MQ below (xQ G H (fun r H' => r = some (.ref (H.size + 1)) ∧ tob G H' (H.size + 1) so la na H.size 0 false false ∧ ra_ G H' H.size 4 (va_up g j o) ∧ H'.size = H.size + 2 ∧ ∀ q, q < H.size → H'[q]? = H[q]?)) args s 2 11 (sg_fr G)) (F0 m 8 ls []) := by
    intro d
    induction d with
    | zero =>
      intro i Hi fi h1 h2
      exact absurd h2 (by omega)
    | succ d ih =>
      intro i Hi fi hi hd hA hV hZi hQ ls hl
      have hO := va_at.kept (H1 := Hi) hO (hQ _ (va_at.lt hO))
      have hP := va_at.kept (H1 := Hi) hP (hQ _ (va_at.lt hP))
      have hg : ∀ k, k < 4 → ∀ v, g k = some v → ∃ fs, ob_ G Hi v 0 fs := fun k hk v h => by obtain ⟨fs, hf⟩ := hg k hk v h; exact ⟨fs, va_at.kept (H1 := Hi) hf (hQ _ (va_at.lt hf))⟩
      have ho : ∀ v, o = some v → ∃ fs, ob_ G Hi v 0 fs := fun v h => by obtain ⟨fs, hf⟩ := ho v h; exact ⟨fs, va_at.kept (H1 := Hi) hf (hQ _ (va_at.lt hf))⟩
      refine xl (fun _ => lv_iload hx hb dX0_withPart_8 (lv_at hl 0 rfl)) ?_
      refine xl (fun _ => lv_iconst (v := 4) hx hb dX0_withPart_10 (by decide)) ?_
      refine xb (fun _ => lv_icmp_ge (tgt := 40) hx hb dX0_withPart_11 (by decide)) (fun c_11 => ?_) (fun c_11 => ?_)
      · have e4 : i = 4 := by have := nI_le4 (n := 4) (by omega) (by decide) c_11; omega
        subst e4
        have hA := ra_to hA hV
        refine x_new (ci := 0) (fs := [.int 0, .int 0, .null, .null, .int 0, .int 0, .int 0]) hx hb hts hown hK wiX0 tyX0 tyX0_ok wKX0_10 wN_X0 wZ_X0 rfl (fun j hj => by rcases (show j = 0 ∨ j = 1 ∨ j = 2 ∨ j = 3 ∨ j = 4 ∨ j = 5 ∨ j = 6 by omega) with rfl | rfl | rfl | rfl | rfl | rfl | rfl <;> rfl) (by decide) (by decide) dX0_withPart_40 (fun H_7 ho_8 hz_9 hq_10 => ?_)
        have k_11 := va_at.kept (H1 := H_7) (hO) (hq_10 _ (va_at.lt (hO)))
        have k_12 := va_at.kept (H1 := H_7) (hA) (hq_10 _ (va_at.lt (hA)))
        have k_13 := va_at.kept (H1 := H_7) (hP) (hq_10 _ (va_at.lt (hP)))
        have hA2 := k_12
        refine xl (fun _ => lv_dup hx hb dX0_withPart_43 rfl) ?_
        refine xl (fun _ => lv_aload_n hx hb dX0_withPart_44 rfl (lv_at hl 2 rfl)) ?_
        refine x_get (ci := 0) hx hb hts hown hK wiX0 k_11 rfl 0 (by decide) wFX0_9 rfl rfl dX0_withPart_45 ?_
        refine xl (fun _ => lv_aload_n hx hb dX0_withPart_48 rfl (lv_at hl 2 rfl)) ?_
        refine x_get (ci := 0) hx hb hts hown hK wiX0 k_11 rfl 1 (by decide) wFX0_15 rfl rfl dX0_withPart_49 ?_
        refine xl (fun _ => lv_aload_n hx hb dX0_withPart_52 rfl (lv_at hl 2 rfl)) ?_
        refine x_get (ci := 0) hx hb hts hown hK wiX0 k_11 rfl 2 (by decide) wFX0_18 rfl rfl dX0_withPart_53 ?_
        refine xl (fun _ => lv_aload_n hx hb dX0_withPart_56 rfl (lv_at hl 1 rfl)) ?_
        refine x_callI E hl (c_X0_init l G H_7 Hi.size na H.size so la ho_8 (by omega)) xm_yX0_init rfl wMX0_36 wI_yX0_init (rest := [.ref Hi.size]) rfl (by simp [cat_rf, cat_int, cat_ref, cat_null]) (by decide) ⟨by decide, by decide⟩ dX0_withPart_57 (fun v_14 H_15 hp_16 hz_17 hq_18 => ?_)
        obtain ⟨rfl, ht1, ht2, ht3⟩ := hp_16
        refine xg (g2 := F0 m 60 ls [.ref Hi.size]) rfl ?_
        exact x_aret hx hb hr hlocks hs0 hbs (Or.inr ⟨_, rfl⟩) (by decide) (by decide) dX0_withPart_60 (⟨by rw [hZi], by rw [← hZi]; exact ht1, va_at.kept (H1 := H_15) hA2 (ht3 _ (by omega)), by omega, fun q h => ((ht3 q (by omega)).trans (hq_10 q (by omega))).trans (hQ q h)⟩)
      · have hi4 : i < 4 := nI_nle4 (n := 4) (by omega) (by decide) c_11
        refine xl (fun _ => lv_aload_n hx hb dX0_withPart_14 rfl (lv_at hl 1 rfl)) ?_
        refine xl (fun _ => lv_iload hx hb dX0_withPart_15 (lv_at hl 0 rfl)) ?_
        refine xl (fun _ => lv_iload hx hb dX0_withPart_17 (lv_at hl 0 rfl)) ?_
        refine xl (fun _ => lv_iload_n hx hb dX0_withPart_19 rfl (lv_at hl 3 rfl)) ?_
        refine xb (fun _ => lv_icmp_ne (tgt := 27) hx hb dX0_withPart_20 (by decide)) (fun c_20 => ?_) (fun c_20 => ?_)
        · refine xl (fun _ => lv_aload_n hx hb dX0_withPart_27 rfl (lv_at hl 2 rfl)) ?_
          refine xl (fun _ => lv_iload hx hb dX0_withPart_28 (lv_at hl 0 rfl)) ?_
          refine x_callV E hl (c_X0_partAt l G Hi a na pa so la pl dv fc g hO hP i hi4) xm_yX0_partAt wMX0_43 wI_yX0_partAt wT_yX0_partAt (ci := 0) rfl rfl hO (rest := [.int (nI i), .ref H.size]) rfl (by simp [cat_rf, cat_int, cat_ref, cat_null]) (by decide) ⟨by decide, by decide⟩ dX0_withPart_30 (x_pure (r := va_rf (g i)) (st1 := []) ?_)
          refine x_aast (o := (g i)) hx hb hK hA (by first | exact ho | exact hg i hi4) i (rfl) (by omega) (by decide) (by omega) dX0_withPart_33 (fun H_19 ho_20 hz_21 hq_22 => ?_)
          have ho_20 : ra_ G H_19 H.size 4 (va_up fi i (g i)) := ho_20
          refine xs (fun _ => lv_iinc (v := (nI (i + 1))) (lv' := [(4, .int (nI (i + 1))), (3, .ref H.size), (0, .ref a), (1, .int (nI j)), (2, va_rf o)]) hx hb dX0_withPart_34 hl (k := 0) rfl (nI_1 i) (by decide) (rfl)) (fun ls hl => ?_)
          refine xl (fun _ => lv_goto (tgt := 8) hx hb dX0_withPart_37 (by decide)) ?_
          exact ih (i + 1) H_19 _ (by omega) (by omega) ho_20 (fun q hq => by by_cases e : q = i; (subst e; rw [va_up_self]; rw [va_up_ne _ _ (fun e => c_20 (by rw [e]))]); (rw [va_up_ne _ _ e]; exact hV q (by omega))) (hz_21.trans hZi) (fun q h => (hq_22 q (by omega)).trans (hQ q h)) ls (lv_sub hl [0, 1, 2, 3, 4] rfl)
        · refine x_aload_nq hx hb dX0_withPart_23 rfl (lv_at hl 4 rfl) ?_
          refine xl (fun _ => lv_goto (tgt := 33) hx hb dX0_withPart_24 (by decide)) ?_
          refine x_aast (o := o) hx hb hK hA (by first | exact ho | exact hg i hi4) i (rfl) (by omega) (by decide) (by omega) dX0_withPart_33 (fun H_23 ho_24 hz_25 hq_26 => ?_)
          have ho_24 : ra_ G H_23 H.size 4 (va_up fi i o) := ho_24
          refine xs (fun _ => lv_iinc (v := (nI (i + 1))) (lv' := [(4, .int (nI (i + 1))), (3, .ref H.size), (0, .ref a), (1, .int (nI j)), (2, va_rf o)]) hx hb dX0_withPart_34 hl (k := 0) rfl (nI_1 i) (by decide) (rfl)) (fun ls hl => ?_)
          refine xl (fun _ => lv_goto (tgt := 8) hx hb dX0_withPart_37 (by decide)) ?_
          exact ih (i + 1) H_23 _ (by omega) (by omega) ho_24 (fun q hq => by by_cases e : q = i; (subst e; rw [va_up_self]; rw [(nI_eq (by omega) (by omega)).mp c_20, va_up_self]); (rw [va_up_ne _ _ e]; exact hV q (by omega))) (hz_25.trans hZi) (fun q h => (hq_26 q (by omega)).trans (hQ q h)) ls (lv_sub hl [0, 1, 2, 3, 4] rfl)
  exact hloop 5 0 H_1 _ (by decide) (by decide) ho_2 (fun q hq => absurd hq (Nat.not_lt_zero q)) hz_3 hq_4 ls (lv_sub hl [0, 1, 2, 3, 4] rfl)
