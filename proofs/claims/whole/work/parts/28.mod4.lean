set_option maxHeartbeats 4000000 in
set_option maxRecDepth 100000 in
theorem c_X2_is_n (l : Launch) (G : sg_G) (H : Heap) (mb n : Nat) (so on tw th ce gi li re : Nat → Int32) (kb : Nat → Bool) (sec : Int32) (hM : sm_X G mb n so on tw th ce gi (fun i => bI (kb i)) li re sec H)  : xC l G yX2_is cX2_is 2 (some FieldType.boolean) 0 0 0 [.ref mb, .int 0] H (xPu (.int (bI true)) H) := by
  refine xC.start (by decide) (Nat.le_of_ble_eq_true rfl) ?_
  intro p e s m args below meth c ls E hnm hs0 hl
  obtain ⟨hx, hb, hml, hown, hts, hr, hlocks, hK, hbs⟩ := id E
  have hl : lv_has ls 2 [(0, .ref mb), (1, .int 0)] := hl
  obtain ⟨hm0, hmn, hX, h1, h2, h3, h4, h5, h6, h7, h8, h9⟩ := id hM
  have hF : sm_F mb H H := sm_F.rf
  refine xl (fun _ => lv_iload_n hx hb dX2_is_0 rfl (lv_at hl 1 rfl)) ?_
  refine xb (fun _ => lv_if_eq (tgt := 15) hx hb dX2_is_1 (by decide)) (fun c_1 => ?_) (fun c_1 => ?_)
  · refine xl (fun _ => lv_iconst (v := 1) hx hb dX2_is_15 (by decide)) ?_
    refine xl (fun _ => lv_goto (tgt := 20) hx hb dX2_is_16 (by decide)) ?_
    exact x_zret hx hb hr hlocks hs0 hbs (by decide) (by decide) (by decide) dX2_is_20 (pu1 rfl)
  · exact absurd rfl c_1

set_option maxHeartbeats 4000000 in
set_option maxRecDepth 100000 in
theorem c_X2_is_s (l : Launch) (G : sg_G) (H : Heap) (mb n : Nat) (so on tw th ce gi li re : Nat → Int32) (kb : Nat → Bool) (sec : Int32) (hM : sm_X G mb n so on tw th ce gi (fun i => bI (kb i)) li re sec H) (j : Nat) (hj : j < 640) : xC l G yX2_is cX2_is 2 (some FieldType.boolean) 0 0 0 [.ref mb, .int (nI (j + 1))] H (xPu (.int (bI (kb j))) H) := by
  refine xC.start (by decide) (Nat.le_of_ble_eq_true rfl) ?_
  intro p e s m args below meth c ls E hnm hs0 hl
  obtain ⟨hx, hb, hml, hown, hts, hr, hlocks, hK, hbs⟩ := id E
  have hl : lv_has ls 2 [(0, .ref mb), (1, .int (nI (j + 1)))] := hl
  obtain ⟨hm0, hmn, hX, h1, h2, h3, h4, h5, h6, h7, h8, h9⟩ := id hM
  have hF : sm_F mb H H := sm_F.rf
  refine xl (fun _ => lv_iload_n hx hb dX2_is_0 rfl (lv_at hl 1 rfl)) ?_
  refine xb (fun _ => lv_if_eq (tgt := 15) hx hb dX2_is_1 (by decide)) (fun c_1 => ?_) (fun c_1 => ?_)
  · exact absurd c_1 (nI_ne0 (by omega) (by omega))
  · refine xl (fun _ => lv_aload_n hx hb dX2_is_4 rfl (lv_at hl 0 rfl)) ?_
    refine x_get (ci := 2) hx hb hts hown hK wiX2 hX rfl 7 (by decide) wFX2_29 rfl rfl dX2_is_5 ?_
    refine xl (fun _ => lv_iload_n hx hb dX2_is_8 rfl (lv_at hl 1 rfl)) ?_
    refine xl (fun _ => lv_iconst (v := 1) hx hb dX2_is_9 (by decide)) ?_
    refine xl (fun _ => lv_isub hx hb dX2_is_10) ?_
    rw [show ((nI (j + 1)) - 1) = (nI j) from nI_pred j]
    refine x_zald hx hb hK h7 j (rfl) (by omega) (by decide) dX2_is_11 ?_
    refine xb (fun _ => lv_if_eq (tgt := 19) hx hb dX2_is_12 (by decide)) (fun c_12 => ?_) (fun c_12 => ?_)
    · have c_12 := bI_f c_12
      refine xl (fun _ => lv_iconst (v := 0) hx hb dX2_is_19 (by decide)) ?_
      exact x_zret hx hb hr hlocks hs0 hbs (by decide) (by decide) (by decide) dX2_is_20 (pu0 c_12)
    · have c_12 := bI_t c_12
      refine xl (fun _ => lv_iconst (v := 1) hx hb dX2_is_15 (by decide)) ?_
      refine xl (fun _ => lv_goto (tgt := 20) hx hb dX2_is_16 (by decide)) ?_
      exact x_zret hx hb hr hlocks hs0 hbs (by decide) (by decide) (by decide) dX2_is_20 (pu1 c_12)

theorem c_X2_is (l : Launch) (G : sg_G) (H : Heap) (mb n : Nat) (so on tw th ce gi li re : Nat → Int32) (kb : Nat → Bool) (sec : Int32) (hM : sm_X G mb n so on tw th ce gi (fun i => bI (kb i)) li re sec H) (o : Option Nat) (ho : ∀ j, o = some j → j < 640) : xC l G yX2_is cX2_is 2 (some FieldType.boolean) 0 0 0 [.ref mb, .int (px o)] H (xPu (.int (bI (sp_pi kb o))) H) := by
  cases o with
  | none => exact c_X2_is_n l G H mb n so on tw th ce gi li re kb sec hM
  | some j => exact c_X2_is_s l G H mb n so on tw th ce gi li re kb sec hM j (ho j rfl)

set_option maxHeartbeats 4000000 in
set_option maxRecDepth 100000 in
theorem c_X2_shows (l : Launch) (G : sg_G) (H : Heap) (mb n : Nat) (so on tw th ce gi li re : Nat → Int32) (kb : Nat → Bool) (sec : Int32) (hM : sm_X G mb n so on tw th ce gi (fun i => bI (kb i)) li re sec H) (t : Nat → sp_T) (rg : Nat → Option Nat) (hR : sm_R n t rg so on tw th ce re) (x : Nat) (hxn : x < n) (B : Bool) (hB : B = true ↔ sp_sh n t (sp_B kb) x) : xC l G yX2_shows cX2_shows 4 (some FieldType.boolean) 0 0 0 [.ref mb, .int (nI (x + 1))] H (xPu (.int (bI B)) H) := by
  refine xC.start (by decide) (Nat.le_of_ble_eq_true rfl) ?_
  intro p e s m args below meth c ls E hnm hs0 hl
  obtain ⟨hx, hb, hml, hown, hts, hr, hlocks, hK, hbs⟩ := id E
  have hl : lv_has ls 4 [(0, .ref mb), (1, .int (nI (x + 1)))] := hl
  obtain ⟨hm0, hmn, hX, h1, h2, h3, h4, h5, h6, h7, h8, h9⟩ := id hM
  obtain ⟨hRt, hRr, hRg, hRw⟩ := id hR
  have hF : sm_F mb H H := sm_F.rf
  refine xl (fun _ => lv_aload_n hx hb dX2_shows_0 rfl (lv_at hl 0 rfl)) ?_
  refine x_get (ci := 2) hx hb hts hown hK wiX2 hX rfl 7 (by decide) wFX2_29 rfl rfl dX2_shows_1 ?_
  refine xl (fun _ => lv_iload_n hx hb dX2_shows_4 rfl (lv_at hl 1 rfl)) ?_
  refine xl (fun _ => lv_iconst (v := 1) hx hb dX2_shows_5 (by decide)) ?_
  refine xl (fun _ => lv_isub hx hb dX2_shows_6) ?_
  rw [show ((nI (x + 1)) - 1) = (nI x) from nI_pred x]
  refine x_zald hx hb hK h7 x (rfl) (by omega) (by decide) dX2_shows_7 ?_
  refine xs (fun _ => lv_istore_n (i := 2) (lv' := [(2, .int (bI (kb x))), (0, .ref mb), (1, .int (nI (x + 1)))]) hx hb dX2_shows_8 rfl hl (by decide) (rfl)) (fun ls hl => ?_)
  refine xl (fun _ => lv_iconst (v := 0) hx hb dX2_shows_9 (by decide)) ?_
  refine xs (fun _ => lv_istore_n (i := 3) (lv' := [(3, .int 0), (2, .int (bI (kb x))), (0, .ref mb), (1, .int (nI (x + 1)))]) hx hb dX2_shows_10 rfl hl (by decide) (rfl)) (fun ls hl => ?_)
  have hloop : ∀ (d : Nat) (i : Nat) (fl : Bool), i ≤ n → n < i + d → (fl = true ↔ (kb x = true ∨ ∃ j, j < i ∧ sp_so (t j) = 2 ∧ sp_pa (t j) 0 = some x ∧ kb j = true)) → ∀ (ls : Array Slot), lv_has ls 4 [(3, .int (nI i)), (2, .int (bI fl)), (0, .ref mb), (1, .int (nI (x + 1)))] → xV p l e (xR 0 0 0) s m args below meth c G H 0 0 (MQ below (xQ G H (xPu (.int (bI B)) H)) args s 0 0 (sg_fr G)) (F0 m 11 ls []) := by
    intro d
    induction d with
    | zero =>
      intro i fl h1 h2
      exact absurd h2 (by omega)
    | succ d ih =>
      intro i fl hi hd hfl ls hl
      refine xl (fun _ => lv_iload_n hx hb dX2_shows_11 rfl (lv_at hl 0 rfl)) ?_
      refine xl (fun _ => lv_aload_n hx hb dX2_shows_12 rfl (lv_at hl 2 rfl)) ?_
      refine x_get (ci := 2) hx hb hts hown hK wiX2 hX rfl 0 (by decide) wFX2_38 rfl rfl dX2_shows_13 ?_
      refine xb (fun _ => lv_icmp_ge (tgt := 64) hx hb dX2_shows_16 (by decide)) (fun c_16 => ?_) (fun c_16 => ?_)
      · have ein : i = n := by have := nI_le4 (by omega) (by omega) c_16; omega
        rw [ein] at hfl
        have hfB : fl = B := bool_eq (hfl.trans hB.symm)
        refine xl (fun _ => lv_iload_n hx hb dX2_shows_64 rfl (lv_at hl 1 rfl)) ?_
        exact x_zret hx hb hr hlocks hs0 hbs (bI_and _) (by decide) (by decide) dX2_shows_65 (⟨by rw [hfB], rfl⟩)
      · have hin : i < n := nI_nle4 (by omega) (by omega) c_16
        refine xl (fun _ => lv_iload_n hx hb dX2_shows_19 rfl (lv_at hl 1 rfl)) ?_
        refine xb (fun _ => lv_if_ne (tgt := 64) hx hb dX2_shows_20 (by decide)) (fun c_20 => ?_) (fun c_20 => ?_)
        · have c_20 := bI_t c_20
          have hfB : fl = B := by
            rw [c_20]
            refine (hB.mpr ?_).symm
            rcases hfl.mp c_20 with z | ⟨j, z1, z2, z3, z4⟩
            · exact Or.inl z
            · exact Or.inr ⟨j, by omega, z2, z3, z4⟩
          refine xl (fun _ => lv_iload_n hx hb dX2_shows_64 rfl (lv_at hl 1 rfl)) ?_
          exact x_zret hx hb hr hlocks hs0 hbs (bI_and _) (by decide) (by decide) dX2_shows_65 (⟨by rw [hfB], rfl⟩)
        · have c_20 := bI_f c_20
          refine xl (fun _ => lv_aload_n hx hb dX2_shows_23 rfl (lv_at hl 2 rfl)) ?_
          refine x_get (ci := 2) hx hb hts hown hK wiX2 hX rfl 1 (by decide) wFX2_9 rfl rfl dX2_shows_24 ?_
          refine xl (fun _ => lv_iload_n hx hb dX2_shows_27 rfl (lv_at hl 0 rfl)) ?_
          refine x_iald hx hb hK h1 i (rfl) (by omega) (by decide) dX2_shows_28 ?_
          rw [show (so i) = (sp_so (t i)) from (hRt i hin).1]
          refine xl (fun _ => lv_iconst (v := 2) hx hb dX2_shows_29 (by decide)) ?_
          refine xb (fun _ => lv_icmp_ne (tgt := 56) hx hb dX2_shows_30 (by decide)) (fun c_30 => ?_) (fun c_30 => ?_)
          · refine xl (fun _ => lv_iconst (v := 0) hx hb dX2_shows_56 (by decide)) ?_
            refine xg (g2 := F0 m 57 ls [.int (bI false)]) rfl ?_
            have hnew : (false = true ↔ (kb x = true ∨ ∃ j, j < i + 1 ∧ sp_so (t j) = 2 ∧ sp_pa (t j) 0 = some x ∧ kb j = true)) := ⟨(fun z => by cases z), fun z => by
              exfalso
              rcases z with z | ⟨j, z1, z2, z3, z4⟩
              · rw [hfl.mpr (Or.inl z)] at c_20; cases c_20
              · by_cases e : j = i
                · subst e; exact c_30 z2
                · rw [hfl.mpr (Or.inr ⟨j, by omega, z2, z3, z4⟩)] at c_20; cases c_20⟩
            refine xs (fun _ => lv_istore_n (i := 2) (lv' := [(2, .int (bI false)), (3, .int (nI i)), (0, .ref mb), (1, .int (nI (x + 1)))]) hx hb dX2_shows_57 rfl hl (by decide) (rfl)) (fun ls hl => ?_)
            refine xs (fun _ => lv_iinc (v := (nI (i + 1))) (lv' := [(3, .int (nI (i + 1))), (2, .int (bI false)), (0, .ref mb), (1, .int (nI (x + 1)))]) hx hb dX2_shows_58 hl (k := 1) rfl (nI_1 i) (by decide) (rfl)) (fun ls hl => ?_)
            refine xl (fun _ => lv_goto (tgt := 11) hx hb dX2_shows_61 (by decide)) ?_
            exact ih (i + 1) false (by omega) (by omega) (hnew) ls (lv_sub hl [0, 1, 2, 3] rfl)
          · refine xl (fun _ => lv_aload_n hx hb dX2_shows_33 rfl (lv_at hl 2 rfl)) ?_
            refine x_get (ci := 2) hx hb hts hown hK wiX2 hX rfl 2 (by decide) wFX2_13 rfl rfl dX2_shows_34 ?_
            refine xl (fun _ => lv_iload_n hx hb dX2_shows_37 rfl (lv_at hl 0 rfl)) ?_
            refine x_iald hx hb hK h2 i (rfl) (by omega) (by decide) dX2_shows_38 ?_
            rw [show (on i) = (e1 (t i)) from (hRt i hin).2.1 (by rw [c_30]; decide)]
            refine xl (fun _ => lv_iload_n hx hb dX2_shows_39 rfl (lv_at hl 3 rfl)) ?_
            refine xb (fun _ => lv_icmp_ne (tgt := 56) hx hb dX2_shows_40 (by decide)) (fun c_40 => ?_) (fun c_40 => ?_)
            · refine xl (fun _ => lv_iconst (v := 0) hx hb dX2_shows_56 (by decide)) ?_
              refine xg (g2 := F0 m 57 ls [.int (bI false)]) rfl ?_
              have hnew : (false = true ↔ (kb x = true ∨ ∃ j, j < i + 1 ∧ sp_so (t j) = 2 ∧ sp_pa (t j) 0 = some x ∧ kb j = true)) := ⟨(fun z => by cases z), fun z => by
                exfalso
                rcases z with z | ⟨j, z1, z2, z3, z4⟩
                · rw [hfl.mpr (Or.inl z)] at c_20; cases c_20
                · by_cases e : j = i
                  · subst e; exact c_40 (by rw [(e_2 c_30).1, z3]; rfl)
                  · rw [hfl.mpr (Or.inr ⟨j, by omega, z2, z3, z4⟩)] at c_20; cases c_20⟩
              refine xs (fun _ => lv_istore_n (i := 2) (lv' := [(2, .int (bI false)), (3, .int (nI i)), (0, .ref mb), (1, .int (nI (x + 1)))]) hx hb dX2_shows_57 rfl hl (by decide) (rfl)) (fun ls hl => ?_)
              refine xs (fun _ => lv_iinc (v := (nI (i + 1))) (lv' := [(3, .int (nI (i + 1))), (2, .int (bI false)), (0, .ref mb), (1, .int (nI (x + 1)))]) hx hb dX2_shows_58 hl (k := 1) rfl (nI_1 i) (by decide) (rfl)) (fun ls hl => ?_)
              refine xl (fun _ => lv_goto (tgt := 11) hx hb dX2_shows_61 (by decide)) ?_
              exact ih (i + 1) false (by omega) (by omega) (hnew) ls (lv_sub hl [0, 1, 2, 3] rfl)
            · have hp0 : sp_pa (t i) 0 = some x := px_inj (fun j h => by have := (hRw i hin).1 0 (by omega) j h; omega) (fun j h => by cases h; omega) (by rw [← (e_2 c_30).1]; exact c_40)
              refine xl (fun _ => lv_aload_n hx hb dX2_shows_43 rfl (lv_at hl 2 rfl)) ?_
              refine x_get (ci := 2) hx hb hts hown hK wiX2 hX rfl 7 (by decide) wFX2_29 rfl rfl dX2_shows_44 ?_
              refine xl (fun _ => lv_iload_n hx hb dX2_shows_47 rfl (lv_at hl 0 rfl)) ?_
              refine x_zald hx hb hK h7 i (rfl) (by omega) (by decide) dX2_shows_48 ?_
              refine xb (fun _ => lv_if_eq (tgt := 56) hx hb dX2_shows_49 (by decide)) (fun c_49 => ?_) (fun c_49 => ?_)
              · have c_49 := bI_f c_49
                refine xl (fun _ => lv_iconst (v := 0) hx hb dX2_shows_56 (by decide)) ?_
                refine xg (g2 := F0 m 57 ls [.int (bI false)]) rfl ?_
                have hnew : (false = true ↔ (kb x = true ∨ ∃ j, j < i + 1 ∧ sp_so (t j) = 2 ∧ sp_pa (t j) 0 = some x ∧ kb j = true)) := ⟨(fun z => by cases z), fun z => by
                  exfalso
                  rcases z with z | ⟨j, z1, z2, z3, z4⟩
                  · rw [hfl.mpr (Or.inl z)] at c_20; cases c_20
                  · by_cases e : j = i
                    · subst e; rw [c_49] at z4; cases z4
                    · rw [hfl.mpr (Or.inr ⟨j, by omega, z2, z3, z4⟩)] at c_20; cases c_20⟩
                refine xs (fun _ => lv_istore_n (i := 2) (lv' := [(2, .int (bI false)), (3, .int (nI i)), (0, .ref mb), (1, .int (nI (x + 1)))]) hx hb dX2_shows_57 rfl hl (by decide) (rfl)) (fun ls hl => ?_)
                refine xs (fun _ => lv_iinc (v := (nI (i + 1))) (lv' := [(3, .int (nI (i + 1))), (2, .int (bI false)), (0, .ref mb), (1, .int (nI (x + 1)))]) hx hb dX2_shows_58 hl (k := 1) rfl (nI_1 i) (by decide) (rfl)) (fun ls hl => ?_)
                refine xl (fun _ => lv_goto (tgt := 11) hx hb dX2_shows_61 (by decide)) ?_
                exact ih (i + 1) false (by omega) (by omega) (hnew) ls (lv_sub hl [0, 1, 2, 3] rfl)
              · have c_49 := bI_t c_49
                refine xl (fun _ => lv_iconst (v := 1) hx hb dX2_shows_52 (by decide)) ?_
                refine xl (fun _ => lv_goto (tgt := 57) hx hb dX2_shows_53 (by decide)) ?_
                refine xg (g2 := F0 m 57 ls [.int (bI true)]) rfl ?_
                have hnew : (true = true ↔ (kb x = true ∨ ∃ j, j < i + 1 ∧ sp_so (t j) = 2 ∧ sp_pa (t j) 0 = some x ∧ kb j = true)) := ⟨fun _ => Or.inr ⟨i, by omega, c_30, hp0, c_49⟩, fun _ => rfl⟩
                refine xs (fun _ => lv_istore_n (i := 2) (lv' := [(2, .int (bI true)), (3, .int (nI i)), (0, .ref mb), (1, .int (nI (x + 1)))]) hx hb dX2_shows_57 rfl hl (by decide) (rfl)) (fun ls hl => ?_)
                refine xs (fun _ => lv_iinc (v := (nI (i + 1))) (lv' := [(3, .int (nI (i + 1))), (2, .int (bI true)), (0, .ref mb), (1, .int (nI (x + 1)))]) hx hb dX2_shows_58 hl (k := 1) rfl (nI_1 i) (by decide) (rfl)) (fun ls hl => ?_)
                refine xl (fun _ => lv_goto (tgt := 11) hx hb dX2_shows_61 (by decide)) ?_
                exact ih (i + 1) true (by omega) (by omega) (hnew) ls (lv_sub hl [0, 1, 2, 3] rfl)
  exact hloop (n + 1) 0 (kb x) (by omega) (by omega) ⟨fun z => Or.inl z, fun z => z.elim id (fun ⟨j, hj, _⟩ => absurd hj (Nat.not_lt_zero j))⟩ ls (lv_sub hl [0, 1, 2, 3] rfl)

set_option maxHeartbeats 4000000 in
set_option maxRecDepth 100000 in
theorem c_X2_canMake (l : Launch) (G : sg_G) (H : Heap) (mb n : Nat) (so on tw th ce gi li re : Nat → Int32) (kb : Nat → Bool) (sec : Int32) (hM : sm_X G mb n so on tw th ce gi (fun i => bI (kb i)) li re sec H) (t : Nat → sp_T) (rg : Nat → Option Nat) (hR : sm_R n t rg so on tw th ce re) (i : Nat) (hi : i < n) : xC l G yX2_canMake cX2_canMake 4 (some FieldType.boolean) 1 0 0 [.ref mb, .int (nI i)] H (xPu (.int (bI (mkB n t kb i))) H) := by
  refine xC.start (by decide) (Nat.le_of_ble_eq_true rfl) ?_
  intro p e s m args below meth c ls E hnm hs0 hl
  obtain ⟨hx, hb, hml, hown, hts, hr, hlocks, hK, hbs⟩ := id E
  have hl : lv_has ls 4 [(0, .ref mb), (1, .int (nI i))] := hl
  obtain ⟨hm0, hmn, hX, h1, h2, h3, h4, h5, h6, h7, h8, h9⟩ := id hM
  obtain ⟨hRt, hRr, hRg, hRw⟩ := id hR
  have hF : sm_F mb H H := sm_F.rf
  obtain ⟨q1, q2, q3, q4, q5⟩ := hRt i hi
  refine xl (fun _ => lv_aload_n hx hb dX2_canMake_0 rfl (lv_at hl 0 rfl)) ?_
  refine x_get (ci := 2) hx hb hts hown hK wiX2 hX rfl 1 (by decide) wFX2_9 rfl rfl dX2_canMake_1 ?_
  refine xl (fun _ => lv_iload_n hx hb dX2_canMake_4 rfl (lv_at hl 1 rfl)) ?_
  refine x_iald hx hb hK h1 i (rfl) (by omega) (by decide) dX2_canMake_5 ?_
  rw [show (so i) = (sp_so (t i)) from q1]
  refine xl (fun _ => lv_iconst (v := 2) hx hb dX2_canMake_6 (by decide)) ?_
  refine xb (fun _ => lv_icmp_ne (tgt := 21) hx hb dX2_canMake_7 (by decide)) (fun c_7 => ?_) (fun c_7 => ?_)
  · refine xl (fun _ => lv_aload_n hx hb dX2_canMake_21 rfl (lv_at hl 0 rfl)) ?_
    refine x_get (ci := 2) hx hb hts hown hK wiX2 hX rfl 1 (by decide) wFX2_9 rfl rfl dX2_canMake_22 ?_
    refine xl (fun _ => lv_iload_n hx hb dX2_canMake_25 rfl (lv_at hl 1 rfl)) ?_
    refine x_iald hx hb hK h1 i (rfl) (by omega) (by decide) dX2_canMake_26 ?_
    rw [show (so i) = (sp_so (t i)) from q1]
    refine xl (fun _ => lv_iconst (v := 3) hx hb dX2_canMake_27 (by decide)) ?_
    refine xb (fun _ => lv_icmp_ne (tgt := 89) hx hb dX2_canMake_28 (by decide)) (fun c_28 => ?_) (fun c_28 => ?_)
    · refine xl (fun _ => lv_aload_n hx hb dX2_canMake_89 rfl (lv_at hl 0 rfl)) ?_
      refine x_get (ci := 2) hx hb hts hown hK wiX2 hX rfl 1 (by decide) wFX2_9 rfl rfl dX2_canMake_90 ?_
      refine xl (fun _ => lv_iload_n hx hb dX2_canMake_93 rfl (lv_at hl 1 rfl)) ?_
      refine x_iald hx hb hK h1 i (rfl) (by omega) (by decide) dX2_canMake_94 ?_
      rw [show (so i) = (sp_so (t i)) from q1]
      refine xl (fun _ => lv_iconst (v := 4) hx hb dX2_canMake_95 (by decide)) ?_
      refine xb (fun _ => lv_icmp_ne (tgt := 131) hx hb dX2_canMake_96 (by decide)) (fun c_96 => ?_) (fun c_96 => ?_)
      · refine xl (fun _ => lv_aload_n hx hb dX2_canMake_131 rfl (lv_at hl 0 rfl)) ?_
        refine x_get (ci := 2) hx hb hts hown hK wiX2 hX rfl 1 (by decide) wFX2_9 rfl rfl dX2_canMake_132 ?_
        refine xl (fun _ => lv_iload_n hx hb dX2_canMake_135 rfl (lv_at hl 1 rfl)) ?_
        refine x_iald hx hb hK h1 i (rfl) (by omega) (by decide) dX2_canMake_136 ?_
        rw [show (so i) = (sp_so (t i)) from q1]
        refine xl (fun _ => lv_iconst (v := 5) hx hb dX2_canMake_137 (by decide)) ?_
        refine xb (fun _ => lv_icmp_ne (tgt := 186) hx hb dX2_canMake_138 (by decide)) (fun c_138 => ?_) (fun c_138 => ?_)
        · refine xl (fun _ => lv_aload_n hx hb dX2_canMake_186 rfl (lv_at hl 0 rfl)) ?_
          refine x_get (ci := 2) hx hb hts hown hK wiX2 hX rfl 1 (by decide) wFX2_9 rfl rfl dX2_canMake_187 ?_
          refine xl (fun _ => lv_iload_n hx hb dX2_canMake_190 rfl (lv_at hl 1 rfl)) ?_
          refine x_iald hx hb hK h1 i (rfl) (by omega) (by decide) dX2_canMake_191 ?_
          rw [show (so i) = (sp_so (t i)) from q1]
          refine xl (fun _ => lv_bipush (v := 6) hx hb dX2_canMake_192 (by decide)) ?_
          refine xb (fun _ => lv_icmp_ne (tgt := 229) hx hb dX2_canMake_194 (by decide)) (fun c_194 => ?_) (fun c_194 => ?_)
          · refine xl (fun _ => lv_aload_n hx hb dX2_canMake_229 rfl (lv_at hl 0 rfl)) ?_
            refine x_get (ci := 2) hx hb hts hown hK wiX2 hX rfl 1 (by decide) wFX2_9 rfl rfl dX2_canMake_230 ?_
            refine xl (fun _ => lv_iload_n hx hb dX2_canMake_233 rfl (lv_at hl 1 rfl)) ?_
            refine x_iald hx hb hK h1 i (rfl) (by omega) (by decide) dX2_canMake_234 ?_
            rw [show (so i) = (sp_so (t i)) from q1]
            refine xl (fun _ => lv_bipush (v := 7) hx hb dX2_canMake_235 (by decide)) ?_
            refine xb (fun _ => lv_icmp_ne (tgt := 244) hx hb dX2_canMake_237 (by decide)) (fun c_237 => ?_) (fun c_237 => ?_)
            · refine xl (fun _ => lv_iconst (v := 0) hx hb dX2_canMake_244 (by decide)) ?_
              refine xg (g2 := F0 m 245 ls [.int (bI false)]) rfl ?_
              refine xs (fun _ => lv_istore_n (i := 2) (lv' := [(2, .int (bI false)), (0, .ref mb), (1, .int (nI i))]) hx hb dX2_canMake_245 rfl hl (by decide) (rfl)) (fun ls hl => ?_)
              refine xl (fun _ => lv_iconst (v := 4) hx hb dX2_canMake_246 (by decide)) ?_
              refine xs (fun _ => lv_istore_n (i := 3) (lv' := [(3, .int 4), (2, .int (bI false)), (0, .ref mb), (1, .int (nI i))]) hx hb dX2_canMake_247 rfl hl (by decide) (rfl)) (fun ls hl => ?_)
              have hloop : ∀ (d : Nat) (q : Nat) (al : Bool), q ≤ 4 → 4 < q + d → (al = true ↔ (sp_so (t i) = 7 ∧ ∀ x, x < q → sp_pi kb (sp_pa (t i) x) = true)) → ∀ (ls : Array Slot), lv_has ls 4 [(3, .int (nI (4 + q))), (2, .int (bI al)), (0, .ref mb), (1, .int (nI i))] → xV p l e (xR 1 0 0) s m args below meth c G H 0 0 (MQ below (xQ G H (xPu (.int (bI (mkB n t kb i))) H)) args s 0 0 (sg_fr G)) (F0 m 248 ls []) := by
                intro d
                induction d with
                | zero =>
                  intro q al h1 h2
                  exact absurd h2 (by omega)
                | succ d ih =>
                  intro q al hq4 hd hal ls hl
                  refine xl (fun _ => lv_iload_n hx hb dX2_canMake_248 rfl (lv_at hl 0 rfl)) ?_
                  refine xl (fun _ => lv_bipush (v := 8) hx hb dX2_canMake_249 (by decide)) ?_
                  refine xb (fun _ => lv_icmp_ge (tgt := 288) hx hb dX2_canMake_251 (by decide)) (fun c_251 => ?_) (fun c_251 => ?_)
                  · have eq4 : q = 4 := by have := nI_le4 (n := 8) (i := 4 + q) (by omega) (by decide) c_251; omega
                    rw [eq4] at hal
                    have hal2 : al = mkB n t kb i := bool_eq (hal.trans (mk_7 (hRw i hi) c_7 c_28 c_96 c_138 c_194).symm)
                    refine xl (fun _ => lv_iload_n hx hb dX2_canMake_288 rfl (lv_at hl 1 rfl)) ?_
                    exact x_zret hx hb hr hlocks hs0 hbs (bI_and _) (by decide) (by decide) dX2_canMake_289 (⟨by rw [hal2], rfl⟩)
                  · have hq3 : q < 4 := by have := nI_nle4 (n := 8) (i := 4 + q) (by omega) (by decide) c_251; omega
                    refine xl (fun _ => lv_iload_n hx hb dX2_canMake_254 rfl (lv_at hl 1 rfl)) ?_
                    refine xb (fun _ => lv_if_eq (tgt := 280) hx hb dX2_canMake_255 (by decide)) (fun c_255 => ?_) (fun c_255 => ?_)
                    · have c_255 := bI_f c_255
                      refine xl (fun _ => lv_iconst (v := 0) hx hb dX2_canMake_280 (by decide)) ?_
                      refine xg (g2 := F0 m 281 ls [.int (bI false)]) rfl ?_
                      refine xs (fun _ => lv_istore_n (i := 2) (lv' := [(2, .int (bI false)), (3, .int (nI (4 + q))), (0, .ref mb), (1, .int (nI i))]) hx hb dX2_canMake_281 rfl hl (by decide) (rfl)) (fun ls hl => ?_)
                      refine xs (fun _ => lv_iinc (v := (nI (4 + (q + 1)))) (lv' := [(3, .int (nI (4 + (q + 1)))), (2, .int (bI false)), (0, .ref mb), (1, .int (nI i))]) hx hb dX2_canMake_282 hl (k := 1) rfl (nI_1 _) (by decide) (rfl)) (fun ls hl => ?_)
                      refine xl (fun _ => lv_goto (tgt := 248) hx hb dX2_canMake_285 (by decide)) ?_
                      exact ih (q + 1) false (by omega) (by omega) (⟨(fun z => by cases z), fun z => by rw [hal.mpr ⟨z.1, fun x hx => z.2 x (by omega)⟩] at c_255; cases c_255⟩) ls (lv_sub hl [0, 1, 2, 3] rfl)
                    · have c_255 := bI_t c_255
                      refine xl (fun _ => lv_aload_n hx hb dX2_canMake_258 rfl (lv_at hl 2 rfl)) ?_
                      refine xl (fun _ => lv_aload_n hx hb dX2_canMake_259 rfl (lv_at hl 2 rfl)) ?_
                      refine x_get (ci := 2) hx hb hts hown hK wiX2 hX rfl 5 (by decide) wFX2_22 rfl rfl dX2_canMake_260 ?_
                      refine xl (fun _ => lv_bipush (v := 8) hx hb dX2_canMake_263 (by decide)) ?_
                      refine xl (fun _ => lv_iload_n hx hb dX2_canMake_265 rfl (lv_at hl 3 rfl)) ?_
                      refine xl (fun _ => lv_imul hx hb dX2_canMake_266) ?_
                      rw [show (8 * (nI i)) = (nI (8 * i)) from pk_mul 8 i]
                      refine xl (fun _ => lv_iload_n hx hb dX2_canMake_267 rfl (lv_at hl 0 rfl)) ?_
                      refine xl (fun _ => lv_iadd hx hb dX2_canMake_268) ?_
                      rw [show ((nI (8 * i)) + (nI (4 + q))) = (nI (8 * i + (4 + q))) from nI_add _ _]
                      refine x_iald hx hb hK h5 (8 * i + (4 + q)) (rfl) (by omega) (by decide) dX2_canMake_269 ?_
                      rw [show (ce (8 * i + (4 + q))) = (px (sp_pa (t i) q)) from (q5 (4 + q) (by omega)).trans (e8_7p (hal.mp c_255).1 q)]
                      refine x_callV E hl (c_X2_is l G H mb n _ _ _ _ _ _ _ _ _ _ ⟨hm0, hmn, hX, h1, h2, h3, h4, h5, h6, h7, h8, h9⟩ (sp_pa (t i) q) (fun j e => by have := (hRw i hi).1 q hq3 j e; omega)) xm_yX2_is wMX2_76 wI_yX2_is wT_yX2_is (ci := 2) rfl rfl hX (rest := []) rfl (by decide) (by decide) ⟨by decide, by decide⟩ dX2_canMake_270 (x_pure (r := .int (bI (sp_pi kb (sp_pa (t i) q)))) (st1 := []) ?_)
                      refine xb (fun _ => lv_if_eq (tgt := 280) hx hb dX2_canMake_273 (by decide)) (fun c_273 => ?_) (fun c_273 => ?_)
                      · have c_273 := bI_f c_273
                        refine xl (fun _ => lv_iconst (v := 0) hx hb dX2_canMake_280 (by decide)) ?_
                        refine xg (g2 := F0 m 281 ls [.int (bI false)]) rfl ?_
                        refine xs (fun _ => lv_istore_n (i := 2) (lv' := [(2, .int (bI false)), (3, .int (nI (4 + q))), (0, .ref mb), (1, .int (nI i))]) hx hb dX2_canMake_281 rfl hl (by decide) (rfl)) (fun ls hl => ?_)
                        refine xs (fun _ => lv_iinc (v := (nI (4 + (q + 1)))) (lv' := [(3, .int (nI (4 + (q + 1)))), (2, .int (bI false)), (0, .ref mb), (1, .int (nI i))]) hx hb dX2_canMake_282 hl (k := 1) rfl (nI_1 _) (by decide) (rfl)) (fun ls hl => ?_)
                        refine xl (fun _ => lv_goto (tgt := 248) hx hb dX2_canMake_285 (by decide)) ?_
                        exact ih (q + 1) false (by omega) (by omega) (⟨(fun z => by cases z), fun z => by rw [z.2 q (by omega)] at c_273; cases c_273⟩) ls (lv_sub hl [0, 1, 2, 3] rfl)
                      · have c_273 := bI_t c_273
                        refine xl (fun _ => lv_iconst (v := 1) hx hb dX2_canMake_276 (by decide)) ?_
                        refine xl (fun _ => lv_goto (tgt := 281) hx hb dX2_canMake_277 (by decide)) ?_
                        refine xg (g2 := F0 m 281 ls [.int (bI true)]) rfl ?_
                        refine xs (fun _ => lv_istore_n (i := 2) (lv' := [(2, .int (bI true)), (3, .int (nI (4 + q))), (0, .ref mb), (1, .int (nI i))]) hx hb dX2_canMake_281 rfl hl (by decide) (rfl)) (fun ls hl => ?_)
                        refine xs (fun _ => lv_iinc (v := (nI (4 + (q + 1)))) (lv' := [(3, .int (nI (4 + (q + 1)))), (2, .int (bI true)), (0, .ref mb), (1, .int (nI i))]) hx hb dX2_canMake_282 hl (k := 1) rfl (nI_1 _) (by decide) (rfl)) (fun ls hl => ?_)
                        refine xl (fun _ => lv_goto (tgt := 248) hx hb dX2_canMake_285 (by decide)) ?_
                        exact ih (q + 1) true (by omega) (by omega) (⟨fun _ => ⟨(hal.mp c_255).1, fun x hx => by by_cases e : x = q; (rw [e]; exact c_273); exact (hal.mp c_255).2 x (by omega)⟩, fun _ => rfl⟩) ls (lv_sub hl [0, 1, 2, 3] rfl)
              exact hloop 5 0 false (by decide) (by decide) (⟨(fun z => by cases z), fun z => absurd z.1 c_237⟩) ls (lv_sub hl [0, 1, 2, 3] rfl)
            · refine xl (fun _ => lv_iconst (v := 1) hx hb dX2_canMake_240 (by decide)) ?_
              refine xl (fun _ => lv_goto (tgt := 245) hx hb dX2_canMake_241 (by decide)) ?_
              refine xg (g2 := F0 m 245 ls [.int (bI true)]) rfl ?_
              refine xs (fun _ => lv_istore_n (i := 2) (lv' := [(2, .int (bI true)), (0, .ref mb), (1, .int (nI i))]) hx hb dX2_canMake_245 rfl hl (by decide) (rfl)) (fun ls hl => ?_)
              refine xl (fun _ => lv_iconst (v := 4) hx hb dX2_canMake_246 (by decide)) ?_
              refine xs (fun _ => lv_istore_n (i := 3) (lv' := [(3, .int 4), (2, .int (bI true)), (0, .ref mb), (1, .int (nI i))]) hx hb dX2_canMake_247 rfl hl (by decide) (rfl)) (fun ls hl => ?_)
              have hloop : ∀ (d : Nat) (q : Nat) (al : Bool), q ≤ 4 → 4 < q + d → (al = true ↔ (sp_so (t i) = 7 ∧ ∀ x, x < q → sp_pi kb (sp_pa (t i) x) = true)) → ∀ (ls : Array Slot), lv_has ls 4 [(3, .int (nI (4 + q))), (2, .int (bI al)), (0, .ref mb), (1, .int (nI i))] → xV p l e (xR 1 0 0) s m args below meth c G H 0 0 (MQ below (xQ G H (xPu (.int (bI (mkB n t kb i))) H)) args s 0 0 (sg_fr G)) (F0 m 248 ls []) := by
                intro d
                induction d with
                | zero =>
                  intro q al h1 h2
                  exact absurd h2 (by omega)
                | succ d ih =>
                  intro q al hq4 hd hal ls hl
                  refine xl (fun _ => lv_iload_n hx hb dX2_canMake_248 rfl (lv_at hl 0 rfl)) ?_
                  refine xl (fun _ => lv_bipush (v := 8) hx hb dX2_canMake_249 (by decide)) ?_
                  refine xb (fun _ => lv_icmp_ge (tgt := 288) hx hb dX2_canMake_251 (by decide)) (fun c_251 => ?_) (fun c_251 => ?_)
                  · have eq4 : q = 4 := by have := nI_le4 (n := 8) (i := 4 + q) (by omega) (by decide) c_251; omega
                    rw [eq4] at hal
                    have hal2 : al = mkB n t kb i := bool_eq (hal.trans (mk_7 (hRw i hi) c_7 c_28 c_96 c_138 c_194).symm)
                    refine xl (fun _ => lv_iload_n hx hb dX2_canMake_288 rfl (lv_at hl 1 rfl)) ?_
                    exact x_zret hx hb hr hlocks hs0 hbs (bI_and _) (by decide) (by decide) dX2_canMake_289 (⟨by rw [hal2], rfl⟩)
                  · have hq3 : q < 4 := by have := nI_nle4 (n := 8) (i := 4 + q) (by omega) (by decide) c_251; omega
                    refine xl (fun _ => lv_iload_n hx hb dX2_canMake_254 rfl (lv_at hl 1 rfl)) ?_
                    refine xb (fun _ => lv_if_eq (tgt := 280) hx hb dX2_canMake_255 (by decide)) (fun c_255 => ?_) (fun c_255 => ?_)
                    · have c_255 := bI_f c_255
                      refine xl (fun _ => lv_iconst (v := 0) hx hb dX2_canMake_280 (by decide)) ?_
                      refine xg (g2 := F0 m 281 ls [.int (bI false)]) rfl ?_
                      refine xs (fun _ => lv_istore_n (i := 2) (lv' := [(2, .int (bI false)), (3, .int (nI (4 + q))), (0, .ref mb), (1, .int (nI i))]) hx hb dX2_canMake_281 rfl hl (by decide) (rfl)) (fun ls hl => ?_)
                      refine xs (fun _ => lv_iinc (v := (nI (4 + (q + 1)))) (lv' := [(3, .int (nI (4 + (q + 1)))), (2, .int (bI false)), (0, .ref mb), (1, .int (nI i))]) hx hb dX2_canMake_282 hl (k := 1) rfl (nI_1 _) (by decide) (rfl)) (fun ls hl => ?_)
                      refine xl (fun _ => lv_goto (tgt := 248) hx hb dX2_canMake_285 (by decide)) ?_
                      exact ih (q + 1) false (by omega) (by omega) (⟨(fun z => by cases z), fun z => by rw [hal.mpr ⟨z.1, fun x hx => z.2 x (by omega)⟩] at c_255; cases c_255⟩) ls (lv_sub hl [0, 1, 2, 3] rfl)
                    · have c_255 := bI_t c_255
                      refine xl (fun _ => lv_aload_n hx hb dX2_canMake_258 rfl (lv_at hl 2 rfl)) ?_
                      refine xl (fun _ => lv_aload_n hx hb dX2_canMake_259 rfl (lv_at hl 2 rfl)) ?_
                      refine x_get (ci := 2) hx hb hts hown hK wiX2 hX rfl 5 (by decide) wFX2_22 rfl rfl dX2_canMake_260 ?_
                      refine xl (fun _ => lv_bipush (v := 8) hx hb dX2_canMake_263 (by decide)) ?_
                      refine xl (fun _ => lv_iload_n hx hb dX2_canMake_265 rfl (lv_at hl 3 rfl)) ?_
                      refine xl (fun _ => lv_imul hx hb dX2_canMake_266) ?_
                      rw [show (8 * (nI i)) = (nI (8 * i)) from pk_mul 8 i]
                      refine xl (fun _ => lv_iload_n hx hb dX2_canMake_267 rfl (lv_at hl 0 rfl)) ?_
                      refine xl (fun _ => lv_iadd hx hb dX2_canMake_268) ?_
                      rw [show ((nI (8 * i)) + (nI (4 + q))) = (nI (8 * i + (4 + q))) from nI_add _ _]
                      refine x_iald hx hb hK h5 (8 * i + (4 + q)) (rfl) (by omega) (by decide) dX2_canMake_269 ?_
                      rw [show (ce (8 * i + (4 + q))) = (px (sp_pa (t i) q)) from (q5 (4 + q) (by omega)).trans (e8_7p (hal.mp c_255).1 q)]
                      refine x_callV E hl (c_X2_is l G H mb n _ _ _ _ _ _ _ _ _ _ ⟨hm0, hmn, hX, h1, h2, h3, h4, h5, h6, h7, h8, h9⟩ (sp_pa (t i) q) (fun j e => by have := (hRw i hi).1 q hq3 j e; omega)) xm_yX2_is wMX2_76 wI_yX2_is wT_yX2_is (ci := 2) rfl rfl hX (rest := []) rfl (by decide) (by decide) ⟨by decide, by decide⟩ dX2_canMake_270 (x_pure (r := .int (bI (sp_pi kb (sp_pa (t i) q)))) (st1 := []) ?_)
                      refine xb (fun _ => lv_if_eq (tgt := 280) hx hb dX2_canMake_273 (by decide)) (fun c_273 => ?_) (fun c_273 => ?_)
                      · have c_273 := bI_f c_273
                        refine xl (fun _ => lv_iconst (v := 0) hx hb dX2_canMake_280 (by decide)) ?_
                        refine xg (g2 := F0 m 281 ls [.int (bI false)]) rfl ?_
                        refine xs (fun _ => lv_istore_n (i := 2) (lv' := [(2, .int (bI false)), (3, .int (nI (4 + q))), (0, .ref mb), (1, .int (nI i))]) hx hb dX2_canMake_281 rfl hl (by decide) (rfl)) (fun ls hl => ?_)
                        refine xs (fun _ => lv_iinc (v := (nI (4 + (q + 1)))) (lv' := [(3, .int (nI (4 + (q + 1)))), (2, .int (bI false)), (0, .ref mb), (1, .int (nI i))]) hx hb dX2_canMake_282 hl (k := 1) rfl (nI_1 _) (by decide) (rfl)) (fun ls hl => ?_)
                        refine xl (fun _ => lv_goto (tgt := 248) hx hb dX2_canMake_285 (by decide)) ?_
                        exact ih (q + 1) false (by omega) (by omega) (⟨(fun z => by cases z), fun z => by rw [z.2 q (by omega)] at c_273; cases c_273⟩) ls (lv_sub hl [0, 1, 2, 3] rfl)
                      · have c_273 := bI_t c_273
                        refine xl (fun _ => lv_iconst (v := 1) hx hb dX2_canMake_276 (by decide)) ?_
                        refine xl (fun _ => lv_goto (tgt := 281) hx hb dX2_canMake_277 (by decide)) ?_
                        refine xg (g2 := F0 m 281 ls [.int (bI true)]) rfl ?_
                        refine xs (fun _ => lv_istore_n (i := 2) (lv' := [(2, .int (bI true)), (3, .int (nI (4 + q))), (0, .ref mb), (1, .int (nI i))]) hx hb dX2_canMake_281 rfl hl (by decide) (rfl)) (fun ls hl => ?_)
                        refine xs (fun _ => lv_iinc (v := (nI (4 + (q + 1)))) (lv' := [(3, .int (nI (4 + (q + 1)))), (2, .int (bI true)), (0, .ref mb), (1, .int (nI i))]) hx hb dX2_canMake_282 hl (k := 1) rfl (nI_1 _) (by decide) (rfl)) (fun ls hl => ?_)
                        refine xl (fun _ => lv_goto (tgt := 248) hx hb dX2_canMake_285 (by decide)) ?_
                        exact ih (q + 1) true (by omega) (by omega) (⟨fun _ => ⟨(hal.mp c_255).1, fun x hx => by by_cases e : x = q; (rw [e]; exact c_273); exact (hal.mp c_255).2 x (by omega)⟩, fun _ => rfl⟩) ls (lv_sub hl [0, 1, 2, 3] rfl)
              exact hloop 5 0 true (by decide) (by decide) (⟨fun _ => ⟨c_237, fun x hx => absurd hx (Nat.not_lt_zero x)⟩, fun _ => rfl⟩) ls (lv_sub hl [0, 1, 2, 3] rfl)
          · refine xl (fun _ => lv_aload_n hx hb dX2_canMake_197 rfl (lv_at hl 0 rfl)) ?_
            refine xl (fun _ => lv_aload_n hx hb dX2_canMake_198 rfl (lv_at hl 0 rfl)) ?_
            refine x_get (ci := 2) hx hb hts hown hK wiX2 hX rfl 2 (by decide) wFX2_13 rfl rfl dX2_canMake_199 ?_
            refine xl (fun _ => lv_iload_n hx hb dX2_canMake_202 rfl (lv_at hl 1 rfl)) ?_
            refine x_iald hx hb hK h2 i (rfl) (by omega) (by decide) dX2_canMake_203 ?_
            rw [show (on i) = (px (sp_pa (t i) 0)) from (q2 (by rw [c_194]; decide)).trans (e_6 c_194).1]
            refine x_callV E hl (c_X2_is l G H mb n _ _ _ _ _ _ _ _ _ _ ⟨hm0, hmn, hX, h1, h2, h3, h4, h5, h6, h7, h8, h9⟩ (sp_pa (t i) 0) (fun j e => by have := (hRw i hi).1 0 (by omega) j e; omega)) xm_yX2_is wMX2_76 wI_yX2_is wT_yX2_is (ci := 2) rfl rfl hX (rest := []) rfl (by decide) (by decide) ⟨by decide, by decide⟩ dX2_canMake_204 (x_pure (r := .int (bI (sp_pi kb (sp_pa (t i) 0)))) (st1 := []) ?_)
            refine xb (fun _ => lv_if_eq (tgt := 227) hx hb dX2_canMake_207 (by decide)) (fun c_207 => ?_) (fun c_207 => ?_)
            · have c_207 := bI_f c_207
              refine xl (fun _ => lv_iconst (v := 0) hx hb dX2_canMake_227 (by decide)) ?_
              exact x_zret hx hb hr hlocks hs0 hbs (by decide) (by decide) (by decide) dX2_canMake_228 (pu0 (by rw [mk_6 (hRw i hi) c_194]; simp [c_207]))
            · have c_207 := bI_t c_207
              refine xl (fun _ => lv_aload_n hx hb dX2_canMake_210 rfl (lv_at hl 0 rfl)) ?_
              refine xl (fun _ => lv_aload_n hx hb dX2_canMake_211 rfl (lv_at hl 0 rfl)) ?_
              refine x_get (ci := 2) hx hb hts hown hK wiX2 hX rfl 3 (by decide) wFX2_16 rfl rfl dX2_canMake_212 ?_
              refine xl (fun _ => lv_iload_n hx hb dX2_canMake_215 rfl (lv_at hl 1 rfl)) ?_
              refine x_iald hx hb hK h3 i (rfl) (by omega) (by decide) dX2_canMake_216 ?_
              rw [show (tw i) = (px (sp_pa (t i) 1)) from (q3).trans (e_6 c_194).2.1]
              refine x_callV E hl (c_X2_is l G H mb n _ _ _ _ _ _ _ _ _ _ ⟨hm0, hmn, hX, h1, h2, h3, h4, h5, h6, h7, h8, h9⟩ (sp_pa (t i) 1) (fun j e => by have := (hRw i hi).1 1 (by omega) j e; omega)) xm_yX2_is wMX2_76 wI_yX2_is wT_yX2_is (ci := 2) rfl rfl hX (rest := []) rfl (by decide) (by decide) ⟨by decide, by decide⟩ dX2_canMake_217 (x_pure (r := .int (bI (sp_pi kb (sp_pa (t i) 1)))) (st1 := []) ?_)
              refine xb (fun _ => lv_if_eq (tgt := 227) hx hb dX2_canMake_220 (by decide)) (fun c_220 => ?_) (fun c_220 => ?_)
              · have c_220 := bI_f c_220
                refine xl (fun _ => lv_iconst (v := 0) hx hb dX2_canMake_227 (by decide)) ?_
                exact x_zret hx hb hr hlocks hs0 hbs (by decide) (by decide) (by decide) dX2_canMake_228 (pu0 (by rw [mk_6 (hRw i hi) c_194]; simp [c_207, c_220]))
              · have c_220 := bI_t c_220
                refine xl (fun _ => lv_iconst (v := 1) hx hb dX2_canMake_223 (by decide)) ?_
                refine xl (fun _ => lv_goto (tgt := 228) hx hb dX2_canMake_224 (by decide)) ?_
                exact x_zret hx hb hr hlocks hs0 hbs (by decide) (by decide) (by decide) dX2_canMake_228 (pu1 (by rw [mk_6 (hRw i hi) c_194]; simp [c_207, c_220]))
        · refine xl (fun _ => lv_aload_n hx hb dX2_canMake_141 rfl (lv_at hl 0 rfl)) ?_
          refine xl (fun _ => lv_aload_n hx hb dX2_canMake_142 rfl (lv_at hl 0 rfl)) ?_
          refine x_get (ci := 2) hx hb hts hown hK wiX2 hX rfl 2 (by decide) wFX2_13 rfl rfl dX2_canMake_143 ?_
          refine xl (fun _ => lv_iload_n hx hb dX2_canMake_146 rfl (lv_at hl 1 rfl)) ?_
          refine x_iald hx hb hK h2 i (rfl) (by omega) (by decide) dX2_canMake_147 ?_
          rw [show (on i) = (px (sp_pa (t i) 0)) from (q2 (by rw [c_138]; decide)).trans (e_5 c_138).1]
          refine x_callV E hl (c_X2_is l G H mb n _ _ _ _ _ _ _ _ _ _ ⟨hm0, hmn, hX, h1, h2, h3, h4, h5, h6, h7, h8, h9⟩ (sp_pa (t i) 0) (fun j e => by have := (hRw i hi).1 0 (by omega) j e; omega)) xm_yX2_is wMX2_76 wI_yX2_is wT_yX2_is (ci := 2) rfl rfl hX (rest := []) rfl (by decide) (by decide) ⟨by decide, by decide⟩ dX2_canMake_148 (x_pure (r := .int (bI (sp_pi kb (sp_pa (t i) 0)))) (st1 := []) ?_)
          refine xb (fun _ => lv_if_eq (tgt := 184) hx hb dX2_canMake_151 (by decide)) (fun c_151 => ?_) (fun c_151 => ?_)
          · have c_151 := bI_f c_151
            refine xl (fun _ => lv_iconst (v := 0) hx hb dX2_canMake_184 (by decide)) ?_
            exact x_zret hx hb hr hlocks hs0 hbs (by decide) (by decide) (by decide) dX2_canMake_185 (pu0 (by rw [mk_5 (hRw i hi) c_138]; simp [c_151]))
          · have c_151 := bI_t c_151
            refine xl (fun _ => lv_aload_n hx hb dX2_canMake_154 rfl (lv_at hl 0 rfl)) ?_
            refine xl (fun _ => lv_aload_n hx hb dX2_canMake_155 rfl (lv_at hl 0 rfl)) ?_
            refine x_get (ci := 2) hx hb hts hown hK wiX2 hX rfl 3 (by decide) wFX2_16 rfl rfl dX2_canMake_156 ?_
            refine xl (fun _ => lv_iload_n hx hb dX2_canMake_159 rfl (lv_at hl 1 rfl)) ?_
            refine x_iald hx hb hK h3 i (rfl) (by omega) (by decide) dX2_canMake_160 ?_
            rw [show (tw i) = (px (sp_pa (t i) 1)) from (q3).trans (e_5 c_138).2.1]
            refine x_callV E hl (c_X2_is l G H mb n _ _ _ _ _ _ _ _ _ _ ⟨hm0, hmn, hX, h1, h2, h3, h4, h5, h6, h7, h8, h9⟩ (sp_pa (t i) 1) (fun j e => by have := (hRw i hi).1 1 (by omega) j e; omega)) xm_yX2_is wMX2_76 wI_yX2_is wT_yX2_is (ci := 2) rfl rfl hX (rest := []) rfl (by decide) (by decide) ⟨by decide, by decide⟩ dX2_canMake_161 (x_pure (r := .int (bI (sp_pi kb (sp_pa (t i) 1)))) (st1 := []) ?_)
            refine xb (fun _ => lv_if_eq (tgt := 184) hx hb dX2_canMake_164 (by decide)) (fun c_164 => ?_) (fun c_164 => ?_)
            · have c_164 := bI_f c_164
              refine xl (fun _ => lv_iconst (v := 0) hx hb dX2_canMake_184 (by decide)) ?_
              exact x_zret hx hb hr hlocks hs0 hbs (by decide) (by decide) (by decide) dX2_canMake_185 (pu0 (by rw [mk_5 (hRw i hi) c_138]; simp [c_151, c_164]))
            · have c_164 := bI_t c_164
              refine xl (fun _ => lv_aload_n hx hb dX2_canMake_167 rfl (lv_at hl 0 rfl)) ?_
              refine xl (fun _ => lv_aload_n hx hb dX2_canMake_168 rfl (lv_at hl 0 rfl)) ?_
              refine x_get (ci := 2) hx hb hts hown hK wiX2 hX rfl 4 (by decide) wFX2_19 rfl rfl dX2_canMake_169 ?_
              refine xl (fun _ => lv_iload_n hx hb dX2_canMake_172 rfl (lv_at hl 1 rfl)) ?_
              refine x_iald hx hb hK h4 i (rfl) (by omega) (by decide) dX2_canMake_173 ?_
              rw [show (th i) = (px (sp_pa (t i) 2)) from (q4).trans (e_5 c_138).2.2]
              refine x_callV E hl (c_X2_is l G H mb n _ _ _ _ _ _ _ _ _ _ ⟨hm0, hmn, hX, h1, h2, h3, h4, h5, h6, h7, h8, h9⟩ (sp_pa (t i) 2) (fun j e => by have := (hRw i hi).1 2 (by omega) j e; omega)) xm_yX2_is wMX2_76 wI_yX2_is wT_yX2_is (ci := 2) rfl rfl hX (rest := []) rfl (by decide) (by decide) ⟨by decide, by decide⟩ dX2_canMake_174 (x_pure (r := .int (bI (sp_pi kb (sp_pa (t i) 2)))) (st1 := []) ?_)
              refine xb (fun _ => lv_if_eq (tgt := 184) hx hb dX2_canMake_177 (by decide)) (fun c_177 => ?_) (fun c_177 => ?_)
              · have c_177 := bI_f c_177
                refine xl (fun _ => lv_iconst (v := 0) hx hb dX2_canMake_184 (by decide)) ?_
                exact x_zret hx hb hr hlocks hs0 hbs (by decide) (by decide) (by decide) dX2_canMake_185 (pu0 (by rw [mk_5 (hRw i hi) c_138]; simp [c_151, c_164, c_177]))
              · have c_177 := bI_t c_177
                refine xl (fun _ => lv_iconst (v := 1) hx hb dX2_canMake_180 (by decide)) ?_
                refine xl (fun _ => lv_goto (tgt := 185) hx hb dX2_canMake_181 (by decide)) ?_
                exact x_zret hx hb hr hlocks hs0 hbs (by decide) (by decide) (by decide) dX2_canMake_185 (pu1 (by rw [mk_5 (hRw i hi) c_138]; simp [c_151, c_164, c_177]))
      · refine xl (fun _ => lv_aload_n hx hb dX2_canMake_99 rfl (lv_at hl 0 rfl)) ?_
        refine xl (fun _ => lv_aload_n hx hb dX2_canMake_100 rfl (lv_at hl 0 rfl)) ?_
        refine x_get (ci := 2) hx hb hts hown hK wiX2 hX rfl 3 (by decide) wFX2_16 rfl rfl dX2_canMake_101 ?_
        refine xl (fun _ => lv_iload_n hx hb dX2_canMake_104 rfl (lv_at hl 1 rfl)) ?_
        refine x_iald hx hb hK h3 i (rfl) (by omega) (by decide) dX2_canMake_105 ?_
        rw [show (tw i) = (px (sp_pa (t i) 0)) from (q3).trans (e_4 c_96).2.1]
        refine x_callV E hl (c_X2_is l G H mb n _ _ _ _ _ _ _ _ _ _ ⟨hm0, hmn, hX, h1, h2, h3, h4, h5, h6, h7, h8, h9⟩ (sp_pa (t i) 0) (fun j e => by have := (hRw i hi).1 0 (by omega) j e; omega)) xm_yX2_is wMX2_76 wI_yX2_is wT_yX2_is (ci := 2) rfl rfl hX (rest := []) rfl (by decide) (by decide) ⟨by decide, by decide⟩ dX2_canMake_106 (x_pure (r := .int (bI (sp_pi kb (sp_pa (t i) 0)))) (st1 := []) ?_)
        refine xb (fun _ => lv_if_eq (tgt := 129) hx hb dX2_canMake_109 (by decide)) (fun c_109 => ?_) (fun c_109 => ?_)
        · have c_109 := bI_f c_109
          refine xl (fun _ => lv_iconst (v := 0) hx hb dX2_canMake_129 (by decide)) ?_
          exact x_zret hx hb hr hlocks hs0 hbs (by decide) (by decide) (by decide) dX2_canMake_130 (pu0 (by rw [mk_4 (hRw i hi) c_96]; simp [c_109]))
        · have c_109 := bI_t c_109
          refine xl (fun _ => lv_aload_n hx hb dX2_canMake_112 rfl (lv_at hl 0 rfl)) ?_
          refine xl (fun _ => lv_aload_n hx hb dX2_canMake_113 rfl (lv_at hl 0 rfl)) ?_
          refine x_get (ci := 2) hx hb hts hown hK wiX2 hX rfl 4 (by decide) wFX2_19 rfl rfl dX2_canMake_114 ?_
          refine xl (fun _ => lv_iload_n hx hb dX2_canMake_117 rfl (lv_at hl 1 rfl)) ?_
          refine x_iald hx hb hK h4 i (rfl) (by omega) (by decide) dX2_canMake_118 ?_
          rw [show (th i) = (px (sp_pa (t i) 1)) from (q4).trans (e_4 c_96).2.2]
          refine x_callV E hl (c_X2_is l G H mb n _ _ _ _ _ _ _ _ _ _ ⟨hm0, hmn, hX, h1, h2, h3, h4, h5, h6, h7, h8, h9⟩ (sp_pa (t i) 1) (fun j e => by have := (hRw i hi).1 1 (by omega) j e; omega)) xm_yX2_is wMX2_76 wI_yX2_is wT_yX2_is (ci := 2) rfl rfl hX (rest := []) rfl (by decide) (by decide) ⟨by decide, by decide⟩ dX2_canMake_119 (x_pure (r := .int (bI (sp_pi kb (sp_pa (t i) 1)))) (st1 := []) ?_)
          refine xb (fun _ => lv_if_eq (tgt := 129) hx hb dX2_canMake_122 (by decide)) (fun c_122 => ?_) (fun c_122 => ?_)
          · have c_122 := bI_f c_122
            refine xl (fun _ => lv_iconst (v := 0) hx hb dX2_canMake_129 (by decide)) ?_
            exact x_zret hx hb hr hlocks hs0 hbs (by decide) (by decide) (by decide) dX2_canMake_130 (pu0 (by rw [mk_4 (hRw i hi) c_96]; simp [c_109, c_122]))
          · have c_122 := bI_t c_122
            refine xl (fun _ => lv_iconst (v := 1) hx hb dX2_canMake_125 (by decide)) ?_
            refine xl (fun _ => lv_goto (tgt := 130) hx hb dX2_canMake_126 (by decide)) ?_
            exact x_zret hx hb hr hlocks hs0 hbs (by decide) (by decide) (by decide) dX2_canMake_130 (pu1 (by rw [mk_4 (hRw i hi) c_96]; simp [c_109, c_122]))
    · obtain ⟨x, y, hpx, hpy, hxi, hyi, -, -⟩ := sp_wf3 (hRw i hi) c_28
      have hxn : x < n := by omega
      have hyn : y < n := by omega
      have hm := mk_3 (n := n) (kb := kb) c_28 hpx hpy
      have ex : sp_pi kb (sp_pa (t i) 0) = kb x := by rw [hpx]; rfl
      have ey : sp_pi kb (sp_pa (t i) 1) = kb y := by rw [hpy]; rfl
      refine xl (fun _ => lv_aload_n hx hb dX2_canMake_31 rfl (lv_at hl 0 rfl)) ?_
      refine xl (fun _ => lv_aload_n hx hb dX2_canMake_32 rfl (lv_at hl 0 rfl)) ?_
      refine x_get (ci := 2) hx hb hts hown hK wiX2 hX rfl 2 (by decide) wFX2_13 rfl rfl dX2_canMake_33 ?_
      refine xl (fun _ => lv_iload_n hx hb dX2_canMake_36 rfl (lv_at hl 1 rfl)) ?_
      refine x_iald hx hb hK h2 i (rfl) (by omega) (by decide) dX2_canMake_37 ?_
      rw [show (on i) = (px (sp_pa (t i) 0)) from (q2 (by rw [c_28]; decide)).trans (e_3 c_28).1]
      refine x_callV E hl (c_X2_is l G H mb n _ _ _ _ _ _ _ _ _ _ ⟨hm0, hmn, hX, h1, h2, h3, h4, h5, h6, h7, h8, h9⟩ (sp_pa (t i) 0) (fun j e => by have := (hRw i hi).1 0 (by omega) j e; omega)) xm_yX2_is wMX2_76 wI_yX2_is wT_yX2_is (ci := 2) rfl rfl hX (rest := []) rfl (by decide) (by decide) ⟨by decide, by decide⟩ dX2_canMake_38 (x_pure (r := .int (bI (sp_pi kb (sp_pa (t i) 0)))) (st1 := []) ?_)
      refine xb (fun _ => lv_if_eq (tgt := 57) hx hb dX2_canMake_41 (by decide)) (fun c_41 => ?_) (fun c_41 => ?_)
      · have c_41 := bI_f c_41
        refine xl (fun _ => lv_aload_n hx hb dX2_canMake_57 rfl (lv_at hl 0 rfl)) ?_
        refine xl (fun _ => lv_aload_n hx hb dX2_canMake_58 rfl (lv_at hl 0 rfl)) ?_
        refine x_get (ci := 2) hx hb hts hown hK wiX2 hX rfl 3 (by decide) wFX2_16 rfl rfl dX2_canMake_59 ?_
        refine xl (fun _ => lv_iload_n hx hb dX2_canMake_62 rfl (lv_at hl 1 rfl)) ?_
        refine x_iald hx hb hK h3 i (rfl) (by omega) (by decide) dX2_canMake_63 ?_
        rw [show (tw i) = (px (sp_pa (t i) 1)) from (q3).trans (e_3 c_28).2.1]
        refine x_callV E hl (c_X2_is l G H mb n _ _ _ _ _ _ _ _ _ _ ⟨hm0, hmn, hX, h1, h2, h3, h4, h5, h6, h7, h8, h9⟩ (sp_pa (t i) 1) (fun j e => by have := (hRw i hi).1 1 (by omega) j e; omega)) xm_yX2_is wMX2_76 wI_yX2_is wT_yX2_is (ci := 2) rfl rfl hX (rest := []) rfl (by decide) (by decide) ⟨by decide, by decide⟩ dX2_canMake_64 (x_pure (r := .int (bI (sp_pi kb (sp_pa (t i) 1)))) (st1 := []) ?_)
        refine xb (fun _ => lv_if_eq (tgt := 87) hx hb dX2_canMake_67 (by decide)) (fun c_67 => ?_) (fun c_67 => ?_)
        · have c_67 := bI_f c_67
          refine xl (fun _ => lv_iconst (v := 0) hx hb dX2_canMake_87 (by decide)) ?_
          exact x_zret hx hb hr hlocks hs0 hbs (by decide) (by decide) (by decide) dX2_canMake_88 (pu0 (by rw [hm]; simp [ex ▸ c_41, ey ▸ c_67]))
        · have c_67 := bI_t c_67
          refine xl (fun _ => lv_aload_n hx hb dX2_canMake_70 rfl (lv_at hl 0 rfl)) ?_
          refine xl (fun _ => lv_aload_n hx hb dX2_canMake_71 rfl (lv_at hl 0 rfl)) ?_
          refine x_get (ci := 2) hx hb hts hown hK wiX2 hX rfl 2 (by decide) wFX2_13 rfl rfl dX2_canMake_72 ?_
          refine xl (fun _ => lv_iload_n hx hb dX2_canMake_75 rfl (lv_at hl 1 rfl)) ?_
          refine x_iald hx hb hK h2 i (rfl) (by omega) (by decide) dX2_canMake_76 ?_
          rw [show (on i) = (nI (x + 1)) from ((q2 (by rw [c_28]; decide)).trans (e_3 c_28).1).trans (by rw [hpx]; rfl)]
          refine x_callV E hl (c_X2_shows l G H mb n _ _ _ _ _ _ _ _ _ _ ⟨hm0, hmn, hX, h1, h2, h3, h4, h5, h6, h7, h8, h9⟩ t rg hR x hxn (cB (sp_sh n t (sp_B kb) x)) cB_t) xm_yX2_shows wMX2_79 wI_yX2_shows wT_yX2_shows (ci := 2) rfl rfl hX (rest := []) rfl (by decide) (by decide) ⟨by decide, by decide⟩ dX2_canMake_77 (x_pure (r := .int (bI (cB (sp_sh n t (sp_B kb) x)))) (st1 := []) ?_)
          refine xb (fun _ => lv_if_eq (tgt := 87) hx hb dX2_canMake_80 (by decide)) (fun c_80 => ?_) (fun c_80 => ?_)
          · have c_80 := bI_f c_80
            refine xl (fun _ => lv_iconst (v := 0) hx hb dX2_canMake_87 (by decide)) ?_
            exact x_zret hx hb hr hlocks hs0 hbs (by decide) (by decide) (by decide) dX2_canMake_88 (pu0 (by rw [hm]; simp [ex ▸ c_41, ey ▸ c_67, c_80]))
          · have c_80 := bI_t c_80
            refine xl (fun _ => lv_iconst (v := 1) hx hb dX2_canMake_83 (by decide)) ?_
            refine xl (fun _ => lv_goto (tgt := 88) hx hb dX2_canMake_84 (by decide)) ?_
            exact x_zret hx hb hr hlocks hs0 hbs (by decide) (by decide) (by decide) dX2_canMake_88 (pu1 (by rw [hm]; simp [ex ▸ c_41, ey ▸ c_67, c_80]))
      · have c_41 := bI_t c_41
        refine xl (fun _ => lv_aload_n hx hb dX2_canMake_44 rfl (lv_at hl 0 rfl)) ?_
        refine xl (fun _ => lv_aload_n hx hb dX2_canMake_45 rfl (lv_at hl 0 rfl)) ?_
        refine x_get (ci := 2) hx hb hts hown hK wiX2 hX rfl 3 (by decide) wFX2_16 rfl rfl dX2_canMake_46 ?_
        refine xl (fun _ => lv_iload_n hx hb dX2_canMake_49 rfl (lv_at hl 1 rfl)) ?_
        refine x_iald hx hb hK h3 i (rfl) (by omega) (by decide) dX2_canMake_50 ?_
        rw [show (tw i) = (nI (y + 1)) from (q3.trans (e_3 c_28).2.1).trans (by rw [hpy]; rfl)]
        refine x_callV E hl (c_X2_shows l G H mb n _ _ _ _ _ _ _ _ _ _ ⟨hm0, hmn, hX, h1, h2, h3, h4, h5, h6, h7, h8, h9⟩ t rg hR y hyn (cB (sp_sh n t (sp_B kb) y)) cB_t) xm_yX2_shows wMX2_79 wI_yX2_shows wT_yX2_shows (ci := 2) rfl rfl hX (rest := []) rfl (by decide) (by decide) ⟨by decide, by decide⟩ dX2_canMake_51 (x_pure (r := .int (bI (cB (sp_sh n t (sp_B kb) y)))) (st1 := []) ?_)
        refine xb (fun _ => lv_if_ne (tgt := 83) hx hb dX2_canMake_54 (by decide)) (fun c_54 => ?_) (fun c_54 => ?_)
        · have c_54 := bI_t c_54
          refine xl (fun _ => lv_iconst (v := 1) hx hb dX2_canMake_83 (by decide)) ?_
          refine xl (fun _ => lv_goto (tgt := 88) hx hb dX2_canMake_84 (by decide)) ?_
          exact x_zret hx hb hr hlocks hs0 hbs (by decide) (by decide) (by decide) dX2_canMake_88 (pu1 (by rw [hm]; simp [ex ▸ c_41, c_54]))
        · have c_54 := bI_f c_54
          refine xl (fun _ => lv_aload_n hx hb dX2_canMake_57 rfl (lv_at hl 0 rfl)) ?_
          refine xl (fun _ => lv_aload_n hx hb dX2_canMake_58 rfl (lv_at hl 0 rfl)) ?_
          refine x_get (ci := 2) hx hb hts hown hK wiX2 hX rfl 3 (by decide) wFX2_16 rfl rfl dX2_canMake_59 ?_
          refine xl (fun _ => lv_iload_n hx hb dX2_canMake_62 rfl (lv_at hl 1 rfl)) ?_
          refine x_iald hx hb hK h3 i (rfl) (by omega) (by decide) dX2_canMake_63 ?_
          rw [show (tw i) = (px (sp_pa (t i) 1)) from (q3).trans (e_3 c_28).2.1]
          refine x_callV E hl (c_X2_is l G H mb n _ _ _ _ _ _ _ _ _ _ ⟨hm0, hmn, hX, h1, h2, h3, h4, h5, h6, h7, h8, h9⟩ (sp_pa (t i) 1) (fun j e => by have := (hRw i hi).1 1 (by omega) j e; omega)) xm_yX2_is wMX2_76 wI_yX2_is wT_yX2_is (ci := 2) rfl rfl hX (rest := []) rfl (by decide) (by decide) ⟨by decide, by decide⟩ dX2_canMake_64 (x_pure (r := .int (bI (sp_pi kb (sp_pa (t i) 1)))) (st1 := []) ?_)
          refine xb (fun _ => lv_if_eq (tgt := 87) hx hb dX2_canMake_67 (by decide)) (fun c_67 => ?_) (fun c_67 => ?_)
          · have c_67 := bI_f c_67
            refine xl (fun _ => lv_iconst (v := 0) hx hb dX2_canMake_87 (by decide)) ?_
            exact x_zret hx hb hr hlocks hs0 hbs (by decide) (by decide) (by decide) dX2_canMake_88 (pu0 (by rw [hm]; simp [ex ▸ c_41, c_54, ey ▸ c_67]))
          · have c_67 := bI_t c_67
            refine xl (fun _ => lv_aload_n hx hb dX2_canMake_70 rfl (lv_at hl 0 rfl)) ?_
            refine xl (fun _ => lv_aload_n hx hb dX2_canMake_71 rfl (lv_at hl 0 rfl)) ?_
            refine x_get (ci := 2) hx hb hts hown hK wiX2 hX rfl 2 (by decide) wFX2_13 rfl rfl dX2_canMake_72 ?_
            refine xl (fun _ => lv_iload_n hx hb dX2_canMake_75 rfl (lv_at hl 1 rfl)) ?_
            refine x_iald hx hb hK h2 i (rfl) (by omega) (by decide) dX2_canMake_76 ?_
            rw [show (on i) = (nI (x + 1)) from ((q2 (by rw [c_28]; decide)).trans (e_3 c_28).1).trans (by rw [hpx]; rfl)]
            refine x_callV E hl (c_X2_shows l G H mb n _ _ _ _ _ _ _ _ _ _ ⟨hm0, hmn, hX, h1, h2, h3, h4, h5, h6, h7, h8, h9⟩ t rg hR x hxn (cB (sp_sh n t (sp_B kb) x)) cB_t) xm_yX2_shows wMX2_79 wI_yX2_shows wT_yX2_shows (ci := 2) rfl rfl hX (rest := []) rfl (by decide) (by decide) ⟨by decide, by decide⟩ dX2_canMake_77 (x_pure (r := .int (bI (cB (sp_sh n t (sp_B kb) x)))) (st1 := []) ?_)
            refine xb (fun _ => lv_if_eq (tgt := 87) hx hb dX2_canMake_80 (by decide)) (fun c_80 => ?_) (fun c_80 => ?_)
            · have c_80 := bI_f c_80
              refine xl (fun _ => lv_iconst (v := 0) hx hb dX2_canMake_87 (by decide)) ?_
              exact x_zret hx hb hr hlocks hs0 hbs (by decide) (by decide) (by decide) dX2_canMake_88 (pu0 (by rw [hm]; simp [ex ▸ c_41, c_54, ey ▸ c_67, c_80]))
            · have c_80 := bI_t c_80
              refine xl (fun _ => lv_iconst (v := 1) hx hb dX2_canMake_83 (by decide)) ?_
              refine xl (fun _ => lv_goto (tgt := 88) hx hb dX2_canMake_84 (by decide)) ?_
              exact x_zret hx hb hr hlocks hs0 hbs (by decide) (by decide) (by decide) dX2_canMake_88 (pu1 (by rw [hm]; simp [ex ▸ c_41, c_54, ey ▸ c_67, c_80]))
  · refine xl (fun _ => lv_aload_n hx hb dX2_canMake_10 rfl (lv_at hl 0 rfl)) ?_
    refine xl (fun _ => lv_aload_n hx hb dX2_canMake_11 rfl (lv_at hl 0 rfl)) ?_
    refine x_get (ci := 2) hx hb hts hown hK wiX2 hX rfl 2 (by decide) wFX2_13 rfl rfl dX2_canMake_12 ?_
    refine xl (fun _ => lv_iload_n hx hb dX2_canMake_15 rfl (lv_at hl 1 rfl)) ?_
    refine x_iald hx hb hK h2 i (rfl) (by omega) (by decide) dX2_canMake_16 ?_
    rw [show (on i) = (px (sp_pa (t i) 0)) from (q2 (by rw [c_7]; decide)).trans (e_2 c_7).1]
    refine x_callV E hl (c_X2_is l G H mb n _ _ _ _ _ _ _ _ _ _ ⟨hm0, hmn, hX, h1, h2, h3, h4, h5, h6, h7, h8, h9⟩ (sp_pa (t i) 0) (fun j e => by have := (hRw i hi).1 0 (by omega) j e; omega)) xm_yX2_is wMX2_76 wI_yX2_is wT_yX2_is (ci := 2) rfl rfl hX (rest := []) rfl (by decide) (by decide) ⟨by decide, by decide⟩ dX2_canMake_17 (x_pure (r := .int (bI (sp_pi kb (sp_pa (t i) 0)))) (st1 := []) ?_)
    exact x_zret hx hb hr hlocks hs0 hbs (bI_and _) (by decide) (by decide) dX2_canMake_20 (⟨by rw [mk_2 (hRw i hi) c_7], rfl⟩)

set_option maxHeartbeats 4000000 in
set_option maxRecDepth 100000 in
theorem c_X2_learn_n (l : Launch) (G : sg_G) (H : Heap) (mb n : Nat) (so on tw th ce gi li re : Nat → Int32) (kb : Nat → Bool) (sec : Int32) (hM : sm_X G mb n so on tw th ce gi (fun i => bI (kb i)) li re sec H)  : xC l G yX2_learn cX2_learn 2 (some FieldType.boolean) 1 0 0 [.ref mb, .int 0] H (fun v H' => v = some (.int (bI (!(sp_pi kb none)))) ∧ sm_X G mb n so on tw th ce gi (fun i => bI ((sp_uo kb none) i)) li re sec H' ∧ sm_F mb H H') := by
  refine xC.start (by decide) (Nat.le_of_ble_eq_true rfl) ?_
  intro p e s m args below meth c ls E hnm hs0 hl
  obtain ⟨hx, hb, hml, hown, hts, hr, hlocks, hK, hbs⟩ := id E
  have hl : lv_has ls 2 [(0, .ref mb), (1, .int 0)] := hl
  obtain ⟨hm0, hmn, hX, h1, h2, h3, h4, h5, h6, h7, h8, h9⟩ := id hM
  have hF : sm_F mb H H := sm_F.rf
  refine xl (fun _ => lv_aload_n hx hb dX2_learn_0 rfl (lv_at hl 0 rfl)) ?_
  refine xl (fun _ => lv_iload_n hx hb dX2_learn_1 rfl (lv_at hl 1 rfl)) ?_
  refine x_callV E hl (c_X2_is_n l G H mb n _ _ _ _ _ _ _ _ _ _ ⟨hm0, hmn, hX, h1, h2, h3, h4, h5, h6, h7, h8, h9⟩) xm_yX2_is wMX2_76 wI_yX2_is wT_yX2_is (ci := 2) rfl rfl hX (rest := []) rfl (by decide) (by decide) ⟨by decide, by decide⟩ dX2_learn_2 (x_pure (r := .int (bI true)) (st1 := []) ?_)
  refine xb (fun _ => lv_if_eq (tgt := 10) hx hb dX2_learn_5 (by decide)) (fun c_5 => ?_) (fun c_5 => ?_)
  · have c_5 := bI_f c_5
    cases c_5
  · have c_5 := bI_t c_5
    refine xl (fun _ => lv_iconst (v := 0) hx hb dX2_learn_8 (by decide)) ?_
    exact x_zret hx hb hr hlocks hs0 hbs (by decide) (by decide) (by decide) dX2_learn_9 (⟨rfl, ⟨hm0, hmn, hX, h1, h2, h3, h4, h5, h6, h7, h8, h9⟩, hF⟩)

set_option maxHeartbeats 4000000 in
set_option maxRecDepth 100000 in
theorem c_X2_learn_s (l : Launch) (G : sg_G) (H : Heap) (mb n : Nat) (so on tw th ce gi li re : Nat → Int32) (kb : Nat → Bool) (sec : Int32) (hM : sm_X G mb n so on tw th ce gi (fun i => bI (kb i)) li re sec H) (j : Nat) (hj : j < 640) : xC l G yX2_learn cX2_learn 2 (some FieldType.boolean) 1 0 0 [.ref mb, .int (nI (j + 1))] H (fun v H' => v = some (.int (bI (!(sp_pi kb (some j))))) ∧ sm_X G mb n so on tw th ce gi (fun i => bI ((sp_uo kb (some j)) i)) li re sec H' ∧ sm_F mb H H') := by
  refine xC.start (by decide) (Nat.le_of_ble_eq_true rfl) ?_
  intro p e s m args below meth c ls E hnm hs0 hl
  obtain ⟨hx, hb, hml, hown, hts, hr, hlocks, hK, hbs⟩ := id E
  have hl : lv_has ls 2 [(0, .ref mb), (1, .int (nI (j + 1)))] := hl
  obtain ⟨hm0, hmn, hX, h1, h2, h3, h4, h5, h6, h7, h8, h9⟩ := id hM
  have hF : sm_F mb H H := sm_F.rf
  refine xl (fun _ => lv_aload_n hx hb dX2_learn_0 rfl (lv_at hl 0 rfl)) ?_
  refine xl (fun _ => lv_iload_n hx hb dX2_learn_1 rfl (lv_at hl 1 rfl)) ?_
  refine x_callV E hl (c_X2_is_s l G H mb n _ _ _ _ _ _ _ _ _ _ ⟨hm0, hmn, hX, h1, h2, h3, h4, h5, h6, h7, h8, h9⟩ j hj) xm_yX2_is wMX2_76 wI_yX2_is wT_yX2_is (ci := 2) rfl rfl hX (rest := []) rfl (by decide) (by decide) ⟨by decide, by decide⟩ dX2_learn_2 (x_pure (r := .int (bI (kb j))) (st1 := []) ?_)
  refine xb (fun _ => lv_if_eq (tgt := 10) hx hb dX2_learn_5 (by decide)) (fun c_5 => ?_) (fun c_5 => ?_)
  · have c_5 := bI_f c_5
    refine xl (fun _ => lv_aload_n hx hb dX2_learn_10 rfl (lv_at hl 0 rfl)) ?_
    refine x_get (ci := 2) hx hb hts hown hK wiX2 hX rfl 7 (by decide) wFX2_29 rfl rfl dX2_learn_11 ?_
    refine xl (fun _ => lv_iload_n hx hb dX2_learn_14 rfl (lv_at hl 1 rfl)) ?_
    refine xl (fun _ => lv_iconst (v := 1) hx hb dX2_learn_15 (by decide)) ?_
    refine xl (fun _ => lv_isub hx hb dX2_learn_16) ?_
    rw [show ((nI (j + 1)) - 1) = (nI j) from nI_pred j]
    refine xl (fun _ => lv_iconst (v := 1) hx hb dX2_learn_17 (by decide)) ?_
    refine x_zast hx hb hK h7 j (rfl) (by omega) (by decide) (by omega) (by decide) dX2_learn_18 (fun H_1 ho_2 hz_3 hq_4 => ?_)
    have ho_2 : za_ G H_1 (mb + 7) 640 (fun i => bI (sp_up kb j i)) := by rw [show (upd (fun i => bI (kb i)) j 1) = (fun i => bI (sp_up kb j i)) from upd_bI kb j] at ho_2; exact ho_2
    have k_5 := va_at.kept (H1 := H_1) (hX) (hq_4 _ (by omega))
    have k_6 := va_at.kept (H1 := H_1) (h1) (hq_4 _ (by omega))
    have k_7 := va_at.kept (H1 := H_1) (h2) (hq_4 _ (by omega))
    have k_8 := va_at.kept (H1 := H_1) (h3) (hq_4 _ (by omega))
    have k_9 := va_at.kept (H1 := H_1) (h4) (hq_4 _ (by omega))
    have k_10 := va_at.kept (H1 := H_1) (h5) (hq_4 _ (by omega))
    have k_11 := va_at.kept (H1 := H_1) (h6) (hq_4 _ (by omega))
    have k_12 := va_at.kept (H1 := H_1) (h8) (hq_4 _ (by omega))
    have k_13 := va_at.kept (H1 := H_1) (h9) (hq_4 _ (by omega))
    have hF : sm_F mb H H_1 := hF.put (a := (mb + 7)) hz_3 hq_4 ⟨by omega, by omega⟩
    refine xl (fun _ => lv_iconst (v := 1) hx hb dX2_learn_19 (by decide)) ?_
    exact x_zret hx hb hr hlocks hs0 hbs (by decide) (by decide) (by decide) dX2_learn_20 (⟨by show _ = some (Value.int (bI (!kb j))); rw [c_5]; rfl, by show sm_X G mb n so on tw th ce gi (fun i => bI (sp_up kb j i)) li re sec _; exact ⟨hm0, hmn, k_5, k_6, k_7, k_8, k_9, k_10, k_11, ho_2, k_12, k_13⟩, hF⟩)
  · have c_5 := bI_t c_5
    refine xl (fun _ => lv_iconst (v := 0) hx hb dX2_learn_8 (by decide)) ?_
    exact x_zret hx hb hr hlocks hs0 hbs (by decide) (by decide) (by decide) dX2_learn_9 (⟨by show _ = some (Value.int (bI (!kb j))); rw [c_5]; rfl, by show sm_X G mb n so on tw th ce gi (fun i => bI (sp_up kb j i)) li re sec _; rw [sp_up_id c_5]; exact ⟨hm0, hmn, hX, h1, h2, h3, h4, h5, h6, h7, h8, h9⟩, hF⟩)

theorem c_X2_learn (l : Launch) (G : sg_G) (H : Heap) (mb n : Nat) (so on tw th ce gi li re : Nat → Int32) (kb : Nat → Bool) (sec : Int32) (hM : sm_X G mb n so on tw th ce gi (fun i => bI (kb i)) li re sec H) (o : Option Nat) (ho : ∀ j, o = some j → j < 640) : xC l G yX2_learn cX2_learn 2 (some FieldType.boolean) 1 0 0 [.ref mb, .int (px o)] H (fun v H' => v = some (.int (bI (!(sp_pi kb o)))) ∧ sm_X G mb n so on tw th ce gi (fun i => bI ((sp_uo kb o) i)) li re sec H' ∧ sm_F mb H H') := by
  cases o with
  | none => exact c_X2_learn_n l G H mb n so on tw th ce gi li re kb sec hM
  | some j => exact c_X2_learn_s l G H mb n so on tw th ce gi li re kb sec hM j (ho j rfl)
