section LAWC
variable {p : Program} {e : Env} {s : State} {m : MethodId} {below : List Frame} {meth : Method} {c : Code} {H : Heap} {cells slots : Nat} {Q : State → Prop} {G : sg_G} {ls : Array Slot} {b L k0 n : Nat} {ys : Nat → Int32} {t : Nat → sp_T} {rg : Nat → Option Nat} {g : Nat → Prop}
set_option maxHeartbeats 4000000 in
set_option maxRecDepth 100000 in
theorem law_secret (l : Launch) (hX : va_X b L ys s s.heap) (hbl : b < s.heap.size) (hB : sg_B G = s.heap.size) (hL : L ≤ 2560) (E : xE p s m #[Value.ref b] meth c G RL cL_law 4 ret) (h5 : 5 * k0 + 5 ≤ L) (hn1 : n < 512) (hJ : lw_J G s.heap.size (n, t, rg, g) H) (hcs : cells + 2 ≤ 600000) (hss : slots + 11 ≤ 7302250) (hl : lv_has ls 4 [(3, .int (nI (5 * k0))), (2, .ref (s.heap.size + 4)), (1, .ref s.heap.size), (0, .ref b)])
    (K : ∀ (a1 : sp_S) (H1 : Heap), a1.1 ≤ n + 1 → lw_J G s.heap.size a1 H1 → xV p l e room_1 s m #[Value.ref b] below meth c G H1 (cells + 2) (slots + 11) Q (F0 m 747 ls [])) : xV p l e room_1 s m #[Value.ref b] below meth c G H cells slots Q (F0 m 116 ls []) := by
  obtain ⟨hx, hb, hml, hown, hts, hr, hlocks, hK, hbs⟩ := id E
  refine xl (fun _ => lv_aload_n hx hb dL_law_116 rfl (lv_at hl 2 rfl)) ?_
  refine xl (fun _ => lv_aload_n hx hb dL_law_117 rfl (lv_at hl 3 rfl)) ?_
  refine xl (fun _ => lv_iload_n hx hb dL_law_118 rfl (lv_at hl 0 rfl)) ?_
  refine xl (fun _ => lv_iconst (v := 1) hx hb dL_law_119 (by decide)) ?_
  refine xl (fun _ => lv_iadd hx hb dL_law_120) ?_
  refine x_sld hx hb hX hbl hB hL (5 * k0 + 1) (nI_add (5 * k0) 1) (by omega) dL_law_121 ?_
  obtain ⟨fs1, ho1⟩ := sc_H.ob hJ.1
  refine x_callV E hl (c_X1_secret l G H s.heap.size (s.heap.size + 14) n t rg g hJ.1 hn1 (ys (5 * k0 + 1))) xm_yX1_secret wML_13 wI_yX1_secret wT_yX1_secret (ci := 1) rfl rfl ho1 (rest := []) rfl (by decide) (by decide) ⟨by show _ ≤ 600000; omega, by show _ ≤ 7302250; omega⟩ dL_law_122 (fun v1 H1 hp1 hz1 hq1 => ?_)
  obtain ⟨rfl, hc1, hF1⟩ := hp1
  have hm1 : sm_HS G (s.heap.size + 4) (n, t, rg, g) H1 := lw_J1 hJ.2 hF1
  refine xg (g2 := F0 m 125 ls [.int (op_secret (n, t, rg, g) (ys (5 * k0 + 1))).1]) rfl ?_
  refine xl (fun _ => lv_aload_n hx hb dL_law_125 rfl (lv_at hl 1 rfl)) ?_
  refine xl (fun _ => lv_aload_n hx hb dL_law_126 rfl (lv_at hl 3 rfl)) ?_
  refine xl (fun _ => lv_iload_n hx hb dL_law_127 rfl (lv_at hl 0 rfl)) ?_
  refine xl (fun _ => lv_iconst (v := 1) hx hb dL_law_128 (by decide)) ?_
  refine xl (fun _ => lv_iadd hx hb dL_law_129) ?_
  refine x_sld hx hb hX hbl hB hL (5 * k0 + 1) (nI_add (5 * k0) 1) (by omega) dL_law_130 ?_
  obtain ⟨fs2, ho2⟩ := sm_H.ob hm1
  refine x_callV E hl (c_X2_secret l G H1 (s.heap.size + 4) n t rg g hm1 hn1 (ys (5 * k0 + 1))) xm_yX2_secret wML_17 wI_yX2_secret wT_yX2_secret (ci := 2) rfl rfl ho2 (rest := [.int (op_secret (n, t, rg, g) (ys (5 * k0 + 1))).1]) rfl (by simp [cat_int]) (by decide) ⟨by show _ ≤ 600000; omega, by show _ ≤ 7302250; omega⟩ dL_law_131 (fun v2 H2 hp2 hz2 hq2 => ?_)
  obtain ⟨rfl, hm2, hF2⟩ := hp2
  refine xg (g2 := F0 m 134 ls [.int (op_secret (n, t, rg, g) (ys (5 * k0 + 1))).1, .int (op_secret (n, t, rg, g) (ys (5 * k0 + 1))).1]) rfl ?_
  refine xb (fun _ => lv_icmp_eq (tgt := 747) hx hb dL_law_134 (by decide)) (fun _ => ?_) (fun q => absurd rfl q)
  exact xw (by omega) (by omega) (K _ H2 (opn_secret (n, t, rg, g) (ys (5 * k0 + 1))) ⟨lw_J2 hc1 hF2, hm2⟩)
set_option maxHeartbeats 4000000 in
set_option maxRecDepth 100000 in
theorem law_face (l : Launch) (hX : va_X b L ys s s.heap) (hbl : b < s.heap.size) (hB : sg_B G = s.heap.size) (hL : L ≤ 2560) (E : xE p s m #[Value.ref b] meth c G RL cL_law 4 ret) (h5 : 5 * k0 + 5 ≤ L) (hn1 : n < 512) (hJ : lw_J G s.heap.size (n, t, rg, g) H) (hcs : cells + 2 ≤ 600000) (hss : slots + 11 ≤ 7302250) (hl : lv_has ls 4 [(3, .int (nI (5 * k0))), (2, .ref (s.heap.size + 4)), (1, .ref s.heap.size), (0, .ref b)])
    (K : ∀ (a1 : sp_S) (H1 : Heap), a1.1 ≤ n + 1 → lw_J G s.heap.size a1 H1 → xV p l e room_1 s m #[Value.ref b] below meth c G H1 (cells + 2) (slots + 11) Q (F0 m 747 ls [])) : xV p l e room_1 s m #[Value.ref b] below meth c G H cells slots Q (F0 m 139 ls []) := by
  obtain ⟨hx, hb, hml, hown, hts, hr, hlocks, hK, hbs⟩ := id E
  refine xl (fun _ => lv_aload_n hx hb dL_law_139 rfl (lv_at hl 2 rfl)) ?_
  refine xl (fun _ => lv_aload_n hx hb dL_law_140 rfl (lv_at hl 3 rfl)) ?_
  refine xl (fun _ => lv_iload_n hx hb dL_law_141 rfl (lv_at hl 0 rfl)) ?_
  refine xl (fun _ => lv_iconst (v := 1) hx hb dL_law_142 (by decide)) ?_
  refine xl (fun _ => lv_iadd hx hb dL_law_143) ?_
  refine x_sld hx hb hX hbl hB hL (5 * k0 + 1) (nI_add (5 * k0) 1) (by omega) dL_law_144 ?_
  refine xl (fun _ => lv_aload_n hx hb dL_law_145 rfl (lv_at hl 3 rfl)) ?_
  refine xl (fun _ => lv_iload_n hx hb dL_law_146 rfl (lv_at hl 0 rfl)) ?_
  refine xl (fun _ => lv_iconst (v := 2) hx hb dL_law_147 (by decide)) ?_
  refine xl (fun _ => lv_iadd hx hb dL_law_148) ?_
  refine x_sld hx hb hX hbl hB hL (5 * k0 + 2) (nI_add (5 * k0) 2) (by omega) dL_law_149 ?_
  obtain ⟨fs1, ho1⟩ := sc_H.ob hJ.1
  refine x_callV E hl (c_X1_face l G H s.heap.size (s.heap.size + 14) n t rg g hJ.1 hn1 (ys (5 * k0 + 1)) (ys (5 * k0 + 2))) xm_yX1_face wML_18 wI_yX1_face wT_yX1_face (ci := 1) rfl rfl ho1 (rest := []) rfl (by decide) (by decide) ⟨by show _ ≤ 600000; omega, by show _ ≤ 7302250; omega⟩ dL_law_150 (fun v1 H1 hp1 hz1 hq1 => ?_)
  obtain ⟨rfl, hc1, hF1⟩ := hp1
  have hm1 : sm_HS G (s.heap.size + 4) (n, t, rg, g) H1 := lw_J1 hJ.2 hF1
  refine xg (g2 := F0 m 153 ls [.int (op_face (n, t, rg, g) (ys (5 * k0 + 1)) (ys (5 * k0 + 2))).1]) rfl ?_
  refine xl (fun _ => lv_aload_n hx hb dL_law_153 rfl (lv_at hl 1 rfl)) ?_
  refine xl (fun _ => lv_aload_n hx hb dL_law_154 rfl (lv_at hl 3 rfl)) ?_
  refine xl (fun _ => lv_iload_n hx hb dL_law_155 rfl (lv_at hl 0 rfl)) ?_
  refine xl (fun _ => lv_iconst (v := 1) hx hb dL_law_156 (by decide)) ?_
  refine xl (fun _ => lv_iadd hx hb dL_law_157) ?_
  refine x_sld hx hb hX hbl hB hL (5 * k0 + 1) (nI_add (5 * k0) 1) (by omega) dL_law_158 ?_
  refine xl (fun _ => lv_aload_n hx hb dL_law_159 rfl (lv_at hl 3 rfl)) ?_
  refine xl (fun _ => lv_iload_n hx hb dL_law_160 rfl (lv_at hl 0 rfl)) ?_
  refine xl (fun _ => lv_iconst (v := 2) hx hb dL_law_161 (by decide)) ?_
  refine xl (fun _ => lv_iadd hx hb dL_law_162) ?_
  refine x_sld hx hb hX hbl hB hL (5 * k0 + 2) (nI_add (5 * k0) 2) (by omega) dL_law_163 ?_
  obtain ⟨fs2, ho2⟩ := sm_H.ob hm1
  refine x_callV E hl (c_X2_face l G H1 (s.heap.size + 4) n t rg g hm1 hn1 (ys (5 * k0 + 1)) (ys (5 * k0 + 2))) xm_yX2_face wML_22 wI_yX2_face wT_yX2_face (ci := 2) rfl rfl ho2 (rest := [.int (op_face (n, t, rg, g) (ys (5 * k0 + 1)) (ys (5 * k0 + 2))).1]) rfl (by simp [cat_int]) (by decide) ⟨by show _ ≤ 600000; omega, by show _ ≤ 7302250; omega⟩ dL_law_164 (fun v2 H2 hp2 hz2 hq2 => ?_)
  obtain ⟨rfl, hm2, hF2⟩ := hp2
  refine xg (g2 := F0 m 167 ls [.int (op_face (n, t, rg, g) (ys (5 * k0 + 1)) (ys (5 * k0 + 2))).1, .int (op_face (n, t, rg, g) (ys (5 * k0 + 1)) (ys (5 * k0 + 2))).1]) rfl ?_
  refine xb (fun _ => lv_icmp_eq (tgt := 747) hx hb dL_law_167 (by decide)) (fun _ => ?_) (fun q => absurd rfl q)
  exact xw (by omega) (by omega) (K _ H2 (opn_face (n, t, rg, g) (ys (5 * k0 + 1)) (ys (5 * k0 + 2))) ⟨lw_J2 hc1 hF2, hm2⟩)
set_option maxHeartbeats 4000000 in
set_option maxRecDepth 100000 in
theorem law_shared (l : Launch) (hX : va_X b L ys s s.heap) (hbl : b < s.heap.size) (hB : sg_B G = s.heap.size) (hL : L ≤ 2560) (E : xE p s m #[Value.ref b] meth c G RL cL_law 4 ret) (h5 : 5 * k0 + 5 ≤ L) (hn1 : n < 512) (hJ : lw_J G s.heap.size (n, t, rg, g) H) (hcs : cells + 2 ≤ 600000) (hss : slots + 11 ≤ 7302250) (hl : lv_has ls 4 [(3, .int (nI (5 * k0))), (2, .ref (s.heap.size + 4)), (1, .ref s.heap.size), (0, .ref b)])
    (K : ∀ (a1 : sp_S) (H1 : Heap), a1.1 ≤ n + 1 → lw_J G s.heap.size a1 H1 → xV p l e room_1 s m #[Value.ref b] below meth c G H1 (cells + 2) (slots + 11) Q (F0 m 747 ls [])) : xV p l e room_1 s m #[Value.ref b] below meth c G H cells slots Q (F0 m 172 ls []) := by
  obtain ⟨hx, hb, hml, hown, hts, hr, hlocks, hK, hbs⟩ := id E
  refine xl (fun _ => lv_aload_n hx hb dL_law_172 rfl (lv_at hl 2 rfl)) ?_
  refine xl (fun _ => lv_aload_n hx hb dL_law_173 rfl (lv_at hl 3 rfl)) ?_
  refine xl (fun _ => lv_iload_n hx hb dL_law_174 rfl (lv_at hl 0 rfl)) ?_
  refine xl (fun _ => lv_iconst (v := 1) hx hb dL_law_175 (by decide)) ?_
  refine xl (fun _ => lv_iadd hx hb dL_law_176) ?_
  refine x_sld hx hb hX hbl hB hL (5 * k0 + 1) (nI_add (5 * k0) 1) (by omega) dL_law_177 ?_
  refine xl (fun _ => lv_aload_n hx hb dL_law_178 rfl (lv_at hl 3 rfl)) ?_
  refine xl (fun _ => lv_iload_n hx hb dL_law_179 rfl (lv_at hl 0 rfl)) ?_
  refine xl (fun _ => lv_iconst (v := 2) hx hb dL_law_180 (by decide)) ?_
  refine xl (fun _ => lv_iadd hx hb dL_law_181) ?_
  refine x_sld hx hb hX hbl hB hL (5 * k0 + 2) (nI_add (5 * k0) 2) (by omega) dL_law_182 ?_
  refine xl (fun _ => lv_aload_n hx hb dL_law_183 rfl (lv_at hl 3 rfl)) ?_
  refine xl (fun _ => lv_iload_n hx hb dL_law_184 rfl (lv_at hl 0 rfl)) ?_
  refine xl (fun _ => lv_iconst (v := 3) hx hb dL_law_185 (by decide)) ?_
  refine xl (fun _ => lv_iadd hx hb dL_law_186) ?_
  refine x_sld hx hb hX hbl hB hL (5 * k0 + 3) (nI_add (5 * k0) 3) (by omega) dL_law_187 ?_
  obtain ⟨fs1, ho1⟩ := sc_H.ob hJ.1
  refine x_callV E hl (c_X1_shared l G H s.heap.size (s.heap.size + 14) n t rg g hJ.1 hn1 (ys (5 * k0 + 1)) (ys (5 * k0 + 2)) (ys (5 * k0 + 3))) xm_yX1_shared wML_23 wI_yX1_shared wT_yX1_shared (ci := 1) rfl rfl ho1 (rest := []) rfl (by decide) (by decide) ⟨by show _ ≤ 600000; omega, by show _ ≤ 7302250; omega⟩ dL_law_188 (fun v1 H1 hp1 hz1 hq1 => ?_)
  obtain ⟨rfl, hc1, hF1⟩ := hp1
  have hm1 : sm_HS G (s.heap.size + 4) (n, t, rg, g) H1 := lw_J1 hJ.2 hF1
  refine xg (g2 := F0 m 191 ls [.int (op_shared (n, t, rg, g) (ys (5 * k0 + 1)) (ys (5 * k0 + 2)) (ys (5 * k0 + 3))).1]) rfl ?_
  refine xl (fun _ => lv_aload_n hx hb dL_law_191 rfl (lv_at hl 1 rfl)) ?_
  refine xl (fun _ => lv_aload_n hx hb dL_law_192 rfl (lv_at hl 3 rfl)) ?_
  refine xl (fun _ => lv_iload_n hx hb dL_law_193 rfl (lv_at hl 0 rfl)) ?_
  refine xl (fun _ => lv_iconst (v := 1) hx hb dL_law_194 (by decide)) ?_
  refine xl (fun _ => lv_iadd hx hb dL_law_195) ?_
  refine x_sld hx hb hX hbl hB hL (5 * k0 + 1) (nI_add (5 * k0) 1) (by omega) dL_law_196 ?_
  refine xl (fun _ => lv_aload_n hx hb dL_law_197 rfl (lv_at hl 3 rfl)) ?_
  refine xl (fun _ => lv_iload_n hx hb dL_law_198 rfl (lv_at hl 0 rfl)) ?_
  refine xl (fun _ => lv_iconst (v := 2) hx hb dL_law_199 (by decide)) ?_
  refine xl (fun _ => lv_iadd hx hb dL_law_200) ?_
  refine x_sld hx hb hX hbl hB hL (5 * k0 + 2) (nI_add (5 * k0) 2) (by omega) dL_law_201 ?_
  refine xl (fun _ => lv_aload_n hx hb dL_law_202 rfl (lv_at hl 3 rfl)) ?_
  refine xl (fun _ => lv_iload_n hx hb dL_law_203 rfl (lv_at hl 0 rfl)) ?_
  refine xl (fun _ => lv_iconst (v := 3) hx hb dL_law_204 (by decide)) ?_
  refine xl (fun _ => lv_iadd hx hb dL_law_205) ?_
  refine x_sld hx hb hX hbl hB hL (5 * k0 + 3) (nI_add (5 * k0) 3) (by omega) dL_law_206 ?_
  obtain ⟨fs2, ho2⟩ := sm_H.ob hm1
  refine x_callV E hl (c_X2_shared l G H1 (s.heap.size + 4) n t rg g hm1 hn1 (ys (5 * k0 + 1)) (ys (5 * k0 + 2)) (ys (5 * k0 + 3))) xm_yX2_shared wML_27 wI_yX2_shared wT_yX2_shared (ci := 2) rfl rfl ho2 (rest := [.int (op_shared (n, t, rg, g) (ys (5 * k0 + 1)) (ys (5 * k0 + 2)) (ys (5 * k0 + 3))).1]) rfl (by simp [cat_int]) (by decide) ⟨by show _ ≤ 600000; omega, by show _ ≤ 7302250; omega⟩ dL_law_207 (fun v2 H2 hp2 hz2 hq2 => ?_)
  obtain ⟨rfl, hm2, hF2⟩ := hp2
  refine xg (g2 := F0 m 210 ls [.int (op_shared (n, t, rg, g) (ys (5 * k0 + 1)) (ys (5 * k0 + 2)) (ys (5 * k0 + 3))).1, .int (op_shared (n, t, rg, g) (ys (5 * k0 + 1)) (ys (5 * k0 + 2)) (ys (5 * k0 + 3))).1]) rfl ?_
  refine xb (fun _ => lv_icmp_eq (tgt := 747) hx hb dL_law_210 (by decide)) (fun _ => ?_) (fun q => absurd rfl q)
  exact xw (by omega) (by omega) (K _ H2 (opn_shared (n, t, rg, g) (ys (5 * k0 + 1)) (ys (5 * k0 + 2)) (ys (5 * k0 + 3))) ⟨lw_J2 hc1 hF2, hm2⟩)
set_option maxHeartbeats 4000000 in
set_option maxRecDepth 100000 in
theorem law_agreed (l : Launch) (hX : va_X b L ys s s.heap) (hbl : b < s.heap.size) (hB : sg_B G = s.heap.size) (hL : L ≤ 2560) (E : xE p s m #[Value.ref b] meth c G RL cL_law 4 ret) (h5 : 5 * k0 + 5 ≤ L) (hn1 : n < 512) (hJ : lw_J G s.heap.size (n, t, rg, g) H) (hcs : cells + 2 ≤ 600000) (hss : slots + 11 ≤ 7302250) (hl : lv_has ls 4 [(3, .int (nI (5 * k0))), (2, .ref (s.heap.size + 4)), (1, .ref s.heap.size), (0, .ref b)])
    (K : ∀ (a1 : sp_S) (H1 : Heap), a1.1 ≤ n + 1 → lw_J G s.heap.size a1 H1 → xV p l e room_1 s m #[Value.ref b] below meth c G H1 (cells + 2) (slots + 11) Q (F0 m 747 ls [])) : xV p l e room_1 s m #[Value.ref b] below meth c G H cells slots Q (F0 m 215 ls []) := by
  obtain ⟨hx, hb, hml, hown, hts, hr, hlocks, hK, hbs⟩ := id E
  refine xl (fun _ => lv_aload_n hx hb dL_law_215 rfl (lv_at hl 2 rfl)) ?_
  refine xl (fun _ => lv_aload_n hx hb dL_law_216 rfl (lv_at hl 3 rfl)) ?_
  refine xl (fun _ => lv_iload_n hx hb dL_law_217 rfl (lv_at hl 0 rfl)) ?_
  refine xl (fun _ => lv_iconst (v := 1) hx hb dL_law_218 (by decide)) ?_
  refine xl (fun _ => lv_iadd hx hb dL_law_219) ?_
  refine x_sld hx hb hX hbl hB hL (5 * k0 + 1) (nI_add (5 * k0) 1) (by omega) dL_law_220 ?_
  refine xl (fun _ => lv_aload_n hx hb dL_law_221 rfl (lv_at hl 3 rfl)) ?_
  refine xl (fun _ => lv_iload_n hx hb dL_law_222 rfl (lv_at hl 0 rfl)) ?_
  refine xl (fun _ => lv_iconst (v := 2) hx hb dL_law_223 (by decide)) ?_
  refine xl (fun _ => lv_iadd hx hb dL_law_224) ?_
  refine x_sld hx hb hX hbl hB hL (5 * k0 + 2) (nI_add (5 * k0) 2) (by omega) dL_law_225 ?_
  refine xl (fun _ => lv_aload_n hx hb dL_law_226 rfl (lv_at hl 3 rfl)) ?_
  refine xl (fun _ => lv_iload_n hx hb dL_law_227 rfl (lv_at hl 0 rfl)) ?_
  refine xl (fun _ => lv_iconst (v := 3) hx hb dL_law_228 (by decide)) ?_
  refine xl (fun _ => lv_iadd hx hb dL_law_229) ?_
  refine x_sld hx hb hX hbl hB hL (5 * k0 + 3) (nI_add (5 * k0) 3) (by omega) dL_law_230 ?_
  obtain ⟨fs1, ho1⟩ := sc_H.ob hJ.1
  refine x_callV E hl (c_X1_agreed l G H s.heap.size (s.heap.size + 14) n t rg g hJ.1 hn1 (ys (5 * k0 + 1)) (ys (5 * k0 + 2)) (ys (5 * k0 + 3))) xm_yX1_agreed wML_28 wI_yX1_agreed wT_yX1_agreed (ci := 1) rfl rfl ho1 (rest := []) rfl (by decide) (by decide) ⟨by show _ ≤ 600000; omega, by show _ ≤ 7302250; omega⟩ dL_law_231 (fun v1 H1 hp1 hz1 hq1 => ?_)
  obtain ⟨rfl, hc1, hF1⟩ := hp1
  have hm1 : sm_HS G (s.heap.size + 4) (n, t, rg, g) H1 := lw_J1 hJ.2 hF1
  refine xg (g2 := F0 m 234 ls [.int (op_agreed (n, t, rg, g) (ys (5 * k0 + 1)) (ys (5 * k0 + 2)) (ys (5 * k0 + 3))).1]) rfl ?_
  refine xl (fun _ => lv_aload_n hx hb dL_law_234 rfl (lv_at hl 1 rfl)) ?_
  refine xl (fun _ => lv_aload_n hx hb dL_law_235 rfl (lv_at hl 3 rfl)) ?_
  refine xl (fun _ => lv_iload_n hx hb dL_law_236 rfl (lv_at hl 0 rfl)) ?_
  refine xl (fun _ => lv_iconst (v := 1) hx hb dL_law_237 (by decide)) ?_
  refine xl (fun _ => lv_iadd hx hb dL_law_238) ?_
  refine x_sld hx hb hX hbl hB hL (5 * k0 + 1) (nI_add (5 * k0) 1) (by omega) dL_law_239 ?_
  refine xl (fun _ => lv_aload_n hx hb dL_law_240 rfl (lv_at hl 3 rfl)) ?_
  refine xl (fun _ => lv_iload_n hx hb dL_law_241 rfl (lv_at hl 0 rfl)) ?_
  refine xl (fun _ => lv_iconst (v := 2) hx hb dL_law_242 (by decide)) ?_
  refine xl (fun _ => lv_iadd hx hb dL_law_243) ?_
  refine x_sld hx hb hX hbl hB hL (5 * k0 + 2) (nI_add (5 * k0) 2) (by omega) dL_law_244 ?_
  refine xl (fun _ => lv_aload_n hx hb dL_law_245 rfl (lv_at hl 3 rfl)) ?_
  refine xl (fun _ => lv_iload_n hx hb dL_law_246 rfl (lv_at hl 0 rfl)) ?_
  refine xl (fun _ => lv_iconst (v := 3) hx hb dL_law_247 (by decide)) ?_
  refine xl (fun _ => lv_iadd hx hb dL_law_248) ?_
  refine x_sld hx hb hX hbl hB hL (5 * k0 + 3) (nI_add (5 * k0) 3) (by omega) dL_law_249 ?_
  obtain ⟨fs2, ho2⟩ := sm_H.ob hm1
  refine x_callV E hl (c_X2_agreed l G H1 (s.heap.size + 4) n t rg g hm1 hn1 (ys (5 * k0 + 1)) (ys (5 * k0 + 2)) (ys (5 * k0 + 3))) xm_yX2_agreed wML_31 wI_yX2_agreed wT_yX2_agreed (ci := 2) rfl rfl ho2 (rest := [.int (op_agreed (n, t, rg, g) (ys (5 * k0 + 1)) (ys (5 * k0 + 2)) (ys (5 * k0 + 3))).1]) rfl (by simp [cat_int]) (by decide) ⟨by show _ ≤ 600000; omega, by show _ ≤ 7302250; omega⟩ dL_law_250 (fun v2 H2 hp2 hz2 hq2 => ?_)
  obtain ⟨rfl, hm2, hF2⟩ := hp2
  refine xg (g2 := F0 m 253 ls [.int (op_agreed (n, t, rg, g) (ys (5 * k0 + 1)) (ys (5 * k0 + 2)) (ys (5 * k0 + 3))).1, .int (op_agreed (n, t, rg, g) (ys (5 * k0 + 1)) (ys (5 * k0 + 2)) (ys (5 * k0 + 3))).1]) rfl ?_
  refine xb (fun _ => lv_icmp_eq (tgt := 747) hx hb dL_law_253 (by decide)) (fun _ => ?_) (fun q => absurd rfl q)
  exact xw (by omega) (by omega) (K _ H2 (opn_agreed (n, t, rg, g) (ys (5 * k0 + 1)) (ys (5 * k0 + 2)) (ys (5 * k0 + 3))) ⟨lw_J2 hc1 hF2, hm2⟩)
set_option maxHeartbeats 4000000 in
set_option maxRecDepth 100000 in
theorem law_mix (l : Launch) (hX : va_X b L ys s s.heap) (hbl : b < s.heap.size) (hB : sg_B G = s.heap.size) (hL : L ≤ 2560) (E : xE p s m #[Value.ref b] meth c G RL cL_law 4 ret) (h5 : 5 * k0 + 5 ≤ L) (hn1 : n < 512) (hJ : lw_J G s.heap.size (n, t, rg, g) H) (hcs : cells + 2 ≤ 600000) (hss : slots + 11 ≤ 7302250) (hl : lv_has ls 4 [(3, .int (nI (5 * k0))), (2, .ref (s.heap.size + 4)), (1, .ref s.heap.size), (0, .ref b)])
    (K : ∀ (a1 : sp_S) (H1 : Heap), a1.1 ≤ n + 1 → lw_J G s.heap.size a1 H1 → xV p l e room_1 s m #[Value.ref b] below meth c G H1 (cells + 2) (slots + 11) Q (F0 m 747 ls [])) : xV p l e room_1 s m #[Value.ref b] below meth c G H cells slots Q (F0 m 258 ls []) := by
  obtain ⟨hx, hb, hml, hown, hts, hr, hlocks, hK, hbs⟩ := id E
  refine xl (fun _ => lv_aload_n hx hb dL_law_258 rfl (lv_at hl 2 rfl)) ?_
  refine xl (fun _ => lv_aload_n hx hb dL_law_259 rfl (lv_at hl 3 rfl)) ?_
  refine xl (fun _ => lv_iload_n hx hb dL_law_260 rfl (lv_at hl 0 rfl)) ?_
  refine xl (fun _ => lv_iconst (v := 1) hx hb dL_law_261 (by decide)) ?_
  refine xl (fun _ => lv_iadd hx hb dL_law_262) ?_
  refine x_sld hx hb hX hbl hB hL (5 * k0 + 1) (nI_add (5 * k0) 1) (by omega) dL_law_263 ?_
  refine xl (fun _ => lv_aload_n hx hb dL_law_264 rfl (lv_at hl 3 rfl)) ?_
  refine xl (fun _ => lv_iload_n hx hb dL_law_265 rfl (lv_at hl 0 rfl)) ?_
  refine xl (fun _ => lv_iconst (v := 2) hx hb dL_law_266 (by decide)) ?_
  refine xl (fun _ => lv_iadd hx hb dL_law_267) ?_
  refine x_sld hx hb hX hbl hB hL (5 * k0 + 2) (nI_add (5 * k0) 2) (by omega) dL_law_268 ?_
  refine xl (fun _ => lv_aload_n hx hb dL_law_269 rfl (lv_at hl 3 rfl)) ?_
  refine xl (fun _ => lv_iload_n hx hb dL_law_270 rfl (lv_at hl 0 rfl)) ?_
  refine xl (fun _ => lv_iconst (v := 3) hx hb dL_law_271 (by decide)) ?_
  refine xl (fun _ => lv_iadd hx hb dL_law_272) ?_
  refine x_sld hx hb hX hbl hB hL (5 * k0 + 3) (nI_add (5 * k0) 3) (by omega) dL_law_273 ?_
  refine xl (fun _ => lv_aload_n hx hb dL_law_274 rfl (lv_at hl 3 rfl)) ?_
  refine xl (fun _ => lv_iload_n hx hb dL_law_275 rfl (lv_at hl 0 rfl)) ?_
  refine xl (fun _ => lv_iconst (v := 4) hx hb dL_law_276 (by decide)) ?_
  refine xl (fun _ => lv_iadd hx hb dL_law_277) ?_
  refine x_sld hx hb hX hbl hB hL (5 * k0 + 4) (nI_add (5 * k0) 4) (by omega) dL_law_278 ?_
  obtain ⟨fs1, ho1⟩ := sc_H.ob hJ.1
  refine x_callV E hl (c_X1_mix l G H s.heap.size (s.heap.size + 14) n t rg g hJ.1 hn1 (ys (5 * k0 + 1)) (ys (5 * k0 + 2)) (ys (5 * k0 + 3)) (ys (5 * k0 + 4))) xm_yX1_mix wML_32 wI_yX1_mix wT_yX1_mix (ci := 1) rfl rfl ho1 (rest := []) rfl (by decide) (by decide) ⟨by show _ ≤ 600000; omega, by show _ ≤ 7302250; omega⟩ dL_law_279 (fun v1 H1 hp1 hz1 hq1 => ?_)
  obtain ⟨rfl, hc1, hF1⟩ := hp1
  have hm1 : sm_HS G (s.heap.size + 4) (n, t, rg, g) H1 := lw_J1 hJ.2 hF1
  refine xg (g2 := F0 m 282 ls [.int (op_mix (n, t, rg, g) (ys (5 * k0 + 1)) (ys (5 * k0 + 2)) (ys (5 * k0 + 3)) (ys (5 * k0 + 4))).1]) rfl ?_
  refine xl (fun _ => lv_aload_n hx hb dL_law_282 rfl (lv_at hl 1 rfl)) ?_
  refine xl (fun _ => lv_aload_n hx hb dL_law_283 rfl (lv_at hl 3 rfl)) ?_
  refine xl (fun _ => lv_iload_n hx hb dL_law_284 rfl (lv_at hl 0 rfl)) ?_
  refine xl (fun _ => lv_iconst (v := 1) hx hb dL_law_285 (by decide)) ?_
  refine xl (fun _ => lv_iadd hx hb dL_law_286) ?_
  refine x_sld hx hb hX hbl hB hL (5 * k0 + 1) (nI_add (5 * k0) 1) (by omega) dL_law_287 ?_
  refine xl (fun _ => lv_aload_n hx hb dL_law_288 rfl (lv_at hl 3 rfl)) ?_
  refine xl (fun _ => lv_iload_n hx hb dL_law_289 rfl (lv_at hl 0 rfl)) ?_
  refine xl (fun _ => lv_iconst (v := 2) hx hb dL_law_290 (by decide)) ?_
  refine xl (fun _ => lv_iadd hx hb dL_law_291) ?_
  refine x_sld hx hb hX hbl hB hL (5 * k0 + 2) (nI_add (5 * k0) 2) (by omega) dL_law_292 ?_
  refine xl (fun _ => lv_aload_n hx hb dL_law_293 rfl (lv_at hl 3 rfl)) ?_
  refine xl (fun _ => lv_iload_n hx hb dL_law_294 rfl (lv_at hl 0 rfl)) ?_
  refine xl (fun _ => lv_iconst (v := 3) hx hb dL_law_295 (by decide)) ?_
  refine xl (fun _ => lv_iadd hx hb dL_law_296) ?_
  refine x_sld hx hb hX hbl hB hL (5 * k0 + 3) (nI_add (5 * k0) 3) (by omega) dL_law_297 ?_
  refine xl (fun _ => lv_aload_n hx hb dL_law_298 rfl (lv_at hl 3 rfl)) ?_
  refine xl (fun _ => lv_iload_n hx hb dL_law_299 rfl (lv_at hl 0 rfl)) ?_
  refine xl (fun _ => lv_iconst (v := 4) hx hb dL_law_300 (by decide)) ?_
  refine xl (fun _ => lv_iadd hx hb dL_law_301) ?_
  refine x_sld hx hb hX hbl hB hL (5 * k0 + 4) (nI_add (5 * k0) 4) (by omega) dL_law_302 ?_
  obtain ⟨fs2, ho2⟩ := sm_H.ob hm1
  refine x_callV E hl (c_X2_mix l G H1 (s.heap.size + 4) n t rg g hm1 hn1 (ys (5 * k0 + 1)) (ys (5 * k0 + 2)) (ys (5 * k0 + 3)) (ys (5 * k0 + 4))) xm_yX2_mix wML_36 wI_yX2_mix wT_yX2_mix (ci := 2) rfl rfl ho2 (rest := [.int (op_mix (n, t, rg, g) (ys (5 * k0 + 1)) (ys (5 * k0 + 2)) (ys (5 * k0 + 3)) (ys (5 * k0 + 4))).1]) rfl (by simp [cat_int]) (by decide) ⟨by show _ ≤ 600000; omega, by show _ ≤ 7302250; omega⟩ dL_law_303 (fun v2 H2 hp2 hz2 hq2 => ?_)
  obtain ⟨rfl, hm2, hF2⟩ := hp2
  refine xg (g2 := F0 m 306 ls [.int (op_mix (n, t, rg, g) (ys (5 * k0 + 1)) (ys (5 * k0 + 2)) (ys (5 * k0 + 3)) (ys (5 * k0 + 4))).1, .int (op_mix (n, t, rg, g) (ys (5 * k0 + 1)) (ys (5 * k0 + 2)) (ys (5 * k0 + 3)) (ys (5 * k0 + 4))).1]) rfl ?_
  refine xb (fun _ => lv_icmp_eq (tgt := 747) hx hb dL_law_306 (by decide)) (fun _ => ?_) (fun q => absurd rfl q)
  exact xw (by omega) (by omega) (K _ H2 (opn_mix (n, t, rg, g) (ys (5 * k0 + 1)) (ys (5 * k0 + 2)) (ys (5 * k0 + 3)) (ys (5 * k0 + 4))) ⟨lw_J2 hc1 hF2, hm2⟩)
set_option maxHeartbeats 4000000 in
set_option maxRecDepth 100000 in
theorem law_sealed (l : Launch) (hX : va_X b L ys s s.heap) (hbl : b < s.heap.size) (hB : sg_B G = s.heap.size) (hL : L ≤ 2560) (E : xE p s m #[Value.ref b] meth c G RL cL_law 4 ret) (h5 : 5 * k0 + 5 ≤ L) (hn1 : n < 512) (hJ : lw_J G s.heap.size (n, t, rg, g) H) (hcs : cells + 2 ≤ 600000) (hss : slots + 11 ≤ 7302250) (hl : lv_has ls 4 [(3, .int (nI (5 * k0))), (2, .ref (s.heap.size + 4)), (1, .ref s.heap.size), (0, .ref b)])
    (K : ∀ (a1 : sp_S) (H1 : Heap), a1.1 ≤ n + 1 → lw_J G s.heap.size a1 H1 → xV p l e room_1 s m #[Value.ref b] below meth c G H1 (cells + 2) (slots + 11) Q (F0 m 747 ls [])) : xV p l e room_1 s m #[Value.ref b] below meth c G H cells slots Q (F0 m 311 ls []) := by
  obtain ⟨hx, hb, hml, hown, hts, hr, hlocks, hK, hbs⟩ := id E
  refine xl (fun _ => lv_aload_n hx hb dL_law_311 rfl (lv_at hl 2 rfl)) ?_
  refine xl (fun _ => lv_aload_n hx hb dL_law_312 rfl (lv_at hl 3 rfl)) ?_
  refine xl (fun _ => lv_iload_n hx hb dL_law_313 rfl (lv_at hl 0 rfl)) ?_
  refine xl (fun _ => lv_iconst (v := 1) hx hb dL_law_314 (by decide)) ?_
  refine xl (fun _ => lv_iadd hx hb dL_law_315) ?_
  refine x_sld hx hb hX hbl hB hL (5 * k0 + 1) (nI_add (5 * k0) 1) (by omega) dL_law_316 ?_
  refine xl (fun _ => lv_aload_n hx hb dL_law_317 rfl (lv_at hl 3 rfl)) ?_
  refine xl (fun _ => lv_iload_n hx hb dL_law_318 rfl (lv_at hl 0 rfl)) ?_
  refine xl (fun _ => lv_iconst (v := 2) hx hb dL_law_319 (by decide)) ?_
  refine xl (fun _ => lv_iadd hx hb dL_law_320) ?_
  refine x_sld hx hb hX hbl hB hL (5 * k0 + 2) (nI_add (5 * k0) 2) (by omega) dL_law_321 ?_
  refine xl (fun _ => lv_aload_n hx hb dL_law_322 rfl (lv_at hl 3 rfl)) ?_
  refine xl (fun _ => lv_iload_n hx hb dL_law_323 rfl (lv_at hl 0 rfl)) ?_
  refine xl (fun _ => lv_iconst (v := 3) hx hb dL_law_324 (by decide)) ?_
  refine xl (fun _ => lv_iadd hx hb dL_law_325) ?_
  refine x_sld hx hb hX hbl hB hL (5 * k0 + 3) (nI_add (5 * k0) 3) (by omega) dL_law_326 ?_
  refine xl (fun _ => lv_aload_n hx hb dL_law_327 rfl (lv_at hl 3 rfl)) ?_
  refine xl (fun _ => lv_iload_n hx hb dL_law_328 rfl (lv_at hl 0 rfl)) ?_
  refine xl (fun _ => lv_iconst (v := 4) hx hb dL_law_329 (by decide)) ?_
  refine xl (fun _ => lv_iadd hx hb dL_law_330) ?_
  refine x_sld hx hb hX hbl hB hL (5 * k0 + 4) (nI_add (5 * k0) 4) (by omega) dL_law_331 ?_
  obtain ⟨fs1, ho1⟩ := sc_H.ob hJ.1
  refine x_callV E hl (c_X1_sealed l G H s.heap.size (s.heap.size + 14) n t rg g hJ.1 hn1 (ys (5 * k0 + 1)) (ys (5 * k0 + 2)) (ys (5 * k0 + 3)) (ys (5 * k0 + 4))) xm_yX1_sealed wML_37 wI_yX1_sealed wT_yX1_sealed (ci := 1) rfl rfl ho1 (rest := []) rfl (by decide) (by decide) ⟨by show _ ≤ 600000; omega, by show _ ≤ 7302250; omega⟩ dL_law_332 (fun v1 H1 hp1 hz1 hq1 => ?_)
  obtain ⟨rfl, hc1, hF1⟩ := hp1
  have hm1 : sm_HS G (s.heap.size + 4) (n, t, rg, g) H1 := lw_J1 hJ.2 hF1
  refine xg (g2 := F0 m 335 ls [.int (op_sealed (n, t, rg, g) (ys (5 * k0 + 1)) (ys (5 * k0 + 2)) (ys (5 * k0 + 3)) (ys (5 * k0 + 4))).1]) rfl ?_
  refine xl (fun _ => lv_aload_n hx hb dL_law_335 rfl (lv_at hl 1 rfl)) ?_
  refine xl (fun _ => lv_aload_n hx hb dL_law_336 rfl (lv_at hl 3 rfl)) ?_
  refine xl (fun _ => lv_iload_n hx hb dL_law_337 rfl (lv_at hl 0 rfl)) ?_
  refine xl (fun _ => lv_iconst (v := 1) hx hb dL_law_338 (by decide)) ?_
  refine xl (fun _ => lv_iadd hx hb dL_law_339) ?_
  refine x_sld hx hb hX hbl hB hL (5 * k0 + 1) (nI_add (5 * k0) 1) (by omega) dL_law_340 ?_
  refine xl (fun _ => lv_aload_n hx hb dL_law_341 rfl (lv_at hl 3 rfl)) ?_
  refine xl (fun _ => lv_iload_n hx hb dL_law_342 rfl (lv_at hl 0 rfl)) ?_
  refine xl (fun _ => lv_iconst (v := 2) hx hb dL_law_343 (by decide)) ?_
  refine xl (fun _ => lv_iadd hx hb dL_law_344) ?_
  refine x_sld hx hb hX hbl hB hL (5 * k0 + 2) (nI_add (5 * k0) 2) (by omega) dL_law_345 ?_
  refine xl (fun _ => lv_aload_n hx hb dL_law_346 rfl (lv_at hl 3 rfl)) ?_
  refine xl (fun _ => lv_iload_n hx hb dL_law_347 rfl (lv_at hl 0 rfl)) ?_
  refine xl (fun _ => lv_iconst (v := 3) hx hb dL_law_348 (by decide)) ?_
  refine xl (fun _ => lv_iadd hx hb dL_law_349) ?_
  refine x_sld hx hb hX hbl hB hL (5 * k0 + 3) (nI_add (5 * k0) 3) (by omega) dL_law_350 ?_
  refine xl (fun _ => lv_aload_n hx hb dL_law_351 rfl (lv_at hl 3 rfl)) ?_
  refine xl (fun _ => lv_iload_n hx hb dL_law_352 rfl (lv_at hl 0 rfl)) ?_
  refine xl (fun _ => lv_iconst (v := 4) hx hb dL_law_353 (by decide)) ?_
  refine xl (fun _ => lv_iadd hx hb dL_law_354) ?_
  refine x_sld hx hb hX hbl hB hL (5 * k0 + 4) (nI_add (5 * k0) 4) (by omega) dL_law_355 ?_
  obtain ⟨fs2, ho2⟩ := sm_H.ob hm1
  refine x_callV E hl (c_X2_sealed l G H1 (s.heap.size + 4) n t rg g hm1 hn1 (ys (5 * k0 + 1)) (ys (5 * k0 + 2)) (ys (5 * k0 + 3)) (ys (5 * k0 + 4))) xm_yX2_sealed wML_40 wI_yX2_sealed wT_yX2_sealed (ci := 2) rfl rfl ho2 (rest := [.int (op_sealed (n, t, rg, g) (ys (5 * k0 + 1)) (ys (5 * k0 + 2)) (ys (5 * k0 + 3)) (ys (5 * k0 + 4))).1]) rfl (by simp [cat_int]) (by decide) ⟨by show _ ≤ 600000; omega, by show _ ≤ 7302250; omega⟩ dL_law_356 (fun v2 H2 hp2 hz2 hq2 => ?_)
  obtain ⟨rfl, hm2, hF2⟩ := hp2
  refine xg (g2 := F0 m 359 ls [.int (op_sealed (n, t, rg, g) (ys (5 * k0 + 1)) (ys (5 * k0 + 2)) (ys (5 * k0 + 3)) (ys (5 * k0 + 4))).1, .int (op_sealed (n, t, rg, g) (ys (5 * k0 + 1)) (ys (5 * k0 + 2)) (ys (5 * k0 + 3)) (ys (5 * k0 + 4))).1]) rfl ?_
  refine xb (fun _ => lv_icmp_eq (tgt := 747) hx hb dL_law_359 (by decide)) (fun _ => ?_) (fun q => absurd rfl q)
  exact xw (by omega) (by omega) (K _ H2 (opn_sealed (n, t, rg, g) (ys (5 * k0 + 1)) (ys (5 * k0 + 2)) (ys (5 * k0 + 3)) (ys (5 * k0 + 4))) ⟨lw_J2 hc1 hF2, hm2⟩)
set_option maxHeartbeats 4000000 in
set_option maxRecDepth 100000 in
theorem law_signed (l : Launch) (hX : va_X b L ys s s.heap) (hbl : b < s.heap.size) (hB : sg_B G = s.heap.size) (hL : L ≤ 2560) (E : xE p s m #[Value.ref b] meth c G RL cL_law 4 ret) (h5 : 5 * k0 + 5 ≤ L) (hn1 : n < 512) (hJ : lw_J G s.heap.size (n, t, rg, g) H) (hcs : cells + 2 ≤ 600000) (hss : slots + 11 ≤ 7302250) (hl : lv_has ls 4 [(3, .int (nI (5 * k0))), (2, .ref (s.heap.size + 4)), (1, .ref s.heap.size), (0, .ref b)])
    (K : ∀ (a1 : sp_S) (H1 : Heap), a1.1 ≤ n + 1 → lw_J G s.heap.size a1 H1 → xV p l e room_1 s m #[Value.ref b] below meth c G H1 (cells + 2) (slots + 11) Q (F0 m 747 ls [])) : xV p l e room_1 s m #[Value.ref b] below meth c G H cells slots Q (F0 m 364 ls []) := by
  obtain ⟨hx, hb, hml, hown, hts, hr, hlocks, hK, hbs⟩ := id E
  refine xl (fun _ => lv_aload_n hx hb dL_law_364 rfl (lv_at hl 2 rfl)) ?_
  refine xl (fun _ => lv_aload_n hx hb dL_law_365 rfl (lv_at hl 3 rfl)) ?_
  refine xl (fun _ => lv_iload_n hx hb dL_law_366 rfl (lv_at hl 0 rfl)) ?_
  refine xl (fun _ => lv_iconst (v := 1) hx hb dL_law_367 (by decide)) ?_
  refine xl (fun _ => lv_iadd hx hb dL_law_368) ?_
  refine x_sld hx hb hX hbl hB hL (5 * k0 + 1) (nI_add (5 * k0) 1) (by omega) dL_law_369 ?_
  refine xl (fun _ => lv_aload_n hx hb dL_law_370 rfl (lv_at hl 3 rfl)) ?_
  refine xl (fun _ => lv_iload_n hx hb dL_law_371 rfl (lv_at hl 0 rfl)) ?_
  refine xl (fun _ => lv_iconst (v := 2) hx hb dL_law_372 (by decide)) ?_
  refine xl (fun _ => lv_iadd hx hb dL_law_373) ?_
  refine x_sld hx hb hX hbl hB hL (5 * k0 + 2) (nI_add (5 * k0) 2) (by omega) dL_law_374 ?_
  refine xl (fun _ => lv_aload_n hx hb dL_law_375 rfl (lv_at hl 3 rfl)) ?_
  refine xl (fun _ => lv_iload_n hx hb dL_law_376 rfl (lv_at hl 0 rfl)) ?_
  refine xl (fun _ => lv_iconst (v := 3) hx hb dL_law_377 (by decide)) ?_
  refine xl (fun _ => lv_iadd hx hb dL_law_378) ?_
  refine x_sld hx hb hX hbl hB hL (5 * k0 + 3) (nI_add (5 * k0) 3) (by omega) dL_law_379 ?_
  obtain ⟨fs1, ho1⟩ := sc_H.ob hJ.1
  refine x_callV E hl (c_X1_signed l G H s.heap.size (s.heap.size + 14) n t rg g hJ.1 hn1 (ys (5 * k0 + 1)) (ys (5 * k0 + 2)) (ys (5 * k0 + 3))) xm_yX1_signed wML_41 wI_yX1_signed wT_yX1_signed (ci := 1) rfl rfl ho1 (rest := []) rfl (by decide) (by decide) ⟨by show _ ≤ 600000; omega, by show _ ≤ 7302250; omega⟩ dL_law_380 (fun v1 H1 hp1 hz1 hq1 => ?_)
  obtain ⟨rfl, hc1, hF1⟩ := hp1
  have hm1 : sm_HS G (s.heap.size + 4) (n, t, rg, g) H1 := lw_J1 hJ.2 hF1
  refine xg (g2 := F0 m 383 ls [.int (op_signed (n, t, rg, g) (ys (5 * k0 + 1)) (ys (5 * k0 + 2)) (ys (5 * k0 + 3))).1]) rfl ?_
  refine xl (fun _ => lv_aload_n hx hb dL_law_383 rfl (lv_at hl 1 rfl)) ?_
  refine xl (fun _ => lv_aload_n hx hb dL_law_384 rfl (lv_at hl 3 rfl)) ?_
  refine xl (fun _ => lv_iload_n hx hb dL_law_385 rfl (lv_at hl 0 rfl)) ?_
  refine xl (fun _ => lv_iconst (v := 1) hx hb dL_law_386 (by decide)) ?_
  refine xl (fun _ => lv_iadd hx hb dL_law_387) ?_
  refine x_sld hx hb hX hbl hB hL (5 * k0 + 1) (nI_add (5 * k0) 1) (by omega) dL_law_388 ?_
  refine xl (fun _ => lv_aload_n hx hb dL_law_389 rfl (lv_at hl 3 rfl)) ?_
  refine xl (fun _ => lv_iload_n hx hb dL_law_390 rfl (lv_at hl 0 rfl)) ?_
  refine xl (fun _ => lv_iconst (v := 2) hx hb dL_law_391 (by decide)) ?_
  refine xl (fun _ => lv_iadd hx hb dL_law_392) ?_
  refine x_sld hx hb hX hbl hB hL (5 * k0 + 2) (nI_add (5 * k0) 2) (by omega) dL_law_393 ?_
  refine xl (fun _ => lv_aload_n hx hb dL_law_394 rfl (lv_at hl 3 rfl)) ?_
  refine xl (fun _ => lv_iload_n hx hb dL_law_395 rfl (lv_at hl 0 rfl)) ?_
  refine xl (fun _ => lv_iconst (v := 3) hx hb dL_law_396 (by decide)) ?_
  refine xl (fun _ => lv_iadd hx hb dL_law_397) ?_
  refine x_sld hx hb hX hbl hB hL (5 * k0 + 3) (nI_add (5 * k0) 3) (by omega) dL_law_398 ?_
  obtain ⟨fs2, ho2⟩ := sm_H.ob hm1
  refine x_callV E hl (c_X2_signed l G H1 (s.heap.size + 4) n t rg g hm1 hn1 (ys (5 * k0 + 1)) (ys (5 * k0 + 2)) (ys (5 * k0 + 3))) xm_yX2_signed wML_44 wI_yX2_signed wT_yX2_signed (ci := 2) rfl rfl ho2 (rest := [.int (op_signed (n, t, rg, g) (ys (5 * k0 + 1)) (ys (5 * k0 + 2)) (ys (5 * k0 + 3))).1]) rfl (by simp [cat_int]) (by decide) ⟨by show _ ≤ 600000; omega, by show _ ≤ 7302250; omega⟩ dL_law_399 (fun v2 H2 hp2 hz2 hq2 => ?_)
  obtain ⟨rfl, hm2, hF2⟩ := hp2
  refine xg (g2 := F0 m 402 ls [.int (op_signed (n, t, rg, g) (ys (5 * k0 + 1)) (ys (5 * k0 + 2)) (ys (5 * k0 + 3))).1, .int (op_signed (n, t, rg, g) (ys (5 * k0 + 1)) (ys (5 * k0 + 2)) (ys (5 * k0 + 3))).1]) rfl ?_
  refine xb (fun _ => lv_icmp_eq (tgt := 747) hx hb dL_law_402 (by decide)) (fun _ => ?_) (fun q => absurd rfl q)
  exact xw (by omega) (by omega) (K _ H2 (opn_signed (n, t, rg, g) (ys (5 * k0 + 1)) (ys (5 * k0 + 2)) (ys (5 * k0 + 3))) ⟨lw_J2 hc1 hF2, hm2⟩)
set_option maxHeartbeats 4000000 in
set_option maxRecDepth 100000 in
theorem law_row (l : Launch) (hX : va_X b L ys s s.heap) (hbl : b < s.heap.size) (hB : sg_B G = s.heap.size) (hL : L ≤ 2560) (E : xE p s m #[Value.ref b] meth c G RL cL_law 4 ret) (h5 : 5 * k0 + 5 ≤ L) (hn1 : n < 512) (hJ : lw_J G s.heap.size (n, t, rg, g) H) (hcs : cells + 2 ≤ 600000) (hss : slots + 11 ≤ 7302250) (hl : lv_has ls 4 [(3, .int (nI (5 * k0))), (2, .ref (s.heap.size + 4)), (1, .ref s.heap.size), (0, .ref b)])
    (K : ∀ (a1 : sp_S) (H1 : Heap), a1.1 ≤ n + 1 → lw_J G s.heap.size a1 H1 → xV p l e room_1 s m #[Value.ref b] below meth c G H1 (cells + 2) (slots + 11) Q (F0 m 747 ls [])) : xV p l e room_1 s m #[Value.ref b] below meth c G H cells slots Q (F0 m 407 ls []) := by
  obtain ⟨hx, hb, hml, hown, hts, hr, hlocks, hK, hbs⟩ := id E
  refine xl (fun _ => lv_aload_n hx hb dL_law_407 rfl (lv_at hl 2 rfl)) ?_
  refine xl (fun _ => lv_aload_n hx hb dL_law_408 rfl (lv_at hl 3 rfl)) ?_
  refine xl (fun _ => lv_iload_n hx hb dL_law_409 rfl (lv_at hl 0 rfl)) ?_
  refine xl (fun _ => lv_iconst (v := 1) hx hb dL_law_410 (by decide)) ?_
  refine xl (fun _ => lv_iadd hx hb dL_law_411) ?_
  refine x_sld hx hb hX hbl hB hL (5 * k0 + 1) (nI_add (5 * k0) 1) (by omega) dL_law_412 ?_
  refine xl (fun _ => lv_aload_n hx hb dL_law_413 rfl (lv_at hl 3 rfl)) ?_
  refine xl (fun _ => lv_iload_n hx hb dL_law_414 rfl (lv_at hl 0 rfl)) ?_
  refine xl (fun _ => lv_iconst (v := 2) hx hb dL_law_415 (by decide)) ?_
  refine xl (fun _ => lv_iadd hx hb dL_law_416) ?_
  refine x_sld hx hb hX hbl hB hL (5 * k0 + 2) (nI_add (5 * k0) 2) (by omega) dL_law_417 ?_
  obtain ⟨fs1, ho1⟩ := sc_H.ob hJ.1
  refine x_callV E hl (c_X1_row l G H s.heap.size (s.heap.size + 14) n t rg g hJ.1 hn1 (ys (5 * k0 + 1)) (ys (5 * k0 + 2))) xm_yX1_row wML_45 wI_yX1_row wT_yX1_row (ci := 1) rfl rfl ho1 (rest := []) rfl (by decide) (by decide) ⟨by show _ ≤ 600000; omega, by show _ ≤ 7302250; omega⟩ dL_law_418 (fun v1 H1 hp1 hz1 hq1 => ?_)
  obtain ⟨rfl, hc1, hF1⟩ := hp1
  have hm1 : sm_HS G (s.heap.size + 4) (n, t, rg, g) H1 := lw_J1 hJ.2 hF1
  refine xg (g2 := F0 m 421 ls [.int (op_row (n, t, rg, g) (ys (5 * k0 + 1)) (ys (5 * k0 + 2))).1]) rfl ?_
  refine xl (fun _ => lv_aload_n hx hb dL_law_421 rfl (lv_at hl 1 rfl)) ?_
  refine xl (fun _ => lv_aload_n hx hb dL_law_422 rfl (lv_at hl 3 rfl)) ?_
  refine xl (fun _ => lv_iload_n hx hb dL_law_423 rfl (lv_at hl 0 rfl)) ?_
  refine xl (fun _ => lv_iconst (v := 1) hx hb dL_law_424 (by decide)) ?_
  refine xl (fun _ => lv_iadd hx hb dL_law_425) ?_
  refine x_sld hx hb hX hbl hB hL (5 * k0 + 1) (nI_add (5 * k0) 1) (by omega) dL_law_426 ?_
  refine xl (fun _ => lv_aload_n hx hb dL_law_427 rfl (lv_at hl 3 rfl)) ?_
  refine xl (fun _ => lv_iload_n hx hb dL_law_428 rfl (lv_at hl 0 rfl)) ?_
  refine xl (fun _ => lv_iconst (v := 2) hx hb dL_law_429 (by decide)) ?_
  refine xl (fun _ => lv_iadd hx hb dL_law_430) ?_
  refine x_sld hx hb hX hbl hB hL (5 * k0 + 2) (nI_add (5 * k0) 2) (by omega) dL_law_431 ?_
  obtain ⟨fs2, ho2⟩ := sm_H.ob hm1
  refine x_callV E hl (c_X2_row l G H1 (s.heap.size + 4) n t rg g hm1 hn1 (ys (5 * k0 + 1)) (ys (5 * k0 + 2))) xm_yX2_row wML_48 wI_yX2_row wT_yX2_row (ci := 2) rfl rfl ho2 (rest := [.int (op_row (n, t, rg, g) (ys (5 * k0 + 1)) (ys (5 * k0 + 2))).1]) rfl (by simp [cat_int]) (by decide) ⟨by show _ ≤ 600000; omega, by show _ ≤ 7302250; omega⟩ dL_law_432 (fun v2 H2 hp2 hz2 hq2 => ?_)
  obtain ⟨rfl, hm2, hF2⟩ := hp2
  refine xg (g2 := F0 m 435 ls [.int (op_row (n, t, rg, g) (ys (5 * k0 + 1)) (ys (5 * k0 + 2))).1, .int (op_row (n, t, rg, g) (ys (5 * k0 + 1)) (ys (5 * k0 + 2))).1]) rfl ?_
  refine xb (fun _ => lv_icmp_eq (tgt := 747) hx hb dL_law_435 (by decide)) (fun _ => ?_) (fun q => absurd rfl q)
  exact xw (by omega) (by omega) (K _ H2 (opn_row (n, t, rg, g) (ys (5 * k0 + 1)) (ys (5 * k0 + 2))) ⟨lw_J2 hc1 hF2, hm2⟩)
set_option maxHeartbeats 4000000 in
set_option maxRecDepth 100000 in
theorem law_alter (l : Launch) (hX : va_X b L ys s s.heap) (hbl : b < s.heap.size) (hB : sg_B G = s.heap.size) (hL : L ≤ 2560) (E : xE p s m #[Value.ref b] meth c G RL cL_law 4 ret) (h5 : 5 * k0 + 5 ≤ L) (hn1 : n < 512) (hJ : lw_J G s.heap.size (n, t, rg, g) H) (hcs : cells + 2 ≤ 600000) (hss : slots + 11 ≤ 7302250) (hl : lv_has ls 4 [(3, .int (nI (5 * k0))), (2, .ref (s.heap.size + 4)), (1, .ref s.heap.size), (0, .ref b)])
    (K : ∀ (a1 : sp_S) (H1 : Heap), a1.1 ≤ n + 1 → lw_J G s.heap.size a1 H1 → xV p l e room_1 s m #[Value.ref b] below meth c G H1 (cells + 2) (slots + 11) Q (F0 m 747 ls [])) : xV p l e room_1 s m #[Value.ref b] below meth c G H cells slots Q (F0 m 440 ls []) := by
  obtain ⟨hx, hb, hml, hown, hts, hr, hlocks, hK, hbs⟩ := id E
  refine xl (fun _ => lv_aload_n hx hb dL_law_440 rfl (lv_at hl 2 rfl)) ?_
  refine xl (fun _ => lv_aload_n hx hb dL_law_441 rfl (lv_at hl 3 rfl)) ?_
  refine xl (fun _ => lv_iload_n hx hb dL_law_442 rfl (lv_at hl 0 rfl)) ?_
  refine xl (fun _ => lv_iconst (v := 1) hx hb dL_law_443 (by decide)) ?_
  refine xl (fun _ => lv_iadd hx hb dL_law_444) ?_
  refine x_sld hx hb hX hbl hB hL (5 * k0 + 1) (nI_add (5 * k0) 1) (by omega) dL_law_445 ?_
  refine xl (fun _ => lv_aload_n hx hb dL_law_446 rfl (lv_at hl 3 rfl)) ?_
  refine xl (fun _ => lv_iload_n hx hb dL_law_447 rfl (lv_at hl 0 rfl)) ?_
  refine xl (fun _ => lv_iconst (v := 2) hx hb dL_law_448 (by decide)) ?_
  refine xl (fun _ => lv_iadd hx hb dL_law_449) ?_
  refine x_sld hx hb hX hbl hB hL (5 * k0 + 2) (nI_add (5 * k0) 2) (by omega) dL_law_450 ?_
  refine xl (fun _ => lv_aload_n hx hb dL_law_451 rfl (lv_at hl 3 rfl)) ?_
  refine xl (fun _ => lv_iload_n hx hb dL_law_452 rfl (lv_at hl 0 rfl)) ?_
  refine xl (fun _ => lv_iconst (v := 3) hx hb dL_law_453 (by decide)) ?_
  refine xl (fun _ => lv_iadd hx hb dL_law_454) ?_
  refine x_sld hx hb hX hbl hB hL (5 * k0 + 3) (nI_add (5 * k0) 3) (by omega) dL_law_455 ?_
  refine xl (fun _ => lv_aload_n hx hb dL_law_456 rfl (lv_at hl 3 rfl)) ?_
  refine xl (fun _ => lv_iload_n hx hb dL_law_457 rfl (lv_at hl 0 rfl)) ?_
  refine xl (fun _ => lv_iconst (v := 4) hx hb dL_law_458 (by decide)) ?_
  refine xl (fun _ => lv_iadd hx hb dL_law_459) ?_
  refine x_sld hx hb hX hbl hB hL (5 * k0 + 4) (nI_add (5 * k0) 4) (by omega) dL_law_460 ?_
  obtain ⟨fs1, ho1⟩ := sc_H.ob hJ.1
  refine x_callV E hl (c_X1_alter l G H s.heap.size (s.heap.size + 14) n t rg g hJ.1 hn1 (ys (5 * k0 + 1)) (ys (5 * k0 + 2)) (ys (5 * k0 + 3)) (ys (5 * k0 + 4))) xm_yX1_alter wML_49 wI_yX1_alter wT_yX1_alter (ci := 1) rfl rfl ho1 (rest := []) rfl (by decide) (by decide) ⟨by show _ ≤ 600000; omega, by show _ ≤ 7302250; omega⟩ dL_law_461 (fun v1 H1 hp1 hz1 hq1 => ?_)
  obtain ⟨rfl, hc1, hF1⟩ := hp1
  have hm1 : sm_HS G (s.heap.size + 4) (n, t, rg, g) H1 := lw_J1 hJ.2 hF1
  refine xg (g2 := F0 m 464 ls [.int (op_alter (n, t, rg, g) (ys (5 * k0 + 1)) (ys (5 * k0 + 2)) (ys (5 * k0 + 3)) (ys (5 * k0 + 4))).1]) rfl ?_
  refine xl (fun _ => lv_aload_n hx hb dL_law_464 rfl (lv_at hl 1 rfl)) ?_
  refine xl (fun _ => lv_aload_n hx hb dL_law_465 rfl (lv_at hl 3 rfl)) ?_
  refine xl (fun _ => lv_iload_n hx hb dL_law_466 rfl (lv_at hl 0 rfl)) ?_
  refine xl (fun _ => lv_iconst (v := 1) hx hb dL_law_467 (by decide)) ?_
  refine xl (fun _ => lv_iadd hx hb dL_law_468) ?_
  refine x_sld hx hb hX hbl hB hL (5 * k0 + 1) (nI_add (5 * k0) 1) (by omega) dL_law_469 ?_
  refine xl (fun _ => lv_aload_n hx hb dL_law_470 rfl (lv_at hl 3 rfl)) ?_
  refine xl (fun _ => lv_iload_n hx hb dL_law_471 rfl (lv_at hl 0 rfl)) ?_
  refine xl (fun _ => lv_iconst (v := 2) hx hb dL_law_472 (by decide)) ?_
  refine xl (fun _ => lv_iadd hx hb dL_law_473) ?_
  refine x_sld hx hb hX hbl hB hL (5 * k0 + 2) (nI_add (5 * k0) 2) (by omega) dL_law_474 ?_
  refine xl (fun _ => lv_aload_n hx hb dL_law_475 rfl (lv_at hl 3 rfl)) ?_
  refine xl (fun _ => lv_iload_n hx hb dL_law_476 rfl (lv_at hl 0 rfl)) ?_
  refine xl (fun _ => lv_iconst (v := 3) hx hb dL_law_477 (by decide)) ?_
  refine xl (fun _ => lv_iadd hx hb dL_law_478) ?_
  refine x_sld hx hb hX hbl hB hL (5 * k0 + 3) (nI_add (5 * k0) 3) (by omega) dL_law_479 ?_
  refine xl (fun _ => lv_aload_n hx hb dL_law_480 rfl (lv_at hl 3 rfl)) ?_
  refine xl (fun _ => lv_iload_n hx hb dL_law_481 rfl (lv_at hl 0 rfl)) ?_
  refine xl (fun _ => lv_iconst (v := 4) hx hb dL_law_482 (by decide)) ?_
  refine xl (fun _ => lv_iadd hx hb dL_law_483) ?_
  refine x_sld hx hb hX hbl hB hL (5 * k0 + 4) (nI_add (5 * k0) 4) (by omega) dL_law_484 ?_
  obtain ⟨fs2, ho2⟩ := sm_H.ob hm1
  refine x_callV E hl (c_X2_alter l G H1 (s.heap.size + 4) n t rg g hm1 hn1 (ys (5 * k0 + 1)) (ys (5 * k0 + 2)) (ys (5 * k0 + 3)) (ys (5 * k0 + 4))) xm_yX2_alter wML_52 wI_yX2_alter wT_yX2_alter (ci := 2) rfl rfl ho2 (rest := [.int (op_alter (n, t, rg, g) (ys (5 * k0 + 1)) (ys (5 * k0 + 2)) (ys (5 * k0 + 3)) (ys (5 * k0 + 4))).1]) rfl (by simp [cat_int]) (by decide) ⟨by show _ ≤ 600000; omega, by show _ ≤ 7302250; omega⟩ dL_law_485 (fun v2 H2 hp2 hz2 hq2 => ?_)
  obtain ⟨rfl, hm2, hF2⟩ := hp2
  refine xg (g2 := F0 m 488 ls [.int (op_alter (n, t, rg, g) (ys (5 * k0 + 1)) (ys (5 * k0 + 2)) (ys (5 * k0 + 3)) (ys (5 * k0 + 4))).1, .int (op_alter (n, t, rg, g) (ys (5 * k0 + 1)) (ys (5 * k0 + 2)) (ys (5 * k0 + 3)) (ys (5 * k0 + 4))).1]) rfl ?_
  refine xb (fun _ => lv_icmp_eq (tgt := 747) hx hb dL_law_488 (by decide)) (fun _ => ?_) (fun q => absurd rfl q)
  exact xw (by omega) (by omega) (K _ H2 (opn_alter (n, t, rg, g) (ys (5 * k0 + 1)) (ys (5 * k0 + 2)) (ys (5 * k0 + 3)) (ys (5 * k0 + 4))) ⟨lw_J2 hc1 hF2, hm2⟩)
set_option maxHeartbeats 4000000 in
set_option maxRecDepth 100000 in
theorem law_swap (l : Launch) (hX : va_X b L ys s s.heap) (hbl : b < s.heap.size) (hB : sg_B G = s.heap.size) (hL : L ≤ 2560) (E : xE p s m #[Value.ref b] meth c G RL cL_law 4 ret) (h5 : 5 * k0 + 5 ≤ L) (hn1 : n < 512) (hJ : lw_J G s.heap.size (n, t, rg, g) H) (hcs : cells + 2 ≤ 600000) (hss : slots + 11 ≤ 7302250) (hl : lv_has ls 4 [(3, .int (nI (5 * k0))), (2, .ref (s.heap.size + 4)), (1, .ref s.heap.size), (0, .ref b)])
    (K : ∀ (a1 : sp_S) (H1 : Heap), a1.1 ≤ n + 1 → lw_J G s.heap.size a1 H1 → xV p l e room_1 s m #[Value.ref b] below meth c G H1 (cells + 2) (slots + 11) Q (F0 m 747 ls [])) : xV p l e room_1 s m #[Value.ref b] below meth c G H cells slots Q (F0 m 493 ls []) := by
  obtain ⟨hx, hb, hml, hown, hts, hr, hlocks, hK, hbs⟩ := id E
  refine xl (fun _ => lv_aload_n hx hb dL_law_493 rfl (lv_at hl 2 rfl)) ?_
  refine xl (fun _ => lv_aload_n hx hb dL_law_494 rfl (lv_at hl 3 rfl)) ?_
  refine xl (fun _ => lv_iload_n hx hb dL_law_495 rfl (lv_at hl 0 rfl)) ?_
  refine xl (fun _ => lv_iconst (v := 1) hx hb dL_law_496 (by decide)) ?_
  refine xl (fun _ => lv_iadd hx hb dL_law_497) ?_
  refine x_sld hx hb hX hbl hB hL (5 * k0 + 1) (nI_add (5 * k0) 1) (by omega) dL_law_498 ?_
  refine xl (fun _ => lv_aload_n hx hb dL_law_499 rfl (lv_at hl 3 rfl)) ?_
  refine xl (fun _ => lv_iload_n hx hb dL_law_500 rfl (lv_at hl 0 rfl)) ?_
  refine xl (fun _ => lv_iconst (v := 2) hx hb dL_law_501 (by decide)) ?_
  refine xl (fun _ => lv_iadd hx hb dL_law_502) ?_
  refine x_sld hx hb hX hbl hB hL (5 * k0 + 2) (nI_add (5 * k0) 2) (by omega) dL_law_503 ?_
  refine xl (fun _ => lv_aload_n hx hb dL_law_504 rfl (lv_at hl 3 rfl)) ?_
  refine xl (fun _ => lv_iload_n hx hb dL_law_505 rfl (lv_at hl 0 rfl)) ?_
  refine xl (fun _ => lv_iconst (v := 3) hx hb dL_law_506 (by decide)) ?_
  refine xl (fun _ => lv_iadd hx hb dL_law_507) ?_
  refine x_sld hx hb hX hbl hB hL (5 * k0 + 3) (nI_add (5 * k0) 3) (by omega) dL_law_508 ?_
  refine xl (fun _ => lv_aload_n hx hb dL_law_509 rfl (lv_at hl 3 rfl)) ?_
  refine xl (fun _ => lv_iload_n hx hb dL_law_510 rfl (lv_at hl 0 rfl)) ?_
  refine xl (fun _ => lv_iconst (v := 4) hx hb dL_law_511 (by decide)) ?_
  refine xl (fun _ => lv_iadd hx hb dL_law_512) ?_
  refine x_sld hx hb hX hbl hB hL (5 * k0 + 4) (nI_add (5 * k0) 4) (by omega) dL_law_513 ?_
  obtain ⟨fs1, ho1⟩ := sc_H.ob hJ.1
  refine x_callV E hl (c_X1_swap l G H s.heap.size (s.heap.size + 14) n t rg g hJ.1 hn1 (ys (5 * k0 + 1)) (ys (5 * k0 + 2)) (ys (5 * k0 + 3)) (ys (5 * k0 + 4))) xm_yX1_swap wML_53 wI_yX1_swap wT_yX1_swap (ci := 1) rfl rfl ho1 (rest := []) rfl (by decide) (by decide) ⟨by show _ ≤ 600000; omega, by show _ ≤ 7302250; omega⟩ dL_law_514 (fun v1 H1 hp1 hz1 hq1 => ?_)
  obtain ⟨rfl, hc1, hF1⟩ := hp1
  have hm1 : sm_HS G (s.heap.size + 4) (n, t, rg, g) H1 := lw_J1 hJ.2 hF1
  refine xg (g2 := F0 m 517 ls [.int (op_swap (n, t, rg, g) (ys (5 * k0 + 1)) (ys (5 * k0 + 2)) (ys (5 * k0 + 3)) (ys (5 * k0 + 4))).1]) rfl ?_
  refine xl (fun _ => lv_aload_n hx hb dL_law_517 rfl (lv_at hl 1 rfl)) ?_
  refine xl (fun _ => lv_aload_n hx hb dL_law_518 rfl (lv_at hl 3 rfl)) ?_
  refine xl (fun _ => lv_iload_n hx hb dL_law_519 rfl (lv_at hl 0 rfl)) ?_
  refine xl (fun _ => lv_iconst (v := 1) hx hb dL_law_520 (by decide)) ?_
  refine xl (fun _ => lv_iadd hx hb dL_law_521) ?_
  refine x_sld hx hb hX hbl hB hL (5 * k0 + 1) (nI_add (5 * k0) 1) (by omega) dL_law_522 ?_
  refine xl (fun _ => lv_aload_n hx hb dL_law_523 rfl (lv_at hl 3 rfl)) ?_
  refine xl (fun _ => lv_iload_n hx hb dL_law_524 rfl (lv_at hl 0 rfl)) ?_
  refine xl (fun _ => lv_iconst (v := 2) hx hb dL_law_525 (by decide)) ?_
  refine xl (fun _ => lv_iadd hx hb dL_law_526) ?_
  refine x_sld hx hb hX hbl hB hL (5 * k0 + 2) (nI_add (5 * k0) 2) (by omega) dL_law_527 ?_
  refine xl (fun _ => lv_aload_n hx hb dL_law_528 rfl (lv_at hl 3 rfl)) ?_
  refine xl (fun _ => lv_iload_n hx hb dL_law_529 rfl (lv_at hl 0 rfl)) ?_
  refine xl (fun _ => lv_iconst (v := 3) hx hb dL_law_530 (by decide)) ?_
  refine xl (fun _ => lv_iadd hx hb dL_law_531) ?_
  refine x_sld hx hb hX hbl hB hL (5 * k0 + 3) (nI_add (5 * k0) 3) (by omega) dL_law_532 ?_
  refine xl (fun _ => lv_aload_n hx hb dL_law_533 rfl (lv_at hl 3 rfl)) ?_
  refine xl (fun _ => lv_iload_n hx hb dL_law_534 rfl (lv_at hl 0 rfl)) ?_
  refine xl (fun _ => lv_iconst (v := 4) hx hb dL_law_535 (by decide)) ?_
  refine xl (fun _ => lv_iadd hx hb dL_law_536) ?_
  refine x_sld hx hb hX hbl hB hL (5 * k0 + 4) (nI_add (5 * k0) 4) (by omega) dL_law_537 ?_
  obtain ⟨fs2, ho2⟩ := sm_H.ob hm1
  refine x_callV E hl (c_X2_swap l G H1 (s.heap.size + 4) n t rg g hm1 hn1 (ys (5 * k0 + 1)) (ys (5 * k0 + 2)) (ys (5 * k0 + 3)) (ys (5 * k0 + 4))) xm_yX2_swap wML_56 wI_yX2_swap wT_yX2_swap (ci := 2) rfl rfl ho2 (rest := [.int (op_swap (n, t, rg, g) (ys (5 * k0 + 1)) (ys (5 * k0 + 2)) (ys (5 * k0 + 3)) (ys (5 * k0 + 4))).1]) rfl (by simp [cat_int]) (by decide) ⟨by show _ ≤ 600000; omega, by show _ ≤ 7302250; omega⟩ dL_law_538 (fun v2 H2 hp2 hz2 hq2 => ?_)
  obtain ⟨rfl, hm2, hF2⟩ := hp2
  refine xg (g2 := F0 m 541 ls [.int (op_swap (n, t, rg, g) (ys (5 * k0 + 1)) (ys (5 * k0 + 2)) (ys (5 * k0 + 3)) (ys (5 * k0 + 4))).1, .int (op_swap (n, t, rg, g) (ys (5 * k0 + 1)) (ys (5 * k0 + 2)) (ys (5 * k0 + 3)) (ys (5 * k0 + 4))).1]) rfl ?_
  refine xb (fun _ => lv_icmp_eq (tgt := 747) hx hb dL_law_541 (by decide)) (fun _ => ?_) (fun q => absurd rfl q)
  exact xw (by omega) (by omega) (K _ H2 (opn_swap (n, t, rg, g) (ys (5 * k0 + 1)) (ys (5 * k0 + 2)) (ys (5 * k0 + 3)) (ys (5 * k0 + 4))) ⟨lw_J2 hc1 hF2, hm2⟩)
set_option maxHeartbeats 4000000 in
set_option maxRecDepth 100000 in
theorem law_part (l : Launch) (hX : va_X b L ys s s.heap) (hbl : b < s.heap.size) (hB : sg_B G = s.heap.size) (hL : L ≤ 2560) (E : xE p s m #[Value.ref b] meth c G RL cL_law 4 ret) (h5 : 5 * k0 + 5 ≤ L) (hn1 : n < 512) (hJ : lw_J G s.heap.size (n, t, rg, g) H) (hcs : cells + 2 ≤ 600000) (hss : slots + 11 ≤ 7302250) (hl : lv_has ls 4 [(3, .int (nI (5 * k0))), (2, .ref (s.heap.size + 4)), (1, .ref s.heap.size), (0, .ref b)])
    (K : ∀ (a1 : sp_S) (H1 : Heap), a1.1 ≤ n + 1 → lw_J G s.heap.size a1 H1 → xV p l e room_1 s m #[Value.ref b] below meth c G H1 (cells + 2) (slots + 11) Q (F0 m 747 ls [])) : xV p l e room_1 s m #[Value.ref b] below meth c G H cells slots Q (F0 m 546 ls []) := by
  obtain ⟨hx, hb, hml, hown, hts, hr, hlocks, hK, hbs⟩ := id E
  refine xl (fun _ => lv_aload_n hx hb dL_law_546 rfl (lv_at hl 2 rfl)) ?_
  refine xl (fun _ => lv_aload_n hx hb dL_law_547 rfl (lv_at hl 3 rfl)) ?_
  refine xl (fun _ => lv_iload_n hx hb dL_law_548 rfl (lv_at hl 0 rfl)) ?_
  refine xl (fun _ => lv_iconst (v := 1) hx hb dL_law_549 (by decide)) ?_
  refine xl (fun _ => lv_iadd hx hb dL_law_550) ?_
  refine x_sld hx hb hX hbl hB hL (5 * k0 + 1) (nI_add (5 * k0) 1) (by omega) dL_law_551 ?_
  refine xl (fun _ => lv_aload_n hx hb dL_law_552 rfl (lv_at hl 3 rfl)) ?_
  refine xl (fun _ => lv_iload_n hx hb dL_law_553 rfl (lv_at hl 0 rfl)) ?_
  refine xl (fun _ => lv_iconst (v := 2) hx hb dL_law_554 (by decide)) ?_
  refine xl (fun _ => lv_iadd hx hb dL_law_555) ?_
  refine x_sld hx hb hX hbl hB hL (5 * k0 + 2) (nI_add (5 * k0) 2) (by omega) dL_law_556 ?_
  refine xl (fun _ => lv_aload_n hx hb dL_law_557 rfl (lv_at hl 3 rfl)) ?_
  refine xl (fun _ => lv_iload_n hx hb dL_law_558 rfl (lv_at hl 0 rfl)) ?_
  refine xl (fun _ => lv_iconst (v := 3) hx hb dL_law_559 (by decide)) ?_
  refine xl (fun _ => lv_iadd hx hb dL_law_560) ?_
  refine x_sld hx hb hX hbl hB hL (5 * k0 + 3) (nI_add (5 * k0) 3) (by omega) dL_law_561 ?_
  obtain ⟨fs1, ho1⟩ := sc_H.ob hJ.1
  refine x_callV E hl (c_X1_part l G H s.heap.size (s.heap.size + 14) n t rg g hJ.1 (ys (5 * k0 + 1)) (ys (5 * k0 + 2)) (ys (5 * k0 + 3))) xm_yX1_part wML_57 wI_yX1_part wT_yX1_part (ci := 1) rfl rfl ho1 (rest := []) rfl (by decide) (by decide) ⟨by show _ ≤ 600000; omega, by show _ ≤ 7302250; omega⟩ dL_law_562 (fun v1 H1 hp1 hz1 hq1 => ?_)
  obtain ⟨rfl, hc1, hF1⟩ := hp1
  have hm1 : sm_HS G (s.heap.size + 4) (n, t, rg, g) H1 := lw_J1 hJ.2 hF1
  refine xg (g2 := F0 m 565 ls [.int (op_part (n, t, rg, g) (ys (5 * k0 + 1)) (ys (5 * k0 + 2)) (ys (5 * k0 + 3))).1]) rfl ?_
  refine xl (fun _ => lv_aload_n hx hb dL_law_565 rfl (lv_at hl 1 rfl)) ?_
  refine xl (fun _ => lv_aload_n hx hb dL_law_566 rfl (lv_at hl 3 rfl)) ?_
  refine xl (fun _ => lv_iload_n hx hb dL_law_567 rfl (lv_at hl 0 rfl)) ?_
  refine xl (fun _ => lv_iconst (v := 1) hx hb dL_law_568 (by decide)) ?_
  refine xl (fun _ => lv_iadd hx hb dL_law_569) ?_
  refine x_sld hx hb hX hbl hB hL (5 * k0 + 1) (nI_add (5 * k0) 1) (by omega) dL_law_570 ?_
  refine xl (fun _ => lv_aload_n hx hb dL_law_571 rfl (lv_at hl 3 rfl)) ?_
  refine xl (fun _ => lv_iload_n hx hb dL_law_572 rfl (lv_at hl 0 rfl)) ?_
  refine xl (fun _ => lv_iconst (v := 2) hx hb dL_law_573 (by decide)) ?_
  refine xl (fun _ => lv_iadd hx hb dL_law_574) ?_
  refine x_sld hx hb hX hbl hB hL (5 * k0 + 2) (nI_add (5 * k0) 2) (by omega) dL_law_575 ?_
  refine xl (fun _ => lv_aload_n hx hb dL_law_576 rfl (lv_at hl 3 rfl)) ?_
  refine xl (fun _ => lv_iload_n hx hb dL_law_577 rfl (lv_at hl 0 rfl)) ?_
  refine xl (fun _ => lv_iconst (v := 3) hx hb dL_law_578 (by decide)) ?_
  refine xl (fun _ => lv_iadd hx hb dL_law_579) ?_
  refine x_sld hx hb hX hbl hB hL (5 * k0 + 3) (nI_add (5 * k0) 3) (by omega) dL_law_580 ?_
  obtain ⟨fs2, ho2⟩ := sm_H.ob hm1
  refine x_callV E hl (c_X2_part l G H1 (s.heap.size + 4) n t rg g hm1 (ys (5 * k0 + 1)) (ys (5 * k0 + 2)) (ys (5 * k0 + 3))) xm_yX2_part wML_60 wI_yX2_part wT_yX2_part (ci := 2) rfl rfl ho2 (rest := [.int (op_part (n, t, rg, g) (ys (5 * k0 + 1)) (ys (5 * k0 + 2)) (ys (5 * k0 + 3))).1]) rfl (by simp [cat_int]) (by decide) ⟨by show _ ≤ 600000; omega, by show _ ≤ 7302250; omega⟩ dL_law_581 (fun v2 H2 hp2 hz2 hq2 => ?_)
  obtain ⟨rfl, hm2, hF2⟩ := hp2
  refine xg (g2 := F0 m 584 ls [.int (op_part (n, t, rg, g) (ys (5 * k0 + 1)) (ys (5 * k0 + 2)) (ys (5 * k0 + 3))).1, .int (op_part (n, t, rg, g) (ys (5 * k0 + 1)) (ys (5 * k0 + 2)) (ys (5 * k0 + 3))).1]) rfl ?_
  refine xb (fun _ => lv_icmp_eq (tgt := 747) hx hb dL_law_584 (by decide)) (fun _ => ?_) (fun q => absurd rfl q)
  exact xw (by omega) (by omega) (K _ H2 (opn_part (n, t, rg, g) (ys (5 * k0 + 1)) (ys (5 * k0 + 2)) (ys (5 * k0 + 3))) ⟨lw_J2 hc1 hF2, hm2⟩)
set_option maxHeartbeats 4000000 in
set_option maxRecDepth 100000 in
theorem law_give (l : Launch) (hX : va_X b L ys s s.heap) (hbl : b < s.heap.size) (hB : sg_B G = s.heap.size) (hL : L ≤ 2560) (E : xE p s m #[Value.ref b] meth c G RL cL_law 4 ret) (h5 : 5 * k0 + 5 ≤ L) (hn1 : n < 512) (hJ : lw_J G s.heap.size (n, t, rg, g) H) (hcs : cells + 2 ≤ 600000) (hss : slots + 11 ≤ 7302250) (hl : lv_has ls 4 [(3, .int (nI (5 * k0))), (2, .ref (s.heap.size + 4)), (1, .ref s.heap.size), (0, .ref b)])
    (K : ∀ (a1 : sp_S) (H1 : Heap), a1.1 ≤ n + 1 → lw_J G s.heap.size a1 H1 → xV p l e room_1 s m #[Value.ref b] below meth c G H1 (cells + 2) (slots + 11) Q (F0 m 747 ls [])) : xV p l e room_1 s m #[Value.ref b] below meth c G H cells slots Q (F0 m 589 ls []) := by
  obtain ⟨hx, hb, hml, hown, hts, hr, hlocks, hK, hbs⟩ := id E
  refine xl (fun _ => lv_aload_n hx hb dL_law_589 rfl (lv_at hl 2 rfl)) ?_
  refine xl (fun _ => lv_aload_n hx hb dL_law_590 rfl (lv_at hl 3 rfl)) ?_
  refine xl (fun _ => lv_iload_n hx hb dL_law_591 rfl (lv_at hl 0 rfl)) ?_
  refine xl (fun _ => lv_iconst (v := 1) hx hb dL_law_592 (by decide)) ?_
  refine xl (fun _ => lv_iadd hx hb dL_law_593) ?_
  refine x_sld hx hb hX hbl hB hL (5 * k0 + 1) (nI_add (5 * k0) 1) (by omega) dL_law_594 ?_
  obtain ⟨fs1, ho1⟩ := sc_H.ob hJ.1
  refine x_callV E hl (c_X1_give l G H s.heap.size (s.heap.size + 14) n t rg g hJ.1 (ys (5 * k0 + 1))) xm_yX1_give wML_61 wI_yX1_give wT_yX1_give (ci := 1) rfl rfl ho1 (rest := []) rfl (by decide) (by decide) ⟨by show _ ≤ 600000; omega, by show _ ≤ 7302250; omega⟩ dL_law_595 (fun v1 H1 hp1 hz1 hq1 => ?_)
  obtain ⟨rfl, hc1, hF1⟩ := hp1
  have hm1 : sm_HS G (s.heap.size + 4) (n, t, rg, g) H1 := lw_J1 hJ.2 hF1
  refine xg (g2 := F0 m 598 ls [.int (op_give (n, t, rg, g) (ys (5 * k0 + 1))).1]) rfl ?_
  refine xl (fun _ => lv_aload_n hx hb dL_law_598 rfl (lv_at hl 1 rfl)) ?_
  refine xl (fun _ => lv_aload_n hx hb dL_law_599 rfl (lv_at hl 3 rfl)) ?_
  refine xl (fun _ => lv_iload_n hx hb dL_law_600 rfl (lv_at hl 0 rfl)) ?_
  refine xl (fun _ => lv_iconst (v := 1) hx hb dL_law_601 (by decide)) ?_
  refine xl (fun _ => lv_iadd hx hb dL_law_602) ?_
  refine x_sld hx hb hX hbl hB hL (5 * k0 + 1) (nI_add (5 * k0) 1) (by omega) dL_law_603 ?_
  obtain ⟨fs2, ho2⟩ := sm_H.ob hm1
  refine x_callV E hl (c_X2_give l G H1 (s.heap.size + 4) n t rg g hm1 (ys (5 * k0 + 1))) xm_yX2_give wML_64 wI_yX2_give wT_yX2_give (ci := 2) rfl rfl ho2 (rest := [.int (op_give (n, t, rg, g) (ys (5 * k0 + 1))).1]) rfl (by simp [cat_int]) (by decide) ⟨by show _ ≤ 600000; omega, by show _ ≤ 7302250; omega⟩ dL_law_604 (fun v2 H2 hp2 hz2 hq2 => ?_)
  obtain ⟨rfl, hm2, hF2⟩ := hp2
  refine xg (g2 := F0 m 607 ls [.int (op_give (n, t, rg, g) (ys (5 * k0 + 1))).1, .int (op_give (n, t, rg, g) (ys (5 * k0 + 1))).1]) rfl ?_
  refine xb (fun _ => lv_icmp_eq (tgt := 747) hx hb dL_law_607 (by decide)) (fun _ => ?_) (fun q => absurd rfl q)
  exact xw (by omega) (by omega) (K _ H2 (opn_give (n, t, rg, g) (ys (5 * k0 + 1))) ⟨lw_J2 hc1 hF2, hm2⟩)
set_option maxHeartbeats 4000000 in
set_option maxRecDepth 100000 in
theorem law_derived (l : Launch) (hX : va_X b L ys s s.heap) (hbl : b < s.heap.size) (hB : sg_B G = s.heap.size) (hL : L ≤ 2560) (E : xE p s m #[Value.ref b] meth c G RL cL_law 4 ret) (h5 : 5 * k0 + 5 ≤ L) (hn1 : n < 512) (hJ : lw_J G s.heap.size (n, t, rg, g) H) (hcs : cells + 2 ≤ 600000) (hss : slots + 11 ≤ 7302250) (hl : lv_has ls 4 [(3, .int (nI (5 * k0))), (2, .ref (s.heap.size + 4)), (1, .ref s.heap.size), (0, .ref b)])
    (K : ∀ (a1 : sp_S) (H1 : Heap), a1.1 ≤ n + 1 → lw_J G s.heap.size a1 H1 → xV p l e room_1 s m #[Value.ref b] below meth c G H1 (cells + 2) (slots + 11) Q (F0 m 747 ls [])) : xV p l e room_1 s m #[Value.ref b] below meth c G H cells slots Q (F0 m 612 ls []) := by
  obtain ⟨hx, hb, hml, hown, hts, hr, hlocks, hK, hbs⟩ := id E
  refine xl (fun _ => lv_aload_n hx hb dL_law_612 rfl (lv_at hl 2 rfl)) ?_
  refine xl (fun _ => lv_aload_n hx hb dL_law_613 rfl (lv_at hl 3 rfl)) ?_
  refine xl (fun _ => lv_iload_n hx hb dL_law_614 rfl (lv_at hl 0 rfl)) ?_
  refine xl (fun _ => lv_iconst (v := 1) hx hb dL_law_615 (by decide)) ?_
  refine xl (fun _ => lv_iadd hx hb dL_law_616) ?_
  refine x_sld hx hb hX hbl hB hL (5 * k0 + 1) (nI_add (5 * k0) 1) (by omega) dL_law_617 ?_
  obtain ⟨fs1, ho1⟩ := sc_H.ob hJ.1
  refine x_callV E hl (c_X1_derived l G H s.heap.size (s.heap.size + 14) n t rg g hJ.1 (ys (5 * k0 + 1))) xm_yX1_derived wML_65 wI_yX1_derived wT_yX1_derived (ci := 1) rfl rfl ho1 (rest := []) rfl (by decide) (by decide) ⟨by show _ ≤ 600000; omega, by show _ ≤ 7302250; omega⟩ dL_law_618 (x_pure (r := .int (op_derived (n, t, rg, g) (ys (5 * k0 + 1)))) (st1 := []) ?_)
  refine xl (fun _ => lv_aload_n hx hb dL_law_621 rfl (lv_at hl 1 rfl)) ?_
  refine xl (fun _ => lv_aload_n hx hb dL_law_622 rfl (lv_at hl 3 rfl)) ?_
  refine xl (fun _ => lv_iload_n hx hb dL_law_623 rfl (lv_at hl 0 rfl)) ?_
  refine xl (fun _ => lv_iconst (v := 1) hx hb dL_law_624 (by decide)) ?_
  refine xl (fun _ => lv_iadd hx hb dL_law_625) ?_
  refine x_sld hx hb hX hbl hB hL (5 * k0 + 1) (nI_add (5 * k0) 1) (by omega) dL_law_626 ?_
  obtain ⟨fs2, ho2⟩ := sm_H.ob hJ.2
  refine x_callV E hl (c_X2_derived l G H (s.heap.size + 4) n t rg g hJ.2 (ys (5 * k0 + 1))) xm_yX2_derived wML_68 wI_yX2_derived wT_yX2_derived (ci := 2) rfl rfl ho2 (rest := [.int (op_derived (n, t, rg, g) (ys (5 * k0 + 1)))]) rfl (by simp [cat_int]) (by decide) ⟨by show _ ≤ 600000; omega, by show _ ≤ 7302250; omega⟩ dL_law_627 (fun v2 H2 hp2 hz2 hq2 => ?_)
  obtain ⟨rfl, hm2, hF2⟩ := hp2
  refine xg (g2 := F0 m 630 ls [.int (op_derived (n, t, rg, g) (ys (5 * k0 + 1))), .int (op_derived (n, t, rg, g) (ys (5 * k0 + 1)))]) rfl ?_
  refine xb (fun _ => lv_icmp_eq (tgt := 747) hx hb dL_law_630 (by decide)) (fun _ => ?_) (fun q => absurd rfl q)
  exact xw (by omega) (by omega) (K (n, t, rg, g) H2 (Nat.le_succ _) ⟨lw_J2 hJ.1 hF2, hm2⟩)
set_option maxHeartbeats 4000000 in
set_option maxRecDepth 100000 in
theorem law_same (l : Launch) (hX : va_X b L ys s s.heap) (hbl : b < s.heap.size) (hB : sg_B G = s.heap.size) (hL : L ≤ 2560) (E : xE p s m #[Value.ref b] meth c G RL cL_law 4 ret) (h5 : 5 * k0 + 5 ≤ L) (hn1 : n < 512) (hJ : lw_J G s.heap.size (n, t, rg, g) H) (hcs : cells + 2 ≤ 600000) (hss : slots + 11 ≤ 7302250) (hl : lv_has ls 4 [(3, .int (nI (5 * k0))), (2, .ref (s.heap.size + 4)), (1, .ref s.heap.size), (0, .ref b)])
    (K : ∀ (a1 : sp_S) (H1 : Heap), a1.1 ≤ n + 1 → lw_J G s.heap.size a1 H1 → xV p l e room_1 s m #[Value.ref b] below meth c G H1 (cells + 2) (slots + 11) Q (F0 m 747 ls [])) : xV p l e room_1 s m #[Value.ref b] below meth c G H cells slots Q (F0 m 635 ls []) := by
  obtain ⟨hx, hb, hml, hown, hts, hr, hlocks, hK, hbs⟩ := id E
  refine xl (fun _ => lv_aload_n hx hb dL_law_635 rfl (lv_at hl 2 rfl)) ?_
  refine xl (fun _ => lv_aload_n hx hb dL_law_636 rfl (lv_at hl 3 rfl)) ?_
  refine xl (fun _ => lv_iload_n hx hb dL_law_637 rfl (lv_at hl 0 rfl)) ?_
  refine xl (fun _ => lv_iconst (v := 1) hx hb dL_law_638 (by decide)) ?_
  refine xl (fun _ => lv_iadd hx hb dL_law_639) ?_
  refine x_sld hx hb hX hbl hB hL (5 * k0 + 1) (nI_add (5 * k0) 1) (by omega) dL_law_640 ?_
  refine xl (fun _ => lv_aload_n hx hb dL_law_641 rfl (lv_at hl 3 rfl)) ?_
  refine xl (fun _ => lv_iload_n hx hb dL_law_642 rfl (lv_at hl 0 rfl)) ?_
  refine xl (fun _ => lv_iconst (v := 2) hx hb dL_law_643 (by decide)) ?_
  refine xl (fun _ => lv_iadd hx hb dL_law_644) ?_
  refine x_sld hx hb hX hbl hB hL (5 * k0 + 2) (nI_add (5 * k0) 2) (by omega) dL_law_645 ?_
  obtain ⟨fs1, ho1⟩ := sc_H.ob hJ.1
  refine x_callV E hl (c_X1_same l G H s.heap.size (s.heap.size + 14) n t rg g hJ.1 (ys (5 * k0 + 1)) (ys (5 * k0 + 2))) xm_yX1_same wML_69 wI_yX1_same wT_yX1_same (ci := 1) rfl rfl ho1 (rest := []) rfl (by decide) (by decide) ⟨by show _ ≤ 600000; omega, by show _ ≤ 7302250; omega⟩ dL_law_646 (x_pure (r := .int (op_same (n, t, rg, g) (ys (5 * k0 + 1)) (ys (5 * k0 + 2)))) (st1 := []) ?_)
  refine xl (fun _ => lv_aload_n hx hb dL_law_649 rfl (lv_at hl 1 rfl)) ?_
  refine xl (fun _ => lv_aload_n hx hb dL_law_650 rfl (lv_at hl 3 rfl)) ?_
  refine xl (fun _ => lv_iload_n hx hb dL_law_651 rfl (lv_at hl 0 rfl)) ?_
  refine xl (fun _ => lv_iconst (v := 1) hx hb dL_law_652 (by decide)) ?_
  refine xl (fun _ => lv_iadd hx hb dL_law_653) ?_
  refine x_sld hx hb hX hbl hB hL (5 * k0 + 1) (nI_add (5 * k0) 1) (by omega) dL_law_654 ?_
  refine xl (fun _ => lv_aload_n hx hb dL_law_655 rfl (lv_at hl 3 rfl)) ?_
  refine xl (fun _ => lv_iload_n hx hb dL_law_656 rfl (lv_at hl 0 rfl)) ?_
  refine xl (fun _ => lv_iconst (v := 2) hx hb dL_law_657 (by decide)) ?_
  refine xl (fun _ => lv_iadd hx hb dL_law_658) ?_
  refine x_sld hx hb hX hbl hB hL (5 * k0 + 2) (nI_add (5 * k0) 2) (by omega) dL_law_659 ?_
  obtain ⟨fs2, ho2⟩ := sm_H.ob hJ.2
  refine x_callV E hl (c_X2_same l G H (s.heap.size + 4) n t rg g hJ.2 (ys (5 * k0 + 1)) (ys (5 * k0 + 2))) xm_yX2_same wML_72 wI_yX2_same wT_yX2_same (ci := 2) rfl rfl ho2 (rest := [.int (op_same (n, t, rg, g) (ys (5 * k0 + 1)) (ys (5 * k0 + 2)))]) rfl (by simp [cat_int]) (by decide) ⟨by show _ ≤ 600000; omega, by show _ ≤ 7302250; omega⟩ dL_law_660 (x_pure (r := .int (op_same (n, t, rg, g) (ys (5 * k0 + 1)) (ys (5 * k0 + 2)))) (st1 := []) ?_)
  refine xb (fun _ => lv_icmp_eq (tgt := 747) hx hb dL_law_663 (by decide)) (fun _ => ?_) (fun q => absurd rfl q)
  exact xw (by omega) (by omega) (K (n, t, rg, g) H (Nat.le_succ _) hJ)
set_option maxHeartbeats 4000000 in
set_option maxRecDepth 100000 in
theorem law_good (l : Launch) (hX : va_X b L ys s s.heap) (hbl : b < s.heap.size) (hB : sg_B G = s.heap.size) (hL : L ≤ 2560) (E : xE p s m #[Value.ref b] meth c G RL cL_law 4 ret) (h5 : 5 * k0 + 5 ≤ L) (hn1 : n < 512) (hJ : lw_J G s.heap.size (n, t, rg, g) H) (hcs : cells + 2 ≤ 600000) (hss : slots + 11 ≤ 7302250) (hl : lv_has ls 4 [(3, .int (nI (5 * k0))), (2, .ref (s.heap.size + 4)), (1, .ref s.heap.size), (0, .ref b)])
    (K : ∀ (a1 : sp_S) (H1 : Heap), a1.1 ≤ n + 1 → lw_J G s.heap.size a1 H1 → xV p l e room_1 s m #[Value.ref b] below meth c G H1 (cells + 2) (slots + 11) Q (F0 m 747 ls [])) : xV p l e room_1 s m #[Value.ref b] below meth c G H cells slots Q (F0 m 668 ls []) := by
  obtain ⟨hx, hb, hml, hown, hts, hr, hlocks, hK, hbs⟩ := id E
  refine xl (fun _ => lv_aload_n hx hb dL_law_668 rfl (lv_at hl 2 rfl)) ?_
  refine xl (fun _ => lv_aload_n hx hb dL_law_669 rfl (lv_at hl 3 rfl)) ?_
  refine xl (fun _ => lv_iload_n hx hb dL_law_670 rfl (lv_at hl 0 rfl)) ?_
  refine xl (fun _ => lv_iconst (v := 1) hx hb dL_law_671 (by decide)) ?_
  refine xl (fun _ => lv_iadd hx hb dL_law_672) ?_
  refine x_sld hx hb hX hbl hB hL (5 * k0 + 1) (nI_add (5 * k0) 1) (by omega) dL_law_673 ?_
  obtain ⟨fs1, ho1⟩ := sc_H.ob hJ.1
  refine x_callV E hl (c_X1_good l G H s.heap.size (s.heap.size + 14) n t rg g hJ.1 (ys (5 * k0 + 1))) xm_yX1_good wML_73 wI_yX1_good wT_yX1_good (ci := 1) rfl rfl ho1 (rest := []) rfl (by decide) (by decide) ⟨by show _ ≤ 600000; omega, by show _ ≤ 7302250; omega⟩ dL_law_674 (x_pure (r := .int (op_good (n, t, rg, g) (ys (5 * k0 + 1)))) (st1 := []) ?_)
  refine xl (fun _ => lv_aload_n hx hb dL_law_677 rfl (lv_at hl 1 rfl)) ?_
  refine xl (fun _ => lv_aload_n hx hb dL_law_678 rfl (lv_at hl 3 rfl)) ?_
  refine xl (fun _ => lv_iload_n hx hb dL_law_679 rfl (lv_at hl 0 rfl)) ?_
  refine xl (fun _ => lv_iconst (v := 1) hx hb dL_law_680 (by decide)) ?_
  refine xl (fun _ => lv_iadd hx hb dL_law_681) ?_
  refine x_sld hx hb hX hbl hB hL (5 * k0 + 1) (nI_add (5 * k0) 1) (by omega) dL_law_682 ?_
  obtain ⟨fs2, ho2⟩ := sm_H.ob hJ.2
  refine x_callV E hl (c_X2_good l G H (s.heap.size + 4) n t rg g hJ.2 (ys (5 * k0 + 1))) xm_yX2_good wML_76 wI_yX2_good wT_yX2_good (ci := 2) rfl rfl ho2 (rest := [.int (op_good (n, t, rg, g) (ys (5 * k0 + 1)))]) rfl (by simp [cat_int]) (by decide) ⟨by show _ ≤ 600000; omega, by show _ ≤ 7302250; omega⟩ dL_law_683 (x_pure (r := .int (op_good (n, t, rg, g) (ys (5 * k0 + 1)))) (st1 := []) ?_)
  refine xb (fun _ => lv_icmp_eq (tgt := 747) hx hb dL_law_686 (by decide)) (fun _ => ?_) (fun q => absurd rfl q)
  exact xw (by omega) (by omega) (K (n, t, rg, g) H (Nat.le_succ _) hJ)
set_option maxHeartbeats 4000000 in
set_option maxRecDepth 100000 in
theorem law_about (l : Launch) (hX : va_X b L ys s s.heap) (hbl : b < s.heap.size) (hB : sg_B G = s.heap.size) (hL : L ≤ 2560) (E : xE p s m #[Value.ref b] meth c G RL cL_law 4 ret) (h5 : 5 * k0 + 5 ≤ L) (hn1 : n < 512) (hJ : lw_J G s.heap.size (n, t, rg, g) H) (hcs : cells + 2 ≤ 600000) (hss : slots + 11 ≤ 7302250) (hl : lv_has ls 4 [(3, .int (nI (5 * k0))), (2, .ref (s.heap.size + 4)), (1, .ref s.heap.size), (0, .ref b)])
    (K : ∀ (a1 : sp_S) (H1 : Heap), a1.1 ≤ n + 1 → lw_J G s.heap.size a1 H1 → xV p l e room_1 s m #[Value.ref b] below meth c G H1 (cells + 2) (slots + 11) Q (F0 m 747 ls [])) : xV p l e room_1 s m #[Value.ref b] below meth c G H cells slots Q (F0 m 691 ls []) := by
  obtain ⟨hx, hb, hml, hown, hts, hr, hlocks, hK, hbs⟩ := id E
  refine xl (fun _ => lv_aload_n hx hb dL_law_691 rfl (lv_at hl 2 rfl)) ?_
  refine xl (fun _ => lv_aload_n hx hb dL_law_692 rfl (lv_at hl 3 rfl)) ?_
  refine xl (fun _ => lv_iload_n hx hb dL_law_693 rfl (lv_at hl 0 rfl)) ?_
  refine xl (fun _ => lv_iconst (v := 1) hx hb dL_law_694 (by decide)) ?_
  refine xl (fun _ => lv_iadd hx hb dL_law_695) ?_
  refine x_sld hx hb hX hbl hB hL (5 * k0 + 1) (nI_add (5 * k0) 1) (by omega) dL_law_696 ?_
  refine xl (fun _ => lv_aload_n hx hb dL_law_697 rfl (lv_at hl 3 rfl)) ?_
  refine xl (fun _ => lv_iload_n hx hb dL_law_698 rfl (lv_at hl 0 rfl)) ?_
  refine xl (fun _ => lv_iconst (v := 2) hx hb dL_law_699 (by decide)) ?_
  refine xl (fun _ => lv_iadd hx hb dL_law_700) ?_
  refine x_sld hx hb hX hbl hB hL (5 * k0 + 2) (nI_add (5 * k0) 2) (by omega) dL_law_701 ?_
  obtain ⟨fs1, ho1⟩ := sc_H.ob hJ.1
  refine x_callV E hl (c_X1_about l G H s.heap.size (s.heap.size + 14) n t rg g hJ.1 (ys (5 * k0 + 1)) (ys (5 * k0 + 2))) xm_yX1_about wML_77 wI_yX1_about wT_yX1_about (ci := 1) rfl rfl ho1 (rest := []) rfl (by decide) (by decide) ⟨by show _ ≤ 600000; omega, by show _ ≤ 7302250; omega⟩ dL_law_702 (x_pure (r := .int (op_about (n, t, rg, g) (ys (5 * k0 + 1)) (ys (5 * k0 + 2)))) (st1 := []) ?_)
  refine xl (fun _ => lv_aload_n hx hb dL_law_705 rfl (lv_at hl 1 rfl)) ?_
  refine xl (fun _ => lv_aload_n hx hb dL_law_706 rfl (lv_at hl 3 rfl)) ?_
  refine xl (fun _ => lv_iload_n hx hb dL_law_707 rfl (lv_at hl 0 rfl)) ?_
  refine xl (fun _ => lv_iconst (v := 1) hx hb dL_law_708 (by decide)) ?_
  refine xl (fun _ => lv_iadd hx hb dL_law_709) ?_
  refine x_sld hx hb hX hbl hB hL (5 * k0 + 1) (nI_add (5 * k0) 1) (by omega) dL_law_710 ?_
  refine xl (fun _ => lv_aload_n hx hb dL_law_711 rfl (lv_at hl 3 rfl)) ?_
  refine xl (fun _ => lv_iload_n hx hb dL_law_712 rfl (lv_at hl 0 rfl)) ?_
  refine xl (fun _ => lv_iconst (v := 2) hx hb dL_law_713 (by decide)) ?_
  refine xl (fun _ => lv_iadd hx hb dL_law_714) ?_
  refine x_sld hx hb hX hbl hB hL (5 * k0 + 2) (nI_add (5 * k0) 2) (by omega) dL_law_715 ?_
  obtain ⟨fs2, ho2⟩ := sm_H.ob hJ.2
  refine x_callV E hl (c_X2_about l G H (s.heap.size + 4) n t rg g hJ.2 (ys (5 * k0 + 1)) (ys (5 * k0 + 2))) xm_yX2_about wML_80 wI_yX2_about wT_yX2_about (ci := 2) rfl rfl ho2 (rest := [.int (op_about (n, t, rg, g) (ys (5 * k0 + 1)) (ys (5 * k0 + 2)))]) rfl (by simp [cat_int]) (by decide) ⟨by show _ ≤ 600000; omega, by show _ ≤ 7302250; omega⟩ dL_law_716 (x_pure (r := .int (op_about (n, t, rg, g) (ys (5 * k0 + 1)) (ys (5 * k0 + 2)))) (st1 := []) ?_)
  refine xb (fun _ => lv_icmp_eq (tgt := 747) hx hb dL_law_719 (by decide)) (fun _ => ?_) (fun q => absurd rfl q)
  exact xw (by omega) (by omega) (K (n, t, rg, g) H (Nat.le_succ _) hJ)
set_option maxHeartbeats 4000000 in
set_option maxRecDepth 100000 in
theorem law_count (l : Launch) (hX : va_X b L ys s s.heap) (hbl : b < s.heap.size) (hB : sg_B G = s.heap.size) (hL : L ≤ 2560) (E : xE p s m #[Value.ref b] meth c G RL cL_law 4 ret) (h5 : 5 * k0 + 5 ≤ L) (hn1 : n < 512) (hJ : lw_J G s.heap.size (n, t, rg, g) H) (hcs : cells + 2 ≤ 600000) (hss : slots + 11 ≤ 7302250) (hl : lv_has ls 4 [(3, .int (nI (5 * k0))), (2, .ref (s.heap.size + 4)), (1, .ref s.heap.size), (0, .ref b)])
    (K : ∀ (a1 : sp_S) (H1 : Heap), a1.1 ≤ n + 1 → lw_J G s.heap.size a1 H1 → xV p l e room_1 s m #[Value.ref b] below meth c G H1 (cells + 2) (slots + 11) Q (F0 m 747 ls [])) : xV p l e room_1 s m #[Value.ref b] below meth c G H cells slots Q (F0 m 724 ls []) := by
  obtain ⟨hx, hb, hml, hown, hts, hr, hlocks, hK, hbs⟩ := id E
  refine xl (fun _ => lv_aload_n hx hb dL_law_724 rfl (lv_at hl 2 rfl)) ?_
  refine xl (fun _ => lv_aload_n hx hb dL_law_725 rfl (lv_at hl 3 rfl)) ?_
  refine xl (fun _ => lv_iload_n hx hb dL_law_726 rfl (lv_at hl 0 rfl)) ?_
  refine xl (fun _ => lv_iconst (v := 1) hx hb dL_law_727 (by decide)) ?_
  refine xl (fun _ => lv_iadd hx hb dL_law_728) ?_
  refine x_sld hx hb hX hbl hB hL (5 * k0 + 1) (nI_add (5 * k0) 1) (by omega) dL_law_729 ?_
  obtain ⟨fs1, ho1⟩ := sc_H.ob hJ.1
  refine x_callV E hl (c_X1_count l G H s.heap.size (s.heap.size + 14) n t rg g hJ.1 (ys (5 * k0 + 1))) xm_yX1_count wML_81 wI_yX1_count wT_yX1_count (ci := 1) rfl rfl ho1 (rest := []) rfl (by decide) (by decide) ⟨by show _ ≤ 600000; omega, by show _ ≤ 7302250; omega⟩ dL_law_730 (x_pure (r := .int (op_count (n, t, rg, g) (ys (5 * k0 + 1)))) (st1 := []) ?_)
  refine xl (fun _ => lv_aload_n hx hb dL_law_733 rfl (lv_at hl 1 rfl)) ?_
  refine xl (fun _ => lv_aload_n hx hb dL_law_734 rfl (lv_at hl 3 rfl)) ?_
  refine xl (fun _ => lv_iload_n hx hb dL_law_735 rfl (lv_at hl 0 rfl)) ?_
  refine xl (fun _ => lv_iconst (v := 1) hx hb dL_law_736 (by decide)) ?_
  refine xl (fun _ => lv_iadd hx hb dL_law_737) ?_
  refine x_sld hx hb hX hbl hB hL (5 * k0 + 1) (nI_add (5 * k0) 1) (by omega) dL_law_738 ?_
  obtain ⟨fs2, ho2⟩ := sm_H.ob hJ.2
  refine x_callV E hl (c_X2_count l G H (s.heap.size + 4) n t rg g hJ.2 (ys (5 * k0 + 1))) xm_yX2_count wML_84 wI_yX2_count wT_yX2_count (ci := 2) rfl rfl ho2 (rest := [.int (op_count (n, t, rg, g) (ys (5 * k0 + 1)))]) rfl (by simp [cat_int]) (by decide) ⟨by show _ ≤ 600000; omega, by show _ ≤ 7302250; omega⟩ dL_law_739 (fun v2 H2 hp2 hz2 hq2 => ?_)
  obtain ⟨rfl, hm2, hF2⟩ := hp2
  refine xg (g2 := F0 m 742 ls [.int (op_count (n, t, rg, g) (ys (5 * k0 + 1))), .int (op_count (n, t, rg, g) (ys (5 * k0 + 1)))]) rfl ?_
  refine xb (fun _ => lv_icmp_eq (tgt := 747) hx hb dL_law_742 (by decide)) (fun _ => ?_) (fun q => absurd rfl q)
  exact xw (by omega) (by omega) (K (n, t, rg, g) H2 (Nat.le_succ _) ⟨lw_J2 hJ.1 hF2, hm2⟩)
end LAWC
