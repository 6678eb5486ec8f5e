/-! fields, calls, constants: a row for each place of a pool -/
section XSL
variable {p : Program} {l : Launch} {e : Env} {R : Room} {s : State} {m : MethodId} {args : Array Value} {below : List Frame} {meth : Method} {c : Code} {H : Heap} {locs : List Loc} {cells slots : Nat} {Q : State → Prop}
variable {cc : ByteArray} {pc : Nat} {ls : Array Slot} {rest : List Value} {D : va_G} {ad : Nat → Nat} {cs : xs_cs} {A : Nat → Prop} {H0 : Heap} {μ : xs_M} {nL : Nat}

end XSL
theorem km_L_78 : xs_kV "ExactSceneLaw" 78 y_R_row b_R_row 6 none 5 := ⟨xs_tg 706 (by decide +kernel) (by decide +kernel), ⟨ws_R_row, wl_R_row⟩, wi_R, wc_R_row, by decide, by decide, by decide +kernel⟩
theorem km_L_79 : xs_kV "ExactSceneLaw" 79 y_R_thrown b_R_thrown 1 (some .int) 0 := ⟨xs_tg 702 (by decide +kernel) (by decide +kernel), ⟨ws_R_thrown, wl_R_thrown⟩, wi_R, wc_R_thrown, by decide, by decide, by decide +kernel⟩
theorem km_L_86 : xs_kV "ExactSceneLaw" 86 y_R_move b_R_move 7 none 3 := ⟨xs_tg 715 (by decide +kernel) (by decide +kernel), ⟨ws_R_move, wl_R_move⟩, wi_R, wc_R_move, by decide, by decide, by decide +kernel⟩
theorem km_L_89 : xs_kV "ExactSceneLaw" 89 y_R_stretch b_R_stretch 9 none 3 := ⟨xs_tg 719 (by decide +kernel) (by decide +kernel), ⟨ws_R_stretch, wl_R_stretch⟩, wi_R, wc_R_stretch, by decide, by decide, by decide +kernel⟩
theorem km_L_93 : xs_kV "ExactSceneLaw" 93 y_R_turn b_R_turn 6 none 1 := ⟨xs_tg 723 (by decide +kernel) (by decide +kernel), ⟨ws_R_turn, wl_R_turn⟩, wi_R, wc_R_turn, by decide, by decide, by decide +kernel⟩
theorem km_L_97 : xs_kV "ExactSceneLaw" 97 y_R_join b_R_join 5 none 0 := ⟨xs_tg 727 (by decide +kernel) (by decide +kernel), ⟨ws_R_join, wl_R_join⟩, wi_R, wc_R_join, by decide, by decide, by decide +kernel⟩
theorem km_L_100 : xs_kV "ExactSceneLaw" 100 y_R_push b_R_push 2 none 0 := ⟨xs_tg 731 (by decide +kernel) (by decide +kernel), ⟨ws_R_push, wl_R_push⟩, wi_R, wc_R_push, by decide, by decide, by decide +kernel⟩
theorem km_L_103 : xs_kV "ExactSceneLaw" 103 y_R_pop b_R_pop 2 none 0 := ⟨xs_tg 735 (by decide +kernel) (by decide +kernel), ⟨ws_R_pop, wl_R_pop⟩, wi_R, wc_R_pop, by decide, by decide, by decide +kernel⟩
theorem km_L_107 : xs_kV "ExactSceneLaw" 107 y_R_entry b_R_entry 3 (some .int) 2 := ⟨xs_tg 739 (by decide +kernel) (by decide +kernel), ⟨ws_R_entry, wl_R_entry⟩, wi_R, wc_R_entry, by decide, by decide, by decide +kernel⟩
theorem km_L_111 : xs_kV "ExactSceneLaw" 111 y_R_vertex b_R_vertex 8 (some .int) 5 := ⟨xs_tg 743 (by decide +kernel) (by decide +kernel), ⟨ws_R_vertex, wl_R_vertex⟩, wi_R, wc_R_vertex, by decide, by decide, by decide +kernel⟩
theorem km_L_112 : xs_kV "ExactSceneLaw" 112 y_S_use b_S_use 4 (some .boolean) 3 := ⟨xs_tg 153 (by decide +kernel) (by decide +kernel), ⟨ws_S_use, wl_S_use⟩, wi_S, wc_S_use, by decide, by decide, by decide +kernel⟩
theorem km_L_116 : xs_kV "ExactSceneLaw" 116 y_R_use b_R_use 4 (some .boolean) 3 := ⟨xs_tg 754 (by decide +kernel) (by decide +kernel), ⟨ws_R_use, wl_R_use⟩, wi_R, wc_R_use, by decide, by decide, by decide +kernel⟩
theorem km_L_120 : xs_kV "ExactSceneLaw" 120 y_R_texel b_R_texel 7 (some .int) 4 := ⟨xs_tg 758 (by decide +kernel) (by decide +kernel), ⟨ws_R_texel, wl_R_texel⟩, wi_R, wc_R_texel, by decide, by decide, by decide +kernel⟩
theorem km_L_121 : xs_kV "ExactSceneLaw" 121 y_S_clear b_S_clear 2 (some .int) 0 := ⟨xs_tg 164 (by decide +kernel) (by decide +kernel), ⟨ws_S_clear, wl_S_clear⟩, wi_S, wc_S_clear, by decide, by decide, by decide +kernel⟩
theorem km_L_124 : xs_kV "ExactSceneLaw" 124 y_R_clear b_R_clear 2 (some .int) 0 := ⟨xs_tg 762 (by decide +kernel) (by decide +kernel), ⟨ws_R_clear, wl_R_clear⟩, wi_R, wc_R_clear, by decide, by decide, by decide +kernel⟩
theorem km_L_125 : xs_kV "ExactSceneLaw" 125 y_S_draw b_S_draw 3 (some .int) 1 := ⟨xs_tg 168 (by decide +kernel) (by decide +kernel), ⟨ws_S_draw, wl_S_draw⟩, wi_S, wc_S_draw, by decide, by decide, by decide +kernel⟩
theorem km_L_129 : xs_kV "ExactSceneLaw" 129 y_R_draw b_R_draw 8 (some .int) 1 := ⟨xs_tg 766 (by decide +kernel) (by decide +kernel), ⟨ws_R_draw, wl_R_draw⟩, wi_R, wc_R_draw, by decide, by decide, by decide +kernel⟩
theorem km_L_132 : xs_kV "ExactSceneLaw" 132 y_R_colour b_R_colour 3 (some .int) 2 := ⟨xs_tg 794 (by decide +kernel) (by decide +kernel), ⟨ws_R_colour, wl_R_colour⟩, wi_R, wc_R_colour, by decide, by decide, by decide +kernel⟩
theorem km_L_135 : xs_kV "ExactSceneLaw" 135 y_R_owner b_R_owner 3 (some .int) 2 := ⟨xs_tg 801 (by decide +kernel) (by decide +kernel), ⟨ws_R_owner, wl_R_owner⟩, wi_R, wc_R_owner, by decide, by decide, by decide +kernel⟩
theorem km_L_138 : xs_kV "ExactSceneLaw" 138 y_R_compare b_R_compare 5 (some .int) 4 := ⟨xs_tg 805 (by decide +kernel) (by decide +kernel), ⟨ws_R_compare, wl_R_compare⟩, wi_R, wc_R_compare, by decide, by decide, by decide +kernel⟩
theorem km_L_141 : xs_kV "ExactSceneLaw" 141 y_R_depth b_R_depth 3 (some .long) 2 := ⟨xs_tg 809 (by decide +kernel) (by decide +kernel), ⟨ws_R_depth, wl_R_depth⟩, wi_R, wc_R_depth, by decide, by decide, by decide +kernel⟩
theorem km_L_144 : xs_kV "ExactSceneLaw" 144 y_R_triangle b_R_triangle 3 (some .long) 2 := ⟨xs_tg 813 (by decide +kernel) (by decide +kernel), ⟨ws_R_triangle, wl_R_triangle⟩, wi_R, wc_R_triangle, by decide, by decide, by decide +kernel⟩
theorem kh_73 : xh_k "ExactSceneLaw" 73 y_L_row b_L_row 7 [(0, 11, 14, 13)] 6 := ⟨xs_tg 257 (by decide +kernel) (by decide +kernel), ws_L_row, wi_L, wc_L_row, by decide, by decide, by decide +kernel⟩
theorem kh_83 : xh_k "ExactSceneLaw" 83 y_L_move b_L_move 5 [(0, 7, 10, 19)] 4 := ⟨xs_tg 348 (by decide +kernel) (by decide +kernel), ws_L_move, wi_L, wc_L_move, by decide, by decide, by decide +kernel⟩
theorem kh_87 : xh_k "ExactSceneLaw" 87 y_L_stretch b_L_stretch 5 [(0, 7, 10, 19)] 4 := ⟨xs_tg 388 (by decide +kernel) (by decide +kernel), ws_L_stretch, wi_L, wc_L_stretch, by decide, by decide, by decide +kernel⟩
theorem kh_90 : xh_k "ExactSceneLaw" 90 y_L_turn b_L_turn 3 [(0, 5, 8, 13)] 2 := ⟨xs_tg 399 (by decide +kernel) (by decide +kernel), ws_L_turn, wi_L, wc_L_turn, by decide, by decide, by decide +kernel⟩
theorem kh_94 : xh_k "ExactSceneLaw" 94 y_L_join b_L_join 2 [(0, 4, 7, 31), (0, 4, 10, 19)] 1 := ⟨xs_tg 411 (by decide +kernel) (by decide +kernel), ws_L_join, wi_L, wc_L_join, by decide, by decide, by decide +kernel⟩
theorem kh_98 : xh_k "ExactSceneLaw" 98 y_L_push b_L_push 2 [(0, 4, 7, 31)] 1 := ⟨xs_tg 443 (by decide +kernel) (by decide +kernel), ws_L_push, wi_L, wc_L_push, by decide, by decide, by decide +kernel⟩
theorem kh_101 : xh_k "ExactSceneLaw" 101 y_L_pop b_L_pop 2 [(0, 4, 7, 31)] 1 := ⟨xs_tg 459 (by decide +kernel) (by decide +kernel), ws_L_pop, wi_L, wc_L_pop, by decide, by decide, by decide +kernel⟩
theorem kh_104 : xh_k "ExactSceneLaw" 104 y_L_entry b_L_entry 5 [(0, 10, 13, 43)] 4 := ⟨xs_tg 470 (by decide +kernel) (by decide +kernel), ws_L_entry, wi_L, wc_L_entry, by decide, by decide, by decide +kernel⟩
theorem kh_108 : xh_k "ExactSceneLaw" 108 y_L_vertex b_L_vertex 8 [(0, 16, 19, 13), (0, 16, 23, 31)] 7 := ⟨xs_tg 498 (by decide +kernel) (by decide +kernel), ws_L_vertex, wi_L, wc_L_vertex, by decide, by decide, by decide +kernel⟩
theorem kh_117 : xh_k "ExactSceneLaw" 117 y_L_texel b_L_texel 7 [(0, 14, 17, 43)] 6 := ⟨xs_tg 555 (by decide +kernel) (by decide +kernel), ws_L_texel, wi_L, wc_L_texel, by decide, by decide, by decide +kernel⟩
theorem kh_130 : xh_k "ExactSceneLaw" 130 y_L_colour b_L_colour 5 [(0, 10, 13, 43)] 4 := ⟨xs_tg 570 (by decide +kernel) (by decide +kernel), ws_L_colour, wi_L, wc_L_colour, by decide, by decide, by decide +kernel⟩
theorem kh_133 : xh_k "ExactSceneLaw" 133 y_L_owner b_L_owner 5 [(0, 10, 13, 43)] 4 := ⟨xs_tg 582 (by decide +kernel) (by decide +kernel), ws_L_owner, wi_L, wc_L_owner, by decide, by decide, by decide +kernel⟩
theorem kh_136 : xh_k "ExactSceneLaw" 136 y_L_compare b_L_compare 7 [(0, 14, 17, 43), (0, 14, 21, 31)] 6 := ⟨xs_tg 589 (by decide +kernel) (by decide +kernel), ws_L_compare, wi_L, wc_L_compare, by decide, by decide, by decide +kernel⟩
theorem kh_139 : xh_k "ExactSceneLaw" 139 y_L_depth b_L_depth 5 [(0, 9, 12, 43), (0, 9, 16, 31)] 4 := ⟨xs_tg 601 (by decide +kernel) (by decide +kernel), ws_L_depth, wi_L, wc_L_depth, by decide, by decide, by decide +kernel⟩
theorem kh_142 : xh_k "ExactSceneLaw" 142 y_L_triangle b_L_triangle 5 [(0, 9, 12, 43)] 4 := ⟨xs_tg 614 (by decide +kernel) (by decide +kernel), ws_L_triangle, wi_L, wc_L_triangle, by decide, by decide, by decide +kernel⟩
def fn_law_c0 (μ : xs_M) (xs : Nat → Int32) (L : Nat) (v4 : Int32) : Option xs_M :=
  (if xs_in (v4 + (1 : Int32)) L = true then (if xs_in (v4 + (2 : Int32)) L = true then (if xs_in (v4 + (3 : Int32)) L = true then (if xs_in (v4 + (4 : Int32)) L = true then (if xs_in (v4 + (5 : Int32)) L = true then ((fn_L_row μ (xs (v4 + (1 : Int32)).toNatClampNeg) (xs (v4 + (2 : Int32)).toNatClampNeg) (xs (v4 + (3 : Int32)).toNatClampNeg) (xs (v4 + (4 : Int32)).toNatClampNeg) (xs (v4 + (5 : Int32)).toNatClampNeg)).bind fun w6 => (if xs_in (v4 + (1 : Int32)) L = true then (if xs_in (v4 + (2 : Int32)) L = true then (if xs_in (v4 + (3 : Int32)) L = true then (if xs_in (v4 + (4 : Int32)) L = true then (if xs_in (v4 + (5 : Int32)) L = true then ((fn_R_row w6.2 (xs (v4 + (1 : Int32)).toNatClampNeg) (xs (v4 + (2 : Int32)).toNatClampNeg) (xs (v4 + (3 : Int32)).toNatClampNeg) (xs (v4 + (4 : Int32)).toNatClampNeg) (xs (v4 + (5 : Int32)).toNatClampNeg)).bind fun w12 => ((fn_R_thrown w12).bind fun w13 => (if w13 = w6.1 then some w12 else none))) else none) else none) else none) else none) else none)) else none) else none) else none) else none) else none)
set_option maxHeartbeats 4000000 in
set_option maxRecDepth 100000 in
theorem ok_law_c0 {p : Program} {e : Env} {s : State} {m : MethodId} {below : List Frame} {meth : Method} {c : Code} {H : Heap} {locs : List Loc} {cells slots : Nat} {Q : State → Prop} {ls : Array Slot} {A : Nat → Prop} {μ : xs_M} {b L : Nat} {xs : Nat → Int32} {v4 : Int32} (l : Launch) (hlt : l.stackTraces = false) (D : va_G) (ad : Nat → Nat) (cs : xs_cs) (hJ : xs_J ad) (X : xs_C p s m c code 8 #[Value.ref b] "ExactSceneLaw") (hT : xt_P A s s.heap) (hX : va_X b L xs s s.heap) (hbl : b < s.heap.size) (hbA : ¬ A b) (G : xs_G D ad cs s A s.heap μ H locs) (hl : lv_has ls 8 [(0, .ref b), (1, .ref (ad 0)), (2, .ref (ad 154)), (3, .ref (ad 171)), (4, .int (v4))]) (hc : cells + 1 ≤ room_1.cells ∧ slots + 6 ≤ room_1.slots) {μ2 : xs_M} (hE : fn_law_c0 μ xs L v4 = some μ2) (kk : ∀ (H : Heap) (locs : List Loc) (ls : Array Slot), xs_G D ad cs s A s.heap μ2 H locs → lv_has ls 8 [(0, .ref b), (1, .ref (ad 0)), (2, .ref (ad 154)), (3, .ref (ad 171)), (4, .int (v4))] → W p l e room_1 s m #[Value.ref b] below meth c H locs (cells + 1) (slots + 6) Q (F0 m 1153 ls [])) : W p l e room_1 s m #[Value.ref b] below meth c H locs cells slots Q (F0 m 128 ls []) := by
  have hx := X.1
  have hb := X.2.1
  unfold fn_law_c0 at hE
  refine lv_aload_n (pc := 128) hx hb d_L_law_128 rfl (lv_at hl 1 rfl) ?_
  refine lv_aload_n (pc := 129) hx hb d_L_law_129 rfl (lv_at hl 0 rfl) ?_
  refine lv_iload (pc := 130) hx hb d_L_law_130 (lv_at hl 4 rfl) ?_
  refine lv_iconst (pc := 132) (v := (1 : Int32)) hx hb d_L_law_132 (by decide) ?_
  refine lv_iadd (pc := 133) hx hb d_L_law_133 ?_
  obtain ⟨hi1, hE⟩ := xs_n hE
  refine va_sld (pc := 134) hx hb hX hbl hbA G.2.2.2.1 (xs_inP hi1) d_L_law_134 ?_
  refine lv_aload_n (pc := 135) hx hb d_L_law_135 rfl (lv_at hl 0 rfl) ?_
  refine lv_iload (pc := 136) hx hb d_L_law_136 (lv_at hl 4 rfl) ?_
  refine lv_iconst (pc := 138) (v := (2 : Int32)) hx hb d_L_law_138 (by decide) ?_
  refine lv_iadd (pc := 139) hx hb d_L_law_139 ?_
  obtain ⟨hi2, hE⟩ := xs_n hE
  refine va_sld (pc := 140) hx hb hX hbl hbA G.2.2.2.1 (xs_inP hi2) d_L_law_140 ?_
  refine lv_aload_n (pc := 141) hx hb d_L_law_141 rfl (lv_at hl 0 rfl) ?_
  refine lv_iload (pc := 142) hx hb d_L_law_142 (lv_at hl 4 rfl) ?_
  refine lv_iconst (pc := 144) (v := (3 : Int32)) hx hb d_L_law_144 (by decide) ?_
  refine lv_iadd (pc := 145) hx hb d_L_law_145 ?_
  obtain ⟨hi3, hE⟩ := xs_n hE
  refine va_sld (pc := 146) hx hb hX hbl hbA G.2.2.2.1 (xs_inP hi3) d_L_law_146 ?_
  refine lv_aload_n (pc := 147) hx hb d_L_law_147 rfl (lv_at hl 0 rfl) ?_
  refine lv_iload (pc := 148) hx hb d_L_law_148 (lv_at hl 4 rfl) ?_
  refine lv_iconst (pc := 150) (v := (4 : Int32)) hx hb d_L_law_150 (by decide) ?_
  refine lv_iadd (pc := 151) hx hb d_L_law_151 ?_
  obtain ⟨hi4, hE⟩ := xs_n hE
  refine va_sld (pc := 152) hx hb hX hbl hbA G.2.2.2.1 (xs_inP hi4) d_L_law_152 ?_
  refine lv_aload_n (pc := 153) hx hb d_L_law_153 rfl (lv_at hl 0 rfl) ?_
  refine lv_iload (pc := 154) hx hb d_L_law_154 (lv_at hl 4 rfl) ?_
  refine lv_iconst (pc := 156) (v := (5 : Int32)) hx hb d_L_law_156 (by decide) ?_
  refine lv_iadd (pc := 157) hx hb d_L_law_157 ?_
  obtain ⟨hi5, hE⟩ := xs_n hE
  refine va_sld (pc := 158) hx hb hX hbl hbA G.2.2.2.1 (xs_inP hi5) d_L_law_158 ?_
  obtain ⟨w6, hw6, hE⟩ := xs_b hE
  refine xh_callS (pc := 159) (as := [.ref (ad 0), .int ((xs (v4 + (1 : Int32)).toNatClampNeg)), .int ((xs (v4 + (2 : Int32)).toNatClampNeg)), .int ((xs (v4 + (3 : Int32)).toNatClampNeg)), .int ((xs (v4 + (4 : Int32)).toNatClampNeg)), .int ((xs (v4 + (5 : Int32)).toNatClampNeg))]) X (ok_L_row l hlt D ad cs hJ hw6) kh_73 hT G ⟨by decide, by decide⟩ hc rfl hl.1 rfl (Nat.le_of_ble_eq_true rfl) d_L_law_159 (fun H locs G => ?_)
  refine lv_istore (pc := 162) hx hb d_L_law_162 hl (by decide) (lv' := [(5, .int (w6.1)), (0, .ref b), (1, .ref (ad 0)), (2, .ref (ad 154)), (3, .ref (ad 171)), (4, .int (v4))]) rfl (fun ls hl => ?_)
  refine lv_aload_n (pc := 164) hx hb d_L_law_164 rfl (lv_at hl 3 rfl) ?_
  refine lv_aload_n (pc := 165) hx hb d_L_law_165 rfl (lv_at hl 1 rfl) ?_
  refine lv_iload (pc := 166) hx hb d_L_law_166 (lv_at hl 5 rfl) ?_
  refine lv_iconst (pc := 168) (v := (1 : Int32)) hx hb d_L_law_168 (by decide) ?_
  refine lv_iadd (pc := 169) hx hb d_L_law_169 ?_
  obtain ⟨hi7, hE⟩ := xs_n hE
  refine va_sld (pc := 170) hx hb hX hbl hbA G.2.2.2.1 (xs_inP hi7) d_L_law_170 ?_
  refine lv_aload_n (pc := 171) hx hb d_L_law_171 rfl (lv_at hl 1 rfl) ?_
  refine lv_iload (pc := 172) hx hb d_L_law_172 (lv_at hl 5 rfl) ?_
  refine lv_iconst (pc := 174) (v := (2 : Int32)) hx hb d_L_law_174 (by decide) ?_
  refine lv_iadd (pc := 175) hx hb d_L_law_175 ?_
  obtain ⟨hi8, hE⟩ := xs_n hE
  refine va_sld (pc := 176) hx hb hX hbl hbA G.2.2.2.1 (xs_inP hi8) d_L_law_176 ?_
  refine lv_aload_n (pc := 177) hx hb d_L_law_177 rfl (lv_at hl 1 rfl) ?_
  refine lv_iload (pc := 178) hx hb d_L_law_178 (lv_at hl 5 rfl) ?_
  refine lv_iconst (pc := 180) (v := (3 : Int32)) hx hb d_L_law_180 (by decide) ?_
  refine lv_iadd (pc := 181) hx hb d_L_law_181 ?_
  obtain ⟨hi9, hE⟩ := xs_n hE
  refine va_sld (pc := 182) hx hb hX hbl hbA G.2.2.2.1 (xs_inP hi9) d_L_law_182 ?_
  refine lv_aload_n (pc := 183) hx hb d_L_law_183 rfl (lv_at hl 1 rfl) ?_
  refine lv_iload (pc := 184) hx hb d_L_law_184 (lv_at hl 5 rfl) ?_
  refine lv_iconst (pc := 186) (v := (4 : Int32)) hx hb d_L_law_186 (by decide) ?_
  refine lv_iadd (pc := 187) hx hb d_L_law_187 ?_
  obtain ⟨hi10, hE⟩ := xs_n hE
  refine va_sld (pc := 188) hx hb hX hbl hbA G.2.2.2.1 (xs_inP hi10) d_L_law_188 ?_
  refine lv_aload_n (pc := 189) hx hb d_L_law_189 rfl (lv_at hl 1 rfl) ?_
  refine lv_iload (pc := 190) hx hb d_L_law_190 (lv_at hl 5 rfl) ?_
  refine lv_iconst (pc := 192) (v := (5 : Int32)) hx hb d_L_law_192 (by decide) ?_
  refine lv_iadd (pc := 193) hx hb d_L_law_193 ?_
  obtain ⟨hi11, hE⟩ := xs_n hE
  refine va_sld (pc := 194) hx hb hX hbl hbA G.2.2.2.1 (xs_inP hi11) d_L_law_194 ?_
  obtain ⟨w12, hw12, hE⟩ := xs_b hE
  refine xs_callVv (pc := 195) (as := [.int ((xs (v4 + (1 : Int32)).toNatClampNeg)), .int ((xs (v4 + (2 : Int32)).toNatClampNeg)), .int ((xs (v4 + (3 : Int32)).toNatClampNeg)), .int ((xs (v4 + (4 : Int32)).toNatClampNeg)), .int ((xs (v4 + (5 : Int32)).toNatClampNeg))]) X (ok_R_row l D ad cs hJ hw12) km_L_78 G (xs_wR ad cs _) rfl ⟨by decide, by decide⟩ (by first | exact hc | exact ⟨Nat.le_trans (Nat.le_add_right _ _) hc.1, Nat.le_trans (Nat.le_add_right _ _) hc.2⟩) rfl hl.1 rfl (Nat.le_of_ble_eq_true rfl) d_L_law_195 (fun H locs G => ?_)
  refine lv_aload_n (pc := 198) hx hb d_L_law_198 rfl (lv_at hl 3 rfl) ?_
  obtain ⟨w13, hw13, hE⟩ := xs_b hE
  refine xs_callVr (pc := 199) (as := []) X (ok_R_thrown l D ad cs hJ hw13) km_L_79 G (xs_wR ad cs _) rfl ⟨by decide, by decide⟩ (by first | exact hc | exact ⟨Nat.le_trans (Nat.le_add_right _ _) hc.1, Nat.le_trans (Nat.le_add_right _ _) hc.2⟩) rfl hl.1 rfl (Nat.le_of_ble_eq_true rfl) d_L_law_199 (fun H locs G => ?_)
  refine lv_iload (pc := 202) hx hb d_L_law_202 (lv_at hl 0 rfl) ?_
  refine lv_icmp_eq (pc := 204) (tgt := 209) hx hb d_L_law_204 (by decide) (fun hc => ?_) (fun hc => ?_)
  · have hE := xs_t hE hc
    refine lv_goto (pc := 209) (tgt := 1153) hx hb d_L_law_209 (by decide) ?_
    cases hE
    first | exact kk _ _ _ G (lv_sub hl [1, 2, 3, 4, 5] rfl) | exact W.widen (Nat.le_add_right _ 1) (Nat.le_add_right _ 6) (kk _ _ _ G (lv_sub hl [1, 2, 3, 4, 5] rfl))
  · have hE := xs_f hE hc
    refine lv_iconst (pc := 207) (v := (0 : Int32)) hx hb d_L_law_207 (by decide) ?_
    cases hE
def fn_law_c1 (μ : xs_M) (xs : Nat → Int32) (L : Nat) (v4 : Int32) : Option xs_M :=
  (if xs_in (v4 + (1 : Int32)) L = true then (if xs_in (v4 + (2 : Int32)) L = true then (if xs_in (v4 + (3 : Int32)) L = true then ((fn_L_move μ (xs (v4 + (1 : Int32)).toNatClampNeg) (xs (v4 + (2 : Int32)).toNatClampNeg) (xs (v4 + (3 : Int32)).toNatClampNeg)).bind fun w4 => (if xs_in (v4 + (1 : Int32)) L = true then (if xs_in (v4 + (2 : Int32)) L = true then (if xs_in (v4 + (3 : Int32)) L = true then ((fn_R_move w4.2 (xs (v4 + (1 : Int32)).toNatClampNeg) (xs (v4 + (2 : Int32)).toNatClampNeg) (xs (v4 + (3 : Int32)).toNatClampNeg)).bind fun w8 => ((fn_R_thrown w8).bind fun w9 => (if w9 = w4.1 then some w8 else none))) else none) else none) else none)) else none) else none) else none)
set_option maxHeartbeats 4000000 in
set_option maxRecDepth 100000 in
theorem ok_law_c1 {p : Program} {e : Env} {s : State} {m : MethodId} {below : List Frame} {meth : Method} {c : Code} {H : Heap} {locs : List Loc} {cells slots : Nat} {Q : State → Prop} {ls : Array Slot} {A : Nat → Prop} {μ : xs_M} {b L : Nat} {xs : Nat → Int32} {v4 : Int32} (l : Launch) (hlt : l.stackTraces = false) (D : va_G) (ad : Nat → Nat) (cs : xs_cs) (hJ : xs_J ad) (X : xs_C p s m c code 8 #[Value.ref b] "ExactSceneLaw") (hT : xt_P A s s.heap) (hX : va_X b L xs s s.heap) (hbl : b < s.heap.size) (hbA : ¬ A b) (G : xs_G D ad cs s A s.heap μ H locs) (hl : lv_has ls 8 [(0, .ref b), (1, .ref (ad 0)), (2, .ref (ad 154)), (3, .ref (ad 171)), (4, .int (v4))]) (hc : cells + 1 ≤ room_1.cells ∧ slots + 6 ≤ room_1.slots) {μ2 : xs_M} (hE : fn_law_c1 μ xs L v4 = some μ2) (kk : ∀ (H : Heap) (locs : List Loc) (ls : Array Slot), xs_G D ad cs s A s.heap μ2 H locs → lv_has ls 8 [(0, .ref b), (1, .ref (ad 0)), (2, .ref (ad 154)), (3, .ref (ad 171)), (4, .int (v4))] → W p l e room_1 s m #[Value.ref b] below meth c H locs (cells + 1) (slots + 6) Q (F0 m 1153 ls [])) : W p l e room_1 s m #[Value.ref b] below meth c H locs cells slots Q (F0 m 212 ls []) := by
  have hx := X.1
  have hb := X.2.1
  unfold fn_law_c1 at hE
  refine lv_aload_n (pc := 212) hx hb d_L_law_212 rfl (lv_at hl 1 rfl) ?_
  refine lv_aload_n (pc := 213) hx hb d_L_law_213 rfl (lv_at hl 0 rfl) ?_
  refine lv_iload (pc := 214) hx hb d_L_law_214 (lv_at hl 4 rfl) ?_
  refine lv_iconst (pc := 216) (v := (1 : Int32)) hx hb d_L_law_216 (by decide) ?_
  refine lv_iadd (pc := 217) hx hb d_L_law_217 ?_
  obtain ⟨hi1, hE⟩ := xs_n hE
  refine va_sld (pc := 218) hx hb hX hbl hbA G.2.2.2.1 (xs_inP hi1) d_L_law_218 ?_
  refine lv_aload_n (pc := 219) hx hb d_L_law_219 rfl (lv_at hl 0 rfl) ?_
  refine lv_iload (pc := 220) hx hb d_L_law_220 (lv_at hl 4 rfl) ?_
  refine lv_iconst (pc := 222) (v := (2 : Int32)) hx hb d_L_law_222 (by decide) ?_
  refine lv_iadd (pc := 223) hx hb d_L_law_223 ?_
  obtain ⟨hi2, hE⟩ := xs_n hE
  refine va_sld (pc := 224) hx hb hX hbl hbA G.2.2.2.1 (xs_inP hi2) d_L_law_224 ?_
  refine lv_aload_n (pc := 225) hx hb d_L_law_225 rfl (lv_at hl 0 rfl) ?_
  refine lv_iload (pc := 226) hx hb d_L_law_226 (lv_at hl 4 rfl) ?_
  refine lv_iconst (pc := 228) (v := (3 : Int32)) hx hb d_L_law_228 (by decide) ?_
  refine lv_iadd (pc := 229) hx hb d_L_law_229 ?_
  obtain ⟨hi3, hE⟩ := xs_n hE
  refine va_sld (pc := 230) hx hb hX hbl hbA G.2.2.2.1 (xs_inP hi3) d_L_law_230 ?_
  obtain ⟨w4, hw4, hE⟩ := xs_b hE
  refine xh_callS (pc := 231) (as := [.ref (ad 0), .int ((xs (v4 + (1 : Int32)).toNatClampNeg)), .int ((xs (v4 + (2 : Int32)).toNatClampNeg)), .int ((xs (v4 + (3 : Int32)).toNatClampNeg))]) X (ok_L_move l hlt D ad cs hJ hw4) kh_83 hT G ⟨by decide, by decide⟩ hc rfl hl.1 rfl (Nat.le_of_ble_eq_true rfl) d_L_law_231 (fun H locs G => ?_)
  refine lv_istore (pc := 234) hx hb d_L_law_234 hl (by decide) (lv' := [(5, .int (w4.1)), (0, .ref b), (1, .ref (ad 0)), (2, .ref (ad 154)), (3, .ref (ad 171)), (4, .int (v4))]) rfl (fun ls hl => ?_)
  refine lv_aload_n (pc := 236) hx hb d_L_law_236 rfl (lv_at hl 3 rfl) ?_
  refine lv_aload_n (pc := 237) hx hb d_L_law_237 rfl (lv_at hl 1 rfl) ?_
  refine lv_iload (pc := 238) hx hb d_L_law_238 (lv_at hl 5 rfl) ?_
  refine lv_iconst (pc := 240) (v := (1 : Int32)) hx hb d_L_law_240 (by decide) ?_
  refine lv_iadd (pc := 241) hx hb d_L_law_241 ?_
  obtain ⟨hi5, hE⟩ := xs_n hE
  refine va_sld (pc := 242) hx hb hX hbl hbA G.2.2.2.1 (xs_inP hi5) d_L_law_242 ?_
  refine lv_aload_n (pc := 243) hx hb d_L_law_243 rfl (lv_at hl 1 rfl) ?_
  refine lv_iload (pc := 244) hx hb d_L_law_244 (lv_at hl 5 rfl) ?_
  refine lv_iconst (pc := 246) (v := (2 : Int32)) hx hb d_L_law_246 (by decide) ?_
  refine lv_iadd (pc := 247) hx hb d_L_law_247 ?_
  obtain ⟨hi6, hE⟩ := xs_n hE
  refine va_sld (pc := 248) hx hb hX hbl hbA G.2.2.2.1 (xs_inP hi6) d_L_law_248 ?_
  refine lv_aload_n (pc := 249) hx hb d_L_law_249 rfl (lv_at hl 1 rfl) ?_
  refine lv_iload (pc := 250) hx hb d_L_law_250 (lv_at hl 5 rfl) ?_
  refine lv_iconst (pc := 252) (v := (3 : Int32)) hx hb d_L_law_252 (by decide) ?_
  refine lv_iadd (pc := 253) hx hb d_L_law_253 ?_
  obtain ⟨hi7, hE⟩ := xs_n hE
  refine va_sld (pc := 254) hx hb hX hbl hbA G.2.2.2.1 (xs_inP hi7) d_L_law_254 ?_
  obtain ⟨w8, hw8, hE⟩ := xs_b hE
  refine xs_callVv (pc := 255) (as := [.int ((xs (v4 + (1 : Int32)).toNatClampNeg)), .int ((xs (v4 + (2 : Int32)).toNatClampNeg)), .int ((xs (v4 + (3 : Int32)).toNatClampNeg))]) X (ok_R_move l D ad cs hJ hw8) km_L_86 G (xs_wR ad cs _) rfl ⟨by decide, by decide⟩ (by first | exact hc | exact ⟨Nat.le_trans (Nat.le_add_right _ _) hc.1, Nat.le_trans (Nat.le_add_right _ _) hc.2⟩) rfl hl.1 rfl (Nat.le_of_ble_eq_true rfl) d_L_law_255 (fun H locs G => ?_)
  refine lv_aload_n (pc := 258) hx hb d_L_law_258 rfl (lv_at hl 3 rfl) ?_
  obtain ⟨w9, hw9, hE⟩ := xs_b hE
  refine xs_callVr (pc := 259) (as := []) X (ok_R_thrown l D ad cs hJ hw9) km_L_79 G (xs_wR ad cs _) rfl ⟨by decide, by decide⟩ (by first | exact hc | exact ⟨Nat.le_trans (Nat.le_add_right _ _) hc.1, Nat.le_trans (Nat.le_add_right _ _) hc.2⟩) rfl hl.1 rfl (Nat.le_of_ble_eq_true rfl) d_L_law_259 (fun H locs G => ?_)
  refine lv_iload (pc := 262) hx hb d_L_law_262 (lv_at hl 0 rfl) ?_
  refine lv_icmp_eq (pc := 264) (tgt := 269) hx hb d_L_law_264 (by decide) (fun hc => ?_) (fun hc => ?_)
  · have hE := xs_t hE hc
    refine lv_goto (pc := 269) (tgt := 1153) hx hb d_L_law_269 (by decide) ?_
    cases hE
    first | exact kk _ _ _ G (lv_sub hl [1, 2, 3, 4, 5] rfl) | exact W.widen (Nat.le_add_right _ 1) (Nat.le_add_right _ 6) (kk _ _ _ G (lv_sub hl [1, 2, 3, 4, 5] rfl))
  · have hE := xs_f hE hc
    refine lv_iconst (pc := 267) (v := (0 : Int32)) hx hb d_L_law_267 (by decide) ?_
    cases hE
def fn_law_c2 (μ : xs_M) (xs : Nat → Int32) (L : Nat) (v4 : Int32) : Option xs_M :=
  (if xs_in (v4 + (1 : Int32)) L = true then (if xs_in (v4 + (2 : Int32)) L = true then (if xs_in (v4 + (3 : Int32)) L = true then ((fn_L_stretch μ (xs (v4 + (1 : Int32)).toNatClampNeg) (xs (v4 + (2 : Int32)).toNatClampNeg) (xs (v4 + (3 : Int32)).toNatClampNeg)).bind fun w4 => (if xs_in (v4 + (1 : Int32)) L = true then (if xs_in (v4 + (2 : Int32)) L = true then (if xs_in (v4 + (3 : Int32)) L = true then ((fn_R_stretch w4.2 (xs (v4 + (1 : Int32)).toNatClampNeg) (xs (v4 + (2 : Int32)).toNatClampNeg) (xs (v4 + (3 : Int32)).toNatClampNeg)).bind fun w8 => ((fn_R_thrown w8).bind fun w9 => (if w9 = w4.1 then some w8 else none))) else none) else none) else none)) else none) else none) else none)
set_option maxHeartbeats 4000000 in
set_option maxRecDepth 100000 in
theorem ok_law_c2 {p : Program} {e : Env} {s : State} {m : MethodId} {below : List Frame} {meth : Method} {c : Code} {H : Heap} {locs : List Loc} {cells slots : Nat} {Q : State → Prop} {ls : Array Slot} {A : Nat → Prop} {μ : xs_M} {b L : Nat} {xs : Nat → Int32} {v4 : Int32} (l : Launch) (hlt : l.stackTraces = false) (D : va_G) (ad : Nat → Nat) (cs : xs_cs) (hJ : xs_J ad) (X : xs_C p s m c code 8 #[Value.ref b] "ExactSceneLaw") (hT : xt_P A s s.heap) (hX : va_X b L xs s s.heap) (hbl : b < s.heap.size) (hbA : ¬ A b) (G : xs_G D ad cs s A s.heap μ H locs) (hl : lv_has ls 8 [(0, .ref b), (1, .ref (ad 0)), (2, .ref (ad 154)), (3, .ref (ad 171)), (4, .int (v4))]) (hc : cells + 1 ≤ room_1.cells ∧ slots + 6 ≤ room_1.slots) {μ2 : xs_M} (hE : fn_law_c2 μ xs L v4 = some μ2) (kk : ∀ (H : Heap) (locs : List Loc) (ls : Array Slot), xs_G D ad cs s A s.heap μ2 H locs → lv_has ls 8 [(0, .ref b), (1, .ref (ad 0)), (2, .ref (ad 154)), (3, .ref (ad 171)), (4, .int (v4))] → W p l e room_1 s m #[Value.ref b] below meth c H locs (cells + 1) (slots + 6) Q (F0 m 1153 ls [])) : W p l e room_1 s m #[Value.ref b] below meth c H locs cells slots Q (F0 m 272 ls []) := by
  have hx := X.1
  have hb := X.2.1
  unfold fn_law_c2 at hE
  refine lv_aload_n (pc := 272) hx hb d_L_law_272 rfl (lv_at hl 1 rfl) ?_
  refine lv_aload_n (pc := 273) hx hb d_L_law_273 rfl (lv_at hl 0 rfl) ?_
  refine lv_iload (pc := 274) hx hb d_L_law_274 (lv_at hl 4 rfl) ?_
  refine lv_iconst (pc := 276) (v := (1 : Int32)) hx hb d_L_law_276 (by decide) ?_
  refine lv_iadd (pc := 277) hx hb d_L_law_277 ?_
  obtain ⟨hi1, hE⟩ := xs_n hE
  refine va_sld (pc := 278) hx hb hX hbl hbA G.2.2.2.1 (xs_inP hi1) d_L_law_278 ?_
  refine lv_aload_n (pc := 279) hx hb d_L_law_279 rfl (lv_at hl 0 rfl) ?_
  refine lv_iload (pc := 280) hx hb d_L_law_280 (lv_at hl 4 rfl) ?_
  refine lv_iconst (pc := 282) (v := (2 : Int32)) hx hb d_L_law_282 (by decide) ?_
  refine lv_iadd (pc := 283) hx hb d_L_law_283 ?_
  obtain ⟨hi2, hE⟩ := xs_n hE
  refine va_sld (pc := 284) hx hb hX hbl hbA G.2.2.2.1 (xs_inP hi2) d_L_law_284 ?_
  refine lv_aload_n (pc := 285) hx hb d_L_law_285 rfl (lv_at hl 0 rfl) ?_
  refine lv_iload (pc := 286) hx hb d_L_law_286 (lv_at hl 4 rfl) ?_
  refine lv_iconst (pc := 288) (v := (3 : Int32)) hx hb d_L_law_288 (by decide) ?_
  refine lv_iadd (pc := 289) hx hb d_L_law_289 ?_
  obtain ⟨hi3, hE⟩ := xs_n hE
  refine va_sld (pc := 290) hx hb hX hbl hbA G.2.2.2.1 (xs_inP hi3) d_L_law_290 ?_
  obtain ⟨w4, hw4, hE⟩ := xs_b hE
  refine xh_callS (pc := 291) (as := [.ref (ad 0), .int ((xs (v4 + (1 : Int32)).toNatClampNeg)), .int ((xs (v4 + (2 : Int32)).toNatClampNeg)), .int ((xs (v4 + (3 : Int32)).toNatClampNeg))]) X (ok_L_stretch l hlt D ad cs hJ hw4) kh_87 hT G ⟨by decide, by decide⟩ hc rfl hl.1 rfl (Nat.le_of_ble_eq_true rfl) d_L_law_291 (fun H locs G => ?_)
  refine lv_istore (pc := 294) hx hb d_L_law_294 hl (by decide) (lv' := [(5, .int (w4.1)), (0, .ref b), (1, .ref (ad 0)), (2, .ref (ad 154)), (3, .ref (ad 171)), (4, .int (v4))]) rfl (fun ls hl => ?_)
  refine lv_aload_n (pc := 296) hx hb d_L_law_296 rfl (lv_at hl 3 rfl) ?_
  refine lv_aload_n (pc := 297) hx hb d_L_law_297 rfl (lv_at hl 1 rfl) ?_
  refine lv_iload (pc := 298) hx hb d_L_law_298 (lv_at hl 5 rfl) ?_
  refine lv_iconst (pc := 300) (v := (1 : Int32)) hx hb d_L_law_300 (by decide) ?_
  refine lv_iadd (pc := 301) hx hb d_L_law_301 ?_
  obtain ⟨hi5, hE⟩ := xs_n hE
  refine va_sld (pc := 302) hx hb hX hbl hbA G.2.2.2.1 (xs_inP hi5) d_L_law_302 ?_
  refine lv_aload_n (pc := 303) hx hb d_L_law_303 rfl (lv_at hl 1 rfl) ?_
  refine lv_iload (pc := 304) hx hb d_L_law_304 (lv_at hl 5 rfl) ?_
  refine lv_iconst (pc := 306) (v := (2 : Int32)) hx hb d_L_law_306 (by decide) ?_
  refine lv_iadd (pc := 307) hx hb d_L_law_307 ?_
  obtain ⟨hi6, hE⟩ := xs_n hE
  refine va_sld (pc := 308) hx hb hX hbl hbA G.2.2.2.1 (xs_inP hi6) d_L_law_308 ?_
  refine lv_aload_n (pc := 309) hx hb d_L_law_309 rfl (lv_at hl 1 rfl) ?_
  refine lv_iload (pc := 310) hx hb d_L_law_310 (lv_at hl 5 rfl) ?_
  refine lv_iconst (pc := 312) (v := (3 : Int32)) hx hb d_L_law_312 (by decide) ?_
  refine lv_iadd (pc := 313) hx hb d_L_law_313 ?_
  obtain ⟨hi7, hE⟩ := xs_n hE
  refine va_sld (pc := 314) hx hb hX hbl hbA G.2.2.2.1 (xs_inP hi7) d_L_law_314 ?_
  obtain ⟨w8, hw8, hE⟩ := xs_b hE
  refine xs_callVv (pc := 315) (as := [.int ((xs (v4 + (1 : Int32)).toNatClampNeg)), .int ((xs (v4 + (2 : Int32)).toNatClampNeg)), .int ((xs (v4 + (3 : Int32)).toNatClampNeg))]) X (ok_R_stretch l D ad cs hJ hw8) km_L_89 G (xs_wR ad cs _) rfl ⟨by decide, by decide⟩ (by first | exact hc | exact ⟨Nat.le_trans (Nat.le_add_right _ _) hc.1, Nat.le_trans (Nat.le_add_right _ _) hc.2⟩) rfl hl.1 rfl (Nat.le_of_ble_eq_true rfl) d_L_law_315 (fun H locs G => ?_)
  refine lv_aload_n (pc := 318) hx hb d_L_law_318 rfl (lv_at hl 3 rfl) ?_
  obtain ⟨w9, hw9, hE⟩ := xs_b hE
  refine xs_callVr (pc := 319) (as := []) X (ok_R_thrown l D ad cs hJ hw9) km_L_79 G (xs_wR ad cs _) rfl ⟨by decide, by decide⟩ (by first | exact hc | exact ⟨Nat.le_trans (Nat.le_add_right _ _) hc.1, Nat.le_trans (Nat.le_add_right _ _) hc.2⟩) rfl hl.1 rfl (Nat.le_of_ble_eq_true rfl) d_L_law_319 (fun H locs G => ?_)
  refine lv_iload (pc := 322) hx hb d_L_law_322 (lv_at hl 0 rfl) ?_
  refine lv_icmp_eq (pc := 324) (tgt := 329) hx hb d_L_law_324 (by decide) (fun hc => ?_) (fun hc => ?_)
  · have hE := xs_t hE hc
    refine lv_goto (pc := 329) (tgt := 1153) hx hb d_L_law_329 (by decide) ?_
    cases hE
    first | exact kk _ _ _ G (lv_sub hl [1, 2, 3, 4, 5] rfl) | exact W.widen (Nat.le_add_right _ 1) (Nat.le_add_right _ 6) (kk _ _ _ G (lv_sub hl [1, 2, 3, 4, 5] rfl))
  · have hE := xs_f hE hc
    refine lv_iconst (pc := 327) (v := (0 : Int32)) hx hb d_L_law_327 (by decide) ?_
    cases hE
def fn_law_c3 (μ : xs_M) (xs : Nat → Int32) (L : Nat) (v4 : Int32) : Option xs_M :=
  (if xs_in (v4 + (1 : Int32)) L = true then ((fn_L_turn μ (xs (v4 + (1 : Int32)).toNatClampNeg)).bind fun w2 => (if xs_in (v4 + (1 : Int32)) L = true then ((fn_R_turn w2.2 (xs (v4 + (1 : Int32)).toNatClampNeg)).bind fun w4 => ((fn_R_thrown w4).bind fun w5 => (if w5 = w2.1 then some w4 else none))) else none)) else none)
set_option maxHeartbeats 4000000 in
set_option maxRecDepth 100000 in
theorem ok_law_c3 {p : Program} {e : Env} {s : State} {m : MethodId} {below : List Frame} {meth : Method} {c : Code} {H : Heap} {locs : List Loc} {cells slots : Nat} {Q : State → Prop} {ls : Array Slot} {A : Nat → Prop} {μ : xs_M} {b L : Nat} {xs : Nat → Int32} {v4 : Int32} (l : Launch) (hlt : l.stackTraces = false) (D : va_G) (ad : Nat → Nat) (cs : xs_cs) (hJ : xs_J ad) (X : xs_C p s m c code 8 #[Value.ref b] "ExactSceneLaw") (hT : xt_P A s s.heap) (hX : va_X b L xs s s.heap) (hbl : b < s.heap.size) (hbA : ¬ A b) (G : xs_G D ad cs s A s.heap μ H locs) (hl : lv_has ls 8 [(0, .ref b), (1, .ref (ad 0)), (2, .ref (ad 154)), (3, .ref (ad 171)), (4, .int (v4))]) (hc : cells + 1 ≤ room_1.cells ∧ slots + 6 ≤ room_1.slots) {μ2 : xs_M} (hE : fn_law_c3 μ xs L v4 = some μ2) (kk : ∀ (H : Heap) (locs : List Loc) (ls : Array Slot), xs_G D ad cs s A s.heap μ2 H locs → lv_has ls 8 [(0, .ref b), (1, .ref (ad 0)), (2, .ref (ad 154)), (3, .ref (ad 171)), (4, .int (v4))] → W p l e room_1 s m #[Value.ref b] below meth c H locs (cells + 1) (slots + 6) Q (F0 m 1153 ls [])) : W p l e room_1 s m #[Value.ref b] below meth c H locs cells slots Q (F0 m 332 ls []) := by
  have hx := X.1
  have hb := X.2.1
  unfold fn_law_c3 at hE
  refine lv_aload_n (pc := 332) hx hb d_L_law_332 rfl (lv_at hl 1 rfl) ?_
  refine lv_aload_n (pc := 333) hx hb d_L_law_333 rfl (lv_at hl 0 rfl) ?_
  refine lv_iload (pc := 334) hx hb d_L_law_334 (lv_at hl 4 rfl) ?_
  refine lv_iconst (pc := 336) (v := (1 : Int32)) hx hb d_L_law_336 (by decide) ?_
  refine lv_iadd (pc := 337) hx hb d_L_law_337 ?_
  obtain ⟨hi1, hE⟩ := xs_n hE
  refine va_sld (pc := 338) hx hb hX hbl hbA G.2.2.2.1 (xs_inP hi1) d_L_law_338 ?_
  obtain ⟨w2, hw2, hE⟩ := xs_b hE
  refine xh_callS (pc := 339) (as := [.ref (ad 0), .int ((xs (v4 + (1 : Int32)).toNatClampNeg))]) X (ok_L_turn l hlt D ad cs hJ hw2) kh_90 hT G ⟨by decide, by decide⟩ hc rfl hl.1 rfl (Nat.le_of_ble_eq_true rfl) d_L_law_339 (fun H locs G => ?_)
  refine lv_istore (pc := 342) hx hb d_L_law_342 hl (by decide) (lv' := [(5, .int (w2.1)), (0, .ref b), (1, .ref (ad 0)), (2, .ref (ad 154)), (3, .ref (ad 171)), (4, .int (v4))]) rfl (fun ls hl => ?_)
  refine lv_aload_n (pc := 344) hx hb d_L_law_344 rfl (lv_at hl 3 rfl) ?_
  refine lv_aload_n (pc := 345) hx hb d_L_law_345 rfl (lv_at hl 1 rfl) ?_
  refine lv_iload (pc := 346) hx hb d_L_law_346 (lv_at hl 5 rfl) ?_
  refine lv_iconst (pc := 348) (v := (1 : Int32)) hx hb d_L_law_348 (by decide) ?_
  refine lv_iadd (pc := 349) hx hb d_L_law_349 ?_
  obtain ⟨hi3, hE⟩ := xs_n hE
  refine va_sld (pc := 350) hx hb hX hbl hbA G.2.2.2.1 (xs_inP hi3) d_L_law_350 ?_
  obtain ⟨w4, hw4, hE⟩ := xs_b hE
  refine xs_callVv (pc := 351) (as := [.int ((xs (v4 + (1 : Int32)).toNatClampNeg))]) X (ok_R_turn l D ad cs hJ hw4) km_L_93 G (xs_wR ad cs _) rfl ⟨by decide, by decide⟩ (by first | exact hc | exact ⟨Nat.le_trans (Nat.le_add_right _ _) hc.1, Nat.le_trans (Nat.le_add_right _ _) hc.2⟩) rfl hl.1 rfl (Nat.le_of_ble_eq_true rfl) d_L_law_351 (fun H locs G => ?_)
  refine lv_aload_n (pc := 354) hx hb d_L_law_354 rfl (lv_at hl 3 rfl) ?_
  obtain ⟨w5, hw5, hE⟩ := xs_b hE
  refine xs_callVr (pc := 355) (as := []) X (ok_R_thrown l D ad cs hJ hw5) km_L_79 G (xs_wR ad cs _) rfl ⟨by decide, by decide⟩ (by first | exact hc | exact ⟨Nat.le_trans (Nat.le_add_right _ _) hc.1, Nat.le_trans (Nat.le_add_right _ _) hc.2⟩) rfl hl.1 rfl (Nat.le_of_ble_eq_true rfl) d_L_law_355 (fun H locs G => ?_)
  refine lv_iload (pc := 358) hx hb d_L_law_358 (lv_at hl 0 rfl) ?_
  refine lv_icmp_eq (pc := 360) (tgt := 365) hx hb d_L_law_360 (by decide) (fun hc => ?_) (fun hc => ?_)
  · have hE := xs_t hE hc
    refine lv_goto (pc := 365) (tgt := 1153) hx hb d_L_law_365 (by decide) ?_
    cases hE
    first | exact kk _ _ _ G (lv_sub hl [1, 2, 3, 4, 5] rfl) | exact W.widen (Nat.le_add_right _ 1) (Nat.le_add_right _ 6) (kk _ _ _ G (lv_sub hl [1, 2, 3, 4, 5] rfl))
  · have hE := xs_f hE hc
    refine lv_iconst (pc := 363) (v := (0 : Int32)) hx hb d_L_law_363 (by decide) ?_
    cases hE
def fn_law_c4 (μ : xs_M) (xs : Nat → Int32) (L : Nat) (v4 : Int32) : Option xs_M :=
  ((fn_L_join μ).bind fun w1 => ((fn_R_join w1.2).bind fun w2 => ((fn_R_thrown w2).bind fun w3 => (if w3 = w1.1 then some w2 else none))))
set_option maxHeartbeats 4000000 in
set_option maxRecDepth 100000 in
theorem ok_law_c4 {p : Program} {e : Env} {s : State} {m : MethodId} {below : List Frame} {meth : Method} {c : Code} {H : Heap} {locs : List Loc} {cells slots : Nat} {Q : State → Prop} {ls : Array Slot} {A : Nat → Prop} {μ : xs_M} {b L : Nat} {xs : Nat → Int32} {v4 : Int32} (l : Launch) (hlt : l.stackTraces = false) (D : va_G) (ad : Nat → Nat) (cs : xs_cs) (hJ : xs_J ad) (X : xs_C p s m c code 8 #[Value.ref b] "ExactSceneLaw") (hT : xt_P A s s.heap) (hX : va_X b L xs s s.heap) (hbl : b < s.heap.size) (hbA : ¬ A b) (G : xs_G D ad cs s A s.heap μ H locs) (hl : lv_has ls 8 [(0, .ref b), (1, .ref (ad 0)), (2, .ref (ad 154)), (3, .ref (ad 171)), (4, .int (v4))]) (hc : cells + 1 ≤ room_1.cells ∧ slots + 6 ≤ room_1.slots) {μ2 : xs_M} (hE : fn_law_c4 μ xs L v4 = some μ2) (kk : ∀ (H : Heap) (locs : List Loc) (ls : Array Slot), xs_G D ad cs s A s.heap μ2 H locs → lv_has ls 8 [(0, .ref b), (1, .ref (ad 0)), (2, .ref (ad 154)), (3, .ref (ad 171)), (4, .int (v4))] → W p l e room_1 s m #[Value.ref b] below meth c H locs (cells + 1) (slots + 6) Q (F0 m 1153 ls [])) : W p l e room_1 s m #[Value.ref b] below meth c H locs cells slots Q (F0 m 368 ls []) := by
  have hx := X.1
  have hb := X.2.1
  unfold fn_law_c4 at hE
  refine lv_aload_n (pc := 368) hx hb d_L_law_368 rfl (lv_at hl 1 rfl) ?_
  obtain ⟨w1, hw1, hE⟩ := xs_b hE
  refine xh_callS (pc := 369) (as := [.ref (ad 0)]) X (ok_L_join l hlt D ad cs hJ hw1) kh_94 hT G ⟨by decide, by decide⟩ hc rfl hl.1 rfl (Nat.le_of_ble_eq_true rfl) d_L_law_369 (fun H locs G => ?_)
  refine lv_istore (pc := 372) hx hb d_L_law_372 hl (by decide) (lv' := [(5, .int (w1.1)), (0, .ref b), (1, .ref (ad 0)), (2, .ref (ad 154)), (3, .ref (ad 171)), (4, .int (v4))]) rfl (fun ls hl => ?_)
  refine lv_aload_n (pc := 374) hx hb d_L_law_374 rfl (lv_at hl 3 rfl) ?_
  obtain ⟨w2, hw2, hE⟩ := xs_b hE
  refine xs_callVv (pc := 375) (as := []) X (ok_R_join l D ad cs hJ hw2) km_L_97 G (xs_wR ad cs _) rfl ⟨by decide, by decide⟩ (by first | exact hc | exact ⟨Nat.le_trans (Nat.le_add_right _ _) hc.1, Nat.le_trans (Nat.le_add_right _ _) hc.2⟩) rfl hl.1 rfl (Nat.le_of_ble_eq_true rfl) d_L_law_375 (fun H locs G => ?_)
  refine lv_aload_n (pc := 378) hx hb d_L_law_378 rfl (lv_at hl 3 rfl) ?_
  obtain ⟨w3, hw3, hE⟩ := xs_b hE
  refine xs_callVr (pc := 379) (as := []) X (ok_R_thrown l D ad cs hJ hw3) km_L_79 G (xs_wR ad cs _) rfl ⟨by decide, by decide⟩ (by first | exact hc | exact ⟨Nat.le_trans (Nat.le_add_right _ _) hc.1, Nat.le_trans (Nat.le_add_right _ _) hc.2⟩) rfl hl.1 rfl (Nat.le_of_ble_eq_true rfl) d_L_law_379 (fun H locs G => ?_)
  refine lv_iload (pc := 382) hx hb d_L_law_382 (lv_at hl 0 rfl) ?_
  refine lv_icmp_eq (pc := 384) (tgt := 389) hx hb d_L_law_384 (by decide) (fun hc => ?_) (fun hc => ?_)
  · have hE := xs_t hE hc
    refine lv_goto (pc := 389) (tgt := 1153) hx hb d_L_law_389 (by decide) ?_
    cases hE
    first | exact kk _ _ _ G (lv_sub hl [1, 2, 3, 4, 5] rfl) | exact W.widen (Nat.le_add_right _ 1) (Nat.le_add_right _ 6) (kk _ _ _ G (lv_sub hl [1, 2, 3, 4, 5] rfl))
  · have hE := xs_f hE hc
    refine lv_iconst (pc := 387) (v := (0 : Int32)) hx hb d_L_law_387 (by decide) ?_
    cases hE
def fn_law_c5 (μ : xs_M) (xs : Nat → Int32) (L : Nat) (v4 : Int32) : Option xs_M :=
  ((fn_L_push μ).bind fun w1 => ((fn_R_push w1.2).bind fun w2 => ((fn_R_thrown w2).bind fun w3 => (if w3 = w1.1 then some w2 else none))))
set_option maxHeartbeats 4000000 in
set_option maxRecDepth 100000 in
theorem ok_law_c5 {p : Program} {e : Env} {s : State} {m : MethodId} {below : List Frame} {meth : Method} {c : Code} {H : Heap} {locs : List Loc} {cells slots : Nat} {Q : State → Prop} {ls : Array Slot} {A : Nat → Prop} {μ : xs_M} {b L : Nat} {xs : Nat → Int32} {v4 : Int32} (l : Launch) (hlt : l.stackTraces = false) (D : va_G) (ad : Nat → Nat) (cs : xs_cs) (hJ : xs_J ad) (X : xs_C p s m c code 8 #[Value.ref b] "ExactSceneLaw") (hT : xt_P A s s.heap) (hX : va_X b L xs s s.heap) (hbl : b < s.heap.size) (hbA : ¬ A b) (G : xs_G D ad cs s A s.heap μ H locs) (hl : lv_has ls 8 [(0, .ref b), (1, .ref (ad 0)), (2, .ref (ad 154)), (3, .ref (ad 171)), (4, .int (v4))]) (hc : cells + 1 ≤ room_1.cells ∧ slots + 6 ≤ room_1.slots) {μ2 : xs_M} (hE : fn_law_c5 μ xs L v4 = some μ2) (kk : ∀ (H : Heap) (locs : List Loc) (ls : Array Slot), xs_G D ad cs s A s.heap μ2 H locs → lv_has ls 8 [(0, .ref b), (1, .ref (ad 0)), (2, .ref (ad 154)), (3, .ref (ad 171)), (4, .int (v4))] → W p l e room_1 s m #[Value.ref b] below meth c H locs (cells + 1) (slots + 6) Q (F0 m 1153 ls [])) : W p l e room_1 s m #[Value.ref b] below meth c H locs cells slots Q (F0 m 392 ls []) := by
  have hx := X.1
  have hb := X.2.1
  unfold fn_law_c5 at hE
  refine lv_aload_n (pc := 392) hx hb d_L_law_392 rfl (lv_at hl 1 rfl) ?_
  obtain ⟨w1, hw1, hE⟩ := xs_b hE
  refine xh_callS (pc := 393) (as := [.ref (ad 0)]) X (ok_L_push l hlt D ad cs hJ hw1) kh_98 hT G ⟨by decide, by decide⟩ hc rfl hl.1 rfl (Nat.le_of_ble_eq_true rfl) d_L_law_393 (fun H locs G => ?_)
  refine lv_istore (pc := 396) hx hb d_L_law_396 hl (by decide) (lv' := [(5, .int (w1.1)), (0, .ref b), (1, .ref (ad 0)), (2, .ref (ad 154)), (3, .ref (ad 171)), (4, .int (v4))]) rfl (fun ls hl => ?_)
  refine lv_aload_n (pc := 398) hx hb d_L_law_398 rfl (lv_at hl 3 rfl) ?_
  obtain ⟨w2, hw2, hE⟩ := xs_b hE
  refine xs_callVv (pc := 399) (as := []) X (ok_R_push l D ad cs hJ hw2) km_L_100 G (xs_wR ad cs _) rfl ⟨by decide, by decide⟩ (by first | exact hc | exact ⟨Nat.le_trans (Nat.le_add_right _ _) hc.1, Nat.le_trans (Nat.le_add_right _ _) hc.2⟩) rfl hl.1 rfl (Nat.le_of_ble_eq_true rfl) d_L_law_399 (fun H locs G => ?_)
  refine lv_aload_n (pc := 402) hx hb d_L_law_402 rfl (lv_at hl 3 rfl) ?_
  obtain ⟨w3, hw3, hE⟩ := xs_b hE
  refine xs_callVr (pc := 403) (as := []) X (ok_R_thrown l D ad cs hJ hw3) km_L_79 G (xs_wR ad cs _) rfl ⟨by decide, by decide⟩ (by first | exact hc | exact ⟨Nat.le_trans (Nat.le_add_right _ _) hc.1, Nat.le_trans (Nat.le_add_right _ _) hc.2⟩) rfl hl.1 rfl (Nat.le_of_ble_eq_true rfl) d_L_law_403 (fun H locs G => ?_)
  refine lv_iload (pc := 406) hx hb d_L_law_406 (lv_at hl 0 rfl) ?_
  refine lv_icmp_eq (pc := 408) (tgt := 413) hx hb d_L_law_408 (by decide) (fun hc => ?_) (fun hc => ?_)
  · have hE := xs_t hE hc
    refine lv_goto (pc := 413) (tgt := 1153) hx hb d_L_law_413 (by decide) ?_
    cases hE
    first | exact kk _ _ _ G (lv_sub hl [1, 2, 3, 4, 5] rfl) | exact W.widen (Nat.le_add_right _ 1) (Nat.le_add_right _ 6) (kk _ _ _ G (lv_sub hl [1, 2, 3, 4, 5] rfl))
  · have hE := xs_f hE hc
    refine lv_iconst (pc := 411) (v := (0 : Int32)) hx hb d_L_law_411 (by decide) ?_
    cases hE
def fn_law_c6 (μ : xs_M) (xs : Nat → Int32) (L : Nat) (v4 : Int32) : Option xs_M :=
  ((fn_L_pop μ).bind fun w1 => ((fn_R_pop w1.2).bind fun w2 => ((fn_R_thrown w2).bind fun w3 => (if w3 = w1.1 then some w2 else none))))
set_option maxHeartbeats 4000000 in
set_option maxRecDepth 100000 in
theorem ok_law_c6 {p : Program} {e : Env} {s : State} {m : MethodId} {below : List Frame} {meth : Method} {c : Code} {H : Heap} {locs : List Loc} {cells slots : Nat} {Q : State → Prop} {ls : Array Slot} {A : Nat → Prop} {μ : xs_M} {b L : Nat} {xs : Nat → Int32} {v4 : Int32} (l : Launch) (hlt : l.stackTraces = false) (D : va_G) (ad : Nat → Nat) (cs : xs_cs) (hJ : xs_J ad) (X : xs_C p s m c code 8 #[Value.ref b] "ExactSceneLaw") (hT : xt_P A s s.heap) (hX : va_X b L xs s s.heap) (hbl : b < s.heap.size) (hbA : ¬ A b) (G : xs_G D ad cs s A s.heap μ H locs) (hl : lv_has ls 8 [(0, .ref b), (1, .ref (ad 0)), (2, .ref (ad 154)), (3, .ref (ad 171)), (4, .int (v4))]) (hc : cells + 1 ≤ room_1.cells ∧ slots + 6 ≤ room_1.slots) {μ2 : xs_M} (hE : fn_law_c6 μ xs L v4 = some μ2) (kk : ∀ (H : Heap) (locs : List Loc) (ls : Array Slot), xs_G D ad cs s A s.heap μ2 H locs → lv_has ls 8 [(0, .ref b), (1, .ref (ad 0)), (2, .ref (ad 154)), (3, .ref (ad 171)), (4, .int (v4))] → W p l e room_1 s m #[Value.ref b] below meth c H locs (cells + 1) (slots + 6) Q (F0 m 1153 ls [])) : W p l e room_1 s m #[Value.ref b] below meth c H locs cells slots Q (F0 m 416 ls []) := by
  have hx := X.1
  have hb := X.2.1
  unfold fn_law_c6 at hE
  refine lv_aload_n (pc := 416) hx hb d_L_law_416 rfl (lv_at hl 1 rfl) ?_
  obtain ⟨w1, hw1, hE⟩ := xs_b hE
  refine xh_callS (pc := 417) (as := [.ref (ad 0)]) X (ok_L_pop l hlt D ad cs hJ hw1) kh_101 hT G ⟨by decide, by decide⟩ hc rfl hl.1 rfl (Nat.le_of_ble_eq_true rfl) d_L_law_417 (fun H locs G => ?_)
  refine lv_istore (pc := 420) hx hb d_L_law_420 hl (by decide) (lv' := [(5, .int (w1.1)), (0, .ref b), (1, .ref (ad 0)), (2, .ref (ad 154)), (3, .ref (ad 171)), (4, .int (v4))]) rfl (fun ls hl => ?_)
  refine lv_aload_n (pc := 422) hx hb d_L_law_422 rfl (lv_at hl 3 rfl) ?_
  obtain ⟨w2, hw2, hE⟩ := xs_b hE
  refine xs_callVv (pc := 423) (as := []) X (ok_R_pop l D ad cs hJ hw2) km_L_103 G (xs_wR ad cs _) rfl ⟨by decide, by decide⟩ (by first | exact hc | exact ⟨Nat.le_trans (Nat.le_add_right _ _) hc.1, Nat.le_trans (Nat.le_add_right _ _) hc.2⟩) rfl hl.1 rfl (Nat.le_of_ble_eq_true rfl) d_L_law_423 (fun H locs G => ?_)
  refine lv_aload_n (pc := 426) hx hb d_L_law_426 rfl (lv_at hl 3 rfl) ?_
  obtain ⟨w3, hw3, hE⟩ := xs_b hE
  refine xs_callVr (pc := 427) (as := []) X (ok_R_thrown l D ad cs hJ hw3) km_L_79 G (xs_wR ad cs _) rfl ⟨by decide, by decide⟩ (by first | exact hc | exact ⟨Nat.le_trans (Nat.le_add_right _ _) hc.1, Nat.le_trans (Nat.le_add_right _ _) hc.2⟩) rfl hl.1 rfl (Nat.le_of_ble_eq_true rfl) d_L_law_427 (fun H locs G => ?_)
  refine lv_iload (pc := 430) hx hb d_L_law_430 (lv_at hl 0 rfl) ?_
  refine lv_icmp_eq (pc := 432) (tgt := 437) hx hb d_L_law_432 (by decide) (fun hc => ?_) (fun hc => ?_)
  · have hE := xs_t hE hc
    refine lv_goto (pc := 437) (tgt := 1153) hx hb d_L_law_437 (by decide) ?_
    cases hE
    first | exact kk _ _ _ G (lv_sub hl [1, 2, 3, 4, 5] rfl) | exact W.widen (Nat.le_add_right _ 1) (Nat.le_add_right _ 6) (kk _ _ _ G (lv_sub hl [1, 2, 3, 4, 5] rfl))
  · have hE := xs_f hE hc
    refine lv_iconst (pc := 435) (v := (0 : Int32)) hx hb d_L_law_435 (by decide) ?_
    cases hE
def fn_law_c7 (μ : xs_M) (xs : Nat → Int32) (L : Nat) (v4 : Int32) : Option xs_M :=
  (if xs_in (v4 + (1 : Int32)) L = true then (if xs_in (v4 + (2 : Int32)) L = true then ((fn_L_entry μ (xs (v4 + (1 : Int32)).toNatClampNeg) (xs (v4 + (2 : Int32)).toNatClampNeg)).bind fun w3 => (if xs_in (v4 + (1 : Int32)) L = true then (if xs_in (v4 + (2 : Int32)) L = true then ((fn_R_entry w3.2 (xs (v4 + (1 : Int32)).toNatClampNeg) (xs (v4 + (2 : Int32)).toNatClampNeg)).bind fun w6 => ((fn_R_thrown w6.2).bind fun w7 => (if w7 = w3.1 then (if w3.1 = 0 then (if (lg_cmp (w6.2.2 171 (0 : Int32).toNatClampNeg) (w6.1).toInt64) = 0 then some w6.2 else none) else some w6.2) else none))) else none) else none)) else none) else none)
set_option maxHeartbeats 4000000 in
set_option maxRecDepth 100000 in
theorem ok_law_c7 {p : Program} {e : Env} {s : State} {m : MethodId} {below : List Frame} {meth : Method} {c : Code} {H : Heap} {locs : List Loc} {cells slots : Nat} {Q : State → Prop} {ls : Array Slot} {A : Nat → Prop} {μ : xs_M} {b L : Nat} {xs : Nat → Int32} {v4 : Int32} (l : Launch) (hlt : l.stackTraces = false) (D : va_G) (ad : Nat → Nat) (cs : xs_cs) (hJ : xs_J ad) (X : xs_C p s m c code 8 #[Value.ref b] "ExactSceneLaw") (hT : xt_P A s s.heap) (hX : va_X b L xs s s.heap) (hbl : b < s.heap.size) (hbA : ¬ A b) (G : xs_G D ad cs s A s.heap μ H locs) (hl : lv_has ls 8 [(0, .ref b), (1, .ref (ad 0)), (2, .ref (ad 154)), (3, .ref (ad 171)), (4, .int (v4))]) (hc : cells + 1 ≤ room_1.cells ∧ slots + 6 ≤ room_1.slots) {μ2 : xs_M} (hE : fn_law_c7 μ xs L v4 = some μ2) (kk : ∀ (H : Heap) (locs : List Loc) (ls : Array Slot), xs_G D ad cs s A s.heap μ2 H locs → lv_has ls 8 [(0, .ref b), (1, .ref (ad 0)), (2, .ref (ad 154)), (3, .ref (ad 171)), (4, .int (v4))] → W p l e room_1 s m #[Value.ref b] below meth c H locs (cells + 1) (slots + 6) Q (F0 m 1153 ls [])) : W p l e room_1 s m #[Value.ref b] below meth c H locs cells slots Q (F0 m 440 ls []) := by
  have hx := X.1
  have hb := X.2.1
  unfold fn_law_c7 at hE
  refine lv_aload_n (pc := 440) hx hb d_L_law_440 rfl (lv_at hl 1 rfl) ?_
  refine lv_aload_n (pc := 441) hx hb d_L_law_441 rfl (lv_at hl 0 rfl) ?_
  refine lv_iload (pc := 442) hx hb d_L_law_442 (lv_at hl 4 rfl) ?_
  refine lv_iconst (pc := 444) (v := (1 : Int32)) hx hb d_L_law_444 (by decide) ?_
  refine lv_iadd (pc := 445) hx hb d_L_law_445 ?_
  obtain ⟨hi1, hE⟩ := xs_n hE
  refine va_sld (pc := 446) hx hb hX hbl hbA G.2.2.2.1 (xs_inP hi1) d_L_law_446 ?_
  refine lv_aload_n (pc := 447) hx hb d_L_law_447 rfl (lv_at hl 0 rfl) ?_
  refine lv_iload (pc := 448) hx hb d_L_law_448 (lv_at hl 4 rfl) ?_
  refine lv_iconst (pc := 450) (v := (2 : Int32)) hx hb d_L_law_450 (by decide) ?_
  refine lv_iadd (pc := 451) hx hb d_L_law_451 ?_
  obtain ⟨hi2, hE⟩ := xs_n hE
  refine va_sld (pc := 452) hx hb hX hbl hbA G.2.2.2.1 (xs_inP hi2) d_L_law_452 ?_
  refine lv_aload_n (pc := 453) hx hb d_L_law_453 rfl (lv_at hl 3 rfl) ?_
  obtain ⟨w3, hw3, hE⟩ := xs_b hE
  refine xh_callS (pc := 454) (as := [.ref (ad 0), .int ((xs (v4 + (1 : Int32)).toNatClampNeg)), .int ((xs (v4 + (2 : Int32)).toNatClampNeg)), .ref (ad 171)]) X (ok_L_entry l hlt D ad cs hJ hw3) kh_104 hT G ⟨by decide, by decide⟩ hc rfl hl.1 rfl (Nat.le_of_ble_eq_true rfl) d_L_law_454 (fun H locs G => ?_)
  refine lv_istore (pc := 457) hx hb d_L_law_457 hl (by decide) (lv' := [(5, .int (w3.1)), (0, .ref b), (1, .ref (ad 0)), (2, .ref (ad 154)), (3, .ref (ad 171)), (4, .int (v4))]) rfl (fun ls hl => ?_)
  refine lv_aload_n (pc := 459) hx hb d_L_law_459 rfl (lv_at hl 3 rfl) ?_
  refine lv_aload_n (pc := 460) hx hb d_L_law_460 rfl (lv_at hl 1 rfl) ?_
  refine lv_iload (pc := 461) hx hb d_L_law_461 (lv_at hl 5 rfl) ?_
  refine lv_iconst (pc := 463) (v := (1 : Int32)) hx hb d_L_law_463 (by decide) ?_
  refine lv_iadd (pc := 464) hx hb d_L_law_464 ?_
  obtain ⟨hi4, hE⟩ := xs_n hE
  refine va_sld (pc := 465) hx hb hX hbl hbA G.2.2.2.1 (xs_inP hi4) d_L_law_465 ?_
  refine lv_aload_n (pc := 466) hx hb d_L_law_466 rfl (lv_at hl 1 rfl) ?_
  refine lv_iload (pc := 467) hx hb d_L_law_467 (lv_at hl 5 rfl) ?_
  refine lv_iconst (pc := 469) (v := (2 : Int32)) hx hb d_L_law_469 (by decide) ?_
  refine lv_iadd (pc := 470) hx hb d_L_law_470 ?_
  obtain ⟨hi5, hE⟩ := xs_n hE
  refine va_sld (pc := 471) hx hb hX hbl hbA G.2.2.2.1 (xs_inP hi5) d_L_law_471 ?_
  obtain ⟨w6, hw6, hE⟩ := xs_b hE
  refine xs_callVr (pc := 472) (as := [.int ((xs (v4 + (1 : Int32)).toNatClampNeg)), .int ((xs (v4 + (2 : Int32)).toNatClampNeg))]) X (ok_R_entry l D ad cs hJ hw6) km_L_107 G (xs_wR ad cs _) rfl ⟨by decide, by decide⟩ (by first | exact hc | exact ⟨Nat.le_trans (Nat.le_add_right _ _) hc.1, Nat.le_trans (Nat.le_add_right _ _) hc.2⟩) rfl hl.1 rfl (Nat.le_of_ble_eq_true rfl) d_L_law_472 (fun H locs G => ?_)
  refine lv_istore (pc := 475) hx hb d_L_law_475 hl (by decide) (lv' := [(6, .int (w6.1)), (5, .int (w3.1)), (0, .ref b), (1, .ref (ad 0)), (2, .ref (ad 154)), (3, .ref (ad 171)), (4, .int (v4))]) rfl (fun ls hl => ?_)
  refine lv_aload_n (pc := 477) hx hb d_L_law_477 rfl (lv_at hl 4 rfl) ?_
  obtain ⟨w7, hw7, hE⟩ := xs_b hE
  refine xs_callVr (pc := 478) (as := []) X (ok_R_thrown l D ad cs hJ hw7) km_L_79 G (xs_wR ad cs _) rfl ⟨by decide, by decide⟩ (by first | exact hc | exact ⟨Nat.le_trans (Nat.le_add_right _ _) hc.1, Nat.le_trans (Nat.le_add_right _ _) hc.2⟩) rfl hl.1 rfl (Nat.le_of_ble_eq_true rfl) d_L_law_478 (fun H locs G => ?_)
  refine lv_iload (pc := 481) hx hb d_L_law_481 (lv_at hl 1 rfl) ?_
  refine lv_icmp_eq (pc := 483) (tgt := 488) hx hb d_L_law_483 (by decide) (fun hc => ?_) (fun hc => ?_)
  · have hE := xs_t hE hc
    refine lv_iload (pc := 488) hx hb d_L_law_488 (lv_at hl 1 rfl) ?_
    refine lv_if_ne (pc := 490) (tgt := 505) hx hb d_L_law_490 (by decide) (fun hc => ?_) (fun hc => ?_)
    · have hE := xs_f hE hc
      refine lv_goto (pc := 505) (tgt := 1153) hx hb d_L_law_505 (by decide) ?_
      cases hE
      first | exact kk _ _ _ G (lv_sub hl [2, 3, 4, 5, 6] rfl) | exact W.widen (Nat.le_add_right _ 1) (Nat.le_add_right _ 6) (kk _ _ _ G (lv_sub hl [2, 3, 4, 5, 6] rfl))
    · have hE := xs_t hE hc
      refine lv_aload_n (pc := 493) hx hb d_L_law_493 rfl (lv_at hl 5 rfl) ?_
      refine lv_iconst (pc := 494) (v := (0 : Int32)) hx hb d_L_law_494 (by decide) ?_
      refine xs_lald (pc := 495) hx hb G la_171 (xs_inP (by decide)) d_L_law_495 ?_
      refine lv_iload (pc := 496) hx hb d_L_law_496 (lv_at hl 0 rfl) ?_
      refine lv_i2l (pc := 498) hx hb d_L_law_498 rfl ?_
      refine W.lcmp (pc := 499) hx hb d_L_law_499 ?_
      refine lv_if_eq (pc := 500) (tgt := 505) hx hb d_L_law_500 (by decide) (fun hc => ?_) (fun hc => ?_)
      · have hE := xs_t hE hc
        refine lv_goto (pc := 505) (tgt := 1153) hx hb d_L_law_505 (by decide) ?_
        cases hE
        first | exact kk _ _ _ G (lv_sub hl [2, 3, 4, 5, 6] rfl) | exact W.widen (Nat.le_add_right _ 1) (Nat.le_add_right _ 6) (kk _ _ _ G (lv_sub hl [2, 3, 4, 5, 6] rfl))
      · have hE := xs_f hE hc
        refine lv_iconst (pc := 503) (v := (0 : Int32)) hx hb d_L_law_503 (by decide) ?_
        cases hE
  · have hE := xs_f hE hc
    refine lv_iconst (pc := 486) (v := (0 : Int32)) hx hb d_L_law_486 (by decide) ?_
    cases hE
def fn_law_c8 (μ : xs_M) (xs : Nat → Int32) (L : Nat) (v4 : Int32) : Option xs_M :=
  (if xs_in (v4 + (1 : Int32)) L = true then (if xs_in (v4 + (2 : Int32)) L = true then (if xs_in (v4 + (3 : Int32)) L = true then (if xs_in (v4 + (4 : Int32)) L = true then (if xs_in (v4 + (5 : Int32)) L = true then ((fn_L_vertex μ (xs (v4 + (1 : Int32)).toNatClampNeg) (xs (v4 + (2 : Int32)).toNatClampNeg) (xs (v4 + (3 : Int32)).toNatClampNeg) (xs (v4 + (4 : Int32)).toNatClampNeg) (xs (v4 + (5 : Int32)).toNatClampNeg)).bind fun w6 => (if xs_in (v4 + (1 : Int32)) L = true then (if xs_in (v4 + (2 : Int32)) L = true then (if xs_in (v4 + (3 : Int32)) L = true then (if xs_in (v4 + (4 : Int32)) L = true then (if xs_in (v4 + (5 : Int32)) L = true then ((fn_R_vertex w6.2 (xs (v4 + (1 : Int32)).toNatClampNeg) (xs (v4 + (2 : Int32)).toNatClampNeg) (xs (v4 + (3 : Int32)).toNatClampNeg) (xs (v4 + (4 : Int32)).toNatClampNeg) (xs (v4 + (5 : Int32)).toNatClampNeg)).bind fun w12 => ((fn_R_thrown w12.2).bind fun w13 => (if w13 = w6.1 then (if w6.1 = 0 then (if (lg_cmp (w12.2.2 171 (0 : Int32).toNatClampNeg) (w12.1).toInt64) = 0 then some w12.2 else none) else some w12.2) else none))) else none) else none) else none) else none) else none)) else none) else none) else none) else none) else none)
set_option maxHeartbeats 4000000 in
set_option maxRecDepth 100000 in
theorem ok_law_c8 {p : Program} {e : Env} {s : State} {m : MethodId} {below : List Frame} {meth : Method} {c : Code} {H : Heap} {locs : List Loc} {cells slots : Nat} {Q : State → Prop} {ls : Array Slot} {A : Nat → Prop} {μ : xs_M} {b L : Nat} {xs : Nat → Int32} {v4 : Int32} (l : Launch) (hlt : l.stackTraces = false) (D : va_G) (ad : Nat → Nat) (cs : xs_cs) (hJ : xs_J ad) (X : xs_C p s m c code 8 #[Value.ref b] "ExactSceneLaw") (hT : xt_P A s s.heap) (hX : va_X b L xs s s.heap) (hbl : b < s.heap.size) (hbA : ¬ A b) (G : xs_G D ad cs s A s.heap μ H locs) (hl : lv_has ls 8 [(0, .ref b), (1, .ref (ad 0)), (2, .ref (ad 154)), (3, .ref (ad 171)), (4, .int (v4))]) (hc : cells + 1 ≤ room_1.cells ∧ slots + 6 ≤ room_1.slots) {μ2 : xs_M} (hE : fn_law_c8 μ xs L v4 = some μ2) (kk : ∀ (H : Heap) (locs : List Loc) (ls : Array Slot), xs_G D ad cs s A s.heap μ2 H locs → lv_has ls 8 [(0, .ref b), (1, .ref (ad 0)), (2, .ref (ad 154)), (3, .ref (ad 171)), (4, .int (v4))] → W p l e room_1 s m #[Value.ref b] below meth c H locs (cells + 1) (slots + 6) Q (F0 m 1153 ls [])) : W p l e room_1 s m #[Value.ref b] below meth c H locs cells slots Q (F0 m 508 ls []) := by
  have hx := X.1
  have hb := X.2.1
  unfold fn_law_c8 at hE
  refine lv_aload_n (pc := 508) hx hb d_L_law_508 rfl (lv_at hl 1 rfl) ?_
  refine lv_aload_n (pc := 509) hx hb d_L_law_509 rfl (lv_at hl 0 rfl) ?_
  refine lv_iload (pc := 510) hx hb d_L_law_510 (lv_at hl 4 rfl) ?_
  refine lv_iconst (pc := 512) (v := (1 : Int32)) hx hb d_L_law_512 (by decide) ?_
  refine lv_iadd (pc := 513) hx hb d_L_law_513 ?_
  obtain ⟨hi1, hE⟩ := xs_n hE
  refine va_sld (pc := 514) hx hb hX hbl hbA G.2.2.2.1 (xs_inP hi1) d_L_law_514 ?_
  refine lv_aload_n (pc := 515) hx hb d_L_law_515 rfl (lv_at hl 0 rfl) ?_
  refine lv_iload (pc := 516) hx hb d_L_law_516 (lv_at hl 4 rfl) ?_
  refine lv_iconst (pc := 518) (v := (2 : Int32)) hx hb d_L_law_518 (by decide) ?_
  refine lv_iadd (pc := 519) hx hb d_L_law_519 ?_
  obtain ⟨hi2, hE⟩ := xs_n hE
  refine va_sld (pc := 520) hx hb hX hbl hbA G.2.2.2.1 (xs_inP hi2) d_L_law_520 ?_
  refine lv_aload_n (pc := 521) hx hb d_L_law_521 rfl (lv_at hl 0 rfl) ?_
  refine lv_iload (pc := 522) hx hb d_L_law_522 (lv_at hl 4 rfl) ?_
  refine lv_iconst (pc := 524) (v := (3 : Int32)) hx hb d_L_law_524 (by decide) ?_
  refine lv_iadd (pc := 525) hx hb d_L_law_525 ?_
  obtain ⟨hi3, hE⟩ := xs_n hE
  refine va_sld (pc := 526) hx hb hX hbl hbA G.2.2.2.1 (xs_inP hi3) d_L_law_526 ?_
  refine lv_aload_n (pc := 527) hx hb d_L_law_527 rfl (lv_at hl 0 rfl) ?_
  refine lv_iload (pc := 528) hx hb d_L_law_528 (lv_at hl 4 rfl) ?_
  refine lv_iconst (pc := 530) (v := (4 : Int32)) hx hb d_L_law_530 (by decide) ?_
  refine lv_iadd (pc := 531) hx hb d_L_law_531 ?_
  obtain ⟨hi4, hE⟩ := xs_n hE
  refine va_sld (pc := 532) hx hb hX hbl hbA G.2.2.2.1 (xs_inP hi4) d_L_law_532 ?_
  refine lv_aload_n (pc := 533) hx hb d_L_law_533 rfl (lv_at hl 0 rfl) ?_
  refine lv_iload (pc := 534) hx hb d_L_law_534 (lv_at hl 4 rfl) ?_
  refine lv_iconst (pc := 536) (v := (5 : Int32)) hx hb d_L_law_536 (by decide) ?_
  refine lv_iadd (pc := 537) hx hb d_L_law_537 ?_
  obtain ⟨hi5, hE⟩ := xs_n hE
  refine va_sld (pc := 538) hx hb hX hbl hbA G.2.2.2.1 (xs_inP hi5) d_L_law_538 ?_
  refine lv_aload_n (pc := 539) hx hb d_L_law_539 rfl (lv_at hl 3 rfl) ?_
  obtain ⟨w6, hw6, hE⟩ := xs_b hE
  refine xh_callS (pc := 540) (as := [.ref (ad 0), .int ((xs (v4 + (1 : Int32)).toNatClampNeg)), .int ((xs (v4 + (2 : Int32)).toNatClampNeg)), .int ((xs (v4 + (3 : Int32)).toNatClampNeg)), .int ((xs (v4 + (4 : Int32)).toNatClampNeg)), .int ((xs (v4 + (5 : Int32)).toNatClampNeg)), .ref (ad 171)]) X (ok_L_vertex l hlt D ad cs hJ hw6) kh_108 hT G ⟨by decide, by decide⟩ hc rfl hl.1 rfl (Nat.le_of_ble_eq_true rfl) d_L_law_540 (fun H locs G => ?_)
  refine lv_istore (pc := 543) hx hb d_L_law_543 hl (by decide) (lv' := [(5, .int (w6.1)), (0, .ref b), (1, .ref (ad 0)), (2, .ref (ad 154)), (3, .ref (ad 171)), (4, .int (v4))]) rfl (fun ls hl => ?_)
  refine lv_aload_n (pc := 545) hx hb d_L_law_545 rfl (lv_at hl 3 rfl) ?_
  refine lv_aload_n (pc := 546) hx hb d_L_law_546 rfl (lv_at hl 1 rfl) ?_
  refine lv_iload (pc := 547) hx hb d_L_law_547 (lv_at hl 5 rfl) ?_
  refine lv_iconst (pc := 549) (v := (1 : Int32)) hx hb d_L_law_549 (by decide) ?_
  refine lv_iadd (pc := 550) hx hb d_L_law_550 ?_
  obtain ⟨hi7, hE⟩ := xs_n hE
  refine va_sld (pc := 551) hx hb hX hbl hbA G.2.2.2.1 (xs_inP hi7) d_L_law_551 ?_
  refine lv_aload_n (pc := 552) hx hb d_L_law_552 rfl (lv_at hl 1 rfl) ?_
  refine lv_iload (pc := 553) hx hb d_L_law_553 (lv_at hl 5 rfl) ?_
  refine lv_iconst (pc := 555) (v := (2 : Int32)) hx hb d_L_law_555 (by decide) ?_
  refine lv_iadd (pc := 556) hx hb d_L_law_556 ?_
  obtain ⟨hi8, hE⟩ := xs_n hE
  refine va_sld (pc := 557) hx hb hX hbl hbA G.2.2.2.1 (xs_inP hi8) d_L_law_557 ?_
  refine lv_aload_n (pc := 558) hx hb d_L_law_558 rfl (lv_at hl 1 rfl) ?_
  refine lv_iload (pc := 559) hx hb d_L_law_559 (lv_at hl 5 rfl) ?_
  refine lv_iconst (pc := 561) (v := (3 : Int32)) hx hb d_L_law_561 (by decide) ?_
  refine lv_iadd (pc := 562) hx hb d_L_law_562 ?_
  obtain ⟨hi9, hE⟩ := xs_n hE
  refine va_sld (pc := 563) hx hb hX hbl hbA G.2.2.2.1 (xs_inP hi9) d_L_law_563 ?_
  refine lv_aload_n (pc := 564) hx hb d_L_law_564 rfl (lv_at hl 1 rfl) ?_
  refine lv_iload (pc := 565) hx hb d_L_law_565 (lv_at hl 5 rfl) ?_
  refine lv_iconst (pc := 567) (v := (4 : Int32)) hx hb d_L_law_567 (by decide) ?_
  refine lv_iadd (pc := 568) hx hb d_L_law_568 ?_
  obtain ⟨hi10, hE⟩ := xs_n hE
  refine va_sld (pc := 569) hx hb hX hbl hbA G.2.2.2.1 (xs_inP hi10) d_L_law_569 ?_
  refine lv_aload_n (pc := 570) hx hb d_L_law_570 rfl (lv_at hl 1 rfl) ?_
  refine lv_iload (pc := 571) hx hb d_L_law_571 (lv_at hl 5 rfl) ?_
  refine lv_iconst (pc := 573) (v := (5 : Int32)) hx hb d_L_law_573 (by decide) ?_
  refine lv_iadd (pc := 574) hx hb d_L_law_574 ?_
  obtain ⟨hi11, hE⟩ := xs_n hE
  refine va_sld (pc := 575) hx hb hX hbl hbA G.2.2.2.1 (xs_inP hi11) d_L_law_575 ?_
  obtain ⟨w12, hw12, hE⟩ := xs_b hE
  refine xs_callVr (pc := 576) (as := [.int ((xs (v4 + (1 : Int32)).toNatClampNeg)), .int ((xs (v4 + (2 : Int32)).toNatClampNeg)), .int ((xs (v4 + (3 : Int32)).toNatClampNeg)), .int ((xs (v4 + (4 : Int32)).toNatClampNeg)), .int ((xs (v4 + (5 : Int32)).toNatClampNeg))]) X (ok_R_vertex l D ad cs hJ hw12) km_L_111 G (xs_wR ad cs _) rfl ⟨by decide, by decide⟩ (by first | exact hc | exact ⟨Nat.le_trans (Nat.le_add_right _ _) hc.1, Nat.le_trans (Nat.le_add_right _ _) hc.2⟩) rfl hl.1 rfl (Nat.le_of_ble_eq_true rfl) d_L_law_576 (fun H locs G => ?_)
  refine lv_istore (pc := 579) hx hb d_L_law_579 hl (by decide) (lv' := [(6, .int (w12.1)), (5, .int (w6.1)), (0, .ref b), (1, .ref (ad 0)), (2, .ref (ad 154)), (3, .ref (ad 171)), (4, .int (v4))]) rfl (fun ls hl => ?_)
  refine lv_aload_n (pc := 581) hx hb d_L_law_581 rfl (lv_at hl 4 rfl) ?_
  obtain ⟨w13, hw13, hE⟩ := xs_b hE
  refine xs_callVr (pc := 582) (as := []) X (ok_R_thrown l D ad cs hJ hw13) km_L_79 G (xs_wR ad cs _) rfl ⟨by decide, by decide⟩ (by first | exact hc | exact ⟨Nat.le_trans (Nat.le_add_right _ _) hc.1, Nat.le_trans (Nat.le_add_right _ _) hc.2⟩) rfl hl.1 rfl (Nat.le_of_ble_eq_true rfl) d_L_law_582 (fun H locs G => ?_)
  refine lv_iload (pc := 585) hx hb d_L_law_585 (lv_at hl 1 rfl) ?_
  refine lv_icmp_eq (pc := 587) (tgt := 592) hx hb d_L_law_587 (by decide) (fun hc => ?_) (fun hc => ?_)
  · have hE := xs_t hE hc
    refine lv_iload (pc := 592) hx hb d_L_law_592 (lv_at hl 1 rfl) ?_
    refine lv_if_ne (pc := 594) (tgt := 609) hx hb d_L_law_594 (by decide) (fun hc => ?_) (fun hc => ?_)
    · have hE := xs_f hE hc
      refine lv_goto (pc := 609) (tgt := 1153) hx hb d_L_law_609 (by decide) ?_
      cases hE
      first | exact kk _ _ _ G (lv_sub hl [2, 3, 4, 5, 6] rfl) | exact W.widen (Nat.le_add_right _ 1) (Nat.le_add_right _ 6) (kk _ _ _ G (lv_sub hl [2, 3, 4, 5, 6] rfl))
    · have hE := xs_t hE hc
      refine lv_aload_n (pc := 597) hx hb d_L_law_597 rfl (lv_at hl 5 rfl) ?_
      refine lv_iconst (pc := 598) (v := (0 : Int32)) hx hb d_L_law_598 (by decide) ?_
      refine xs_lald (pc := 599) hx hb G la_171 (xs_inP (by decide)) d_L_law_599 ?_
      refine lv_iload (pc := 600) hx hb d_L_law_600 (lv_at hl 0 rfl) ?_
      refine lv_i2l (pc := 602) hx hb d_L_law_602 rfl ?_
      refine W.lcmp (pc := 603) hx hb d_L_law_603 ?_
      refine lv_if_eq (pc := 604) (tgt := 609) hx hb d_L_law_604 (by decide) (fun hc => ?_) (fun hc => ?_)
      · have hE := xs_t hE hc
        refine lv_goto (pc := 609) (tgt := 1153) hx hb d_L_law_609 (by decide) ?_
        cases hE
        first | exact kk _ _ _ G (lv_sub hl [2, 3, 4, 5, 6] rfl) | exact W.widen (Nat.le_add_right _ 1) (Nat.le_add_right _ 6) (kk _ _ _ G (lv_sub hl [2, 3, 4, 5, 6] rfl))
      · have hE := xs_f hE hc
        refine lv_iconst (pc := 607) (v := (0 : Int32)) hx hb d_L_law_607 (by decide) ?_
        cases hE
  · have hE := xs_f hE hc
    refine lv_iconst (pc := 590) (v := (0 : Int32)) hx hb d_L_law_590 (by decide) ?_
    cases hE
def fn_law_c9 (μ : xs_M) (xs : Nat → Int32) (L : Nat) (v4 : Int32) : Option xs_M :=
  (if xs_in (v4 + (1 : Int32)) L = true then (if xs_in (v4 + (2 : Int32)) L = true then (if xs_in (v4 + (3 : Int32)) L = true then ((fn_S_use μ (xs (v4 + (1 : Int32)).toNatClampNeg) (xs (v4 + (2 : Int32)).toNatClampNeg) (xs (v4 + (3 : Int32)).toNatClampNeg)).bind fun w4 => (if xs_in (v4 + (1 : Int32)) L = true then (if xs_in (v4 + (2 : Int32)) L = true then (if xs_in (v4 + (3 : Int32)) L = true then ((fn_R_use w4.2 (xs (v4 + (1 : Int32)).toNatClampNeg) (xs (v4 + (2 : Int32)).toNatClampNeg) (xs (v4 + (3 : Int32)).toNatClampNeg)).bind fun w8 => (if w4.1 = w8.1 then some w8.2 else none)) else none) else none) else none)) else none) else none) else none)
set_option maxHeartbeats 4000000 in
set_option maxRecDepth 100000 in
theorem ok_law_c9 {p : Program} {e : Env} {s : State} {m : MethodId} {below : List Frame} {meth : Method} {c : Code} {H : Heap} {locs : List Loc} {cells slots : Nat} {Q : State → Prop} {ls : Array Slot} {A : Nat → Prop} {μ : xs_M} {b L : Nat} {xs : Nat → Int32} {v4 : Int32} (l : Launch) (hlt : l.stackTraces = false) (D : va_G) (ad : Nat → Nat) (cs : xs_cs) (hJ : xs_J ad) (X : xs_C p s m c code 8 #[Value.ref b] "ExactSceneLaw") (hT : xt_P A s s.heap) (hX : va_X b L xs s s.heap) (hbl : b < s.heap.size) (hbA : ¬ A b) (G : xs_G D ad cs s A s.heap μ H locs) (hl : lv_has ls 8 [(0, .ref b), (1, .ref (ad 0)), (2, .ref (ad 154)), (3, .ref (ad 171)), (4, .int (v4))]) (hc : cells + 1 ≤ room_1.cells ∧ slots + 6 ≤ room_1.slots) {μ2 : xs_M} (hE : fn_law_c9 μ xs L v4 = some μ2) (kk : ∀ (H : Heap) (locs : List Loc) (ls : Array Slot), xs_G D ad cs s A s.heap μ2 H locs → lv_has ls 8 [(0, .ref b), (1, .ref (ad 0)), (2, .ref (ad 154)), (3, .ref (ad 171)), (4, .int (v4))] → W p l e room_1 s m #[Value.ref b] below meth c H locs (cells + 1) (slots + 6) Q (F0 m 1153 ls [])) : W p l e room_1 s m #[Value.ref b] below meth c H locs cells slots Q (F0 m 612 ls []) := by
  have hx := X.1
  have hb := X.2.1
  unfold fn_law_c9 at hE
  refine lv_aload_n (pc := 612) hx hb d_L_law_612 rfl (lv_at hl 1 rfl) ?_
  refine lv_aload_n (pc := 613) hx hb d_L_law_613 rfl (lv_at hl 0 rfl) ?_
  refine lv_iload (pc := 614) hx hb d_L_law_614 (lv_at hl 4 rfl) ?_
  refine lv_iconst (pc := 616) (v := (1 : Int32)) hx hb d_L_law_616 (by decide) ?_
  refine lv_iadd (pc := 617) hx hb d_L_law_617 ?_
  obtain ⟨hi1, hE⟩ := xs_n hE
  refine va_sld (pc := 618) hx hb hX hbl hbA G.2.2.2.1 (xs_inP hi1) d_L_law_618 ?_
  refine lv_aload_n (pc := 619) hx hb d_L_law_619 rfl (lv_at hl 0 rfl) ?_
  refine lv_iload (pc := 620) hx hb d_L_law_620 (lv_at hl 4 rfl) ?_
  refine lv_iconst (pc := 622) (v := (2 : Int32)) hx hb d_L_law_622 (by decide) ?_
  refine lv_iadd (pc := 623) hx hb d_L_law_623 ?_
  obtain ⟨hi2, hE⟩ := xs_n hE
  refine va_sld (pc := 624) hx hb hX hbl hbA G.2.2.2.1 (xs_inP hi2) d_L_law_624 ?_
  refine lv_aload_n (pc := 625) hx hb d_L_law_625 rfl (lv_at hl 0 rfl) ?_
  refine lv_iload (pc := 626) hx hb d_L_law_626 (lv_at hl 4 rfl) ?_
  refine lv_iconst (pc := 628) (v := (3 : Int32)) hx hb d_L_law_628 (by decide) ?_
  refine lv_iadd (pc := 629) hx hb d_L_law_629 ?_
  obtain ⟨hi3, hE⟩ := xs_n hE
  refine va_sld (pc := 630) hx hb hX hbl hbA G.2.2.2.1 (xs_inP hi3) d_L_law_630 ?_
  obtain ⟨w4, hw4, hE⟩ := xs_b hE
  refine xs_callVr (pc := 631) (as := [.int ((xs (v4 + (1 : Int32)).toNatClampNeg)), .int ((xs (v4 + (2 : Int32)).toNatClampNeg)), .int ((xs (v4 + (3 : Int32)).toNatClampNeg))]) X (ok_S_use l D ad cs hJ hw4) km_L_112 G (xs_wS ad cs _) rfl ⟨by decide, by decide⟩ (by first | exact hc | exact ⟨Nat.le_trans (Nat.le_add_right _ _) hc.1, Nat.le_trans (Nat.le_add_right _ _) hc.2⟩) rfl hl.1 rfl (Nat.le_of_ble_eq_true rfl) d_L_law_631 (fun H locs G => ?_)
  refine lv_aload_n (pc := 634) hx hb d_L_law_634 rfl (lv_at hl 2 rfl) ?_
  refine lv_aload_n (pc := 635) hx hb d_L_law_635 rfl (lv_at hl 0 rfl) ?_
  refine lv_iload (pc := 636) hx hb d_L_law_636 (lv_at hl 4 rfl) ?_
  refine lv_iconst (pc := 638) (v := (1 : Int32)) hx hb d_L_law_638 (by decide) ?_
  refine lv_iadd (pc := 639) hx hb d_L_law_639 ?_
  obtain ⟨hi5, hE⟩ := xs_n hE
  refine va_sld (pc := 640) hx hb hX hbl hbA G.2.2.2.1 (xs_inP hi5) d_L_law_640 ?_
  refine lv_aload_n (pc := 641) hx hb d_L_law_641 rfl (lv_at hl 0 rfl) ?_
  refine lv_iload (pc := 642) hx hb d_L_law_642 (lv_at hl 4 rfl) ?_
  refine lv_iconst (pc := 644) (v := (2 : Int32)) hx hb d_L_law_644 (by decide) ?_
  refine lv_iadd (pc := 645) hx hb d_L_law_645 ?_
  obtain ⟨hi6, hE⟩ := xs_n hE
  refine va_sld (pc := 646) hx hb hX hbl hbA G.2.2.2.1 (xs_inP hi6) d_L_law_646 ?_
  refine lv_aload_n (pc := 647) hx hb d_L_law_647 rfl (lv_at hl 0 rfl) ?_
  refine lv_iload (pc := 648) hx hb d_L_law_648 (lv_at hl 4 rfl) ?_
  refine lv_iconst (pc := 650) (v := (3 : Int32)) hx hb d_L_law_650 (by decide) ?_
  refine lv_iadd (pc := 651) hx hb d_L_law_651 ?_
  obtain ⟨hi7, hE⟩ := xs_n hE
  refine va_sld (pc := 652) hx hb hX hbl hbA G.2.2.2.1 (xs_inP hi7) d_L_law_652 ?_
  obtain ⟨w8, hw8, hE⟩ := xs_b hE
  refine xs_callVr (pc := 653) (as := [.int ((xs (v4 + (1 : Int32)).toNatClampNeg)), .int ((xs (v4 + (2 : Int32)).toNatClampNeg)), .int ((xs (v4 + (3 : Int32)).toNatClampNeg))]) X (ok_R_use l D ad cs hJ hw8) km_L_116 G (xs_wR ad cs _) rfl ⟨by decide, by decide⟩ (by first | exact hc | exact ⟨Nat.le_trans (Nat.le_add_right _ _) hc.1, Nat.le_trans (Nat.le_add_right _ _) hc.2⟩) rfl hl.1 rfl (Nat.le_of_ble_eq_true rfl) d_L_law_653 (fun H locs G => ?_)
  refine lv_icmp_eq (pc := 656) (tgt := 1153) hx hb d_L_law_656 (by decide) (fun hc => ?_) (fun hc => ?_)
  · have hE := xs_t hE hc
    cases hE
    first | exact kk _ _ _ G (lv_sub hl [0, 1, 2, 3, 4] rfl) | exact W.widen (Nat.le_add_right _ 1) (Nat.le_add_right _ 6) (kk _ _ _ G (lv_sub hl [0, 1, 2, 3, 4] rfl))
  · have hE := xs_f hE hc
    refine lv_iconst (pc := 659) (v := (0 : Int32)) hx hb d_L_law_659 (by decide) ?_
    cases hE
def fn_law_c10 (μ : xs_M) (xs : Nat → Int32) (L : Nat) (v4 : Int32) : Option xs_M :=
  (if xs_in (v4 + (1 : Int32)) L = true then (if xs_in (v4 + (2 : Int32)) L = true then (if xs_in (v4 + (3 : Int32)) L = true then (if xs_in (v4 + (4 : Int32)) L = true then ((fn_L_texel μ (xs (v4 + (1 : Int32)).toNatClampNeg) (xs (v4 + (2 : Int32)).toNatClampNeg) (xs (v4 + (3 : Int32)).toNatClampNeg) (xs (v4 + (4 : Int32)).toNatClampNeg)).bind fun w5 => (if xs_in (v4 + (1 : Int32)) L = true then (if xs_in (v4 + (2 : Int32)) L = true then (if xs_in (v4 + (3 : Int32)) L = true then (if xs_in (v4 + (4 : Int32)) L = true then ((fn_R_texel w5.2 (xs (v4 + (1 : Int32)).toNatClampNeg) (xs (v4 + (2 : Int32)).toNatClampNeg) (xs (v4 + (3 : Int32)).toNatClampNeg) (xs (v4 + (4 : Int32)).toNatClampNeg)).bind fun w10 => ((fn_R_thrown w10.2).bind fun w11 => (if w11 = w5.1 then (if w5.1 = 0 then (if (lg_cmp (w10.2.2 171 (0 : Int32).toNatClampNeg) (w10.1).toInt64) = 0 then some w10.2 else none) else some w10.2) else none))) else none) else none) else none) else none)) else none) else none) else none) else none)
set_option maxHeartbeats 4000000 in
set_option maxRecDepth 100000 in
theorem ok_law_c10 {p : Program} {e : Env} {s : State} {m : MethodId} {below : List Frame} {meth : Method} {c : Code} {H : Heap} {locs : List Loc} {cells slots : Nat} {Q : State → Prop} {ls : Array Slot} {A : Nat → Prop} {μ : xs_M} {b L : Nat} {xs : Nat → Int32} {v4 : Int32} (l : Launch) (hlt : l.stackTraces = false) (D : va_G) (ad : Nat → Nat) (cs : xs_cs) (hJ : xs_J ad) (X : xs_C p s m c code 8 #[Value.ref b] "ExactSceneLaw") (hT : xt_P A s s.heap) (hX : va_X b L xs s s.heap) (hbl : b < s.heap.size) (hbA : ¬ A b) (G : xs_G D ad cs s A s.heap μ H locs) (hl : lv_has ls 8 [(0, .ref b), (1, .ref (ad 0)), (2, .ref (ad 154)), (3, .ref (ad 171)), (4, .int (v4))]) (hc : cells + 1 ≤ room_1.cells ∧ slots + 6 ≤ room_1.slots) {μ2 : xs_M} (hE : fn_law_c10 μ xs L v4 = some μ2) (kk : ∀ (H : Heap) (locs : List Loc) (ls : Array Slot), xs_G D ad cs s A s.heap μ2 H locs → lv_has ls 8 [(0, .ref b), (1, .ref (ad 0)), (2, .ref (ad 154)), (3, .ref (ad 171)), (4, .int (v4))] → W p l e room_1 s m #[Value.ref b] below meth c H locs (cells + 1) (slots + 6) Q (F0 m 1153 ls [])) : W p l e room_1 s m #[Value.ref b] below meth c H locs cells slots Q (F0 m 661 ls []) := by
  have hx := X.1
  have hb := X.2.1
  unfold fn_law_c10 at hE
  refine lv_aload_n (pc := 661) hx hb d_L_law_661 rfl (lv_at hl 1 rfl) ?_
  refine lv_aload_n (pc := 662) hx hb d_L_law_662 rfl (lv_at hl 0 rfl) ?_
  refine lv_iload (pc := 663) hx hb d_L_law_663 (lv_at hl 4 rfl) ?_
  refine lv_iconst (pc := 665) (v := (1 : Int32)) hx hb d_L_law_665 (by decide) ?_
  refine lv_iadd (pc := 666) hx hb d_L_law_666 ?_
  obtain ⟨hi1, hE⟩ := xs_n hE
  refine va_sld (pc := 667) hx hb hX hbl hbA G.2.2.2.1 (xs_inP hi1) d_L_law_667 ?_
  refine lv_aload_n (pc := 668) hx hb d_L_law_668 rfl (lv_at hl 0 rfl) ?_
  refine lv_iload (pc := 669) hx hb d_L_law_669 (lv_at hl 4 rfl) ?_
  refine lv_iconst (pc := 671) (v := (2 : Int32)) hx hb d_L_law_671 (by decide) ?_
  refine lv_iadd (pc := 672) hx hb d_L_law_672 ?_
  obtain ⟨hi2, hE⟩ := xs_n hE
  refine va_sld (pc := 673) hx hb hX hbl hbA G.2.2.2.1 (xs_inP hi2) d_L_law_673 ?_
  refine lv_aload_n (pc := 674) hx hb d_L_law_674 rfl (lv_at hl 0 rfl) ?_
  refine lv_iload (pc := 675) hx hb d_L_law_675 (lv_at hl 4 rfl) ?_
  refine lv_iconst (pc := 677) (v := (3 : Int32)) hx hb d_L_law_677 (by decide) ?_
  refine lv_iadd (pc := 678) hx hb d_L_law_678 ?_
  obtain ⟨hi3, hE⟩ := xs_n hE
  refine va_sld (pc := 679) hx hb hX hbl hbA G.2.2.2.1 (xs_inP hi3) d_L_law_679 ?_
  refine lv_aload_n (pc := 680) hx hb d_L_law_680 rfl (lv_at hl 0 rfl) ?_
  refine lv_iload (pc := 681) hx hb d_L_law_681 (lv_at hl 4 rfl) ?_
  refine lv_iconst (pc := 683) (v := (4 : Int32)) hx hb d_L_law_683 (by decide) ?_
  refine lv_iadd (pc := 684) hx hb d_L_law_684 ?_
  obtain ⟨hi4, hE⟩ := xs_n hE
  refine va_sld (pc := 685) hx hb hX hbl hbA G.2.2.2.1 (xs_inP hi4) d_L_law_685 ?_
  refine lv_aload_n (pc := 686) hx hb d_L_law_686 rfl (lv_at hl 3 rfl) ?_
  obtain ⟨w5, hw5, hE⟩ := xs_b hE
  refine xh_callS (pc := 687) (as := [.ref (ad 0), .int ((xs (v4 + (1 : Int32)).toNatClampNeg)), .int ((xs (v4 + (2 : Int32)).toNatClampNeg)), .int ((xs (v4 + (3 : Int32)).toNatClampNeg)), .int ((xs (v4 + (4 : Int32)).toNatClampNeg)), .ref (ad 171)]) X (ok_L_texel l hlt D ad cs hJ hw5) kh_117 hT G ⟨by decide, by decide⟩ hc rfl hl.1 rfl (Nat.le_of_ble_eq_true rfl) d_L_law_687 (fun H locs G => ?_)
  refine lv_istore (pc := 690) hx hb d_L_law_690 hl (by decide) (lv' := [(5, .int (w5.1)), (0, .ref b), (1, .ref (ad 0)), (2, .ref (ad 154)), (3, .ref (ad 171)), (4, .int (v4))]) rfl (fun ls hl => ?_)
  refine lv_aload_n (pc := 692) hx hb d_L_law_692 rfl (lv_at hl 3 rfl) ?_
  refine lv_aload_n (pc := 693) hx hb d_L_law_693 rfl (lv_at hl 1 rfl) ?_
  refine lv_iload (pc := 694) hx hb d_L_law_694 (lv_at hl 5 rfl) ?_
  refine lv_iconst (pc := 696) (v := (1 : Int32)) hx hb d_L_law_696 (by decide) ?_
  refine lv_iadd (pc := 697) hx hb d_L_law_697 ?_
  obtain ⟨hi6, hE⟩ := xs_n hE
  refine va_sld (pc := 698) hx hb hX hbl hbA G.2.2.2.1 (xs_inP hi6) d_L_law_698 ?_
  refine lv_aload_n (pc := 699) hx hb d_L_law_699 rfl (lv_at hl 1 rfl) ?_
  refine lv_iload (pc := 700) hx hb d_L_law_700 (lv_at hl 5 rfl) ?_
  refine lv_iconst (pc := 702) (v := (2 : Int32)) hx hb d_L_law_702 (by decide) ?_
  refine lv_iadd (pc := 703) hx hb d_L_law_703 ?_
  obtain ⟨hi7, hE⟩ := xs_n hE
  refine va_sld (pc := 704) hx hb hX hbl hbA G.2.2.2.1 (xs_inP hi7) d_L_law_704 ?_
  refine lv_aload_n (pc := 705) hx hb d_L_law_705 rfl (lv_at hl 1 rfl) ?_
  refine lv_iload (pc := 706) hx hb d_L_law_706 (lv_at hl 5 rfl) ?_
  refine lv_iconst (pc := 708) (v := (3 : Int32)) hx hb d_L_law_708 (by decide) ?_
  refine lv_iadd (pc := 709) hx hb d_L_law_709 ?_
  obtain ⟨hi8, hE⟩ := xs_n hE
  refine va_sld (pc := 710) hx hb hX hbl hbA G.2.2.2.1 (xs_inP hi8) d_L_law_710 ?_
  refine lv_aload_n (pc := 711) hx hb d_L_law_711 rfl (lv_at hl 1 rfl) ?_
  refine lv_iload (pc := 712) hx hb d_L_law_712 (lv_at hl 5 rfl) ?_
  refine lv_iconst (pc := 714) (v := (4 : Int32)) hx hb d_L_law_714 (by decide) ?_
  refine lv_iadd (pc := 715) hx hb d_L_law_715 ?_
  obtain ⟨hi9, hE⟩ := xs_n hE
  refine va_sld (pc := 716) hx hb hX hbl hbA G.2.2.2.1 (xs_inP hi9) d_L_law_716 ?_
  obtain ⟨w10, hw10, hE⟩ := xs_b hE
  refine xs_callVr (pc := 717) (as := [.int ((xs (v4 + (1 : Int32)).toNatClampNeg)), .int ((xs (v4 + (2 : Int32)).toNatClampNeg)), .int ((xs (v4 + (3 : Int32)).toNatClampNeg)), .int ((xs (v4 + (4 : Int32)).toNatClampNeg))]) X (ok_R_texel l D ad cs hJ hw10) km_L_120 G (xs_wR ad cs _) rfl ⟨by decide, by decide⟩ (by first | exact hc | exact ⟨Nat.le_trans (Nat.le_add_right _ _) hc.1, Nat.le_trans (Nat.le_add_right _ _) hc.2⟩) rfl hl.1 rfl (Nat.le_of_ble_eq_true rfl) d_L_law_717 (fun H locs G => ?_)
  refine lv_istore (pc := 720) hx hb d_L_law_720 hl (by decide) (lv' := [(6, .int (w10.1)), (5, .int (w5.1)), (0, .ref b), (1, .ref (ad 0)), (2, .ref (ad 154)), (3, .ref (ad 171)), (4, .int (v4))]) rfl (fun ls hl => ?_)
  refine lv_aload_n (pc := 722) hx hb d_L_law_722 rfl (lv_at hl 4 rfl) ?_
  obtain ⟨w11, hw11, hE⟩ := xs_b hE
  refine xs_callVr (pc := 723) (as := []) X (ok_R_thrown l D ad cs hJ hw11) km_L_79 G (xs_wR ad cs _) rfl ⟨by decide, by decide⟩ (by first | exact hc | exact ⟨Nat.le_trans (Nat.le_add_right _ _) hc.1, Nat.le_trans (Nat.le_add_right _ _) hc.2⟩) rfl hl.1 rfl (Nat.le_of_ble_eq_true rfl) d_L_law_723 (fun H locs G => ?_)
  refine lv_iload (pc := 726) hx hb d_L_law_726 (lv_at hl 1 rfl) ?_
  refine lv_icmp_eq (pc := 728) (tgt := 733) hx hb d_L_law_728 (by decide) (fun hc => ?_) (fun hc => ?_)
  · have hE := xs_t hE hc
    refine lv_iload (pc := 733) hx hb d_L_law_733 (lv_at hl 1 rfl) ?_
    refine lv_if_ne (pc := 735) (tgt := 750) hx hb d_L_law_735 (by decide) (fun hc => ?_) (fun hc => ?_)
    · have hE := xs_f hE hc
      refine lv_goto (pc := 750) (tgt := 1153) hx hb d_L_law_750 (by decide) ?_
      cases hE
      first | exact kk _ _ _ G (lv_sub hl [2, 3, 4, 5, 6] rfl) | exact W.widen (Nat.le_add_right _ 1) (Nat.le_add_right _ 6) (kk _ _ _ G (lv_sub hl [2, 3, 4, 5, 6] rfl))
    · have hE := xs_t hE hc
      refine lv_aload_n (pc := 738) hx hb d_L_law_738 rfl (lv_at hl 5 rfl) ?_
      refine lv_iconst (pc := 739) (v := (0 : Int32)) hx hb d_L_law_739 (by decide) ?_
      refine xs_lald (pc := 740) hx hb G la_171 (xs_inP (by decide)) d_L_law_740 ?_
      refine lv_iload (pc := 741) hx hb d_L_law_741 (lv_at hl 0 rfl) ?_
      refine lv_i2l (pc := 743) hx hb d_L_law_743 rfl ?_
      refine W.lcmp (pc := 744) hx hb d_L_law_744 ?_
      refine lv_if_eq (pc := 745) (tgt := 750) hx hb d_L_law_745 (by decide) (fun hc => ?_) (fun hc => ?_)
      · have hE := xs_t hE hc
        refine lv_goto (pc := 750) (tgt := 1153) hx hb d_L_law_750 (by decide) ?_
        cases hE
        first | exact kk _ _ _ G (lv_sub hl [2, 3, 4, 5, 6] rfl) | exact W.widen (Nat.le_add_right _ 1) (Nat.le_add_right _ 6) (kk _ _ _ G (lv_sub hl [2, 3, 4, 5, 6] rfl))
      · have hE := xs_f hE hc
        refine lv_iconst (pc := 748) (v := (0 : Int32)) hx hb d_L_law_748 (by decide) ?_
        cases hE
  · have hE := xs_f hE hc
    refine lv_iconst (pc := 731) (v := (0 : Int32)) hx hb d_L_law_731 (by decide) ?_
    cases hE
def fn_law_c11 (μ : xs_M) (xs : Nat → Int32) (L : Nat) (v4 : Int32) : Option xs_M :=
  ((fn_S_clear μ).bind fun w1 => ((fn_R_clear w1.2).bind fun w2 => (if w1.1 = w2.1 then some w2.2 else none)))
set_option maxHeartbeats 4000000 in
set_option maxRecDepth 100000 in
theorem ok_law_c11 {p : Program} {e : Env} {s : State} {m : MethodId} {below : List Frame} {meth : Method} {c : Code} {H : Heap} {locs : List Loc} {cells slots : Nat} {Q : State → Prop} {ls : Array Slot} {A : Nat → Prop} {μ : xs_M} {b L : Nat} {xs : Nat → Int32} {v4 : Int32} (l : Launch) (hlt : l.stackTraces = false) (D : va_G) (ad : Nat → Nat) (cs : xs_cs) (hJ : xs_J ad) (X : xs_C p s m c code 8 #[Value.ref b] "ExactSceneLaw") (hT : xt_P A s s.heap) (hX : va_X b L xs s s.heap) (hbl : b < s.heap.size) (hbA : ¬ A b) (G : xs_G D ad cs s A s.heap μ H locs) (hl : lv_has ls 8 [(0, .ref b), (1, .ref (ad 0)), (2, .ref (ad 154)), (3, .ref (ad 171)), (4, .int (v4))]) (hc : cells + 1 ≤ room_1.cells ∧ slots + 6 ≤ room_1.slots) {μ2 : xs_M} (hE : fn_law_c11 μ xs L v4 = some μ2) (kk : ∀ (H : Heap) (locs : List Loc) (ls : Array Slot), xs_G D ad cs s A s.heap μ2 H locs → lv_has ls 8 [(0, .ref b), (1, .ref (ad 0)), (2, .ref (ad 154)), (3, .ref (ad 171)), (4, .int (v4))] → W p l e room_1 s m #[Value.ref b] below meth c H locs (cells + 1) (slots + 6) Q (F0 m 1153 ls [])) : W p l e room_1 s m #[Value.ref b] below meth c H locs cells slots Q (F0 m 753 ls []) := by
  have hx := X.1
  have hb := X.2.1
  unfold fn_law_c11 at hE
  refine lv_aload_n (pc := 753) hx hb d_L_law_753 rfl (lv_at hl 1 rfl) ?_
  obtain ⟨w1, hw1, hE⟩ := xs_b hE
  refine xs_callVr (pc := 754) (as := []) X (ok_S_clear l D ad cs hJ hw1) km_L_121 G (xs_wS ad cs _) rfl ⟨by decide, by decide⟩ (by first | exact hc | exact ⟨Nat.le_trans (Nat.le_add_right _ _) hc.1, Nat.le_trans (Nat.le_add_right _ _) hc.2⟩) rfl hl.1 rfl (Nat.le_of_ble_eq_true rfl) d_L_law_754 (fun H locs G => ?_)
  refine lv_aload_n (pc := 757) hx hb d_L_law_757 rfl (lv_at hl 2 rfl) ?_
  obtain ⟨w2, hw2, hE⟩ := xs_b hE
  refine xs_callVr (pc := 758) (as := []) X (ok_R_clear l D ad cs hJ hw2) km_L_124 G (xs_wR ad cs _) rfl ⟨by decide, by decide⟩ (by first | exact hc | exact ⟨Nat.le_trans (Nat.le_add_right _ _) hc.1, Nat.le_trans (Nat.le_add_right _ _) hc.2⟩) rfl hl.1 rfl (Nat.le_of_ble_eq_true rfl) d_L_law_758 (fun H locs G => ?_)
  refine lv_icmp_eq (pc := 761) (tgt := 1153) hx hb d_L_law_761 (by decide) (fun hc => ?_) (fun hc => ?_)
  · have hE := xs_t hE hc
    cases hE
    first | exact kk _ _ _ G (lv_sub hl [0, 1, 2, 3, 4] rfl) | exact W.widen (Nat.le_add_right _ 1) (Nat.le_add_right _ 6) (kk _ _ _ G (lv_sub hl [0, 1, 2, 3, 4] rfl))
  · have hE := xs_f hE hc
    refine lv_iconst (pc := 764) (v := (0 : Int32)) hx hb d_L_law_764 (by decide) ?_
    cases hE
def fn_law_c12 (μ : xs_M) (xs : Nat → Int32) (L : Nat) (v4 : Int32) : Option xs_M :=
  (if xs_in (v4 + (1 : Int32)) L = true then ((fn_S_draw μ (xs (v4 + (1 : Int32)).toNatClampNeg)).bind fun w2 => (if xs_in (v4 + (1 : Int32)) L = true then ((fn_R_draw w2.2 (xs (v4 + (1 : Int32)).toNatClampNeg)).bind fun w4 => (if w2.1 = w4.1 then some w4.2 else none)) else none)) else none)
set_option maxHeartbeats 4000000 in
set_option maxRecDepth 100000 in
theorem ok_law_c12 {p : Program} {e : Env} {s : State} {m : MethodId} {below : List Frame} {meth : Method} {c : Code} {H : Heap} {locs : List Loc} {cells slots : Nat} {Q : State → Prop} {ls : Array Slot} {A : Nat → Prop} {μ : xs_M} {b L : Nat} {xs : Nat → Int32} {v4 : Int32} (l : Launch) (hlt : l.stackTraces = false) (D : va_G) (ad : Nat → Nat) (cs : xs_cs) (hJ : xs_J ad) (X : xs_C p s m c code 8 #[Value.ref b] "ExactSceneLaw") (hT : xt_P A s s.heap) (hX : va_X b L xs s s.heap) (hbl : b < s.heap.size) (hbA : ¬ A b) (G : xs_G D ad cs s A s.heap μ H locs) (hl : lv_has ls 8 [(0, .ref b), (1, .ref (ad 0)), (2, .ref (ad 154)), (3, .ref (ad 171)), (4, .int (v4))]) (hc : cells + 1 ≤ room_1.cells ∧ slots + 6 ≤ room_1.slots) {μ2 : xs_M} (hE : fn_law_c12 μ xs L v4 = some μ2) (kk : ∀ (H : Heap) (locs : List Loc) (ls : Array Slot), xs_G D ad cs s A s.heap μ2 H locs → lv_has ls 8 [(0, .ref b), (1, .ref (ad 0)), (2, .ref (ad 154)), (3, .ref (ad 171)), (4, .int (v4))] → W p l e room_1 s m #[Value.ref b] below meth c H locs (cells + 1) (slots + 6) Q (F0 m 1153 ls [])) : W p l e room_1 s m #[Value.ref b] below meth c H locs cells slots Q (F0 m 766 ls []) := by
  have hx := X.1
  have hb := X.2.1
  unfold fn_law_c12 at hE
  refine lv_aload_n (pc := 766) hx hb d_L_law_766 rfl (lv_at hl 1 rfl) ?_
  refine lv_aload_n (pc := 767) hx hb d_L_law_767 rfl (lv_at hl 0 rfl) ?_
  refine lv_iload (pc := 768) hx hb d_L_law_768 (lv_at hl 4 rfl) ?_
  refine lv_iconst (pc := 770) (v := (1 : Int32)) hx hb d_L_law_770 (by decide) ?_
  refine lv_iadd (pc := 771) hx hb d_L_law_771 ?_
  obtain ⟨hi1, hE⟩ := xs_n hE
  refine va_sld (pc := 772) hx hb hX hbl hbA G.2.2.2.1 (xs_inP hi1) d_L_law_772 ?_
  obtain ⟨w2, hw2, hE⟩ := xs_b hE
  refine xs_callVr (pc := 773) (as := [.int ((xs (v4 + (1 : Int32)).toNatClampNeg))]) X (ok_S_draw l D ad cs hJ hw2) km_L_125 G (xs_wS ad cs _) rfl ⟨by decide, by decide⟩ (by first | exact hc | exact ⟨Nat.le_trans (Nat.le_add_right _ _) hc.1, Nat.le_trans (Nat.le_add_right _ _) hc.2⟩) rfl hl.1 rfl (Nat.le_of_ble_eq_true rfl) d_L_law_773 (fun H locs G => ?_)
  refine lv_aload_n (pc := 776) hx hb d_L_law_776 rfl (lv_at hl 2 rfl) ?_
  refine lv_aload_n (pc := 777) hx hb d_L_law_777 rfl (lv_at hl 0 rfl) ?_
  refine lv_iload (pc := 778) hx hb d_L_law_778 (lv_at hl 4 rfl) ?_
  refine lv_iconst (pc := 780) (v := (1 : Int32)) hx hb d_L_law_780 (by decide) ?_
  refine lv_iadd (pc := 781) hx hb d_L_law_781 ?_
  obtain ⟨hi3, hE⟩ := xs_n hE
  refine va_sld (pc := 782) hx hb hX hbl hbA G.2.2.2.1 (xs_inP hi3) d_L_law_782 ?_
  obtain ⟨w4, hw4, hE⟩ := xs_b hE
  refine xs_callVr (pc := 783) (as := [.int ((xs (v4 + (1 : Int32)).toNatClampNeg))]) X (ok_R_draw l D ad cs hJ hw4) km_L_129 G (xs_wR ad cs _) rfl ⟨by decide, by decide⟩ (by first | exact hc | exact ⟨Nat.le_trans (Nat.le_add_right _ _) hc.1, Nat.le_trans (Nat.le_add_right _ _) hc.2⟩) rfl hl.1 rfl (Nat.le_of_ble_eq_true rfl) d_L_law_783 (fun H locs G => ?_)
  refine lv_icmp_eq (pc := 786) (tgt := 1153) hx hb d_L_law_786 (by decide) (fun hc => ?_) (fun hc => ?_)
  · have hE := xs_t hE hc
    cases hE
    first | exact kk _ _ _ G (lv_sub hl [0, 1, 2, 3, 4] rfl) | exact W.widen (Nat.le_add_right _ 1) (Nat.le_add_right _ 6) (kk _ _ _ G (lv_sub hl [0, 1, 2, 3, 4] rfl))
  · have hE := xs_f hE hc
    refine lv_iconst (pc := 789) (v := (0 : Int32)) hx hb d_L_law_789 (by decide) ?_
    cases hE
def fn_law_c13 (μ : xs_M) (xs : Nat → Int32) (L : Nat) (v4 : Int32) : Option xs_M :=
  (if xs_in (v4 + (1 : Int32)) L = true then (if xs_in (v4 + (2 : Int32)) L = true then ((fn_L_colour μ (xs (v4 + (1 : Int32)).toNatClampNeg) (xs (v4 + (2 : Int32)).toNatClampNeg)).bind fun w3 => (if xs_in (v4 + (1 : Int32)) L = true then (if xs_in (v4 + (2 : Int32)) L = true then ((fn_R_colour w3.2 (xs (v4 + (1 : Int32)).toNatClampNeg) (xs (v4 + (2 : Int32)).toNatClampNeg)).bind fun w6 => ((fn_R_thrown w6.2).bind fun w7 => (if w7 = w3.1 then (if w3.1 = 0 then (if (lg_cmp (w6.2.2 171 (0 : Int32).toNatClampNeg) (w6.1).toInt64) = 0 then some w6.2 else none) else some w6.2) else none))) else none) else none)) else none) else none)
set_option maxHeartbeats 4000000 in
set_option maxRecDepth 100000 in
theorem ok_law_c13 {p : Program} {e : Env} {s : State} {m : MethodId} {below : List Frame} {meth : Method} {c : Code} {H : Heap} {locs : List Loc} {cells slots : Nat} {Q : State → Prop} {ls : Array Slot} {A : Nat → Prop} {μ : xs_M} {b L : Nat} {xs : Nat → Int32} {v4 : Int32} (l : Launch) (hlt : l.stackTraces = false) (D : va_G) (ad : Nat → Nat) (cs : xs_cs) (hJ : xs_J ad) (X : xs_C p s m c code 8 #[Value.ref b] "ExactSceneLaw") (hT : xt_P A s s.heap) (hX : va_X b L xs s s.heap) (hbl : b < s.heap.size) (hbA : ¬ A b) (G : xs_G D ad cs s A s.heap μ H locs) (hl : lv_has ls 8 [(0, .ref b), (1, .ref (ad 0)), (2, .ref (ad 154)), (3, .ref (ad 171)), (4, .int (v4))]) (hc : cells + 1 ≤ room_1.cells ∧ slots + 6 ≤ room_1.slots) {μ2 : xs_M} (hE : fn_law_c13 μ xs L v4 = some μ2) (kk : ∀ (H : Heap) (locs : List Loc) (ls : Array Slot), xs_G D ad cs s A s.heap μ2 H locs → lv_has ls 8 [(0, .ref b), (1, .ref (ad 0)), (2, .ref (ad 154)), (3, .ref (ad 171)), (4, .int (v4))] → W p l e room_1 s m #[Value.ref b] below meth c H locs (cells + 1) (slots + 6) Q (F0 m 1153 ls [])) : W p l e room_1 s m #[Value.ref b] below meth c H locs cells slots Q (F0 m 791 ls []) := by
  have hx := X.1
  have hb := X.2.1
  unfold fn_law_c13 at hE
  refine lv_aload_n (pc := 791) hx hb d_L_law_791 rfl (lv_at hl 1 rfl) ?_
  refine lv_aload_n (pc := 792) hx hb d_L_law_792 rfl (lv_at hl 0 rfl) ?_
  refine lv_iload (pc := 793) hx hb d_L_law_793 (lv_at hl 4 rfl) ?_
  refine lv_iconst (pc := 795) (v := (1 : Int32)) hx hb d_L_law_795 (by decide) ?_
  refine lv_iadd (pc := 796) hx hb d_L_law_796 ?_
  obtain ⟨hi1, hE⟩ := xs_n hE
  refine va_sld (pc := 797) hx hb hX hbl hbA G.2.2.2.1 (xs_inP hi1) d_L_law_797 ?_
  refine lv_aload_n (pc := 798) hx hb d_L_law_798 rfl (lv_at hl 0 rfl) ?_
  refine lv_iload (pc := 799) hx hb d_L_law_799 (lv_at hl 4 rfl) ?_
  refine lv_iconst (pc := 801) (v := (2 : Int32)) hx hb d_L_law_801 (by decide) ?_
  refine lv_iadd (pc := 802) hx hb d_L_law_802 ?_
  obtain ⟨hi2, hE⟩ := xs_n hE
  refine va_sld (pc := 803) hx hb hX hbl hbA G.2.2.2.1 (xs_inP hi2) d_L_law_803 ?_
  refine lv_aload_n (pc := 804) hx hb d_L_law_804 rfl (lv_at hl 3 rfl) ?_
  obtain ⟨w3, hw3, hE⟩ := xs_b hE
  refine xh_callS (pc := 805) (as := [.ref (ad 0), .int ((xs (v4 + (1 : Int32)).toNatClampNeg)), .int ((xs (v4 + (2 : Int32)).toNatClampNeg)), .ref (ad 171)]) X (ok_L_colour l hlt D ad cs hJ hw3) kh_130 hT G ⟨by decide, by decide⟩ hc rfl hl.1 rfl (Nat.le_of_ble_eq_true rfl) d_L_law_805 (fun H locs G => ?_)
  refine lv_istore (pc := 808) hx hb d_L_law_808 hl (by decide) (lv' := [(5, .int (w3.1)), (0, .ref b), (1, .ref (ad 0)), (2, .ref (ad 154)), (3, .ref (ad 171)), (4, .int (v4))]) rfl (fun ls hl => ?_)
  refine lv_aload_n (pc := 810) hx hb d_L_law_810 rfl (lv_at hl 3 rfl) ?_
  refine lv_aload_n (pc := 811) hx hb d_L_law_811 rfl (lv_at hl 1 rfl) ?_
  refine lv_iload (pc := 812) hx hb d_L_law_812 (lv_at hl 5 rfl) ?_
  refine lv_iconst (pc := 814) (v := (1 : Int32)) hx hb d_L_law_814 (by decide) ?_
  refine lv_iadd (pc := 815) hx hb d_L_law_815 ?_
  obtain ⟨hi4, hE⟩ := xs_n hE
  refine va_sld (pc := 816) hx hb hX hbl hbA G.2.2.2.1 (xs_inP hi4) d_L_law_816 ?_
  refine lv_aload_n (pc := 817) hx hb d_L_law_817 rfl (lv_at hl 1 rfl) ?_
  refine lv_iload (pc := 818) hx hb d_L_law_818 (lv_at hl 5 rfl) ?_
  refine lv_iconst (pc := 820) (v := (2 : Int32)) hx hb d_L_law_820 (by decide) ?_
  refine lv_iadd (pc := 821) hx hb d_L_law_821 ?_
  obtain ⟨hi5, hE⟩ := xs_n hE
  refine va_sld (pc := 822) hx hb hX hbl hbA G.2.2.2.1 (xs_inP hi5) d_L_law_822 ?_
  obtain ⟨w6, hw6, hE⟩ := xs_b hE
  refine xs_callVr (pc := 823) (as := [.int ((xs (v4 + (1 : Int32)).toNatClampNeg)), .int ((xs (v4 + (2 : Int32)).toNatClampNeg))]) X (ok_R_colour l D ad cs hJ hw6) km_L_132 G (xs_wR ad cs _) rfl ⟨by decide, by decide⟩ (by first | exact hc | exact ⟨Nat.le_trans (Nat.le_add_right _ _) hc.1, Nat.le_trans (Nat.le_add_right _ _) hc.2⟩) rfl hl.1 rfl (Nat.le_of_ble_eq_true rfl) d_L_law_823 (fun H locs G => ?_)
  refine lv_istore (pc := 826) hx hb d_L_law_826 hl (by decide) (lv' := [(6, .int (w6.1)), (5, .int (w3.1)), (0, .ref b), (1, .ref (ad 0)), (2, .ref (ad 154)), (3, .ref (ad 171)), (4, .int (v4))]) rfl (fun ls hl => ?_)
  refine lv_aload_n (pc := 828) hx hb d_L_law_828 rfl (lv_at hl 4 rfl) ?_
  obtain ⟨w7, hw7, hE⟩ := xs_b hE
  refine xs_callVr (pc := 829) (as := []) X (ok_R_thrown l D ad cs hJ hw7) km_L_79 G (xs_wR ad cs _) rfl ⟨by decide, by decide⟩ (by first | exact hc | exact ⟨Nat.le_trans (Nat.le_add_right _ _) hc.1, Nat.le_trans (Nat.le_add_right _ _) hc.2⟩) rfl hl.1 rfl (Nat.le_of_ble_eq_true rfl) d_L_law_829 (fun H locs G => ?_)
  refine lv_iload (pc := 832) hx hb d_L_law_832 (lv_at hl 1 rfl) ?_
  refine lv_icmp_eq (pc := 834) (tgt := 839) hx hb d_L_law_834 (by decide) (fun hc => ?_) (fun hc => ?_)
  · have hE := xs_t hE hc
    refine lv_iload (pc := 839) hx hb d_L_law_839 (lv_at hl 1 rfl) ?_
    refine lv_if_ne (pc := 841) (tgt := 856) hx hb d_L_law_841 (by decide) (fun hc => ?_) (fun hc => ?_)
    · have hE := xs_f hE hc
      refine lv_goto (pc := 856) (tgt := 1153) hx hb d_L_law_856 (by decide) ?_
      cases hE
      first | exact kk _ _ _ G (lv_sub hl [2, 3, 4, 5, 6] rfl) | exact W.widen (Nat.le_add_right _ 1) (Nat.le_add_right _ 6) (kk _ _ _ G (lv_sub hl [2, 3, 4, 5, 6] rfl))
    · have hE := xs_t hE hc
      refine lv_aload_n (pc := 844) hx hb d_L_law_844 rfl (lv_at hl 5 rfl) ?_
      refine lv_iconst (pc := 845) (v := (0 : Int32)) hx hb d_L_law_845 (by decide) ?_
      refine xs_lald (pc := 846) hx hb G la_171 (xs_inP (by decide)) d_L_law_846 ?_
      refine lv_iload (pc := 847) hx hb d_L_law_847 (lv_at hl 0 rfl) ?_
      refine lv_i2l (pc := 849) hx hb d_L_law_849 rfl ?_
      refine W.lcmp (pc := 850) hx hb d_L_law_850 ?_
      refine lv_if_eq (pc := 851) (tgt := 856) hx hb d_L_law_851 (by decide) (fun hc => ?_) (fun hc => ?_)
      · have hE := xs_t hE hc
        refine lv_goto (pc := 856) (tgt := 1153) hx hb d_L_law_856 (by decide) ?_
        cases hE
        first | exact kk _ _ _ G (lv_sub hl [2, 3, 4, 5, 6] rfl) | exact W.widen (Nat.le_add_right _ 1) (Nat.le_add_right _ 6) (kk _ _ _ G (lv_sub hl [2, 3, 4, 5, 6] rfl))
      · have hE := xs_f hE hc
        refine lv_iconst (pc := 854) (v := (0 : Int32)) hx hb d_L_law_854 (by decide) ?_
        cases hE
  · have hE := xs_f hE hc
    refine lv_iconst (pc := 837) (v := (0 : Int32)) hx hb d_L_law_837 (by decide) ?_
    cases hE
def fn_law_c14 (μ : xs_M) (xs : Nat → Int32) (L : Nat) (v4 : Int32) : Option xs_M :=
  (if xs_in (v4 + (1 : Int32)) L = true then (if xs_in (v4 + (2 : Int32)) L = true then ((fn_L_owner μ (xs (v4 + (1 : Int32)).toNatClampNeg) (xs (v4 + (2 : Int32)).toNatClampNeg)).bind fun w3 => (if xs_in (v4 + (1 : Int32)) L = true then (if xs_in (v4 + (2 : Int32)) L = true then ((fn_R_owner w3.2 (xs (v4 + (1 : Int32)).toNatClampNeg) (xs (v4 + (2 : Int32)).toNatClampNeg)).bind fun w6 => ((fn_R_thrown w6.2).bind fun w7 => (if w7 = w3.1 then (if w3.1 = 0 then (if (lg_cmp (w6.2.2 171 (0 : Int32).toNatClampNeg) (w6.1).toInt64) = 0 then some w6.2 else none) else some w6.2) else none))) else none) else none)) else none) else none)
set_option maxHeartbeats 4000000 in
set_option maxRecDepth 100000 in
theorem ok_law_c14 {p : Program} {e : Env} {s : State} {m : MethodId} {below : List Frame} {meth : Method} {c : Code} {H : Heap} {locs : List Loc} {cells slots : Nat} {Q : State → Prop} {ls : Array Slot} {A : Nat → Prop} {μ : xs_M} {b L : Nat} {xs : Nat → Int32} {v4 : Int32} (l : Launch) (hlt : l.stackTraces = false) (D : va_G) (ad : Nat → Nat) (cs : xs_cs) (hJ : xs_J ad) (X : xs_C p s m c code 8 #[Value.ref b] "ExactSceneLaw") (hT : xt_P A s s.heap) (hX : va_X b L xs s s.heap) (hbl : b < s.heap.size) (hbA : ¬ A b) (G : xs_G D ad cs s A s.heap μ H locs) (hl : lv_has ls 8 [(0, .ref b), (1, .ref (ad 0)), (2, .ref (ad 154)), (3, .ref (ad 171)), (4, .int (v4))]) (hc : cells + 1 ≤ room_1.cells ∧ slots + 6 ≤ room_1.slots) {μ2 : xs_M} (hE : fn_law_c14 μ xs L v4 = some μ2) (kk : ∀ (H : Heap) (locs : List Loc) (ls : Array Slot), xs_G D ad cs s A s.heap μ2 H locs → lv_has ls 8 [(0, .ref b), (1, .ref (ad 0)), (2, .ref (ad 154)), (3, .ref (ad 171)), (4, .int (v4))] → W p l e room_1 s m #[Value.ref b] below meth c H locs (cells + 1) (slots + 6) Q (F0 m 1153 ls [])) : W p l e room_1 s m #[Value.ref b] below meth c H locs cells slots Q (F0 m 859 ls []) := by
  have hx := X.1
  have hb := X.2.1
  unfold fn_law_c14 at hE
  refine lv_aload_n (pc := 859) hx hb d_L_law_859 rfl (lv_at hl 1 rfl) ?_
  refine lv_aload_n (pc := 860) hx hb d_L_law_860 rfl (lv_at hl 0 rfl) ?_
  refine lv_iload (pc := 861) hx hb d_L_law_861 (lv_at hl 4 rfl) ?_
  refine lv_iconst (pc := 863) (v := (1 : Int32)) hx hb d_L_law_863 (by decide) ?_
  refine lv_iadd (pc := 864) hx hb d_L_law_864 ?_
  obtain ⟨hi1, hE⟩ := xs_n hE
  refine va_sld (pc := 865) hx hb hX hbl hbA G.2.2.2.1 (xs_inP hi1) d_L_law_865 ?_
  refine lv_aload_n (pc := 866) hx hb d_L_law_866 rfl (lv_at hl 0 rfl) ?_
  refine lv_iload (pc := 867) hx hb d_L_law_867 (lv_at hl 4 rfl) ?_
  refine lv_iconst (pc := 869) (v := (2 : Int32)) hx hb d_L_law_869 (by decide) ?_
  refine lv_iadd (pc := 870) hx hb d_L_law_870 ?_
  obtain ⟨hi2, hE⟩ := xs_n hE
  refine va_sld (pc := 871) hx hb hX hbl hbA G.2.2.2.1 (xs_inP hi2) d_L_law_871 ?_
  refine lv_aload_n (pc := 872) hx hb d_L_law_872 rfl (lv_at hl 3 rfl) ?_
  obtain ⟨w3, hw3, hE⟩ := xs_b hE
  refine xh_callS (pc := 873) (as := [.ref (ad 0), .int ((xs (v4 + (1 : Int32)).toNatClampNeg)), .int ((xs (v4 + (2 : Int32)).toNatClampNeg)), .ref (ad 171)]) X (ok_L_owner l hlt D ad cs hJ hw3) kh_133 hT G ⟨by decide, by decide⟩ hc rfl hl.1 rfl (Nat.le_of_ble_eq_true rfl) d_L_law_873 (fun H locs G => ?_)
  refine lv_istore (pc := 876) hx hb d_L_law_876 hl (by decide) (lv' := [(5, .int (w3.1)), (0, .ref b), (1, .ref (ad 0)), (2, .ref (ad 154)), (3, .ref (ad 171)), (4, .int (v4))]) rfl (fun ls hl => ?_)
  refine lv_aload_n (pc := 878) hx hb d_L_law_878 rfl (lv_at hl 3 rfl) ?_
  refine lv_aload_n (pc := 879) hx hb d_L_law_879 rfl (lv_at hl 1 rfl) ?_
  refine lv_iload (pc := 880) hx hb d_L_law_880 (lv_at hl 5 rfl) ?_
  refine lv_iconst (pc := 882) (v := (1 : Int32)) hx hb d_L_law_882 (by decide) ?_
  refine lv_iadd (pc := 883) hx hb d_L_law_883 ?_
  obtain ⟨hi4, hE⟩ := xs_n hE
  refine va_sld (pc := 884) hx hb hX hbl hbA G.2.2.2.1 (xs_inP hi4) d_L_law_884 ?_
  refine lv_aload_n (pc := 885) hx hb d_L_law_885 rfl (lv_at hl 1 rfl) ?_
  refine lv_iload (pc := 886) hx hb d_L_law_886 (lv_at hl 5 rfl) ?_
  refine lv_iconst (pc := 888) (v := (2 : Int32)) hx hb d_L_law_888 (by decide) ?_
  refine lv_iadd (pc := 889) hx hb d_L_law_889 ?_
  obtain ⟨hi5, hE⟩ := xs_n hE
  refine va_sld (pc := 890) hx hb hX hbl hbA G.2.2.2.1 (xs_inP hi5) d_L_law_890 ?_
  obtain ⟨w6, hw6, hE⟩ := xs_b hE
  refine xs_callVr (pc := 891) (as := [.int ((xs (v4 + (1 : Int32)).toNatClampNeg)), .int ((xs (v4 + (2 : Int32)).toNatClampNeg))]) X (ok_R_owner l D ad cs hJ hw6) km_L_135 G (xs_wR ad cs _) rfl ⟨by decide, by decide⟩ (by first | exact hc | exact ⟨Nat.le_trans (Nat.le_add_right _ _) hc.1, Nat.le_trans (Nat.le_add_right _ _) hc.2⟩) rfl hl.1 rfl (Nat.le_of_ble_eq_true rfl) d_L_law_891 (fun H locs G => ?_)
  refine lv_istore (pc := 894) hx hb d_L_law_894 hl (by decide) (lv' := [(6, .int (w6.1)), (5, .int (w3.1)), (0, .ref b), (1, .ref (ad 0)), (2, .ref (ad 154)), (3, .ref (ad 171)), (4, .int (v4))]) rfl (fun ls hl => ?_)
  refine lv_aload_n (pc := 896) hx hb d_L_law_896 rfl (lv_at hl 4 rfl) ?_
  obtain ⟨w7, hw7, hE⟩ := xs_b hE
  refine xs_callVr (pc := 897) (as := []) X (ok_R_thrown l D ad cs hJ hw7) km_L_79 G (xs_wR ad cs _) rfl ⟨by decide, by decide⟩ (by first | exact hc | exact ⟨Nat.le_trans (Nat.le_add_right _ _) hc.1, Nat.le_trans (Nat.le_add_right _ _) hc.2⟩) rfl hl.1 rfl (Nat.le_of_ble_eq_true rfl) d_L_law_897 (fun H locs G => ?_)
  refine lv_iload (pc := 900) hx hb d_L_law_900 (lv_at hl 1 rfl) ?_
  refine lv_icmp_eq (pc := 902) (tgt := 907) hx hb d_L_law_902 (by decide) (fun hc => ?_) (fun hc => ?_)
  · have hE := xs_t hE hc
    refine lv_iload (pc := 907) hx hb d_L_law_907 (lv_at hl 1 rfl) ?_
    refine lv_if_ne (pc := 909) (tgt := 924) hx hb d_L_law_909 (by decide) (fun hc => ?_) (fun hc => ?_)
    · have hE := xs_f hE hc
      refine lv_goto (pc := 924) (tgt := 1153) hx hb d_L_law_924 (by decide) ?_
      cases hE
      first | exact kk _ _ _ G (lv_sub hl [2, 3, 4, 5, 6] rfl) | exact W.widen (Nat.le_add_right _ 1) (Nat.le_add_right _ 6) (kk _ _ _ G (lv_sub hl [2, 3, 4, 5, 6] rfl))
    · have hE := xs_t hE hc
      refine lv_aload_n (pc := 912) hx hb d_L_law_912 rfl (lv_at hl 5 rfl) ?_
      refine lv_iconst (pc := 913) (v := (0 : Int32)) hx hb d_L_law_913 (by decide) ?_
      refine xs_lald (pc := 914) hx hb G la_171 (xs_inP (by decide)) d_L_law_914 ?_
      refine lv_iload (pc := 915) hx hb d_L_law_915 (lv_at hl 0 rfl) ?_
      refine lv_i2l (pc := 917) hx hb d_L_law_917 rfl ?_
      refine W.lcmp (pc := 918) hx hb d_L_law_918 ?_
      refine lv_if_eq (pc := 919) (tgt := 924) hx hb d_L_law_919 (by decide) (fun hc => ?_) (fun hc => ?_)
      · have hE := xs_t hE hc
        refine lv_goto (pc := 924) (tgt := 1153) hx hb d_L_law_924 (by decide) ?_
        cases hE
        first | exact kk _ _ _ G (lv_sub hl [2, 3, 4, 5, 6] rfl) | exact W.widen (Nat.le_add_right _ 1) (Nat.le_add_right _ 6) (kk _ _ _ G (lv_sub hl [2, 3, 4, 5, 6] rfl))
      · have hE := xs_f hE hc
        refine lv_iconst (pc := 922) (v := (0 : Int32)) hx hb d_L_law_922 (by decide) ?_
        cases hE
  · have hE := xs_f hE hc
    refine lv_iconst (pc := 905) (v := (0 : Int32)) hx hb d_L_law_905 (by decide) ?_
    cases hE
def fn_law_c15 (μ : xs_M) (xs : Nat → Int32) (L : Nat) (v4 : Int32) : Option xs_M :=
  (if xs_in (v4 + (1 : Int32)) L = true then (if xs_in (v4 + (2 : Int32)) L = true then (if xs_in (v4 + (3 : Int32)) L = true then (if xs_in (v4 + (4 : Int32)) L = true then ((fn_L_compare μ (xs (v4 + (1 : Int32)).toNatClampNeg) (xs (v4 + (2 : Int32)).toNatClampNeg) (xs (v4 + (3 : Int32)).toNatClampNeg) (xs (v4 + (4 : Int32)).toNatClampNeg)).bind fun w5 => (if xs_in (v4 + (1 : Int32)) L = true then (if xs_in (v4 + (2 : Int32)) L = true then (if xs_in (v4 + (3 : Int32)) L = true then (if xs_in (v4 + (4 : Int32)) L = true then ((fn_R_compare w5.2 (xs (v4 + (1 : Int32)).toNatClampNeg) (xs (v4 + (2 : Int32)).toNatClampNeg) (xs (v4 + (3 : Int32)).toNatClampNeg) (xs (v4 + (4 : Int32)).toNatClampNeg)).bind fun w10 => ((fn_R_thrown w10.2).bind fun w11 => (if w11 = w5.1 then (if w5.1 = 0 then (if (lg_cmp (w10.2.2 171 (0 : Int32).toNatClampNeg) (w10.1).toInt64) = 0 then some w10.2 else none) else some w10.2) else none))) else none) else none) else none) else none)) else none) else none) else none) else none)
set_option maxHeartbeats 4000000 in
set_option maxRecDepth 100000 in
theorem ok_law_c15 {p : Program} {e : Env} {s : State} {m : MethodId} {below : List Frame} {meth : Method} {c : Code} {H : Heap} {locs : List Loc} {cells slots : Nat} {Q : State → Prop} {ls : Array Slot} {A : Nat → Prop} {μ : xs_M} {b L : Nat} {xs : Nat → Int32} {v4 : Int32} (l : Launch) (hlt : l.stackTraces = false) (D : va_G) (ad : Nat → Nat) (cs : xs_cs) (hJ : xs_J ad) (X : xs_C p s m c code 8 #[Value.ref b] "ExactSceneLaw") (hT : xt_P A s s.heap) (hX : va_X b L xs s s.heap) (hbl : b < s.heap.size) (hbA : ¬ A b) (G : xs_G D ad cs s A s.heap μ H locs) (hl : lv_has ls 8 [(0, .ref b), (1, .ref (ad 0)), (2, .ref (ad 154)), (3, .ref (ad 171)), (4, .int (v4))]) (hc : cells + 1 ≤ room_1.cells ∧ slots + 6 ≤ room_1.slots) {μ2 : xs_M} (hE : fn_law_c15 μ xs L v4 = some μ2) (kk : ∀ (H : Heap) (locs : List Loc) (ls : Array Slot), xs_G D ad cs s A s.heap μ2 H locs → lv_has ls 8 [(0, .ref b), (1, .ref (ad 0)), (2, .ref (ad 154)), (3, .ref (ad 171)), (4, .int (v4))] → W p l e room_1 s m #[Value.ref b] below meth c H locs (cells + 1) (slots + 6) Q (F0 m 1153 ls [])) : W p l e room_1 s m #[Value.ref b] below meth c H locs cells slots Q (F0 m 927 ls []) := by
  have hx := X.1
  have hb := X.2.1
  unfold fn_law_c15 at hE
  refine lv_aload_n (pc := 927) hx hb d_L_law_927 rfl (lv_at hl 1 rfl) ?_
  refine lv_aload_n (pc := 928) hx hb d_L_law_928 rfl (lv_at hl 0 rfl) ?_
  refine lv_iload (pc := 929) hx hb d_L_law_929 (lv_at hl 4 rfl) ?_
  refine lv_iconst (pc := 931) (v := (1 : Int32)) hx hb d_L_law_931 (by decide) ?_
  refine lv_iadd (pc := 932) hx hb d_L_law_932 ?_
  obtain ⟨hi1, hE⟩ := xs_n hE
  refine va_sld (pc := 933) hx hb hX hbl hbA G.2.2.2.1 (xs_inP hi1) d_L_law_933 ?_
  refine lv_aload_n (pc := 934) hx hb d_L_law_934 rfl (lv_at hl 0 rfl) ?_
  refine lv_iload (pc := 935) hx hb d_L_law_935 (lv_at hl 4 rfl) ?_
  refine lv_iconst (pc := 937) (v := (2 : Int32)) hx hb d_L_law_937 (by decide) ?_
  refine lv_iadd (pc := 938) hx hb d_L_law_938 ?_
  obtain ⟨hi2, hE⟩ := xs_n hE
  refine va_sld (pc := 939) hx hb hX hbl hbA G.2.2.2.1 (xs_inP hi2) d_L_law_939 ?_
  refine lv_aload_n (pc := 940) hx hb d_L_law_940 rfl (lv_at hl 0 rfl) ?_
  refine lv_iload (pc := 941) hx hb d_L_law_941 (lv_at hl 4 rfl) ?_
  refine lv_iconst (pc := 943) (v := (3 : Int32)) hx hb d_L_law_943 (by decide) ?_
  refine lv_iadd (pc := 944) hx hb d_L_law_944 ?_
  obtain ⟨hi3, hE⟩ := xs_n hE
  refine va_sld (pc := 945) hx hb hX hbl hbA G.2.2.2.1 (xs_inP hi3) d_L_law_945 ?_
  refine lv_aload_n (pc := 946) hx hb d_L_law_946 rfl (lv_at hl 0 rfl) ?_
  refine lv_iload (pc := 947) hx hb d_L_law_947 (lv_at hl 4 rfl) ?_
  refine lv_iconst (pc := 949) (v := (4 : Int32)) hx hb d_L_law_949 (by decide) ?_
  refine lv_iadd (pc := 950) hx hb d_L_law_950 ?_
  obtain ⟨hi4, hE⟩ := xs_n hE
  refine va_sld (pc := 951) hx hb hX hbl hbA G.2.2.2.1 (xs_inP hi4) d_L_law_951 ?_
  refine lv_aload_n (pc := 952) hx hb d_L_law_952 rfl (lv_at hl 3 rfl) ?_
  obtain ⟨w5, hw5, hE⟩ := xs_b hE
  refine xh_callS (pc := 953) (as := [.ref (ad 0), .int ((xs (v4 + (1 : Int32)).toNatClampNeg)), .int ((xs (v4 + (2 : Int32)).toNatClampNeg)), .int ((xs (v4 + (3 : Int32)).toNatClampNeg)), .int ((xs (v4 + (4 : Int32)).toNatClampNeg)), .ref (ad 171)]) X (ok_L_compare l hlt D ad cs hJ hw5) kh_136 hT G ⟨by decide, by decide⟩ hc rfl hl.1 rfl (Nat.le_of_ble_eq_true rfl) d_L_law_953 (fun H locs G => ?_)
  refine lv_istore (pc := 956) hx hb d_L_law_956 hl (by decide) (lv' := [(5, .int (w5.1)), (0, .ref b), (1, .ref (ad 0)), (2, .ref (ad 154)), (3, .ref (ad 171)), (4, .int (v4))]) rfl (fun ls hl => ?_)
  refine lv_aload_n (pc := 958) hx hb d_L_law_958 rfl (lv_at hl 3 rfl) ?_
  refine lv_aload_n (pc := 959) hx hb d_L_law_959 rfl (lv_at hl 1 rfl) ?_
  refine lv_iload (pc := 960) hx hb d_L_law_960 (lv_at hl 5 rfl) ?_
  refine lv_iconst (pc := 962) (v := (1 : Int32)) hx hb d_L_law_962 (by decide) ?_
  refine lv_iadd (pc := 963) hx hb d_L_law_963 ?_
  obtain ⟨hi6, hE⟩ := xs_n hE
  refine va_sld (pc := 964) hx hb hX hbl hbA G.2.2.2.1 (xs_inP hi6) d_L_law_964 ?_
  refine lv_aload_n (pc := 965) hx hb d_L_law_965 rfl (lv_at hl 1 rfl) ?_
  refine lv_iload (pc := 966) hx hb d_L_law_966 (lv_at hl 5 rfl) ?_
  refine lv_iconst (pc := 968) (v := (2 : Int32)) hx hb d_L_law_968 (by decide) ?_
  refine lv_iadd (pc := 969) hx hb d_L_law_969 ?_
  obtain ⟨hi7, hE⟩ := xs_n hE
  refine va_sld (pc := 970) hx hb hX hbl hbA G.2.2.2.1 (xs_inP hi7) d_L_law_970 ?_
  refine lv_aload_n (pc := 971) hx hb d_L_law_971 rfl (lv_at hl 1 rfl) ?_
  refine lv_iload (pc := 972) hx hb d_L_law_972 (lv_at hl 5 rfl) ?_
  refine lv_iconst (pc := 974) (v := (3 : Int32)) hx hb d_L_law_974 (by decide) ?_
  refine lv_iadd (pc := 975) hx hb d_L_law_975 ?_
  obtain ⟨hi8, hE⟩ := xs_n hE
  refine va_sld (pc := 976) hx hb hX hbl hbA G.2.2.2.1 (xs_inP hi8) d_L_law_976 ?_
  refine lv_aload_n (pc := 977) hx hb d_L_law_977 rfl (lv_at hl 1 rfl) ?_
  refine lv_iload (pc := 978) hx hb d_L_law_978 (lv_at hl 5 rfl) ?_
  refine lv_iconst (pc := 980) (v := (4 : Int32)) hx hb d_L_law_980 (by decide) ?_
  refine lv_iadd (pc := 981) hx hb d_L_law_981 ?_
  obtain ⟨hi9, hE⟩ := xs_n hE
  refine va_sld (pc := 982) hx hb hX hbl hbA G.2.2.2.1 (xs_inP hi9) d_L_law_982 ?_
  obtain ⟨w10, hw10, hE⟩ := xs_b hE
  refine xs_callVr (pc := 983) (as := [.int ((xs (v4 + (1 : Int32)).toNatClampNeg)), .int ((xs (v4 + (2 : Int32)).toNatClampNeg)), .int ((xs (v4 + (3 : Int32)).toNatClampNeg)), .int ((xs (v4 + (4 : Int32)).toNatClampNeg))]) X (ok_R_compare l D ad cs hJ hw10) km_L_138 G (xs_wR ad cs _) rfl ⟨by decide, by decide⟩ (by first | exact hc | exact ⟨Nat.le_trans (Nat.le_add_right _ _) hc.1, Nat.le_trans (Nat.le_add_right _ _) hc.2⟩) rfl hl.1 rfl (Nat.le_of_ble_eq_true rfl) d_L_law_983 (fun H locs G => ?_)
  refine lv_istore (pc := 986) hx hb d_L_law_986 hl (by decide) (lv' := [(6, .int (w10.1)), (5, .int (w5.1)), (0, .ref b), (1, .ref (ad 0)), (2, .ref (ad 154)), (3, .ref (ad 171)), (4, .int (v4))]) rfl (fun ls hl => ?_)
  refine lv_aload_n (pc := 988) hx hb d_L_law_988 rfl (lv_at hl 4 rfl) ?_
  obtain ⟨w11, hw11, hE⟩ := xs_b hE
  refine xs_callVr (pc := 989) (as := []) X (ok_R_thrown l D ad cs hJ hw11) km_L_79 G (xs_wR ad cs _) rfl ⟨by decide, by decide⟩ (by first | exact hc | exact ⟨Nat.le_trans (Nat.le_add_right _ _) hc.1, Nat.le_trans (Nat.le_add_right _ _) hc.2⟩) rfl hl.1 rfl (Nat.le_of_ble_eq_true rfl) d_L_law_989 (fun H locs G => ?_)
  refine lv_iload (pc := 992) hx hb d_L_law_992 (lv_at hl 1 rfl) ?_
  refine lv_icmp_eq (pc := 994) (tgt := 999) hx hb d_L_law_994 (by decide) (fun hc => ?_) (fun hc => ?_)
  · have hE := xs_t hE hc
    refine lv_iload (pc := 999) hx hb d_L_law_999 (lv_at hl 1 rfl) ?_
    refine lv_if_ne (pc := 1001) (tgt := 1016) hx hb d_L_law_1001 (by decide) (fun hc => ?_) (fun hc => ?_)
    · have hE := xs_f hE hc
      refine lv_goto (pc := 1016) (tgt := 1153) hx hb d_L_law_1016 (by decide) ?_
      cases hE
      first | exact kk _ _ _ G (lv_sub hl [2, 3, 4, 5, 6] rfl) | exact W.widen (Nat.le_add_right _ 1) (Nat.le_add_right _ 6) (kk _ _ _ G (lv_sub hl [2, 3, 4, 5, 6] rfl))
    · have hE := xs_t hE hc
      refine lv_aload_n (pc := 1004) hx hb d_L_law_1004 rfl (lv_at hl 5 rfl) ?_
      refine lv_iconst (pc := 1005) (v := (0 : Int32)) hx hb d_L_law_1005 (by decide) ?_
      refine xs_lald (pc := 1006) hx hb G la_171 (xs_inP (by decide)) d_L_law_1006 ?_
      refine lv_iload (pc := 1007) hx hb d_L_law_1007 (lv_at hl 0 rfl) ?_
      refine lv_i2l (pc := 1009) hx hb d_L_law_1009 rfl ?_
      refine W.lcmp (pc := 1010) hx hb d_L_law_1010 ?_
      refine lv_if_eq (pc := 1011) (tgt := 1016) hx hb d_L_law_1011 (by decide) (fun hc => ?_) (fun hc => ?_)
      · have hE := xs_t hE hc
        refine lv_goto (pc := 1016) (tgt := 1153) hx hb d_L_law_1016 (by decide) ?_
        cases hE
        first | exact kk _ _ _ G (lv_sub hl [2, 3, 4, 5, 6] rfl) | exact W.widen (Nat.le_add_right _ 1) (Nat.le_add_right _ 6) (kk _ _ _ G (lv_sub hl [2, 3, 4, 5, 6] rfl))
      · have hE := xs_f hE hc
        refine lv_iconst (pc := 1014) (v := (0 : Int32)) hx hb d_L_law_1014 (by decide) ?_
        cases hE
  · have hE := xs_f hE hc
    refine lv_iconst (pc := 997) (v := (0 : Int32)) hx hb d_L_law_997 (by decide) ?_
    cases hE
def fn_law_c16 (μ : xs_M) (xs : Nat → Int32) (L : Nat) (v4 : Int32) : Option xs_M :=
  (if xs_in (v4 + (1 : Int32)) L = true then (if xs_in (v4 + (2 : Int32)) L = true then ((fn_L_depth μ (xs (v4 + (1 : Int32)).toNatClampNeg) (xs (v4 + (2 : Int32)).toNatClampNeg)).bind fun w3 => (if xs_in (v4 + (1 : Int32)) L = true then (if xs_in (v4 + (2 : Int32)) L = true then ((fn_R_depth w3.2 (xs (v4 + (1 : Int32)).toNatClampNeg) (xs (v4 + (2 : Int32)).toNatClampNeg)).bind fun w6 => ((fn_R_thrown w6.2).bind fun w7 => (if w7 = w3.1 then (if w3.1 = 0 then (if (lg_cmp (w6.2.2 171 (0 : Int32).toNatClampNeg) w6.1) = 0 then some w6.2 else none) else some w6.2) else none))) else none) else none)) else none) else none)
set_option maxHeartbeats 4000000 in
set_option maxRecDepth 100000 in
theorem ok_law_c16 {p : Program} {e : Env} {s : State} {m : MethodId} {below : List Frame} {meth : Method} {c : Code} {H : Heap} {locs : List Loc} {cells slots : Nat} {Q : State → Prop} {ls : Array Slot} {A : Nat → Prop} {μ : xs_M} {b L : Nat} {xs : Nat → Int32} {v4 : Int32} (l : Launch) (hlt : l.stackTraces = false) (D : va_G) (ad : Nat → Nat) (cs : xs_cs) (hJ : xs_J ad) (X : xs_C p s m c code 8 #[Value.ref b] "ExactSceneLaw") (hT : xt_P A s s.heap) (hX : va_X b L xs s s.heap) (hbl : b < s.heap.size) (hbA : ¬ A b) (G : xs_G D ad cs s A s.heap μ H locs) (hl : lv_has ls 8 [(0, .ref b), (1, .ref (ad 0)), (2, .ref (ad 154)), (3, .ref (ad 171)), (4, .int (v4))]) (hc : cells + 1 ≤ room_1.cells ∧ slots + 6 ≤ room_1.slots) {μ2 : xs_M} (hE : fn_law_c16 μ xs L v4 = some μ2) (kk : ∀ (H : Heap) (locs : List Loc) (ls : Array Slot), xs_G D ad cs s A s.heap μ2 H locs → lv_has ls 8 [(0, .ref b), (1, .ref (ad 0)), (2, .ref (ad 154)), (3, .ref (ad 171)), (4, .int (v4))] → W p l e room_1 s m #[Value.ref b] below meth c H locs (cells + 1) (slots + 6) Q (F0 m 1153 ls [])) : W p l e room_1 s m #[Value.ref b] below meth c H locs cells slots Q (F0 m 1019 ls []) := by
  have hx := X.1
  have hb := X.2.1
  unfold fn_law_c16 at hE
  refine lv_aload_n (pc := 1019) hx hb d_L_law_1019 rfl (lv_at hl 1 rfl) ?_
  refine lv_aload_n (pc := 1020) hx hb d_L_law_1020 rfl (lv_at hl 0 rfl) ?_
  refine lv_iload (pc := 1021) hx hb d_L_law_1021 (lv_at hl 4 rfl) ?_
  refine lv_iconst (pc := 1023) (v := (1 : Int32)) hx hb d_L_law_1023 (by decide) ?_
  refine lv_iadd (pc := 1024) hx hb d_L_law_1024 ?_
  obtain ⟨hi1, hE⟩ := xs_n hE
  refine va_sld (pc := 1025) hx hb hX hbl hbA G.2.2.2.1 (xs_inP hi1) d_L_law_1025 ?_
  refine lv_aload_n (pc := 1026) hx hb d_L_law_1026 rfl (lv_at hl 0 rfl) ?_
  refine lv_iload (pc := 1027) hx hb d_L_law_1027 (lv_at hl 4 rfl) ?_
  refine lv_iconst (pc := 1029) (v := (2 : Int32)) hx hb d_L_law_1029 (by decide) ?_
  refine lv_iadd (pc := 1030) hx hb d_L_law_1030 ?_
  obtain ⟨hi2, hE⟩ := xs_n hE
  refine va_sld (pc := 1031) hx hb hX hbl hbA G.2.2.2.1 (xs_inP hi2) d_L_law_1031 ?_
  refine lv_aload_n (pc := 1032) hx hb d_L_law_1032 rfl (lv_at hl 3 rfl) ?_
  obtain ⟨w3, hw3, hE⟩ := xs_b hE
  refine xh_callS (pc := 1033) (as := [.ref (ad 0), .int ((xs (v4 + (1 : Int32)).toNatClampNeg)), .int ((xs (v4 + (2 : Int32)).toNatClampNeg)), .ref (ad 171)]) X (ok_L_depth l hlt D ad cs hJ hw3) kh_139 hT G ⟨by decide, by decide⟩ hc rfl hl.1 rfl (Nat.le_of_ble_eq_true rfl) d_L_law_1033 (fun H locs G => ?_)
  refine lv_istore (pc := 1036) hx hb d_L_law_1036 hl (by decide) (lv' := [(5, .int (w3.1)), (0, .ref b), (1, .ref (ad 0)), (2, .ref (ad 154)), (3, .ref (ad 171)), (4, .int (v4))]) rfl (fun ls hl => ?_)
  refine lv_aload_n (pc := 1038) hx hb d_L_law_1038 rfl (lv_at hl 3 rfl) ?_
  refine lv_aload_n (pc := 1039) hx hb d_L_law_1039 rfl (lv_at hl 1 rfl) ?_
  refine lv_iload (pc := 1040) hx hb d_L_law_1040 (lv_at hl 5 rfl) ?_
  refine lv_iconst (pc := 1042) (v := (1 : Int32)) hx hb d_L_law_1042 (by decide) ?_
  refine lv_iadd (pc := 1043) hx hb d_L_law_1043 ?_
  obtain ⟨hi4, hE⟩ := xs_n hE
  refine va_sld (pc := 1044) hx hb hX hbl hbA G.2.2.2.1 (xs_inP hi4) d_L_law_1044 ?_
  refine lv_aload_n (pc := 1045) hx hb d_L_law_1045 rfl (lv_at hl 1 rfl) ?_
  refine lv_iload (pc := 1046) hx hb d_L_law_1046 (lv_at hl 5 rfl) ?_
  refine lv_iconst (pc := 1048) (v := (2 : Int32)) hx hb d_L_law_1048 (by decide) ?_
  refine lv_iadd (pc := 1049) hx hb d_L_law_1049 ?_
  obtain ⟨hi5, hE⟩ := xs_n hE
  refine va_sld (pc := 1050) hx hb hX hbl hbA G.2.2.2.1 (xs_inP hi5) d_L_law_1050 ?_
  obtain ⟨w6, hw6, hE⟩ := xs_b hE
  refine xs_callVr (pc := 1051) (as := [.int ((xs (v4 + (1 : Int32)).toNatClampNeg)), .int ((xs (v4 + (2 : Int32)).toNatClampNeg))]) X (ok_R_depth l D ad cs hJ hw6) km_L_141 G (xs_wR ad cs _) rfl ⟨by decide, by decide⟩ (by first | exact hc | exact ⟨Nat.le_trans (Nat.le_add_right _ _) hc.1, Nat.le_trans (Nat.le_add_right _ _) hc.2⟩) rfl hl.1 rfl (Nat.le_of_ble_eq_true rfl) d_L_law_1051 (fun H locs G => ?_)
  refine lv_lstore (pc := 1054) hx hb d_L_law_1054 hl (by decide) (lv' := [(6, .long (w6.1)), (5, .int (w3.1)), (0, .ref b), (1, .ref (ad 0)), (2, .ref (ad 154)), (3, .ref (ad 171)), (4, .int (v4))]) rfl (fun ls hl => ?_)
  refine lv_aload_n (pc := 1056) hx hb d_L_law_1056 rfl (lv_at hl 4 rfl) ?_
  obtain ⟨w7, hw7, hE⟩ := xs_b hE
  refine xs_callVr (pc := 1057) (as := []) X (ok_R_thrown l D ad cs hJ hw7) km_L_79 G (xs_wR ad cs _) rfl ⟨by decide, by decide⟩ (by first | exact hc | exact ⟨Nat.le_trans (Nat.le_add_right _ _) hc.1, Nat.le_trans (Nat.le_add_right _ _) hc.2⟩) rfl hl.1 rfl (Nat.le_of_ble_eq_true rfl) d_L_law_1057 (fun H locs G => ?_)
  refine lv_iload (pc := 1060) hx hb d_L_law_1060 (lv_at hl 1 rfl) ?_
  refine lv_icmp_eq (pc := 1062) (tgt := 1067) hx hb d_L_law_1062 (by decide) (fun hc => ?_) (fun hc => ?_)
  · have hE := xs_t hE hc
    refine lv_iload (pc := 1067) hx hb d_L_law_1067 (lv_at hl 1 rfl) ?_
    refine lv_if_ne (pc := 1069) (tgt := 1083) hx hb d_L_law_1069 (by decide) (fun hc => ?_) (fun hc => ?_)
    · have hE := xs_f hE hc
      refine lv_goto (pc := 1083) (tgt := 1153) hx hb d_L_law_1083 (by decide) ?_
      cases hE
      first | exact kk _ _ _ G (lv_sub hl [2, 3, 4, 5, 6] rfl) | exact W.widen (Nat.le_add_right _ 1) (Nat.le_add_right _ 6) (kk _ _ _ G (lv_sub hl [2, 3, 4, 5, 6] rfl))
    · have hE := xs_t hE hc
      refine lv_aload_n (pc := 1072) hx hb d_L_law_1072 rfl (lv_at hl 5 rfl) ?_
      refine lv_iconst (pc := 1073) (v := (0 : Int32)) hx hb d_L_law_1073 (by decide) ?_
      refine xs_lald (pc := 1074) hx hb G la_171 (xs_inP (by decide)) d_L_law_1074 ?_
      refine lv_lload (pc := 1075) hx hb d_L_law_1075 (lv_at hl 0 rfl) ?_
      refine W.lcmp (pc := 1077) hx hb d_L_law_1077 ?_
      refine lv_if_eq (pc := 1078) (tgt := 1083) hx hb d_L_law_1078 (by decide) (fun hc => ?_) (fun hc => ?_)
      · have hE := xs_t hE hc
        refine lv_goto (pc := 1083) (tgt := 1153) hx hb d_L_law_1083 (by decide) ?_
        cases hE
        first | exact kk _ _ _ G (lv_sub hl [2, 3, 4, 5, 6] rfl) | exact W.widen (Nat.le_add_right _ 1) (Nat.le_add_right _ 6) (kk _ _ _ G (lv_sub hl [2, 3, 4, 5, 6] rfl))
      · have hE := xs_f hE hc
        refine lv_iconst (pc := 1081) (v := (0 : Int32)) hx hb d_L_law_1081 (by decide) ?_
        cases hE
  · have hE := xs_f hE hc
    refine lv_iconst (pc := 1065) (v := (0 : Int32)) hx hb d_L_law_1065 (by decide) ?_
    cases hE
def fn_law_c17 (μ : xs_M) (xs : Nat → Int32) (L : Nat) (v4 : Int32) : Option xs_M :=
  (if xs_in (v4 + (1 : Int32)) L = true then (if xs_in (v4 + (2 : Int32)) L = true then ((fn_L_triangle μ (xs (v4 + (1 : Int32)).toNatClampNeg) (xs (v4 + (2 : Int32)).toNatClampNeg)).bind fun w3 => (if xs_in (v4 + (1 : Int32)) L = true then (if xs_in (v4 + (2 : Int32)) L = true then ((fn_R_triangle w3.2 (xs (v4 + (1 : Int32)).toNatClampNeg) (xs (v4 + (2 : Int32)).toNatClampNeg)).bind fun w6 => ((fn_R_thrown w6.2).bind fun w7 => (if w7 = w3.1 then (if w3.1 = 0 then (if (lg_cmp (w6.2.2 171 (0 : Int32).toNatClampNeg) w6.1) = 0 then some w6.2 else none) else some w6.2) else none))) else none) else none)) else none) else none)
set_option maxHeartbeats 4000000 in
set_option maxRecDepth 100000 in
theorem ok_law_c17 {p : Program} {e : Env} {s : State} {m : MethodId} {below : List Frame} {meth : Method} {c : Code} {H : Heap} {locs : List Loc} {cells slots : Nat} {Q : State → Prop} {ls : Array Slot} {A : Nat → Prop} {μ : xs_M} {b L : Nat} {xs : Nat → Int32} {v4 : Int32} (l : Launch) (hlt : l.stackTraces = false) (D : va_G) (ad : Nat → Nat) (cs : xs_cs) (hJ : xs_J ad) (X : xs_C p s m c code 8 #[Value.ref b] "ExactSceneLaw") (hT : xt_P A s s.heap) (hX : va_X b L xs s s.heap) (hbl : b < s.heap.size) (hbA : ¬ A b) (G : xs_G D ad cs s A s.heap μ H locs) (hl : lv_has ls 8 [(0, .ref b), (1, .ref (ad 0)), (2, .ref (ad 154)), (3, .ref (ad 171)), (4, .int (v4))]) (hc : cells + 1 ≤ room_1.cells ∧ slots + 6 ≤ room_1.slots) {μ2 : xs_M} (hE : fn_law_c17 μ xs L v4 = some μ2) (kk : ∀ (H : Heap) (locs : List Loc) (ls : Array Slot), xs_G D ad cs s A s.heap μ2 H locs → lv_has ls 8 [(0, .ref b), (1, .ref (ad 0)), (2, .ref (ad 154)), (3, .ref (ad 171)), (4, .int (v4))] → W p l e room_1 s m #[Value.ref b] below meth c H locs (cells + 1) (slots + 6) Q (F0 m 1153 ls [])) : W p l e room_1 s m #[Value.ref b] below meth c H locs cells slots Q (F0 m 1086 ls []) := by
  have hx := X.1
  have hb := X.2.1
  unfold fn_law_c17 at hE
  refine lv_aload_n (pc := 1086) hx hb d_L_law_1086 rfl (lv_at hl 1 rfl) ?_
  refine lv_aload_n (pc := 1087) hx hb d_L_law_1087 rfl (lv_at hl 0 rfl) ?_
  refine lv_iload (pc := 1088) hx hb d_L_law_1088 (lv_at hl 4 rfl) ?_
  refine lv_iconst (pc := 1090) (v := (1 : Int32)) hx hb d_L_law_1090 (by decide) ?_
  refine lv_iadd (pc := 1091) hx hb d_L_law_1091 ?_
  obtain ⟨hi1, hE⟩ := xs_n hE
  refine va_sld (pc := 1092) hx hb hX hbl hbA G.2.2.2.1 (xs_inP hi1) d_L_law_1092 ?_
  refine lv_aload_n (pc := 1093) hx hb d_L_law_1093 rfl (lv_at hl 0 rfl) ?_
  refine lv_iload (pc := 1094) hx hb d_L_law_1094 (lv_at hl 4 rfl) ?_
  refine lv_iconst (pc := 1096) (v := (2 : Int32)) hx hb d_L_law_1096 (by decide) ?_
  refine lv_iadd (pc := 1097) hx hb d_L_law_1097 ?_
  obtain ⟨hi2, hE⟩ := xs_n hE
  refine va_sld (pc := 1098) hx hb hX hbl hbA G.2.2.2.1 (xs_inP hi2) d_L_law_1098 ?_
  refine lv_aload_n (pc := 1099) hx hb d_L_law_1099 rfl (lv_at hl 3 rfl) ?_
  obtain ⟨w3, hw3, hE⟩ := xs_b hE
  refine xh_callS (pc := 1100) (as := [.ref (ad 0), .int ((xs (v4 + (1 : Int32)).toNatClampNeg)), .int ((xs (v4 + (2 : Int32)).toNatClampNeg)), .ref (ad 171)]) X (ok_L_triangle l hlt D ad cs hJ hw3) kh_142 hT G ⟨by decide, by decide⟩ hc rfl hl.1 rfl (Nat.le_of_ble_eq_true rfl) d_L_law_1100 (fun H locs G => ?_)
  refine lv_istore (pc := 1103) hx hb d_L_law_1103 hl (by decide) (lv' := [(5, .int (w3.1)), (0, .ref b), (1, .ref (ad 0)), (2, .ref (ad 154)), (3, .ref (ad 171)), (4, .int (v4))]) rfl (fun ls hl => ?_)
  refine lv_aload_n (pc := 1105) hx hb d_L_law_1105 rfl (lv_at hl 3 rfl) ?_
  refine lv_aload_n (pc := 1106) hx hb d_L_law_1106 rfl (lv_at hl 1 rfl) ?_
  refine lv_iload (pc := 1107) hx hb d_L_law_1107 (lv_at hl 5 rfl) ?_
  refine lv_iconst (pc := 1109) (v := (1 : Int32)) hx hb d_L_law_1109 (by decide) ?_
  refine lv_iadd (pc := 1110) hx hb d_L_law_1110 ?_
  obtain ⟨hi4, hE⟩ := xs_n hE
  refine va_sld (pc := 1111) hx hb hX hbl hbA G.2.2.2.1 (xs_inP hi4) d_L_law_1111 ?_
  refine lv_aload_n (pc := 1112) hx hb d_L_law_1112 rfl (lv_at hl 1 rfl) ?_
  refine lv_iload (pc := 1113) hx hb d_L_law_1113 (lv_at hl 5 rfl) ?_
  refine lv_iconst (pc := 1115) (v := (2 : Int32)) hx hb d_L_law_1115 (by decide) ?_
  refine lv_iadd (pc := 1116) hx hb d_L_law_1116 ?_
  obtain ⟨hi5, hE⟩ := xs_n hE
  refine va_sld (pc := 1117) hx hb hX hbl hbA G.2.2.2.1 (xs_inP hi5) d_L_law_1117 ?_
  obtain ⟨w6, hw6, hE⟩ := xs_b hE
  refine xs_callVr (pc := 1118) (as := [.int ((xs (v4 + (1 : Int32)).toNatClampNeg)), .int ((xs (v4 + (2 : Int32)).toNatClampNeg))]) X (ok_R_triangle l D ad cs hJ hw6) km_L_144 G (xs_wR ad cs _) rfl ⟨by decide, by decide⟩ (by first | exact hc | exact ⟨Nat.le_trans (Nat.le_add_right _ _) hc.1, Nat.le_trans (Nat.le_add_right _ _) hc.2⟩) rfl hl.1 rfl (Nat.le_of_ble_eq_true rfl) d_L_law_1118 (fun H locs G => ?_)
  refine lv_lstore (pc := 1121) hx hb d_L_law_1121 hl (by decide) (lv' := [(6, .long (w6.1)), (5, .int (w3.1)), (0, .ref b), (1, .ref (ad 0)), (2, .ref (ad 154)), (3, .ref (ad 171)), (4, .int (v4))]) rfl (fun ls hl => ?_)
  refine lv_aload_n (pc := 1123) hx hb d_L_law_1123 rfl (lv_at hl 4 rfl) ?_
  obtain ⟨w7, hw7, hE⟩ := xs_b hE
  refine xs_callVr (pc := 1124) (as := []) X (ok_R_thrown l D ad cs hJ hw7) km_L_79 G (xs_wR ad cs _) rfl ⟨by decide, by decide⟩ (by first | exact hc | exact ⟨Nat.le_trans (Nat.le_add_right _ _) hc.1, Nat.le_trans (Nat.le_add_right _ _) hc.2⟩) rfl hl.1 rfl (Nat.le_of_ble_eq_true rfl) d_L_law_1124 (fun H locs G => ?_)
  refine lv_iload (pc := 1127) hx hb d_L_law_1127 (lv_at hl 1 rfl) ?_
  refine lv_icmp_eq (pc := 1129) (tgt := 1134) hx hb d_L_law_1129 (by decide) (fun hc => ?_) (fun hc => ?_)
  · have hE := xs_t hE hc
    refine lv_iload (pc := 1134) hx hb d_L_law_1134 (lv_at hl 1 rfl) ?_
    refine lv_if_ne (pc := 1136) (tgt := 1150) hx hb d_L_law_1136 (by decide) (fun hc => ?_) (fun hc => ?_)
    · have hE := xs_f hE hc
      refine lv_goto (pc := 1150) (tgt := 1153) hx hb d_L_law_1150 (by decide) ?_
      cases hE
      first | exact kk _ _ _ G (lv_sub hl [2, 3, 4, 5, 6] rfl) | exact W.widen (Nat.le_add_right _ 1) (Nat.le_add_right _ 6) (kk _ _ _ G (lv_sub hl [2, 3, 4, 5, 6] rfl))
    · have hE := xs_t hE hc
      refine lv_aload_n (pc := 1139) hx hb d_L_law_1139 rfl (lv_at hl 5 rfl) ?_
      refine lv_iconst (pc := 1140) (v := (0 : Int32)) hx hb d_L_law_1140 (by decide) ?_
      refine xs_lald (pc := 1141) hx hb G la_171 (xs_inP (by decide)) d_L_law_1141 ?_
      refine lv_lload (pc := 1142) hx hb d_L_law_1142 (lv_at hl 0 rfl) ?_
      refine W.lcmp (pc := 1144) hx hb d_L_law_1144 ?_
      refine lv_if_eq (pc := 1145) (tgt := 1150) hx hb d_L_law_1145 (by decide) (fun hc => ?_) (fun hc => ?_)
      · have hE := xs_t hE hc
        refine lv_goto (pc := 1150) (tgt := 1153) hx hb d_L_law_1150 (by decide) ?_
        cases hE
        first | exact kk _ _ _ G (lv_sub hl [2, 3, 4, 5, 6] rfl) | exact W.widen (Nat.le_add_right _ 1) (Nat.le_add_right _ 6) (kk _ _ _ G (lv_sub hl [2, 3, 4, 5, 6] rfl))
      · have hE := xs_f hE hc
        refine lv_iconst (pc := 1148) (v := (0 : Int32)) hx hb d_L_law_1148 (by decide) ?_
        cases hE
  · have hE := xs_f hE hc
    refine lv_iconst (pc := 1132) (v := (0 : Int32)) hx hb d_L_law_1132 (by decide) ?_
    cases hE
