def wc_law_0 (xs : Nat → Int32) (L : Nat) (rec23 : St → St → St → St → St → (Nat → Int64) → Int32 → Prop) (xR : St) (xU : St) (xI : St) (xW : St) (xM : St) (xo : (Nat → Int64)) (i4 : Int32) : Prop := vp_in (i4 + (1 : Int32)) L ∧ (vp_in (i4 + (2 : Int32)) L ∧ (vp_in (i4 + (3 : Int32)) L ∧ (vp_in (i4 + (4 : Int32)) L ∧ (wp_L_unit xR xU xI xW xo (xs (i4 + (1 : Int32)).toNatClampNeg) (xs (i4 + (2 : Int32)).toNatClampNeg) (xs (i4 + (3 : Int32)).toNatClampNeg) (xs (i4 + (4 : Int32)).toNatClampNeg) (fun r146 u146 => (vp_in (i4 + (1 : Int32)) L ∧ (vp_in (i4 + (2 : Int32)) L ∧ (vp_in (i4 + (3 : Int32)) L ∧ (vp_in (i4 + (4 : Int32)) L ∧ (wp_M_unit xM (xs (i4 + (1 : Int32)).toNatClampNeg) (xs (i4 + (2 : Int32)).toNatClampNeg) (xs (i4 + (3 : Int32)).toNatClampNeg) (xs (i4 + (4 : Int32)).toNatClampNeg) (fun r176 u176 => (wp_M_thrown u176 (fun r182 _ => ((r182 = r146 → ((¬ r146 = 0 → (∀ v4_1120 : Int32, v4_1120 = i4 + 5 → (rec23 u146.1 u146.2.1 u146.2.2.1 u146.2.2.2.1 u176 u146.2.2.2.2 v4_1120))) ∧ (r146 = 0 → (vp_in (0 : Int32) 1 ∧ (((lg_cmp (u146.2.2.2.2 (0 : Int32).toNatClampNeg) r176.toInt64) = 0 → (∀ v4_1120 : Int32, v4_1120 = i4 + 5 → (rec23 u146.1 u146.2.1 u146.2.2.1 u146.2.2.2.1 u176 u146.2.2.2.2 v4_1120))) ∧ (¬ (lg_cmp (u146.2.2.2.2 (0 : Int32).toNatClampNeg) r176.toInt64) = 0 → (False))))))) ∧ (¬ r182 = r146 → (False))))))))))))))))
set_option maxHeartbeats 8000000 in
set_option maxRecDepth 100000 in
theorem lawcase_0 {p : Program} {l : Launch} {e : Env} {s : State} {m : MethodId} {below : List Frame} {meth : Method} {c : Code} {dC : Nat → ClassId} {dI : Nat → Nat → Nat} {cI cZ cL : ClassId} {qR qU qI qW qM : Nat → Nat} {qo : Nat} {sa : Nat → Nat} {b L : Nat} {xs : Nat → Int32} (hl9 : l.stackTraces = false) {j : Nat} (hLj : j ≤ 512) (C0 : lw_At p s m meth c b L xs) (hK : va_K (dC, dI) vwCl [(cI, .int), (cZ, .boolean), (cL, .long)] s) (hE : xE "ReleaseRows" xTx sa (fun q : Nat => s.heap.size ≤ q) s.heap s) (hN : xN s) {rec23 : St → St → St → St → St → (Nat → Int64) → Int32 → Prop}
    (ih : ∀ j1 : Nat, j1 = j + 1 → ∀ (xR : St) (xU : St) (xI : St) (xW : St) (xM : St) (xo : (Nat → Int64)) (i4 : Int32) (H : Heap) (locs : List Loc) (ls : Array Slot), rec23 xR xU xI xW xM xo i4 → va_P (dC, dI) vwCl (wd_RUIWMo qR qU qI qW qM qo cI cZ cL xR xU xI xW xM xo) H → va_D (fun q : Nat => s.heap.size ≤ q) (wd_RUIWMo qR qU qI qW qM qo cI cZ cL xR xU xI xW xM xo) → va_S (fun q : Nat => s.heap.size ≤ q) s.heap H locs → lv_has ls 7 [(0, .ref b), (1, .ref (qR 0)), (2, .ref (qM 0)), (3, .ref qo), (4, .int i4)] → W p l e room_1 s m #[Value.ref b] below meth c H locs (48 + j1) (1209 + 6 * j1) (lw_Z below #[Value.ref b] s) (F0 m 23 ls []))
    : ∀ (xR : St) (xU : St) (xI : St) (xW : St) (xM : St) (xo : (Nat → Int64)) (i4 : Int32) (H : Heap) (locs : List Loc) (ls : Array Slot), wc_law_0 xs L rec23 xR xU xI xW xM xo i4 → va_P (dC, dI) vwCl (wd_RUIWMo qR qU qI qW qM qo cI cZ cL xR xU xI xW xM xo) H → va_D (fun q : Nat => s.heap.size ≤ q) (wd_RUIWMo qR qU qI qW qM qo cI cZ cL xR xU xI xW xM xo) → va_S (fun q : Nat => s.heap.size ≤ q) s.heap H locs → lv_has ls 7 [(0, .ref b), (1, .ref (qR 0)), (2, .ref (qM 0)), (3, .ref qo), (4, .int i4)] → W p l e room_1 s m #[Value.ref b] below meth c H locs (48 + j) (1209 + 6 * j) (lw_Z below #[Value.ref b] s) (F0 m 120 ls []) := by
  obtain ⟨hx, hb, hr, hml, hown, hts0, hX, hbl, hlocks, hgv⟩ := C0
  have hts : ∀ w ∈ gG, w.before #[Value.ref b] s = true := fun w h => hts0 w (List.mem_filter.mp h).1
  have hA : ∀ q : Nat, s.heap.size ≤ q → (fun q : Nat => s.heap.size ≤ q) q := fun _ h => h
  have hbA : ¬ (fun q : Nat => s.heap.size ≤ q) b := Nat.not_le.mpr hbl
  intro xR xU xI xW xM xo i4 H locs ls hw hP hD hS hl
  unfold wc_law_0 at hw
  refine lv_aload_n hx hb d_L_law_120 rfl (lv_at hl 1 rfl) ?_
  refine lv_aload_n hx hb d_L_law_121 rfl (lv_at hl 0 rfl) ?_
  refine lv_iload hx hb d_L_law_122 (lv_at hl 4 rfl) ?_
  refine lv_iconst (v := (1 : Int32)) hx hb d_L_law_124 (by decide) ?_
  refine lv_iadd hx hb d_L_law_125 ?_
  obtain ⟨h126, hw⟩ := hw
  refine va_sld hx hb hX hbl hbA hS h126 d_L_law_126 ?_
  refine lv_aload_n hx hb d_L_law_127 rfl (lv_at hl 0 rfl) ?_
  refine lv_iload hx hb d_L_law_128 (lv_at hl 4 rfl) ?_
  refine lv_iconst (v := (2 : Int32)) hx hb d_L_law_130 (by decide) ?_
  refine lv_iadd hx hb d_L_law_131 ?_
  obtain ⟨h132, hw⟩ := hw
  refine va_sld hx hb hX hbl hbA hS h132 d_L_law_132 ?_
  refine lv_aload_n hx hb d_L_law_133 rfl (lv_at hl 0 rfl) ?_
  refine lv_iload hx hb d_L_law_134 (lv_at hl 4 rfl) ?_
  refine lv_iconst (v := (3 : Int32)) hx hb d_L_law_136 (by decide) ?_
  refine lv_iadd hx hb d_L_law_137 ?_
  obtain ⟨h138, hw⟩ := hw
  refine va_sld hx hb hX hbl hbA hS h138 d_L_law_138 ?_
  refine lv_aload_n hx hb d_L_law_139 rfl (lv_at hl 0 rfl) ?_
  refine lv_iload hx hb d_L_law_140 (lv_at hl 4 rfl) ?_
  refine lv_iconst (v := (4 : Int32)) hx hb d_L_law_142 (by decide) ?_
  refine lv_iadd hx hb d_L_law_143 ?_
  obtain ⟨h144, hw⟩ := hw
  refine va_sld hx hb hX hbl hbA hS h144 d_L_law_144 ?_
  refine lv_aload_n hx hb d_L_law_145 rfl (lv_at hl 3 rfl) ?_
  refine x_ci (w2 := fun u146 => (wd_RUIWMo qR qU qI qW qM qo cI cZ cL u146.1 u146.2.1 u146.2.2.1 u146.2.2.2.1 xM u146.2.2.2.2)) [0, 1, 2, 3, 4, 5, 6, 7, 8, 9, 10, 11, 12, 13, 14, 15, 16, 17, 18, 19, 20, 21, 22, 23, 24, 47] [25, 26, 27, 28, 29, 30, 31, 32, 33, 34, 35, 36, 37, 38, 39, 40, 41, 42, 43, 44, 45, 46] [22, 23, 24, 25, 26, 27, 28, 29, 30, 31, 32, 33, 34, 35, 36, 37, 38, 39, 40, 41, 42, 43, 44, 45, 46, 0, 1, 2, 3, 4, 5, 6, 7, 8, 9, 10, 11, 12, 13, 14, 15, 16, 17, 18, 19, 20, 21, 47] (vx_runSW (hh := [(0, 14, 17, 13), (0, 14, 21, 15)]) (As := [.ref (qR 0), .int (xs (i4 + (1 : Int32)).toNatClampNeg), .int (xs (i4 + (2 : Int32)).toNatClampNeg), .int (xs (i4 + (3 : Int32)).toNatClampNeg), .int (xs (i4 + (4 : Int32)).toNatClampNeg), .ref qo]) (rest := []) ⟨hx, hb, hml, hown, hts⟩ (c_L_unit l hl9 sa dC dI cI cZ cL qR qU qI qW qo _ xR xU xI xW xo (xs (i4 + (1 : Int32)).toNatClampNeg) (xs (i4 + (2 : Int32)).toNatClampNeg) (xs (i4 + (3 : Int32)).toNatClampNeg) (xs (i4 + (4 : Int32)).toNatClampNeg) _ hw) (vx_cwSW 6 hts (x_gW k_176 k_177 k_25 k_178) rfl rfl rfl (by decide +kernel) ⟨Nat.le_of_ble_eq_true rfl, Nat.le_of_ble_eq_true rfl⟩) ⟨x_blindN, fun U hU hW => x_preN (isC := [0, 1, 2, 3, 4, 5, 6, 7, 8, 9, 10, 11, 12, 13, 14, 15, 16, 17, 18, 19, 20, 21, 22, 23, 24, 47]) hK hP hD hS hA hE hN rfl rfl hU hW⟩ rfl rfl hl.1 rfl (lv_room (Nat.le_of_ble_eq_true rfl)) d_L_law_146 ⟨by show _ ≤ 1078; omega, by show _ ≤ 9437; omega⟩) hP hD hS hA rfl rfl rfl (by decide) (fun _ => rfl) rfl (fun r146 u146 H locs hw hP hD hS => ?_)
  refine lv_istore (lv' := [(5, .int r146), (0, .ref b), (1, .ref (qR 0)), (2, .ref (qM 0)), (3, .ref qo), (4, .int i4)]) hx hb d_L_law_149 hl (by decide) rfl (fun ls hl => ?_)
  refine lv_aload_n hx hb d_L_law_151 rfl (lv_at hl 3 rfl) ?_
  refine lv_aload_n hx hb d_L_law_152 rfl (lv_at hl 1 rfl) ?_
  refine lv_iload hx hb d_L_law_153 (lv_at hl 5 rfl) ?_
  refine lv_iconst (v := (1 : Int32)) hx hb d_L_law_155 (by decide) ?_
  refine lv_iadd hx hb d_L_law_156 ?_
  obtain ⟨h157, hw⟩ := hw
  refine va_sld hx hb hX hbl hbA hS h157 d_L_law_157 ?_
  refine lv_aload_n hx hb d_L_law_158 rfl (lv_at hl 1 rfl) ?_
  refine lv_iload hx hb d_L_law_159 (lv_at hl 5 rfl) ?_
  refine lv_iconst (v := (2 : Int32)) hx hb d_L_law_161 (by decide) ?_
  refine lv_iadd hx hb d_L_law_162 ?_
  obtain ⟨h163, hw⟩ := hw
  refine va_sld hx hb hX hbl hbA hS h163 d_L_law_163 ?_
  refine lv_aload_n hx hb d_L_law_164 rfl (lv_at hl 1 rfl) ?_
  refine lv_iload hx hb d_L_law_165 (lv_at hl 5 rfl) ?_
  refine lv_iconst (v := (3 : Int32)) hx hb d_L_law_167 (by decide) ?_
  refine lv_iadd hx hb d_L_law_168 ?_
  obtain ⟨h169, hw⟩ := hw
  refine va_sld hx hb hX hbl hbA hS h169 d_L_law_169 ?_
  refine lv_aload_n hx hb d_L_law_170 rfl (lv_at hl 1 rfl) ?_
  refine lv_iload hx hb d_L_law_171 (lv_at hl 5 rfl) ?_
  refine lv_iconst (v := (4 : Int32)) hx hb d_L_law_173 (by decide) ?_
  refine lv_iadd hx hb d_L_law_174 ?_
  obtain ⟨h175, hw⟩ := hw
  refine va_sld hx hb hX hbl hbA hS h175 d_L_law_175 ?_
  refine x_ci (w2 := fun u176 => (wd_RUIWMo qR qU qI qW qM qo cI cZ cL u146.1 u146.2.1 u146.2.2.1 u146.2.2.2.1 u176 u146.2.2.2.2)) [25, 26, 27, 28, 29, 30, 31, 32, 33, 34, 35, 36, 37, 38, 39, 40, 41, 42, 43, 44, 45, 46] [0, 1, 2, 3, 4, 5, 6, 7, 8, 9, 10, 11, 12, 13, 14, 15, 16, 17, 18, 19, 20, 21, 22, 23, 24, 47] [0, 1, 2, 3, 4, 5, 6, 7, 8, 9, 10, 11, 12, 13, 14, 15, 16, 17, 18, 19, 20, 21, 22, 23, 24, 26, 27, 28, 29, 30, 31, 32, 33, 34, 35, 36, 37, 38, 39, 40, 41, 42, 43, 44, 45, 46, 47, 25] (va_runV (As := [.int (xs (i4 + (1 : Int32)).toNatClampNeg), .int (xs (i4 + (2 : Int32)).toNatClampNeg), .int (xs (i4 + (3 : Int32)).toNatClampNeg), .int (xs (i4 + (4 : Int32)).toNatClampNeg)]) (rest := []) ⟨hx, hb, hml, hown, hts⟩ (c_M_unit l dC dI cI cZ cL qM _ xM (xs (i4 + (1 : Int32)).toNatClampNeg) (xs (i4 + (2 : Int32)).toNatClampNeg) (xs (i4 + (3 : Int32)).toNatClampNeg) (xs (i4 + (4 : Int32)).toNatClampNeg) _ hw) (cwV 4 hts (x_gV k_662 k_663 k_664 k_30 k_665) rfl rfl rfl (by decide +kernel) ⟨Nat.le_of_ble_eq_true rfl, Nat.le_of_ble_eq_true rfl⟩) ⟨x_blind, va_recv hK hP (ci := 4) (q0 := 25) rfl rfl, fun U hU hW => x_pre (isC := [25, 26, 27, 28, 29, 30, 31, 32, 33, 34, 35, 36, 37, 38, 39, 40, 41, 42, 43, 44, 45, 46]) hK hP hD rfl rfl hU hW⟩ rfl rfl hl.1 rfl (lv_room (Nat.le_of_ble_eq_true rfl)) d_L_law_176 ⟨by show _ ≤ 1078; omega, by show _ ≤ 9437; omega⟩) hP hD hS hA rfl rfl rfl (by decide) (fun _ => rfl) rfl (fun r176 u176 H locs hw hP hD hS => ?_)
  refine lv_istore (lv' := [(6, .int r176), (5, .int r146), (0, .ref b), (1, .ref (qR 0)), (2, .ref (qM 0)), (3, .ref qo), (4, .int i4)]) hx hb d_L_law_179 hl (by decide) rfl (fun ls hl => ?_)
  refine lv_aload_n hx hb d_L_law_181 rfl (lv_at hl 4 rfl) ?_
  refine x_ci (w2 := fun _ => (wd_RUIWMo qR qU qI qW qM qo cI cZ cL u146.1 u146.2.1 u146.2.2.1 u146.2.2.2.1 u176 u146.2.2.2.2)) [25, 26, 27, 28, 29, 30, 31, 32, 33, 34, 35, 36, 37, 38, 39, 40, 41, 42, 43, 44, 45, 46] [0, 1, 2, 3, 4, 5, 6, 7, 8, 9, 10, 11, 12, 13, 14, 15, 16, 17, 18, 19, 20, 21, 22, 23, 24, 47] [0, 1, 2, 3, 4, 5, 6, 7, 8, 9, 10, 11, 12, 13, 14, 15, 16, 17, 18, 19, 20, 21, 22, 23, 24, 26, 27, 28, 29, 30, 31, 32, 33, 34, 35, 36, 37, 38, 39, 40, 41, 42, 43, 44, 45, 46, 47, 25] (va_runV (As := []) (rest := []) ⟨hx, hb, hml, hown, hts⟩ (c_M_thrown l dC dI cI cZ cL qM _ u176 _ hw) (cwV 0 hts (x_gV k_658 k_659 k_660 k_30 k_661) rfl rfl rfl (by decide +kernel) ⟨Nat.le_of_ble_eq_true rfl, Nat.le_of_ble_eq_true rfl⟩) ⟨x_blind, va_recv hK hP (ci := 4) (q0 := 25) rfl rfl, fun U hU hW => x_pre (isC := [25, 26, 27, 28, 29, 30, 31, 32, 33, 34, 35, 36, 37, 38, 39, 40, 41, 42, 43, 44, 45, 46]) hK hP hD rfl rfl hU hW⟩ rfl rfl hl.1 rfl (lv_room (Nat.le_of_ble_eq_true rfl)) d_L_law_182 ⟨by show _ ≤ 1078; omega, by show _ ≤ 9437; omega⟩) hP hD hS hA rfl rfl rfl (by decide) (fun _ => rfl) rfl (fun r182 _ H locs hw hP hD hS => ?_)
  refine lv_iload hx hb d_L_law_185 (lv_at hl 1 rfl) ?_
  refine lv_icmp_eq (tgt := 192) hx hb d_L_law_187 (by decide) (fun c187 => ?_) (fun c187 => ?_)
  · have hw := hw.1 c187
    refine lv_iload hx hb d_L_law_192 (lv_at hl 1 rfl) ?_
    refine lv_if_ne (tgt := 209) hx hb d_L_law_194 (by decide) (fun c194 => ?_) (fun c194 => ?_)
    · have hw := hw.1 c194
      refine lv_goto (tgt := 1120) hx hb d_L_law_209 (by decide) ?_
      obtain ⟨v4_1120, ev4_1120⟩ : ∃ y : Int32, y = i4 + 5 := ⟨_, rfl⟩
      have hw := hw v4_1120 ev4_1120
      refine lv_iinc (v := v4_1120) (lv' := [(4, .int v4_1120), (6, .int r176), (5, .int r146), (0, .ref b), (1, .ref (qR 0)), (2, .ref (qM 0)), (3, .ref qo)]) hx hb d_L_law_1120 hl (k := 6) rfl (by rw [ev4_1120]; rfl) (by decide) rfl (fun ls hl => ?_)
      refine lv_goto (tgt := 23) hx hb d_L_law_1123 (by decide) ?_
      refine W.widen (k := 48 + (j + 1)) (n := 1209 + 6 * (j + 1)) (by omega) (by omega) ?_
      exact ih (j + 1) rfl u146.1 u146.2.1 u146.2.2.1 u146.2.2.2.1 u176 u146.2.2.2.2 v4_1120 _ _ _ hw hP hD hS (lv_sub hl [3, 4, 5, 6, 0] rfl)
    · have hw := hw.2 c194
      refine lv_aload_n hx hb d_L_law_197 rfl (lv_at hl 5 rfl) ?_
      refine lv_iconst (v := (0 : Int32)) hx hb d_L_law_198 (by decide) ?_
      obtain ⟨h199, hw⟩ := hw
      refine va_lald hx hb hK hP 47 2 rfl rfl h199 d_L_law_199 ?_
      refine lv_iload hx hb d_L_law_200 (lv_at hl 0 rfl) ?_
      refine lv_i2l (v := r176.toInt64) hx hb d_L_law_202 rfl ?_
      refine W.lcmp hx hb d_L_law_203 ?_
      refine lv_if_eq (tgt := 209) hx hb d_L_law_204 (by decide) (fun c204 => ?_) (fun c204 => ?_)
      · have hw := hw.1 c204
        refine lv_goto (tgt := 1120) hx hb d_L_law_209 (by decide) ?_
        obtain ⟨v4_1120, ev4_1120⟩ : ∃ y : Int32, y = i4 + 5 := ⟨_, rfl⟩
        have hw := hw v4_1120 ev4_1120
        refine lv_iinc (v := v4_1120) (lv' := [(4, .int v4_1120), (6, .int r176), (5, .int r146), (0, .ref b), (1, .ref (qR 0)), (2, .ref (qM 0)), (3, .ref qo)]) hx hb d_L_law_1120 hl (k := 6) rfl (by rw [ev4_1120]; rfl) (by decide) rfl (fun ls hl => ?_)
        refine lv_goto (tgt := 23) hx hb d_L_law_1123 (by decide) ?_
        refine W.widen (k := 48 + (j + 1)) (n := 1209 + 6 * (j + 1)) (by omega) (by omega) ?_
        exact ih (j + 1) rfl u146.1 u146.2.1 u146.2.2.1 u146.2.2.2.1 u176 u146.2.2.2.2 v4_1120 _ _ _ hw hP hD hS (lv_sub hl [3, 4, 5, 6, 0] rfl)
      · have hw := hw.2 c204
        refine lv_iconst (v := (0 : Int32)) hx hb d_L_law_207 (by decide) ?_
        exact hw.elim
  · have hw := hw.2 c187
    refine lv_iconst (v := (0 : Int32)) hx hb d_L_law_190 (by decide) ?_
    exact hw.elim
def wc_law_1 (xs : Nat → Int32) (L : Nat) (rec23 : St → St → St → St → St → (Nat → Int64) → Int32 → Prop) (xR : St) (xU : St) (xI : St) (xW : St) (xM : St) (xo : (Nat → Int64)) (i4 : Int32) : Prop := vp_in (i4 + (1 : Int32)) L ∧ (vp_in (i4 + (2 : Int32)) L ∧ (wp_L_home xR xU xI xW (xs (i4 + (1 : Int32)).toNatClampNeg) (xs (i4 + (2 : Int32)).toNatClampNeg) (fun r225 u225 => (vp_in (i4 + (1 : Int32)) L ∧ (vp_in (i4 + (2 : Int32)) L ∧ (wp_M_home xM (xs (i4 + (1 : Int32)).toNatClampNeg) (xs (i4 + (2 : Int32)).toNatClampNeg) (fun u243 => (wp_M_thrown u243 (fun r247 _ => ((r247 = r225 → (∀ v4_1120 : Int32, v4_1120 = i4 + 5 → (rec23 xR u225 xI xW u243 xo v4_1120))) ∧ (¬ r247 = r225 → (False))))))))))))
set_option maxHeartbeats 8000000 in
set_option maxRecDepth 100000 in
theorem lawcase_1 {p : Program} {l : Launch} {e : Env} {s : State} {m : MethodId} {below : List Frame} {meth : Method} {c : Code} {dC : Nat → ClassId} {dI : Nat → Nat → Nat} {cI cZ cL : ClassId} {qR qU qI qW qM : Nat → Nat} {qo : Nat} {sa : Nat → Nat} {b L : Nat} {xs : Nat → Int32} (hl9 : l.stackTraces = false) {j : Nat} (hLj : j ≤ 512) (C0 : lw_At p s m meth c b L xs) (hK : va_K (dC, dI) vwCl [(cI, .int), (cZ, .boolean), (cL, .long)] s) (hE : xE "ReleaseRows" xTx sa (fun q : Nat => s.heap.size ≤ q) s.heap s) (hN : xN s) {rec23 : St → St → St → St → St → (Nat → Int64) → Int32 → Prop}
    (ih : ∀ j1 : Nat, j1 = j + 1 → ∀ (xR : St) (xU : St) (xI : St) (xW : St) (xM : St) (xo : (Nat → Int64)) (i4 : Int32) (H : Heap) (locs : List Loc) (ls : Array Slot), rec23 xR xU xI xW xM xo i4 → va_P (dC, dI) vwCl (wd_RUIWMo qR qU qI qW qM qo cI cZ cL xR xU xI xW xM xo) H → va_D (fun q : Nat => s.heap.size ≤ q) (wd_RUIWMo qR qU qI qW qM qo cI cZ cL xR xU xI xW xM xo) → va_S (fun q : Nat => s.heap.size ≤ q) s.heap H locs → lv_has ls 7 [(0, .ref b), (1, .ref (qR 0)), (2, .ref (qM 0)), (3, .ref qo), (4, .int i4)] → W p l e room_1 s m #[Value.ref b] below meth c H locs (48 + j1) (1209 + 6 * j1) (lw_Z below #[Value.ref b] s) (F0 m 23 ls []))
    : ∀ (xR : St) (xU : St) (xI : St) (xW : St) (xM : St) (xo : (Nat → Int64)) (i4 : Int32) (H : Heap) (locs : List Loc) (ls : Array Slot), wc_law_1 xs L rec23 xR xU xI xW xM xo i4 → va_P (dC, dI) vwCl (wd_RUIWMo qR qU qI qW qM qo cI cZ cL xR xU xI xW xM xo) H → va_D (fun q : Nat => s.heap.size ≤ q) (wd_RUIWMo qR qU qI qW qM qo cI cZ cL xR xU xI xW xM xo) → va_S (fun q : Nat => s.heap.size ≤ q) s.heap H locs → lv_has ls 7 [(0, .ref b), (1, .ref (qR 0)), (2, .ref (qM 0)), (3, .ref qo), (4, .int i4)] → W p l e room_1 s m #[Value.ref b] below meth c H locs (48 + j) (1209 + 6 * j) (lw_Z below #[Value.ref b] s) (F0 m 212 ls []) := by
  obtain ⟨hx, hb, hr, hml, hown, hts0, hX, hbl, hlocks, hgv⟩ := C0
  have hts : ∀ w ∈ gG, w.before #[Value.ref b] s = true := fun w h => hts0 w (List.mem_filter.mp h).1
  have hA : ∀ q : Nat, s.heap.size ≤ q → (fun q : Nat => s.heap.size ≤ q) q := fun _ h => h
  have hbA : ¬ (fun q : Nat => s.heap.size ≤ q) b := Nat.not_le.mpr hbl
  intro xR xU xI xW xM xo i4 H locs ls hw hP hD hS hl
  unfold wc_law_1 at hw
  refine lv_aload_n hx hb d_L_law_212 rfl (lv_at hl 1 rfl) ?_
  refine lv_aload_n hx hb d_L_law_213 rfl (lv_at hl 0 rfl) ?_
  refine lv_iload hx hb d_L_law_214 (lv_at hl 4 rfl) ?_
  refine lv_iconst (v := (1 : Int32)) hx hb d_L_law_216 (by decide) ?_
  refine lv_iadd hx hb d_L_law_217 ?_
  obtain ⟨h218, hw⟩ := hw
  refine va_sld hx hb hX hbl hbA hS h218 d_L_law_218 ?_
  refine lv_aload_n hx hb d_L_law_219 rfl (lv_at hl 0 rfl) ?_
  refine lv_iload hx hb d_L_law_220 (lv_at hl 4 rfl) ?_
  refine lv_iconst (v := (2 : Int32)) hx hb d_L_law_222 (by decide) ?_
  refine lv_iadd hx hb d_L_law_223 ?_
  obtain ⟨h224, hw⟩ := hw
  refine va_sld hx hb hX hbl hbA hS h224 d_L_law_224 ?_
  refine x_ci (w2 := fun u225 => (wd_RUIWMo qR qU qI qW qM qo cI cZ cL xR u225 xI xW xM xo)) [0, 1, 2, 3, 4, 5, 6, 7, 8, 9, 10, 11, 12, 13, 14, 15, 16, 17, 18, 19, 20, 21, 22, 23, 24] [25, 26, 27, 28, 29, 30, 31, 32, 33, 34, 35, 36, 37, 38, 39, 40, 41, 42, 43, 44, 45, 46, 47] [23, 24, 25, 26, 27, 28, 29, 30, 31, 32, 33, 34, 35, 36, 37, 38, 39, 40, 41, 42, 43, 44, 45, 46, 47, 0, 1, 2, 3, 4, 5, 6, 7, 8, 9, 10, 11, 12, 13, 14, 15, 16, 17, 18, 19, 20, 21, 22] (vx_runSW (hh := [(0, 6, 9, 21), (0, 6, 12, 13)]) (As := [.ref (qR 0), .int (xs (i4 + (1 : Int32)).toNatClampNeg), .int (xs (i4 + (2 : Int32)).toNatClampNeg)]) (rest := []) ⟨hx, hb, hml, hown, hts⟩ (c_L_home l hl9 sa dC dI cI cZ cL qR qU qI qW _ xR xU xI xW (xs (i4 + (1 : Int32)).toNatClampNeg) (xs (i4 + (2 : Int32)).toNatClampNeg) _ hw) (vx_cwSW 3 hts (x_gW k_356 k_357 k_25 k_358) rfl rfl rfl (by decide +kernel) ⟨Nat.le_of_ble_eq_true rfl, Nat.le_of_ble_eq_true rfl⟩) ⟨x_blindN, fun U hU hW => x_preN (isC := [0, 1, 2, 3, 4, 5, 6, 7, 8, 9, 10, 11, 12, 13, 14, 15, 16, 17, 18, 19, 20, 21, 22, 23, 24]) hK hP hD hS hA hE hN rfl rfl hU hW⟩ rfl rfl hl.1 rfl (lv_room (Nat.le_of_ble_eq_true rfl)) d_L_law_225 ⟨by show _ ≤ 1078; omega, by show _ ≤ 9437; omega⟩) hP hD hS hA rfl rfl rfl (by decide) (fun _ => rfl) rfl (fun r225 u225 H locs hw hP hD hS => ?_)
  refine lv_istore (lv' := [(5, .int r225), (0, .ref b), (1, .ref (qR 0)), (2, .ref (qM 0)), (3, .ref qo), (4, .int i4)]) hx hb d_L_law_228 hl (by decide) rfl (fun ls hl => ?_)
  refine lv_aload_n hx hb d_L_law_230 rfl (lv_at hl 3 rfl) ?_
  refine lv_aload_n hx hb d_L_law_231 rfl (lv_at hl 1 rfl) ?_
  refine lv_iload hx hb d_L_law_232 (lv_at hl 5 rfl) ?_
  refine lv_iconst (v := (1 : Int32)) hx hb d_L_law_234 (by decide) ?_
  refine lv_iadd hx hb d_L_law_235 ?_
  obtain ⟨h236, hw⟩ := hw
  refine va_sld hx hb hX hbl hbA hS h236 d_L_law_236 ?_
  refine lv_aload_n hx hb d_L_law_237 rfl (lv_at hl 1 rfl) ?_
  refine lv_iload hx hb d_L_law_238 (lv_at hl 5 rfl) ?_
  refine lv_iconst (v := (2 : Int32)) hx hb d_L_law_240 (by decide) ?_
  refine lv_iadd hx hb d_L_law_241 ?_
  obtain ⟨h242, hw⟩ := hw
  refine va_sld hx hb hX hbl hbA hS h242 d_L_law_242 ?_
  refine x_cv (w2 := fun u243 => (wd_RUIWMo qR qU qI qW qM qo cI cZ cL xR u225 xI xW u243 xo)) [25, 26, 27, 28, 29, 30, 31, 32, 33, 34, 35, 36, 37, 38, 39, 40, 41, 42, 43, 44, 45, 46] [0, 1, 2, 3, 4, 5, 6, 7, 8, 9, 10, 11, 12, 13, 14, 15, 16, 17, 18, 19, 20, 21, 22, 23, 24, 47] [0, 1, 2, 3, 4, 5, 6, 7, 8, 9, 10, 11, 12, 13, 14, 15, 16, 17, 18, 19, 20, 21, 22, 23, 24, 26, 27, 28, 29, 30, 31, 32, 33, 34, 35, 36, 37, 38, 39, 40, 41, 42, 43, 44, 45, 46, 47, 25] (va_runV (As := [.int (xs (i4 + (1 : Int32)).toNatClampNeg), .int (xs (i4 + (2 : Int32)).toNatClampNeg)]) (rest := []) ⟨hx, hb, hml, hown, hts⟩ (c_M_home l dC dI cI cZ cL qM _ xM (xs (i4 + (1 : Int32)).toNatClampNeg) (xs (i4 + (2 : Int32)).toNatClampNeg) _ hw) (cwV 2 hts (x_gV k_714 k_715 k_716 k_30 k_717) rfl rfl rfl (by decide +kernel) ⟨Nat.le_of_ble_eq_true rfl, Nat.le_of_ble_eq_true rfl⟩) ⟨x_blind, va_recv hK hP (ci := 4) (q0 := 25) rfl rfl, fun U hU hW => x_pre (isC := [25, 26, 27, 28, 29, 30, 31, 32, 33, 34, 35, 36, 37, 38, 39, 40, 41, 42, 43, 44, 45, 46]) hK hP hD rfl rfl hU hW⟩ rfl rfl hl.1 rfl (lv_room (Nat.le_of_ble_eq_true rfl)) d_L_law_243 ⟨by show _ ≤ 1078; omega, by show _ ≤ 9437; omega⟩) hP hD hS hA rfl rfl rfl (by decide) (fun _ => rfl) rfl (fun u243 H locs hw hP hD hS => ?_)
  refine lv_aload_n hx hb d_L_law_246 rfl (lv_at hl 3 rfl) ?_
  refine x_ci (w2 := fun _ => (wd_RUIWMo qR qU qI qW qM qo cI cZ cL xR u225 xI xW u243 xo)) [25, 26, 27, 28, 29, 30, 31, 32, 33, 34, 35, 36, 37, 38, 39, 40, 41, 42, 43, 44, 45, 46] [0, 1, 2, 3, 4, 5, 6, 7, 8, 9, 10, 11, 12, 13, 14, 15, 16, 17, 18, 19, 20, 21, 22, 23, 24, 47] [0, 1, 2, 3, 4, 5, 6, 7, 8, 9, 10, 11, 12, 13, 14, 15, 16, 17, 18, 19, 20, 21, 22, 23, 24, 26, 27, 28, 29, 30, 31, 32, 33, 34, 35, 36, 37, 38, 39, 40, 41, 42, 43, 44, 45, 46, 47, 25] (va_runV (As := []) (rest := []) ⟨hx, hb, hml, hown, hts⟩ (c_M_thrown l dC dI cI cZ cL qM _ u243 _ hw) (cwV 0 hts (x_gV k_658 k_659 k_660 k_30 k_661) rfl rfl rfl (by decide +kernel) ⟨Nat.le_of_ble_eq_true rfl, Nat.le_of_ble_eq_true rfl⟩) ⟨x_blind, va_recv hK hP (ci := 4) (q0 := 25) rfl rfl, fun U hU hW => x_pre (isC := [25, 26, 27, 28, 29, 30, 31, 32, 33, 34, 35, 36, 37, 38, 39, 40, 41, 42, 43, 44, 45, 46]) hK hP hD rfl rfl hU hW⟩ rfl rfl hl.1 rfl (lv_room (Nat.le_of_ble_eq_true rfl)) d_L_law_247 ⟨by show _ ≤ 1078; omega, by show _ ≤ 9437; omega⟩) hP hD hS hA rfl rfl rfl (by decide) (fun _ => rfl) rfl (fun r247 _ H locs hw hP hD hS => ?_)
  refine lv_iload hx hb d_L_law_250 (lv_at hl 0 rfl) ?_
  refine lv_icmp_eq (tgt := 257) hx hb d_L_law_252 (by decide) (fun c252 => ?_) (fun c252 => ?_)
  · have hw := hw.1 c252
    refine lv_goto (tgt := 1120) hx hb d_L_law_257 (by decide) ?_
    obtain ⟨v4_1120, ev4_1120⟩ : ∃ y : Int32, y = i4 + 5 := ⟨_, rfl⟩
    have hw := hw v4_1120 ev4_1120
    refine lv_iinc (v := v4_1120) (lv' := [(4, .int v4_1120), (5, .int r225), (0, .ref b), (1, .ref (qR 0)), (2, .ref (qM 0)), (3, .ref qo)]) hx hb d_L_law_1120 hl (k := 5) rfl (by rw [ev4_1120]; rfl) (by decide) rfl (fun ls hl => ?_)
    refine lv_goto (tgt := 23) hx hb d_L_law_1123 (by decide) ?_
    refine W.widen (k := 48 + (j + 1)) (n := 1209 + 6 * (j + 1)) (by omega) (by omega) ?_
    exact ih (j + 1) rfl xR u225 xI xW u243 xo v4_1120 _ _ _ hw hP hD hS (lv_sub hl [2, 3, 4, 5, 0] rfl)
  · have hw := hw.2 c252
    refine lv_iconst (v := (0 : Int32)) hx hb d_L_law_255 (by decide) ?_
    exact hw.elim
def wc_law_2 (xs : Nat → Int32) (L : Nat) (rec23 : St → St → St → St → St → (Nat → Int64) → Int32 → Prop) (xR : St) (xU : St) (xI : St) (xW : St) (xM : St) (xo : (Nat → Int64)) (i4 : Int32) : Prop := vp_in (i4 + (1 : Int32)) L ∧ (wp_L_span xR xU xI xW (xs (i4 + (1 : Int32)).toNatClampNeg) (fun r267 u267 => (vp_in (i4 + (1 : Int32)) L ∧ (wp_M_span xM (xs (i4 + (1 : Int32)).toNatClampNeg) (fun u279 => (wp_M_thrown u279 (fun r283 _ => ((r283 = r267 → (∀ v4_1120 : Int32, v4_1120 = i4 + 5 → (rec23 u267 xU xI xW u279 xo v4_1120))) ∧ (¬ r283 = r267 → (False))))))))))
set_option maxHeartbeats 8000000 in
set_option maxRecDepth 100000 in
theorem lawcase_2 {p : Program} {l : Launch} {e : Env} {s : State} {m : MethodId} {below : List Frame} {meth : Method} {c : Code} {dC : Nat → ClassId} {dI : Nat → Nat → Nat} {cI cZ cL : ClassId} {qR qU qI qW qM : Nat → Nat} {qo : Nat} {sa : Nat → Nat} {b L : Nat} {xs : Nat → Int32} (hl9 : l.stackTraces = false) {j : Nat} (hLj : j ≤ 512) (C0 : lw_At p s m meth c b L xs) (hK : va_K (dC, dI) vwCl [(cI, .int), (cZ, .boolean), (cL, .long)] s) (hE : xE "ReleaseRows" xTx sa (fun q : Nat => s.heap.size ≤ q) s.heap s) (hN : xN s) {rec23 : St → St → St → St → St → (Nat → Int64) → Int32 → Prop}
    (ih : ∀ j1 : Nat, j1 = j + 1 → ∀ (xR : St) (xU : St) (xI : St) (xW : St) (xM : St) (xo : (Nat → Int64)) (i4 : Int32) (H : Heap) (locs : List Loc) (ls : Array Slot), rec23 xR xU xI xW xM xo i4 → va_P (dC, dI) vwCl (wd_RUIWMo qR qU qI qW qM qo cI cZ cL xR xU xI xW xM xo) H → va_D (fun q : Nat => s.heap.size ≤ q) (wd_RUIWMo qR qU qI qW qM qo cI cZ cL xR xU xI xW xM xo) → va_S (fun q : Nat => s.heap.size ≤ q) s.heap H locs → lv_has ls 7 [(0, .ref b), (1, .ref (qR 0)), (2, .ref (qM 0)), (3, .ref qo), (4, .int i4)] → W p l e room_1 s m #[Value.ref b] below meth c H locs (48 + j1) (1209 + 6 * j1) (lw_Z below #[Value.ref b] s) (F0 m 23 ls []))
    : ∀ (xR : St) (xU : St) (xI : St) (xW : St) (xM : St) (xo : (Nat → Int64)) (i4 : Int32) (H : Heap) (locs : List Loc) (ls : Array Slot), wc_law_2 xs L rec23 xR xU xI xW xM xo i4 → va_P (dC, dI) vwCl (wd_RUIWMo qR qU qI qW qM qo cI cZ cL xR xU xI xW xM xo) H → va_D (fun q : Nat => s.heap.size ≤ q) (wd_RUIWMo qR qU qI qW qM qo cI cZ cL xR xU xI xW xM xo) → va_S (fun q : Nat => s.heap.size ≤ q) s.heap H locs → lv_has ls 7 [(0, .ref b), (1, .ref (qR 0)), (2, .ref (qM 0)), (3, .ref qo), (4, .int i4)] → W p l e room_1 s m #[Value.ref b] below meth c H locs (48 + j) (1209 + 6 * j) (lw_Z below #[Value.ref b] s) (F0 m 260 ls []) := by
  obtain ⟨hx, hb, hr, hml, hown, hts0, hX, hbl, hlocks, hgv⟩ := C0
  have hts : ∀ w ∈ gG, w.before #[Value.ref b] s = true := fun w h => hts0 w (List.mem_filter.mp h).1
  have hA : ∀ q : Nat, s.heap.size ≤ q → (fun q : Nat => s.heap.size ≤ q) q := fun _ h => h
  have hbA : ¬ (fun q : Nat => s.heap.size ≤ q) b := Nat.not_le.mpr hbl
  intro xR xU xI xW xM xo i4 H locs ls hw hP hD hS hl
  unfold wc_law_2 at hw
  refine lv_aload_n hx hb d_L_law_260 rfl (lv_at hl 1 rfl) ?_
  refine lv_aload_n hx hb d_L_law_261 rfl (lv_at hl 0 rfl) ?_
  refine lv_iload hx hb d_L_law_262 (lv_at hl 4 rfl) ?_
  refine lv_iconst (v := (1 : Int32)) hx hb d_L_law_264 (by decide) ?_
  refine lv_iadd hx hb d_L_law_265 ?_
  obtain ⟨h266, hw⟩ := hw
  refine va_sld hx hb hX hbl hbA hS h266 d_L_law_266 ?_
  refine x_ci (w2 := fun u267 => (wd_RUIWMo qR qU qI qW qM qo cI cZ cL u267 xU xI xW xM xo)) [0, 1, 2, 3, 4, 5, 6, 7, 8, 9, 10, 11, 12, 13, 14, 15, 16, 17, 18, 19, 20, 21, 22, 23, 24] [25, 26, 27, 28, 29, 30, 31, 32, 33, 34, 35, 36, 37, 38, 39, 40, 41, 42, 43, 44, 45, 46, 47] [23, 24, 25, 26, 27, 28, 29, 30, 31, 32, 33, 34, 35, 36, 37, 38, 39, 40, 41, 42, 43, 44, 45, 46, 47, 0, 1, 2, 3, 4, 5, 6, 7, 8, 9, 10, 11, 12, 13, 14, 15, 16, 17, 18, 19, 20, 21, 22] (vx_runSW (hh := [(0, 5, 8, 13)]) (As := [.ref (qR 0), .int (xs (i4 + (1 : Int32)).toNatClampNeg)]) (rest := []) ⟨hx, hb, hml, hown, hts⟩ (c_L_span l hl9 sa dC dI cI cZ cL qR qU qI qW _ xR xU xI xW (xs (i4 + (1 : Int32)).toNatClampNeg) _ hw) (vx_cwSW 2 hts (x_gW k_387 k_388 k_25 k_389) rfl rfl rfl (by decide +kernel) ⟨Nat.le_of_ble_eq_true rfl, Nat.le_of_ble_eq_true rfl⟩) ⟨x_blindN, fun U hU hW => x_preN (isC := [0, 1, 2, 3, 4, 5, 6, 7, 8, 9, 10, 11, 12, 13, 14, 15, 16, 17, 18, 19, 20, 21, 22, 23, 24]) hK hP hD hS hA hE hN rfl rfl hU hW⟩ rfl rfl hl.1 rfl (lv_room (Nat.le_of_ble_eq_true rfl)) d_L_law_267 ⟨by show _ ≤ 1078; omega, by show _ ≤ 9437; omega⟩) hP hD hS hA rfl rfl rfl (by decide) (fun _ => rfl) rfl (fun r267 u267 H locs hw hP hD hS => ?_)
  refine lv_istore (lv' := [(5, .int r267), (0, .ref b), (1, .ref (qR 0)), (2, .ref (qM 0)), (3, .ref qo), (4, .int i4)]) hx hb d_L_law_270 hl (by decide) rfl (fun ls hl => ?_)
  refine lv_aload_n hx hb d_L_law_272 rfl (lv_at hl 3 rfl) ?_
  refine lv_aload_n hx hb d_L_law_273 rfl (lv_at hl 1 rfl) ?_
  refine lv_iload hx hb d_L_law_274 (lv_at hl 5 rfl) ?_
  refine lv_iconst (v := (1 : Int32)) hx hb d_L_law_276 (by decide) ?_
  refine lv_iadd hx hb d_L_law_277 ?_
  obtain ⟨h278, hw⟩ := hw
  refine va_sld hx hb hX hbl hbA hS h278 d_L_law_278 ?_
  refine x_cv (w2 := fun u279 => (wd_RUIWMo qR qU qI qW qM qo cI cZ cL u267 xU xI xW u279 xo)) [25, 26, 27, 28, 29, 30, 31, 32, 33, 34, 35, 36, 37, 38, 39, 40, 41, 42, 43, 44, 45, 46] [0, 1, 2, 3, 4, 5, 6, 7, 8, 9, 10, 11, 12, 13, 14, 15, 16, 17, 18, 19, 20, 21, 22, 23, 24, 47] [0, 1, 2, 3, 4, 5, 6, 7, 8, 9, 10, 11, 12, 13, 14, 15, 16, 17, 18, 19, 20, 21, 22, 23, 24, 26, 27, 28, 29, 30, 31, 32, 33, 34, 35, 36, 37, 38, 39, 40, 41, 42, 43, 44, 45, 46, 47, 25] (va_runV (As := [.int (xs (i4 + (1 : Int32)).toNatClampNeg)]) (rest := []) ⟨hx, hb, hml, hown, hts⟩ (c_M_span l dC dI cI cZ cL qM _ xM (xs (i4 + (1 : Int32)).toNatClampNeg) _ hw) (cwV 1 hts (x_gV k_722 k_723 k_724 k_30 k_725) rfl rfl rfl (by decide +kernel) ⟨Nat.le_of_ble_eq_true rfl, Nat.le_of_ble_eq_true rfl⟩) ⟨x_blind, va_recv hK hP (ci := 4) (q0 := 25) rfl rfl, fun U hU hW => x_pre (isC := [25, 26, 27, 28, 29, 30, 31, 32, 33, 34, 35, 36, 37, 38, 39, 40, 41, 42, 43, 44, 45, 46]) hK hP hD rfl rfl hU hW⟩ rfl rfl hl.1 rfl (lv_room (Nat.le_of_ble_eq_true rfl)) d_L_law_279 ⟨by show _ ≤ 1078; omega, by show _ ≤ 9437; omega⟩) hP hD hS hA rfl rfl rfl (by decide) (fun _ => rfl) rfl (fun u279 H locs hw hP hD hS => ?_)
  refine lv_aload_n hx hb d_L_law_282 rfl (lv_at hl 3 rfl) ?_
  refine x_ci (w2 := fun _ => (wd_RUIWMo qR qU qI qW qM qo cI cZ cL u267 xU xI xW u279 xo)) [25, 26, 27, 28, 29, 30, 31, 32, 33, 34, 35, 36, 37, 38, 39, 40, 41, 42, 43, 44, 45, 46] [0, 1, 2, 3, 4, 5, 6, 7, 8, 9, 10, 11, 12, 13, 14, 15, 16, 17, 18, 19, 20, 21, 22, 23, 24, 47] [0, 1, 2, 3, 4, 5, 6, 7, 8, 9, 10, 11, 12, 13, 14, 15, 16, 17, 18, 19, 20, 21, 22, 23, 24, 26, 27, 28, 29, 30, 31, 32, 33, 34, 35, 36, 37, 38, 39, 40, 41, 42, 43, 44, 45, 46, 47, 25] (va_runV (As := []) (rest := []) ⟨hx, hb, hml, hown, hts⟩ (c_M_thrown l dC dI cI cZ cL qM _ u279 _ hw) (cwV 0 hts (x_gV k_658 k_659 k_660 k_30 k_661) rfl rfl rfl (by decide +kernel) ⟨Nat.le_of_ble_eq_true rfl, Nat.le_of_ble_eq_true rfl⟩) ⟨x_blind, va_recv hK hP (ci := 4) (q0 := 25) rfl rfl, fun U hU hW => x_pre (isC := [25, 26, 27, 28, 29, 30, 31, 32, 33, 34, 35, 36, 37, 38, 39, 40, 41, 42, 43, 44, 45, 46]) hK hP hD rfl rfl hU hW⟩ rfl rfl hl.1 rfl (lv_room (Nat.le_of_ble_eq_true rfl)) d_L_law_283 ⟨by show _ ≤ 1078; omega, by show _ ≤ 9437; omega⟩) hP hD hS hA rfl rfl rfl (by decide) (fun _ => rfl) rfl (fun r283 _ H locs hw hP hD hS => ?_)
  refine lv_iload hx hb d_L_law_286 (lv_at hl 0 rfl) ?_
  refine lv_icmp_eq (tgt := 293) hx hb d_L_law_288 (by decide) (fun c288 => ?_) (fun c288 => ?_)
  · have hw := hw.1 c288
    refine lv_goto (tgt := 1120) hx hb d_L_law_293 (by decide) ?_
    obtain ⟨v4_1120, ev4_1120⟩ : ∃ y : Int32, y = i4 + 5 := ⟨_, rfl⟩
    have hw := hw v4_1120 ev4_1120
    refine lv_iinc (v := v4_1120) (lv' := [(4, .int v4_1120), (5, .int r267), (0, .ref b), (1, .ref (qR 0)), (2, .ref (qM 0)), (3, .ref qo)]) hx hb d_L_law_1120 hl (k := 5) rfl (by rw [ev4_1120]; rfl) (by decide) rfl (fun ls hl => ?_)
    refine lv_goto (tgt := 23) hx hb d_L_law_1123 (by decide) ?_
    refine W.widen (k := 48 + (j + 1)) (n := 1209 + 6 * (j + 1)) (by omega) (by omega) ?_
    exact ih (j + 1) rfl u267 xU xI xW u279 xo v4_1120 _ _ _ hw hP hD hS (lv_sub hl [2, 3, 4, 5, 0] rfl)
  · have hw := hw.2 c288
    refine lv_iconst (v := (0 : Int32)) hx hb d_L_law_291 (by decide) ?_
    exact hw.elim
def wc_law_3 (xs : Nat → Int32) (L : Nat) (rec23 : St → St → St → St → St → (Nat → Int64) → Int32 → Prop) (xR : St) (xU : St) (xI : St) (xW : St) (xM : St) (xo : (Nat → Int64)) (i4 : Int32) : Prop := vp_in (i4 + (1 : Int32)) L ∧ (vp_in (i4 + (2 : Int32)) L ∧ (((xs (i4 + (2 : Int32)).toNatClampNeg) = 0 → (wp_L_call xR xU xI xW xo (xs (i4 + (1 : Int32)).toNatClampNeg) (0 : Int32) (fun r318 u318 => (vp_in (i4 + (1 : Int32)) L ∧ (vp_in (i4 + (2 : Int32)) L ∧ (((xs (i4 + (2 : Int32)).toNatClampNeg) = 0 → (wp_M_call xM (xs (i4 + (1 : Int32)).toNatClampNeg) (0 : Int32) (fun r344 u344 => (wp_M_thrown u344 (fun r350 _ => ((r350 = r318 → ((¬ r318 = 0 → (∀ v4_1120 : Int32, v4_1120 = i4 + 5 → (rec23 u318.1 u318.2.1 u318.2.2.1 u318.2.2.2.1 u344 u318.2.2.2.2 v4_1120))) ∧ (r318 = 0 → (vp_in (0 : Int32) 1 ∧ (((lg_cmp (u318.2.2.2.2 (0 : Int32).toNatClampNeg) r344.toInt64) = 0 → (∀ v4_1120 : Int32, v4_1120 = i4 + 5 → (rec23 u318.1 u318.2.1 u318.2.2.1 u318.2.2.2.1 u344 u318.2.2.2.2 v4_1120))) ∧ (¬ (lg_cmp (u318.2.2.2.2 (0 : Int32).toNatClampNeg) r344.toInt64) = 0 → (False))))))) ∧ (¬ r350 = r318 → (False)))))))) ∧ (¬ (xs (i4 + (2 : Int32)).toNatClampNeg) = 0 → (wp_M_call xM (xs (i4 + (1 : Int32)).toNatClampNeg) (1 : Int32) (fun r344 u344 => (wp_M_thrown u344 (fun r350 _ => ((r350 = r318 → ((¬ r318 = 0 → (∀ v4_1120 : Int32, v4_1120 = i4 + 5 → (rec23 u318.1 u318.2.1 u318.2.2.1 u318.2.2.2.1 u344 u318.2.2.2.2 v4_1120))) ∧ (r318 = 0 → (vp_in (0 : Int32) 1 ∧ (((lg_cmp (u318.2.2.2.2 (0 : Int32).toNatClampNeg) r344.toInt64) = 0 → (∀ v4_1120 : Int32, v4_1120 = i4 + 5 → (rec23 u318.1 u318.2.1 u318.2.2.1 u318.2.2.2.1 u344 u318.2.2.2.2 v4_1120))) ∧ (¬ (lg_cmp (u318.2.2.2.2 (0 : Int32).toNatClampNeg) r344.toInt64) = 0 → (False))))))) ∧ (¬ r350 = r318 → (False)))))))))))))) ∧ (¬ (xs (i4 + (2 : Int32)).toNatClampNeg) = 0 → (wp_L_call xR xU xI xW xo (xs (i4 + (1 : Int32)).toNatClampNeg) (1 : Int32) (fun r318 u318 => (vp_in (i4 + (1 : Int32)) L ∧ (vp_in (i4 + (2 : Int32)) L ∧ (((xs (i4 + (2 : Int32)).toNatClampNeg) = 0 → (wp_M_call xM (xs (i4 + (1 : Int32)).toNatClampNeg) (0 : Int32) (fun r344 u344 => (wp_M_thrown u344 (fun r350 _ => ((r350 = r318 → ((¬ r318 = 0 → (∀ v4_1120 : Int32, v4_1120 = i4 + 5 → (rec23 u318.1 u318.2.1 u318.2.2.1 u318.2.2.2.1 u344 u318.2.2.2.2 v4_1120))) ∧ (r318 = 0 → (vp_in (0 : Int32) 1 ∧ (((lg_cmp (u318.2.2.2.2 (0 : Int32).toNatClampNeg) r344.toInt64) = 0 → (∀ v4_1120 : Int32, v4_1120 = i4 + 5 → (rec23 u318.1 u318.2.1 u318.2.2.1 u318.2.2.2.1 u344 u318.2.2.2.2 v4_1120))) ∧ (¬ (lg_cmp (u318.2.2.2.2 (0 : Int32).toNatClampNeg) r344.toInt64) = 0 → (False))))))) ∧ (¬ r350 = r318 → (False)))))))) ∧ (¬ (xs (i4 + (2 : Int32)).toNatClampNeg) = 0 → (wp_M_call xM (xs (i4 + (1 : Int32)).toNatClampNeg) (1 : Int32) (fun r344 u344 => (wp_M_thrown u344 (fun r350 _ => ((r350 = r318 → ((¬ r318 = 0 → (∀ v4_1120 : Int32, v4_1120 = i4 + 5 → (rec23 u318.1 u318.2.1 u318.2.2.1 u318.2.2.2.1 u344 u318.2.2.2.2 v4_1120))) ∧ (r318 = 0 → (vp_in (0 : Int32) 1 ∧ (((lg_cmp (u318.2.2.2.2 (0 : Int32).toNatClampNeg) r344.toInt64) = 0 → (∀ v4_1120 : Int32, v4_1120 = i4 + 5 → (rec23 u318.1 u318.2.1 u318.2.2.1 u318.2.2.2.1 u344 u318.2.2.2.2 v4_1120))) ∧ (¬ (lg_cmp (u318.2.2.2.2 (0 : Int32).toNatClampNeg) r344.toInt64) = 0 → (False))))))) ∧ (¬ r350 = r318 → (False))))))))))))))))
set_option maxHeartbeats 8000000 in
set_option maxRecDepth 100000 in
theorem lawcase_3 {p : Program} {l : Launch} {e : Env} {s : State} {m : MethodId} {below : List Frame} {meth : Method} {c : Code} {dC : Nat → ClassId} {dI : Nat → Nat → Nat} {cI cZ cL : ClassId} {qR qU qI qW qM : Nat → Nat} {qo : Nat} {sa : Nat → Nat} {b L : Nat} {xs : Nat → Int32} (hl9 : l.stackTraces = false) {j : Nat} (hLj : j ≤ 512) (C0 : lw_At p s m meth c b L xs) (hK : va_K (dC, dI) vwCl [(cI, .int), (cZ, .boolean), (cL, .long)] s) (hE : xE "ReleaseRows" xTx sa (fun q : Nat => s.heap.size ≤ q) s.heap s) (hN : xN s) {rec23 : St → St → St → St → St → (Nat → Int64) → Int32 → Prop}
    (ih : ∀ j1 : Nat, j1 = j + 1 → ∀ (xR : St) (xU : St) (xI : St) (xW : St) (xM : St) (xo : (Nat → Int64)) (i4 : Int32) (H : Heap) (locs : List Loc) (ls : Array Slot), rec23 xR xU xI xW xM xo i4 → va_P (dC, dI) vwCl (wd_RUIWMo qR qU qI qW qM qo cI cZ cL xR xU xI xW xM xo) H → va_D (fun q : Nat => s.heap.size ≤ q) (wd_RUIWMo qR qU qI qW qM qo cI cZ cL xR xU xI xW xM xo) → va_S (fun q : Nat => s.heap.size ≤ q) s.heap H locs → lv_has ls 7 [(0, .ref b), (1, .ref (qR 0)), (2, .ref (qM 0)), (3, .ref qo), (4, .int i4)] → W p l e room_1 s m #[Value.ref b] below meth c H locs (48 + j1) (1209 + 6 * j1) (lw_Z below #[Value.ref b] s) (F0 m 23 ls []))
    : ∀ (xR : St) (xU : St) (xI : St) (xW : St) (xM : St) (xo : (Nat → Int64)) (i4 : Int32) (H : Heap) (locs : List Loc) (ls : Array Slot), wc_law_3 xs L rec23 xR xU xI xW xM xo i4 → va_P (dC, dI) vwCl (wd_RUIWMo qR qU qI qW qM qo cI cZ cL xR xU xI xW xM xo) H → va_D (fun q : Nat => s.heap.size ≤ q) (wd_RUIWMo qR qU qI qW qM qo cI cZ cL xR xU xI xW xM xo) → va_S (fun q : Nat => s.heap.size ≤ q) s.heap H locs → lv_has ls 7 [(0, .ref b), (1, .ref (qR 0)), (2, .ref (qM 0)), (3, .ref qo), (4, .int i4)] → W p l e room_1 s m #[Value.ref b] below meth c H locs (48 + j) (1209 + 6 * j) (lw_Z below #[Value.ref b] s) (F0 m 296 ls []) := by
  obtain ⟨hx, hb, hr, hml, hown, hts0, hX, hbl, hlocks, hgv⟩ := C0
  have hts : ∀ w ∈ gG, w.before #[Value.ref b] s = true := fun w h => hts0 w (List.mem_filter.mp h).1
  have hA : ∀ q : Nat, s.heap.size ≤ q → (fun q : Nat => s.heap.size ≤ q) q := fun _ h => h
  have hbA : ¬ (fun q : Nat => s.heap.size ≤ q) b := Nat.not_le.mpr hbl
  intro xR xU xI xW xM xo i4 H locs ls hw hP hD hS hl
  unfold wc_law_3 at hw
  refine lv_aload_n hx hb d_L_law_296 rfl (lv_at hl 1 rfl) ?_
  refine lv_aload_n hx hb d_L_law_297 rfl (lv_at hl 0 rfl) ?_
  refine lv_iload hx hb d_L_law_298 (lv_at hl 4 rfl) ?_
  refine lv_iconst (v := (1 : Int32)) hx hb d_L_law_300 (by decide) ?_
  refine lv_iadd hx hb d_L_law_301 ?_
  obtain ⟨h302, hw⟩ := hw
  refine va_sld hx hb hX hbl hbA hS h302 d_L_law_302 ?_
  refine lv_aload_n hx hb d_L_law_303 rfl (lv_at hl 0 rfl) ?_
  refine lv_iload hx hb d_L_law_304 (lv_at hl 4 rfl) ?_
  refine lv_iconst (v := (2 : Int32)) hx hb d_L_law_306 (by decide) ?_
  refine lv_iadd hx hb d_L_law_307 ?_
  obtain ⟨h308, hw⟩ := hw
  refine va_sld hx hb hX hbl hbA hS h308 d_L_law_308 ?_
  refine lv_if_eq (tgt := 316) hx hb d_L_law_309 (by decide) (fun c309 => ?_) (fun c309 => ?_)
  · have hw := hw.1 c309
    refine lv_iconst (v := (0 : Int32)) hx hb d_L_law_316 (by decide) ?_
    refine lv_aload_n hx hb d_L_law_317 rfl (lv_at hl 3 rfl) ?_
    refine x_ci (w2 := fun u318 => (wd_RUIWMo qR qU qI qW qM qo cI cZ cL u318.1 u318.2.1 u318.2.2.1 u318.2.2.2.1 xM u318.2.2.2.2)) [0, 1, 2, 3, 4, 5, 6, 7, 8, 9, 10, 11, 12, 13, 14, 15, 16, 17, 18, 19, 20, 21, 22, 23, 24, 47] [25, 26, 27, 28, 29, 30, 31, 32, 33, 34, 35, 36, 37, 38, 39, 40, 41, 42, 43, 44, 45, 46] [22, 23, 24, 25, 26, 27, 28, 29, 30, 31, 32, 33, 34, 35, 36, 37, 38, 39, 40, 41, 42, 43, 44, 45, 46, 0, 1, 2, 3, 4, 5, 6, 7, 8, 9, 10, 11, 12, 13, 14, 15, 16, 17, 18, 19, 20, 21, 47] (vx_runSW (hh := [(0, 10, 13, 13), (0, 10, 17, 15)]) (As := [.ref (qR 0), .int (xs (i4 + (1 : Int32)).toNatClampNeg), .int (0 : Int32), .ref qo]) (rest := []) ⟨hx, hb, hml, hown, hts⟩ (c_L_call l hl9 sa dC dI cI cZ cL qR qU qI qW qo _ xR xU xI xW xo (xs (i4 + (1 : Int32)).toNatClampNeg) (0 : Int32) _ hw) (vx_cwSW 4 hts (x_gW k_395 k_396 k_25 k_397) rfl rfl rfl (by decide +kernel) ⟨Nat.le_of_ble_eq_true rfl, Nat.le_of_ble_eq_true rfl⟩) ⟨x_blindN, fun U hU hW => x_preN (isC := [0, 1, 2, 3, 4, 5, 6, 7, 8, 9, 10, 11, 12, 13, 14, 15, 16, 17, 18, 19, 20, 21, 22, 23, 24, 47]) hK hP hD hS hA hE hN rfl rfl hU hW⟩ rfl rfl hl.1 rfl (lv_room (Nat.le_of_ble_eq_true rfl)) d_L_law_318 ⟨by show _ ≤ 1078; omega, by show _ ≤ 9437; omega⟩) hP hD hS hA rfl rfl rfl (by decide) (fun _ => rfl) rfl (fun r318 u318 H locs hw hP hD hS => ?_)
    refine lv_istore (lv' := [(5, .int r318), (0, .ref b), (1, .ref (qR 0)), (2, .ref (qM 0)), (3, .ref qo), (4, .int i4)]) hx hb d_L_law_321 hl (by decide) rfl (fun ls hl => ?_)
    refine lv_aload_n hx hb d_L_law_323 rfl (lv_at hl 3 rfl) ?_
    refine lv_aload_n hx hb d_L_law_324 rfl (lv_at hl 1 rfl) ?_
    refine lv_iload hx hb d_L_law_325 (lv_at hl 5 rfl) ?_
    refine lv_iconst (v := (1 : Int32)) hx hb d_L_law_327 (by decide) ?_
    refine lv_iadd hx hb d_L_law_328 ?_
    obtain ⟨h329, hw⟩ := hw
    refine va_sld hx hb hX hbl hbA hS h329 d_L_law_329 ?_
    refine lv_aload_n hx hb d_L_law_330 rfl (lv_at hl 1 rfl) ?_
    refine lv_iload hx hb d_L_law_331 (lv_at hl 5 rfl) ?_
    refine lv_iconst (v := (2 : Int32)) hx hb d_L_law_333 (by decide) ?_
    refine lv_iadd hx hb d_L_law_334 ?_
    obtain ⟨h335, hw⟩ := hw
    refine va_sld hx hb hX hbl hbA hS h335 d_L_law_335 ?_
    refine lv_if_eq (tgt := 343) hx hb d_L_law_336 (by decide) (fun c336 => ?_) (fun c336 => ?_)
    · have hw := hw.1 c336
      refine lv_iconst (v := (0 : Int32)) hx hb d_L_law_343 (by decide) ?_
      refine x_ci (w2 := fun u344 => (wd_RUIWMo qR qU qI qW qM qo cI cZ cL u318.1 u318.2.1 u318.2.2.1 u318.2.2.2.1 u344 u318.2.2.2.2)) [25, 26, 27, 28, 29, 30, 31, 32, 33, 34, 35, 36, 37, 38, 39, 40, 41, 42, 43, 44, 45, 46] [0, 1, 2, 3, 4, 5, 6, 7, 8, 9, 10, 11, 12, 13, 14, 15, 16, 17, 18, 19, 20, 21, 22, 23, 24, 47] [0, 1, 2, 3, 4, 5, 6, 7, 8, 9, 10, 11, 12, 13, 14, 15, 16, 17, 18, 19, 20, 21, 22, 23, 24, 26, 27, 28, 29, 30, 31, 32, 33, 34, 35, 36, 37, 38, 39, 40, 41, 42, 43, 44, 45, 46, 47, 25] (va_runV (As := [.int (xs (i4 + (1 : Int32)).toNatClampNeg), .int (0 : Int32)]) (rest := []) ⟨hx, hb, hml, hown, hts⟩ (c_M_call l dC dI cI cZ cL qM _ xM (xs (i4 + (1 : Int32)).toNatClampNeg) (0 : Int32) _ hw) (cwV 2 hts (x_gV k_732 k_733 k_734 k_30 k_735) rfl rfl rfl (by decide +kernel) ⟨Nat.le_of_ble_eq_true rfl, Nat.le_of_ble_eq_true rfl⟩) ⟨x_blind, va_recv hK hP (ci := 4) (q0 := 25) rfl rfl, fun U hU hW => x_pre (isC := [25, 26, 27, 28, 29, 30, 31, 32, 33, 34, 35, 36, 37, 38, 39, 40, 41, 42, 43, 44, 45, 46]) hK hP hD rfl rfl hU hW⟩ rfl rfl hl.1 rfl (lv_room (Nat.le_of_ble_eq_true rfl)) d_L_law_344 ⟨by show _ ≤ 1078; omega, by show _ ≤ 9437; omega⟩) hP hD hS hA rfl rfl rfl (by decide) (fun _ => rfl) rfl (fun r344 u344 H locs hw hP hD hS => ?_)
      refine lv_istore (lv' := [(6, .int r344), (5, .int r318), (0, .ref b), (1, .ref (qR 0)), (2, .ref (qM 0)), (3, .ref qo), (4, .int i4)]) hx hb d_L_law_347 hl (by decide) rfl (fun ls hl => ?_)
      refine lv_aload_n hx hb d_L_law_349 rfl (lv_at hl 4 rfl) ?_
      refine x_ci (w2 := fun _ => (wd_RUIWMo qR qU qI qW qM qo cI cZ cL u318.1 u318.2.1 u318.2.2.1 u318.2.2.2.1 u344 u318.2.2.2.2)) [25, 26, 27, 28, 29, 30, 31, 32, 33, 34, 35, 36, 37, 38, 39, 40, 41, 42, 43, 44, 45, 46] [0, 1, 2, 3, 4, 5, 6, 7, 8, 9, 10, 11, 12, 13, 14, 15, 16, 17, 18, 19, 20, 21, 22, 23, 24, 47] [0, 1, 2, 3, 4, 5, 6, 7, 8, 9, 10, 11, 12, 13, 14, 15, 16, 17, 18, 19, 20, 21, 22, 23, 24, 26, 27, 28, 29, 30, 31, 32, 33, 34, 35, 36, 37, 38, 39, 40, 41, 42, 43, 44, 45, 46, 47, 25] (va_runV (As := []) (rest := []) ⟨hx, hb, hml, hown, hts⟩ (c_M_thrown l dC dI cI cZ cL qM _ u344 _ hw) (cwV 0 hts (x_gV k_658 k_659 k_660 k_30 k_661) rfl rfl rfl (by decide +kernel) ⟨Nat.le_of_ble_eq_true rfl, Nat.le_of_ble_eq_true rfl⟩) ⟨x_blind, va_recv hK hP (ci := 4) (q0 := 25) rfl rfl, fun U hU hW => x_pre (isC := [25, 26, 27, 28, 29, 30, 31, 32, 33, 34, 35, 36, 37, 38, 39, 40, 41, 42, 43, 44, 45, 46]) hK hP hD rfl rfl hU hW⟩ rfl rfl hl.1 rfl (lv_room (Nat.le_of_ble_eq_true rfl)) d_L_law_350 ⟨by show _ ≤ 1078; omega, by show _ ≤ 9437; omega⟩) hP hD hS hA rfl rfl rfl (by decide) (fun _ => rfl) rfl (fun r350 _ H locs hw hP hD hS => ?_)
      refine lv_iload hx hb d_L_law_353 (lv_at hl 1 rfl) ?_
      refine lv_icmp_eq (tgt := 360) hx hb d_L_law_355 (by decide) (fun c355 => ?_) (fun c355 => ?_)
      · have hw := hw.1 c355
        refine lv_iload hx hb d_L_law_360 (lv_at hl 1 rfl) ?_
        refine lv_if_ne (tgt := 377) hx hb d_L_law_362 (by decide) (fun c362 => ?_) (fun c362 => ?_)
        · have hw := hw.1 c362
          refine lv_goto (tgt := 1120) hx hb d_L_law_377 (by decide) ?_
          obtain ⟨v4_1120, ev4_1120⟩ : ∃ y : Int32, y = i4 + 5 := ⟨_, rfl⟩
          have hw := hw v4_1120 ev4_1120
          refine lv_iinc (v := v4_1120) (lv' := [(4, .int v4_1120), (6, .int r344), (5, .int r318), (0, .ref b), (1, .ref (qR 0)), (2, .ref (qM 0)), (3, .ref qo)]) hx hb d_L_law_1120 hl (k := 6) rfl (by rw [ev4_1120]; rfl) (by decide) rfl (fun ls hl => ?_)
          refine lv_goto (tgt := 23) hx hb d_L_law_1123 (by decide) ?_
          refine W.widen (k := 48 + (j + 1)) (n := 1209 + 6 * (j + 1)) (by omega) (by omega) ?_
          exact ih (j + 1) rfl u318.1 u318.2.1 u318.2.2.1 u318.2.2.2.1 u344 u318.2.2.2.2 v4_1120 _ _ _ hw hP hD hS (lv_sub hl [3, 4, 5, 6, 0] rfl)
        · have hw := hw.2 c362
          refine lv_aload_n hx hb d_L_law_365 rfl (lv_at hl 5 rfl) ?_
          refine lv_iconst (v := (0 : Int32)) hx hb d_L_law_366 (by decide) ?_
          obtain ⟨h367, hw⟩ := hw
          refine va_lald hx hb hK hP 47 2 rfl rfl h367 d_L_law_367 ?_
          refine lv_iload hx hb d_L_law_368 (lv_at hl 0 rfl) ?_
          refine lv_i2l (v := r344.toInt64) hx hb d_L_law_370 rfl ?_
          refine W.lcmp hx hb d_L_law_371 ?_
          refine lv_if_eq (tgt := 377) hx hb d_L_law_372 (by decide) (fun c372 => ?_) (fun c372 => ?_)
          · have hw := hw.1 c372
            refine lv_goto (tgt := 1120) hx hb d_L_law_377 (by decide) ?_
            obtain ⟨v4_1120, ev4_1120⟩ : ∃ y : Int32, y = i4 + 5 := ⟨_, rfl⟩
            have hw := hw v4_1120 ev4_1120
            refine lv_iinc (v := v4_1120) (lv' := [(4, .int v4_1120), (6, .int r344), (5, .int r318), (0, .ref b), (1, .ref (qR 0)), (2, .ref (qM 0)), (3, .ref qo)]) hx hb d_L_law_1120 hl (k := 6) rfl (by rw [ev4_1120]; rfl) (by decide) rfl (fun ls hl => ?_)
            refine lv_goto (tgt := 23) hx hb d_L_law_1123 (by decide) ?_
            refine W.widen (k := 48 + (j + 1)) (n := 1209 + 6 * (j + 1)) (by omega) (by omega) ?_
            exact ih (j + 1) rfl u318.1 u318.2.1 u318.2.2.1 u318.2.2.2.1 u344 u318.2.2.2.2 v4_1120 _ _ _ hw hP hD hS (lv_sub hl [3, 4, 5, 6, 0] rfl)
          · have hw := hw.2 c372
            refine lv_iconst (v := (0 : Int32)) hx hb d_L_law_375 (by decide) ?_
            exact hw.elim
      · have hw := hw.2 c355
        refine lv_iconst (v := (0 : Int32)) hx hb d_L_law_358 (by decide) ?_
        exact hw.elim
    · have hw := hw.2 c336
      refine lv_iconst (v := (1 : Int32)) hx hb d_L_law_339 (by decide) ?_
      refine lv_goto (tgt := 344) hx hb d_L_law_340 (by decide) ?_
      refine x_ci (w2 := fun u344 => (wd_RUIWMo qR qU qI qW qM qo cI cZ cL u318.1 u318.2.1 u318.2.2.1 u318.2.2.2.1 u344 u318.2.2.2.2)) [25, 26, 27, 28, 29, 30, 31, 32, 33, 34, 35, 36, 37, 38, 39, 40, 41, 42, 43, 44, 45, 46] [0, 1, 2, 3, 4, 5, 6, 7, 8, 9, 10, 11, 12, 13, 14, 15, 16, 17, 18, 19, 20, 21, 22, 23, 24, 47] [0, 1, 2, 3, 4, 5, 6, 7, 8, 9, 10, 11, 12, 13, 14, 15, 16, 17, 18, 19, 20, 21, 22, 23, 24, 26, 27, 28, 29, 30, 31, 32, 33, 34, 35, 36, 37, 38, 39, 40, 41, 42, 43, 44, 45, 46, 47, 25] (va_runV (As := [.int (xs (i4 + (1 : Int32)).toNatClampNeg), .int (1 : Int32)]) (rest := []) ⟨hx, hb, hml, hown, hts⟩ (c_M_call l dC dI cI cZ cL qM _ xM (xs (i4 + (1 : Int32)).toNatClampNeg) (1 : Int32) _ hw) (cwV 2 hts (x_gV k_732 k_733 k_734 k_30 k_735) rfl rfl rfl (by decide +kernel) ⟨Nat.le_of_ble_eq_true rfl, Nat.le_of_ble_eq_true rfl⟩) ⟨x_blind, va_recv hK hP (ci := 4) (q0 := 25) rfl rfl, fun U hU hW => x_pre (isC := [25, 26, 27, 28, 29, 30, 31, 32, 33, 34, 35, 36, 37, 38, 39, 40, 41, 42, 43, 44, 45, 46]) hK hP hD rfl rfl hU hW⟩ rfl rfl hl.1 rfl (lv_room (Nat.le_of_ble_eq_true rfl)) d_L_law_344 ⟨by show _ ≤ 1078; omega, by show _ ≤ 9437; omega⟩) hP hD hS hA rfl rfl rfl (by decide) (fun _ => rfl) rfl (fun r344 u344 H locs hw hP hD hS => ?_)
      refine lv_istore (lv' := [(6, .int r344), (5, .int r318), (0, .ref b), (1, .ref (qR 0)), (2, .ref (qM 0)), (3, .ref qo), (4, .int i4)]) hx hb d_L_law_347 hl (by decide) rfl (fun ls hl => ?_)
      refine lv_aload_n hx hb d_L_law_349 rfl (lv_at hl 4 rfl) ?_
      refine x_ci (w2 := fun _ => (wd_RUIWMo qR qU qI qW qM qo cI cZ cL u318.1 u318.2.1 u318.2.2.1 u318.2.2.2.1 u344 u318.2.2.2.2)) [25, 26, 27, 28, 29, 30, 31, 32, 33, 34, 35, 36, 37, 38, 39, 40, 41, 42, 43, 44, 45, 46] [0, 1, 2, 3, 4, 5, 6, 7, 8, 9, 10, 11, 12, 13, 14, 15, 16, 17, 18, 19, 20, 21, 22, 23, 24, 47] [0, 1, 2, 3, 4, 5, 6, 7, 8, 9, 10, 11, 12, 13, 14, 15, 16, 17, 18, 19, 20, 21, 22, 23, 24, 26, 27, 28, 29, 30, 31, 32, 33, 34, 35, 36, 37, 38, 39, 40, 41, 42, 43, 44, 45, 46, 47, 25] (va_runV (As := []) (rest := []) ⟨hx, hb, hml, hown, hts⟩ (c_M_thrown l dC dI cI cZ cL qM _ u344 _ hw) (cwV 0 hts (x_gV k_658 k_659 k_660 k_30 k_661) rfl rfl rfl (by decide +kernel) ⟨Nat.le_of_ble_eq_true rfl, Nat.le_of_ble_eq_true rfl⟩) ⟨x_blind, va_recv hK hP (ci := 4) (q0 := 25) rfl rfl, fun U hU hW => x_pre (isC := [25, 26, 27, 28, 29, 30, 31, 32, 33, 34, 35, 36, 37, 38, 39, 40, 41, 42, 43, 44, 45, 46]) hK hP hD rfl rfl hU hW⟩ rfl rfl hl.1 rfl (lv_room (Nat.le_of_ble_eq_true rfl)) d_L_law_350 ⟨by show _ ≤ 1078; omega, by show _ ≤ 9437; omega⟩) hP hD hS hA rfl rfl rfl (by decide) (fun _ => rfl) rfl (fun r350 _ H locs hw hP hD hS => ?_)
      refine lv_iload hx hb d_L_law_353 (lv_at hl 1 rfl) ?_
      refine lv_icmp_eq (tgt := 360) hx hb d_L_law_355 (by decide) (fun c355 => ?_) (fun c355 => ?_)
      · have hw := hw.1 c355
        refine lv_iload hx hb d_L_law_360 (lv_at hl 1 rfl) ?_
        refine lv_if_ne (tgt := 377) hx hb d_L_law_362 (by decide) (fun c362 => ?_) (fun c362 => ?_)
        · have hw := hw.1 c362
          refine lv_goto (tgt := 1120) hx hb d_L_law_377 (by decide) ?_
          obtain ⟨v4_1120, ev4_1120⟩ : ∃ y : Int32, y = i4 + 5 := ⟨_, rfl⟩
          have hw := hw v4_1120 ev4_1120
          refine lv_iinc (v := v4_1120) (lv' := [(4, .int v4_1120), (6, .int r344), (5, .int r318), (0, .ref b), (1, .ref (qR 0)), (2, .ref (qM 0)), (3, .ref qo)]) hx hb d_L_law_1120 hl (k := 6) rfl (by rw [ev4_1120]; rfl) (by decide) rfl (fun ls hl => ?_)
          refine lv_goto (tgt := 23) hx hb d_L_law_1123 (by decide) ?_
          refine W.widen (k := 48 + (j + 1)) (n := 1209 + 6 * (j + 1)) (by omega) (by omega) ?_
          exact ih (j + 1) rfl u318.1 u318.2.1 u318.2.2.1 u318.2.2.2.1 u344 u318.2.2.2.2 v4_1120 _ _ _ hw hP hD hS (lv_sub hl [3, 4, 5, 6, 0] rfl)
        · have hw := hw.2 c362
          refine lv_aload_n hx hb d_L_law_365 rfl (lv_at hl 5 rfl) ?_
          refine lv_iconst (v := (0 : Int32)) hx hb d_L_law_366 (by decide) ?_
          obtain ⟨h367, hw⟩ := hw
          refine va_lald hx hb hK hP 47 2 rfl rfl h367 d_L_law_367 ?_
          refine lv_iload hx hb d_L_law_368 (lv_at hl 0 rfl) ?_
          refine lv_i2l (v := r344.toInt64) hx hb d_L_law_370 rfl ?_
          refine W.lcmp hx hb d_L_law_371 ?_
          refine lv_if_eq (tgt := 377) hx hb d_L_law_372 (by decide) (fun c372 => ?_) (fun c372 => ?_)
          · have hw := hw.1 c372
            refine lv_goto (tgt := 1120) hx hb d_L_law_377 (by decide) ?_
            obtain ⟨v4_1120, ev4_1120⟩ : ∃ y : Int32, y = i4 + 5 := ⟨_, rfl⟩
            have hw := hw v4_1120 ev4_1120
            refine lv_iinc (v := v4_1120) (lv' := [(4, .int v4_1120), (6, .int r344), (5, .int r318), (0, .ref b), (1, .ref (qR 0)), (2, .ref (qM 0)), (3, .ref qo)]) hx hb d_L_law_1120 hl (k := 6) rfl (by rw [ev4_1120]; rfl) (by decide) rfl (fun ls hl => ?_)
            refine lv_goto (tgt := 23) hx hb d_L_law_1123 (by decide) ?_
            refine W.widen (k := 48 + (j + 1)) (n := 1209 + 6 * (j + 1)) (by omega) (by omega) ?_
            exact ih (j + 1) rfl u318.1 u318.2.1 u318.2.2.1 u318.2.2.2.1 u344 u318.2.2.2.2 v4_1120 _ _ _ hw hP hD hS (lv_sub hl [3, 4, 5, 6, 0] rfl)
          · have hw := hw.2 c372
            refine lv_iconst (v := (0 : Int32)) hx hb d_L_law_375 (by decide) ?_
            exact hw.elim
      · have hw := hw.2 c355
        refine lv_iconst (v := (0 : Int32)) hx hb d_L_law_358 (by decide) ?_
        exact hw.elim
  · have hw := hw.2 c309
    refine lv_iconst (v := (1 : Int32)) hx hb d_L_law_312 (by decide) ?_
    refine lv_goto (tgt := 317) hx hb d_L_law_313 (by decide) ?_
    refine lv_aload_n hx hb d_L_law_317 rfl (lv_at hl 3 rfl) ?_
    refine x_ci (w2 := fun u318 => (wd_RUIWMo qR qU qI qW qM qo cI cZ cL u318.1 u318.2.1 u318.2.2.1 u318.2.2.2.1 xM u318.2.2.2.2)) [0, 1, 2, 3, 4, 5, 6, 7, 8, 9, 10, 11, 12, 13, 14, 15, 16, 17, 18, 19, 20, 21, 22, 23, 24, 47] [25, 26, 27, 28, 29, 30, 31, 32, 33, 34, 35, 36, 37, 38, 39, 40, 41, 42, 43, 44, 45, 46] [22, 23, 24, 25, 26, 27, 28, 29, 30, 31, 32, 33, 34, 35, 36, 37, 38, 39, 40, 41, 42, 43, 44, 45, 46, 0, 1, 2, 3, 4, 5, 6, 7, 8, 9, 10, 11, 12, 13, 14, 15, 16, 17, 18, 19, 20, 21, 47] (vx_runSW (hh := [(0, 10, 13, 13), (0, 10, 17, 15)]) (As := [.ref (qR 0), .int (xs (i4 + (1 : Int32)).toNatClampNeg), .int (1 : Int32), .ref qo]) (rest := []) ⟨hx, hb, hml, hown, hts⟩ (c_L_call l hl9 sa dC dI cI cZ cL qR qU qI qW qo _ xR xU xI xW xo (xs (i4 + (1 : Int32)).toNatClampNeg) (1 : Int32) _ hw) (vx_cwSW 4 hts (x_gW k_395 k_396 k_25 k_397) rfl rfl rfl (by decide +kernel) ⟨Nat.le_of_ble_eq_true rfl, Nat.le_of_ble_eq_true rfl⟩) ⟨x_blindN, fun U hU hW => x_preN (isC := [0, 1, 2, 3, 4, 5, 6, 7, 8, 9, 10, 11, 12, 13, 14, 15, 16, 17, 18, 19, 20, 21, 22, 23, 24, 47]) hK hP hD hS hA hE hN rfl rfl hU hW⟩ rfl rfl hl.1 rfl (lv_room (Nat.le_of_ble_eq_true rfl)) d_L_law_318 ⟨by show _ ≤ 1078; omega, by show _ ≤ 9437; omega⟩) hP hD hS hA rfl rfl rfl (by decide) (fun _ => rfl) rfl (fun r318 u318 H locs hw hP hD hS => ?_)
    refine lv_istore (lv' := [(5, .int r318), (0, .ref b), (1, .ref (qR 0)), (2, .ref (qM 0)), (3, .ref qo), (4, .int i4)]) hx hb d_L_law_321 hl (by decide) rfl (fun ls hl => ?_)
    refine lv_aload_n hx hb d_L_law_323 rfl (lv_at hl 3 rfl) ?_
    refine lv_aload_n hx hb d_L_law_324 rfl (lv_at hl 1 rfl) ?_
    refine lv_iload hx hb d_L_law_325 (lv_at hl 5 rfl) ?_
    refine lv_iconst (v := (1 : Int32)) hx hb d_L_law_327 (by decide) ?_
    refine lv_iadd hx hb d_L_law_328 ?_
    obtain ⟨h329, hw⟩ := hw
    refine va_sld hx hb hX hbl hbA hS h329 d_L_law_329 ?_
    refine lv_aload_n hx hb d_L_law_330 rfl (lv_at hl 1 rfl) ?_
    refine lv_iload hx hb d_L_law_331 (lv_at hl 5 rfl) ?_
    refine lv_iconst (v := (2 : Int32)) hx hb d_L_law_333 (by decide) ?_
    refine lv_iadd hx hb d_L_law_334 ?_
    obtain ⟨h335, hw⟩ := hw
    refine va_sld hx hb hX hbl hbA hS h335 d_L_law_335 ?_
    refine lv_if_eq (tgt := 343) hx hb d_L_law_336 (by decide) (fun c336 => ?_) (fun c336 => ?_)
    · have hw := hw.1 c336
      refine lv_iconst (v := (0 : Int32)) hx hb d_L_law_343 (by decide) ?_
      refine x_ci (w2 := fun u344 => (wd_RUIWMo qR qU qI qW qM qo cI cZ cL u318.1 u318.2.1 u318.2.2.1 u318.2.2.2.1 u344 u318.2.2.2.2)) [25, 26, 27, 28, 29, 30, 31, 32, 33, 34, 35, 36, 37, 38, 39, 40, 41, 42, 43, 44, 45, 46] [0, 1, 2, 3, 4, 5, 6, 7, 8, 9, 10, 11, 12, 13, 14, 15, 16, 17, 18, 19, 20, 21, 22, 23, 24, 47] [0, 1, 2, 3, 4, 5, 6, 7, 8, 9, 10, 11, 12, 13, 14, 15, 16, 17, 18, 19, 20, 21, 22, 23, 24, 26, 27, 28, 29, 30, 31, 32, 33, 34, 35, 36, 37, 38, 39, 40, 41, 42, 43, 44, 45, 46, 47, 25] (va_runV (As := [.int (xs (i4 + (1 : Int32)).toNatClampNeg), .int (0 : Int32)]) (rest := []) ⟨hx, hb, hml, hown, hts⟩ (c_M_call l dC dI cI cZ cL qM _ xM (xs (i4 + (1 : Int32)).toNatClampNeg) (0 : Int32) _ hw) (cwV 2 hts (x_gV k_732 k_733 k_734 k_30 k_735) rfl rfl rfl (by decide +kernel) ⟨Nat.le_of_ble_eq_true rfl, Nat.le_of_ble_eq_true rfl⟩) ⟨x_blind, va_recv hK hP (ci := 4) (q0 := 25) rfl rfl, fun U hU hW => x_pre (isC := [25, 26, 27, 28, 29, 30, 31, 32, 33, 34, 35, 36, 37, 38, 39, 40, 41, 42, 43, 44, 45, 46]) hK hP hD rfl rfl hU hW⟩ rfl rfl hl.1 rfl (lv_room (Nat.le_of_ble_eq_true rfl)) d_L_law_344 ⟨by show _ ≤ 1078; omega, by show _ ≤ 9437; omega⟩) hP hD hS hA rfl rfl rfl (by decide) (fun _ => rfl) rfl (fun r344 u344 H locs hw hP hD hS => ?_)
      refine lv_istore (lv' := [(6, .int r344), (5, .int r318), (0, .ref b), (1, .ref (qR 0)), (2, .ref (qM 0)), (3, .ref qo), (4, .int i4)]) hx hb d_L_law_347 hl (by decide) rfl (fun ls hl => ?_)
      refine lv_aload_n hx hb d_L_law_349 rfl (lv_at hl 4 rfl) ?_
      refine x_ci (w2 := fun _ => (wd_RUIWMo qR qU qI qW qM qo cI cZ cL u318.1 u318.2.1 u318.2.2.1 u318.2.2.2.1 u344 u318.2.2.2.2)) [25, 26, 27, 28, 29, 30, 31, 32, 33, 34, 35, 36, 37, 38, 39, 40, 41, 42, 43, 44, 45, 46] [0, 1, 2, 3, 4, 5, 6, 7, 8, 9, 10, 11, 12, 13, 14, 15, 16, 17, 18, 19, 20, 21, 22, 23, 24, 47] [0, 1, 2, 3, 4, 5, 6, 7, 8, 9, 10, 11, 12, 13, 14, 15, 16, 17, 18, 19, 20, 21, 22, 23, 24, 26, 27, 28, 29, 30, 31, 32, 33, 34, 35, 36, 37, 38, 39, 40, 41, 42, 43, 44, 45, 46, 47, 25] (va_runV (As := []) (rest := []) ⟨hx, hb, hml, hown, hts⟩ (c_M_thrown l dC dI cI cZ cL qM _ u344 _ hw) (cwV 0 hts (x_gV k_658 k_659 k_660 k_30 k_661) rfl rfl rfl (by decide +kernel) ⟨Nat.le_of_ble_eq_true rfl, Nat.le_of_ble_eq_true rfl⟩) ⟨x_blind, va_recv hK hP (ci := 4) (q0 := 25) rfl rfl, fun U hU hW => x_pre (isC := [25, 26, 27, 28, 29, 30, 31, 32, 33, 34, 35, 36, 37, 38, 39, 40, 41, 42, 43, 44, 45, 46]) hK hP hD rfl rfl hU hW⟩ rfl rfl hl.1 rfl (lv_room (Nat.le_of_ble_eq_true rfl)) d_L_law_350 ⟨by show _ ≤ 1078; omega, by show _ ≤ 9437; omega⟩) hP hD hS hA rfl rfl rfl (by decide) (fun _ => rfl) rfl (fun r350 _ H locs hw hP hD hS => ?_)
      refine lv_iload hx hb d_L_law_353 (lv_at hl 1 rfl) ?_
      refine lv_icmp_eq (tgt := 360) hx hb d_L_law_355 (by decide) (fun c355 => ?_) (fun c355 => ?_)
      · have hw := hw.1 c355
        refine lv_iload hx hb d_L_law_360 (lv_at hl 1 rfl) ?_
        refine lv_if_ne (tgt := 377) hx hb d_L_law_362 (by decide) (fun c362 => ?_) (fun c362 => ?_)
        · have hw := hw.1 c362
          refine lv_goto (tgt := 1120) hx hb d_L_law_377 (by decide) ?_
          obtain ⟨v4_1120, ev4_1120⟩ : ∃ y : Int32, y = i4 + 5 := ⟨_, rfl⟩
          have hw := hw v4_1120 ev4_1120
          refine lv_iinc (v := v4_1120) (lv' := [(4, .int v4_1120), (6, .int r344), (5, .int r318), (0, .ref b), (1, .ref (qR 0)), (2, .ref (qM 0)), (3, .ref qo)]) hx hb d_L_law_1120 hl (k := 6) rfl (by rw [ev4_1120]; rfl) (by decide) rfl (fun ls hl => ?_)
          refine lv_goto (tgt := 23) hx hb d_L_law_1123 (by decide) ?_
          refine W.widen (k := 48 + (j + 1)) (n := 1209 + 6 * (j + 1)) (by omega) (by omega) ?_
          exact ih (j + 1) rfl u318.1 u318.2.1 u318.2.2.1 u318.2.2.2.1 u344 u318.2.2.2.2 v4_1120 _ _ _ hw hP hD hS (lv_sub hl [3, 4, 5, 6, 0] rfl)
        · have hw := hw.2 c362
          refine lv_aload_n hx hb d_L_law_365 rfl (lv_at hl 5 rfl) ?_
          refine lv_iconst (v := (0 : Int32)) hx hb d_L_law_366 (by decide) ?_
          obtain ⟨h367, hw⟩ := hw
          refine va_lald hx hb hK hP 47 2 rfl rfl h367 d_L_law_367 ?_
          refine lv_iload hx hb d_L_law_368 (lv_at hl 0 rfl) ?_
          refine lv_i2l (v := r344.toInt64) hx hb d_L_law_370 rfl ?_
          refine W.lcmp hx hb d_L_law_371 ?_
          refine lv_if_eq (tgt := 377) hx hb d_L_law_372 (by decide) (fun c372 => ?_) (fun c372 => ?_)
          · have hw := hw.1 c372
            refine lv_goto (tgt := 1120) hx hb d_L_law_377 (by decide) ?_
            obtain ⟨v4_1120, ev4_1120⟩ : ∃ y : Int32, y = i4 + 5 := ⟨_, rfl⟩
            have hw := hw v4_1120 ev4_1120
            refine lv_iinc (v := v4_1120) (lv' := [(4, .int v4_1120), (6, .int r344), (5, .int r318), (0, .ref b), (1, .ref (qR 0)), (2, .ref (qM 0)), (3, .ref qo)]) hx hb d_L_law_1120 hl (k := 6) rfl (by rw [ev4_1120]; rfl) (by decide) rfl (fun ls hl => ?_)
            refine lv_goto (tgt := 23) hx hb d_L_law_1123 (by decide) ?_
            refine W.widen (k := 48 + (j + 1)) (n := 1209 + 6 * (j + 1)) (by omega) (by omega) ?_
            exact ih (j + 1) rfl u318.1 u318.2.1 u318.2.2.1 u318.2.2.2.1 u344 u318.2.2.2.2 v4_1120 _ _ _ hw hP hD hS (lv_sub hl [3, 4, 5, 6, 0] rfl)
          · have hw := hw.2 c372
            refine lv_iconst (v := (0 : Int32)) hx hb d_L_law_375 (by decide) ?_
            exact hw.elim
      · have hw := hw.2 c355
        refine lv_iconst (v := (0 : Int32)) hx hb d_L_law_358 (by decide) ?_
        exact hw.elim
    · have hw := hw.2 c336
      refine lv_iconst (v := (1 : Int32)) hx hb d_L_law_339 (by decide) ?_
      refine lv_goto (tgt := 344) hx hb d_L_law_340 (by decide) ?_
      refine x_ci (w2 := fun u344 => (wd_RUIWMo qR qU qI qW qM qo cI cZ cL u318.1 u318.2.1 u318.2.2.1 u318.2.2.2.1 u344 u318.2.2.2.2)) [25, 26, 27, 28, 29, 30, 31, 32, 33, 34, 35, 36, 37, 38, 39, 40, 41, 42, 43, 44, 45, 46] [0, 1, 2, 3, 4, 5, 6, 7, 8, 9, 10, 11, 12, 13, 14, 15, 16, 17, 18, 19, 20, 21, 22, 23, 24, 47] [0, 1, 2, 3, 4, 5, 6, 7, 8, 9, 10, 11, 12, 13, 14, 15, 16, 17, 18, 19, 20, 21, 22, 23, 24, 26, 27, 28, 29, 30, 31, 32, 33, 34, 35, 36, 37, 38, 39, 40, 41, 42, 43, 44, 45, 46, 47, 25] (va_runV (As := [.int (xs (i4 + (1 : Int32)).toNatClampNeg), .int (1 : Int32)]) (rest := []) ⟨hx, hb, hml, hown, hts⟩ (c_M_call l dC dI cI cZ cL qM _ xM (xs (i4 + (1 : Int32)).toNatClampNeg) (1 : Int32) _ hw) (cwV 2 hts (x_gV k_732 k_733 k_734 k_30 k_735) rfl rfl rfl (by decide +kernel) ⟨Nat.le_of_ble_eq_true rfl, Nat.le_of_ble_eq_true rfl⟩) ⟨x_blind, va_recv hK hP (ci := 4) (q0 := 25) rfl rfl, fun U hU hW => x_pre (isC := [25, 26, 27, 28, 29, 30, 31, 32, 33, 34, 35, 36, 37, 38, 39, 40, 41, 42, 43, 44, 45, 46]) hK hP hD rfl rfl hU hW⟩ rfl rfl hl.1 rfl (lv_room (Nat.le_of_ble_eq_true rfl)) d_L_law_344 ⟨by show _ ≤ 1078; omega, by show _ ≤ 9437; omega⟩) hP hD hS hA rfl rfl rfl (by decide) (fun _ => rfl) rfl (fun r344 u344 H locs hw hP hD hS => ?_)
      refine lv_istore (lv' := [(6, .int r344), (5, .int r318), (0, .ref b), (1, .ref (qR 0)), (2, .ref (qM 0)), (3, .ref qo), (4, .int i4)]) hx hb d_L_law_347 hl (by decide) rfl (fun ls hl => ?_)
      refine lv_aload_n hx hb d_L_law_349 rfl (lv_at hl 4 rfl) ?_
      refine x_ci (w2 := fun _ => (wd_RUIWMo qR qU qI qW qM qo cI cZ cL u318.1 u318.2.1 u318.2.2.1 u318.2.2.2.1 u344 u318.2.2.2.2)) [25, 26, 27, 28, 29, 30, 31, 32, 33, 34, 35, 36, 37, 38, 39, 40, 41, 42, 43, 44, 45, 46] [0, 1, 2, 3, 4, 5, 6, 7, 8, 9, 10, 11, 12, 13, 14, 15, 16, 17, 18, 19, 20, 21, 22, 23, 24, 47] [0, 1, 2, 3, 4, 5, 6, 7, 8, 9, 10, 11, 12, 13, 14, 15, 16, 17, 18, 19, 20, 21, 22, 23, 24, 26, 27, 28, 29, 30, 31, 32, 33, 34, 35, 36, 37, 38, 39, 40, 41, 42, 43, 44, 45, 46, 47, 25] (va_runV (As := []) (rest := []) ⟨hx, hb, hml, hown, hts⟩ (c_M_thrown l dC dI cI cZ cL qM _ u344 _ hw) (cwV 0 hts (x_gV k_658 k_659 k_660 k_30 k_661) rfl rfl rfl (by decide +kernel) ⟨Nat.le_of_ble_eq_true rfl, Nat.le_of_ble_eq_true rfl⟩) ⟨x_blind, va_recv hK hP (ci := 4) (q0 := 25) rfl rfl, fun U hU hW => x_pre (isC := [25, 26, 27, 28, 29, 30, 31, 32, 33, 34, 35, 36, 37, 38, 39, 40, 41, 42, 43, 44, 45, 46]) hK hP hD rfl rfl hU hW⟩ rfl rfl hl.1 rfl (lv_room (Nat.le_of_ble_eq_true rfl)) d_L_law_350 ⟨by show _ ≤ 1078; omega, by show _ ≤ 9437; omega⟩) hP hD hS hA rfl rfl rfl (by decide) (fun _ => rfl) rfl (fun r350 _ H locs hw hP hD hS => ?_)
      refine lv_iload hx hb d_L_law_353 (lv_at hl 1 rfl) ?_
      refine lv_icmp_eq (tgt := 360) hx hb d_L_law_355 (by decide) (fun c355 => ?_) (fun c355 => ?_)
      · have hw := hw.1 c355
        refine lv_iload hx hb d_L_law_360 (lv_at hl 1 rfl) ?_
        refine lv_if_ne (tgt := 377) hx hb d_L_law_362 (by decide) (fun c362 => ?_) (fun c362 => ?_)
        · have hw := hw.1 c362
          refine lv_goto (tgt := 1120) hx hb d_L_law_377 (by decide) ?_
          obtain ⟨v4_1120, ev4_1120⟩ : ∃ y : Int32, y = i4 + 5 := ⟨_, rfl⟩
          have hw := hw v4_1120 ev4_1120
          refine lv_iinc (v := v4_1120) (lv' := [(4, .int v4_1120), (6, .int r344), (5, .int r318), (0, .ref b), (1, .ref (qR 0)), (2, .ref (qM 0)), (3, .ref qo)]) hx hb d_L_law_1120 hl (k := 6) rfl (by rw [ev4_1120]; rfl) (by decide) rfl (fun ls hl => ?_)
          refine lv_goto (tgt := 23) hx hb d_L_law_1123 (by decide) ?_
          refine W.widen (k := 48 + (j + 1)) (n := 1209 + 6 * (j + 1)) (by omega) (by omega) ?_
          exact ih (j + 1) rfl u318.1 u318.2.1 u318.2.2.1 u318.2.2.2.1 u344 u318.2.2.2.2 v4_1120 _ _ _ hw hP hD hS (lv_sub hl [3, 4, 5, 6, 0] rfl)
        · have hw := hw.2 c362
          refine lv_aload_n hx hb d_L_law_365 rfl (lv_at hl 5 rfl) ?_
          refine lv_iconst (v := (0 : Int32)) hx hb d_L_law_366 (by decide) ?_
          obtain ⟨h367, hw⟩ := hw
          refine va_lald hx hb hK hP 47 2 rfl rfl h367 d_L_law_367 ?_
          refine lv_iload hx hb d_L_law_368 (lv_at hl 0 rfl) ?_
          refine lv_i2l (v := r344.toInt64) hx hb d_L_law_370 rfl ?_
          refine W.lcmp hx hb d_L_law_371 ?_
          refine lv_if_eq (tgt := 377) hx hb d_L_law_372 (by decide) (fun c372 => ?_) (fun c372 => ?_)
          · have hw := hw.1 c372
            refine lv_goto (tgt := 1120) hx hb d_L_law_377 (by decide) ?_
            obtain ⟨v4_1120, ev4_1120⟩ : ∃ y : Int32, y = i4 + 5 := ⟨_, rfl⟩
            have hw := hw v4_1120 ev4_1120
            refine lv_iinc (v := v4_1120) (lv' := [(4, .int v4_1120), (6, .int r344), (5, .int r318), (0, .ref b), (1, .ref (qR 0)), (2, .ref (qM 0)), (3, .ref qo)]) hx hb d_L_law_1120 hl (k := 6) rfl (by rw [ev4_1120]; rfl) (by decide) rfl (fun ls hl => ?_)
            refine lv_goto (tgt := 23) hx hb d_L_law_1123 (by decide) ?_
            refine W.widen (k := 48 + (j + 1)) (n := 1209 + 6 * (j + 1)) (by omega) (by omega) ?_
            exact ih (j + 1) rfl u318.1 u318.2.1 u318.2.2.1 u318.2.2.2.1 u344 u318.2.2.2.2 v4_1120 _ _ _ hw hP hD hS (lv_sub hl [3, 4, 5, 6, 0] rfl)
          · have hw := hw.2 c372
            refine lv_iconst (v := (0 : Int32)) hx hb d_L_law_375 (by decide) ?_
            exact hw.elim
      · have hw := hw.2 c355
        refine lv_iconst (v := (0 : Int32)) hx hb d_L_law_358 (by decide) ?_
        exact hw.elim
def wc_law_4 (xs : Nat → Int32) (L : Nat) (rec23 : St → St → St → St → St → (Nat → Int64) → Int32 → Prop) (xR : St) (xU : St) (xI : St) (xW : St) (xM : St) (xo : (Nat → Int64)) (i4 : Int32) : Prop := vp_in (i4 + (1 : Int32)) L ∧ (vp_in (i4 + (2 : Int32)) L ∧ (wp_L_send xR xU xI xW (xs (i4 + (1 : Int32)).toNatClampNeg) (xs (i4 + (2 : Int32)).toNatClampNeg) (fun r393 u393 => (vp_in (i4 + (1 : Int32)) L ∧ (vp_in (i4 + (2 : Int32)) L ∧ (wp_M_send xM (xs (i4 + (1 : Int32)).toNatClampNeg) (xs (i4 + (2 : Int32)).toNatClampNeg) (fun u411 => (wp_M_thrown u411 (fun r415 _ => ((r415 = r393 → (∀ v4_1120 : Int32, v4_1120 = i4 + 5 → (rec23 u393.1 u393.2.1 u393.2.2.1 u393.2.2.2 u411 xo v4_1120))) ∧ (¬ r415 = r393 → (False))))))))))))
set_option maxHeartbeats 8000000 in
set_option maxRecDepth 100000 in
theorem lawcase_4 {p : Program} {l : Launch} {e : Env} {s : State} {m : MethodId} {below : List Frame} {meth : Method} {c : Code} {dC : Nat → ClassId} {dI : Nat → Nat → Nat} {cI cZ cL : ClassId} {qR qU qI qW qM : Nat → Nat} {qo : Nat} {sa : Nat → Nat} {b L : Nat} {xs : Nat → Int32} (hl9 : l.stackTraces = false) {j : Nat} (hLj : j ≤ 512) (C0 : lw_At p s m meth c b L xs) (hK : va_K (dC, dI) vwCl [(cI, .int), (cZ, .boolean), (cL, .long)] s) (hE : xE "ReleaseRows" xTx sa (fun q : Nat => s.heap.size ≤ q) s.heap s) (hN : xN s) {rec23 : St → St → St → St → St → (Nat → Int64) → Int32 → Prop}
    (ih : ∀ j1 : Nat, j1 = j + 1 → ∀ (xR : St) (xU : St) (xI : St) (xW : St) (xM : St) (xo : (Nat → Int64)) (i4 : Int32) (H : Heap) (locs : List Loc) (ls : Array Slot), rec23 xR xU xI xW xM xo i4 → va_P (dC, dI) vwCl (wd_RUIWMo qR qU qI qW qM qo cI cZ cL xR xU xI xW xM xo) H → va_D (fun q : Nat => s.heap.size ≤ q) (wd_RUIWMo qR qU qI qW qM qo cI cZ cL xR xU xI xW xM xo) → va_S (fun q : Nat => s.heap.size ≤ q) s.heap H locs → lv_has ls 7 [(0, .ref b), (1, .ref (qR 0)), (2, .ref (qM 0)), (3, .ref qo), (4, .int i4)] → W p l e room_1 s m #[Value.ref b] below meth c H locs (48 + j1) (1209 + 6 * j1) (lw_Z below #[Value.ref b] s) (F0 m 23 ls []))
    : ∀ (xR : St) (xU : St) (xI : St) (xW : St) (xM : St) (xo : (Nat → Int64)) (i4 : Int32) (H : Heap) (locs : List Loc) (ls : Array Slot), wc_law_4 xs L rec23 xR xU xI xW xM xo i4 → va_P (dC, dI) vwCl (wd_RUIWMo qR qU qI qW qM qo cI cZ cL xR xU xI xW xM xo) H → va_D (fun q : Nat => s.heap.size ≤ q) (wd_RUIWMo qR qU qI qW qM qo cI cZ cL xR xU xI xW xM xo) → va_S (fun q : Nat => s.heap.size ≤ q) s.heap H locs → lv_has ls 7 [(0, .ref b), (1, .ref (qR 0)), (2, .ref (qM 0)), (3, .ref qo), (4, .int i4)] → W p l e room_1 s m #[Value.ref b] below meth c H locs (48 + j) (1209 + 6 * j) (lw_Z below #[Value.ref b] s) (F0 m 380 ls []) := by
  obtain ⟨hx, hb, hr, hml, hown, hts0, hX, hbl, hlocks, hgv⟩ := C0
  have hts : ∀ w ∈ gG, w.before #[Value.ref b] s = true := fun w h => hts0 w (List.mem_filter.mp h).1
  have hA : ∀ q : Nat, s.heap.size ≤ q → (fun q : Nat => s.heap.size ≤ q) q := fun _ h => h
  have hbA : ¬ (fun q : Nat => s.heap.size ≤ q) b := Nat.not_le.mpr hbl
  intro xR xU xI xW xM xo i4 H locs ls hw hP hD hS hl
  unfold wc_law_4 at hw
  refine lv_aload_n hx hb d_L_law_380 rfl (lv_at hl 1 rfl) ?_
  refine lv_aload_n hx hb d_L_law_381 rfl (lv_at hl 0 rfl) ?_
  refine lv_iload hx hb d_L_law_382 (lv_at hl 4 rfl) ?_
  refine lv_iconst (v := (1 : Int32)) hx hb d_L_law_384 (by decide) ?_
  refine lv_iadd hx hb d_L_law_385 ?_
  obtain ⟨h386, hw⟩ := hw
  refine va_sld hx hb hX hbl hbA hS h386 d_L_law_386 ?_
  refine lv_aload_n hx hb d_L_law_387 rfl (lv_at hl 0 rfl) ?_
  refine lv_iload hx hb d_L_law_388 (lv_at hl 4 rfl) ?_
  refine lv_iconst (v := (2 : Int32)) hx hb d_L_law_390 (by decide) ?_
  refine lv_iadd hx hb d_L_law_391 ?_
  obtain ⟨h392, hw⟩ := hw
  refine va_sld hx hb hX hbl hbA hS h392 d_L_law_392 ?_
  refine x_ci (w2 := fun u393 => (wd_RUIWMo qR qU qI qW qM qo cI cZ cL u393.1 u393.2.1 u393.2.2.1 u393.2.2.2 xM xo)) [0, 1, 2, 3, 4, 5, 6, 7, 8, 9, 10, 11, 12, 13, 14, 15, 16, 17, 18, 19, 20, 21, 22, 23, 24] [25, 26, 27, 28, 29, 30, 31, 32, 33, 34, 35, 36, 37, 38, 39, 40, 41, 42, 43, 44, 45, 46, 47] [23, 24, 25, 26, 27, 28, 29, 30, 31, 32, 33, 34, 35, 36, 37, 38, 39, 40, 41, 42, 43, 44, 45, 46, 47, 0, 1, 2, 3, 4, 5, 6, 7, 8, 9, 10, 11, 12, 13, 14, 15, 16, 17, 18, 19, 20, 21, 22] (vx_runSW (hh := [(0, 6, 9, 21), (0, 6, 12, 34)]) (As := [.ref (qR 0), .int (xs (i4 + (1 : Int32)).toNatClampNeg), .int (xs (i4 + (2 : Int32)).toNatClampNeg)]) (rest := []) ⟨hx, hb, hml, hown, hts⟩ (c_L_send l hl9 sa dC dI cI cZ cL qR qU qI qW _ xR xU xI xW (xs (i4 + (1 : Int32)).toNatClampNeg) (xs (i4 + (2 : Int32)).toNatClampNeg) _ hw) (vx_cwSW 3 hts (x_gW k_422 k_423 k_25 k_424) rfl rfl rfl (by decide +kernel) ⟨Nat.le_of_ble_eq_true rfl, Nat.le_of_ble_eq_true rfl⟩) ⟨x_blindN, fun U hU hW => x_preN (isC := [0, 1, 2, 3, 4, 5, 6, 7, 8, 9, 10, 11, 12, 13, 14, 15, 16, 17, 18, 19, 20, 21, 22, 23, 24]) hK hP hD hS hA hE hN rfl rfl hU hW⟩ rfl rfl hl.1 rfl (lv_room (Nat.le_of_ble_eq_true rfl)) d_L_law_393 ⟨by show _ ≤ 1078; omega, by show _ ≤ 9437; omega⟩) hP hD hS hA rfl rfl rfl (by decide) (fun _ => rfl) rfl (fun r393 u393 H locs hw hP hD hS => ?_)
  refine lv_istore (lv' := [(5, .int r393), (0, .ref b), (1, .ref (qR 0)), (2, .ref (qM 0)), (3, .ref qo), (4, .int i4)]) hx hb d_L_law_396 hl (by decide) rfl (fun ls hl => ?_)
  refine lv_aload_n hx hb d_L_law_398 rfl (lv_at hl 3 rfl) ?_
  refine lv_aload_n hx hb d_L_law_399 rfl (lv_at hl 1 rfl) ?_
  refine lv_iload hx hb d_L_law_400 (lv_at hl 5 rfl) ?_
  refine lv_iconst (v := (1 : Int32)) hx hb d_L_law_402 (by decide) ?_
  refine lv_iadd hx hb d_L_law_403 ?_
  obtain ⟨h404, hw⟩ := hw
  refine va_sld hx hb hX hbl hbA hS h404 d_L_law_404 ?_
  refine lv_aload_n hx hb d_L_law_405 rfl (lv_at hl 1 rfl) ?_
  refine lv_iload hx hb d_L_law_406 (lv_at hl 5 rfl) ?_
  refine lv_iconst (v := (2 : Int32)) hx hb d_L_law_408 (by decide) ?_
  refine lv_iadd hx hb d_L_law_409 ?_
  obtain ⟨h410, hw⟩ := hw
  refine va_sld hx hb hX hbl hbA hS h410 d_L_law_410 ?_
  refine x_cv (w2 := fun u411 => (wd_RUIWMo qR qU qI qW qM qo cI cZ cL u393.1 u393.2.1 u393.2.2.1 u393.2.2.2 u411 xo)) [25, 26, 27, 28, 29, 30, 31, 32, 33, 34, 35, 36, 37, 38, 39, 40, 41, 42, 43, 44, 45, 46] [0, 1, 2, 3, 4, 5, 6, 7, 8, 9, 10, 11, 12, 13, 14, 15, 16, 17, 18, 19, 20, 21, 22, 23, 24, 47] [0, 1, 2, 3, 4, 5, 6, 7, 8, 9, 10, 11, 12, 13, 14, 15, 16, 17, 18, 19, 20, 21, 22, 23, 24, 26, 27, 28, 29, 30, 31, 32, 33, 34, 35, 36, 37, 38, 39, 40, 41, 42, 43, 44, 45, 46, 47, 25] (va_runV (As := [.int (xs (i4 + (1 : Int32)).toNatClampNeg), .int (xs (i4 + (2 : Int32)).toNatClampNeg)]) (rest := []) ⟨hx, hb, hml, hown, hts⟩ (c_M_send l dC dI cI cZ cL qM _ xM (xs (i4 + (1 : Int32)).toNatClampNeg) (xs (i4 + (2 : Int32)).toNatClampNeg) _ hw) (cwV 2 hts (x_gV k_740 k_741 k_742 k_30 k_743) rfl rfl rfl (by decide +kernel) ⟨Nat.le_of_ble_eq_true rfl, Nat.le_of_ble_eq_true rfl⟩) ⟨x_blind, va_recv hK hP (ci := 4) (q0 := 25) rfl rfl, fun U hU hW => x_pre (isC := [25, 26, 27, 28, 29, 30, 31, 32, 33, 34, 35, 36, 37, 38, 39, 40, 41, 42, 43, 44, 45, 46]) hK hP hD rfl rfl hU hW⟩ rfl rfl hl.1 rfl (lv_room (Nat.le_of_ble_eq_true rfl)) d_L_law_411 ⟨by show _ ≤ 1078; omega, by show _ ≤ 9437; omega⟩) hP hD hS hA rfl rfl rfl (by decide) (fun _ => rfl) rfl (fun u411 H locs hw hP hD hS => ?_)
  refine lv_aload_n hx hb d_L_law_414 rfl (lv_at hl 3 rfl) ?_
  refine x_ci (w2 := fun _ => (wd_RUIWMo qR qU qI qW qM qo cI cZ cL u393.1 u393.2.1 u393.2.2.1 u393.2.2.2 u411 xo)) [25, 26, 27, 28, 29, 30, 31, 32, 33, 34, 35, 36, 37, 38, 39, 40, 41, 42, 43, 44, 45, 46] [0, 1, 2, 3, 4, 5, 6, 7, 8, 9, 10, 11, 12, 13, 14, 15, 16, 17, 18, 19, 20, 21, 22, 23, 24, 47] [0, 1, 2, 3, 4, 5, 6, 7, 8, 9, 10, 11, 12, 13, 14, 15, 16, 17, 18, 19, 20, 21, 22, 23, 24, 26, 27, 28, 29, 30, 31, 32, 33, 34, 35, 36, 37, 38, 39, 40, 41, 42, 43, 44, 45, 46, 47, 25] (va_runV (As := []) (rest := []) ⟨hx, hb, hml, hown, hts⟩ (c_M_thrown l dC dI cI cZ cL qM _ u411 _ hw) (cwV 0 hts (x_gV k_658 k_659 k_660 k_30 k_661) rfl rfl rfl (by decide +kernel) ⟨Nat.le_of_ble_eq_true rfl, Nat.le_of_ble_eq_true rfl⟩) ⟨x_blind, va_recv hK hP (ci := 4) (q0 := 25) rfl rfl, fun U hU hW => x_pre (isC := [25, 26, 27, 28, 29, 30, 31, 32, 33, 34, 35, 36, 37, 38, 39, 40, 41, 42, 43, 44, 45, 46]) hK hP hD rfl rfl hU hW⟩ rfl rfl hl.1 rfl (lv_room (Nat.le_of_ble_eq_true rfl)) d_L_law_415 ⟨by show _ ≤ 1078; omega, by show _ ≤ 9437; omega⟩) hP hD hS hA rfl rfl rfl (by decide) (fun _ => rfl) rfl (fun r415 _ H locs hw hP hD hS => ?_)
  refine lv_iload hx hb d_L_law_418 (lv_at hl 0 rfl) ?_
  refine lv_icmp_eq (tgt := 425) hx hb d_L_law_420 (by decide) (fun c420 => ?_) (fun c420 => ?_)
  · have hw := hw.1 c420
    refine lv_goto (tgt := 1120) hx hb d_L_law_425 (by decide) ?_
    obtain ⟨v4_1120, ev4_1120⟩ : ∃ y : Int32, y = i4 + 5 := ⟨_, rfl⟩
    have hw := hw v4_1120 ev4_1120
    refine lv_iinc (v := v4_1120) (lv' := [(4, .int v4_1120), (5, .int r393), (0, .ref b), (1, .ref (qR 0)), (2, .ref (qM 0)), (3, .ref qo)]) hx hb d_L_law_1120 hl (k := 5) rfl (by rw [ev4_1120]; rfl) (by decide) rfl (fun ls hl => ?_)
    refine lv_goto (tgt := 23) hx hb d_L_law_1123 (by decide) ?_
    refine W.widen (k := 48 + (j + 1)) (n := 1209 + 6 * (j + 1)) (by omega) (by omega) ?_
    exact ih (j + 1) rfl u393.1 u393.2.1 u393.2.2.1 u393.2.2.2 u411 xo v4_1120 _ _ _ hw hP hD hS (lv_sub hl [2, 3, 4, 5, 0] rfl)
  · have hw := hw.2 c420
    refine lv_iconst (v := (0 : Int32)) hx hb d_L_law_423 (by decide) ?_
    exact hw.elim
def wc_law_5 (xs : Nat → Int32) (L : Nat) (rec23 : St → St → St → St → St → (Nat → Int64) → Int32 → Prop) (xR : St) (xU : St) (xI : St) (xW : St) (xM : St) (xo : (Nat → Int64)) (i4 : Int32) : Prop := vp_in (i4 + (1 : Int32)) L ∧ (vp_in (i4 + (2 : Int32)) L ∧ (wp_L_release xR xU xI xW xo (xs (i4 + (1 : Int32)).toNatClampNeg) (xs (i4 + (2 : Int32)).toNatClampNeg) (fun r442 u442 => (vp_in (i4 + (1 : Int32)) L ∧ (vp_in (i4 + (2 : Int32)) L ∧ (wp_M_release xM (xs (i4 + (1 : Int32)).toNatClampNeg) (xs (i4 + (2 : Int32)).toNatClampNeg) (fun r460 u460 => (wp_M_thrown u460 (fun r466 _ => ((r466 = r442 → ((¬ r442 = 0 → (∀ v4_1120 : Int32, v4_1120 = i4 + 5 → (rec23 u442.1 u442.2.1 u442.2.2.1 u442.2.2.2.1 u460 u442.2.2.2.2 v4_1120))) ∧ (r442 = 0 → (vp_in (0 : Int32) 1 ∧ (((lg_cmp (u442.2.2.2.2 (0 : Int32).toNatClampNeg) r460.toInt64) = 0 → (∀ v4_1120 : Int32, v4_1120 = i4 + 5 → (rec23 u442.1 u442.2.1 u442.2.2.1 u442.2.2.2.1 u460 u442.2.2.2.2 v4_1120))) ∧ (¬ (lg_cmp (u442.2.2.2.2 (0 : Int32).toNatClampNeg) r460.toInt64) = 0 → (False))))))) ∧ (¬ r466 = r442 → (False))))))))))))
set_option maxHeartbeats 8000000 in
set_option maxRecDepth 100000 in
theorem lawcase_5 {p : Program} {l : Launch} {e : Env} {s : State} {m : MethodId} {below : List Frame} {meth : Method} {c : Code} {dC : Nat → ClassId} {dI : Nat → Nat → Nat} {cI cZ cL : ClassId} {qR qU qI qW qM : Nat → Nat} {qo : Nat} {sa : Nat → Nat} {b L : Nat} {xs : Nat → Int32} (hl9 : l.stackTraces = false) {j : Nat} (hLj : j ≤ 512) (C0 : lw_At p s m meth c b L xs) (hK : va_K (dC, dI) vwCl [(cI, .int), (cZ, .boolean), (cL, .long)] s) (hE : xE "ReleaseRows" xTx sa (fun q : Nat => s.heap.size ≤ q) s.heap s) (hN : xN s) {rec23 : St → St → St → St → St → (Nat → Int64) → Int32 → Prop}
    (ih : ∀ j1 : Nat, j1 = j + 1 → ∀ (xR : St) (xU : St) (xI : St) (xW : St) (xM : St) (xo : (Nat → Int64)) (i4 : Int32) (H : Heap) (locs : List Loc) (ls : Array Slot), rec23 xR xU xI xW xM xo i4 → va_P (dC, dI) vwCl (wd_RUIWMo qR qU qI qW qM qo cI cZ cL xR xU xI xW xM xo) H → va_D (fun q : Nat => s.heap.size ≤ q) (wd_RUIWMo qR qU qI qW qM qo cI cZ cL xR xU xI xW xM xo) → va_S (fun q : Nat => s.heap.size ≤ q) s.heap H locs → lv_has ls 7 [(0, .ref b), (1, .ref (qR 0)), (2, .ref (qM 0)), (3, .ref qo), (4, .int i4)] → W p l e room_1 s m #[Value.ref b] below meth c H locs (48 + j1) (1209 + 6 * j1) (lw_Z below #[Value.ref b] s) (F0 m 23 ls []))
    : ∀ (xR : St) (xU : St) (xI : St) (xW : St) (xM : St) (xo : (Nat → Int64)) (i4 : Int32) (H : Heap) (locs : List Loc) (ls : Array Slot), wc_law_5 xs L rec23 xR xU xI xW xM xo i4 → va_P (dC, dI) vwCl (wd_RUIWMo qR qU qI qW qM qo cI cZ cL xR xU xI xW xM xo) H → va_D (fun q : Nat => s.heap.size ≤ q) (wd_RUIWMo qR qU qI qW qM qo cI cZ cL xR xU xI xW xM xo) → va_S (fun q : Nat => s.heap.size ≤ q) s.heap H locs → lv_has ls 7 [(0, .ref b), (1, .ref (qR 0)), (2, .ref (qM 0)), (3, .ref qo), (4, .int i4)] → W p l e room_1 s m #[Value.ref b] below meth c H locs (48 + j) (1209 + 6 * j) (lw_Z below #[Value.ref b] s) (F0 m 428 ls []) := by
  obtain ⟨hx, hb, hr, hml, hown, hts0, hX, hbl, hlocks, hgv⟩ := C0
  have hts : ∀ w ∈ gG, w.before #[Value.ref b] s = true := fun w h => hts0 w (List.mem_filter.mp h).1
  have hA : ∀ q : Nat, s.heap.size ≤ q → (fun q : Nat => s.heap.size ≤ q) q := fun _ h => h
  have hbA : ¬ (fun q : Nat => s.heap.size ≤ q) b := Nat.not_le.mpr hbl
  intro xR xU xI xW xM xo i4 H locs ls hw hP hD hS hl
  unfold wc_law_5 at hw
  refine lv_aload_n hx hb d_L_law_428 rfl (lv_at hl 1 rfl) ?_
  refine lv_aload_n hx hb d_L_law_429 rfl (lv_at hl 0 rfl) ?_
  refine lv_iload hx hb d_L_law_430 (lv_at hl 4 rfl) ?_
  refine lv_iconst (v := (1 : Int32)) hx hb d_L_law_432 (by decide) ?_
  refine lv_iadd hx hb d_L_law_433 ?_
  obtain ⟨h434, hw⟩ := hw
  refine va_sld hx hb hX hbl hbA hS h434 d_L_law_434 ?_
  refine lv_aload_n hx hb d_L_law_435 rfl (lv_at hl 0 rfl) ?_
  refine lv_iload hx hb d_L_law_436 (lv_at hl 4 rfl) ?_
  refine lv_iconst (v := (2 : Int32)) hx hb d_L_law_438 (by decide) ?_
  refine lv_iadd hx hb d_L_law_439 ?_
  obtain ⟨h440, hw⟩ := hw
  refine va_sld hx hb hX hbl hbA hS h440 d_L_law_440 ?_
  refine lv_aload_n hx hb d_L_law_441 rfl (lv_at hl 3 rfl) ?_
  refine x_ci (w2 := fun u442 => (wd_RUIWMo qR qU qI qW qM qo cI cZ cL u442.1 u442.2.1 u442.2.2.1 u442.2.2.2.1 xM u442.2.2.2.2)) [0, 1, 2, 3, 4, 5, 6, 7, 8, 9, 10, 11, 12, 13, 14, 15, 16, 17, 18, 19, 20, 21, 22, 23, 24, 47] [25, 26, 27, 28, 29, 30, 31, 32, 33, 34, 35, 36, 37, 38, 39, 40, 41, 42, 43, 44, 45, 46] [22, 23, 24, 25, 26, 27, 28, 29, 30, 31, 32, 33, 34, 35, 36, 37, 38, 39, 40, 41, 42, 43, 44, 45, 46, 0, 1, 2, 3, 4, 5, 6, 7, 8, 9, 10, 11, 12, 13, 14, 15, 16, 17, 18, 19, 20, 21, 47] (vx_runSW (hh := [(0, 10, 13, 21), (0, 10, 17, 13), (0, 10, 21, 34)]) (As := [.ref (qR 0), .int (xs (i4 + (1 : Int32)).toNatClampNeg), .int (xs (i4 + (2 : Int32)).toNatClampNeg), .ref qo]) (rest := []) ⟨hx, hb, hml, hown, hts⟩ (c_L_release l hl9 sa dC dI cI cZ cL qR qU qI qW qo _ xR xU xI xW xo (xs (i4 + (1 : Int32)).toNatClampNeg) (xs (i4 + (2 : Int32)).toNatClampNeg) _ hw) (vx_cwSW 4 hts (x_gW k_453 k_454 k_25 k_455) rfl rfl rfl (by decide +kernel) ⟨Nat.le_of_ble_eq_true rfl, Nat.le_of_ble_eq_true rfl⟩) ⟨x_blindN, fun U hU hW => x_preN (isC := [0, 1, 2, 3, 4, 5, 6, 7, 8, 9, 10, 11, 12, 13, 14, 15, 16, 17, 18, 19, 20, 21, 22, 23, 24, 47]) hK hP hD hS hA hE hN rfl rfl hU hW⟩ rfl rfl hl.1 rfl (lv_room (Nat.le_of_ble_eq_true rfl)) d_L_law_442 ⟨by show _ ≤ 1078; omega, by show _ ≤ 9437; omega⟩) hP hD hS hA rfl rfl rfl (by decide) (fun _ => rfl) rfl (fun r442 u442 H locs hw hP hD hS => ?_)
  refine lv_istore (lv' := [(5, .int r442), (0, .ref b), (1, .ref (qR 0)), (2, .ref (qM 0)), (3, .ref qo), (4, .int i4)]) hx hb d_L_law_445 hl (by decide) rfl (fun ls hl => ?_)
  refine lv_aload_n hx hb d_L_law_447 rfl (lv_at hl 3 rfl) ?_
  refine lv_aload_n hx hb d_L_law_448 rfl (lv_at hl 1 rfl) ?_
  refine lv_iload hx hb d_L_law_449 (lv_at hl 5 rfl) ?_
  refine lv_iconst (v := (1 : Int32)) hx hb d_L_law_451 (by decide) ?_
  refine lv_iadd hx hb d_L_law_452 ?_
  obtain ⟨h453, hw⟩ := hw
  refine va_sld hx hb hX hbl hbA hS h453 d_L_law_453 ?_
  refine lv_aload_n hx hb d_L_law_454 rfl (lv_at hl 1 rfl) ?_
  refine lv_iload hx hb d_L_law_455 (lv_at hl 5 rfl) ?_
  refine lv_iconst (v := (2 : Int32)) hx hb d_L_law_457 (by decide) ?_
  refine lv_iadd hx hb d_L_law_458 ?_
  obtain ⟨h459, hw⟩ := hw
  refine va_sld hx hb hX hbl hbA hS h459 d_L_law_459 ?_
  refine x_ci (w2 := fun u460 => (wd_RUIWMo qR qU qI qW qM qo cI cZ cL u442.1 u442.2.1 u442.2.2.1 u442.2.2.2.1 u460 u442.2.2.2.2)) [25, 26, 27, 28, 29, 30, 31, 32, 33, 34, 35, 36, 37, 38, 39, 40, 41, 42, 43, 44, 45, 46] [0, 1, 2, 3, 4, 5, 6, 7, 8, 9, 10, 11, 12, 13, 14, 15, 16, 17, 18, 19, 20, 21, 22, 23, 24, 47] [0, 1, 2, 3, 4, 5, 6, 7, 8, 9, 10, 11, 12, 13, 14, 15, 16, 17, 18, 19, 20, 21, 22, 23, 24, 26, 27, 28, 29, 30, 31, 32, 33, 34, 35, 36, 37, 38, 39, 40, 41, 42, 43, 44, 45, 46, 47, 25] (va_runV (As := [.int (xs (i4 + (1 : Int32)).toNatClampNeg), .int (xs (i4 + (2 : Int32)).toNatClampNeg)]) (rest := []) ⟨hx, hb, hml, hown, hts⟩ (c_M_release l dC dI cI cZ cL qM _ xM (xs (i4 + (1 : Int32)).toNatClampNeg) (xs (i4 + (2 : Int32)).toNatClampNeg) _ hw) (cwV 2 hts (x_gV k_748 k_749 k_750 k_30 k_751) rfl rfl rfl (by decide +kernel) ⟨Nat.le_of_ble_eq_true rfl, Nat.le_of_ble_eq_true rfl⟩) ⟨x_blind, va_recv hK hP (ci := 4) (q0 := 25) rfl rfl, fun U hU hW => x_pre (isC := [25, 26, 27, 28, 29, 30, 31, 32, 33, 34, 35, 36, 37, 38, 39, 40, 41, 42, 43, 44, 45, 46]) hK hP hD rfl rfl hU hW⟩ rfl rfl hl.1 rfl (lv_room (Nat.le_of_ble_eq_true rfl)) d_L_law_460 ⟨by show _ ≤ 1078; omega, by show _ ≤ 9437; omega⟩) hP hD hS hA rfl rfl rfl (by decide) (fun _ => rfl) rfl (fun r460 u460 H locs hw hP hD hS => ?_)
  refine lv_istore (lv' := [(6, .int r460), (5, .int r442), (0, .ref b), (1, .ref (qR 0)), (2, .ref (qM 0)), (3, .ref qo), (4, .int i4)]) hx hb d_L_law_463 hl (by decide) rfl (fun ls hl => ?_)
  refine lv_aload_n hx hb d_L_law_465 rfl (lv_at hl 4 rfl) ?_
  refine x_ci (w2 := fun _ => (wd_RUIWMo qR qU qI qW qM qo cI cZ cL u442.1 u442.2.1 u442.2.2.1 u442.2.2.2.1 u460 u442.2.2.2.2)) [25, 26, 27, 28, 29, 30, 31, 32, 33, 34, 35, 36, 37, 38, 39, 40, 41, 42, 43, 44, 45, 46] [0, 1, 2, 3, 4, 5, 6, 7, 8, 9, 10, 11, 12, 13, 14, 15, 16, 17, 18, 19, 20, 21, 22, 23, 24, 47] [0, 1, 2, 3, 4, 5, 6, 7, 8, 9, 10, 11, 12, 13, 14, 15, 16, 17, 18, 19, 20, 21, 22, 23, 24, 26, 27, 28, 29, 30, 31, 32, 33, 34, 35, 36, 37, 38, 39, 40, 41, 42, 43, 44, 45, 46, 47, 25] (va_runV (As := []) (rest := []) ⟨hx, hb, hml, hown, hts⟩ (c_M_thrown l dC dI cI cZ cL qM _ u460 _ hw) (cwV 0 hts (x_gV k_658 k_659 k_660 k_30 k_661) rfl rfl rfl (by decide +kernel) ⟨Nat.le_of_ble_eq_true rfl, Nat.le_of_ble_eq_true rfl⟩) ⟨x_blind, va_recv hK hP (ci := 4) (q0 := 25) rfl rfl, fun U hU hW => x_pre (isC := [25, 26, 27, 28, 29, 30, 31, 32, 33, 34, 35, 36, 37, 38, 39, 40, 41, 42, 43, 44, 45, 46]) hK hP hD rfl rfl hU hW⟩ rfl rfl hl.1 rfl (lv_room (Nat.le_of_ble_eq_true rfl)) d_L_law_466 ⟨by show _ ≤ 1078; omega, by show _ ≤ 9437; omega⟩) hP hD hS hA rfl rfl rfl (by decide) (fun _ => rfl) rfl (fun r466 _ H locs hw hP hD hS => ?_)
  refine lv_iload hx hb d_L_law_469 (lv_at hl 1 rfl) ?_
  refine lv_icmp_eq (tgt := 476) hx hb d_L_law_471 (by decide) (fun c471 => ?_) (fun c471 => ?_)
  · have hw := hw.1 c471
    refine lv_iload hx hb d_L_law_476 (lv_at hl 1 rfl) ?_
    refine lv_if_ne (tgt := 493) hx hb d_L_law_478 (by decide) (fun c478 => ?_) (fun c478 => ?_)
    · have hw := hw.1 c478
      refine lv_goto (tgt := 1120) hx hb d_L_law_493 (by decide) ?_
      obtain ⟨v4_1120, ev4_1120⟩ : ∃ y : Int32, y = i4 + 5 := ⟨_, rfl⟩
      have hw := hw v4_1120 ev4_1120
      refine lv_iinc (v := v4_1120) (lv' := [(4, .int v4_1120), (6, .int r460), (5, .int r442), (0, .ref b), (1, .ref (qR 0)), (2, .ref (qM 0)), (3, .ref qo)]) hx hb d_L_law_1120 hl (k := 6) rfl (by rw [ev4_1120]; rfl) (by decide) rfl (fun ls hl => ?_)
      refine lv_goto (tgt := 23) hx hb d_L_law_1123 (by decide) ?_
      refine W.widen (k := 48 + (j + 1)) (n := 1209 + 6 * (j + 1)) (by omega) (by omega) ?_
      exact ih (j + 1) rfl u442.1 u442.2.1 u442.2.2.1 u442.2.2.2.1 u460 u442.2.2.2.2 v4_1120 _ _ _ hw hP hD hS (lv_sub hl [3, 4, 5, 6, 0] rfl)
    · have hw := hw.2 c478
      refine lv_aload_n hx hb d_L_law_481 rfl (lv_at hl 5 rfl) ?_
      refine lv_iconst (v := (0 : Int32)) hx hb d_L_law_482 (by decide) ?_
      obtain ⟨h483, hw⟩ := hw
      refine va_lald hx hb hK hP 47 2 rfl rfl h483 d_L_law_483 ?_
      refine lv_iload hx hb d_L_law_484 (lv_at hl 0 rfl) ?_
      refine lv_i2l (v := r460.toInt64) hx hb d_L_law_486 rfl ?_
      refine W.lcmp hx hb d_L_law_487 ?_
      refine lv_if_eq (tgt := 493) hx hb d_L_law_488 (by decide) (fun c488 => ?_) (fun c488 => ?_)
      · have hw := hw.1 c488
        refine lv_goto (tgt := 1120) hx hb d_L_law_493 (by decide) ?_
        obtain ⟨v4_1120, ev4_1120⟩ : ∃ y : Int32, y = i4 + 5 := ⟨_, rfl⟩
        have hw := hw v4_1120 ev4_1120
        refine lv_iinc (v := v4_1120) (lv' := [(4, .int v4_1120), (6, .int r460), (5, .int r442), (0, .ref b), (1, .ref (qR 0)), (2, .ref (qM 0)), (3, .ref qo)]) hx hb d_L_law_1120 hl (k := 6) rfl (by rw [ev4_1120]; rfl) (by decide) rfl (fun ls hl => ?_)
        refine lv_goto (tgt := 23) hx hb d_L_law_1123 (by decide) ?_
        refine W.widen (k := 48 + (j + 1)) (n := 1209 + 6 * (j + 1)) (by omega) (by omega) ?_
        exact ih (j + 1) rfl u442.1 u442.2.1 u442.2.2.1 u442.2.2.2.1 u460 u442.2.2.2.2 v4_1120 _ _ _ hw hP hD hS (lv_sub hl [3, 4, 5, 6, 0] rfl)
      · have hw := hw.2 c488
        refine lv_iconst (v := (0 : Int32)) hx hb d_L_law_491 (by decide) ?_
        exact hw.elim
  · have hw := hw.2 c471
    refine lv_iconst (v := (0 : Int32)) hx hb d_L_law_474 (by decide) ?_
    exact hw.elim
