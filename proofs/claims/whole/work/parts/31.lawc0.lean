def wc_law_0 (xs : Nat → Int32) (L : Nat) (rec23 : St → St → St → St → St → (Nat → Int64) → Int32 → Prop) (xR : St) (xU : St) (xI : St) (xW : St) (xM : St) (xo : (Nat → Int64)) (i4 : Int32) : Prop := vp_in (i4 + (1 : Int32)) L ∧ (vp_in (i4 + (2 : Int32)) L ∧ (vp_in (i4 + (3 : Int32)) L ∧ (vp_in (i4 + (4 : Int32)) L ∧ (wp_L_unit xR xU xI xW xo (xs (i4 + (1 : Int32)).toNatClampNeg) (xs (i4 + (2 : Int32)).toNatClampNeg) (xs (i4 + (3 : Int32)).toNatClampNeg) (xs (i4 + (4 : Int32)).toNatClampNeg) (fun r146 u146 => (vp_in (i4 + (1 : Int32)) L ∧ (vp_in (i4 + (2 : Int32)) L ∧ (vp_in (i4 + (3 : Int32)) L ∧ (vp_in (i4 + (4 : Int32)) L ∧ (wp_M_unit xM (xs (i4 + (1 : Int32)).toNatClampNeg) (xs (i4 + (2 : Int32)).toNatClampNeg) (xs (i4 + (3 : Int32)).toNatClampNeg) (xs (i4 + (4 : Int32)).toNatClampNeg) (fun r176 u176 => (wp_M_thrown u176 (fun r182 _ => ((r182 = r146 → ((¬ r146 = 0 → (∀ v4_1120 : Int32, v4_1120 = i4 + 5 → (rec23 u146.1 u146.2.1 u146.2.2.1 u146.2.2.2.1 u176 u146.2.2.2.2 v4_1120))) ∧ (r146 = 0 → (vp_in (0 : Int32) 1 ∧ (((lg_cmp (u146.2.2.2.2 (0 : Int32).toNatClampNeg) r176.toInt64) = 0 → (∀ v4_1120 : Int32, v4_1120 = i4 + 5 → (rec23 u146.1 u146.2.1 u146.2.2.1 u146.2.2.2.1 u176 u146.2.2.2.2 v4_1120))) ∧ (¬ (lg_cmp (u146.2.2.2.2 (0 : Int32).toNatClampNeg) r176.toInt64) = 0 → (False))))))) ∧ (¬ r182 = r146 → (False))))))))))))))))
set_option maxHeartbeats 8000000 in
set_option maxRecDepth 100000 in
theorem lawcase_0 {p : Program} {l : Launch} {e : Env} {s : State} {m : MethodId} {below : List Frame} {meth : Method} {c : Code} {dC : Nat → ClassId} {dI : Nat → Nat → Nat} {cI cZ cL : ClassId} {qR qU qI qW qM : Nat → Nat} {qo : Nat} {sa : Nat → Nat} {b L : Nat} {xs : Nat → Int32} (hl9 : l.stackTraces = false) {j : Nat} (hLj : j ≤ 512) (C0 : lw_At p s m meth c b L xs) (hK : va_K (dC, dI) vwCl [(cI, .int), (cZ, .boolean), (cL, .long)] s) (hE : xE "ReleaseRows" xTx sa (fun q : Nat => s.heap.size ≤ q) s.heap s) (hN : xN s) {rec23 : St → St → St → St → St → (Nat → Int64) → Int32 → Prop}
    (ih : ∀ j1 : Nat, j1 = j + 1 → ∀ (xR : St) (xU : St) (xI : St) (xW : St) (xM : St) (xo : (Nat → Int64)) (i4 : Int32) (H : Heap) (locs : List Loc) (ls : Array Slot), rec23 xR xU xI xW xM xo i4 → va_P (dC, dI) vwCl (wd_RUIWMo qR qU qI qW qM qo cI cZ cL xR xU xI xW xM xo) H → va_D (fun q : Nat => s.heap.size ≤ q) (wd_RUIWMo qR qU qI qW qM qo cI cZ cL xR xU xI xW xM xo) → va_S (fun q : Nat => s.heap.size ≤ q) s.heap H locs → lv_has ls 7 [(0, .ref b), (1, .ref (qR 0)), (2, .ref (qM 0)), (3, .ref qo), (4, .int i4)] → W p l e room_1 s m #[Value.ref b] below meth c H locs (48 + j1) (1209 + 6 * j1) (lw_Z below #[Value.ref b] s) (F0 m 23 ls []))
    : ∀ (xR : St) (xU : St) (xI : St) (xW : St) (xM : St) (xo : (Nat → Int64)) (i4 : Int32) (H : Heap) (locs : List Loc) (ls : Array Slot), wc_law_0 xs L rec23 xR xU xI xW xM xo i4 → va_P (dC, dI) vwCl (wd_RUIWMo qR qU qI qW qM qo cI cZ cL xR xU xI xW xM xo) H → va_D (fun q : Nat => s.heap.size ≤ q) (wd_RUIWMo qR qU qI qW qM qo cI cZ cL xR xU xI xW xM xo) → va_S (fun q : Nat => s.heap.size ≤ q) s.heap H locs → lv_has ls 7 [(0, .ref b), (1, .ref (qR 0)), (2, .ref (qM 0)), (3, .ref qo), (4, .int i4)] → W p l e room_1 s m #[Value.ref b] below meth c H locs (48 + j) (1209 + 6 * j) (lw_Z below #[Value.ref b] s) (F0 m 120 ls []) := by
  obtain ⟨hx, hb, hr, hml, hown, hts0, hX, hbl, hlocks, hgv⟩ := C0
  have hts : ∀ w ∈ gG, w.before #[Value.ref b] s = true := fun w h => hts0 w (List.mem_filter.mp h).1
  have hA : ∀ q : Nat, s.heap.size ≤ q → (fun q : Nat => s.heap.size ≤ q) q := fun _ h => h
  have hbA : ¬ (fun q : Nat => s.heap.size ≤ q) b := Nat.not_le.mpr hbl
  intro xR xU xI xW xM xo i4 H locs ls hw hP hD hS hl
  unfold wc_law_0 at hw
  refine lv_aload_n hx hb d_L_law_120 rfl (lv_at hl 1 rfl) ?_
  refine lv_aload_n hx hb d_L_law_121 rfl (lv_at hl 0 rfl) ?_
  refine lv_iload hx hb d_L_law_122 (lv_at hl 4 rfl) ?_
  refine lv_iconst (v := (1 : Int32)) hx hb d_L_law_124 (by decide) ?_
  refine lv_iadd hx hb d_L_law_125 ?_
  obtain ⟨h126, hw⟩ := hw
  refine va_sld hx hb hX hbl hbA hS h126 d_L_law_126 ?_
  refine lv_aload_n hx hb d_L_law_127 rfl (lv_at hl 0 rfl) ?_
  refine lv_iload hx hb d_L_law_128 (lv_at hl 4 rfl) ?_
  refine lv_iconst (v := (2 : Int32)) hx hb d_L_law_130 (by decide) ?_
  refine lv_iadd hx hb d_L_law_131 ?_
  obtain ⟨h132, hw⟩ := hw
  refine va_sld hx hb hX hbl hbA hS h132 d_L_law_132 ?_
  refine lv_aload_n hx hb d_L_law_133 rfl (lv_at hl 0 rfl) ?_
  refine lv_iload hx hb d_L_law_134 (lv_at hl 4 rfl) ?_
  refine lv_iconst (v := (3 : Int32)) hx hb d_L_law_136 (by decide) ?_
  refine lv_iadd hx hb d_L_law_137 ?_
  obtain ⟨h138, hw⟩ := hw
  refine va_sld hx hb hX hbl hbA hS h138 d_L_law_138 ?_
  refine lv_aload_n hx hb d_L_law_139 rfl (lv_at hl 0 rfl) ?_
  refine lv_iload hx hb d_L_law_140 (lv_at hl 4 rfl) ?_
  refine lv_iconst (v := (4 : Int32)) hx hb d_L_law_142 (by decide) ?_
  refine lv_iadd hx hb d_L_law_143 ?_
  obtain ⟨h144, hw⟩ := hw
  refine va_sld hx hb hX hbl hbA hS h144 d_L_law_144 ?_
  refine lv_aload_n hx hb d_L_law_145 rfl (lv_at hl 3 rfl) ?_
  refine x_ci2 (w2 := fun u146 => (wd_RUIWMo qR qU qI qW qM qo cI cZ cL u146.1 u146.2.1 u146.2.2.1 u146.2.2.2.1 xM u146.2.2.2.2)) [(qM 0, .inr (4, [.int (xM.2 0), .int (xM.2 1), .int (xM.2 2), .int (xM.2 3), .ref (qM 5), .ref (qM 6), .ref (qM 7), .ref (qM 8), .ref (qM 9), .ref (qM 10), .ref (qM 11), .ref (qM 12), .ref (qM 13), .ref (qM 14), .ref (qM 15), .int (xM.2 15), .ref (qM 17), .ref (qM 18), .ref (qM 19), .ref (qM 20), .ref (qM 21), .ref (qM 22), .ref (qM 23), .ref (qM 24), .ref (qM 25), .int (xM.2 25), .ref (qM 27)])), (qM 5, .inl (cI, 24, .inl (xM.1 4))), (qM 6, .inl (cI, 24, .inl (xM.1 5))), (qM 7, .inl (cI, 24, .inl (xM.1 6))), (qM 8, .inl (cI, 24, .inl (xM.1 7))), (qM 9, .inl (cI, 24, .inl (xM.1 8))), (qM 10, .inl (cI, 24, .inl (xM.1 9))), (qM 11, .inl (cI, 24, .inl (xM.1 10))), (qM 12, .inl (cI, 24, .inl (xM.1 11))), (qM 13, .inl (cI, 24, .inl (xM.1 12))), (qM 14, .inl (cI, 144, .inl (xM.1 13))), (qM 15, .inl (cI, 6, .inl (xM.1 14))), (qM 17, .inl (cI, 20, .inl (xM.1 16))), (qM 18, .inl (cZ, 20, .inl (xM.1 17))), (qM 19, .inl (cZ, 20, .inl (xM.1 18))), (qM 20, .inl (cI, 20, .inl (xM.1 19))), (qM 21, .inl (cI, 20, .inl (xM.1 20))), (qM 22, .inl (cI, 20, .inl (xM.1 21))), (qM 23, .inl (cI, 20, .inl (xM.1 22))), (qM 24, .inl (cI, 20, .inl (xM.1 23))), (qM 25, .inl (cI, 20, .inl (xM.1 24))), (qM 27, .inl (cI, 30, .inl (xM.1 26)))] [0, 1, 2, 3, 4, 5, 6, 7, 8, 9, 10, 11, 12, 13, 14, 15, 16, 17, 18, 19, 20, 21, 22, 23, 24, 47] [25, 26, 27, 28, 29, 30, 31, 32, 33, 34, 35, 36, 37, 38, 39, 40, 41, 42, 43, 44, 45, 46] [22, 23, 24, 25, 26, 27, 28, 29, 30, 31, 32, 33, 34, 35, 36, 37, 38, 39, 40, 41, 42, 43, 44, 45, 46, 0, 1, 2, 3, 4, 5, 6, 7, 8, 9, 10, 11, 12, 13, 14, 15, 16, 17, 18, 19, 20, 21, 47] (vx_runSW (hh := [(0, 14, 17, 13), (0, 14, 21, 15)]) (As := [.ref (qR 0), .int (xs (i4 + (1 : Int32)).toNatClampNeg), .int (xs (i4 + (2 : Int32)).toNatClampNeg), .int (xs (i4 + (3 : Int32)).toNatClampNeg), .int (xs (i4 + (4 : Int32)).toNatClampNeg), .ref qo]) (rest := []) ⟨hx, hb, hml, hown, hts⟩ (c_L_unit l hl9 sa dC dI cI cZ cL qR qU qI qW qo _ xR xU xI xW xo (xs (i4 + (1 : Int32)).toNatClampNeg) (xs (i4 + (2 : Int32)).toNatClampNeg) (xs (i4 + (3 : Int32)).toNatClampNeg) (xs (i4 + (4 : Int32)).toNatClampNeg) _ hw) (vx_cwSW 6 hts (x_gW k_176 k_177 k_25 k_178) rfl rfl rfl (by decide +kernel) ⟨Nat.le_of_ble_eq_true rfl, Nat.le_of_ble_eq_true rfl⟩) ⟨x_blindN, fun U hU hW => x_preN (isC := [0, 1, 2, 3, 4, 5, 6, 7, 8, 9, 10, 11, 12, 13, 14, 15, 16, 17, 18, 19, 20, 21, 22, 23, 24, 47]) hK hP hD hS hA hE hN rfl rfl hU hW⟩ rfl rfl hl.1 rfl (lv_room (Nat.le_of_ble_eq_true rfl)) d_L_law_146 ⟨by show _ ≤ 1078; omega, by show _ ≤ 9437; omega⟩) hP hD hS hA rfl rfl rfl (by decide +kernel) (fun _ => rfl) rfl (fun r146 u146 H locs hw hP hD hS => ?_)
  refine lv_istore (lv' := [(5, .int r146), (0, .ref b), (1, .ref (qR 0)), (2, .ref (qM 0)), (3, .ref qo), (4, .int i4)]) hx hb d_L_law_149 hl (by decide) rfl (fun ls hl => ?_)
  refine lv_aload_n hx hb d_L_law_151 rfl (lv_at hl 3 rfl) ?_
  refine lv_aload_n hx hb d_L_law_152 rfl (lv_at hl 1 rfl) ?_
  refine lv_iload hx hb d_L_law_153 (lv_at hl 5 rfl) ?_
  refine lv_iconst (v := (1 : Int32)) hx hb d_L_law_155 (by decide) ?_
  refine lv_iadd hx hb d_L_law_156 ?_
  obtain ⟨h157, hw⟩ := hw
  refine va_sld hx hb hX hbl hbA hS h157 d_L_law_157 ?_
  refine lv_aload_n hx hb d_L_law_158 rfl (lv_at hl 1 rfl) ?_
  refine lv_iload hx hb d_L_law_159 (lv_at hl 5 rfl) ?_
  refine lv_iconst (v := (2 : Int32)) hx hb d_L_law_161 (by decide) ?_
  refine lv_iadd hx hb d_L_law_162 ?_
  obtain ⟨h163, hw⟩ := hw
  refine va_sld hx hb hX hbl hbA hS h163 d_L_law_163 ?_
  refine lv_aload_n hx hb d_L_law_164 rfl (lv_at hl 1 rfl) ?_
  refine lv_iload hx hb d_L_law_165 (lv_at hl 5 rfl) ?_
  refine lv_iconst (v := (3 : Int32)) hx hb d_L_law_167 (by decide) ?_
  refine lv_iadd hx hb d_L_law_168 ?_
  obtain ⟨h169, hw⟩ := hw
  refine va_sld hx hb hX hbl hbA hS h169 d_L_law_169 ?_
  refine lv_aload_n hx hb d_L_law_170 rfl (lv_at hl 1 rfl) ?_
  refine lv_iload hx hb d_L_law_171 (lv_at hl 5 rfl) ?_
  refine lv_iconst (v := (4 : Int32)) hx hb d_L_law_173 (by decide) ?_
  refine lv_iadd hx hb d_L_law_174 ?_
  obtain ⟨h175, hw⟩ := hw
  refine va_sld hx hb hX hbl hbA hS h175 d_L_law_175 ?_
  refine x_ci2 (w2 := fun u176 => (wd_RUIWMo qR qU qI qW qM qo cI cZ cL u146.1 u146.2.1 u146.2.2.1 u146.2.2.2.1 u176 u146.2.2.2.2)) [(qR 0, .inr (3, [.ref (qU 0), .ref (qI 0), .ref (qW 0), .ref (qR 4), .int (u146.1.2 4), .int (u146.1.2 5)])), (qR 4, .inl (cI, 6, .inl (u146.1.1 3))), (qU 0, .inr (1, [.ref (qU 1), .ref (qU 2), .ref (qU 3), .ref (qU 4), .ref (qU 5), .ref (qU 6), .ref (qU 7), .ref (qU 8), .ref (qU 9), .ref (qU 10), .int (u146.2.1.2 10)])), (qU 1, .inl (cI, 24, .inl (u146.2.1.1 0))), (qU 2, .inl (cI, 24, .inl (u146.2.1.1 1))), (qU 3, .inl (cI, 24, .inl (u146.2.1.1 2))), (qU 4, .inl (cI, 24, .inl (u146.2.1.1 3))), (qU 5, .inl (cI, 24, .inl (u146.2.1.1 4))), (qU 6, .inl (cI, 24, .inl (u146.2.1.1 5))), (qU 7, .inl (cI, 24, .inl (u146.2.1.1 6))), (qU 8, .inl (cI, 24, .inl (u146.2.1.1 7))), (qU 9, .inl (cI, 24, .inl (u146.2.1.1 8))), (qU 10, .inl (cI, 144, .inl (u146.2.1.1 9))), (qI 0, .inr (0, [.ref (qI 1), .ref (qI 2), .ref (qI 3), .ref (qI 4), .ref (qI 5), .ref (qI 6), .ref (qI 7), .ref (qI 8), .ref (qI 9), .int (u146.2.2.1.2 9)])), (qI 1, .inl (cI, 20, .inl (u146.2.2.1.1 0))), (qI 2, .inl (cZ, 20, .inl (u146.2.2.1.1 1))), (qI 3, .inl (cZ, 20, .inl (u146.2.2.1.1 2))), (qI 4, .inl (cI, 20, .inl (u146.2.2.1.1 3))), (qI 5, .inl (cI, 20, .inl (u146.2.2.1.1 4))), (qI 6, .inl (cI, 20, .inl (u146.2.2.1.1 5))), (qI 7, .inl (cI, 20, .inl (u146.2.2.1.1 6))), (qI 8, .inl (cI, 20, .inl (u146.2.2.1.1 7))), (qI 9, .inl (cI, 20, .inl (u146.2.2.1.1 8))), (qW 0, .inr (2, [.ref (qW 1), .int (u146.2.2.2.1.2 1)])), (qW 1, .inl (cI, 30, .inl (u146.2.2.2.1.1 0))), (qo, .inl (cL, 1, .inr (.inl u146.2.2.2.2)))] [25, 26, 27, 28, 29, 30, 31, 32, 33, 34, 35, 36, 37, 38, 39, 40, 41, 42, 43, 44, 45, 46] [0, 1, 2, 3, 4, 5, 6, 7, 8, 9, 10, 11, 12, 13, 14, 15, 16, 17, 18, 19, 20, 21, 22, 23, 24, 47] [0, 1, 2, 3, 4, 5, 6, 7, 8, 9, 10, 11, 12, 13, 14, 15, 16, 17, 18, 19, 20, 21, 22, 23, 24, 26, 27, 28, 29, 30, 31, 32, 33, 34, 35, 36, 37, 38, 39, 40, 41, 42, 43, 44, 45, 46, 47, 25] (va_runV (As := [.int (xs (i4 + (1 : Int32)).toNatClampNeg), .int (xs (i4 + (2 : Int32)).toNatClampNeg), .int (xs (i4 + (3 : Int32)).toNatClampNeg), .int (xs (i4 + (4 : Int32)).toNatClampNeg)]) (rest := []) ⟨hx, hb, hml, hown, hts⟩ (c_M_unit l dC dI cI cZ cL qM _ xM (xs (i4 + (1 : Int32)).toNatClampNeg) (xs (i4 + (2 : Int32)).toNatClampNeg) (xs (i4 + (3 : Int32)).toNatClampNeg) (xs (i4 + (4 : Int32)).toNatClampNeg) _ hw) (cwV 4 hts (x_gV k_662 k_663 k_664 k_30 k_665) rfl rfl rfl (by decide +kernel) ⟨Nat.le_of_ble_eq_true rfl, Nat.le_of_ble_eq_true rfl⟩) ⟨x_blind, va_recv hK hP (ci := 4) (q0 := 25) rfl rfl, fun U hU hW => x_pre (isC := [25, 26, 27, 28, 29, 30, 31, 32, 33, 34, 35, 36, 37, 38, 39, 40, 41, 42, 43, 44, 45, 46]) hK hP hD rfl rfl hU hW⟩ rfl rfl hl.1 rfl (lv_room (Nat.le_of_ble_eq_true rfl)) d_L_law_176 ⟨by show _ ≤ 1078; omega, by show _ ≤ 9437; omega⟩) hP hD hS hA rfl rfl rfl (by decide +kernel) (fun _ => rfl) rfl (fun r176 u176 H locs hw hP hD hS => ?_)
  refine lv_istore (lv' := [(6, .int r176), (5, .int r146), (0, .ref b), (1, .ref (qR 0)), (2, .ref (qM 0)), (3, .ref qo), (4, .int i4)]) hx hb d_L_law_179 hl (by decide) rfl (fun ls hl => ?_)
  refine lv_aload_n hx hb d_L_law_181 rfl (lv_at hl 4 rfl) ?_
  refine x_ci2 (w2 := fun _ => (wd_RUIWMo qR qU qI qW qM qo cI cZ cL u146.1 u146.2.1 u146.2.2.1 u146.2.2.2.1 u176 u146.2.2.2.2)) [(qR 0, .inr (3, [.ref (qU 0), .ref (qI 0), .ref (qW 0), .ref (qR 4), .int (u146.1.2 4), .int (u146.1.2 5)])), (qR 4, .inl (cI, 6, .inl (u146.1.1 3))), (qU 0, .inr (1, [.ref (qU 1), .ref (qU 2), .ref (qU 3), .ref (qU 4), .ref (qU 5), .ref (qU 6), .ref (qU 7), .ref (qU 8), .ref (qU 9), .ref (qU 10), .int (u146.2.1.2 10)])), (qU 1, .inl (cI, 24, .inl (u146.2.1.1 0))), (qU 2, .inl (cI, 24, .inl (u146.2.1.1 1))), (qU 3, .inl (cI, 24, .inl (u146.2.1.1 2))), (qU 4, .inl (cI, 24, .inl (u146.2.1.1 3))), (qU 5, .inl (cI, 24, .inl (u146.2.1.1 4))), (qU 6, .inl (cI, 24, .inl (u146.2.1.1 5))), (qU 7, .inl (cI, 24, .inl (u146.2.1.1 6))), (qU 8, .inl (cI, 24, .inl (u146.2.1.1 7))), (qU 9, .inl (cI, 24, .inl (u146.2.1.1 8))), (qU 10, .inl (cI, 144, .inl (u146.2.1.1 9))), (qI 0, .inr (0, [.ref (qI 1), .ref (qI 2), .ref (qI 3), .ref (qI 4), .ref (qI 5), .ref (qI 6), .ref (qI 7), .ref (qI 8), .ref (qI 9), .int (u146.2.2.1.2 9)])), (qI 1, .inl (cI, 20, .inl (u146.2.2.1.1 0))), (qI 2, .inl (cZ, 20, .inl (u146.2.2.1.1 1))), (qI 3, .inl (cZ, 20, .inl (u146.2.2.1.1 2))), (qI 4, .inl (cI, 20, .inl (u146.2.2.1.1 3))), (qI 5, .inl (cI, 20, .inl (u146.2.2.1.1 4))), (qI 6, .inl (cI, 20, .inl (u146.2.2.1.1 5))), (qI 7, .inl (cI, 20, .inl (u146.2.2.1.1 6))), (qI 8, .inl (cI, 20, .inl (u146.2.2.1.1 7))), (qI 9, .inl (cI, 20, .inl (u146.2.2.1.1 8))), (qW 0, .inr (2, [.ref (qW 1), .int (u146.2.2.2.1.2 1)])), (qW 1, .inl (cI, 30, .inl (u146.2.2.2.1.1 0))), (qo, .inl (cL, 1, .inr (.inl u146.2.2.2.2)))] [25, 26, 27, 28, 29, 30, 31, 32, 33, 34, 35, 36, 37, 38, 39, 40, 41, 42, 43, 44, 45, 46] [0, 1, 2, 3, 4, 5, 6, 7, 8, 9, 10, 11, 12, 13, 14, 15, 16, 17, 18, 19, 20, 21, 22, 23, 24, 47] [0, 1, 2, 3, 4, 5, 6, 7, 8, 9, 10, 11, 12, 13, 14, 15, 16, 17, 18, 19, 20, 21, 22, 23, 24, 26, 27, 28, 29, 30, 31, 32, 33, 34, 35, 36, 37, 38, 39, 40, 41, 42, 43, 44, 45, 46, 47, 25] (va_runV (As := []) (rest := []) ⟨hx, hb, hml, hown, hts⟩ (c_M_thrown l dC dI cI cZ cL qM _ u176 _ hw) (cwV 0 hts (x_gV k_658 k_659 k_660 k_30 k_661) rfl rfl rfl (by decide +kernel) ⟨Nat.le_of_ble_eq_true rfl, Nat.le_of_ble_eq_true rfl⟩) ⟨x_blind, va_recv hK hP (ci := 4) (q0 := 25) rfl rfl, fun U hU hW => x_pre (isC := [25, 26, 27, 28, 29, 30, 31, 32, 33, 34, 35, 36, 37, 38, 39, 40, 41, 42, 43, 44, 45, 46]) hK hP hD rfl rfl hU hW⟩ rfl rfl hl.1 rfl (lv_room (Nat.le_of_ble_eq_true rfl)) d_L_law_182 ⟨by show _ ≤ 1078; omega, by show _ ≤ 9437; omega⟩) hP hD hS hA rfl rfl rfl (by decide +kernel) (fun _ => rfl) rfl (fun r182 _ H locs hw hP hD hS => ?_)
  refine lv_iload hx hb d_L_law_185 (lv_at hl 1 rfl) ?_
  refine lv_icmp_eq (tgt := 192) hx hb d_L_law_187 (by decide) (fun c187 => ?_) (fun c187 => ?_)
  · have hw := hw.1 c187
    refine lv_iload hx hb d_L_law_192 (lv_at hl 1 rfl) ?_
    refine lv_if_ne (tgt := 209) hx hb d_L_law_194 (by decide) (fun c194 => ?_) (fun c194 => ?_)
    · have hw := hw.1 c194
      refine lv_goto (tgt := 1120) hx hb d_L_law_209 (by decide) ?_
      obtain ⟨v4_1120, ev4_1120⟩ : ∃ y : Int32, y = i4 + 5 := ⟨_, rfl⟩
      have hw := hw v4_1120 ev4_1120
      refine lv_iinc (v := v4_1120) (lv' := [(4, .int v4_1120), (6, .int r176), (5, .int r146), (0, .ref b), (1, .ref (qR 0)), (2, .ref (qM 0)), (3, .ref qo)]) hx hb d_L_law_1120 hl (k := 6) rfl (by rw [ev4_1120]; rfl) (by decide) rfl (fun ls hl => ?_)
      refine lv_goto (tgt := 23) hx hb d_L_law_1123 (by decide) ?_
      refine W.widen (k := 48 + (j + 1)) (n := 1209 + 6 * (j + 1)) (by omega) (by omega) ?_
      exact ih (j + 1) rfl u146.1 u146.2.1 u146.2.2.1 u146.2.2.2.1 u176 u146.2.2.2.2 v4_1120 _ _ _ hw hP hD hS (lv_sub hl [3, 4, 5, 6, 0] rfl)
    · have hw := hw.2 c194
      refine lv_aload_n hx hb d_L_law_197 rfl (lv_at hl 5 rfl) ?_
      refine lv_iconst (v := (0 : Int32)) hx hb d_L_law_198 (by decide) ?_
      obtain ⟨h199, hw⟩ := hw
      refine va_lald hx hb hK hP 47 2 rfl rfl h199 d_L_law_199 ?_
      refine lv_iload hx hb d_L_law_200 (lv_at hl 0 rfl) ?_
      refine lv_i2l (v := r176.toInt64) hx hb d_L_law_202 rfl ?_
      refine W.lcmp hx hb d_L_law_203 ?_
      refine lv_if_eq (tgt := 209) hx hb d_L_law_204 (by decide) (fun c204 => ?_) (fun c204 => ?_)
      · have hw := hw.1 c204
        refine lv_goto (tgt := 1120) hx hb d_L_law_209 (by decide) ?_
        obtain ⟨v4_1120, ev4_1120⟩ : ∃ y : Int32, y = i4 + 5 := ⟨_, rfl⟩
        have hw := hw v4_1120 ev4_1120
        refine lv_iinc (v := v4_1120) (lv' := [(4, .int v4_1120), (6, .int r176), (5, .int r146), (0, .ref b), (1, .ref (qR 0)), (2, .ref (qM 0)), (3, .ref qo)]) hx hb d_L_law_1120 hl (k := 6) rfl (by rw [ev4_1120]; rfl) (by decide) rfl (fun ls hl => ?_)
        refine lv_goto (tgt := 23) hx hb d_L_law_1123 (by decide) ?_
        refine W.widen (k := 48 + (j + 1)) (n := 1209 + 6 * (j + 1)) (by omega) (by omega) ?_
        exact ih (j + 1) rfl u146.1 u146.2.1 u146.2.2.1 u146.2.2.2.1 u176 u146.2.2.2.2 v4_1120 _ _ _ hw hP hD hS (lv_sub hl [3, 4, 5, 6, 0] rfl)
      · have hw := hw.2 c204
        refine lv_iconst (v := (0 : Int32)) hx hb d_L_law_207 (by decide) ?_
        exact hw.elim
  · have hw := hw.2 c187
    refine lv_iconst (v := (0 : Int32)) hx hb d_L_law_190 (by decide) ?_
    exact hw.elim
