def wc_law_6 (xs : Nat → Int32) (L : Nat) (rec23 : St → St → St → St → St → (Nat → Int64) → Int32 → Prop) (xR : St) (xU : St) (xI : St) (xW : St) (xM : St) (xo : (Nat → Int64)) (i4 : Int32) : Prop := vp_in (i4 + (1 : Int32)) L ∧ (wp_L_back xR xU xI xW (xs (i4 + (1 : Int32)).toNatClampNeg) (fun r503 u503 => (vp_in (i4 + (1 : Int32)) L ∧ (wp_M_back xM (xs (i4 + (1 : Int32)).toNatClampNeg) (fun u515 => (wp_M_thrown u515 (fun r519 _ => ((r519 = r503 → (∀ v4_1120 : Int32, v4_1120 = i4 + 5 → (rec23 u503.1 u503.2.1 u503.2.2.1 u503.2.2.2 u515 xo v4_1120))) ∧ (¬ r519 = r503 → (False))))))))))
set_option maxHeartbeats 8000000 in
set_option maxRecDepth 100000 in
theorem lawcase_6 {p : Program} {l : Launch} {e : Env} {s : State} {m : MethodId} {below : List Frame} {meth : Method} {c : Code} {dC : Nat → ClassId} {dI : Nat → Nat → Nat} {cI cZ cL : ClassId} {qR qU qI qW qM : Nat → Nat} {qo : Nat} {sa : Nat → Nat} {b L : Nat} {xs : Nat → Int32} (hl9 : l.stackTraces = false) {j : Nat} (hLj : j ≤ 512) (C0 : lw_At p s m meth c b L xs) (hK : va_K (dC, dI) vwCl [(cI, .int), (cZ, .boolean), (cL, .long)] s) (hE : xE "ReleaseRows" xTx sa (fun q : Nat => s.heap.size ≤ q) s.heap s) (hN : xN s) {rec23 : St → St → St → St → St → (Nat → Int64) → Int32 → Prop}
    (ih : ∀ j1 : Nat, j1 = j + 1 → ∀ (xR : St) (xU : St) (xI : St) (xW : St) (xM : St) (xo : (Nat → Int64)) (i4 : Int32) (H : Heap) (locs : List Loc) (ls : Array Slot), rec23 xR xU xI xW xM xo i4 → va_P (dC, dI) vwCl (wd_RUIWMo qR qU qI qW qM qo cI cZ cL xR xU xI xW xM xo) H → va_D (fun q : Nat => s.heap.size ≤ q) (wd_RUIWMo qR qU qI qW qM qo cI cZ cL xR xU xI xW xM xo) → va_S (fun q : Nat => s.heap.size ≤ q) s.heap H locs → lv_has ls 7 [(0, .ref b), (1, .ref (qR 0)), (2, .ref (qM 0)), (3, .ref qo), (4, .int i4)] → W p l e room_1 s m #[Value.ref b] below meth c H locs (48 + j1) (1209 + 6 * j1) (lw_Z below #[Value.ref b] s) (F0 m 23 ls []))
    : ∀ (xR : St) (xU : St) (xI : St) (xW : St) (xM : St) (xo : (Nat → Int64)) (i4 : Int32) (H : Heap) (locs : List Loc) (ls : Array Slot), wc_law_6 xs L rec23 xR xU xI xW xM xo i4 → va_P (dC, dI) vwCl (wd_RUIWMo qR qU qI qW qM qo cI cZ cL xR xU xI xW xM xo) H → va_D (fun q : Nat => s.heap.size ≤ q) (wd_RUIWMo qR qU qI qW qM qo cI cZ cL xR xU xI xW xM xo) → va_S (fun q : Nat => s.heap.size ≤ q) s.heap H locs → lv_has ls 7 [(0, .ref b), (1, .ref (qR 0)), (2, .ref (qM 0)), (3, .ref qo), (4, .int i4)] → W p l e room_1 s m #[Value.ref b] below meth c H locs (48 + j) (1209 + 6 * j) (lw_Z below #[Value.ref b] s) (F0 m 496 ls []) := by
  obtain ⟨hx, hb, hr, hml, hown, hts0, hX, hbl, hlocks, hgv⟩ := C0
  have hts : ∀ w ∈ gG, w.before #[Value.ref b] s = true := fun w h => hts0 w (List.mem_filter.mp h).1
  have hA : ∀ q : Nat, s.heap.size ≤ q → (fun q : Nat => s.heap.size ≤ q) q := fun _ h => h
  have hbA : ¬ (fun q : Nat => s.heap.size ≤ q) b := Nat.not_le.mpr hbl
  intro xR xU xI xW xM xo i4 H locs ls hw hP hD hS hl
  unfold wc_law_6 at hw
  refine lv_aload_n hx hb d_L_law_496 rfl (lv_at hl 1 rfl) ?_
  refine lv_aload_n hx hb d_L_law_497 rfl (lv_at hl 0 rfl) ?_
  refine lv_iload hx hb d_L_law_498 (lv_at hl 4 rfl) ?_
  refine lv_iconst (v := (1 : Int32)) hx hb d_L_law_500 (by decide) ?_
  refine lv_iadd hx hb d_L_law_501 ?_
  obtain ⟨h502, hw⟩ := hw
  refine va_sld hx hb hX hbl hbA hS h502 d_L_law_502 ?_
  refine x_ci (w2 := fun u503 => (wd_RUIWMo qR qU qI qW qM qo cI cZ cL u503.1 u503.2.1 u503.2.2.1 u503.2.2.2 xM xo)) [0, 1, 2, 3, 4, 5, 6, 7, 8, 9, 10, 11, 12, 13, 14, 15, 16, 17, 18, 19, 20, 21, 22, 23, 24] [25, 26, 27, 28, 29, 30, 31, 32, 33, 34, 35, 36, 37, 38, 39, 40, 41, 42, 43, 44, 45, 46, 47] [23, 24, 25, 26, 27, 28, 29, 30, 31, 32, 33, 34, 35, 36, 37, 38, 39, 40, 41, 42, 43, 44, 45, 46, 47, 0, 1, 2, 3, 4, 5, 6, 7, 8, 9, 10, 11, 12, 13, 14, 15, 16, 17, 18, 19, 20, 21, 22] (vx_runSW (hh := [(0, 5, 8, 21), (0, 5, 11, 34)]) (As := [.ref (qR 0), .int (xs (i4 + (1 : Int32)).toNatClampNeg)]) (rest := []) ⟨hx, hb, hml, hown, hts⟩ (c_L_back l hl9 sa dC dI cI cZ cL qR qU qI qW _ xR xU xI xW (xs (i4 + (1 : Int32)).toNatClampNeg) _ hw) (vx_cwSW 2 hts (x_gW k_465 k_466 k_25 k_467) rfl rfl rfl (by decide +kernel) ⟨Nat.le_of_ble_eq_true rfl, Nat.le_of_ble_eq_true rfl⟩) ⟨x_blindN, fun U hU hW => x_preN (isC := [0, 1, 2, 3, 4, 5, 6, 7, 8, 9, 10, 11, 12, 13, 14, 15, 16, 17, 18, 19, 20, 21, 22, 23, 24]) hK hP hD hS hA hE hN rfl rfl hU hW⟩ rfl rfl hl.1 rfl (lv_room (Nat.le_of_ble_eq_true rfl)) d_L_law_503 ⟨by show _ ≤ 1078; omega, by show _ ≤ 9437; omega⟩) hP hD hS hA rfl rfl rfl (by decide) (fun _ => rfl) rfl (fun r503 u503 H locs hw hP hD hS => ?_)
  refine lv_istore (lv' := [(5, .int r503), (0, .ref b), (1, .ref (qR 0)), (2, .ref (qM 0)), (3, .ref qo), (4, .int i4)]) hx hb d_L_law_506 hl (by decide) rfl (fun ls hl => ?_)
  refine lv_aload_n hx hb d_L_law_508 rfl (lv_at hl 3 rfl) ?_
  refine lv_aload_n hx hb d_L_law_509 rfl (lv_at hl 1 rfl) ?_
  refine lv_iload hx hb d_L_law_510 (lv_at hl 5 rfl) ?_
  refine lv_iconst (v := (1 : Int32)) hx hb d_L_law_512 (by decide) ?_
  refine lv_iadd hx hb d_L_law_513 ?_
  obtain ⟨h514, hw⟩ := hw
  refine va_sld hx hb hX hbl hbA hS h514 d_L_law_514 ?_
  refine x_cv (w2 := fun u515 => (wd_RUIWMo qR qU qI qW qM qo cI cZ cL u503.1 u503.2.1 u503.2.2.1 u503.2.2.2 u515 xo)) [25, 26, 27, 28, 29, 30, 31, 32, 33, 34, 35, 36, 37, 38, 39, 40, 41, 42, 43, 44, 45, 46] [0, 1, 2, 3, 4, 5, 6, 7, 8, 9, 10, 11, 12, 13, 14, 15, 16, 17, 18, 19, 20, 21, 22, 23, 24, 47] [0, 1, 2, 3, 4, 5, 6, 7, 8, 9, 10, 11, 12, 13, 14, 15, 16, 17, 18, 19, 20, 21, 22, 23, 24, 26, 27, 28, 29, 30, 31, 32, 33, 34, 35, 36, 37, 38, 39, 40, 41, 42, 43, 44, 45, 46, 47, 25] (va_runV (As := [.int (xs (i4 + (1 : Int32)).toNatClampNeg)]) (rest := []) ⟨hx, hb, hml, hown, hts⟩ (c_M_back l dC dI cI cZ cL qM _ xM (xs (i4 + (1 : Int32)).toNatClampNeg) _ hw) (cwV 1 hts (x_gV k_756 k_757 k_758 k_30 k_759) rfl rfl rfl (by decide +kernel) ⟨Nat.le_of_ble_eq_true rfl, Nat.le_of_ble_eq_true rfl⟩) ⟨x_blind, va_recv hK hP (ci := 4) (q0 := 25) rfl rfl, fun U hU hW => x_pre (isC := [25, 26, 27, 28, 29, 30, 31, 32, 33, 34, 35, 36, 37, 38, 39, 40, 41, 42, 43, 44, 45, 46]) hK hP hD rfl rfl hU hW⟩ rfl rfl hl.1 rfl (lv_room (Nat.le_of_ble_eq_true rfl)) d_L_law_515 ⟨by show _ ≤ 1078; omega, by show _ ≤ 9437; omega⟩) hP hD hS hA rfl rfl rfl (by decide) (fun _ => rfl) rfl (fun u515 H locs hw hP hD hS => ?_)
  refine lv_aload_n hx hb d_L_law_518 rfl (lv_at hl 3 rfl) ?_
  refine x_ci (w2 := fun _ => (wd_RUIWMo qR qU qI qW qM qo cI cZ cL u503.1 u503.2.1 u503.2.2.1 u503.2.2.2 u515 xo)) [25, 26, 27, 28, 29, 30, 31, 32, 33, 34, 35, 36, 37, 38, 39, 40, 41, 42, 43, 44, 45, 46] [0, 1, 2, 3, 4, 5, 6, 7, 8, 9, 10, 11, 12, 13, 14, 15, 16, 17, 18, 19, 20, 21, 22, 23, 24, 47] [0, 1, 2, 3, 4, 5, 6, 7, 8, 9, 10, 11, 12, 13, 14, 15, 16, 17, 18, 19, 20, 21, 22, 23, 24, 26, 27, 28, 29, 30, 31, 32, 33, 34, 35, 36, 37, 38, 39, 40, 41, 42, 43, 44, 45, 46, 47, 25] (va_runV (As := []) (rest := []) ⟨hx, hb, hml, hown, hts⟩ (c_M_thrown l dC dI cI cZ cL qM _ u515 _ hw) (cwV 0 hts (x_gV k_658 k_659 k_660 k_30 k_661) rfl rfl rfl (by decide +kernel) ⟨Nat.le_of_ble_eq_true rfl, Nat.le_of_ble_eq_true rfl⟩) ⟨x_blind, va_recv hK hP (ci := 4) (q0 := 25) rfl rfl, fun U hU hW => x_pre (isC := [25, 26, 27, 28, 29, 30, 31, 32, 33, 34, 35, 36, 37, 38, 39, 40, 41, 42, 43, 44, 45, 46]) hK hP hD rfl rfl hU hW⟩ rfl rfl hl.1 rfl (lv_room (Nat.le_of_ble_eq_true rfl)) d_L_law_519 ⟨by show _ ≤ 1078; omega, by show _ ≤ 9437; omega⟩) hP hD hS hA rfl rfl rfl (by decide) (fun _ => rfl) rfl (fun r519 _ H locs hw hP hD hS => ?_)
  refine lv_iload hx hb d_L_law_522 (lv_at hl 0 rfl) ?_
  refine lv_icmp_eq (tgt := 529) hx hb d_L_law_524 (by decide) (fun c524 => ?_) (fun c524 => ?_)
  · have hw := hw.1 c524
    refine lv_goto (tgt := 1120) hx hb d_L_law_529 (by decide) ?_
    obtain ⟨v4_1120, ev4_1120⟩ : ∃ y : Int32, y = i4 + 5 := ⟨_, rfl⟩
    have hw := hw v4_1120 ev4_1120
    refine lv_iinc (v := v4_1120) (lv' := [(4, .int v4_1120), (5, .int r503), (0, .ref b), (1, .ref (qR 0)), (2, .ref (qM 0)), (3, .ref qo)]) hx hb d_L_law_1120 hl (k := 5) rfl (by rw [ev4_1120]; rfl) (by decide) rfl (fun ls hl => ?_)
    refine lv_goto (tgt := 23) hx hb d_L_law_1123 (by decide) ?_
    refine W.widen (k := 48 + (j + 1)) (n := 1209 + 6 * (j + 1)) (by omega) (by omega) ?_
    exact ih (j + 1) rfl u503.1 u503.2.1 u503.2.2.1 u503.2.2.2 u515 xo v4_1120 _ _ _ hw hP hD hS (lv_sub hl [2, 3, 4, 5, 0] rfl)
  · have hw := hw.2 c524
    refine lv_iconst (v := (0 : Int32)) hx hb d_L_law_527 (by decide) ?_
    exact hw.elim
def wc_law_7 (xs : Nat → Int32) (L : Nat) (rec23 : St → St → St → St → St → (Nat → Int64) → Int32 → Prop) (xR : St) (xU : St) (xI : St) (xW : St) (xM : St) (xo : (Nat → Int64)) (i4 : Int32) : Prop := vp_in (i4 + (1 : Int32)) L ∧ (vp_in (i4 + (2 : Int32)) L ∧ (vp_in (i4 + (3 : Int32)) L ∧ (wp_L_use xR xU xI xW xo (xs (i4 + (1 : Int32)).toNatClampNeg) (xs (i4 + (2 : Int32)).toNatClampNeg) (xs (i4 + (3 : Int32)).toNatClampNeg) (fun r552 u552 => (vp_in (i4 + (1 : Int32)) L ∧ (vp_in (i4 + (2 : Int32)) L ∧ (vp_in (i4 + (3 : Int32)) L ∧ (wp_M_use xM (xs (i4 + (1 : Int32)).toNatClampNeg) (xs (i4 + (2 : Int32)).toNatClampNeg) (xs (i4 + (3 : Int32)).toNatClampNeg) (fun r576 u576 => (wp_M_thrown u576 (fun r582 _ => ((r582 = r552 → ((¬ r552 = 0 → (∀ v4_1120 : Int32, v4_1120 = i4 + 5 → (rec23 xR u552.1 xI xW u576 u552.2 v4_1120))) ∧ (r552 = 0 → (vp_in (0 : Int32) 1 ∧ (((lg_cmp (u552.2 (0 : Int32).toNatClampNeg) r576.toInt64) = 0 → (∀ v4_1120 : Int32, v4_1120 = i4 + 5 → (rec23 xR u552.1 xI xW u576 u552.2 v4_1120))) ∧ (¬ (lg_cmp (u552.2 (0 : Int32).toNatClampNeg) r576.toInt64) = 0 → (False))))))) ∧ (¬ r582 = r552 → (False))))))))))))))
set_option maxHeartbeats 8000000 in
set_option maxRecDepth 100000 in
theorem lawcase_7 {p : Program} {l : Launch} {e : Env} {s : State} {m : MethodId} {below : List Frame} {meth : Method} {c : Code} {dC : Nat → ClassId} {dI : Nat → Nat → Nat} {cI cZ cL : ClassId} {qR qU qI qW qM : Nat → Nat} {qo : Nat} {sa : Nat → Nat} {b L : Nat} {xs : Nat → Int32} (hl9 : l.stackTraces = false) {j : Nat} (hLj : j ≤ 512) (C0 : lw_At p s m meth c b L xs) (hK : va_K (dC, dI) vwCl [(cI, .int), (cZ, .boolean), (cL, .long)] s) (hE : xE "ReleaseRows" xTx sa (fun q : Nat => s.heap.size ≤ q) s.heap s) (hN : xN s) {rec23 : St → St → St → St → St → (Nat → Int64) → Int32 → Prop}
    (ih : ∀ j1 : Nat, j1 = j + 1 → ∀ (xR : St) (xU : St) (xI : St) (xW : St) (xM : St) (xo : (Nat → Int64)) (i4 : Int32) (H : Heap) (locs : List Loc) (ls : Array Slot), rec23 xR xU xI xW xM xo i4 → va_P (dC, dI) vwCl (wd_RUIWMo qR qU qI qW qM qo cI cZ cL xR xU xI xW xM xo) H → va_D (fun q : Nat => s.heap.size ≤ q) (wd_RUIWMo qR qU qI qW qM qo cI cZ cL xR xU xI xW xM xo) → va_S (fun q : Nat => s.heap.size ≤ q) s.heap H locs → lv_has ls 7 [(0, .ref b), (1, .ref (qR 0)), (2, .ref (qM 0)), (3, .ref qo), (4, .int i4)] → W p l e room_1 s m #[Value.ref b] below meth c H locs (48 + j1) (1209 + 6 * j1) (lw_Z below #[Value.ref b] s) (F0 m 23 ls []))
    : ∀ (xR : St) (xU : St) (xI : St) (xW : St) (xM : St) (xo : (Nat → Int64)) (i4 : Int32) (H : Heap) (locs : List Loc) (ls : Array Slot), wc_law_7 xs L rec23 xR xU xI xW xM xo i4 → va_P (dC, dI) vwCl (wd_RUIWMo qR qU qI qW qM qo cI cZ cL xR xU xI xW xM xo) H → va_D (fun q : Nat => s.heap.size ≤ q) (wd_RUIWMo qR qU qI qW qM qo cI cZ cL xR xU xI xW xM xo) → va_S (fun q : Nat => s.heap.size ≤ q) s.heap H locs → lv_has ls 7 [(0, .ref b), (1, .ref (qR 0)), (2, .ref (qM 0)), (3, .ref qo), (4, .int i4)] → W p l e room_1 s m #[Value.ref b] below meth c H locs (48 + j) (1209 + 6 * j) (lw_Z below #[Value.ref b] s) (F0 m 532 ls []) := by
  obtain ⟨hx, hb, hr, hml, hown, hts0, hX, hbl, hlocks, hgv⟩ := C0
  have hts : ∀ w ∈ gG, w.before #[Value.ref b] s = true := fun w h => hts0 w (List.mem_filter.mp h).1
  have hA : ∀ q : Nat, s.heap.size ≤ q → (fun q : Nat => s.heap.size ≤ q) q := fun _ h => h
  have hbA : ¬ (fun q : Nat => s.heap.size ≤ q) b := Nat.not_le.mpr hbl
  intro xR xU xI xW xM xo i4 H locs ls hw hP hD hS hl
  unfold wc_law_7 at hw
  refine lv_aload_n hx hb d_L_law_532 rfl (lv_at hl 1 rfl) ?_
  refine lv_aload_n hx hb d_L_law_533 rfl (lv_at hl 0 rfl) ?_
  refine lv_iload hx hb d_L_law_534 (lv_at hl 4 rfl) ?_
  refine lv_iconst (v := (1 : Int32)) hx hb d_L_law_536 (by decide) ?_
  refine lv_iadd hx hb d_L_law_537 ?_
  obtain ⟨h538, hw⟩ := hw
  refine va_sld hx hb hX hbl hbA hS h538 d_L_law_538 ?_
  refine lv_aload_n hx hb d_L_law_539 rfl (lv_at hl 0 rfl) ?_
  refine lv_iload hx hb d_L_law_540 (lv_at hl 4 rfl) ?_
  refine lv_iconst (v := (2 : Int32)) hx hb d_L_law_542 (by decide) ?_
  refine lv_iadd hx hb d_L_law_543 ?_
  obtain ⟨h544, hw⟩ := hw
  refine va_sld hx hb hX hbl hbA hS h544 d_L_law_544 ?_
  refine lv_aload_n hx hb d_L_law_545 rfl (lv_at hl 0 rfl) ?_
  refine lv_iload hx hb d_L_law_546 (lv_at hl 4 rfl) ?_
  refine lv_iconst (v := (3 : Int32)) hx hb d_L_law_548 (by decide) ?_
  refine lv_iadd hx hb d_L_law_549 ?_
  obtain ⟨h550, hw⟩ := hw
  refine va_sld hx hb hX hbl hbA hS h550 d_L_law_550 ?_
  refine lv_aload_n hx hb d_L_law_551 rfl (lv_at hl 3 rfl) ?_
  refine x_ci (w2 := fun u552 => (wd_RUIWMo qR qU qI qW qM qo cI cZ cL xR u552.1 xI xW xM u552.2)) [0, 1, 2, 3, 4, 5, 6, 7, 8, 9, 10, 11, 12, 13, 14, 15, 16, 17, 18, 19, 20, 21, 22, 23, 24, 47] [25, 26, 27, 28, 29, 30, 31, 32, 33, 34, 35, 36, 37, 38, 39, 40, 41, 42, 43, 44, 45, 46] [22, 23, 24, 25, 26, 27, 28, 29, 30, 31, 32, 33, 34, 35, 36, 37, 38, 39, 40, 41, 42, 43, 44, 45, 46, 0, 1, 2, 3, 4, 5, 6, 7, 8, 9, 10, 11, 12, 13, 14, 15, 16, 17, 18, 19, 20, 21, 47] (vx_runSW (hh := [(0, 12, 15, 21), (0, 12, 19, 13), (0, 12, 23, 34), (0, 12, 27, 15)]) (As := [.ref (qR 0), .int (xs (i4 + (1 : Int32)).toNatClampNeg), .int (xs (i4 + (2 : Int32)).toNatClampNeg), .int (xs (i4 + (3 : Int32)).toNatClampNeg), .ref qo]) (rest := []) ⟨hx, hb, hml, hown, hts⟩ (c_L_use l hl9 sa dC dI cI cZ cL qR qU qI qW qo _ xR xU xI xW xo (xs (i4 + (1 : Int32)).toNatClampNeg) (xs (i4 + (2 : Int32)).toNatClampNeg) (xs (i4 + (3 : Int32)).toNatClampNeg) _ hw) (vx_cwSW 5 hts (x_gW k_472 k_473 k_25 k_474) rfl rfl rfl (by decide +kernel) ⟨Nat.le_of_ble_eq_true rfl, Nat.le_of_ble_eq_true rfl⟩) ⟨x_blindN, fun U hU hW => x_preN (isC := [0, 1, 2, 3, 4, 5, 6, 7, 8, 9, 10, 11, 12, 13, 14, 15, 16, 17, 18, 19, 20, 21, 22, 23, 24, 47]) hK hP hD hS hA hE hN rfl rfl hU hW⟩ rfl rfl hl.1 rfl (lv_room (Nat.le_of_ble_eq_true rfl)) d_L_law_552 ⟨by show _ ≤ 1078; omega, by show _ ≤ 9437; omega⟩) hP hD hS hA rfl rfl rfl (by decide) (fun _ => rfl) rfl (fun r552 u552 H locs hw hP hD hS => ?_)
  refine lv_istore (lv' := [(5, .int r552), (0, .ref b), (1, .ref (qR 0)), (2, .ref (qM 0)), (3, .ref qo), (4, .int i4)]) hx hb d_L_law_555 hl (by decide) rfl (fun ls hl => ?_)
  refine lv_aload_n hx hb d_L_law_557 rfl (lv_at hl 3 rfl) ?_
  refine lv_aload_n hx hb d_L_law_558 rfl (lv_at hl 1 rfl) ?_
  refine lv_iload hx hb d_L_law_559 (lv_at hl 5 rfl) ?_
  refine lv_iconst (v := (1 : Int32)) hx hb d_L_law_561 (by decide) ?_
  refine lv_iadd hx hb d_L_law_562 ?_
  obtain ⟨h563, hw⟩ := hw
  refine va_sld hx hb hX hbl hbA hS h563 d_L_law_563 ?_
  refine lv_aload_n hx hb d_L_law_564 rfl (lv_at hl 1 rfl) ?_
  refine lv_iload hx hb d_L_law_565 (lv_at hl 5 rfl) ?_
  refine lv_iconst (v := (2 : Int32)) hx hb d_L_law_567 (by decide) ?_
  refine lv_iadd hx hb d_L_law_568 ?_
  obtain ⟨h569, hw⟩ := hw
  refine va_sld hx hb hX hbl hbA hS h569 d_L_law_569 ?_
  refine lv_aload_n hx hb d_L_law_570 rfl (lv_at hl 1 rfl) ?_
  refine lv_iload hx hb d_L_law_571 (lv_at hl 5 rfl) ?_
  refine lv_iconst (v := (3 : Int32)) hx hb d_L_law_573 (by decide) ?_
  refine lv_iadd hx hb d_L_law_574 ?_
  obtain ⟨h575, hw⟩ := hw
  refine va_sld hx hb hX hbl hbA hS h575 d_L_law_575 ?_
  refine x_ci (w2 := fun u576 => (wd_RUIWMo qR qU qI qW qM qo cI cZ cL xR u552.1 xI xW u576 u552.2)) [25, 26, 27, 28, 29, 30, 31, 32, 33, 34, 35, 36, 37, 38, 39, 40, 41, 42, 43, 44, 45, 46] [0, 1, 2, 3, 4, 5, 6, 7, 8, 9, 10, 11, 12, 13, 14, 15, 16, 17, 18, 19, 20, 21, 22, 23, 24, 47] [0, 1, 2, 3, 4, 5, 6, 7, 8, 9, 10, 11, 12, 13, 14, 15, 16, 17, 18, 19, 20, 21, 22, 23, 24, 26, 27, 28, 29, 30, 31, 32, 33, 34, 35, 36, 37, 38, 39, 40, 41, 42, 43, 44, 45, 46, 47, 25] (va_runV (As := [.int (xs (i4 + (1 : Int32)).toNatClampNeg), .int (xs (i4 + (2 : Int32)).toNatClampNeg), .int (xs (i4 + (3 : Int32)).toNatClampNeg)]) (rest := []) ⟨hx, hb, hml, hown, hts⟩ (c_M_use l dC dI cI cZ cL qM _ xM (xs (i4 + (1 : Int32)).toNatClampNeg) (xs (i4 + (2 : Int32)).toNatClampNeg) (xs (i4 + (3 : Int32)).toNatClampNeg) _ hw) (cwV 3 hts (x_gV k_760 k_761 k_762 k_30 k_763) rfl rfl rfl (by decide +kernel) ⟨Nat.le_of_ble_eq_true rfl, Nat.le_of_ble_eq_true rfl⟩) ⟨x_blind, va_recv hK hP (ci := 4) (q0 := 25) rfl rfl, fun U hU hW => x_pre (isC := [25, 26, 27, 28, 29, 30, 31, 32, 33, 34, 35, 36, 37, 38, 39, 40, 41, 42, 43, 44, 45, 46]) hK hP hD rfl rfl hU hW⟩ rfl rfl hl.1 rfl (lv_room (Nat.le_of_ble_eq_true rfl)) d_L_law_576 ⟨by show _ ≤ 1078; omega, by show _ ≤ 9437; omega⟩) hP hD hS hA rfl rfl rfl (by decide) (fun _ => rfl) rfl (fun r576 u576 H locs hw hP hD hS => ?_)
  refine lv_istore (lv' := [(6, .int r576), (5, .int r552), (0, .ref b), (1, .ref (qR 0)), (2, .ref (qM 0)), (3, .ref qo), (4, .int i4)]) hx hb d_L_law_579 hl (by decide) rfl (fun ls hl => ?_)
  refine lv_aload_n hx hb d_L_law_581 rfl (lv_at hl 4 rfl) ?_
  refine x_ci (w2 := fun _ => (wd_RUIWMo qR qU qI qW qM qo cI cZ cL xR u552.1 xI xW u576 u552.2)) [25, 26, 27, 28, 29, 30, 31, 32, 33, 34, 35, 36, 37, 38, 39, 40, 41, 42, 43, 44, 45, 46] [0, 1, 2, 3, 4, 5, 6, 7, 8, 9, 10, 11, 12, 13, 14, 15, 16, 17, 18, 19, 20, 21, 22, 23, 24, 47] [0, 1, 2, 3, 4, 5, 6, 7, 8, 9, 10, 11, 12, 13, 14, 15, 16, 17, 18, 19, 20, 21, 22, 23, 24, 26, 27, 28, 29, 30, 31, 32, 33, 34, 35, 36, 37, 38, 39, 40, 41, 42, 43, 44, 45, 46, 47, 25] (va_runV (As := []) (rest := []) ⟨hx, hb, hml, hown, hts⟩ (c_M_thrown l dC dI cI cZ cL qM _ u576 _ hw) (cwV 0 hts (x_gV k_658 k_659 k_660 k_30 k_661) rfl rfl rfl (by decide +kernel) ⟨Nat.le_of_ble_eq_true rfl, Nat.le_of_ble_eq_true rfl⟩) ⟨x_blind, va_recv hK hP (ci := 4) (q0 := 25) rfl rfl, fun U hU hW => x_pre (isC := [25, 26, 27, 28, 29, 30, 31, 32, 33, 34, 35, 36, 37, 38, 39, 40, 41, 42, 43, 44, 45, 46]) hK hP hD rfl rfl hU hW⟩ rfl rfl hl.1 rfl (lv_room (Nat.le_of_ble_eq_true rfl)) d_L_law_582 ⟨by show _ ≤ 1078; omega, by show _ ≤ 9437; omega⟩) hP hD hS hA rfl rfl rfl (by decide) (fun _ => rfl) rfl (fun r582 _ H locs hw hP hD hS => ?_)
  refine lv_iload hx hb d_L_law_585 (lv_at hl 1 rfl) ?_
  refine lv_icmp_eq (tgt := 592) hx hb d_L_law_587 (by decide) (fun c587 => ?_) (fun c587 => ?_)
  · have hw := hw.1 c587
    refine lv_iload hx hb d_L_law_592 (lv_at hl 1 rfl) ?_
    refine lv_if_ne (tgt := 609) hx hb d_L_law_594 (by decide) (fun c594 => ?_) (fun c594 => ?_)
    · have hw := hw.1 c594
      refine lv_goto (tgt := 1120) hx hb d_L_law_609 (by decide) ?_
      obtain ⟨v4_1120, ev4_1120⟩ : ∃ y : Int32, y = i4 + 5 := ⟨_, rfl⟩
      have hw := hw v4_1120 ev4_1120
      refine lv_iinc (v := v4_1120) (lv' := [(4, .int v4_1120), (6, .int r576), (5, .int r552), (0, .ref b), (1, .ref (qR 0)), (2, .ref (qM 0)), (3, .ref qo)]) hx hb d_L_law_1120 hl (k := 6) rfl (by rw [ev4_1120]; rfl) (by decide) rfl (fun ls hl => ?_)
      refine lv_goto (tgt := 23) hx hb d_L_law_1123 (by decide) ?_
      refine W.widen (k := 48 + (j + 1)) (n := 1209 + 6 * (j + 1)) (by omega) (by omega) ?_
      exact ih (j + 1) rfl xR u552.1 xI xW u576 u552.2 v4_1120 _ _ _ hw hP hD hS (lv_sub hl [3, 4, 5, 6, 0] rfl)
    · have hw := hw.2 c594
      refine lv_aload_n hx hb d_L_law_597 rfl (lv_at hl 5 rfl) ?_
      refine lv_iconst (v := (0 : Int32)) hx hb d_L_law_598 (by decide) ?_
      obtain ⟨h599, hw⟩ := hw
      refine va_lald hx hb hK hP 47 2 rfl rfl h599 d_L_law_599 ?_
      refine lv_iload hx hb d_L_law_600 (lv_at hl 0 rfl) ?_
      refine lv_i2l (v := r576.toInt64) hx hb d_L_law_602 rfl ?_
      refine W.lcmp hx hb d_L_law_603 ?_
      refine lv_if_eq (tgt := 609) hx hb d_L_law_604 (by decide) (fun c604 => ?_) (fun c604 => ?_)
      · have hw := hw.1 c604
        refine lv_goto (tgt := 1120) hx hb d_L_law_609 (by decide) ?_
        obtain ⟨v4_1120, ev4_1120⟩ : ∃ y : Int32, y = i4 + 5 := ⟨_, rfl⟩
        have hw := hw v4_1120 ev4_1120
        refine lv_iinc (v := v4_1120) (lv' := [(4, .int v4_1120), (6, .int r576), (5, .int r552), (0, .ref b), (1, .ref (qR 0)), (2, .ref (qM 0)), (3, .ref qo)]) hx hb d_L_law_1120 hl (k := 6) rfl (by rw [ev4_1120]; rfl) (by decide) rfl (fun ls hl => ?_)
        refine lv_goto (tgt := 23) hx hb d_L_law_1123 (by decide) ?_
        refine W.widen (k := 48 + (j + 1)) (n := 1209 + 6 * (j + 1)) (by omega) (by omega) ?_
        exact ih (j + 1) rfl xR u552.1 xI xW u576 u552.2 v4_1120 _ _ _ hw hP hD hS (lv_sub hl [3, 4, 5, 6, 0] rfl)
      · have hw := hw.2 c604
        refine lv_iconst (v := (0 : Int32)) hx hb d_L_law_607 (by decide) ?_
        exact hw.elim
  · have hw := hw.2 c587
    refine lv_iconst (v := (0 : Int32)) hx hb d_L_law_590 (by decide) ?_
    exact hw.elim
def wc_law_8 (xs : Nat → Int32) (L : Nat) (rec23 : St → St → St → St → St → (Nat → Int64) → Int32 → Prop) (xR : St) (xU : St) (xI : St) (xW : St) (xM : St) (xo : (Nat → Int64)) (i4 : Int32) : Prop := vp_in (i4 + (1 : Int32)) L ∧ (vp_in (i4 + (2 : Int32)) L ∧ (wp_L_deliver xR xU xI xW xo (xs (i4 + (1 : Int32)).toNatClampNeg) (xs (i4 + (2 : Int32)).toNatClampNeg) (fun r626 u626 => (vp_in (i4 + (1 : Int32)) L ∧ (vp_in (i4 + (2 : Int32)) L ∧ (wp_M_deliver xM (xs (i4 + (1 : Int32)).toNatClampNeg) (xs (i4 + (2 : Int32)).toNatClampNeg) (fun r644 u644 => (wp_M_thrown u644 (fun r650 _ => ((r650 = r626 → ((¬ r626 = 0 → (∀ v4_1120 : Int32, v4_1120 = i4 + 5 → (rec23 u626.1 u626.2.1 u626.2.2.1 u626.2.2.2.1 u644 u626.2.2.2.2 v4_1120))) ∧ (r626 = 0 → (vp_in (0 : Int32) 1 ∧ (((lg_cmp (u626.2.2.2.2 (0 : Int32).toNatClampNeg) r644.toInt64) = 0 → (∀ v4_1120 : Int32, v4_1120 = i4 + 5 → (rec23 u626.1 u626.2.1 u626.2.2.1 u626.2.2.2.1 u644 u626.2.2.2.2 v4_1120))) ∧ (¬ (lg_cmp (u626.2.2.2.2 (0 : Int32).toNatClampNeg) r644.toInt64) = 0 → (False))))))) ∧ (¬ r650 = r626 → (False))))))))))))
set_option maxHeartbeats 8000000 in
set_option maxRecDepth 100000 in
theorem lawcase_8 {p : Program} {l : Launch} {e : Env} {s : State} {m : MethodId} {below : List Frame} {meth : Method} {c : Code} {dC : Nat → ClassId} {dI : Nat → Nat → Nat} {cI cZ cL : ClassId} {qR qU qI qW qM : Nat → Nat} {qo : Nat} {sa : Nat → Nat} {b L : Nat} {xs : Nat → Int32} (hl9 : l.stackTraces = false) {j : Nat} (hLj : j ≤ 512) (C0 : lw_At p s m meth c b L xs) (hK : va_K (dC, dI) vwCl [(cI, .int), (cZ, .boolean), (cL, .long)] s) (hE : xE "ReleaseRows" xTx sa (fun q : Nat => s.heap.size ≤ q) s.heap s) (hN : xN s) {rec23 : St → St → St → St → St → (Nat → Int64) → Int32 → Prop}
    (ih : ∀ j1 : Nat, j1 = j + 1 → ∀ (xR : St) (xU : St) (xI : St) (xW : St) (xM : St) (xo : (Nat → Int64)) (i4 : Int32) (H : Heap) (locs : List Loc) (ls : Array Slot), rec23 xR xU xI xW xM xo i4 → va_P (dC, dI) vwCl (wd_RUIWMo qR qU qI qW qM qo cI cZ cL xR xU xI xW xM xo) H → va_D (fun q : Nat => s.heap.size ≤ q) (wd_RUIWMo qR qU qI qW qM qo cI cZ cL xR xU xI xW xM xo) → va_S (fun q : Nat => s.heap.size ≤ q) s.heap H locs → lv_has ls 7 [(0, .ref b), (1, .ref (qR 0)), (2, .ref (qM 0)), (3, .ref qo), (4, .int i4)] → W p l e room_1 s m #[Value.ref b] below meth c H locs (48 + j1) (1209 + 6 * j1) (lw_Z below #[Value.ref b] s) (F0 m 23 ls []))
    : ∀ (xR : St) (xU : St) (xI : St) (xW : St) (xM : St) (xo : (Nat → Int64)) (i4 : Int32) (H : Heap) (locs : List Loc) (ls : Array Slot), wc_law_8 xs L rec23 xR xU xI xW xM xo i4 → va_P (dC, dI) vwCl (wd_RUIWMo qR qU qI qW qM qo cI cZ cL xR xU xI xW xM xo) H → va_D (fun q : Nat => s.heap.size ≤ q) (wd_RUIWMo qR qU qI qW qM qo cI cZ cL xR xU xI xW xM xo) → va_S (fun q : Nat => s.heap.size ≤ q) s.heap H locs → lv_has ls 7 [(0, .ref b), (1, .ref (qR 0)), (2, .ref (qM 0)), (3, .ref qo), (4, .int i4)] → W p l e room_1 s m #[Value.ref b] below meth c H locs (48 + j) (1209 + 6 * j) (lw_Z below #[Value.ref b] s) (F0 m 612 ls []) := by
  obtain ⟨hx, hb, hr, hml, hown, hts0, hX, hbl, hlocks, hgv⟩ := C0
  have hts : ∀ w ∈ gG, w.before #[Value.ref b] s = true := fun w h => hts0 w (List.mem_filter.mp h).1
  have hA : ∀ q : Nat, s.heap.size ≤ q → (fun q : Nat => s.heap.size ≤ q) q := fun _ h => h
  have hbA : ¬ (fun q : Nat => s.heap.size ≤ q) b := Nat.not_le.mpr hbl
  intro xR xU xI xW xM xo i4 H locs ls hw hP hD hS hl
  unfold wc_law_8 at hw
  refine lv_aload_n hx hb d_L_law_612 rfl (lv_at hl 1 rfl) ?_
  refine lv_aload_n hx hb d_L_law_613 rfl (lv_at hl 0 rfl) ?_
  refine lv_iload hx hb d_L_law_614 (lv_at hl 4 rfl) ?_
  refine lv_iconst (v := (1 : Int32)) hx hb d_L_law_616 (by decide) ?_
  refine lv_iadd hx hb d_L_law_617 ?_
  obtain ⟨h618, hw⟩ := hw
  refine va_sld hx hb hX hbl hbA hS h618 d_L_law_618 ?_
  refine lv_aload_n hx hb d_L_law_619 rfl (lv_at hl 0 rfl) ?_
  refine lv_iload hx hb d_L_law_620 (lv_at hl 4 rfl) ?_
  refine lv_iconst (v := (2 : Int32)) hx hb d_L_law_622 (by decide) ?_
  refine lv_iadd hx hb d_L_law_623 ?_
  obtain ⟨h624, hw⟩ := hw
  refine va_sld hx hb hX hbl hbA hS h624 d_L_law_624 ?_
  refine lv_aload_n hx hb d_L_law_625 rfl (lv_at hl 3 rfl) ?_
  refine x_ci (w2 := fun u626 => (wd_RUIWMo qR qU qI qW qM qo cI cZ cL u626.1 u626.2.1 u626.2.2.1 u626.2.2.2.1 xM u626.2.2.2.2)) [0, 1, 2, 3, 4, 5, 6, 7, 8, 9, 10, 11, 12, 13, 14, 15, 16, 17, 18, 19, 20, 21, 22, 23, 24, 47] [25, 26, 27, 28, 29, 30, 31, 32, 33, 34, 35, 36, 37, 38, 39, 40, 41, 42, 43, 44, 45, 46] [22, 23, 24, 25, 26, 27, 28, 29, 30, 31, 32, 33, 34, 35, 36, 37, 38, 39, 40, 41, 42, 43, 44, 45, 46, 0, 1, 2, 3, 4, 5, 6, 7, 8, 9, 10, 11, 12, 13, 14, 15, 16, 17, 18, 19, 20, 21, 47] (vx_runSW (hh := [(0, 10, 13, 21), (0, 10, 17, 13), (0, 10, 21, 15)]) (As := [.ref (qR 0), .int (xs (i4 + (1 : Int32)).toNatClampNeg), .int (xs (i4 + (2 : Int32)).toNatClampNeg), .ref qo]) (rest := []) ⟨hx, hb, hml, hown, hts⟩ (c_L_deliver l hl9 sa dC dI cI cZ cL qR qU qI qW qo _ xR xU xI xW xo (xs (i4 + (1 : Int32)).toNatClampNeg) (xs (i4 + (2 : Int32)).toNatClampNeg) _ hw) (vx_cwSW 4 hts (x_gW k_482 k_483 k_25 k_484) rfl rfl rfl (by decide +kernel) ⟨Nat.le_of_ble_eq_true rfl, Nat.le_of_ble_eq_true rfl⟩) ⟨x_blindN, fun U hU hW => x_preN (isC := [0, 1, 2, 3, 4, 5, 6, 7, 8, 9, 10, 11, 12, 13, 14, 15, 16, 17, 18, 19, 20, 21, 22, 23, 24, 47]) hK hP hD hS hA hE hN rfl rfl hU hW⟩ rfl rfl hl.1 rfl (lv_room (Nat.le_of_ble_eq_true rfl)) d_L_law_626 ⟨by show _ ≤ 1078; omega, by show _ ≤ 9437; omega⟩) hP hD hS hA rfl rfl rfl (by decide) (fun _ => rfl) rfl (fun r626 u626 H locs hw hP hD hS => ?_)
  refine lv_istore (lv' := [(5, .int r626), (0, .ref b), (1, .ref (qR 0)), (2, .ref (qM 0)), (3, .ref qo), (4, .int i4)]) hx hb d_L_law_629 hl (by decide) rfl (fun ls hl => ?_)
  refine lv_aload_n hx hb d_L_law_631 rfl (lv_at hl 3 rfl) ?_
  refine lv_aload_n hx hb d_L_law_632 rfl (lv_at hl 1 rfl) ?_
  refine lv_iload hx hb d_L_law_633 (lv_at hl 5 rfl) ?_
  refine lv_iconst (v := (1 : Int32)) hx hb d_L_law_635 (by decide) ?_
  refine lv_iadd hx hb d_L_law_636 ?_
  obtain ⟨h637, hw⟩ := hw
  refine va_sld hx hb hX hbl hbA hS h637 d_L_law_637 ?_
  refine lv_aload_n hx hb d_L_law_638 rfl (lv_at hl 1 rfl) ?_
  refine lv_iload hx hb d_L_law_639 (lv_at hl 5 rfl) ?_
  refine lv_iconst (v := (2 : Int32)) hx hb d_L_law_641 (by decide) ?_
  refine lv_iadd hx hb d_L_law_642 ?_
  obtain ⟨h643, hw⟩ := hw
  refine va_sld hx hb hX hbl hbA hS h643 d_L_law_643 ?_
  refine x_ci (w2 := fun u644 => (wd_RUIWMo qR qU qI qW qM qo cI cZ cL u626.1 u626.2.1 u626.2.2.1 u626.2.2.2.1 u644 u626.2.2.2.2)) [25, 26, 27, 28, 29, 30, 31, 32, 33, 34, 35, 36, 37, 38, 39, 40, 41, 42, 43, 44, 45, 46] [0, 1, 2, 3, 4, 5, 6, 7, 8, 9, 10, 11, 12, 13, 14, 15, 16, 17, 18, 19, 20, 21, 22, 23, 24, 47] [0, 1, 2, 3, 4, 5, 6, 7, 8, 9, 10, 11, 12, 13, 14, 15, 16, 17, 18, 19, 20, 21, 22, 23, 24, 26, 27, 28, 29, 30, 31, 32, 33, 34, 35, 36, 37, 38, 39, 40, 41, 42, 43, 44, 45, 46, 47, 25] (va_runV (As := [.int (xs (i4 + (1 : Int32)).toNatClampNeg), .int (xs (i4 + (2 : Int32)).toNatClampNeg)]) (rest := []) ⟨hx, hb, hml, hown, hts⟩ (c_M_deliver l dC dI cI cZ cL qM _ xM (xs (i4 + (1 : Int32)).toNatClampNeg) (xs (i4 + (2 : Int32)).toNatClampNeg) _ hw) (cwV 2 hts (x_gV k_767 k_768 k_769 k_30 k_770) rfl rfl rfl (by decide +kernel) ⟨Nat.le_of_ble_eq_true rfl, Nat.le_of_ble_eq_true rfl⟩) ⟨x_blind, va_recv hK hP (ci := 4) (q0 := 25) rfl rfl, fun U hU hW => x_pre (isC := [25, 26, 27, 28, 29, 30, 31, 32, 33, 34, 35, 36, 37, 38, 39, 40, 41, 42, 43, 44, 45, 46]) hK hP hD rfl rfl hU hW⟩ rfl rfl hl.1 rfl (lv_room (Nat.le_of_ble_eq_true rfl)) d_L_law_644 ⟨by show _ ≤ 1078; omega, by show _ ≤ 9437; omega⟩) hP hD hS hA rfl rfl rfl (by decide) (fun _ => rfl) rfl (fun r644 u644 H locs hw hP hD hS => ?_)
  refine lv_istore (lv' := [(6, .int r644), (5, .int r626), (0, .ref b), (1, .ref (qR 0)), (2, .ref (qM 0)), (3, .ref qo), (4, .int i4)]) hx hb d_L_law_647 hl (by decide) rfl (fun ls hl => ?_)
  refine lv_aload_n hx hb d_L_law_649 rfl (lv_at hl 4 rfl) ?_
  refine x_ci (w2 := fun _ => (wd_RUIWMo qR qU qI qW qM qo cI cZ cL u626.1 u626.2.1 u626.2.2.1 u626.2.2.2.1 u644 u626.2.2.2.2)) [25, 26, 27, 28, 29, 30, 31, 32, 33, 34, 35, 36, 37, 38, 39, 40, 41, 42, 43, 44, 45, 46] [0, 1, 2, 3, 4, 5, 6, 7, 8, 9, 10, 11, 12, 13, 14, 15, 16, 17, 18, 19, 20, 21, 22, 23, 24, 47] [0, 1, 2, 3, 4, 5, 6, 7, 8, 9, 10, 11, 12, 13, 14, 15, 16, 17, 18, 19, 20, 21, 22, 23, 24, 26, 27, 28, 29, 30, 31, 32, 33, 34, 35, 36, 37, 38, 39, 40, 41, 42, 43, 44, 45, 46, 47, 25] (va_runV (As := []) (rest := []) ⟨hx, hb, hml, hown, hts⟩ (c_M_thrown l dC dI cI cZ cL qM _ u644 _ hw) (cwV 0 hts (x_gV k_658 k_659 k_660 k_30 k_661) rfl rfl rfl (by decide +kernel) ⟨Nat.le_of_ble_eq_true rfl, Nat.le_of_ble_eq_true rfl⟩) ⟨x_blind, va_recv hK hP (ci := 4) (q0 := 25) rfl rfl, fun U hU hW => x_pre (isC := [25, 26, 27, 28, 29, 30, 31, 32, 33, 34, 35, 36, 37, 38, 39, 40, 41, 42, 43, 44, 45, 46]) hK hP hD rfl rfl hU hW⟩ rfl rfl hl.1 rfl (lv_room (Nat.le_of_ble_eq_true rfl)) d_L_law_650 ⟨by show _ ≤ 1078; omega, by show _ ≤ 9437; omega⟩) hP hD hS hA rfl rfl rfl (by decide) (fun _ => rfl) rfl (fun r650 _ H locs hw hP hD hS => ?_)
  refine lv_iload hx hb d_L_law_653 (lv_at hl 1 rfl) ?_
  refine lv_icmp_eq (tgt := 660) hx hb d_L_law_655 (by decide) (fun c655 => ?_) (fun c655 => ?_)
  · have hw := hw.1 c655
    refine lv_iload hx hb d_L_law_660 (lv_at hl 1 rfl) ?_
    refine lv_if_ne (tgt := 677) hx hb d_L_law_662 (by decide) (fun c662 => ?_) (fun c662 => ?_)
    · have hw := hw.1 c662
      refine lv_goto (tgt := 1120) hx hb d_L_law_677 (by decide) ?_
      obtain ⟨v4_1120, ev4_1120⟩ : ∃ y : Int32, y = i4 + 5 := ⟨_, rfl⟩
      have hw := hw v4_1120 ev4_1120
      refine lv_iinc (v := v4_1120) (lv' := [(4, .int v4_1120), (6, .int r644), (5, .int r626), (0, .ref b), (1, .ref (qR 0)), (2, .ref (qM 0)), (3, .ref qo)]) hx hb d_L_law_1120 hl (k := 6) rfl (by rw [ev4_1120]; rfl) (by decide) rfl (fun ls hl => ?_)
      refine lv_goto (tgt := 23) hx hb d_L_law_1123 (by decide) ?_
      refine W.widen (k := 48 + (j + 1)) (n := 1209 + 6 * (j + 1)) (by omega) (by omega) ?_
      exact ih (j + 1) rfl u626.1 u626.2.1 u626.2.2.1 u626.2.2.2.1 u644 u626.2.2.2.2 v4_1120 _ _ _ hw hP hD hS (lv_sub hl [3, 4, 5, 6, 0] rfl)
    · have hw := hw.2 c662
      refine lv_aload_n hx hb d_L_law_665 rfl (lv_at hl 5 rfl) ?_
      refine lv_iconst (v := (0 : Int32)) hx hb d_L_law_666 (by decide) ?_
      obtain ⟨h667, hw⟩ := hw
      refine va_lald hx hb hK hP 47 2 rfl rfl h667 d_L_law_667 ?_
      refine lv_iload hx hb d_L_law_668 (lv_at hl 0 rfl) ?_
      refine lv_i2l (v := r644.toInt64) hx hb d_L_law_670 rfl ?_
      refine W.lcmp hx hb d_L_law_671 ?_
      refine lv_if_eq (tgt := 677) hx hb d_L_law_672 (by decide) (fun c672 => ?_) (fun c672 => ?_)
      · have hw := hw.1 c672
        refine lv_goto (tgt := 1120) hx hb d_L_law_677 (by decide) ?_
        obtain ⟨v4_1120, ev4_1120⟩ : ∃ y : Int32, y = i4 + 5 := ⟨_, rfl⟩
        have hw := hw v4_1120 ev4_1120
        refine lv_iinc (v := v4_1120) (lv' := [(4, .int v4_1120), (6, .int r644), (5, .int r626), (0, .ref b), (1, .ref (qR 0)), (2, .ref (qM 0)), (3, .ref qo)]) hx hb d_L_law_1120 hl (k := 6) rfl (by rw [ev4_1120]; rfl) (by decide) rfl (fun ls hl => ?_)
        refine lv_goto (tgt := 23) hx hb d_L_law_1123 (by decide) ?_
        refine W.widen (k := 48 + (j + 1)) (n := 1209 + 6 * (j + 1)) (by omega) (by omega) ?_
        exact ih (j + 1) rfl u626.1 u626.2.1 u626.2.2.1 u626.2.2.2.1 u644 u626.2.2.2.2 v4_1120 _ _ _ hw hP hD hS (lv_sub hl [3, 4, 5, 6, 0] rfl)
      · have hw := hw.2 c672
        refine lv_iconst (v := (0 : Int32)) hx hb d_L_law_675 (by decide) ?_
        exact hw.elim
  · have hw := hw.2 c655
    refine lv_iconst (v := (0 : Int32)) hx hb d_L_law_658 (by decide) ?_
    exact hw.elim
def wc_law_9 (xs : Nat → Int32) (L : Nat) (rec23 : St → St → St → St → St → (Nat → Int64) → Int32 → Prop) (xR : St) (xU : St) (xI : St) (xW : St) (xM : St) (xo : (Nat → Int64)) (i4 : Int32) : Prop := vp_in (i4 + (1 : Int32)) L ∧ (vp_in (i4 + (2 : Int32)) L ∧ (wp_L_check xR xU xI xW (xs (i4 + (1 : Int32)).toNatClampNeg) (xs (i4 + (2 : Int32)).toNatClampNeg) (fun r693 u693 => (vp_in (i4 + (1 : Int32)) L ∧ (vp_in (i4 + (2 : Int32)) L ∧ (wp_M_check xM (xs (i4 + (1 : Int32)).toNatClampNeg) (xs (i4 + (2 : Int32)).toNatClampNeg) (fun u711 => (wp_M_thrown u711 (fun r715 _ => ((r715 = r693 → (∀ v4_1120 : Int32, v4_1120 = i4 + 5 → (rec23 u693.1 u693.2.1 u693.2.2.1 u693.2.2.2 u711 xo v4_1120))) ∧ (¬ r715 = r693 → (False))))))))))))
set_option maxHeartbeats 8000000 in
set_option maxRecDepth 100000 in
theorem lawcase_9 {p : Program} {l : Launch} {e : Env} {s : State} {m : MethodId} {below : List Frame} {meth : Method} {c : Code} {dC : Nat → ClassId} {dI : Nat → Nat → Nat} {cI cZ cL : ClassId} {qR qU qI qW qM : Nat → Nat} {qo : Nat} {sa : Nat → Nat} {b L : Nat} {xs : Nat → Int32} (hl9 : l.stackTraces = false) {j : Nat} (hLj : j ≤ 512) (C0 : lw_At p s m meth c b L xs) (hK : va_K (dC, dI) vwCl [(cI, .int), (cZ, .boolean), (cL, .long)] s) (hE : xE "ReleaseRows" xTx sa (fun q : Nat => s.heap.size ≤ q) s.heap s) (hN : xN s) {rec23 : St → St → St → St → St → (Nat → Int64) → Int32 → Prop}
    (ih : ∀ j1 : Nat, j1 = j + 1 → ∀ (xR : St) (xU : St) (xI : St) (xW : St) (xM : St) (xo : (Nat → Int64)) (i4 : Int32) (H : Heap) (locs : List Loc) (ls : Array Slot), rec23 xR xU xI xW xM xo i4 → va_P (dC, dI) vwCl (wd_RUIWMo qR qU qI qW qM qo cI cZ cL xR xU xI xW xM xo) H → va_D (fun q : Nat => s.heap.size ≤ q) (wd_RUIWMo qR qU qI qW qM qo cI cZ cL xR xU xI xW xM xo) → va_S (fun q : Nat => s.heap.size ≤ q) s.heap H locs → lv_has ls 7 [(0, .ref b), (1, .ref (qR 0)), (2, .ref (qM 0)), (3, .ref qo), (4, .int i4)] → W p l e room_1 s m #[Value.ref b] below meth c H locs (48 + j1) (1209 + 6 * j1) (lw_Z below #[Value.ref b] s) (F0 m 23 ls []))
    : ∀ (xR : St) (xU : St) (xI : St) (xW : St) (xM : St) (xo : (Nat → Int64)) (i4 : Int32) (H : Heap) (locs : List Loc) (ls : Array Slot), wc_law_9 xs L rec23 xR xU xI xW xM xo i4 → va_P (dC, dI) vwCl (wd_RUIWMo qR qU qI qW qM qo cI cZ cL xR xU xI xW xM xo) H → va_D (fun q : Nat => s.heap.size ≤ q) (wd_RUIWMo qR qU qI qW qM qo cI cZ cL xR xU xI xW xM xo) → va_S (fun q : Nat => s.heap.size ≤ q) s.heap H locs → lv_has ls 7 [(0, .ref b), (1, .ref (qR 0)), (2, .ref (qM 0)), (3, .ref qo), (4, .int i4)] → W p l e room_1 s m #[Value.ref b] below meth c H locs (48 + j) (1209 + 6 * j) (lw_Z below #[Value.ref b] s) (F0 m 680 ls []) := by
  obtain ⟨hx, hb, hr, hml, hown, hts0, hX, hbl, hlocks, hgv⟩ := C0
  have hts : ∀ w ∈ gG, w.before #[Value.ref b] s = true := fun w h => hts0 w (List.mem_filter.mp h).1
  have hA : ∀ q : Nat, s.heap.size ≤ q → (fun q : Nat => s.heap.size ≤ q) q := fun _ h => h
  have hbA : ¬ (fun q : Nat => s.heap.size ≤ q) b := Nat.not_le.mpr hbl
  intro xR xU xI xW xM xo i4 H locs ls hw hP hD hS hl
  unfold wc_law_9 at hw
  refine lv_aload_n hx hb d_L_law_680 rfl (lv_at hl 1 rfl) ?_
  refine lv_aload_n hx hb d_L_law_681 rfl (lv_at hl 0 rfl) ?_
  refine lv_iload hx hb d_L_law_682 (lv_at hl 4 rfl) ?_
  refine lv_iconst (v := (1 : Int32)) hx hb d_L_law_684 (by decide) ?_
  refine lv_iadd hx hb d_L_law_685 ?_
  obtain ⟨h686, hw⟩ := hw
  refine va_sld hx hb hX hbl hbA hS h686 d_L_law_686 ?_
  refine lv_aload_n hx hb d_L_law_687 rfl (lv_at hl 0 rfl) ?_
  refine lv_iload hx hb d_L_law_688 (lv_at hl 4 rfl) ?_
  refine lv_iconst (v := (2 : Int32)) hx hb d_L_law_690 (by decide) ?_
  refine lv_iadd hx hb d_L_law_691 ?_
  obtain ⟨h692, hw⟩ := hw
  refine va_sld hx hb hX hbl hbA hS h692 d_L_law_692 ?_
  refine x_ci (w2 := fun u693 => (wd_RUIWMo qR qU qI qW qM qo cI cZ cL u693.1 u693.2.1 u693.2.2.1 u693.2.2.2 xM xo)) [0, 1, 2, 3, 4, 5, 6, 7, 8, 9, 10, 11, 12, 13, 14, 15, 16, 17, 18, 19, 20, 21, 22, 23, 24] [25, 26, 27, 28, 29, 30, 31, 32, 33, 34, 35, 36, 37, 38, 39, 40, 41, 42, 43, 44, 45, 46, 47] [23, 24, 25, 26, 27, 28, 29, 30, 31, 32, 33, 34, 35, 36, 37, 38, 39, 40, 41, 42, 43, 44, 45, 46, 47, 0, 1, 2, 3, 4, 5, 6, 7, 8, 9, 10, 11, 12, 13, 14, 15, 16, 17, 18, 19, 20, 21, 22] (vx_runSW (hh := [(0, 6, 9, 21), (0, 6, 12, 13), (0, 6, 15, 34)]) (As := [.ref (qR 0), .int (xs (i4 + (1 : Int32)).toNatClampNeg), .int (xs (i4 + (2 : Int32)).toNatClampNeg)]) (rest := []) ⟨hx, hb, hml, hown, hts⟩ (c_L_check l hl9 sa dC dI cI cZ cL qR qU qI qW _ xR xU xI xW (xs (i4 + (1 : Int32)).toNatClampNeg) (xs (i4 + (2 : Int32)).toNatClampNeg) _ hw) (vx_cwSW 3 hts (x_gW k_490 k_491 k_25 k_492) rfl rfl rfl (by decide +kernel) ⟨Nat.le_of_ble_eq_true rfl, Nat.le_of_ble_eq_true rfl⟩) ⟨x_blindN, fun U hU hW => x_preN (isC := [0, 1, 2, 3, 4, 5, 6, 7, 8, 9, 10, 11, 12, 13, 14, 15, 16, 17, 18, 19, 20, 21, 22, 23, 24]) hK hP hD hS hA hE hN rfl rfl hU hW⟩ rfl rfl hl.1 rfl (lv_room (Nat.le_of_ble_eq_true rfl)) d_L_law_693 ⟨by show _ ≤ 1078; omega, by show _ ≤ 9437; omega⟩) hP hD hS hA rfl rfl rfl (by decide) (fun _ => rfl) rfl (fun r693 u693 H locs hw hP hD hS => ?_)
  refine lv_istore (lv' := [(5, .int r693), (0, .ref b), (1, .ref (qR 0)), (2, .ref (qM 0)), (3, .ref qo), (4, .int i4)]) hx hb d_L_law_696 hl (by decide) rfl (fun ls hl => ?_)
  refine lv_aload_n hx hb d_L_law_698 rfl (lv_at hl 3 rfl) ?_
  refine lv_aload_n hx hb d_L_law_699 rfl (lv_at hl 1 rfl) ?_
  refine lv_iload hx hb d_L_law_700 (lv_at hl 5 rfl) ?_
  refine lv_iconst (v := (1 : Int32)) hx hb d_L_law_702 (by decide) ?_
  refine lv_iadd hx hb d_L_law_703 ?_
  obtain ⟨h704, hw⟩ := hw
  refine va_sld hx hb hX hbl hbA hS h704 d_L_law_704 ?_
  refine lv_aload_n hx hb d_L_law_705 rfl (lv_at hl 1 rfl) ?_
  refine lv_iload hx hb d_L_law_706 (lv_at hl 5 rfl) ?_
  refine lv_iconst (v := (2 : Int32)) hx hb d_L_law_708 (by decide) ?_
  refine lv_iadd hx hb d_L_law_709 ?_
  obtain ⟨h710, hw⟩ := hw
  refine va_sld hx hb hX hbl hbA hS h710 d_L_law_710 ?_
  refine x_cv (w2 := fun u711 => (wd_RUIWMo qR qU qI qW qM qo cI cZ cL u693.1 u693.2.1 u693.2.2.1 u693.2.2.2 u711 xo)) [25, 26, 27, 28, 29, 30, 31, 32, 33, 34, 35, 36, 37, 38, 39, 40, 41, 42, 43, 44, 45, 46] [0, 1, 2, 3, 4, 5, 6, 7, 8, 9, 10, 11, 12, 13, 14, 15, 16, 17, 18, 19, 20, 21, 22, 23, 24, 47] [0, 1, 2, 3, 4, 5, 6, 7, 8, 9, 10, 11, 12, 13, 14, 15, 16, 17, 18, 19, 20, 21, 22, 23, 24, 26, 27, 28, 29, 30, 31, 32, 33, 34, 35, 36, 37, 38, 39, 40, 41, 42, 43, 44, 45, 46, 47, 25] (va_runV (As := [.int (xs (i4 + (1 : Int32)).toNatClampNeg), .int (xs (i4 + (2 : Int32)).toNatClampNeg)]) (rest := []) ⟨hx, hb, hml, hown, hts⟩ (c_M_check l dC dI cI cZ cL qM _ xM (xs (i4 + (1 : Int32)).toNatClampNeg) (xs (i4 + (2 : Int32)).toNatClampNeg) _ hw) (cwV 2 hts (x_gV k_772 k_773 k_774 k_30 k_775) rfl rfl rfl (by decide +kernel) ⟨Nat.le_of_ble_eq_true rfl, Nat.le_of_ble_eq_true rfl⟩) ⟨x_blind, va_recv hK hP (ci := 4) (q0 := 25) rfl rfl, fun U hU hW => x_pre (isC := [25, 26, 27, 28, 29, 30, 31, 32, 33, 34, 35, 36, 37, 38, 39, 40, 41, 42, 43, 44, 45, 46]) hK hP hD rfl rfl hU hW⟩ rfl rfl hl.1 rfl (lv_room (Nat.le_of_ble_eq_true rfl)) d_L_law_711 ⟨by show _ ≤ 1078; omega, by show _ ≤ 9437; omega⟩) hP hD hS hA rfl rfl rfl (by decide) (fun _ => rfl) rfl (fun u711 H locs hw hP hD hS => ?_)
  refine lv_aload_n hx hb d_L_law_714 rfl (lv_at hl 3 rfl) ?_
  refine x_ci (w2 := fun _ => (wd_RUIWMo qR qU qI qW qM qo cI cZ cL u693.1 u693.2.1 u693.2.2.1 u693.2.2.2 u711 xo)) [25, 26, 27, 28, 29, 30, 31, 32, 33, 34, 35, 36, 37, 38, 39, 40, 41, 42, 43, 44, 45, 46] [0, 1, 2, 3, 4, 5, 6, 7, 8, 9, 10, 11, 12, 13, 14, 15, 16, 17, 18, 19, 20, 21, 22, 23, 24, 47] [0, 1, 2, 3, 4, 5, 6, 7, 8, 9, 10, 11, 12, 13, 14, 15, 16, 17, 18, 19, 20, 21, 22, 23, 24, 26, 27, 28, 29, 30, 31, 32, 33, 34, 35, 36, 37, 38, 39, 40, 41, 42, 43, 44, 45, 46, 47, 25] (va_runV (As := []) (rest := []) ⟨hx, hb, hml, hown, hts⟩ (c_M_thrown l dC dI cI cZ cL qM _ u711 _ hw) (cwV 0 hts (x_gV k_658 k_659 k_660 k_30 k_661) rfl rfl rfl (by decide +kernel) ⟨Nat.le_of_ble_eq_true rfl, Nat.le_of_ble_eq_true rfl⟩) ⟨x_blind, va_recv hK hP (ci := 4) (q0 := 25) rfl rfl, fun U hU hW => x_pre (isC := [25, 26, 27, 28, 29, 30, 31, 32, 33, 34, 35, 36, 37, 38, 39, 40, 41, 42, 43, 44, 45, 46]) hK hP hD rfl rfl hU hW⟩ rfl rfl hl.1 rfl (lv_room (Nat.le_of_ble_eq_true rfl)) d_L_law_715 ⟨by show _ ≤ 1078; omega, by show _ ≤ 9437; omega⟩) hP hD hS hA rfl rfl rfl (by decide) (fun _ => rfl) rfl (fun r715 _ H locs hw hP hD hS => ?_)
  refine lv_iload hx hb d_L_law_718 (lv_at hl 0 rfl) ?_
  refine lv_icmp_eq (tgt := 725) hx hb d_L_law_720 (by decide) (fun c720 => ?_) (fun c720 => ?_)
  · have hw := hw.1 c720
    refine lv_goto (tgt := 1120) hx hb d_L_law_725 (by decide) ?_
    obtain ⟨v4_1120, ev4_1120⟩ : ∃ y : Int32, y = i4 + 5 := ⟨_, rfl⟩
    have hw := hw v4_1120 ev4_1120
    refine lv_iinc (v := v4_1120) (lv' := [(4, .int v4_1120), (5, .int r693), (0, .ref b), (1, .ref (qR 0)), (2, .ref (qM 0)), (3, .ref qo)]) hx hb d_L_law_1120 hl (k := 5) rfl (by rw [ev4_1120]; rfl) (by decide) rfl (fun ls hl => ?_)
    refine lv_goto (tgt := 23) hx hb d_L_law_1123 (by decide) ?_
    refine W.widen (k := 48 + (j + 1)) (n := 1209 + 6 * (j + 1)) (by omega) (by omega) ?_
    exact ih (j + 1) rfl u693.1 u693.2.1 u693.2.2.1 u693.2.2.2 u711 xo v4_1120 _ _ _ hw hP hD hS (lv_sub hl [2, 3, 4, 5, 0] rfl)
  · have hw := hw.2 c720
    refine lv_iconst (v := (0 : Int32)) hx hb d_L_law_723 (by decide) ?_
    exact hw.elim
def wc_law_10 (xs : Nat → Int32) (L : Nat) (rec23 : St → St → St → St → St → (Nat → Int64) → Int32 → Prop) (xR : St) (xU : St) (xI : St) (xW : St) (xM : St) (xo : (Nat → Int64)) (i4 : Int32) : Prop := vp_in (i4 + (1 : Int32)) L ∧ (vp_in (i4 + (2 : Int32)) L ∧ (wp_L_inside xR xU xI xW (xs (i4 + (1 : Int32)).toNatClampNeg) (xs (i4 + (2 : Int32)).toNatClampNeg) (fun r741 u741 => (vp_in (i4 + (1 : Int32)) L ∧ (vp_in (i4 + (2 : Int32)) L ∧ (wp_M_inside xM (xs (i4 + (1 : Int32)).toNatClampNeg) (xs (i4 + (2 : Int32)).toNatClampNeg) (fun u759 => (wp_M_thrown u759 (fun r763 _ => ((r763 = r741 → (∀ v4_1120 : Int32, v4_1120 = i4 + 5 → (rec23 u741.1 u741.2.1 u741.2.2.1 u741.2.2.2 u759 xo v4_1120))) ∧ (¬ r763 = r741 → (False))))))))))))
set_option maxHeartbeats 8000000 in
set_option maxRecDepth 100000 in
theorem lawcase_10 {p : Program} {l : Launch} {e : Env} {s : State} {m : MethodId} {below : List Frame} {meth : Method} {c : Code} {dC : Nat → ClassId} {dI : Nat → Nat → Nat} {cI cZ cL : ClassId} {qR qU qI qW qM : Nat → Nat} {qo : Nat} {sa : Nat → Nat} {b L : Nat} {xs : Nat → Int32} (hl9 : l.stackTraces = false) {j : Nat} (hLj : j ≤ 512) (C0 : lw_At p s m meth c b L xs) (hK : va_K (dC, dI) vwCl [(cI, .int), (cZ, .boolean), (cL, .long)] s) (hE : xE "ReleaseRows" xTx sa (fun q : Nat => s.heap.size ≤ q) s.heap s) (hN : xN s) {rec23 : St → St → St → St → St → (Nat → Int64) → Int32 → Prop}
    (ih : ∀ j1 : Nat, j1 = j + 1 → ∀ (xR : St) (xU : St) (xI : St) (xW : St) (xM : St) (xo : (Nat → Int64)) (i4 : Int32) (H : Heap) (locs : List Loc) (ls : Array Slot), rec23 xR xU xI xW xM xo i4 → va_P (dC, dI) vwCl (wd_RUIWMo qR qU qI qW qM qo cI cZ cL xR xU xI xW xM xo) H → va_D (fun q : Nat => s.heap.size ≤ q) (wd_RUIWMo qR qU qI qW qM qo cI cZ cL xR xU xI xW xM xo) → va_S (fun q : Nat => s.heap.size ≤ q) s.heap H locs → lv_has ls 7 [(0, .ref b), (1, .ref (qR 0)), (2, .ref (qM 0)), (3, .ref qo), (4, .int i4)] → W p l e room_1 s m #[Value.ref b] below meth c H locs (48 + j1) (1209 + 6 * j1) (lw_Z below #[Value.ref b] s) (F0 m 23 ls []))
    : ∀ (xR : St) (xU : St) (xI : St) (xW : St) (xM : St) (xo : (Nat → Int64)) (i4 : Int32) (H : Heap) (locs : List Loc) (ls : Array Slot), wc_law_10 xs L rec23 xR xU xI xW xM xo i4 → va_P (dC, dI) vwCl (wd_RUIWMo qR qU qI qW qM qo cI cZ cL xR xU xI xW xM xo) H → va_D (fun q : Nat => s.heap.size ≤ q) (wd_RUIWMo qR qU qI qW qM qo cI cZ cL xR xU xI xW xM xo) → va_S (fun q : Nat => s.heap.size ≤ q) s.heap H locs → lv_has ls 7 [(0, .ref b), (1, .ref (qR 0)), (2, .ref (qM 0)), (3, .ref qo), (4, .int i4)] → W p l e room_1 s m #[Value.ref b] below meth c H locs (48 + j) (1209 + 6 * j) (lw_Z below #[Value.ref b] s) (F0 m 728 ls []) := by
  obtain ⟨hx, hb, hr, hml, hown, hts0, hX, hbl, hlocks, hgv⟩ := C0
  have hts : ∀ w ∈ gG, w.before #[Value.ref b] s = true := fun w h => hts0 w (List.mem_filter.mp h).1
  have hA : ∀ q : Nat, s.heap.size ≤ q → (fun q : Nat => s.heap.size ≤ q) q := fun _ h => h
  have hbA : ¬ (fun q : Nat => s.heap.size ≤ q) b := Nat.not_le.mpr hbl
  intro xR xU xI xW xM xo i4 H locs ls hw hP hD hS hl
  unfold wc_law_10 at hw
  refine lv_aload_n hx hb d_L_law_728 rfl (lv_at hl 1 rfl) ?_
  refine lv_aload_n hx hb d_L_law_729 rfl (lv_at hl 0 rfl) ?_
  refine lv_iload hx hb d_L_law_730 (lv_at hl 4 rfl) ?_
  refine lv_iconst (v := (1 : Int32)) hx hb d_L_law_732 (by decide) ?_
  refine lv_iadd hx hb d_L_law_733 ?_
  obtain ⟨h734, hw⟩ := hw
  refine va_sld hx hb hX hbl hbA hS h734 d_L_law_734 ?_
  refine lv_aload_n hx hb d_L_law_735 rfl (lv_at hl 0 rfl) ?_
  refine lv_iload hx hb d_L_law_736 (lv_at hl 4 rfl) ?_
  refine lv_iconst (v := (2 : Int32)) hx hb d_L_law_738 (by decide) ?_
  refine lv_iadd hx hb d_L_law_739 ?_
  obtain ⟨h740, hw⟩ := hw
  refine va_sld hx hb hX hbl hbA hS h740 d_L_law_740 ?_
  refine x_ci (w2 := fun u741 => (wd_RUIWMo qR qU qI qW qM qo cI cZ cL u741.1 u741.2.1 u741.2.2.1 u741.2.2.2 xM xo)) [0, 1, 2, 3, 4, 5, 6, 7, 8, 9, 10, 11, 12, 13, 14, 15, 16, 17, 18, 19, 20, 21, 22, 23, 24] [25, 26, 27, 28, 29, 30, 31, 32, 33, 34, 35, 36, 37, 38, 39, 40, 41, 42, 43, 44, 45, 46, 47] [23, 24, 25, 26, 27, 28, 29, 30, 31, 32, 33, 34, 35, 36, 37, 38, 39, 40, 41, 42, 43, 44, 45, 46, 47, 0, 1, 2, 3, 4, 5, 6, 7, 8, 9, 10, 11, 12, 13, 14, 15, 16, 17, 18, 19, 20, 21, 22] (vx_runSW (hh := [(0, 6, 9, 21), (0, 6, 12, 13), (0, 6, 15, 34)]) (As := [.ref (qR 0), .int (xs (i4 + (1 : Int32)).toNatClampNeg), .int (xs (i4 + (2 : Int32)).toNatClampNeg)]) (rest := []) ⟨hx, hb, hml, hown, hts⟩ (c_L_inside l hl9 sa dC dI cI cZ cL qR qU qI qW _ xR xU xI xW (xs (i4 + (1 : Int32)).toNatClampNeg) (xs (i4 + (2 : Int32)).toNatClampNeg) _ hw) (vx_cwSW 3 hts (x_gW k_497 k_498 k_25 k_499) rfl rfl rfl (by decide +kernel) ⟨Nat.le_of_ble_eq_true rfl, Nat.le_of_ble_eq_true rfl⟩) ⟨x_blindN, fun U hU hW => x_preN (isC := [0, 1, 2, 3, 4, 5, 6, 7, 8, 9, 10, 11, 12, 13, 14, 15, 16, 17, 18, 19, 20, 21, 22, 23, 24]) hK hP hD hS hA hE hN rfl rfl hU hW⟩ rfl rfl hl.1 rfl (lv_room (Nat.le_of_ble_eq_true rfl)) d_L_law_741 ⟨by show _ ≤ 1078; omega, by show _ ≤ 9437; omega⟩) hP hD hS hA rfl rfl rfl (by decide) (fun _ => rfl) rfl (fun r741 u741 H locs hw hP hD hS => ?_)
  refine lv_istore (lv' := [(5, .int r741), (0, .ref b), (1, .ref (qR 0)), (2, .ref (qM 0)), (3, .ref qo), (4, .int i4)]) hx hb d_L_law_744 hl (by decide) rfl (fun ls hl => ?_)
  refine lv_aload_n hx hb d_L_law_746 rfl (lv_at hl 3 rfl) ?_
  refine lv_aload_n hx hb d_L_law_747 rfl (lv_at hl 1 rfl) ?_
  refine lv_iload hx hb d_L_law_748 (lv_at hl 5 rfl) ?_
  refine lv_iconst (v := (1 : Int32)) hx hb d_L_law_750 (by decide) ?_
  refine lv_iadd hx hb d_L_law_751 ?_
  obtain ⟨h752, hw⟩ := hw
  refine va_sld hx hb hX hbl hbA hS h752 d_L_law_752 ?_
  refine lv_aload_n hx hb d_L_law_753 rfl (lv_at hl 1 rfl) ?_
  refine lv_iload hx hb d_L_law_754 (lv_at hl 5 rfl) ?_
  refine lv_iconst (v := (2 : Int32)) hx hb d_L_law_756 (by decide) ?_
  refine lv_iadd hx hb d_L_law_757 ?_
  obtain ⟨h758, hw⟩ := hw
  refine va_sld hx hb hX hbl hbA hS h758 d_L_law_758 ?_
  refine x_cv (w2 := fun u759 => (wd_RUIWMo qR qU qI qW qM qo cI cZ cL u741.1 u741.2.1 u741.2.2.1 u741.2.2.2 u759 xo)) [25, 26, 27, 28, 29, 30, 31, 32, 33, 34, 35, 36, 37, 38, 39, 40, 41, 42, 43, 44, 45, 46] [0, 1, 2, 3, 4, 5, 6, 7, 8, 9, 10, 11, 12, 13, 14, 15, 16, 17, 18, 19, 20, 21, 22, 23, 24, 47] [0, 1, 2, 3, 4, 5, 6, 7, 8, 9, 10, 11, 12, 13, 14, 15, 16, 17, 18, 19, 20, 21, 22, 23, 24, 26, 27, 28, 29, 30, 31, 32, 33, 34, 35, 36, 37, 38, 39, 40, 41, 42, 43, 44, 45, 46, 47, 25] (va_runV (As := [.int (xs (i4 + (1 : Int32)).toNatClampNeg), .int (xs (i4 + (2 : Int32)).toNatClampNeg)]) (rest := []) ⟨hx, hb, hml, hown, hts⟩ (c_M_inside l dC dI cI cZ cL qM _ xM (xs (i4 + (1 : Int32)).toNatClampNeg) (xs (i4 + (2 : Int32)).toNatClampNeg) _ hw) (cwV 2 hts (x_gV k_776 k_777 k_778 k_30 k_779) rfl rfl rfl (by decide +kernel) ⟨Nat.le_of_ble_eq_true rfl, Nat.le_of_ble_eq_true rfl⟩) ⟨x_blind, va_recv hK hP (ci := 4) (q0 := 25) rfl rfl, fun U hU hW => x_pre (isC := [25, 26, 27, 28, 29, 30, 31, 32, 33, 34, 35, 36, 37, 38, 39, 40, 41, 42, 43, 44, 45, 46]) hK hP hD rfl rfl hU hW⟩ rfl rfl hl.1 rfl (lv_room (Nat.le_of_ble_eq_true rfl)) d_L_law_759 ⟨by show _ ≤ 1078; omega, by show _ ≤ 9437; omega⟩) hP hD hS hA rfl rfl rfl (by decide) (fun _ => rfl) rfl (fun u759 H locs hw hP hD hS => ?_)
  refine lv_aload_n hx hb d_L_law_762 rfl (lv_at hl 3 rfl) ?_
  refine x_ci (w2 := fun _ => (wd_RUIWMo qR qU qI qW qM qo cI cZ cL u741.1 u741.2.1 u741.2.2.1 u741.2.2.2 u759 xo)) [25, 26, 27, 28, 29, 30, 31, 32, 33, 34, 35, 36, 37, 38, 39, 40, 41, 42, 43, 44, 45, 46] [0, 1, 2, 3, 4, 5, 6, 7, 8, 9, 10, 11, 12, 13, 14, 15, 16, 17, 18, 19, 20, 21, 22, 23, 24, 47] [0, 1, 2, 3, 4, 5, 6, 7, 8, 9, 10, 11, 12, 13, 14, 15, 16, 17, 18, 19, 20, 21, 22, 23, 24, 26, 27, 28, 29, 30, 31, 32, 33, 34, 35, 36, 37, 38, 39, 40, 41, 42, 43, 44, 45, 46, 47, 25] (va_runV (As := []) (rest := []) ⟨hx, hb, hml, hown, hts⟩ (c_M_thrown l dC dI cI cZ cL qM _ u759 _ hw) (cwV 0 hts (x_gV k_658 k_659 k_660 k_30 k_661) rfl rfl rfl (by decide +kernel) ⟨Nat.le_of_ble_eq_true rfl, Nat.le_of_ble_eq_true rfl⟩) ⟨x_blind, va_recv hK hP (ci := 4) (q0 := 25) rfl rfl, fun U hU hW => x_pre (isC := [25, 26, 27, 28, 29, 30, 31, 32, 33, 34, 35, 36, 37, 38, 39, 40, 41, 42, 43, 44, 45, 46]) hK hP hD rfl rfl hU hW⟩ rfl rfl hl.1 rfl (lv_room (Nat.le_of_ble_eq_true rfl)) d_L_law_763 ⟨by show _ ≤ 1078; omega, by show _ ≤ 9437; omega⟩) hP hD hS hA rfl rfl rfl (by decide) (fun _ => rfl) rfl (fun r763 _ H locs hw hP hD hS => ?_)
  refine lv_iload hx hb d_L_law_766 (lv_at hl 0 rfl) ?_
  refine lv_icmp_eq (tgt := 773) hx hb d_L_law_768 (by decide) (fun c768 => ?_) (fun c768 => ?_)
  · have hw := hw.1 c768
    refine lv_goto (tgt := 1120) hx hb d_L_law_773 (by decide) ?_
    obtain ⟨v4_1120, ev4_1120⟩ : ∃ y : Int32, y = i4 + 5 := ⟨_, rfl⟩
    have hw := hw v4_1120 ev4_1120
    refine lv_iinc (v := v4_1120) (lv' := [(4, .int v4_1120), (5, .int r741), (0, .ref b), (1, .ref (qR 0)), (2, .ref (qM 0)), (3, .ref qo)]) hx hb d_L_law_1120 hl (k := 5) rfl (by rw [ev4_1120]; rfl) (by decide) rfl (fun ls hl => ?_)
    refine lv_goto (tgt := 23) hx hb d_L_law_1123 (by decide) ?_
    refine W.widen (k := 48 + (j + 1)) (n := 1209 + 6 * (j + 1)) (by omega) (by omega) ?_
    exact ih (j + 1) rfl u741.1 u741.2.1 u741.2.2.1 u741.2.2.2 u759 xo v4_1120 _ _ _ hw hP hD hS (lv_sub hl [2, 3, 4, 5, 0] rfl)
  · have hw := hw.2 c768
    refine lv_iconst (v := (0 : Int32)) hx hb d_L_law_771 (by decide) ?_
    exact hw.elim
def wc_law_11 (xs : Nat → Int32) (L : Nat) (rec23 : St → St → St → St → St → (Nat → Int64) → Int32 → Prop) (xR : St) (xU : St) (xI : St) (xW : St) (xM : St) (xo : (Nat → Int64)) (i4 : Int32) : Prop := vp_in (i4 + (1 : Int32)) L ∧ (vp_in (i4 + (2 : Int32)) L ∧ (wp_L_report xR xU xI xW (xs (i4 + (1 : Int32)).toNatClampNeg) (xs (i4 + (2 : Int32)).toNatClampNeg) (fun r789 u789 => (vp_in (i4 + (1 : Int32)) L ∧ (vp_in (i4 + (2 : Int32)) L ∧ (wp_M_report xM (xs (i4 + (1 : Int32)).toNatClampNeg) (xs (i4 + (2 : Int32)).toNatClampNeg) (fun u807 => (wp_M_thrown u807 (fun r811 _ => ((r811 = r789 → (∀ v4_1120 : Int32, v4_1120 = i4 + 5 → (rec23 u789.1 u789.2.1 u789.2.2.1 u789.2.2.2 u807 xo v4_1120))) ∧ (¬ r811 = r789 → (False))))))))))))
set_option maxHeartbeats 8000000 in
set_option maxRecDepth 100000 in
theorem lawcase_11 {p : Program} {l : Launch} {e : Env} {s : State} {m : MethodId} {below : List Frame} {meth : Method} {c : Code} {dC : Nat → ClassId} {dI : Nat → Nat → Nat} {cI cZ cL : ClassId} {qR qU qI qW qM : Nat → Nat} {qo : Nat} {sa : Nat → Nat} {b L : Nat} {xs : Nat → Int32} (hl9 : l.stackTraces = false) {j : Nat} (hLj : j ≤ 512) (C0 : lw_At p s m meth c b L xs) (hK : va_K (dC, dI) vwCl [(cI, .int), (cZ, .boolean), (cL, .long)] s) (hE : xE "ReleaseRows" xTx sa (fun q : Nat => s.heap.size ≤ q) s.heap s) (hN : xN s) {rec23 : St → St → St → St → St → (Nat → Int64) → Int32 → Prop}
    (ih : ∀ j1 : Nat, j1 = j + 1 → ∀ (xR : St) (xU : St) (xI : St) (xW : St) (xM : St) (xo : (Nat → Int64)) (i4 : Int32) (H : Heap) (locs : List Loc) (ls : Array Slot), rec23 xR xU xI xW xM xo i4 → va_P (dC, dI) vwCl (wd_RUIWMo qR qU qI qW qM qo cI cZ cL xR xU xI xW xM xo) H → va_D (fun q : Nat => s.heap.size ≤ q) (wd_RUIWMo qR qU qI qW qM qo cI cZ cL xR xU xI xW xM xo) → va_S (fun q : Nat => s.heap.size ≤ q) s.heap H locs → lv_has ls 7 [(0, .ref b), (1, .ref (qR 0)), (2, .ref (qM 0)), (3, .ref qo), (4, .int i4)] → W p l e room_1 s m #[Value.ref b] below meth c H locs (48 + j1) (1209 + 6 * j1) (lw_Z below #[Value.ref b] s) (F0 m 23 ls []))
    : ∀ (xR : St) (xU : St) (xI : St) (xW : St) (xM : St) (xo : (Nat → Int64)) (i4 : Int32) (H : Heap) (locs : List Loc) (ls : Array Slot), wc_law_11 xs L rec23 xR xU xI xW xM xo i4 → va_P (dC, dI) vwCl (wd_RUIWMo qR qU qI qW qM qo cI cZ cL xR xU xI xW xM xo) H → va_D (fun q : Nat => s.heap.size ≤ q) (wd_RUIWMo qR qU qI qW qM qo cI cZ cL xR xU xI xW xM xo) → va_S (fun q : Nat => s.heap.size ≤ q) s.heap H locs → lv_has ls 7 [(0, .ref b), (1, .ref (qR 0)), (2, .ref (qM 0)), (3, .ref qo), (4, .int i4)] → W p l e room_1 s m #[Value.ref b] below meth c H locs (48 + j) (1209 + 6 * j) (lw_Z below #[Value.ref b] s) (F0 m 776 ls []) := by
  obtain ⟨hx, hb, hr, hml, hown, hts0, hX, hbl, hlocks, hgv⟩ := C0
  have hts : ∀ w ∈ gG, w.before #[Value.ref b] s = true := fun w h => hts0 w (List.mem_filter.mp h).1
  have hA : ∀ q : Nat, s.heap.size ≤ q → (fun q : Nat => s.heap.size ≤ q) q := fun _ h => h
  have hbA : ¬ (fun q : Nat => s.heap.size ≤ q) b := Nat.not_le.mpr hbl
  intro xR xU xI xW xM xo i4 H locs ls hw hP hD hS hl
  unfold wc_law_11 at hw
  refine lv_aload_n hx hb d_L_law_776 rfl (lv_at hl 1 rfl) ?_
  refine lv_aload_n hx hb d_L_law_777 rfl (lv_at hl 0 rfl) ?_
  refine lv_iload hx hb d_L_law_778 (lv_at hl 4 rfl) ?_
  refine lv_iconst (v := (1 : Int32)) hx hb d_L_law_780 (by decide) ?_
  refine lv_iadd hx hb d_L_law_781 ?_
  obtain ⟨h782, hw⟩ := hw
  refine va_sld hx hb hX hbl hbA hS h782 d_L_law_782 ?_
  refine lv_aload_n hx hb d_L_law_783 rfl (lv_at hl 0 rfl) ?_
  refine lv_iload hx hb d_L_law_784 (lv_at hl 4 rfl) ?_
  refine lv_iconst (v := (2 : Int32)) hx hb d_L_law_786 (by decide) ?_
  refine lv_iadd hx hb d_L_law_787 ?_
  obtain ⟨h788, hw⟩ := hw
  refine va_sld hx hb hX hbl hbA hS h788 d_L_law_788 ?_
  refine x_ci (w2 := fun u789 => (wd_RUIWMo qR qU qI qW qM qo cI cZ cL u789.1 u789.2.1 u789.2.2.1 u789.2.2.2 xM xo)) [0, 1, 2, 3, 4, 5, 6, 7, 8, 9, 10, 11, 12, 13, 14, 15, 16, 17, 18, 19, 20, 21, 22, 23, 24] [25, 26, 27, 28, 29, 30, 31, 32, 33, 34, 35, 36, 37, 38, 39, 40, 41, 42, 43, 44, 45, 46, 47] [23, 24, 25, 26, 27, 28, 29, 30, 31, 32, 33, 34, 35, 36, 37, 38, 39, 40, 41, 42, 43, 44, 45, 46, 47, 0, 1, 2, 3, 4, 5, 6, 7, 8, 9, 10, 11, 12, 13, 14, 15, 16, 17, 18, 19, 20, 21, 22] (vx_runSW (hh := [(0, 6, 9, 21), (0, 6, 12, 34)]) (As := [.ref (qR 0), .int (xs (i4 + (1 : Int32)).toNatClampNeg), .int (xs (i4 + (2 : Int32)).toNatClampNeg)]) (rest := []) ⟨hx, hb, hml, hown, hts⟩ (c_L_report l hl9 sa dC dI cI cZ cL qR qU qI qW _ xR xU xI xW (xs (i4 + (1 : Int32)).toNatClampNeg) (xs (i4 + (2 : Int32)).toNatClampNeg) _ hw) (vx_cwSW 3 hts (x_gW k_504 k_505 k_25 k_506) rfl rfl rfl (by decide +kernel) ⟨Nat.le_of_ble_eq_true rfl, Nat.le_of_ble_eq_true rfl⟩) ⟨x_blindN, fun U hU hW => x_preN (isC := [0, 1, 2, 3, 4, 5, 6, 7, 8, 9, 10, 11, 12, 13, 14, 15, 16, 17, 18, 19, 20, 21, 22, 23, 24]) hK hP hD hS hA hE hN rfl rfl hU hW⟩ rfl rfl hl.1 rfl (lv_room (Nat.le_of_ble_eq_true rfl)) d_L_law_789 ⟨by show _ ≤ 1078; omega, by show _ ≤ 9437; omega⟩) hP hD hS hA rfl rfl rfl (by decide) (fun _ => rfl) rfl (fun r789 u789 H locs hw hP hD hS => ?_)
  refine lv_istore (lv' := [(5, .int r789), (0, .ref b), (1, .ref (qR 0)), (2, .ref (qM 0)), (3, .ref qo), (4, .int i4)]) hx hb d_L_law_792 hl (by decide) rfl (fun ls hl => ?_)
  refine lv_aload_n hx hb d_L_law_794 rfl (lv_at hl 3 rfl) ?_
  refine lv_aload_n hx hb d_L_law_795 rfl (lv_at hl 1 rfl) ?_
  refine lv_iload hx hb d_L_law_796 (lv_at hl 5 rfl) ?_
  refine lv_iconst (v := (1 : Int32)) hx hb d_L_law_798 (by decide) ?_
  refine lv_iadd hx hb d_L_law_799 ?_
  obtain ⟨h800, hw⟩ := hw
  refine va_sld hx hb hX hbl hbA hS h800 d_L_law_800 ?_
  refine lv_aload_n hx hb d_L_law_801 rfl (lv_at hl 1 rfl) ?_
  refine lv_iload hx hb d_L_law_802 (lv_at hl 5 rfl) ?_
  refine lv_iconst (v := (2 : Int32)) hx hb d_L_law_804 (by decide) ?_
  refine lv_iadd hx hb d_L_law_805 ?_
  obtain ⟨h806, hw⟩ := hw
  refine va_sld hx hb hX hbl hbA hS h806 d_L_law_806 ?_
  refine x_cv (w2 := fun u807 => (wd_RUIWMo qR qU qI qW qM qo cI cZ cL u789.1 u789.2.1 u789.2.2.1 u789.2.2.2 u807 xo)) [25, 26, 27, 28, 29, 30, 31, 32, 33, 34, 35, 36, 37, 38, 39, 40, 41, 42, 43, 44, 45, 46] [0, 1, 2, 3, 4, 5, 6, 7, 8, 9, 10, 11, 12, 13, 14, 15, 16, 17, 18, 19, 20, 21, 22, 23, 24, 47] [0, 1, 2, 3, 4, 5, 6, 7, 8, 9, 10, 11, 12, 13, 14, 15, 16, 17, 18, 19, 20, 21, 22, 23, 24, 26, 27, 28, 29, 30, 31, 32, 33, 34, 35, 36, 37, 38, 39, 40, 41, 42, 43, 44, 45, 46, 47, 25] (va_runV (As := [.int (xs (i4 + (1 : Int32)).toNatClampNeg), .int (xs (i4 + (2 : Int32)).toNatClampNeg)]) (rest := []) ⟨hx, hb, hml, hown, hts⟩ (c_M_report l dC dI cI cZ cL qM _ xM (xs (i4 + (1 : Int32)).toNatClampNeg) (xs (i4 + (2 : Int32)).toNatClampNeg) _ hw) (cwV 2 hts (x_gV k_780 k_781 k_782 k_30 k_783) rfl rfl rfl (by decide +kernel) ⟨Nat.le_of_ble_eq_true rfl, Nat.le_of_ble_eq_true rfl⟩) ⟨x_blind, va_recv hK hP (ci := 4) (q0 := 25) rfl rfl, fun U hU hW => x_pre (isC := [25, 26, 27, 28, 29, 30, 31, 32, 33, 34, 35, 36, 37, 38, 39, 40, 41, 42, 43, 44, 45, 46]) hK hP hD rfl rfl hU hW⟩ rfl rfl hl.1 rfl (lv_room (Nat.le_of_ble_eq_true rfl)) d_L_law_807 ⟨by show _ ≤ 1078; omega, by show _ ≤ 9437; omega⟩) hP hD hS hA rfl rfl rfl (by decide) (fun _ => rfl) rfl (fun u807 H locs hw hP hD hS => ?_)
  refine lv_aload_n hx hb d_L_law_810 rfl (lv_at hl 3 rfl) ?_
  refine x_ci (w2 := fun _ => (wd_RUIWMo qR qU qI qW qM qo cI cZ cL u789.1 u789.2.1 u789.2.2.1 u789.2.2.2 u807 xo)) [25, 26, 27, 28, 29, 30, 31, 32, 33, 34, 35, 36, 37, 38, 39, 40, 41, 42, 43, 44, 45, 46] [0, 1, 2, 3, 4, 5, 6, 7, 8, 9, 10, 11, 12, 13, 14, 15, 16, 17, 18, 19, 20, 21, 22, 23, 24, 47] [0, 1, 2, 3, 4, 5, 6, 7, 8, 9, 10, 11, 12, 13, 14, 15, 16, 17, 18, 19, 20, 21, 22, 23, 24, 26, 27, 28, 29, 30, 31, 32, 33, 34, 35, 36, 37, 38, 39, 40, 41, 42, 43, 44, 45, 46, 47, 25] (va_runV (As := []) (rest := []) ⟨hx, hb, hml, hown, hts⟩ (c_M_thrown l dC dI cI cZ cL qM _ u807 _ hw) (cwV 0 hts (x_gV k_658 k_659 k_660 k_30 k_661) rfl rfl rfl (by decide +kernel) ⟨Nat.le_of_ble_eq_true rfl, Nat.le_of_ble_eq_true rfl⟩) ⟨x_blind, va_recv hK hP (ci := 4) (q0 := 25) rfl rfl, fun U hU hW => x_pre (isC := [25, 26, 27, 28, 29, 30, 31, 32, 33, 34, 35, 36, 37, 38, 39, 40, 41, 42, 43, 44, 45, 46]) hK hP hD rfl rfl hU hW⟩ rfl rfl hl.1 rfl (lv_room (Nat.le_of_ble_eq_true rfl)) d_L_law_811 ⟨by show _ ≤ 1078; omega, by show _ ≤ 9437; omega⟩) hP hD hS hA rfl rfl rfl (by decide) (fun _ => rfl) rfl (fun r811 _ H locs hw hP hD hS => ?_)
  refine lv_iload hx hb d_L_law_814 (lv_at hl 0 rfl) ?_
  refine lv_icmp_eq (tgt := 821) hx hb d_L_law_816 (by decide) (fun c816 => ?_) (fun c816 => ?_)
  · have hw := hw.1 c816
    refine lv_goto (tgt := 1120) hx hb d_L_law_821 (by decide) ?_
    obtain ⟨v4_1120, ev4_1120⟩ : ∃ y : Int32, y = i4 + 5 := ⟨_, rfl⟩
    have hw := hw v4_1120 ev4_1120
    refine lv_iinc (v := v4_1120) (lv' := [(4, .int v4_1120), (5, .int r789), (0, .ref b), (1, .ref (qR 0)), (2, .ref (qM 0)), (3, .ref qo)]) hx hb d_L_law_1120 hl (k := 5) rfl (by rw [ev4_1120]; rfl) (by decide) rfl (fun ls hl => ?_)
    refine lv_goto (tgt := 23) hx hb d_L_law_1123 (by decide) ?_
    refine W.widen (k := 48 + (j + 1)) (n := 1209 + 6 * (j + 1)) (by omega) (by omega) ?_
    exact ih (j + 1) rfl u789.1 u789.2.1 u789.2.2.1 u789.2.2.2 u807 xo v4_1120 _ _ _ hw hP hD hS (lv_sub hl [2, 3, 4, 5, 0] rfl)
  · have hw := hw.2 c816
    refine lv_iconst (v := (0 : Int32)) hx hb d_L_law_819 (by decide) ?_
    exact hw.elim
