def wc_law_12 (xs : Nat → Int32) (L : Nat) (rec23 : St → St → St → St → St → (Nat → Int64) → Int32 → Prop) (xR : St) (xU : St) (xI : St) (xW : St) (xM : St) (xo : (Nat → Int64)) (i4 : Int32) : Prop := vp_in (i4 + (1 : Int32)) L ∧ (vp_in (i4 + (2 : Int32)) L ∧ (wp_L_watch xR xU xI xW (xs (i4 + (1 : Int32)).toNatClampNeg) (xs (i4 + (2 : Int32)).toNatClampNeg) (fun r837 u837 => (vp_in (i4 + (1 : Int32)) L ∧ (vp_in (i4 + (2 : Int32)) L ∧ (wp_M_watch xM (xs (i4 + (1 : Int32)).toNatClampNeg) (xs (i4 + (2 : Int32)).toNatClampNeg) (fun u855 => (wp_M_thrown u855 (fun r859 _ => ((r859 = r837 → (∀ v4_1120 : Int32, v4_1120 = i4 + 5 → (rec23 u837.1 u837.2.1 u837.2.2.1 u837.2.2.2 u855 xo v4_1120))) ∧ (¬ r859 = r837 → (False))))))))))))
set_option maxHeartbeats 8000000 in
set_option maxRecDepth 100000 in
theorem lawcase_12 {p : Program} {l : Launch} {e : Env} {s : State} {m : MethodId} {below : List Frame} {meth : Method} {c : Code} {dC : Nat → ClassId} {dI : Nat → Nat → Nat} {cI cZ cL : ClassId} {qR qU qI qW qM : Nat → Nat} {qo : Nat} {sa : Nat → Nat} {b L : Nat} {xs : Nat → Int32} (hl9 : l.stackTraces = false) {j : Nat} (hLj : j ≤ 512) (C0 : lw_At p s m meth c b L xs) (hK : va_K (dC, dI) vwCl [(cI, .int), (cZ, .boolean), (cL, .long)] s) (hE : xE "ReleaseRows" xTx sa (fun q : Nat => s.heap.size ≤ q) s.heap s) (hN : xN s) {rec23 : St → St → St → St → St → (Nat → Int64) → Int32 → Prop}
    (ih : ∀ j1 : Nat, j1 = j + 1 → ∀ (xR : St) (xU : St) (xI : St) (xW : St) (xM : St) (xo : (Nat → Int64)) (i4 : Int32) (H : Heap) (locs : List Loc) (ls : Array Slot), rec23 xR xU xI xW xM xo i4 → va_P (dC, dI) vwCl (wd_RUIWMo qR qU qI qW qM qo cI cZ cL xR xU xI xW xM xo) H → va_D (fun q : Nat => s.heap.size ≤ q) (wd_RUIWMo qR qU qI qW qM qo cI cZ cL xR xU xI xW xM xo) → va_S (fun q : Nat => s.heap.size ≤ q) s.heap H locs → lv_has ls 7 [(0, .ref b), (1, .ref (qR 0)), (2, .ref (qM 0)), (3, .ref qo), (4, .int i4)] → W p l e room_1 s m #[Value.ref b] below meth c H locs (48 + j1) (1209 + 6 * j1) (lw_Z below #[Value.ref b] s) (F0 m 23 ls []))
    : ∀ (xR : St) (xU : St) (xI : St) (xW : St) (xM : St) (xo : (Nat → Int64)) (i4 : Int32) (H : Heap) (locs : List Loc) (ls : Array Slot), wc_law_12 xs L rec23 xR xU xI xW xM xo i4 → va_P (dC, dI) vwCl (wd_RUIWMo qR qU qI qW qM qo cI cZ cL xR xU xI xW xM xo) H → va_D (fun q : Nat => s.heap.size ≤ q) (wd_RUIWMo qR qU qI qW qM qo cI cZ cL xR xU xI xW xM xo) → va_S (fun q : Nat => s.heap.size ≤ q) s.heap H locs → lv_has ls 7 [(0, .ref b), (1, .ref (qR 0)), (2, .ref (qM 0)), (3, .ref qo), (4, .int i4)] → W p l e room_1 s m #[Value.ref b] below meth c H locs (48 + j) (1209 + 6 * j) (lw_Z below #[Value.ref b] s) (F0 m 824 ls []) := by
  obtain ⟨hx, hb, hr, hml, hown, hts0, hX, hbl, hlocks, hgv⟩ := C0
  have hts : ∀ w ∈ gG, w.before #[Value.ref b] s = true := fun w h => hts0 w (List.mem_filter.mp h).1
  have hA : ∀ q : Nat, s.heap.size ≤ q → (fun q : Nat => s.heap.size ≤ q) q := fun _ h => h
  have hbA : ¬ (fun q : Nat => s.heap.size ≤ q) b := Nat.not_le.mpr hbl
  intro xR xU xI xW xM xo i4 H locs ls hw hP hD hS hl
  unfold wc_law_12 at hw
  refine lv_aload_n hx hb d_L_law_824 rfl (lv_at hl 1 rfl) ?_
  refine lv_aload_n hx hb d_L_law_825 rfl (lv_at hl 0 rfl) ?_
  refine lv_iload hx hb d_L_law_826 (lv_at hl 4 rfl) ?_
  refine lv_iconst (v := (1 : Int32)) hx hb d_L_law_828 (by decide) ?_
  refine lv_iadd hx hb d_L_law_829 ?_
  obtain ⟨h830, hw⟩ := hw
  refine va_sld hx hb hX hbl hbA hS h830 d_L_law_830 ?_
  refine lv_aload_n hx hb d_L_law_831 rfl (lv_at hl 0 rfl) ?_
  refine lv_iload hx hb d_L_law_832 (lv_at hl 4 rfl) ?_
  refine lv_iconst (v := (2 : Int32)) hx hb d_L_law_834 (by decide) ?_
  refine lv_iadd hx hb d_L_law_835 ?_
  obtain ⟨h836, hw⟩ := hw
  refine va_sld hx hb hX hbl hbA hS h836 d_L_law_836 ?_
  refine x_ci (w2 := fun u837 => (wd_RUIWMo qR qU qI qW qM qo cI cZ cL u837.1 u837.2.1 u837.2.2.1 u837.2.2.2 xM xo)) [0, 1, 2, 3, 4, 5, 6, 7, 8, 9, 10, 11, 12, 13, 14, 15, 16, 17, 18, 19, 20, 21, 22, 23, 24] [25, 26, 27, 28, 29, 30, 31, 32, 33, 34, 35, 36, 37, 38, 39, 40, 41, 42, 43, 44, 45, 46, 47] [23, 24, 25, 26, 27, 28, 29, 30, 31, 32, 33, 34, 35, 36, 37, 38, 39, 40, 41, 42, 43, 44, 45, 46, 47, 0, 1, 2, 3, 4, 5, 6, 7, 8, 9, 10, 11, 12, 13, 14, 15, 16, 17, 18, 19, 20, 21, 22] (vx_runSW (hh := [(0, 6, 9, 21), (0, 6, 12, 13), (0, 6, 15, 34)]) (As := [.ref (qR 0), .int (xs (i4 + (1 : Int32)).toNatClampNeg), .int (xs (i4 + (2 : Int32)).toNatClampNeg)]) (rest := []) ⟨hx, hb, hml, hown, hts⟩ (c_L_watch l hl9 sa dC dI cI cZ cL qR qU qI qW _ xR xU xI xW (xs (i4 + (1 : Int32)).toNatClampNeg) (xs (i4 + (2 : Int32)).toNatClampNeg) _ hw) (vx_cwSW 3 hts (x_gW k_511 k_512 k_25 k_513) rfl rfl rfl (by decide +kernel) ⟨Nat.le_of_ble_eq_true rfl, Nat.le_of_ble_eq_true rfl⟩) ⟨x_blindN, fun U hU hW => x_preN (isC := [0, 1, 2, 3, 4, 5, 6, 7, 8, 9, 10, 11, 12, 13, 14, 15, 16, 17, 18, 19, 20, 21, 22, 23, 24]) hK hP hD hS hA hE hN rfl rfl hU hW⟩ rfl rfl hl.1 rfl (lv_room (Nat.le_of_ble_eq_true rfl)) d_L_law_837 ⟨by show _ ≤ 1078; omega, by show _ ≤ 9437; omega⟩) hP hD hS hA rfl rfl rfl (by decide) (fun _ => rfl) rfl (fun r837 u837 H locs hw hP hD hS => ?_)
  refine lv_istore (lv' := [(5, .int r837), (0, .ref b), (1, .ref (qR 0)), (2, .ref (qM 0)), (3, .ref qo), (4, .int i4)]) hx hb d_L_law_840 hl (by decide) rfl (fun ls hl => ?_)
  refine lv_aload_n hx hb d_L_law_842 rfl (lv_at hl 3 rfl) ?_
  refine lv_aload_n hx hb d_L_law_843 rfl (lv_at hl 1 rfl) ?_
  refine lv_iload hx hb d_L_law_844 (lv_at hl 5 rfl) ?_
  refine lv_iconst (v := (1 : Int32)) hx hb d_L_law_846 (by decide) ?_
  refine lv_iadd hx hb d_L_law_847 ?_
  obtain ⟨h848, hw⟩ := hw
  refine va_sld hx hb hX hbl hbA hS h848 d_L_law_848 ?_
  refine lv_aload_n hx hb d_L_law_849 rfl (lv_at hl 1 rfl) ?_
  refine lv_iload hx hb d_L_law_850 (lv_at hl 5 rfl) ?_
  refine lv_iconst (v := (2 : Int32)) hx hb d_L_law_852 (by decide) ?_
  refine lv_iadd hx hb d_L_law_853 ?_
  obtain ⟨h854, hw⟩ := hw
  refine va_sld hx hb hX hbl hbA hS h854 d_L_law_854 ?_
  refine x_cv (w2 := fun u855 => (wd_RUIWMo qR qU qI qW qM qo cI cZ cL u837.1 u837.2.1 u837.2.2.1 u837.2.2.2 u855 xo)) [25, 26, 27, 28, 29, 30, 31, 32, 33, 34, 35, 36, 37, 38, 39, 40, 41, 42, 43, 44, 45, 46] [0, 1, 2, 3, 4, 5, 6, 7, 8, 9, 10, 11, 12, 13, 14, 15, 16, 17, 18, 19, 20, 21, 22, 23, 24, 47] [0, 1, 2, 3, 4, 5, 6, 7, 8, 9, 10, 11, 12, 13, 14, 15, 16, 17, 18, 19, 20, 21, 22, 23, 24, 26, 27, 28, 29, 30, 31, 32, 33, 34, 35, 36, 37, 38, 39, 40, 41, 42, 43, 44, 45, 46, 47, 25] (va_runV (As := [.int (xs (i4 + (1 : Int32)).toNatClampNeg), .int (xs (i4 + (2 : Int32)).toNatClampNeg)]) (rest := []) ⟨hx, hb, hml, hown, hts⟩ (c_M_watch l dC dI cI cZ cL qM _ xM (xs (i4 + (1 : Int32)).toNatClampNeg) (xs (i4 + (2 : Int32)).toNatClampNeg) _ hw) (cwV 2 hts (x_gV k_784 k_785 k_786 k_30 k_787) rfl rfl rfl (by decide +kernel) ⟨Nat.le_of_ble_eq_true rfl, Nat.le_of_ble_eq_true rfl⟩) ⟨x_blind, va_recv hK hP (ci := 4) (q0 := 25) rfl rfl, fun U hU hW => x_pre (isC := [25, 26, 27, 28, 29, 30, 31, 32, 33, 34, 35, 36, 37, 38, 39, 40, 41, 42, 43, 44, 45, 46]) hK hP hD rfl rfl hU hW⟩ rfl rfl hl.1 rfl (lv_room (Nat.le_of_ble_eq_true rfl)) d_L_law_855 ⟨by show _ ≤ 1078; omega, by show _ ≤ 9437; omega⟩) hP hD hS hA rfl rfl rfl (by decide) (fun _ => rfl) rfl (fun u855 H locs hw hP hD hS => ?_)
  refine lv_aload_n hx hb d_L_law_858 rfl (lv_at hl 3 rfl) ?_
  refine x_ci (w2 := fun _ => (wd_RUIWMo qR qU qI qW qM qo cI cZ cL u837.1 u837.2.1 u837.2.2.1 u837.2.2.2 u855 xo)) [25, 26, 27, 28, 29, 30, 31, 32, 33, 34, 35, 36, 37, 38, 39, 40, 41, 42, 43, 44, 45, 46] [0, 1, 2, 3, 4, 5, 6, 7, 8, 9, 10, 11, 12, 13, 14, 15, 16, 17, 18, 19, 20, 21, 22, 23, 24, 47] [0, 1, 2, 3, 4, 5, 6, 7, 8, 9, 10, 11, 12, 13, 14, 15, 16, 17, 18, 19, 20, 21, 22, 23, 24, 26, 27, 28, 29, 30, 31, 32, 33, 34, 35, 36, 37, 38, 39, 40, 41, 42, 43, 44, 45, 46, 47, 25] (va_runV (As := []) (rest := []) ⟨hx, hb, hml, hown, hts⟩ (c_M_thrown l dC dI cI cZ cL qM _ u855 _ hw) (cwV 0 hts (x_gV k_658 k_659 k_660 k_30 k_661) rfl rfl rfl (by decide +kernel) ⟨Nat.le_of_ble_eq_true rfl, Nat.le_of_ble_eq_true rfl⟩) ⟨x_blind, va_recv hK hP (ci := 4) (q0 := 25) rfl rfl, fun U hU hW => x_pre (isC := [25, 26, 27, 28, 29, 30, 31, 32, 33, 34, 35, 36, 37, 38, 39, 40, 41, 42, 43, 44, 45, 46]) hK hP hD rfl rfl hU hW⟩ rfl rfl hl.1 rfl (lv_room (Nat.le_of_ble_eq_true rfl)) d_L_law_859 ⟨by show _ ≤ 1078; omega, by show _ ≤ 9437; omega⟩) hP hD hS hA rfl rfl rfl (by decide) (fun _ => rfl) rfl (fun r859 _ H locs hw hP hD hS => ?_)
  refine lv_iload hx hb d_L_law_862 (lv_at hl 0 rfl) ?_
  refine lv_icmp_eq (tgt := 869) hx hb d_L_law_864 (by decide) (fun c864 => ?_) (fun c864 => ?_)
  · have hw := hw.1 c864
    refine lv_goto (tgt := 1120) hx hb d_L_law_869 (by decide) ?_
    obtain ⟨v4_1120, ev4_1120⟩ : ∃ y : Int32, y = i4 + 5 := ⟨_, rfl⟩
    have hw := hw v4_1120 ev4_1120
    refine lv_iinc (v := v4_1120) (lv' := [(4, .int v4_1120), (5, .int r837), (0, .ref b), (1, .ref (qR 0)), (2, .ref (qM 0)), (3, .ref qo)]) hx hb d_L_law_1120 hl (k := 5) rfl (by rw [ev4_1120]; rfl) (by decide) rfl (fun ls hl => ?_)
    refine lv_goto (tgt := 23) hx hb d_L_law_1123 (by decide) ?_
    refine W.widen (k := 48 + (j + 1)) (n := 1209 + 6 * (j + 1)) (by omega) (by omega) ?_
    exact ih (j + 1) rfl u837.1 u837.2.1 u837.2.2.1 u837.2.2.2 u855 xo v4_1120 _ _ _ hw hP hD hS (lv_sub hl [2, 3, 4, 5, 0] rfl)
  · have hw := hw.2 c864
    refine lv_iconst (v := (0 : Int32)) hx hb d_L_law_867 (by decide) ?_
    exact hw.elim
def wc_law_13 (xs : Nat → Int32) (L : Nat) (rec23 : St → St → St → St → St → (Nat → Int64) → Int32 → Prop) (xR : St) (xU : St) (xI : St) (xW : St) (xM : St) (xo : (Nat → Int64)) (i4 : Int32) : Prop := vp_in (i4 + (1 : Int32)) L ∧ (wp_L_tick xR xU xI xW xo (xs (i4 + (1 : Int32)).toNatClampNeg) (fun r880 u880 => (vp_in (i4 + (1 : Int32)) L ∧ (wp_M_tick xM (xs (i4 + (1 : Int32)).toNatClampNeg) (fun r892 u892 => (wp_M_thrown u892 (fun r898 _ => ((r898 = r880 → ((¬ r880 = 0 → (∀ v4_1120 : Int32, v4_1120 = i4 + 5 → (rec23 u880.1 u880.2.1 u880.2.2.1 u880.2.2.2.1 u892 u880.2.2.2.2 v4_1120))) ∧ (r880 = 0 → (vp_in (0 : Int32) 1 ∧ (((lg_cmp (u880.2.2.2.2 (0 : Int32).toNatClampNeg) r892.toInt64) = 0 → (∀ v4_1120 : Int32, v4_1120 = i4 + 5 → (rec23 u880.1 u880.2.1 u880.2.2.1 u880.2.2.2.1 u892 u880.2.2.2.2 v4_1120))) ∧ (¬ (lg_cmp (u880.2.2.2.2 (0 : Int32).toNatClampNeg) r892.toInt64) = 0 → (False))))))) ∧ (¬ r898 = r880 → (False))))))))))
set_option maxHeartbeats 8000000 in
set_option maxRecDepth 100000 in
theorem lawcase_13 {p : Program} {l : Launch} {e : Env} {s : State} {m : MethodId} {below : List Frame} {meth : Method} {c : Code} {dC : Nat → ClassId} {dI : Nat → Nat → Nat} {cI cZ cL : ClassId} {qR qU qI qW qM : Nat → Nat} {qo : Nat} {sa : Nat → Nat} {b L : Nat} {xs : Nat → Int32} (hl9 : l.stackTraces = false) {j : Nat} (hLj : j ≤ 512) (C0 : lw_At p s m meth c b L xs) (hK : va_K (dC, dI) vwCl [(cI, .int), (cZ, .boolean), (cL, .long)] s) (hE : xE "ReleaseRows" xTx sa (fun q : Nat => s.heap.size ≤ q) s.heap s) (hN : xN s) {rec23 : St → St → St → St → St → (Nat → Int64) → Int32 → Prop}
    (ih : ∀ j1 : Nat, j1 = j + 1 → ∀ (xR : St) (xU : St) (xI : St) (xW : St) (xM : St) (xo : (Nat → Int64)) (i4 : Int32) (H : Heap) (locs : List Loc) (ls : Array Slot), rec23 xR xU xI xW xM xo i4 → va_P (dC, dI) vwCl (wd_RUIWMo qR qU qI qW qM qo cI cZ cL xR xU xI xW xM xo) H → va_D (fun q : Nat => s.heap.size ≤ q) (wd_RUIWMo qR qU qI qW qM qo cI cZ cL xR xU xI xW xM xo) → va_S (fun q : Nat => s.heap.size ≤ q) s.heap H locs → lv_has ls 7 [(0, .ref b), (1, .ref (qR 0)), (2, .ref (qM 0)), (3, .ref qo), (4, .int i4)] → W p l e room_1 s m #[Value.ref b] below meth c H locs (48 + j1) (1209 + 6 * j1) (lw_Z below #[Value.ref b] s) (F0 m 23 ls []))
    : ∀ (xR : St) (xU : St) (xI : St) (xW : St) (xM : St) (xo : (Nat → Int64)) (i4 : Int32) (H : Heap) (locs : List Loc) (ls : Array Slot), wc_law_13 xs L rec23 xR xU xI xW xM xo i4 → va_P (dC, dI) vwCl (wd_RUIWMo qR qU qI qW qM qo cI cZ cL xR xU xI xW xM xo) H → va_D (fun q : Nat => s.heap.size ≤ q) (wd_RUIWMo qR qU qI qW qM qo cI cZ cL xR xU xI xW xM xo) → va_S (fun q : Nat => s.heap.size ≤ q) s.heap H locs → lv_has ls 7 [(0, .ref b), (1, .ref (qR 0)), (2, .ref (qM 0)), (3, .ref qo), (4, .int i4)] → W p l e room_1 s m #[Value.ref b] below meth c H locs (48 + j) (1209 + 6 * j) (lw_Z below #[Value.ref b] s) (F0 m 872 ls []) := by
  obtain ⟨hx, hb, hr, hml, hown, hts0, hX, hbl, hlocks, hgv⟩ := C0
  have hts : ∀ w ∈ gG, w.before #[Value.ref b] s = true := fun w h => hts0 w (List.mem_filter.mp h).1
  have hA : ∀ q : Nat, s.heap.size ≤ q → (fun q : Nat => s.heap.size ≤ q) q := fun _ h => h
  have hbA : ¬ (fun q : Nat => s.heap.size ≤ q) b := Nat.not_le.mpr hbl
  intro xR xU xI xW xM xo i4 H locs ls hw hP hD hS hl
  unfold wc_law_13 at hw
  refine lv_aload_n hx hb d_L_law_872 rfl (lv_at hl 1 rfl) ?_
  refine lv_aload_n hx hb d_L_law_873 rfl (lv_at hl 0 rfl) ?_
  refine lv_iload hx hb d_L_law_874 (lv_at hl 4 rfl) ?_
  refine lv_iconst (v := (1 : Int32)) hx hb d_L_law_876 (by decide) ?_
  refine lv_iadd hx hb d_L_law_877 ?_
  obtain ⟨h878, hw⟩ := hw
  refine va_sld hx hb hX hbl hbA hS h878 d_L_law_878 ?_
  refine lv_aload_n hx hb d_L_law_879 rfl (lv_at hl 3 rfl) ?_
  refine x_ci (w2 := fun u880 => (wd_RUIWMo qR qU qI qW qM qo cI cZ cL u880.1 u880.2.1 u880.2.2.1 u880.2.2.2.1 xM u880.2.2.2.2)) [0, 1, 2, 3, 4, 5, 6, 7, 8, 9, 10, 11, 12, 13, 14, 15, 16, 17, 18, 19, 20, 21, 22, 23, 24, 47] [25, 26, 27, 28, 29, 30, 31, 32, 33, 34, 35, 36, 37, 38, 39, 40, 41, 42, 43, 44, 45, 46] [22, 23, 24, 25, 26, 27, 28, 29, 30, 31, 32, 33, 34, 35, 36, 37, 38, 39, 40, 41, 42, 43, 44, 45, 46, 0, 1, 2, 3, 4, 5, 6, 7, 8, 9, 10, 11, 12, 13, 14, 15, 16, 17, 18, 19, 20, 21, 47] (vx_runSW (hh := [(0, 9, 12, 13)]) (As := [.ref (qR 0), .int (xs (i4 + (1 : Int32)).toNatClampNeg), .ref qo]) (rest := []) ⟨hx, hb, hml, hown, hts⟩ (c_L_tick l hl9 sa dC dI cI cZ cL qR qU qI qW qo _ xR xU xI xW xo (xs (i4 + (1 : Int32)).toNatClampNeg) _ hw) (vx_cwSW 3 hts (x_gW k_519 k_520 k_25 k_521) rfl rfl rfl (by decide +kernel) ⟨Nat.le_of_ble_eq_true rfl, Nat.le_of_ble_eq_true rfl⟩) ⟨x_blindN, fun U hU hW => x_preN (isC := [0, 1, 2, 3, 4, 5, 6, 7, 8, 9, 10, 11, 12, 13, 14, 15, 16, 17, 18, 19, 20, 21, 22, 23, 24, 47]) hK hP hD hS hA hE hN rfl rfl hU hW⟩ rfl rfl hl.1 rfl (lv_room (Nat.le_of_ble_eq_true rfl)) d_L_law_880 ⟨by show _ ≤ 1078; omega, by show _ ≤ 9437; omega⟩) hP hD hS hA rfl rfl rfl (by decide) (fun _ => rfl) rfl (fun r880 u880 H locs hw hP hD hS => ?_)
  refine lv_istore (lv' := [(5, .int r880), (0, .ref b), (1, .ref (qR 0)), (2, .ref (qM 0)), (3, .ref qo), (4, .int i4)]) hx hb d_L_law_883 hl (by decide) rfl (fun ls hl => ?_)
  refine lv_aload_n hx hb d_L_law_885 rfl (lv_at hl 3 rfl) ?_
  refine lv_aload_n hx hb d_L_law_886 rfl (lv_at hl 1 rfl) ?_
  refine lv_iload hx hb d_L_law_887 (lv_at hl 5 rfl) ?_
  refine lv_iconst (v := (1 : Int32)) hx hb d_L_law_889 (by decide) ?_
  refine lv_iadd hx hb d_L_law_890 ?_
  obtain ⟨h891, hw⟩ := hw
  refine va_sld hx hb hX hbl hbA hS h891 d_L_law_891 ?_
  refine x_ci (w2 := fun u892 => (wd_RUIWMo qR qU qI qW qM qo cI cZ cL u880.1 u880.2.1 u880.2.2.1 u880.2.2.2.1 u892 u880.2.2.2.2)) [25, 26, 27, 28, 29, 30, 31, 32, 33, 34, 35, 36, 37, 38, 39, 40, 41, 42, 43, 44, 45, 46] [0, 1, 2, 3, 4, 5, 6, 7, 8, 9, 10, 11, 12, 13, 14, 15, 16, 17, 18, 19, 20, 21, 22, 23, 24, 47] [0, 1, 2, 3, 4, 5, 6, 7, 8, 9, 10, 11, 12, 13, 14, 15, 16, 17, 18, 19, 20, 21, 22, 23, 24, 26, 27, 28, 29, 30, 31, 32, 33, 34, 35, 36, 37, 38, 39, 40, 41, 42, 43, 44, 45, 46, 47, 25] (va_runV (As := [.int (xs (i4 + (1 : Int32)).toNatClampNeg)]) (rest := []) ⟨hx, hb, hml, hown, hts⟩ (c_M_tick l dC dI cI cZ cL qM _ xM (xs (i4 + (1 : Int32)).toNatClampNeg) _ hw) (cwV 1 hts (x_gV k_727 k_728 k_729 k_30 k_730) rfl rfl rfl (by decide +kernel) ⟨Nat.le_of_ble_eq_true rfl, Nat.le_of_ble_eq_true rfl⟩) ⟨x_blind, va_recv hK hP (ci := 4) (q0 := 25) rfl rfl, fun U hU hW => x_pre (isC := [25, 26, 27, 28, 29, 30, 31, 32, 33, 34, 35, 36, 37, 38, 39, 40, 41, 42, 43, 44, 45, 46]) hK hP hD rfl rfl hU hW⟩ rfl rfl hl.1 rfl (lv_room (Nat.le_of_ble_eq_true rfl)) d_L_law_892 ⟨by show _ ≤ 1078; omega, by show _ ≤ 9437; omega⟩) hP hD hS hA rfl rfl rfl (by decide) (fun _ => rfl) rfl (fun r892 u892 H locs hw hP hD hS => ?_)
  refine lv_istore (lv' := [(6, .int r892), (5, .int r880), (0, .ref b), (1, .ref (qR 0)), (2, .ref (qM 0)), (3, .ref qo), (4, .int i4)]) hx hb d_L_law_895 hl (by decide) rfl (fun ls hl => ?_)
  refine lv_aload_n hx hb d_L_law_897 rfl (lv_at hl 4 rfl) ?_
  refine x_ci (w2 := fun _ => (wd_RUIWMo qR qU qI qW qM qo cI cZ cL u880.1 u880.2.1 u880.2.2.1 u880.2.2.2.1 u892 u880.2.2.2.2)) [25, 26, 27, 28, 29, 30, 31, 32, 33, 34, 35, 36, 37, 38, 39, 40, 41, 42, 43, 44, 45, 46] [0, 1, 2, 3, 4, 5, 6, 7, 8, 9, 10, 11, 12, 13, 14, 15, 16, 17, 18, 19, 20, 21, 22, 23, 24, 47] [0, 1, 2, 3, 4, 5, 6, 7, 8, 9, 10, 11, 12, 13, 14, 15, 16, 17, 18, 19, 20, 21, 22, 23, 24, 26, 27, 28, 29, 30, 31, 32, 33, 34, 35, 36, 37, 38, 39, 40, 41, 42, 43, 44, 45, 46, 47, 25] (va_runV (As := []) (rest := []) ⟨hx, hb, hml, hown, hts⟩ (c_M_thrown l dC dI cI cZ cL qM _ u892 _ hw) (cwV 0 hts (x_gV k_658 k_659 k_660 k_30 k_661) rfl rfl rfl (by decide +kernel) ⟨Nat.le_of_ble_eq_true rfl, Nat.le_of_ble_eq_true rfl⟩) ⟨x_blind, va_recv hK hP (ci := 4) (q0 := 25) rfl rfl, fun U hU hW => x_pre (isC := [25, 26, 27, 28, 29, 30, 31, 32, 33, 34, 35, 36, 37, 38, 39, 40, 41, 42, 43, 44, 45, 46]) hK hP hD rfl rfl hU hW⟩ rfl rfl hl.1 rfl (lv_room (Nat.le_of_ble_eq_true rfl)) d_L_law_898 ⟨by show _ ≤ 1078; omega, by show _ ≤ 9437; omega⟩) hP hD hS hA rfl rfl rfl (by decide) (fun _ => rfl) rfl (fun r898 _ H locs hw hP hD hS => ?_)
  refine lv_iload hx hb d_L_law_901 (lv_at hl 1 rfl) ?_
  refine lv_icmp_eq (tgt := 908) hx hb d_L_law_903 (by decide) (fun c903 => ?_) (fun c903 => ?_)
  · have hw := hw.1 c903
    refine lv_iload hx hb d_L_law_908 (lv_at hl 1 rfl) ?_
    refine lv_if_ne (tgt := 925) hx hb d_L_law_910 (by decide) (fun c910 => ?_) (fun c910 => ?_)
    · have hw := hw.1 c910
      refine lv_goto (tgt := 1120) hx hb d_L_law_925 (by decide) ?_
      obtain ⟨v4_1120, ev4_1120⟩ : ∃ y : Int32, y = i4 + 5 := ⟨_, rfl⟩
      have hw := hw v4_1120 ev4_1120
      refine lv_iinc (v := v4_1120) (lv' := [(4, .int v4_1120), (6, .int r892), (5, .int r880), (0, .ref b), (1, .ref (qR 0)), (2, .ref (qM 0)), (3, .ref qo)]) hx hb d_L_law_1120 hl (k := 6) rfl (by rw [ev4_1120]; rfl) (by decide) rfl (fun ls hl => ?_)
      refine lv_goto (tgt := 23) hx hb d_L_law_1123 (by decide) ?_
      refine W.widen (k := 48 + (j + 1)) (n := 1209 + 6 * (j + 1)) (by omega) (by omega) ?_
      exact ih (j + 1) rfl u880.1 u880.2.1 u880.2.2.1 u880.2.2.2.1 u892 u880.2.2.2.2 v4_1120 _ _ _ hw hP hD hS (lv_sub hl [3, 4, 5, 6, 0] rfl)
    · have hw := hw.2 c910
      refine lv_aload_n hx hb d_L_law_913 rfl (lv_at hl 5 rfl) ?_
      refine lv_iconst (v := (0 : Int32)) hx hb d_L_law_914 (by decide) ?_
      obtain ⟨h915, hw⟩ := hw
      refine va_lald hx hb hK hP 47 2 rfl rfl h915 d_L_law_915 ?_
      refine lv_iload hx hb d_L_law_916 (lv_at hl 0 rfl) ?_
      refine lv_i2l (v := r892.toInt64) hx hb d_L_law_918 rfl ?_
      refine W.lcmp hx hb d_L_law_919 ?_
      refine lv_if_eq (tgt := 925) hx hb d_L_law_920 (by decide) (fun c920 => ?_) (fun c920 => ?_)
      · have hw := hw.1 c920
        refine lv_goto (tgt := 1120) hx hb d_L_law_925 (by decide) ?_
        obtain ⟨v4_1120, ev4_1120⟩ : ∃ y : Int32, y = i4 + 5 := ⟨_, rfl⟩
        have hw := hw v4_1120 ev4_1120
        refine lv_iinc (v := v4_1120) (lv' := [(4, .int v4_1120), (6, .int r892), (5, .int r880), (0, .ref b), (1, .ref (qR 0)), (2, .ref (qM 0)), (3, .ref qo)]) hx hb d_L_law_1120 hl (k := 6) rfl (by rw [ev4_1120]; rfl) (by decide) rfl (fun ls hl => ?_)
        refine lv_goto (tgt := 23) hx hb d_L_law_1123 (by decide) ?_
        refine W.widen (k := 48 + (j + 1)) (n := 1209 + 6 * (j + 1)) (by omega) (by omega) ?_
        exact ih (j + 1) rfl u880.1 u880.2.1 u880.2.2.1 u880.2.2.2.1 u892 u880.2.2.2.2 v4_1120 _ _ _ hw hP hD hS (lv_sub hl [3, 4, 5, 6, 0] rfl)
      · have hw := hw.2 c920
        refine lv_iconst (v := (0 : Int32)) hx hb d_L_law_923 (by decide) ?_
        exact hw.elim
  · have hw := hw.2 c903
    refine lv_iconst (v := (0 : Int32)) hx hb d_L_law_906 (by decide) ?_
    exact hw.elim
def wc_law_14 (xs : Nat → Int32) (L : Nat) (rec23 : St → St → St → St → St → (Nat → Int64) → Int32 → Prop) (xR : St) (xU : St) (xI : St) (xW : St) (xM : St) (xo : (Nat → Int64)) (i4 : Int32) : Prop := vp_in (i4 + (1 : Int32)) L ∧ (vp_in (i4 + (2 : Int32)) L ∧ (wp_L_unitAt xR xU xI xW xo (xs (i4 + (1 : Int32)).toNatClampNeg) (xs (i4 + (2 : Int32)).toNatClampNeg) (fun r942 u942 => (vp_in (i4 + (1 : Int32)) L ∧ (vp_in (i4 + (2 : Int32)) L ∧ (wp_M_unitAt xM (xs (i4 + (1 : Int32)).toNatClampNeg) (xs (i4 + (2 : Int32)).toNatClampNeg) (fun r960 u960 => (wp_M_thrown u960 (fun r966 _ => ((r966 = r942 → ((¬ r942 = 0 → (∀ v4_1120 : Int32, v4_1120 = i4 + 5 → (rec23 xR xU xI xW u960 u942 v4_1120))) ∧ (r942 = 0 → (vp_in (0 : Int32) 1 ∧ (((lg_cmp (u942 (0 : Int32).toNatClampNeg) r960.toInt64) = 0 → (∀ v4_1120 : Int32, v4_1120 = i4 + 5 → (rec23 xR xU xI xW u960 u942 v4_1120))) ∧ (¬ (lg_cmp (u942 (0 : Int32).toNatClampNeg) r960.toInt64) = 0 → (False))))))) ∧ (¬ r966 = r942 → (False))))))))))))
set_option maxHeartbeats 8000000 in
set_option maxRecDepth 100000 in
theorem lawcase_14 {p : Program} {l : Launch} {e : Env} {s : State} {m : MethodId} {below : List Frame} {meth : Method} {c : Code} {dC : Nat → ClassId} {dI : Nat → Nat → Nat} {cI cZ cL : ClassId} {qR qU qI qW qM : Nat → Nat} {qo : Nat} {sa : Nat → Nat} {b L : Nat} {xs : Nat → Int32} (hl9 : l.stackTraces = false) {j : Nat} (hLj : j ≤ 512) (C0 : lw_At p s m meth c b L xs) (hK : va_K (dC, dI) vwCl [(cI, .int), (cZ, .boolean), (cL, .long)] s) (hE : xE "ReleaseRows" xTx sa (fun q : Nat => s.heap.size ≤ q) s.heap s) (hN : xN s) {rec23 : St → St → St → St → St → (Nat → Int64) → Int32 → Prop}
    (ih : ∀ j1 : Nat, j1 = j + 1 → ∀ (xR : St) (xU : St) (xI : St) (xW : St) (xM : St) (xo : (Nat → Int64)) (i4 : Int32) (H : Heap) (locs : List Loc) (ls : Array Slot), rec23 xR xU xI xW xM xo i4 → va_P (dC, dI) vwCl (wd_RUIWMo qR qU qI qW qM qo cI cZ cL xR xU xI xW xM xo) H → va_D (fun q : Nat => s.heap.size ≤ q) (wd_RUIWMo qR qU qI qW qM qo cI cZ cL xR xU xI xW xM xo) → va_S (fun q : Nat => s.heap.size ≤ q) s.heap H locs → lv_has ls 7 [(0, .ref b), (1, .ref (qR 0)), (2, .ref (qM 0)), (3, .ref qo), (4, .int i4)] → W p l e room_1 s m #[Value.ref b] below meth c H locs (48 + j1) (1209 + 6 * j1) (lw_Z below #[Value.ref b] s) (F0 m 23 ls []))
    : ∀ (xR : St) (xU : St) (xI : St) (xW : St) (xM : St) (xo : (Nat → Int64)) (i4 : Int32) (H : Heap) (locs : List Loc) (ls : Array Slot), wc_law_14 xs L rec23 xR xU xI xW xM xo i4 → va_P (dC, dI) vwCl (wd_RUIWMo qR qU qI qW qM qo cI cZ cL xR xU xI xW xM xo) H → va_D (fun q : Nat => s.heap.size ≤ q) (wd_RUIWMo qR qU qI qW qM qo cI cZ cL xR xU xI xW xM xo) → va_S (fun q : Nat => s.heap.size ≤ q) s.heap H locs → lv_has ls 7 [(0, .ref b), (1, .ref (qR 0)), (2, .ref (qM 0)), (3, .ref qo), (4, .int i4)] → W p l e room_1 s m #[Value.ref b] below meth c H locs (48 + j) (1209 + 6 * j) (lw_Z below #[Value.ref b] s) (F0 m 928 ls []) := by
  obtain ⟨hx, hb, hr, hml, hown, hts0, hX, hbl, hlocks, hgv⟩ := C0
  have hts : ∀ w ∈ gG, w.before #[Value.ref b] s = true := fun w h => hts0 w (List.mem_filter.mp h).1
  have hA : ∀ q : Nat, s.heap.size ≤ q → (fun q : Nat => s.heap.size ≤ q) q := fun _ h => h
  have hbA : ¬ (fun q : Nat => s.heap.size ≤ q) b := Nat.not_le.mpr hbl
  intro xR xU xI xW xM xo i4 H locs ls hw hP hD hS hl
  unfold wc_law_14 at hw
  refine lv_aload_n hx hb d_L_law_928 rfl (lv_at hl 1 rfl) ?_
  refine lv_aload_n hx hb d_L_law_929 rfl (lv_at hl 0 rfl) ?_
  refine lv_iload hx hb d_L_law_930 (lv_at hl 4 rfl) ?_
  refine lv_iconst (v := (1 : Int32)) hx hb d_L_law_932 (by decide) ?_
  refine lv_iadd hx hb d_L_law_933 ?_
  obtain ⟨h934, hw⟩ := hw
  refine va_sld hx hb hX hbl hbA hS h934 d_L_law_934 ?_
  refine lv_aload_n hx hb d_L_law_935 rfl (lv_at hl 0 rfl) ?_
  refine lv_iload hx hb d_L_law_936 (lv_at hl 4 rfl) ?_
  refine lv_iconst (v := (2 : Int32)) hx hb d_L_law_938 (by decide) ?_
  refine lv_iadd hx hb d_L_law_939 ?_
  obtain ⟨h940, hw⟩ := hw
  refine va_sld hx hb hX hbl hbA hS h940 d_L_law_940 ?_
  refine lv_aload_n hx hb d_L_law_941 rfl (lv_at hl 3 rfl) ?_
  refine x_ci (w2 := fun u942 => (wd_RUIWMo qR qU qI qW qM qo cI cZ cL xR xU xI xW xM u942)) [0, 1, 2, 3, 4, 5, 6, 7, 8, 9, 10, 11, 12, 13, 14, 15, 16, 17, 18, 19, 20, 21, 22, 23, 24, 47] [25, 26, 27, 28, 29, 30, 31, 32, 33, 34, 35, 36, 37, 38, 39, 40, 41, 42, 43, 44, 45, 46] [22, 23, 24, 25, 26, 27, 28, 29, 30, 31, 32, 33, 34, 35, 36, 37, 38, 39, 40, 41, 42, 43, 44, 45, 46, 0, 1, 2, 3, 4, 5, 6, 7, 8, 9, 10, 11, 12, 13, 14, 15, 16, 17, 18, 19, 20, 21, 47] (vx_runSW (hh := [(0, 10, 13, 21)]) (As := [.ref (qR 0), .int (xs (i4 + (1 : Int32)).toNatClampNeg), .int (xs (i4 + (2 : Int32)).toNatClampNeg), .ref qo]) (rest := []) ⟨hx, hb, hml, hown, hts⟩ (c_L_unitAt l hl9 sa dC dI cI cZ cL qR qU qI qW qo _ xR xU xI xW xo (xs (i4 + (1 : Int32)).toNatClampNeg) (xs (i4 + (2 : Int32)).toNatClampNeg) _ hw) (vx_cwSW 4 hts (x_gW k_535 k_536 k_25 k_537) rfl rfl rfl (by decide +kernel) ⟨Nat.le_of_ble_eq_true rfl, Nat.le_of_ble_eq_true rfl⟩) ⟨x_blindN, fun U hU hW => x_preN (isC := [0, 1, 2, 3, 4, 5, 6, 7, 8, 9, 10, 11, 12, 13, 14, 15, 16, 17, 18, 19, 20, 21, 22, 23, 24, 47]) hK hP hD hS hA hE hN rfl rfl hU hW⟩ rfl rfl hl.1 rfl (lv_room (Nat.le_of_ble_eq_true rfl)) d_L_law_942 ⟨by show _ ≤ 1078; omega, by show _ ≤ 9437; omega⟩) hP hD hS hA rfl rfl rfl (by decide) (fun _ => rfl) rfl (fun r942 u942 H locs hw hP hD hS => ?_)
  refine lv_istore (lv' := [(5, .int r942), (0, .ref b), (1, .ref (qR 0)), (2, .ref (qM 0)), (3, .ref qo), (4, .int i4)]) hx hb d_L_law_945 hl (by decide) rfl (fun ls hl => ?_)
  refine lv_aload_n hx hb d_L_law_947 rfl (lv_at hl 3 rfl) ?_
  refine lv_aload_n hx hb d_L_law_948 rfl (lv_at hl 1 rfl) ?_
  refine lv_iload hx hb d_L_law_949 (lv_at hl 5 rfl) ?_
  refine lv_iconst (v := (1 : Int32)) hx hb d_L_law_951 (by decide) ?_
  refine lv_iadd hx hb d_L_law_952 ?_
  obtain ⟨h953, hw⟩ := hw
  refine va_sld hx hb hX hbl hbA hS h953 d_L_law_953 ?_
  refine lv_aload_n hx hb d_L_law_954 rfl (lv_at hl 1 rfl) ?_
  refine lv_iload hx hb d_L_law_955 (lv_at hl 5 rfl) ?_
  refine lv_iconst (v := (2 : Int32)) hx hb d_L_law_957 (by decide) ?_
  refine lv_iadd hx hb d_L_law_958 ?_
  obtain ⟨h959, hw⟩ := hw
  refine va_sld hx hb hX hbl hbA hS h959 d_L_law_959 ?_
  refine x_ci (w2 := fun u960 => (wd_RUIWMo qR qU qI qW qM qo cI cZ cL xR xU xI xW u960 u942)) [25, 26, 27, 28, 29, 30, 31, 32, 33, 34, 35, 36, 37, 38, 39, 40, 41, 42, 43, 44, 45, 46] [0, 1, 2, 3, 4, 5, 6, 7, 8, 9, 10, 11, 12, 13, 14, 15, 16, 17, 18, 19, 20, 21, 22, 23, 24, 47] [0, 1, 2, 3, 4, 5, 6, 7, 8, 9, 10, 11, 12, 13, 14, 15, 16, 17, 18, 19, 20, 21, 22, 23, 24, 26, 27, 28, 29, 30, 31, 32, 33, 34, 35, 36, 37, 38, 39, 40, 41, 42, 43, 44, 45, 46, 47, 25] (va_runV (As := [.int (xs (i4 + (1 : Int32)).toNatClampNeg), .int (xs (i4 + (2 : Int32)).toNatClampNeg)]) (rest := []) ⟨hx, hb, hml, hown, hts⟩ (c_M_unitAt l dC dI cI cZ cL qM _ xM (xs (i4 + (1 : Int32)).toNatClampNeg) (xs (i4 + (2 : Int32)).toNatClampNeg) _ hw) (cwV 2 hts (x_gV k_788 k_789 k_790 k_30 k_791) rfl rfl rfl (by decide +kernel) ⟨Nat.le_of_ble_eq_true rfl, Nat.le_of_ble_eq_true rfl⟩) ⟨x_blind, va_recv hK hP (ci := 4) (q0 := 25) rfl rfl, fun U hU hW => x_pre (isC := [25, 26, 27, 28, 29, 30, 31, 32, 33, 34, 35, 36, 37, 38, 39, 40, 41, 42, 43, 44, 45, 46]) hK hP hD rfl rfl hU hW⟩ rfl rfl hl.1 rfl (lv_room (Nat.le_of_ble_eq_true rfl)) d_L_law_960 ⟨by show _ ≤ 1078; omega, by show _ ≤ 9437; omega⟩) hP hD hS hA rfl rfl rfl (by decide) (fun _ => rfl) rfl (fun r960 u960 H locs hw hP hD hS => ?_)
  refine lv_istore (lv' := [(6, .int r960), (5, .int r942), (0, .ref b), (1, .ref (qR 0)), (2, .ref (qM 0)), (3, .ref qo), (4, .int i4)]) hx hb d_L_law_963 hl (by decide) rfl (fun ls hl => ?_)
  refine lv_aload_n hx hb d_L_law_965 rfl (lv_at hl 4 rfl) ?_
  refine x_ci (w2 := fun _ => (wd_RUIWMo qR qU qI qW qM qo cI cZ cL xR xU xI xW u960 u942)) [25, 26, 27, 28, 29, 30, 31, 32, 33, 34, 35, 36, 37, 38, 39, 40, 41, 42, 43, 44, 45, 46] [0, 1, 2, 3, 4, 5, 6, 7, 8, 9, 10, 11, 12, 13, 14, 15, 16, 17, 18, 19, 20, 21, 22, 23, 24, 47] [0, 1, 2, 3, 4, 5, 6, 7, 8, 9, 10, 11, 12, 13, 14, 15, 16, 17, 18, 19, 20, 21, 22, 23, 24, 26, 27, 28, 29, 30, 31, 32, 33, 34, 35, 36, 37, 38, 39, 40, 41, 42, 43, 44, 45, 46, 47, 25] (va_runV (As := []) (rest := []) ⟨hx, hb, hml, hown, hts⟩ (c_M_thrown l dC dI cI cZ cL qM _ u960 _ hw) (cwV 0 hts (x_gV k_658 k_659 k_660 k_30 k_661) rfl rfl rfl (by decide +kernel) ⟨Nat.le_of_ble_eq_true rfl, Nat.le_of_ble_eq_true rfl⟩) ⟨x_blind, va_recv hK hP (ci := 4) (q0 := 25) rfl rfl, fun U hU hW => x_pre (isC := [25, 26, 27, 28, 29, 30, 31, 32, 33, 34, 35, 36, 37, 38, 39, 40, 41, 42, 43, 44, 45, 46]) hK hP hD rfl rfl hU hW⟩ rfl rfl hl.1 rfl (lv_room (Nat.le_of_ble_eq_true rfl)) d_L_law_966 ⟨by show _ ≤ 1078; omega, by show _ ≤ 9437; omega⟩) hP hD hS hA rfl rfl rfl (by decide) (fun _ => rfl) rfl (fun r966 _ H locs hw hP hD hS => ?_)
  refine lv_iload hx hb d_L_law_969 (lv_at hl 1 rfl) ?_
  refine lv_icmp_eq (tgt := 976) hx hb d_L_law_971 (by decide) (fun c971 => ?_) (fun c971 => ?_)
  · have hw := hw.1 c971
    refine lv_iload hx hb d_L_law_976 (lv_at hl 1 rfl) ?_
    refine lv_if_ne (tgt := 993) hx hb d_L_law_978 (by decide) (fun c978 => ?_) (fun c978 => ?_)
    · have hw := hw.1 c978
      refine lv_goto (tgt := 1120) hx hb d_L_law_993 (by decide) ?_
      obtain ⟨v4_1120, ev4_1120⟩ : ∃ y : Int32, y = i4 + 5 := ⟨_, rfl⟩
      have hw := hw v4_1120 ev4_1120
      refine lv_iinc (v := v4_1120) (lv' := [(4, .int v4_1120), (6, .int r960), (5, .int r942), (0, .ref b), (1, .ref (qR 0)), (2, .ref (qM 0)), (3, .ref qo)]) hx hb d_L_law_1120 hl (k := 6) rfl (by rw [ev4_1120]; rfl) (by decide) rfl (fun ls hl => ?_)
      refine lv_goto (tgt := 23) hx hb d_L_law_1123 (by decide) ?_
      refine W.widen (k := 48 + (j + 1)) (n := 1209 + 6 * (j + 1)) (by omega) (by omega) ?_
      exact ih (j + 1) rfl xR xU xI xW u960 u942 v4_1120 _ _ _ hw hP hD hS (lv_sub hl [3, 4, 5, 6, 0] rfl)
    · have hw := hw.2 c978
      refine lv_aload_n hx hb d_L_law_981 rfl (lv_at hl 5 rfl) ?_
      refine lv_iconst (v := (0 : Int32)) hx hb d_L_law_982 (by decide) ?_
      obtain ⟨h983, hw⟩ := hw
      refine va_lald hx hb hK hP 47 2 rfl rfl h983 d_L_law_983 ?_
      refine lv_iload hx hb d_L_law_984 (lv_at hl 0 rfl) ?_
      refine lv_i2l (v := r960.toInt64) hx hb d_L_law_986 rfl ?_
      refine W.lcmp hx hb d_L_law_987 ?_
      refine lv_if_eq (tgt := 993) hx hb d_L_law_988 (by decide) (fun c988 => ?_) (fun c988 => ?_)
      · have hw := hw.1 c988
        refine lv_goto (tgt := 1120) hx hb d_L_law_993 (by decide) ?_
        obtain ⟨v4_1120, ev4_1120⟩ : ∃ y : Int32, y = i4 + 5 := ⟨_, rfl⟩
        have hw := hw v4_1120 ev4_1120
        refine lv_iinc (v := v4_1120) (lv' := [(4, .int v4_1120), (6, .int r960), (5, .int r942), (0, .ref b), (1, .ref (qR 0)), (2, .ref (qM 0)), (3, .ref qo)]) hx hb d_L_law_1120 hl (k := 6) rfl (by rw [ev4_1120]; rfl) (by decide) rfl (fun ls hl => ?_)
        refine lv_goto (tgt := 23) hx hb d_L_law_1123 (by decide) ?_
        refine W.widen (k := 48 + (j + 1)) (n := 1209 + 6 * (j + 1)) (by omega) (by omega) ?_
        exact ih (j + 1) rfl xR xU xI xW u960 u942 v4_1120 _ _ _ hw hP hD hS (lv_sub hl [3, 4, 5, 6, 0] rfl)
      · have hw := hw.2 c988
        refine lv_iconst (v := (0 : Int32)) hx hb d_L_law_991 (by decide) ?_
        exact hw.elim
  · have hw := hw.2 c971
    refine lv_iconst (v := (0 : Int32)) hx hb d_L_law_974 (by decide) ?_
    exact hw.elim
def wc_law_15 (xs : Nat → Int32) (L : Nat) (rec23 : St → St → St → St → St → (Nat → Int64) → Int32 → Prop) (xR : St) (xU : St) (xI : St) (xW : St) (xM : St) (xo : (Nat → Int64)) (i4 : Int32) : Prop := vp_in (i4 + (1 : Int32)) L ∧ (vp_in (i4 + (2 : Int32)) L ∧ (wp_L_incidentAt xR xU xI xW xo (xs (i4 + (1 : Int32)).toNatClampNeg) (xs (i4 + (2 : Int32)).toNatClampNeg) (fun r1010 u1010 => (vp_in (i4 + (1 : Int32)) L ∧ (vp_in (i4 + (2 : Int32)) L ∧ (wp_M_incidentAt xM (xs (i4 + (1 : Int32)).toNatClampNeg) (xs (i4 + (2 : Int32)).toNatClampNeg) (fun r1028 u1028 => (wp_M_thrown u1028 (fun r1034 _ => ((r1034 = r1010 → ((¬ r1010 = 0 → (∀ v4_1120 : Int32, v4_1120 = i4 + 5 → (rec23 xR xU xI xW u1028 u1010 v4_1120))) ∧ (r1010 = 0 → (vp_in (0 : Int32) 1 ∧ (((lg_cmp (u1010 (0 : Int32).toNatClampNeg) r1028.toInt64) = 0 → (∀ v4_1120 : Int32, v4_1120 = i4 + 5 → (rec23 xR xU xI xW u1028 u1010 v4_1120))) ∧ (¬ (lg_cmp (u1010 (0 : Int32).toNatClampNeg) r1028.toInt64) = 0 → (False))))))) ∧ (¬ r1034 = r1010 → (False))))))))))))
set_option maxHeartbeats 8000000 in
set_option maxRecDepth 100000 in
theorem lawcase_15 {p : Program} {l : Launch} {e : Env} {s : State} {m : MethodId} {below : List Frame} {meth : Method} {c : Code} {dC : Nat → ClassId} {dI : Nat → Nat → Nat} {cI cZ cL : ClassId} {qR qU qI qW qM : Nat → Nat} {qo : Nat} {sa : Nat → Nat} {b L : Nat} {xs : Nat → Int32} (hl9 : l.stackTraces = false) {j : Nat} (hLj : j ≤ 512) (C0 : lw_At p s m meth c b L xs) (hK : va_K (dC, dI) vwCl [(cI, .int), (cZ, .boolean), (cL, .long)] s) (hE : xE "ReleaseRows" xTx sa (fun q : Nat => s.heap.size ≤ q) s.heap s) (hN : xN s) {rec23 : St → St → St → St → St → (Nat → Int64) → Int32 → Prop}
    (ih : ∀ j1 : Nat, j1 = j + 1 → ∀ (xR : St) (xU : St) (xI : St) (xW : St) (xM : St) (xo : (Nat → Int64)) (i4 : Int32) (H : Heap) (locs : List Loc) (ls : Array Slot), rec23 xR xU xI xW xM xo i4 → va_P (dC, dI) vwCl (wd_RUIWMo qR qU qI qW qM qo cI cZ cL xR xU xI xW xM xo) H → va_D (fun q : Nat => s.heap.size ≤ q) (wd_RUIWMo qR qU qI qW qM qo cI cZ cL xR xU xI xW xM xo) → va_S (fun q : Nat => s.heap.size ≤ q) s.heap H locs → lv_has ls 7 [(0, .ref b), (1, .ref (qR 0)), (2, .ref (qM 0)), (3, .ref qo), (4, .int i4)] → W p l e room_1 s m #[Value.ref b] below meth c H locs (48 + j1) (1209 + 6 * j1) (lw_Z below #[Value.ref b] s) (F0 m 23 ls []))
    : ∀ (xR : St) (xU : St) (xI : St) (xW : St) (xM : St) (xo : (Nat → Int64)) (i4 : Int32) (H : Heap) (locs : List Loc) (ls : Array Slot), wc_law_15 xs L rec23 xR xU xI xW xM xo i4 → va_P (dC, dI) vwCl (wd_RUIWMo qR qU qI qW qM qo cI cZ cL xR xU xI xW xM xo) H → va_D (fun q : Nat => s.heap.size ≤ q) (wd_RUIWMo qR qU qI qW qM qo cI cZ cL xR xU xI xW xM xo) → va_S (fun q : Nat => s.heap.size ≤ q) s.heap H locs → lv_has ls 7 [(0, .ref b), (1, .ref (qR 0)), (2, .ref (qM 0)), (3, .ref qo), (4, .int i4)] → W p l e room_1 s m #[Value.ref b] below meth c H locs (48 + j) (1209 + 6 * j) (lw_Z below #[Value.ref b] s) (F0 m 996 ls []) := by
  obtain ⟨hx, hb, hr, hml, hown, hts0, hX, hbl, hlocks, hgv⟩ := C0
  have hts : ∀ w ∈ gG, w.before #[Value.ref b] s = true := fun w h => hts0 w (List.mem_filter.mp h).1
  have hA : ∀ q : Nat, s.heap.size ≤ q → (fun q : Nat => s.heap.size ≤ q) q := fun _ h => h
  have hbA : ¬ (fun q : Nat => s.heap.size ≤ q) b := Nat.not_le.mpr hbl
  intro xR xU xI xW xM xo i4 H locs ls hw hP hD hS hl
  unfold wc_law_15 at hw
  refine lv_aload_n hx hb d_L_law_996 rfl (lv_at hl 1 rfl) ?_
  refine lv_aload_n hx hb d_L_law_997 rfl (lv_at hl 0 rfl) ?_
  refine lv_iload hx hb d_L_law_998 (lv_at hl 4 rfl) ?_
  refine lv_iconst (v := (1 : Int32)) hx hb d_L_law_1000 (by decide) ?_
  refine lv_iadd hx hb d_L_law_1001 ?_
  obtain ⟨h1002, hw⟩ := hw
  refine va_sld hx hb hX hbl hbA hS h1002 d_L_law_1002 ?_
  refine lv_aload_n hx hb d_L_law_1003 rfl (lv_at hl 0 rfl) ?_
  refine lv_iload hx hb d_L_law_1004 (lv_at hl 4 rfl) ?_
  refine lv_iconst (v := (2 : Int32)) hx hb d_L_law_1006 (by decide) ?_
  refine lv_iadd hx hb d_L_law_1007 ?_
  obtain ⟨h1008, hw⟩ := hw
  refine va_sld hx hb hX hbl hbA hS h1008 d_L_law_1008 ?_
  refine lv_aload_n hx hb d_L_law_1009 rfl (lv_at hl 3 rfl) ?_
  refine x_ci (w2 := fun u1010 => (wd_RUIWMo qR qU qI qW qM qo cI cZ cL xR xU xI xW xM u1010)) [0, 1, 2, 3, 4, 5, 6, 7, 8, 9, 10, 11, 12, 13, 14, 15, 16, 17, 18, 19, 20, 21, 22, 23, 24, 47] [25, 26, 27, 28, 29, 30, 31, 32, 33, 34, 35, 36, 37, 38, 39, 40, 41, 42, 43, 44, 45, 46] [22, 23, 24, 25, 26, 27, 28, 29, 30, 31, 32, 33, 34, 35, 36, 37, 38, 39, 40, 41, 42, 43, 44, 45, 46, 0, 1, 2, 3, 4, 5, 6, 7, 8, 9, 10, 11, 12, 13, 14, 15, 16, 17, 18, 19, 20, 21, 47] (vx_runSW (hh := [(0, 10, 13, 21)]) (As := [.ref (qR 0), .int (xs (i4 + (1 : Int32)).toNatClampNeg), .int (xs (i4 + (2 : Int32)).toNatClampNeg), .ref qo]) (rest := []) ⟨hx, hb, hml, hown, hts⟩ (c_L_incidentAt l hl9 sa dC dI cI cZ cL qR qU qI qW qo _ xR xU xI xW xo (xs (i4 + (1 : Int32)).toNatClampNeg) (xs (i4 + (2 : Int32)).toNatClampNeg) _ hw) (vx_cwSW 4 hts (x_gW k_544 k_545 k_25 k_546) rfl rfl rfl (by decide +kernel) ⟨Nat.le_of_ble_eq_true rfl, Nat.le_of_ble_eq_true rfl⟩) ⟨x_blindN, fun U hU hW => x_preN (isC := [0, 1, 2, 3, 4, 5, 6, 7, 8, 9, 10, 11, 12, 13, 14, 15, 16, 17, 18, 19, 20, 21, 22, 23, 24, 47]) hK hP hD hS hA hE hN rfl rfl hU hW⟩ rfl rfl hl.1 rfl (lv_room (Nat.le_of_ble_eq_true rfl)) d_L_law_1010 ⟨by show _ ≤ 1078; omega, by show _ ≤ 9437; omega⟩) hP hD hS hA rfl rfl rfl (by decide) (fun _ => rfl) rfl (fun r1010 u1010 H locs hw hP hD hS => ?_)
  refine lv_istore (lv' := [(5, .int r1010), (0, .ref b), (1, .ref (qR 0)), (2, .ref (qM 0)), (3, .ref qo), (4, .int i4)]) hx hb d_L_law_1013 hl (by decide) rfl (fun ls hl => ?_)
  refine lv_aload_n hx hb d_L_law_1015 rfl (lv_at hl 3 rfl) ?_
  refine lv_aload_n hx hb d_L_law_1016 rfl (lv_at hl 1 rfl) ?_
  refine lv_iload hx hb d_L_law_1017 (lv_at hl 5 rfl) ?_
  refine lv_iconst (v := (1 : Int32)) hx hb d_L_law_1019 (by decide) ?_
  refine lv_iadd hx hb d_L_law_1020 ?_
  obtain ⟨h1021, hw⟩ := hw
  refine va_sld hx hb hX hbl hbA hS h1021 d_L_law_1021 ?_
  refine lv_aload_n hx hb d_L_law_1022 rfl (lv_at hl 1 rfl) ?_
  refine lv_iload hx hb d_L_law_1023 (lv_at hl 5 rfl) ?_
  refine lv_iconst (v := (2 : Int32)) hx hb d_L_law_1025 (by decide) ?_
  refine lv_iadd hx hb d_L_law_1026 ?_
  obtain ⟨h1027, hw⟩ := hw
  refine va_sld hx hb hX hbl hbA hS h1027 d_L_law_1027 ?_
  refine x_ci (w2 := fun u1028 => (wd_RUIWMo qR qU qI qW qM qo cI cZ cL xR xU xI xW u1028 u1010)) [25, 26, 27, 28, 29, 30, 31, 32, 33, 34, 35, 36, 37, 38, 39, 40, 41, 42, 43, 44, 45, 46] [0, 1, 2, 3, 4, 5, 6, 7, 8, 9, 10, 11, 12, 13, 14, 15, 16, 17, 18, 19, 20, 21, 22, 23, 24, 47] [0, 1, 2, 3, 4, 5, 6, 7, 8, 9, 10, 11, 12, 13, 14, 15, 16, 17, 18, 19, 20, 21, 22, 23, 24, 26, 27, 28, 29, 30, 31, 32, 33, 34, 35, 36, 37, 38, 39, 40, 41, 42, 43, 44, 45, 46, 47, 25] (va_runV (As := [.int (xs (i4 + (1 : Int32)).toNatClampNeg), .int (xs (i4 + (2 : Int32)).toNatClampNeg)]) (rest := []) ⟨hx, hb, hml, hown, hts⟩ (c_M_incidentAt l dC dI cI cZ cL qM _ xM (xs (i4 + (1 : Int32)).toNatClampNeg) (xs (i4 + (2 : Int32)).toNatClampNeg) _ hw) (cwV 2 hts (x_gV k_792 k_793 k_794 k_30 k_795) rfl rfl rfl (by decide +kernel) ⟨Nat.le_of_ble_eq_true rfl, Nat.le_of_ble_eq_true rfl⟩) ⟨x_blind, va_recv hK hP (ci := 4) (q0 := 25) rfl rfl, fun U hU hW => x_pre (isC := [25, 26, 27, 28, 29, 30, 31, 32, 33, 34, 35, 36, 37, 38, 39, 40, 41, 42, 43, 44, 45, 46]) hK hP hD rfl rfl hU hW⟩ rfl rfl hl.1 rfl (lv_room (Nat.le_of_ble_eq_true rfl)) d_L_law_1028 ⟨by show _ ≤ 1078; omega, by show _ ≤ 9437; omega⟩) hP hD hS hA rfl rfl rfl (by decide) (fun _ => rfl) rfl (fun r1028 u1028 H locs hw hP hD hS => ?_)
  refine lv_istore (lv' := [(6, .int r1028), (5, .int r1010), (0, .ref b), (1, .ref (qR 0)), (2, .ref (qM 0)), (3, .ref qo), (4, .int i4)]) hx hb d_L_law_1031 hl (by decide) rfl (fun ls hl => ?_)
  refine lv_aload_n hx hb d_L_law_1033 rfl (lv_at hl 4 rfl) ?_
  refine x_ci (w2 := fun _ => (wd_RUIWMo qR qU qI qW qM qo cI cZ cL xR xU xI xW u1028 u1010)) [25, 26, 27, 28, 29, 30, 31, 32, 33, 34, 35, 36, 37, 38, 39, 40, 41, 42, 43, 44, 45, 46] [0, 1, 2, 3, 4, 5, 6, 7, 8, 9, 10, 11, 12, 13, 14, 15, 16, 17, 18, 19, 20, 21, 22, 23, 24, 47] [0, 1, 2, 3, 4, 5, 6, 7, 8, 9, 10, 11, 12, 13, 14, 15, 16, 17, 18, 19, 20, 21, 22, 23, 24, 26, 27, 28, 29, 30, 31, 32, 33, 34, 35, 36, 37, 38, 39, 40, 41, 42, 43, 44, 45, 46, 47, 25] (va_runV (As := []) (rest := []) ⟨hx, hb, hml, hown, hts⟩ (c_M_thrown l dC dI cI cZ cL qM _ u1028 _ hw) (cwV 0 hts (x_gV k_658 k_659 k_660 k_30 k_661) rfl rfl rfl (by decide +kernel) ⟨Nat.le_of_ble_eq_true rfl, Nat.le_of_ble_eq_true rfl⟩) ⟨x_blind, va_recv hK hP (ci := 4) (q0 := 25) rfl rfl, fun U hU hW => x_pre (isC := [25, 26, 27, 28, 29, 30, 31, 32, 33, 34, 35, 36, 37, 38, 39, 40, 41, 42, 43, 44, 45, 46]) hK hP hD rfl rfl hU hW⟩ rfl rfl hl.1 rfl (lv_room (Nat.le_of_ble_eq_true rfl)) d_L_law_1034 ⟨by show _ ≤ 1078; omega, by show _ ≤ 9437; omega⟩) hP hD hS hA rfl rfl rfl (by decide) (fun _ => rfl) rfl (fun r1034 _ H locs hw hP hD hS => ?_)
  refine lv_iload hx hb d_L_law_1037 (lv_at hl 1 rfl) ?_
  refine lv_icmp_eq (tgt := 1044) hx hb d_L_law_1039 (by decide) (fun c1039 => ?_) (fun c1039 => ?_)
  · have hw := hw.1 c1039
    refine lv_iload hx hb d_L_law_1044 (lv_at hl 1 rfl) ?_
    refine lv_if_ne (tgt := 1061) hx hb d_L_law_1046 (by decide) (fun c1046 => ?_) (fun c1046 => ?_)
    · have hw := hw.1 c1046
      refine lv_goto (tgt := 1120) hx hb d_L_law_1061 (by decide) ?_
      obtain ⟨v4_1120, ev4_1120⟩ : ∃ y : Int32, y = i4 + 5 := ⟨_, rfl⟩
      have hw := hw v4_1120 ev4_1120
      refine lv_iinc (v := v4_1120) (lv' := [(4, .int v4_1120), (6, .int r1028), (5, .int r1010), (0, .ref b), (1, .ref (qR 0)), (2, .ref (qM 0)), (3, .ref qo)]) hx hb d_L_law_1120 hl (k := 6) rfl (by rw [ev4_1120]; rfl) (by decide) rfl (fun ls hl => ?_)
      refine lv_goto (tgt := 23) hx hb d_L_law_1123 (by decide) ?_
      refine W.widen (k := 48 + (j + 1)) (n := 1209 + 6 * (j + 1)) (by omega) (by omega) ?_
      exact ih (j + 1) rfl xR xU xI xW u1028 u1010 v4_1120 _ _ _ hw hP hD hS (lv_sub hl [3, 4, 5, 6, 0] rfl)
    · have hw := hw.2 c1046
      refine lv_aload_n hx hb d_L_law_1049 rfl (lv_at hl 5 rfl) ?_
      refine lv_iconst (v := (0 : Int32)) hx hb d_L_law_1050 (by decide) ?_
      obtain ⟨h1051, hw⟩ := hw
      refine va_lald hx hb hK hP 47 2 rfl rfl h1051 d_L_law_1051 ?_
      refine lv_iload hx hb d_L_law_1052 (lv_at hl 0 rfl) ?_
      refine lv_i2l (v := r1028.toInt64) hx hb d_L_law_1054 rfl ?_
      refine W.lcmp hx hb d_L_law_1055 ?_
      refine lv_if_eq (tgt := 1061) hx hb d_L_law_1056 (by decide) (fun c1056 => ?_) (fun c1056 => ?_)
      · have hw := hw.1 c1056
        refine lv_goto (tgt := 1120) hx hb d_L_law_1061 (by decide) ?_
        obtain ⟨v4_1120, ev4_1120⟩ : ∃ y : Int32, y = i4 + 5 := ⟨_, rfl⟩
        have hw := hw v4_1120 ev4_1120
        refine lv_iinc (v := v4_1120) (lv' := [(4, .int v4_1120), (6, .int r1028), (5, .int r1010), (0, .ref b), (1, .ref (qR 0)), (2, .ref (qM 0)), (3, .ref qo)]) hx hb d_L_law_1120 hl (k := 6) rfl (by rw [ev4_1120]; rfl) (by decide) rfl (fun ls hl => ?_)
        refine lv_goto (tgt := 23) hx hb d_L_law_1123 (by decide) ?_
        refine W.widen (k := 48 + (j + 1)) (n := 1209 + 6 * (j + 1)) (by omega) (by omega) ?_
        exact ih (j + 1) rfl xR xU xI xW u1028 u1010 v4_1120 _ _ _ hw hP hD hS (lv_sub hl [3, 4, 5, 6, 0] rfl)
      · have hw := hw.2 c1056
        refine lv_iconst (v := (0 : Int32)) hx hb d_L_law_1059 (by decide) ?_
        exact hw.elim
  · have hw := hw.2 c1039
    refine lv_iconst (v := (0 : Int32)) hx hb d_L_law_1042 (by decide) ?_
    exact hw.elim
def wc_law_16 (xs : Nat → Int32) (L : Nat) (rec23 : St → St → St → St → St → (Nat → Int64) → Int32 → Prop) (xR : St) (xU : St) (xI : St) (xW : St) (xM : St) (xo : (Nat → Int64)) (i4 : Int32) : Prop := vp_in (i4 + (1 : Int32)) L ∧ (wp_L_count xR xU xI xW xo (xs (i4 + (1 : Int32)).toNatClampNeg) (fun r1072 u1072 => (vp_in (i4 + (1 : Int32)) L ∧ (wp_M_count xM (xs (i4 + (1 : Int32)).toNatClampNeg) (fun r1084 u1084 => (wp_M_thrown u1084 (fun r1090 _ => ((r1090 = r1072 → ((¬ r1072 = 0 → (∀ v4_1120 : Int32, v4_1120 = i4 + 5 → (rec23 xR xU xI xW u1084 u1072 v4_1120))) ∧ (r1072 = 0 → (vp_in (0 : Int32) 1 ∧ (((lg_cmp (u1072 (0 : Int32).toNatClampNeg) r1084.toInt64) = 0 → (∀ v4_1120 : Int32, v4_1120 = i4 + 5 → (rec23 xR xU xI xW u1084 u1072 v4_1120))) ∧ (¬ (lg_cmp (u1072 (0 : Int32).toNatClampNeg) r1084.toInt64) = 0 → (False))))))) ∧ (¬ r1090 = r1072 → (False))))))))))
set_option maxHeartbeats 8000000 in
set_option maxRecDepth 100000 in
theorem lawcase_16 {p : Program} {l : Launch} {e : Env} {s : State} {m : MethodId} {below : List Frame} {meth : Method} {c : Code} {dC : Nat → ClassId} {dI : Nat → Nat → Nat} {cI cZ cL : ClassId} {qR qU qI qW qM : Nat → Nat} {qo : Nat} {sa : Nat → Nat} {b L : Nat} {xs : Nat → Int32} (hl9 : l.stackTraces = false) {j : Nat} (hLj : j ≤ 512) (C0 : lw_At p s m meth c b L xs) (hK : va_K (dC, dI) vwCl [(cI, .int), (cZ, .boolean), (cL, .long)] s) (hE : xE "ReleaseRows" xTx sa (fun q : Nat => s.heap.size ≤ q) s.heap s) (hN : xN s) {rec23 : St → St → St → St → St → (Nat → Int64) → Int32 → Prop}
    (ih : ∀ j1 : Nat, j1 = j + 1 → ∀ (xR : St) (xU : St) (xI : St) (xW : St) (xM : St) (xo : (Nat → Int64)) (i4 : Int32) (H : Heap) (locs : List Loc) (ls : Array Slot), rec23 xR xU xI xW xM xo i4 → va_P (dC, dI) vwCl (wd_RUIWMo qR qU qI qW qM qo cI cZ cL xR xU xI xW xM xo) H → va_D (fun q : Nat => s.heap.size ≤ q) (wd_RUIWMo qR qU qI qW qM qo cI cZ cL xR xU xI xW xM xo) → va_S (fun q : Nat => s.heap.size ≤ q) s.heap H locs → lv_has ls 7 [(0, .ref b), (1, .ref (qR 0)), (2, .ref (qM 0)), (3, .ref qo), (4, .int i4)] → W p l e room_1 s m #[Value.ref b] below meth c H locs (48 + j1) (1209 + 6 * j1) (lw_Z below #[Value.ref b] s) (F0 m 23 ls []))
    : ∀ (xR : St) (xU : St) (xI : St) (xW : St) (xM : St) (xo : (Nat → Int64)) (i4 : Int32) (H : Heap) (locs : List Loc) (ls : Array Slot), wc_law_16 xs L rec23 xR xU xI xW xM xo i4 → va_P (dC, dI) vwCl (wd_RUIWMo qR qU qI qW qM qo cI cZ cL xR xU xI xW xM xo) H → va_D (fun q : Nat => s.heap.size ≤ q) (wd_RUIWMo qR qU qI qW qM qo cI cZ cL xR xU xI xW xM xo) → va_S (fun q : Nat => s.heap.size ≤ q) s.heap H locs → lv_has ls 7 [(0, .ref b), (1, .ref (qR 0)), (2, .ref (qM 0)), (3, .ref qo), (4, .int i4)] → W p l e room_1 s m #[Value.ref b] below meth c H locs (48 + j) (1209 + 6 * j) (lw_Z below #[Value.ref b] s) (F0 m 1064 ls []) := by
  obtain ⟨hx, hb, hr, hml, hown, hts0, hX, hbl, hlocks, hgv⟩ := C0
  have hts : ∀ w ∈ gG, w.before #[Value.ref b] s = true := fun w h => hts0 w (List.mem_filter.mp h).1
  have hA : ∀ q : Nat, s.heap.size ≤ q → (fun q : Nat => s.heap.size ≤ q) q := fun _ h => h
  have hbA : ¬ (fun q : Nat => s.heap.size ≤ q) b := Nat.not_le.mpr hbl
  intro xR xU xI xW xM xo i4 H locs ls hw hP hD hS hl
  unfold wc_law_16 at hw
  refine lv_aload_n hx hb d_L_law_1064 rfl (lv_at hl 1 rfl) ?_
  refine lv_aload_n hx hb d_L_law_1065 rfl (lv_at hl 0 rfl) ?_
  refine lv_iload hx hb d_L_law_1066 (lv_at hl 4 rfl) ?_
  refine lv_iconst (v := (1 : Int32)) hx hb d_L_law_1068 (by decide) ?_
  refine lv_iadd hx hb d_L_law_1069 ?_
  obtain ⟨h1070, hw⟩ := hw
  refine va_sld hx hb hX hbl hbA hS h1070 d_L_law_1070 ?_
  refine lv_aload_n hx hb d_L_law_1071 rfl (lv_at hl 3 rfl) ?_
  refine x_ci (w2 := fun u1072 => (wd_RUIWMo qR qU qI qW qM qo cI cZ cL xR xU xI xW xM u1072)) [0, 1, 2, 3, 4, 5, 6, 7, 8, 9, 10, 11, 12, 13, 14, 15, 16, 17, 18, 19, 20, 21, 22, 23, 24, 47] [25, 26, 27, 28, 29, 30, 31, 32, 33, 34, 35, 36, 37, 38, 39, 40, 41, 42, 43, 44, 45, 46] [22, 23, 24, 25, 26, 27, 28, 29, 30, 31, 32, 33, 34, 35, 36, 37, 38, 39, 40, 41, 42, 43, 44, 45, 46, 0, 1, 2, 3, 4, 5, 6, 7, 8, 9, 10, 11, 12, 13, 14, 15, 16, 17, 18, 19, 20, 21, 47] (vx_runSW (hh := [(0, 9, 12, 21)]) (As := [.ref (qR 0), .int (xs (i4 + (1 : Int32)).toNatClampNeg), .ref qo]) (rest := []) ⟨hx, hb, hml, hown, hts⟩ (c_L_count l hl9 sa dC dI cI cZ cL qR qU qI qW qo _ xR xU xI xW xo (xs (i4 + (1 : Int32)).toNatClampNeg) _ hw) (vx_cwSW 3 hts (x_gW k_555 k_556 k_25 k_557) rfl rfl rfl (by decide +kernel) ⟨Nat.le_of_ble_eq_true rfl, Nat.le_of_ble_eq_true rfl⟩) ⟨x_blindN, fun U hU hW => x_preN (isC := [0, 1, 2, 3, 4, 5, 6, 7, 8, 9, 10, 11, 12, 13, 14, 15, 16, 17, 18, 19, 20, 21, 22, 23, 24, 47]) hK hP hD hS hA hE hN rfl rfl hU hW⟩ rfl rfl hl.1 rfl (lv_room (Nat.le_of_ble_eq_true rfl)) d_L_law_1072 ⟨by show _ ≤ 1078; omega, by show _ ≤ 9437; omega⟩) hP hD hS hA rfl rfl rfl (by decide) (fun _ => rfl) rfl (fun r1072 u1072 H locs hw hP hD hS => ?_)
  refine lv_istore (lv' := [(5, .int r1072), (0, .ref b), (1, .ref (qR 0)), (2, .ref (qM 0)), (3, .ref qo), (4, .int i4)]) hx hb d_L_law_1075 hl (by decide) rfl (fun ls hl => ?_)
  refine lv_aload_n hx hb d_L_law_1077 rfl (lv_at hl 3 rfl) ?_
  refine lv_aload_n hx hb d_L_law_1078 rfl (lv_at hl 1 rfl) ?_
  refine lv_iload hx hb d_L_law_1079 (lv_at hl 5 rfl) ?_
  refine lv_iconst (v := (1 : Int32)) hx hb d_L_law_1081 (by decide) ?_
  refine lv_iadd hx hb d_L_law_1082 ?_
  obtain ⟨h1083, hw⟩ := hw
  refine va_sld hx hb hX hbl hbA hS h1083 d_L_law_1083 ?_
  refine x_ci (w2 := fun u1084 => (wd_RUIWMo qR qU qI qW qM qo cI cZ cL xR xU xI xW u1084 u1072)) [25, 26, 27, 28, 29, 30, 31, 32, 33, 34, 35, 36, 37, 38, 39, 40, 41, 42, 43, 44, 45, 46] [0, 1, 2, 3, 4, 5, 6, 7, 8, 9, 10, 11, 12, 13, 14, 15, 16, 17, 18, 19, 20, 21, 22, 23, 24, 47] [0, 1, 2, 3, 4, 5, 6, 7, 8, 9, 10, 11, 12, 13, 14, 15, 16, 17, 18, 19, 20, 21, 22, 23, 24, 26, 27, 28, 29, 30, 31, 32, 33, 34, 35, 36, 37, 38, 39, 40, 41, 42, 43, 44, 45, 46, 47, 25] (va_runV (As := [.int (xs (i4 + (1 : Int32)).toNatClampNeg)]) (rest := []) ⟨hx, hb, hml, hown, hts⟩ (c_M_count l dC dI cI cZ cL qM _ xM (xs (i4 + (1 : Int32)).toNatClampNeg) _ hw) (cwV 1 hts (x_gV k_796 k_797 k_798 k_30 k_799) rfl rfl rfl (by decide +kernel) ⟨Nat.le_of_ble_eq_true rfl, Nat.le_of_ble_eq_true rfl⟩) ⟨x_blind, va_recv hK hP (ci := 4) (q0 := 25) rfl rfl, fun U hU hW => x_pre (isC := [25, 26, 27, 28, 29, 30, 31, 32, 33, 34, 35, 36, 37, 38, 39, 40, 41, 42, 43, 44, 45, 46]) hK hP hD rfl rfl hU hW⟩ rfl rfl hl.1 rfl (lv_room (Nat.le_of_ble_eq_true rfl)) d_L_law_1084 ⟨by show _ ≤ 1078; omega, by show _ ≤ 9437; omega⟩) hP hD hS hA rfl rfl rfl (by decide) (fun _ => rfl) rfl (fun r1084 u1084 H locs hw hP hD hS => ?_)
  refine lv_istore (lv' := [(6, .int r1084), (5, .int r1072), (0, .ref b), (1, .ref (qR 0)), (2, .ref (qM 0)), (3, .ref qo), (4, .int i4)]) hx hb d_L_law_1087 hl (by decide) rfl (fun ls hl => ?_)
  refine lv_aload_n hx hb d_L_law_1089 rfl (lv_at hl 4 rfl) ?_
  refine x_ci (w2 := fun _ => (wd_RUIWMo qR qU qI qW qM qo cI cZ cL xR xU xI xW u1084 u1072)) [25, 26, 27, 28, 29, 30, 31, 32, 33, 34, 35, 36, 37, 38, 39, 40, 41, 42, 43, 44, 45, 46] [0, 1, 2, 3, 4, 5, 6, 7, 8, 9, 10, 11, 12, 13, 14, 15, 16, 17, 18, 19, 20, 21, 22, 23, 24, 47] [0, 1, 2, 3, 4, 5, 6, 7, 8, 9, 10, 11, 12, 13, 14, 15, 16, 17, 18, 19, 20, 21, 22, 23, 24, 26, 27, 28, 29, 30, 31, 32, 33, 34, 35, 36, 37, 38, 39, 40, 41, 42, 43, 44, 45, 46, 47, 25] (va_runV (As := []) (rest := []) ⟨hx, hb, hml, hown, hts⟩ (c_M_thrown l dC dI cI cZ cL qM _ u1084 _ hw) (cwV 0 hts (x_gV k_658 k_659 k_660 k_30 k_661) rfl rfl rfl (by decide +kernel) ⟨Nat.le_of_ble_eq_true rfl, Nat.le_of_ble_eq_true rfl⟩) ⟨x_blind, va_recv hK hP (ci := 4) (q0 := 25) rfl rfl, fun U hU hW => x_pre (isC := [25, 26, 27, 28, 29, 30, 31, 32, 33, 34, 35, 36, 37, 38, 39, 40, 41, 42, 43, 44, 45, 46]) hK hP hD rfl rfl hU hW⟩ rfl rfl hl.1 rfl (lv_room (Nat.le_of_ble_eq_true rfl)) d_L_law_1090 ⟨by show _ ≤ 1078; omega, by show _ ≤ 9437; omega⟩) hP hD hS hA rfl rfl rfl (by decide) (fun _ => rfl) rfl (fun r1090 _ H locs hw hP hD hS => ?_)
  refine lv_iload hx hb d_L_law_1093 (lv_at hl 1 rfl) ?_
  refine lv_icmp_eq (tgt := 1100) hx hb d_L_law_1095 (by decide) (fun c1095 => ?_) (fun c1095 => ?_)
  · have hw := hw.1 c1095
    refine lv_iload hx hb d_L_law_1100 (lv_at hl 1 rfl) ?_
    refine lv_if_ne (tgt := 1117) hx hb d_L_law_1102 (by decide) (fun c1102 => ?_) (fun c1102 => ?_)
    · have hw := hw.1 c1102
      refine lv_goto (tgt := 1120) hx hb d_L_law_1117 (by decide) ?_
      obtain ⟨v4_1120, ev4_1120⟩ : ∃ y : Int32, y = i4 + 5 := ⟨_, rfl⟩
      have hw := hw v4_1120 ev4_1120
      refine lv_iinc (v := v4_1120) (lv' := [(4, .int v4_1120), (6, .int r1084), (5, .int r1072), (0, .ref b), (1, .ref (qR 0)), (2, .ref (qM 0)), (3, .ref qo)]) hx hb d_L_law_1120 hl (k := 6) rfl (by rw [ev4_1120]; rfl) (by decide) rfl (fun ls hl => ?_)
      refine lv_goto (tgt := 23) hx hb d_L_law_1123 (by decide) ?_
      refine W.widen (k := 48 + (j + 1)) (n := 1209 + 6 * (j + 1)) (by omega) (by omega) ?_
      exact ih (j + 1) rfl xR xU xI xW u1084 u1072 v4_1120 _ _ _ hw hP hD hS (lv_sub hl [3, 4, 5, 6, 0] rfl)
    · have hw := hw.2 c1102
      refine lv_aload_n hx hb d_L_law_1105 rfl (lv_at hl 5 rfl) ?_
      refine lv_iconst (v := (0 : Int32)) hx hb d_L_law_1106 (by decide) ?_
      obtain ⟨h1107, hw⟩ := hw
      refine va_lald hx hb hK hP 47 2 rfl rfl h1107 d_L_law_1107 ?_
      refine lv_iload hx hb d_L_law_1108 (lv_at hl 0 rfl) ?_
      refine lv_i2l (v := r1084.toInt64) hx hb d_L_law_1110 rfl ?_
      refine W.lcmp hx hb d_L_law_1111 ?_
      refine lv_if_eq (tgt := 1117) hx hb d_L_law_1112 (by decide) (fun c1112 => ?_) (fun c1112 => ?_)
      · have hw := hw.1 c1112
        refine lv_goto (tgt := 1120) hx hb d_L_law_1117 (by decide) ?_
        obtain ⟨v4_1120, ev4_1120⟩ : ∃ y : Int32, y = i4 + 5 := ⟨_, rfl⟩
        have hw := hw v4_1120 ev4_1120
        refine lv_iinc (v := v4_1120) (lv' := [(4, .int v4_1120), (6, .int r1084), (5, .int r1072), (0, .ref b), (1, .ref (qR 0)), (2, .ref (qM 0)), (3, .ref qo)]) hx hb d_L_law_1120 hl (k := 6) rfl (by rw [ev4_1120]; rfl) (by decide) rfl (fun ls hl => ?_)
        refine lv_goto (tgt := 23) hx hb d_L_law_1123 (by decide) ?_
        refine W.widen (k := 48 + (j + 1)) (n := 1209 + 6 * (j + 1)) (by omega) (by omega) ?_
        exact ih (j + 1) rfl xR xU xI xW u1084 u1072 v4_1120 _ _ _ hw hP hD hS (lv_sub hl [3, 4, 5, 6, 0] rfl)
      · have hw := hw.2 c1112
        refine lv_iconst (v := (0 : Int32)) hx hb d_L_law_1115 (by decide) ?_
        exact hw.elim
  · have hw := hw.2 c1095
    refine lv_iconst (v := (0 : Int32)) hx hb d_L_law_1098 (by decide) ?_
    exact hw.elim
