def wp_U_become (xU : St) (a1 : Int32) (a2 : Int32) (a3 : Int32) (post : St → Prop) : Prop := vp_in a1 24 ∧ (vp_in a1 24 ∧ (vp_in a1 24 ∧ (post (sA (sA (sA xU 5 a1.toNatClampNeg a2) 6 a1.toNatClampNeg (-1 : Int32)) 7 a1.toNatClampNeg a3))))
set_option maxHeartbeats 4000000 in
set_option maxRecDepth 100000 in
theorem c_U_become (l : Launch) (dC : Nat → ClassId) (dI : Nat → Nat → Nat) (cI cZ cL : ClassId) (qU : Nat → Nat) (sz : Nat) (xU : St) (a1 : Int32) (a2 : Int32) (a3 : Int32) (post : St → Prop) (hw : wp_U_become xU a1 a2 a3 post) : Met l y_U_become w_U_become ({ frames := 0, cells := 0, slots := 0, locals := 0 } : Room) (va_Pc [.ref (qU 0), .int a1, .int a2, .int a3] (xP (dC, dI) vwCl [(cI, .int), (cZ, .boolean), (cL, .long)] (wd_U qU cI cZ cL xU) sz)) (va_Qv post (xB (dC, dI) vwCl [(cI, .int), (cZ, .boolean), (cL, .long)] (va_A (wd_U qU cI cZ cL xU) sz) (fun u => (wd_U qU cI cZ cL u))) (va_A (wd_U qU cI cZ cL xU) sz)) 0 0 (va_A (wd_U qU cI cZ cL xU) sz) := by
  refine x_ofV (cc := b_U_become) (maxL := 4) (by decide) rfl (Nat.le_of_ble_eq_true rfl) (fun p e s m below meth c A Q hx hb hml hts hown hin hK hA hP hD hS hret ls hl => ?_)
  have hl : lv_has ls 4 [(0, .ref (qU 0)), (1, .int a1), (2, .int a2), (3, .int a3)] := hl
  unfold wp_U_become at hw
  refine lv_aload_n hx hb d_U_become_0 rfl (lv_at hl 0 rfl) ?_
  refine va_get (D := (dC, dI)) (ci := 1) (v := .ref (qU 6)) (C := "ReleaseRows$UnitRows") (T := T_U) (N := 11) hx hb hts in_U hown hK hP 0 rfl rfl 5 (by decide) (hts _ k_60) (fun _ h9 => h9) rfl d_U_become_1 ?_
  refine lv_iload_n hx hb d_U_become_4 rfl (lv_at hl 1 rfl) ?_
  refine lv_iload_n hx hb d_U_become_5 rfl (lv_at hl 2 rfl) ?_
  obtain ⟨h6, hw⟩ := hw
  refine va_iast hx hb hK hP hD hS 6 0 rfl rfl h6 d_U_become_6 (fun H locs hP hD hS => ?_)
  have hP := wsP_U_U5 hP
  have hD := wsD_U_U5 hD
  refine lv_aload_n hx hb d_U_become_7 rfl (lv_at hl 0 rfl) ?_
  refine va_get (D := (dC, dI)) (ci := 1) (v := .ref (qU 7)) (C := "ReleaseRows$UnitRows") (T := T_U) (N := 11) hx hb hts in_U hown hK hP 0 rfl rfl 6 (by decide) (hts _ k_62) (fun _ h9 => h9) rfl d_U_become_8 ?_
  refine lv_iload_n hx hb d_U_become_11 rfl (lv_at hl 1 rfl) ?_
  refine lv_iconst (v := (-1 : Int32)) hx hb d_U_become_12 (by decide) ?_
  obtain ⟨h13, hw⟩ := hw
  refine va_iast hx hb hK hP hD hS 7 0 rfl rfl h13 d_U_become_13 (fun H locs hP hD hS => ?_)
  have hP := wsP_U_U6 hP
  have hD := wsD_U_U6 hD
  refine lv_aload_n hx hb d_U_become_14 rfl (lv_at hl 0 rfl) ?_
  refine va_get (D := (dC, dI)) (ci := 1) (v := .ref (qU 8)) (C := "ReleaseRows$UnitRows") (T := T_U) (N := 11) hx hb hts in_U hown hK hP 0 rfl rfl 7 (by decide) (hts _ k_64) (fun _ h9 => h9) rfl d_U_become_15 ?_
  refine lv_iload_n hx hb d_U_become_18 rfl (lv_at hl 1 rfl) ?_
  refine lv_iload_n hx hb d_U_become_19 rfl (lv_at hl 3 rfl) ?_
  obtain ⟨h20, hw⟩ := hw
  refine va_iast hx hb hK hP hD hS 8 0 rfl rfl h20 d_U_become_20 (fun H locs hP hD hS => ?_)
  have hP := wsP_U_U7 hP
  have hD := wsD_U_U7 hD
  exact hret (sA (sA (sA xU 5 a1.toNatClampNeg a2) 6 a1.toNatClampNeg (-1 : Int32)) 7 a1.toNatClampNeg a3) _ _ _ _ _ _ hw hP hD hS (Nat.le_of_ble_eq_true rfl) (Nat.le_of_ble_eq_true rfl) d_U_become_21

def wj_U_has_16 (xU : St) (a1 : Int32) (post : Int32 → Unit → Prop)  : Prop := post (0 : Int32) ()
def wp_U_has (xU : St) (a1 : Int32) (post : Int32 → Unit → Prop) : Prop := (a1 < 0 → (wj_U_has_16 xU a1 post )) ∧ (¬ a1 < 0 → (((xU.2 10) ≤ a1 → (wj_U_has_16 xU a1 post )) ∧ (¬ (xU.2 10) ≤ a1 → (post (1 : Int32) ()))))
set_option maxHeartbeats 4000000 in
set_option maxRecDepth 100000 in
theorem c_U_has (l : Launch) (dC : Nat → ClassId) (dI : Nat → Nat → Nat) (cI cZ cL : ClassId) (qU : Nat → Nat) (sz : Nat) (xU : St) (a1 : Int32) (post : Int32 → Unit → Prop) (hw : wp_U_has xU a1 post) : Met l y_U_has w_U_has ({ frames := 0, cells := 0, slots := 0, locals := 0 } : Room) (va_Pc [.ref (qU 0), .int a1] (xP (dC, dI) vwCl [(cI, .int), (cZ, .boolean), (cL, .long)] (wd_U qU cI cZ cL xU) sz)) (va_Qi post (xB (dC, dI) vwCl [(cI, .int), (cZ, .boolean), (cL, .long)] (va_A (wd_U qU cI cZ cL xU) sz) (fun _ => (wd_U qU cI cZ cL xU))) (va_A (wd_U qU cI cZ cL xU) sz)) 0 0 (va_A (wd_U qU cI cZ cL xU) sz) := by
  refine x_ofI (cc := b_U_has) (maxL := 2) (by decide) rfl (Nat.le_of_ble_eq_true rfl) (fun p e s m below meth c A Q hx hb hml hts hown hK hA hP hD hS hret ls hl => ?_)
  have hl : lv_has ls 2 [(0, .ref (qU 0)), (1, .int a1)] := hl
  have jn16 : ∀ (H : Heap) (locs : List Loc) (ls : Array Slot), wj_U_has_16 xU a1 post  → va_P (dC, dI) vwCl (wd_U qU cI cZ cL xU) H → va_D A (wd_U qU cI cZ cL xU) → va_S A s.heap H locs → lv_has ls 2 [] → W p l e (headSpec w_U_has ({ frames := 0, cells := 0, slots := 0, locals := 0 } : Room)).room s m ([.ref (qU 0), .int a1] : List Value).toArray below meth c H locs 0 0 Q (F0 m 16 ls []) := by
    intro  H locs ls hw hP hD hS hl
    unfold wj_U_has_16 at hw
    refine lv_iconst (v := (0 : Int32)) hx hb d_U_has_16 (by decide) ?_
    exact hret (0 : Int32) () _ _ _ _ _ _ (by decide) hw hP hD hS (Nat.le_of_ble_eq_true rfl) (Nat.le_of_ble_eq_true rfl) d_U_has_17
  unfold wp_U_has at hw
  refine lv_iload_n hx hb d_U_has_0 rfl (lv_at hl 1 rfl) ?_
  refine lv_if_lt (tgt := 16) hx hb d_U_has_1 (by decide) (fun c1 => ?_) (fun c1 => ?_)
  · have hw := hw.1 c1
    exact jn16 _ _ _ hw hP hD hS (lv_sub hl [] rfl)
  · have hw := hw.2 c1
    refine lv_iload_n hx hb d_U_has_4 rfl (lv_at hl 1 rfl) ?_
    refine lv_aload_n hx hb d_U_has_5 rfl (lv_at hl 0 rfl) ?_
    refine va_get (D := (dC, dI)) (ci := 1) (v := .int (xU.2 10)) (C := "ReleaseRows$UnitRows") (T := T_U) (N := 11) hx hb hts in_U hown hK hP 0 rfl rfl 10 (by decide) (hts _ k_70) (fun _ h9 => h9) rfl d_U_has_6 ?_
    refine lv_icmp_ge (tgt := 16) hx hb d_U_has_9 (by decide) (fun c9 => ?_) (fun c9 => ?_)
    · have hw := hw.1 c9
      exact jn16 _ _ _ hw hP hD hS (lv_sub hl [] rfl)
    · have hw := hw.2 c9
      refine lv_iconst (v := (1 : Int32)) hx hb d_U_has_12 (by decide) ?_
      refine lv_goto (tgt := 17) hx hb d_U_has_13 (by decide) ?_
      exact hret (1 : Int32) () _ _ _ _ _ _ (by decide) hw hP hD hS (Nat.le_of_ble_eq_true rfl) (Nat.le_of_ble_eq_true rfl) d_U_has_17

def wp_U_addUnit (xU : St) (a1 : Int32) (a2 : Int32) (post : Int32 → St → Prop) : Prop := ∀ v3_4 : Int32, v3_4 = (xU.2 10) → (vp_in v3_4 24 ∧ (wp_U_become (sA (sF xU 10 ((xU.2 10) + (1 : Int32))) 0 v3_4.toNatClampNeg a1) v3_4 (0 : Int32) a2 (fun u26 => (post v3_4 u26))))
set_option maxHeartbeats 4000000 in
set_option maxRecDepth 100000 in
theorem c_U_addUnit (l : Launch) (dC : Nat → ClassId) (dI : Nat → Nat → Nat) (cI cZ cL : ClassId) (qU : Nat → Nat) (sz : Nat) (xU : St) (a1 : Int32) (a2 : Int32) (post : Int32 → St → Prop) (hw : wp_U_addUnit xU a1 a2 post) : Met l y_U_addUnit w_U_addUnit ({ frames := 1, cells := 0, slots := 0, locals := 23 } : Room) (va_Pc [.ref (qU 0), .int a1, .int a2] (xP (dC, dI) vwCl [(cI, .int), (cZ, .boolean), (cL, .long)] (wd_U qU cI cZ cL xU) sz)) (va_Qi post (xB (dC, dI) vwCl [(cI, .int), (cZ, .boolean), (cL, .long)] (va_A (wd_U qU cI cZ cL xU) sz) (fun u => (wd_U qU cI cZ cL u))) (va_A (wd_U qU cI cZ cL xU) sz)) 0 0 (va_A (wd_U qU cI cZ cL xU) sz) := by
  refine x_ofI (cc := b_U_addUnit) (maxL := 4) (by decide) rfl (Nat.le_of_ble_eq_true rfl) (fun p e s m below meth c A Q hx hb hml hts hown hK hA hP hD hS hret ls hl => ?_)
  have hl : lv_has ls 4 [(0, .ref (qU 0)), (1, .int a1), (2, .int a2)] := hl
  unfold wp_U_addUnit at hw
  refine lv_aload_n hx hb d_U_addUnit_0 rfl (lv_at hl 0 rfl) ?_
  refine va_get (D := (dC, dI)) (ci := 1) (v := .int (xU.2 10)) (C := "ReleaseRows$UnitRows") (T := T_U) (N := 11) hx hb hts in_U hown hK hP 0 rfl rfl 10 (by decide) (hts _ k_70) (fun _ h9 => h9) rfl d_U_addUnit_1 ?_
  refine lv_topi (fun v3_4 ev3_4 => ?_)
  have hw := hw v3_4 ev3_4
  refine lv_istore_n (lv' := [(3, .int v3_4), (0, .ref (qU 0)), (1, .int a1), (2, .int a2)]) hx hb d_U_addUnit_4 rfl hl (by decide) rfl (fun ls hl => ?_)
  refine lv_aload_n hx hb d_U_addUnit_5 rfl (lv_at hl 1 rfl) ?_
  refine lv_dup hx hb d_U_addUnit_6 rfl ?_
  refine va_get (D := (dC, dI)) (ci := 1) (v := .int (xU.2 10)) (C := "ReleaseRows$UnitRows") (T := T_U) (N := 11) hx hb hts in_U hown hK hP 0 rfl rfl 10 (by decide) (hts _ k_70) (fun _ h9 => h9) rfl d_U_addUnit_7 ?_
  refine lv_iconst (v := (1 : Int32)) hx hb d_U_addUnit_10 (by decide) ?_
  refine lv_iadd hx hb d_U_addUnit_11 ?_
  refine va_put (D := (dC, dI)) (ci := 1) (v := .int ((xU.2 10) + (1 : Int32))) (ty := .int) (C := "ReleaseRows$UnitRows") (T := T_U) (N := 11) hx hb hts in_U ty_U tyok_U nm_U hown hK hP hD hS 0 rfl rfl 10 (by decide) (hts _ k_70) (fun _ h9 => h9) rfl (by decide +kernel) rfl rfl (Nat.le_of_ble_eq_true rfl) d_U_addUnit_12 (fun H locs hP hD hS => ?_)
  have hP := wsP_U_U10 hP
  have hD := wsD_U_U10 hD
  refine lv_aload_n hx hb d_U_addUnit_15 rfl (lv_at hl 1 rfl) ?_
  refine va_get (D := (dC, dI)) (ci := 1) (v := .ref (qU 1)) (C := "ReleaseRows$UnitRows") (T := T_U) (N := 11) hx hb hts in_U hown hK hP 0 rfl rfl 0 (by decide) (hts _ k_53) (fun _ h9 => h9) rfl d_U_addUnit_16 ?_
  refine lv_iload_n hx hb d_U_addUnit_19 rfl (lv_at hl 0 rfl) ?_
  refine lv_iload_n hx hb d_U_addUnit_20 rfl (lv_at hl 2 rfl) ?_
  obtain ⟨h21, hw⟩ := hw
  refine va_iast hx hb hK hP hD hS 1 0 rfl rfl h21 d_U_addUnit_21 (fun H locs hP hD hS => ?_)
  have hP := wsP_U_U0 hP
  have hD := wsD_U_U0 hD
  refine lv_aload_n hx hb d_U_addUnit_22 rfl (lv_at hl 1 rfl) ?_
  refine lv_iload_n hx hb d_U_addUnit_23 rfl (lv_at hl 0 rfl) ?_
  refine lv_iconst (v := (0 : Int32)) hx hb d_U_addUnit_24 (by decide) ?_
  refine lv_iload_n hx hb d_U_addUnit_25 rfl (lv_at hl 3 rfl) ?_
  refine x_cv (w2 := fun u26 => (wd_U qU cI cZ cL u26)) [0, 1, 2, 3, 4, 5, 6, 7, 8, 9, 10] [] [0, 1, 2, 3, 4, 5, 6, 7, 8, 9, 10] (va_runV (As := [.int v3_4, .int (0 : Int32), .int a2]) (rest := []) ⟨hx, hb, hml, hown, hts⟩ (c_U_become l dC dI cI cZ cL qU _ (sA (sF xU 10 ((xU.2 10) + (1 : Int32))) 0 v3_4.toNatClampNeg a1) v3_4 (0 : Int32) a2 _ hw) (cwV 3 hts (x_gV k_281 k_282 k_283 k_27 k_284) rfl rfl rfl (by decide +kernel) ⟨Nat.le_of_ble_eq_true rfl, Nat.le_of_ble_eq_true rfl⟩) ⟨x_blind, va_recv hK hP (ci := 1) (q0 := 0) rfl rfl, fun U hU hW => x_pre (isC := [0, 1, 2, 3, 4, 5, 6, 7, 8, 9, 10]) hK hP hD rfl rfl hU hW⟩ rfl rfl hl.1 rfl (lv_room (Nat.le_of_ble_eq_true rfl)) d_U_addUnit_26 ⟨Nat.le_of_ble_eq_true rfl, Nat.le_of_ble_eq_true rfl⟩) hP hD hS hA rfl rfl rfl (by decide) (fun _ => rfl) rfl (fun u26 H locs hw hP hD hS => ?_)
  refine lv_iload_n hx hb d_U_addUnit_29 rfl (lv_at hl 0 rfl) ?_
  exact hret v3_4 u26 _ _ _ _ _ _ rfl hw hP hD hS (Nat.le_of_ble_eq_true rfl) (Nat.le_of_ble_eq_true rfl) d_U_addUnit_30

def wp_U_setWork (xU : St) (a1 : Int32) (a2 : Int32) (a3 : Int32) (a4 : Int32) (post : St → Prop) : Prop := vp_in a1 24 ∧ (vp_in a1 24 ∧ (vp_in a1 24 ∧ (post (sA (sA (sA xU 1 a1.toNatClampNeg a2) 2 a1.toNatClampNeg a3) 3 a1.toNatClampNeg a4))))
set_option maxHeartbeats 4000000 in
set_option maxRecDepth 100000 in
theorem c_U_setWork (l : Launch) (dC : Nat → ClassId) (dI : Nat → Nat → Nat) (cI cZ cL : ClassId) (qU : Nat → Nat) (sz : Nat) (xU : St) (a1 : Int32) (a2 : Int32) (a3 : Int32) (a4 : Int32) (post : St → Prop) (hw : wp_U_setWork xU a1 a2 a3 a4 post) : Met l y_U_setWork w_U_setWork ({ frames := 0, cells := 0, slots := 0, locals := 0 } : Room) (va_Pc [.ref (qU 0), .int a1, .int a2, .int a3, .int a4] (xP (dC, dI) vwCl [(cI, .int), (cZ, .boolean), (cL, .long)] (wd_U qU cI cZ cL xU) sz)) (va_Qv post (xB (dC, dI) vwCl [(cI, .int), (cZ, .boolean), (cL, .long)] (va_A (wd_U qU cI cZ cL xU) sz) (fun u => (wd_U qU cI cZ cL u))) (va_A (wd_U qU cI cZ cL xU) sz)) 0 0 (va_A (wd_U qU cI cZ cL xU) sz) := by
  refine x_ofV (cc := b_U_setWork) (maxL := 5) (by decide) rfl (Nat.le_of_ble_eq_true rfl) (fun p e s m below meth c A Q hx hb hml hts hown hin hK hA hP hD hS hret ls hl => ?_)
  have hl : lv_has ls 5 [(0, .ref (qU 0)), (1, .int a1), (2, .int a2), (3, .int a3), (4, .int a4)] := hl
  unfold wp_U_setWork at hw
  refine lv_aload_n hx hb d_U_setWork_0 rfl (lv_at hl 0 rfl) ?_
  refine va_get (D := (dC, dI)) (ci := 1) (v := .ref (qU 2)) (C := "ReleaseRows$UnitRows") (T := T_U) (N := 11) hx hb hts in_U hown hK hP 0 rfl rfl 1 (by decide) (hts _ k_55) (fun _ h9 => h9) rfl d_U_setWork_1 ?_
  refine lv_iload_n hx hb d_U_setWork_4 rfl (lv_at hl 1 rfl) ?_
  refine lv_iload_n hx hb d_U_setWork_5 rfl (lv_at hl 2 rfl) ?_
  obtain ⟨h6, hw⟩ := hw
  refine va_iast hx hb hK hP hD hS 2 0 rfl rfl h6 d_U_setWork_6 (fun H locs hP hD hS => ?_)
  have hP := wsP_U_U1 hP
  have hD := wsD_U_U1 hD
  refine lv_aload_n hx hb d_U_setWork_7 rfl (lv_at hl 0 rfl) ?_
  refine va_get (D := (dC, dI)) (ci := 1) (v := .ref (qU 3)) (C := "ReleaseRows$UnitRows") (T := T_U) (N := 11) hx hb hts in_U hown hK hP 0 rfl rfl 2 (by decide) (hts _ k_56) (fun _ h9 => h9) rfl d_U_setWork_8 ?_
  refine lv_iload_n hx hb d_U_setWork_11 rfl (lv_at hl 1 rfl) ?_
  refine lv_iload_n hx hb d_U_setWork_12 rfl (lv_at hl 3 rfl) ?_
  obtain ⟨h13, hw⟩ := hw
  refine va_iast hx hb hK hP hD hS 3 0 rfl rfl h13 d_U_setWork_13 (fun H locs hP hD hS => ?_)
  have hP := wsP_U_U2 hP
  have hD := wsD_U_U2 hD
  refine lv_aload_n hx hb d_U_setWork_14 rfl (lv_at hl 0 rfl) ?_
  refine va_get (D := (dC, dI)) (ci := 1) (v := .ref (qU 4)) (C := "ReleaseRows$UnitRows") (T := T_U) (N := 11) hx hb hts in_U hown hK hP 0 rfl rfl 3 (by decide) (hts _ k_57) (fun _ h9 => h9) rfl d_U_setWork_15 ?_
  refine lv_iload_n hx hb d_U_setWork_18 rfl (lv_at hl 1 rfl) ?_
  refine lv_iload hx hb d_U_setWork_19 (lv_at hl 4 rfl) ?_
  obtain ⟨h21, hw⟩ := hw
  refine va_iast hx hb hK hP hD hS 4 0 rfl rfl h21 d_U_setWork_21 (fun H locs hP hD hS => ?_)
  have hP := wsP_U_U3 hP
  have hD := wsD_U_U3 hD
  exact hret (sA (sA (sA xU 1 a1.toNatClampNeg a2) 2 a1.toNatClampNeg a3) 3 a1.toNatClampNeg a4) _ _ _ _ _ _ hw hP hD hS (Nat.le_of_ble_eq_true rfl) (Nat.le_of_ble_eq_true rfl) d_U_setWork_22

def wp_U_goTo (xU : St) (a1 : Int32) (a2 : Int32) (a3 : Int32) (post : St → Prop) : Prop := wp_U_become xU a1 (1 : Int32) a3 (fun u4 => (vp_in a1 24 ∧ (vp_in a1 24 ∧ (vp_in a1 24 ∧ (post (sA (sA u4 6 a1.toNatClampNeg a2) 8 a1.toNatClampNeg (((sA u4 6 a1.toNatClampNeg a2).1 8 a1.toNatClampNeg) + (1 : Int32))))))))
set_option maxHeartbeats 4000000 in
set_option maxRecDepth 100000 in
theorem c_U_goTo (l : Launch) (dC : Nat → ClassId) (dI : Nat → Nat → Nat) (cI cZ cL : ClassId) (qU : Nat → Nat) (sz : Nat) (xU : St) (a1 : Int32) (a2 : Int32) (a3 : Int32) (post : St → Prop) (hw : wp_U_goTo xU a1 a2 a3 post) : Met l y_U_goTo w_U_goTo ({ frames := 1, cells := 0, slots := 0, locals := 23 } : Room) (va_Pc [.ref (qU 0), .int a1, .int a2, .int a3] (xP (dC, dI) vwCl [(cI, .int), (cZ, .boolean), (cL, .long)] (wd_U qU cI cZ cL xU) sz)) (va_Qv post (xB (dC, dI) vwCl [(cI, .int), (cZ, .boolean), (cL, .long)] (va_A (wd_U qU cI cZ cL xU) sz) (fun u => (wd_U qU cI cZ cL u))) (va_A (wd_U qU cI cZ cL xU) sz)) 0 0 (va_A (wd_U qU cI cZ cL xU) sz) := by
  refine x_ofV (cc := b_U_goTo) (maxL := 4) (by decide) rfl (Nat.le_of_ble_eq_true rfl) (fun p e s m below meth c A Q hx hb hml hts hown hin hK hA hP hD hS hret ls hl => ?_)
  have hl : lv_has ls 4 [(0, .ref (qU 0)), (1, .int a1), (2, .int a2), (3, .int a3)] := hl
  unfold wp_U_goTo at hw
  refine lv_aload_n hx hb d_U_goTo_0 rfl (lv_at hl 0 rfl) ?_
  refine lv_iload_n hx hb d_U_goTo_1 rfl (lv_at hl 1 rfl) ?_
  refine lv_iconst (v := (1 : Int32)) hx hb d_U_goTo_2 (by decide) ?_
  refine lv_iload_n hx hb d_U_goTo_3 rfl (lv_at hl 3 rfl) ?_
  refine x_cv (w2 := fun u4 => (wd_U qU cI cZ cL u4)) [0, 1, 2, 3, 4, 5, 6, 7, 8, 9, 10] [] [0, 1, 2, 3, 4, 5, 6, 7, 8, 9, 10] (va_runV (As := [.int a1, .int (1 : Int32), .int a3]) (rest := []) ⟨hx, hb, hml, hown, hts⟩ (c_U_become l dC dI cI cZ cL qU _ xU a1 (1 : Int32) a3 _ hw) (cwV 3 hts (x_gV k_281 k_282 k_283 k_27 k_284) rfl rfl rfl (by decide +kernel) ⟨Nat.le_of_ble_eq_true rfl, Nat.le_of_ble_eq_true rfl⟩) ⟨x_blind, va_recv hK hP (ci := 1) (q0 := 0) rfl rfl, fun U hU hW => x_pre (isC := [0, 1, 2, 3, 4, 5, 6, 7, 8, 9, 10]) hK hP hD rfl rfl hU hW⟩ rfl rfl hl.1 rfl (lv_room (Nat.le_of_ble_eq_true rfl)) d_U_goTo_4 ⟨Nat.le_of_ble_eq_true rfl, Nat.le_of_ble_eq_true rfl⟩) hP hD hS hA rfl rfl rfl (by decide) (fun _ => rfl) rfl (fun u4 H locs hw hP hD hS => ?_)
  refine lv_aload_n hx hb d_U_goTo_7 rfl (lv_at hl 0 rfl) ?_
  refine va_get (D := (dC, dI)) (ci := 1) (v := .ref (qU 7)) (C := "ReleaseRows$UnitRows") (T := T_U) (N := 11) hx hb hts in_U hown hK hP 0 rfl rfl 6 (by decide) (hts _ k_62) (fun _ h9 => h9) rfl d_U_goTo_8 ?_
  refine lv_iload_n hx hb d_U_goTo_11 rfl (lv_at hl 1 rfl) ?_
  refine lv_iload_n hx hb d_U_goTo_12 rfl (lv_at hl 2 rfl) ?_
  obtain ⟨h13, hw⟩ := hw
  refine va_iast hx hb hK hP hD hS 7 0 rfl rfl h13 d_U_goTo_13 (fun H locs hP hD hS => ?_)
  have hP := wsP_U_U6 hP
  have hD := wsD_U_U6 hD
  refine lv_aload_n hx hb d_U_goTo_14 rfl (lv_at hl 0 rfl) ?_
  refine va_get (D := (dC, dI)) (ci := 1) (v := .ref (qU 9)) (C := "ReleaseRows$UnitRows") (T := T_U) (N := 11) hx hb hts in_U hown hK hP 0 rfl rfl 8 (by decide) (hts _ k_66) (fun _ h9 => h9) rfl d_U_goTo_15 ?_
  refine lv_iload_n hx hb d_U_goTo_18 rfl (lv_at hl 1 rfl) ?_
  refine lv_dup2_11 hx hb d_U_goTo_19 rfl rfl ?_
  obtain ⟨h20, hw⟩ := hw
  refine va_iald hx hb hK hP 9 0 rfl rfl h20 d_U_goTo_20 ?_
  refine lv_iconst (v := (1 : Int32)) hx hb d_U_goTo_21 (by decide) ?_
  refine lv_iadd hx hb d_U_goTo_22 ?_
  obtain ⟨h23, hw⟩ := hw
  refine va_iast hx hb hK hP hD hS 9 0 rfl rfl h23 d_U_goTo_23 (fun H locs hP hD hS => ?_)
  have hP := wsP_U_U8 hP
  have hD := wsD_U_U8 hD
  exact hret (sA (sA u4 6 a1.toNatClampNeg a2) 8 a1.toNatClampNeg (((sA u4 6 a1.toNatClampNeg a2).1 8 a1.toNatClampNeg) + (1 : Int32))) _ _ _ _ _ _ hw hP hD hS (Nat.le_of_ble_eq_true rfl) (Nat.le_of_ble_eq_true rfl) d_U_goTo_24

def wp_U_workEnd (xU : St) (a1 : Int32) (post : Int32 → Unit → Prop) : Prop := vp_in a1 24 ∧ ((¬ (xU.1 5 a1.toNatClampNeg) = (3 : Int32) → (vp_in a1 24 ∧ ((¬ (xU.1 5 a1.toNatClampNeg) = (4 : Int32) → (post (-1 : Int32) ())) ∧ ((xU.1 5 a1.toNatClampNeg) = (4 : Int32) → (vp_in a1 24 ∧ (vp_in a1 24 ∧ (post ((xU.1 7 a1.toNatClampNeg) + (xU.1 2 a1.toNatClampNeg)) ()))))))) ∧ ((xU.1 5 a1.toNatClampNeg) = (3 : Int32) → (vp_in a1 24 ∧ (vp_in a1 24 ∧ (post ((xU.1 7 a1.toNatClampNeg) + (xU.1 1 a1.toNatClampNeg)) ())))))
set_option maxHeartbeats 4000000 in
set_option maxRecDepth 100000 in
theorem c_U_workEnd (l : Launch) (dC : Nat → ClassId) (dI : Nat → Nat → Nat) (cI cZ cL : ClassId) (qU : Nat → Nat) (sz : Nat) (xU : St) (a1 : Int32) (post : Int32 → Unit → Prop) (hw : wp_U_workEnd xU a1 post) : Met l y_U_workEnd w_U_workEnd ({ frames := 0, cells := 0, slots := 0, locals := 0 } : Room) (va_Pc [.ref (qU 0), .int a1] (xP (dC, dI) vwCl [(cI, .int), (cZ, .boolean), (cL, .long)] (wd_U qU cI cZ cL xU) sz)) (va_Qi post (xB (dC, dI) vwCl [(cI, .int), (cZ, .boolean), (cL, .long)] (va_A (wd_U qU cI cZ cL xU) sz) (fun _ => (wd_U qU cI cZ cL xU))) (va_A (wd_U qU cI cZ cL xU) sz)) 0 0 (va_A (wd_U qU cI cZ cL xU) sz) := by
  refine x_ofI (cc := b_U_workEnd) (maxL := 2) (by decide) rfl (Nat.le_of_ble_eq_true rfl) (fun p e s m below meth c A Q hx hb hml hts hown hK hA hP hD hS hret ls hl => ?_)
  have hl : lv_has ls 2 [(0, .ref (qU 0)), (1, .int a1)] := hl
  unfold wp_U_workEnd at hw
  refine lv_aload_n hx hb d_U_workEnd_0 rfl (lv_at hl 0 rfl) ?_
  refine va_get (D := (dC, dI)) (ci := 1) (v := .ref (qU 6)) (C := "ReleaseRows$UnitRows") (T := T_U) (N := 11) hx hb hts in_U hown hK hP 0 rfl rfl 5 (by decide) (hts _ k_60) (fun _ h9 => h9) rfl d_U_workEnd_1 ?_
  refine lv_iload_n hx hb d_U_workEnd_4 rfl (lv_at hl 1 rfl) ?_
  obtain ⟨h5, hw⟩ := hw
  refine va_iald hx hb hK hP 6 0 rfl rfl h5 d_U_workEnd_5 ?_
  refine lv_iconst (v := (3 : Int32)) hx hb d_U_workEnd_6 (by decide) ?_
  refine lv_icmp_ne (tgt := 24) hx hb d_U_workEnd_7 (by decide) (fun c7 => ?_) (fun c7 => ?_)
  · have hw := hw.1 c7
    refine lv_aload_n hx hb d_U_workEnd_24 rfl (lv_at hl 0 rfl) ?_
    refine va_get (D := (dC, dI)) (ci := 1) (v := .ref (qU 6)) (C := "ReleaseRows$UnitRows") (T := T_U) (N := 11) hx hb hts in_U hown hK hP 0 rfl rfl 5 (by decide) (hts _ k_60) (fun _ h9 => h9) rfl d_U_workEnd_25 ?_
    refine lv_iload_n hx hb d_U_workEnd_28 rfl (lv_at hl 1 rfl) ?_
    obtain ⟨h29, hw⟩ := hw
    refine va_iald hx hb hK hP 6 0 rfl rfl h29 d_U_workEnd_29 ?_
    refine lv_iconst (v := (4 : Int32)) hx hb d_U_workEnd_30 (by decide) ?_
    refine lv_icmp_ne (tgt := 50) hx hb d_U_workEnd_31 (by decide) (fun c31 => ?_) (fun c31 => ?_)
    · have hw := hw.1 c31
      refine lv_iconst (v := (-1 : Int32)) hx hb d_U_workEnd_50 (by decide) ?_
      exact hret (-1 : Int32) () _ _ _ _ _ _ rfl hw hP hD hS (Nat.le_of_ble_eq_true rfl) (Nat.le_of_ble_eq_true rfl) d_U_workEnd_51
    · have hw := hw.2 c31
      refine lv_aload_n hx hb d_U_workEnd_34 rfl (lv_at hl 0 rfl) ?_
      refine va_get (D := (dC, dI)) (ci := 1) (v := .ref (qU 8)) (C := "ReleaseRows$UnitRows") (T := T_U) (N := 11) hx hb hts in_U hown hK hP 0 rfl rfl 7 (by decide) (hts _ k_64) (fun _ h9 => h9) rfl d_U_workEnd_35 ?_
      refine lv_iload_n hx hb d_U_workEnd_38 rfl (lv_at hl 1 rfl) ?_
      obtain ⟨h39, hw⟩ := hw
      refine va_iald hx hb hK hP 8 0 rfl rfl h39 d_U_workEnd_39 ?_
      refine lv_aload_n hx hb d_U_workEnd_40 rfl (lv_at hl 0 rfl) ?_
      refine va_get (D := (dC, dI)) (ci := 1) (v := .ref (qU 3)) (C := "ReleaseRows$UnitRows") (T := T_U) (N := 11) hx hb hts in_U hown hK hP 0 rfl rfl 2 (by decide) (hts _ k_56) (fun _ h9 => h9) rfl d_U_workEnd_41 ?_
      refine lv_iload_n hx hb d_U_workEnd_44 rfl (lv_at hl 1 rfl) ?_
      obtain ⟨h45, hw⟩ := hw
      refine va_iald hx hb hK hP 3 0 rfl rfl h45 d_U_workEnd_45 ?_
      refine lv_iadd hx hb d_U_workEnd_46 ?_
      refine lv_goto (tgt := 51) hx hb d_U_workEnd_47 (by decide) ?_
      exact hret ((xU.1 7 a1.toNatClampNeg) + (xU.1 2 a1.toNatClampNeg)) () _ _ _ _ _ _ rfl hw hP hD hS (Nat.le_of_ble_eq_true rfl) (Nat.le_of_ble_eq_true rfl) d_U_workEnd_51
  · have hw := hw.2 c7
    refine lv_aload_n hx hb d_U_workEnd_10 rfl (lv_at hl 0 rfl) ?_
    refine va_get (D := (dC, dI)) (ci := 1) (v := .ref (qU 8)) (C := "ReleaseRows$UnitRows") (T := T_U) (N := 11) hx hb hts in_U hown hK hP 0 rfl rfl 7 (by decide) (hts _ k_64) (fun _ h9 => h9) rfl d_U_workEnd_11 ?_
    refine lv_iload_n hx hb d_U_workEnd_14 rfl (lv_at hl 1 rfl) ?_
    obtain ⟨h15, hw⟩ := hw
    refine va_iald hx hb hK hP 8 0 rfl rfl h15 d_U_workEnd_15 ?_
    refine lv_aload_n hx hb d_U_workEnd_16 rfl (lv_at hl 0 rfl) ?_
    refine va_get (D := (dC, dI)) (ci := 1) (v := .ref (qU 2)) (C := "ReleaseRows$UnitRows") (T := T_U) (N := 11) hx hb hts in_U hown hK hP 0 rfl rfl 1 (by decide) (hts _ k_55) (fun _ h9 => h9) rfl d_U_workEnd_17 ?_
    refine lv_iload_n hx hb d_U_workEnd_20 rfl (lv_at hl 1 rfl) ?_
    obtain ⟨h21, hw⟩ := hw
    refine va_iald hx hb hK hP 2 0 rfl rfl h21 d_U_workEnd_21 ?_
    refine lv_iadd hx hb d_U_workEnd_22 ?_
    exact hret ((xU.1 7 a1.toNatClampNeg) + (xU.1 1 a1.toNatClampNeg)) () _ _ _ _ _ _ rfl hw hP hD hS (Nat.le_of_ble_eq_true rfl) (Nat.le_of_ble_eq_true rfl) d_U_workEnd_23

def wp_U_checksToDo (xU : St) (a1 : Int32) (post : Int32 → Unit → Prop) : Prop := vp_in a1 24 ∧ (vp_in a1 24 ∧ (post ((xU.1 3 a1.toNatClampNeg) &&& ((xU.1 4 a1.toNatClampNeg) ^^^ (-1 : Int32))) ()))
set_option maxHeartbeats 4000000 in
set_option maxRecDepth 100000 in
theorem c_U_checksToDo (l : Launch) (dC : Nat → ClassId) (dI : Nat → Nat → Nat) (cI cZ cL : ClassId) (qU : Nat → Nat) (sz : Nat) (xU : St) (a1 : Int32) (post : Int32 → Unit → Prop) (hw : wp_U_checksToDo xU a1 post) : Met l y_U_checksToDo w_U_checksToDo ({ frames := 0, cells := 0, slots := 0, locals := 0 } : Room) (va_Pc [.ref (qU 0), .int a1] (xP (dC, dI) vwCl [(cI, .int), (cZ, .boolean), (cL, .long)] (wd_U qU cI cZ cL xU) sz)) (va_Qi post (xB (dC, dI) vwCl [(cI, .int), (cZ, .boolean), (cL, .long)] (va_A (wd_U qU cI cZ cL xU) sz) (fun _ => (wd_U qU cI cZ cL xU))) (va_A (wd_U qU cI cZ cL xU) sz)) 0 0 (va_A (wd_U qU cI cZ cL xU) sz) := by
  refine x_ofI (cc := b_U_checksToDo) (maxL := 2) (by decide) rfl (Nat.le_of_ble_eq_true rfl) (fun p e s m below meth c A Q hx hb hml hts hown hK hA hP hD hS hret ls hl => ?_)
  have hl : lv_has ls 2 [(0, .ref (qU 0)), (1, .int a1)] := hl
  unfold wp_U_checksToDo at hw
  refine lv_aload_n hx hb d_U_checksToDo_0 rfl (lv_at hl 0 rfl) ?_
  refine va_get (D := (dC, dI)) (ci := 1) (v := .ref (qU 4)) (C := "ReleaseRows$UnitRows") (T := T_U) (N := 11) hx hb hts in_U hown hK hP 0 rfl rfl 3 (by decide) (hts _ k_57) (fun _ h9 => h9) rfl d_U_checksToDo_1 ?_
  refine lv_iload_n hx hb d_U_checksToDo_4 rfl (lv_at hl 1 rfl) ?_
  obtain ⟨h5, hw⟩ := hw
  refine va_iald hx hb hK hP 4 0 rfl rfl h5 d_U_checksToDo_5 ?_
  refine lv_aload_n hx hb d_U_checksToDo_6 rfl (lv_at hl 0 rfl) ?_
  refine va_get (D := (dC, dI)) (ci := 1) (v := .ref (qU 5)) (C := "ReleaseRows$UnitRows") (T := T_U) (N := 11) hx hb hts in_U hown hK hP 0 rfl rfl 4 (by decide) (hts _ k_58) (fun _ h9 => h9) rfl d_U_checksToDo_7 ?_
  refine lv_iload_n hx hb d_U_checksToDo_10 rfl (lv_at hl 1 rfl) ?_
  obtain ⟨h11, hw⟩ := hw
  refine va_iald hx hb hK hP 5 0 rfl rfl h11 d_U_checksToDo_11 ?_
  refine lv_iconst (v := (-1 : Int32)) hx hb d_U_checksToDo_12 (by decide) ?_
  refine lv_ixor hx hb d_U_checksToDo_13 ?_
  refine lv_iand hx hb d_U_checksToDo_14 ?_
  exact hret ((xU.1 3 a1.toNatClampNeg) &&& ((xU.1 4 a1.toNatClampNeg) ^^^ (-1 : Int32))) () _ _ _ _ _ _ rfl hw hP hD hS (Nat.le_of_ble_eq_true rfl) (Nat.le_of_ble_eq_true rfl) d_U_checksToDo_15

def wj_U_nearestReady_43 (xU : St) (post : Int32 → Unit → Prop) (rec4 : Int32 → Int32 → Prop) (v1_ : Int32) (v2_ : Int32) : Prop := ∀ v2_43 : Int32, v2_43 = v2_ + 1 → (rec4 v1_ v2_43)
def wj_U_nearestReady_41 (xU : St) (post : Int32 → Unit → Prop) (rec4 : Int32 → Int32 → Prop) (v2_ : Int32) : Prop := wj_U_nearestReady_43 xU post rec4 v2_ v2_
def wl_U_nearestReady_4 (xU : St) (post : Int32 → Unit → Prop) : Nat → Int32 → Int32 → Prop
  | 0 => fun _ _ => False
  | n9 + 1 => fun v1_ v2_ => ((xU.2 10) ≤ v2_ → (post v1_ ())) ∧ (¬ (xU.2 10) ≤ v2_ → (vp_in v2_ 24 ∧ ((¬ (xU.1 5 v2_.toNatClampNeg) = 0 → (wj_U_nearestReady_43 xU post (wl_U_nearestReady_4 xU post n9) v1_ v2_)) ∧ ((xU.1 5 v2_.toNatClampNeg) = 0 → ((v1_ = (-1 : Int32) → (wj_U_nearestReady_41 xU post (wl_U_nearestReady_4 xU post n9) v2_)) ∧ (¬ v1_ = (-1 : Int32) → (vp_in v2_ 24 ∧ (vp_in v1_ 24 ∧ (((xU.1 0 v1_.toNatClampNeg) ≤ (xU.1 0 v2_.toNatClampNeg) → (wj_U_nearestReady_43 xU post (wl_U_nearestReady_4 xU post n9) v1_ v2_)) ∧ (¬ (xU.1 0 v1_.toNatClampNeg) ≤ (xU.1 0 v2_.toNatClampNeg) → (wj_U_nearestReady_41 xU post (wl_U_nearestReady_4 xU post n9) v2_)))))))))))
def wp_U_nearestReady (xU : St) (post : Int32 → Unit → Prop) : Prop := ∃ k9 : Nat, wl_U_nearestReady_4 xU post k9 (-1 : Int32) (0 : Int32)
set_option maxHeartbeats 4000000 in
set_option maxRecDepth 100000 in
theorem c_U_nearestReady (l : Launch) (dC : Nat → ClassId) (dI : Nat → Nat → Nat) (cI cZ cL : ClassId) (qU : Nat → Nat) (sz : Nat) (xU : St) (post : Int32 → Unit → Prop) (hw : wp_U_nearestReady xU post) : Met l y_U_nearestReady w_U_nearestReady ({ frames := 0, cells := 0, slots := 0, locals := 0 } : Room) (va_Pc [.ref (qU 0)] (xP (dC, dI) vwCl [(cI, .int), (cZ, .boolean), (cL, .long)] (wd_U qU cI cZ cL xU) sz)) (va_Qi post (xB (dC, dI) vwCl [(cI, .int), (cZ, .boolean), (cL, .long)] (va_A (wd_U qU cI cZ cL xU) sz) (fun _ => (wd_U qU cI cZ cL xU))) (va_A (wd_U qU cI cZ cL xU) sz)) 0 0 (va_A (wd_U qU cI cZ cL xU) sz) := by
  refine x_ofI (cc := b_U_nearestReady) (maxL := 3) (by decide) rfl (Nat.le_of_ble_eq_true rfl) (fun p e s m below meth c A Q hx hb hml hts hown hK hA hP hD hS hret ls hl => ?_)
  have hl : lv_has ls 3 [(0, .ref (qU 0))] := hl
  have lp4 : ∀ (n4 : Nat) (v1_ : Int32) (v2_ : Int32) (H : Heap) (locs : List Loc) (ls : Array Slot), wl_U_nearestReady_4 xU post n4 v1_ v2_ → va_P (dC, dI) vwCl (wd_U qU cI cZ cL xU) H → va_D A (wd_U qU cI cZ cL xU) → va_S A s.heap H locs → lv_has ls 3 [(0, .ref (qU 0)), (1, .int v1_), (2, .int v2_)] → W p l e (headSpec w_U_nearestReady ({ frames := 0, cells := 0, slots := 0, locals := 0 } : Room)).room s m ([.ref (qU 0)] : List Value).toArray below meth c H locs 0 0 Q (F0 m 4 ls []) := by
    intro n4
    induction n4 with
    | zero => intro v1_ v2_ H locs ls hw; exact hw.elim
    | succ n4 ih4 =>
      have jn43 : ∀ (v1_ : Int32) (v2_ : Int32) (H : Heap) (locs : List Loc) (ls : Array Slot), wj_U_nearestReady_43 xU post (wl_U_nearestReady_4 xU post n4) v1_ v2_ → va_P (dC, dI) vwCl (wd_U qU cI cZ cL xU) H → va_D A (wd_U qU cI cZ cL xU) → va_S A s.heap H locs → lv_has ls 3 [(0, .ref (qU 0)), (1, .int v1_), (2, .int v2_)] → W p l e (headSpec w_U_nearestReady ({ frames := 0, cells := 0, slots := 0, locals := 0 } : Room)).room s m ([.ref (qU 0)] : List Value).toArray below meth c H locs 0 0 Q (F0 m 43 ls []) := by
        intro v1_ v2_ H locs ls hw hP hD hS hl
        unfold wj_U_nearestReady_43 at hw
        obtain ⟨v2_43, ev2_43⟩ : ∃ y : Int32, y = v2_ + 1 := ⟨_, rfl⟩
        have hw := hw v2_43 ev2_43
        refine lv_iinc (v := v2_43) (lv' := [(2, .int v2_43), (0, .ref (qU 0)), (1, .int v1_)]) hx hb d_U_nearestReady_43 hl (k := 2) rfl (by rw [ev2_43]; rfl) (by decide) rfl (fun ls hl => ?_)
        refine lv_goto (tgt := 4) hx hb d_U_nearestReady_46 (by decide) ?_
        exact ih4 v1_ v2_43 _ _ _ hw hP hD hS (lv_sub hl [1, 2, 0] rfl)
      have jn41 : ∀ (v2_ : Int32) (H : Heap) (locs : List Loc) (ls : Array Slot), wj_U_nearestReady_41 xU post (wl_U_nearestReady_4 xU post n4) v2_ → va_P (dC, dI) vwCl (wd_U qU cI cZ cL xU) H → va_D A (wd_U qU cI cZ cL xU) → va_S A s.heap H locs → lv_has ls 3 [(0, .ref (qU 0)), (2, .int v2_)] → W p l e (headSpec w_U_nearestReady ({ frames := 0, cells := 0, slots := 0, locals := 0 } : Room)).room s m ([.ref (qU 0)] : List Value).toArray below meth c H locs 0 0 Q (F0 m 41 ls []) := by
        intro v2_ H locs ls hw hP hD hS hl
        unfold wj_U_nearestReady_41 at hw
        refine lv_iload_n hx hb d_U_nearestReady_41 rfl (lv_at hl 1 rfl) ?_
        refine lv_istore_n (lv' := [(1, .int v2_), (0, .ref (qU 0)), (2, .int v2_)]) hx hb d_U_nearestReady_42 rfl hl (by decide) rfl (fun ls hl => ?_)
        exact jn43 v2_ v2_ _ _ _ hw hP hD hS (lv_sub hl [1, 0, 2] rfl)
      intro v1_ v2_ H locs ls hw hP hD hS hl
      unfold wl_U_nearestReady_4 at hw
      refine lv_iload_n hx hb d_U_nearestReady_4 rfl (lv_at hl 2 rfl) ?_
      refine lv_aload_n hx hb d_U_nearestReady_5 rfl (lv_at hl 0 rfl) ?_
      refine va_get (D := (dC, dI)) (ci := 1) (v := .int (xU.2 10)) (C := "ReleaseRows$UnitRows") (T := T_U) (N := 11) hx hb hts in_U hown hK hP 0 rfl rfl 10 (by decide) (hts _ k_70) (fun _ h9 => h9) rfl d_U_nearestReady_6 ?_
      refine lv_icmp_ge (tgt := 49) hx hb d_U_nearestReady_9 (by decide) (fun c9 => ?_) (fun c9 => ?_)
      · have hw := hw.1 c9
        refine lv_iload_n hx hb d_U_nearestReady_49 rfl (lv_at hl 1 rfl) ?_
        exact hret v1_ () _ _ _ _ _ _ rfl hw hP hD hS (Nat.le_of_ble_eq_true rfl) (Nat.le_of_ble_eq_true rfl) d_U_nearestReady_50
      · have hw := hw.2 c9
        refine lv_aload_n hx hb d_U_nearestReady_12 rfl (lv_at hl 0 rfl) ?_
        refine va_get (D := (dC, dI)) (ci := 1) (v := .ref (qU 6)) (C := "ReleaseRows$UnitRows") (T := T_U) (N := 11) hx hb hts in_U hown hK hP 0 rfl rfl 5 (by decide) (hts _ k_60) (fun _ h9 => h9) rfl d_U_nearestReady_13 ?_
        refine lv_iload_n hx hb d_U_nearestReady_16 rfl (lv_at hl 2 rfl) ?_
        obtain ⟨h17, hw⟩ := hw
        refine va_iald hx hb hK hP 6 0 rfl rfl h17 d_U_nearestReady_17 ?_
        refine lv_if_ne (tgt := 43) hx hb d_U_nearestReady_18 (by decide) (fun c18 => ?_) (fun c18 => ?_)
        · have hw := hw.1 c18
          exact jn43 v1_ v2_ _ _ _ hw hP hD hS hl
        · have hw := hw.2 c18
          refine lv_iload_n hx hb d_U_nearestReady_21 rfl (lv_at hl 1 rfl) ?_
          refine lv_iconst (v := (-1 : Int32)) hx hb d_U_nearestReady_22 (by decide) ?_
          refine lv_icmp_eq (tgt := 41) hx hb d_U_nearestReady_23 (by decide) (fun c23 => ?_) (fun c23 => ?_)
          · have hw := hw.1 c23
            exact jn41 v2_ _ _ _ hw hP hD hS (lv_sub hl [0, 2] rfl)
          · have hw := hw.2 c23
            refine lv_aload_n hx hb d_U_nearestReady_26 rfl (lv_at hl 0 rfl) ?_
            refine va_get (D := (dC, dI)) (ci := 1) (v := .ref (qU 1)) (C := "ReleaseRows$UnitRows") (T := T_U) (N := 11) hx hb hts in_U hown hK hP 0 rfl rfl 0 (by decide) (hts _ k_53) (fun _ h9 => h9) rfl d_U_nearestReady_27 ?_
            refine lv_iload_n hx hb d_U_nearestReady_30 rfl (lv_at hl 2 rfl) ?_
            obtain ⟨h31, hw⟩ := hw
            refine va_iald hx hb hK hP 1 0 rfl rfl h31 d_U_nearestReady_31 ?_
            refine lv_aload_n hx hb d_U_nearestReady_32 rfl (lv_at hl 0 rfl) ?_
            refine va_get (D := (dC, dI)) (ci := 1) (v := .ref (qU 1)) (C := "ReleaseRows$UnitRows") (T := T_U) (N := 11) hx hb hts in_U hown hK hP 0 rfl rfl 0 (by decide) (hts _ k_53) (fun _ h9 => h9) rfl d_U_nearestReady_33 ?_
            refine lv_iload_n hx hb d_U_nearestReady_36 rfl (lv_at hl 1 rfl) ?_
            obtain ⟨h37, hw⟩ := hw
            refine va_iald hx hb hK hP 1 0 rfl rfl h37 d_U_nearestReady_37 ?_
            refine lv_icmp_ge (tgt := 43) hx hb d_U_nearestReady_38 (by decide) (fun c38 => ?_) (fun c38 => ?_)
            · have hw := hw.1 c38
              exact jn43 v1_ v2_ _ _ _ hw hP hD hS hl
            · have hw := hw.2 c38
              exact jn41 v2_ _ _ _ hw hP hD hS (lv_sub hl [0, 2] rfl)
  unfold wp_U_nearestReady at hw
  refine lv_iconst (v := (-1 : Int32)) hx hb d_U_nearestReady_0 (by decide) ?_
  refine lv_istore_n (lv' := [(1, .int (-1 : Int32)), (0, .ref (qU 0))]) hx hb d_U_nearestReady_1 rfl hl (by decide) rfl (fun ls hl => ?_)
  refine lv_iconst (v := (0 : Int32)) hx hb d_U_nearestReady_2 (by decide) ?_
  refine lv_istore_n (lv' := [(2, .int (0 : Int32)), (1, .int (-1 : Int32)), (0, .ref (qU 0))]) hx hb d_U_nearestReady_3 rfl hl (by decide) rfl (fun ls hl => ?_)
  obtain ⟨n9, hw⟩ := hw
  exact lp4 n9 (-1 : Int32) (0 : Int32) _ _ _ hw hP hD hS (lv_sub hl [2, 1, 0] rfl)

def wj_U_farthestAt_44 (xU : St) (a1 : Int32) (post : Int32 → Unit → Prop) (rec4 : Int32 → Int32 → Prop) (v2_ : Int32) (v3_ : Int32) : Prop := ∀ v3_44 : Int32, v3_44 = v3_ + 1 → (rec4 v2_ v3_44)
def wj_U_farthestAt_42 (xU : St) (a1 : Int32) (post : Int32 → Unit → Prop) (rec4 : Int32 → Int32 → Prop) (v3_ : Int32) : Prop := wj_U_farthestAt_44 xU a1 post rec4 v3_ v3_
def wl_U_farthestAt_4 (xU : St) (a1 : Int32) (post : Int32 → Unit → Prop) : Nat → Int32 → Int32 → Prop
  | 0 => fun _ _ => False
  | n9 + 1 => fun v2_ v3_ => ((xU.2 10) ≤ v3_ → (post v2_ ())) ∧ (¬ (xU.2 10) ≤ v3_ → (vp_in v3_ 24 ∧ ((¬ (xU.1 6 v3_.toNatClampNeg) = a1 → (wj_U_farthestAt_44 xU a1 post (wl_U_farthestAt_4 xU a1 post n9) v2_ v3_)) ∧ ((xU.1 6 v3_.toNatClampNeg) = a1 → ((v2_ = (-1 : Int32) → (wj_U_farthestAt_42 xU a1 post (wl_U_farthestAt_4 xU a1 post n9) v3_)) ∧ (¬ v2_ = (-1 : Int32) → (vp_in v3_ 24 ∧ (vp_in v2_ 24 ∧ (((xU.1 0 v3_.toNatClampNeg) ≤ (xU.1 0 v2_.toNatClampNeg) → (wj_U_farthestAt_44 xU a1 post (wl_U_farthestAt_4 xU a1 post n9) v2_ v3_)) ∧ (¬ (xU.1 0 v3_.toNatClampNeg) ≤ (xU.1 0 v2_.toNatClampNeg) → (wj_U_farthestAt_42 xU a1 post (wl_U_farthestAt_4 xU a1 post n9) v3_)))))))))))
def wp_U_farthestAt (xU : St) (a1 : Int32) (post : Int32 → Unit → Prop) : Prop := ∃ k9 : Nat, wl_U_farthestAt_4 xU a1 post k9 (-1 : Int32) (0 : Int32)
set_option maxHeartbeats 4000000 in
set_option maxRecDepth 100000 in
theorem c_U_farthestAt (l : Launch) (dC : Nat → ClassId) (dI : Nat → Nat → Nat) (cI cZ cL : ClassId) (qU : Nat → Nat) (sz : Nat) (xU : St) (a1 : Int32) (post : Int32 → Unit → Prop) (hw : wp_U_farthestAt xU a1 post) : Met l y_U_farthestAt w_U_farthestAt ({ frames := 0, cells := 0, slots := 0, locals := 0 } : Room) (va_Pc [.ref (qU 0), .int a1] (xP (dC, dI) vwCl [(cI, .int), (cZ, .boolean), (cL, .long)] (wd_U qU cI cZ cL xU) sz)) (va_Qi post (xB (dC, dI) vwCl [(cI, .int), (cZ, .boolean), (cL, .long)] (va_A (wd_U qU cI cZ cL xU) sz) (fun _ => (wd_U qU cI cZ cL xU))) (va_A (wd_U qU cI cZ cL xU) sz)) 0 0 (va_A (wd_U qU cI cZ cL xU) sz) := by
  refine x_ofI (cc := b_U_farthestAt) (maxL := 4) (by decide) rfl (Nat.le_of_ble_eq_true rfl) (fun p e s m below meth c A Q hx hb hml hts hown hK hA hP hD hS hret ls hl => ?_)
  have hl : lv_has ls 4 [(0, .ref (qU 0)), (1, .int a1)] := hl
  have lp4 : ∀ (n4 : Nat) (v2_ : Int32) (v3_ : Int32) (H : Heap) (locs : List Loc) (ls : Array Slot), wl_U_farthestAt_4 xU a1 post n4 v2_ v3_ → va_P (dC, dI) vwCl (wd_U qU cI cZ cL xU) H → va_D A (wd_U qU cI cZ cL xU) → va_S A s.heap H locs → lv_has ls 4 [(0, .ref (qU 0)), (1, .int a1), (2, .int v2_), (3, .int v3_)] → W p l e (headSpec w_U_farthestAt ({ frames := 0, cells := 0, slots := 0, locals := 0 } : Room)).room s m ([.ref (qU 0), .int a1] : List Value).toArray below meth c H locs 0 0 Q (F0 m 4 ls []) := by
    intro n4
    induction n4 with
    | zero => intro v2_ v3_ H locs ls hw; exact hw.elim
    | succ n4 ih4 =>
      have jn44 : ∀ (v2_ : Int32) (v3_ : Int32) (H : Heap) (locs : List Loc) (ls : Array Slot), wj_U_farthestAt_44 xU a1 post (wl_U_farthestAt_4 xU a1 post n4) v2_ v3_ → va_P (dC, dI) vwCl (wd_U qU cI cZ cL xU) H → va_D A (wd_U qU cI cZ cL xU) → va_S A s.heap H locs → lv_has ls 4 [(0, .ref (qU 0)), (1, .int a1), (2, .int v2_), (3, .int v3_)] → W p l e (headSpec w_U_farthestAt ({ frames := 0, cells := 0, slots := 0, locals := 0 } : Room)).room s m ([.ref (qU 0), .int a1] : List Value).toArray below meth c H locs 0 0 Q (F0 m 44 ls []) := by
        intro v2_ v3_ H locs ls hw hP hD hS hl
        unfold wj_U_farthestAt_44 at hw
        obtain ⟨v3_44, ev3_44⟩ : ∃ y : Int32, y = v3_ + 1 := ⟨_, rfl⟩
        have hw := hw v3_44 ev3_44
        refine lv_iinc (v := v3_44) (lv' := [(3, .int v3_44), (0, .ref (qU 0)), (1, .int a1), (2, .int v2_)]) hx hb d_U_farthestAt_44 hl (k := 3) rfl (by rw [ev3_44]; rfl) (by decide) rfl (fun ls hl => ?_)
        refine lv_goto (tgt := 4) hx hb d_U_farthestAt_47 (by decide) ?_
        exact ih4 v2_ v3_44 _ _ _ hw hP hD hS (lv_sub hl [1, 2, 3, 0] rfl)
      have jn42 : ∀ (v3_ : Int32) (H : Heap) (locs : List Loc) (ls : Array Slot), wj_U_farthestAt_42 xU a1 post (wl_U_farthestAt_4 xU a1 post n4) v3_ → va_P (dC, dI) vwCl (wd_U qU cI cZ cL xU) H → va_D A (wd_U qU cI cZ cL xU) → va_S A s.heap H locs → lv_has ls 4 [(0, .ref (qU 0)), (1, .int a1), (3, .int v3_)] → W p l e (headSpec w_U_farthestAt ({ frames := 0, cells := 0, slots := 0, locals := 0 } : Room)).room s m ([.ref (qU 0), .int a1] : List Value).toArray below meth c H locs 0 0 Q (F0 m 42 ls []) := by
        intro v3_ H locs ls hw hP hD hS hl
        unfold wj_U_farthestAt_42 at hw
        refine lv_iload_n hx hb d_U_farthestAt_42 rfl (lv_at hl 2 rfl) ?_
        refine lv_istore_n (lv' := [(2, .int v3_), (0, .ref (qU 0)), (1, .int a1), (3, .int v3_)]) hx hb d_U_farthestAt_43 rfl hl (by decide) rfl (fun ls hl => ?_)
        exact jn44 v3_ v3_ _ _ _ hw hP hD hS (lv_sub hl [1, 2, 0, 3] rfl)
      intro v2_ v3_ H locs ls hw hP hD hS hl
      unfold wl_U_farthestAt_4 at hw
      refine lv_iload_n hx hb d_U_farthestAt_4 rfl (lv_at hl 3 rfl) ?_
      refine lv_aload_n hx hb d_U_farthestAt_5 rfl (lv_at hl 0 rfl) ?_
      refine va_get (D := (dC, dI)) (ci := 1) (v := .int (xU.2 10)) (C := "ReleaseRows$UnitRows") (T := T_U) (N := 11) hx hb hts in_U hown hK hP 0 rfl rfl 10 (by decide) (hts _ k_70) (fun _ h9 => h9) rfl d_U_farthestAt_6 ?_
      refine lv_icmp_ge (tgt := 50) hx hb d_U_farthestAt_9 (by decide) (fun c9 => ?_) (fun c9 => ?_)
      · have hw := hw.1 c9
        refine lv_iload_n hx hb d_U_farthestAt_50 rfl (lv_at hl 2 rfl) ?_
        exact hret v2_ () _ _ _ _ _ _ rfl hw hP hD hS (Nat.le_of_ble_eq_true rfl) (Nat.le_of_ble_eq_true rfl) d_U_farthestAt_51
      · have hw := hw.2 c9
        refine lv_aload_n hx hb d_U_farthestAt_12 rfl (lv_at hl 0 rfl) ?_
        refine va_get (D := (dC, dI)) (ci := 1) (v := .ref (qU 7)) (C := "ReleaseRows$UnitRows") (T := T_U) (N := 11) hx hb hts in_U hown hK hP 0 rfl rfl 6 (by decide) (hts _ k_62) (fun _ h9 => h9) rfl d_U_farthestAt_13 ?_
        refine lv_iload_n hx hb d_U_farthestAt_16 rfl (lv_at hl 3 rfl) ?_
        obtain ⟨h17, hw⟩ := hw
        refine va_iald hx hb hK hP 7 0 rfl rfl h17 d_U_farthestAt_17 ?_
        refine lv_iload_n hx hb d_U_farthestAt_18 rfl (lv_at hl 1 rfl) ?_
        refine lv_icmp_ne (tgt := 44) hx hb d_U_farthestAt_19 (by decide) (fun c19 => ?_) (fun c19 => ?_)
        · have hw := hw.1 c19
          exact jn44 v2_ v3_ _ _ _ hw hP hD hS hl
        · have hw := hw.2 c19
          refine lv_iload_n hx hb d_U_farthestAt_22 rfl (lv_at hl 2 rfl) ?_
          refine lv_iconst (v := (-1 : Int32)) hx hb d_U_farthestAt_23 (by decide) ?_
          refine lv_icmp_eq (tgt := 42) hx hb d_U_farthestAt_24 (by decide) (fun c24 => ?_) (fun c24 => ?_)
          · have hw := hw.1 c24
            exact jn42 v3_ _ _ _ hw hP hD hS (lv_sub hl [0, 1, 3] rfl)
          · have hw := hw.2 c24
            refine lv_aload_n hx hb d_U_farthestAt_27 rfl (lv_at hl 0 rfl) ?_
            refine va_get (D := (dC, dI)) (ci := 1) (v := .ref (qU 1)) (C := "ReleaseRows$UnitRows") (T := T_U) (N := 11) hx hb hts in_U hown hK hP 0 rfl rfl 0 (by decide) (hts _ k_53) (fun _ h9 => h9) rfl d_U_farthestAt_28 ?_
            refine lv_iload_n hx hb d_U_farthestAt_31 rfl (lv_at hl 3 rfl) ?_
            obtain ⟨h32, hw⟩ := hw
            refine va_iald hx hb hK hP 1 0 rfl rfl h32 d_U_farthestAt_32 ?_
            refine lv_aload_n hx hb d_U_farthestAt_33 rfl (lv_at hl 0 rfl) ?_
            refine va_get (D := (dC, dI)) (ci := 1) (v := .ref (qU 1)) (C := "ReleaseRows$UnitRows") (T := T_U) (N := 11) hx hb hts in_U hown hK hP 0 rfl rfl 0 (by decide) (hts _ k_53) (fun _ h9 => h9) rfl d_U_farthestAt_34 ?_
            refine lv_iload_n hx hb d_U_farthestAt_37 rfl (lv_at hl 2 rfl) ?_
            obtain ⟨h38, hw⟩ := hw
            refine va_iald hx hb hK hP 1 0 rfl rfl h38 d_U_farthestAt_38 ?_
            refine lv_icmp_le (tgt := 44) hx hb d_U_farthestAt_39 (by decide) (fun c39 => ?_) (fun c39 => ?_)
            · have hw := hw.1 c39
              exact jn44 v2_ v3_ _ _ _ hw hP hD hS hl
            · have hw := hw.2 c39
              exact jn42 v3_ _ _ _ hw hP hD hS (lv_sub hl [0, 1, 3] rfl)
  unfold wp_U_farthestAt at hw
  refine lv_iconst (v := (-1 : Int32)) hx hb d_U_farthestAt_0 (by decide) ?_
  refine lv_istore_n (lv' := [(2, .int (-1 : Int32)), (0, .ref (qU 0)), (1, .int a1)]) hx hb d_U_farthestAt_1 rfl hl (by decide) rfl (fun ls hl => ?_)
  refine lv_iconst (v := (0 : Int32)) hx hb d_U_farthestAt_2 (by decide) ?_
  refine lv_istore_n (lv' := [(3, .int (0 : Int32)), (2, .int (-1 : Int32)), (0, .ref (qU 0)), (1, .int a1)]) hx hb d_U_farthestAt_3 rfl hl (by decide) rfl (fun ls hl => ?_)
  obtain ⟨n9, hw⟩ := hw
  exact lp4 n9 (-1 : Int32) (0 : Int32) _ _ _ hw hP hD hS (lv_sub hl [2, 3, 1, 0] rfl)

def wj_U_countAt_25 (xU : St) (a1 : Int32) (post : Int32 → Unit → Prop) (rec4 : Int32 → Int32 → Prop) (v2_ : Int32) (v3_ : Int32) : Prop := ∀ v3_25 : Int32, v3_25 = v3_ + 1 → (rec4 v2_ v3_25)
def wl_U_countAt_4 (xU : St) (a1 : Int32) (post : Int32 → Unit → Prop) : Nat → Int32 → Int32 → Prop
  | 0 => fun _ _ => False
  | n9 + 1 => fun v2_ v3_ => ((xU.2 10) ≤ v3_ → (post v2_ ())) ∧ (¬ (xU.2 10) ≤ v3_ → (vp_in v3_ 24 ∧ ((¬ (xU.1 6 v3_.toNatClampNeg) = a1 → (wj_U_countAt_25 xU a1 post (wl_U_countAt_4 xU a1 post n9) v2_ v3_)) ∧ ((xU.1 6 v3_.toNatClampNeg) = a1 → (∀ v2_22 : Int32, v2_22 = v2_ + 1 → (wj_U_countAt_25 xU a1 post (wl_U_countAt_4 xU a1 post n9) v2_22 v3_))))))
def wp_U_countAt (xU : St) (a1 : Int32) (post : Int32 → Unit → Prop) : Prop := ∃ k9 : Nat, wl_U_countAt_4 xU a1 post k9 (0 : Int32) (0 : Int32)
set_option maxHeartbeats 4000000 in
set_option maxRecDepth 100000 in
theorem c_U_countAt (l : Launch) (dC : Nat → ClassId) (dI : Nat → Nat → Nat) (cI cZ cL : ClassId) (qU : Nat → Nat) (sz : Nat) (xU : St) (a1 : Int32) (post : Int32 → Unit → Prop) (hw : wp_U_countAt xU a1 post) : Met l y_U_countAt w_U_countAt ({ frames := 0, cells := 0, slots := 0, locals := 0 } : Room) (va_Pc [.ref (qU 0), .int a1] (xP (dC, dI) vwCl [(cI, .int), (cZ, .boolean), (cL, .long)] (wd_U qU cI cZ cL xU) sz)) (va_Qi post (xB (dC, dI) vwCl [(cI, .int), (cZ, .boolean), (cL, .long)] (va_A (wd_U qU cI cZ cL xU) sz) (fun _ => (wd_U qU cI cZ cL xU))) (va_A (wd_U qU cI cZ cL xU) sz)) 0 0 (va_A (wd_U qU cI cZ cL xU) sz) := by
  refine x_ofI (cc := b_U_countAt) (maxL := 4) (by decide) rfl (Nat.le_of_ble_eq_true rfl) (fun p e s m below meth c A Q hx hb hml hts hown hK hA hP hD hS hret ls hl => ?_)
  have hl : lv_has ls 4 [(0, .ref (qU 0)), (1, .int a1)] := hl
  have lp4 : ∀ (n4 : Nat) (v2_ : Int32) (v3_ : Int32) (H : Heap) (locs : List Loc) (ls : Array Slot), wl_U_countAt_4 xU a1 post n4 v2_ v3_ → va_P (dC, dI) vwCl (wd_U qU cI cZ cL xU) H → va_D A (wd_U qU cI cZ cL xU) → va_S A s.heap H locs → lv_has ls 4 [(0, .ref (qU 0)), (1, .int a1), (2, .int v2_), (3, .int v3_)] → W p l e (headSpec w_U_countAt ({ frames := 0, cells := 0, slots := 0, locals := 0 } : Room)).room s m ([.ref (qU 0), .int a1] : List Value).toArray below meth c H locs 0 0 Q (F0 m 4 ls []) := by
    intro n4
    induction n4 with
    | zero => intro v2_ v3_ H locs ls hw; exact hw.elim
    | succ n4 ih4 =>
      have jn25 : ∀ (v2_ : Int32) (v3_ : Int32) (H : Heap) (locs : List Loc) (ls : Array Slot), wj_U_countAt_25 xU a1 post (wl_U_countAt_4 xU a1 post n4) v2_ v3_ → va_P (dC, dI) vwCl (wd_U qU cI cZ cL xU) H → va_D A (wd_U qU cI cZ cL xU) → va_S A s.heap H locs → lv_has ls 4 [(0, .ref (qU 0)), (1, .int a1), (2, .int v2_), (3, .int v3_)] → W p l e (headSpec w_U_countAt ({ frames := 0, cells := 0, slots := 0, locals := 0 } : Room)).room s m ([.ref (qU 0), .int a1] : List Value).toArray below meth c H locs 0 0 Q (F0 m 25 ls []) := by
        intro v2_ v3_ H locs ls hw hP hD hS hl
        unfold wj_U_countAt_25 at hw
        obtain ⟨v3_25, ev3_25⟩ : ∃ y : Int32, y = v3_ + 1 := ⟨_, rfl⟩
        have hw := hw v3_25 ev3_25
        refine lv_iinc (v := v3_25) (lv' := [(3, .int v3_25), (0, .ref (qU 0)), (1, .int a1), (2, .int v2_)]) hx hb d_U_countAt_25 hl (k := 3) rfl (by rw [ev3_25]; rfl) (by decide) rfl (fun ls hl => ?_)
        refine lv_goto (tgt := 4) hx hb d_U_countAt_28 (by decide) ?_
        exact ih4 v2_ v3_25 _ _ _ hw hP hD hS (lv_sub hl [1, 2, 3, 0] rfl)
      intro v2_ v3_ H locs ls hw hP hD hS hl
      unfold wl_U_countAt_4 at hw
      refine lv_iload_n hx hb d_U_countAt_4 rfl (lv_at hl 3 rfl) ?_
      refine lv_aload_n hx hb d_U_countAt_5 rfl (lv_at hl 0 rfl) ?_
      refine va_get (D := (dC, dI)) (ci := 1) (v := .int (xU.2 10)) (C := "ReleaseRows$UnitRows") (T := T_U) (N := 11) hx hb hts in_U hown hK hP 0 rfl rfl 10 (by decide) (hts _ k_70) (fun _ h9 => h9) rfl d_U_countAt_6 ?_
      refine lv_icmp_ge (tgt := 31) hx hb d_U_countAt_9 (by decide) (fun c9 => ?_) (fun c9 => ?_)
      · have hw := hw.1 c9
        refine lv_iload_n hx hb d_U_countAt_31 rfl (lv_at hl 2 rfl) ?_
        exact hret v2_ () _ _ _ _ _ _ rfl hw hP hD hS (Nat.le_of_ble_eq_true rfl) (Nat.le_of_ble_eq_true rfl) d_U_countAt_32
      · have hw := hw.2 c9
        refine lv_aload_n hx hb d_U_countAt_12 rfl (lv_at hl 0 rfl) ?_
        refine va_get (D := (dC, dI)) (ci := 1) (v := .ref (qU 7)) (C := "ReleaseRows$UnitRows") (T := T_U) (N := 11) hx hb hts in_U hown hK hP 0 rfl rfl 6 (by decide) (hts _ k_62) (fun _ h9 => h9) rfl d_U_countAt_13 ?_
        refine lv_iload_n hx hb d_U_countAt_16 rfl (lv_at hl 3 rfl) ?_
        obtain ⟨h17, hw⟩ := hw
        refine va_iald hx hb hK hP 7 0 rfl rfl h17 d_U_countAt_17 ?_
        refine lv_iload_n hx hb d_U_countAt_18 rfl (lv_at hl 1 rfl) ?_
        refine lv_icmp_ne (tgt := 25) hx hb d_U_countAt_19 (by decide) (fun c19 => ?_) (fun c19 => ?_)
        · have hw := hw.1 c19
          exact jn25 v2_ v3_ _ _ _ hw hP hD hS hl
        · have hw := hw.2 c19
          obtain ⟨v2_22, ev2_22⟩ : ∃ y : Int32, y = v2_ + 1 := ⟨_, rfl⟩
          have hw := hw v2_22 ev2_22
          refine lv_iinc (v := v2_22) (lv' := [(2, .int v2_22), (0, .ref (qU 0)), (1, .int a1), (3, .int v3_)]) hx hb d_U_countAt_22 hl (k := 2) rfl (by rw [ev2_22]; rfl) (by decide) rfl (fun ls hl => ?_)
          exact jn25 v2_22 v3_ _ _ _ hw hP hD hS (lv_sub hl [1, 2, 0, 3] rfl)
  unfold wp_U_countAt at hw
  refine lv_iconst (v := (0 : Int32)) hx hb d_U_countAt_0 (by decide) ?_
  refine lv_istore_n (lv' := [(2, .int (0 : Int32)), (0, .ref (qU 0)), (1, .int a1)]) hx hb d_U_countAt_1 rfl hl (by decide) rfl (fun ls hl => ?_)
  refine lv_iconst (v := (0 : Int32)) hx hb d_U_countAt_2 (by decide) ?_
  refine lv_istore_n (lv' := [(3, .int (0 : Int32)), (2, .int (0 : Int32)), (0, .ref (qU 0)), (1, .int a1)]) hx hb d_U_countAt_3 rfl hl (by decide) rfl (fun ls hl => ?_)
  obtain ⟨n9, hw⟩ := hw
  exact lp4 n9 (0 : Int32) (0 : Int32) _ _ _ hw hP hD hS (lv_sub hl [2, 3, 1, 0] rfl)

def wj_U_countReady_24 (xU : St) (post : Int32 → Unit → Prop) (rec4 : Int32 → Int32 → Prop) (v1_ : Int32) (v2_ : Int32) : Prop := ∀ v2_24 : Int32, v2_24 = v2_ + 1 → (rec4 v1_ v2_24)
def wl_U_countReady_4 (xU : St) (post : Int32 → Unit → Prop) : Nat → Int32 → Int32 → Prop
  | 0 => fun _ _ => False
  | n9 + 1 => fun v1_ v2_ => ((xU.2 10) ≤ v2_ → (post v1_ ())) ∧ (¬ (xU.2 10) ≤ v2_ → (vp_in v2_ 24 ∧ ((¬ (xU.1 5 v2_.toNatClampNeg) = 0 → (wj_U_countReady_24 xU post (wl_U_countReady_4 xU post n9) v1_ v2_)) ∧ ((xU.1 5 v2_.toNatClampNeg) = 0 → (∀ v1_21 : Int32, v1_21 = v1_ + 1 → (wj_U_countReady_24 xU post (wl_U_countReady_4 xU post n9) v1_21 v2_))))))
def wp_U_countReady (xU : St) (post : Int32 → Unit → Prop) : Prop := ∃ k9 : Nat, wl_U_countReady_4 xU post k9 (0 : Int32) (0 : Int32)
set_option maxHeartbeats 4000000 in
set_option maxRecDepth 100000 in
theorem c_U_countReady (l : Launch) (dC : Nat → ClassId) (dI : Nat → Nat → Nat) (cI cZ cL : ClassId) (qU : Nat → Nat) (sz : Nat) (xU : St) (post : Int32 → Unit → Prop) (hw : wp_U_countReady xU post) : Met l y_U_countReady w_U_countReady ({ frames := 0, cells := 0, slots := 0, locals := 0 } : Room) (va_Pc [.ref (qU 0)] (xP (dC, dI) vwCl [(cI, .int), (cZ, .boolean), (cL, .long)] (wd_U qU cI cZ cL xU) sz)) (va_Qi post (xB (dC, dI) vwCl [(cI, .int), (cZ, .boolean), (cL, .long)] (va_A (wd_U qU cI cZ cL xU) sz) (fun _ => (wd_U qU cI cZ cL xU))) (va_A (wd_U qU cI cZ cL xU) sz)) 0 0 (va_A (wd_U qU cI cZ cL xU) sz) := by
  refine x_ofI (cc := b_U_countReady) (maxL := 3) (by decide) rfl (Nat.le_of_ble_eq_true rfl) (fun p e s m below meth c A Q hx hb hml hts hown hK hA hP hD hS hret ls hl => ?_)
  have hl : lv_has ls 3 [(0, .ref (qU 0))] := hl
  have lp4 : ∀ (n4 : Nat) (v1_ : Int32) (v2_ : Int32) (H : Heap) (locs : List Loc) (ls : Array Slot), wl_U_countReady_4 xU post n4 v1_ v2_ → va_P (dC, dI) vwCl (wd_U qU cI cZ cL xU) H → va_D A (wd_U qU cI cZ cL xU) → va_S A s.heap H locs → lv_has ls 3 [(0, .ref (qU 0)), (1, .int v1_), (2, .int v2_)] → W p l e (headSpec w_U_countReady ({ frames := 0, cells := 0, slots := 0, locals := 0 } : Room)).room s m ([.ref (qU 0)] : List Value).toArray below meth c H locs 0 0 Q (F0 m 4 ls []) := by
    intro n4
    induction n4 with
    | zero => intro v1_ v2_ H locs ls hw; exact hw.elim
    | succ n4 ih4 =>
      have jn24 : ∀ (v1_ : Int32) (v2_ : Int32) (H : Heap) (locs : List Loc) (ls : Array Slot), wj_U_countReady_24 xU post (wl_U_countReady_4 xU post n4) v1_ v2_ → va_P (dC, dI) vwCl (wd_U qU cI cZ cL xU) H → va_D A (wd_U qU cI cZ cL xU) → va_S A s.heap H locs → lv_has ls 3 [(0, .ref (qU 0)), (1, .int v1_), (2, .int v2_)] → W p l e (headSpec w_U_countReady ({ frames := 0, cells := 0, slots := 0, locals := 0 } : Room)).room s m ([.ref (qU 0)] : List Value).toArray below meth c H locs 0 0 Q (F0 m 24 ls []) := by
        intro v1_ v2_ H locs ls hw hP hD hS hl
        unfold wj_U_countReady_24 at hw
        obtain ⟨v2_24, ev2_24⟩ : ∃ y : Int32, y = v2_ + 1 := ⟨_, rfl⟩
        have hw := hw v2_24 ev2_24
        refine lv_iinc (v := v2_24) (lv' := [(2, .int v2_24), (0, .ref (qU 0)), (1, .int v1_)]) hx hb d_U_countReady_24 hl (k := 2) rfl (by rw [ev2_24]; rfl) (by decide) rfl (fun ls hl => ?_)
        refine lv_goto (tgt := 4) hx hb d_U_countReady_27 (by decide) ?_
        exact ih4 v1_ v2_24 _ _ _ hw hP hD hS (lv_sub hl [1, 2, 0] rfl)
      intro v1_ v2_ H locs ls hw hP hD hS hl
      unfold wl_U_countReady_4 at hw
      refine lv_iload_n hx hb d_U_countReady_4 rfl (lv_at hl 2 rfl) ?_
      refine lv_aload_n hx hb d_U_countReady_5 rfl (lv_at hl 0 rfl) ?_
      refine va_get (D := (dC, dI)) (ci := 1) (v := .int (xU.2 10)) (C := "ReleaseRows$UnitRows") (T := T_U) (N := 11) hx hb hts in_U hown hK hP 0 rfl rfl 10 (by decide) (hts _ k_70) (fun _ h9 => h9) rfl d_U_countReady_6 ?_
      refine lv_icmp_ge (tgt := 30) hx hb d_U_countReady_9 (by decide) (fun c9 => ?_) (fun c9 => ?_)
      · have hw := hw.1 c9
        refine lv_iload_n hx hb d_U_countReady_30 rfl (lv_at hl 1 rfl) ?_
        exact hret v1_ () _ _ _ _ _ _ rfl hw hP hD hS (Nat.le_of_ble_eq_true rfl) (Nat.le_of_ble_eq_true rfl) d_U_countReady_31
      · have hw := hw.2 c9
        refine lv_aload_n hx hb d_U_countReady_12 rfl (lv_at hl 0 rfl) ?_
        refine va_get (D := (dC, dI)) (ci := 1) (v := .ref (qU 6)) (C := "ReleaseRows$UnitRows") (T := T_U) (N := 11) hx hb hts in_U hown hK hP 0 rfl rfl 5 (by decide) (hts _ k_60) (fun _ h9 => h9) rfl d_U_countReady_13 ?_
        refine lv_iload_n hx hb d_U_countReady_16 rfl (lv_at hl 2 rfl) ?_
        obtain ⟨h17, hw⟩ := hw
        refine va_iald hx hb hK hP 6 0 rfl rfl h17 d_U_countReady_17 ?_
        refine lv_if_ne (tgt := 24) hx hb d_U_countReady_18 (by decide) (fun c18 => ?_) (fun c18 => ?_)
        · have hw := hw.1 c18
          exact jn24 v1_ v2_ _ _ _ hw hP hD hS hl
        · have hw := hw.2 c18
          obtain ⟨v1_21, ev1_21⟩ : ∃ y : Int32, y = v1_ + 1 := ⟨_, rfl⟩
          have hw := hw v1_21 ev1_21
          refine lv_iinc (v := v1_21) (lv' := [(1, .int v1_21), (0, .ref (qU 0)), (2, .int v2_)]) hx hb d_U_countReady_21 hl (k := 1) rfl (by rw [ev1_21]; rfl) (by decide) rfl (fun ls hl => ?_)
          exact jn24 v1_21 v2_ _ _ _ hw hP hD hS (lv_sub hl [1, 0, 2] rfl)
  unfold wp_U_countReady at hw
  refine lv_iconst (v := (0 : Int32)) hx hb d_U_countReady_0 (by decide) ?_
  refine lv_istore_n (lv' := [(1, .int (0 : Int32)), (0, .ref (qU 0))]) hx hb d_U_countReady_1 rfl hl (by decide) rfl (fun ls hl => ?_)
  refine lv_iconst (v := (0 : Int32)) hx hb d_U_countReady_2 (by decide) ?_
  refine lv_istore_n (lv' := [(2, .int (0 : Int32)), (1, .int (0 : Int32)), (0, .ref (qU 0))]) hx hb d_U_countReady_3 rfl hl (by decide) rfl (fun ls hl => ?_)
  obtain ⟨n9, hw⟩ := hw
  exact lp4 n9 (0 : Int32) (0 : Int32) _ _ _ hw hP hD hS (lv_sub hl [2, 1, 0] rfl)

def wl_U_canRefill_2 (xU : St) (xf : (Nat → Int32)) (a1 : Int32) (post : Int32 → Unit → Prop) : Nat → Int32 → Prop
  | 0 => fun _ => False
  | n9 + 1 => fun v3_ => ((6 : Int32) ≤ v3_ → (post (1 : Int32) ())) ∧ (¬ (6 : Int32) ≤ v3_ → (vp_in ((a1 * (6 : Int32)) + v3_) 144 ∧ (vp_in v3_ 6 ∧ (((xU.1 9 ((a1 * (6 : Int32)) + v3_).toNatClampNeg) ≤ (xf v3_.toNatClampNeg) → (∀ v3_27 : Int32, v3_27 = v3_ + 1 → ((wl_U_canRefill_2 xU xf a1 post n9) v3_27))) ∧ (¬ (xU.1 9 ((a1 * (6 : Int32)) + v3_).toNatClampNeg) ≤ (xf v3_.toNatClampNeg) → (post (0 : Int32) ()))))))
def wp_U_canRefill (xU : St) (xf : (Nat → Int32)) (a1 : Int32) (post : Int32 → Unit → Prop) : Prop := ∃ k9 : Nat, wl_U_canRefill_2 xU xf a1 post k9 (0 : Int32)
set_option maxHeartbeats 4000000 in
set_option maxRecDepth 100000 in
theorem c_U_canRefill (l : Launch) (dC : Nat → ClassId) (dI : Nat → Nat → Nat) (cI cZ cL : ClassId) (qU : Nat → Nat) (qf : Nat) (sz : Nat) (xU : St) (xf : (Nat → Int32)) (a1 : Int32) (post : Int32 → Unit → Prop) (hw : wp_U_canRefill xU xf a1 post) : Met l y_U_canRefill w_U_canRefill ({ frames := 0, cells := 0, slots := 0, locals := 0 } : Room) (va_Pc [.ref (qU 0), .int a1, .ref qf] (xP (dC, dI) vwCl [(cI, .int), (cZ, .boolean), (cL, .long)] (wd_Uf qU qf cI cZ cL xU xf) sz)) (va_Qi post (xB (dC, dI) vwCl [(cI, .int), (cZ, .boolean), (cL, .long)] (va_A (wd_Uf qU qf cI cZ cL xU xf) sz) (fun _ => (wd_Uf qU qf cI cZ cL xU xf))) (va_A (wd_Uf qU qf cI cZ cL xU xf) sz)) 0 0 (va_A (wd_Uf qU qf cI cZ cL xU xf) sz) := by
  refine x_ofI (cc := b_U_canRefill) (maxL := 4) (by decide) rfl (Nat.le_of_ble_eq_true rfl) (fun p e s m below meth c A Q hx hb hml hts hown hK hA hP hD hS hret ls hl => ?_)
  have hl : lv_has ls 4 [(0, .ref (qU 0)), (1, .int a1), (2, .ref qf)] := hl
  have lp2 : ∀ (n2 : Nat) (v3_ : Int32) (H : Heap) (locs : List Loc) (ls : Array Slot), wl_U_canRefill_2 xU xf a1 post n2 v3_ → va_P (dC, dI) vwCl (wd_Uf qU qf cI cZ cL xU xf) H → va_D A (wd_Uf qU qf cI cZ cL xU xf) → va_S A s.heap H locs → lv_has ls 4 [(0, .ref (qU 0)), (1, .int a1), (2, .ref qf), (3, .int v3_)] → W p l e (headSpec w_U_canRefill ({ frames := 0, cells := 0, slots := 0, locals := 0 } : Room)).room s m ([.ref (qU 0), .int a1, .ref qf] : List Value).toArray below meth c H locs 0 0 Q (F0 m 2 ls []) := by
    intro n2
    induction n2 with
    | zero => intro v3_ H locs ls hw; exact hw.elim
    | succ n2 ih2 =>
      intro v3_ H locs ls hw hP hD hS hl
      unfold wl_U_canRefill_2 at hw
      refine lv_iload_n hx hb d_U_canRefill_2 rfl (lv_at hl 3 rfl) ?_
      refine lv_bipush (v := (6 : Int32)) hx hb d_U_canRefill_3 (by decide) ?_
      refine lv_icmp_ge (tgt := 33) hx hb d_U_canRefill_5 (by decide) (fun c5 => ?_) (fun c5 => ?_)
      · have hw := hw.1 c5
        refine lv_iconst (v := (1 : Int32)) hx hb d_U_canRefill_33 (by decide) ?_
        exact hret (1 : Int32) () _ _ _ _ _ _ (by decide) hw hP hD hS (Nat.le_of_ble_eq_true rfl) (Nat.le_of_ble_eq_true rfl) d_U_canRefill_34
      · have hw := hw.2 c5
        refine lv_aload_n hx hb d_U_canRefill_8 rfl (lv_at hl 0 rfl) ?_
        refine va_get (D := (dC, dI)) (ci := 1) (v := .ref (qU 10)) (C := "ReleaseRows$UnitRows") (T := T_U) (N := 11) hx hb hts in_U hown hK hP 0 rfl rfl 9 (by decide) (hts _ k_68) (fun _ h9 => h9) rfl d_U_canRefill_9 ?_
        refine lv_iload_n hx hb d_U_canRefill_12 rfl (lv_at hl 1 rfl) ?_
        refine lv_bipush (v := (6 : Int32)) hx hb d_U_canRefill_13 (by decide) ?_
        refine lv_imul hx hb d_U_canRefill_15 ?_
        refine lv_iload_n hx hb d_U_canRefill_16 rfl (lv_at hl 3 rfl) ?_
        refine lv_iadd hx hb d_U_canRefill_17 ?_
        obtain ⟨h18, hw⟩ := hw
        refine va_iald hx hb hK hP 10 0 rfl rfl h18 d_U_canRefill_18 ?_
        refine lv_aload_n hx hb d_U_canRefill_19 rfl (lv_at hl 2 rfl) ?_
        refine lv_iload_n hx hb d_U_canRefill_20 rfl (lv_at hl 3 rfl) ?_
        obtain ⟨h21, hw⟩ := hw
        refine va_iald hx hb hK hP 11 0 rfl rfl h21 d_U_canRefill_21 ?_
        refine lv_icmp_le (tgt := 27) hx hb d_U_canRefill_22 (by decide) (fun c22 => ?_) (fun c22 => ?_)
        · have hw := hw.1 c22
          obtain ⟨v3_27, ev3_27⟩ : ∃ y : Int32, y = v3_ + 1 := ⟨_, rfl⟩
          have hw := hw v3_27 ev3_27
          refine lv_iinc (v := v3_27) (lv' := [(3, .int v3_27), (0, .ref (qU 0)), (1, .int a1), (2, .ref qf)]) hx hb d_U_canRefill_27 hl (k := 3) rfl (by rw [ev3_27]; rfl) (by decide) rfl (fun ls hl => ?_)
          refine lv_goto (tgt := 2) hx hb d_U_canRefill_30 (by decide) ?_
          exact ih2 v3_27 _ _ _ hw hP hD hS (lv_sub hl [1, 2, 3, 0] rfl)
        · have hw := hw.2 c22
          refine lv_iconst (v := (0 : Int32)) hx hb d_U_canRefill_25 (by decide) ?_
          exact hret (0 : Int32) () _ _ _ _ _ _ (by decide) hw hP hD hS (Nat.le_of_ble_eq_true rfl) (Nat.le_of_ble_eq_true rfl) d_U_canRefill_26
  unfold wp_U_canRefill at hw
  refine lv_iconst (v := (0 : Int32)) hx hb d_U_canRefill_0 (by decide) ?_
  refine lv_istore_n (lv' := [(3, .int (0 : Int32)), (0, .ref (qU 0)), (1, .int a1), (2, .ref qf)]) hx hb d_U_canRefill_1 rfl hl (by decide) rfl (fun ls hl => ?_)
  obtain ⟨n9, hw⟩ := hw
  exact lp2 n9 (0 : Int32) _ _ _ hw hP hD hS (lv_sub hl [1, 2, 3, 0] rfl)

def wl_U_refill_2 (xU : St) (xf : (Nat → Int32)) (a1 : Int32) (post : (St × (Nat → Int32)) → Prop) : Nat → St → (Nat → Int32) → Int32 → Prop
  | 0 => fun _ _ _ => False
  | n9 + 1 => fun xU_ xf_ v3_ => ((6 : Int32) ≤ v3_ → (post (xU_, xf_))) ∧ (¬ (6 : Int32) ≤ v3_ → (vp_in v3_ 6 ∧ (vp_in ((a1 * (6 : Int32)) + v3_) 144 ∧ (vp_in v3_ 6 ∧ (vp_in ((a1 * (6 : Int32)) + v3_) 144 ∧ (∀ v3_37 : Int32, v3_37 = v3_ + 1 → ((wl_U_refill_2 xU xf a1 post n9) (sA xU_ 9 ((a1 * (6 : Int32)) + v3_).toNatClampNeg (0 : Int32)) (upd xf_ v3_.toNatClampNeg ((xf_ v3_.toNatClampNeg) - (xU_.1 9 ((a1 * (6 : Int32)) + v3_).toNatClampNeg))) v3_37)))))))
def wp_U_refill (xU : St) (xf : (Nat → Int32)) (a1 : Int32) (post : (St × (Nat → Int32)) → Prop) : Prop := ∃ k9 : Nat, wl_U_refill_2 xU xf a1 post k9 xU xf (0 : Int32)
set_option maxHeartbeats 4000000 in
set_option maxRecDepth 100000 in
theorem c_U_refill (l : Launch) (dC : Nat → ClassId) (dI : Nat → Nat → Nat) (cI cZ cL : ClassId) (qU : Nat → Nat) (qf : Nat) (sz : Nat) (xU : St) (xf : (Nat → Int32)) (a1 : Int32) (post : (St × (Nat → Int32)) → Prop) (hw : wp_U_refill xU xf a1 post) : Met l y_U_refill w_U_refill ({ frames := 0, cells := 0, slots := 0, locals := 0 } : Room) (va_Pc [.ref (qU 0), .int a1, .ref qf] (xP (dC, dI) vwCl [(cI, .int), (cZ, .boolean), (cL, .long)] (wd_Uf qU qf cI cZ cL xU xf) sz)) (va_Qv post (xB (dC, dI) vwCl [(cI, .int), (cZ, .boolean), (cL, .long)] (va_A (wd_Uf qU qf cI cZ cL xU xf) sz) (fun u => (wd_Uf qU qf cI cZ cL u.1 u.2))) (va_A (wd_Uf qU qf cI cZ cL xU xf) sz)) 0 0 (va_A (wd_Uf qU qf cI cZ cL xU xf) sz) := by
  refine x_ofV (cc := b_U_refill) (maxL := 4) (by decide) rfl (Nat.le_of_ble_eq_true rfl) (fun p e s m below meth c A Q hx hb hml hts hown hin hK hA hP hD hS hret ls hl => ?_)
  have hl : lv_has ls 4 [(0, .ref (qU 0)), (1, .int a1), (2, .ref qf)] := hl
  have lp2 : ∀ (n2 : Nat) (xU_ : St) (xf_ : (Nat → Int32)) (v3_ : Int32) (H : Heap) (locs : List Loc) (ls : Array Slot), wl_U_refill_2 xU xf a1 post n2 xU_ xf_ v3_ → va_P (dC, dI) vwCl (wd_Uf qU qf cI cZ cL xU_ xf_) H → va_D A (wd_Uf qU qf cI cZ cL xU_ xf_) → va_S A s.heap H locs → lv_has ls 4 [(0, .ref (qU 0)), (1, .int a1), (2, .ref qf), (3, .int v3_)] → W p l e (headSpec w_U_refill ({ frames := 0, cells := 0, slots := 0, locals := 0 } : Room)).room s m ([.ref (qU 0), .int a1, .ref qf] : List Value).toArray below meth c H locs 0 0 Q (F0 m 2 ls []) := by
    intro n2
    induction n2 with
    | zero => intro xU_ xf_ v3_ H locs ls hw; exact hw.elim
    | succ n2 ih2 =>
      intro xU_ xf_ v3_ H locs ls hw hP hD hS hl
      unfold wl_U_refill_2 at hw
      refine lv_iload_n hx hb d_U_refill_2 rfl (lv_at hl 3 rfl) ?_
      refine lv_bipush (v := (6 : Int32)) hx hb d_U_refill_3 (by decide) ?_
      refine lv_icmp_ge (tgt := 43) hx hb d_U_refill_5 (by decide) (fun c5 => ?_) (fun c5 => ?_)
      · have hw := hw.1 c5
        exact hret (xU_, xf_) _ _ _ _ _ _ hw hP hD hS (Nat.le_of_ble_eq_true rfl) (Nat.le_of_ble_eq_true rfl) d_U_refill_43
      · have hw := hw.2 c5
        refine lv_aload_n hx hb d_U_refill_8 rfl (lv_at hl 2 rfl) ?_
        refine lv_iload_n hx hb d_U_refill_9 rfl (lv_at hl 3 rfl) ?_
        refine lv_dup2_11 hx hb d_U_refill_10 rfl rfl ?_
        obtain ⟨h11, hw⟩ := hw
        refine va_iald hx hb hK hP 11 0 rfl rfl h11 d_U_refill_11 ?_
        refine lv_aload_n hx hb d_U_refill_12 rfl (lv_at hl 0 rfl) ?_
        refine va_get (D := (dC, dI)) (ci := 1) (v := .ref (qU 10)) (C := "ReleaseRows$UnitRows") (T := T_U) (N := 11) hx hb hts in_U hown hK hP 0 rfl rfl 9 (by decide) (hts _ k_68) (fun _ h9 => h9) rfl d_U_refill_13 ?_
        refine lv_iload_n hx hb d_U_refill_16 rfl (lv_at hl 1 rfl) ?_
        refine lv_bipush (v := (6 : Int32)) hx hb d_U_refill_17 (by decide) ?_
        refine lv_imul hx hb d_U_refill_19 ?_
        refine lv_iload_n hx hb d_U_refill_20 rfl (lv_at hl 3 rfl) ?_
        refine lv_iadd hx hb d_U_refill_21 ?_
        obtain ⟨h22, hw⟩ := hw
        refine va_iald hx hb hK hP 10 0 rfl rfl h22 d_U_refill_22 ?_
        refine lv_isub hx hb d_U_refill_23 ?_
        obtain ⟨h24, hw⟩ := hw
        refine va_iast hx hb hK hP hD hS 11 0 rfl rfl h24 d_U_refill_24 (fun H locs hP hD hS => ?_)
        have hP := wsP_Uf_f hP
        have hD := wsD_Uf_f hD
        refine lv_aload_n hx hb d_U_refill_25 rfl (lv_at hl 0 rfl) ?_
        refine va_get (D := (dC, dI)) (ci := 1) (v := .ref (qU 10)) (C := "ReleaseRows$UnitRows") (T := T_U) (N := 11) hx hb hts in_U hown hK hP 0 rfl rfl 9 (by decide) (hts _ k_68) (fun _ h9 => h9) rfl d_U_refill_26 ?_
        refine lv_iload_n hx hb d_U_refill_29 rfl (lv_at hl 1 rfl) ?_
        refine lv_bipush (v := (6 : Int32)) hx hb d_U_refill_30 (by decide) ?_
        refine lv_imul hx hb d_U_refill_32 ?_
        refine lv_iload_n hx hb d_U_refill_33 rfl (lv_at hl 3 rfl) ?_
        refine lv_iadd hx hb d_U_refill_34 ?_
        refine lv_iconst (v := (0 : Int32)) hx hb d_U_refill_35 (by decide) ?_
        obtain ⟨h36, hw⟩ := hw
        refine va_iast hx hb hK hP hD hS 10 0 rfl rfl h36 d_U_refill_36 (fun H locs hP hD hS => ?_)
        have hP := wsP_Uf_U9 hP
        have hD := wsD_Uf_U9 hD
        obtain ⟨v3_37, ev3_37⟩ : ∃ y : Int32, y = v3_ + 1 := ⟨_, rfl⟩
        have hw := hw v3_37 ev3_37
        refine lv_iinc (v := v3_37) (lv' := [(3, .int v3_37), (0, .ref (qU 0)), (1, .int a1), (2, .ref qf)]) hx hb d_U_refill_37 hl (k := 3) rfl (by rw [ev3_37]; rfl) (by decide) rfl (fun ls hl => ?_)
        refine lv_goto (tgt := 2) hx hb d_U_refill_40 (by decide) ?_
        exact ih2 (sA xU_ 9 ((a1 * (6 : Int32)) + v3_).toNatClampNeg (0 : Int32)) (upd xf_ v3_.toNatClampNeg ((xf_ v3_.toNatClampNeg) - (xU_.1 9 ((a1 * (6 : Int32)) + v3_).toNatClampNeg))) v3_37 _ _ _ hw hP hD hS (lv_sub hl [1, 2, 3, 0] rfl)
  unfold wp_U_refill at hw
  refine lv_iconst (v := (0 : Int32)) hx hb d_U_refill_0 (by decide) ?_
  refine lv_istore_n (lv' := [(3, .int (0 : Int32)), (0, .ref (qU 0)), (1, .int a1), (2, .ref qf)]) hx hb d_U_refill_1 rfl hl (by decide) rfl (fun ls hl => ?_)
  obtain ⟨n9, hw⟩ := hw
  exact lp2 n9 xU xf (0 : Int32) _ _ _ hw hP hD hS (lv_sub hl [1, 2, 3, 0] rfl)

def wj_U_goOn_74 (xU : St) (xf : (Nat → Int32)) (a1 : Int32) (a3 : Int32) (post : (St × (Nat → Int32)) → Prop) (xU_ : St) (xf_ : (Nat → Int32)) : Prop := vp_in a1 24 ∧ ((¬ (xU_.1 5 a1.toNatClampNeg) = (5 : Int32) → (post (xU_, xf_))) ∧ ((xU_.1 5 a1.toNatClampNeg) = (5 : Int32) → (wp_U_checksToDo xU_ a1 (fun r86 _ => ((¬ r86 = 0 → (post (xU_, xf_))) ∧ (r86 = 0 → (wp_U_become xU_ a1 (0 : Int32) a3 (fun u96 => (post (u96, xf_))))))))))
def wj_U_goOn_26 (xU : St) (xf : (Nat → Int32)) (a1 : Int32) (a3 : Int32) (post : (St × (Nat → Int32)) → Prop) (xU_ : St) (xf_ : (Nat → Int32)) : Prop := vp_in a1 24 ∧ ((¬ (xU_.1 5 a1.toNatClampNeg) = (4 : Int32) → (wj_U_goOn_74 xU xf a1 a3 post xU_ xf_)) ∧ ((xU_.1 5 a1.toNatClampNeg) = (4 : Int32) → (wp_U_workEnd xU_ a1 (fun r39 _ => ((a3 < r39 → (wj_U_goOn_74 xU xf a1 a3 post xU_ xf_)) ∧ (¬ a3 < r39 → (wp_U_canRefill xU_ xf_ a1 (fun r48 _ => ((r48 = 0 → (wj_U_goOn_74 xU xf a1 a3 post xU_ xf_)) ∧ (¬ r48 = 0 → (wp_U_refill xU_ xf_ a1 (fun u57 => (vp_in a1 24 ∧ (wp_U_become (sA u57.1 4 a1.toNatClampNeg (0 : Int32)) a1 (5 : Int32) a3 (fun u71 => (wj_U_goOn_74 xU xf a1 a3 post u71 u57.2))))))))))))))))
def wp_U_goOn (xU : St) (xf : (Nat → Int32)) (a1 : Int32) (a3 : Int32) (post : (St × (Nat → Int32)) → Prop) : Prop := vp_in a1 24 ∧ ((¬ (xU.1 5 a1.toNatClampNeg) = (3 : Int32) → (wj_U_goOn_26 xU xf a1 a3 post xU xf)) ∧ ((xU.1 5 a1.toNatClampNeg) = (3 : Int32) → (wp_U_workEnd xU a1 (fun r13 _ => ((a3 < r13 → (wj_U_goOn_26 xU xf a1 a3 post xU xf)) ∧ (¬ a3 < r13 → (wp_U_become xU a1 (4 : Int32) a3 (fun u23 => (wj_U_goOn_26 xU xf a1 a3 post u23 xf)))))))))
set_option maxHeartbeats 4000000 in
set_option maxRecDepth 100000 in
theorem c_U_goOn (l : Launch) (dC : Nat → ClassId) (dI : Nat → Nat → Nat) (cI cZ cL : ClassId) (qU : Nat → Nat) (qf : Nat) (sz : Nat) (xU : St) (xf : (Nat → Int32)) (a1 : Int32) (a3 : Int32) (post : (St × (Nat → Int32)) → Prop) (hw : wp_U_goOn xU xf a1 a3 post) : Met l y_U_goOn w_U_goOn ({ frames := 1, cells := 0, slots := 0, locals := 23 } : Room) (va_Pc [.ref (qU 0), .int a1, .ref qf, .int a3] (xP (dC, dI) vwCl [(cI, .int), (cZ, .boolean), (cL, .long)] (wd_Uf qU qf cI cZ cL xU xf) sz)) (va_Qv post (xB (dC, dI) vwCl [(cI, .int), (cZ, .boolean), (cL, .long)] (va_A (wd_Uf qU qf cI cZ cL xU xf) sz) (fun u => (wd_Uf qU qf cI cZ cL u.1 u.2))) (va_A (wd_Uf qU qf cI cZ cL xU xf) sz)) 0 0 (va_A (wd_Uf qU qf cI cZ cL xU xf) sz) := by
  refine x_ofV (cc := b_U_goOn) (maxL := 4) (by decide) rfl (Nat.le_of_ble_eq_true rfl) (fun p e s m below meth c A Q hx hb hml hts hown hin hK hA hP hD hS hret ls hl => ?_)
  have hl : lv_has ls 4 [(0, .ref (qU 0)), (1, .int a1), (2, .ref qf), (3, .int a3)] := hl
  have jn74 : ∀ (xU_ : St) (xf_ : (Nat → Int32)) (H : Heap) (locs : List Loc) (ls : Array Slot), wj_U_goOn_74 xU xf a1 a3 post xU_ xf_ → va_P (dC, dI) vwCl (wd_Uf qU qf cI cZ cL xU_ xf_) H → va_D A (wd_Uf qU qf cI cZ cL xU_ xf_) → va_S A s.heap H locs → lv_has ls 4 [(0, .ref (qU 0)), (1, .int a1), (3, .int a3)] → W p l e (headSpec w_U_goOn ({ frames := 1, cells := 0, slots := 0, locals := 23 } : Room)).room s m ([.ref (qU 0), .int a1, .ref qf, .int a3] : List Value).toArray below meth c H locs 0 0 Q (F0 m 74 ls []) := by
    intro xU_ xf_ H locs ls hw hP hD hS hl
    unfold wj_U_goOn_74 at hw
    refine lv_aload_n hx hb d_U_goOn_74 rfl (lv_at hl 0 rfl) ?_
    refine va_get (D := (dC, dI)) (ci := 1) (v := .ref (qU 6)) (C := "ReleaseRows$UnitRows") (T := T_U) (N := 11) hx hb hts in_U hown hK hP 0 rfl rfl 5 (by decide) (hts _ k_60) (fun _ h9 => h9) rfl d_U_goOn_75 ?_
    refine lv_iload_n hx hb d_U_goOn_78 rfl (lv_at hl 1 rfl) ?_
    obtain ⟨h79, hw⟩ := hw
    refine va_iald hx hb hK hP 6 0 rfl rfl h79 d_U_goOn_79 ?_
    refine lv_iconst (v := (5 : Int32)) hx hb d_U_goOn_80 (by decide) ?_
    refine lv_icmp_ne (tgt := 99) hx hb d_U_goOn_81 (by decide) (fun c81 => ?_) (fun c81 => ?_)
    · have hw := hw.1 c81
      exact hret (xU_, xf_) _ _ _ _ _ _ hw hP hD hS (Nat.le_of_ble_eq_true rfl) (Nat.le_of_ble_eq_true rfl) d_U_goOn_99
    · have hw := hw.2 c81
      refine lv_aload_n hx hb d_U_goOn_84 rfl (lv_at hl 0 rfl) ?_
      refine lv_iload_n hx hb d_U_goOn_85 rfl (lv_at hl 1 rfl) ?_
      refine x_ci (w2 := fun _ => (wd_Uf qU qf cI cZ cL xU_ xf_)) [0, 1, 2, 3, 4, 5, 6, 7, 8, 9, 10] [11] [1, 2, 3, 4, 5, 6, 7, 8, 9, 10, 11, 0] (va_runV (As := [.int a1]) (rest := []) ⟨hx, hb, hml, hown, hts⟩ (c_U_checksToDo l dC dI cI cZ cL qU _ xU_ a1 _ hw) (cwV 1 hts (x_gV k_309 k_310 k_311 k_27 k_312) rfl rfl rfl (by decide +kernel) ⟨Nat.le_of_ble_eq_true rfl, Nat.le_of_ble_eq_true rfl⟩) ⟨x_blind, va_recv hK hP (ci := 1) (q0 := 0) rfl rfl, fun U hU hW => x_pre (isC := [0, 1, 2, 3, 4, 5, 6, 7, 8, 9, 10]) hK hP hD rfl rfl hU hW⟩ rfl rfl hl.1 rfl (lv_room (Nat.le_of_ble_eq_true rfl)) d_U_goOn_86 ⟨Nat.le_of_ble_eq_true rfl, Nat.le_of_ble_eq_true rfl⟩) hP hD hS hA rfl rfl rfl (by decide) (fun _ => rfl) rfl (fun r86 _ H locs hw hP hD hS => ?_)
      refine lv_if_ne (tgt := 99) hx hb d_U_goOn_89 (by decide) (fun c89 => ?_) (fun c89 => ?_)
      · have hw := hw.1 c89
        exact hret (xU_, xf_) _ _ _ _ _ _ hw hP hD hS (Nat.le_of_ble_eq_true rfl) (Nat.le_of_ble_eq_true rfl) d_U_goOn_99
      · have hw := hw.2 c89
        refine lv_aload_n hx hb d_U_goOn_92 rfl (lv_at hl 0 rfl) ?_
        refine lv_iload_n hx hb d_U_goOn_93 rfl (lv_at hl 1 rfl) ?_
        refine lv_iconst (v := (0 : Int32)) hx hb d_U_goOn_94 (by decide) ?_
        refine lv_iload_n hx hb d_U_goOn_95 rfl (lv_at hl 2 rfl) ?_
        refine x_cv (w2 := fun u96 => (wd_Uf qU qf cI cZ cL u96 xf_)) [0, 1, 2, 3, 4, 5, 6, 7, 8, 9, 10] [11] [1, 2, 3, 4, 5, 6, 7, 8, 9, 10, 11, 0] (va_runV (As := [.int a1, .int (0 : Int32), .int a3]) (rest := []) ⟨hx, hb, hml, hown, hts⟩ (c_U_become l dC dI cI cZ cL qU _ xU_ a1 (0 : Int32) a3 _ hw) (cwV 3 hts (x_gV k_281 k_282 k_283 k_27 k_284) rfl rfl rfl (by decide +kernel) ⟨Nat.le_of_ble_eq_true rfl, Nat.le_of_ble_eq_true rfl⟩) ⟨x_blind, va_recv hK hP (ci := 1) (q0 := 0) rfl rfl, fun U hU hW => x_pre (isC := [0, 1, 2, 3, 4, 5, 6, 7, 8, 9, 10]) hK hP hD rfl rfl hU hW⟩ rfl rfl hl.1 rfl (lv_room (Nat.le_of_ble_eq_true rfl)) d_U_goOn_96 ⟨Nat.le_of_ble_eq_true rfl, Nat.le_of_ble_eq_true rfl⟩) hP hD hS hA rfl rfl rfl (by decide) (fun _ => rfl) rfl (fun u96 H locs hw hP hD hS => ?_)
        exact hret (u96, xf_) _ _ _ _ _ _ hw hP hD hS (Nat.le_of_ble_eq_true rfl) (Nat.le_of_ble_eq_true rfl) d_U_goOn_99
  have jn26 : ∀ (xU_ : St) (xf_ : (Nat → Int32)) (H : Heap) (locs : List Loc) (ls : Array Slot), wj_U_goOn_26 xU xf a1 a3 post xU_ xf_ → va_P (dC, dI) vwCl (wd_Uf qU qf cI cZ cL xU_ xf_) H → va_D A (wd_Uf qU qf cI cZ cL xU_ xf_) → va_S A s.heap H locs → lv_has ls 4 [(0, .ref (qU 0)), (1, .int a1), (2, .ref qf), (3, .int a3)] → W p l e (headSpec w_U_goOn ({ frames := 1, cells := 0, slots := 0, locals := 23 } : Room)).room s m ([.ref (qU 0), .int a1, .ref qf, .int a3] : List Value).toArray below meth c H locs 0 0 Q (F0 m 26 ls []) := by
    intro xU_ xf_ H locs ls hw hP hD hS hl
    unfold wj_U_goOn_26 at hw
    refine lv_aload_n hx hb d_U_goOn_26 rfl (lv_at hl 0 rfl) ?_
    refine va_get (D := (dC, dI)) (ci := 1) (v := .ref (qU 6)) (C := "ReleaseRows$UnitRows") (T := T_U) (N := 11) hx hb hts in_U hown hK hP 0 rfl rfl 5 (by decide) (hts _ k_60) (fun _ h9 => h9) rfl d_U_goOn_27 ?_
    refine lv_iload_n hx hb d_U_goOn_30 rfl (lv_at hl 1 rfl) ?_
    obtain ⟨h31, hw⟩ := hw
    refine va_iald hx hb hK hP 6 0 rfl rfl h31 d_U_goOn_31 ?_
    refine lv_iconst (v := (4 : Int32)) hx hb d_U_goOn_32 (by decide) ?_
    refine lv_icmp_ne (tgt := 74) hx hb d_U_goOn_33 (by decide) (fun c33 => ?_) (fun c33 => ?_)
    · have hw := hw.1 c33
      exact jn74 xU_ xf_ _ _ _ hw hP hD hS (lv_sub hl [0, 1, 3] rfl)
    · have hw := hw.2 c33
      refine lv_iload_n hx hb d_U_goOn_36 rfl (lv_at hl 3 rfl) ?_
      refine lv_aload_n hx hb d_U_goOn_37 rfl (lv_at hl 0 rfl) ?_
      refine lv_iload_n hx hb d_U_goOn_38 rfl (lv_at hl 1 rfl) ?_
      refine x_ci (w2 := fun _ => (wd_Uf qU qf cI cZ cL xU_ xf_)) [0, 1, 2, 3, 4, 5, 6, 7, 8, 9, 10] [11] [1, 2, 3, 4, 5, 6, 7, 8, 9, 10, 11, 0] (va_runV (As := [.int a1]) (rest := [.int a3]) ⟨hx, hb, hml, hown, hts⟩ (c_U_workEnd l dC dI cI cZ cL qU _ xU_ a1 _ hw) (cwV 1 hts (x_gV k_297 k_298 k_299 k_27 k_300) rfl rfl rfl (by decide +kernel) ⟨Nat.le_of_ble_eq_true rfl, Nat.le_of_ble_eq_true rfl⟩) ⟨x_blind, va_recv hK hP (ci := 1) (q0 := 0) rfl rfl, fun U hU hW => x_pre (isC := [0, 1, 2, 3, 4, 5, 6, 7, 8, 9, 10]) hK hP hD rfl rfl hU hW⟩ rfl rfl hl.1 rfl (lv_room (Nat.le_of_ble_eq_true rfl)) d_U_goOn_39 ⟨Nat.le_of_ble_eq_true rfl, Nat.le_of_ble_eq_true rfl⟩) hP hD hS hA rfl rfl rfl (by decide) (fun _ => rfl) rfl (fun r39 _ H locs hw hP hD hS => ?_)
      refine lv_icmp_lt (tgt := 74) hx hb d_U_goOn_42 (by decide) (fun c42 => ?_) (fun c42 => ?_)
      · have hw := hw.1 c42
        exact jn74 xU_ xf_ _ _ _ hw hP hD hS (lv_sub hl [0, 1, 3] rfl)
      · have hw := hw.2 c42
        refine lv_aload_n hx hb d_U_goOn_45 rfl (lv_at hl 0 rfl) ?_
        refine lv_iload_n hx hb d_U_goOn_46 rfl (lv_at hl 1 rfl) ?_
        refine lv_aload_n hx hb d_U_goOn_47 rfl (lv_at hl 2 rfl) ?_
        refine x_ci (w2 := fun _ => (wd_Uf qU qf cI cZ cL xU_ xf_)) [0, 1, 2, 3, 4, 5, 6, 7, 8, 9, 10, 11] [] [0, 1, 2, 3, 4, 5, 6, 7, 8, 9, 10, 11] (va_runV (As := [.int a1, .ref qf]) (rest := []) ⟨hx, hb, hml, hown, hts⟩ (c_U_canRefill l dC dI cI cZ cL qU qf _ xU_ xf_ a1 _ hw) (cwV 2 hts (x_gV k_301 k_303 k_2 k_27 k_304) rfl rfl rfl (by decide +kernel) ⟨Nat.le_of_ble_eq_true rfl, Nat.le_of_ble_eq_true rfl⟩) ⟨x_blind, va_recv hK hP (ci := 1) (q0 := 0) rfl rfl, fun U hU hW => x_pre (isC := [0, 1, 2, 3, 4, 5, 6, 7, 8, 9, 10, 11]) hK hP hD rfl rfl hU hW⟩ rfl rfl hl.1 rfl (lv_room (Nat.le_of_ble_eq_true rfl)) d_U_goOn_48 ⟨Nat.le_of_ble_eq_true rfl, Nat.le_of_ble_eq_true rfl⟩) hP hD hS hA rfl rfl rfl (by decide) (fun _ => rfl) rfl (fun r48 _ H locs hw hP hD hS => ?_)
        refine lv_if_eq (tgt := 74) hx hb d_U_goOn_51 (by decide) (fun c51 => ?_) (fun c51 => ?_)
        · have hw := hw.1 c51
          exact jn74 xU_ xf_ _ _ _ hw hP hD hS (lv_sub hl [0, 1, 3] rfl)
        · have hw := hw.2 c51
          refine lv_aload_n hx hb d_U_goOn_54 rfl (lv_at hl 0 rfl) ?_
          refine lv_iload_n hx hb d_U_goOn_55 rfl (lv_at hl 1 rfl) ?_
          refine lv_aload_n hx hb d_U_goOn_56 rfl (lv_at hl 2 rfl) ?_
          refine x_cv (w2 := fun u57 => (wd_Uf qU qf cI cZ cL u57.1 u57.2)) [0, 1, 2, 3, 4, 5, 6, 7, 8, 9, 10, 11] [] [0, 1, 2, 3, 4, 5, 6, 7, 8, 9, 10, 11] (va_runV (As := [.int a1, .ref qf]) (rest := []) ⟨hx, hb, hml, hown, hts⟩ (c_U_refill l dC dI cI cZ cL qU qf _ xU_ xf_ a1 _ hw) (cwV 2 hts (x_gV k_305 k_307 k_3 k_27 k_308) rfl rfl rfl (by decide +kernel) ⟨Nat.le_of_ble_eq_true rfl, Nat.le_of_ble_eq_true rfl⟩) ⟨x_blind, va_recv hK hP (ci := 1) (q0 := 0) rfl rfl, fun U hU hW => x_pre (isC := [0, 1, 2, 3, 4, 5, 6, 7, 8, 9, 10, 11]) hK hP hD rfl rfl hU hW⟩ rfl rfl hl.1 rfl (lv_room (Nat.le_of_ble_eq_true rfl)) d_U_goOn_57 ⟨Nat.le_of_ble_eq_true rfl, Nat.le_of_ble_eq_true rfl⟩) hP hD hS hA rfl rfl rfl (by decide) (fun _ => rfl) rfl (fun u57 H locs hw hP hD hS => ?_)
          refine lv_aload_n hx hb d_U_goOn_60 rfl (lv_at hl 0 rfl) ?_
          refine va_get (D := (dC, dI)) (ci := 1) (v := .ref (qU 5)) (C := "ReleaseRows$UnitRows") (T := T_U) (N := 11) hx hb hts in_U hown hK hP 0 rfl rfl 4 (by decide) (hts _ k_58) (fun _ h9 => h9) rfl d_U_goOn_61 ?_
          refine lv_iload_n hx hb d_U_goOn_64 rfl (lv_at hl 1 rfl) ?_
          refine lv_iconst (v := (0 : Int32)) hx hb d_U_goOn_65 (by decide) ?_
          obtain ⟨h66, hw⟩ := hw
          refine va_iast hx hb hK hP hD hS 5 0 rfl rfl h66 d_U_goOn_66 (fun H locs hP hD hS => ?_)
          have hP := wsP_Uf_U4 hP
          have hD := wsD_Uf_U4 hD
          refine lv_aload_n hx hb d_U_goOn_67 rfl (lv_at hl 0 rfl) ?_
          refine lv_iload_n hx hb d_U_goOn_68 rfl (lv_at hl 1 rfl) ?_
          refine lv_iconst (v := (5 : Int32)) hx hb d_U_goOn_69 (by decide) ?_
          refine lv_iload_n hx hb d_U_goOn_70 rfl (lv_at hl 3 rfl) ?_
          refine x_cv (w2 := fun u71 => (wd_Uf qU qf cI cZ cL u71 u57.2)) [0, 1, 2, 3, 4, 5, 6, 7, 8, 9, 10] [11] [1, 2, 3, 4, 5, 6, 7, 8, 9, 10, 11, 0] (va_runV (As := [.int a1, .int (5 : Int32), .int a3]) (rest := []) ⟨hx, hb, hml, hown, hts⟩ (c_U_become l dC dI cI cZ cL qU _ (sA u57.1 4 a1.toNatClampNeg (0 : Int32)) a1 (5 : Int32) a3 _ hw) (cwV 3 hts (x_gV k_281 k_282 k_283 k_27 k_284) rfl rfl rfl (by decide +kernel) ⟨Nat.le_of_ble_eq_true rfl, Nat.le_of_ble_eq_true rfl⟩) ⟨x_blind, va_recv hK hP (ci := 1) (q0 := 0) rfl rfl, fun U hU hW => x_pre (isC := [0, 1, 2, 3, 4, 5, 6, 7, 8, 9, 10]) hK hP hD rfl rfl hU hW⟩ rfl rfl hl.1 rfl (lv_room (Nat.le_of_ble_eq_true rfl)) d_U_goOn_71 ⟨Nat.le_of_ble_eq_true rfl, Nat.le_of_ble_eq_true rfl⟩) hP hD hS hA rfl rfl rfl (by decide) (fun _ => rfl) rfl (fun u71 H locs hw hP hD hS => ?_)
          exact jn74 u71 u57.2 _ _ _ hw hP hD hS (lv_sub hl [0, 1, 3] rfl)
  unfold wp_U_goOn at hw
  refine lv_aload_n hx hb d_U_goOn_0 rfl (lv_at hl 0 rfl) ?_
  refine va_get (D := (dC, dI)) (ci := 1) (v := .ref (qU 6)) (C := "ReleaseRows$UnitRows") (T := T_U) (N := 11) hx hb hts in_U hown hK hP 0 rfl rfl 5 (by decide) (hts _ k_60) (fun _ h9 => h9) rfl d_U_goOn_1 ?_
  refine lv_iload_n hx hb d_U_goOn_4 rfl (lv_at hl 1 rfl) ?_
  obtain ⟨h5, hw⟩ := hw
  refine va_iald hx hb hK hP 6 0 rfl rfl h5 d_U_goOn_5 ?_
  refine lv_iconst (v := (3 : Int32)) hx hb d_U_goOn_6 (by decide) ?_
  refine lv_icmp_ne (tgt := 26) hx hb d_U_goOn_7 (by decide) (fun c7 => ?_) (fun c7 => ?_)
  · have hw := hw.1 c7
    exact jn26 xU xf _ _ _ hw hP hD hS hl
  · have hw := hw.2 c7
    refine lv_iload_n hx hb d_U_goOn_10 rfl (lv_at hl 3 rfl) ?_
    refine lv_aload_n hx hb d_U_goOn_11 rfl (lv_at hl 0 rfl) ?_
    refine lv_iload_n hx hb d_U_goOn_12 rfl (lv_at hl 1 rfl) ?_
    refine x_ci (w2 := fun _ => (wd_Uf qU qf cI cZ cL xU xf)) [0, 1, 2, 3, 4, 5, 6, 7, 8, 9, 10] [11] [1, 2, 3, 4, 5, 6, 7, 8, 9, 10, 11, 0] (va_runV (As := [.int a1]) (rest := [.int a3]) ⟨hx, hb, hml, hown, hts⟩ (c_U_workEnd l dC dI cI cZ cL qU _ xU a1 _ hw) (cwV 1 hts (x_gV k_297 k_298 k_299 k_27 k_300) rfl rfl rfl (by decide +kernel) ⟨Nat.le_of_ble_eq_true rfl, Nat.le_of_ble_eq_true rfl⟩) ⟨x_blind, va_recv hK hP (ci := 1) (q0 := 0) rfl rfl, fun U hU hW => x_pre (isC := [0, 1, 2, 3, 4, 5, 6, 7, 8, 9, 10]) hK hP hD rfl rfl hU hW⟩ rfl rfl hl.1 rfl (lv_room (Nat.le_of_ble_eq_true rfl)) d_U_goOn_13 ⟨Nat.le_of_ble_eq_true rfl, Nat.le_of_ble_eq_true rfl⟩) hP hD hS hA rfl rfl rfl (by decide) (fun _ => rfl) rfl (fun r13 _ H locs hw hP hD hS => ?_)
    refine lv_icmp_lt (tgt := 26) hx hb d_U_goOn_16 (by decide) (fun c16 => ?_) (fun c16 => ?_)
    · have hw := hw.1 c16
      exact jn26 xU xf _ _ _ hw hP hD hS hl
    · have hw := hw.2 c16
      refine lv_aload_n hx hb d_U_goOn_19 rfl (lv_at hl 0 rfl) ?_
      refine lv_iload_n hx hb d_U_goOn_20 rfl (lv_at hl 1 rfl) ?_
      refine lv_iconst (v := (4 : Int32)) hx hb d_U_goOn_21 (by decide) ?_
      refine lv_iload_n hx hb d_U_goOn_22 rfl (lv_at hl 3 rfl) ?_
      refine x_cv (w2 := fun u23 => (wd_Uf qU qf cI cZ cL u23 xf)) [0, 1, 2, 3, 4, 5, 6, 7, 8, 9, 10] [11] [1, 2, 3, 4, 5, 6, 7, 8, 9, 10, 11, 0] (va_runV (As := [.int a1, .int (4 : Int32), .int a3]) (rest := []) ⟨hx, hb, hml, hown, hts⟩ (c_U_become l dC dI cI cZ cL qU _ xU a1 (4 : Int32) a3 _ hw) (cwV 3 hts (x_gV k_281 k_282 k_283 k_27 k_284) rfl rfl rfl (by decide +kernel) ⟨Nat.le_of_ble_eq_true rfl, Nat.le_of_ble_eq_true rfl⟩) ⟨x_blind, va_recv hK hP (ci := 1) (q0 := 0) rfl rfl, fun U hU hW => x_pre (isC := [0, 1, 2, 3, 4, 5, 6, 7, 8, 9, 10]) hK hP hD rfl rfl hU hW⟩ rfl rfl hl.1 rfl (lv_room (Nat.le_of_ble_eq_true rfl)) d_U_goOn_23 ⟨Nat.le_of_ble_eq_true rfl, Nat.le_of_ble_eq_true rfl⟩) hP hD hS hA rfl rfl rfl (by decide) (fun _ => rfl) rfl (fun u23 H locs hw hP hD hS => ?_)
      exact jn26 u23 xf _ _ _ hw hP hD hS hl

