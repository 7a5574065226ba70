def wj_R_isGood_14 (a0 : Int32) (post : Int32 → Unit → Prop)  : Prop := post (0 : Int32) ()
def wp_R_isGood (a0 : Int32) (post : Int32 → Unit → Prop) : Prop := (a0 < 0 → (wj_R_isGood_14 a0 post )) ∧ (¬ a0 < 0 → (((6 : Int32) ≤ a0 → (wj_R_isGood_14 a0 post )) ∧ (¬ (6 : Int32) ≤ a0 → (post (1 : Int32) ()))))
set_option maxHeartbeats 4000000 in
set_option maxRecDepth 100000 in
theorem c_R_isGood (l : Launch) (dC : Nat → ClassId) (dI : Nat → Nat → Nat) (cI cZ cL : ClassId)  (sz : Nat) (a0 : Int32) (post : Int32 → Unit → Prop) (hw : wp_R_isGood a0 post) : Met l y_R_isGood w_R_isGood ({ frames := 0, cells := 0, slots := 0, locals := 0 } : Room) (va_Pc [.int a0] (xP (dC, dI) vwCl [(cI, .int), (cZ, .boolean), (cL, .long)] ([] : va_W) sz)) (va_Qi post (xB (dC, dI) vwCl [(cI, .int), (cZ, .boolean), (cL, .long)] (va_A ([] : va_W) sz) (fun _ => ([] : va_W))) (va_A ([] : va_W) sz)) 0 0 (va_A ([] : va_W) sz) := by
  refine x_ofI (cc := b_R_isGood) (maxL := 1) (by decide) rfl (Nat.le_of_ble_eq_true rfl) (fun p e s m below meth c A Q hx hb hml hts hown hK hA hP hD hS hret ls hl => ?_)
  have hl : lv_has ls 1 [(0, .int a0)] := hl
  have jn14 : ∀ (H : Heap) (locs : List Loc) (ls : Array Slot), wj_R_isGood_14 a0 post  → va_P (dC, dI) vwCl ([] : va_W) H → va_D A ([] : va_W) → va_S A s.heap H locs → lv_has ls 1 [] → W p l e (headSpec w_R_isGood ({ frames := 0, cells := 0, slots := 0, locals := 0 } : Room)).room s m ([.int a0] : List Value).toArray below meth c H locs 0 0 Q (F0 m 14 ls []) := by
    intro  H locs ls hw hP hD hS hl
    unfold wj_R_isGood_14 at hw
    refine lv_iconst (v := (0 : Int32)) hx hb d_R_isGood_14 (by decide) ?_
    exact hret (0 : Int32) () _ _ _ _ _ _ (by decide) hw hP hD hS (Nat.le_of_ble_eq_true rfl) (Nat.le_of_ble_eq_true rfl) d_R_isGood_15
  unfold wp_R_isGood at hw
  refine lv_iload_n hx hb d_R_isGood_0 rfl (lv_at hl 0 rfl) ?_
  refine lv_if_lt (tgt := 14) hx hb d_R_isGood_1 (by decide) (fun c1 => ?_) (fun c1 => ?_)
  · have hw := hw.1 c1
    exact jn14 _ _ _ hw hP hD hS (lv_sub hl [] rfl)
  · have hw := hw.2 c1
    refine lv_iload_n hx hb d_R_isGood_4 rfl (lv_at hl 0 rfl) ?_
    refine lv_bipush (v := (6 : Int32)) hx hb d_R_isGood_5 (by decide) ?_
    refine lv_icmp_ge (tgt := 14) hx hb d_R_isGood_7 (by decide) (fun c7 => ?_) (fun c7 => ?_)
    · have hw := hw.1 c7
      exact jn14 _ _ _ hw hP hD hS (lv_sub hl [] rfl)
    · have hw := hw.2 c7
      refine lv_iconst (v := (1 : Int32)) hx hb d_R_isGood_10 (by decide) ?_
      refine lv_goto (tgt := 15) hx hb d_R_isGood_11 (by decide) ?_
      exact hret (1 : Int32) () _ _ _ _ _ _ (by decide) hw hP hD hS (Nat.le_of_ble_eq_true rfl) (Nat.le_of_ble_eq_true rfl) d_R_isGood_15

def wj_R_isPast_37 (xR : St) (xU : St) (xI : St) (xW : St) (a1 : Int32) (post : Int32 → Unit → Prop)  : Prop := post (0 : Int32) ()
def wp_R_isPast (xR : St) (xU : St) (xI : St) (xW : St) (a1 : Int32) (post : Int32 → Unit → Prop) : Prop := vp_in a1 20 ∧ ((¬ (xI.1 1 a1.toNatClampNeg) = 0 → (wj_R_isPast_37 xR xU xI xW a1 post )) ∧ ((xI.1 1 a1.toNatClampNeg) = 0 → (vp_in a1 20 ∧ ((((xR.2 4) - (xI.1 8 a1.toNatClampNeg)) ≤ (xR.2 5) → (wj_R_isPast_37 xR xU xI xW a1 post )) ∧ (¬ ((xR.2 4) - (xI.1 8 a1.toNatClampNeg)) ≤ (xR.2 5) → (post (1 : Int32) ()))))))
set_option maxHeartbeats 4000000 in
set_option maxRecDepth 100000 in
theorem c_R_isPast (l : Launch) (dC : Nat → ClassId) (dI : Nat → Nat → Nat) (cI cZ cL : ClassId) (qR : Nat → Nat) (qU : Nat → Nat) (qI : Nat → Nat) (qW : Nat → Nat) (sz : Nat) (xR : St) (xU : St) (xI : St) (xW : St) (a1 : Int32) (post : Int32 → Unit → Prop) (hw : wp_R_isPast xR xU xI xW a1 post) : Met l y_R_isPast w_R_isPast ({ frames := 0, cells := 0, slots := 0, locals := 0 } : Room) (va_Pc [.ref (qR 0), .int a1] (xP (dC, dI) vwCl [(cI, .int), (cZ, .boolean), (cL, .long)] (wd_RUIW qR qU qI qW cI cZ cL xR xU xI xW) sz)) (va_Qi post (xB (dC, dI) vwCl [(cI, .int), (cZ, .boolean), (cL, .long)] (va_A (wd_RUIW qR qU qI qW cI cZ cL xR xU xI xW) sz) (fun _ => (wd_RUIW qR qU qI qW cI cZ cL xR xU xI xW))) (va_A (wd_RUIW qR qU qI qW cI cZ cL xR xU xI xW) sz)) 0 0 (va_A (wd_RUIW qR qU qI qW cI cZ cL xR xU xI xW) sz) := by
  refine x_ofI (cc := b_R_isPast) (maxL := 2) (by decide) rfl (Nat.le_of_ble_eq_true rfl) (fun p e s m below meth c A Q hx hb hml hts hown hK hA hP hD hS hret ls hl => ?_)
  have hl : lv_has ls 2 [(0, .ref (qR 0)), (1, .int a1)] := hl
  have jn37 : ∀ (H : Heap) (locs : List Loc) (ls : Array Slot), wj_R_isPast_37 xR xU xI xW a1 post  → va_P (dC, dI) vwCl (wd_RUIW qR qU qI qW cI cZ cL xR xU xI xW) H → va_D A (wd_RUIW qR qU qI qW cI cZ cL xR xU xI xW) → va_S A s.heap H locs → lv_has ls 2 [] → W p l e (headSpec w_R_isPast ({ frames := 0, cells := 0, slots := 0, locals := 0 } : Room)).room s m ([.ref (qR 0), .int a1] : List Value).toArray below meth c H locs 0 0 Q (F0 m 37 ls []) := by
    intro  H locs ls hw hP hD hS hl
    unfold wj_R_isPast_37 at hw
    refine lv_iconst (v := (0 : Int32)) hx hb d_R_isPast_37 (by decide) ?_
    exact hret (0 : Int32) () _ _ _ _ _ _ (by decide) hw hP hD hS (Nat.le_of_ble_eq_true rfl) (Nat.le_of_ble_eq_true rfl) d_R_isPast_38
  unfold wp_R_isPast at hw
  refine lv_aload_n hx hb d_R_isPast_0 rfl (lv_at hl 0 rfl) ?_
  refine va_get (D := (dC, dI)) (ci := 3) (v := .ref (qI 0)) (C := "ReleaseRows") (T := T_R) (N := 6) hx hb hts in_R hown hK hP 0 rfl rfl 1 (by decide) (hts _ k_158) (fun _ h9 => h9) rfl d_R_isPast_1 ?_
  refine va_get (D := (dC, dI)) (ci := 0) (v := .ref (qI 2)) (C := "ReleaseRows$IncidentRows") (T := T_I) (N := 10) hx hb hts in_I hown hK hP 13 rfl rfl 1 (by decide) (hts _ k_104) (fun _ h9 => h9) rfl d_R_isPast_4 ?_
  refine lv_iload_n hx hb d_R_isPast_7 rfl (lv_at hl 1 rfl) ?_
  obtain ⟨h8, hw⟩ := hw
  refine va_zald hx hb hK hP 15 1 rfl rfl h8 d_R_isPast_8 ?_
  refine lv_if_ne (tgt := 37) hx hb d_R_isPast_9 (by decide) (fun c9 => ?_) (fun c9 => ?_)
  · have hw := hw.1 c9
    exact jn37 _ _ _ hw hP hD hS (lv_sub hl [] rfl)
  · have hw := hw.2 c9
    refine lv_aload_n hx hb d_R_isPast_12 rfl (lv_at hl 0 rfl) ?_
    refine va_get (D := (dC, dI)) (ci := 3) (v := .int (xR.2 4)) (C := "ReleaseRows") (T := T_R) (N := 6) hx hb hts in_R hown hK hP 0 rfl rfl 4 (by decide) (hts _ k_161) (fun _ h9 => h9) rfl d_R_isPast_13 ?_
    refine lv_aload_n hx hb d_R_isPast_16 rfl (lv_at hl 0 rfl) ?_
    refine va_get (D := (dC, dI)) (ci := 3) (v := .ref (qI 0)) (C := "ReleaseRows") (T := T_R) (N := 6) hx hb hts in_R hown hK hP 0 rfl rfl 1 (by decide) (hts _ k_158) (fun _ h9 => h9) rfl d_R_isPast_17 ?_
    refine va_get (D := (dC, dI)) (ci := 0) (v := .ref (qI 9)) (C := "ReleaseRows$IncidentRows") (T := T_I) (N := 10) hx hb hts in_I hown hK hP 13 rfl rfl 8 (by decide) (hts _ k_118) (fun _ h9 => h9) rfl d_R_isPast_20 ?_
    refine lv_iload_n hx hb d_R_isPast_23 rfl (lv_at hl 1 rfl) ?_
    obtain ⟨h24, hw⟩ := hw
    refine va_iald hx hb hK hP 22 0 rfl rfl h24 d_R_isPast_24 ?_
    refine lv_isub hx hb d_R_isPast_25 ?_
    refine lv_aload_n hx hb d_R_isPast_26 rfl (lv_at hl 0 rfl) ?_
    refine va_get (D := (dC, dI)) (ci := 3) (v := .int (xR.2 5)) (C := "ReleaseRows") (T := T_R) (N := 6) hx hb hts in_R hown hK hP 0 rfl rfl 5 (by decide) (hts _ k_162) (fun _ h9 => h9) rfl d_R_isPast_27 ?_
    refine lv_icmp_le (tgt := 37) hx hb d_R_isPast_30 (by decide) (fun c30 => ?_) (fun c30 => ?_)
    · have hw := hw.1 c30
      exact jn37 _ _ _ hw hP hD hS (lv_sub hl [] rfl)
    · have hw := hw.2 c30
      refine lv_iconst (v := (1 : Int32)) hx hb d_R_isPast_33 (by decide) ?_
      refine lv_goto (tgt := 38) hx hb d_R_isPast_34 (by decide) ?_
      exact hret (1 : Int32) () _ _ _ _ _ _ (by decide) hw hP hD hS (Nat.le_of_ble_eq_true rfl) (Nat.le_of_ble_eq_true rfl) d_R_isPast_38

def wp_R_bring (xR : St) (xU : St) (xI : St) (xW : St) (a1 : Int32) (a2 : Int32) (post : (St × St) → Prop) : Prop := wp_U_goTo xU a1 a2 (xR.2 4) (fun u10 => (vp_in a2 20 ∧ (post (u10, (sA xI 2 a2.toNatClampNeg (vp_nar .boolean (1 : Int32)))))))
set_option maxHeartbeats 4000000 in
set_option maxRecDepth 100000 in
theorem c_R_bring (l : Launch) (dC : Nat → ClassId) (dI : Nat → Nat → Nat) (cI cZ cL : ClassId) (qR : Nat → Nat) (qU : Nat → Nat) (qI : Nat → Nat) (qW : Nat → Nat) (sz : Nat) (xR : St) (xU : St) (xI : St) (xW : St) (a1 : Int32) (a2 : Int32) (post : (St × St) → Prop) (hw : wp_R_bring xR xU xI xW a1 a2 post) : Met l y_R_bring w_R_bring ({ frames := 2, cells := 0, slots := 0, locals := 46 } : Room) (va_Pc [.ref (qR 0), .int a1, .int a2] (xP (dC, dI) vwCl [(cI, .int), (cZ, .boolean), (cL, .long)] (wd_RUIW qR qU qI qW cI cZ cL xR xU xI xW) sz)) (va_Qv post (xB (dC, dI) vwCl [(cI, .int), (cZ, .boolean), (cL, .long)] (va_A (wd_RUIW qR qU qI qW cI cZ cL xR xU xI xW) sz) (fun u => (wd_RUIW qR qU qI qW cI cZ cL xR u.1 u.2 xW))) (va_A (wd_RUIW qR qU qI qW cI cZ cL xR xU xI xW) sz)) 0 0 (va_A (wd_RUIW qR qU qI qW cI cZ cL xR xU xI xW) sz) := by
  refine x_ofV (cc := b_R_bring) (maxL := 3) (by decide) rfl (Nat.le_of_ble_eq_true rfl) (fun p e s m below meth c A Q hx hb hml hts hown hin hK hA hP hD hS hret ls hl => ?_)
  have hl : lv_has ls 3 [(0, .ref (qR 0)), (1, .int a1), (2, .int a2)] := hl
  unfold wp_R_bring at hw
  refine lv_aload_n hx hb d_R_bring_0 rfl (lv_at hl 0 rfl) ?_
  refine va_get (D := (dC, dI)) (ci := 3) (v := .ref (qU 0)) (C := "ReleaseRows") (T := T_R) (N := 6) hx hb hts in_R hown hK hP 0 rfl rfl 0 (by decide) (hts _ k_157) (fun _ h9 => h9) rfl d_R_bring_1 ?_
  refine lv_iload_n hx hb d_R_bring_4 rfl (lv_at hl 1 rfl) ?_
  refine lv_iload_n hx hb d_R_bring_5 rfl (lv_at hl 2 rfl) ?_
  refine lv_aload_n hx hb d_R_bring_6 rfl (lv_at hl 0 rfl) ?_
  refine va_get (D := (dC, dI)) (ci := 3) (v := .int (xR.2 4)) (C := "ReleaseRows") (T := T_R) (N := 6) hx hb hts in_R hown hK hP 0 rfl rfl 4 (by decide) (hts _ k_161) (fun _ h9 => h9) rfl d_R_bring_7 ?_
  refine x_cv (w2 := fun u10 => (wd_RUIW qR qU qI qW cI cZ cL xR u10 xI xW)) [2, 3, 4, 5, 6, 7, 8, 9, 10, 11, 12] [0, 1, 13, 14, 15, 16, 17, 18, 19, 20, 21, 22, 23, 24] [0, 1, 14, 15, 16, 17, 18, 19, 20, 21, 22, 23, 24, 2, 3, 4, 5, 6, 7, 8, 9, 10, 11, 12, 13] (va_runV (As := [.int a1, .int a2, .int (xR.2 4)]) (rest := []) ⟨hx, hb, hml, hown, hts⟩ (c_U_goTo l dC dI cI cZ cL qU _ xU a1 a2 (xR.2 4) _ hw) (cwV 3 hts (x_gV k_332 k_333 k_334 k_27 k_335) rfl rfl rfl (by decide +kernel) ⟨Nat.le_of_ble_eq_true rfl, Nat.le_of_ble_eq_true rfl⟩) ⟨x_blind, va_recv hK hP (ci := 1) (q0 := 2) rfl rfl, fun U hU hW => x_pre (isC := [2, 3, 4, 5, 6, 7, 8, 9, 10, 11, 12]) hK hP hD rfl rfl hU hW⟩ rfl rfl hl.1 rfl (lv_room (Nat.le_of_ble_eq_true rfl)) d_R_bring_10 ⟨Nat.le_of_ble_eq_true rfl, Nat.le_of_ble_eq_true rfl⟩) hP hD hS hA rfl rfl rfl (by decide) (fun _ => rfl) rfl (fun u10 H locs hw hP hD hS => ?_)
  refine lv_aload_n hx hb d_R_bring_13 rfl (lv_at hl 0 rfl) ?_
  refine va_get (D := (dC, dI)) (ci := 3) (v := .ref (qI 0)) (C := "ReleaseRows") (T := T_R) (N := 6) hx hb hts in_R hown hK hP 0 rfl rfl 1 (by decide) (hts _ k_158) (fun _ h9 => h9) rfl d_R_bring_14 ?_
  refine va_get (D := (dC, dI)) (ci := 0) (v := .ref (qI 3)) (C := "ReleaseRows$IncidentRows") (T := T_I) (N := 10) hx hb hts in_I hown hK hP 13 rfl rfl 2 (by decide) (hts _ k_106) (fun _ h9 => h9) rfl d_R_bring_17 ?_
  refine lv_iload_n hx hb d_R_bring_20 rfl (lv_at hl 2 rfl) ?_
  refine lv_iconst (v := (1 : Int32)) hx hb d_R_bring_21 (by decide) ?_
  obtain ⟨h22, hw⟩ := hw
  refine va_zast hx hb hK hP hD hS 16 1 rfl rfl h22 d_R_bring_22 (fun H locs hP hD hS => ?_)
  have hP := wsP_RUIW_I2 hP
  have hD := wsD_RUIW_I2 hD
  exact hret (u10, (sA xI 2 a2.toNatClampNeg (vp_nar .boolean (1 : Int32)))) _ _ _ _ _ _ hw hP hD hS (Nat.le_of_ble_eq_true rfl) (Nat.le_of_ble_eq_true rfl) d_R_bring_23

def wl_R_giveUnitsToCalls_2 (xR : St) (xU : St) (xI : St) (xW : St) (post : (St × St × St) → Prop) : Nat → St → St → St → Int32 → Prop
  | 0 => fun _ _ _ _ => False
  | n9 + 1 => fun xU_ xI_ xW_ v1_ => ((30 : Int32) ≤ v1_ → (post (xU_, xI_, xW_))) ∧ (¬ (30 : Int32) ≤ v1_ → (((xW_.2 1) ≤ 0 → (post (xU_, xI_, xW_))) ∧ (¬ (xW_.2 1) ≤ 0 → (wp_U_nearestReady xU_ (fun r22 _ => ((¬ r22 = (-1 : Int32) → (wp_W_takeFirst xW_ (fun r38 u38 => (wp_R_bring xR xU_ xI_ u38 r22 r38 (fun u41 => (∀ v1_44 : Int32, v1_44 = v1_ + 1 → ((wl_R_giveUnitsToCalls_2 xR xU xI xW post n9) u41.1 u41.2 u38 v1_44))))))) ∧ (r22 = (-1 : Int32) → (post (xU_, xI_, xW_)))))))))
def wp_R_giveUnitsToCalls (xR : St) (xU : St) (xI : St) (xW : St) (post : (St × St × St) → Prop) : Prop := ∃ k9 : Nat, wl_R_giveUnitsToCalls_2 xR xU xI xW post k9 xU xI xW (0 : Int32)
set_option maxHeartbeats 4000000 in
set_option maxRecDepth 100000 in
theorem c_R_giveUnitsToCalls (l : Launch) (dC : Nat → ClassId) (dI : Nat → Nat → Nat) (cI cZ cL : ClassId) (qR : Nat → Nat) (qU : Nat → Nat) (qI : Nat → Nat) (qW : Nat → Nat) (sz : Nat) (xR : St) (xU : St) (xI : St) (xW : St) (post : (St × St × St) → Prop) (hw : wp_R_giveUnitsToCalls xR xU xI xW post) : Met l y_R_giveUnitsToCalls w_R_giveUnitsToCalls ({ frames := 3, cells := 0, slots := 0, locals := 81 } : Room) (va_Pc [.ref (qR 0)] (xP (dC, dI) vwCl [(cI, .int), (cZ, .boolean), (cL, .long)] (wd_RUIW qR qU qI qW cI cZ cL xR xU xI xW) sz)) (va_Qv post (xB (dC, dI) vwCl [(cI, .int), (cZ, .boolean), (cL, .long)] (va_A (wd_RUIW qR qU qI qW cI cZ cL xR xU xI xW) sz) (fun u => (wd_RUIW qR qU qI qW cI cZ cL xR u.1 u.2.1 u.2.2))) (va_A (wd_RUIW qR qU qI qW cI cZ cL xR xU xI xW) sz)) 0 0 (va_A (wd_RUIW qR qU qI qW cI cZ cL xR xU xI xW) sz) := by
  refine x_ofV (cc := b_R_giveUnitsToCalls) (maxL := 3) (by decide) rfl (Nat.le_of_ble_eq_true rfl) (fun p e s m below meth c A Q hx hb hml hts hown hin hK hA hP hD hS hret ls hl => ?_)
  have hl : lv_has ls 3 [(0, .ref (qR 0))] := hl
  have lp2 : ∀ (n2 : Nat) (xU_ : St) (xI_ : St) (xW_ : St) (v1_ : Int32) (H : Heap) (locs : List Loc) (ls : Array Slot), wl_R_giveUnitsToCalls_2 xR xU xI xW post n2 xU_ xI_ xW_ v1_ → va_P (dC, dI) vwCl (wd_RUIW qR qU qI qW cI cZ cL xR xU_ xI_ xW_) H → va_D A (wd_RUIW qR qU qI qW cI cZ cL xR xU_ xI_ xW_) → va_S A s.heap H locs → lv_has ls 3 [(0, .ref (qR 0)), (1, .int v1_)] → W p l e (headSpec w_R_giveUnitsToCalls ({ frames := 3, cells := 0, slots := 0, locals := 81 } : Room)).room s m ([.ref (qR 0)] : List Value).toArray below meth c H locs 0 0 Q (F0 m 2 ls []) := by
    intro n2
    induction n2 with
    | zero => intro xU_ xI_ xW_ v1_ H locs ls hw; exact hw.elim
    | succ n2 ih2 =>
      intro xU_ xI_ xW_ v1_ H locs ls hw hP hD hS hl
      unfold wl_R_giveUnitsToCalls_2 at hw
      refine lv_iload_n hx hb d_R_giveUnitsToCalls_2 rfl (lv_at hl 1 rfl) ?_
      refine lv_bipush (v := (30 : Int32)) hx hb d_R_giveUnitsToCalls_3 (by decide) ?_
      refine lv_icmp_ge (tgt := 50) hx hb d_R_giveUnitsToCalls_5 (by decide) (fun c5 => ?_) (fun c5 => ?_)
      · have hw := hw.1 c5
        exact hret (xU_, xI_, xW_) _ _ _ _ _ _ hw hP hD hS (Nat.le_of_ble_eq_true rfl) (Nat.le_of_ble_eq_true rfl) d_R_giveUnitsToCalls_50
      · have hw := hw.2 c5
        refine lv_aload_n hx hb d_R_giveUnitsToCalls_8 rfl (lv_at hl 0 rfl) ?_
        refine va_get (D := (dC, dI)) (ci := 3) (v := .ref (qW 0)) (C := "ReleaseRows") (T := T_R) (N := 6) hx hb hts in_R hown hK hP 0 rfl rfl 2 (by decide) (hts _ k_159) (fun _ h9 => h9) rfl d_R_giveUnitsToCalls_9 ?_
        refine va_get (D := (dC, dI)) (ci := 2) (v := .int (xW_.2 1)) (C := "ReleaseRows$WaitingRow") (T := T_W) (N := 2) hx hb hts in_W hown hK hP 23 rfl rfl 1 (by decide) (hts _ k_151) (fun _ h9 => h9) rfl d_R_giveUnitsToCalls_12 ?_
        refine lv_if_le (tgt := 50) hx hb d_R_giveUnitsToCalls_15 (by decide) (fun c15 => ?_) (fun c15 => ?_)
        · have hw := hw.1 c15
          exact hret (xU_, xI_, xW_) _ _ _ _ _ _ hw hP hD hS (Nat.le_of_ble_eq_true rfl) (Nat.le_of_ble_eq_true rfl) d_R_giveUnitsToCalls_50
        · have hw := hw.2 c15
          refine lv_aload_n hx hb d_R_giveUnitsToCalls_18 rfl (lv_at hl 0 rfl) ?_
          refine va_get (D := (dC, dI)) (ci := 3) (v := .ref (qU 0)) (C := "ReleaseRows") (T := T_R) (N := 6) hx hb hts in_R hown hK hP 0 rfl rfl 0 (by decide) (hts _ k_157) (fun _ h9 => h9) rfl d_R_giveUnitsToCalls_19 ?_
          refine x_ci (w2 := fun _ => (wd_RUIW qR qU qI qW cI cZ cL xR xU_ xI_ xW_)) [2, 3, 4, 5, 6, 7, 8, 9, 10, 11, 12] [0, 1, 13, 14, 15, 16, 17, 18, 19, 20, 21, 22, 23, 24] [0, 1, 14, 15, 16, 17, 18, 19, 20, 21, 22, 23, 24, 2, 3, 4, 5, 6, 7, 8, 9, 10, 11, 12, 13] (va_runV (As := []) (rest := []) ⟨hx, hb, hml, hown, hts⟩ (c_U_nearestReady l dC dI cI cZ cL qU _ xU_ _ hw) (cwV 0 hts (x_gV k_317 k_318 k_319 k_27 k_320) rfl rfl rfl (by decide +kernel) ⟨Nat.le_of_ble_eq_true rfl, Nat.le_of_ble_eq_true rfl⟩) ⟨x_blind, va_recv hK hP (ci := 1) (q0 := 2) rfl rfl, fun U hU hW => x_pre (isC := [2, 3, 4, 5, 6, 7, 8, 9, 10, 11, 12]) hK hP hD rfl rfl hU hW⟩ rfl rfl hl.1 rfl (lv_room (Nat.le_of_ble_eq_true rfl)) d_R_giveUnitsToCalls_22 ⟨Nat.le_of_ble_eq_true rfl, Nat.le_of_ble_eq_true rfl⟩) hP hD hS hA rfl rfl rfl (by decide) (fun _ => rfl) rfl (fun r22 _ H locs hw hP hD hS => ?_)
          refine lv_istore_n (lv' := [(2, .int r22), (0, .ref (qR 0)), (1, .int v1_)]) hx hb d_R_giveUnitsToCalls_25 rfl hl (by decide) rfl (fun ls hl => ?_)
          refine lv_iload_n hx hb d_R_giveUnitsToCalls_26 rfl (lv_at hl 0 rfl) ?_
          refine lv_iconst (v := (-1 : Int32)) hx hb d_R_giveUnitsToCalls_27 (by decide) ?_
          refine lv_icmp_ne (tgt := 32) hx hb d_R_giveUnitsToCalls_28 (by decide) (fun c28 => ?_) (fun c28 => ?_)
          · have hw := hw.1 c28
            refine lv_aload_n hx hb d_R_giveUnitsToCalls_32 rfl (lv_at hl 1 rfl) ?_
            refine lv_iload_n hx hb d_R_giveUnitsToCalls_33 rfl (lv_at hl 0 rfl) ?_
            refine lv_aload_n hx hb d_R_giveUnitsToCalls_34 rfl (lv_at hl 1 rfl) ?_
            refine va_get (D := (dC, dI)) (ci := 3) (v := .ref (qW 0)) (C := "ReleaseRows") (T := T_R) (N := 6) hx hb hts in_R hown hK hP 0 rfl rfl 2 (by decide) (hts _ k_159) (fun _ h9 => h9) rfl d_R_giveUnitsToCalls_35 ?_
            refine x_ci (w2 := fun u38 => (wd_RUIW qR qU qI qW cI cZ cL xR xU_ xI_ u38)) [23, 24] [0, 1, 2, 3, 4, 5, 6, 7, 8, 9, 10, 11, 12, 13, 14, 15, 16, 17, 18, 19, 20, 21, 22] [0, 1, 2, 3, 4, 5, 6, 7, 8, 9, 10, 11, 12, 13, 14, 15, 16, 17, 18, 19, 20, 21, 22, 23, 24] (va_runV (As := []) (rest := [.int r22, .ref (qR 0)]) ⟨hx, hb, hml, hown, hts⟩ (c_W_takeFirst l dC dI cI cZ cL qW _ xW_ _ hw) (cwV 0 hts (x_gV k_321 k_322 k_323 k_29 k_324) rfl rfl rfl (by decide +kernel) ⟨Nat.le_of_ble_eq_true rfl, Nat.le_of_ble_eq_true rfl⟩) ⟨x_blind, va_recv hK hP (ci := 2) (q0 := 23) rfl rfl, fun U hU hW => x_pre (isC := [23, 24]) hK hP hD rfl rfl hU hW⟩ rfl rfl hl.1 rfl (lv_room (Nat.le_of_ble_eq_true rfl)) d_R_giveUnitsToCalls_38 ⟨Nat.le_of_ble_eq_true rfl, Nat.le_of_ble_eq_true rfl⟩) hP hD hS hA rfl rfl rfl (by decide) (fun _ => rfl) rfl (fun r38 u38 H locs hw hP hD hS => ?_)
            refine x_cv (w2 := fun u41 => (wd_RUIW qR qU qI qW cI cZ cL xR u41.1 u41.2 u38)) [0, 1, 2, 3, 4, 5, 6, 7, 8, 9, 10, 11, 12, 13, 14, 15, 16, 17, 18, 19, 20, 21, 22, 23, 24] [] [0, 1, 2, 3, 4, 5, 6, 7, 8, 9, 10, 11, 12, 13, 14, 15, 16, 17, 18, 19, 20, 21, 22, 23, 24] (va_runV (As := [.int r22, .int r38]) (rest := []) ⟨hx, hb, hml, hown, hts⟩ (c_R_bring l dC dI cI cZ cL qR qU qI qW _ xR xU_ xI_ u38 r22 r38 _ hw) (cwV 2 hts (x_gV k_328 k_330 k_5 k_26 k_331) rfl rfl rfl (by decide +kernel) ⟨Nat.le_of_ble_eq_true rfl, Nat.le_of_ble_eq_true rfl⟩) ⟨x_blind, va_recv hK hP (ci := 3) (q0 := 0) rfl rfl, fun U hU hW => x_pre (isC := [0, 1, 2, 3, 4, 5, 6, 7, 8, 9, 10, 11, 12, 13, 14, 15, 16, 17, 18, 19, 20, 21, 22, 23, 24]) hK hP hD rfl rfl hU hW⟩ rfl rfl hl.1 rfl (lv_room (Nat.le_of_ble_eq_true rfl)) d_R_giveUnitsToCalls_41 ⟨Nat.le_of_ble_eq_true rfl, Nat.le_of_ble_eq_true rfl⟩) hP hD hS hA rfl rfl rfl (by decide) (fun _ => rfl) rfl (fun u41 H locs hw hP hD hS => ?_)
            obtain ⟨v1_44, ev1_44⟩ : ∃ y : Int32, y = v1_ + 1 := ⟨_, rfl⟩
            have hw := hw v1_44 ev1_44
            refine lv_iinc (v := v1_44) (lv' := [(1, .int v1_44), (2, .int r22), (0, .ref (qR 0))]) hx hb d_R_giveUnitsToCalls_44 hl (k := 2) rfl (by rw [ev1_44]; rfl) (by decide) rfl (fun ls hl => ?_)
            refine lv_goto (tgt := 2) hx hb d_R_giveUnitsToCalls_47 (by decide) ?_
            exact ih2 u41.1 u41.2 u38 v1_44 _ _ _ hw hP hD hS (lv_sub hl [2, 0] rfl)
          · have hw := hw.2 c28
            exact hret (xU_, xI_, xW_) _ _ _ _ _ _ hw hP hD hS (Nat.le_of_ble_eq_true rfl) (Nat.le_of_ble_eq_true rfl) d_R_giveUnitsToCalls_31
  unfold wp_R_giveUnitsToCalls at hw
  refine lv_iconst (v := (0 : Int32)) hx hb d_R_giveUnitsToCalls_0 (by decide) ?_
  refine lv_istore_n (lv' := [(1, .int (0 : Int32)), (0, .ref (qR 0))]) hx hb d_R_giveUnitsToCalls_1 rfl hl (by decide) rfl (fun ls hl => ?_)
  obtain ⟨n9, hw⟩ := hw
  exact lp2 n9 xU xI xW (0 : Int32) _ _ _ hw hP hD hS (lv_sub hl [1, 0] rfl)

def wj_R_closeIncidents_67 (xR : St) (xU : St) (xI : St) (xW : St) (post : Int32 → St → Prop) (rec4 : St → Int32 → Int32 → Prop) (xI_ : St) (v1_ : Int32) (v2_ : Int32) : Prop := ∀ v2_67 : Int32, v2_67 = v2_ + 1 → (rec4 xI_ v1_ v2_67)
def wl_R_closeIncidents_4 (xR : St) (xU : St) (xI : St) (xW : St) (post : Int32 → St → Prop) : Nat → St → Int32 → Int32 → Prop
  | 0 => fun _ _ _ => False
  | n9 + 1 => fun xI_ v1_ v2_ => ((xI_.2 9) ≤ v2_ → (post v1_ xI_)) ∧ (¬ (xI_.2 9) ≤ v2_ → (wp_I_mayClose xI_ v2_ (xR.2 4) (fun r24 _ => ((r24 = 0 → (wj_R_closeIncidents_67 xR xU xI xW post (wl_R_closeIncidents_4 xR xU xI xW post n9) xI_ v1_ v2_)) ∧ (¬ r24 = 0 → (wp_U_countAt xU v2_ (fun r35 _ => ((¬ r35 = 0 → (wj_R_closeIncidents_67 xR xU xI xW post (wl_R_closeIncidents_4 xR xU xI xW post n9) xI_ v1_ v2_)) ∧ (r35 = 0 → (wp_W_countFor xW v2_ (fun r46 _ => ((¬ r46 = 0 → (wj_R_closeIncidents_67 xR xU xI xW post (wl_R_closeIncidents_4 xR xU xI xW post n9) xI_ v1_ v2_)) ∧ (r46 = 0 → (wp_I_close xI_ v2_ (xR.2 4) (fun u61 => (∀ v1_64 : Int32, v1_64 = v1_ + 1 → (wj_R_closeIncidents_67 xR xU xI xW post (wl_R_closeIncidents_4 xR xU xI xW post n9) u61 v1_64 v2_)))))))))))))))))
def wp_R_closeIncidents (xR : St) (xU : St) (xI : St) (xW : St) (post : Int32 → St → Prop) : Prop := ∃ k9 : Nat, wl_R_closeIncidents_4 xR xU xI xW post k9 xI (0 : Int32) (0 : Int32)
set_option maxHeartbeats 4000000 in
set_option maxRecDepth 100000 in
theorem c_R_closeIncidents (l : Launch) (dC : Nat → ClassId) (dI : Nat → Nat → Nat) (cI cZ cL : ClassId) (qR : Nat → Nat) (qU : Nat → Nat) (qI : Nat → Nat) (qW : Nat → Nat) (sz : Nat) (xR : St) (xU : St) (xI : St) (xW : St) (post : Int32 → St → Prop) (hw : wp_R_closeIncidents xR xU xI xW post) : Met l y_R_closeIncidents w_R_closeIncidents ({ frames := 1, cells := 0, slots := 0, locals := 23 } : Room) (va_Pc [.ref (qR 0)] (xP (dC, dI) vwCl [(cI, .int), (cZ, .boolean), (cL, .long)] (wd_RUIW qR qU qI qW cI cZ cL xR xU xI xW) sz)) (va_Qi post (xB (dC, dI) vwCl [(cI, .int), (cZ, .boolean), (cL, .long)] (va_A (wd_RUIW qR qU qI qW cI cZ cL xR xU xI xW) sz) (fun u => (wd_RUIW qR qU qI qW cI cZ cL xR xU u xW))) (va_A (wd_RUIW qR qU qI qW cI cZ cL xR xU xI xW) sz)) 0 0 (va_A (wd_RUIW qR qU qI qW cI cZ cL xR xU xI xW) sz) := by
  refine x_ofI (cc := b_R_closeIncidents) (maxL := 3) (by decide) rfl (Nat.le_of_ble_eq_true rfl) (fun p e s m below meth c A Q hx hb hml hts hown hK hA hP hD hS hret ls hl => ?_)
  have hl : lv_has ls 3 [(0, .ref (qR 0))] := hl
  have lp4 : ∀ (n4 : Nat) (xI_ : St) (v1_ : Int32) (v2_ : Int32) (H : Heap) (locs : List Loc) (ls : Array Slot), wl_R_closeIncidents_4 xR xU xI xW post n4 xI_ v1_ v2_ → va_P (dC, dI) vwCl (wd_RUIW qR qU qI qW cI cZ cL xR xU xI_ xW) H → va_D A (wd_RUIW qR qU qI qW cI cZ cL xR xU xI_ xW) → va_S A s.heap H locs → lv_has ls 3 [(0, .ref (qR 0)), (1, .int v1_), (2, .int v2_)] → W p l e (headSpec w_R_closeIncidents ({ frames := 1, cells := 0, slots := 0, locals := 23 } : Room)).room s m ([.ref (qR 0)] : List Value).toArray below meth c H locs 0 0 Q (F0 m 4 ls []) := by
    intro n4
    induction n4 with
    | zero => intro xI_ v1_ v2_ H locs ls hw; exact hw.elim
    | succ n4 ih4 =>
      have jn67 : ∀ (xI_ : St) (v1_ : Int32) (v2_ : Int32) (H : Heap) (locs : List Loc) (ls : Array Slot), wj_R_closeIncidents_67 xR xU xI xW post (wl_R_closeIncidents_4 xR xU xI xW post n4) xI_ v1_ v2_ → va_P (dC, dI) vwCl (wd_RUIW qR qU qI qW cI cZ cL xR xU xI_ xW) H → va_D A (wd_RUIW qR qU qI qW cI cZ cL xR xU xI_ xW) → va_S A s.heap H locs → lv_has ls 3 [(0, .ref (qR 0)), (1, .int v1_), (2, .int v2_)] → W p l e (headSpec w_R_closeIncidents ({ frames := 1, cells := 0, slots := 0, locals := 23 } : Room)).room s m ([.ref (qR 0)] : List Value).toArray below meth c H locs 0 0 Q (F0 m 67 ls []) := by
        intro xI_ v1_ v2_ H locs ls hw hP hD hS hl
        unfold wj_R_closeIncidents_67 at hw
        obtain ⟨v2_67, ev2_67⟩ : ∃ y : Int32, y = v2_ + 1 := ⟨_, rfl⟩
        have hw := hw v2_67 ev2_67
        refine lv_iinc (v := v2_67) (lv' := [(2, .int v2_67), (0, .ref (qR 0)), (1, .int v1_)]) hx hb d_R_closeIncidents_67 hl (k := 2) rfl (by rw [ev2_67]; rfl) (by decide) rfl (fun ls hl => ?_)
        refine lv_goto (tgt := 4) hx hb d_R_closeIncidents_70 (by decide) ?_
        exact ih4 xI_ v1_ v2_67 _ _ _ hw hP hD hS (lv_sub hl [1, 2, 0] rfl)
      intro xI_ v1_ v2_ H locs ls hw hP hD hS hl
      unfold wl_R_closeIncidents_4 at hw
      refine lv_iload_n hx hb d_R_closeIncidents_4 rfl (lv_at hl 2 rfl) ?_
      refine lv_aload_n hx hb d_R_closeIncidents_5 rfl (lv_at hl 0 rfl) ?_
      refine va_get (D := (dC, dI)) (ci := 3) (v := .ref (qI 0)) (C := "ReleaseRows") (T := T_R) (N := 6) hx hb hts in_R hown hK hP 0 rfl rfl 1 (by decide) (hts _ k_158) (fun _ h9 => h9) rfl d_R_closeIncidents_6 ?_
      refine va_get (D := (dC, dI)) (ci := 0) (v := .int (xI_.2 9)) (C := "ReleaseRows$IncidentRows") (T := T_I) (N := 10) hx hb hts in_I hown hK hP 13 rfl rfl 9 (by decide) (hts _ k_120) (fun _ h9 => h9) rfl d_R_closeIncidents_9 ?_
      refine lv_icmp_ge (tgt := 73) hx hb d_R_closeIncidents_12 (by decide) (fun c12 => ?_) (fun c12 => ?_)
      · have hw := hw.1 c12
        refine lv_iload_n hx hb d_R_closeIncidents_73 rfl (lv_at hl 1 rfl) ?_
        exact hret v1_ xI_ _ _ _ _ _ _ rfl hw hP hD hS (Nat.le_of_ble_eq_true rfl) (Nat.le_of_ble_eq_true rfl) d_R_closeIncidents_74
      · have hw := hw.2 c12
        refine lv_aload_n hx hb d_R_closeIncidents_15 rfl (lv_at hl 0 rfl) ?_
        refine va_get (D := (dC, dI)) (ci := 3) (v := .ref (qI 0)) (C := "ReleaseRows") (T := T_R) (N := 6) hx hb hts in_R hown hK hP 0 rfl rfl 1 (by decide) (hts _ k_158) (fun _ h9 => h9) rfl d_R_closeIncidents_16 ?_
        refine lv_iload_n hx hb d_R_closeIncidents_19 rfl (lv_at hl 2 rfl) ?_
        refine lv_aload_n hx hb d_R_closeIncidents_20 rfl (lv_at hl 0 rfl) ?_
        refine va_get (D := (dC, dI)) (ci := 3) (v := .int (xR.2 4)) (C := "ReleaseRows") (T := T_R) (N := 6) hx hb hts in_R hown hK hP 0 rfl rfl 4 (by decide) (hts _ k_161) (fun _ h9 => h9) rfl d_R_closeIncidents_21 ?_
        refine x_ci (w2 := fun _ => (wd_RUIW qR qU qI qW cI cZ cL xR xU xI_ xW)) [13, 14, 15, 16, 17, 18, 19, 20, 21, 22] [0, 1, 2, 3, 4, 5, 6, 7, 8, 9, 10, 11, 12, 23, 24] [0, 1, 2, 3, 4, 5, 6, 7, 8, 9, 10, 11, 12, 15, 16, 17, 18, 19, 20, 21, 22, 23, 24, 13, 14] (va_runV (As := [.int v2_, .int (xR.2 4)]) (rest := []) ⟨hx, hb, hml, hown, hts⟩ (c_I_mayClose l dC dI cI cZ cL qI _ xI_ v2_ (xR.2 4) _ hw) (cwV 2 hts (x_gV k_340 k_341 k_342 k_28 k_343) rfl rfl rfl (by decide +kernel) ⟨Nat.le_of_ble_eq_true rfl, Nat.le_of_ble_eq_true rfl⟩) ⟨x_blind, va_recv hK hP (ci := 0) (q0 := 13) rfl rfl, fun U hU hW => x_pre (isC := [13, 14, 15, 16, 17, 18, 19, 20, 21, 22]) hK hP hD rfl rfl hU hW⟩ rfl rfl hl.1 rfl (lv_room (Nat.le_of_ble_eq_true rfl)) d_R_closeIncidents_24 ⟨Nat.le_of_ble_eq_true rfl, Nat.le_of_ble_eq_true rfl⟩) hP hD hS hA rfl rfl rfl (by decide) (fun _ => rfl) rfl (fun r24 _ H locs hw hP hD hS => ?_)
        refine lv_if_eq (tgt := 67) hx hb d_R_closeIncidents_27 (by decide) (fun c27 => ?_) (fun c27 => ?_)
        · have hw := hw.1 c27
          exact jn67 xI_ v1_ v2_ _ _ _ hw hP hD hS hl
        · have hw := hw.2 c27
          refine lv_aload_n hx hb d_R_closeIncidents_30 rfl (lv_at hl 0 rfl) ?_
          refine va_get (D := (dC, dI)) (ci := 3) (v := .ref (qU 0)) (C := "ReleaseRows") (T := T_R) (N := 6) hx hb hts in_R hown hK hP 0 rfl rfl 0 (by decide) (hts _ k_157) (fun _ h9 => h9) rfl d_R_closeIncidents_31 ?_
          refine lv_iload_n hx hb d_R_closeIncidents_34 rfl (lv_at hl 2 rfl) ?_
          refine x_ci (w2 := fun _ => (wd_RUIW qR qU qI qW cI cZ cL xR xU xI_ xW)) [2, 3, 4, 5, 6, 7, 8, 9, 10, 11, 12] [0, 1, 13, 14, 15, 16, 17, 18, 19, 20, 21, 22, 23, 24] [0, 1, 14, 15, 16, 17, 18, 19, 20, 21, 22, 23, 24, 2, 3, 4, 5, 6, 7, 8, 9, 10, 11, 12, 13] (va_runV (As := [.int v2_]) (rest := []) ⟨hx, hb, hml, hown, hts⟩ (c_U_countAt l dC dI cI cZ cL qU _ xU v2_ _ hw) (cwV 1 hts (x_gV k_344 k_345 k_346 k_27 k_347) rfl rfl rfl (by decide +kernel) ⟨Nat.le_of_ble_eq_true rfl, Nat.le_of_ble_eq_true rfl⟩) ⟨x_blind, va_recv hK hP (ci := 1) (q0 := 2) rfl rfl, fun U hU hW => x_pre (isC := [2, 3, 4, 5, 6, 7, 8, 9, 10, 11, 12]) hK hP hD rfl rfl hU hW⟩ rfl rfl hl.1 rfl (lv_room (Nat.le_of_ble_eq_true rfl)) d_R_closeIncidents_35 ⟨Nat.le_of_ble_eq_true rfl, Nat.le_of_ble_eq_true rfl⟩) hP hD hS hA rfl rfl rfl (by decide) (fun _ => rfl) rfl (fun r35 _ H locs hw hP hD hS => ?_)
          refine lv_if_ne (tgt := 67) hx hb d_R_closeIncidents_38 (by decide) (fun c38 => ?_) (fun c38 => ?_)
          · have hw := hw.1 c38
            exact jn67 xI_ v1_ v2_ _ _ _ hw hP hD hS hl
          · have hw := hw.2 c38
            refine lv_aload_n hx hb d_R_closeIncidents_41 rfl (lv_at hl 0 rfl) ?_
            refine va_get (D := (dC, dI)) (ci := 3) (v := .ref (qW 0)) (C := "ReleaseRows") (T := T_R) (N := 6) hx hb hts in_R hown hK hP 0 rfl rfl 2 (by decide) (hts _ k_159) (fun _ h9 => h9) rfl d_R_closeIncidents_42 ?_
            refine lv_iload_n hx hb d_R_closeIncidents_45 rfl (lv_at hl 2 rfl) ?_
            refine x_ci (w2 := fun _ => (wd_RUIW qR qU qI qW cI cZ cL xR xU xI_ xW)) [23, 24] [0, 1, 2, 3, 4, 5, 6, 7, 8, 9, 10, 11, 12, 13, 14, 15, 16, 17, 18, 19, 20, 21, 22] [0, 1, 2, 3, 4, 5, 6, 7, 8, 9, 10, 11, 12, 13, 14, 15, 16, 17, 18, 19, 20, 21, 22, 23, 24] (va_runV (As := [.int v2_]) (rest := []) ⟨hx, hb, hml, hown, hts⟩ (c_W_countFor l dC dI cI cZ cL qW _ xW v2_ _ hw) (cwV 1 hts (x_gV k_348 k_349 k_350 k_29 k_351) rfl rfl rfl (by decide +kernel) ⟨Nat.le_of_ble_eq_true rfl, Nat.le_of_ble_eq_true rfl⟩) ⟨x_blind, va_recv hK hP (ci := 2) (q0 := 23) rfl rfl, fun U hU hW => x_pre (isC := [23, 24]) hK hP hD rfl rfl hU hW⟩ rfl rfl hl.1 rfl (lv_room (Nat.le_of_ble_eq_true rfl)) d_R_closeIncidents_46 ⟨Nat.le_of_ble_eq_true rfl, Nat.le_of_ble_eq_true rfl⟩) hP hD hS hA rfl rfl rfl (by decide) (fun _ => rfl) rfl (fun r46 _ H locs hw hP hD hS => ?_)
            refine lv_if_ne (tgt := 67) hx hb d_R_closeIncidents_49 (by decide) (fun c49 => ?_) (fun c49 => ?_)
            · have hw := hw.1 c49
              exact jn67 xI_ v1_ v2_ _ _ _ hw hP hD hS hl
            · have hw := hw.2 c49
              refine lv_aload_n hx hb d_R_closeIncidents_52 rfl (lv_at hl 0 rfl) ?_
              refine va_get (D := (dC, dI)) (ci := 3) (v := .ref (qI 0)) (C := "ReleaseRows") (T := T_R) (N := 6) hx hb hts in_R hown hK hP 0 rfl rfl 1 (by decide) (hts _ k_158) (fun _ h9 => h9) rfl d_R_closeIncidents_53 ?_
              refine lv_iload_n hx hb d_R_closeIncidents_56 rfl (lv_at hl 2 rfl) ?_
              refine lv_aload_n hx hb d_R_closeIncidents_57 rfl (lv_at hl 0 rfl) ?_
              refine va_get (D := (dC, dI)) (ci := 3) (v := .int (xR.2 4)) (C := "ReleaseRows") (T := T_R) (N := 6) hx hb hts in_R hown hK hP 0 rfl rfl 4 (by decide) (hts _ k_161) (fun _ h9 => h9) rfl d_R_closeIncidents_58 ?_
              refine x_cv (w2 := fun u61 => (wd_RUIW qR qU qI qW cI cZ cL xR xU u61 xW)) [13, 14, 15, 16, 17, 18, 19, 20, 21, 22] [0, 1, 2, 3, 4, 5, 6, 7, 8, 9, 10, 11, 12, 23, 24] [0, 1, 2, 3, 4, 5, 6, 7, 8, 9, 10, 11, 12, 15, 16, 17, 18, 19, 20, 21, 22, 23, 24, 13, 14] (va_runV (As := [.int v2_, .int (xR.2 4)]) (rest := []) ⟨hx, hb, hml, hown, hts⟩ (c_I_close l dC dI cI cZ cL qI _ xI_ v2_ (xR.2 4) _ hw) (cwV 2 hts (x_gV k_352 k_353 k_354 k_28 k_355) rfl rfl rfl (by decide +kernel) ⟨Nat.le_of_ble_eq_true rfl, Nat.le_of_ble_eq_true rfl⟩) ⟨x_blind, va_recv hK hP (ci := 0) (q0 := 13) rfl rfl, fun U hU hW => x_pre (isC := [13, 14, 15, 16, 17, 18, 19, 20, 21, 22]) hK hP hD rfl rfl hU hW⟩ rfl rfl hl.1 rfl (lv_room (Nat.le_of_ble_eq_true rfl)) d_R_closeIncidents_61 ⟨Nat.le_of_ble_eq_true rfl, Nat.le_of_ble_eq_true rfl⟩) hP hD hS hA rfl rfl rfl (by decide) (fun _ => rfl) rfl (fun u61 H locs hw hP hD hS => ?_)
              obtain ⟨v1_64, ev1_64⟩ : ∃ y : Int32, y = v1_ + 1 := ⟨_, rfl⟩
              have hw := hw v1_64 ev1_64
              refine lv_iinc (v := v1_64) (lv' := [(1, .int v1_64), (0, .ref (qR 0)), (2, .int v2_)]) hx hb d_R_closeIncidents_64 hl (k := 1) rfl (by rw [ev1_64]; rfl) (by decide) rfl (fun ls hl => ?_)
              exact jn67 u61 v1_64 v2_ _ _ _ hw hP hD hS (lv_sub hl [1, 0, 2] rfl)
  unfold wp_R_closeIncidents at hw
  refine lv_iconst (v := (0 : Int32)) hx hb d_R_closeIncidents_0 (by decide) ?_
  refine lv_istore_n (lv' := [(1, .int (0 : Int32)), (0, .ref (qR 0))]) hx hb d_R_closeIncidents_1 rfl hl (by decide) rfl (fun ls hl => ?_)
  refine lv_iconst (v := (0 : Int32)) hx hb d_R_closeIncidents_2 (by decide) ?_
  refine lv_istore_n (lv' := [(2, .int (0 : Int32)), (1, .int (0 : Int32)), (0, .ref (qR 0))]) hx hb d_R_closeIncidents_3 rfl hl (by decide) rfl (fun ls hl => ?_)
  obtain ⟨n9, hw⟩ := hw
  exact lp4 n9 xI (0 : Int32) (0 : Int32) _ _ _ hw hP hD hS (lv_sub hl [2, 1, 0] rfl)

def wl_R_settle_2 (xR : St) (xU : St) (xI : St) (xW : St) (post : Int32 → (St × St × St × St) → Prop) : Nat → St → St → St → St → Int32 → Prop
  | 0 => fun _ _ _ _ _ => False
  | n9 + 1 => fun xR_ xU_ xI_ xW_ v1_ => ((xU_.2 10) ≤ v1_ → (wp_R_giveUnitsToCalls xR_ xU_ xI_ xW_ (fun u36 => (wp_R_closeIncidents xR_ u36.1 u36.2.1 u36.2.2 (fun r40 u40 => (post r40 (xR_, u36.1, u40, u36.2.2))))))) ∧ (¬ (xU_.2 10) ≤ v1_ → (wp_U_goOn xU_ (xR_.1 3) v1_ (xR_.2 4) (fun u26 => (∀ v1_29 : Int32, v1_29 = v1_ + 1 → ((wl_R_settle_2 xR xU xI xW post n9) (sR xR_ 3 u26.2) u26.1 xI_ xW_ v1_29)))))
def wp_R_settle (xR : St) (xU : St) (xI : St) (xW : St) (post : Int32 → (St × St × St × St) → Prop) : Prop := ∃ k9 : Nat, wl_R_settle_2 xR xU xI xW post k9 xR xU xI xW (0 : Int32)
set_option maxHeartbeats 4000000 in
set_option maxRecDepth 100000 in
theorem c_R_settle (l : Launch) (dC : Nat → ClassId) (dI : Nat → Nat → Nat) (cI cZ cL : ClassId) (qR : Nat → Nat) (qU : Nat → Nat) (qI : Nat → Nat) (qW : Nat → Nat) (sz : Nat) (xR : St) (xU : St) (xI : St) (xW : St) (post : Int32 → (St × St × St × St) → Prop) (hw : wp_R_settle xR xU xI xW post) : Met l y_R_settle w_R_settle ({ frames := 4, cells := 0, slots := 0, locals := 103 } : Room) (va_Pc [.ref (qR 0)] (xP (dC, dI) vwCl [(cI, .int), (cZ, .boolean), (cL, .long)] (wd_RUIW qR qU qI qW cI cZ cL xR xU xI xW) sz)) (va_Qi post (xB (dC, dI) vwCl [(cI, .int), (cZ, .boolean), (cL, .long)] (va_A (wd_RUIW qR qU qI qW cI cZ cL xR xU xI xW) sz) (fun u => (wd_RUIW qR qU qI qW cI cZ cL u.1 u.2.1 u.2.2.1 u.2.2.2))) (va_A (wd_RUIW qR qU qI qW cI cZ cL xR xU xI xW) sz)) 0 0 (va_A (wd_RUIW qR qU qI qW cI cZ cL xR xU xI xW) sz) := by
  refine x_ofI (cc := b_R_settle) (maxL := 2) (by decide) rfl (Nat.le_of_ble_eq_true rfl) (fun p e s m below meth c A Q hx hb hml hts hown hK hA hP hD hS hret ls hl => ?_)
  have hl : lv_has ls 2 [(0, .ref (qR 0))] := hl
  have lp2 : ∀ (n2 : Nat) (xR_ : St) (xU_ : St) (xI_ : St) (xW_ : St) (v1_ : Int32) (H : Heap) (locs : List Loc) (ls : Array Slot), wl_R_settle_2 xR xU xI xW post n2 xR_ xU_ xI_ xW_ v1_ → va_P (dC, dI) vwCl (wd_RUIW qR qU qI qW cI cZ cL xR_ xU_ xI_ xW_) H → va_D A (wd_RUIW qR qU qI qW cI cZ cL xR_ xU_ xI_ xW_) → va_S A s.heap H locs → lv_has ls 2 [(0, .ref (qR 0)), (1, .int v1_)] → W p l e (headSpec w_R_settle ({ frames := 4, cells := 0, slots := 0, locals := 103 } : Room)).room s m ([.ref (qR 0)] : List Value).toArray below meth c H locs 0 0 Q (F0 m 2 ls []) := by
    intro n2
    induction n2 with
    | zero => intro xR_ xU_ xI_ xW_ v1_ H locs ls hw; exact hw.elim
    | succ n2 ih2 =>
      intro xR_ xU_ xI_ xW_ v1_ H locs ls hw hP hD hS hl
      unfold wl_R_settle_2 at hw
      refine lv_iload_n hx hb d_R_settle_2 rfl (lv_at hl 1 rfl) ?_
      refine lv_aload_n hx hb d_R_settle_3 rfl (lv_at hl 0 rfl) ?_
      refine va_get (D := (dC, dI)) (ci := 3) (v := .ref (qU 0)) (C := "ReleaseRows") (T := T_R) (N := 6) hx hb hts in_R hown hK hP 0 rfl rfl 0 (by decide) (hts _ k_157) (fun _ h9 => h9) rfl d_R_settle_4 ?_
      refine va_get (D := (dC, dI)) (ci := 1) (v := .int (xU_.2 10)) (C := "ReleaseRows$UnitRows") (T := T_U) (N := 11) hx hb hts in_U hown hK hP 2 rfl rfl 10 (by decide) (hts _ k_71) (fun _ h9 => h9) rfl d_R_settle_7 ?_
      refine lv_icmp_ge (tgt := 35) hx hb d_R_settle_10 (by decide) (fun c10 => ?_) (fun c10 => ?_)
      · have hw := hw.1 c10
        refine lv_aload_n hx hb d_R_settle_35 rfl (lv_at hl 0 rfl) ?_
        refine x_cv (w2 := fun u36 => (wd_RUIW qR qU qI qW cI cZ cL xR_ u36.1 u36.2.1 u36.2.2)) [0, 1, 2, 3, 4, 5, 6, 7, 8, 9, 10, 11, 12, 13, 14, 15, 16, 17, 18, 19, 20, 21, 22, 23, 24] [] [0, 1, 2, 3, 4, 5, 6, 7, 8, 9, 10, 11, 12, 13, 14, 15, 16, 17, 18, 19, 20, 21, 22, 23, 24] (va_runV (As := []) (rest := []) ⟨hx, hb, hml, hown, hts⟩ (c_R_giveUnitsToCalls l dC dI cI cZ cL qR qU qI qW _ xR_ xU_ xI_ xW_ _ hw) (cwV 0 hts (x_gV k_313 k_315 k_4 k_26 k_316) rfl rfl rfl (by decide +kernel) ⟨Nat.le_of_ble_eq_true rfl, Nat.le_of_ble_eq_true rfl⟩) ⟨x_blind, va_recv hK hP (ci := 3) (q0 := 0) rfl rfl, fun U hU hW => x_pre (isC := [0, 1, 2, 3, 4, 5, 6, 7, 8, 9, 10, 11, 12, 13, 14, 15, 16, 17, 18, 19, 20, 21, 22, 23, 24]) hK hP hD rfl rfl hU hW⟩ rfl rfl hl.1 rfl (lv_room (Nat.le_of_ble_eq_true rfl)) d_R_settle_36 ⟨Nat.le_of_ble_eq_true rfl, Nat.le_of_ble_eq_true rfl⟩) hP hD hS hA rfl rfl rfl (by decide) (fun _ => rfl) rfl (fun u36 H locs hw hP hD hS => ?_)
        refine lv_aload_n hx hb d_R_settle_39 rfl (lv_at hl 0 rfl) ?_
        refine x_ci (w2 := fun u40 => (wd_RUIW qR qU qI qW cI cZ cL xR_ u36.1 u40 u36.2.2)) [0, 1, 2, 3, 4, 5, 6, 7, 8, 9, 10, 11, 12, 13, 14, 15, 16, 17, 18, 19, 20, 21, 22, 23, 24] [] [0, 1, 2, 3, 4, 5, 6, 7, 8, 9, 10, 11, 12, 13, 14, 15, 16, 17, 18, 19, 20, 21, 22, 23, 24] (va_runV (As := []) (rest := []) ⟨hx, hb, hml, hown, hts⟩ (c_R_closeIncidents l dC dI cI cZ cL qR qU qI qW _ xR_ u36.1 u36.2.1 u36.2.2 _ hw) (cwV 0 hts (x_gV k_336 k_338 k_6 k_26 k_339) rfl rfl rfl (by decide +kernel) ⟨Nat.le_of_ble_eq_true rfl, Nat.le_of_ble_eq_true rfl⟩) ⟨x_blind, va_recv hK hP (ci := 3) (q0 := 0) rfl rfl, fun U hU hW => x_pre (isC := [0, 1, 2, 3, 4, 5, 6, 7, 8, 9, 10, 11, 12, 13, 14, 15, 16, 17, 18, 19, 20, 21, 22, 23, 24]) hK hP hD rfl rfl hU hW⟩ rfl rfl hl.1 rfl (lv_room (Nat.le_of_ble_eq_true rfl)) d_R_settle_40 ⟨Nat.le_of_ble_eq_true rfl, Nat.le_of_ble_eq_true rfl⟩) hP hD hS hA rfl rfl rfl (by decide) (fun _ => rfl) rfl (fun r40 u40 H locs hw hP hD hS => ?_)
        exact hret r40 (xR_, u36.1, u40, u36.2.2) _ _ _ _ _ _ rfl hw hP hD hS (Nat.le_of_ble_eq_true rfl) (Nat.le_of_ble_eq_true rfl) d_R_settle_43
      · have hw := hw.2 c10
        refine lv_aload_n hx hb d_R_settle_13 rfl (lv_at hl 0 rfl) ?_
        refine va_get (D := (dC, dI)) (ci := 3) (v := .ref (qU 0)) (C := "ReleaseRows") (T := T_R) (N := 6) hx hb hts in_R hown hK hP 0 rfl rfl 0 (by decide) (hts _ k_157) (fun _ h9 => h9) rfl d_R_settle_14 ?_
        refine lv_iload_n hx hb d_R_settle_17 rfl (lv_at hl 1 rfl) ?_
        refine lv_aload_n hx hb d_R_settle_18 rfl (lv_at hl 0 rfl) ?_
        refine va_get (D := (dC, dI)) (ci := 3) (v := .ref (qR 4)) (C := "ReleaseRows") (T := T_R) (N := 6) hx hb hts in_R hown hK hP 0 rfl rfl 3 (by decide) (hts _ k_160) (fun _ h9 => h9) rfl d_R_settle_19 ?_
        refine lv_aload_n hx hb d_R_settle_22 rfl (lv_at hl 0 rfl) ?_
        refine va_get (D := (dC, dI)) (ci := 3) (v := .int (xR_.2 4)) (C := "ReleaseRows") (T := T_R) (N := 6) hx hb hts in_R hown hK hP 0 rfl rfl 4 (by decide) (hts _ k_161) (fun _ h9 => h9) rfl d_R_settle_23 ?_
        refine x_cv (w2 := fun u26 => (wd_RUIW qR qU qI qW cI cZ cL (sR xR_ 3 u26.2) u26.1 xI_ xW_)) [2, 3, 4, 5, 6, 7, 8, 9, 10, 11, 12, 1] [0, 13, 14, 15, 16, 17, 18, 19, 20, 21, 22, 23, 24] [0, 24, 13, 14, 15, 16, 17, 18, 19, 20, 21, 22, 23, 1, 2, 3, 4, 5, 6, 7, 8, 9, 10, 11, 12] (va_runV (As := [.int v1_, .ref (qR 4), .int (xR_.2 4)]) (rest := []) ⟨hx, hb, hml, hown, hts⟩ (c_U_goOn l dC dI cI cZ cL qU (qR 4) _ xU_ (xR_.1 3) v1_ (xR_.2 4) _ hw) (cwV 3 hts (x_gV k_293 k_294 k_295 k_27 k_296) rfl rfl rfl (by decide +kernel) ⟨Nat.le_of_ble_eq_true rfl, Nat.le_of_ble_eq_true rfl⟩) ⟨x_blind, va_recv hK hP (ci := 1) (q0 := 2) rfl rfl, fun U hU hW => x_pre (isC := [2, 3, 4, 5, 6, 7, 8, 9, 10, 11, 12, 1]) hK hP hD rfl rfl hU hW⟩ rfl rfl hl.1 rfl (lv_room (Nat.le_of_ble_eq_true rfl)) d_R_settle_26 ⟨Nat.le_of_ble_eq_true rfl, Nat.le_of_ble_eq_true rfl⟩) hP hD hS hA rfl rfl rfl (by decide) (fun _ => rfl) rfl (fun u26 H locs hw hP hD hS => ?_)
        obtain ⟨v1_29, ev1_29⟩ : ∃ y : Int32, y = v1_ + 1 := ⟨_, rfl⟩
        have hw := hw v1_29 ev1_29
        refine lv_iinc (v := v1_29) (lv' := [(1, .int v1_29), (0, .ref (qR 0))]) hx hb d_R_settle_29 hl (k := 1) rfl (by rw [ev1_29]; rfl) (by decide) rfl (fun ls hl => ?_)
        refine lv_goto (tgt := 2) hx hb d_R_settle_32 (by decide) ?_
        exact ih2 (sR xR_ 3 u26.2) u26.1 xI_ xW_ v1_29 _ _ _ hw hP hD hS (lv_sub hl [1, 0] rfl)
  unfold wp_R_settle at hw
  refine lv_iconst (v := (0 : Int32)) hx hb d_R_settle_0 (by decide) ?_
  refine lv_istore_n (lv' := [(1, .int (0 : Int32)), (0, .ref (qR 0))]) hx hb d_R_settle_1 rfl hl (by decide) rfl (fun ls hl => ?_)
  obtain ⟨n9, hw⟩ := hw
  exact lp2 n9 xR xU xI xW (0 : Int32) _ _ _ hw hP hD hS (lv_sub hl [1, 0] rfl)

def wj_R_earlierAhead_17 (xR : St) (xU : St) (xI : St) (xW : St) (a1 : Int32) (a2 : Int32) (post : Int32 → Unit → Prop)  : Prop := post a2 ()
def wp_R_earlierAhead (xR : St) (xU : St) (xI : St) (xW : St) (a1 : Int32) (a2 : Int32) (post : Int32 → Unit → Prop) : Prop := (a1 ≤ (xR.2 4) → (wj_R_earlierAhead_17 xR xU xI xW a1 a2 post )) ∧ (¬ a1 ≤ (xR.2 4) → ((a2 ≤ a1 → (wj_R_earlierAhead_17 xR xU xI xW a1 a2 post )) ∧ (¬ a2 ≤ a1 → (post a1 ()))))
set_option maxHeartbeats 4000000 in
set_option maxRecDepth 100000 in
theorem c_R_earlierAhead (l : Launch) (dC : Nat → ClassId) (dI : Nat → Nat → Nat) (cI cZ cL : ClassId) (qR : Nat → Nat) (qU : Nat → Nat) (qI : Nat → Nat) (qW : Nat → Nat) (sz : Nat) (xR : St) (xU : St) (xI : St) (xW : St) (a1 : Int32) (a2 : Int32) (post : Int32 → Unit → Prop) (hw : wp_R_earlierAhead xR xU xI xW a1 a2 post) : Met l y_R_earlierAhead w_R_earlierAhead ({ frames := 0, cells := 0, slots := 0, locals := 0 } : Room) (va_Pc [.ref (qR 0), .int a1, .int a2] (xP (dC, dI) vwCl [(cI, .int), (cZ, .boolean), (cL, .long)] (wd_RUIW qR qU qI qW cI cZ cL xR xU xI xW) sz)) (va_Qi post (xB (dC, dI) vwCl [(cI, .int), (cZ, .boolean), (cL, .long)] (va_A (wd_RUIW qR qU qI qW cI cZ cL xR xU xI xW) sz) (fun _ => (wd_RUIW qR qU qI qW cI cZ cL xR xU xI xW))) (va_A (wd_RUIW qR qU qI qW cI cZ cL xR xU xI xW) sz)) 0 0 (va_A (wd_RUIW qR qU qI qW cI cZ cL xR xU xI xW) sz) := by
  refine x_ofI (cc := b_R_earlierAhead) (maxL := 3) (by decide) rfl (Nat.le_of_ble_eq_true rfl) (fun p e s m below meth c A Q hx hb hml hts hown hK hA hP hD hS hret ls hl => ?_)
  have hl : lv_has ls 3 [(0, .ref (qR 0)), (1, .int a1), (2, .int a2)] := hl
  have jn17 : ∀ (H : Heap) (locs : List Loc) (ls : Array Slot), wj_R_earlierAhead_17 xR xU xI xW a1 a2 post  → va_P (dC, dI) vwCl (wd_RUIW qR qU qI qW cI cZ cL xR xU xI xW) H → va_D A (wd_RUIW qR qU qI qW cI cZ cL xR xU xI xW) → va_S A s.heap H locs → lv_has ls 3 [(2, .int a2)] → W p l e (headSpec w_R_earlierAhead ({ frames := 0, cells := 0, slots := 0, locals := 0 } : Room)).room s m ([.ref (qR 0), .int a1, .int a2] : List Value).toArray below meth c H locs 0 0 Q (F0 m 17 ls []) := by
    intro  H locs ls hw hP hD hS hl
    unfold wj_R_earlierAhead_17 at hw
    refine lv_iload_n hx hb d_R_earlierAhead_17 rfl (lv_at hl 0 rfl) ?_
    exact hret a2 () _ _ _ _ _ _ rfl hw hP hD hS (Nat.le_of_ble_eq_true rfl) (Nat.le_of_ble_eq_true rfl) d_R_earlierAhead_18
  unfold wp_R_earlierAhead at hw
  refine lv_iload_n hx hb d_R_earlierAhead_0 rfl (lv_at hl 1 rfl) ?_
  refine lv_aload_n hx hb d_R_earlierAhead_1 rfl (lv_at hl 0 rfl) ?_
  refine va_get (D := (dC, dI)) (ci := 3) (v := .int (xR.2 4)) (C := "ReleaseRows") (T := T_R) (N := 6) hx hb hts in_R hown hK hP 0 rfl rfl 4 (by decide) (hts _ k_161) (fun _ h9 => h9) rfl d_R_earlierAhead_2 ?_
  refine lv_icmp_le (tgt := 17) hx hb d_R_earlierAhead_5 (by decide) (fun c5 => ?_) (fun c5 => ?_)
  · have hw := hw.1 c5
    exact jn17 _ _ _ hw hP hD hS (lv_sub hl [2] rfl)
  · have hw := hw.2 c5
    refine lv_iload_n hx hb d_R_earlierAhead_8 rfl (lv_at hl 1 rfl) ?_
    refine lv_iload_n hx hb d_R_earlierAhead_9 rfl (lv_at hl 2 rfl) ?_
    refine lv_icmp_ge (tgt := 17) hx hb d_R_earlierAhead_10 (by decide) (fun c10 => ?_) (fun c10 => ?_)
    · have hw := hw.1 c10
      exact jn17 _ _ _ hw hP hD hS (lv_sub hl [2] rfl)
    · have hw := hw.2 c10
      refine lv_iload_n hx hb d_R_earlierAhead_13 rfl (lv_at hl 1 rfl) ?_
      refine lv_goto (tgt := 18) hx hb d_R_earlierAhead_14 (by decide) ?_
      exact hret a1 () _ _ _ _ _ _ rfl hw hP hD hS (Nat.le_of_ble_eq_true rfl) (Nat.le_of_ble_eq_true rfl) d_R_earlierAhead_18

def wj_R_nextChange_75 (xR : St) (xU : St) (xI : St) (xW : St) (a1 : Int32) (post : Int32 → Unit → Prop) (rec37 : Int32 → Int32 → Prop) (v2_ : Int32) (v3_ : Int32) : Prop := ∀ v3_75 : Int32, v3_75 = v3_ + 1 → (rec37 v2_ v3_75)
def wl_R_nextChange_37 (xR : St) (xU : St) (xI : St) (xW : St) (a1 : Int32) (post : Int32 → Unit → Prop) : Nat → Int32 → Int32 → Prop
  | 0 => fun _ _ => False
  | n9 + 1 => fun v2_ v3_ => ((xI.2 9) ≤ v3_ → (post v2_ ())) ∧ (¬ (xI.2 9) ≤ v3_ → (vp_in v3_ 20 ∧ (((xI.1 1 v3_.toNatClampNeg) = 0 → (wj_R_nextChange_75 xR xU xI xW a1 post (wl_R_nextChange_37 xR xU xI xW a1 post n9) v2_ v3_)) ∧ (¬ (xI.1 1 v3_.toNatClampNeg) = 0 → (vp_in v3_ 20 ∧ (wp_R_earlierAhead xR xU xI xW (xI.1 5 v3_.toNatClampNeg) v2_ (fun r71 _ => (wj_R_nextChange_75 xR xU xI xW a1 post (wl_R_nextChange_37 xR xU xI xW a1 post n9) r71 v3_))))))))
def wl_R_nextChange_4 (xR : St) (xU : St) (xI : St) (xW : St) (a1 : Int32) (post : Int32 → Unit → Prop) : Nat → Int32 → Int32 → Prop
  | 0 => fun _ _ => False
  | n9 + 1 => fun v2_ v3_ => ((xU.2 10) ≤ v3_ → (∃ k9 : Nat, wl_R_nextChange_37 xR xU xI xW a1 post k9 v2_ (0 : Int32))) ∧ (¬ (xU.2 10) ≤ v3_ → (wp_U_workEnd xU v3_ (fun r21 _ => (wp_R_earlierAhead xR xU xI xW r21 v2_ (fun r25 _ => (∀ v3_29 : Int32, v3_29 = v3_ + 1 → ((wl_R_nextChange_4 xR xU xI xW a1 post n9) r25 v3_29)))))))
def wp_R_nextChange (xR : St) (xU : St) (xI : St) (xW : St) (a1 : Int32) (post : Int32 → Unit → Prop) : Prop := ∃ k9 : Nat, wl_R_nextChange_4 xR xU xI xW a1 post k9 a1 (0 : Int32)
set_option maxHeartbeats 4000000 in
set_option maxRecDepth 100000 in
theorem c_R_nextChange (l : Launch) (dC : Nat → ClassId) (dI : Nat → Nat → Nat) (cI cZ cL : ClassId) (qR : Nat → Nat) (qU : Nat → Nat) (qI : Nat → Nat) (qW : Nat → Nat) (sz : Nat) (xR : St) (xU : St) (xI : St) (xW : St) (a1 : Int32) (post : Int32 → Unit → Prop) (hw : wp_R_nextChange xR xU xI xW a1 post) : Met l y_R_nextChange w_R_nextChange ({ frames := 1, cells := 0, slots := 0, locals := 22 } : Room) (va_Pc [.ref (qR 0), .int a1] (xP (dC, dI) vwCl [(cI, .int), (cZ, .boolean), (cL, .long)] (wd_RUIW qR qU qI qW cI cZ cL xR xU xI xW) sz)) (va_Qi post (xB (dC, dI) vwCl [(cI, .int), (cZ, .boolean), (cL, .long)] (va_A (wd_RUIW qR qU qI qW cI cZ cL xR xU xI xW) sz) (fun _ => (wd_RUIW qR qU qI qW cI cZ cL xR xU xI xW))) (va_A (wd_RUIW qR qU qI qW cI cZ cL xR xU xI xW) sz)) 0 0 (va_A (wd_RUIW qR qU qI qW cI cZ cL xR xU xI xW) sz) := by
  refine x_ofI (cc := b_R_nextChange) (maxL := 4) (by decide) rfl (Nat.le_of_ble_eq_true rfl) (fun p e s m below meth c A Q hx hb hml hts hown hK hA hP hD hS hret ls hl => ?_)
  have hl : lv_has ls 4 [(0, .ref (qR 0)), (1, .int a1)] := hl
  have lp37 : ∀ (n37 : Nat) (v2_ : Int32) (v3_ : Int32) (H : Heap) (locs : List Loc) (ls : Array Slot), wl_R_nextChange_37 xR xU xI xW a1 post n37 v2_ v3_ → va_P (dC, dI) vwCl (wd_RUIW qR qU qI qW cI cZ cL xR xU xI xW) H → va_D A (wd_RUIW qR qU qI qW cI cZ cL xR xU xI xW) → va_S A s.heap H locs → lv_has ls 4 [(0, .ref (qR 0)), (2, .int v2_), (3, .int v3_)] → W p l e (headSpec w_R_nextChange ({ frames := 1, cells := 0, slots := 0, locals := 22 } : Room)).room s m ([.ref (qR 0), .int a1] : List Value).toArray below meth c H locs 0 0 Q (F0 m 37 ls []) := by
    intro n37
    induction n37 with
    | zero => intro v2_ v3_ H locs ls hw; exact hw.elim
    | succ n37 ih37 =>
      have jn75 : ∀ (v2_ : Int32) (v3_ : Int32) (H : Heap) (locs : List Loc) (ls : Array Slot), wj_R_nextChange_75 xR xU xI xW a1 post (wl_R_nextChange_37 xR xU xI xW a1 post n37) v2_ v3_ → va_P (dC, dI) vwCl (wd_RUIW qR qU qI qW cI cZ cL xR xU xI xW) H → va_D A (wd_RUIW qR qU qI qW cI cZ cL xR xU xI xW) → va_S A s.heap H locs → lv_has ls 4 [(0, .ref (qR 0)), (2, .int v2_), (3, .int v3_)] → W p l e (headSpec w_R_nextChange ({ frames := 1, cells := 0, slots := 0, locals := 22 } : Room)).room s m ([.ref (qR 0), .int a1] : List Value).toArray below meth c H locs 0 0 Q (F0 m 75 ls []) := by
        intro v2_ v3_ H locs ls hw hP hD hS hl
        unfold wj_R_nextChange_75 at hw
        obtain ⟨v3_75, ev3_75⟩ : ∃ y : Int32, y = v3_ + 1 := ⟨_, rfl⟩
        have hw := hw v3_75 ev3_75
        refine lv_iinc (v := v3_75) (lv' := [(3, .int v3_75), (0, .ref (qR 0)), (2, .int v2_)]) hx hb d_R_nextChange_75 hl (k := 2) rfl (by rw [ev3_75]; rfl) (by decide) rfl (fun ls hl => ?_)
        refine lv_goto (tgt := 37) hx hb d_R_nextChange_78 (by decide) ?_
        exact ih37 v2_ v3_75 _ _ _ hw hP hD hS (lv_sub hl [1, 2, 0] rfl)
      intro v2_ v3_ H locs ls hw hP hD hS hl
      unfold wl_R_nextChange_37 at hw
      refine lv_iload_n hx hb d_R_nextChange_37 rfl (lv_at hl 2 rfl) ?_
      refine lv_aload_n hx hb d_R_nextChange_38 rfl (lv_at hl 0 rfl) ?_
      refine va_get (D := (dC, dI)) (ci := 3) (v := .ref (qI 0)) (C := "ReleaseRows") (T := T_R) (N := 6) hx hb hts in_R hown hK hP 0 rfl rfl 1 (by decide) (hts _ k_158) (fun _ h9 => h9) rfl d_R_nextChange_39 ?_
      refine va_get (D := (dC, dI)) (ci := 0) (v := .int (xI.2 9)) (C := "ReleaseRows$IncidentRows") (T := T_I) (N := 10) hx hb hts in_I hown hK hP 13 rfl rfl 9 (by decide) (hts _ k_120) (fun _ h9 => h9) rfl d_R_nextChange_42 ?_
      refine lv_icmp_ge (tgt := 81) hx hb d_R_nextChange_45 (by decide) (fun c45 => ?_) (fun c45 => ?_)
      · have hw := hw.1 c45
        refine lv_iload_n hx hb d_R_nextChange_81 rfl (lv_at hl 1 rfl) ?_
        exact hret v2_ () _ _ _ _ _ _ rfl hw hP hD hS (Nat.le_of_ble_eq_true rfl) (Nat.le_of_ble_eq_true rfl) d_R_nextChange_82
      · have hw := hw.2 c45
        refine lv_aload_n hx hb d_R_nextChange_48 rfl (lv_at hl 0 rfl) ?_
        refine va_get (D := (dC, dI)) (ci := 3) (v := .ref (qI 0)) (C := "ReleaseRows") (T := T_R) (N := 6) hx hb hts in_R hown hK hP 0 rfl rfl 1 (by decide) (hts _ k_158) (fun _ h9 => h9) rfl d_R_nextChange_49 ?_
        refine va_get (D := (dC, dI)) (ci := 0) (v := .ref (qI 2)) (C := "ReleaseRows$IncidentRows") (T := T_I) (N := 10) hx hb hts in_I hown hK hP 13 rfl rfl 1 (by decide) (hts _ k_104) (fun _ h9 => h9) rfl d_R_nextChange_52 ?_
        refine lv_iload_n hx hb d_R_nextChange_55 rfl (lv_at hl 2 rfl) ?_
        obtain ⟨h56, hw⟩ := hw
        refine va_zald hx hb hK hP 15 1 rfl rfl h56 d_R_nextChange_56 ?_
        refine lv_if_eq (tgt := 75) hx hb d_R_nextChange_57 (by decide) (fun c57 => ?_) (fun c57 => ?_)
        · have hw := hw.1 c57
          exact jn75 v2_ v3_ _ _ _ hw hP hD hS hl
        · have hw := hw.2 c57
          refine lv_aload_n hx hb d_R_nextChange_60 rfl (lv_at hl 0 rfl) ?_
          refine lv_aload_n hx hb d_R_nextChange_61 rfl (lv_at hl 0 rfl) ?_
          refine va_get (D := (dC, dI)) (ci := 3) (v := .ref (qI 0)) (C := "ReleaseRows") (T := T_R) (N := 6) hx hb hts in_R hown hK hP 0 rfl rfl 1 (by decide) (hts _ k_158) (fun _ h9 => h9) rfl d_R_nextChange_62 ?_
          refine va_get (D := (dC, dI)) (ci := 0) (v := .ref (qI 6)) (C := "ReleaseRows$IncidentRows") (T := T_I) (N := 10) hx hb hts in_I hown hK hP 13 rfl rfl 5 (by decide) (hts _ k_112) (fun _ h9 => h9) rfl d_R_nextChange_65 ?_
          refine lv_iload_n hx hb d_R_nextChange_68 rfl (lv_at hl 2 rfl) ?_
          obtain ⟨h69, hw⟩ := hw
          refine va_iald hx hb hK hP 19 0 rfl rfl h69 d_R_nextChange_69 ?_
          refine lv_iload_n hx hb d_R_nextChange_70 rfl (lv_at hl 1 rfl) ?_
          refine x_ci (w2 := fun _ => (wd_RUIW qR qU qI qW cI cZ cL xR xU xI xW)) [0, 1, 2, 3, 4, 5, 6, 7, 8, 9, 10, 11, 12, 13, 14, 15, 16, 17, 18, 19, 20, 21, 22, 23, 24] [] [0, 1, 2, 3, 4, 5, 6, 7, 8, 9, 10, 11, 12, 13, 14, 15, 16, 17, 18, 19, 20, 21, 22, 23, 24] (va_runV (As := [.int (xI.1 5 v3_.toNatClampNeg), .int v2_]) (rest := []) ⟨hx, hb, hml, hown, hts⟩ (c_R_earlierAhead l dC dI cI cZ cL qR qU qI qW _ xR xU xI xW (xI.1 5 v3_.toNatClampNeg) v2_ _ hw) (cwV 2 hts (x_gV k_531 k_533 k_9 k_26 k_534) rfl rfl rfl (by decide +kernel) ⟨Nat.le_of_ble_eq_true rfl, Nat.le_of_ble_eq_true rfl⟩) ⟨x_blind, va_recv hK hP (ci := 3) (q0 := 0) rfl rfl, fun U hU hW => x_pre (isC := [0, 1, 2, 3, 4, 5, 6, 7, 8, 9, 10, 11, 12, 13, 14, 15, 16, 17, 18, 19, 20, 21, 22, 23, 24]) hK hP hD rfl rfl hU hW⟩ rfl rfl hl.1 rfl (lv_room (Nat.le_of_ble_eq_true rfl)) d_R_nextChange_71 ⟨Nat.le_of_ble_eq_true rfl, Nat.le_of_ble_eq_true rfl⟩) hP hD hS hA rfl rfl rfl (by decide) (fun _ => rfl) rfl (fun r71 _ H locs hw hP hD hS => ?_)
          refine lv_istore_n (lv' := [(2, .int r71), (0, .ref (qR 0)), (3, .int v3_)]) hx hb d_R_nextChange_74 rfl hl (by decide) rfl (fun ls hl => ?_)
          exact jn75 r71 v3_ _ _ _ hw hP hD hS (lv_sub hl [1, 0, 2] rfl)
  have lp4 : ∀ (n4 : Nat) (v2_ : Int32) (v3_ : Int32) (H : Heap) (locs : List Loc) (ls : Array Slot), wl_R_nextChange_4 xR xU xI xW a1 post n4 v2_ v3_ → va_P (dC, dI) vwCl (wd_RUIW qR qU qI qW cI cZ cL xR xU xI xW) H → va_D A (wd_RUIW qR qU qI qW cI cZ cL xR xU xI xW) → va_S A s.heap H locs → lv_has ls 4 [(0, .ref (qR 0)), (2, .int v2_), (3, .int v3_)] → W p l e (headSpec w_R_nextChange ({ frames := 1, cells := 0, slots := 0, locals := 22 } : Room)).room s m ([.ref (qR 0), .int a1] : List Value).toArray below meth c H locs 0 0 Q (F0 m 4 ls []) := by
    intro n4
    induction n4 with
    | zero => intro v2_ v3_ H locs ls hw; exact hw.elim
    | succ n4 ih4 =>
      intro v2_ v3_ H locs ls hw hP hD hS hl
      unfold wl_R_nextChange_4 at hw
      refine lv_iload_n hx hb d_R_nextChange_4 rfl (lv_at hl 2 rfl) ?_
      refine lv_aload_n hx hb d_R_nextChange_5 rfl (lv_at hl 0 rfl) ?_
      refine va_get (D := (dC, dI)) (ci := 3) (v := .ref (qU 0)) (C := "ReleaseRows") (T := T_R) (N := 6) hx hb hts in_R hown hK hP 0 rfl rfl 0 (by decide) (hts _ k_157) (fun _ h9 => h9) rfl d_R_nextChange_6 ?_
      refine va_get (D := (dC, dI)) (ci := 1) (v := .int (xU.2 10)) (C := "ReleaseRows$UnitRows") (T := T_U) (N := 11) hx hb hts in_U hown hK hP 2 rfl rfl 10 (by decide) (hts _ k_71) (fun _ h9 => h9) rfl d_R_nextChange_9 ?_
      refine lv_icmp_ge (tgt := 35) hx hb d_R_nextChange_12 (by decide) (fun c12 => ?_) (fun c12 => ?_)
      · have hw := hw.1 c12
        refine lv_iconst (v := (0 : Int32)) hx hb d_R_nextChange_35 (by decide) ?_
        refine lv_istore_n (lv' := [(3, .int (0 : Int32)), (0, .ref (qR 0)), (2, .int v2_)]) hx hb d_R_nextChange_36 rfl hl (by decide) rfl (fun ls hl => ?_)
        obtain ⟨n9, hw⟩ := hw
        exact lp37 n9 v2_ (0 : Int32) _ _ _ hw hP hD hS (lv_sub hl [1, 2, 0] rfl)
      · have hw := hw.2 c12
        refine lv_aload_n hx hb d_R_nextChange_15 rfl (lv_at hl 0 rfl) ?_
        refine lv_aload_n hx hb d_R_nextChange_16 rfl (lv_at hl 0 rfl) ?_
        refine va_get (D := (dC, dI)) (ci := 3) (v := .ref (qU 0)) (C := "ReleaseRows") (T := T_R) (N := 6) hx hb hts in_R hown hK hP 0 rfl rfl 0 (by decide) (hts _ k_157) (fun _ h9 => h9) rfl d_R_nextChange_17 ?_
        refine lv_iload_n hx hb d_R_nextChange_20 rfl (lv_at hl 2 rfl) ?_
        refine x_ci (w2 := fun _ => (wd_RUIW qR qU qI qW cI cZ cL xR xU xI xW)) [2, 3, 4, 5, 6, 7, 8, 9, 10, 11, 12] [0, 1, 13, 14, 15, 16, 17, 18, 19, 20, 21, 22, 23, 24] [0, 1, 14, 15, 16, 17, 18, 19, 20, 21, 22, 23, 24, 2, 3, 4, 5, 6, 7, 8, 9, 10, 11, 12, 13] (va_runV (As := [.int v3_]) (rest := [.ref (qR 0)]) ⟨hx, hb, hml, hown, hts⟩ (c_U_workEnd l dC dI cI cZ cL qU _ xU v3_ _ hw) (cwV 1 hts (x_gV k_530 k_298 k_299 k_27 k_300) rfl rfl rfl (by decide +kernel) ⟨Nat.le_of_ble_eq_true rfl, Nat.le_of_ble_eq_true rfl⟩) ⟨x_blind, va_recv hK hP (ci := 1) (q0 := 2) rfl rfl, fun U hU hW => x_pre (isC := [2, 3, 4, 5, 6, 7, 8, 9, 10, 11, 12]) hK hP hD rfl rfl hU hW⟩ rfl rfl hl.1 rfl (lv_room (Nat.le_of_ble_eq_true rfl)) d_R_nextChange_21 ⟨Nat.le_of_ble_eq_true rfl, Nat.le_of_ble_eq_true rfl⟩) hP hD hS hA rfl rfl rfl (by decide) (fun _ => rfl) rfl (fun r21 _ H locs hw hP hD hS => ?_)
        refine lv_iload_n hx hb d_R_nextChange_24 rfl (lv_at hl 1 rfl) ?_
        refine x_ci (w2 := fun _ => (wd_RUIW qR qU qI qW cI cZ cL xR xU xI xW)) [0, 1, 2, 3, 4, 5, 6, 7, 8, 9, 10, 11, 12, 13, 14, 15, 16, 17, 18, 19, 20, 21, 22, 23, 24] [] [0, 1, 2, 3, 4, 5, 6, 7, 8, 9, 10, 11, 12, 13, 14, 15, 16, 17, 18, 19, 20, 21, 22, 23, 24] (va_runV (As := [.int r21, .int v2_]) (rest := []) ⟨hx, hb, hml, hown, hts⟩ (c_R_earlierAhead l dC dI cI cZ cL qR qU qI qW _ xR xU xI xW r21 v2_ _ hw) (cwV 2 hts (x_gV k_531 k_533 k_9 k_26 k_534) rfl rfl rfl (by decide +kernel) ⟨Nat.le_of_ble_eq_true rfl, Nat.le_of_ble_eq_true rfl⟩) ⟨x_blind, va_recv hK hP (ci := 3) (q0 := 0) rfl rfl, fun U hU hW => x_pre (isC := [0, 1, 2, 3, 4, 5, 6, 7, 8, 9, 10, 11, 12, 13, 14, 15, 16, 17, 18, 19, 20, 21, 22, 23, 24]) hK hP hD rfl rfl hU hW⟩ rfl rfl hl.1 rfl (lv_room (Nat.le_of_ble_eq_true rfl)) d_R_nextChange_25 ⟨Nat.le_of_ble_eq_true rfl, Nat.le_of_ble_eq_true rfl⟩) hP hD hS hA rfl rfl rfl (by decide) (fun _ => rfl) rfl (fun r25 _ H locs hw hP hD hS => ?_)
        refine lv_istore_n (lv' := [(2, .int r25), (0, .ref (qR 0)), (3, .int v3_)]) hx hb d_R_nextChange_28 rfl hl (by decide) rfl (fun ls hl => ?_)
        obtain ⟨v3_29, ev3_29⟩ : ∃ y : Int32, y = v3_ + 1 := ⟨_, rfl⟩
        have hw := hw v3_29 ev3_29
        refine lv_iinc (v := v3_29) (lv' := [(3, .int v3_29), (2, .int r25), (0, .ref (qR 0))]) hx hb d_R_nextChange_29 hl (k := 2) rfl (by rw [ev3_29]; rfl) (by decide) rfl (fun ls hl => ?_)
        refine lv_goto (tgt := 4) hx hb d_R_nextChange_32 (by decide) ?_
        exact ih4 r25 v3_29 _ _ _ hw hP hD hS (lv_sub hl [2, 1, 0] rfl)
  unfold wp_R_nextChange at hw
  refine lv_iload_n hx hb d_R_nextChange_0 rfl (lv_at hl 1 rfl) ?_
  refine lv_istore_n (lv' := [(2, .int a1), (0, .ref (qR 0)), (1, .int a1)]) hx hb d_R_nextChange_1 rfl hl (by decide) rfl (fun ls hl => ?_)
  refine lv_iconst (v := (0 : Int32)) hx hb d_R_nextChange_2 (by decide) ?_
  refine lv_istore_n (lv' := [(3, .int (0 : Int32)), (2, .int a1), (0, .ref (qR 0)), (1, .int a1)]) hx hb d_R_nextChange_3 rfl hl (by decide) rfl (fun ls hl => ?_)
  obtain ⟨n9, hw⟩ := hw
  exact lp4 n9 a1 (0 : Int32) _ _ _ hw hP hD hS (lv_sub hl [2, 1, 0] rfl)

