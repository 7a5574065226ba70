def wj_M_throwing_35 (xM : St) (a1 : Int32) (a2 : Int32) (a3 : Int32) (a4 : Int32) (post : Int32 → St → Prop) (xM_ : St) (s0_ : Int32) : Prop := (((sF xM_ 0 s0_).2 0) ≤ 0 → (post (0 : Int32) (sF xM_ 0 s0_))) ∧ (¬ ((sF xM_ 0 s0_).2 0) ≤ 0 → (post (1 : Int32) (sF xM_ 0 s0_)))
def wp_M_throwing (xM : St) (a1 : Int32) (a2 : Int32) (a3 : Int32) (a4 : Int32) (post : Int32 → St → Prop) : Prop := (a1 = 0 → ((a2 = 0 → ((a3 = 0 → ((a4 = 0 → (wj_M_throwing_35 xM a1 a2 a3 a4 post xM (0 : Int32))) ∧ (¬ a4 = 0 → (wj_M_throwing_35 xM a1 a2 a3 a4 post xM (4 : Int32))))) ∧ (¬ a3 = 0 → (wj_M_throwing_35 xM a1 a2 a3 a4 post xM (3 : Int32))))) ∧ (¬ a2 = 0 → (wj_M_throwing_35 xM a1 a2 a3 a4 post xM (2 : Int32))))) ∧ (¬ a1 = 0 → (wj_M_throwing_35 xM a1 a2 a3 a4 post xM (1 : Int32)))
set_option maxHeartbeats 4000000 in
set_option maxRecDepth 100000 in
theorem c_M_throwing (l : Launch) (dC : Nat → ClassId) (dI : Nat → Nat → Nat) (cI cZ cL : ClassId) (qM : Nat → Nat) (sz : Nat) (xM : St) (a1 : Int32) (a2 : Int32) (a3 : Int32) (a4 : Int32) (post : Int32 → St → Prop) (hw : wp_M_throwing xM a1 a2 a3 a4 post) : Met l y_M_throwing w_M_throwing ({ frames := 0, cells := 0, slots := 0, locals := 0 } : Room) (va_Pc [.ref (qM 0), .int a1, .int a2, .int a3, .int a4] (xP (dC, dI) vwCl [(cI, .int), (cZ, .boolean), (cL, .long)] (wd_M qM cI cZ cL xM) sz)) (va_Qi post (xB (dC, dI) vwCl [(cI, .int), (cZ, .boolean), (cL, .long)] (va_A (wd_M qM cI cZ cL xM) sz) (fun u => (wd_M qM cI cZ cL u))) (va_A (wd_M qM cI cZ cL xM) sz)) 0 0 (va_A (wd_M qM cI cZ cL xM) sz) := by
  refine x_ofI (cc := b_M_throwing) (maxL := 5) (by decide) rfl (Nat.le_of_ble_eq_true rfl) (fun p e s m below meth c A Q hx hb hml hts hown hK hA hP hD hS hret ls hl => ?_)
  have hl : lv_has ls 5 [(0, .ref (qM 0)), (1, .int a1), (2, .int a2), (3, .int a3), (4, .int a4)] := hl
  have jn35 : ∀ (xM_ : St) (s0_ : Int32) (H : Heap) (locs : List Loc) (ls : Array Slot), wj_M_throwing_35 xM a1 a2 a3 a4 post xM_ s0_ → va_P (dC, dI) vwCl (wd_M qM cI cZ cL xM_) H → va_D A (wd_M qM cI cZ cL xM_) → va_S A s.heap H locs → lv_has ls 5 [(0, .ref (qM 0))] → W p l e (headSpec w_M_throwing ({ frames := 0, cells := 0, slots := 0, locals := 0 } : Room)).room s m ([.ref (qM 0), .int a1, .int a2, .int a3, .int a4] : List Value).toArray below meth c H locs 0 0 Q (F0 m 35 ls [.int s0_, .ref (qM 0)]) := by
    intro xM_ s0_ H locs ls hw hP hD hS hl
    unfold wj_M_throwing_35 at hw
    refine va_put (D := (dC, dI)) (ci := 4) (v := .int s0_) (ty := .int) (C := "ReleaseRowsModel") (T := T_M) (N := 27) hx hb hts in_M ty_M tyok_M nm_M hown hK hP hD hS 0 rfl rfl 0 (by decide) (hts _ k_576) (fun _ h9 => h9) rfl (by decide +kernel) rfl rfl (Nat.le_of_ble_eq_true rfl) d_M_throwing_35 (fun H locs hP hD hS => ?_)
    have hP := wsP_M_M0 hP
    have hD := wsD_M_M0 hD
    refine lv_aload_n hx hb d_M_throwing_38 rfl (lv_at hl 0 rfl) ?_
    refine va_get (D := (dC, dI)) (ci := 4) (v := .int ((sF xM_ 0 s0_).2 0)) (C := "ReleaseRowsModel") (T := T_M) (N := 27) hx hb hts in_M hown hK hP 0 rfl rfl 0 (by decide) (hts _ k_576) (fun _ h9 => h9) rfl d_M_throwing_39 ?_
    refine lv_if_le (tgt := 49) hx hb d_M_throwing_42 (by decide) (fun c42 => ?_) (fun c42 => ?_)
    · have hw := hw.1 c42
      refine lv_iconst (v := (0 : Int32)) hx hb d_M_throwing_49 (by decide) ?_
      exact hret (0 : Int32) (sF xM_ 0 s0_) _ _ _ _ _ _ (by decide) hw hP hD hS (Nat.le_of_ble_eq_true rfl) (Nat.le_of_ble_eq_true rfl) d_M_throwing_50
    · have hw := hw.2 c42
      refine lv_iconst (v := (1 : Int32)) hx hb d_M_throwing_45 (by decide) ?_
      refine lv_goto (tgt := 50) hx hb d_M_throwing_46 (by decide) ?_
      exact hret (1 : Int32) (sF xM_ 0 s0_) _ _ _ _ _ _ (by decide) hw hP hD hS (Nat.le_of_ble_eq_true rfl) (Nat.le_of_ble_eq_true rfl) d_M_throwing_50
  unfold wp_M_throwing at hw
  refine lv_aload_n hx hb d_M_throwing_0 rfl (lv_at hl 0 rfl) ?_
  refine lv_iload_n hx hb d_M_throwing_1 rfl (lv_at hl 1 rfl) ?_
  refine lv_if_eq (tgt := 9) hx hb d_M_throwing_2 (by decide) (fun c2 => ?_) (fun c2 => ?_)
  · have hw := hw.1 c2
    refine lv_iload_n hx hb d_M_throwing_9 rfl (lv_at hl 2 rfl) ?_
    refine lv_if_eq (tgt := 17) hx hb d_M_throwing_10 (by decide) (fun c10 => ?_) (fun c10 => ?_)
    · have hw := hw.1 c10
      refine lv_iload_n hx hb d_M_throwing_17 rfl (lv_at hl 3 rfl) ?_
      refine lv_if_eq (tgt := 25) hx hb d_M_throwing_18 (by decide) (fun c18 => ?_) (fun c18 => ?_)
      · have hw := hw.1 c18
        refine lv_iload hx hb d_M_throwing_25 (lv_at hl 4 rfl) ?_
        refine lv_if_eq (tgt := 34) hx hb d_M_throwing_27 (by decide) (fun c27 => ?_) (fun c27 => ?_)
        · have hw := hw.1 c27
          refine lv_iconst (v := (0 : Int32)) hx hb d_M_throwing_34 (by decide) ?_
          exact jn35 xM (0 : Int32) _ _ _ hw hP hD hS (lv_sub hl [0] rfl)
        · have hw := hw.2 c27
          refine lv_iconst (v := (4 : Int32)) hx hb d_M_throwing_30 (by decide) ?_
          refine lv_goto (tgt := 35) hx hb d_M_throwing_31 (by decide) ?_
          exact jn35 xM (4 : Int32) _ _ _ hw hP hD hS (lv_sub hl [0] rfl)
      · have hw := hw.2 c18
        refine lv_iconst (v := (3 : Int32)) hx hb d_M_throwing_21 (by decide) ?_
        refine lv_goto (tgt := 35) hx hb d_M_throwing_22 (by decide) ?_
        exact jn35 xM (3 : Int32) _ _ _ hw hP hD hS (lv_sub hl [0] rfl)
    · have hw := hw.2 c10
      refine lv_iconst (v := (2 : Int32)) hx hb d_M_throwing_13 (by decide) ?_
      refine lv_goto (tgt := 35) hx hb d_M_throwing_14 (by decide) ?_
      exact jn35 xM (2 : Int32) _ _ _ hw hP hD hS (lv_sub hl [0] rfl)
  · have hw := hw.2 c2
    refine lv_iconst (v := (1 : Int32)) hx hb d_M_throwing_5 (by decide) ?_
    refine lv_goto (tgt := 35) hx hb d_M_throwing_6 (by decide) ?_
    exact jn35 xM (1 : Int32) _ _ _ hw hP hD hS (lv_sub hl [0] rfl)

def wj_M_in_14 (a0 : Int32) (a1 : Int32) (a2 : Int32) (post : Int32 → Unit → Prop)  : Prop := post (0 : Int32) ()
def wp_M_in (a0 : Int32) (a1 : Int32) (a2 : Int32) (post : Int32 → Unit → Prop) : Prop := (a0 < a1 → (wj_M_in_14 a0 a1 a2 post )) ∧ (¬ a0 < a1 → ((a2 < a0 → (wj_M_in_14 a0 a1 a2 post )) ∧ (¬ a2 < a0 → (post (1 : Int32) ()))))
set_option maxHeartbeats 4000000 in
set_option maxRecDepth 100000 in
theorem c_M_in (l : Launch) (dC : Nat → ClassId) (dI : Nat → Nat → Nat) (cI cZ cL : ClassId)  (sz : Nat) (a0 : Int32) (a1 : Int32) (a2 : Int32) (post : Int32 → Unit → Prop) (hw : wp_M_in a0 a1 a2 post) : Met l y_M_in w_M_in ({ frames := 0, cells := 0, slots := 0, locals := 0 } : Room) (va_Pc [.int a0, .int a1, .int a2] (xP (dC, dI) vwCl [(cI, .int), (cZ, .boolean), (cL, .long)] ([] : va_W) sz)) (va_Qi post (xB (dC, dI) vwCl [(cI, .int), (cZ, .boolean), (cL, .long)] (va_A ([] : va_W) sz) (fun _ => ([] : va_W))) (va_A ([] : va_W) sz)) 0 0 (va_A ([] : va_W) sz) := by
  refine x_ofI (cc := b_M_in) (maxL := 3) (by decide) rfl (Nat.le_of_ble_eq_true rfl) (fun p e s m below meth c A Q hx hb hml hts hown hK hA hP hD hS hret ls hl => ?_)
  have hl : lv_has ls 3 [(0, .int a0), (1, .int a1), (2, .int a2)] := hl
  have jn14 : ∀ (H : Heap) (locs : List Loc) (ls : Array Slot), wj_M_in_14 a0 a1 a2 post  → va_P (dC, dI) vwCl ([] : va_W) H → va_D A ([] : va_W) → va_S A s.heap H locs → lv_has ls 3 [] → W p l e (headSpec w_M_in ({ frames := 0, cells := 0, slots := 0, locals := 0 } : Room)).room s m ([.int a0, .int a1, .int a2] : List Value).toArray below meth c H locs 0 0 Q (F0 m 14 ls []) := by
    intro  H locs ls hw hP hD hS hl
    unfold wj_M_in_14 at hw
    refine lv_iconst (v := (0 : Int32)) hx hb d_M_in_14 (by decide) ?_
    exact hret (0 : Int32) () _ _ _ _ _ _ (by decide) hw hP hD hS (Nat.le_of_ble_eq_true rfl) (Nat.le_of_ble_eq_true rfl) d_M_in_15
  unfold wp_M_in at hw
  refine lv_iload_n hx hb d_M_in_0 rfl (lv_at hl 0 rfl) ?_
  refine lv_iload_n hx hb d_M_in_1 rfl (lv_at hl 1 rfl) ?_
  refine lv_icmp_lt (tgt := 14) hx hb d_M_in_2 (by decide) (fun c2 => ?_) (fun c2 => ?_)
  · have hw := hw.1 c2
    exact jn14 _ _ _ hw hP hD hS (lv_sub hl [] rfl)
  · have hw := hw.2 c2
    refine lv_iload_n hx hb d_M_in_5 rfl (lv_at hl 0 rfl) ?_
    refine lv_iload_n hx hb d_M_in_6 rfl (lv_at hl 2 rfl) ?_
    refine lv_icmp_gt (tgt := 14) hx hb d_M_in_7 (by decide) (fun c7 => ?_) (fun c7 => ?_)
    · have hw := hw.1 c7
      exact jn14 _ _ _ hw hP hD hS (lv_sub hl [] rfl)
    · have hw := hw.2 c7
      refine lv_iconst (v := (1 : Int32)) hx hb d_M_in_10 (by decide) ?_
      refine lv_goto (tgt := 15) hx hb d_M_in_11 (by decide) ?_
      exact hret (1 : Int32) () _ _ _ _ _ _ (by decide) hw hP hD hS (Nat.le_of_ble_eq_true rfl) (Nat.le_of_ble_eq_true rfl) d_M_in_15

def wp_M_isUnit (xM : St) (a1 : Int32) (post : Int32 → Unit → Prop) : Prop := wp_M_in a1 (0 : Int32) ((xM.2 3) - (1 : Int32)) (fun r8 _ => (narrow .boolean (.int r8) = .int r8 ∧ (post r8 ())))
set_option maxHeartbeats 4000000 in
set_option maxRecDepth 100000 in
theorem c_M_isUnit (l : Launch) (dC : Nat → ClassId) (dI : Nat → Nat → Nat) (cI cZ cL : ClassId) (qM : Nat → Nat) (sz : Nat) (xM : St) (a1 : Int32) (post : Int32 → Unit → Prop) (hw : wp_M_isUnit xM a1 post) : Met l y_M_isUnit w_M_isUnit ({ frames := 1, cells := 0, slots := 0, locals := 22 } : Room) (va_Pc [.ref (qM 0), .int a1] (xP (dC, dI) vwCl [(cI, .int), (cZ, .boolean), (cL, .long)] (wd_M qM cI cZ cL xM) sz)) (va_Qi post (xB (dC, dI) vwCl [(cI, .int), (cZ, .boolean), (cL, .long)] (va_A (wd_M qM cI cZ cL xM) sz) (fun _ => (wd_M qM cI cZ cL xM))) (va_A (wd_M qM cI cZ cL xM) sz)) 0 0 (va_A (wd_M qM cI cZ cL xM) sz) := by
  refine x_ofI (cc := b_M_isUnit) (maxL := 2) (by decide) rfl (Nat.le_of_ble_eq_true rfl) (fun p e s m below meth c A Q hx hb hml hts hown hK hA hP hD hS hret ls hl => ?_)
  have hl : lv_has ls 2 [(0, .ref (qM 0)), (1, .int a1)] := hl
  unfold wp_M_isUnit at hw
  refine lv_iload_n hx hb d_M_isUnit_0 rfl (lv_at hl 1 rfl) ?_
  refine lv_iconst (v := (0 : Int32)) hx hb d_M_isUnit_1 (by decide) ?_
  refine lv_aload_n hx hb d_M_isUnit_2 rfl (lv_at hl 0 rfl) ?_
  refine va_get (D := (dC, dI)) (ci := 4) (v := .int (xM.2 3)) (C := "ReleaseRowsModel") (T := T_M) (N := 27) hx hb hts in_M hown hK hP 0 rfl rfl 3 (by decide) (hts _ k_579) (fun _ h9 => h9) rfl d_M_isUnit_3 ?_
  refine lv_iconst (v := (1 : Int32)) hx hb d_M_isUnit_6 (by decide) ?_
  refine lv_isub hx hb d_M_isUnit_7 ?_
  refine x_ci (w2 := fun _ => (wd_M qM cI cZ cL xM)) [] [0, 1, 2, 3, 4, 5, 6, 7, 8, 9, 10, 11, 12, 13, 14, 15, 16, 17, 18, 19, 20, 21] [0, 1, 2, 3, 4, 5, 6, 7, 8, 9, 10, 11, 12, 13, 14, 15, 16, 17, 18, 19, 20, 21] (va_runS (As := [.int a1, .int (0 : Int32), .int ((xM.2 3) - (1 : Int32))]) (rest := []) ⟨hx, hb, hml, hown, hts⟩ (c_M_in l dC dI cI cZ cL  _ a1 (0 : Int32) ((xM.2 3) - (1 : Int32)) _ hw) (cwS 3 hts (x_gS k_667 k_668 k_30 k_669) rfl rfl rfl (by decide +kernel) ⟨Nat.le_of_ble_eq_true rfl, Nat.le_of_ble_eq_true rfl⟩) ⟨x_blind, fun U hU hW => x_pre (isC := []) hK hP hD rfl rfl hU hW⟩ rfl rfl hl.1 rfl (lv_room (Nat.le_of_ble_eq_true rfl)) d_M_isUnit_8 ⟨Nat.le_of_ble_eq_true rfl, Nat.le_of_ble_eq_true rfl⟩) hP hD hS hA rfl rfl rfl (by decide) (fun _ => rfl) rfl (fun r8 _ H locs hw hP hD hS => ?_)
  obtain ⟨hz, hw⟩ := hw
  exact hret r8 () _ _ _ _ _ _ hz hw hP hD hS (Nat.le_of_ble_eq_true rfl) (Nat.le_of_ble_eq_true rfl) d_M_isUnit_11

def wp_M_isIncident (xM : St) (a1 : Int32) (post : Int32 → Unit → Prop) : Prop := wp_M_in a1 (0 : Int32) ((xM.2 15) - (1 : Int32)) (fun r8 _ => (narrow .boolean (.int r8) = .int r8 ∧ (post r8 ())))
set_option maxHeartbeats 4000000 in
set_option maxRecDepth 100000 in
theorem c_M_isIncident (l : Launch) (dC : Nat → ClassId) (dI : Nat → Nat → Nat) (cI cZ cL : ClassId) (qM : Nat → Nat) (sz : Nat) (xM : St) (a1 : Int32) (post : Int32 → Unit → Prop) (hw : wp_M_isIncident xM a1 post) : Met l y_M_isIncident w_M_isIncident ({ frames := 1, cells := 0, slots := 0, locals := 22 } : Room) (va_Pc [.ref (qM 0), .int a1] (xP (dC, dI) vwCl [(cI, .int), (cZ, .boolean), (cL, .long)] (wd_M qM cI cZ cL xM) sz)) (va_Qi post (xB (dC, dI) vwCl [(cI, .int), (cZ, .boolean), (cL, .long)] (va_A (wd_M qM cI cZ cL xM) sz) (fun _ => (wd_M qM cI cZ cL xM))) (va_A (wd_M qM cI cZ cL xM) sz)) 0 0 (va_A (wd_M qM cI cZ cL xM) sz) := by
  refine x_ofI (cc := b_M_isIncident) (maxL := 2) (by decide) rfl (Nat.le_of_ble_eq_true rfl) (fun p e s m below meth c A Q hx hb hml hts hown hK hA hP hD hS hret ls hl => ?_)
  have hl : lv_has ls 2 [(0, .ref (qM 0)), (1, .int a1)] := hl
  unfold wp_M_isIncident at hw
  refine lv_iload_n hx hb d_M_isIncident_0 rfl (lv_at hl 1 rfl) ?_
  refine lv_iconst (v := (0 : Int32)) hx hb d_M_isIncident_1 (by decide) ?_
  refine lv_aload_n hx hb d_M_isIncident_2 rfl (lv_at hl 0 rfl) ?_
  refine va_get (D := (dC, dI)) (ci := 4) (v := .int (xM.2 15)) (C := "ReleaseRowsModel") (T := T_M) (N := 27) hx hb hts in_M hown hK hP 0 rfl rfl 15 (by decide) (hts _ k_591) (fun _ h9 => h9) rfl d_M_isIncident_3 ?_
  refine lv_iconst (v := (1 : Int32)) hx hb d_M_isIncident_6 (by decide) ?_
  refine lv_isub hx hb d_M_isIncident_7 ?_
  refine x_ci (w2 := fun _ => (wd_M qM cI cZ cL xM)) [] [0, 1, 2, 3, 4, 5, 6, 7, 8, 9, 10, 11, 12, 13, 14, 15, 16, 17, 18, 19, 20, 21] [0, 1, 2, 3, 4, 5, 6, 7, 8, 9, 10, 11, 12, 13, 14, 15, 16, 17, 18, 19, 20, 21] (va_runS (As := [.int a1, .int (0 : Int32), .int ((xM.2 15) - (1 : Int32))]) (rest := []) ⟨hx, hb, hml, hown, hts⟩ (c_M_in l dC dI cI cZ cL  _ a1 (0 : Int32) ((xM.2 15) - (1 : Int32)) _ hw) (cwS 3 hts (x_gS k_667 k_668 k_30 k_669) rfl rfl rfl (by decide +kernel) ⟨Nat.le_of_ble_eq_true rfl, Nat.le_of_ble_eq_true rfl⟩) ⟨x_blind, fun U hU hW => x_pre (isC := []) hK hP hD rfl rfl hU hW⟩ rfl rfl hl.1 rfl (lv_room (Nat.le_of_ble_eq_true rfl)) d_M_isIncident_8 ⟨Nat.le_of_ble_eq_true rfl, Nat.le_of_ble_eq_true rfl⟩) hP hD hS hA rfl rfl rfl (by decide) (fun _ => rfl) rfl (fun r8 _ H locs hw hP hD hS => ?_)
  obtain ⟨hz, hw⟩ := hw
  exact hret r8 () _ _ _ _ _ _ hz hw hP hD hS (Nat.le_of_ble_eq_true rfl) (Nat.le_of_ble_eq_true rfl) d_M_isIncident_11

def wj_M_isShut_21 (xM : St) (a1 : Int32) (post : Int32 → Unit → Prop)  : Prop := post (0 : Int32) ()
def wp_M_isShut (xM : St) (a1 : Int32) (post : Int32 → Unit → Prop) : Prop := wp_M_isIncident xM a1 (fun r2 _ => ((r2 = 0 → (wj_M_isShut_21 xM a1 post )) ∧ (¬ r2 = 0 → (vp_in a1 20 ∧ ((¬ (xM.1 17 a1.toNatClampNeg) = 0 → (wj_M_isShut_21 xM a1 post )) ∧ ((xM.1 17 a1.toNatClampNeg) = 0 → (post (1 : Int32) ())))))))
set_option maxHeartbeats 4000000 in
set_option maxRecDepth 100000 in
theorem c_M_isShut (l : Launch) (dC : Nat → ClassId) (dI : Nat → Nat → Nat) (cI cZ cL : ClassId) (qM : Nat → Nat) (sz : Nat) (xM : St) (a1 : Int32) (post : Int32 → Unit → Prop) (hw : wp_M_isShut xM a1 post) : Met l y_M_isShut w_M_isShut ({ frames := 2, cells := 0, slots := 0, locals := 43 } : Room) (va_Pc [.ref (qM 0), .int a1] (xP (dC, dI) vwCl [(cI, .int), (cZ, .boolean), (cL, .long)] (wd_M qM cI cZ cL xM) sz)) (va_Qi post (xB (dC, dI) vwCl [(cI, .int), (cZ, .boolean), (cL, .long)] (va_A (wd_M qM cI cZ cL xM) sz) (fun _ => (wd_M qM cI cZ cL xM))) (va_A (wd_M qM cI cZ cL xM) sz)) 0 0 (va_A (wd_M qM cI cZ cL xM) sz) := by
  refine x_ofI (cc := b_M_isShut) (maxL := 2) (by decide) rfl (Nat.le_of_ble_eq_true rfl) (fun p e s m below meth c A Q hx hb hml hts hown hK hA hP hD hS hret ls hl => ?_)
  have hl : lv_has ls 2 [(0, .ref (qM 0)), (1, .int a1)] := hl
  have jn21 : ∀ (H : Heap) (locs : List Loc) (ls : Array Slot), wj_M_isShut_21 xM a1 post  → va_P (dC, dI) vwCl (wd_M qM cI cZ cL xM) H → va_D A (wd_M qM cI cZ cL xM) → va_S A s.heap H locs → lv_has ls 2 [] → W p l e (headSpec w_M_isShut ({ frames := 2, cells := 0, slots := 0, locals := 43 } : Room)).room s m ([.ref (qM 0), .int a1] : List Value).toArray below meth c H locs 0 0 Q (F0 m 21 ls []) := by
    intro  H locs ls hw hP hD hS hl
    unfold wj_M_isShut_21 at hw
    refine lv_iconst (v := (0 : Int32)) hx hb d_M_isShut_21 (by decide) ?_
    exact hret (0 : Int32) () _ _ _ _ _ _ (by decide) hw hP hD hS (Nat.le_of_ble_eq_true rfl) (Nat.le_of_ble_eq_true rfl) d_M_isShut_22
  unfold wp_M_isShut at hw
  refine lv_aload_n hx hb d_M_isShut_0 rfl (lv_at hl 0 rfl) ?_
  refine lv_iload_n hx hb d_M_isShut_1 rfl (lv_at hl 1 rfl) ?_
  refine x_ci (w2 := fun _ => (wd_M qM cI cZ cL xM)) [0, 1, 2, 3, 4, 5, 6, 7, 8, 9, 10, 11, 12, 13, 14, 15, 16, 17, 18, 19, 20, 21] [] [0, 1, 2, 3, 4, 5, 6, 7, 8, 9, 10, 11, 12, 13, 14, 15, 16, 17, 18, 19, 20, 21] (va_runV (As := [.int a1]) (rest := []) ⟨hx, hb, hml, hown, hts⟩ (c_M_isIncident l dC dI cI cZ cL qM _ xM a1 _ hw) (cwV 1 hts (x_gV k_744 k_746 k_23 k_30 k_747) rfl rfl rfl (by decide +kernel) ⟨Nat.le_of_ble_eq_true rfl, Nat.le_of_ble_eq_true rfl⟩) ⟨x_blind, va_recv hK hP (ci := 4) (q0 := 0) rfl rfl, fun U hU hW => x_pre (isC := [0, 1, 2, 3, 4, 5, 6, 7, 8, 9, 10, 11, 12, 13, 14, 15, 16, 17, 18, 19, 20, 21]) hK hP hD rfl rfl hU hW⟩ rfl rfl hl.1 rfl (lv_room (Nat.le_of_ble_eq_true rfl)) d_M_isShut_2 ⟨Nat.le_of_ble_eq_true rfl, Nat.le_of_ble_eq_true rfl⟩) hP hD hS hA rfl rfl rfl (by decide) (fun _ => rfl) rfl (fun r2 _ H locs hw hP hD hS => ?_)
  refine lv_if_eq (tgt := 21) hx hb d_M_isShut_5 (by decide) (fun c5 => ?_) (fun c5 => ?_)
  · have hw := hw.1 c5
    exact jn21 _ _ _ hw hP hD hS (lv_sub hl [] rfl)
  · have hw := hw.2 c5
    refine lv_aload_n hx hb d_M_isShut_8 rfl (lv_at hl 0 rfl) ?_
    refine va_get (D := (dC, dI)) (ci := 4) (v := .ref (qM 18)) (C := "ReleaseRowsModel") (T := T_M) (N := 27) hx hb hts in_M hown hK hP 0 rfl rfl 17 (by decide) (hts _ k_593) (fun _ h9 => h9) rfl d_M_isShut_9 ?_
    refine lv_iload_n hx hb d_M_isShut_12 rfl (lv_at hl 1 rfl) ?_
    obtain ⟨h13, hw⟩ := hw
    refine va_zald hx hb hK hP 13 1 rfl rfl h13 d_M_isShut_13 ?_
    refine lv_if_ne (tgt := 21) hx hb d_M_isShut_14 (by decide) (fun c14 => ?_) (fun c14 => ?_)
    · have hw := hw.1 c14
      exact jn21 _ _ _ hw hP hD hS (lv_sub hl [] rfl)
    · have hw := hw.2 c14
      refine lv_iconst (v := (1 : Int32)) hx hb d_M_isShut_17 (by decide) ?_
      refine lv_goto (tgt := 22) hx hb d_M_isShut_18 (by decide) ?_
      exact hret (1 : Int32) () _ _ _ _ _ _ (by decide) hw hP hD hS (Nat.le_of_ble_eq_true rfl) (Nat.le_of_ble_eq_true rfl) d_M_isShut_22

def wp_M_isGood (a0 : Int32) (post : Int32 → Unit → Prop) : Prop := wp_M_in a0 (0 : Int32) (5 : Int32) (fun r3 _ => (narrow .boolean (.int r3) = .int r3 ∧ (post r3 ())))
set_option maxHeartbeats 4000000 in
set_option maxRecDepth 100000 in
theorem c_M_isGood (l : Launch) (dC : Nat → ClassId) (dI : Nat → Nat → Nat) (cI cZ cL : ClassId)  (sz : Nat) (a0 : Int32) (post : Int32 → Unit → Prop) (hw : wp_M_isGood a0 post) : Met l y_M_isGood w_M_isGood ({ frames := 1, cells := 0, slots := 0, locals := 22 } : Room) (va_Pc [.int a0] (xP (dC, dI) vwCl [(cI, .int), (cZ, .boolean), (cL, .long)] ([] : va_W) sz)) (va_Qi post (xB (dC, dI) vwCl [(cI, .int), (cZ, .boolean), (cL, .long)] (va_A ([] : va_W) sz) (fun _ => ([] : va_W))) (va_A ([] : va_W) sz)) 0 0 (va_A ([] : va_W) sz) := by
  refine x_ofI (cc := b_M_isGood) (maxL := 1) (by decide) rfl (Nat.le_of_ble_eq_true rfl) (fun p e s m below meth c A Q hx hb hml hts hown hK hA hP hD hS hret ls hl => ?_)
  have hl : lv_has ls 1 [(0, .int a0)] := hl
  unfold wp_M_isGood at hw
  refine lv_iload_n hx hb d_M_isGood_0 rfl (lv_at hl 0 rfl) ?_
  refine lv_iconst (v := (0 : Int32)) hx hb d_M_isGood_1 (by decide) ?_
  refine lv_iconst (v := (5 : Int32)) hx hb d_M_isGood_2 (by decide) ?_
  refine x_ci (w2 := fun _ => ([] : va_W)) [] [] [] (va_runS (As := [.int a0, .int (0 : Int32), .int (5 : Int32)]) (rest := []) ⟨hx, hb, hml, hown, hts⟩ (c_M_in l dC dI cI cZ cL  _ a0 (0 : Int32) (5 : Int32) _ hw) (cwS 3 hts (x_gS k_667 k_668 k_30 k_669) rfl rfl rfl (by decide +kernel) ⟨Nat.le_of_ble_eq_true rfl, Nat.le_of_ble_eq_true rfl⟩) ⟨x_blind, fun U hU hW => x_pre (isC := []) hK hP hD rfl rfl hU hW⟩ rfl rfl hl.1 rfl (lv_room (Nat.le_of_ble_eq_true rfl)) d_M_isGood_3 ⟨Nat.le_of_ble_eq_true rfl, Nat.le_of_ble_eq_true rfl⟩) hP hD hS hA rfl rfl rfl (by decide) (fun _ => rfl) rfl (fun r3 _ H locs hw hP hD hS => ?_)
  obtain ⟨hz, hw⟩ := hw
  exact hret r3 () _ _ _ _ _ _ hz hw hP hD hS (Nat.le_of_ble_eq_true rfl) (Nat.le_of_ble_eq_true rfl) d_M_isGood_6

def wp_M_become (xM : St) (a1 : Int32) (a2 : Int32) (a3 : Int32) (post : St → Prop) : Prop := vp_in a1 24 ∧ (vp_in a1 24 ∧ (vp_in a1 24 ∧ (post (sA (sA (sA xM 8 a1.toNatClampNeg a2) 9 a1.toNatClampNeg a3) 10 a1.toNatClampNeg ((sA (sA xM 8 a1.toNatClampNeg a2) 9 a1.toNatClampNeg a3).2 1)))))
set_option maxHeartbeats 4000000 in
set_option maxRecDepth 100000 in
theorem c_M_become (l : Launch) (dC : Nat → ClassId) (dI : Nat → Nat → Nat) (cI cZ cL : ClassId) (qM : Nat → Nat) (sz : Nat) (xM : St) (a1 : Int32) (a2 : Int32) (a3 : Int32) (post : St → Prop) (hw : wp_M_become xM a1 a2 a3 post) : Met l y_M_become w_M_become ({ frames := 0, cells := 0, slots := 0, locals := 0 } : Room) (va_Pc [.ref (qM 0), .int a1, .int a2, .int a3] (xP (dC, dI) vwCl [(cI, .int), (cZ, .boolean), (cL, .long)] (wd_M qM cI cZ cL xM) sz)) (va_Qv post (xB (dC, dI) vwCl [(cI, .int), (cZ, .boolean), (cL, .long)] (va_A (wd_M qM cI cZ cL xM) sz) (fun u => (wd_M qM cI cZ cL u))) (va_A (wd_M qM cI cZ cL xM) sz)) 0 0 (va_A (wd_M qM cI cZ cL xM) sz) := by
  refine x_ofV (cc := b_M_become) (maxL := 4) (by decide) rfl (Nat.le_of_ble_eq_true rfl) (fun p e s m below meth c A Q hx hb hml hts hown hin hK hA hP hD hS hret ls hl => ?_)
  have hl : lv_has ls 4 [(0, .ref (qM 0)), (1, .int a1), (2, .int a2), (3, .int a3)] := hl
  unfold wp_M_become at hw
  refine lv_aload_n hx hb d_M_become_0 rfl (lv_at hl 0 rfl) ?_
  refine va_get (D := (dC, dI)) (ci := 4) (v := .ref (qM 9)) (C := "ReleaseRowsModel") (T := T_M) (N := 27) hx hb hts in_M hown hK hP 0 rfl rfl 8 (by decide) (hts _ k_584) (fun _ h9 => h9) rfl d_M_become_1 ?_
  refine lv_iload_n hx hb d_M_become_4 rfl (lv_at hl 1 rfl) ?_
  refine lv_iload_n hx hb d_M_become_5 rfl (lv_at hl 2 rfl) ?_
  obtain ⟨h6, hw⟩ := hw
  refine va_iast hx hb hK hP hD hS 5 0 rfl rfl h6 d_M_become_6 (fun H locs hP hD hS => ?_)
  have hP := wsP_M_M8 hP
  have hD := wsD_M_M8 hD
  refine lv_aload_n hx hb d_M_become_7 rfl (lv_at hl 0 rfl) ?_
  refine va_get (D := (dC, dI)) (ci := 4) (v := .ref (qM 10)) (C := "ReleaseRowsModel") (T := T_M) (N := 27) hx hb hts in_M hown hK hP 0 rfl rfl 9 (by decide) (hts _ k_585) (fun _ h9 => h9) rfl d_M_become_8 ?_
  refine lv_iload_n hx hb d_M_become_11 rfl (lv_at hl 1 rfl) ?_
  refine lv_iload_n hx hb d_M_become_12 rfl (lv_at hl 3 rfl) ?_
  obtain ⟨h13, hw⟩ := hw
  refine va_iast hx hb hK hP hD hS 6 0 rfl rfl h13 d_M_become_13 (fun H locs hP hD hS => ?_)
  have hP := wsP_M_M9 hP
  have hD := wsD_M_M9 hD
  refine lv_aload_n hx hb d_M_become_14 rfl (lv_at hl 0 rfl) ?_
  refine va_get (D := (dC, dI)) (ci := 4) (v := .ref (qM 11)) (C := "ReleaseRowsModel") (T := T_M) (N := 27) hx hb hts in_M hown hK hP 0 rfl rfl 10 (by decide) (hts _ k_586) (fun _ h9 => h9) rfl d_M_become_15 ?_
  refine lv_iload_n hx hb d_M_become_18 rfl (lv_at hl 1 rfl) ?_
  refine lv_aload_n hx hb d_M_become_19 rfl (lv_at hl 0 rfl) ?_
  refine va_get (D := (dC, dI)) (ci := 4) (v := .int ((sA (sA xM 8 a1.toNatClampNeg a2) 9 a1.toNatClampNeg a3).2 1)) (C := "ReleaseRowsModel") (T := T_M) (N := 27) hx hb hts in_M hown hK hP 0 rfl rfl 1 (by decide) (hts _ k_577) (fun _ h9 => h9) rfl d_M_become_20 ?_
  obtain ⟨h23, hw⟩ := hw
  refine va_iast hx hb hK hP hD hS 7 0 rfl rfl h23 d_M_become_23 (fun H locs hP hD hS => ?_)
  have hP := wsP_M_M10 hP
  have hD := wsD_M_M10 hD
  exact hret (sA (sA (sA xM 8 a1.toNatClampNeg a2) 9 a1.toNatClampNeg a3) 10 a1.toNatClampNeg ((sA (sA xM 8 a1.toNatClampNeg a2) 9 a1.toNatClampNeg a3).2 1)) _ _ _ _ _ _ hw hP hD hS (Nat.le_of_ble_eq_true rfl) (Nat.le_of_ble_eq_true rfl) d_M_become_24

def wj_M_hasStock_39 (xM : St) (a1 : Int32) (post : Int32 → Unit → Prop) (rec4 : Int32 → Int32 → Prop) (s0_ : Int32) (v3_ : Int32) : Prop := ∀ v3_40 : Int32, v3_40 = v3_ + 1 → (rec4 s0_ v3_40)
def wj_M_hasStock_38 (xM : St) (a1 : Int32) (post : Int32 → Unit → Prop) (rec4 : Int32 → Int32 → Prop) (v3_ : Int32) : Prop := wj_M_hasStock_39 xM a1 post rec4 (0 : Int32) v3_
def wl_M_hasStock_4 (xM : St) (a1 : Int32) (post : Int32 → Unit → Prop) : Nat → Int32 → Int32 → Prop
  | 0 => fun _ _ => False
  | n9 + 1 => fun v2_ v3_ => ((6 : Int32) ≤ v3_ → (narrow .boolean (.int v2_) = .int v2_ ∧ (post v2_ ()))) ∧ (¬ (6 : Int32) ≤ v3_ → ((v2_ = 0 → (wj_M_hasStock_38 xM a1 post (wl_M_hasStock_4 xM a1 post n9) v3_)) ∧ (¬ v2_ = 0 → (vp_in v3_ 6 ∧ (vp_in (((6 : Int32) * a1) + v3_) 144 ∧ (((xM.1 14 v3_.toNatClampNeg) < (xM.1 13 (((6 : Int32) * a1) + v3_).toNatClampNeg) → (wj_M_hasStock_38 xM a1 post (wl_M_hasStock_4 xM a1 post n9) v3_)) ∧ (¬ (xM.1 14 v3_.toNatClampNeg) < (xM.1 13 (((6 : Int32) * a1) + v3_).toNatClampNeg) → (wj_M_hasStock_39 xM a1 post (wl_M_hasStock_4 xM a1 post n9) (1 : Int32) v3_))))))))
def wp_M_hasStock (xM : St) (a1 : Int32) (post : Int32 → Unit → Prop) : Prop := ∃ k9 : Nat, wl_M_hasStock_4 xM a1 post k9 (1 : Int32) (0 : Int32)
set_option maxHeartbeats 4000000 in
set_option maxRecDepth 100000 in
theorem c_M_hasStock (l : Launch) (dC : Nat → ClassId) (dI : Nat → Nat → Nat) (cI cZ cL : ClassId) (qM : Nat → Nat) (sz : Nat) (xM : St) (a1 : Int32) (post : Int32 → Unit → Prop) (hw : wp_M_hasStock xM a1 post) : Met l y_M_hasStock w_M_hasStock ({ frames := 0, cells := 0, slots := 0, locals := 0 } : Room) (va_Pc [.ref (qM 0), .int a1] (xP (dC, dI) vwCl [(cI, .int), (cZ, .boolean), (cL, .long)] (wd_M qM cI cZ cL xM) sz)) (va_Qi post (xB (dC, dI) vwCl [(cI, .int), (cZ, .boolean), (cL, .long)] (va_A (wd_M qM cI cZ cL xM) sz) (fun _ => (wd_M qM cI cZ cL xM))) (va_A (wd_M qM cI cZ cL xM) sz)) 0 0 (va_A (wd_M qM cI cZ cL xM) sz) := by
  refine x_ofI (cc := b_M_hasStock) (maxL := 4) (by decide) rfl (Nat.le_of_ble_eq_true rfl) (fun p e s m below meth c A Q hx hb hml hts hown hK hA hP hD hS hret ls hl => ?_)
  have hl : lv_has ls 4 [(0, .ref (qM 0)), (1, .int a1)] := hl
  have lp4 : ∀ (n4 : Nat) (v2_ : Int32) (v3_ : Int32) (H : Heap) (locs : List Loc) (ls : Array Slot), wl_M_hasStock_4 xM a1 post n4 v2_ v3_ → va_P (dC, dI) vwCl (wd_M qM cI cZ cL xM) H → va_D A (wd_M qM cI cZ cL xM) → va_S A s.heap H locs → lv_has ls 4 [(0, .ref (qM 0)), (1, .int a1), (2, .int v2_), (3, .int v3_)] → W p l e (headSpec w_M_hasStock ({ frames := 0, cells := 0, slots := 0, locals := 0 } : Room)).room s m ([.ref (qM 0), .int a1] : List Value).toArray below meth c H locs 0 0 Q (F0 m 4 ls []) := by
    intro n4
    induction n4 with
    | zero => intro v2_ v3_ H locs ls hw; exact hw.elim
    | succ n4 ih4 =>
      have jn39 : ∀ (s0_ : Int32) (v3_ : Int32) (H : Heap) (locs : List Loc) (ls : Array Slot), wj_M_hasStock_39 xM a1 post (wl_M_hasStock_4 xM a1 post n4) s0_ v3_ → va_P (dC, dI) vwCl (wd_M qM cI cZ cL xM) H → va_D A (wd_M qM cI cZ cL xM) → va_S A s.heap H locs → lv_has ls 4 [(0, .ref (qM 0)), (1, .int a1), (3, .int v3_)] → W p l e (headSpec w_M_hasStock ({ frames := 0, cells := 0, slots := 0, locals := 0 } : Room)).room s m ([.ref (qM 0), .int a1] : List Value).toArray below meth c H locs 0 0 Q (F0 m 39 ls [.int s0_]) := by
        intro s0_ v3_ H locs ls hw hP hD hS hl
        unfold wj_M_hasStock_39 at hw
        refine lv_istore_n (lv' := [(2, .int s0_), (0, .ref (qM 0)), (1, .int a1), (3, .int v3_)]) hx hb d_M_hasStock_39 rfl hl (by decide) rfl (fun ls hl => ?_)
        obtain ⟨v3_40, ev3_40⟩ : ∃ y : Int32, y = v3_ + 1 := ⟨_, rfl⟩
        have hw := hw v3_40 ev3_40
        refine lv_iinc (v := v3_40) (lv' := [(3, .int v3_40), (2, .int s0_), (0, .ref (qM 0)), (1, .int a1)]) hx hb d_M_hasStock_40 hl (k := 3) rfl (by rw [ev3_40]; rfl) (by decide) rfl (fun ls hl => ?_)
        refine lv_goto (tgt := 4) hx hb d_M_hasStock_43 (by decide) ?_
        exact ih4 s0_ v3_40 _ _ _ hw hP hD hS (lv_sub hl [2, 3, 1, 0] rfl)
      have jn38 : ∀ (v3_ : Int32) (H : Heap) (locs : List Loc) (ls : Array Slot), wj_M_hasStock_38 xM a1 post (wl_M_hasStock_4 xM a1 post n4) v3_ → va_P (dC, dI) vwCl (wd_M qM cI cZ cL xM) H → va_D A (wd_M qM cI cZ cL xM) → va_S A s.heap H locs → lv_has ls 4 [(0, .ref (qM 0)), (1, .int a1), (3, .int v3_)] → W p l e (headSpec w_M_hasStock ({ frames := 0, cells := 0, slots := 0, locals := 0 } : Room)).room s m ([.ref (qM 0), .int a1] : List Value).toArray below meth c H locs 0 0 Q (F0 m 38 ls []) := by
        intro v3_ H locs ls hw hP hD hS hl
        unfold wj_M_hasStock_38 at hw
        refine lv_iconst (v := (0 : Int32)) hx hb d_M_hasStock_38 (by decide) ?_
        exact jn39 (0 : Int32) v3_ _ _ _ hw hP hD hS hl
      intro v2_ v3_ H locs ls hw hP hD hS hl
      unfold wl_M_hasStock_4 at hw
      refine lv_iload_n hx hb d_M_hasStock_4 rfl (lv_at hl 3 rfl) ?_
      refine lv_bipush (v := (6 : Int32)) hx hb d_M_hasStock_5 (by decide) ?_
      refine lv_icmp_ge (tgt := 46) hx hb d_M_hasStock_7 (by decide) (fun c7 => ?_) (fun c7 => ?_)
      · have hw := hw.1 c7
        refine lv_iload_n hx hb d_M_hasStock_46 rfl (lv_at hl 2 rfl) ?_
        obtain ⟨hz, hw⟩ := hw
        exact hret v2_ () _ _ _ _ _ _ hz hw hP hD hS (Nat.le_of_ble_eq_true rfl) (Nat.le_of_ble_eq_true rfl) d_M_hasStock_47
      · have hw := hw.2 c7
        refine lv_iload_n hx hb d_M_hasStock_10 rfl (lv_at hl 2 rfl) ?_
        refine lv_if_eq (tgt := 38) hx hb d_M_hasStock_11 (by decide) (fun c11 => ?_) (fun c11 => ?_)
        · have hw := hw.1 c11
          exact jn38 v3_ _ _ _ hw hP hD hS (lv_sub hl [0, 1, 3] rfl)
        · have hw := hw.2 c11
          refine lv_aload_n hx hb d_M_hasStock_14 rfl (lv_at hl 0 rfl) ?_
          refine va_get (D := (dC, dI)) (ci := 4) (v := .ref (qM 15)) (C := "ReleaseRowsModel") (T := T_M) (N := 27) hx hb hts in_M hown hK hP 0 rfl rfl 14 (by decide) (hts _ k_590) (fun _ h9 => h9) rfl d_M_hasStock_15 ?_
          refine lv_iload_n hx hb d_M_hasStock_18 rfl (lv_at hl 3 rfl) ?_
          obtain ⟨h19, hw⟩ := hw
          refine va_iald hx hb hK hP 11 0 rfl rfl h19 d_M_hasStock_19 ?_
          refine lv_aload_n hx hb d_M_hasStock_20 rfl (lv_at hl 0 rfl) ?_
          refine va_get (D := (dC, dI)) (ci := 4) (v := .ref (qM 14)) (C := "ReleaseRowsModel") (T := T_M) (N := 27) hx hb hts in_M hown hK hP 0 rfl rfl 13 (by decide) (hts _ k_589) (fun _ h9 => h9) rfl d_M_hasStock_21 ?_
          refine lv_bipush (v := (6 : Int32)) hx hb d_M_hasStock_24 (by decide) ?_
          refine lv_iload_n hx hb d_M_hasStock_26 rfl (lv_at hl 1 rfl) ?_
          refine lv_imul hx hb d_M_hasStock_27 ?_
          refine lv_iload_n hx hb d_M_hasStock_28 rfl (lv_at hl 3 rfl) ?_
          refine lv_iadd hx hb d_M_hasStock_29 ?_
          obtain ⟨h30, hw⟩ := hw
          refine va_iald hx hb hK hP 10 0 rfl rfl h30 d_M_hasStock_30 ?_
          refine lv_icmp_lt (tgt := 38) hx hb d_M_hasStock_31 (by decide) (fun c31 => ?_) (fun c31 => ?_)
          · have hw := hw.1 c31
            exact jn38 v3_ _ _ _ hw hP hD hS (lv_sub hl [0, 1, 3] rfl)
          · have hw := hw.2 c31
            refine lv_iconst (v := (1 : Int32)) hx hb d_M_hasStock_34 (by decide) ?_
            refine lv_goto (tgt := 39) hx hb d_M_hasStock_35 (by decide) ?_
            exact jn39 (1 : Int32) v3_ _ _ _ hw hP hD hS (lv_sub hl [0, 1, 3] rfl)
  unfold wp_M_hasStock at hw
  refine lv_iconst (v := (1 : Int32)) hx hb d_M_hasStock_0 (by decide) ?_
  refine lv_istore_n (lv' := [(2, .int (1 : Int32)), (0, .ref (qM 0)), (1, .int a1)]) hx hb d_M_hasStock_1 rfl hl (by decide) rfl (fun ls hl => ?_)
  refine lv_iconst (v := (0 : Int32)) hx hb d_M_hasStock_2 (by decide) ?_
  refine lv_istore_n (lv' := [(3, .int (0 : Int32)), (2, .int (1 : Int32)), (0, .ref (qM 0)), (1, .int a1)]) hx hb d_M_hasStock_3 rfl hl (by decide) rfl (fun ls hl => ?_)
  obtain ⟨n9, hw⟩ := hw
  exact lp4 n9 (1 : Int32) (0 : Int32) _ _ _ hw hP hD hS (lv_sub hl [2, 3, 1, 0] rfl)

def wj_M_goesOn_180 (xM : St) (a1 : Int32) (post : Int32 → St → Prop) (xM_ : St) : Prop := post (0 : Int32) xM_
def wj_M_goesOn_139 (xM : St) (a1 : Int32) (post : Int32 → St → Prop) (xM_ : St) : Prop := vp_in a1 24 ∧ ((¬ (xM_.1 8 a1.toNatClampNeg) = (5 : Int32) → (wj_M_goesOn_180 xM a1 post xM_)) ∧ ((xM_.1 8 a1.toNatClampNeg) = (5 : Int32) → (vp_in a1 24 ∧ (vp_in a1 24 ∧ (vp_in a1 24 ∧ ((¬ ((xM_.1 11 a1.toNatClampNeg) &&& (xM_.1 7 a1.toNatClampNeg)) = (xM_.1 7 a1.toNatClampNeg) → (wj_M_goesOn_180 xM a1 post xM_)) ∧ (((xM_.1 11 a1.toNatClampNeg) &&& (xM_.1 7 a1.toNatClampNeg)) = (xM_.1 7 a1.toNatClampNeg) → (wp_M_become xM_ a1 (0 : Int32) (-1 : Int32) (fun u175 => (post (1 : Int32) u175))))))))))
def wl_M_goesOn_79 (xM : St) (a1 : Int32) (post : Int32 → St → Prop) : Nat → St → Int32 → Prop
  | 0 => fun _ _ => False
  | n9 + 1 => fun xM_ v2_ => ((6 : Int32) ≤ v2_ → (vp_in a1 24 ∧ (wp_M_become (sA xM_ 11 a1.toNatClampNeg (0 : Int32)) a1 (5 : Int32) (-1 : Int32) (fun u134 => (post (1 : Int32) u134))))) ∧ (¬ (6 : Int32) ≤ v2_ → (vp_in v2_ 6 ∧ (vp_in (((6 : Int32) * a1) + v2_) 144 ∧ (vp_in v2_ 6 ∧ (vp_in (((6 : Int32) * a1) + v2_) 144 ∧ (∀ v2_117 : Int32, v2_117 = v2_ + 1 → ((wl_M_goesOn_79 xM a1 post n9) (sA (sA xM_ 14 v2_.toNatClampNeg ((xM_.1 14 v2_.toNatClampNeg) - (xM_.1 13 (((6 : Int32) * a1) + v2_).toNatClampNeg))) 13 (((6 : Int32) * a1) + v2_).toNatClampNeg (0 : Int32)) v2_117)))))))
def wj_M_goesOn_39 (xM : St) (a1 : Int32) (post : Int32 → St → Prop) (xM_ : St) : Prop := vp_in a1 24 ∧ ((¬ (xM_.1 8 a1.toNatClampNeg) = (4 : Int32) → (wj_M_goesOn_139 xM a1 post xM_)) ∧ ((xM_.1 8 a1.toNatClampNeg) = (4 : Int32) → (vp_in a1 24 ∧ (vp_in a1 24 ∧ (((xM_.2 1) < ((xM_.1 10 a1.toNatClampNeg) + (xM_.1 6 a1.toNatClampNeg)) → (wj_M_goesOn_139 xM a1 post xM_)) ∧ (¬ (xM_.2 1) < ((xM_.1 10 a1.toNatClampNeg) + (xM_.1 6 a1.toNatClampNeg)) → (wp_M_hasStock xM_ a1 (fun r71 _ => ((r71 = 0 → (wj_M_goesOn_139 xM a1 post xM_)) ∧ (¬ r71 = 0 → (∃ k9 : Nat, wl_M_goesOn_79 xM a1 post k9 xM_ (0 : Int32))))))))))))
def wp_M_goesOn (xM : St) (a1 : Int32) (post : Int32 → St → Prop) : Prop := vp_in a1 24 ∧ ((¬ (xM.1 8 a1.toNatClampNeg) = (3 : Int32) → (wj_M_goesOn_39 xM a1 post xM)) ∧ ((xM.1 8 a1.toNatClampNeg) = (3 : Int32) → (vp_in a1 24 ∧ (vp_in a1 24 ∧ (((xM.2 1) < ((xM.1 10 a1.toNatClampNeg) + (xM.1 5 a1.toNatClampNeg)) → (wj_M_goesOn_39 xM a1 post xM)) ∧ (¬ (xM.2 1) < ((xM.1 10 a1.toNatClampNeg) + (xM.1 5 a1.toNatClampNeg)) → (wp_M_become xM a1 (4 : Int32) (-1 : Int32) (fun u34 => (post (1 : Int32) u34)))))))))
set_option maxHeartbeats 4000000 in
set_option maxRecDepth 100000 in
theorem c_M_goesOn (l : Launch) (dC : Nat → ClassId) (dI : Nat → Nat → Nat) (cI cZ cL : ClassId) (qM : Nat → Nat) (sz : Nat) (xM : St) (a1 : Int32) (post : Int32 → St → Prop) (hw : wp_M_goesOn xM a1 post) : Met l y_M_goesOn w_M_goesOn ({ frames := 1, cells := 0, slots := 0, locals := 23 } : Room) (va_Pc [.ref (qM 0), .int a1] (xP (dC, dI) vwCl [(cI, .int), (cZ, .boolean), (cL, .long)] (wd_M qM cI cZ cL xM) sz)) (va_Qi post (xB (dC, dI) vwCl [(cI, .int), (cZ, .boolean), (cL, .long)] (va_A (wd_M qM cI cZ cL xM) sz) (fun u => (wd_M qM cI cZ cL u))) (va_A (wd_M qM cI cZ cL xM) sz)) 0 0 (va_A (wd_M qM cI cZ cL xM) sz) := by
  refine x_ofI (cc := b_M_goesOn) (maxL := 3) (by decide) rfl (Nat.le_of_ble_eq_true rfl) (fun p e s m below meth c A Q hx hb hml hts hown hK hA hP hD hS hret ls hl => ?_)
  have hl : lv_has ls 3 [(0, .ref (qM 0)), (1, .int a1)] := hl
  have jn180 : ∀ (xM_ : St) (H : Heap) (locs : List Loc) (ls : Array Slot), wj_M_goesOn_180 xM a1 post xM_ → va_P (dC, dI) vwCl (wd_M qM cI cZ cL xM_) H → va_D A (wd_M qM cI cZ cL xM_) → va_S A s.heap H locs → lv_has ls 3 [] → W p l e (headSpec w_M_goesOn ({ frames := 1, cells := 0, slots := 0, locals := 23 } : Room)).room s m ([.ref (qM 0), .int a1] : List Value).toArray below meth c H locs 0 0 Q (F0 m 180 ls []) := by
    intro xM_ H locs ls hw hP hD hS hl
    unfold wj_M_goesOn_180 at hw
    refine lv_iconst (v := (0 : Int32)) hx hb d_M_goesOn_180 (by decide) ?_
    exact hret (0 : Int32) xM_ _ _ _ _ _ _ (by decide) hw hP hD hS (Nat.le_of_ble_eq_true rfl) (Nat.le_of_ble_eq_true rfl) d_M_goesOn_181
  have jn139 : ∀ (xM_ : St) (H : Heap) (locs : List Loc) (ls : Array Slot), wj_M_goesOn_139 xM a1 post xM_ → va_P (dC, dI) vwCl (wd_M qM cI cZ cL xM_) H → va_D A (wd_M qM cI cZ cL xM_) → va_S A s.heap H locs → lv_has ls 3 [(0, .ref (qM 0)), (1, .int a1)] → W p l e (headSpec w_M_goesOn ({ frames := 1, cells := 0, slots := 0, locals := 23 } : Room)).room s m ([.ref (qM 0), .int a1] : List Value).toArray below meth c H locs 0 0 Q (F0 m 139 ls []) := by
    intro xM_ H locs ls hw hP hD hS hl
    unfold wj_M_goesOn_139 at hw
    refine lv_aload_n hx hb d_M_goesOn_139 rfl (lv_at hl 0 rfl) ?_
    refine va_get (D := (dC, dI)) (ci := 4) (v := .ref (qM 9)) (C := "ReleaseRowsModel") (T := T_M) (N := 27) hx hb hts in_M hown hK hP 0 rfl rfl 8 (by decide) (hts _ k_584) (fun _ h9 => h9) rfl d_M_goesOn_140 ?_
    refine lv_iload_n hx hb d_M_goesOn_143 rfl (lv_at hl 1 rfl) ?_
    obtain ⟨h144, hw⟩ := hw
    refine va_iald hx hb hK hP 5 0 rfl rfl h144 d_M_goesOn_144 ?_
    refine lv_iconst (v := (5 : Int32)) hx hb d_M_goesOn_145 (by decide) ?_
    refine lv_icmp_ne (tgt := 180) hx hb d_M_goesOn_146 (by decide) (fun c146 => ?_) (fun c146 => ?_)
    · have hw := hw.1 c146
      exact jn180 xM_ _ _ _ hw hP hD hS (lv_sub hl [] rfl)
    · have hw := hw.2 c146
      refine lv_aload_n hx hb d_M_goesOn_149 rfl (lv_at hl 0 rfl) ?_
      refine va_get (D := (dC, dI)) (ci := 4) (v := .ref (qM 12)) (C := "ReleaseRowsModel") (T := T_M) (N := 27) hx hb hts in_M hown hK hP 0 rfl rfl 11 (by decide) (hts _ k_587) (fun _ h9 => h9) rfl d_M_goesOn_150 ?_
      refine lv_iload_n hx hb d_M_goesOn_153 rfl (lv_at hl 1 rfl) ?_
      obtain ⟨h154, hw⟩ := hw
      refine va_iald hx hb hK hP 8 0 rfl rfl h154 d_M_goesOn_154 ?_
      refine lv_aload_n hx hb d_M_goesOn_155 rfl (lv_at hl 0 rfl) ?_
      refine va_get (D := (dC, dI)) (ci := 4) (v := .ref (qM 8)) (C := "ReleaseRowsModel") (T := T_M) (N := 27) hx hb hts in_M hown hK hP 0 rfl rfl 7 (by decide) (hts _ k_583) (fun _ h9 => h9) rfl d_M_goesOn_156 ?_
      refine lv_iload_n hx hb d_M_goesOn_159 rfl (lv_at hl 1 rfl) ?_
      obtain ⟨h160, hw⟩ := hw
      refine va_iald hx hb hK hP 4 0 rfl rfl h160 d_M_goesOn_160 ?_
      refine lv_iand hx hb d_M_goesOn_161 ?_
      refine lv_aload_n hx hb d_M_goesOn_162 rfl (lv_at hl 0 rfl) ?_
      refine va_get (D := (dC, dI)) (ci := 4) (v := .ref (qM 8)) (C := "ReleaseRowsModel") (T := T_M) (N := 27) hx hb hts in_M hown hK hP 0 rfl rfl 7 (by decide) (hts _ k_583) (fun _ h9 => h9) rfl d_M_goesOn_163 ?_
      refine lv_iload_n hx hb d_M_goesOn_166 rfl (lv_at hl 1 rfl) ?_
      obtain ⟨h167, hw⟩ := hw
      refine va_iald hx hb hK hP 4 0 rfl rfl h167 d_M_goesOn_167 ?_
      refine lv_icmp_ne (tgt := 180) hx hb d_M_goesOn_168 (by decide) (fun c168 => ?_) (fun c168 => ?_)
      · have hw := hw.1 c168
        exact jn180 xM_ _ _ _ hw hP hD hS (lv_sub hl [] rfl)
      · have hw := hw.2 c168
        refine lv_aload_n hx hb d_M_goesOn_171 rfl (lv_at hl 0 rfl) ?_
        refine lv_iload_n hx hb d_M_goesOn_172 rfl (lv_at hl 1 rfl) ?_
        refine lv_iconst (v := (0 : Int32)) hx hb d_M_goesOn_173 (by decide) ?_
        refine lv_iconst (v := (-1 : Int32)) hx hb d_M_goesOn_174 (by decide) ?_
        refine x_cv (w2 := fun u175 => (wd_M qM cI cZ cL u175)) [0, 1, 2, 3, 4, 5, 6, 7, 8, 9, 10, 11, 12, 13, 14, 15, 16, 17, 18, 19, 20, 21] [] [0, 1, 2, 3, 4, 5, 6, 7, 8, 9, 10, 11, 12, 13, 14, 15, 16, 17, 18, 19, 20, 21] (va_runV (As := [.int a1, .int (0 : Int32), .int (-1 : Int32)]) (rest := []) ⟨hx, hb, hml, hown, hts⟩ (c_M_become l dC dI cI cZ cL qM _ xM_ a1 (0 : Int32) (-1 : Int32) _ hw) (cwV 3 hts (x_gV k_682 k_684 k_13 k_30 k_685) rfl rfl rfl (by decide +kernel) ⟨Nat.le_of_ble_eq_true rfl, Nat.le_of_ble_eq_true rfl⟩) ⟨x_blind, va_recv hK hP (ci := 4) (q0 := 0) rfl rfl, fun U hU hW => x_pre (isC := [0, 1, 2, 3, 4, 5, 6, 7, 8, 9, 10, 11, 12, 13, 14, 15, 16, 17, 18, 19, 20, 21]) hK hP hD rfl rfl hU hW⟩ rfl rfl hl.1 rfl (lv_room (Nat.le_of_ble_eq_true rfl)) d_M_goesOn_175 ⟨Nat.le_of_ble_eq_true rfl, Nat.le_of_ble_eq_true rfl⟩) hP hD hS hA rfl rfl rfl (by decide) (fun _ => rfl) rfl (fun u175 H locs hw hP hD hS => ?_)
        refine lv_iconst (v := (1 : Int32)) hx hb d_M_goesOn_178 (by decide) ?_
        exact hret (1 : Int32) u175 _ _ _ _ _ _ (by decide) hw hP hD hS (Nat.le_of_ble_eq_true rfl) (Nat.le_of_ble_eq_true rfl) d_M_goesOn_179
  have lp79 : ∀ (n79 : Nat) (xM_ : St) (v2_ : Int32) (H : Heap) (locs : List Loc) (ls : Array Slot), wl_M_goesOn_79 xM a1 post n79 xM_ v2_ → va_P (dC, dI) vwCl (wd_M qM cI cZ cL xM_) H → va_D A (wd_M qM cI cZ cL xM_) → va_S A s.heap H locs → lv_has ls 3 [(0, .ref (qM 0)), (1, .int a1), (2, .int v2_)] → W p l e (headSpec w_M_goesOn ({ frames := 1, cells := 0, slots := 0, locals := 23 } : Room)).room s m ([.ref (qM 0), .int a1] : List Value).toArray below meth c H locs 0 0 Q (F0 m 79 ls []) := by
    intro n79
    induction n79 with
    | zero => intro xM_ v2_ H locs ls hw; exact hw.elim
    | succ n79 ih79 =>
      intro xM_ v2_ H locs ls hw hP hD hS hl
      unfold wl_M_goesOn_79 at hw
      refine lv_iload_n hx hb d_M_goesOn_79 rfl (lv_at hl 2 rfl) ?_
      refine lv_bipush (v := (6 : Int32)) hx hb d_M_goesOn_80 (by decide) ?_
      refine lv_icmp_ge (tgt := 123) hx hb d_M_goesOn_82 (by decide) (fun c82 => ?_) (fun c82 => ?_)
      · have hw := hw.1 c82
        refine lv_aload_n hx hb d_M_goesOn_123 rfl (lv_at hl 0 rfl) ?_
        refine va_get (D := (dC, dI)) (ci := 4) (v := .ref (qM 12)) (C := "ReleaseRowsModel") (T := T_M) (N := 27) hx hb hts in_M hown hK hP 0 rfl rfl 11 (by decide) (hts _ k_587) (fun _ h9 => h9) rfl d_M_goesOn_124 ?_
        refine lv_iload_n hx hb d_M_goesOn_127 rfl (lv_at hl 1 rfl) ?_
        refine lv_iconst (v := (0 : Int32)) hx hb d_M_goesOn_128 (by decide) ?_
        obtain ⟨h129, hw⟩ := hw
        refine va_iast hx hb hK hP hD hS 8 0 rfl rfl h129 d_M_goesOn_129 (fun H locs hP hD hS => ?_)
        have hP := wsP_M_M11 hP
        have hD := wsD_M_M11 hD
        refine lv_aload_n hx hb d_M_goesOn_130 rfl (lv_at hl 0 rfl) ?_
        refine lv_iload_n hx hb d_M_goesOn_131 rfl (lv_at hl 1 rfl) ?_
        refine lv_iconst (v := (5 : Int32)) hx hb d_M_goesOn_132 (by decide) ?_
        refine lv_iconst (v := (-1 : Int32)) hx hb d_M_goesOn_133 (by decide) ?_
        refine x_cv (w2 := fun u134 => (wd_M qM cI cZ cL u134)) [0, 1, 2, 3, 4, 5, 6, 7, 8, 9, 10, 11, 12, 13, 14, 15, 16, 17, 18, 19, 20, 21] [] [0, 1, 2, 3, 4, 5, 6, 7, 8, 9, 10, 11, 12, 13, 14, 15, 16, 17, 18, 19, 20, 21] (va_runV (As := [.int a1, .int (5 : Int32), .int (-1 : Int32)]) (rest := []) ⟨hx, hb, hml, hown, hts⟩ (c_M_become l dC dI cI cZ cL qM _ (sA xM_ 11 a1.toNatClampNeg (0 : Int32)) a1 (5 : Int32) (-1 : Int32) _ hw) (cwV 3 hts (x_gV k_682 k_684 k_13 k_30 k_685) rfl rfl rfl (by decide +kernel) ⟨Nat.le_of_ble_eq_true rfl, Nat.le_of_ble_eq_true rfl⟩) ⟨x_blind, va_recv hK hP (ci := 4) (q0 := 0) rfl rfl, fun U hU hW => x_pre (isC := [0, 1, 2, 3, 4, 5, 6, 7, 8, 9, 10, 11, 12, 13, 14, 15, 16, 17, 18, 19, 20, 21]) hK hP hD rfl rfl hU hW⟩ rfl rfl hl.1 rfl (lv_room (Nat.le_of_ble_eq_true rfl)) d_M_goesOn_134 ⟨Nat.le_of_ble_eq_true rfl, Nat.le_of_ble_eq_true rfl⟩) hP hD hS hA rfl rfl rfl (by decide) (fun _ => rfl) rfl (fun u134 H locs hw hP hD hS => ?_)
        refine lv_iconst (v := (1 : Int32)) hx hb d_M_goesOn_137 (by decide) ?_
        exact hret (1 : Int32) u134 _ _ _ _ _ _ (by decide) hw hP hD hS (Nat.le_of_ble_eq_true rfl) (Nat.le_of_ble_eq_true rfl) d_M_goesOn_138
      · have hw := hw.2 c82
        refine lv_aload_n hx hb d_M_goesOn_85 rfl (lv_at hl 0 rfl) ?_
        refine va_get (D := (dC, dI)) (ci := 4) (v := .ref (qM 15)) (C := "ReleaseRowsModel") (T := T_M) (N := 27) hx hb hts in_M hown hK hP 0 rfl rfl 14 (by decide) (hts _ k_590) (fun _ h9 => h9) rfl d_M_goesOn_86 ?_
        refine lv_iload_n hx hb d_M_goesOn_89 rfl (lv_at hl 2 rfl) ?_
        refine lv_dup2_11 hx hb d_M_goesOn_90 rfl rfl ?_
        obtain ⟨h91, hw⟩ := hw
        refine va_iald hx hb hK hP 11 0 rfl rfl h91 d_M_goesOn_91 ?_
        refine lv_aload_n hx hb d_M_goesOn_92 rfl (lv_at hl 0 rfl) ?_
        refine va_get (D := (dC, dI)) (ci := 4) (v := .ref (qM 14)) (C := "ReleaseRowsModel") (T := T_M) (N := 27) hx hb hts in_M hown hK hP 0 rfl rfl 13 (by decide) (hts _ k_589) (fun _ h9 => h9) rfl d_M_goesOn_93 ?_
        refine lv_bipush (v := (6 : Int32)) hx hb d_M_goesOn_96 (by decide) ?_
        refine lv_iload_n hx hb d_M_goesOn_98 rfl (lv_at hl 1 rfl) ?_
        refine lv_imul hx hb d_M_goesOn_99 ?_
        refine lv_iload_n hx hb d_M_goesOn_100 rfl (lv_at hl 2 rfl) ?_
        refine lv_iadd hx hb d_M_goesOn_101 ?_
        obtain ⟨h102, hw⟩ := hw
        refine va_iald hx hb hK hP 10 0 rfl rfl h102 d_M_goesOn_102 ?_
        refine lv_isub hx hb d_M_goesOn_103 ?_
        obtain ⟨h104, hw⟩ := hw
        refine va_iast hx hb hK hP hD hS 11 0 rfl rfl h104 d_M_goesOn_104 (fun H locs hP hD hS => ?_)
        have hP := wsP_M_M14 hP
        have hD := wsD_M_M14 hD
        refine lv_aload_n hx hb d_M_goesOn_105 rfl (lv_at hl 0 rfl) ?_
        refine va_get (D := (dC, dI)) (ci := 4) (v := .ref (qM 14)) (C := "ReleaseRowsModel") (T := T_M) (N := 27) hx hb hts in_M hown hK hP 0 rfl rfl 13 (by decide) (hts _ k_589) (fun _ h9 => h9) rfl d_M_goesOn_106 ?_
        refine lv_bipush (v := (6 : Int32)) hx hb d_M_goesOn_109 (by decide) ?_
        refine lv_iload_n hx hb d_M_goesOn_111 rfl (lv_at hl 1 rfl) ?_
        refine lv_imul hx hb d_M_goesOn_112 ?_
        refine lv_iload_n hx hb d_M_goesOn_113 rfl (lv_at hl 2 rfl) ?_
        refine lv_iadd hx hb d_M_goesOn_114 ?_
        refine lv_iconst (v := (0 : Int32)) hx hb d_M_goesOn_115 (by decide) ?_
        obtain ⟨h116, hw⟩ := hw
        refine va_iast hx hb hK hP hD hS 10 0 rfl rfl h116 d_M_goesOn_116 (fun H locs hP hD hS => ?_)
        have hP := wsP_M_M13 hP
        have hD := wsD_M_M13 hD
        obtain ⟨v2_117, ev2_117⟩ : ∃ y : Int32, y = v2_ + 1 := ⟨_, rfl⟩
        have hw := hw v2_117 ev2_117
        refine lv_iinc (v := v2_117) (lv' := [(2, .int v2_117), (0, .ref (qM 0)), (1, .int a1)]) hx hb d_M_goesOn_117 hl (k := 2) rfl (by rw [ev2_117]; rfl) (by decide) rfl (fun ls hl => ?_)
        refine lv_goto (tgt := 79) hx hb d_M_goesOn_120 (by decide) ?_
        exact ih79 (sA (sA xM_ 14 v2_.toNatClampNeg ((xM_.1 14 v2_.toNatClampNeg) - (xM_.1 13 (((6 : Int32) * a1) + v2_).toNatClampNeg))) 13 (((6 : Int32) * a1) + v2_).toNatClampNeg (0 : Int32)) v2_117 _ _ _ hw hP hD hS (lv_sub hl [1, 2, 0] rfl)
  have jn39 : ∀ (xM_ : St) (H : Heap) (locs : List Loc) (ls : Array Slot), wj_M_goesOn_39 xM a1 post xM_ → va_P (dC, dI) vwCl (wd_M qM cI cZ cL xM_) H → va_D A (wd_M qM cI cZ cL xM_) → va_S A s.heap H locs → lv_has ls 3 [(0, .ref (qM 0)), (1, .int a1)] → W p l e (headSpec w_M_goesOn ({ frames := 1, cells := 0, slots := 0, locals := 23 } : Room)).room s m ([.ref (qM 0), .int a1] : List Value).toArray below meth c H locs 0 0 Q (F0 m 39 ls []) := by
    intro xM_ H locs ls hw hP hD hS hl
    unfold wj_M_goesOn_39 at hw
    refine lv_aload_n hx hb d_M_goesOn_39 rfl (lv_at hl 0 rfl) ?_
    refine va_get (D := (dC, dI)) (ci := 4) (v := .ref (qM 9)) (C := "ReleaseRowsModel") (T := T_M) (N := 27) hx hb hts in_M hown hK hP 0 rfl rfl 8 (by decide) (hts _ k_584) (fun _ h9 => h9) rfl d_M_goesOn_40 ?_
    refine lv_iload_n hx hb d_M_goesOn_43 rfl (lv_at hl 1 rfl) ?_
    obtain ⟨h44, hw⟩ := hw
    refine va_iald hx hb hK hP 5 0 rfl rfl h44 d_M_goesOn_44 ?_
    refine lv_iconst (v := (4 : Int32)) hx hb d_M_goesOn_45 (by decide) ?_
    refine lv_icmp_ne (tgt := 139) hx hb d_M_goesOn_46 (by decide) (fun c46 => ?_) (fun c46 => ?_)
    · have hw := hw.1 c46
      exact jn139 xM_ _ _ _ hw hP hD hS hl
    · have hw := hw.2 c46
      refine lv_aload_n hx hb d_M_goesOn_49 rfl (lv_at hl 0 rfl) ?_
      refine va_get (D := (dC, dI)) (ci := 4) (v := .int (xM_.2 1)) (C := "ReleaseRowsModel") (T := T_M) (N := 27) hx hb hts in_M hown hK hP 0 rfl rfl 1 (by decide) (hts _ k_577) (fun _ h9 => h9) rfl d_M_goesOn_50 ?_
      refine lv_aload_n hx hb d_M_goesOn_53 rfl (lv_at hl 0 rfl) ?_
      refine va_get (D := (dC, dI)) (ci := 4) (v := .ref (qM 11)) (C := "ReleaseRowsModel") (T := T_M) (N := 27) hx hb hts in_M hown hK hP 0 rfl rfl 10 (by decide) (hts _ k_586) (fun _ h9 => h9) rfl d_M_goesOn_54 ?_
      refine lv_iload_n hx hb d_M_goesOn_57 rfl (lv_at hl 1 rfl) ?_
      obtain ⟨h58, hw⟩ := hw
      refine va_iald hx hb hK hP 7 0 rfl rfl h58 d_M_goesOn_58 ?_
      refine lv_aload_n hx hb d_M_goesOn_59 rfl (lv_at hl 0 rfl) ?_
      refine va_get (D := (dC, dI)) (ci := 4) (v := .ref (qM 7)) (C := "ReleaseRowsModel") (T := T_M) (N := 27) hx hb hts in_M hown hK hP 0 rfl rfl 6 (by decide) (hts _ k_582) (fun _ h9 => h9) rfl d_M_goesOn_60 ?_
      refine lv_iload_n hx hb d_M_goesOn_63 rfl (lv_at hl 1 rfl) ?_
      obtain ⟨h64, hw⟩ := hw
      refine va_iald hx hb hK hP 3 0 rfl rfl h64 d_M_goesOn_64 ?_
      refine lv_iadd hx hb d_M_goesOn_65 ?_
      refine lv_icmp_lt (tgt := 139) hx hb d_M_goesOn_66 (by decide) (fun c66 => ?_) (fun c66 => ?_)
      · have hw := hw.1 c66
        exact jn139 xM_ _ _ _ hw hP hD hS hl
      · have hw := hw.2 c66
        refine lv_aload_n hx hb d_M_goesOn_69 rfl (lv_at hl 0 rfl) ?_
        refine lv_iload_n hx hb d_M_goesOn_70 rfl (lv_at hl 1 rfl) ?_
        refine x_ci (w2 := fun _ => (wd_M qM cI cZ cL xM_)) [0, 1, 2, 3, 4, 5, 6, 7, 8, 9, 10, 11, 12, 13, 14, 15, 16, 17, 18, 19, 20, 21] [] [0, 1, 2, 3, 4, 5, 6, 7, 8, 9, 10, 11, 12, 13, 14, 15, 16, 17, 18, 19, 20, 21] (va_runV (As := [.int a1]) (rest := []) ⟨hx, hb, hml, hown, hts⟩ (c_M_hasStock l dC dI cI cZ cL qM _ xM_ a1 _ hw) (cwV 1 hts (x_gV k_686 k_688 k_14 k_30 k_689) rfl rfl rfl (by decide +kernel) ⟨Nat.le_of_ble_eq_true rfl, Nat.le_of_ble_eq_true rfl⟩) ⟨x_blind, va_recv hK hP (ci := 4) (q0 := 0) rfl rfl, fun U hU hW => x_pre (isC := [0, 1, 2, 3, 4, 5, 6, 7, 8, 9, 10, 11, 12, 13, 14, 15, 16, 17, 18, 19, 20, 21]) hK hP hD rfl rfl hU hW⟩ rfl rfl hl.1 rfl (lv_room (Nat.le_of_ble_eq_true rfl)) d_M_goesOn_71 ⟨Nat.le_of_ble_eq_true rfl, Nat.le_of_ble_eq_true rfl⟩) hP hD hS hA rfl rfl rfl (by decide) (fun _ => rfl) rfl (fun r71 _ H locs hw hP hD hS => ?_)
        refine lv_if_eq (tgt := 139) hx hb d_M_goesOn_74 (by decide) (fun c74 => ?_) (fun c74 => ?_)
        · have hw := hw.1 c74
          exact jn139 xM_ _ _ _ hw hP hD hS hl
        · have hw := hw.2 c74
          refine lv_iconst (v := (0 : Int32)) hx hb d_M_goesOn_77 (by decide) ?_
          refine lv_istore_n (lv' := [(2, .int (0 : Int32)), (0, .ref (qM 0)), (1, .int a1)]) hx hb d_M_goesOn_78 rfl hl (by decide) rfl (fun ls hl => ?_)
          obtain ⟨n9, hw⟩ := hw
          exact lp79 n9 xM_ (0 : Int32) _ _ _ hw hP hD hS (lv_sub hl [1, 2, 0] rfl)
  unfold wp_M_goesOn at hw
  refine lv_aload_n hx hb d_M_goesOn_0 rfl (lv_at hl 0 rfl) ?_
  refine va_get (D := (dC, dI)) (ci := 4) (v := .ref (qM 9)) (C := "ReleaseRowsModel") (T := T_M) (N := 27) hx hb hts in_M hown hK hP 0 rfl rfl 8 (by decide) (hts _ k_584) (fun _ h9 => h9) rfl d_M_goesOn_1 ?_
  refine lv_iload_n hx hb d_M_goesOn_4 rfl (lv_at hl 1 rfl) ?_
  obtain ⟨h5, hw⟩ := hw
  refine va_iald hx hb hK hP 5 0 rfl rfl h5 d_M_goesOn_5 ?_
  refine lv_iconst (v := (3 : Int32)) hx hb d_M_goesOn_6 (by decide) ?_
  refine lv_icmp_ne (tgt := 39) hx hb d_M_goesOn_7 (by decide) (fun c7 => ?_) (fun c7 => ?_)
  · have hw := hw.1 c7
    exact jn39 xM _ _ _ hw hP hD hS hl
  · have hw := hw.2 c7
    refine lv_aload_n hx hb d_M_goesOn_10 rfl (lv_at hl 0 rfl) ?_
    refine va_get (D := (dC, dI)) (ci := 4) (v := .int (xM.2 1)) (C := "ReleaseRowsModel") (T := T_M) (N := 27) hx hb hts in_M hown hK hP 0 rfl rfl 1 (by decide) (hts _ k_577) (fun _ h9 => h9) rfl d_M_goesOn_11 ?_
    refine lv_aload_n hx hb d_M_goesOn_14 rfl (lv_at hl 0 rfl) ?_
    refine va_get (D := (dC, dI)) (ci := 4) (v := .ref (qM 11)) (C := "ReleaseRowsModel") (T := T_M) (N := 27) hx hb hts in_M hown hK hP 0 rfl rfl 10 (by decide) (hts _ k_586) (fun _ h9 => h9) rfl d_M_goesOn_15 ?_
    refine lv_iload_n hx hb d_M_goesOn_18 rfl (lv_at hl 1 rfl) ?_
    obtain ⟨h19, hw⟩ := hw
    refine va_iald hx hb hK hP 7 0 rfl rfl h19 d_M_goesOn_19 ?_
    refine lv_aload_n hx hb d_M_goesOn_20 rfl (lv_at hl 0 rfl) ?_
    refine va_get (D := (dC, dI)) (ci := 4) (v := .ref (qM 6)) (C := "ReleaseRowsModel") (T := T_M) (N := 27) hx hb hts in_M hown hK hP 0 rfl rfl 5 (by decide) (hts _ k_581) (fun _ h9 => h9) rfl d_M_goesOn_21 ?_
    refine lv_iload_n hx hb d_M_goesOn_24 rfl (lv_at hl 1 rfl) ?_
    obtain ⟨h25, hw⟩ := hw
    refine va_iald hx hb hK hP 2 0 rfl rfl h25 d_M_goesOn_25 ?_
    refine lv_iadd hx hb d_M_goesOn_26 ?_
    refine lv_icmp_lt (tgt := 39) hx hb d_M_goesOn_27 (by decide) (fun c27 => ?_) (fun c27 => ?_)
    · have hw := hw.1 c27
      exact jn39 xM _ _ _ hw hP hD hS hl
    · have hw := hw.2 c27
      refine lv_aload_n hx hb d_M_goesOn_30 rfl (lv_at hl 0 rfl) ?_
      refine lv_iload_n hx hb d_M_goesOn_31 rfl (lv_at hl 1 rfl) ?_
      refine lv_iconst (v := (4 : Int32)) hx hb d_M_goesOn_32 (by decide) ?_
      refine lv_iconst (v := (-1 : Int32)) hx hb d_M_goesOn_33 (by decide) ?_
      refine x_cv (w2 := fun u34 => (wd_M qM cI cZ cL u34)) [0, 1, 2, 3, 4, 5, 6, 7, 8, 9, 10, 11, 12, 13, 14, 15, 16, 17, 18, 19, 20, 21] [] [0, 1, 2, 3, 4, 5, 6, 7, 8, 9, 10, 11, 12, 13, 14, 15, 16, 17, 18, 19, 20, 21] (va_runV (As := [.int a1, .int (4 : Int32), .int (-1 : Int32)]) (rest := []) ⟨hx, hb, hml, hown, hts⟩ (c_M_become l dC dI cI cZ cL qM _ xM a1 (4 : Int32) (-1 : Int32) _ hw) (cwV 3 hts (x_gV k_682 k_684 k_13 k_30 k_685) rfl rfl rfl (by decide +kernel) ⟨Nat.le_of_ble_eq_true rfl, Nat.le_of_ble_eq_true rfl⟩) ⟨x_blind, va_recv hK hP (ci := 4) (q0 := 0) rfl rfl, fun U hU hW => x_pre (isC := [0, 1, 2, 3, 4, 5, 6, 7, 8, 9, 10, 11, 12, 13, 14, 15, 16, 17, 18, 19, 20, 21]) hK hP hD rfl rfl hU hW⟩ rfl rfl hl.1 rfl (lv_room (Nat.le_of_ble_eq_true rfl)) d_M_goesOn_34 ⟨Nat.le_of_ble_eq_true rfl, Nat.le_of_ble_eq_true rfl⟩) hP hD hS hA rfl rfl rfl (by decide) (fun _ => rfl) rfl (fun u34 H locs hw hP hD hS => ?_)
      refine lv_iconst (v := (1 : Int32)) hx hb d_M_goesOn_37 (by decide) ?_
      exact hret (1 : Int32) u34 _ _ _ _ _ _ (by decide) hw hP hD hS (Nat.le_of_ble_eq_true rfl) (Nat.le_of_ble_eq_true rfl) d_M_goesOn_38

def wp_M_put (xM : St) (a1 : Int32) (a2 : Int32) (post : St → Prop) : Prop := wp_M_become xM a1 (1 : Int32) a2 (fun u4 => (vp_in a2 20 ∧ (vp_in a1 24 ∧ (vp_in a1 24 ∧ (post (sA (sA u4 18 a2.toNatClampNeg (vp_nar .boolean (1 : Int32))) 12 a1.toNatClampNeg (((sA u4 18 a2.toNatClampNeg (vp_nar .boolean (1 : Int32))).1 12 a1.toNatClampNeg) + (1 : Int32))))))))
set_option maxHeartbeats 4000000 in
set_option maxRecDepth 100000 in
theorem c_M_put (l : Launch) (dC : Nat → ClassId) (dI : Nat → Nat → Nat) (cI cZ cL : ClassId) (qM : Nat → Nat) (sz : Nat) (xM : St) (a1 : Int32) (a2 : Int32) (post : St → Prop) (hw : wp_M_put xM a1 a2 post) : Met l y_M_put w_M_put ({ frames := 1, cells := 0, slots := 0, locals := 23 } : Room) (va_Pc [.ref (qM 0), .int a1, .int a2] (xP (dC, dI) vwCl [(cI, .int), (cZ, .boolean), (cL, .long)] (wd_M qM cI cZ cL xM) sz)) (va_Qv post (xB (dC, dI) vwCl [(cI, .int), (cZ, .boolean), (cL, .long)] (va_A (wd_M qM cI cZ cL xM) sz) (fun u => (wd_M qM cI cZ cL u))) (va_A (wd_M qM cI cZ cL xM) sz)) 0 0 (va_A (wd_M qM cI cZ cL xM) sz) := by
  refine x_ofV (cc := b_M_put) (maxL := 3) (by decide) rfl (Nat.le_of_ble_eq_true rfl) (fun p e s m below meth c A Q hx hb hml hts hown hin hK hA hP hD hS hret ls hl => ?_)
  have hl : lv_has ls 3 [(0, .ref (qM 0)), (1, .int a1), (2, .int a2)] := hl
  unfold wp_M_put at hw
  refine lv_aload_n hx hb d_M_put_0 rfl (lv_at hl 0 rfl) ?_
  refine lv_iload_n hx hb d_M_put_1 rfl (lv_at hl 1 rfl) ?_
  refine lv_iconst (v := (1 : Int32)) hx hb d_M_put_2 (by decide) ?_
  refine lv_iload_n hx hb d_M_put_3 rfl (lv_at hl 2 rfl) ?_
  refine x_cv (w2 := fun u4 => (wd_M qM cI cZ cL u4)) [0, 1, 2, 3, 4, 5, 6, 7, 8, 9, 10, 11, 12, 13, 14, 15, 16, 17, 18, 19, 20, 21] [] [0, 1, 2, 3, 4, 5, 6, 7, 8, 9, 10, 11, 12, 13, 14, 15, 16, 17, 18, 19, 20, 21] (va_runV (As := [.int a1, .int (1 : Int32), .int a2]) (rest := []) ⟨hx, hb, hml, hown, hts⟩ (c_M_become l dC dI cI cZ cL qM _ xM a1 (1 : Int32) a2 _ hw) (cwV 3 hts (x_gV k_682 k_684 k_13 k_30 k_685) rfl rfl rfl (by decide +kernel) ⟨Nat.le_of_ble_eq_true rfl, Nat.le_of_ble_eq_true rfl⟩) ⟨x_blind, va_recv hK hP (ci := 4) (q0 := 0) rfl rfl, fun U hU hW => x_pre (isC := [0, 1, 2, 3, 4, 5, 6, 7, 8, 9, 10, 11, 12, 13, 14, 15, 16, 17, 18, 19, 20, 21]) hK hP hD rfl rfl hU hW⟩ rfl rfl hl.1 rfl (lv_room (Nat.le_of_ble_eq_true rfl)) d_M_put_4 ⟨Nat.le_of_ble_eq_true rfl, Nat.le_of_ble_eq_true rfl⟩) hP hD hS hA rfl rfl rfl (by decide) (fun _ => rfl) rfl (fun u4 H locs hw hP hD hS => ?_)
  refine lv_aload_n hx hb d_M_put_7 rfl (lv_at hl 0 rfl) ?_
  refine va_get (D := (dC, dI)) (ci := 4) (v := .ref (qM 19)) (C := "ReleaseRowsModel") (T := T_M) (N := 27) hx hb hts in_M hown hK hP 0 rfl rfl 18 (by decide) (hts _ k_594) (fun _ h9 => h9) rfl d_M_put_8 ?_
  refine lv_iload_n hx hb d_M_put_11 rfl (lv_at hl 2 rfl) ?_
  refine lv_iconst (v := (1 : Int32)) hx hb d_M_put_12 (by decide) ?_
  obtain ⟨h13, hw⟩ := hw
  refine va_zast hx hb hK hP hD hS 14 1 rfl rfl h13 d_M_put_13 (fun H locs hP hD hS => ?_)
  have hP := wsP_M_M18 hP
  have hD := wsD_M_M18 hD
  refine lv_aload_n hx hb d_M_put_14 rfl (lv_at hl 0 rfl) ?_
  refine va_get (D := (dC, dI)) (ci := 4) (v := .ref (qM 13)) (C := "ReleaseRowsModel") (T := T_M) (N := 27) hx hb hts in_M hown hK hP 0 rfl rfl 12 (by decide) (hts _ k_588) (fun _ h9 => h9) rfl d_M_put_15 ?_
  refine lv_iload_n hx hb d_M_put_18 rfl (lv_at hl 1 rfl) ?_
  refine lv_dup2_11 hx hb d_M_put_19 rfl rfl ?_
  obtain ⟨h20, hw⟩ := hw
  refine va_iald hx hb hK hP 9 0 rfl rfl h20 d_M_put_20 ?_
  refine lv_iconst (v := (1 : Int32)) hx hb d_M_put_21 (by decide) ?_
  refine lv_iadd hx hb d_M_put_22 ?_
  obtain ⟨h23, hw⟩ := hw
  refine va_iast hx hb hK hP hD hS 9 0 rfl rfl h23 d_M_put_23 (fun H locs hP hD hS => ?_)
  have hP := wsP_M_M12 hP
  have hD := wsD_M_M12 hD
  exact hret (sA (sA u4 18 a2.toNatClampNeg (vp_nar .boolean (1 : Int32))) 12 a1.toNatClampNeg (((sA u4 18 a2.toNatClampNeg (vp_nar .boolean (1 : Int32))).1 12 a1.toNatClampNeg) + (1 : Int32))) _ _ _ _ _ _ hw hP hD hS (Nat.le_of_ble_eq_true rfl) (Nat.le_of_ble_eq_true rfl) d_M_put_24

def wj_M_nearest_42 (xM : St) (post : Int32 → Unit → Prop) (rec4 : Int32 → Int32 → Prop) (v1_ : Int32) (v2_ : Int32) : Prop := ∀ v2_42 : Int32, v2_42 = v2_ + 1 → (rec4 v1_ v2_42)
def wj_M_nearest_40 (xM : St) (post : Int32 → Unit → Prop) (rec4 : Int32 → Int32 → Prop) (v2_ : Int32) : Prop := wj_M_nearest_42 xM post rec4 v2_ v2_
def wl_M_nearest_4 (xM : St) (post : Int32 → Unit → Prop) : Nat → Int32 → Int32 → Prop
  | 0 => fun _ _ => False
  | n9 + 1 => fun v1_ v2_ => ((xM.2 3) ≤ v2_ → (post v1_ ())) ∧ (¬ (xM.2 3) ≤ v2_ → (vp_in v2_ 24 ∧ ((¬ (xM.1 8 v2_.toNatClampNeg) = 0 → (wj_M_nearest_42 xM post (wl_M_nearest_4 xM post n9) v1_ v2_)) ∧ ((xM.1 8 v2_.toNatClampNeg) = 0 → ((v1_ < 0 → (wj_M_nearest_40 xM post (wl_M_nearest_4 xM post n9) v2_)) ∧ (¬ v1_ < 0 → (vp_in v2_ 24 ∧ (vp_in v1_ 24 ∧ (((xM.1 4 v1_.toNatClampNeg) ≤ (xM.1 4 v2_.toNatClampNeg) → (wj_M_nearest_42 xM post (wl_M_nearest_4 xM post n9) v1_ v2_)) ∧ (¬ (xM.1 4 v1_.toNatClampNeg) ≤ (xM.1 4 v2_.toNatClampNeg) → (wj_M_nearest_40 xM post (wl_M_nearest_4 xM post n9) v2_)))))))))))
def wp_M_nearest (xM : St) (post : Int32 → Unit → Prop) : Prop := ∃ k9 : Nat, wl_M_nearest_4 xM post k9 (-1 : Int32) (0 : Int32)
set_option maxHeartbeats 4000000 in
set_option maxRecDepth 100000 in
theorem c_M_nearest (l : Launch) (dC : Nat → ClassId) (dI : Nat → Nat → Nat) (cI cZ cL : ClassId) (qM : Nat → Nat) (sz : Nat) (xM : St) (post : Int32 → Unit → Prop) (hw : wp_M_nearest xM post) : Met l y_M_nearest w_M_nearest ({ frames := 0, cells := 0, slots := 0, locals := 0 } : Room) (va_Pc [.ref (qM 0)] (xP (dC, dI) vwCl [(cI, .int), (cZ, .boolean), (cL, .long)] (wd_M qM cI cZ cL xM) sz)) (va_Qi post (xB (dC, dI) vwCl [(cI, .int), (cZ, .boolean), (cL, .long)] (va_A (wd_M qM cI cZ cL xM) sz) (fun _ => (wd_M qM cI cZ cL xM))) (va_A (wd_M qM cI cZ cL xM) sz)) 0 0 (va_A (wd_M qM cI cZ cL xM) sz) := by
  refine x_ofI (cc := b_M_nearest) (maxL := 3) (by decide) rfl (Nat.le_of_ble_eq_true rfl) (fun p e s m below meth c A Q hx hb hml hts hown hK hA hP hD hS hret ls hl => ?_)
  have hl : lv_has ls 3 [(0, .ref (qM 0))] := hl
  have lp4 : ∀ (n4 : Nat) (v1_ : Int32) (v2_ : Int32) (H : Heap) (locs : List Loc) (ls : Array Slot), wl_M_nearest_4 xM post n4 v1_ v2_ → va_P (dC, dI) vwCl (wd_M qM cI cZ cL xM) H → va_D A (wd_M qM cI cZ cL xM) → va_S A s.heap H locs → lv_has ls 3 [(0, .ref (qM 0)), (1, .int v1_), (2, .int v2_)] → W p l e (headSpec w_M_nearest ({ frames := 0, cells := 0, slots := 0, locals := 0 } : Room)).room s m ([.ref (qM 0)] : List Value).toArray below meth c H locs 0 0 Q (F0 m 4 ls []) := by
    intro n4
    induction n4 with
    | zero => intro v1_ v2_ H locs ls hw; exact hw.elim
    | succ n4 ih4 =>
      have jn42 : ∀ (v1_ : Int32) (v2_ : Int32) (H : Heap) (locs : List Loc) (ls : Array Slot), wj_M_nearest_42 xM post (wl_M_nearest_4 xM post n4) v1_ v2_ → va_P (dC, dI) vwCl (wd_M qM cI cZ cL xM) H → va_D A (wd_M qM cI cZ cL xM) → va_S A s.heap H locs → lv_has ls 3 [(0, .ref (qM 0)), (1, .int v1_), (2, .int v2_)] → W p l e (headSpec w_M_nearest ({ frames := 0, cells := 0, slots := 0, locals := 0 } : Room)).room s m ([.ref (qM 0)] : List Value).toArray below meth c H locs 0 0 Q (F0 m 42 ls []) := by
        intro v1_ v2_ H locs ls hw hP hD hS hl
        unfold wj_M_nearest_42 at hw
        obtain ⟨v2_42, ev2_42⟩ : ∃ y : Int32, y = v2_ + 1 := ⟨_, rfl⟩
        have hw := hw v2_42 ev2_42
        refine lv_iinc (v := v2_42) (lv' := [(2, .int v2_42), (0, .ref (qM 0)), (1, .int v1_)]) hx hb d_M_nearest_42 hl (k := 2) rfl (by rw [ev2_42]; rfl) (by decide) rfl (fun ls hl => ?_)
        refine lv_goto (tgt := 4) hx hb d_M_nearest_45 (by decide) ?_
        exact ih4 v1_ v2_42 _ _ _ hw hP hD hS (lv_sub hl [1, 2, 0] rfl)
      have jn40 : ∀ (v2_ : Int32) (H : Heap) (locs : List Loc) (ls : Array Slot), wj_M_nearest_40 xM post (wl_M_nearest_4 xM post n4) v2_ → va_P (dC, dI) vwCl (wd_M qM cI cZ cL xM) H → va_D A (wd_M qM cI cZ cL xM) → va_S A s.heap H locs → lv_has ls 3 [(0, .ref (qM 0)), (2, .int v2_)] → W p l e (headSpec w_M_nearest ({ frames := 0, cells := 0, slots := 0, locals := 0 } : Room)).room s m ([.ref (qM 0)] : List Value).toArray below meth c H locs 0 0 Q (F0 m 40 ls []) := by
        intro v2_ H locs ls hw hP hD hS hl
        unfold wj_M_nearest_40 at hw
        refine lv_iload_n hx hb d_M_nearest_40 rfl (lv_at hl 1 rfl) ?_
        refine lv_istore_n (lv' := [(1, .int v2_), (0, .ref (qM 0)), (2, .int v2_)]) hx hb d_M_nearest_41 rfl hl (by decide) rfl (fun ls hl => ?_)
        exact jn42 v2_ v2_ _ _ _ hw hP hD hS (lv_sub hl [1, 0, 2] rfl)
      intro v1_ v2_ H locs ls hw hP hD hS hl
      unfold wl_M_nearest_4 at hw
      refine lv_iload_n hx hb d_M_nearest_4 rfl (lv_at hl 2 rfl) ?_
      refine lv_aload_n hx hb d_M_nearest_5 rfl (lv_at hl 0 rfl) ?_
      refine va_get (D := (dC, dI)) (ci := 4) (v := .int (xM.2 3)) (C := "ReleaseRowsModel") (T := T_M) (N := 27) hx hb hts in_M hown hK hP 0 rfl rfl 3 (by decide) (hts _ k_579) (fun _ h9 => h9) rfl d_M_nearest_6 ?_
      refine lv_icmp_ge (tgt := 48) hx hb d_M_nearest_9 (by decide) (fun c9 => ?_) (fun c9 => ?_)
      · have hw := hw.1 c9
        refine lv_iload_n hx hb d_M_nearest_48 rfl (lv_at hl 1 rfl) ?_
        exact hret v1_ () _ _ _ _ _ _ rfl hw hP hD hS (Nat.le_of_ble_eq_true rfl) (Nat.le_of_ble_eq_true rfl) d_M_nearest_49
      · have hw := hw.2 c9
        refine lv_aload_n hx hb d_M_nearest_12 rfl (lv_at hl 0 rfl) ?_
        refine va_get (D := (dC, dI)) (ci := 4) (v := .ref (qM 9)) (C := "ReleaseRowsModel") (T := T_M) (N := 27) hx hb hts in_M hown hK hP 0 rfl rfl 8 (by decide) (hts _ k_584) (fun _ h9 => h9) rfl d_M_nearest_13 ?_
        refine lv_iload_n hx hb d_M_nearest_16 rfl (lv_at hl 2 rfl) ?_
        obtain ⟨h17, hw⟩ := hw
        refine va_iald hx hb hK hP 5 0 rfl rfl h17 d_M_nearest_17 ?_
        refine lv_if_ne (tgt := 42) hx hb d_M_nearest_18 (by decide) (fun c18 => ?_) (fun c18 => ?_)
        · have hw := hw.1 c18
          exact jn42 v1_ v2_ _ _ _ hw hP hD hS hl
        · have hw := hw.2 c18
          refine lv_iload_n hx hb d_M_nearest_21 rfl (lv_at hl 1 rfl) ?_
          refine lv_if_lt (tgt := 40) hx hb d_M_nearest_22 (by decide) (fun c22 => ?_) (fun c22 => ?_)
          · have hw := hw.1 c22
            exact jn40 v2_ _ _ _ hw hP hD hS (lv_sub hl [0, 2] rfl)
          · have hw := hw.2 c22
            refine lv_aload_n hx hb d_M_nearest_25 rfl (lv_at hl 0 rfl) ?_
            refine va_get (D := (dC, dI)) (ci := 4) (v := .ref (qM 5)) (C := "ReleaseRowsModel") (T := T_M) (N := 27) hx hb hts in_M hown hK hP 0 rfl rfl 4 (by decide) (hts _ k_580) (fun _ h9 => h9) rfl d_M_nearest_26 ?_
            refine lv_iload_n hx hb d_M_nearest_29 rfl (lv_at hl 2 rfl) ?_
            obtain ⟨h30, hw⟩ := hw
            refine va_iald hx hb hK hP 1 0 rfl rfl h30 d_M_nearest_30 ?_
            refine lv_aload_n hx hb d_M_nearest_31 rfl (lv_at hl 0 rfl) ?_
            refine va_get (D := (dC, dI)) (ci := 4) (v := .ref (qM 5)) (C := "ReleaseRowsModel") (T := T_M) (N := 27) hx hb hts in_M hown hK hP 0 rfl rfl 4 (by decide) (hts _ k_580) (fun _ h9 => h9) rfl d_M_nearest_32 ?_
            refine lv_iload_n hx hb d_M_nearest_35 rfl (lv_at hl 1 rfl) ?_
            obtain ⟨h36, hw⟩ := hw
            refine va_iald hx hb hK hP 1 0 rfl rfl h36 d_M_nearest_36 ?_
            refine lv_icmp_ge (tgt := 42) hx hb d_M_nearest_37 (by decide) (fun c37 => ?_) (fun c37 => ?_)
            · have hw := hw.1 c37
              exact jn42 v1_ v2_ _ _ _ hw hP hD hS hl
            · have hw := hw.2 c37
              exact jn40 v2_ _ _ _ hw hP hD hS (lv_sub hl [0, 2] rfl)
  unfold wp_M_nearest at hw
  refine lv_iconst (v := (-1 : Int32)) hx hb d_M_nearest_0 (by decide) ?_
  refine lv_istore_n (lv' := [(1, .int (-1 : Int32)), (0, .ref (qM 0))]) hx hb d_M_nearest_1 rfl hl (by decide) rfl (fun ls hl => ?_)
  refine lv_iconst (v := (0 : Int32)) hx hb d_M_nearest_2 (by decide) ?_
  refine lv_istore_n (lv' := [(2, .int (0 : Int32)), (1, .int (-1 : Int32)), (0, .ref (qM 0))]) hx hb d_M_nearest_3 rfl hl (by decide) rfl (fun ls hl => ?_)
  obtain ⟨n9, hw⟩ := hw
  exact lp4 n9 (-1 : Int32) (0 : Int32) _ _ _ hw hP hD hS (lv_sub hl [2, 1, 0] rfl)

def wl_M_serves_41 (xM : St) (post : Int32 → St → Prop) : Nat → St → Int32 → Prop
  | 0 => fun _ _ => False
  | n9 + 1 => fun xM_ v2_ => ((xM_.2 25) ≤ v2_ → (post (1 : Int32) xM_)) ∧ (¬ (xM_.2 25) ≤ v2_ → (vp_in (v2_ + (1 : Int32)) 30 ∧ (vp_in v2_ 30 ∧ (∀ v2_63 : Int32, v2_63 = v2_ + 1 → ((wl_M_serves_41 xM post n9) (sA xM_ 26 v2_.toNatClampNeg (xM_.1 26 (v2_ + (1 : Int32)).toNatClampNeg)) v2_63)))))
def wj_M_serves_16 (xM : St) (post : Int32 → St → Prop) (xM_ : St) : Prop := post (0 : Int32) xM_
def wp_M_serves (xM : St) (post : Int32 → St → Prop) : Prop := wp_M_nearest xM (fun r1 _ => (((xM.2 25) = 0 → (wj_M_serves_16 xM post xM)) ∧ (¬ (xM.2 25) = 0 → ((0 ≤ r1 → (vp_in (0 : Int32) 30 ∧ (wp_M_put xM r1 (xM.1 26 (0 : Int32).toNatClampNeg) (fun u26 => (∃ k9 : Nat, wl_M_serves_41 xM post k9 (sF u26 25 ((u26.2 25) - (1 : Int32))) (0 : Int32)))))) ∧ (¬ 0 ≤ r1 → (wj_M_serves_16 xM post xM))))))
set_option maxHeartbeats 4000000 in
set_option maxRecDepth 100000 in
theorem c_M_serves (l : Launch) (dC : Nat → ClassId) (dI : Nat → Nat → Nat) (cI cZ cL : ClassId) (qM : Nat → Nat) (sz : Nat) (xM : St) (post : Int32 → St → Prop) (hw : wp_M_serves xM post) : Met l y_M_serves w_M_serves ({ frames := 2, cells := 0, slots := 0, locals := 45 } : Room) (va_Pc [.ref (qM 0)] (xP (dC, dI) vwCl [(cI, .int), (cZ, .boolean), (cL, .long)] (wd_M qM cI cZ cL xM) sz)) (va_Qi post (xB (dC, dI) vwCl [(cI, .int), (cZ, .boolean), (cL, .long)] (va_A (wd_M qM cI cZ cL xM) sz) (fun u => (wd_M qM cI cZ cL u))) (va_A (wd_M qM cI cZ cL xM) sz)) 0 0 (va_A (wd_M qM cI cZ cL xM) sz) := by
  refine x_ofI (cc := b_M_serves) (maxL := 3) (by decide) rfl (Nat.le_of_ble_eq_true rfl) (fun p e s m below meth c A Q hx hb hml hts hown hK hA hP hD hS hret ls hl => ?_)
  have hl : lv_has ls 3 [(0, .ref (qM 0))] := hl
  have lp41 : ∀ (n41 : Nat) (xM_ : St) (v2_ : Int32) (H : Heap) (locs : List Loc) (ls : Array Slot), wl_M_serves_41 xM post n41 xM_ v2_ → va_P (dC, dI) vwCl (wd_M qM cI cZ cL xM_) H → va_D A (wd_M qM cI cZ cL xM_) → va_S A s.heap H locs → lv_has ls 3 [(0, .ref (qM 0)), (2, .int v2_)] → W p l e (headSpec w_M_serves ({ frames := 2, cells := 0, slots := 0, locals := 45 } : Room)).room s m ([.ref (qM 0)] : List Value).toArray below meth c H locs 0 0 Q (F0 m 41 ls []) := by
    intro n41
    induction n41 with
    | zero => intro xM_ v2_ H locs ls hw; exact hw.elim
    | succ n41 ih41 =>
      intro xM_ v2_ H locs ls hw hP hD hS hl
      unfold wl_M_serves_41 at hw
      refine lv_iload_n hx hb d_M_serves_41 rfl (lv_at hl 1 rfl) ?_
      refine lv_aload_n hx hb d_M_serves_42 rfl (lv_at hl 0 rfl) ?_
      refine va_get (D := (dC, dI)) (ci := 4) (v := .int (xM_.2 25)) (C := "ReleaseRowsModel") (T := T_M) (N := 27) hx hb hts in_M hown hK hP 0 rfl rfl 25 (by decide) (hts _ k_601) (fun _ h9 => h9) rfl d_M_serves_43 ?_
      refine lv_icmp_ge (tgt := 69) hx hb d_M_serves_46 (by decide) (fun c46 => ?_) (fun c46 => ?_)
      · have hw := hw.1 c46
        refine lv_iconst (v := (1 : Int32)) hx hb d_M_serves_69 (by decide) ?_
        exact hret (1 : Int32) xM_ _ _ _ _ _ _ (by decide) hw hP hD hS (Nat.le_of_ble_eq_true rfl) (Nat.le_of_ble_eq_true rfl) d_M_serves_70
      · have hw := hw.2 c46
        refine lv_aload_n hx hb d_M_serves_49 rfl (lv_at hl 0 rfl) ?_
        refine va_get (D := (dC, dI)) (ci := 4) (v := .ref (qM 27)) (C := "ReleaseRowsModel") (T := T_M) (N := 27) hx hb hts in_M hown hK hP 0 rfl rfl 26 (by decide) (hts _ k_602) (fun _ h9 => h9) rfl d_M_serves_50 ?_
        refine lv_iload_n hx hb d_M_serves_53 rfl (lv_at hl 1 rfl) ?_
        refine lv_aload_n hx hb d_M_serves_54 rfl (lv_at hl 0 rfl) ?_
        refine va_get (D := (dC, dI)) (ci := 4) (v := .ref (qM 27)) (C := "ReleaseRowsModel") (T := T_M) (N := 27) hx hb hts in_M hown hK hP 0 rfl rfl 26 (by decide) (hts _ k_602) (fun _ h9 => h9) rfl d_M_serves_55 ?_
        refine lv_iload_n hx hb d_M_serves_58 rfl (lv_at hl 1 rfl) ?_
        refine lv_iconst (v := (1 : Int32)) hx hb d_M_serves_59 (by decide) ?_
        refine lv_iadd hx hb d_M_serves_60 ?_
        obtain ⟨h61, hw⟩ := hw
        refine va_iald hx hb hK hP 21 0 rfl rfl h61 d_M_serves_61 ?_
        obtain ⟨h62, hw⟩ := hw
        refine va_iast hx hb hK hP hD hS 21 0 rfl rfl h62 d_M_serves_62 (fun H locs hP hD hS => ?_)
        have hP := wsP_M_M26 hP
        have hD := wsD_M_M26 hD
        obtain ⟨v2_63, ev2_63⟩ : ∃ y : Int32, y = v2_ + 1 := ⟨_, rfl⟩
        have hw := hw v2_63 ev2_63
        refine lv_iinc (v := v2_63) (lv' := [(2, .int v2_63), (0, .ref (qM 0))]) hx hb d_M_serves_63 hl (k := 1) rfl (by rw [ev2_63]; rfl) (by decide) rfl (fun ls hl => ?_)
        refine lv_goto (tgt := 41) hx hb d_M_serves_66 (by decide) ?_
        exact ih41 (sA xM_ 26 v2_.toNatClampNeg (xM_.1 26 (v2_ + (1 : Int32)).toNatClampNeg)) v2_63 _ _ _ hw hP hD hS (lv_sub hl [1, 0] rfl)
  have jn16 : ∀ (xM_ : St) (H : Heap) (locs : List Loc) (ls : Array Slot), wj_M_serves_16 xM post xM_ → va_P (dC, dI) vwCl (wd_M qM cI cZ cL xM_) H → va_D A (wd_M qM cI cZ cL xM_) → va_S A s.heap H locs → lv_has ls 3 [] → W p l e (headSpec w_M_serves ({ frames := 2, cells := 0, slots := 0, locals := 45 } : Room)).room s m ([.ref (qM 0)] : List Value).toArray below meth c H locs 0 0 Q (F0 m 16 ls []) := by
    intro xM_ H locs ls hw hP hD hS hl
    unfold wj_M_serves_16 at hw
    refine lv_iconst (v := (0 : Int32)) hx hb d_M_serves_16 (by decide) ?_
    exact hret (0 : Int32) xM_ _ _ _ _ _ _ (by decide) hw hP hD hS (Nat.le_of_ble_eq_true rfl) (Nat.le_of_ble_eq_true rfl) d_M_serves_17
  unfold wp_M_serves at hw
  refine lv_aload_n hx hb d_M_serves_0 rfl (lv_at hl 0 rfl) ?_
  refine x_ci (w2 := fun _ => (wd_M qM cI cZ cL xM)) [0, 1, 2, 3, 4, 5, 6, 7, 8, 9, 10, 11, 12, 13, 14, 15, 16, 17, 18, 19, 20, 21] [] [0, 1, 2, 3, 4, 5, 6, 7, 8, 9, 10, 11, 12, 13, 14, 15, 16, 17, 18, 19, 20, 21] (va_runV (As := []) (rest := []) ⟨hx, hb, hml, hown, hts⟩ (c_M_nearest l dC dI cI cZ cL qM _ xM _ hw) (cwV 0 hts (x_gV k_694 k_696 k_16 k_30 k_697) rfl rfl rfl (by decide +kernel) ⟨Nat.le_of_ble_eq_true rfl, Nat.le_of_ble_eq_true rfl⟩) ⟨x_blind, va_recv hK hP (ci := 4) (q0 := 0) rfl rfl, fun U hU hW => x_pre (isC := [0, 1, 2, 3, 4, 5, 6, 7, 8, 9, 10, 11, 12, 13, 14, 15, 16, 17, 18, 19, 20, 21]) hK hP hD rfl rfl hU hW⟩ rfl rfl hl.1 rfl (lv_room (Nat.le_of_ble_eq_true rfl)) d_M_serves_1 ⟨Nat.le_of_ble_eq_true rfl, Nat.le_of_ble_eq_true rfl⟩) hP hD hS hA rfl rfl rfl (by decide) (fun _ => rfl) rfl (fun r1 _ H locs hw hP hD hS => ?_)
  refine lv_istore_n (lv' := [(1, .int r1), (0, .ref (qM 0))]) hx hb d_M_serves_4 rfl hl (by decide) rfl (fun ls hl => ?_)
  refine lv_aload_n hx hb d_M_serves_5 rfl (lv_at hl 1 rfl) ?_
  refine va_get (D := (dC, dI)) (ci := 4) (v := .int (xM.2 25)) (C := "ReleaseRowsModel") (T := T_M) (N := 27) hx hb hts in_M hown hK hP 0 rfl rfl 25 (by decide) (hts _ k_601) (fun _ h9 => h9) rfl d_M_serves_6 ?_
  refine lv_if_eq (tgt := 16) hx hb d_M_serves_9 (by decide) (fun c9 => ?_) (fun c9 => ?_)
  · have hw := hw.1 c9
    exact jn16 xM _ _ _ hw hP hD hS (lv_sub hl [] rfl)
  · have hw := hw.2 c9
    refine lv_iload_n hx hb d_M_serves_12 rfl (lv_at hl 0 rfl) ?_
    refine lv_if_ge (tgt := 18) hx hb d_M_serves_13 (by decide) (fun c13 => ?_) (fun c13 => ?_)
    · have hw := hw.1 c13
      refine lv_aload_n hx hb d_M_serves_18 rfl (lv_at hl 1 rfl) ?_
      refine lv_iload_n hx hb d_M_serves_19 rfl (lv_at hl 0 rfl) ?_
      refine lv_aload_n hx hb d_M_serves_20 rfl (lv_at hl 1 rfl) ?_
      refine va_get (D := (dC, dI)) (ci := 4) (v := .ref (qM 27)) (C := "ReleaseRowsModel") (T := T_M) (N := 27) hx hb hts in_M hown hK hP 0 rfl rfl 26 (by decide) (hts _ k_602) (fun _ h9 => h9) rfl d_M_serves_21 ?_
      refine lv_iconst (v := (0 : Int32)) hx hb d_M_serves_24 (by decide) ?_
      obtain ⟨h25, hw⟩ := hw
      refine va_iald hx hb hK hP 21 0 rfl rfl h25 d_M_serves_25 ?_
      refine x_cv (w2 := fun u26 => (wd_M qM cI cZ cL u26)) [0, 1, 2, 3, 4, 5, 6, 7, 8, 9, 10, 11, 12, 13, 14, 15, 16, 17, 18, 19, 20, 21] [] [0, 1, 2, 3, 4, 5, 6, 7, 8, 9, 10, 11, 12, 13, 14, 15, 16, 17, 18, 19, 20, 21] (va_runV (As := [.int r1, .int (xM.1 26 (0 : Int32).toNatClampNeg)]) (rest := []) ⟨hx, hb, hml, hown, hts⟩ (c_M_put l dC dI cI cZ cL qM _ xM r1 (xM.1 26 (0 : Int32).toNatClampNeg) _ hw) (cwV 2 hts (x_gV k_698 k_700 k_17 k_30 k_701) rfl rfl rfl (by decide +kernel) ⟨Nat.le_of_ble_eq_true rfl, Nat.le_of_ble_eq_true rfl⟩) ⟨x_blind, va_recv hK hP (ci := 4) (q0 := 0) rfl rfl, fun U hU hW => x_pre (isC := [0, 1, 2, 3, 4, 5, 6, 7, 8, 9, 10, 11, 12, 13, 14, 15, 16, 17, 18, 19, 20, 21]) hK hP hD rfl rfl hU hW⟩ rfl rfl hl.1 rfl (lv_room (Nat.le_of_ble_eq_true rfl)) d_M_serves_26 ⟨Nat.le_of_ble_eq_true rfl, Nat.le_of_ble_eq_true rfl⟩) hP hD hS hA rfl rfl rfl (by decide) (fun _ => rfl) rfl (fun u26 H locs hw hP hD hS => ?_)
      refine lv_aload_n hx hb d_M_serves_29 rfl (lv_at hl 1 rfl) ?_
      refine lv_dup hx hb d_M_serves_30 rfl ?_
      refine va_get (D := (dC, dI)) (ci := 4) (v := .int (u26.2 25)) (C := "ReleaseRowsModel") (T := T_M) (N := 27) hx hb hts in_M hown hK hP 0 rfl rfl 25 (by decide) (hts _ k_601) (fun _ h9 => h9) rfl d_M_serves_31 ?_
      refine lv_iconst (v := (1 : Int32)) hx hb d_M_serves_34 (by decide) ?_
      refine lv_isub hx hb d_M_serves_35 ?_
      refine va_put (D := (dC, dI)) (ci := 4) (v := .int ((u26.2 25) - (1 : Int32))) (ty := .int) (C := "ReleaseRowsModel") (T := T_M) (N := 27) hx hb hts in_M ty_M tyok_M nm_M hown hK hP hD hS 0 rfl rfl 25 (by decide) (hts _ k_601) (fun _ h9 => h9) rfl (by decide +kernel) rfl rfl (Nat.le_of_ble_eq_true rfl) d_M_serves_36 (fun H locs hP hD hS => ?_)
      have hP := wsP_M_M25 hP
      have hD := wsD_M_M25 hD
      refine lv_iconst (v := (0 : Int32)) hx hb d_M_serves_39 (by decide) ?_
      refine lv_istore_n (lv' := [(2, .int (0 : Int32)), (1, .int r1), (0, .ref (qM 0))]) hx hb d_M_serves_40 rfl hl (by decide) rfl (fun ls hl => ?_)
      obtain ⟨n9, hw⟩ := hw
      exact lp41 n9 (sF u26 25 ((u26.2 25) - (1 : Int32))) (0 : Int32) _ _ _ hw hP hD hS (lv_sub hl [2, 0] rfl)
    · have hw := hw.2 c13
      exact jn16 xM _ _ _ hw hP hD hS (lv_sub hl [] rfl)

def wj_M_there_38 (xM : St) (a1 : Int32) (post : Int32 → Unit → Prop) (rec4 : Int32 → Int32 → Prop) (s0_ : Int32) (s1_ : Int32) (v3_ : Int32) : Prop := ∀ v2_39 : Int32, v2_39 = (s1_ + s0_) → (∀ v3_40 : Int32, v3_40 = v3_ + 1 → (rec4 v2_39 v3_40))
def wj_M_there_37 (xM : St) (a1 : Int32) (post : Int32 → Unit → Prop) (rec4 : Int32 → Int32 → Prop) (s0_ : Int32) (v3_ : Int32) : Prop := wj_M_there_38 xM a1 post rec4 (0 : Int32) s0_ v3_
def wl_M_there_4 (xM : St) (a1 : Int32) (post : Int32 → Unit → Prop) : Nat → Int32 → Int32 → Prop
  | 0 => fun _ _ => False
  | n9 + 1 => fun v2_ v3_ => ((xM.2 3) ≤ v3_ → (post v2_ ())) ∧ (¬ (xM.2 3) ≤ v3_ → (vp_in v3_ 24 ∧ ((¬ (xM.1 8 v3_.toNatClampNeg) = (1 : Int32) → (wj_M_there_37 xM a1 post (wl_M_there_4 xM a1 post n9) v2_ v3_)) ∧ ((xM.1 8 v3_.toNatClampNeg) = (1 : Int32) → (vp_in v3_ 24 ∧ ((¬ (xM.1 9 v3_.toNatClampNeg) = a1 → (wj_M_there_37 xM a1 post (wl_M_there_4 xM a1 post n9) v2_ v3_)) ∧ ((xM.1 9 v3_.toNatClampNeg) = a1 → (wj_M_there_38 xM a1 post (wl_M_there_4 xM a1 post n9) (1 : Int32) v2_ v3_))))))))
def wp_M_there (xM : St) (a1 : Int32) (post : Int32 → Unit → Prop) : Prop := ∃ k9 : Nat, wl_M_there_4 xM a1 post k9 (0 : Int32) (0 : Int32)
set_option maxHeartbeats 4000000 in
set_option maxRecDepth 100000 in
theorem c_M_there (l : Launch) (dC : Nat → ClassId) (dI : Nat → Nat → Nat) (cI cZ cL : ClassId) (qM : Nat → Nat) (sz : Nat) (xM : St) (a1 : Int32) (post : Int32 → Unit → Prop) (hw : wp_M_there xM a1 post) : Met l y_M_there w_M_there ({ frames := 0, cells := 0, slots := 0, locals := 0 } : Room) (va_Pc [.ref (qM 0), .int a1] (xP (dC, dI) vwCl [(cI, .int), (cZ, .boolean), (cL, .long)] (wd_M qM cI cZ cL xM) sz)) (va_Qi post (xB (dC, dI) vwCl [(cI, .int), (cZ, .boolean), (cL, .long)] (va_A (wd_M qM cI cZ cL xM) sz) (fun _ => (wd_M qM cI cZ cL xM))) (va_A (wd_M qM cI cZ cL xM) sz)) 0 0 (va_A (wd_M qM cI cZ cL xM) sz) := by
  refine x_ofI (cc := b_M_there) (maxL := 4) (by decide) rfl (Nat.le_of_ble_eq_true rfl) (fun p e s m below meth c A Q hx hb hml hts hown hK hA hP hD hS hret ls hl => ?_)
  have hl : lv_has ls 4 [(0, .ref (qM 0)), (1, .int a1)] := hl
  have lp4 : ∀ (n4 : Nat) (v2_ : Int32) (v3_ : Int32) (H : Heap) (locs : List Loc) (ls : Array Slot), wl_M_there_4 xM a1 post n4 v2_ v3_ → va_P (dC, dI) vwCl (wd_M qM cI cZ cL xM) H → va_D A (wd_M qM cI cZ cL xM) → va_S A s.heap H locs → lv_has ls 4 [(0, .ref (qM 0)), (1, .int a1), (2, .int v2_), (3, .int v3_)] → W p l e (headSpec w_M_there ({ frames := 0, cells := 0, slots := 0, locals := 0 } : Room)).room s m ([.ref (qM 0), .int a1] : List Value).toArray below meth c H locs 0 0 Q (F0 m 4 ls []) := by
    intro n4
    induction n4 with
    | zero => intro v2_ v3_ H locs ls hw; exact hw.elim
    | succ n4 ih4 =>
      have jn38 : ∀ (s0_ : Int32) (s1_ : Int32) (v3_ : Int32) (H : Heap) (locs : List Loc) (ls : Array Slot), wj_M_there_38 xM a1 post (wl_M_there_4 xM a1 post n4) s0_ s1_ v3_ → va_P (dC, dI) vwCl (wd_M qM cI cZ cL xM) H → va_D A (wd_M qM cI cZ cL xM) → va_S A s.heap H locs → lv_has ls 4 [(0, .ref (qM 0)), (1, .int a1), (3, .int v3_)] → W p l e (headSpec w_M_there ({ frames := 0, cells := 0, slots := 0, locals := 0 } : Room)).room s m ([.ref (qM 0), .int a1] : List Value).toArray below meth c H locs 0 0 Q (F0 m 38 ls [.int s0_, .int s1_]) := by
        intro s0_ s1_ v3_ H locs ls hw hP hD hS hl
        unfold wj_M_there_38 at hw
        refine lv_iadd hx hb d_M_there_38 ?_
        refine lv_topi (fun v2_39 ev2_39 => ?_)
        have hw := hw v2_39 ev2_39
        refine lv_istore_n (lv' := [(2, .int v2_39), (0, .ref (qM 0)), (1, .int a1), (3, .int v3_)]) hx hb d_M_there_39 rfl hl (by decide) rfl (fun ls hl => ?_)
        obtain ⟨v3_40, ev3_40⟩ : ∃ y : Int32, y = v3_ + 1 := ⟨_, rfl⟩
        have hw := hw v3_40 ev3_40
        refine lv_iinc (v := v3_40) (lv' := [(3, .int v3_40), (2, .int v2_39), (0, .ref (qM 0)), (1, .int a1)]) hx hb d_M_there_40 hl (k := 3) rfl (by rw [ev3_40]; rfl) (by decide) rfl (fun ls hl => ?_)
        refine lv_goto (tgt := 4) hx hb d_M_there_43 (by decide) ?_
        exact ih4 v2_39 v3_40 _ _ _ hw hP hD hS (lv_sub hl [2, 3, 1, 0] rfl)
      have jn37 : ∀ (s0_ : Int32) (v3_ : Int32) (H : Heap) (locs : List Loc) (ls : Array Slot), wj_M_there_37 xM a1 post (wl_M_there_4 xM a1 post n4) s0_ v3_ → va_P (dC, dI) vwCl (wd_M qM cI cZ cL xM) H → va_D A (wd_M qM cI cZ cL xM) → va_S A s.heap H locs → lv_has ls 4 [(0, .ref (qM 0)), (1, .int a1), (3, .int v3_)] → W p l e (headSpec w_M_there ({ frames := 0, cells := 0, slots := 0, locals := 0 } : Room)).room s m ([.ref (qM 0), .int a1] : List Value).toArray below meth c H locs 0 0 Q (F0 m 37 ls [.int s0_]) := by
        intro s0_ v3_ H locs ls hw hP hD hS hl
        unfold wj_M_there_37 at hw
        refine lv_iconst (v := (0 : Int32)) hx hb d_M_there_37 (by decide) ?_
        exact jn38 (0 : Int32) s0_ v3_ _ _ _ hw hP hD hS hl
      intro v2_ v3_ H locs ls hw hP hD hS hl
      unfold wl_M_there_4 at hw
      refine lv_iload_n hx hb d_M_there_4 rfl (lv_at hl 3 rfl) ?_
      refine lv_aload_n hx hb d_M_there_5 rfl (lv_at hl 0 rfl) ?_
      refine va_get (D := (dC, dI)) (ci := 4) (v := .int (xM.2 3)) (C := "ReleaseRowsModel") (T := T_M) (N := 27) hx hb hts in_M hown hK hP 0 rfl rfl 3 (by decide) (hts _ k_579) (fun _ h9 => h9) rfl d_M_there_6 ?_
      refine lv_icmp_ge (tgt := 46) hx hb d_M_there_9 (by decide) (fun c9 => ?_) (fun c9 => ?_)
      · have hw := hw.1 c9
        refine lv_iload_n hx hb d_M_there_46 rfl (lv_at hl 2 rfl) ?_
        exact hret v2_ () _ _ _ _ _ _ rfl hw hP hD hS (Nat.le_of_ble_eq_true rfl) (Nat.le_of_ble_eq_true rfl) d_M_there_47
      · have hw := hw.2 c9
        refine lv_iload_n hx hb d_M_there_12 rfl (lv_at hl 2 rfl) ?_
        refine lv_aload_n hx hb d_M_there_13 rfl (lv_at hl 0 rfl) ?_
        refine va_get (D := (dC, dI)) (ci := 4) (v := .ref (qM 9)) (C := "ReleaseRowsModel") (T := T_M) (N := 27) hx hb hts in_M hown hK hP 0 rfl rfl 8 (by decide) (hts _ k_584) (fun _ h9 => h9) rfl d_M_there_14 ?_
        refine lv_iload_n hx hb d_M_there_17 rfl (lv_at hl 3 rfl) ?_
        obtain ⟨h18, hw⟩ := hw
        refine va_iald hx hb hK hP 5 0 rfl rfl h18 d_M_there_18 ?_
        refine lv_iconst (v := (1 : Int32)) hx hb d_M_there_19 (by decide) ?_
        refine lv_icmp_ne (tgt := 37) hx hb d_M_there_20 (by decide) (fun c20 => ?_) (fun c20 => ?_)
        · have hw := hw.1 c20
          exact jn37 v2_ v3_ _ _ _ hw hP hD hS (lv_sub hl [0, 1, 3] rfl)
        · have hw := hw.2 c20
          refine lv_aload_n hx hb d_M_there_23 rfl (lv_at hl 0 rfl) ?_
          refine va_get (D := (dC, dI)) (ci := 4) (v := .ref (qM 10)) (C := "ReleaseRowsModel") (T := T_M) (N := 27) hx hb hts in_M hown hK hP 0 rfl rfl 9 (by decide) (hts _ k_585) (fun _ h9 => h9) rfl d_M_there_24 ?_
          refine lv_iload_n hx hb d_M_there_27 rfl (lv_at hl 3 rfl) ?_
          obtain ⟨h28, hw⟩ := hw
          refine va_iald hx hb hK hP 6 0 rfl rfl h28 d_M_there_28 ?_
          refine lv_iload_n hx hb d_M_there_29 rfl (lv_at hl 1 rfl) ?_
          refine lv_icmp_ne (tgt := 37) hx hb d_M_there_30 (by decide) (fun c30 => ?_) (fun c30 => ?_)
          · have hw := hw.1 c30
            exact jn37 v2_ v3_ _ _ _ hw hP hD hS (lv_sub hl [0, 1, 3] rfl)
          · have hw := hw.2 c30
            refine lv_iconst (v := (1 : Int32)) hx hb d_M_there_33 (by decide) ?_
            refine lv_goto (tgt := 38) hx hb d_M_there_34 (by decide) ?_
            exact jn38 (1 : Int32) v2_ v3_ _ _ _ hw hP hD hS (lv_sub hl [0, 1, 3] rfl)
  unfold wp_M_there at hw
  refine lv_iconst (v := (0 : Int32)) hx hb d_M_there_0 (by decide) ?_
  refine lv_istore_n (lv' := [(2, .int (0 : Int32)), (0, .ref (qM 0)), (1, .int a1)]) hx hb d_M_there_1 rfl hl (by decide) rfl (fun ls hl => ?_)
  refine lv_iconst (v := (0 : Int32)) hx hb d_M_there_2 (by decide) ?_
  refine lv_istore_n (lv' := [(3, .int (0 : Int32)), (2, .int (0 : Int32)), (0, .ref (qM 0)), (1, .int a1)]) hx hb d_M_there_3 rfl hl (by decide) rfl (fun ls hl => ?_)
  obtain ⟨n9, hw⟩ := hw
  exact lp4 n9 (0 : Int32) (0 : Int32) _ _ _ hw hP hD hS (lv_sub hl [2, 3, 1, 0] rfl)

def wj_M_waitingFor_28 (xM : St) (a1 : Int32) (post : Int32 → Unit → Prop) (rec4 : Int32 → Int32 → Prop) (s0_ : Int32) (s1_ : Int32) (v3_ : Int32) : Prop := ∀ v2_29 : Int32, v2_29 = (s1_ + s0_) → (∀ v3_30 : Int32, v3_30 = v3_ + 1 → (rec4 v2_29 v3_30))
def wl_M_waitingFor_4 (xM : St) (a1 : Int32) (post : Int32 → Unit → Prop) : Nat → Int32 → Int32 → Prop
  | 0 => fun _ _ => False
  | n9 + 1 => fun v2_ v3_ => ((xM.2 25) ≤ v3_ → (post v2_ ())) ∧ (¬ (xM.2 25) ≤ v3_ → (vp_in v3_ 30 ∧ ((¬ (xM.1 26 v3_.toNatClampNeg) = a1 → (wj_M_waitingFor_28 xM a1 post (wl_M_waitingFor_4 xM a1 post n9) (0 : Int32) v2_ v3_)) ∧ ((xM.1 26 v3_.toNatClampNeg) = a1 → (wj_M_waitingFor_28 xM a1 post (wl_M_waitingFor_4 xM a1 post n9) (1 : Int32) v2_ v3_)))))
def wp_M_waitingFor (xM : St) (a1 : Int32) (post : Int32 → Unit → Prop) : Prop := ∃ k9 : Nat, wl_M_waitingFor_4 xM a1 post k9 (0 : Int32) (0 : Int32)
set_option maxHeartbeats 4000000 in
set_option maxRecDepth 100000 in
theorem c_M_waitingFor (l : Launch) (dC : Nat → ClassId) (dI : Nat → Nat → Nat) (cI cZ cL : ClassId) (qM : Nat → Nat) (sz : Nat) (xM : St) (a1 : Int32) (post : Int32 → Unit → Prop) (hw : wp_M_waitingFor xM a1 post) : Met l y_M_waitingFor w_M_waitingFor ({ frames := 0, cells := 0, slots := 0, locals := 0 } : Room) (va_Pc [.ref (qM 0), .int a1] (xP (dC, dI) vwCl [(cI, .int), (cZ, .boolean), (cL, .long)] (wd_M qM cI cZ cL xM) sz)) (va_Qi post (xB (dC, dI) vwCl [(cI, .int), (cZ, .boolean), (cL, .long)] (va_A (wd_M qM cI cZ cL xM) sz) (fun _ => (wd_M qM cI cZ cL xM))) (va_A (wd_M qM cI cZ cL xM) sz)) 0 0 (va_A (wd_M qM cI cZ cL xM) sz) := by
  refine x_ofI (cc := b_M_waitingFor) (maxL := 4) (by decide) rfl (Nat.le_of_ble_eq_true rfl) (fun p e s m below meth c A Q hx hb hml hts hown hK hA hP hD hS hret ls hl => ?_)
  have hl : lv_has ls 4 [(0, .ref (qM 0)), (1, .int a1)] := hl
  have lp4 : ∀ (n4 : Nat) (v2_ : Int32) (v3_ : Int32) (H : Heap) (locs : List Loc) (ls : Array Slot), wl_M_waitingFor_4 xM a1 post n4 v2_ v3_ → va_P (dC, dI) vwCl (wd_M qM cI cZ cL xM) H → va_D A (wd_M qM cI cZ cL xM) → va_S A s.heap H locs → lv_has ls 4 [(0, .ref (qM 0)), (1, .int a1), (2, .int v2_), (3, .int v3_)] → W p l e (headSpec w_M_waitingFor ({ frames := 0, cells := 0, slots := 0, locals := 0 } : Room)).room s m ([.ref (qM 0), .int a1] : List Value).toArray below meth c H locs 0 0 Q (F0 m 4 ls []) := by
    intro n4
    induction n4 with
    | zero => intro v2_ v3_ H locs ls hw; exact hw.elim
    | succ n4 ih4 =>
      have jn28 : ∀ (s0_ : Int32) (s1_ : Int32) (v3_ : Int32) (H : Heap) (locs : List Loc) (ls : Array Slot), wj_M_waitingFor_28 xM a1 post (wl_M_waitingFor_4 xM a1 post n4) s0_ s1_ v3_ → va_P (dC, dI) vwCl (wd_M qM cI cZ cL xM) H → va_D A (wd_M qM cI cZ cL xM) → va_S A s.heap H locs → lv_has ls 4 [(0, .ref (qM 0)), (1, .int a1), (3, .int v3_)] → W p l e (headSpec w_M_waitingFor ({ frames := 0, cells := 0, slots := 0, locals := 0 } : Room)).room s m ([.ref (qM 0), .int a1] : List Value).toArray below meth c H locs 0 0 Q (F0 m 28 ls [.int s0_, .int s1_]) := by
        intro s0_ s1_ v3_ H locs ls hw hP hD hS hl
        unfold wj_M_waitingFor_28 at hw
        refine lv_iadd hx hb d_M_waitingFor_28 ?_
        refine lv_topi (fun v2_29 ev2_29 => ?_)
        have hw := hw v2_29 ev2_29
        refine lv_istore_n (lv' := [(2, .int v2_29), (0, .ref (qM 0)), (1, .int a1), (3, .int v3_)]) hx hb d_M_waitingFor_29 rfl hl (by decide) rfl (fun ls hl => ?_)
        obtain ⟨v3_30, ev3_30⟩ : ∃ y : Int32, y = v3_ + 1 := ⟨_, rfl⟩
        have hw := hw v3_30 ev3_30
        refine lv_iinc (v := v3_30) (lv' := [(3, .int v3_30), (2, .int v2_29), (0, .ref (qM 0)), (1, .int a1)]) hx hb d_M_waitingFor_30 hl (k := 3) rfl (by rw [ev3_30]; rfl) (by decide) rfl (fun ls hl => ?_)
        refine lv_goto (tgt := 4) hx hb d_M_waitingFor_33 (by decide) ?_
        exact ih4 v2_29 v3_30 _ _ _ hw hP hD hS (lv_sub hl [2, 3, 1, 0] rfl)
      intro v2_ v3_ H locs ls hw hP hD hS hl
      unfold wl_M_waitingFor_4 at hw
      refine lv_iload_n hx hb d_M_waitingFor_4 rfl (lv_at hl 3 rfl) ?_
      refine lv_aload_n hx hb d_M_waitingFor_5 rfl (lv_at hl 0 rfl) ?_
      refine va_get (D := (dC, dI)) (ci := 4) (v := .int (xM.2 25)) (C := "ReleaseRowsModel") (T := T_M) (N := 27) hx hb hts in_M hown hK hP 0 rfl rfl 25 (by decide) (hts _ k_601) (fun _ h9 => h9) rfl d_M_waitingFor_6 ?_
      refine lv_icmp_ge (tgt := 36) hx hb d_M_waitingFor_9 (by decide) (fun c9 => ?_) (fun c9 => ?_)
      · have hw := hw.1 c9
        refine lv_iload_n hx hb d_M_waitingFor_36 rfl (lv_at hl 2 rfl) ?_
        exact hret v2_ () _ _ _ _ _ _ rfl hw hP hD hS (Nat.le_of_ble_eq_true rfl) (Nat.le_of_ble_eq_true rfl) d_M_waitingFor_37
      · have hw := hw.2 c9
        refine lv_iload_n hx hb d_M_waitingFor_12 rfl (lv_at hl 2 rfl) ?_
        refine lv_aload_n hx hb d_M_waitingFor_13 rfl (lv_at hl 0 rfl) ?_
        refine va_get (D := (dC, dI)) (ci := 4) (v := .ref (qM 27)) (C := "ReleaseRowsModel") (T := T_M) (N := 27) hx hb hts in_M hown hK hP 0 rfl rfl 26 (by decide) (hts _ k_602) (fun _ h9 => h9) rfl d_M_waitingFor_14 ?_
        refine lv_iload_n hx hb d_M_waitingFor_17 rfl (lv_at hl 3 rfl) ?_
        obtain ⟨h18, hw⟩ := hw
        refine va_iald hx hb hK hP 21 0 rfl rfl h18 d_M_waitingFor_18 ?_
        refine lv_iload_n hx hb d_M_waitingFor_19 rfl (lv_at hl 1 rfl) ?_
        refine lv_icmp_ne (tgt := 27) hx hb d_M_waitingFor_20 (by decide) (fun c20 => ?_) (fun c20 => ?_)
        · have hw := hw.1 c20
          refine lv_iconst (v := (0 : Int32)) hx hb d_M_waitingFor_27 (by decide) ?_
          exact jn28 (0 : Int32) v2_ v3_ _ _ _ hw hP hD hS (lv_sub hl [0, 1, 3] rfl)
        · have hw := hw.2 c20
          refine lv_iconst (v := (1 : Int32)) hx hb d_M_waitingFor_23 (by decide) ?_
          refine lv_goto (tgt := 28) hx hb d_M_waitingFor_24 (by decide) ?_
          exact jn28 (1 : Int32) v2_ v3_ _ _ _ hw hP hD hS (lv_sub hl [0, 1, 3] rfl)
  unfold wp_M_waitingFor at hw
  refine lv_iconst (v := (0 : Int32)) hx hb d_M_waitingFor_0 (by decide) ?_
  refine lv_istore_n (lv' := [(2, .int (0 : Int32)), (0, .ref (qM 0)), (1, .int a1)]) hx hb d_M_waitingFor_1 rfl hl (by decide) rfl (fun ls hl => ?_)
  refine lv_iconst (v := (0 : Int32)) hx hb d_M_waitingFor_2 (by decide) ?_
  refine lv_istore_n (lv' := [(3, .int (0 : Int32)), (2, .int (0 : Int32)), (0, .ref (qM 0)), (1, .int a1)]) hx hb d_M_waitingFor_3 rfl hl (by decide) rfl (fun ls hl => ?_)
  obtain ⟨n9, hw⟩ := hw
  exact lp4 n9 (0 : Int32) (0 : Int32) _ _ _ hw hP hD hS (lv_sub hl [2, 3, 1, 0] rfl)

def wj_M_ends_83 (xM : St) (a1 : Int32) (post : Int32 → Unit → Prop)  : Prop := post (0 : Int32) ()
def wj_M_ends_79 (xM : St) (a1 : Int32) (post : Int32 → Unit → Prop)  : Prop := post (1 : Int32) ()
def wp_M_ends (xM : St) (a1 : Int32) (post : Int32 → Unit → Prop) : Prop := vp_in a1 20 ∧ (((xM.1 17 a1.toNatClampNeg) = 0 → (wj_M_ends_83 xM a1 post )) ∧ (¬ (xM.1 17 a1.toNatClampNeg) = 0 → (vp_in a1 20 ∧ (((xM.1 18 a1.toNatClampNeg) = 0 → (wj_M_ends_83 xM a1 post )) ∧ (¬ (xM.1 18 a1.toNatClampNeg) = 0 → (wp_M_there xM a1 (fun r20 _ => ((¬ r20 = 0 → (wj_M_ends_83 xM a1 post )) ∧ (r20 = 0 → (wp_M_waitingFor xM a1 (fun r28 _ => ((¬ r28 = 0 → (wj_M_ends_83 xM a1 post )) ∧ (r28 = 0 → (vp_in a1 20 ∧ ((¬ (xM.1 20 a1.toNatClampNeg) = 0 → (wj_M_ends_83 xM a1 post )) ∧ ((xM.1 20 a1.toNatClampNeg) = 0 → (vp_in a1 20 ∧ ((¬ ((xM.1 19 a1.toNatClampNeg) - (xM.1 19 a1.toNatClampNeg) / (8 : Int32) * (8 : Int32)) = (7 : Int32) → (wj_M_ends_83 xM a1 post )) ∧ (((xM.1 19 a1.toNatClampNeg) - (xM.1 19 a1.toNatClampNeg) / (8 : Int32) * (8 : Int32)) = (7 : Int32) → (vp_in a1 20 ∧ (((xM.1 21 a1.toNatClampNeg) < 0 → (wj_M_ends_79 xM a1 post )) ∧ (¬ (xM.1 21 a1.toNatClampNeg) < 0 → (vp_in a1 20 ∧ (((xM.2 1) < (xM.1 21 a1.toNatClampNeg) → (wj_M_ends_83 xM a1 post )) ∧ (¬ (xM.2 1) < (xM.1 21 a1.toNatClampNeg) → (wj_M_ends_79 xM a1 post ))))))))))))))))))))))))))
set_option maxHeartbeats 4000000 in
set_option maxRecDepth 100000 in
theorem c_M_ends (l : Launch) (dC : Nat → ClassId) (dI : Nat → Nat → Nat) (cI cZ cL : ClassId) (qM : Nat → Nat) (sz : Nat) (xM : St) (a1 : Int32) (post : Int32 → Unit → Prop) (hw : wp_M_ends xM a1 post) : Met l y_M_ends w_M_ends ({ frames := 1, cells := 0, slots := 0, locals := 23 } : Room) (va_Pc [.ref (qM 0), .int a1] (xP (dC, dI) vwCl [(cI, .int), (cZ, .boolean), (cL, .long)] (wd_M qM cI cZ cL xM) sz)) (va_Qi post (xB (dC, dI) vwCl [(cI, .int), (cZ, .boolean), (cL, .long)] (va_A (wd_M qM cI cZ cL xM) sz) (fun _ => (wd_M qM cI cZ cL xM))) (va_A (wd_M qM cI cZ cL xM) sz)) 0 0 (va_A (wd_M qM cI cZ cL xM) sz) := by
  refine x_ofI (cc := b_M_ends) (maxL := 2) (by decide) rfl (Nat.le_of_ble_eq_true rfl) (fun p e s m below meth c A Q hx hb hml hts hown hK hA hP hD hS hret ls hl => ?_)
  have hl : lv_has ls 2 [(0, .ref (qM 0)), (1, .int a1)] := hl
  have jn83 : ∀ (H : Heap) (locs : List Loc) (ls : Array Slot), wj_M_ends_83 xM a1 post  → va_P (dC, dI) vwCl (wd_M qM cI cZ cL xM) H → va_D A (wd_M qM cI cZ cL xM) → va_S A s.heap H locs → lv_has ls 2 [] → W p l e (headSpec w_M_ends ({ frames := 1, cells := 0, slots := 0, locals := 23 } : Room)).room s m ([.ref (qM 0), .int a1] : List Value).toArray below meth c H locs 0 0 Q (F0 m 83 ls []) := by
    intro  H locs ls hw hP hD hS hl
    unfold wj_M_ends_83 at hw
    refine lv_iconst (v := (0 : Int32)) hx hb d_M_ends_83 (by decide) ?_
    exact hret (0 : Int32) () _ _ _ _ _ _ (by decide) hw hP hD hS (Nat.le_of_ble_eq_true rfl) (Nat.le_of_ble_eq_true rfl) d_M_ends_84
  have jn79 : ∀ (H : Heap) (locs : List Loc) (ls : Array Slot), wj_M_ends_79 xM a1 post  → va_P (dC, dI) vwCl (wd_M qM cI cZ cL xM) H → va_D A (wd_M qM cI cZ cL xM) → va_S A s.heap H locs → lv_has ls 2 [] → W p l e (headSpec w_M_ends ({ frames := 1, cells := 0, slots := 0, locals := 23 } : Room)).room s m ([.ref (qM 0), .int a1] : List Value).toArray below meth c H locs 0 0 Q (F0 m 79 ls []) := by
    intro  H locs ls hw hP hD hS hl
    unfold wj_M_ends_79 at hw
    refine lv_iconst (v := (1 : Int32)) hx hb d_M_ends_79 (by decide) ?_
    refine lv_goto (tgt := 84) hx hb d_M_ends_80 (by decide) ?_
    exact hret (1 : Int32) () _ _ _ _ _ _ (by decide) hw hP hD hS (Nat.le_of_ble_eq_true rfl) (Nat.le_of_ble_eq_true rfl) d_M_ends_84
  unfold wp_M_ends at hw
  refine lv_aload_n hx hb d_M_ends_0 rfl (lv_at hl 0 rfl) ?_
  refine va_get (D := (dC, dI)) (ci := 4) (v := .ref (qM 18)) (C := "ReleaseRowsModel") (T := T_M) (N := 27) hx hb hts in_M hown hK hP 0 rfl rfl 17 (by decide) (hts _ k_593) (fun _ h9 => h9) rfl d_M_ends_1 ?_
  refine lv_iload_n hx hb d_M_ends_4 rfl (lv_at hl 1 rfl) ?_
  obtain ⟨h5, hw⟩ := hw
  refine va_zald hx hb hK hP 13 1 rfl rfl h5 d_M_ends_5 ?_
  refine lv_if_eq (tgt := 83) hx hb d_M_ends_6 (by decide) (fun c6 => ?_) (fun c6 => ?_)
  · have hw := hw.1 c6
    exact jn83 _ _ _ hw hP hD hS (lv_sub hl [] rfl)
  · have hw := hw.2 c6
    refine lv_aload_n hx hb d_M_ends_9 rfl (lv_at hl 0 rfl) ?_
    refine va_get (D := (dC, dI)) (ci := 4) (v := .ref (qM 19)) (C := "ReleaseRowsModel") (T := T_M) (N := 27) hx hb hts in_M hown hK hP 0 rfl rfl 18 (by decide) (hts _ k_594) (fun _ h9 => h9) rfl d_M_ends_10 ?_
    refine lv_iload_n hx hb d_M_ends_13 rfl (lv_at hl 1 rfl) ?_
    obtain ⟨h14, hw⟩ := hw
    refine va_zald hx hb hK hP 14 1 rfl rfl h14 d_M_ends_14 ?_
    refine lv_if_eq (tgt := 83) hx hb d_M_ends_15 (by decide) (fun c15 => ?_) (fun c15 => ?_)
    · have hw := hw.1 c15
      exact jn83 _ _ _ hw hP hD hS (lv_sub hl [] rfl)
    · have hw := hw.2 c15
      refine lv_aload_n hx hb d_M_ends_18 rfl (lv_at hl 0 rfl) ?_
      refine lv_iload_n hx hb d_M_ends_19 rfl (lv_at hl 1 rfl) ?_
      refine x_ci (w2 := fun _ => (wd_M qM cI cZ cL xM)) [0, 1, 2, 3, 4, 5, 6, 7, 8, 9, 10, 11, 12, 13, 14, 15, 16, 17, 18, 19, 20, 21] [] [0, 1, 2, 3, 4, 5, 6, 7, 8, 9, 10, 11, 12, 13, 14, 15, 16, 17, 18, 19, 20, 21] (va_runV (As := [.int a1]) (rest := []) ⟨hx, hb, hml, hown, hts⟩ (c_M_there l dC dI cI cZ cL qM _ xM a1 _ hw) (cwV 1 hts (x_gV k_706 k_708 k_19 k_30 k_709) rfl rfl rfl (by decide +kernel) ⟨Nat.le_of_ble_eq_true rfl, Nat.le_of_ble_eq_true rfl⟩) ⟨x_blind, va_recv hK hP (ci := 4) (q0 := 0) rfl rfl, fun U hU hW => x_pre (isC := [0, 1, 2, 3, 4, 5, 6, 7, 8, 9, 10, 11, 12, 13, 14, 15, 16, 17, 18, 19, 20, 21]) hK hP hD rfl rfl hU hW⟩ rfl rfl hl.1 rfl (lv_room (Nat.le_of_ble_eq_true rfl)) d_M_ends_20 ⟨Nat.le_of_ble_eq_true rfl, Nat.le_of_ble_eq_true rfl⟩) hP hD hS hA rfl rfl rfl (by decide) (fun _ => rfl) rfl (fun r20 _ H locs hw hP hD hS => ?_)
      refine lv_if_ne (tgt := 83) hx hb d_M_ends_23 (by decide) (fun c23 => ?_) (fun c23 => ?_)
      · have hw := hw.1 c23
        exact jn83 _ _ _ hw hP hD hS (lv_sub hl [] rfl)
      · have hw := hw.2 c23
        refine lv_aload_n hx hb d_M_ends_26 rfl (lv_at hl 0 rfl) ?_
        refine lv_iload_n hx hb d_M_ends_27 rfl (lv_at hl 1 rfl) ?_
        refine x_ci (w2 := fun _ => (wd_M qM cI cZ cL xM)) [0, 1, 2, 3, 4, 5, 6, 7, 8, 9, 10, 11, 12, 13, 14, 15, 16, 17, 18, 19, 20, 21] [] [0, 1, 2, 3, 4, 5, 6, 7, 8, 9, 10, 11, 12, 13, 14, 15, 16, 17, 18, 19, 20, 21] (va_runV (As := [.int a1]) (rest := []) ⟨hx, hb, hml, hown, hts⟩ (c_M_waitingFor l dC dI cI cZ cL qM _ xM a1 _ hw) (cwV 1 hts (x_gV k_710 k_712 k_20 k_30 k_713) rfl rfl rfl (by decide +kernel) ⟨Nat.le_of_ble_eq_true rfl, Nat.le_of_ble_eq_true rfl⟩) ⟨x_blind, va_recv hK hP (ci := 4) (q0 := 0) rfl rfl, fun U hU hW => x_pre (isC := [0, 1, 2, 3, 4, 5, 6, 7, 8, 9, 10, 11, 12, 13, 14, 15, 16, 17, 18, 19, 20, 21]) hK hP hD rfl rfl hU hW⟩ rfl rfl hl.1 rfl (lv_room (Nat.le_of_ble_eq_true rfl)) d_M_ends_28 ⟨Nat.le_of_ble_eq_true rfl, Nat.le_of_ble_eq_true rfl⟩) hP hD hS hA rfl rfl rfl (by decide) (fun _ => rfl) rfl (fun r28 _ H locs hw hP hD hS => ?_)
        refine lv_if_ne (tgt := 83) hx hb d_M_ends_31 (by decide) (fun c31 => ?_) (fun c31 => ?_)
        · have hw := hw.1 c31
          exact jn83 _ _ _ hw hP hD hS (lv_sub hl [] rfl)
        · have hw := hw.2 c31
          refine lv_aload_n hx hb d_M_ends_34 rfl (lv_at hl 0 rfl) ?_
          refine va_get (D := (dC, dI)) (ci := 4) (v := .ref (qM 21)) (C := "ReleaseRowsModel") (T := T_M) (N := 27) hx hb hts in_M hown hK hP 0 rfl rfl 20 (by decide) (hts _ k_596) (fun _ h9 => h9) rfl d_M_ends_35 ?_
          refine lv_iload_n hx hb d_M_ends_38 rfl (lv_at hl 1 rfl) ?_
          obtain ⟨h39, hw⟩ := hw
          refine va_iald hx hb hK hP 16 0 rfl rfl h39 d_M_ends_39 ?_
          refine lv_if_ne (tgt := 83) hx hb d_M_ends_40 (by decide) (fun c40 => ?_) (fun c40 => ?_)
          · have hw := hw.1 c40
            exact jn83 _ _ _ hw hP hD hS (lv_sub hl [] rfl)
          · have hw := hw.2 c40
            refine lv_aload_n hx hb d_M_ends_43 rfl (lv_at hl 0 rfl) ?_
            refine va_get (D := (dC, dI)) (ci := 4) (v := .ref (qM 20)) (C := "ReleaseRowsModel") (T := T_M) (N := 27) hx hb hts in_M hown hK hP 0 rfl rfl 19 (by decide) (hts _ k_595) (fun _ h9 => h9) rfl d_M_ends_44 ?_
            refine lv_iload_n hx hb d_M_ends_47 rfl (lv_at hl 1 rfl) ?_
            obtain ⟨h48, hw⟩ := hw
            refine va_iald hx hb hK hP 15 0 rfl rfl h48 d_M_ends_48 ?_
            refine lv_bipush (v := (8 : Int32)) hx hb d_M_ends_49 (by decide) ?_
            refine lv_irem hx hb d_M_ends_51 (by decide) ?_
            refine lv_bipush (v := (7 : Int32)) hx hb d_M_ends_52 (by decide) ?_
            refine lv_icmp_ne (tgt := 83) hx hb d_M_ends_54 (by decide) (fun c54 => ?_) (fun c54 => ?_)
            · have hw := hw.1 c54
              exact jn83 _ _ _ hw hP hD hS (lv_sub hl [] rfl)
            · have hw := hw.2 c54
              refine lv_aload_n hx hb d_M_ends_57 rfl (lv_at hl 0 rfl) ?_
              refine va_get (D := (dC, dI)) (ci := 4) (v := .ref (qM 22)) (C := "ReleaseRowsModel") (T := T_M) (N := 27) hx hb hts in_M hown hK hP 0 rfl rfl 21 (by decide) (hts _ k_597) (fun _ h9 => h9) rfl d_M_ends_58 ?_
              refine lv_iload_n hx hb d_M_ends_61 rfl (lv_at hl 1 rfl) ?_
              obtain ⟨h62, hw⟩ := hw
              refine va_iald hx hb hK hP 17 0 rfl rfl h62 d_M_ends_62 ?_
              refine lv_if_lt (tgt := 79) hx hb d_M_ends_63 (by decide) (fun c63 => ?_) (fun c63 => ?_)
              · have hw := hw.1 c63
                exact jn79 _ _ _ hw hP hD hS (lv_sub hl [] rfl)
              · have hw := hw.2 c63
                refine lv_aload_n hx hb d_M_ends_66 rfl (lv_at hl 0 rfl) ?_
                refine va_get (D := (dC, dI)) (ci := 4) (v := .int (xM.2 1)) (C := "ReleaseRowsModel") (T := T_M) (N := 27) hx hb hts in_M hown hK hP 0 rfl rfl 1 (by decide) (hts _ k_577) (fun _ h9 => h9) rfl d_M_ends_67 ?_
                refine lv_aload_n hx hb d_M_ends_70 rfl (lv_at hl 0 rfl) ?_
                refine va_get (D := (dC, dI)) (ci := 4) (v := .ref (qM 22)) (C := "ReleaseRowsModel") (T := T_M) (N := 27) hx hb hts in_M hown hK hP 0 rfl rfl 21 (by decide) (hts _ k_597) (fun _ h9 => h9) rfl d_M_ends_71 ?_
                refine lv_iload_n hx hb d_M_ends_74 rfl (lv_at hl 1 rfl) ?_
                obtain ⟨h75, hw⟩ := hw
                refine va_iald hx hb hK hP 17 0 rfl rfl h75 d_M_ends_75 ?_
                refine lv_icmp_lt (tgt := 83) hx hb d_M_ends_76 (by decide) (fun c76 => ?_) (fun c76 => ?_)
                · have hw := hw.1 c76
                  exact jn83 _ _ _ hw hP hD hS (lv_sub hl [] rfl)
                · have hw := hw.2 c76
                  exact jn79 _ _ _ hw hP hD hS (lv_sub hl [] rfl)

