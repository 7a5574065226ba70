def wj_M_check_51 (xM : St) (a1 : Int32) (a2 : Int32) (post : St → Prop) (xM_ : St) (s0_ : Int32) (s1_ : Int32) (s2_ : Int32) : Prop := wp_M_throwing xM_ s2_ s1_ s0_ (0 : Int32) (fun r52 u52 => ((r52 = 0 → (vp_in a1 24 ∧ (vp_in a1 24 ∧ (wp_M_settle (sA u52 11 a1.toNatClampNeg ((u52.1 11 a1.toNatClampNeg) ||| a2)) (fun r70 u70 => (post u70)))))) ∧ (¬ r52 = 0 → (post u52))))
def wj_M_check_50 (xM : St) (a1 : Int32) (a2 : Int32) (post : St → Prop) (xM_ : St) (s0_ : Int32) (s1_ : Int32) : Prop := wj_M_check_51 xM a1 a2 post xM_ (0 : Int32) s0_ s1_
def wj_M_check_32 (xM : St) (a1 : Int32) (a2 : Int32) (post : St → Prop) (xM_ : St) (s0_ : Int32) (s1_ : Int32) (v3_ : Int32) : Prop := (¬ v3_ = 0 → (wj_M_check_50 xM a1 a2 post xM_ s0_ s1_)) ∧ (v3_ = 0 → (vp_in a1 24 ∧ (((xM_.1 8 a1.toNatClampNeg) = (5 : Int32) → (wj_M_check_50 xM a1 a2 post xM_ s0_ s1_)) ∧ (¬ (xM_.1 8 a1.toNatClampNeg) = (5 : Int32) → (wj_M_check_51 xM a1 a2 post xM_ (1 : Int32) s0_ s1_)))))
def wj_M_check_13 (xM : St) (a1 : Int32) (a2 : Int32) (post : St → Prop) (xM_ : St) (s0_ : Int32) : Prop := wp_M_in a2 (0 : Int32) (255 : Int32) (fun r21 _ => ((¬ r21 = 0 → (wj_M_check_32 xM a1 a2 post xM_ (0 : Int32) s0_ s0_)) ∧ (r21 = 0 → (wj_M_check_32 xM a1 a2 post xM_ (1 : Int32) s0_ s0_))))
def wp_M_check (xM : St) (a1 : Int32) (a2 : Int32) (post : St → Prop) : Prop := wp_M_isUnit xM a1 (fun r2 _ => ((¬ r2 = 0 → (wj_M_check_13 xM a1 a2 post xM (0 : Int32))) ∧ (r2 = 0 → (wj_M_check_13 xM a1 a2 post xM (1 : Int32)))))
set_option maxHeartbeats 4000000 in
set_option maxRecDepth 100000 in
theorem c_M_check (l : Launch) (dC : Nat → ClassId) (dI : Nat → Nat → Nat) (cI cZ cL : ClassId) (qM : Nat → Nat) (sz : Nat) (xM : St) (a1 : Int32) (a2 : Int32) (post : St → Prop) (hw : wp_M_check xM a1 a2 post) : Met l y_M_check w_M_check ({ frames := 4, cells := 0, slots := 0, locals := 90 } : Room) (va_Pc [.ref (qM 0), .int a1, .int a2] (xP (dC, dI) vwCl [(cI, .int), (cZ, .boolean), (cL, .long)] (wd_M qM cI cZ cL xM) sz)) (va_Qv post (xB (dC, dI) vwCl [(cI, .int), (cZ, .boolean), (cL, .long)] (va_A (wd_M qM cI cZ cL xM) sz) (fun u => (wd_M qM cI cZ cL u))) (va_A (wd_M qM cI cZ cL xM) sz)) 0 0 (va_A (wd_M qM cI cZ cL xM) sz) := by
  refine x_ofV (cc := b_M_check) (maxL := 4) (by decide) rfl (Nat.le_of_ble_eq_true rfl) (fun p e s m below meth c A Q hx hb hml hts hown hin hK hA hP hD hS hret ls hl => ?_)
  have hl : lv_has ls 4 [(0, .ref (qM 0)), (1, .int a1), (2, .int a2)] := hl
  have jn51 : ∀ (xM_ : St) (s0_ : Int32) (s1_ : Int32) (s2_ : Int32) (H : Heap) (locs : List Loc) (ls : Array Slot), wj_M_check_51 xM a1 a2 post xM_ s0_ s1_ s2_ → va_P (dC, dI) vwCl (wd_M qM cI cZ cL xM_) H → va_D A (wd_M qM cI cZ cL xM_) → va_S A s.heap H locs → lv_has ls 4 [(0, .ref (qM 0)), (1, .int a1), (2, .int a2)] → W p l e (headSpec w_M_check ({ frames := 4, cells := 0, slots := 0, locals := 90 } : Room)).room s m ([.ref (qM 0), .int a1, .int a2] : List Value).toArray below meth c H locs 0 0 Q (F0 m 51 ls [.int s0_, .int s1_, .int s2_, .ref (qM 0)]) := by
    intro xM_ s0_ s1_ s2_ H locs ls hw hP hD hS hl
    unfold wj_M_check_51 at hw
    refine lv_iconst (v := (0 : Int32)) hx hb d_M_check_51 (by decide) ?_
    refine x_ci (w2 := fun u52 => (wd_M qM cI cZ cL u52)) [0, 1, 2, 3, 4, 5, 6, 7, 8, 9, 10, 11, 12, 13, 14, 15, 16, 17, 18, 19, 20, 21] [] [0, 1, 2, 3, 4, 5, 6, 7, 8, 9, 10, 11, 12, 13, 14, 15, 16, 17, 18, 19, 20, 21] (va_runV (As := [.int s2_, .int s1_, .int s0_, .int (0 : Int32)]) (rest := []) ⟨hx, hb, hml, hown, hts⟩ (c_M_throwing l dC dI cI cZ cL qM _ xM_ s2_ s1_ s0_ (0 : Int32) _ hw) (cwV 4 hts (x_gV k_670 k_672 k_10 k_30 k_673) rfl rfl rfl (by decide +kernel) ⟨Nat.le_of_ble_eq_true rfl, Nat.le_of_ble_eq_true rfl⟩) ⟨x_blind, va_recv hK hP (ci := 4) (q0 := 0) rfl rfl, fun U hU hW => x_pre (isC := [0, 1, 2, 3, 4, 5, 6, 7, 8, 9, 10, 11, 12, 13, 14, 15, 16, 17, 18, 19, 20, 21]) hK hP hD rfl rfl hU hW⟩ rfl rfl hl.1 rfl (lv_room (Nat.le_of_ble_eq_true rfl)) d_M_check_52 ⟨Nat.le_of_ble_eq_true rfl, Nat.le_of_ble_eq_true rfl⟩) hP hD hS hA rfl rfl rfl (by decide) (fun _ => rfl) rfl (fun r52 u52 H locs hw hP hD hS => ?_)
    refine lv_if_eq (tgt := 59) hx hb d_M_check_55 (by decide) (fun c55 => ?_) (fun c55 => ?_)
    · have hw := hw.1 c55
      refine lv_aload_n hx hb d_M_check_59 rfl (lv_at hl 0 rfl) ?_
      refine va_get (D := (dC, dI)) (ci := 4) (v := .ref (qM 12)) (C := "ReleaseRowsModel") (T := T_M) (N := 27) hx hb hts in_M hown hK hP 0 rfl rfl 11 (by decide) (hts _ k_587) (fun _ h9 => h9) rfl d_M_check_60 ?_
      refine lv_iload_n hx hb d_M_check_63 rfl (lv_at hl 1 rfl) ?_
      refine lv_dup2_11 hx hb d_M_check_64 rfl rfl ?_
      obtain ⟨h65, hw⟩ := hw
      refine va_iald hx hb hK hP 8 0 rfl rfl h65 d_M_check_65 ?_
      refine lv_iload_n hx hb d_M_check_66 rfl (lv_at hl 2 rfl) ?_
      refine lv_ior hx hb d_M_check_67 ?_
      obtain ⟨h68, hw⟩ := hw
      refine va_iast hx hb hK hP hD hS 8 0 rfl rfl h68 d_M_check_68 (fun H locs hP hD hS => ?_)
      have hP := wsP_M_M11 hP
      have hD := wsD_M_M11 hD
      refine lv_aload_n hx hb d_M_check_69 rfl (lv_at hl 0 rfl) ?_
      refine x_ci (w2 := fun u70 => (wd_M qM cI cZ cL u70)) [0, 1, 2, 3, 4, 5, 6, 7, 8, 9, 10, 11, 12, 13, 14, 15, 16, 17, 18, 19, 20, 21] [] [0, 1, 2, 3, 4, 5, 6, 7, 8, 9, 10, 11, 12, 13, 14, 15, 16, 17, 18, 19, 20, 21] (va_runV (As := []) (rest := []) ⟨hx, hb, hml, hown, hts⟩ (c_M_settle l dC dI cI cZ cL qM _ (sA u52 11 a1.toNatClampNeg ((u52.1 11 a1.toNatClampNeg) ||| a2)) _ hw) (cwV 0 hts (x_gV k_674 k_676 k_11 k_30 k_677) rfl rfl rfl (by decide +kernel) ⟨Nat.le_of_ble_eq_true rfl, Nat.le_of_ble_eq_true rfl⟩) ⟨x_blind, va_recv hK hP (ci := 4) (q0 := 0) rfl rfl, fun U hU hW => x_pre (isC := [0, 1, 2, 3, 4, 5, 6, 7, 8, 9, 10, 11, 12, 13, 14, 15, 16, 17, 18, 19, 20, 21]) hK hP hD rfl rfl hU hW⟩ rfl rfl hl.1 rfl (lv_room (Nat.le_of_ble_eq_true rfl)) d_M_check_70 ⟨Nat.le_of_ble_eq_true rfl, Nat.le_of_ble_eq_true rfl⟩) hP hD hS hA rfl rfl rfl (by decide) (fun _ => rfl) rfl (fun r70 u70 H locs hw hP hD hS => ?_)
      refine lv_pop hx hb d_M_check_73 rfl ?_
      exact hret u70 _ _ _ _ _ _ hw hP hD hS (Nat.le_of_ble_eq_true rfl) (Nat.le_of_ble_eq_true rfl) d_M_check_74
    · have hw := hw.2 c55
      exact hret u52 _ _ _ _ _ _ hw hP hD hS (Nat.le_of_ble_eq_true rfl) (Nat.le_of_ble_eq_true rfl) d_M_check_58
  have jn50 : ∀ (xM_ : St) (s0_ : Int32) (s1_ : Int32) (H : Heap) (locs : List Loc) (ls : Array Slot), wj_M_check_50 xM a1 a2 post xM_ s0_ s1_ → va_P (dC, dI) vwCl (wd_M qM cI cZ cL xM_) H → va_D A (wd_M qM cI cZ cL xM_) → va_S A s.heap H locs → lv_has ls 4 [(0, .ref (qM 0)), (1, .int a1), (2, .int a2)] → W p l e (headSpec w_M_check ({ frames := 4, cells := 0, slots := 0, locals := 90 } : Room)).room s m ([.ref (qM 0), .int a1, .int a2] : List Value).toArray below meth c H locs 0 0 Q (F0 m 50 ls [.int s0_, .int s1_, .ref (qM 0)]) := by
    intro xM_ s0_ s1_ H locs ls hw hP hD hS hl
    unfold wj_M_check_50 at hw
    refine lv_iconst (v := (0 : Int32)) hx hb d_M_check_50 (by decide) ?_
    exact jn51 xM_ (0 : Int32) s0_ s1_ _ _ _ hw hP hD hS hl
  have jn32 : ∀ (xM_ : St) (s0_ : Int32) (s1_ : Int32) (v3_ : Int32) (H : Heap) (locs : List Loc) (ls : Array Slot), wj_M_check_32 xM a1 a2 post xM_ s0_ s1_ v3_ → va_P (dC, dI) vwCl (wd_M qM cI cZ cL xM_) H → va_D A (wd_M qM cI cZ cL xM_) → va_S A s.heap H locs → lv_has ls 4 [(0, .ref (qM 0)), (1, .int a1), (2, .int a2), (3, .int v3_)] → W p l e (headSpec w_M_check ({ frames := 4, cells := 0, slots := 0, locals := 90 } : Room)).room s m ([.ref (qM 0), .int a1, .int a2] : List Value).toArray below meth c H locs 0 0 Q (F0 m 32 ls [.int s0_, .int s1_, .ref (qM 0)]) := by
    intro xM_ s0_ s1_ v3_ H locs ls hw hP hD hS hl
    unfold wj_M_check_32 at hw
    refine lv_iload_n hx hb d_M_check_32 rfl (lv_at hl 3 rfl) ?_
    refine lv_if_ne (tgt := 50) hx hb d_M_check_33 (by decide) (fun c33 => ?_) (fun c33 => ?_)
    · have hw := hw.1 c33
      exact jn50 xM_ s0_ s1_ _ _ _ hw hP hD hS (lv_sub hl [0, 1, 2] rfl)
    · have hw := hw.2 c33
      refine lv_aload_n hx hb d_M_check_36 rfl (lv_at hl 0 rfl) ?_
      refine va_get (D := (dC, dI)) (ci := 4) (v := .ref (qM 9)) (C := "ReleaseRowsModel") (T := T_M) (N := 27) hx hb hts in_M hown hK hP 0 rfl rfl 8 (by decide) (hts _ k_584) (fun _ h9 => h9) rfl d_M_check_37 ?_
      refine lv_iload_n hx hb d_M_check_40 rfl (lv_at hl 1 rfl) ?_
      obtain ⟨h41, hw⟩ := hw
      refine va_iald hx hb hK hP 5 0 rfl rfl h41 d_M_check_41 ?_
      refine lv_iconst (v := (5 : Int32)) hx hb d_M_check_42 (by decide) ?_
      refine lv_icmp_eq (tgt := 50) hx hb d_M_check_43 (by decide) (fun c43 => ?_) (fun c43 => ?_)
      · have hw := hw.1 c43
        exact jn50 xM_ s0_ s1_ _ _ _ hw hP hD hS (lv_sub hl [0, 1, 2] rfl)
      · have hw := hw.2 c43
        refine lv_iconst (v := (1 : Int32)) hx hb d_M_check_46 (by decide) ?_
        refine lv_goto (tgt := 51) hx hb d_M_check_47 (by decide) ?_
        exact jn51 xM_ (1 : Int32) s0_ s1_ _ _ _ hw hP hD hS (lv_sub hl [0, 1, 2] rfl)
  have jn13 : ∀ (xM_ : St) (s0_ : Int32) (H : Heap) (locs : List Loc) (ls : Array Slot), wj_M_check_13 xM a1 a2 post xM_ s0_ → va_P (dC, dI) vwCl (wd_M qM cI cZ cL xM_) H → va_D A (wd_M qM cI cZ cL xM_) → va_S A s.heap H locs → lv_has ls 4 [(0, .ref (qM 0)), (1, .int a1), (2, .int a2)] → W p l e (headSpec w_M_check ({ frames := 4, cells := 0, slots := 0, locals := 90 } : Room)).room s m ([.ref (qM 0), .int a1, .int a2] : List Value).toArray below meth c H locs 0 0 Q (F0 m 13 ls [.int s0_]) := by
    intro xM_ s0_ H locs ls hw hP hD hS hl
    unfold wj_M_check_13 at hw
    refine lv_istore_n (lv' := [(3, .int s0_), (0, .ref (qM 0)), (1, .int a1), (2, .int a2)]) hx hb d_M_check_13 rfl hl (by decide) rfl (fun ls hl => ?_)
    refine lv_aload_n hx hb d_M_check_14 rfl (lv_at hl 1 rfl) ?_
    refine lv_iload_n hx hb d_M_check_15 rfl (lv_at hl 0 rfl) ?_
    refine lv_iload_n hx hb d_M_check_16 rfl (lv_at hl 3 rfl) ?_
    refine lv_iconst (v := (0 : Int32)) hx hb d_M_check_17 (by decide) ?_
    refine lv_sipush (v := (255 : Int32)) hx hb d_M_check_18 (by decide) ?_
    refine x_ci (w2 := fun _ => (wd_M qM cI cZ cL xM_)) [] [0, 1, 2, 3, 4, 5, 6, 7, 8, 9, 10, 11, 12, 13, 14, 15, 16, 17, 18, 19, 20, 21] [0, 1, 2, 3, 4, 5, 6, 7, 8, 9, 10, 11, 12, 13, 14, 15, 16, 17, 18, 19, 20, 21] (va_runS (As := [.int a2, .int (0 : Int32), .int (255 : Int32)]) (rest := [.int s0_, .ref (qM 0)]) ⟨hx, hb, hml, hown, hts⟩ (c_M_in l dC dI cI cZ cL  _ a2 (0 : Int32) (255 : Int32) _ hw) (cwS 3 hts (x_gS k_667 k_668 k_30 k_669) rfl rfl rfl (by decide +kernel) ⟨Nat.le_of_ble_eq_true rfl, Nat.le_of_ble_eq_true rfl⟩) ⟨x_blind, fun U hU hW => x_pre (isC := []) hK hP hD rfl rfl hU hW⟩ rfl rfl hl.1 rfl (lv_room (Nat.le_of_ble_eq_true rfl)) d_M_check_21 ⟨Nat.le_of_ble_eq_true rfl, Nat.le_of_ble_eq_true rfl⟩) hP hD hS hA rfl rfl rfl (by decide) (fun _ => rfl) rfl (fun r21 _ H locs hw hP hD hS => ?_)
    refine lv_if_ne (tgt := 31) hx hb d_M_check_24 (by decide) (fun c24 => ?_) (fun c24 => ?_)
    · have hw := hw.1 c24
      refine lv_iconst (v := (0 : Int32)) hx hb d_M_check_31 (by decide) ?_
      exact jn32 xM_ (0 : Int32) s0_ s0_ _ _ _ hw hP hD hS (lv_sub hl [1, 2, 3, 0] rfl)
    · have hw := hw.2 c24
      refine lv_iconst (v := (1 : Int32)) hx hb d_M_check_27 (by decide) ?_
      refine lv_goto (tgt := 32) hx hb d_M_check_28 (by decide) ?_
      exact jn32 xM_ (1 : Int32) s0_ s0_ _ _ _ hw hP hD hS (lv_sub hl [1, 2, 3, 0] rfl)
  unfold wp_M_check at hw
  refine lv_aload_n hx hb d_M_check_0 rfl (lv_at hl 0 rfl) ?_
  refine lv_iload_n hx hb d_M_check_1 rfl (lv_at hl 1 rfl) ?_
  refine x_ci (w2 := fun _ => (wd_M qM cI cZ cL xM)) [0, 1, 2, 3, 4, 5, 6, 7, 8, 9, 10, 11, 12, 13, 14, 15, 16, 17, 18, 19, 20, 21] [] [0, 1, 2, 3, 4, 5, 6, 7, 8, 9, 10, 11, 12, 13, 14, 15, 16, 17, 18, 19, 20, 21] (va_runV (As := [.int a1]) (rest := []) ⟨hx, hb, hml, hown, hts⟩ (c_M_isUnit l dC dI cI cZ cL qM _ xM a1 _ hw) (cwV 1 hts (x_gV k_718 k_720 k_21 k_30 k_721) rfl rfl rfl (by decide +kernel) ⟨Nat.le_of_ble_eq_true rfl, Nat.le_of_ble_eq_true rfl⟩) ⟨x_blind, va_recv hK hP (ci := 4) (q0 := 0) rfl rfl, fun U hU hW => x_pre (isC := [0, 1, 2, 3, 4, 5, 6, 7, 8, 9, 10, 11, 12, 13, 14, 15, 16, 17, 18, 19, 20, 21]) hK hP hD rfl rfl hU hW⟩ rfl rfl hl.1 rfl (lv_room (Nat.le_of_ble_eq_true rfl)) d_M_check_2 ⟨Nat.le_of_ble_eq_true rfl, Nat.le_of_ble_eq_true rfl⟩) hP hD hS hA rfl rfl rfl (by decide) (fun _ => rfl) rfl (fun r2 _ H locs hw hP hD hS => ?_)
  refine lv_if_ne (tgt := 12) hx hb d_M_check_5 (by decide) (fun c5 => ?_) (fun c5 => ?_)
  · have hw := hw.1 c5
    refine lv_iconst (v := (0 : Int32)) hx hb d_M_check_12 (by decide) ?_
    exact jn13 xM (0 : Int32) _ _ _ hw hP hD hS hl
  · have hw := hw.2 c5
    refine lv_iconst (v := (1 : Int32)) hx hb d_M_check_8 (by decide) ?_
    refine lv_goto (tgt := 13) hx hb d_M_check_9 (by decide) ?_
    exact jn13 xM (1 : Int32) _ _ _ hw hP hD hS hl

def wj_M_inside_30 (xM : St) (a1 : Int32) (a2 : Int32) (post : St → Prop) (xM_ : St) (s0_ : Int32) (s1_ : Int32) : Prop := wp_M_isShut xM_ a1 (fun r32 _ => (wp_M_throwing xM_ s1_ s0_ r32 (0 : Int32) (fun r36 u36 => ((r36 = 0 → (vp_in a1 20 ∧ (wp_M_settle (sA u36 20 a1.toNatClampNeg a2) (fun r51 u51 => (post u51))))) ∧ (¬ r36 = 0 → (post u36))))))
def wj_M_inside_14 (xM : St) (a1 : Int32) (a2 : Int32) (post : St → Prop) (xM_ : St) (s0_ : Int32) : Prop := wp_M_in a2 (0 : Int32) (1000 : Int32) (fun r19 _ => ((¬ r19 = 0 → (wj_M_inside_30 xM a1 a2 post xM_ (0 : Int32) s0_)) ∧ (r19 = 0 → (wj_M_inside_30 xM a1 a2 post xM_ (1 : Int32) s0_))))
def wp_M_inside (xM : St) (a1 : Int32) (a2 : Int32) (post : St → Prop) : Prop := wp_M_isIncident xM a1 (fun r3 _ => ((¬ r3 = 0 → (wj_M_inside_14 xM a1 a2 post xM (0 : Int32))) ∧ (r3 = 0 → (wj_M_inside_14 xM a1 a2 post xM (1 : Int32)))))
set_option maxHeartbeats 4000000 in
set_option maxRecDepth 100000 in
theorem c_M_inside (l : Launch) (dC : Nat → ClassId) (dI : Nat → Nat → Nat) (cI cZ cL : ClassId) (qM : Nat → Nat) (sz : Nat) (xM : St) (a1 : Int32) (a2 : Int32) (post : St → Prop) (hw : wp_M_inside xM a1 a2 post) : Met l y_M_inside w_M_inside ({ frames := 4, cells := 0, slots := 0, locals := 90 } : Room) (va_Pc [.ref (qM 0), .int a1, .int a2] (xP (dC, dI) vwCl [(cI, .int), (cZ, .boolean), (cL, .long)] (wd_M qM cI cZ cL xM) sz)) (va_Qv post (xB (dC, dI) vwCl [(cI, .int), (cZ, .boolean), (cL, .long)] (va_A (wd_M qM cI cZ cL xM) sz) (fun u => (wd_M qM cI cZ cL u))) (va_A (wd_M qM cI cZ cL xM) sz)) 0 0 (va_A (wd_M qM cI cZ cL xM) sz) := by
  refine x_ofV (cc := b_M_inside) (maxL := 3) (by decide) rfl (Nat.le_of_ble_eq_true rfl) (fun p e s m below meth c A Q hx hb hml hts hown hin hK hA hP hD hS hret ls hl => ?_)
  have hl : lv_has ls 3 [(0, .ref (qM 0)), (1, .int a1), (2, .int a2)] := hl
  have jn30 : ∀ (xM_ : St) (s0_ : Int32) (s1_ : Int32) (H : Heap) (locs : List Loc) (ls : Array Slot), wj_M_inside_30 xM a1 a2 post xM_ s0_ s1_ → va_P (dC, dI) vwCl (wd_M qM cI cZ cL xM_) H → va_D A (wd_M qM cI cZ cL xM_) → va_S A s.heap H locs → lv_has ls 3 [(0, .ref (qM 0)), (1, .int a1), (2, .int a2)] → W p l e (headSpec w_M_inside ({ frames := 4, cells := 0, slots := 0, locals := 90 } : Room)).room s m ([.ref (qM 0), .int a1, .int a2] : List Value).toArray below meth c H locs 0 0 Q (F0 m 30 ls [.int s0_, .int s1_, .ref (qM 0)]) := by
    intro xM_ s0_ s1_ H locs ls hw hP hD hS hl
    unfold wj_M_inside_30 at hw
    refine lv_aload_n hx hb d_M_inside_30 rfl (lv_at hl 0 rfl) ?_
    refine lv_iload_n hx hb d_M_inside_31 rfl (lv_at hl 1 rfl) ?_
    refine x_ci (w2 := fun _ => (wd_M qM cI cZ cL xM_)) [0, 1, 2, 3, 4, 5, 6, 7, 8, 9, 10, 11, 12, 13, 14, 15, 16, 17, 18, 19, 20, 21] [] [0, 1, 2, 3, 4, 5, 6, 7, 8, 9, 10, 11, 12, 13, 14, 15, 16, 17, 18, 19, 20, 21] (va_runV (As := [.int a1]) (rest := [.int s0_, .int s1_, .ref (qM 0)]) ⟨hx, hb, hml, hown, hts⟩ (c_M_isShut l dC dI cI cZ cL qM _ xM_ a1 _ hw) (cwV 1 hts (x_gV k_752 k_754 k_24 k_30 k_755) rfl rfl rfl (by decide +kernel) ⟨Nat.le_of_ble_eq_true rfl, Nat.le_of_ble_eq_true rfl⟩) ⟨x_blind, va_recv hK hP (ci := 4) (q0 := 0) rfl rfl, fun U hU hW => x_pre (isC := [0, 1, 2, 3, 4, 5, 6, 7, 8, 9, 10, 11, 12, 13, 14, 15, 16, 17, 18, 19, 20, 21]) hK hP hD rfl rfl hU hW⟩ rfl rfl hl.1 rfl (lv_room (Nat.le_of_ble_eq_true rfl)) d_M_inside_32 ⟨Nat.le_of_ble_eq_true rfl, Nat.le_of_ble_eq_true rfl⟩) hP hD hS hA rfl rfl rfl (by decide) (fun _ => rfl) rfl (fun r32 _ H locs hw hP hD hS => ?_)
    refine lv_iconst (v := (0 : Int32)) hx hb d_M_inside_35 (by decide) ?_
    refine x_ci (w2 := fun u36 => (wd_M qM cI cZ cL u36)) [0, 1, 2, 3, 4, 5, 6, 7, 8, 9, 10, 11, 12, 13, 14, 15, 16, 17, 18, 19, 20, 21] [] [0, 1, 2, 3, 4, 5, 6, 7, 8, 9, 10, 11, 12, 13, 14, 15, 16, 17, 18, 19, 20, 21] (va_runV (As := [.int s1_, .int s0_, .int r32, .int (0 : Int32)]) (rest := []) ⟨hx, hb, hml, hown, hts⟩ (c_M_throwing l dC dI cI cZ cL qM _ xM_ s1_ s0_ r32 (0 : Int32) _ hw) (cwV 4 hts (x_gV k_670 k_672 k_10 k_30 k_673) rfl rfl rfl (by decide +kernel) ⟨Nat.le_of_ble_eq_true rfl, Nat.le_of_ble_eq_true rfl⟩) ⟨x_blind, va_recv hK hP (ci := 4) (q0 := 0) rfl rfl, fun U hU hW => x_pre (isC := [0, 1, 2, 3, 4, 5, 6, 7, 8, 9, 10, 11, 12, 13, 14, 15, 16, 17, 18, 19, 20, 21]) hK hP hD rfl rfl hU hW⟩ rfl rfl hl.1 rfl (lv_room (Nat.le_of_ble_eq_true rfl)) d_M_inside_36 ⟨Nat.le_of_ble_eq_true rfl, Nat.le_of_ble_eq_true rfl⟩) hP hD hS hA rfl rfl rfl (by decide) (fun _ => rfl) rfl (fun r36 u36 H locs hw hP hD hS => ?_)
    refine lv_if_eq (tgt := 43) hx hb d_M_inside_39 (by decide) (fun c39 => ?_) (fun c39 => ?_)
    · have hw := hw.1 c39
      refine lv_aload_n hx hb d_M_inside_43 rfl (lv_at hl 0 rfl) ?_
      refine va_get (D := (dC, dI)) (ci := 4) (v := .ref (qM 21)) (C := "ReleaseRowsModel") (T := T_M) (N := 27) hx hb hts in_M hown hK hP 0 rfl rfl 20 (by decide) (hts _ k_596) (fun _ h9 => h9) rfl d_M_inside_44 ?_
      refine lv_iload_n hx hb d_M_inside_47 rfl (lv_at hl 1 rfl) ?_
      refine lv_iload_n hx hb d_M_inside_48 rfl (lv_at hl 2 rfl) ?_
      obtain ⟨h49, hw⟩ := hw
      refine va_iast hx hb hK hP hD hS 16 0 rfl rfl h49 d_M_inside_49 (fun H locs hP hD hS => ?_)
      have hP := wsP_M_M20 hP
      have hD := wsD_M_M20 hD
      refine lv_aload_n hx hb d_M_inside_50 rfl (lv_at hl 0 rfl) ?_
      refine x_ci (w2 := fun u51 => (wd_M qM cI cZ cL u51)) [0, 1, 2, 3, 4, 5, 6, 7, 8, 9, 10, 11, 12, 13, 14, 15, 16, 17, 18, 19, 20, 21] [] [0, 1, 2, 3, 4, 5, 6, 7, 8, 9, 10, 11, 12, 13, 14, 15, 16, 17, 18, 19, 20, 21] (va_runV (As := []) (rest := []) ⟨hx, hb, hml, hown, hts⟩ (c_M_settle l dC dI cI cZ cL qM _ (sA u36 20 a1.toNatClampNeg a2) _ hw) (cwV 0 hts (x_gV k_674 k_676 k_11 k_30 k_677) rfl rfl rfl (by decide +kernel) ⟨Nat.le_of_ble_eq_true rfl, Nat.le_of_ble_eq_true rfl⟩) ⟨x_blind, va_recv hK hP (ci := 4) (q0 := 0) rfl rfl, fun U hU hW => x_pre (isC := [0, 1, 2, 3, 4, 5, 6, 7, 8, 9, 10, 11, 12, 13, 14, 15, 16, 17, 18, 19, 20, 21]) hK hP hD rfl rfl hU hW⟩ rfl rfl hl.1 rfl (lv_room (Nat.le_of_ble_eq_true rfl)) d_M_inside_51 ⟨Nat.le_of_ble_eq_true rfl, Nat.le_of_ble_eq_true rfl⟩) hP hD hS hA rfl rfl rfl (by decide) (fun _ => rfl) rfl (fun r51 u51 H locs hw hP hD hS => ?_)
      refine lv_pop hx hb d_M_inside_54 rfl ?_
      exact hret u51 _ _ _ _ _ _ hw hP hD hS (Nat.le_of_ble_eq_true rfl) (Nat.le_of_ble_eq_true rfl) d_M_inside_55
    · have hw := hw.2 c39
      exact hret u36 _ _ _ _ _ _ hw hP hD hS (Nat.le_of_ble_eq_true rfl) (Nat.le_of_ble_eq_true rfl) d_M_inside_42
  have jn14 : ∀ (xM_ : St) (s0_ : Int32) (H : Heap) (locs : List Loc) (ls : Array Slot), wj_M_inside_14 xM a1 a2 post xM_ s0_ → va_P (dC, dI) vwCl (wd_M qM cI cZ cL xM_) H → va_D A (wd_M qM cI cZ cL xM_) → va_S A s.heap H locs → lv_has ls 3 [(0, .ref (qM 0)), (1, .int a1), (2, .int a2)] → W p l e (headSpec w_M_inside ({ frames := 4, cells := 0, slots := 0, locals := 90 } : Room)).room s m ([.ref (qM 0), .int a1, .int a2] : List Value).toArray below meth c H locs 0 0 Q (F0 m 14 ls [.int s0_, .ref (qM 0)]) := by
    intro xM_ s0_ H locs ls hw hP hD hS hl
    unfold wj_M_inside_14 at hw
    refine lv_iload_n hx hb d_M_inside_14 rfl (lv_at hl 2 rfl) ?_
    refine lv_iconst (v := (0 : Int32)) hx hb d_M_inside_15 (by decide) ?_
    refine lv_sipush (v := (1000 : Int32)) hx hb d_M_inside_16 (by decide) ?_
    refine x_ci (w2 := fun _ => (wd_M qM cI cZ cL xM_)) [] [0, 1, 2, 3, 4, 5, 6, 7, 8, 9, 10, 11, 12, 13, 14, 15, 16, 17, 18, 19, 20, 21] [0, 1, 2, 3, 4, 5, 6, 7, 8, 9, 10, 11, 12, 13, 14, 15, 16, 17, 18, 19, 20, 21] (va_runS (As := [.int a2, .int (0 : Int32), .int (1000 : Int32)]) (rest := [.int s0_, .ref (qM 0)]) ⟨hx, hb, hml, hown, hts⟩ (c_M_in l dC dI cI cZ cL  _ a2 (0 : Int32) (1000 : Int32) _ hw) (cwS 3 hts (x_gS k_667 k_668 k_30 k_669) rfl rfl rfl (by decide +kernel) ⟨Nat.le_of_ble_eq_true rfl, Nat.le_of_ble_eq_true rfl⟩) ⟨x_blind, fun U hU hW => x_pre (isC := []) hK hP hD rfl rfl hU hW⟩ rfl rfl hl.1 rfl (lv_room (Nat.le_of_ble_eq_true rfl)) d_M_inside_19 ⟨Nat.le_of_ble_eq_true rfl, Nat.le_of_ble_eq_true rfl⟩) hP hD hS hA rfl rfl rfl (by decide) (fun _ => rfl) rfl (fun r19 _ H locs hw hP hD hS => ?_)
    refine lv_if_ne (tgt := 29) hx hb d_M_inside_22 (by decide) (fun c22 => ?_) (fun c22 => ?_)
    · have hw := hw.1 c22
      refine lv_iconst (v := (0 : Int32)) hx hb d_M_inside_29 (by decide) ?_
      exact jn30 xM_ (0 : Int32) s0_ _ _ _ hw hP hD hS hl
    · have hw := hw.2 c22
      refine lv_iconst (v := (1 : Int32)) hx hb d_M_inside_25 (by decide) ?_
      refine lv_goto (tgt := 30) hx hb d_M_inside_26 (by decide) ?_
      exact jn30 xM_ (1 : Int32) s0_ _ _ _ hw hP hD hS hl
  unfold wp_M_inside at hw
  refine lv_aload_n hx hb d_M_inside_0 rfl (lv_at hl 0 rfl) ?_
  refine lv_aload_n hx hb d_M_inside_1 rfl (lv_at hl 0 rfl) ?_
  refine lv_iload_n hx hb d_M_inside_2 rfl (lv_at hl 1 rfl) ?_
  refine x_ci (w2 := fun _ => (wd_M qM cI cZ cL xM)) [0, 1, 2, 3, 4, 5, 6, 7, 8, 9, 10, 11, 12, 13, 14, 15, 16, 17, 18, 19, 20, 21] [] [0, 1, 2, 3, 4, 5, 6, 7, 8, 9, 10, 11, 12, 13, 14, 15, 16, 17, 18, 19, 20, 21] (va_runV (As := [.int a1]) (rest := [.ref (qM 0)]) ⟨hx, hb, hml, hown, hts⟩ (c_M_isIncident l dC dI cI cZ cL qM _ xM a1 _ hw) (cwV 1 hts (x_gV k_744 k_746 k_23 k_30 k_747) rfl rfl rfl (by decide +kernel) ⟨Nat.le_of_ble_eq_true rfl, Nat.le_of_ble_eq_true rfl⟩) ⟨x_blind, va_recv hK hP (ci := 4) (q0 := 0) rfl rfl, fun U hU hW => x_pre (isC := [0, 1, 2, 3, 4, 5, 6, 7, 8, 9, 10, 11, 12, 13, 14, 15, 16, 17, 18, 19, 20, 21]) hK hP hD rfl rfl hU hW⟩ rfl rfl hl.1 rfl (lv_room (Nat.le_of_ble_eq_true rfl)) d_M_inside_3 ⟨Nat.le_of_ble_eq_true rfl, Nat.le_of_ble_eq_true rfl⟩) hP hD hS hA rfl rfl rfl (by decide) (fun _ => rfl) rfl (fun r3 _ H locs hw hP hD hS => ?_)
  refine lv_if_ne (tgt := 13) hx hb d_M_inside_6 (by decide) (fun c6 => ?_) (fun c6 => ?_)
  · have hw := hw.1 c6
    refine lv_iconst (v := (0 : Int32)) hx hb d_M_inside_13 (by decide) ?_
    exact jn14 xM (0 : Int32) _ _ _ hw hP hD hS hl
  · have hw := hw.2 c6
    refine lv_iconst (v := (1 : Int32)) hx hb d_M_inside_9 (by decide) ?_
    refine lv_goto (tgt := 14) hx hb d_M_inside_10 (by decide) ?_
    exact jn14 xM (1 : Int32) _ _ _ hw hP hD hS hl

def wj_M_report_44 (xM : St) (a1 : Int32) (a2 : Int32) (post : St → Prop) (xM_ : St) (s0_ : Int32) (s1_ : Int32) : Prop := wp_M_throwing xM_ s1_ s0_ (0 : Int32) (0 : Int32) (fun r46 u46 => ((r46 = 0 → (vp_in a1 20 ∧ (vp_in a1 20 ∧ (wp_M_settle (sA u46 19 a1.toNatClampNeg ((u46.1 19 a1.toNatClampNeg) ||| ((1 : Int32) <<< (a2 &&& 31)))) (fun r66 u66 => (post u66)))))) ∧ (¬ r46 = 0 → (post u46))))
def wj_M_report_43 (xM : St) (a1 : Int32) (a2 : Int32) (post : St → Prop) (xM_ : St) (s0_ : Int32) : Prop := wj_M_report_44 xM a1 a2 post xM_ (0 : Int32) s0_
def wj_M_report_23 (xM : St) (a1 : Int32) (a2 : Int32) (post : St → Prop) (xM_ : St) (s0_ : Int32) : Prop := (¬ s0_ = 0 → (wj_M_report_43 xM a1 a2 post xM_ s0_)) ∧ (s0_ = 0 → (vp_in a1 20 ∧ ((¬ (xM_.1 17 a1.toNatClampNeg) = 0 → (wj_M_report_43 xM a1 a2 post xM_ s0_)) ∧ ((xM_.1 17 a1.toNatClampNeg) = 0 → (wj_M_report_44 xM a1 a2 post xM_ (1 : Int32) s0_)))))
def wj_M_report_18 (xM : St) (a1 : Int32) (a2 : Int32) (post : St → Prop) (xM_ : St) : Prop := wj_M_report_23 xM a1 a2 post xM_ (1 : Int32)
def wp_M_report (xM : St) (a1 : Int32) (a2 : Int32) (post : St → Prop) : Prop := wp_M_isIncident xM a1 (fun r2 _ => ((r2 = 0 → (wj_M_report_18 xM a1 a2 post xM)) ∧ (¬ r2 = 0 → (wp_M_in a2 (0 : Int32) (7 : Int32) (fun r12 _ => ((¬ r12 = 0 → (wj_M_report_23 xM a1 a2 post xM (0 : Int32))) ∧ (r12 = 0 → (wj_M_report_18 xM a1 a2 post xM))))))))
set_option maxHeartbeats 4000000 in
set_option maxRecDepth 100000 in
theorem c_M_report (l : Launch) (dC : Nat → ClassId) (dI : Nat → Nat → Nat) (cI cZ cL : ClassId) (qM : Nat → Nat) (sz : Nat) (xM : St) (a1 : Int32) (a2 : Int32) (post : St → Prop) (hw : wp_M_report xM a1 a2 post) : Met l y_M_report w_M_report ({ frames := 4, cells := 0, slots := 0, locals := 90 } : Room) (va_Pc [.ref (qM 0), .int a1, .int a2] (xP (dC, dI) vwCl [(cI, .int), (cZ, .boolean), (cL, .long)] (wd_M qM cI cZ cL xM) sz)) (va_Qv post (xB (dC, dI) vwCl [(cI, .int), (cZ, .boolean), (cL, .long)] (va_A (wd_M qM cI cZ cL xM) sz) (fun u => (wd_M qM cI cZ cL u))) (va_A (wd_M qM cI cZ cL xM) sz)) 0 0 (va_A (wd_M qM cI cZ cL xM) sz) := by
  refine x_ofV (cc := b_M_report) (maxL := 4) (by decide) rfl (Nat.le_of_ble_eq_true rfl) (fun p e s m below meth c A Q hx hb hml hts hown hin hK hA hP hD hS hret ls hl => ?_)
  have hl : lv_has ls 4 [(0, .ref (qM 0)), (1, .int a1), (2, .int a2)] := hl
  have jn44 : ∀ (xM_ : St) (s0_ : Int32) (s1_ : Int32) (H : Heap) (locs : List Loc) (ls : Array Slot), wj_M_report_44 xM a1 a2 post xM_ s0_ s1_ → va_P (dC, dI) vwCl (wd_M qM cI cZ cL xM_) H → va_D A (wd_M qM cI cZ cL xM_) → va_S A s.heap H locs → lv_has ls 4 [(0, .ref (qM 0)), (1, .int a1), (2, .int a2)] → W p l e (headSpec w_M_report ({ frames := 4, cells := 0, slots := 0, locals := 90 } : Room)).room s m ([.ref (qM 0), .int a1, .int a2] : List Value).toArray below meth c H locs 0 0 Q (F0 m 44 ls [.int s0_, .int s1_, .ref (qM 0)]) := by
    intro xM_ s0_ s1_ H locs ls hw hP hD hS hl
    unfold wj_M_report_44 at hw
    refine lv_iconst (v := (0 : Int32)) hx hb d_M_report_44 (by decide) ?_
    refine lv_iconst (v := (0 : Int32)) hx hb d_M_report_45 (by decide) ?_
    refine x_ci (w2 := fun u46 => (wd_M qM cI cZ cL u46)) [0, 1, 2, 3, 4, 5, 6, 7, 8, 9, 10, 11, 12, 13, 14, 15, 16, 17, 18, 19, 20, 21] [] [0, 1, 2, 3, 4, 5, 6, 7, 8, 9, 10, 11, 12, 13, 14, 15, 16, 17, 18, 19, 20, 21] (va_runV (As := [.int s1_, .int s0_, .int (0 : Int32), .int (0 : Int32)]) (rest := []) ⟨hx, hb, hml, hown, hts⟩ (c_M_throwing l dC dI cI cZ cL qM _ xM_ s1_ s0_ (0 : Int32) (0 : Int32) _ hw) (cwV 4 hts (x_gV k_670 k_672 k_10 k_30 k_673) rfl rfl rfl (by decide +kernel) ⟨Nat.le_of_ble_eq_true rfl, Nat.le_of_ble_eq_true rfl⟩) ⟨x_blind, va_recv hK hP (ci := 4) (q0 := 0) rfl rfl, fun U hU hW => x_pre (isC := [0, 1, 2, 3, 4, 5, 6, 7, 8, 9, 10, 11, 12, 13, 14, 15, 16, 17, 18, 19, 20, 21]) hK hP hD rfl rfl hU hW⟩ rfl rfl hl.1 rfl (lv_room (Nat.le_of_ble_eq_true rfl)) d_M_report_46 ⟨Nat.le_of_ble_eq_true rfl, Nat.le_of_ble_eq_true rfl⟩) hP hD hS hA rfl rfl rfl (by decide) (fun _ => rfl) rfl (fun r46 u46 H locs hw hP hD hS => ?_)
    refine lv_if_eq (tgt := 53) hx hb d_M_report_49 (by decide) (fun c49 => ?_) (fun c49 => ?_)
    · have hw := hw.1 c49
      refine lv_aload_n hx hb d_M_report_53 rfl (lv_at hl 0 rfl) ?_
      refine va_get (D := (dC, dI)) (ci := 4) (v := .ref (qM 20)) (C := "ReleaseRowsModel") (T := T_M) (N := 27) hx hb hts in_M hown hK hP 0 rfl rfl 19 (by decide) (hts _ k_595) (fun _ h9 => h9) rfl d_M_report_54 ?_
      refine lv_iload_n hx hb d_M_report_57 rfl (lv_at hl 1 rfl) ?_
      refine lv_dup2_11 hx hb d_M_report_58 rfl rfl ?_
      obtain ⟨h59, hw⟩ := hw
      refine va_iald hx hb hK hP 15 0 rfl rfl h59 d_M_report_59 ?_
      refine lv_iconst (v := (1 : Int32)) hx hb d_M_report_60 (by decide) ?_
      refine lv_iload_n hx hb d_M_report_61 rfl (lv_at hl 2 rfl) ?_
      refine lv_ishl hx hb d_M_report_62 ?_
      refine lv_ior hx hb d_M_report_63 ?_
      obtain ⟨h64, hw⟩ := hw
      refine va_iast hx hb hK hP hD hS 15 0 rfl rfl h64 d_M_report_64 (fun H locs hP hD hS => ?_)
      have hP := wsP_M_M19 hP
      have hD := wsD_M_M19 hD
      refine lv_aload_n hx hb d_M_report_65 rfl (lv_at hl 0 rfl) ?_
      refine x_ci (w2 := fun u66 => (wd_M qM cI cZ cL u66)) [0, 1, 2, 3, 4, 5, 6, 7, 8, 9, 10, 11, 12, 13, 14, 15, 16, 17, 18, 19, 20, 21] [] [0, 1, 2, 3, 4, 5, 6, 7, 8, 9, 10, 11, 12, 13, 14, 15, 16, 17, 18, 19, 20, 21] (va_runV (As := []) (rest := []) ⟨hx, hb, hml, hown, hts⟩ (c_M_settle l dC dI cI cZ cL qM _ (sA u46 19 a1.toNatClampNeg ((u46.1 19 a1.toNatClampNeg) ||| ((1 : Int32) <<< (a2 &&& 31)))) _ hw) (cwV 0 hts (x_gV k_674 k_676 k_11 k_30 k_677) rfl rfl rfl (by decide +kernel) ⟨Nat.le_of_ble_eq_true rfl, Nat.le_of_ble_eq_true rfl⟩) ⟨x_blind, va_recv hK hP (ci := 4) (q0 := 0) rfl rfl, fun U hU hW => x_pre (isC := [0, 1, 2, 3, 4, 5, 6, 7, 8, 9, 10, 11, 12, 13, 14, 15, 16, 17, 18, 19, 20, 21]) hK hP hD rfl rfl hU hW⟩ rfl rfl hl.1 rfl (lv_room (Nat.le_of_ble_eq_true rfl)) d_M_report_66 ⟨Nat.le_of_ble_eq_true rfl, Nat.le_of_ble_eq_true rfl⟩) hP hD hS hA rfl rfl rfl (by decide) (fun _ => rfl) rfl (fun r66 u66 H locs hw hP hD hS => ?_)
      refine lv_pop hx hb d_M_report_69 rfl ?_
      exact hret u66 _ _ _ _ _ _ hw hP hD hS (Nat.le_of_ble_eq_true rfl) (Nat.le_of_ble_eq_true rfl) d_M_report_70
    · have hw := hw.2 c49
      exact hret u46 _ _ _ _ _ _ hw hP hD hS (Nat.le_of_ble_eq_true rfl) (Nat.le_of_ble_eq_true rfl) d_M_report_52
  have jn43 : ∀ (xM_ : St) (s0_ : Int32) (H : Heap) (locs : List Loc) (ls : Array Slot), wj_M_report_43 xM a1 a2 post xM_ s0_ → va_P (dC, dI) vwCl (wd_M qM cI cZ cL xM_) H → va_D A (wd_M qM cI cZ cL xM_) → va_S A s.heap H locs → lv_has ls 4 [(0, .ref (qM 0)), (1, .int a1), (2, .int a2)] → W p l e (headSpec w_M_report ({ frames := 4, cells := 0, slots := 0, locals := 90 } : Room)).room s m ([.ref (qM 0), .int a1, .int a2] : List Value).toArray below meth c H locs 0 0 Q (F0 m 43 ls [.int s0_, .ref (qM 0)]) := by
    intro xM_ s0_ H locs ls hw hP hD hS hl
    unfold wj_M_report_43 at hw
    refine lv_iconst (v := (0 : Int32)) hx hb d_M_report_43 (by decide) ?_
    exact jn44 xM_ (0 : Int32) s0_ _ _ _ hw hP hD hS hl
  have jn23 : ∀ (xM_ : St) (s0_ : Int32) (H : Heap) (locs : List Loc) (ls : Array Slot), wj_M_report_23 xM a1 a2 post xM_ s0_ → va_P (dC, dI) vwCl (wd_M qM cI cZ cL xM_) H → va_D A (wd_M qM cI cZ cL xM_) → va_S A s.heap H locs → lv_has ls 4 [(0, .ref (qM 0)), (1, .int a1), (2, .int a2)] → W p l e (headSpec w_M_report ({ frames := 4, cells := 0, slots := 0, locals := 90 } : Room)).room s m ([.ref (qM 0), .int a1, .int a2] : List Value).toArray below meth c H locs 0 0 Q (F0 m 23 ls [.int s0_]) := by
    intro xM_ s0_ H locs ls hw hP hD hS hl
    unfold wj_M_report_23 at hw
    refine lv_istore_n (lv' := [(3, .int s0_), (0, .ref (qM 0)), (1, .int a1), (2, .int a2)]) hx hb d_M_report_23 rfl hl (by decide) rfl (fun ls hl => ?_)
    refine lv_aload_n hx hb d_M_report_24 rfl (lv_at hl 1 rfl) ?_
    refine lv_iload_n hx hb d_M_report_25 rfl (lv_at hl 0 rfl) ?_
    refine lv_iload_n hx hb d_M_report_26 rfl (lv_at hl 0 rfl) ?_
    refine lv_if_ne (tgt := 43) hx hb d_M_report_27 (by decide) (fun c27 => ?_) (fun c27 => ?_)
    · have hw := hw.1 c27
      exact jn43 xM_ s0_ _ _ _ hw hP hD hS (lv_sub hl [1, 2, 3] rfl)
    · have hw := hw.2 c27
      refine lv_aload_n hx hb d_M_report_30 rfl (lv_at hl 1 rfl) ?_
      refine va_get (D := (dC, dI)) (ci := 4) (v := .ref (qM 18)) (C := "ReleaseRowsModel") (T := T_M) (N := 27) hx hb hts in_M hown hK hP 0 rfl rfl 17 (by decide) (hts _ k_593) (fun _ h9 => h9) rfl d_M_report_31 ?_
      refine lv_iload_n hx hb d_M_report_34 rfl (lv_at hl 2 rfl) ?_
      obtain ⟨h35, hw⟩ := hw
      refine va_zald hx hb hK hP 13 1 rfl rfl h35 d_M_report_35 ?_
      refine lv_if_ne (tgt := 43) hx hb d_M_report_36 (by decide) (fun c36 => ?_) (fun c36 => ?_)
      · have hw := hw.1 c36
        exact jn43 xM_ s0_ _ _ _ hw hP hD hS (lv_sub hl [1, 2, 3] rfl)
      · have hw := hw.2 c36
        refine lv_iconst (v := (1 : Int32)) hx hb d_M_report_39 (by decide) ?_
        refine lv_goto (tgt := 44) hx hb d_M_report_40 (by decide) ?_
        exact jn44 xM_ (1 : Int32) s0_ _ _ _ hw hP hD hS (lv_sub hl [1, 2, 3] rfl)
  have jn18 : ∀ (xM_ : St) (H : Heap) (locs : List Loc) (ls : Array Slot), wj_M_report_18 xM a1 a2 post xM_ → va_P (dC, dI) vwCl (wd_M qM cI cZ cL xM_) H → va_D A (wd_M qM cI cZ cL xM_) → va_S A s.heap H locs → lv_has ls 4 [(0, .ref (qM 0)), (1, .int a1), (2, .int a2)] → W p l e (headSpec w_M_report ({ frames := 4, cells := 0, slots := 0, locals := 90 } : Room)).room s m ([.ref (qM 0), .int a1, .int a2] : List Value).toArray below meth c H locs 0 0 Q (F0 m 18 ls []) := by
    intro xM_ H locs ls hw hP hD hS hl
    unfold wj_M_report_18 at hw
    refine lv_iconst (v := (1 : Int32)) hx hb d_M_report_18 (by decide) ?_
    refine lv_goto (tgt := 23) hx hb d_M_report_19 (by decide) ?_
    exact jn23 xM_ (1 : Int32) _ _ _ hw hP hD hS hl
  unfold wp_M_report at hw
  refine lv_aload_n hx hb d_M_report_0 rfl (lv_at hl 0 rfl) ?_
  refine lv_iload_n hx hb d_M_report_1 rfl (lv_at hl 1 rfl) ?_
  refine x_ci (w2 := fun _ => (wd_M qM cI cZ cL xM)) [0, 1, 2, 3, 4, 5, 6, 7, 8, 9, 10, 11, 12, 13, 14, 15, 16, 17, 18, 19, 20, 21] [] [0, 1, 2, 3, 4, 5, 6, 7, 8, 9, 10, 11, 12, 13, 14, 15, 16, 17, 18, 19, 20, 21] (va_runV (As := [.int a1]) (rest := []) ⟨hx, hb, hml, hown, hts⟩ (c_M_isIncident l dC dI cI cZ cL qM _ xM a1 _ hw) (cwV 1 hts (x_gV k_744 k_746 k_23 k_30 k_747) rfl rfl rfl (by decide +kernel) ⟨Nat.le_of_ble_eq_true rfl, Nat.le_of_ble_eq_true rfl⟩) ⟨x_blind, va_recv hK hP (ci := 4) (q0 := 0) rfl rfl, fun U hU hW => x_pre (isC := [0, 1, 2, 3, 4, 5, 6, 7, 8, 9, 10, 11, 12, 13, 14, 15, 16, 17, 18, 19, 20, 21]) hK hP hD rfl rfl hU hW⟩ rfl rfl hl.1 rfl (lv_room (Nat.le_of_ble_eq_true rfl)) d_M_report_2 ⟨Nat.le_of_ble_eq_true rfl, Nat.le_of_ble_eq_true rfl⟩) hP hD hS hA rfl rfl rfl (by decide) (fun _ => rfl) rfl (fun r2 _ H locs hw hP hD hS => ?_)
  refine lv_if_eq (tgt := 18) hx hb d_M_report_5 (by decide) (fun c5 => ?_) (fun c5 => ?_)
  · have hw := hw.1 c5
    exact jn18 xM _ _ _ hw hP hD hS hl
  · have hw := hw.2 c5
    refine lv_iload_n hx hb d_M_report_8 rfl (lv_at hl 2 rfl) ?_
    refine lv_iconst (v := (0 : Int32)) hx hb d_M_report_9 (by decide) ?_
    refine lv_bipush (v := (7 : Int32)) hx hb d_M_report_10 (by decide) ?_
    refine x_ci (w2 := fun _ => (wd_M qM cI cZ cL xM)) [] [0, 1, 2, 3, 4, 5, 6, 7, 8, 9, 10, 11, 12, 13, 14, 15, 16, 17, 18, 19, 20, 21] [0, 1, 2, 3, 4, 5, 6, 7, 8, 9, 10, 11, 12, 13, 14, 15, 16, 17, 18, 19, 20, 21] (va_runS (As := [.int a2, .int (0 : Int32), .int (7 : Int32)]) (rest := []) ⟨hx, hb, hml, hown, hts⟩ (c_M_in l dC dI cI cZ cL  _ a2 (0 : Int32) (7 : Int32) _ hw) (cwS 3 hts (x_gS k_667 k_668 k_30 k_669) rfl rfl rfl (by decide +kernel) ⟨Nat.le_of_ble_eq_true rfl, Nat.le_of_ble_eq_true rfl⟩) ⟨x_blind, fun U hU hW => x_pre (isC := []) hK hP hD rfl rfl hU hW⟩ rfl rfl hl.1 rfl (lv_room (Nat.le_of_ble_eq_true rfl)) d_M_report_12 ⟨Nat.le_of_ble_eq_true rfl, Nat.le_of_ble_eq_true rfl⟩) hP hD hS hA rfl rfl rfl (by decide) (fun _ => rfl) rfl (fun r12 _ H locs hw hP hD hS => ?_)
    refine lv_if_ne (tgt := 22) hx hb d_M_report_15 (by decide) (fun c15 => ?_) (fun c15 => ?_)
    · have hw := hw.1 c15
      refine lv_iconst (v := (0 : Int32)) hx hb d_M_report_22 (by decide) ?_
      exact jn23 xM (0 : Int32) _ _ _ hw hP hD hS hl
    · have hw := hw.2 c15
      exact jn18 xM _ _ _ hw hP hD hS hl

def wj_M_watch_29 (xM : St) (a1 : Int32) (a2 : Int32) (post : St → Prop) (xM_ : St) (s0_ : Int32) (s1_ : Int32) : Prop := wp_M_isShut xM_ a1 (fun r31 _ => (wp_M_throwing xM_ s1_ s0_ r31 (0 : Int32) (fun r35 u35 => ((r35 = 0 → (vp_in a1 20 ∧ (wp_M_settle (sA u35 21 a1.toNatClampNeg a2) (fun r50 u50 => (post u50))))) ∧ (¬ r35 = 0 → (post u35))))))
def wj_M_watch_14 (xM : St) (a1 : Int32) (a2 : Int32) (post : St → Prop) (xM_ : St) (s0_ : Int32) : Prop := wp_M_in a2 (-1 : Int32) (999999 : Int32) (fun r18 _ => ((¬ r18 = 0 → (wj_M_watch_29 xM a1 a2 post xM_ (0 : Int32) s0_)) ∧ (r18 = 0 → (wj_M_watch_29 xM a1 a2 post xM_ (1 : Int32) s0_))))
def wp_M_watch (xM : St) (a1 : Int32) (a2 : Int32) (post : St → Prop) : Prop := wp_M_isIncident xM a1 (fun r3 _ => ((¬ r3 = 0 → (wj_M_watch_14 xM a1 a2 post xM (0 : Int32))) ∧ (r3 = 0 → (wj_M_watch_14 xM a1 a2 post xM (1 : Int32)))))
set_option maxHeartbeats 4000000 in
set_option maxRecDepth 100000 in
theorem c_M_watch (l : Launch) (dC : Nat → ClassId) (dI : Nat → Nat → Nat) (cI cZ cL : ClassId) (qM : Nat → Nat) (sz : Nat) (xM : St) (a1 : Int32) (a2 : Int32) (post : St → Prop) (hw : wp_M_watch xM a1 a2 post) : Met l y_M_watch w_M_watch ({ frames := 4, cells := 0, slots := 0, locals := 90 } : Room) (va_Pc [.ref (qM 0), .int a1, .int a2] (xP (dC, dI) vwCl [(cI, .int), (cZ, .boolean), (cL, .long)] (wd_M qM cI cZ cL xM) sz)) (va_Qv post (xB (dC, dI) vwCl [(cI, .int), (cZ, .boolean), (cL, .long)] (va_A (wd_M qM cI cZ cL xM) sz) (fun u => (wd_M qM cI cZ cL u))) (va_A (wd_M qM cI cZ cL xM) sz)) 0 0 (va_A (wd_M qM cI cZ cL xM) sz) := by
  refine x_ofV (cc := b_M_watch) (maxL := 3) (by decide) rfl (Nat.le_of_ble_eq_true rfl) (fun p e s m below meth c A Q hx hb hml hts hown hin hK hA hP hD hS hret ls hl => ?_)
  have hl : lv_has ls 3 [(0, .ref (qM 0)), (1, .int a1), (2, .int a2)] := hl
  have jn29 : ∀ (xM_ : St) (s0_ : Int32) (s1_ : Int32) (H : Heap) (locs : List Loc) (ls : Array Slot), wj_M_watch_29 xM a1 a2 post xM_ s0_ s1_ → va_P (dC, dI) vwCl (wd_M qM cI cZ cL xM_) H → va_D A (wd_M qM cI cZ cL xM_) → va_S A s.heap H locs → lv_has ls 3 [(0, .ref (qM 0)), (1, .int a1), (2, .int a2)] → W p l e (headSpec w_M_watch ({ frames := 4, cells := 0, slots := 0, locals := 90 } : Room)).room s m ([.ref (qM 0), .int a1, .int a2] : List Value).toArray below meth c H locs 0 0 Q (F0 m 29 ls [.int s0_, .int s1_, .ref (qM 0)]) := by
    intro xM_ s0_ s1_ H locs ls hw hP hD hS hl
    unfold wj_M_watch_29 at hw
    refine lv_aload_n hx hb d_M_watch_29 rfl (lv_at hl 0 rfl) ?_
    refine lv_iload_n hx hb d_M_watch_30 rfl (lv_at hl 1 rfl) ?_
    refine x_ci (w2 := fun _ => (wd_M qM cI cZ cL xM_)) [0, 1, 2, 3, 4, 5, 6, 7, 8, 9, 10, 11, 12, 13, 14, 15, 16, 17, 18, 19, 20, 21] [] [0, 1, 2, 3, 4, 5, 6, 7, 8, 9, 10, 11, 12, 13, 14, 15, 16, 17, 18, 19, 20, 21] (va_runV (As := [.int a1]) (rest := [.int s0_, .int s1_, .ref (qM 0)]) ⟨hx, hb, hml, hown, hts⟩ (c_M_isShut l dC dI cI cZ cL qM _ xM_ a1 _ hw) (cwV 1 hts (x_gV k_752 k_754 k_24 k_30 k_755) rfl rfl rfl (by decide +kernel) ⟨Nat.le_of_ble_eq_true rfl, Nat.le_of_ble_eq_true rfl⟩) ⟨x_blind, va_recv hK hP (ci := 4) (q0 := 0) rfl rfl, fun U hU hW => x_pre (isC := [0, 1, 2, 3, 4, 5, 6, 7, 8, 9, 10, 11, 12, 13, 14, 15, 16, 17, 18, 19, 20, 21]) hK hP hD rfl rfl hU hW⟩ rfl rfl hl.1 rfl (lv_room (Nat.le_of_ble_eq_true rfl)) d_M_watch_31 ⟨Nat.le_of_ble_eq_true rfl, Nat.le_of_ble_eq_true rfl⟩) hP hD hS hA rfl rfl rfl (by decide) (fun _ => rfl) rfl (fun r31 _ H locs hw hP hD hS => ?_)
    refine lv_iconst (v := (0 : Int32)) hx hb d_M_watch_34 (by decide) ?_
    refine x_ci (w2 := fun u35 => (wd_M qM cI cZ cL u35)) [0, 1, 2, 3, 4, 5, 6, 7, 8, 9, 10, 11, 12, 13, 14, 15, 16, 17, 18, 19, 20, 21] [] [0, 1, 2, 3, 4, 5, 6, 7, 8, 9, 10, 11, 12, 13, 14, 15, 16, 17, 18, 19, 20, 21] (va_runV (As := [.int s1_, .int s0_, .int r31, .int (0 : Int32)]) (rest := []) ⟨hx, hb, hml, hown, hts⟩ (c_M_throwing l dC dI cI cZ cL qM _ xM_ s1_ s0_ r31 (0 : Int32) _ hw) (cwV 4 hts (x_gV k_670 k_672 k_10 k_30 k_673) rfl rfl rfl (by decide +kernel) ⟨Nat.le_of_ble_eq_true rfl, Nat.le_of_ble_eq_true rfl⟩) ⟨x_blind, va_recv hK hP (ci := 4) (q0 := 0) rfl rfl, fun U hU hW => x_pre (isC := [0, 1, 2, 3, 4, 5, 6, 7, 8, 9, 10, 11, 12, 13, 14, 15, 16, 17, 18, 19, 20, 21]) hK hP hD rfl rfl hU hW⟩ rfl rfl hl.1 rfl (lv_room (Nat.le_of_ble_eq_true rfl)) d_M_watch_35 ⟨Nat.le_of_ble_eq_true rfl, Nat.le_of_ble_eq_true rfl⟩) hP hD hS hA rfl rfl rfl (by decide) (fun _ => rfl) rfl (fun r35 u35 H locs hw hP hD hS => ?_)
    refine lv_if_eq (tgt := 42) hx hb d_M_watch_38 (by decide) (fun c38 => ?_) (fun c38 => ?_)
    · have hw := hw.1 c38
      refine lv_aload_n hx hb d_M_watch_42 rfl (lv_at hl 0 rfl) ?_
      refine va_get (D := (dC, dI)) (ci := 4) (v := .ref (qM 22)) (C := "ReleaseRowsModel") (T := T_M) (N := 27) hx hb hts in_M hown hK hP 0 rfl rfl 21 (by decide) (hts _ k_597) (fun _ h9 => h9) rfl d_M_watch_43 ?_
      refine lv_iload_n hx hb d_M_watch_46 rfl (lv_at hl 1 rfl) ?_
      refine lv_iload_n hx hb d_M_watch_47 rfl (lv_at hl 2 rfl) ?_
      obtain ⟨h48, hw⟩ := hw
      refine va_iast hx hb hK hP hD hS 17 0 rfl rfl h48 d_M_watch_48 (fun H locs hP hD hS => ?_)
      have hP := wsP_M_M21 hP
      have hD := wsD_M_M21 hD
      refine lv_aload_n hx hb d_M_watch_49 rfl (lv_at hl 0 rfl) ?_
      refine x_ci (w2 := fun u50 => (wd_M qM cI cZ cL u50)) [0, 1, 2, 3, 4, 5, 6, 7, 8, 9, 10, 11, 12, 13, 14, 15, 16, 17, 18, 19, 20, 21] [] [0, 1, 2, 3, 4, 5, 6, 7, 8, 9, 10, 11, 12, 13, 14, 15, 16, 17, 18, 19, 20, 21] (va_runV (As := []) (rest := []) ⟨hx, hb, hml, hown, hts⟩ (c_M_settle l dC dI cI cZ cL qM _ (sA u35 21 a1.toNatClampNeg a2) _ hw) (cwV 0 hts (x_gV k_674 k_676 k_11 k_30 k_677) rfl rfl rfl (by decide +kernel) ⟨Nat.le_of_ble_eq_true rfl, Nat.le_of_ble_eq_true rfl⟩) ⟨x_blind, va_recv hK hP (ci := 4) (q0 := 0) rfl rfl, fun U hU hW => x_pre (isC := [0, 1, 2, 3, 4, 5, 6, 7, 8, 9, 10, 11, 12, 13, 14, 15, 16, 17, 18, 19, 20, 21]) hK hP hD rfl rfl hU hW⟩ rfl rfl hl.1 rfl (lv_room (Nat.le_of_ble_eq_true rfl)) d_M_watch_50 ⟨Nat.le_of_ble_eq_true rfl, Nat.le_of_ble_eq_true rfl⟩) hP hD hS hA rfl rfl rfl (by decide) (fun _ => rfl) rfl (fun r50 u50 H locs hw hP hD hS => ?_)
      refine lv_pop hx hb d_M_watch_53 rfl ?_
      exact hret u50 _ _ _ _ _ _ hw hP hD hS (Nat.le_of_ble_eq_true rfl) (Nat.le_of_ble_eq_true rfl) d_M_watch_54
    · have hw := hw.2 c38
      exact hret u35 _ _ _ _ _ _ hw hP hD hS (Nat.le_of_ble_eq_true rfl) (Nat.le_of_ble_eq_true rfl) d_M_watch_41
  have jn14 : ∀ (xM_ : St) (s0_ : Int32) (H : Heap) (locs : List Loc) (ls : Array Slot), wj_M_watch_14 xM a1 a2 post xM_ s0_ → va_P (dC, dI) vwCl (wd_M qM cI cZ cL xM_) H → va_D A (wd_M qM cI cZ cL xM_) → va_S A s.heap H locs → lv_has ls 3 [(0, .ref (qM 0)), (1, .int a1), (2, .int a2)] → W p l e (headSpec w_M_watch ({ frames := 4, cells := 0, slots := 0, locals := 90 } : Room)).room s m ([.ref (qM 0), .int a1, .int a2] : List Value).toArray below meth c H locs 0 0 Q (F0 m 14 ls [.int s0_, .ref (qM 0)]) := by
    intro xM_ s0_ H locs ls hw hP hD hS hl
    unfold wj_M_watch_14 at hw
    refine lv_iload_n hx hb d_M_watch_14 rfl (lv_at hl 2 rfl) ?_
    refine lv_iconst (v := (-1 : Int32)) hx hb d_M_watch_15 (by decide) ?_
    refine lv_ldc (v := (999999 : Int32)) hx hb hown (hts _ k_731) d_M_watch_16 ?_
    refine x_ci (w2 := fun _ => (wd_M qM cI cZ cL xM_)) [] [0, 1, 2, 3, 4, 5, 6, 7, 8, 9, 10, 11, 12, 13, 14, 15, 16, 17, 18, 19, 20, 21] [0, 1, 2, 3, 4, 5, 6, 7, 8, 9, 10, 11, 12, 13, 14, 15, 16, 17, 18, 19, 20, 21] (va_runS (As := [.int a2, .int (-1 : Int32), .int (999999 : Int32)]) (rest := [.int s0_, .ref (qM 0)]) ⟨hx, hb, hml, hown, hts⟩ (c_M_in l dC dI cI cZ cL  _ a2 (-1 : Int32) (999999 : Int32) _ hw) (cwS 3 hts (x_gS k_667 k_668 k_30 k_669) rfl rfl rfl (by decide +kernel) ⟨Nat.le_of_ble_eq_true rfl, Nat.le_of_ble_eq_true rfl⟩) ⟨x_blind, fun U hU hW => x_pre (isC := []) hK hP hD rfl rfl hU hW⟩ rfl rfl hl.1 rfl (lv_room (Nat.le_of_ble_eq_true rfl)) d_M_watch_18 ⟨Nat.le_of_ble_eq_true rfl, Nat.le_of_ble_eq_true rfl⟩) hP hD hS hA rfl rfl rfl (by decide) (fun _ => rfl) rfl (fun r18 _ H locs hw hP hD hS => ?_)
    refine lv_if_ne (tgt := 28) hx hb d_M_watch_21 (by decide) (fun c21 => ?_) (fun c21 => ?_)
    · have hw := hw.1 c21
      refine lv_iconst (v := (0 : Int32)) hx hb d_M_watch_28 (by decide) ?_
      exact jn29 xM_ (0 : Int32) s0_ _ _ _ hw hP hD hS hl
    · have hw := hw.2 c21
      refine lv_iconst (v := (1 : Int32)) hx hb d_M_watch_24 (by decide) ?_
      refine lv_goto (tgt := 29) hx hb d_M_watch_25 (by decide) ?_
      exact jn29 xM_ (1 : Int32) s0_ _ _ _ hw hP hD hS hl
  unfold wp_M_watch at hw
  refine lv_aload_n hx hb d_M_watch_0 rfl (lv_at hl 0 rfl) ?_
  refine lv_aload_n hx hb d_M_watch_1 rfl (lv_at hl 0 rfl) ?_
  refine lv_iload_n hx hb d_M_watch_2 rfl (lv_at hl 1 rfl) ?_
  refine x_ci (w2 := fun _ => (wd_M qM cI cZ cL xM)) [0, 1, 2, 3, 4, 5, 6, 7, 8, 9, 10, 11, 12, 13, 14, 15, 16, 17, 18, 19, 20, 21] [] [0, 1, 2, 3, 4, 5, 6, 7, 8, 9, 10, 11, 12, 13, 14, 15, 16, 17, 18, 19, 20, 21] (va_runV (As := [.int a1]) (rest := [.ref (qM 0)]) ⟨hx, hb, hml, hown, hts⟩ (c_M_isIncident l dC dI cI cZ cL qM _ xM a1 _ hw) (cwV 1 hts (x_gV k_744 k_746 k_23 k_30 k_747) rfl rfl rfl (by decide +kernel) ⟨Nat.le_of_ble_eq_true rfl, Nat.le_of_ble_eq_true rfl⟩) ⟨x_blind, va_recv hK hP (ci := 4) (q0 := 0) rfl rfl, fun U hU hW => x_pre (isC := [0, 1, 2, 3, 4, 5, 6, 7, 8, 9, 10, 11, 12, 13, 14, 15, 16, 17, 18, 19, 20, 21]) hK hP hD rfl rfl hU hW⟩ rfl rfl hl.1 rfl (lv_room (Nat.le_of_ble_eq_true rfl)) d_M_watch_3 ⟨Nat.le_of_ble_eq_true rfl, Nat.le_of_ble_eq_true rfl⟩) hP hD hS hA rfl rfl rfl (by decide) (fun _ => rfl) rfl (fun r3 _ H locs hw hP hD hS => ?_)
  refine lv_if_ne (tgt := 13) hx hb d_M_watch_6 (by decide) (fun c6 => ?_) (fun c6 => ?_)
  · have hw := hw.1 c6
    refine lv_iconst (v := (0 : Int32)) hx hb d_M_watch_13 (by decide) ?_
    exact jn14 xM (0 : Int32) _ _ _ hw hP hD hS hl
  · have hw := hw.2 c6
    refine lv_iconst (v := (1 : Int32)) hx hb d_M_watch_9 (by decide) ?_
    refine lv_goto (tgt := 14) hx hb d_M_watch_10 (by decide) ?_
    exact jn14 xM (1 : Int32) _ _ _ hw hP hD hS hl

def wj_M_unitAt_23 (xM : St) (a1 : Int32) (a2 : Int32) (post : Int32 → St → Prop) (xM_ : St) (s0_ : Int32) : Prop := wp_M_throwing xM_ s0_ (0 : Int32) (0 : Int32) (0 : Int32) (fun r26 u26 => ((r26 = 0 → ((a2 = 0 → (vp_in a1 24 ∧ (post (u26.1 8 a1.toNatClampNeg) u26))) ∧ (¬ a2 = 0 → ((a2 = 1 → (vp_in a1 24 ∧ (post (u26.1 9 a1.toNatClampNeg) u26))) ∧ (¬ a2 = 1 → ((a2 = 2 → (vp_in a1 24 ∧ (post (u26.1 10 a1.toNatClampNeg) u26))) ∧ (¬ a2 = 2 → ((a2 = 3 → (vp_in a1 24 ∧ ((¬ (u26.1 8 a1.toNatClampNeg) = (5 : Int32) → (post (0 : Int32) u26)) ∧ ((u26.1 8 a1.toNatClampNeg) = (5 : Int32) → (vp_in a1 24 ∧ (vp_in a1 24 ∧ (post ((u26.1 7 a1.toNatClampNeg) &&& ((u26.1 11 a1.toNatClampNeg) ^^^ (-1 : Int32))) u26))))))) ∧ (¬ a2 = 3 → (vp_in a1 24 ∧ (post (u26.1 12 a1.toNatClampNeg) u26))))))))))) ∧ (¬ r26 = 0 → (post (0 : Int32) u26))))
def wj_M_unitAt_18 (xM : St) (a1 : Int32) (a2 : Int32) (post : Int32 → St → Prop) (xM_ : St) : Prop := wj_M_unitAt_23 xM a1 a2 post xM_ (1 : Int32)
def wp_M_unitAt (xM : St) (a1 : Int32) (a2 : Int32) (post : Int32 → St → Prop) : Prop := wp_M_isUnit xM a1 (fun r3 _ => ((r3 = 0 → (wj_M_unitAt_18 xM a1 a2 post xM)) ∧ (¬ r3 = 0 → (wp_M_in a2 (0 : Int32) (4 : Int32) (fun r12 _ => ((¬ r12 = 0 → (wj_M_unitAt_23 xM a1 a2 post xM (0 : Int32))) ∧ (r12 = 0 → (wj_M_unitAt_18 xM a1 a2 post xM))))))))
set_option maxHeartbeats 4000000 in
set_option maxRecDepth 100000 in
theorem c_M_unitAt (l : Launch) (dC : Nat → ClassId) (dI : Nat → Nat → Nat) (cI cZ cL : ClassId) (qM : Nat → Nat) (sz : Nat) (xM : St) (a1 : Int32) (a2 : Int32) (post : Int32 → St → Prop) (hw : wp_M_unitAt xM a1 a2 post) : Met l y_M_unitAt w_M_unitAt ({ frames := 2, cells := 0, slots := 0, locals := 43 } : Room) (va_Pc [.ref (qM 0), .int a1, .int a2] (xP (dC, dI) vwCl [(cI, .int), (cZ, .boolean), (cL, .long)] (wd_M qM cI cZ cL xM) sz)) (va_Qi post (xB (dC, dI) vwCl [(cI, .int), (cZ, .boolean), (cL, .long)] (va_A (wd_M qM cI cZ cL xM) sz) (fun u => (wd_M qM cI cZ cL u))) (va_A (wd_M qM cI cZ cL xM) sz)) 0 0 (va_A (wd_M qM cI cZ cL xM) sz) := by
  refine x_ofI (cc := b_M_unitAt) (maxL := 3) (by decide) rfl (Nat.le_of_ble_eq_true rfl) (fun p e s m below meth c A Q hx hb hml hts hown hK hA hP hD hS hret ls hl => ?_)
  have hl : lv_has ls 3 [(0, .ref (qM 0)), (1, .int a1), (2, .int a2)] := hl
  have jn23 : ∀ (xM_ : St) (s0_ : Int32) (H : Heap) (locs : List Loc) (ls : Array Slot), wj_M_unitAt_23 xM a1 a2 post xM_ s0_ → va_P (dC, dI) vwCl (wd_M qM cI cZ cL xM_) H → va_D A (wd_M qM cI cZ cL xM_) → va_S A s.heap H locs → lv_has ls 3 [(0, .ref (qM 0)), (1, .int a1), (2, .int a2)] → W p l e (headSpec w_M_unitAt ({ frames := 2, cells := 0, slots := 0, locals := 43 } : Room)).room s m ([.ref (qM 0), .int a1, .int a2] : List Value).toArray below meth c H locs 0 0 Q (F0 m 23 ls [.int s0_, .ref (qM 0)]) := by
    intro xM_ s0_ H locs ls hw hP hD hS hl
    unfold wj_M_unitAt_23 at hw
    refine lv_iconst (v := (0 : Int32)) hx hb d_M_unitAt_23 (by decide) ?_
    refine lv_iconst (v := (0 : Int32)) hx hb d_M_unitAt_24 (by decide) ?_
    refine lv_iconst (v := (0 : Int32)) hx hb d_M_unitAt_25 (by decide) ?_
    refine x_ci (w2 := fun u26 => (wd_M qM cI cZ cL u26)) [0, 1, 2, 3, 4, 5, 6, 7, 8, 9, 10, 11, 12, 13, 14, 15, 16, 17, 18, 19, 20, 21] [] [0, 1, 2, 3, 4, 5, 6, 7, 8, 9, 10, 11, 12, 13, 14, 15, 16, 17, 18, 19, 20, 21] (va_runV (As := [.int s0_, .int (0 : Int32), .int (0 : Int32), .int (0 : Int32)]) (rest := []) ⟨hx, hb, hml, hown, hts⟩ (c_M_throwing l dC dI cI cZ cL qM _ xM_ s0_ (0 : Int32) (0 : Int32) (0 : Int32) _ hw) (cwV 4 hts (x_gV k_670 k_672 k_10 k_30 k_673) rfl rfl rfl (by decide +kernel) ⟨Nat.le_of_ble_eq_true rfl, Nat.le_of_ble_eq_true rfl⟩) ⟨x_blind, va_recv hK hP (ci := 4) (q0 := 0) rfl rfl, fun U hU hW => x_pre (isC := [0, 1, 2, 3, 4, 5, 6, 7, 8, 9, 10, 11, 12, 13, 14, 15, 16, 17, 18, 19, 20, 21]) hK hP hD rfl rfl hU hW⟩ rfl rfl hl.1 rfl (lv_room (Nat.le_of_ble_eq_true rfl)) d_M_unitAt_26 ⟨Nat.le_of_ble_eq_true rfl, Nat.le_of_ble_eq_true rfl⟩) hP hD hS hA rfl rfl rfl (by decide) (fun _ => rfl) rfl (fun r26 u26 H locs hw hP hD hS => ?_)
    refine lv_if_eq (tgt := 34) hx hb d_M_unitAt_29 (by decide) (fun c29 => ?_) (fun c29 => ?_)
    · have hw := hw.1 c29
      refine lv_iload_n hx hb d_M_unitAt_34 rfl (lv_at hl 2 rfl) ?_
      by_cases c35_0 : a2 = 0
      · have hw := hw.1 c35_0
        refine lv_tableIn (off := 29) (tgt := 64) hx hb d_M_unitAt_35 (by rw [c35_0]; decide) (by rw [c35_0]; decide) (by rw [c35_0]; decide) (by decide) ?_
        refine lv_aload_n hx hb d_M_unitAt_64 rfl (lv_at hl 0 rfl) ?_
        refine va_get (D := (dC, dI)) (ci := 4) (v := .ref (qM 9)) (C := "ReleaseRowsModel") (T := T_M) (N := 27) hx hb hts in_M hown hK hP 0 rfl rfl 8 (by decide) (hts _ k_584) (fun _ h9 => h9) rfl d_M_unitAt_65 ?_
        refine lv_iload_n hx hb d_M_unitAt_68 rfl (lv_at hl 1 rfl) ?_
        obtain ⟨h69, hw⟩ := hw
        refine va_iald hx hb hK hP 5 0 rfl rfl h69 d_M_unitAt_69 ?_
        exact hret (u26.1 8 a1.toNatClampNeg) u26 _ _ _ _ _ _ rfl hw hP hD hS (Nat.le_of_ble_eq_true rfl) (Nat.le_of_ble_eq_true rfl) d_M_unitAt_70
      · have hw := hw.2 c35_0
        by_cases c35_1 : a2 = 1
        · have hw := hw.1 c35_1
          refine lv_tableIn (off := 36) (tgt := 71) hx hb d_M_unitAt_35 (by rw [c35_1]; decide) (by rw [c35_1]; decide) (by rw [c35_1]; decide) (by decide) ?_
          refine lv_aload_n hx hb d_M_unitAt_71 rfl (lv_at hl 0 rfl) ?_
          refine va_get (D := (dC, dI)) (ci := 4) (v := .ref (qM 10)) (C := "ReleaseRowsModel") (T := T_M) (N := 27) hx hb hts in_M hown hK hP 0 rfl rfl 9 (by decide) (hts _ k_585) (fun _ h9 => h9) rfl d_M_unitAt_72 ?_
          refine lv_iload_n hx hb d_M_unitAt_75 rfl (lv_at hl 1 rfl) ?_
          obtain ⟨h76, hw⟩ := hw
          refine va_iald hx hb hK hP 6 0 rfl rfl h76 d_M_unitAt_76 ?_
          exact hret (u26.1 9 a1.toNatClampNeg) u26 _ _ _ _ _ _ rfl hw hP hD hS (Nat.le_of_ble_eq_true rfl) (Nat.le_of_ble_eq_true rfl) d_M_unitAt_77
        · have hw := hw.2 c35_1
          by_cases c35_2 : a2 = 2
          · have hw := hw.1 c35_2
            refine lv_tableIn (off := 43) (tgt := 78) hx hb d_M_unitAt_35 (by rw [c35_2]; decide) (by rw [c35_2]; decide) (by rw [c35_2]; decide) (by decide) ?_
            refine lv_aload_n hx hb d_M_unitAt_78 rfl (lv_at hl 0 rfl) ?_
            refine va_get (D := (dC, dI)) (ci := 4) (v := .ref (qM 11)) (C := "ReleaseRowsModel") (T := T_M) (N := 27) hx hb hts in_M hown hK hP 0 rfl rfl 10 (by decide) (hts _ k_586) (fun _ h9 => h9) rfl d_M_unitAt_79 ?_
            refine lv_iload_n hx hb d_M_unitAt_82 rfl (lv_at hl 1 rfl) ?_
            obtain ⟨h83, hw⟩ := hw
            refine va_iald hx hb hK hP 7 0 rfl rfl h83 d_M_unitAt_83 ?_
            exact hret (u26.1 10 a1.toNatClampNeg) u26 _ _ _ _ _ _ rfl hw hP hD hS (Nat.le_of_ble_eq_true rfl) (Nat.le_of_ble_eq_true rfl) d_M_unitAt_84
          · have hw := hw.2 c35_2
            by_cases c35_3 : a2 = 3
            · have hw := hw.1 c35_3
              refine lv_tableIn (off := 50) (tgt := 85) hx hb d_M_unitAt_35 (by rw [c35_3]; decide) (by rw [c35_3]; decide) (by rw [c35_3]; decide) (by decide) ?_
              refine lv_aload_n hx hb d_M_unitAt_85 rfl (lv_at hl 0 rfl) ?_
              refine va_get (D := (dC, dI)) (ci := 4) (v := .ref (qM 9)) (C := "ReleaseRowsModel") (T := T_M) (N := 27) hx hb hts in_M hown hK hP 0 rfl rfl 8 (by decide) (hts _ k_584) (fun _ h9 => h9) rfl d_M_unitAt_86 ?_
              refine lv_iload_n hx hb d_M_unitAt_89 rfl (lv_at hl 1 rfl) ?_
              obtain ⟨h90, hw⟩ := hw
              refine va_iald hx hb hK hP 5 0 rfl rfl h90 d_M_unitAt_90 ?_
              refine lv_iconst (v := (5 : Int32)) hx hb d_M_unitAt_91 (by decide) ?_
              refine lv_icmp_ne (tgt := 113) hx hb d_M_unitAt_92 (by decide) (fun c92 => ?_) (fun c92 => ?_)
              · have hw := hw.1 c92
                refine lv_iconst (v := (0 : Int32)) hx hb d_M_unitAt_113 (by decide) ?_
                exact hret (0 : Int32) u26 _ _ _ _ _ _ rfl hw hP hD hS (Nat.le_of_ble_eq_true rfl) (Nat.le_of_ble_eq_true rfl) d_M_unitAt_114
              · have hw := hw.2 c92
                refine lv_aload_n hx hb d_M_unitAt_95 rfl (lv_at hl 0 rfl) ?_
                refine va_get (D := (dC, dI)) (ci := 4) (v := .ref (qM 8)) (C := "ReleaseRowsModel") (T := T_M) (N := 27) hx hb hts in_M hown hK hP 0 rfl rfl 7 (by decide) (hts _ k_583) (fun _ h9 => h9) rfl d_M_unitAt_96 ?_
                refine lv_iload_n hx hb d_M_unitAt_99 rfl (lv_at hl 1 rfl) ?_
                obtain ⟨h100, hw⟩ := hw
                refine va_iald hx hb hK hP 4 0 rfl rfl h100 d_M_unitAt_100 ?_
                refine lv_aload_n hx hb d_M_unitAt_101 rfl (lv_at hl 0 rfl) ?_
                refine va_get (D := (dC, dI)) (ci := 4) (v := .ref (qM 12)) (C := "ReleaseRowsModel") (T := T_M) (N := 27) hx hb hts in_M hown hK hP 0 rfl rfl 11 (by decide) (hts _ k_587) (fun _ h9 => h9) rfl d_M_unitAt_102 ?_
                refine lv_iload_n hx hb d_M_unitAt_105 rfl (lv_at hl 1 rfl) ?_
                obtain ⟨h106, hw⟩ := hw
                refine va_iald hx hb hK hP 8 0 rfl rfl h106 d_M_unitAt_106 ?_
                refine lv_iconst (v := (-1 : Int32)) hx hb d_M_unitAt_107 (by decide) ?_
                refine lv_ixor hx hb d_M_unitAt_108 ?_
                refine lv_iand hx hb d_M_unitAt_109 ?_
                refine lv_goto (tgt := 114) hx hb d_M_unitAt_110 (by decide) ?_
                exact hret ((u26.1 7 a1.toNatClampNeg) &&& ((u26.1 11 a1.toNatClampNeg) ^^^ (-1 : Int32))) u26 _ _ _ _ _ _ rfl hw hP hD hS (Nat.le_of_ble_eq_true rfl) (Nat.le_of_ble_eq_true rfl) d_M_unitAt_114
            · have hw := hw.2 c35_3
              refine lv_tableOut (tgt := 115) hx hb d_M_unitAt_35 (by have z0 := lv_neT (a := 0) c35_0 (by decide); have z1 := lv_neT (a := 1) c35_1 (by decide); have z2 := lv_neT (a := 2) c35_2 (by decide); have z3 := lv_neT (a := 3) c35_3 (by decide); omega) (by decide) ?_
              refine lv_aload_n hx hb d_M_unitAt_115 rfl (lv_at hl 0 rfl) ?_
              refine va_get (D := (dC, dI)) (ci := 4) (v := .ref (qM 13)) (C := "ReleaseRowsModel") (T := T_M) (N := 27) hx hb hts in_M hown hK hP 0 rfl rfl 12 (by decide) (hts _ k_588) (fun _ h9 => h9) rfl d_M_unitAt_116 ?_
              refine lv_iload_n hx hb d_M_unitAt_119 rfl (lv_at hl 1 rfl) ?_
              obtain ⟨h120, hw⟩ := hw
              refine va_iald hx hb hK hP 9 0 rfl rfl h120 d_M_unitAt_120 ?_
              exact hret (u26.1 12 a1.toNatClampNeg) u26 _ _ _ _ _ _ rfl hw hP hD hS (Nat.le_of_ble_eq_true rfl) (Nat.le_of_ble_eq_true rfl) d_M_unitAt_121
    · have hw := hw.2 c29
      refine lv_iconst (v := (0 : Int32)) hx hb d_M_unitAt_32 (by decide) ?_
      exact hret (0 : Int32) u26 _ _ _ _ _ _ rfl hw hP hD hS (Nat.le_of_ble_eq_true rfl) (Nat.le_of_ble_eq_true rfl) d_M_unitAt_33
  have jn18 : ∀ (xM_ : St) (H : Heap) (locs : List Loc) (ls : Array Slot), wj_M_unitAt_18 xM a1 a2 post xM_ → va_P (dC, dI) vwCl (wd_M qM cI cZ cL xM_) H → va_D A (wd_M qM cI cZ cL xM_) → va_S A s.heap H locs → lv_has ls 3 [(0, .ref (qM 0)), (1, .int a1), (2, .int a2)] → W p l e (headSpec w_M_unitAt ({ frames := 2, cells := 0, slots := 0, locals := 43 } : Room)).room s m ([.ref (qM 0), .int a1, .int a2] : List Value).toArray below meth c H locs 0 0 Q (F0 m 18 ls [.ref (qM 0)]) := by
    intro xM_ H locs ls hw hP hD hS hl
    unfold wj_M_unitAt_18 at hw
    refine lv_iconst (v := (1 : Int32)) hx hb d_M_unitAt_18 (by decide) ?_
    refine lv_goto (tgt := 23) hx hb d_M_unitAt_19 (by decide) ?_
    exact jn23 xM_ (1 : Int32) _ _ _ hw hP hD hS hl
  unfold wp_M_unitAt at hw
  refine lv_aload_n hx hb d_M_unitAt_0 rfl (lv_at hl 0 rfl) ?_
  refine lv_aload_n hx hb d_M_unitAt_1 rfl (lv_at hl 0 rfl) ?_
  refine lv_iload_n hx hb d_M_unitAt_2 rfl (lv_at hl 1 rfl) ?_
  refine x_ci (w2 := fun _ => (wd_M qM cI cZ cL xM)) [0, 1, 2, 3, 4, 5, 6, 7, 8, 9, 10, 11, 12, 13, 14, 15, 16, 17, 18, 19, 20, 21] [] [0, 1, 2, 3, 4, 5, 6, 7, 8, 9, 10, 11, 12, 13, 14, 15, 16, 17, 18, 19, 20, 21] (va_runV (As := [.int a1]) (rest := [.ref (qM 0)]) ⟨hx, hb, hml, hown, hts⟩ (c_M_isUnit l dC dI cI cZ cL qM _ xM a1 _ hw) (cwV 1 hts (x_gV k_718 k_720 k_21 k_30 k_721) rfl rfl rfl (by decide +kernel) ⟨Nat.le_of_ble_eq_true rfl, Nat.le_of_ble_eq_true rfl⟩) ⟨x_blind, va_recv hK hP (ci := 4) (q0 := 0) rfl rfl, fun U hU hW => x_pre (isC := [0, 1, 2, 3, 4, 5, 6, 7, 8, 9, 10, 11, 12, 13, 14, 15, 16, 17, 18, 19, 20, 21]) hK hP hD rfl rfl hU hW⟩ rfl rfl hl.1 rfl (lv_room (Nat.le_of_ble_eq_true rfl)) d_M_unitAt_3 ⟨Nat.le_of_ble_eq_true rfl, Nat.le_of_ble_eq_true rfl⟩) hP hD hS hA rfl rfl rfl (by decide) (fun _ => rfl) rfl (fun r3 _ H locs hw hP hD hS => ?_)
  refine lv_if_eq (tgt := 18) hx hb d_M_unitAt_6 (by decide) (fun c6 => ?_) (fun c6 => ?_)
  · have hw := hw.1 c6
    exact jn18 xM _ _ _ hw hP hD hS hl
  · have hw := hw.2 c6
    refine lv_iload_n hx hb d_M_unitAt_9 rfl (lv_at hl 2 rfl) ?_
    refine lv_iconst (v := (0 : Int32)) hx hb d_M_unitAt_10 (by decide) ?_
    refine lv_iconst (v := (4 : Int32)) hx hb d_M_unitAt_11 (by decide) ?_
    refine x_ci (w2 := fun _ => (wd_M qM cI cZ cL xM)) [] [0, 1, 2, 3, 4, 5, 6, 7, 8, 9, 10, 11, 12, 13, 14, 15, 16, 17, 18, 19, 20, 21] [0, 1, 2, 3, 4, 5, 6, 7, 8, 9, 10, 11, 12, 13, 14, 15, 16, 17, 18, 19, 20, 21] (va_runS (As := [.int a2, .int (0 : Int32), .int (4 : Int32)]) (rest := [.ref (qM 0)]) ⟨hx, hb, hml, hown, hts⟩ (c_M_in l dC dI cI cZ cL  _ a2 (0 : Int32) (4 : Int32) _ hw) (cwS 3 hts (x_gS k_667 k_668 k_30 k_669) rfl rfl rfl (by decide +kernel) ⟨Nat.le_of_ble_eq_true rfl, Nat.le_of_ble_eq_true rfl⟩) ⟨x_blind, fun U hU hW => x_pre (isC := []) hK hP hD rfl rfl hU hW⟩ rfl rfl hl.1 rfl (lv_room (Nat.le_of_ble_eq_true rfl)) d_M_unitAt_12 ⟨Nat.le_of_ble_eq_true rfl, Nat.le_of_ble_eq_true rfl⟩) hP hD hS hA rfl rfl rfl (by decide) (fun _ => rfl) rfl (fun r12 _ H locs hw hP hD hS => ?_)
    refine lv_if_ne (tgt := 22) hx hb d_M_unitAt_15 (by decide) (fun c15 => ?_) (fun c15 => ?_)
    · have hw := hw.1 c15
      refine lv_iconst (v := (0 : Int32)) hx hb d_M_unitAt_22 (by decide) ?_
      exact jn23 xM (0 : Int32) _ _ _ hw hP hD hS hl
    · have hw := hw.2 c15
      exact jn18 xM _ _ _ hw hP hD hS hl

def wj_M_incidentAt_170 (xM : St) (a1 : Int32) (a2 : Int32) (post : Int32 → St → Prop) (xM_ : St) : Prop := post (0 : Int32) xM_
def wj_M_incidentAt_24 (xM : St) (a1 : Int32) (a2 : Int32) (post : Int32 → St → Prop) (xM_ : St) (s0_ : Int32) : Prop := wp_M_throwing xM_ s0_ (0 : Int32) (0 : Int32) (0 : Int32) (fun r27 u27 => ((r27 = 0 → ((a2 = 0 → (vp_in a1 20 ∧ (((u27.1 17 a1.toNatClampNeg) = 0 → (post (0 : Int32) u27)) ∧ (¬ (u27.1 17 a1.toNatClampNeg) = 0 → (post (1 : Int32) u27))))) ∧ (¬ a2 = 0 → ((a2 = 1 → (wp_M_there u27 a1 (fun r97 _ => (post r97 u27)))) ∧ (¬ a2 = 1 → ((a2 = 2 → (wp_M_waitingFor u27 a1 (fun r103 _ => (post r103 u27)))) ∧ (¬ a2 = 2 → ((a2 = 3 → (vp_in a1 20 ∧ (post (u27.1 22 a1.toNatClampNeg) u27))) ∧ (¬ a2 = 3 → ((a2 = 4 → (vp_in a1 20 ∧ (post (u27.1 23 a1.toNatClampNeg) u27))) ∧ (¬ a2 = 4 → ((a2 = 5 → (vp_in a1 20 ∧ (post (u27.1 24 a1.toNatClampNeg) u27))) ∧ (¬ a2 = 5 → ((a2 = 6 → (vp_in a1 20 ∧ (post (u27.1 19 a1.toNatClampNeg) u27))) ∧ (¬ a2 = 6 → (vp_in a1 20 ∧ (((u27.1 17 a1.toNatClampNeg) = 0 → (wj_M_incidentAt_170 xM a1 a2 post u27)) ∧ (¬ (u27.1 17 a1.toNatClampNeg) = 0 → (vp_in a1 20 ∧ (((u27.1 21 a1.toNatClampNeg) < 0 → (wj_M_incidentAt_170 xM a1 a2 post u27)) ∧ (¬ (u27.1 21 a1.toNatClampNeg) < 0 → (vp_in a1 20 ∧ (((u27.2 1) < (u27.1 21 a1.toNatClampNeg) → (wj_M_incidentAt_170 xM a1 a2 post u27)) ∧ (¬ (u27.2 1) < (u27.1 21 a1.toNatClampNeg) → (post (1 : Int32) u27))))))))))))))))))))))))) ∧ (¬ r27 = 0 → (post (0 : Int32) u27))))
def wj_M_incidentAt_19 (xM : St) (a1 : Int32) (a2 : Int32) (post : Int32 → St → Prop) (xM_ : St) : Prop := wj_M_incidentAt_24 xM a1 a2 post xM_ (1 : Int32)
def wp_M_incidentAt (xM : St) (a1 : Int32) (a2 : Int32) (post : Int32 → St → Prop) : Prop := wp_M_isIncident xM a1 (fun r3 _ => ((r3 = 0 → (wj_M_incidentAt_19 xM a1 a2 post xM)) ∧ (¬ r3 = 0 → (wp_M_in a2 (0 : Int32) (7 : Int32) (fun r13 _ => ((¬ r13 = 0 → (wj_M_incidentAt_24 xM a1 a2 post xM (0 : Int32))) ∧ (r13 = 0 → (wj_M_incidentAt_19 xM a1 a2 post xM))))))))
set_option maxHeartbeats 4000000 in
set_option maxRecDepth 100000 in
theorem c_M_incidentAt (l : Launch) (dC : Nat → ClassId) (dI : Nat → Nat → Nat) (cI cZ cL : ClassId) (qM : Nat → Nat) (sz : Nat) (xM : St) (a1 : Int32) (a2 : Int32) (post : Int32 → St → Prop) (hw : wp_M_incidentAt xM a1 a2 post) : Met l y_M_incidentAt w_M_incidentAt ({ frames := 2, cells := 0, slots := 0, locals := 43 } : Room) (va_Pc [.ref (qM 0), .int a1, .int a2] (xP (dC, dI) vwCl [(cI, .int), (cZ, .boolean), (cL, .long)] (wd_M qM cI cZ cL xM) sz)) (va_Qi post (xB (dC, dI) vwCl [(cI, .int), (cZ, .boolean), (cL, .long)] (va_A (wd_M qM cI cZ cL xM) sz) (fun u => (wd_M qM cI cZ cL u))) (va_A (wd_M qM cI cZ cL xM) sz)) 0 0 (va_A (wd_M qM cI cZ cL xM) sz) := by
  refine x_ofI (cc := b_M_incidentAt) (maxL := 3) (by decide) rfl (Nat.le_of_ble_eq_true rfl) (fun p e s m below meth c A Q hx hb hml hts hown hK hA hP hD hS hret ls hl => ?_)
  have hl : lv_has ls 3 [(0, .ref (qM 0)), (1, .int a1), (2, .int a2)] := hl
  have jn170 : ∀ (xM_ : St) (H : Heap) (locs : List Loc) (ls : Array Slot), wj_M_incidentAt_170 xM a1 a2 post xM_ → va_P (dC, dI) vwCl (wd_M qM cI cZ cL xM_) H → va_D A (wd_M qM cI cZ cL xM_) → va_S A s.heap H locs → lv_has ls 3 [] → W p l e (headSpec w_M_incidentAt ({ frames := 2, cells := 0, slots := 0, locals := 43 } : Room)).room s m ([.ref (qM 0), .int a1, .int a2] : List Value).toArray below meth c H locs 0 0 Q (F0 m 170 ls []) := by
    intro xM_ H locs ls hw hP hD hS hl
    unfold wj_M_incidentAt_170 at hw
    refine lv_iconst (v := (0 : Int32)) hx hb d_M_incidentAt_170 (by decide) ?_
    exact hret (0 : Int32) xM_ _ _ _ _ _ _ rfl hw hP hD hS (Nat.le_of_ble_eq_true rfl) (Nat.le_of_ble_eq_true rfl) d_M_incidentAt_171
  have jn24 : ∀ (xM_ : St) (s0_ : Int32) (H : Heap) (locs : List Loc) (ls : Array Slot), wj_M_incidentAt_24 xM a1 a2 post xM_ s0_ → va_P (dC, dI) vwCl (wd_M qM cI cZ cL xM_) H → va_D A (wd_M qM cI cZ cL xM_) → va_S A s.heap H locs → lv_has ls 3 [(0, .ref (qM 0)), (1, .int a1), (2, .int a2)] → W p l e (headSpec w_M_incidentAt ({ frames := 2, cells := 0, slots := 0, locals := 43 } : Room)).room s m ([.ref (qM 0), .int a1, .int a2] : List Value).toArray below meth c H locs 0 0 Q (F0 m 24 ls [.int s0_, .ref (qM 0)]) := by
    intro xM_ s0_ H locs ls hw hP hD hS hl
    unfold wj_M_incidentAt_24 at hw
    refine lv_iconst (v := (0 : Int32)) hx hb d_M_incidentAt_24 (by decide) ?_
    refine lv_iconst (v := (0 : Int32)) hx hb d_M_incidentAt_25 (by decide) ?_
    refine lv_iconst (v := (0 : Int32)) hx hb d_M_incidentAt_26 (by decide) ?_
    refine x_ci (w2 := fun u27 => (wd_M qM cI cZ cL u27)) [0, 1, 2, 3, 4, 5, 6, 7, 8, 9, 10, 11, 12, 13, 14, 15, 16, 17, 18, 19, 20, 21] [] [0, 1, 2, 3, 4, 5, 6, 7, 8, 9, 10, 11, 12, 13, 14, 15, 16, 17, 18, 19, 20, 21] (va_runV (As := [.int s0_, .int (0 : Int32), .int (0 : Int32), .int (0 : Int32)]) (rest := []) ⟨hx, hb, hml, hown, hts⟩ (c_M_throwing l dC dI cI cZ cL qM _ xM_ s0_ (0 : Int32) (0 : Int32) (0 : Int32) _ hw) (cwV 4 hts (x_gV k_670 k_672 k_10 k_30 k_673) rfl rfl rfl (by decide +kernel) ⟨Nat.le_of_ble_eq_true rfl, Nat.le_of_ble_eq_true rfl⟩) ⟨x_blind, va_recv hK hP (ci := 4) (q0 := 0) rfl rfl, fun U hU hW => x_pre (isC := [0, 1, 2, 3, 4, 5, 6, 7, 8, 9, 10, 11, 12, 13, 14, 15, 16, 17, 18, 19, 20, 21]) hK hP hD rfl rfl hU hW⟩ rfl rfl hl.1 rfl (lv_room (Nat.le_of_ble_eq_true rfl)) d_M_incidentAt_27 ⟨Nat.le_of_ble_eq_true rfl, Nat.le_of_ble_eq_true rfl⟩) hP hD hS hA rfl rfl rfl (by decide) (fun _ => rfl) rfl (fun r27 u27 H locs hw hP hD hS => ?_)
    refine lv_if_eq (tgt := 35) hx hb d_M_incidentAt_30 (by decide) (fun c30 => ?_) (fun c30 => ?_)
    · have hw := hw.1 c30
      refine lv_iload_n hx hb d_M_incidentAt_35 rfl (lv_at hl 2 rfl) ?_
      by_cases c36_0 : a2 = 0
      · have hw := hw.1 c36_0
        refine lv_tableIn (off := 44) (tgt := 80) hx hb d_M_incidentAt_36 (by rw [c36_0]; decide) (by rw [c36_0]; decide) (by rw [c36_0]; decide) (by decide) ?_
        refine lv_aload_n hx hb d_M_incidentAt_80 rfl (lv_at hl 0 rfl) ?_
        refine va_get (D := (dC, dI)) (ci := 4) (v := .ref (qM 18)) (C := "ReleaseRowsModel") (T := T_M) (N := 27) hx hb hts in_M hown hK hP 0 rfl rfl 17 (by decide) (hts _ k_593) (fun _ h9 => h9) rfl d_M_incidentAt_81 ?_
        refine lv_iload_n hx hb d_M_incidentAt_84 rfl (lv_at hl 1 rfl) ?_
        obtain ⟨h85, hw⟩ := hw
        refine va_zald hx hb hK hP 13 1 rfl rfl h85 d_M_incidentAt_85 ?_
        refine lv_if_eq (tgt := 93) hx hb d_M_incidentAt_86 (by decide) (fun c86 => ?_) (fun c86 => ?_)
        · have hw := hw.1 c86
          refine lv_iconst (v := (0 : Int32)) hx hb d_M_incidentAt_93 (by decide) ?_
          exact hret (0 : Int32) u27 _ _ _ _ _ _ rfl hw hP hD hS (Nat.le_of_ble_eq_true rfl) (Nat.le_of_ble_eq_true rfl) d_M_incidentAt_94
        · have hw := hw.2 c86
          refine lv_iconst (v := (1 : Int32)) hx hb d_M_incidentAt_89 (by decide) ?_
          refine lv_goto (tgt := 94) hx hb d_M_incidentAt_90 (by decide) ?_
          exact hret (1 : Int32) u27 _ _ _ _ _ _ rfl hw hP hD hS (Nat.le_of_ble_eq_true rfl) (Nat.le_of_ble_eq_true rfl) d_M_incidentAt_94
      · have hw := hw.2 c36_0
        by_cases c36_1 : a2 = 1
        · have hw := hw.1 c36_1
          refine lv_tableIn (off := 59) (tgt := 95) hx hb d_M_incidentAt_36 (by rw [c36_1]; decide) (by rw [c36_1]; decide) (by rw [c36_1]; decide) (by decide) ?_
          refine lv_aload_n hx hb d_M_incidentAt_95 rfl (lv_at hl 0 rfl) ?_
          refine lv_iload_n hx hb d_M_incidentAt_96 rfl (lv_at hl 1 rfl) ?_
          refine x_ci (w2 := fun _ => (wd_M qM cI cZ cL u27)) [0, 1, 2, 3, 4, 5, 6, 7, 8, 9, 10, 11, 12, 13, 14, 15, 16, 17, 18, 19, 20, 21] [] [0, 1, 2, 3, 4, 5, 6, 7, 8, 9, 10, 11, 12, 13, 14, 15, 16, 17, 18, 19, 20, 21] (va_runV (As := [.int a1]) (rest := []) ⟨hx, hb, hml, hown, hts⟩ (c_M_there l dC dI cI cZ cL qM _ u27 a1 _ hw) (cwV 1 hts (x_gV k_706 k_708 k_19 k_30 k_709) rfl rfl rfl (by decide +kernel) ⟨Nat.le_of_ble_eq_true rfl, Nat.le_of_ble_eq_true rfl⟩) ⟨x_blind, va_recv hK hP (ci := 4) (q0 := 0) rfl rfl, fun U hU hW => x_pre (isC := [0, 1, 2, 3, 4, 5, 6, 7, 8, 9, 10, 11, 12, 13, 14, 15, 16, 17, 18, 19, 20, 21]) hK hP hD rfl rfl hU hW⟩ rfl rfl hl.1 rfl (lv_room (Nat.le_of_ble_eq_true rfl)) d_M_incidentAt_97 ⟨Nat.le_of_ble_eq_true rfl, Nat.le_of_ble_eq_true rfl⟩) hP hD hS hA rfl rfl rfl (by decide) (fun _ => rfl) rfl (fun r97 _ H locs hw hP hD hS => ?_)
          exact hret r97 u27 _ _ _ _ _ _ rfl hw hP hD hS (Nat.le_of_ble_eq_true rfl) (Nat.le_of_ble_eq_true rfl) d_M_incidentAt_100
        · have hw := hw.2 c36_1
          by_cases c36_2 : a2 = 2
          · have hw := hw.1 c36_2
            refine lv_tableIn (off := 65) (tgt := 101) hx hb d_M_incidentAt_36 (by rw [c36_2]; decide) (by rw [c36_2]; decide) (by rw [c36_2]; decide) (by decide) ?_
            refine lv_aload_n hx hb d_M_incidentAt_101 rfl (lv_at hl 0 rfl) ?_
            refine lv_iload_n hx hb d_M_incidentAt_102 rfl (lv_at hl 1 rfl) ?_
            refine x_ci (w2 := fun _ => (wd_M qM cI cZ cL u27)) [0, 1, 2, 3, 4, 5, 6, 7, 8, 9, 10, 11, 12, 13, 14, 15, 16, 17, 18, 19, 20, 21] [] [0, 1, 2, 3, 4, 5, 6, 7, 8, 9, 10, 11, 12, 13, 14, 15, 16, 17, 18, 19, 20, 21] (va_runV (As := [.int a1]) (rest := []) ⟨hx, hb, hml, hown, hts⟩ (c_M_waitingFor l dC dI cI cZ cL qM _ u27 a1 _ hw) (cwV 1 hts (x_gV k_710 k_712 k_20 k_30 k_713) rfl rfl rfl (by decide +kernel) ⟨Nat.le_of_ble_eq_true rfl, Nat.le_of_ble_eq_true rfl⟩) ⟨x_blind, va_recv hK hP (ci := 4) (q0 := 0) rfl rfl, fun U hU hW => x_pre (isC := [0, 1, 2, 3, 4, 5, 6, 7, 8, 9, 10, 11, 12, 13, 14, 15, 16, 17, 18, 19, 20, 21]) hK hP hD rfl rfl hU hW⟩ rfl rfl hl.1 rfl (lv_room (Nat.le_of_ble_eq_true rfl)) d_M_incidentAt_103 ⟨Nat.le_of_ble_eq_true rfl, Nat.le_of_ble_eq_true rfl⟩) hP hD hS hA rfl rfl rfl (by decide) (fun _ => rfl) rfl (fun r103 _ H locs hw hP hD hS => ?_)
            exact hret r103 u27 _ _ _ _ _ _ rfl hw hP hD hS (Nat.le_of_ble_eq_true rfl) (Nat.le_of_ble_eq_true rfl) d_M_incidentAt_106
          · have hw := hw.2 c36_2
            by_cases c36_3 : a2 = 3
            · have hw := hw.1 c36_3
              refine lv_tableIn (off := 71) (tgt := 107) hx hb d_M_incidentAt_36 (by rw [c36_3]; decide) (by rw [c36_3]; decide) (by rw [c36_3]; decide) (by decide) ?_
              refine lv_aload_n hx hb d_M_incidentAt_107 rfl (lv_at hl 0 rfl) ?_
              refine va_get (D := (dC, dI)) (ci := 4) (v := .ref (qM 23)) (C := "ReleaseRowsModel") (T := T_M) (N := 27) hx hb hts in_M hown hK hP 0 rfl rfl 22 (by decide) (hts _ k_598) (fun _ h9 => h9) rfl d_M_incidentAt_108 ?_
              refine lv_iload_n hx hb d_M_incidentAt_111 rfl (lv_at hl 1 rfl) ?_
              obtain ⟨h112, hw⟩ := hw
              refine va_iald hx hb hK hP 18 0 rfl rfl h112 d_M_incidentAt_112 ?_
              exact hret (u27.1 22 a1.toNatClampNeg) u27 _ _ _ _ _ _ rfl hw hP hD hS (Nat.le_of_ble_eq_true rfl) (Nat.le_of_ble_eq_true rfl) d_M_incidentAt_113
            · have hw := hw.2 c36_3
              by_cases c36_4 : a2 = 4
              · have hw := hw.1 c36_4
                refine lv_tableIn (off := 78) (tgt := 114) hx hb d_M_incidentAt_36 (by rw [c36_4]; decide) (by rw [c36_4]; decide) (by rw [c36_4]; decide) (by decide) ?_
                refine lv_aload_n hx hb d_M_incidentAt_114 rfl (lv_at hl 0 rfl) ?_
                refine va_get (D := (dC, dI)) (ci := 4) (v := .ref (qM 24)) (C := "ReleaseRowsModel") (T := T_M) (N := 27) hx hb hts in_M hown hK hP 0 rfl rfl 23 (by decide) (hts _ k_599) (fun _ h9 => h9) rfl d_M_incidentAt_115 ?_
                refine lv_iload_n hx hb d_M_incidentAt_118 rfl (lv_at hl 1 rfl) ?_
                obtain ⟨h119, hw⟩ := hw
                refine va_iald hx hb hK hP 19 0 rfl rfl h119 d_M_incidentAt_119 ?_
                exact hret (u27.1 23 a1.toNatClampNeg) u27 _ _ _ _ _ _ rfl hw hP hD hS (Nat.le_of_ble_eq_true rfl) (Nat.le_of_ble_eq_true rfl) d_M_incidentAt_120
              · have hw := hw.2 c36_4
                by_cases c36_5 : a2 = 5
                · have hw := hw.1 c36_5
                  refine lv_tableIn (off := 85) (tgt := 121) hx hb d_M_incidentAt_36 (by rw [c36_5]; decide) (by rw [c36_5]; decide) (by rw [c36_5]; decide) (by decide) ?_
                  refine lv_aload_n hx hb d_M_incidentAt_121 rfl (lv_at hl 0 rfl) ?_
                  refine va_get (D := (dC, dI)) (ci := 4) (v := .ref (qM 25)) (C := "ReleaseRowsModel") (T := T_M) (N := 27) hx hb hts in_M hown hK hP 0 rfl rfl 24 (by decide) (hts _ k_600) (fun _ h9 => h9) rfl d_M_incidentAt_122 ?_
                  refine lv_iload_n hx hb d_M_incidentAt_125 rfl (lv_at hl 1 rfl) ?_
                  obtain ⟨h126, hw⟩ := hw
                  refine va_iald hx hb hK hP 20 0 rfl rfl h126 d_M_incidentAt_126 ?_
                  exact hret (u27.1 24 a1.toNatClampNeg) u27 _ _ _ _ _ _ rfl hw hP hD hS (Nat.le_of_ble_eq_true rfl) (Nat.le_of_ble_eq_true rfl) d_M_incidentAt_127
                · have hw := hw.2 c36_5
                  by_cases c36_6 : a2 = 6
                  · have hw := hw.1 c36_6
                    refine lv_tableIn (off := 92) (tgt := 128) hx hb d_M_incidentAt_36 (by rw [c36_6]; decide) (by rw [c36_6]; decide) (by rw [c36_6]; decide) (by decide) ?_
                    refine lv_aload_n hx hb d_M_incidentAt_128 rfl (lv_at hl 0 rfl) ?_
                    refine va_get (D := (dC, dI)) (ci := 4) (v := .ref (qM 20)) (C := "ReleaseRowsModel") (T := T_M) (N := 27) hx hb hts in_M hown hK hP 0 rfl rfl 19 (by decide) (hts _ k_595) (fun _ h9 => h9) rfl d_M_incidentAt_129 ?_
                    refine lv_iload_n hx hb d_M_incidentAt_132 rfl (lv_at hl 1 rfl) ?_
                    obtain ⟨h133, hw⟩ := hw
                    refine va_iald hx hb hK hP 15 0 rfl rfl h133 d_M_incidentAt_133 ?_
                    exact hret (u27.1 19 a1.toNatClampNeg) u27 _ _ _ _ _ _ rfl hw hP hD hS (Nat.le_of_ble_eq_true rfl) (Nat.le_of_ble_eq_true rfl) d_M_incidentAt_134
                  · have hw := hw.2 c36_6
                    refine lv_tableOut (tgt := 135) hx hb d_M_incidentAt_36 (by have z0 := lv_neT (a := 0) c36_0 (by decide); have z1 := lv_neT (a := 1) c36_1 (by decide); have z2 := lv_neT (a := 2) c36_2 (by decide); have z3 := lv_neT (a := 3) c36_3 (by decide); have z4 := lv_neT (a := 4) c36_4 (by decide); have z5 := lv_neT (a := 5) c36_5 (by decide); have z6 := lv_neT (a := 6) c36_6 (by decide); omega) (by decide) ?_
                    refine lv_aload_n hx hb d_M_incidentAt_135 rfl (lv_at hl 0 rfl) ?_
                    refine va_get (D := (dC, dI)) (ci := 4) (v := .ref (qM 18)) (C := "ReleaseRowsModel") (T := T_M) (N := 27) hx hb hts in_M hown hK hP 0 rfl rfl 17 (by decide) (hts _ k_593) (fun _ h9 => h9) rfl d_M_incidentAt_136 ?_
                    refine lv_iload_n hx hb d_M_incidentAt_139 rfl (lv_at hl 1 rfl) ?_
                    obtain ⟨h140, hw⟩ := hw
                    refine va_zald hx hb hK hP 13 1 rfl rfl h140 d_M_incidentAt_140 ?_
                    refine lv_if_eq (tgt := 170) hx hb d_M_incidentAt_141 (by decide) (fun c141 => ?_) (fun c141 => ?_)
                    · have hw := hw.1 c141
                      exact jn170 u27 _ _ _ hw hP hD hS (lv_sub hl [] rfl)
                    · have hw := hw.2 c141
                      refine lv_aload_n hx hb d_M_incidentAt_144 rfl (lv_at hl 0 rfl) ?_
                      refine va_get (D := (dC, dI)) (ci := 4) (v := .ref (qM 22)) (C := "ReleaseRowsModel") (T := T_M) (N := 27) hx hb hts in_M hown hK hP 0 rfl rfl 21 (by decide) (hts _ k_597) (fun _ h9 => h9) rfl d_M_incidentAt_145 ?_
                      refine lv_iload_n hx hb d_M_incidentAt_148 rfl (lv_at hl 1 rfl) ?_
                      obtain ⟨h149, hw⟩ := hw
                      refine va_iald hx hb hK hP 17 0 rfl rfl h149 d_M_incidentAt_149 ?_
                      refine lv_if_lt (tgt := 170) hx hb d_M_incidentAt_150 (by decide) (fun c150 => ?_) (fun c150 => ?_)
                      · have hw := hw.1 c150
                        exact jn170 u27 _ _ _ hw hP hD hS (lv_sub hl [] rfl)
                      · have hw := hw.2 c150
                        refine lv_aload_n hx hb d_M_incidentAt_153 rfl (lv_at hl 0 rfl) ?_
                        refine va_get (D := (dC, dI)) (ci := 4) (v := .int (u27.2 1)) (C := "ReleaseRowsModel") (T := T_M) (N := 27) hx hb hts in_M hown hK hP 0 rfl rfl 1 (by decide) (hts _ k_577) (fun _ h9 => h9) rfl d_M_incidentAt_154 ?_
                        refine lv_aload_n hx hb d_M_incidentAt_157 rfl (lv_at hl 0 rfl) ?_
                        refine va_get (D := (dC, dI)) (ci := 4) (v := .ref (qM 22)) (C := "ReleaseRowsModel") (T := T_M) (N := 27) hx hb hts in_M hown hK hP 0 rfl rfl 21 (by decide) (hts _ k_597) (fun _ h9 => h9) rfl d_M_incidentAt_158 ?_
                        refine lv_iload_n hx hb d_M_incidentAt_161 rfl (lv_at hl 1 rfl) ?_
                        obtain ⟨h162, hw⟩ := hw
                        refine va_iald hx hb hK hP 17 0 rfl rfl h162 d_M_incidentAt_162 ?_
                        refine lv_icmp_lt (tgt := 170) hx hb d_M_incidentAt_163 (by decide) (fun c163 => ?_) (fun c163 => ?_)
                        · have hw := hw.1 c163
                          exact jn170 u27 _ _ _ hw hP hD hS (lv_sub hl [] rfl)
                        · have hw := hw.2 c163
                          refine lv_iconst (v := (1 : Int32)) hx hb d_M_incidentAt_166 (by decide) ?_
                          refine lv_goto (tgt := 171) hx hb d_M_incidentAt_167 (by decide) ?_
                          exact hret (1 : Int32) u27 _ _ _ _ _ _ rfl hw hP hD hS (Nat.le_of_ble_eq_true rfl) (Nat.le_of_ble_eq_true rfl) d_M_incidentAt_171
    · have hw := hw.2 c30
      refine lv_iconst (v := (0 : Int32)) hx hb d_M_incidentAt_33 (by decide) ?_
      exact hret (0 : Int32) u27 _ _ _ _ _ _ rfl hw hP hD hS (Nat.le_of_ble_eq_true rfl) (Nat.le_of_ble_eq_true rfl) d_M_incidentAt_34
  have jn19 : ∀ (xM_ : St) (H : Heap) (locs : List Loc) (ls : Array Slot), wj_M_incidentAt_19 xM a1 a2 post xM_ → va_P (dC, dI) vwCl (wd_M qM cI cZ cL xM_) H → va_D A (wd_M qM cI cZ cL xM_) → va_S A s.heap H locs → lv_has ls 3 [(0, .ref (qM 0)), (1, .int a1), (2, .int a2)] → W p l e (headSpec w_M_incidentAt ({ frames := 2, cells := 0, slots := 0, locals := 43 } : Room)).room s m ([.ref (qM 0), .int a1, .int a2] : List Value).toArray below meth c H locs 0 0 Q (F0 m 19 ls [.ref (qM 0)]) := by
    intro xM_ H locs ls hw hP hD hS hl
    unfold wj_M_incidentAt_19 at hw
    refine lv_iconst (v := (1 : Int32)) hx hb d_M_incidentAt_19 (by decide) ?_
    refine lv_goto (tgt := 24) hx hb d_M_incidentAt_20 (by decide) ?_
    exact jn24 xM_ (1 : Int32) _ _ _ hw hP hD hS hl
  unfold wp_M_incidentAt at hw
  refine lv_aload_n hx hb d_M_incidentAt_0 rfl (lv_at hl 0 rfl) ?_
  refine lv_aload_n hx hb d_M_incidentAt_1 rfl (lv_at hl 0 rfl) ?_
  refine lv_iload_n hx hb d_M_incidentAt_2 rfl (lv_at hl 1 rfl) ?_
  refine x_ci (w2 := fun _ => (wd_M qM cI cZ cL xM)) [0, 1, 2, 3, 4, 5, 6, 7, 8, 9, 10, 11, 12, 13, 14, 15, 16, 17, 18, 19, 20, 21] [] [0, 1, 2, 3, 4, 5, 6, 7, 8, 9, 10, 11, 12, 13, 14, 15, 16, 17, 18, 19, 20, 21] (va_runV (As := [.int a1]) (rest := [.ref (qM 0)]) ⟨hx, hb, hml, hown, hts⟩ (c_M_isIncident l dC dI cI cZ cL qM _ xM a1 _ hw) (cwV 1 hts (x_gV k_744 k_746 k_23 k_30 k_747) rfl rfl rfl (by decide +kernel) ⟨Nat.le_of_ble_eq_true rfl, Nat.le_of_ble_eq_true rfl⟩) ⟨x_blind, va_recv hK hP (ci := 4) (q0 := 0) rfl rfl, fun U hU hW => x_pre (isC := [0, 1, 2, 3, 4, 5, 6, 7, 8, 9, 10, 11, 12, 13, 14, 15, 16, 17, 18, 19, 20, 21]) hK hP hD rfl rfl hU hW⟩ rfl rfl hl.1 rfl (lv_room (Nat.le_of_ble_eq_true rfl)) d_M_incidentAt_3 ⟨Nat.le_of_ble_eq_true rfl, Nat.le_of_ble_eq_true rfl⟩) hP hD hS hA rfl rfl rfl (by decide) (fun _ => rfl) rfl (fun r3 _ H locs hw hP hD hS => ?_)
  refine lv_if_eq (tgt := 19) hx hb d_M_incidentAt_6 (by decide) (fun c6 => ?_) (fun c6 => ?_)
  · have hw := hw.1 c6
    exact jn19 xM _ _ _ hw hP hD hS hl
  · have hw := hw.2 c6
    refine lv_iload_n hx hb d_M_incidentAt_9 rfl (lv_at hl 2 rfl) ?_
    refine lv_iconst (v := (0 : Int32)) hx hb d_M_incidentAt_10 (by decide) ?_
    refine lv_bipush (v := (7 : Int32)) hx hb d_M_incidentAt_11 (by decide) ?_
    refine x_ci (w2 := fun _ => (wd_M qM cI cZ cL xM)) [] [0, 1, 2, 3, 4, 5, 6, 7, 8, 9, 10, 11, 12, 13, 14, 15, 16, 17, 18, 19, 20, 21] [0, 1, 2, 3, 4, 5, 6, 7, 8, 9, 10, 11, 12, 13, 14, 15, 16, 17, 18, 19, 20, 21] (va_runS (As := [.int a2, .int (0 : Int32), .int (7 : Int32)]) (rest := [.ref (qM 0)]) ⟨hx, hb, hml, hown, hts⟩ (c_M_in l dC dI cI cZ cL  _ a2 (0 : Int32) (7 : Int32) _ hw) (cwS 3 hts (x_gS k_667 k_668 k_30 k_669) rfl rfl rfl (by decide +kernel) ⟨Nat.le_of_ble_eq_true rfl, Nat.le_of_ble_eq_true rfl⟩) ⟨x_blind, fun U hU hW => x_pre (isC := []) hK hP hD rfl rfl hU hW⟩ rfl rfl hl.1 rfl (lv_room (Nat.le_of_ble_eq_true rfl)) d_M_incidentAt_13 ⟨Nat.le_of_ble_eq_true rfl, Nat.le_of_ble_eq_true rfl⟩) hP hD hS hA rfl rfl rfl (by decide) (fun _ => rfl) rfl (fun r13 _ H locs hw hP hD hS => ?_)
    refine lv_if_ne (tgt := 23) hx hb d_M_incidentAt_16 (by decide) (fun c16 => ?_) (fun c16 => ?_)
    · have hw := hw.1 c16
      refine lv_iconst (v := (0 : Int32)) hx hb d_M_incidentAt_23 (by decide) ?_
      exact jn24 xM (0 : Int32) _ _ _ hw hP hD hS hl
    · have hw := hw.2 c16
      exact jn19 xM _ _ _ hw hP hD hS hl

def wj_M_count_131 (xM : St) (a1 : Int32) (post : Int32 → St → Prop) (xM_ : St) (v2_ : Int32) : Prop := (¬ a1 = 0 → ((¬ a1 = (2 : Int32) → (post v2_ xM_)) ∧ (a1 = (2 : Int32) → (post (xM_.2 25) xM_)))) ∧ (a1 = 0 → (post (xM_.2 1) xM_))
def wj_M_count_123 (xM : St) (a1 : Int32) (post : Int32 → St → Prop) (rec95 : St → Int32 → Int32 → Prop) (xM_ : St) (s0_ : Int32) (s1_ : Int32) (v3_ : Int32) : Prop := ∀ v2_124 : Int32, v2_124 = (s1_ + s0_) → (∀ v3_125 : Int32, v3_125 = v3_ + 1 → (rec95 xM_ v2_124 v3_125))
def wl_M_count_95 (xM : St) (a1 : Int32) (post : Int32 → St → Prop) : Nat → St → Int32 → Int32 → Prop
  | 0 => fun _ _ _ => False
  | n9 + 1 => fun xM_ v2_ v3_ => ((xM_.2 15) ≤ v3_ → (wj_M_count_131 xM a1 post xM_ v2_)) ∧ (¬ (xM_.2 15) ≤ v3_ → ((¬ a1 = (3 : Int32) → (wj_M_count_131 xM a1 post xM_ v2_)) ∧ (a1 = (3 : Int32) → (vp_in v3_ 20 ∧ (((xM_.1 17 v3_.toNatClampNeg) = 0 → (wj_M_count_123 xM a1 post (wl_M_count_95 xM a1 post n9) xM_ (0 : Int32) v2_ v3_)) ∧ (¬ (xM_.1 17 v3_.toNatClampNeg) = 0 → (wj_M_count_123 xM a1 post (wl_M_count_95 xM a1 post n9) xM_ (1 : Int32) v2_ v3_)))))))
def wj_M_count_93 (xM : St) (a1 : Int32) (post : Int32 → St → Prop) (xM_ : St) (v2_ : Int32) : Prop := ∃ k9 : Nat, wl_M_count_95 xM a1 post k9 xM_ v2_ (0 : Int32)
def wj_M_count_85 (xM : St) (a1 : Int32) (post : Int32 → St → Prop) (rec57 : St → Int32 → Int32 → Prop) (xM_ : St) (s0_ : Int32) (s1_ : Int32) (v3_ : Int32) : Prop := ∀ v2_86 : Int32, v2_86 = (s1_ + s0_) → (∀ v3_87 : Int32, v3_87 = v3_ + 1 → (rec57 xM_ v2_86 v3_87))
def wl_M_count_57 (xM : St) (a1 : Int32) (post : Int32 → St → Prop) : Nat → St → Int32 → Int32 → Prop
  | 0 => fun _ _ _ => False
  | n9 + 1 => fun xM_ v2_ v3_ => ((xM_.2 3) ≤ v3_ → (wj_M_count_93 xM a1 post xM_ v2_)) ∧ (¬ (xM_.2 3) ≤ v3_ → ((¬ a1 = (1 : Int32) → (wj_M_count_93 xM a1 post xM_ v2_)) ∧ (a1 = (1 : Int32) → (vp_in v3_ 24 ∧ ((¬ (xM_.1 8 v3_.toNatClampNeg) = 0 → (wj_M_count_85 xM a1 post (wl_M_count_57 xM a1 post n9) xM_ (0 : Int32) v2_ v3_)) ∧ ((xM_.1 8 v3_.toNatClampNeg) = 0 → (wj_M_count_85 xM a1 post (wl_M_count_57 xM a1 post n9) xM_ (1 : Int32) v2_ v3_)))))))
def wj_M_count_26 (xM : St) (a1 : Int32) (post : Int32 → St → Prop) (xM_ : St) (s0_ : Int32) : Prop := wp_M_throwing xM_ s0_ (0 : Int32) (0 : Int32) (0 : Int32) (fun r29 u29 => ((r29 = 0 → ((a1 ≤ (9 : Int32) → (∃ k9 : Nat, wl_M_count_57 xM a1 post k9 u29 (0 : Int32) (0 : Int32))) ∧ (¬ a1 ≤ (9 : Int32) → (vp_in (a1 - (10 : Int32)) 6 ∧ (post (u29.1 14 (a1 - (10 : Int32)).toNatClampNeg) u29))))) ∧ (¬ r29 = 0 → (post (0 : Int32) u29))))
def wj_M_count_25 (xM : St) (a1 : Int32) (post : Int32 → St → Prop) (xM_ : St) : Prop := wj_M_count_26 xM a1 post xM_ (0 : Int32)
def wp_M_count (xM : St) (a1 : Int32) (post : Int32 → St → Prop) : Prop := wp_M_in a1 (0 : Int32) (3 : Int32) (fun r4 _ => ((¬ r4 = 0 → (wj_M_count_25 xM a1 post xM)) ∧ (r4 = 0 → (wp_M_in a1 (10 : Int32) (15 : Int32) (fun r15 _ => ((¬ r15 = 0 → (wj_M_count_25 xM a1 post xM)) ∧ (r15 = 0 → (wj_M_count_26 xM a1 post xM (1 : Int32)))))))))
set_option maxHeartbeats 4000000 in
set_option maxRecDepth 100000 in
theorem c_M_count (l : Launch) (dC : Nat → ClassId) (dI : Nat → Nat → Nat) (cI cZ cL : ClassId) (qM : Nat → Nat) (sz : Nat) (xM : St) (a1 : Int32) (post : Int32 → St → Prop) (hw : wp_M_count xM a1 post) : Met l y_M_count w_M_count ({ frames := 1, cells := 0, slots := 0, locals := 24 } : Room) (va_Pc [.ref (qM 0), .int a1] (xP (dC, dI) vwCl [(cI, .int), (cZ, .boolean), (cL, .long)] (wd_M qM cI cZ cL xM) sz)) (va_Qi post (xB (dC, dI) vwCl [(cI, .int), (cZ, .boolean), (cL, .long)] (va_A (wd_M qM cI cZ cL xM) sz) (fun u => (wd_M qM cI cZ cL u))) (va_A (wd_M qM cI cZ cL xM) sz)) 0 0 (va_A (wd_M qM cI cZ cL xM) sz) := by
  refine x_ofI (cc := b_M_count) (maxL := 4) (by decide) rfl (Nat.le_of_ble_eq_true rfl) (fun p e s m below meth c A Q hx hb hml hts hown hK hA hP hD hS hret ls hl => ?_)
  have hl : lv_has ls 4 [(0, .ref (qM 0)), (1, .int a1)] := hl
  have jn131 : ∀ (xM_ : St) (v2_ : Int32) (H : Heap) (locs : List Loc) (ls : Array Slot), wj_M_count_131 xM a1 post xM_ v2_ → va_P (dC, dI) vwCl (wd_M qM cI cZ cL xM_) H → va_D A (wd_M qM cI cZ cL xM_) → va_S A s.heap H locs → lv_has ls 4 [(0, .ref (qM 0)), (1, .int a1), (2, .int v2_)] → W p l e (headSpec w_M_count ({ frames := 1, cells := 0, slots := 0, locals := 24 } : Room)).room s m ([.ref (qM 0), .int a1] : List Value).toArray below meth c H locs 0 0 Q (F0 m 131 ls []) := by
    intro xM_ v2_ H locs ls hw hP hD hS hl
    unfold wj_M_count_131 at hw
    refine lv_iload_n hx hb d_M_count_131 rfl (lv_at hl 1 rfl) ?_
    refine lv_if_ne (tgt := 142) hx hb d_M_count_132 (by decide) (fun c132 => ?_) (fun c132 => ?_)
    · have hw := hw.1 c132
      refine lv_iload_n hx hb d_M_count_142 rfl (lv_at hl 1 rfl) ?_
      refine lv_iconst (v := (2 : Int32)) hx hb d_M_count_143 (by decide) ?_
      refine lv_icmp_ne (tgt := 154) hx hb d_M_count_144 (by decide) (fun c144 => ?_) (fun c144 => ?_)
      · have hw := hw.1 c144
        refine lv_iload_n hx hb d_M_count_154 rfl (lv_at hl 2 rfl) ?_
        exact hret v2_ xM_ _ _ _ _ _ _ rfl hw hP hD hS (Nat.le_of_ble_eq_true rfl) (Nat.le_of_ble_eq_true rfl) d_M_count_155
      · have hw := hw.2 c144
        refine lv_aload_n hx hb d_M_count_147 rfl (lv_at hl 0 rfl) ?_
        refine va_get (D := (dC, dI)) (ci := 4) (v := .int (xM_.2 25)) (C := "ReleaseRowsModel") (T := T_M) (N := 27) hx hb hts in_M hown hK hP 0 rfl rfl 25 (by decide) (hts _ k_601) (fun _ h9 => h9) rfl d_M_count_148 ?_
        refine lv_goto (tgt := 155) hx hb d_M_count_151 (by decide) ?_
        exact hret (xM_.2 25) xM_ _ _ _ _ _ _ rfl hw hP hD hS (Nat.le_of_ble_eq_true rfl) (Nat.le_of_ble_eq_true rfl) d_M_count_155
    · have hw := hw.2 c132
      refine lv_aload_n hx hb d_M_count_135 rfl (lv_at hl 0 rfl) ?_
      refine va_get (D := (dC, dI)) (ci := 4) (v := .int (xM_.2 1)) (C := "ReleaseRowsModel") (T := T_M) (N := 27) hx hb hts in_M hown hK hP 0 rfl rfl 1 (by decide) (hts _ k_577) (fun _ h9 => h9) rfl d_M_count_136 ?_
      refine lv_goto (tgt := 155) hx hb d_M_count_139 (by decide) ?_
      exact hret (xM_.2 1) xM_ _ _ _ _ _ _ rfl hw hP hD hS (Nat.le_of_ble_eq_true rfl) (Nat.le_of_ble_eq_true rfl) d_M_count_155
  have lp95 : ∀ (n95 : Nat) (xM_ : St) (v2_ : Int32) (v3_ : Int32) (H : Heap) (locs : List Loc) (ls : Array Slot), wl_M_count_95 xM a1 post n95 xM_ v2_ v3_ → va_P (dC, dI) vwCl (wd_M qM cI cZ cL xM_) H → va_D A (wd_M qM cI cZ cL xM_) → va_S A s.heap H locs → lv_has ls 4 [(0, .ref (qM 0)), (1, .int a1), (2, .int v2_), (3, .int v3_)] → W p l e (headSpec w_M_count ({ frames := 1, cells := 0, slots := 0, locals := 24 } : Room)).room s m ([.ref (qM 0), .int a1] : List Value).toArray below meth c H locs 0 0 Q (F0 m 95 ls []) := by
    intro n95
    induction n95 with
    | zero => intro xM_ v2_ v3_ H locs ls hw; exact hw.elim
    | succ n95 ih95 =>
      have jn123 : ∀ (xM_ : St) (s0_ : Int32) (s1_ : Int32) (v3_ : Int32) (H : Heap) (locs : List Loc) (ls : Array Slot), wj_M_count_123 xM a1 post (wl_M_count_95 xM a1 post n95) xM_ s0_ s1_ v3_ → va_P (dC, dI) vwCl (wd_M qM cI cZ cL xM_) H → va_D A (wd_M qM cI cZ cL xM_) → va_S A s.heap H locs → lv_has ls 4 [(0, .ref (qM 0)), (1, .int a1), (3, .int v3_)] → W p l e (headSpec w_M_count ({ frames := 1, cells := 0, slots := 0, locals := 24 } : Room)).room s m ([.ref (qM 0), .int a1] : List Value).toArray below meth c H locs 0 0 Q (F0 m 123 ls [.int s0_, .int s1_]) := by
        intro xM_ s0_ s1_ v3_ H locs ls hw hP hD hS hl
        unfold wj_M_count_123 at hw
        refine lv_iadd hx hb d_M_count_123 ?_
        refine lv_topi (fun v2_124 ev2_124 => ?_)
        have hw := hw v2_124 ev2_124
        refine lv_istore_n (lv' := [(2, .int v2_124), (0, .ref (qM 0)), (1, .int a1), (3, .int v3_)]) hx hb d_M_count_124 rfl hl (by decide) rfl (fun ls hl => ?_)
        obtain ⟨v3_125, ev3_125⟩ : ∃ y : Int32, y = v3_ + 1 := ⟨_, rfl⟩
        have hw := hw v3_125 ev3_125
        refine lv_iinc (v := v3_125) (lv' := [(3, .int v3_125), (2, .int v2_124), (0, .ref (qM 0)), (1, .int a1)]) hx hb d_M_count_125 hl (k := 3) rfl (by rw [ev3_125]; rfl) (by decide) rfl (fun ls hl => ?_)
        refine lv_goto (tgt := 95) hx hb d_M_count_128 (by decide) ?_
        exact ih95 xM_ v2_124 v3_125 _ _ _ hw hP hD hS (lv_sub hl [2, 3, 1, 0] rfl)
      intro xM_ v2_ v3_ H locs ls hw hP hD hS hl
      unfold wl_M_count_95 at hw
      refine lv_iload_n hx hb d_M_count_95 rfl (lv_at hl 3 rfl) ?_
      refine lv_aload_n hx hb d_M_count_96 rfl (lv_at hl 0 rfl) ?_
      refine va_get (D := (dC, dI)) (ci := 4) (v := .int (xM_.2 15)) (C := "ReleaseRowsModel") (T := T_M) (N := 27) hx hb hts in_M hown hK hP 0 rfl rfl 15 (by decide) (hts _ k_591) (fun _ h9 => h9) rfl d_M_count_97 ?_
      refine lv_icmp_ge (tgt := 131) hx hb d_M_count_100 (by decide) (fun c100 => ?_) (fun c100 => ?_)
      · have hw := hw.1 c100
        exact jn131 xM_ v2_ _ _ _ hw hP hD hS (lv_sub hl [0, 1, 2] rfl)
      · have hw := hw.2 c100
        refine lv_iload_n hx hb d_M_count_103 rfl (lv_at hl 1 rfl) ?_
        refine lv_iconst (v := (3 : Int32)) hx hb d_M_count_104 (by decide) ?_
        refine lv_icmp_ne (tgt := 131) hx hb d_M_count_105 (by decide) (fun c105 => ?_) (fun c105 => ?_)
        · have hw := hw.1 c105
          exact jn131 xM_ v2_ _ _ _ hw hP hD hS (lv_sub hl [0, 1, 2] rfl)
        · have hw := hw.2 c105
          refine lv_iload_n hx hb d_M_count_108 rfl (lv_at hl 2 rfl) ?_
          refine lv_aload_n hx hb d_M_count_109 rfl (lv_at hl 0 rfl) ?_
          refine va_get (D := (dC, dI)) (ci := 4) (v := .ref (qM 18)) (C := "ReleaseRowsModel") (T := T_M) (N := 27) hx hb hts in_M hown hK hP 0 rfl rfl 17 (by decide) (hts _ k_593) (fun _ h9 => h9) rfl d_M_count_110 ?_
          refine lv_iload_n hx hb d_M_count_113 rfl (lv_at hl 3 rfl) ?_
          obtain ⟨h114, hw⟩ := hw
          refine va_zald hx hb hK hP 13 1 rfl rfl h114 d_M_count_114 ?_
          refine lv_if_eq (tgt := 122) hx hb d_M_count_115 (by decide) (fun c115 => ?_) (fun c115 => ?_)
          · have hw := hw.1 c115
            refine lv_iconst (v := (0 : Int32)) hx hb d_M_count_122 (by decide) ?_
            exact jn123 xM_ (0 : Int32) v2_ v3_ _ _ _ hw hP hD hS (lv_sub hl [0, 1, 3] rfl)
          · have hw := hw.2 c115
            refine lv_iconst (v := (1 : Int32)) hx hb d_M_count_118 (by decide) ?_
            refine lv_goto (tgt := 123) hx hb d_M_count_119 (by decide) ?_
            exact jn123 xM_ (1 : Int32) v2_ v3_ _ _ _ hw hP hD hS (lv_sub hl [0, 1, 3] rfl)
  have jn93 : ∀ (xM_ : St) (v2_ : Int32) (H : Heap) (locs : List Loc) (ls : Array Slot), wj_M_count_93 xM a1 post xM_ v2_ → va_P (dC, dI) vwCl (wd_M qM cI cZ cL xM_) H → va_D A (wd_M qM cI cZ cL xM_) → va_S A s.heap H locs → lv_has ls 4 [(0, .ref (qM 0)), (1, .int a1), (2, .int v2_)] → W p l e (headSpec w_M_count ({ frames := 1, cells := 0, slots := 0, locals := 24 } : Room)).room s m ([.ref (qM 0), .int a1] : List Value).toArray below meth c H locs 0 0 Q (F0 m 93 ls []) := by
    intro xM_ v2_ H locs ls hw hP hD hS hl
    unfold wj_M_count_93 at hw
    refine lv_iconst (v := (0 : Int32)) hx hb d_M_count_93 (by decide) ?_
    refine lv_istore_n (lv' := [(3, .int (0 : Int32)), (0, .ref (qM 0)), (1, .int a1), (2, .int v2_)]) hx hb d_M_count_94 rfl hl (by decide) rfl (fun ls hl => ?_)
    obtain ⟨n9, hw⟩ := hw
    exact lp95 n9 xM_ v2_ (0 : Int32) _ _ _ hw hP hD hS (lv_sub hl [1, 2, 3, 0] rfl)
  have lp57 : ∀ (n57 : Nat) (xM_ : St) (v2_ : Int32) (v3_ : Int32) (H : Heap) (locs : List Loc) (ls : Array Slot), wl_M_count_57 xM a1 post n57 xM_ v2_ v3_ → va_P (dC, dI) vwCl (wd_M qM cI cZ cL xM_) H → va_D A (wd_M qM cI cZ cL xM_) → va_S A s.heap H locs → lv_has ls 4 [(0, .ref (qM 0)), (1, .int a1), (2, .int v2_), (3, .int v3_)] → W p l e (headSpec w_M_count ({ frames := 1, cells := 0, slots := 0, locals := 24 } : Room)).room s m ([.ref (qM 0), .int a1] : List Value).toArray below meth c H locs 0 0 Q (F0 m 57 ls []) := by
    intro n57
    induction n57 with
    | zero => intro xM_ v2_ v3_ H locs ls hw; exact hw.elim
    | succ n57 ih57 =>
      have jn85 : ∀ (xM_ : St) (s0_ : Int32) (s1_ : Int32) (v3_ : Int32) (H : Heap) (locs : List Loc) (ls : Array Slot), wj_M_count_85 xM a1 post (wl_M_count_57 xM a1 post n57) xM_ s0_ s1_ v3_ → va_P (dC, dI) vwCl (wd_M qM cI cZ cL xM_) H → va_D A (wd_M qM cI cZ cL xM_) → va_S A s.heap H locs → lv_has ls 4 [(0, .ref (qM 0)), (1, .int a1), (3, .int v3_)] → W p l e (headSpec w_M_count ({ frames := 1, cells := 0, slots := 0, locals := 24 } : Room)).room s m ([.ref (qM 0), .int a1] : List Value).toArray below meth c H locs 0 0 Q (F0 m 85 ls [.int s0_, .int s1_]) := by
        intro xM_ s0_ s1_ v3_ H locs ls hw hP hD hS hl
        unfold wj_M_count_85 at hw
        refine lv_iadd hx hb d_M_count_85 ?_
        refine lv_topi (fun v2_86 ev2_86 => ?_)
        have hw := hw v2_86 ev2_86
        refine lv_istore_n (lv' := [(2, .int v2_86), (0, .ref (qM 0)), (1, .int a1), (3, .int v3_)]) hx hb d_M_count_86 rfl hl (by decide) rfl (fun ls hl => ?_)
        obtain ⟨v3_87, ev3_87⟩ : ∃ y : Int32, y = v3_ + 1 := ⟨_, rfl⟩
        have hw := hw v3_87 ev3_87
        refine lv_iinc (v := v3_87) (lv' := [(3, .int v3_87), (2, .int v2_86), (0, .ref (qM 0)), (1, .int a1)]) hx hb d_M_count_87 hl (k := 3) rfl (by rw [ev3_87]; rfl) (by decide) rfl (fun ls hl => ?_)
        refine lv_goto (tgt := 57) hx hb d_M_count_90 (by decide) ?_
        exact ih57 xM_ v2_86 v3_87 _ _ _ hw hP hD hS (lv_sub hl [2, 3, 1, 0] rfl)
      intro xM_ v2_ v3_ H locs ls hw hP hD hS hl
      unfold wl_M_count_57 at hw
      refine lv_iload_n hx hb d_M_count_57 rfl (lv_at hl 3 rfl) ?_
      refine lv_aload_n hx hb d_M_count_58 rfl (lv_at hl 0 rfl) ?_
      refine va_get (D := (dC, dI)) (ci := 4) (v := .int (xM_.2 3)) (C := "ReleaseRowsModel") (T := T_M) (N := 27) hx hb hts in_M hown hK hP 0 rfl rfl 3 (by decide) (hts _ k_579) (fun _ h9 => h9) rfl d_M_count_59 ?_
      refine lv_icmp_ge (tgt := 93) hx hb d_M_count_62 (by decide) (fun c62 => ?_) (fun c62 => ?_)
      · have hw := hw.1 c62
        exact jn93 xM_ v2_ _ _ _ hw hP hD hS (lv_sub hl [0, 1, 2] rfl)
      · have hw := hw.2 c62
        refine lv_iload_n hx hb d_M_count_65 rfl (lv_at hl 1 rfl) ?_
        refine lv_iconst (v := (1 : Int32)) hx hb d_M_count_66 (by decide) ?_
        refine lv_icmp_ne (tgt := 93) hx hb d_M_count_67 (by decide) (fun c67 => ?_) (fun c67 => ?_)
        · have hw := hw.1 c67
          exact jn93 xM_ v2_ _ _ _ hw hP hD hS (lv_sub hl [0, 1, 2] rfl)
        · have hw := hw.2 c67
          refine lv_iload_n hx hb d_M_count_70 rfl (lv_at hl 2 rfl) ?_
          refine lv_aload_n hx hb d_M_count_71 rfl (lv_at hl 0 rfl) ?_
          refine va_get (D := (dC, dI)) (ci := 4) (v := .ref (qM 9)) (C := "ReleaseRowsModel") (T := T_M) (N := 27) hx hb hts in_M hown hK hP 0 rfl rfl 8 (by decide) (hts _ k_584) (fun _ h9 => h9) rfl d_M_count_72 ?_
          refine lv_iload_n hx hb d_M_count_75 rfl (lv_at hl 3 rfl) ?_
          obtain ⟨h76, hw⟩ := hw
          refine va_iald hx hb hK hP 5 0 rfl rfl h76 d_M_count_76 ?_
          refine lv_if_ne (tgt := 84) hx hb d_M_count_77 (by decide) (fun c77 => ?_) (fun c77 => ?_)
          · have hw := hw.1 c77
            refine lv_iconst (v := (0 : Int32)) hx hb d_M_count_84 (by decide) ?_
            exact jn85 xM_ (0 : Int32) v2_ v3_ _ _ _ hw hP hD hS (lv_sub hl [0, 1, 3] rfl)
          · have hw := hw.2 c77
            refine lv_iconst (v := (1 : Int32)) hx hb d_M_count_80 (by decide) ?_
            refine lv_goto (tgt := 85) hx hb d_M_count_81 (by decide) ?_
            exact jn85 xM_ (1 : Int32) v2_ v3_ _ _ _ hw hP hD hS (lv_sub hl [0, 1, 3] rfl)
  have jn26 : ∀ (xM_ : St) (s0_ : Int32) (H : Heap) (locs : List Loc) (ls : Array Slot), wj_M_count_26 xM a1 post xM_ s0_ → va_P (dC, dI) vwCl (wd_M qM cI cZ cL xM_) H → va_D A (wd_M qM cI cZ cL xM_) → va_S A s.heap H locs → lv_has ls 4 [(0, .ref (qM 0)), (1, .int a1)] → W p l e (headSpec w_M_count ({ frames := 1, cells := 0, slots := 0, locals := 24 } : Room)).room s m ([.ref (qM 0), .int a1] : List Value).toArray below meth c H locs 0 0 Q (F0 m 26 ls [.int s0_, .ref (qM 0)]) := by
    intro xM_ s0_ H locs ls hw hP hD hS hl
    unfold wj_M_count_26 at hw
    refine lv_iconst (v := (0 : Int32)) hx hb d_M_count_26 (by decide) ?_
    refine lv_iconst (v := (0 : Int32)) hx hb d_M_count_27 (by decide) ?_
    refine lv_iconst (v := (0 : Int32)) hx hb d_M_count_28 (by decide) ?_
    refine x_ci (w2 := fun u29 => (wd_M qM cI cZ cL u29)) [0, 1, 2, 3, 4, 5, 6, 7, 8, 9, 10, 11, 12, 13, 14, 15, 16, 17, 18, 19, 20, 21] [] [0, 1, 2, 3, 4, 5, 6, 7, 8, 9, 10, 11, 12, 13, 14, 15, 16, 17, 18, 19, 20, 21] (va_runV (As := [.int s0_, .int (0 : Int32), .int (0 : Int32), .int (0 : Int32)]) (rest := []) ⟨hx, hb, hml, hown, hts⟩ (c_M_throwing l dC dI cI cZ cL qM _ xM_ s0_ (0 : Int32) (0 : Int32) (0 : Int32) _ hw) (cwV 4 hts (x_gV k_670 k_672 k_10 k_30 k_673) rfl rfl rfl (by decide +kernel) ⟨Nat.le_of_ble_eq_true rfl, Nat.le_of_ble_eq_true rfl⟩) ⟨x_blind, va_recv hK hP (ci := 4) (q0 := 0) rfl rfl, fun U hU hW => x_pre (isC := [0, 1, 2, 3, 4, 5, 6, 7, 8, 9, 10, 11, 12, 13, 14, 15, 16, 17, 18, 19, 20, 21]) hK hP hD rfl rfl hU hW⟩ rfl rfl hl.1 rfl (lv_room (Nat.le_of_ble_eq_true rfl)) d_M_count_29 ⟨Nat.le_of_ble_eq_true rfl, Nat.le_of_ble_eq_true rfl⟩) hP hD hS hA rfl rfl rfl (by decide) (fun _ => rfl) rfl (fun r29 u29 H locs hw hP hD hS => ?_)
    refine lv_if_eq (tgt := 37) hx hb d_M_count_32 (by decide) (fun c32 => ?_) (fun c32 => ?_)
    · have hw := hw.1 c32
      refine lv_iload_n hx hb d_M_count_37 rfl (lv_at hl 1 rfl) ?_
      refine lv_bipush (v := (9 : Int32)) hx hb d_M_count_38 (by decide) ?_
      refine lv_icmp_le (tgt := 53) hx hb d_M_count_40 (by decide) (fun c40 => ?_) (fun c40 => ?_)
      · have hw := hw.1 c40
        refine lv_iconst (v := (0 : Int32)) hx hb d_M_count_53 (by decide) ?_
        refine lv_istore_n (lv' := [(2, .int (0 : Int32)), (0, .ref (qM 0)), (1, .int a1)]) hx hb d_M_count_54 rfl hl (by decide) rfl (fun ls hl => ?_)
        refine lv_iconst (v := (0 : Int32)) hx hb d_M_count_55 (by decide) ?_
        refine lv_istore_n (lv' := [(3, .int (0 : Int32)), (2, .int (0 : Int32)), (0, .ref (qM 0)), (1, .int a1)]) hx hb d_M_count_56 rfl hl (by decide) rfl (fun ls hl => ?_)
        obtain ⟨n9, hw⟩ := hw
        exact lp57 n9 u29 (0 : Int32) (0 : Int32) _ _ _ hw hP hD hS (lv_sub hl [2, 3, 1, 0] rfl)
      · have hw := hw.2 c40
        refine lv_aload_n hx hb d_M_count_43 rfl (lv_at hl 0 rfl) ?_
        refine va_get (D := (dC, dI)) (ci := 4) (v := .ref (qM 15)) (C := "ReleaseRowsModel") (T := T_M) (N := 27) hx hb hts in_M hown hK hP 0 rfl rfl 14 (by decide) (hts _ k_590) (fun _ h9 => h9) rfl d_M_count_44 ?_
        refine lv_iload_n hx hb d_M_count_47 rfl (lv_at hl 1 rfl) ?_
        refine lv_bipush (v := (10 : Int32)) hx hb d_M_count_48 (by decide) ?_
        refine lv_isub hx hb d_M_count_50 ?_
        obtain ⟨h51, hw⟩ := hw
        refine va_iald hx hb hK hP 11 0 rfl rfl h51 d_M_count_51 ?_
        exact hret (u29.1 14 (a1 - (10 : Int32)).toNatClampNeg) u29 _ _ _ _ _ _ rfl hw hP hD hS (Nat.le_of_ble_eq_true rfl) (Nat.le_of_ble_eq_true rfl) d_M_count_52
    · have hw := hw.2 c32
      refine lv_iconst (v := (0 : Int32)) hx hb d_M_count_35 (by decide) ?_
      exact hret (0 : Int32) u29 _ _ _ _ _ _ rfl hw hP hD hS (Nat.le_of_ble_eq_true rfl) (Nat.le_of_ble_eq_true rfl) d_M_count_36
  have jn25 : ∀ (xM_ : St) (H : Heap) (locs : List Loc) (ls : Array Slot), wj_M_count_25 xM a1 post xM_ → va_P (dC, dI) vwCl (wd_M qM cI cZ cL xM_) H → va_D A (wd_M qM cI cZ cL xM_) → va_S A s.heap H locs → lv_has ls 4 [(0, .ref (qM 0)), (1, .int a1)] → W p l e (headSpec w_M_count ({ frames := 1, cells := 0, slots := 0, locals := 24 } : Room)).room s m ([.ref (qM 0), .int a1] : List Value).toArray below meth c H locs 0 0 Q (F0 m 25 ls [.ref (qM 0)]) := by
    intro xM_ H locs ls hw hP hD hS hl
    unfold wj_M_count_25 at hw
    refine lv_iconst (v := (0 : Int32)) hx hb d_M_count_25 (by decide) ?_
    exact jn26 xM_ (0 : Int32) _ _ _ hw hP hD hS hl
  unfold wp_M_count at hw
  refine lv_aload_n hx hb d_M_count_0 rfl (lv_at hl 0 rfl) ?_
  refine lv_iload_n hx hb d_M_count_1 rfl (lv_at hl 1 rfl) ?_
  refine lv_iconst (v := (0 : Int32)) hx hb d_M_count_2 (by decide) ?_
  refine lv_iconst (v := (3 : Int32)) hx hb d_M_count_3 (by decide) ?_
  refine x_ci (w2 := fun _ => (wd_M qM cI cZ cL xM)) [] [0, 1, 2, 3, 4, 5, 6, 7, 8, 9, 10, 11, 12, 13, 14, 15, 16, 17, 18, 19, 20, 21] [0, 1, 2, 3, 4, 5, 6, 7, 8, 9, 10, 11, 12, 13, 14, 15, 16, 17, 18, 19, 20, 21] (va_runS (As := [.int a1, .int (0 : Int32), .int (3 : Int32)]) (rest := [.ref (qM 0)]) ⟨hx, hb, hml, hown, hts⟩ (c_M_in l dC dI cI cZ cL  _ a1 (0 : Int32) (3 : Int32) _ hw) (cwS 3 hts (x_gS k_667 k_668 k_30 k_669) rfl rfl rfl (by decide +kernel) ⟨Nat.le_of_ble_eq_true rfl, Nat.le_of_ble_eq_true rfl⟩) ⟨x_blind, fun U hU hW => x_pre (isC := []) hK hP hD rfl rfl hU hW⟩ rfl rfl hl.1 rfl (lv_room (Nat.le_of_ble_eq_true rfl)) d_M_count_4 ⟨Nat.le_of_ble_eq_true rfl, Nat.le_of_ble_eq_true rfl⟩) hP hD hS hA rfl rfl rfl (by decide) (fun _ => rfl) rfl (fun r4 _ H locs hw hP hD hS => ?_)
  refine lv_if_ne (tgt := 25) hx hb d_M_count_7 (by decide) (fun c7 => ?_) (fun c7 => ?_)
  · have hw := hw.1 c7
    exact jn25 xM _ _ _ hw hP hD hS hl
  · have hw := hw.2 c7
    refine lv_iload_n hx hb d_M_count_10 rfl (lv_at hl 1 rfl) ?_
    refine lv_bipush (v := (10 : Int32)) hx hb d_M_count_11 (by decide) ?_
    refine lv_bipush (v := (15 : Int32)) hx hb d_M_count_13 (by decide) ?_
    refine x_ci (w2 := fun _ => (wd_M qM cI cZ cL xM)) [] [0, 1, 2, 3, 4, 5, 6, 7, 8, 9, 10, 11, 12, 13, 14, 15, 16, 17, 18, 19, 20, 21] [0, 1, 2, 3, 4, 5, 6, 7, 8, 9, 10, 11, 12, 13, 14, 15, 16, 17, 18, 19, 20, 21] (va_runS (As := [.int a1, .int (10 : Int32), .int (15 : Int32)]) (rest := [.ref (qM 0)]) ⟨hx, hb, hml, hown, hts⟩ (c_M_in l dC dI cI cZ cL  _ a1 (10 : Int32) (15 : Int32) _ hw) (cwS 3 hts (x_gS k_667 k_668 k_30 k_669) rfl rfl rfl (by decide +kernel) ⟨Nat.le_of_ble_eq_true rfl, Nat.le_of_ble_eq_true rfl⟩) ⟨x_blind, fun U hU hW => x_pre (isC := []) hK hP hD rfl rfl hU hW⟩ rfl rfl hl.1 rfl (lv_room (Nat.le_of_ble_eq_true rfl)) d_M_count_15 ⟨Nat.le_of_ble_eq_true rfl, Nat.le_of_ble_eq_true rfl⟩) hP hD hS hA rfl rfl rfl (by decide) (fun _ => rfl) rfl (fun r15 _ H locs hw hP hD hS => ?_)
    refine lv_if_ne (tgt := 25) hx hb d_M_count_18 (by decide) (fun c18 => ?_) (fun c18 => ?_)
    · have hw := hw.1 c18
      exact jn25 xM _ _ _ hw hP hD hS hl
    · have hw := hw.2 c18
      refine lv_iconst (v := (1 : Int32)) hx hb d_M_count_21 (by decide) ?_
      refine lv_goto (tgt := 26) hx hb d_M_count_22 (by decide) ?_
      exact jn26 xM (1 : Int32) _ _ _ hw hP hD hS hl

set_option maxHeartbeats 4000000 in
set_option maxRecDepth 100000 in
theorem c_M_init (l : Launch) (dC : Nat → ClassId) (dI : Nat → Nat → Nat) (cI cZ cL : ClassId) (h0 sz : Nat) : Met l y_M_init w_M_init ({ frames := 1, cells := 21, slots := 576, locals := 12 } : Room) (va_Pc [.ref h0] (xP (dC, dI) vwCl [(cI, .int), (cZ, .boolean), (cL, .long)] [(h0, .inr (4, [.int (0 : Int32), .int (0 : Int32), .int (0 : Int32), .int (0 : Int32), .null, .null, .null, .null, .null, .null, .null, .null, .null, .null, .null, .int (0 : Int32), .null, .null, .null, .null, .null, .null, .null, .null, .null, .int (0 : Int32), .null]))] sz)) (va_Qv (fun q : Nat → Nat => q 0 = h0) (xB (dC, dI) vwCl [(cI, .int), (cZ, .boolean), (cL, .long)] (va_A [(h0, .inr (4, [.int (0 : Int32), .int (0 : Int32), .int (0 : Int32), .int (0 : Int32), .null, .null, .null, .null, .null, .null, .null, .null, .null, .null, .null, .int (0 : Int32), .null, .null, .null, .null, .null, .null, .null, .null, .null, .int (0 : Int32), .null]))] sz) (fun q => (wd_M q cI cZ cL (sF x00 2 (600 : Int32))))) (va_A [(h0, .inr (4, [.int (0 : Int32), .int (0 : Int32), .int (0 : Int32), .int (0 : Int32), .null, .null, .null, .null, .null, .null, .null, .null, .null, .null, .null, .int (0 : Int32), .null, .null, .null, .null, .null, .null, .null, .null, .null, .int (0 : Int32), .null]))] sz)) 21 576 (va_A [(h0, .inr (4, [.int (0 : Int32), .int (0 : Int32), .int (0 : Int32), .int (0 : Int32), .null, .null, .null, .null, .null, .null, .null, .null, .null, .null, .null, .int (0 : Int32), .null, .null, .null, .null, .null, .null, .null, .null, .null, .int (0 : Int32), .null]))] sz) := by
  refine x_ofV (cc := b_M_init) (maxL := 1) (by decide) rfl (Nat.le_of_ble_eq_true rfl) (fun p e s m below meth c A Q hx hb hml hts hown hin hK hA hP hD hS hret ls hl => ?_)
  have hl : lv_has ls 1 [(0, .ref h0)] := hl
  refine lv_aload_n hx hb d_M_init_0 rfl (lv_at hl 0 rfl) ?_
  refine W.objInit hx hb hown (hts _ k_575) (hts _ k_45) (hts _ k_46) rfl (by rw [hml]; exact hl.1) rfl d_M_init_1 (Nat.le_of_ble_eq_true rfl) (Nat.le_of_ble_eq_true rfl) ?_
  refine W.eq (g2 := F0 m 4 ls []) rfl ?_
  refine lv_aload_n hx hb d_M_init_4 rfl (lv_at hl 0 rfl) ?_
  refine lv_sipush (v := (600 : Int32)) hx hb d_M_init_5 (by decide) ?_
  refine va_put (D := (dC, dI)) (ci := 4) (v := .int (600 : Int32)) (ty := .int) (C := "ReleaseRowsModel") (T := T_M) (N := 27) hx hb hts in_M ty_M tyok_M nm_M hown hK hP hD hS 0 rfl rfl 2 (by decide) (hts _ k_578) (fun _ h9 => h9) rfl (by decide +kernel) rfl rfl (Nat.le_of_ble_eq_true rfl) d_M_init_8 (fun H locs hP hD hS => ?_)
  have hP : va_P (dC, dI) vwCl [(h0, .inr (4, [.int (0 : Int32), .int (0 : Int32), .int (600 : Int32), .int (0 : Int32), .null, .null, .null, .null, .null, .null, .null, .null, .null, .null, .null, .int (0 : Int32), .null, .null, .null, .null, .null, .null, .null, .null, .null, .int (0 : Int32), .null]))] H := hP
  have hD : va_D A [(h0, .inr (4, [.int (0 : Int32), .int (0 : Int32), .int (600 : Int32), .int (0 : Int32), .null, .null, .null, .null, .null, .null, .null, .null, .null, .null, .null, .int (0 : Int32), .null, .null, .null, .null, .null, .null, .null, .null, .null, .int (0 : Int32), .null]))] := hD
  refine lv_aload_n hx hb d_M_init_11 rfl (lv_at hl 0 rfl) ?_
  refine lv_bipush (v := (24 : Int32)) hx hb d_M_init_12 (by decide) ?_
  refine x_newI (N := 24) hx hb (hts _ k_95) hK hP hD hS hA (by decide) (by decide) (by decide) (Nat.le_of_ble_eq_true rfl) (Nat.le_of_ble_eq_true rfl) d_M_init_14 (fun q14 H hP hD hS => ?_)
  have hP : va_P (dC, dI) vwCl [(h0, .inr (4, [.int (0 : Int32), .int (0 : Int32), .int (600 : Int32), .int (0 : Int32), .null, .null, .null, .null, .null, .null, .null, .null, .null, .null, .null, .int (0 : Int32), .null, .null, .null, .null, .null, .null, .null, .null, .null, .int (0 : Int32), .null])), (q14, .inl (cI, 24, .inl (fun _ => 0)))] H := hP
  have hD : va_D A [(h0, .inr (4, [.int (0 : Int32), .int (0 : Int32), .int (600 : Int32), .int (0 : Int32), .null, .null, .null, .null, .null, .null, .null, .null, .null, .null, .null, .int (0 : Int32), .null, .null, .null, .null, .null, .null, .null, .null, .null, .int (0 : Int32), .null])), (q14, .inl (cI, 24, .inl (fun _ => 0)))] := hD
  refine va_putF (D := (dC, dI)) (ci := 4) (v := .ref q14) (ty := (.array .int)) (C := "ReleaseRowsModel") (T := T_M) (N := 27) hx hb hts in_M ty_M tyok_M nm_M hown hK hP hD hS 0 rfl rfl 4 (by decide) (hts _ k_580) (fun _ h9 => h9) rfl hin rfl (by decide +kernel) rfl rfl (Nat.le_of_ble_eq_true rfl) d_M_init_16 (fun H locs hP hD hS => ?_)
  have hP : va_P (dC, dI) vwCl [(h0, .inr (4, [.int (0 : Int32), .int (0 : Int32), .int (600 : Int32), .int (0 : Int32), .ref q14, .null, .null, .null, .null, .null, .null, .null, .null, .null, .null, .int (0 : Int32), .null, .null, .null, .null, .null, .null, .null, .null, .null, .int (0 : Int32), .null])), (q14, .inl (cI, 24, .inl (fun _ => 0)))] H := hP
  have hD : va_D A [(h0, .inr (4, [.int (0 : Int32), .int (0 : Int32), .int (600 : Int32), .int (0 : Int32), .ref q14, .null, .null, .null, .null, .null, .null, .null, .null, .null, .null, .int (0 : Int32), .null, .null, .null, .null, .null, .null, .null, .null, .null, .int (0 : Int32), .null])), (q14, .inl (cI, 24, .inl (fun _ => 0)))] := hD
  refine lv_aload_n hx hb d_M_init_19 rfl (lv_at hl 0 rfl) ?_
  refine lv_bipush (v := (24 : Int32)) hx hb d_M_init_20 (by decide) ?_
  refine x_newI (N := 24) hx hb (hts _ k_95) hK hP hD hS hA (by decide) (by decide) (by decide) (Nat.le_of_ble_eq_true rfl) (Nat.le_of_ble_eq_true rfl) d_M_init_22 (fun q22 H hP hD hS => ?_)
  have hP : va_P (dC, dI) vwCl [(h0, .inr (4, [.int (0 : Int32), .int (0 : Int32), .int (600 : Int32), .int (0 : Int32), .ref q14, .null, .null, .null, .null, .null, .null, .null, .null, .null, .null, .int (0 : Int32), .null, .null, .null, .null, .null, .null, .null, .null, .null, .int (0 : Int32), .null])), (q14, .inl (cI, 24, .inl (fun _ => 0))), (q22, .inl (cI, 24, .inl (fun _ => 0)))] H := hP
  have hD : va_D A [(h0, .inr (4, [.int (0 : Int32), .int (0 : Int32), .int (600 : Int32), .int (0 : Int32), .ref q14, .null, .null, .null, .null, .null, .null, .null, .null, .null, .null, .int (0 : Int32), .null, .null, .null, .null, .null, .null, .null, .null, .null, .int (0 : Int32), .null])), (q14, .inl (cI, 24, .inl (fun _ => 0))), (q22, .inl (cI, 24, .inl (fun _ => 0)))] := hD
  refine va_putF (D := (dC, dI)) (ci := 4) (v := .ref q22) (ty := (.array .int)) (C := "ReleaseRowsModel") (T := T_M) (N := 27) hx hb hts in_M ty_M tyok_M nm_M hown hK hP hD hS 0 rfl rfl 5 (by decide) (hts _ k_581) (fun _ h9 => h9) rfl hin rfl (by decide +kernel) rfl rfl (Nat.le_of_ble_eq_true rfl) d_M_init_24 (fun H locs hP hD hS => ?_)
  have hP : va_P (dC, dI) vwCl [(h0, .inr (4, [.int (0 : Int32), .int (0 : Int32), .int (600 : Int32), .int (0 : Int32), .ref q14, .ref q22, .null, .null, .null, .null, .null, .null, .null, .null, .null, .int (0 : Int32), .null, .null, .null, .null, .null, .null, .null, .null, .null, .int (0 : Int32), .null])), (q14, .inl (cI, 24, .inl (fun _ => 0))), (q22, .inl (cI, 24, .inl (fun _ => 0)))] H := hP
  have hD : va_D A [(h0, .inr (4, [.int (0 : Int32), .int (0 : Int32), .int (600 : Int32), .int (0 : Int32), .ref q14, .ref q22, .null, .null, .null, .null, .null, .null, .null, .null, .null, .int (0 : Int32), .null, .null, .null, .null, .null, .null, .null, .null, .null, .int (0 : Int32), .null])), (q14, .inl (cI, 24, .inl (fun _ => 0))), (q22, .inl (cI, 24, .inl (fun _ => 0)))] := hD
  refine lv_aload_n hx hb d_M_init_27 rfl (lv_at hl 0 rfl) ?_
  refine lv_bipush (v := (24 : Int32)) hx hb d_M_init_28 (by decide) ?_
  refine x_newI (N := 24) hx hb (hts _ k_95) hK hP hD hS hA (by decide) (by decide) (by decide) (Nat.le_of_ble_eq_true rfl) (Nat.le_of_ble_eq_true rfl) d_M_init_30 (fun q30 H hP hD hS => ?_)
  have hP : va_P (dC, dI) vwCl [(h0, .inr (4, [.int (0 : Int32), .int (0 : Int32), .int (600 : Int32), .int (0 : Int32), .ref q14, .ref q22, .null, .null, .null, .null, .null, .null, .null, .null, .null, .int (0 : Int32), .null, .null, .null, .null, .null, .null, .null, .null, .null, .int (0 : Int32), .null])), (q14, .inl (cI, 24, .inl (fun _ => 0))), (q22, .inl (cI, 24, .inl (fun _ => 0))), (q30, .inl (cI, 24, .inl (fun _ => 0)))] H := hP
  have hD : va_D A [(h0, .inr (4, [.int (0 : Int32), .int (0 : Int32), .int (600 : Int32), .int (0 : Int32), .ref q14, .ref q22, .null, .null, .null, .null, .null, .null, .null, .null, .null, .int (0 : Int32), .null, .null, .null, .null, .null, .null, .null, .null, .null, .int (0 : Int32), .null])), (q14, .inl (cI, 24, .inl (fun _ => 0))), (q22, .inl (cI, 24, .inl (fun _ => 0))), (q30, .inl (cI, 24, .inl (fun _ => 0)))] := hD
  refine va_putF (D := (dC, dI)) (ci := 4) (v := .ref q30) (ty := (.array .int)) (C := "ReleaseRowsModel") (T := T_M) (N := 27) hx hb hts in_M ty_M tyok_M nm_M hown hK hP hD hS 0 rfl rfl 6 (by decide) (hts _ k_582) (fun _ h9 => h9) rfl hin rfl (by decide +kernel) rfl rfl (Nat.le_of_ble_eq_true rfl) d_M_init_32 (fun H locs hP hD hS => ?_)
  have hP : va_P (dC, dI) vwCl [(h0, .inr (4, [.int (0 : Int32), .int (0 : Int32), .int (600 : Int32), .int (0 : Int32), .ref q14, .ref q22, .ref q30, .null, .null, .null, .null, .null, .null, .null, .null, .int (0 : Int32), .null, .null, .null, .null, .null, .null, .null, .null, .null, .int (0 : Int32), .null])), (q14, .inl (cI, 24, .inl (fun _ => 0))), (q22, .inl (cI, 24, .inl (fun _ => 0))), (q30, .inl (cI, 24, .inl (fun _ => 0)))] H := hP
  have hD : va_D A [(h0, .inr (4, [.int (0 : Int32), .int (0 : Int32), .int (600 : Int32), .int (0 : Int32), .ref q14, .ref q22, .ref q30, .null, .null, .null, .null, .null, .null, .null, .null, .int (0 : Int32), .null, .null, .null, .null, .null, .null, .null, .null, .null, .int (0 : Int32), .null])), (q14, .inl (cI, 24, .inl (fun _ => 0))), (q22, .inl (cI, 24, .inl (fun _ => 0))), (q30, .inl (cI, 24, .inl (fun _ => 0)))] := hD
  refine lv_aload_n hx hb d_M_init_35 rfl (lv_at hl 0 rfl) ?_
  refine lv_bipush (v := (24 : Int32)) hx hb d_M_init_36 (by decide) ?_
  refine x_newI (N := 24) hx hb (hts _ k_95) hK hP hD hS hA (by decide) (by decide) (by decide) (Nat.le_of_ble_eq_true rfl) (Nat.le_of_ble_eq_true rfl) d_M_init_38 (fun q38 H hP hD hS => ?_)
  have hP : va_P (dC, dI) vwCl [(h0, .inr (4, [.int (0 : Int32), .int (0 : Int32), .int (600 : Int32), .int (0 : Int32), .ref q14, .ref q22, .ref q30, .null, .null, .null, .null, .null, .null, .null, .null, .int (0 : Int32), .null, .null, .null, .null, .null, .null, .null, .null, .null, .int (0 : Int32), .null])), (q14, .inl (cI, 24, .inl (fun _ => 0))), (q22, .inl (cI, 24, .inl (fun _ => 0))), (q30, .inl (cI, 24, .inl (fun _ => 0))), (q38, .inl (cI, 24, .inl (fun _ => 0)))] H := hP
  have hD : va_D A [(h0, .inr (4, [.int (0 : Int32), .int (0 : Int32), .int (600 : Int32), .int (0 : Int32), .ref q14, .ref q22, .ref q30, .null, .null, .null, .null, .null, .null, .null, .null, .int (0 : Int32), .null, .null, .null, .null, .null, .null, .null, .null, .null, .int (0 : Int32), .null])), (q14, .inl (cI, 24, .inl (fun _ => 0))), (q22, .inl (cI, 24, .inl (fun _ => 0))), (q30, .inl (cI, 24, .inl (fun _ => 0))), (q38, .inl (cI, 24, .inl (fun _ => 0)))] := hD
  refine va_putF (D := (dC, dI)) (ci := 4) (v := .ref q38) (ty := (.array .int)) (C := "ReleaseRowsModel") (T := T_M) (N := 27) hx hb hts in_M ty_M tyok_M nm_M hown hK hP hD hS 0 rfl rfl 7 (by decide) (hts _ k_583) (fun _ h9 => h9) rfl hin rfl (by decide +kernel) rfl rfl (Nat.le_of_ble_eq_true rfl) d_M_init_40 (fun H locs hP hD hS => ?_)
  have hP : va_P (dC, dI) vwCl [(h0, .inr (4, [.int (0 : Int32), .int (0 : Int32), .int (600 : Int32), .int (0 : Int32), .ref q14, .ref q22, .ref q30, .ref q38, .null, .null, .null, .null, .null, .null, .null, .int (0 : Int32), .null, .null, .null, .null, .null, .null, .null, .null, .null, .int (0 : Int32), .null])), (q14, .inl (cI, 24, .inl (fun _ => 0))), (q22, .inl (cI, 24, .inl (fun _ => 0))), (q30, .inl (cI, 24, .inl (fun _ => 0))), (q38, .inl (cI, 24, .inl (fun _ => 0)))] H := hP
  have hD : va_D A [(h0, .inr (4, [.int (0 : Int32), .int (0 : Int32), .int (600 : Int32), .int (0 : Int32), .ref q14, .ref q22, .ref q30, .ref q38, .null, .null, .null, .null, .null, .null, .null, .int (0 : Int32), .null, .null, .null, .null, .null, .null, .null, .null, .null, .int (0 : Int32), .null])), (q14, .inl (cI, 24, .inl (fun _ => 0))), (q22, .inl (cI, 24, .inl (fun _ => 0))), (q30, .inl (cI, 24, .inl (fun _ => 0))), (q38, .inl (cI, 24, .inl (fun _ => 0)))] := hD
  refine lv_aload_n hx hb d_M_init_43 rfl (lv_at hl 0 rfl) ?_
  refine lv_bipush (v := (24 : Int32)) hx hb d_M_init_44 (by decide) ?_
  refine x_newI (N := 24) hx hb (hts _ k_95) hK hP hD hS hA (by decide) (by decide) (by decide) (Nat.le_of_ble_eq_true rfl) (Nat.le_of_ble_eq_true rfl) d_M_init_46 (fun q46 H hP hD hS => ?_)
  have hP : va_P (dC, dI) vwCl [(h0, .inr (4, [.int (0 : Int32), .int (0 : Int32), .int (600 : Int32), .int (0 : Int32), .ref q14, .ref q22, .ref q30, .ref q38, .null, .null, .null, .null, .null, .null, .null, .int (0 : Int32), .null, .null, .null, .null, .null, .null, .null, .null, .null, .int (0 : Int32), .null])), (q14, .inl (cI, 24, .inl (fun _ => 0))), (q22, .inl (cI, 24, .inl (fun _ => 0))), (q30, .inl (cI, 24, .inl (fun _ => 0))), (q38, .inl (cI, 24, .inl (fun _ => 0))), (q46, .inl (cI, 24, .inl (fun _ => 0)))] H := hP
  have hD : va_D A [(h0, .inr (4, [.int (0 : Int32), .int (0 : Int32), .int (600 : Int32), .int (0 : Int32), .ref q14, .ref q22, .ref q30, .ref q38, .null, .null, .null, .null, .null, .null, .null, .int (0 : Int32), .null, .null, .null, .null, .null, .null, .null, .null, .null, .int (0 : Int32), .null])), (q14, .inl (cI, 24, .inl (fun _ => 0))), (q22, .inl (cI, 24, .inl (fun _ => 0))), (q30, .inl (cI, 24, .inl (fun _ => 0))), (q38, .inl (cI, 24, .inl (fun _ => 0))), (q46, .inl (cI, 24, .inl (fun _ => 0)))] := hD
  refine va_putF (D := (dC, dI)) (ci := 4) (v := .ref q46) (ty := (.array .int)) (C := "ReleaseRowsModel") (T := T_M) (N := 27) hx hb hts in_M ty_M tyok_M nm_M hown hK hP hD hS 0 rfl rfl 8 (by decide) (hts _ k_584) (fun _ h9 => h9) rfl hin rfl (by decide +kernel) rfl rfl (Nat.le_of_ble_eq_true rfl) d_M_init_48 (fun H locs hP hD hS => ?_)
  have hP : va_P (dC, dI) vwCl [(h0, .inr (4, [.int (0 : Int32), .int (0 : Int32), .int (600 : Int32), .int (0 : Int32), .ref q14, .ref q22, .ref q30, .ref q38, .ref q46, .null, .null, .null, .null, .null, .null, .int (0 : Int32), .null, .null, .null, .null, .null, .null, .null, .null, .null, .int (0 : Int32), .null])), (q14, .inl (cI, 24, .inl (fun _ => 0))), (q22, .inl (cI, 24, .inl (fun _ => 0))), (q30, .inl (cI, 24, .inl (fun _ => 0))), (q38, .inl (cI, 24, .inl (fun _ => 0))), (q46, .inl (cI, 24, .inl (fun _ => 0)))] H := hP
  have hD : va_D A [(h0, .inr (4, [.int (0 : Int32), .int (0 : Int32), .int (600 : Int32), .int (0 : Int32), .ref q14, .ref q22, .ref q30, .ref q38, .ref q46, .null, .null, .null, .null, .null, .null, .int (0 : Int32), .null, .null, .null, .null, .null, .null, .null, .null, .null, .int (0 : Int32), .null])), (q14, .inl (cI, 24, .inl (fun _ => 0))), (q22, .inl (cI, 24, .inl (fun _ => 0))), (q30, .inl (cI, 24, .inl (fun _ => 0))), (q38, .inl (cI, 24, .inl (fun _ => 0))), (q46, .inl (cI, 24, .inl (fun _ => 0)))] := hD
  refine lv_aload_n hx hb d_M_init_51 rfl (lv_at hl 0 rfl) ?_
  refine lv_bipush (v := (24 : Int32)) hx hb d_M_init_52 (by decide) ?_
  refine x_newI (N := 24) hx hb (hts _ k_95) hK hP hD hS hA (by decide) (by decide) (by decide) (Nat.le_of_ble_eq_true rfl) (Nat.le_of_ble_eq_true rfl) d_M_init_54 (fun q54 H hP hD hS => ?_)
  have hP : va_P (dC, dI) vwCl [(h0, .inr (4, [.int (0 : Int32), .int (0 : Int32), .int (600 : Int32), .int (0 : Int32), .ref q14, .ref q22, .ref q30, .ref q38, .ref q46, .null, .null, .null, .null, .null, .null, .int (0 : Int32), .null, .null, .null, .null, .null, .null, .null, .null, .null, .int (0 : Int32), .null])), (q14, .inl (cI, 24, .inl (fun _ => 0))), (q22, .inl (cI, 24, .inl (fun _ => 0))), (q30, .inl (cI, 24, .inl (fun _ => 0))), (q38, .inl (cI, 24, .inl (fun _ => 0))), (q46, .inl (cI, 24, .inl (fun _ => 0))), (q54, .inl (cI, 24, .inl (fun _ => 0)))] H := hP
  have hD : va_D A [(h0, .inr (4, [.int (0 : Int32), .int (0 : Int32), .int (600 : Int32), .int (0 : Int32), .ref q14, .ref q22, .ref q30, .ref q38, .ref q46, .null, .null, .null, .null, .null, .null, .int (0 : Int32), .null, .null, .null, .null, .null, .null, .null, .null, .null, .int (0 : Int32), .null])), (q14, .inl (cI, 24, .inl (fun _ => 0))), (q22, .inl (cI, 24, .inl (fun _ => 0))), (q30, .inl (cI, 24, .inl (fun _ => 0))), (q38, .inl (cI, 24, .inl (fun _ => 0))), (q46, .inl (cI, 24, .inl (fun _ => 0))), (q54, .inl (cI, 24, .inl (fun _ => 0)))] := hD
  refine va_putF (D := (dC, dI)) (ci := 4) (v := .ref q54) (ty := (.array .int)) (C := "ReleaseRowsModel") (T := T_M) (N := 27) hx hb hts in_M ty_M tyok_M nm_M hown hK hP hD hS 0 rfl rfl 9 (by decide) (hts _ k_585) (fun _ h9 => h9) rfl hin rfl (by decide +kernel) rfl rfl (Nat.le_of_ble_eq_true rfl) d_M_init_56 (fun H locs hP hD hS => ?_)
  have hP : va_P (dC, dI) vwCl [(h0, .inr (4, [.int (0 : Int32), .int (0 : Int32), .int (600 : Int32), .int (0 : Int32), .ref q14, .ref q22, .ref q30, .ref q38, .ref q46, .ref q54, .null, .null, .null, .null, .null, .int (0 : Int32), .null, .null, .null, .null, .null, .null, .null, .null, .null, .int (0 : Int32), .null])), (q14, .inl (cI, 24, .inl (fun _ => 0))), (q22, .inl (cI, 24, .inl (fun _ => 0))), (q30, .inl (cI, 24, .inl (fun _ => 0))), (q38, .inl (cI, 24, .inl (fun _ => 0))), (q46, .inl (cI, 24, .inl (fun _ => 0))), (q54, .inl (cI, 24, .inl (fun _ => 0)))] H := hP
  have hD : va_D A [(h0, .inr (4, [.int (0 : Int32), .int (0 : Int32), .int (600 : Int32), .int (0 : Int32), .ref q14, .ref q22, .ref q30, .ref q38, .ref q46, .ref q54, .null, .null, .null, .null, .null, .int (0 : Int32), .null, .null, .null, .null, .null, .null, .null, .null, .null, .int (0 : Int32), .null])), (q14, .inl (cI, 24, .inl (fun _ => 0))), (q22, .inl (cI, 24, .inl (fun _ => 0))), (q30, .inl (cI, 24, .inl (fun _ => 0))), (q38, .inl (cI, 24, .inl (fun _ => 0))), (q46, .inl (cI, 24, .inl (fun _ => 0))), (q54, .inl (cI, 24, .inl (fun _ => 0)))] := hD
  refine lv_aload_n hx hb d_M_init_59 rfl (lv_at hl 0 rfl) ?_
  refine lv_bipush (v := (24 : Int32)) hx hb d_M_init_60 (by decide) ?_
  refine x_newI (N := 24) hx hb (hts _ k_95) hK hP hD hS hA (by decide) (by decide) (by decide) (Nat.le_of_ble_eq_true rfl) (Nat.le_of_ble_eq_true rfl) d_M_init_62 (fun q62 H hP hD hS => ?_)
  have hP : va_P (dC, dI) vwCl [(h0, .inr (4, [.int (0 : Int32), .int (0 : Int32), .int (600 : Int32), .int (0 : Int32), .ref q14, .ref q22, .ref q30, .ref q38, .ref q46, .ref q54, .null, .null, .null, .null, .null, .int (0 : Int32), .null, .null, .null, .null, .null, .null, .null, .null, .null, .int (0 : Int32), .null])), (q14, .inl (cI, 24, .inl (fun _ => 0))), (q22, .inl (cI, 24, .inl (fun _ => 0))), (q30, .inl (cI, 24, .inl (fun _ => 0))), (q38, .inl (cI, 24, .inl (fun _ => 0))), (q46, .inl (cI, 24, .inl (fun _ => 0))), (q54, .inl (cI, 24, .inl (fun _ => 0))), (q62, .inl (cI, 24, .inl (fun _ => 0)))] H := hP
  have hD : va_D A [(h0, .inr (4, [.int (0 : Int32), .int (0 : Int32), .int (600 : Int32), .int (0 : Int32), .ref q14, .ref q22, .ref q30, .ref q38, .ref q46, .ref q54, .null, .null, .null, .null, .null, .int (0 : Int32), .null, .null, .null, .null, .null, .null, .null, .null, .null, .int (0 : Int32), .null])), (q14, .inl (cI, 24, .inl (fun _ => 0))), (q22, .inl (cI, 24, .inl (fun _ => 0))), (q30, .inl (cI, 24, .inl (fun _ => 0))), (q38, .inl (cI, 24, .inl (fun _ => 0))), (q46, .inl (cI, 24, .inl (fun _ => 0))), (q54, .inl (cI, 24, .inl (fun _ => 0))), (q62, .inl (cI, 24, .inl (fun _ => 0)))] := hD
  refine va_putF (D := (dC, dI)) (ci := 4) (v := .ref q62) (ty := (.array .int)) (C := "ReleaseRowsModel") (T := T_M) (N := 27) hx hb hts in_M ty_M tyok_M nm_M hown hK hP hD hS 0 rfl rfl 10 (by decide) (hts _ k_586) (fun _ h9 => h9) rfl hin rfl (by decide +kernel) rfl rfl (Nat.le_of_ble_eq_true rfl) d_M_init_64 (fun H locs hP hD hS => ?_)
  have hP : va_P (dC, dI) vwCl [(h0, .inr (4, [.int (0 : Int32), .int (0 : Int32), .int (600 : Int32), .int (0 : Int32), .ref q14, .ref q22, .ref q30, .ref q38, .ref q46, .ref q54, .ref q62, .null, .null, .null, .null, .int (0 : Int32), .null, .null, .null, .null, .null, .null, .null, .null, .null, .int (0 : Int32), .null])), (q14, .inl (cI, 24, .inl (fun _ => 0))), (q22, .inl (cI, 24, .inl (fun _ => 0))), (q30, .inl (cI, 24, .inl (fun _ => 0))), (q38, .inl (cI, 24, .inl (fun _ => 0))), (q46, .inl (cI, 24, .inl (fun _ => 0))), (q54, .inl (cI, 24, .inl (fun _ => 0))), (q62, .inl (cI, 24, .inl (fun _ => 0)))] H := hP
  have hD : va_D A [(h0, .inr (4, [.int (0 : Int32), .int (0 : Int32), .int (600 : Int32), .int (0 : Int32), .ref q14, .ref q22, .ref q30, .ref q38, .ref q46, .ref q54, .ref q62, .null, .null, .null, .null, .int (0 : Int32), .null, .null, .null, .null, .null, .null, .null, .null, .null, .int (0 : Int32), .null])), (q14, .inl (cI, 24, .inl (fun _ => 0))), (q22, .inl (cI, 24, .inl (fun _ => 0))), (q30, .inl (cI, 24, .inl (fun _ => 0))), (q38, .inl (cI, 24, .inl (fun _ => 0))), (q46, .inl (cI, 24, .inl (fun _ => 0))), (q54, .inl (cI, 24, .inl (fun _ => 0))), (q62, .inl (cI, 24, .inl (fun _ => 0)))] := hD
  refine lv_aload_n hx hb d_M_init_67 rfl (lv_at hl 0 rfl) ?_
  refine lv_bipush (v := (24 : Int32)) hx hb d_M_init_68 (by decide) ?_
  refine x_newI (N := 24) hx hb (hts _ k_95) hK hP hD hS hA (by decide) (by decide) (by decide) (Nat.le_of_ble_eq_true rfl) (Nat.le_of_ble_eq_true rfl) d_M_init_70 (fun q70 H hP hD hS => ?_)
  have hP : va_P (dC, dI) vwCl [(h0, .inr (4, [.int (0 : Int32), .int (0 : Int32), .int (600 : Int32), .int (0 : Int32), .ref q14, .ref q22, .ref q30, .ref q38, .ref q46, .ref q54, .ref q62, .null, .null, .null, .null, .int (0 : Int32), .null, .null, .null, .null, .null, .null, .null, .null, .null, .int (0 : Int32), .null])), (q14, .inl (cI, 24, .inl (fun _ => 0))), (q22, .inl (cI, 24, .inl (fun _ => 0))), (q30, .inl (cI, 24, .inl (fun _ => 0))), (q38, .inl (cI, 24, .inl (fun _ => 0))), (q46, .inl (cI, 24, .inl (fun _ => 0))), (q54, .inl (cI, 24, .inl (fun _ => 0))), (q62, .inl (cI, 24, .inl (fun _ => 0))), (q70, .inl (cI, 24, .inl (fun _ => 0)))] H := hP
  have hD : va_D A [(h0, .inr (4, [.int (0 : Int32), .int (0 : Int32), .int (600 : Int32), .int (0 : Int32), .ref q14, .ref q22, .ref q30, .ref q38, .ref q46, .ref q54, .ref q62, .null, .null, .null, .null, .int (0 : Int32), .null, .null, .null, .null, .null, .null, .null, .null, .null, .int (0 : Int32), .null])), (q14, .inl (cI, 24, .inl (fun _ => 0))), (q22, .inl (cI, 24, .inl (fun _ => 0))), (q30, .inl (cI, 24, .inl (fun _ => 0))), (q38, .inl (cI, 24, .inl (fun _ => 0))), (q46, .inl (cI, 24, .inl (fun _ => 0))), (q54, .inl (cI, 24, .inl (fun _ => 0))), (q62, .inl (cI, 24, .inl (fun _ => 0))), (q70, .inl (cI, 24, .inl (fun _ => 0)))] := hD
  refine va_putF (D := (dC, dI)) (ci := 4) (v := .ref q70) (ty := (.array .int)) (C := "ReleaseRowsModel") (T := T_M) (N := 27) hx hb hts in_M ty_M tyok_M nm_M hown hK hP hD hS 0 rfl rfl 11 (by decide) (hts _ k_587) (fun _ h9 => h9) rfl hin rfl (by decide +kernel) rfl rfl (Nat.le_of_ble_eq_true rfl) d_M_init_72 (fun H locs hP hD hS => ?_)
  have hP : va_P (dC, dI) vwCl [(h0, .inr (4, [.int (0 : Int32), .int (0 : Int32), .int (600 : Int32), .int (0 : Int32), .ref q14, .ref q22, .ref q30, .ref q38, .ref q46, .ref q54, .ref q62, .ref q70, .null, .null, .null, .int (0 : Int32), .null, .null, .null, .null, .null, .null, .null, .null, .null, .int (0 : Int32), .null])), (q14, .inl (cI, 24, .inl (fun _ => 0))), (q22, .inl (cI, 24, .inl (fun _ => 0))), (q30, .inl (cI, 24, .inl (fun _ => 0))), (q38, .inl (cI, 24, .inl (fun _ => 0))), (q46, .inl (cI, 24, .inl (fun _ => 0))), (q54, .inl (cI, 24, .inl (fun _ => 0))), (q62, .inl (cI, 24, .inl (fun _ => 0))), (q70, .inl (cI, 24, .inl (fun _ => 0)))] H := hP
  have hD : va_D A [(h0, .inr (4, [.int (0 : Int32), .int (0 : Int32), .int (600 : Int32), .int (0 : Int32), .ref q14, .ref q22, .ref q30, .ref q38, .ref q46, .ref q54, .ref q62, .ref q70, .null, .null, .null, .int (0 : Int32), .null, .null, .null, .null, .null, .null, .null, .null, .null, .int (0 : Int32), .null])), (q14, .inl (cI, 24, .inl (fun _ => 0))), (q22, .inl (cI, 24, .inl (fun _ => 0))), (q30, .inl (cI, 24, .inl (fun _ => 0))), (q38, .inl (cI, 24, .inl (fun _ => 0))), (q46, .inl (cI, 24, .inl (fun _ => 0))), (q54, .inl (cI, 24, .inl (fun _ => 0))), (q62, .inl (cI, 24, .inl (fun _ => 0))), (q70, .inl (cI, 24, .inl (fun _ => 0)))] := hD
  refine lv_aload_n hx hb d_M_init_75 rfl (lv_at hl 0 rfl) ?_
  refine lv_bipush (v := (24 : Int32)) hx hb d_M_init_76 (by decide) ?_
  refine x_newI (N := 24) hx hb (hts _ k_95) hK hP hD hS hA (by decide) (by decide) (by decide) (Nat.le_of_ble_eq_true rfl) (Nat.le_of_ble_eq_true rfl) d_M_init_78 (fun q78 H hP hD hS => ?_)
  have hP : va_P (dC, dI) vwCl [(h0, .inr (4, [.int (0 : Int32), .int (0 : Int32), .int (600 : Int32), .int (0 : Int32), .ref q14, .ref q22, .ref q30, .ref q38, .ref q46, .ref q54, .ref q62, .ref q70, .null, .null, .null, .int (0 : Int32), .null, .null, .null, .null, .null, .null, .null, .null, .null, .int (0 : Int32), .null])), (q14, .inl (cI, 24, .inl (fun _ => 0))), (q22, .inl (cI, 24, .inl (fun _ => 0))), (q30, .inl (cI, 24, .inl (fun _ => 0))), (q38, .inl (cI, 24, .inl (fun _ => 0))), (q46, .inl (cI, 24, .inl (fun _ => 0))), (q54, .inl (cI, 24, .inl (fun _ => 0))), (q62, .inl (cI, 24, .inl (fun _ => 0))), (q70, .inl (cI, 24, .inl (fun _ => 0))), (q78, .inl (cI, 24, .inl (fun _ => 0)))] H := hP
  have hD : va_D A [(h0, .inr (4, [.int (0 : Int32), .int (0 : Int32), .int (600 : Int32), .int (0 : Int32), .ref q14, .ref q22, .ref q30, .ref q38, .ref q46, .ref q54, .ref q62, .ref q70, .null, .null, .null, .int (0 : Int32), .null, .null, .null, .null, .null, .null, .null, .null, .null, .int (0 : Int32), .null])), (q14, .inl (cI, 24, .inl (fun _ => 0))), (q22, .inl (cI, 24, .inl (fun _ => 0))), (q30, .inl (cI, 24, .inl (fun _ => 0))), (q38, .inl (cI, 24, .inl (fun _ => 0))), (q46, .inl (cI, 24, .inl (fun _ => 0))), (q54, .inl (cI, 24, .inl (fun _ => 0))), (q62, .inl (cI, 24, .inl (fun _ => 0))), (q70, .inl (cI, 24, .inl (fun _ => 0))), (q78, .inl (cI, 24, .inl (fun _ => 0)))] := hD
  refine va_putF (D := (dC, dI)) (ci := 4) (v := .ref q78) (ty := (.array .int)) (C := "ReleaseRowsModel") (T := T_M) (N := 27) hx hb hts in_M ty_M tyok_M nm_M hown hK hP hD hS 0 rfl rfl 12 (by decide) (hts _ k_588) (fun _ h9 => h9) rfl hin rfl (by decide +kernel) rfl rfl (Nat.le_of_ble_eq_true rfl) d_M_init_80 (fun H locs hP hD hS => ?_)
  have hP : va_P (dC, dI) vwCl [(h0, .inr (4, [.int (0 : Int32), .int (0 : Int32), .int (600 : Int32), .int (0 : Int32), .ref q14, .ref q22, .ref q30, .ref q38, .ref q46, .ref q54, .ref q62, .ref q70, .ref q78, .null, .null, .int (0 : Int32), .null, .null, .null, .null, .null, .null, .null, .null, .null, .int (0 : Int32), .null])), (q14, .inl (cI, 24, .inl (fun _ => 0))), (q22, .inl (cI, 24, .inl (fun _ => 0))), (q30, .inl (cI, 24, .inl (fun _ => 0))), (q38, .inl (cI, 24, .inl (fun _ => 0))), (q46, .inl (cI, 24, .inl (fun _ => 0))), (q54, .inl (cI, 24, .inl (fun _ => 0))), (q62, .inl (cI, 24, .inl (fun _ => 0))), (q70, .inl (cI, 24, .inl (fun _ => 0))), (q78, .inl (cI, 24, .inl (fun _ => 0)))] H := hP
  have hD : va_D A [(h0, .inr (4, [.int (0 : Int32), .int (0 : Int32), .int (600 : Int32), .int (0 : Int32), .ref q14, .ref q22, .ref q30, .ref q38, .ref q46, .ref q54, .ref q62, .ref q70, .ref q78, .null, .null, .int (0 : Int32), .null, .null, .null, .null, .null, .null, .null, .null, .null, .int (0 : Int32), .null])), (q14, .inl (cI, 24, .inl (fun _ => 0))), (q22, .inl (cI, 24, .inl (fun _ => 0))), (q30, .inl (cI, 24, .inl (fun _ => 0))), (q38, .inl (cI, 24, .inl (fun _ => 0))), (q46, .inl (cI, 24, .inl (fun _ => 0))), (q54, .inl (cI, 24, .inl (fun _ => 0))), (q62, .inl (cI, 24, .inl (fun _ => 0))), (q70, .inl (cI, 24, .inl (fun _ => 0))), (q78, .inl (cI, 24, .inl (fun _ => 0)))] := hD
  refine lv_aload_n hx hb d_M_init_83 rfl (lv_at hl 0 rfl) ?_
  refine lv_sipush (v := (144 : Int32)) hx hb d_M_init_84 (by decide) ?_
  refine x_newI (N := 144) hx hb (hts _ k_95) hK hP hD hS hA (by decide) (by decide) (by decide) (Nat.le_of_ble_eq_true rfl) (Nat.le_of_ble_eq_true rfl) d_M_init_87 (fun q87 H hP hD hS => ?_)
  have hP : va_P (dC, dI) vwCl [(h0, .inr (4, [.int (0 : Int32), .int (0 : Int32), .int (600 : Int32), .int (0 : Int32), .ref q14, .ref q22, .ref q30, .ref q38, .ref q46, .ref q54, .ref q62, .ref q70, .ref q78, .null, .null, .int (0 : Int32), .null, .null, .null, .null, .null, .null, .null, .null, .null, .int (0 : Int32), .null])), (q14, .inl (cI, 24, .inl (fun _ => 0))), (q22, .inl (cI, 24, .inl (fun _ => 0))), (q30, .inl (cI, 24, .inl (fun _ => 0))), (q38, .inl (cI, 24, .inl (fun _ => 0))), (q46, .inl (cI, 24, .inl (fun _ => 0))), (q54, .inl (cI, 24, .inl (fun _ => 0))), (q62, .inl (cI, 24, .inl (fun _ => 0))), (q70, .inl (cI, 24, .inl (fun _ => 0))), (q78, .inl (cI, 24, .inl (fun _ => 0))), (q87, .inl (cI, 144, .inl (fun _ => 0)))] H := hP
  have hD : va_D A [(h0, .inr (4, [.int (0 : Int32), .int (0 : Int32), .int (600 : Int32), .int (0 : Int32), .ref q14, .ref q22, .ref q30, .ref q38, .ref q46, .ref q54, .ref q62, .ref q70, .ref q78, .null, .null, .int (0 : Int32), .null, .null, .null, .null, .null, .null, .null, .null, .null, .int (0 : Int32), .null])), (q14, .inl (cI, 24, .inl (fun _ => 0))), (q22, .inl (cI, 24, .inl (fun _ => 0))), (q30, .inl (cI, 24, .inl (fun _ => 0))), (q38, .inl (cI, 24, .inl (fun _ => 0))), (q46, .inl (cI, 24, .inl (fun _ => 0))), (q54, .inl (cI, 24, .inl (fun _ => 0))), (q62, .inl (cI, 24, .inl (fun _ => 0))), (q70, .inl (cI, 24, .inl (fun _ => 0))), (q78, .inl (cI, 24, .inl (fun _ => 0))), (q87, .inl (cI, 144, .inl (fun _ => 0)))] := hD
  refine va_putF (D := (dC, dI)) (ci := 4) (v := .ref q87) (ty := (.array .int)) (C := "ReleaseRowsModel") (T := T_M) (N := 27) hx hb hts in_M ty_M tyok_M nm_M hown hK hP hD hS 0 rfl rfl 13 (by decide) (hts _ k_589) (fun _ h9 => h9) rfl hin rfl (by decide +kernel) rfl rfl (Nat.le_of_ble_eq_true rfl) d_M_init_89 (fun H locs hP hD hS => ?_)
  have hP : va_P (dC, dI) vwCl [(h0, .inr (4, [.int (0 : Int32), .int (0 : Int32), .int (600 : Int32), .int (0 : Int32), .ref q14, .ref q22, .ref q30, .ref q38, .ref q46, .ref q54, .ref q62, .ref q70, .ref q78, .ref q87, .null, .int (0 : Int32), .null, .null, .null, .null, .null, .null, .null, .null, .null, .int (0 : Int32), .null])), (q14, .inl (cI, 24, .inl (fun _ => 0))), (q22, .inl (cI, 24, .inl (fun _ => 0))), (q30, .inl (cI, 24, .inl (fun _ => 0))), (q38, .inl (cI, 24, .inl (fun _ => 0))), (q46, .inl (cI, 24, .inl (fun _ => 0))), (q54, .inl (cI, 24, .inl (fun _ => 0))), (q62, .inl (cI, 24, .inl (fun _ => 0))), (q70, .inl (cI, 24, .inl (fun _ => 0))), (q78, .inl (cI, 24, .inl (fun _ => 0))), (q87, .inl (cI, 144, .inl (fun _ => 0)))] H := hP
  have hD : va_D A [(h0, .inr (4, [.int (0 : Int32), .int (0 : Int32), .int (600 : Int32), .int (0 : Int32), .ref q14, .ref q22, .ref q30, .ref q38, .ref q46, .ref q54, .ref q62, .ref q70, .ref q78, .ref q87, .null, .int (0 : Int32), .null, .null, .null, .null, .null, .null, .null, .null, .null, .int (0 : Int32), .null])), (q14, .inl (cI, 24, .inl (fun _ => 0))), (q22, .inl (cI, 24, .inl (fun _ => 0))), (q30, .inl (cI, 24, .inl (fun _ => 0))), (q38, .inl (cI, 24, .inl (fun _ => 0))), (q46, .inl (cI, 24, .inl (fun _ => 0))), (q54, .inl (cI, 24, .inl (fun _ => 0))), (q62, .inl (cI, 24, .inl (fun _ => 0))), (q70, .inl (cI, 24, .inl (fun _ => 0))), (q78, .inl (cI, 24, .inl (fun _ => 0))), (q87, .inl (cI, 144, .inl (fun _ => 0)))] := hD
  refine lv_aload_n hx hb d_M_init_92 rfl (lv_at hl 0 rfl) ?_
  refine lv_bipush (v := (6 : Int32)) hx hb d_M_init_93 (by decide) ?_
  refine x_newI (N := 6) hx hb (hts _ k_95) hK hP hD hS hA (by decide) (by decide) (by decide) (Nat.le_of_ble_eq_true rfl) (Nat.le_of_ble_eq_true rfl) d_M_init_95 (fun q95 H hP hD hS => ?_)
  have hP : va_P (dC, dI) vwCl [(h0, .inr (4, [.int (0 : Int32), .int (0 : Int32), .int (600 : Int32), .int (0 : Int32), .ref q14, .ref q22, .ref q30, .ref q38, .ref q46, .ref q54, .ref q62, .ref q70, .ref q78, .ref q87, .null, .int (0 : Int32), .null, .null, .null, .null, .null, .null, .null, .null, .null, .int (0 : Int32), .null])), (q14, .inl (cI, 24, .inl (fun _ => 0))), (q22, .inl (cI, 24, .inl (fun _ => 0))), (q30, .inl (cI, 24, .inl (fun _ => 0))), (q38, .inl (cI, 24, .inl (fun _ => 0))), (q46, .inl (cI, 24, .inl (fun _ => 0))), (q54, .inl (cI, 24, .inl (fun _ => 0))), (q62, .inl (cI, 24, .inl (fun _ => 0))), (q70, .inl (cI, 24, .inl (fun _ => 0))), (q78, .inl (cI, 24, .inl (fun _ => 0))), (q87, .inl (cI, 144, .inl (fun _ => 0))), (q95, .inl (cI, 6, .inl (fun _ => 0)))] H := hP
  have hD : va_D A [(h0, .inr (4, [.int (0 : Int32), .int (0 : Int32), .int (600 : Int32), .int (0 : Int32), .ref q14, .ref q22, .ref q30, .ref q38, .ref q46, .ref q54, .ref q62, .ref q70, .ref q78, .ref q87, .null, .int (0 : Int32), .null, .null, .null, .null, .null, .null, .null, .null, .null, .int (0 : Int32), .null])), (q14, .inl (cI, 24, .inl (fun _ => 0))), (q22, .inl (cI, 24, .inl (fun _ => 0))), (q30, .inl (cI, 24, .inl (fun _ => 0))), (q38, .inl (cI, 24, .inl (fun _ => 0))), (q46, .inl (cI, 24, .inl (fun _ => 0))), (q54, .inl (cI, 24, .inl (fun _ => 0))), (q62, .inl (cI, 24, .inl (fun _ => 0))), (q70, .inl (cI, 24, .inl (fun _ => 0))), (q78, .inl (cI, 24, .inl (fun _ => 0))), (q87, .inl (cI, 144, .inl (fun _ => 0))), (q95, .inl (cI, 6, .inl (fun _ => 0)))] := hD
  refine va_putF (D := (dC, dI)) (ci := 4) (v := .ref q95) (ty := (.array .int)) (C := "ReleaseRowsModel") (T := T_M) (N := 27) hx hb hts in_M ty_M tyok_M nm_M hown hK hP hD hS 0 rfl rfl 14 (by decide) (hts _ k_590) (fun _ h9 => h9) rfl hin rfl (by decide +kernel) rfl rfl (Nat.le_of_ble_eq_true rfl) d_M_init_97 (fun H locs hP hD hS => ?_)
  have hP : va_P (dC, dI) vwCl [(h0, .inr (4, [.int (0 : Int32), .int (0 : Int32), .int (600 : Int32), .int (0 : Int32), .ref q14, .ref q22, .ref q30, .ref q38, .ref q46, .ref q54, .ref q62, .ref q70, .ref q78, .ref q87, .ref q95, .int (0 : Int32), .null, .null, .null, .null, .null, .null, .null, .null, .null, .int (0 : Int32), .null])), (q14, .inl (cI, 24, .inl (fun _ => 0))), (q22, .inl (cI, 24, .inl (fun _ => 0))), (q30, .inl (cI, 24, .inl (fun _ => 0))), (q38, .inl (cI, 24, .inl (fun _ => 0))), (q46, .inl (cI, 24, .inl (fun _ => 0))), (q54, .inl (cI, 24, .inl (fun _ => 0))), (q62, .inl (cI, 24, .inl (fun _ => 0))), (q70, .inl (cI, 24, .inl (fun _ => 0))), (q78, .inl (cI, 24, .inl (fun _ => 0))), (q87, .inl (cI, 144, .inl (fun _ => 0))), (q95, .inl (cI, 6, .inl (fun _ => 0)))] H := hP
  have hD : va_D A [(h0, .inr (4, [.int (0 : Int32), .int (0 : Int32), .int (600 : Int32), .int (0 : Int32), .ref q14, .ref q22, .ref q30, .ref q38, .ref q46, .ref q54, .ref q62, .ref q70, .ref q78, .ref q87, .ref q95, .int (0 : Int32), .null, .null, .null, .null, .null, .null, .null, .null, .null, .int (0 : Int32), .null])), (q14, .inl (cI, 24, .inl (fun _ => 0))), (q22, .inl (cI, 24, .inl (fun _ => 0))), (q30, .inl (cI, 24, .inl (fun _ => 0))), (q38, .inl (cI, 24, .inl (fun _ => 0))), (q46, .inl (cI, 24, .inl (fun _ => 0))), (q54, .inl (cI, 24, .inl (fun _ => 0))), (q62, .inl (cI, 24, .inl (fun _ => 0))), (q70, .inl (cI, 24, .inl (fun _ => 0))), (q78, .inl (cI, 24, .inl (fun _ => 0))), (q87, .inl (cI, 144, .inl (fun _ => 0))), (q95, .inl (cI, 6, .inl (fun _ => 0)))] := hD
  refine lv_aload_n hx hb d_M_init_100 rfl (lv_at hl 0 rfl) ?_
  refine lv_bipush (v := (20 : Int32)) hx hb d_M_init_101 (by decide) ?_
  refine x_newI (N := 20) hx hb (hts _ k_95) hK hP hD hS hA (by decide) (by decide) (by decide) (Nat.le_of_ble_eq_true rfl) (Nat.le_of_ble_eq_true rfl) d_M_init_103 (fun q103 H hP hD hS => ?_)
  have hP : va_P (dC, dI) vwCl [(h0, .inr (4, [.int (0 : Int32), .int (0 : Int32), .int (600 : Int32), .int (0 : Int32), .ref q14, .ref q22, .ref q30, .ref q38, .ref q46, .ref q54, .ref q62, .ref q70, .ref q78, .ref q87, .ref q95, .int (0 : Int32), .null, .null, .null, .null, .null, .null, .null, .null, .null, .int (0 : Int32), .null])), (q14, .inl (cI, 24, .inl (fun _ => 0))), (q22, .inl (cI, 24, .inl (fun _ => 0))), (q30, .inl (cI, 24, .inl (fun _ => 0))), (q38, .inl (cI, 24, .inl (fun _ => 0))), (q46, .inl (cI, 24, .inl (fun _ => 0))), (q54, .inl (cI, 24, .inl (fun _ => 0))), (q62, .inl (cI, 24, .inl (fun _ => 0))), (q70, .inl (cI, 24, .inl (fun _ => 0))), (q78, .inl (cI, 24, .inl (fun _ => 0))), (q87, .inl (cI, 144, .inl (fun _ => 0))), (q95, .inl (cI, 6, .inl (fun _ => 0))), (q103, .inl (cI, 20, .inl (fun _ => 0)))] H := hP
  have hD : va_D A [(h0, .inr (4, [.int (0 : Int32), .int (0 : Int32), .int (600 : Int32), .int (0 : Int32), .ref q14, .ref q22, .ref q30, .ref q38, .ref q46, .ref q54, .ref q62, .ref q70, .ref q78, .ref q87, .ref q95, .int (0 : Int32), .null, .null, .null, .null, .null, .null, .null, .null, .null, .int (0 : Int32), .null])), (q14, .inl (cI, 24, .inl (fun _ => 0))), (q22, .inl (cI, 24, .inl (fun _ => 0))), (q30, .inl (cI, 24, .inl (fun _ => 0))), (q38, .inl (cI, 24, .inl (fun _ => 0))), (q46, .inl (cI, 24, .inl (fun _ => 0))), (q54, .inl (cI, 24, .inl (fun _ => 0))), (q62, .inl (cI, 24, .inl (fun _ => 0))), (q70, .inl (cI, 24, .inl (fun _ => 0))), (q78, .inl (cI, 24, .inl (fun _ => 0))), (q87, .inl (cI, 144, .inl (fun _ => 0))), (q95, .inl (cI, 6, .inl (fun _ => 0))), (q103, .inl (cI, 20, .inl (fun _ => 0)))] := hD
  refine va_putF (D := (dC, dI)) (ci := 4) (v := .ref q103) (ty := (.array .int)) (C := "ReleaseRowsModel") (T := T_M) (N := 27) hx hb hts in_M ty_M tyok_M nm_M hown hK hP hD hS 0 rfl rfl 16 (by decide) (hts _ k_592) (fun _ h9 => h9) rfl hin rfl (by decide +kernel) rfl rfl (Nat.le_of_ble_eq_true rfl) d_M_init_105 (fun H locs hP hD hS => ?_)
  have hP : va_P (dC, dI) vwCl [(h0, .inr (4, [.int (0 : Int32), .int (0 : Int32), .int (600 : Int32), .int (0 : Int32), .ref q14, .ref q22, .ref q30, .ref q38, .ref q46, .ref q54, .ref q62, .ref q70, .ref q78, .ref q87, .ref q95, .int (0 : Int32), .ref q103, .null, .null, .null, .null, .null, .null, .null, .null, .int (0 : Int32), .null])), (q14, .inl (cI, 24, .inl (fun _ => 0))), (q22, .inl (cI, 24, .inl (fun _ => 0))), (q30, .inl (cI, 24, .inl (fun _ => 0))), (q38, .inl (cI, 24, .inl (fun _ => 0))), (q46, .inl (cI, 24, .inl (fun _ => 0))), (q54, .inl (cI, 24, .inl (fun _ => 0))), (q62, .inl (cI, 24, .inl (fun _ => 0))), (q70, .inl (cI, 24, .inl (fun _ => 0))), (q78, .inl (cI, 24, .inl (fun _ => 0))), (q87, .inl (cI, 144, .inl (fun _ => 0))), (q95, .inl (cI, 6, .inl (fun _ => 0))), (q103, .inl (cI, 20, .inl (fun _ => 0)))] H := hP
  have hD : va_D A [(h0, .inr (4, [.int (0 : Int32), .int (0 : Int32), .int (600 : Int32), .int (0 : Int32), .ref q14, .ref q22, .ref q30, .ref q38, .ref q46, .ref q54, .ref q62, .ref q70, .ref q78, .ref q87, .ref q95, .int (0 : Int32), .ref q103, .null, .null, .null, .null, .null, .null, .null, .null, .int (0 : Int32), .null])), (q14, .inl (cI, 24, .inl (fun _ => 0))), (q22, .inl (cI, 24, .inl (fun _ => 0))), (q30, .inl (cI, 24, .inl (fun _ => 0))), (q38, .inl (cI, 24, .inl (fun _ => 0))), (q46, .inl (cI, 24, .inl (fun _ => 0))), (q54, .inl (cI, 24, .inl (fun _ => 0))), (q62, .inl (cI, 24, .inl (fun _ => 0))), (q70, .inl (cI, 24, .inl (fun _ => 0))), (q78, .inl (cI, 24, .inl (fun _ => 0))), (q87, .inl (cI, 144, .inl (fun _ => 0))), (q95, .inl (cI, 6, .inl (fun _ => 0))), (q103, .inl (cI, 20, .inl (fun _ => 0)))] := hD
  refine lv_aload_n hx hb d_M_init_108 rfl (lv_at hl 0 rfl) ?_
  refine lv_bipush (v := (20 : Int32)) hx hb d_M_init_109 (by decide) ?_
  refine x_newZ (N := 20) hx hb (hts _ k_142) hK hP hD hS hA (by decide) (by decide) (by decide) (Nat.le_of_ble_eq_true rfl) (Nat.le_of_ble_eq_true rfl) d_M_init_111 (fun q111 H hP hD hS => ?_)
  have hP : va_P (dC, dI) vwCl [(h0, .inr (4, [.int (0 : Int32), .int (0 : Int32), .int (600 : Int32), .int (0 : Int32), .ref q14, .ref q22, .ref q30, .ref q38, .ref q46, .ref q54, .ref q62, .ref q70, .ref q78, .ref q87, .ref q95, .int (0 : Int32), .ref q103, .null, .null, .null, .null, .null, .null, .null, .null, .int (0 : Int32), .null])), (q14, .inl (cI, 24, .inl (fun _ => 0))), (q22, .inl (cI, 24, .inl (fun _ => 0))), (q30, .inl (cI, 24, .inl (fun _ => 0))), (q38, .inl (cI, 24, .inl (fun _ => 0))), (q46, .inl (cI, 24, .inl (fun _ => 0))), (q54, .inl (cI, 24, .inl (fun _ => 0))), (q62, .inl (cI, 24, .inl (fun _ => 0))), (q70, .inl (cI, 24, .inl (fun _ => 0))), (q78, .inl (cI, 24, .inl (fun _ => 0))), (q87, .inl (cI, 144, .inl (fun _ => 0))), (q95, .inl (cI, 6, .inl (fun _ => 0))), (q103, .inl (cI, 20, .inl (fun _ => 0))), (q111, .inl (cZ, 20, .inl (fun _ => 0)))] H := hP
  have hD : va_D A [(h0, .inr (4, [.int (0 : Int32), .int (0 : Int32), .int (600 : Int32), .int (0 : Int32), .ref q14, .ref q22, .ref q30, .ref q38, .ref q46, .ref q54, .ref q62, .ref q70, .ref q78, .ref q87, .ref q95, .int (0 : Int32), .ref q103, .null, .null, .null, .null, .null, .null, .null, .null, .int (0 : Int32), .null])), (q14, .inl (cI, 24, .inl (fun _ => 0))), (q22, .inl (cI, 24, .inl (fun _ => 0))), (q30, .inl (cI, 24, .inl (fun _ => 0))), (q38, .inl (cI, 24, .inl (fun _ => 0))), (q46, .inl (cI, 24, .inl (fun _ => 0))), (q54, .inl (cI, 24, .inl (fun _ => 0))), (q62, .inl (cI, 24, .inl (fun _ => 0))), (q70, .inl (cI, 24, .inl (fun _ => 0))), (q78, .inl (cI, 24, .inl (fun _ => 0))), (q87, .inl (cI, 144, .inl (fun _ => 0))), (q95, .inl (cI, 6, .inl (fun _ => 0))), (q103, .inl (cI, 20, .inl (fun _ => 0))), (q111, .inl (cZ, 20, .inl (fun _ => 0)))] := hD
  refine va_putF (D := (dC, dI)) (ci := 4) (v := .ref q111) (ty := (.array .boolean)) (C := "ReleaseRowsModel") (T := T_M) (N := 27) hx hb hts in_M ty_M tyok_M nm_M hown hK hP hD hS 0 rfl rfl 17 (by decide) (hts _ k_593) (fun _ h9 => h9) rfl hin rfl (by decide +kernel) rfl rfl (Nat.le_of_ble_eq_true rfl) d_M_init_113 (fun H locs hP hD hS => ?_)
  have hP : va_P (dC, dI) vwCl [(h0, .inr (4, [.int (0 : Int32), .int (0 : Int32), .int (600 : Int32), .int (0 : Int32), .ref q14, .ref q22, .ref q30, .ref q38, .ref q46, .ref q54, .ref q62, .ref q70, .ref q78, .ref q87, .ref q95, .int (0 : Int32), .ref q103, .ref q111, .null, .null, .null, .null, .null, .null, .null, .int (0 : Int32), .null])), (q14, .inl (cI, 24, .inl (fun _ => 0))), (q22, .inl (cI, 24, .inl (fun _ => 0))), (q30, .inl (cI, 24, .inl (fun _ => 0))), (q38, .inl (cI, 24, .inl (fun _ => 0))), (q46, .inl (cI, 24, .inl (fun _ => 0))), (q54, .inl (cI, 24, .inl (fun _ => 0))), (q62, .inl (cI, 24, .inl (fun _ => 0))), (q70, .inl (cI, 24, .inl (fun _ => 0))), (q78, .inl (cI, 24, .inl (fun _ => 0))), (q87, .inl (cI, 144, .inl (fun _ => 0))), (q95, .inl (cI, 6, .inl (fun _ => 0))), (q103, .inl (cI, 20, .inl (fun _ => 0))), (q111, .inl (cZ, 20, .inl (fun _ => 0)))] H := hP
  have hD : va_D A [(h0, .inr (4, [.int (0 : Int32), .int (0 : Int32), .int (600 : Int32), .int (0 : Int32), .ref q14, .ref q22, .ref q30, .ref q38, .ref q46, .ref q54, .ref q62, .ref q70, .ref q78, .ref q87, .ref q95, .int (0 : Int32), .ref q103, .ref q111, .null, .null, .null, .null, .null, .null, .null, .int (0 : Int32), .null])), (q14, .inl (cI, 24, .inl (fun _ => 0))), (q22, .inl (cI, 24, .inl (fun _ => 0))), (q30, .inl (cI, 24, .inl (fun _ => 0))), (q38, .inl (cI, 24, .inl (fun _ => 0))), (q46, .inl (cI, 24, .inl (fun _ => 0))), (q54, .inl (cI, 24, .inl (fun _ => 0))), (q62, .inl (cI, 24, .inl (fun _ => 0))), (q70, .inl (cI, 24, .inl (fun _ => 0))), (q78, .inl (cI, 24, .inl (fun _ => 0))), (q87, .inl (cI, 144, .inl (fun _ => 0))), (q95, .inl (cI, 6, .inl (fun _ => 0))), (q103, .inl (cI, 20, .inl (fun _ => 0))), (q111, .inl (cZ, 20, .inl (fun _ => 0)))] := hD
  refine lv_aload_n hx hb d_M_init_116 rfl (lv_at hl 0 rfl) ?_
  refine lv_bipush (v := (20 : Int32)) hx hb d_M_init_117 (by decide) ?_
  refine x_newZ (N := 20) hx hb (hts _ k_142) hK hP hD hS hA (by decide) (by decide) (by decide) (Nat.le_of_ble_eq_true rfl) (Nat.le_of_ble_eq_true rfl) d_M_init_119 (fun q119 H hP hD hS => ?_)
  have hP : va_P (dC, dI) vwCl [(h0, .inr (4, [.int (0 : Int32), .int (0 : Int32), .int (600 : Int32), .int (0 : Int32), .ref q14, .ref q22, .ref q30, .ref q38, .ref q46, .ref q54, .ref q62, .ref q70, .ref q78, .ref q87, .ref q95, .int (0 : Int32), .ref q103, .ref q111, .null, .null, .null, .null, .null, .null, .null, .int (0 : Int32), .null])), (q14, .inl (cI, 24, .inl (fun _ => 0))), (q22, .inl (cI, 24, .inl (fun _ => 0))), (q30, .inl (cI, 24, .inl (fun _ => 0))), (q38, .inl (cI, 24, .inl (fun _ => 0))), (q46, .inl (cI, 24, .inl (fun _ => 0))), (q54, .inl (cI, 24, .inl (fun _ => 0))), (q62, .inl (cI, 24, .inl (fun _ => 0))), (q70, .inl (cI, 24, .inl (fun _ => 0))), (q78, .inl (cI, 24, .inl (fun _ => 0))), (q87, .inl (cI, 144, .inl (fun _ => 0))), (q95, .inl (cI, 6, .inl (fun _ => 0))), (q103, .inl (cI, 20, .inl (fun _ => 0))), (q111, .inl (cZ, 20, .inl (fun _ => 0))), (q119, .inl (cZ, 20, .inl (fun _ => 0)))] H := hP
  have hD : va_D A [(h0, .inr (4, [.int (0 : Int32), .int (0 : Int32), .int (600 : Int32), .int (0 : Int32), .ref q14, .ref q22, .ref q30, .ref q38, .ref q46, .ref q54, .ref q62, .ref q70, .ref q78, .ref q87, .ref q95, .int (0 : Int32), .ref q103, .ref q111, .null, .null, .null, .null, .null, .null, .null, .int (0 : Int32), .null])), (q14, .inl (cI, 24, .inl (fun _ => 0))), (q22, .inl (cI, 24, .inl (fun _ => 0))), (q30, .inl (cI, 24, .inl (fun _ => 0))), (q38, .inl (cI, 24, .inl (fun _ => 0))), (q46, .inl (cI, 24, .inl (fun _ => 0))), (q54, .inl (cI, 24, .inl (fun _ => 0))), (q62, .inl (cI, 24, .inl (fun _ => 0))), (q70, .inl (cI, 24, .inl (fun _ => 0))), (q78, .inl (cI, 24, .inl (fun _ => 0))), (q87, .inl (cI, 144, .inl (fun _ => 0))), (q95, .inl (cI, 6, .inl (fun _ => 0))), (q103, .inl (cI, 20, .inl (fun _ => 0))), (q111, .inl (cZ, 20, .inl (fun _ => 0))), (q119, .inl (cZ, 20, .inl (fun _ => 0)))] := hD
  refine va_putF (D := (dC, dI)) (ci := 4) (v := .ref q119) (ty := (.array .boolean)) (C := "ReleaseRowsModel") (T := T_M) (N := 27) hx hb hts in_M ty_M tyok_M nm_M hown hK hP hD hS 0 rfl rfl 18 (by decide) (hts _ k_594) (fun _ h9 => h9) rfl hin rfl (by decide +kernel) rfl rfl (Nat.le_of_ble_eq_true rfl) d_M_init_121 (fun H locs hP hD hS => ?_)
  have hP : va_P (dC, dI) vwCl [(h0, .inr (4, [.int (0 : Int32), .int (0 : Int32), .int (600 : Int32), .int (0 : Int32), .ref q14, .ref q22, .ref q30, .ref q38, .ref q46, .ref q54, .ref q62, .ref q70, .ref q78, .ref q87, .ref q95, .int (0 : Int32), .ref q103, .ref q111, .ref q119, .null, .null, .null, .null, .null, .null, .int (0 : Int32), .null])), (q14, .inl (cI, 24, .inl (fun _ => 0))), (q22, .inl (cI, 24, .inl (fun _ => 0))), (q30, .inl (cI, 24, .inl (fun _ => 0))), (q38, .inl (cI, 24, .inl (fun _ => 0))), (q46, .inl (cI, 24, .inl (fun _ => 0))), (q54, .inl (cI, 24, .inl (fun _ => 0))), (q62, .inl (cI, 24, .inl (fun _ => 0))), (q70, .inl (cI, 24, .inl (fun _ => 0))), (q78, .inl (cI, 24, .inl (fun _ => 0))), (q87, .inl (cI, 144, .inl (fun _ => 0))), (q95, .inl (cI, 6, .inl (fun _ => 0))), (q103, .inl (cI, 20, .inl (fun _ => 0))), (q111, .inl (cZ, 20, .inl (fun _ => 0))), (q119, .inl (cZ, 20, .inl (fun _ => 0)))] H := hP
  have hD : va_D A [(h0, .inr (4, [.int (0 : Int32), .int (0 : Int32), .int (600 : Int32), .int (0 : Int32), .ref q14, .ref q22, .ref q30, .ref q38, .ref q46, .ref q54, .ref q62, .ref q70, .ref q78, .ref q87, .ref q95, .int (0 : Int32), .ref q103, .ref q111, .ref q119, .null, .null, .null, .null, .null, .null, .int (0 : Int32), .null])), (q14, .inl (cI, 24, .inl (fun _ => 0))), (q22, .inl (cI, 24, .inl (fun _ => 0))), (q30, .inl (cI, 24, .inl (fun _ => 0))), (q38, .inl (cI, 24, .inl (fun _ => 0))), (q46, .inl (cI, 24, .inl (fun _ => 0))), (q54, .inl (cI, 24, .inl (fun _ => 0))), (q62, .inl (cI, 24, .inl (fun _ => 0))), (q70, .inl (cI, 24, .inl (fun _ => 0))), (q78, .inl (cI, 24, .inl (fun _ => 0))), (q87, .inl (cI, 144, .inl (fun _ => 0))), (q95, .inl (cI, 6, .inl (fun _ => 0))), (q103, .inl (cI, 20, .inl (fun _ => 0))), (q111, .inl (cZ, 20, .inl (fun _ => 0))), (q119, .inl (cZ, 20, .inl (fun _ => 0)))] := hD
  refine lv_aload_n hx hb d_M_init_124 rfl (lv_at hl 0 rfl) ?_
  refine lv_bipush (v := (20 : Int32)) hx hb d_M_init_125 (by decide) ?_
  refine x_newI (N := 20) hx hb (hts _ k_95) hK hP hD hS hA (by decide) (by decide) (by decide) (Nat.le_of_ble_eq_true rfl) (Nat.le_of_ble_eq_true rfl) d_M_init_127 (fun q127 H hP hD hS => ?_)
  have hP : va_P (dC, dI) vwCl [(h0, .inr (4, [.int (0 : Int32), .int (0 : Int32), .int (600 : Int32), .int (0 : Int32), .ref q14, .ref q22, .ref q30, .ref q38, .ref q46, .ref q54, .ref q62, .ref q70, .ref q78, .ref q87, .ref q95, .int (0 : Int32), .ref q103, .ref q111, .ref q119, .null, .null, .null, .null, .null, .null, .int (0 : Int32), .null])), (q14, .inl (cI, 24, .inl (fun _ => 0))), (q22, .inl (cI, 24, .inl (fun _ => 0))), (q30, .inl (cI, 24, .inl (fun _ => 0))), (q38, .inl (cI, 24, .inl (fun _ => 0))), (q46, .inl (cI, 24, .inl (fun _ => 0))), (q54, .inl (cI, 24, .inl (fun _ => 0))), (q62, .inl (cI, 24, .inl (fun _ => 0))), (q70, .inl (cI, 24, .inl (fun _ => 0))), (q78, .inl (cI, 24, .inl (fun _ => 0))), (q87, .inl (cI, 144, .inl (fun _ => 0))), (q95, .inl (cI, 6, .inl (fun _ => 0))), (q103, .inl (cI, 20, .inl (fun _ => 0))), (q111, .inl (cZ, 20, .inl (fun _ => 0))), (q119, .inl (cZ, 20, .inl (fun _ => 0))), (q127, .inl (cI, 20, .inl (fun _ => 0)))] H := hP
  have hD : va_D A [(h0, .inr (4, [.int (0 : Int32), .int (0 : Int32), .int (600 : Int32), .int (0 : Int32), .ref q14, .ref q22, .ref q30, .ref q38, .ref q46, .ref q54, .ref q62, .ref q70, .ref q78, .ref q87, .ref q95, .int (0 : Int32), .ref q103, .ref q111, .ref q119, .null, .null, .null, .null, .null, .null, .int (0 : Int32), .null])), (q14, .inl (cI, 24, .inl (fun _ => 0))), (q22, .inl (cI, 24, .inl (fun _ => 0))), (q30, .inl (cI, 24, .inl (fun _ => 0))), (q38, .inl (cI, 24, .inl (fun _ => 0))), (q46, .inl (cI, 24, .inl (fun _ => 0))), (q54, .inl (cI, 24, .inl (fun _ => 0))), (q62, .inl (cI, 24, .inl (fun _ => 0))), (q70, .inl (cI, 24, .inl (fun _ => 0))), (q78, .inl (cI, 24, .inl (fun _ => 0))), (q87, .inl (cI, 144, .inl (fun _ => 0))), (q95, .inl (cI, 6, .inl (fun _ => 0))), (q103, .inl (cI, 20, .inl (fun _ => 0))), (q111, .inl (cZ, 20, .inl (fun _ => 0))), (q119, .inl (cZ, 20, .inl (fun _ => 0))), (q127, .inl (cI, 20, .inl (fun _ => 0)))] := hD
  refine va_putF (D := (dC, dI)) (ci := 4) (v := .ref q127) (ty := (.array .int)) (C := "ReleaseRowsModel") (T := T_M) (N := 27) hx hb hts in_M ty_M tyok_M nm_M hown hK hP hD hS 0 rfl rfl 19 (by decide) (hts _ k_595) (fun _ h9 => h9) rfl hin rfl (by decide +kernel) rfl rfl (Nat.le_of_ble_eq_true rfl) d_M_init_129 (fun H locs hP hD hS => ?_)
  have hP : va_P (dC, dI) vwCl [(h0, .inr (4, [.int (0 : Int32), .int (0 : Int32), .int (600 : Int32), .int (0 : Int32), .ref q14, .ref q22, .ref q30, .ref q38, .ref q46, .ref q54, .ref q62, .ref q70, .ref q78, .ref q87, .ref q95, .int (0 : Int32), .ref q103, .ref q111, .ref q119, .ref q127, .null, .null, .null, .null, .null, .int (0 : Int32), .null])), (q14, .inl (cI, 24, .inl (fun _ => 0))), (q22, .inl (cI, 24, .inl (fun _ => 0))), (q30, .inl (cI, 24, .inl (fun _ => 0))), (q38, .inl (cI, 24, .inl (fun _ => 0))), (q46, .inl (cI, 24, .inl (fun _ => 0))), (q54, .inl (cI, 24, .inl (fun _ => 0))), (q62, .inl (cI, 24, .inl (fun _ => 0))), (q70, .inl (cI, 24, .inl (fun _ => 0))), (q78, .inl (cI, 24, .inl (fun _ => 0))), (q87, .inl (cI, 144, .inl (fun _ => 0))), (q95, .inl (cI, 6, .inl (fun _ => 0))), (q103, .inl (cI, 20, .inl (fun _ => 0))), (q111, .inl (cZ, 20, .inl (fun _ => 0))), (q119, .inl (cZ, 20, .inl (fun _ => 0))), (q127, .inl (cI, 20, .inl (fun _ => 0)))] H := hP
  have hD : va_D A [(h0, .inr (4, [.int (0 : Int32), .int (0 : Int32), .int (600 : Int32), .int (0 : Int32), .ref q14, .ref q22, .ref q30, .ref q38, .ref q46, .ref q54, .ref q62, .ref q70, .ref q78, .ref q87, .ref q95, .int (0 : Int32), .ref q103, .ref q111, .ref q119, .ref q127, .null, .null, .null, .null, .null, .int (0 : Int32), .null])), (q14, .inl (cI, 24, .inl (fun _ => 0))), (q22, .inl (cI, 24, .inl (fun _ => 0))), (q30, .inl (cI, 24, .inl (fun _ => 0))), (q38, .inl (cI, 24, .inl (fun _ => 0))), (q46, .inl (cI, 24, .inl (fun _ => 0))), (q54, .inl (cI, 24, .inl (fun _ => 0))), (q62, .inl (cI, 24, .inl (fun _ => 0))), (q70, .inl (cI, 24, .inl (fun _ => 0))), (q78, .inl (cI, 24, .inl (fun _ => 0))), (q87, .inl (cI, 144, .inl (fun _ => 0))), (q95, .inl (cI, 6, .inl (fun _ => 0))), (q103, .inl (cI, 20, .inl (fun _ => 0))), (q111, .inl (cZ, 20, .inl (fun _ => 0))), (q119, .inl (cZ, 20, .inl (fun _ => 0))), (q127, .inl (cI, 20, .inl (fun _ => 0)))] := hD
  refine lv_aload_n hx hb d_M_init_132 rfl (lv_at hl 0 rfl) ?_
  refine lv_bipush (v := (20 : Int32)) hx hb d_M_init_133 (by decide) ?_
  refine x_newI (N := 20) hx hb (hts _ k_95) hK hP hD hS hA (by decide) (by decide) (by decide) (Nat.le_of_ble_eq_true rfl) (Nat.le_of_ble_eq_true rfl) d_M_init_135 (fun q135 H hP hD hS => ?_)
  have hP : va_P (dC, dI) vwCl [(h0, .inr (4, [.int (0 : Int32), .int (0 : Int32), .int (600 : Int32), .int (0 : Int32), .ref q14, .ref q22, .ref q30, .ref q38, .ref q46, .ref q54, .ref q62, .ref q70, .ref q78, .ref q87, .ref q95, .int (0 : Int32), .ref q103, .ref q111, .ref q119, .ref q127, .null, .null, .null, .null, .null, .int (0 : Int32), .null])), (q14, .inl (cI, 24, .inl (fun _ => 0))), (q22, .inl (cI, 24, .inl (fun _ => 0))), (q30, .inl (cI, 24, .inl (fun _ => 0))), (q38, .inl (cI, 24, .inl (fun _ => 0))), (q46, .inl (cI, 24, .inl (fun _ => 0))), (q54, .inl (cI, 24, .inl (fun _ => 0))), (q62, .inl (cI, 24, .inl (fun _ => 0))), (q70, .inl (cI, 24, .inl (fun _ => 0))), (q78, .inl (cI, 24, .inl (fun _ => 0))), (q87, .inl (cI, 144, .inl (fun _ => 0))), (q95, .inl (cI, 6, .inl (fun _ => 0))), (q103, .inl (cI, 20, .inl (fun _ => 0))), (q111, .inl (cZ, 20, .inl (fun _ => 0))), (q119, .inl (cZ, 20, .inl (fun _ => 0))), (q127, .inl (cI, 20, .inl (fun _ => 0))), (q135, .inl (cI, 20, .inl (fun _ => 0)))] H := hP
  have hD : va_D A [(h0, .inr (4, [.int (0 : Int32), .int (0 : Int32), .int (600 : Int32), .int (0 : Int32), .ref q14, .ref q22, .ref q30, .ref q38, .ref q46, .ref q54, .ref q62, .ref q70, .ref q78, .ref q87, .ref q95, .int (0 : Int32), .ref q103, .ref q111, .ref q119, .ref q127, .null, .null, .null, .null, .null, .int (0 : Int32), .null])), (q14, .inl (cI, 24, .inl (fun _ => 0))), (q22, .inl (cI, 24, .inl (fun _ => 0))), (q30, .inl (cI, 24, .inl (fun _ => 0))), (q38, .inl (cI, 24, .inl (fun _ => 0))), (q46, .inl (cI, 24, .inl (fun _ => 0))), (q54, .inl (cI, 24, .inl (fun _ => 0))), (q62, .inl (cI, 24, .inl (fun _ => 0))), (q70, .inl (cI, 24, .inl (fun _ => 0))), (q78, .inl (cI, 24, .inl (fun _ => 0))), (q87, .inl (cI, 144, .inl (fun _ => 0))), (q95, .inl (cI, 6, .inl (fun _ => 0))), (q103, .inl (cI, 20, .inl (fun _ => 0))), (q111, .inl (cZ, 20, .inl (fun _ => 0))), (q119, .inl (cZ, 20, .inl (fun _ => 0))), (q127, .inl (cI, 20, .inl (fun _ => 0))), (q135, .inl (cI, 20, .inl (fun _ => 0)))] := hD
  refine va_putF (D := (dC, dI)) (ci := 4) (v := .ref q135) (ty := (.array .int)) (C := "ReleaseRowsModel") (T := T_M) (N := 27) hx hb hts in_M ty_M tyok_M nm_M hown hK hP hD hS 0 rfl rfl 20 (by decide) (hts _ k_596) (fun _ h9 => h9) rfl hin rfl (by decide +kernel) rfl rfl (Nat.le_of_ble_eq_true rfl) d_M_init_137 (fun H locs hP hD hS => ?_)
  have hP : va_P (dC, dI) vwCl [(h0, .inr (4, [.int (0 : Int32), .int (0 : Int32), .int (600 : Int32), .int (0 : Int32), .ref q14, .ref q22, .ref q30, .ref q38, .ref q46, .ref q54, .ref q62, .ref q70, .ref q78, .ref q87, .ref q95, .int (0 : Int32), .ref q103, .ref q111, .ref q119, .ref q127, .ref q135, .null, .null, .null, .null, .int (0 : Int32), .null])), (q14, .inl (cI, 24, .inl (fun _ => 0))), (q22, .inl (cI, 24, .inl (fun _ => 0))), (q30, .inl (cI, 24, .inl (fun _ => 0))), (q38, .inl (cI, 24, .inl (fun _ => 0))), (q46, .inl (cI, 24, .inl (fun _ => 0))), (q54, .inl (cI, 24, .inl (fun _ => 0))), (q62, .inl (cI, 24, .inl (fun _ => 0))), (q70, .inl (cI, 24, .inl (fun _ => 0))), (q78, .inl (cI, 24, .inl (fun _ => 0))), (q87, .inl (cI, 144, .inl (fun _ => 0))), (q95, .inl (cI, 6, .inl (fun _ => 0))), (q103, .inl (cI, 20, .inl (fun _ => 0))), (q111, .inl (cZ, 20, .inl (fun _ => 0))), (q119, .inl (cZ, 20, .inl (fun _ => 0))), (q127, .inl (cI, 20, .inl (fun _ => 0))), (q135, .inl (cI, 20, .inl (fun _ => 0)))] H := hP
  have hD : va_D A [(h0, .inr (4, [.int (0 : Int32), .int (0 : Int32), .int (600 : Int32), .int (0 : Int32), .ref q14, .ref q22, .ref q30, .ref q38, .ref q46, .ref q54, .ref q62, .ref q70, .ref q78, .ref q87, .ref q95, .int (0 : Int32), .ref q103, .ref q111, .ref q119, .ref q127, .ref q135, .null, .null, .null, .null, .int (0 : Int32), .null])), (q14, .inl (cI, 24, .inl (fun _ => 0))), (q22, .inl (cI, 24, .inl (fun _ => 0))), (q30, .inl (cI, 24, .inl (fun _ => 0))), (q38, .inl (cI, 24, .inl (fun _ => 0))), (q46, .inl (cI, 24, .inl (fun _ => 0))), (q54, .inl (cI, 24, .inl (fun _ => 0))), (q62, .inl (cI, 24, .inl (fun _ => 0))), (q70, .inl (cI, 24, .inl (fun _ => 0))), (q78, .inl (cI, 24, .inl (fun _ => 0))), (q87, .inl (cI, 144, .inl (fun _ => 0))), (q95, .inl (cI, 6, .inl (fun _ => 0))), (q103, .inl (cI, 20, .inl (fun _ => 0))), (q111, .inl (cZ, 20, .inl (fun _ => 0))), (q119, .inl (cZ, 20, .inl (fun _ => 0))), (q127, .inl (cI, 20, .inl (fun _ => 0))), (q135, .inl (cI, 20, .inl (fun _ => 0)))] := hD
  refine lv_aload_n hx hb d_M_init_140 rfl (lv_at hl 0 rfl) ?_
  refine lv_bipush (v := (20 : Int32)) hx hb d_M_init_141 (by decide) ?_
  refine x_newI (N := 20) hx hb (hts _ k_95) hK hP hD hS hA (by decide) (by decide) (by decide) (Nat.le_of_ble_eq_true rfl) (Nat.le_of_ble_eq_true rfl) d_M_init_143 (fun q143 H hP hD hS => ?_)
  have hP : va_P (dC, dI) vwCl [(h0, .inr (4, [.int (0 : Int32), .int (0 : Int32), .int (600 : Int32), .int (0 : Int32), .ref q14, .ref q22, .ref q30, .ref q38, .ref q46, .ref q54, .ref q62, .ref q70, .ref q78, .ref q87, .ref q95, .int (0 : Int32), .ref q103, .ref q111, .ref q119, .ref q127, .ref q135, .null, .null, .null, .null, .int (0 : Int32), .null])), (q14, .inl (cI, 24, .inl (fun _ => 0))), (q22, .inl (cI, 24, .inl (fun _ => 0))), (q30, .inl (cI, 24, .inl (fun _ => 0))), (q38, .inl (cI, 24, .inl (fun _ => 0))), (q46, .inl (cI, 24, .inl (fun _ => 0))), (q54, .inl (cI, 24, .inl (fun _ => 0))), (q62, .inl (cI, 24, .inl (fun _ => 0))), (q70, .inl (cI, 24, .inl (fun _ => 0))), (q78, .inl (cI, 24, .inl (fun _ => 0))), (q87, .inl (cI, 144, .inl (fun _ => 0))), (q95, .inl (cI, 6, .inl (fun _ => 0))), (q103, .inl (cI, 20, .inl (fun _ => 0))), (q111, .inl (cZ, 20, .inl (fun _ => 0))), (q119, .inl (cZ, 20, .inl (fun _ => 0))), (q127, .inl (cI, 20, .inl (fun _ => 0))), (q135, .inl (cI, 20, .inl (fun _ => 0))), (q143, .inl (cI, 20, .inl (fun _ => 0)))] H := hP
  have hD : va_D A [(h0, .inr (4, [.int (0 : Int32), .int (0 : Int32), .int (600 : Int32), .int (0 : Int32), .ref q14, .ref q22, .ref q30, .ref q38, .ref q46, .ref q54, .ref q62, .ref q70, .ref q78, .ref q87, .ref q95, .int (0 : Int32), .ref q103, .ref q111, .ref q119, .ref q127, .ref q135, .null, .null, .null, .null, .int (0 : Int32), .null])), (q14, .inl (cI, 24, .inl (fun _ => 0))), (q22, .inl (cI, 24, .inl (fun _ => 0))), (q30, .inl (cI, 24, .inl (fun _ => 0))), (q38, .inl (cI, 24, .inl (fun _ => 0))), (q46, .inl (cI, 24, .inl (fun _ => 0))), (q54, .inl (cI, 24, .inl (fun _ => 0))), (q62, .inl (cI, 24, .inl (fun _ => 0))), (q70, .inl (cI, 24, .inl (fun _ => 0))), (q78, .inl (cI, 24, .inl (fun _ => 0))), (q87, .inl (cI, 144, .inl (fun _ => 0))), (q95, .inl (cI, 6, .inl (fun _ => 0))), (q103, .inl (cI, 20, .inl (fun _ => 0))), (q111, .inl (cZ, 20, .inl (fun _ => 0))), (q119, .inl (cZ, 20, .inl (fun _ => 0))), (q127, .inl (cI, 20, .inl (fun _ => 0))), (q135, .inl (cI, 20, .inl (fun _ => 0))), (q143, .inl (cI, 20, .inl (fun _ => 0)))] := hD
  refine va_putF (D := (dC, dI)) (ci := 4) (v := .ref q143) (ty := (.array .int)) (C := "ReleaseRowsModel") (T := T_M) (N := 27) hx hb hts in_M ty_M tyok_M nm_M hown hK hP hD hS 0 rfl rfl 21 (by decide) (hts _ k_597) (fun _ h9 => h9) rfl hin rfl (by decide +kernel) rfl rfl (Nat.le_of_ble_eq_true rfl) d_M_init_145 (fun H locs hP hD hS => ?_)
  have hP : va_P (dC, dI) vwCl [(h0, .inr (4, [.int (0 : Int32), .int (0 : Int32), .int (600 : Int32), .int (0 : Int32), .ref q14, .ref q22, .ref q30, .ref q38, .ref q46, .ref q54, .ref q62, .ref q70, .ref q78, .ref q87, .ref q95, .int (0 : Int32), .ref q103, .ref q111, .ref q119, .ref q127, .ref q135, .ref q143, .null, .null, .null, .int (0 : Int32), .null])), (q14, .inl (cI, 24, .inl (fun _ => 0))), (q22, .inl (cI, 24, .inl (fun _ => 0))), (q30, .inl (cI, 24, .inl (fun _ => 0))), (q38, .inl (cI, 24, .inl (fun _ => 0))), (q46, .inl (cI, 24, .inl (fun _ => 0))), (q54, .inl (cI, 24, .inl (fun _ => 0))), (q62, .inl (cI, 24, .inl (fun _ => 0))), (q70, .inl (cI, 24, .inl (fun _ => 0))), (q78, .inl (cI, 24, .inl (fun _ => 0))), (q87, .inl (cI, 144, .inl (fun _ => 0))), (q95, .inl (cI, 6, .inl (fun _ => 0))), (q103, .inl (cI, 20, .inl (fun _ => 0))), (q111, .inl (cZ, 20, .inl (fun _ => 0))), (q119, .inl (cZ, 20, .inl (fun _ => 0))), (q127, .inl (cI, 20, .inl (fun _ => 0))), (q135, .inl (cI, 20, .inl (fun _ => 0))), (q143, .inl (cI, 20, .inl (fun _ => 0)))] H := hP
  have hD : va_D A [(h0, .inr (4, [.int (0 : Int32), .int (0 : Int32), .int (600 : Int32), .int (0 : Int32), .ref q14, .ref q22, .ref q30, .ref q38, .ref q46, .ref q54, .ref q62, .ref q70, .ref q78, .ref q87, .ref q95, .int (0 : Int32), .ref q103, .ref q111, .ref q119, .ref q127, .ref q135, .ref q143, .null, .null, .null, .int (0 : Int32), .null])), (q14, .inl (cI, 24, .inl (fun _ => 0))), (q22, .inl (cI, 24, .inl (fun _ => 0))), (q30, .inl (cI, 24, .inl (fun _ => 0))), (q38, .inl (cI, 24, .inl (fun _ => 0))), (q46, .inl (cI, 24, .inl (fun _ => 0))), (q54, .inl (cI, 24, .inl (fun _ => 0))), (q62, .inl (cI, 24, .inl (fun _ => 0))), (q70, .inl (cI, 24, .inl (fun _ => 0))), (q78, .inl (cI, 24, .inl (fun _ => 0))), (q87, .inl (cI, 144, .inl (fun _ => 0))), (q95, .inl (cI, 6, .inl (fun _ => 0))), (q103, .inl (cI, 20, .inl (fun _ => 0))), (q111, .inl (cZ, 20, .inl (fun _ => 0))), (q119, .inl (cZ, 20, .inl (fun _ => 0))), (q127, .inl (cI, 20, .inl (fun _ => 0))), (q135, .inl (cI, 20, .inl (fun _ => 0))), (q143, .inl (cI, 20, .inl (fun _ => 0)))] := hD
  refine lv_aload_n hx hb d_M_init_148 rfl (lv_at hl 0 rfl) ?_
  refine lv_bipush (v := (20 : Int32)) hx hb d_M_init_149 (by decide) ?_
  refine x_newI (N := 20) hx hb (hts _ k_95) hK hP hD hS hA (by decide) (by decide) (by decide) (Nat.le_of_ble_eq_true rfl) (Nat.le_of_ble_eq_true rfl) d_M_init_151 (fun q151 H hP hD hS => ?_)
  have hP : va_P (dC, dI) vwCl [(h0, .inr (4, [.int (0 : Int32), .int (0 : Int32), .int (600 : Int32), .int (0 : Int32), .ref q14, .ref q22, .ref q30, .ref q38, .ref q46, .ref q54, .ref q62, .ref q70, .ref q78, .ref q87, .ref q95, .int (0 : Int32), .ref q103, .ref q111, .ref q119, .ref q127, .ref q135, .ref q143, .null, .null, .null, .int (0 : Int32), .null])), (q14, .inl (cI, 24, .inl (fun _ => 0))), (q22, .inl (cI, 24, .inl (fun _ => 0))), (q30, .inl (cI, 24, .inl (fun _ => 0))), (q38, .inl (cI, 24, .inl (fun _ => 0))), (q46, .inl (cI, 24, .inl (fun _ => 0))), (q54, .inl (cI, 24, .inl (fun _ => 0))), (q62, .inl (cI, 24, .inl (fun _ => 0))), (q70, .inl (cI, 24, .inl (fun _ => 0))), (q78, .inl (cI, 24, .inl (fun _ => 0))), (q87, .inl (cI, 144, .inl (fun _ => 0))), (q95, .inl (cI, 6, .inl (fun _ => 0))), (q103, .inl (cI, 20, .inl (fun _ => 0))), (q111, .inl (cZ, 20, .inl (fun _ => 0))), (q119, .inl (cZ, 20, .inl (fun _ => 0))), (q127, .inl (cI, 20, .inl (fun _ => 0))), (q135, .inl (cI, 20, .inl (fun _ => 0))), (q143, .inl (cI, 20, .inl (fun _ => 0))), (q151, .inl (cI, 20, .inl (fun _ => 0)))] H := hP
  have hD : va_D A [(h0, .inr (4, [.int (0 : Int32), .int (0 : Int32), .int (600 : Int32), .int (0 : Int32), .ref q14, .ref q22, .ref q30, .ref q38, .ref q46, .ref q54, .ref q62, .ref q70, .ref q78, .ref q87, .ref q95, .int (0 : Int32), .ref q103, .ref q111, .ref q119, .ref q127, .ref q135, .ref q143, .null, .null, .null, .int (0 : Int32), .null])), (q14, .inl (cI, 24, .inl (fun _ => 0))), (q22, .inl (cI, 24, .inl (fun _ => 0))), (q30, .inl (cI, 24, .inl (fun _ => 0))), (q38, .inl (cI, 24, .inl (fun _ => 0))), (q46, .inl (cI, 24, .inl (fun _ => 0))), (q54, .inl (cI, 24, .inl (fun _ => 0))), (q62, .inl (cI, 24, .inl (fun _ => 0))), (q70, .inl (cI, 24, .inl (fun _ => 0))), (q78, .inl (cI, 24, .inl (fun _ => 0))), (q87, .inl (cI, 144, .inl (fun _ => 0))), (q95, .inl (cI, 6, .inl (fun _ => 0))), (q103, .inl (cI, 20, .inl (fun _ => 0))), (q111, .inl (cZ, 20, .inl (fun _ => 0))), (q119, .inl (cZ, 20, .inl (fun _ => 0))), (q127, .inl (cI, 20, .inl (fun _ => 0))), (q135, .inl (cI, 20, .inl (fun _ => 0))), (q143, .inl (cI, 20, .inl (fun _ => 0))), (q151, .inl (cI, 20, .inl (fun _ => 0)))] := hD
  refine va_putF (D := (dC, dI)) (ci := 4) (v := .ref q151) (ty := (.array .int)) (C := "ReleaseRowsModel") (T := T_M) (N := 27) hx hb hts in_M ty_M tyok_M nm_M hown hK hP hD hS 0 rfl rfl 22 (by decide) (hts _ k_598) (fun _ h9 => h9) rfl hin rfl (by decide +kernel) rfl rfl (Nat.le_of_ble_eq_true rfl) d_M_init_153 (fun H locs hP hD hS => ?_)
  have hP : va_P (dC, dI) vwCl [(h0, .inr (4, [.int (0 : Int32), .int (0 : Int32), .int (600 : Int32), .int (0 : Int32), .ref q14, .ref q22, .ref q30, .ref q38, .ref q46, .ref q54, .ref q62, .ref q70, .ref q78, .ref q87, .ref q95, .int (0 : Int32), .ref q103, .ref q111, .ref q119, .ref q127, .ref q135, .ref q143, .ref q151, .null, .null, .int (0 : Int32), .null])), (q14, .inl (cI, 24, .inl (fun _ => 0))), (q22, .inl (cI, 24, .inl (fun _ => 0))), (q30, .inl (cI, 24, .inl (fun _ => 0))), (q38, .inl (cI, 24, .inl (fun _ => 0))), (q46, .inl (cI, 24, .inl (fun _ => 0))), (q54, .inl (cI, 24, .inl (fun _ => 0))), (q62, .inl (cI, 24, .inl (fun _ => 0))), (q70, .inl (cI, 24, .inl (fun _ => 0))), (q78, .inl (cI, 24, .inl (fun _ => 0))), (q87, .inl (cI, 144, .inl (fun _ => 0))), (q95, .inl (cI, 6, .inl (fun _ => 0))), (q103, .inl (cI, 20, .inl (fun _ => 0))), (q111, .inl (cZ, 20, .inl (fun _ => 0))), (q119, .inl (cZ, 20, .inl (fun _ => 0))), (q127, .inl (cI, 20, .inl (fun _ => 0))), (q135, .inl (cI, 20, .inl (fun _ => 0))), (q143, .inl (cI, 20, .inl (fun _ => 0))), (q151, .inl (cI, 20, .inl (fun _ => 0)))] H := hP
  have hD : va_D A [(h0, .inr (4, [.int (0 : Int32), .int (0 : Int32), .int (600 : Int32), .int (0 : Int32), .ref q14, .ref q22, .ref q30, .ref q38, .ref q46, .ref q54, .ref q62, .ref q70, .ref q78, .ref q87, .ref q95, .int (0 : Int32), .ref q103, .ref q111, .ref q119, .ref q127, .ref q135, .ref q143, .ref q151, .null, .null, .int (0 : Int32), .null])), (q14, .inl (cI, 24, .inl (fun _ => 0))), (q22, .inl (cI, 24, .inl (fun _ => 0))), (q30, .inl (cI, 24, .inl (fun _ => 0))), (q38, .inl (cI, 24, .inl (fun _ => 0))), (q46, .inl (cI, 24, .inl (fun _ => 0))), (q54, .inl (cI, 24, .inl (fun _ => 0))), (q62, .inl (cI, 24, .inl (fun _ => 0))), (q70, .inl (cI, 24, .inl (fun _ => 0))), (q78, .inl (cI, 24, .inl (fun _ => 0))), (q87, .inl (cI, 144, .inl (fun _ => 0))), (q95, .inl (cI, 6, .inl (fun _ => 0))), (q103, .inl (cI, 20, .inl (fun _ => 0))), (q111, .inl (cZ, 20, .inl (fun _ => 0))), (q119, .inl (cZ, 20, .inl (fun _ => 0))), (q127, .inl (cI, 20, .inl (fun _ => 0))), (q135, .inl (cI, 20, .inl (fun _ => 0))), (q143, .inl (cI, 20, .inl (fun _ => 0))), (q151, .inl (cI, 20, .inl (fun _ => 0)))] := hD
  refine lv_aload_n hx hb d_M_init_156 rfl (lv_at hl 0 rfl) ?_
  refine lv_bipush (v := (20 : Int32)) hx hb d_M_init_157 (by decide) ?_
  refine x_newI (N := 20) hx hb (hts _ k_95) hK hP hD hS hA (by decide) (by decide) (by decide) (Nat.le_of_ble_eq_true rfl) (Nat.le_of_ble_eq_true rfl) d_M_init_159 (fun q159 H hP hD hS => ?_)
  have hP : va_P (dC, dI) vwCl [(h0, .inr (4, [.int (0 : Int32), .int (0 : Int32), .int (600 : Int32), .int (0 : Int32), .ref q14, .ref q22, .ref q30, .ref q38, .ref q46, .ref q54, .ref q62, .ref q70, .ref q78, .ref q87, .ref q95, .int (0 : Int32), .ref q103, .ref q111, .ref q119, .ref q127, .ref q135, .ref q143, .ref q151, .null, .null, .int (0 : Int32), .null])), (q14, .inl (cI, 24, .inl (fun _ => 0))), (q22, .inl (cI, 24, .inl (fun _ => 0))), (q30, .inl (cI, 24, .inl (fun _ => 0))), (q38, .inl (cI, 24, .inl (fun _ => 0))), (q46, .inl (cI, 24, .inl (fun _ => 0))), (q54, .inl (cI, 24, .inl (fun _ => 0))), (q62, .inl (cI, 24, .inl (fun _ => 0))), (q70, .inl (cI, 24, .inl (fun _ => 0))), (q78, .inl (cI, 24, .inl (fun _ => 0))), (q87, .inl (cI, 144, .inl (fun _ => 0))), (q95, .inl (cI, 6, .inl (fun _ => 0))), (q103, .inl (cI, 20, .inl (fun _ => 0))), (q111, .inl (cZ, 20, .inl (fun _ => 0))), (q119, .inl (cZ, 20, .inl (fun _ => 0))), (q127, .inl (cI, 20, .inl (fun _ => 0))), (q135, .inl (cI, 20, .inl (fun _ => 0))), (q143, .inl (cI, 20, .inl (fun _ => 0))), (q151, .inl (cI, 20, .inl (fun _ => 0))), (q159, .inl (cI, 20, .inl (fun _ => 0)))] H := hP
  have hD : va_D A [(h0, .inr (4, [.int (0 : Int32), .int (0 : Int32), .int (600 : Int32), .int (0 : Int32), .ref q14, .ref q22, .ref q30, .ref q38, .ref q46, .ref q54, .ref q62, .ref q70, .ref q78, .ref q87, .ref q95, .int (0 : Int32), .ref q103, .ref q111, .ref q119, .ref q127, .ref q135, .ref q143, .ref q151, .null, .null, .int (0 : Int32), .null])), (q14, .inl (cI, 24, .inl (fun _ => 0))), (q22, .inl (cI, 24, .inl (fun _ => 0))), (q30, .inl (cI, 24, .inl (fun _ => 0))), (q38, .inl (cI, 24, .inl (fun _ => 0))), (q46, .inl (cI, 24, .inl (fun _ => 0))), (q54, .inl (cI, 24, .inl (fun _ => 0))), (q62, .inl (cI, 24, .inl (fun _ => 0))), (q70, .inl (cI, 24, .inl (fun _ => 0))), (q78, .inl (cI, 24, .inl (fun _ => 0))), (q87, .inl (cI, 144, .inl (fun _ => 0))), (q95, .inl (cI, 6, .inl (fun _ => 0))), (q103, .inl (cI, 20, .inl (fun _ => 0))), (q111, .inl (cZ, 20, .inl (fun _ => 0))), (q119, .inl (cZ, 20, .inl (fun _ => 0))), (q127, .inl (cI, 20, .inl (fun _ => 0))), (q135, .inl (cI, 20, .inl (fun _ => 0))), (q143, .inl (cI, 20, .inl (fun _ => 0))), (q151, .inl (cI, 20, .inl (fun _ => 0))), (q159, .inl (cI, 20, .inl (fun _ => 0)))] := hD
  refine va_putF (D := (dC, dI)) (ci := 4) (v := .ref q159) (ty := (.array .int)) (C := "ReleaseRowsModel") (T := T_M) (N := 27) hx hb hts in_M ty_M tyok_M nm_M hown hK hP hD hS 0 rfl rfl 23 (by decide) (hts _ k_599) (fun _ h9 => h9) rfl hin rfl (by decide +kernel) rfl rfl (Nat.le_of_ble_eq_true rfl) d_M_init_161 (fun H locs hP hD hS => ?_)
  have hP : va_P (dC, dI) vwCl [(h0, .inr (4, [.int (0 : Int32), .int (0 : Int32), .int (600 : Int32), .int (0 : Int32), .ref q14, .ref q22, .ref q30, .ref q38, .ref q46, .ref q54, .ref q62, .ref q70, .ref q78, .ref q87, .ref q95, .int (0 : Int32), .ref q103, .ref q111, .ref q119, .ref q127, .ref q135, .ref q143, .ref q151, .ref q159, .null, .int (0 : Int32), .null])), (q14, .inl (cI, 24, .inl (fun _ => 0))), (q22, .inl (cI, 24, .inl (fun _ => 0))), (q30, .inl (cI, 24, .inl (fun _ => 0))), (q38, .inl (cI, 24, .inl (fun _ => 0))), (q46, .inl (cI, 24, .inl (fun _ => 0))), (q54, .inl (cI, 24, .inl (fun _ => 0))), (q62, .inl (cI, 24, .inl (fun _ => 0))), (q70, .inl (cI, 24, .inl (fun _ => 0))), (q78, .inl (cI, 24, .inl (fun _ => 0))), (q87, .inl (cI, 144, .inl (fun _ => 0))), (q95, .inl (cI, 6, .inl (fun _ => 0))), (q103, .inl (cI, 20, .inl (fun _ => 0))), (q111, .inl (cZ, 20, .inl (fun _ => 0))), (q119, .inl (cZ, 20, .inl (fun _ => 0))), (q127, .inl (cI, 20, .inl (fun _ => 0))), (q135, .inl (cI, 20, .inl (fun _ => 0))), (q143, .inl (cI, 20, .inl (fun _ => 0))), (q151, .inl (cI, 20, .inl (fun _ => 0))), (q159, .inl (cI, 20, .inl (fun _ => 0)))] H := hP
  have hD : va_D A [(h0, .inr (4, [.int (0 : Int32), .int (0 : Int32), .int (600 : Int32), .int (0 : Int32), .ref q14, .ref q22, .ref q30, .ref q38, .ref q46, .ref q54, .ref q62, .ref q70, .ref q78, .ref q87, .ref q95, .int (0 : Int32), .ref q103, .ref q111, .ref q119, .ref q127, .ref q135, .ref q143, .ref q151, .ref q159, .null, .int (0 : Int32), .null])), (q14, .inl (cI, 24, .inl (fun _ => 0))), (q22, .inl (cI, 24, .inl (fun _ => 0))), (q30, .inl (cI, 24, .inl (fun _ => 0))), (q38, .inl (cI, 24, .inl (fun _ => 0))), (q46, .inl (cI, 24, .inl (fun _ => 0))), (q54, .inl (cI, 24, .inl (fun _ => 0))), (q62, .inl (cI, 24, .inl (fun _ => 0))), (q70, .inl (cI, 24, .inl (fun _ => 0))), (q78, .inl (cI, 24, .inl (fun _ => 0))), (q87, .inl (cI, 144, .inl (fun _ => 0))), (q95, .inl (cI, 6, .inl (fun _ => 0))), (q103, .inl (cI, 20, .inl (fun _ => 0))), (q111, .inl (cZ, 20, .inl (fun _ => 0))), (q119, .inl (cZ, 20, .inl (fun _ => 0))), (q127, .inl (cI, 20, .inl (fun _ => 0))), (q135, .inl (cI, 20, .inl (fun _ => 0))), (q143, .inl (cI, 20, .inl (fun _ => 0))), (q151, .inl (cI, 20, .inl (fun _ => 0))), (q159, .inl (cI, 20, .inl (fun _ => 0)))] := hD
  refine lv_aload_n hx hb d_M_init_164 rfl (lv_at hl 0 rfl) ?_
  refine lv_bipush (v := (20 : Int32)) hx hb d_M_init_165 (by decide) ?_
  refine x_newI (N := 20) hx hb (hts _ k_95) hK hP hD hS hA (by decide) (by decide) (by decide) (Nat.le_of_ble_eq_true rfl) (Nat.le_of_ble_eq_true rfl) d_M_init_167 (fun q167 H hP hD hS => ?_)
  have hP : va_P (dC, dI) vwCl [(h0, .inr (4, [.int (0 : Int32), .int (0 : Int32), .int (600 : Int32), .int (0 : Int32), .ref q14, .ref q22, .ref q30, .ref q38, .ref q46, .ref q54, .ref q62, .ref q70, .ref q78, .ref q87, .ref q95, .int (0 : Int32), .ref q103, .ref q111, .ref q119, .ref q127, .ref q135, .ref q143, .ref q151, .ref q159, .null, .int (0 : Int32), .null])), (q14, .inl (cI, 24, .inl (fun _ => 0))), (q22, .inl (cI, 24, .inl (fun _ => 0))), (q30, .inl (cI, 24, .inl (fun _ => 0))), (q38, .inl (cI, 24, .inl (fun _ => 0))), (q46, .inl (cI, 24, .inl (fun _ => 0))), (q54, .inl (cI, 24, .inl (fun _ => 0))), (q62, .inl (cI, 24, .inl (fun _ => 0))), (q70, .inl (cI, 24, .inl (fun _ => 0))), (q78, .inl (cI, 24, .inl (fun _ => 0))), (q87, .inl (cI, 144, .inl (fun _ => 0))), (q95, .inl (cI, 6, .inl (fun _ => 0))), (q103, .inl (cI, 20, .inl (fun _ => 0))), (q111, .inl (cZ, 20, .inl (fun _ => 0))), (q119, .inl (cZ, 20, .inl (fun _ => 0))), (q127, .inl (cI, 20, .inl (fun _ => 0))), (q135, .inl (cI, 20, .inl (fun _ => 0))), (q143, .inl (cI, 20, .inl (fun _ => 0))), (q151, .inl (cI, 20, .inl (fun _ => 0))), (q159, .inl (cI, 20, .inl (fun _ => 0))), (q167, .inl (cI, 20, .inl (fun _ => 0)))] H := hP
  have hD : va_D A [(h0, .inr (4, [.int (0 : Int32), .int (0 : Int32), .int (600 : Int32), .int (0 : Int32), .ref q14, .ref q22, .ref q30, .ref q38, .ref q46, .ref q54, .ref q62, .ref q70, .ref q78, .ref q87, .ref q95, .int (0 : Int32), .ref q103, .ref q111, .ref q119, .ref q127, .ref q135, .ref q143, .ref q151, .ref q159, .null, .int (0 : Int32), .null])), (q14, .inl (cI, 24, .inl (fun _ => 0))), (q22, .inl (cI, 24, .inl (fun _ => 0))), (q30, .inl (cI, 24, .inl (fun _ => 0))), (q38, .inl (cI, 24, .inl (fun _ => 0))), (q46, .inl (cI, 24, .inl (fun _ => 0))), (q54, .inl (cI, 24, .inl (fun _ => 0))), (q62, .inl (cI, 24, .inl (fun _ => 0))), (q70, .inl (cI, 24, .inl (fun _ => 0))), (q78, .inl (cI, 24, .inl (fun _ => 0))), (q87, .inl (cI, 144, .inl (fun _ => 0))), (q95, .inl (cI, 6, .inl (fun _ => 0))), (q103, .inl (cI, 20, .inl (fun _ => 0))), (q111, .inl (cZ, 20, .inl (fun _ => 0))), (q119, .inl (cZ, 20, .inl (fun _ => 0))), (q127, .inl (cI, 20, .inl (fun _ => 0))), (q135, .inl (cI, 20, .inl (fun _ => 0))), (q143, .inl (cI, 20, .inl (fun _ => 0))), (q151, .inl (cI, 20, .inl (fun _ => 0))), (q159, .inl (cI, 20, .inl (fun _ => 0))), (q167, .inl (cI, 20, .inl (fun _ => 0)))] := hD
  refine va_putF (D := (dC, dI)) (ci := 4) (v := .ref q167) (ty := (.array .int)) (C := "ReleaseRowsModel") (T := T_M) (N := 27) hx hb hts in_M ty_M tyok_M nm_M hown hK hP hD hS 0 rfl rfl 24 (by decide) (hts _ k_600) (fun _ h9 => h9) rfl hin rfl (by decide +kernel) rfl rfl (Nat.le_of_ble_eq_true rfl) d_M_init_169 (fun H locs hP hD hS => ?_)
  have hP : va_P (dC, dI) vwCl [(h0, .inr (4, [.int (0 : Int32), .int (0 : Int32), .int (600 : Int32), .int (0 : Int32), .ref q14, .ref q22, .ref q30, .ref q38, .ref q46, .ref q54, .ref q62, .ref q70, .ref q78, .ref q87, .ref q95, .int (0 : Int32), .ref q103, .ref q111, .ref q119, .ref q127, .ref q135, .ref q143, .ref q151, .ref q159, .ref q167, .int (0 : Int32), .null])), (q14, .inl (cI, 24, .inl (fun _ => 0))), (q22, .inl (cI, 24, .inl (fun _ => 0))), (q30, .inl (cI, 24, .inl (fun _ => 0))), (q38, .inl (cI, 24, .inl (fun _ => 0))), (q46, .inl (cI, 24, .inl (fun _ => 0))), (q54, .inl (cI, 24, .inl (fun _ => 0))), (q62, .inl (cI, 24, .inl (fun _ => 0))), (q70, .inl (cI, 24, .inl (fun _ => 0))), (q78, .inl (cI, 24, .inl (fun _ => 0))), (q87, .inl (cI, 144, .inl (fun _ => 0))), (q95, .inl (cI, 6, .inl (fun _ => 0))), (q103, .inl (cI, 20, .inl (fun _ => 0))), (q111, .inl (cZ, 20, .inl (fun _ => 0))), (q119, .inl (cZ, 20, .inl (fun _ => 0))), (q127, .inl (cI, 20, .inl (fun _ => 0))), (q135, .inl (cI, 20, .inl (fun _ => 0))), (q143, .inl (cI, 20, .inl (fun _ => 0))), (q151, .inl (cI, 20, .inl (fun _ => 0))), (q159, .inl (cI, 20, .inl (fun _ => 0))), (q167, .inl (cI, 20, .inl (fun _ => 0)))] H := hP
  have hD : va_D A [(h0, .inr (4, [.int (0 : Int32), .int (0 : Int32), .int (600 : Int32), .int (0 : Int32), .ref q14, .ref q22, .ref q30, .ref q38, .ref q46, .ref q54, .ref q62, .ref q70, .ref q78, .ref q87, .ref q95, .int (0 : Int32), .ref q103, .ref q111, .ref q119, .ref q127, .ref q135, .ref q143, .ref q151, .ref q159, .ref q167, .int (0 : Int32), .null])), (q14, .inl (cI, 24, .inl (fun _ => 0))), (q22, .inl (cI, 24, .inl (fun _ => 0))), (q30, .inl (cI, 24, .inl (fun _ => 0))), (q38, .inl (cI, 24, .inl (fun _ => 0))), (q46, .inl (cI, 24, .inl (fun _ => 0))), (q54, .inl (cI, 24, .inl (fun _ => 0))), (q62, .inl (cI, 24, .inl (fun _ => 0))), (q70, .inl (cI, 24, .inl (fun _ => 0))), (q78, .inl (cI, 24, .inl (fun _ => 0))), (q87, .inl (cI, 144, .inl (fun _ => 0))), (q95, .inl (cI, 6, .inl (fun _ => 0))), (q103, .inl (cI, 20, .inl (fun _ => 0))), (q111, .inl (cZ, 20, .inl (fun _ => 0))), (q119, .inl (cZ, 20, .inl (fun _ => 0))), (q127, .inl (cI, 20, .inl (fun _ => 0))), (q135, .inl (cI, 20, .inl (fun _ => 0))), (q143, .inl (cI, 20, .inl (fun _ => 0))), (q151, .inl (cI, 20, .inl (fun _ => 0))), (q159, .inl (cI, 20, .inl (fun _ => 0))), (q167, .inl (cI, 20, .inl (fun _ => 0)))] := hD
  refine lv_aload_n hx hb d_M_init_172 rfl (lv_at hl 0 rfl) ?_
  refine lv_bipush (v := (30 : Int32)) hx hb d_M_init_173 (by decide) ?_
  refine x_newI (N := 30) hx hb (hts _ k_95) hK hP hD hS hA (by decide) (by decide) (by decide) (Nat.le_of_ble_eq_true rfl) (Nat.le_of_ble_eq_true rfl) d_M_init_175 (fun q175 H hP hD hS => ?_)
  have hP : va_P (dC, dI) vwCl [(h0, .inr (4, [.int (0 : Int32), .int (0 : Int32), .int (600 : Int32), .int (0 : Int32), .ref q14, .ref q22, .ref q30, .ref q38, .ref q46, .ref q54, .ref q62, .ref q70, .ref q78, .ref q87, .ref q95, .int (0 : Int32), .ref q103, .ref q111, .ref q119, .ref q127, .ref q135, .ref q143, .ref q151, .ref q159, .ref q167, .int (0 : Int32), .null])), (q14, .inl (cI, 24, .inl (fun _ => 0))), (q22, .inl (cI, 24, .inl (fun _ => 0))), (q30, .inl (cI, 24, .inl (fun _ => 0))), (q38, .inl (cI, 24, .inl (fun _ => 0))), (q46, .inl (cI, 24, .inl (fun _ => 0))), (q54, .inl (cI, 24, .inl (fun _ => 0))), (q62, .inl (cI, 24, .inl (fun _ => 0))), (q70, .inl (cI, 24, .inl (fun _ => 0))), (q78, .inl (cI, 24, .inl (fun _ => 0))), (q87, .inl (cI, 144, .inl (fun _ => 0))), (q95, .inl (cI, 6, .inl (fun _ => 0))), (q103, .inl (cI, 20, .inl (fun _ => 0))), (q111, .inl (cZ, 20, .inl (fun _ => 0))), (q119, .inl (cZ, 20, .inl (fun _ => 0))), (q127, .inl (cI, 20, .inl (fun _ => 0))), (q135, .inl (cI, 20, .inl (fun _ => 0))), (q143, .inl (cI, 20, .inl (fun _ => 0))), (q151, .inl (cI, 20, .inl (fun _ => 0))), (q159, .inl (cI, 20, .inl (fun _ => 0))), (q167, .inl (cI, 20, .inl (fun _ => 0))), (q175, .inl (cI, 30, .inl (fun _ => 0)))] H := hP
  have hD : va_D A [(h0, .inr (4, [.int (0 : Int32), .int (0 : Int32), .int (600 : Int32), .int (0 : Int32), .ref q14, .ref q22, .ref q30, .ref q38, .ref q46, .ref q54, .ref q62, .ref q70, .ref q78, .ref q87, .ref q95, .int (0 : Int32), .ref q103, .ref q111, .ref q119, .ref q127, .ref q135, .ref q143, .ref q151, .ref q159, .ref q167, .int (0 : Int32), .null])), (q14, .inl (cI, 24, .inl (fun _ => 0))), (q22, .inl (cI, 24, .inl (fun _ => 0))), (q30, .inl (cI, 24, .inl (fun _ => 0))), (q38, .inl (cI, 24, .inl (fun _ => 0))), (q46, .inl (cI, 24, .inl (fun _ => 0))), (q54, .inl (cI, 24, .inl (fun _ => 0))), (q62, .inl (cI, 24, .inl (fun _ => 0))), (q70, .inl (cI, 24, .inl (fun _ => 0))), (q78, .inl (cI, 24, .inl (fun _ => 0))), (q87, .inl (cI, 144, .inl (fun _ => 0))), (q95, .inl (cI, 6, .inl (fun _ => 0))), (q103, .inl (cI, 20, .inl (fun _ => 0))), (q111, .inl (cZ, 20, .inl (fun _ => 0))), (q119, .inl (cZ, 20, .inl (fun _ => 0))), (q127, .inl (cI, 20, .inl (fun _ => 0))), (q135, .inl (cI, 20, .inl (fun _ => 0))), (q143, .inl (cI, 20, .inl (fun _ => 0))), (q151, .inl (cI, 20, .inl (fun _ => 0))), (q159, .inl (cI, 20, .inl (fun _ => 0))), (q167, .inl (cI, 20, .inl (fun _ => 0))), (q175, .inl (cI, 30, .inl (fun _ => 0)))] := hD
  refine va_putF (D := (dC, dI)) (ci := 4) (v := .ref q175) (ty := (.array .int)) (C := "ReleaseRowsModel") (T := T_M) (N := 27) hx hb hts in_M ty_M tyok_M nm_M hown hK hP hD hS 0 rfl rfl 26 (by decide) (hts _ k_602) (fun _ h9 => h9) rfl hin rfl (by decide +kernel) rfl rfl (Nat.le_of_ble_eq_true rfl) d_M_init_177 (fun H locs hP hD hS => ?_)
  have hP : va_P (dC, dI) vwCl [(h0, .inr (4, [.int (0 : Int32), .int (0 : Int32), .int (600 : Int32), .int (0 : Int32), .ref q14, .ref q22, .ref q30, .ref q38, .ref q46, .ref q54, .ref q62, .ref q70, .ref q78, .ref q87, .ref q95, .int (0 : Int32), .ref q103, .ref q111, .ref q119, .ref q127, .ref q135, .ref q143, .ref q151, .ref q159, .ref q167, .int (0 : Int32), .ref q175])), (q14, .inl (cI, 24, .inl (fun _ => 0))), (q22, .inl (cI, 24, .inl (fun _ => 0))), (q30, .inl (cI, 24, .inl (fun _ => 0))), (q38, .inl (cI, 24, .inl (fun _ => 0))), (q46, .inl (cI, 24, .inl (fun _ => 0))), (q54, .inl (cI, 24, .inl (fun _ => 0))), (q62, .inl (cI, 24, .inl (fun _ => 0))), (q70, .inl (cI, 24, .inl (fun _ => 0))), (q78, .inl (cI, 24, .inl (fun _ => 0))), (q87, .inl (cI, 144, .inl (fun _ => 0))), (q95, .inl (cI, 6, .inl (fun _ => 0))), (q103, .inl (cI, 20, .inl (fun _ => 0))), (q111, .inl (cZ, 20, .inl (fun _ => 0))), (q119, .inl (cZ, 20, .inl (fun _ => 0))), (q127, .inl (cI, 20, .inl (fun _ => 0))), (q135, .inl (cI, 20, .inl (fun _ => 0))), (q143, .inl (cI, 20, .inl (fun _ => 0))), (q151, .inl (cI, 20, .inl (fun _ => 0))), (q159, .inl (cI, 20, .inl (fun _ => 0))), (q167, .inl (cI, 20, .inl (fun _ => 0))), (q175, .inl (cI, 30, .inl (fun _ => 0)))] H := hP
  have hD : va_D A [(h0, .inr (4, [.int (0 : Int32), .int (0 : Int32), .int (600 : Int32), .int (0 : Int32), .ref q14, .ref q22, .ref q30, .ref q38, .ref q46, .ref q54, .ref q62, .ref q70, .ref q78, .ref q87, .ref q95, .int (0 : Int32), .ref q103, .ref q111, .ref q119, .ref q127, .ref q135, .ref q143, .ref q151, .ref q159, .ref q167, .int (0 : Int32), .ref q175])), (q14, .inl (cI, 24, .inl (fun _ => 0))), (q22, .inl (cI, 24, .inl (fun _ => 0))), (q30, .inl (cI, 24, .inl (fun _ => 0))), (q38, .inl (cI, 24, .inl (fun _ => 0))), (q46, .inl (cI, 24, .inl (fun _ => 0))), (q54, .inl (cI, 24, .inl (fun _ => 0))), (q62, .inl (cI, 24, .inl (fun _ => 0))), (q70, .inl (cI, 24, .inl (fun _ => 0))), (q78, .inl (cI, 24, .inl (fun _ => 0))), (q87, .inl (cI, 144, .inl (fun _ => 0))), (q95, .inl (cI, 6, .inl (fun _ => 0))), (q103, .inl (cI, 20, .inl (fun _ => 0))), (q111, .inl (cZ, 20, .inl (fun _ => 0))), (q119, .inl (cZ, 20, .inl (fun _ => 0))), (q127, .inl (cI, 20, .inl (fun _ => 0))), (q135, .inl (cI, 20, .inl (fun _ => 0))), (q143, .inl (cI, 20, .inl (fun _ => 0))), (q151, .inl (cI, 20, .inl (fun _ => 0))), (q159, .inl (cI, 20, .inl (fun _ => 0))), (q167, .inl (cI, 20, .inl (fun _ => 0))), (q175, .inl (cI, 30, .inl (fun _ => 0)))] := hD
  exact hret (fun j => [h0, 0, 0, 0, 0, q14, q22, q30, q38, q46, q54, q62, q70, q78, q87, q95, 0, q103, q111, q119, q127, q135, q143, q151, q159, q167, 0, q175].getD j 0) H locs _ _ _ _ rfl hP hD hS (Nat.le_of_ble_eq_true rfl) (Nat.le_of_ble_eq_true rfl) d_M_init_180

