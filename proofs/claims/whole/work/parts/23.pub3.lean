def wp_R_inside (xR : St) (xU : St) (xI : St) (xW : St) (a1 : Int32) (a2 : Int32) (post : (St × St × St × St) → Prop) (postX : String → (St × St × St × St) → Prop) : Prop := wp_I_has xI a1 (fun r5 _ => ((¬ r5 = 0 → ((¬ a2 < (0 : Int32) ∧ a2 ≤ (1000 : Int32) → (vp_in a1 20 ∧ ((¬ (xI.1 1 a1.toNatClampNeg) = 0 → (vp_in a1 20 ∧ (wp_R_settle xR xU (sA xI 4 a1.toNatClampNeg a2) xW (fun r42 u42 => (post (u42.1, u42.2.1, u42.2.2.1, u42.2.2.2)))))) ∧ (¬ (¬ (xI.1 1 a1.toNatClampNeg) = 0) → postX "java/lang/IllegalStateException" (xR, xU, xI, xW))))) ∧ (¬ (¬ a2 < (0 : Int32) ∧ a2 ≤ (1000 : Int32)) → postX "java/lang/IndexOutOfBoundsException" (xR, xU, xI, xW)))) ∧ (¬ (¬ r5 = 0) → postX "java/lang/IllegalArgumentException" (xR, xU, xI, xW))))
set_option maxHeartbeats 4000000 in
set_option maxRecDepth 100000 in
theorem c_R_inside (l : Launch) (hl9 : l.stackTraces = false) (sa : Nat → Nat) (dC : Nat → ClassId) (dI : Nat → Nat → Nat) (cI cZ cL : ClassId) (qR : Nat → Nat) (qU : Nat → Nat) (qI : Nat → Nat) (qW : Nat → Nat) (sz : Nat) (xR : St) (xU : St) (xI : St) (xW : St) (a1 : Int32) (a2 : Int32) (post : (St × St × St × St) → Prop) (postX : String → (St × St × St × St) → Prop) (hw : wp_R_inside xR xU xI xW a1 a2 post postX) : vx_Met l y_R_inside w_R_inside ({ frames := 7, cells := 1, slots := 6, locals := 124 } : Room) (va_Pc [.ref (qR 0), .int a1, .int a2] (fun U => xP (dC, dI) vwCl [(cI, .int), (cZ, .boolean), (cL, .long)] (wd_RUIW qR qU qI qW cI cZ cL xR xU xI xW) sz U ∧ xE "ReleaseRows" xTx sa (va_A (wd_RUIW qR qU qI qW cI cZ cL xR xU xI xW) sz) U.heap U)) (va_Qv post (xB (dC, dI) vwCl [(cI, .int), (cZ, .boolean), (cL, .long)] (va_A (wd_RUIW qR qU qI qW cI cZ cL xR xU xI xW) sz) (fun u => (wd_RUIW qR qU qI qW cI cZ cL u.1 u.2.1 u.2.2.1 u.2.2.2))) (va_A (wd_RUIW qR qU qI qW cI cZ cL xR xU xI xW) sz)) (vx_X (fun _ => True) (xBX (dC, dI) vwCl (va_A (wd_RUIW qR qU qI qW cI cZ cL xR xU xI xW) sz) postX (fun u => (wd_RUIW qR qU qI qW cI cZ cL u.1 u.2.1 u.2.2.1 u.2.2.2))) (va_A (wd_RUIW qR qU qI qW cI cZ cL xR xU xI xW) sz)) 1 6 (va_A (wd_RUIW qR qU qI qW cI cZ cL xR xU xI xW) sz) := by
  refine x_ofXV (cc := b_R_inside) (maxL := 3) (by decide) rfl (Nat.le_of_ble_eq_true rfl) (fun p e s m below meth c A Q hx hb hml hts hown hlocks hex hK hA hP hD hS hE hQ hret hthr ls hl => ?_)
  have hl : lv_has ls 3 [(0, .ref (qR 0)), (1, .int a1), (2, .int a2)] := hl
  unfold wp_R_inside at hw
  refine lv_aload_n hx hb d_R_inside_0 rfl (lv_at hl 0 rfl) ?_
  refine va_get (D := (dC, dI)) (ci := 3) (v := .ref (qI 0)) (C := "ReleaseRows") (T := T_R) (N := 6) hx hb hts in_R hown hK hP 0 rfl rfl 1 (by decide) (hts _ k_158) (fun _ h9 => h9) rfl d_R_inside_1 ?_
  refine lv_iload_n hx hb d_R_inside_4 rfl (lv_at hl 1 rfl) ?_
  refine x_ci (w2 := fun _ => (wd_RUIW qR qU qI qW cI cZ cL xR xU xI xW)) [13, 14, 15, 16, 17, 18, 19, 20, 21, 22] [0, 1, 2, 3, 4, 5, 6, 7, 8, 9, 10, 11, 12, 23, 24] [0, 1, 2, 3, 4, 5, 6, 7, 8, 9, 10, 11, 12, 15, 16, 17, 18, 19, 20, 21, 22, 23, 24, 13, 14] (va_runV (As := [.int a1]) (rest := []) ⟨hx, hb, hml, hown, hts⟩ (c_I_has l dC dI cI cZ cL qI _ xI a1 _ hw) (cwV 1 hts (x_gV k_430 k_431 k_432 k_28 k_433) rfl rfl rfl (by decide +kernel) ⟨Nat.le_of_ble_eq_true rfl, Nat.le_of_ble_eq_true rfl⟩) ⟨x_blind, va_recv hK hP (ci := 0) (q0 := 13) rfl rfl, fun U hU hW => x_pre (isC := [13, 14, 15, 16, 17, 18, 19, 20, 21, 22]) hK hP hD rfl rfl hU hW⟩ rfl rfl hl.1 rfl (lv_room (Nat.le_of_ble_eq_true rfl)) d_R_inside_5 ⟨Nat.le_of_ble_eq_true rfl, Nat.le_of_ble_eq_true rfl⟩) hP hD hS hA rfl rfl rfl (by decide) (fun _ => rfl) rfl (fun r5 _ H locs hw hP hD hS => ?_)
  by_cases hg8 : ¬ r5 = 0
  · have hw := hw.1 hg8
    refine x_cv (w2 := fun _ => (wd_RUIW qR qU qI qW cI cZ cL xR xU xI xW)) [] [0, 1, 2, 3, 4, 5, 6, 7, 8, 9, 10, 11, 12, 13, 14, 15, 16, 17, 18, 19, 20, 21, 22, 23, 24] [0, 1, 2, 3, 4, 5, 6, 7, 8, 9, 10, 11, 12, 13, 14, 15, 16, 17, 18, 19, 20, 21, 22, 23, 24] (va_runS (As := [.int r5]) (rest := []) ⟨hx, hb, hml, hown, hts⟩ (c_R_needKnown l dC dI cI cZ cL  _ r5 (fun _ => True) (g_needKnown hg8)) (cwS 1 hts (x_gS k_368 k_369 k_26 k_370) rfl rfl rfl (by decide +kernel) ⟨Nat.le_of_ble_eq_true rfl, Nat.le_of_ble_eq_true rfl⟩) ⟨x_blind, fun U hU hW => x_pre (isC := []) hK hP hD rfl rfl hU hW⟩ rfl rfl hl.1 rfl (lv_room (Nat.le_of_ble_eq_true rfl)) d_R_inside_8 ⟨Nat.le_of_ble_eq_true rfl, Nat.le_of_ble_eq_true rfl⟩) hP hD hS hA rfl rfl rfl (by decide) (fun _ => rfl) rfl (fun _ H locs _ hP hD hS => ?_)
    refine lv_iload_n hx hb d_R_inside_11 rfl (lv_at hl 2 rfl) ?_
    refine lv_iconst (v := (0 : Int32)) hx hb d_R_inside_12 (by decide) ?_
    refine lv_sipush (v := (1000 : Int32)) hx hb d_R_inside_13 (by decide) ?_
    by_cases hg16 : ¬ a2 < (0 : Int32) ∧ a2 ≤ (1000 : Int32)
    · have hw := hw.1 hg16
      refine x_cv (w2 := fun _ => (wd_RUIW qR qU qI qW cI cZ cL xR xU xI xW)) [] [0, 1, 2, 3, 4, 5, 6, 7, 8, 9, 10, 11, 12, 13, 14, 15, 16, 17, 18, 19, 20, 21, 22, 23, 24] [0, 1, 2, 3, 4, 5, 6, 7, 8, 9, 10, 11, 12, 13, 14, 15, 16, 17, 18, 19, 20, 21, 22, 23, 24] (va_runS (As := [.int a2, .int (0 : Int32), .int (1000 : Int32)]) (rest := []) ⟨hx, hb, hml, hown, hts⟩ (c_R_needRange l dC dI cI cZ cL  _ a2 (0 : Int32) (1000 : Int32) (fun _ => True) (g_needRange hg16)) (cwS 3 hts (x_gS k_186 k_187 k_26 k_188) rfl rfl rfl (by decide +kernel) ⟨Nat.le_of_ble_eq_true rfl, Nat.le_of_ble_eq_true rfl⟩) ⟨x_blind, fun U hU hW => x_pre (isC := []) hK hP hD rfl rfl hU hW⟩ rfl rfl hl.1 rfl (lv_room (Nat.le_of_ble_eq_true rfl)) d_R_inside_16 ⟨Nat.le_of_ble_eq_true rfl, Nat.le_of_ble_eq_true rfl⟩) hP hD hS hA rfl rfl rfl (by decide) (fun _ => rfl) rfl (fun _ H locs _ hP hD hS => ?_)
      refine lv_aload_n hx hb d_R_inside_19 rfl (lv_at hl 0 rfl) ?_
      refine va_get (D := (dC, dI)) (ci := 3) (v := .ref (qI 0)) (C := "ReleaseRows") (T := T_R) (N := 6) hx hb hts in_R hown hK hP 0 rfl rfl 1 (by decide) (hts _ k_158) (fun _ h9 => h9) rfl d_R_inside_20 ?_
      refine va_get (D := (dC, dI)) (ci := 0) (v := .ref (qI 2)) (C := "ReleaseRows$IncidentRows") (T := T_I) (N := 10) hx hb hts in_I hown hK hP 13 rfl rfl 1 (by decide) (hts _ k_104) (fun _ h9 => h9) rfl d_R_inside_23 ?_
      refine lv_iload_n hx hb d_R_inside_26 rfl (lv_at hl 1 rfl) ?_
      obtain ⟨h27, hw⟩ := hw
      refine va_zald hx hb hK hP 15 1 rfl rfl h27 d_R_inside_27 ?_
      by_cases hg28 : ¬ (xI.1 1 a1.toNatClampNeg) = 0
      · have hw := hw.1 hg28
        refine x_cv (w2 := fun _ => (wd_RUIW qR qU qI qW cI cZ cL xR xU xI xW)) [] [0, 1, 2, 3, 4, 5, 6, 7, 8, 9, 10, 11, 12, 13, 14, 15, 16, 17, 18, 19, 20, 21, 22, 23, 24] [0, 1, 2, 3, 4, 5, 6, 7, 8, 9, 10, 11, 12, 13, 14, 15, 16, 17, 18, 19, 20, 21, 22, 23, 24] (va_runS (As := [.int (xI.1 1 a1.toNatClampNeg)]) (rest := []) ⟨hx, hb, hml, hown, hts⟩ (c_R_needState l dC dI cI cZ cL  _ (xI.1 1 a1.toNatClampNeg) (fun _ => True) (g_needState hg28)) (cwS 1 hts (x_gS k_434 k_435 k_26 k_436) rfl rfl rfl (by decide +kernel) ⟨Nat.le_of_ble_eq_true rfl, Nat.le_of_ble_eq_true rfl⟩) ⟨x_blind, fun U hU hW => x_pre (isC := []) hK hP hD rfl rfl hU hW⟩ rfl rfl hl.1 rfl (lv_room (Nat.le_of_ble_eq_true rfl)) d_R_inside_28 ⟨Nat.le_of_ble_eq_true rfl, Nat.le_of_ble_eq_true rfl⟩) hP hD hS hA rfl rfl rfl (by decide) (fun _ => rfl) rfl (fun _ H locs _ hP hD hS => ?_)
        refine lv_aload_n hx hb d_R_inside_31 rfl (lv_at hl 0 rfl) ?_
        refine va_get (D := (dC, dI)) (ci := 3) (v := .ref (qI 0)) (C := "ReleaseRows") (T := T_R) (N := 6) hx hb hts in_R hown hK hP 0 rfl rfl 1 (by decide) (hts _ k_158) (fun _ h9 => h9) rfl d_R_inside_32 ?_
        refine va_get (D := (dC, dI)) (ci := 0) (v := .ref (qI 5)) (C := "ReleaseRows$IncidentRows") (T := T_I) (N := 10) hx hb hts in_I hown hK hP 13 rfl rfl 4 (by decide) (hts _ k_110) (fun _ h9 => h9) rfl d_R_inside_35 ?_
        refine lv_iload_n hx hb d_R_inside_38 rfl (lv_at hl 1 rfl) ?_
        refine lv_iload_n hx hb d_R_inside_39 rfl (lv_at hl 2 rfl) ?_
        obtain ⟨h40, hw⟩ := hw
        refine va_iast hx hb hK hP hD hS 18 0 rfl rfl h40 d_R_inside_40 (fun H locs hP hD hS => ?_)
        have hP := wsP_RUIW_I4 hP
        have hD := wsD_RUIW_I4 hD
        refine lv_aload_n hx hb d_R_inside_41 rfl (lv_at hl 0 rfl) ?_
        refine x_ci (w2 := fun u42 => (wd_RUIW qR qU qI qW cI cZ cL u42.1 u42.2.1 u42.2.2.1 u42.2.2.2)) [0, 1, 2, 3, 4, 5, 6, 7, 8, 9, 10, 11, 12, 13, 14, 15, 16, 17, 18, 19, 20, 21, 22, 23, 24] [] [0, 1, 2, 3, 4, 5, 6, 7, 8, 9, 10, 11, 12, 13, 14, 15, 16, 17, 18, 19, 20, 21, 22, 23, 24] (va_runV (As := []) (rest := []) ⟨hx, hb, hml, hown, hts⟩ (c_R_settle l dC dI cI cZ cL qR qU qI qW _ xR xU (sA xI 4 a1.toNatClampNeg a2) xW _ hw) (cwV 0 hts (x_gV k_289 k_291 k_1 k_26 k_292) rfl rfl rfl (by decide +kernel) ⟨Nat.le_of_ble_eq_true rfl, Nat.le_of_ble_eq_true rfl⟩) ⟨x_blind, va_recv hK hP (ci := 3) (q0 := 0) rfl rfl, fun U hU hW => x_pre (isC := [0, 1, 2, 3, 4, 5, 6, 7, 8, 9, 10, 11, 12, 13, 14, 15, 16, 17, 18, 19, 20, 21, 22, 23, 24]) hK hP hD rfl rfl hU hW⟩ rfl rfl hl.1 rfl (lv_room (Nat.le_of_ble_eq_true rfl)) d_R_inside_42 ⟨Nat.le_of_ble_eq_true rfl, Nat.le_of_ble_eq_true rfl⟩) hP hD hS hA rfl rfl rfl (by decide) (fun _ => rfl) rfl (fun r42 u42 H locs hw hP hD hS => ?_)
        refine lv_pop hx hb d_R_inside_45 rfl ?_
        exact hret (u42.1, u42.2.1, u42.2.2.1, u42.2.2.2) _ _ _ _ _ _ hw hP hD hS (Nat.le_of_ble_eq_true rfl) (Nat.le_of_ble_eq_true rfl) d_R_inside_46
      · have hw := hw.2 hg28
        refine x_cxv (w2 := fun _ => (wd_RUIW qR qU qI qW cI cZ cL xR xU xI xW)) (v2 := fun _ => (wd_RUIW qR qU qI qW cI cZ cL xR xU xI xW)) [] [0, 1, 2, 3, 4, 5, 6, 7, 8, 9, 10, 11, 12, 13, 14, 15, 16, 17, 18, 19, 20, 21, 22, 23, 24] [0, 1, 2, 3, 4, 5, 6, 7, 8, 9, 10, 11, 12, 13, 14, 15, 16, 17, 18, 19, 20, 21, 22, 23, 24] (vx_runS (As := [.int (xI.1 1 a1.toNatClampNeg)]) (rest := []) ⟨hx, hb, hml, hown, hts⟩ (c_R_needStateX l hl9 sa dC dI cI cZ cL  _ (xI.1 1 a1.toNatClampNeg) (fun _ => False) (fun E _ => E = "java/lang/IllegalStateException") (g_needStateX hg28)) (cwS 1 hts (x_gS k_434 k_435 k_26 k_436) rfl rfl rfl (by decide +kernel) ⟨Nat.le_of_ble_eq_true rfl, Nat.le_of_ble_eq_true rfl⟩) ⟨x_blindX, fun U hU hW => x_preX (isC := []) hK hP hD hS hA hE rfl rfl hU hW⟩ rfl rfl hl.1 rfl (lv_room (Nat.le_of_ble_eq_true rfl)) d_R_inside_28 ⟨Nat.le_of_ble_eq_true rfl, Nat.le_of_ble_eq_true rfl⟩) hP hD hS hA rfl rfl rfl (by decide) (fun _ => rfl) (fun _ => rfl) rfl (fun E _ ce q9 H locs hpx hP hD hS h1 h2 h3 => hthr E (xR, xU, xI, xW) ce q9 H locs _ _ _ _ _ (hpx ▸ hw) hP hD hS h1 h2 h3 (Nat.le_of_ble_eq_true rfl) (Nat.le_of_ble_eq_true rfl)) (fun _ H locs hf _ _ _ => hf.elim)
    · have hw := hw.2 hg16
      refine x_cxv (w2 := fun _ => (wd_RUIW qR qU qI qW cI cZ cL xR xU xI xW)) (v2 := fun _ => (wd_RUIW qR qU qI qW cI cZ cL xR xU xI xW)) [] [0, 1, 2, 3, 4, 5, 6, 7, 8, 9, 10, 11, 12, 13, 14, 15, 16, 17, 18, 19, 20, 21, 22, 23, 24] [0, 1, 2, 3, 4, 5, 6, 7, 8, 9, 10, 11, 12, 13, 14, 15, 16, 17, 18, 19, 20, 21, 22, 23, 24] (vx_runS (As := [.int a2, .int (0 : Int32), .int (1000 : Int32)]) (rest := []) ⟨hx, hb, hml, hown, hts⟩ (c_R_needRangeX l hl9 sa dC dI cI cZ cL  _ a2 (0 : Int32) (1000 : Int32) (fun _ => False) (fun E _ => E = "java/lang/IndexOutOfBoundsException") (g_needRangeX hg16)) (cwS 3 hts (x_gS k_186 k_187 k_26 k_188) rfl rfl rfl (by decide +kernel) ⟨Nat.le_of_ble_eq_true rfl, Nat.le_of_ble_eq_true rfl⟩) ⟨x_blindX, fun U hU hW => x_preX (isC := []) hK hP hD hS hA hE rfl rfl hU hW⟩ rfl rfl hl.1 rfl (lv_room (Nat.le_of_ble_eq_true rfl)) d_R_inside_16 ⟨Nat.le_of_ble_eq_true rfl, Nat.le_of_ble_eq_true rfl⟩) hP hD hS hA rfl rfl rfl (by decide) (fun _ => rfl) (fun _ => rfl) rfl (fun E _ ce q9 H locs hpx hP hD hS h1 h2 h3 => hthr E (xR, xU, xI, xW) ce q9 H locs _ _ _ _ _ (hpx ▸ hw) hP hD hS h1 h2 h3 (Nat.le_of_ble_eq_true rfl) (Nat.le_of_ble_eq_true rfl)) (fun _ H locs hf _ _ _ => hf.elim)
  · have hw := hw.2 hg8
    refine x_cxv (w2 := fun _ => (wd_RUIW qR qU qI qW cI cZ cL xR xU xI xW)) (v2 := fun _ => (wd_RUIW qR qU qI qW cI cZ cL xR xU xI xW)) [] [0, 1, 2, 3, 4, 5, 6, 7, 8, 9, 10, 11, 12, 13, 14, 15, 16, 17, 18, 19, 20, 21, 22, 23, 24] [0, 1, 2, 3, 4, 5, 6, 7, 8, 9, 10, 11, 12, 13, 14, 15, 16, 17, 18, 19, 20, 21, 22, 23, 24] (vx_runS (As := [.int r5]) (rest := []) ⟨hx, hb, hml, hown, hts⟩ (c_R_needKnownX l hl9 sa dC dI cI cZ cL  _ r5 (fun _ => False) (fun E _ => E = "java/lang/IllegalArgumentException") (g_needKnownX hg8)) (cwS 1 hts (x_gS k_368 k_369 k_26 k_370) rfl rfl rfl (by decide +kernel) ⟨Nat.le_of_ble_eq_true rfl, Nat.le_of_ble_eq_true rfl⟩) ⟨x_blindX, fun U hU hW => x_preX (isC := []) hK hP hD hS hA hE rfl rfl hU hW⟩ rfl rfl hl.1 rfl (lv_room (Nat.le_of_ble_eq_true rfl)) d_R_inside_8 ⟨Nat.le_of_ble_eq_true rfl, Nat.le_of_ble_eq_true rfl⟩) hP hD hS hA rfl rfl rfl (by decide) (fun _ => rfl) (fun _ => rfl) rfl (fun E _ ce q9 H locs hpx hP hD hS h1 h2 h3 => hthr E (xR, xU, xI, xW) ce q9 H locs _ _ _ _ _ (hpx ▸ hw) hP hD hS h1 h2 h3 (Nat.le_of_ble_eq_true rfl) (Nat.le_of_ble_eq_true rfl)) (fun _ H locs hf _ _ _ => hf.elim)

def wj_R_report_26 (xR : St) (xU : St) (xI : St) (xW : St) (a1 : Int32) (a2 : Int32) (post : (St × St × St × St) → Prop) (postX : String → (St × St × St × St) → Prop) (xR_ : St) (xU_ : St) (xI_ : St) (xW_ : St) (s0_ : Int32) : Prop := (¬ s0_ = 0 → (vp_in a1 20 ∧ ((¬ (xI_.1 1 a1.toNatClampNeg) = 0 → (vp_in a1 20 ∧ (vp_in a1 20 ∧ (wp_R_settle xR_ xU_ (sA xI_ 3 a1.toNatClampNeg ((xI_.1 3 a1.toNatClampNeg) ||| ((1 : Int32) <<< (a2 &&& 31)))) xW_ (fun r57 u57 => (post (u57.1, u57.2.1, u57.2.2.1, u57.2.2.2))))))) ∧ (¬ (¬ (xI_.1 1 a1.toNatClampNeg) = 0) → postX "java/lang/IllegalStateException" (xR_, xU_, xI_, xW_))))) ∧ (¬ (¬ s0_ = 0) → postX "java/lang/IllegalArgumentException" (xR_, xU_, xI_, xW_))
def wj_R_report_25 (xR : St) (xU : St) (xI : St) (xW : St) (a1 : Int32) (a2 : Int32) (post : (St × St × St × St) → Prop) (postX : String → (St × St × St × St) → Prop) (xR_ : St) (xU_ : St) (xI_ : St) (xW_ : St) : Prop := wj_R_report_26 xR xU xI xW a1 a2 post postX xR_ xU_ xI_ xW_ (0 : Int32)
def wp_R_report (xR : St) (xU : St) (xI : St) (xW : St) (a1 : Int32) (a2 : Int32) (post : (St × St × St × St) → Prop) (postX : String → (St × St × St × St) → Prop) : Prop := wp_I_has xI a1 (fun r5 _ => ((r5 = 0 → (wj_R_report_25 xR xU xI xW a1 a2 post postX xR xU xI xW)) ∧ (¬ r5 = 0 → ((a2 < 0 → (wj_R_report_25 xR xU xI xW a1 a2 post postX xR xU xI xW)) ∧ (¬ a2 < 0 → (((7 : Int32) < a2 → (wj_R_report_25 xR xU xI xW a1 a2 post postX xR xU xI xW)) ∧ (¬ (7 : Int32) < a2 → (wj_R_report_26 xR xU xI xW a1 a2 post postX xR xU xI xW (1 : Int32)))))))))
set_option maxHeartbeats 4000000 in
set_option maxRecDepth 100000 in
theorem c_R_report (l : Launch) (hl9 : l.stackTraces = false) (sa : Nat → Nat) (dC : Nat → ClassId) (dI : Nat → Nat → Nat) (cI cZ cL : ClassId) (qR : Nat → Nat) (qU : Nat → Nat) (qI : Nat → Nat) (qW : Nat → Nat) (sz : Nat) (xR : St) (xU : St) (xI : St) (xW : St) (a1 : Int32) (a2 : Int32) (post : (St × St × St × St) → Prop) (postX : String → (St × St × St × St) → Prop) (hw : wp_R_report xR xU xI xW a1 a2 post postX) : vx_Met l y_R_report w_R_report ({ frames := 7, cells := 1, slots := 6, locals := 124 } : Room) (va_Pc [.ref (qR 0), .int a1, .int a2] (fun U => xP (dC, dI) vwCl [(cI, .int), (cZ, .boolean), (cL, .long)] (wd_RUIW qR qU qI qW cI cZ cL xR xU xI xW) sz U ∧ xE "ReleaseRows" xTx sa (va_A (wd_RUIW qR qU qI qW cI cZ cL xR xU xI xW) sz) U.heap U)) (va_Qv post (xB (dC, dI) vwCl [(cI, .int), (cZ, .boolean), (cL, .long)] (va_A (wd_RUIW qR qU qI qW cI cZ cL xR xU xI xW) sz) (fun u => (wd_RUIW qR qU qI qW cI cZ cL u.1 u.2.1 u.2.2.1 u.2.2.2))) (va_A (wd_RUIW qR qU qI qW cI cZ cL xR xU xI xW) sz)) (vx_X (fun _ => True) (xBX (dC, dI) vwCl (va_A (wd_RUIW qR qU qI qW cI cZ cL xR xU xI xW) sz) postX (fun u => (wd_RUIW qR qU qI qW cI cZ cL u.1 u.2.1 u.2.2.1 u.2.2.2))) (va_A (wd_RUIW qR qU qI qW cI cZ cL xR xU xI xW) sz)) 1 6 (va_A (wd_RUIW qR qU qI qW cI cZ cL xR xU xI xW) sz) := by
  refine x_ofXV (cc := b_R_report) (maxL := 3) (by decide) rfl (Nat.le_of_ble_eq_true rfl) (fun p e s m below meth c A Q hx hb hml hts hown hlocks hex hK hA hP hD hS hE hQ hret hthr ls hl => ?_)
  have hl : lv_has ls 3 [(0, .ref (qR 0)), (1, .int a1), (2, .int a2)] := hl
  have jn26 : ∀ (xR_ : St) (xU_ : St) (xI_ : St) (xW_ : St) (s0_ : Int32) (H : Heap) (locs : List Loc) (ls : Array Slot), wj_R_report_26 xR xU xI xW a1 a2 post postX xR_ xU_ xI_ xW_ s0_ → va_P (dC, dI) vwCl (wd_RUIW qR qU qI qW cI cZ cL xR_ xU_ xI_ xW_) H → va_D A (wd_RUIW qR qU qI qW cI cZ cL xR_ xU_ xI_ xW_) → va_S A s.heap H locs → lv_has ls 3 [(0, .ref (qR 0)), (1, .int a1), (2, .int a2)] → W p l e (headSpec w_R_report ({ frames := 7, cells := 1, slots := 6, locals := 124 } : Room)).room s m ([.ref (qR 0), .int a1, .int a2] : List Value).toArray below meth c H locs 0 0 Q (F0 m 26 ls [.int s0_]) := by
    intro xR_ xU_ xI_ xW_ s0_ H locs ls hw hP hD hS hl
    unfold wj_R_report_26 at hw
    by_cases hg26 : ¬ s0_ = 0
    · have hw := hw.1 hg26
      refine x_cv (w2 := fun _ => (wd_RUIW qR qU qI qW cI cZ cL xR_ xU_ xI_ xW_)) [] [0, 1, 2, 3, 4, 5, 6, 7, 8, 9, 10, 11, 12, 13, 14, 15, 16, 17, 18, 19, 20, 21, 22, 23, 24] [0, 1, 2, 3, 4, 5, 6, 7, 8, 9, 10, 11, 12, 13, 14, 15, 16, 17, 18, 19, 20, 21, 22, 23, 24] (va_runS (As := [.int s0_]) (rest := []) ⟨hx, hb, hml, hown, hts⟩ (c_R_needKnown l dC dI cI cZ cL  _ s0_ (fun _ => True) (g_needKnown hg26)) (cwS 1 hts (x_gS k_368 k_369 k_26 k_370) rfl rfl rfl (by decide +kernel) ⟨Nat.le_of_ble_eq_true rfl, Nat.le_of_ble_eq_true rfl⟩) ⟨x_blind, fun U hU hW => x_pre (isC := []) hK hP hD rfl rfl hU hW⟩ rfl rfl hl.1 rfl (lv_room (Nat.le_of_ble_eq_true rfl)) d_R_report_26 ⟨Nat.le_of_ble_eq_true rfl, Nat.le_of_ble_eq_true rfl⟩) hP hD hS hA rfl rfl rfl (by decide) (fun _ => rfl) rfl (fun _ H locs _ hP hD hS => ?_)
      refine lv_aload_n hx hb d_R_report_29 rfl (lv_at hl 0 rfl) ?_
      refine va_get (D := (dC, dI)) (ci := 3) (v := .ref (qI 0)) (C := "ReleaseRows") (T := T_R) (N := 6) hx hb hts in_R hown hK hP 0 rfl rfl 1 (by decide) (hts _ k_158) (fun _ h9 => h9) rfl d_R_report_30 ?_
      refine va_get (D := (dC, dI)) (ci := 0) (v := .ref (qI 2)) (C := "ReleaseRows$IncidentRows") (T := T_I) (N := 10) hx hb hts in_I hown hK hP 13 rfl rfl 1 (by decide) (hts _ k_104) (fun _ h9 => h9) rfl d_R_report_33 ?_
      refine lv_iload_n hx hb d_R_report_36 rfl (lv_at hl 1 rfl) ?_
      obtain ⟨h37, hw⟩ := hw
      refine va_zald hx hb hK hP 15 1 rfl rfl h37 d_R_report_37 ?_
      by_cases hg38 : ¬ (xI_.1 1 a1.toNatClampNeg) = 0
      · have hw := hw.1 hg38
        refine x_cv (w2 := fun _ => (wd_RUIW qR qU qI qW cI cZ cL xR_ xU_ xI_ xW_)) [] [0, 1, 2, 3, 4, 5, 6, 7, 8, 9, 10, 11, 12, 13, 14, 15, 16, 17, 18, 19, 20, 21, 22, 23, 24] [0, 1, 2, 3, 4, 5, 6, 7, 8, 9, 10, 11, 12, 13, 14, 15, 16, 17, 18, 19, 20, 21, 22, 23, 24] (va_runS (As := [.int (xI_.1 1 a1.toNatClampNeg)]) (rest := []) ⟨hx, hb, hml, hown, hts⟩ (c_R_needState l dC dI cI cZ cL  _ (xI_.1 1 a1.toNatClampNeg) (fun _ => True) (g_needState hg38)) (cwS 1 hts (x_gS k_434 k_435 k_26 k_436) rfl rfl rfl (by decide +kernel) ⟨Nat.le_of_ble_eq_true rfl, Nat.le_of_ble_eq_true rfl⟩) ⟨x_blind, fun U hU hW => x_pre (isC := []) hK hP hD rfl rfl hU hW⟩ rfl rfl hl.1 rfl (lv_room (Nat.le_of_ble_eq_true rfl)) d_R_report_38 ⟨Nat.le_of_ble_eq_true rfl, Nat.le_of_ble_eq_true rfl⟩) hP hD hS hA rfl rfl rfl (by decide) (fun _ => rfl) rfl (fun _ H locs _ hP hD hS => ?_)
        refine lv_aload_n hx hb d_R_report_41 rfl (lv_at hl 0 rfl) ?_
        refine va_get (D := (dC, dI)) (ci := 3) (v := .ref (qI 0)) (C := "ReleaseRows") (T := T_R) (N := 6) hx hb hts in_R hown hK hP 0 rfl rfl 1 (by decide) (hts _ k_158) (fun _ h9 => h9) rfl d_R_report_42 ?_
        refine va_get (D := (dC, dI)) (ci := 0) (v := .ref (qI 4)) (C := "ReleaseRows$IncidentRows") (T := T_I) (N := 10) hx hb hts in_I hown hK hP 13 rfl rfl 3 (by decide) (hts _ k_108) (fun _ h9 => h9) rfl d_R_report_45 ?_
        refine lv_iload_n hx hb d_R_report_48 rfl (lv_at hl 1 rfl) ?_
        refine lv_dup2_11 hx hb d_R_report_49 rfl rfl ?_
        obtain ⟨h50, hw⟩ := hw
        refine va_iald hx hb hK hP 17 0 rfl rfl h50 d_R_report_50 ?_
        refine lv_iconst (v := (1 : Int32)) hx hb d_R_report_51 (by decide) ?_
        refine lv_iload_n hx hb d_R_report_52 rfl (lv_at hl 2 rfl) ?_
        refine lv_ishl hx hb d_R_report_53 ?_
        refine lv_ior hx hb d_R_report_54 ?_
        obtain ⟨h55, hw⟩ := hw
        refine va_iast hx hb hK hP hD hS 17 0 rfl rfl h55 d_R_report_55 (fun H locs hP hD hS => ?_)
        have hP := wsP_RUIW_I3 hP
        have hD := wsD_RUIW_I3 hD
        refine lv_aload_n hx hb d_R_report_56 rfl (lv_at hl 0 rfl) ?_
        refine x_ci (w2 := fun u57 => (wd_RUIW qR qU qI qW cI cZ cL u57.1 u57.2.1 u57.2.2.1 u57.2.2.2)) [0, 1, 2, 3, 4, 5, 6, 7, 8, 9, 10, 11, 12, 13, 14, 15, 16, 17, 18, 19, 20, 21, 22, 23, 24] [] [0, 1, 2, 3, 4, 5, 6, 7, 8, 9, 10, 11, 12, 13, 14, 15, 16, 17, 18, 19, 20, 21, 22, 23, 24] (va_runV (As := []) (rest := []) ⟨hx, hb, hml, hown, hts⟩ (c_R_settle l dC dI cI cZ cL qR qU qI qW _ xR_ xU_ (sA xI_ 3 a1.toNatClampNeg ((xI_.1 3 a1.toNatClampNeg) ||| ((1 : Int32) <<< (a2 &&& 31)))) xW_ _ hw) (cwV 0 hts (x_gV k_289 k_291 k_1 k_26 k_292) rfl rfl rfl (by decide +kernel) ⟨Nat.le_of_ble_eq_true rfl, Nat.le_of_ble_eq_true rfl⟩) ⟨x_blind, va_recv hK hP (ci := 3) (q0 := 0) rfl rfl, fun U hU hW => x_pre (isC := [0, 1, 2, 3, 4, 5, 6, 7, 8, 9, 10, 11, 12, 13, 14, 15, 16, 17, 18, 19, 20, 21, 22, 23, 24]) hK hP hD rfl rfl hU hW⟩ rfl rfl hl.1 rfl (lv_room (Nat.le_of_ble_eq_true rfl)) d_R_report_57 ⟨Nat.le_of_ble_eq_true rfl, Nat.le_of_ble_eq_true rfl⟩) hP hD hS hA rfl rfl rfl (by decide) (fun _ => rfl) rfl (fun r57 u57 H locs hw hP hD hS => ?_)
        refine lv_pop hx hb d_R_report_60 rfl ?_
        exact hret (u57.1, u57.2.1, u57.2.2.1, u57.2.2.2) _ _ _ _ _ _ hw hP hD hS (Nat.le_of_ble_eq_true rfl) (Nat.le_of_ble_eq_true rfl) d_R_report_61
      · have hw := hw.2 hg38
        refine x_cxv (w2 := fun _ => (wd_RUIW qR qU qI qW cI cZ cL xR_ xU_ xI_ xW_)) (v2 := fun _ => (wd_RUIW qR qU qI qW cI cZ cL xR_ xU_ xI_ xW_)) [] [0, 1, 2, 3, 4, 5, 6, 7, 8, 9, 10, 11, 12, 13, 14, 15, 16, 17, 18, 19, 20, 21, 22, 23, 24] [0, 1, 2, 3, 4, 5, 6, 7, 8, 9, 10, 11, 12, 13, 14, 15, 16, 17, 18, 19, 20, 21, 22, 23, 24] (vx_runS (As := [.int (xI_.1 1 a1.toNatClampNeg)]) (rest := []) ⟨hx, hb, hml, hown, hts⟩ (c_R_needStateX l hl9 sa dC dI cI cZ cL  _ (xI_.1 1 a1.toNatClampNeg) (fun _ => False) (fun E _ => E = "java/lang/IllegalStateException") (g_needStateX hg38)) (cwS 1 hts (x_gS k_434 k_435 k_26 k_436) rfl rfl rfl (by decide +kernel) ⟨Nat.le_of_ble_eq_true rfl, Nat.le_of_ble_eq_true rfl⟩) ⟨x_blindX, fun U hU hW => x_preX (isC := []) hK hP hD hS hA hE rfl rfl hU hW⟩ rfl rfl hl.1 rfl (lv_room (Nat.le_of_ble_eq_true rfl)) d_R_report_38 ⟨Nat.le_of_ble_eq_true rfl, Nat.le_of_ble_eq_true rfl⟩) hP hD hS hA rfl rfl rfl (by decide) (fun _ => rfl) (fun _ => rfl) rfl (fun E _ ce q9 H locs hpx hP hD hS h1 h2 h3 => hthr E (xR_, xU_, xI_, xW_) ce q9 H locs _ _ _ _ _ (hpx ▸ hw) hP hD hS h1 h2 h3 (Nat.le_of_ble_eq_true rfl) (Nat.le_of_ble_eq_true rfl)) (fun _ H locs hf _ _ _ => hf.elim)
    · have hw := hw.2 hg26
      refine x_cxv (w2 := fun _ => (wd_RUIW qR qU qI qW cI cZ cL xR_ xU_ xI_ xW_)) (v2 := fun _ => (wd_RUIW qR qU qI qW cI cZ cL xR_ xU_ xI_ xW_)) [] [0, 1, 2, 3, 4, 5, 6, 7, 8, 9, 10, 11, 12, 13, 14, 15, 16, 17, 18, 19, 20, 21, 22, 23, 24] [0, 1, 2, 3, 4, 5, 6, 7, 8, 9, 10, 11, 12, 13, 14, 15, 16, 17, 18, 19, 20, 21, 22, 23, 24] (vx_runS (As := [.int s0_]) (rest := []) ⟨hx, hb, hml, hown, hts⟩ (c_R_needKnownX l hl9 sa dC dI cI cZ cL  _ s0_ (fun _ => False) (fun E _ => E = "java/lang/IllegalArgumentException") (g_needKnownX hg26)) (cwS 1 hts (x_gS k_368 k_369 k_26 k_370) rfl rfl rfl (by decide +kernel) ⟨Nat.le_of_ble_eq_true rfl, Nat.le_of_ble_eq_true rfl⟩) ⟨x_blindX, fun U hU hW => x_preX (isC := []) hK hP hD hS hA hE rfl rfl hU hW⟩ rfl rfl hl.1 rfl (lv_room (Nat.le_of_ble_eq_true rfl)) d_R_report_26 ⟨Nat.le_of_ble_eq_true rfl, Nat.le_of_ble_eq_true rfl⟩) hP hD hS hA rfl rfl rfl (by decide) (fun _ => rfl) (fun _ => rfl) rfl (fun E _ ce q9 H locs hpx hP hD hS h1 h2 h3 => hthr E (xR_, xU_, xI_, xW_) ce q9 H locs _ _ _ _ _ (hpx ▸ hw) hP hD hS h1 h2 h3 (Nat.le_of_ble_eq_true rfl) (Nat.le_of_ble_eq_true rfl)) (fun _ H locs hf _ _ _ => hf.elim)
  have jn25 : ∀ (xR_ : St) (xU_ : St) (xI_ : St) (xW_ : St) (H : Heap) (locs : List Loc) (ls : Array Slot), wj_R_report_25 xR xU xI xW a1 a2 post postX xR_ xU_ xI_ xW_ → va_P (dC, dI) vwCl (wd_RUIW qR qU qI qW cI cZ cL xR_ xU_ xI_ xW_) H → va_D A (wd_RUIW qR qU qI qW cI cZ cL xR_ xU_ xI_ xW_) → va_S A s.heap H locs → lv_has ls 3 [(0, .ref (qR 0)), (1, .int a1), (2, .int a2)] → W p l e (headSpec w_R_report ({ frames := 7, cells := 1, slots := 6, locals := 124 } : Room)).room s m ([.ref (qR 0), .int a1, .int a2] : List Value).toArray below meth c H locs 0 0 Q (F0 m 25 ls []) := by
    intro xR_ xU_ xI_ xW_ H locs ls hw hP hD hS hl
    unfold wj_R_report_25 at hw
    refine lv_iconst (v := (0 : Int32)) hx hb d_R_report_25 (by decide) ?_
    exact jn26 xR_ xU_ xI_ xW_ (0 : Int32) _ _ _ hw hP hD hS hl
  unfold wp_R_report at hw
  refine lv_aload_n hx hb d_R_report_0 rfl (lv_at hl 0 rfl) ?_
  refine va_get (D := (dC, dI)) (ci := 3) (v := .ref (qI 0)) (C := "ReleaseRows") (T := T_R) (N := 6) hx hb hts in_R hown hK hP 0 rfl rfl 1 (by decide) (hts _ k_158) (fun _ h9 => h9) rfl d_R_report_1 ?_
  refine lv_iload_n hx hb d_R_report_4 rfl (lv_at hl 1 rfl) ?_
  refine x_ci (w2 := fun _ => (wd_RUIW qR qU qI qW cI cZ cL xR xU xI xW)) [13, 14, 15, 16, 17, 18, 19, 20, 21, 22] [0, 1, 2, 3, 4, 5, 6, 7, 8, 9, 10, 11, 12, 23, 24] [0, 1, 2, 3, 4, 5, 6, 7, 8, 9, 10, 11, 12, 15, 16, 17, 18, 19, 20, 21, 22, 23, 24, 13, 14] (va_runV (As := [.int a1]) (rest := []) ⟨hx, hb, hml, hown, hts⟩ (c_I_has l dC dI cI cZ cL qI _ xI a1 _ hw) (cwV 1 hts (x_gV k_430 k_431 k_432 k_28 k_433) rfl rfl rfl (by decide +kernel) ⟨Nat.le_of_ble_eq_true rfl, Nat.le_of_ble_eq_true rfl⟩) ⟨x_blind, va_recv hK hP (ci := 0) (q0 := 13) rfl rfl, fun U hU hW => x_pre (isC := [13, 14, 15, 16, 17, 18, 19, 20, 21, 22]) hK hP hD rfl rfl hU hW⟩ rfl rfl hl.1 rfl (lv_room (Nat.le_of_ble_eq_true rfl)) d_R_report_5 ⟨Nat.le_of_ble_eq_true rfl, Nat.le_of_ble_eq_true rfl⟩) hP hD hS hA rfl rfl rfl (by decide) (fun _ => rfl) rfl (fun r5 _ H locs hw hP hD hS => ?_)
  refine lv_if_eq (tgt := 25) hx hb d_R_report_8 (by decide) (fun c8 => ?_) (fun c8 => ?_)
  · have hw := hw.1 c8
    exact jn25 xR xU xI xW _ _ _ hw hP hD hS hl
  · have hw := hw.2 c8
    refine lv_iload_n hx hb d_R_report_11 rfl (lv_at hl 2 rfl) ?_
    refine lv_if_lt (tgt := 25) hx hb d_R_report_12 (by decide) (fun c12 => ?_) (fun c12 => ?_)
    · have hw := hw.1 c12
      exact jn25 xR xU xI xW _ _ _ hw hP hD hS hl
    · have hw := hw.2 c12
      refine lv_iload_n hx hb d_R_report_15 rfl (lv_at hl 2 rfl) ?_
      refine lv_bipush (v := (7 : Int32)) hx hb d_R_report_16 (by decide) ?_
      refine lv_icmp_gt (tgt := 25) hx hb d_R_report_18 (by decide) (fun c18 => ?_) (fun c18 => ?_)
      · have hw := hw.1 c18
        exact jn25 xR xU xI xW _ _ _ hw hP hD hS hl
      · have hw := hw.2 c18
        refine lv_iconst (v := (1 : Int32)) hx hb d_R_report_21 (by decide) ?_
        refine lv_goto (tgt := 26) hx hb d_R_report_22 (by decide) ?_
        exact jn26 xR xU xI xW (1 : Int32) _ _ _ hw hP hD hS hl

def wp_R_watch (xR : St) (xU : St) (xI : St) (xW : St) (a1 : Int32) (a2 : Int32) (post : (St × St × St × St) → Prop) (postX : String → (St × St × St × St) → Prop) : Prop := wp_I_has xI a1 (fun r5 _ => ((¬ r5 = 0 → ((¬ a2 < (-1 : Int32) ∧ a2 ≤ (999999 : Int32) → (vp_in a1 20 ∧ ((¬ (xI.1 1 a1.toNatClampNeg) = 0 → (vp_in a1 20 ∧ (wp_R_settle xR xU (sA xI 5 a1.toNatClampNeg a2) xW (fun r41 u41 => (post (u41.1, u41.2.1, u41.2.2.1, u41.2.2.2)))))) ∧ (¬ (¬ (xI.1 1 a1.toNatClampNeg) = 0) → postX "java/lang/IllegalStateException" (xR, xU, xI, xW))))) ∧ (¬ (¬ a2 < (-1 : Int32) ∧ a2 ≤ (999999 : Int32)) → postX "java/lang/IndexOutOfBoundsException" (xR, xU, xI, xW)))) ∧ (¬ (¬ r5 = 0) → postX "java/lang/IllegalArgumentException" (xR, xU, xI, xW))))
set_option maxHeartbeats 4000000 in
set_option maxRecDepth 100000 in
theorem c_R_watch (l : Launch) (hl9 : l.stackTraces = false) (sa : Nat → Nat) (dC : Nat → ClassId) (dI : Nat → Nat → Nat) (cI cZ cL : ClassId) (qR : Nat → Nat) (qU : Nat → Nat) (qI : Nat → Nat) (qW : Nat → Nat) (sz : Nat) (xR : St) (xU : St) (xI : St) (xW : St) (a1 : Int32) (a2 : Int32) (post : (St × St × St × St) → Prop) (postX : String → (St × St × St × St) → Prop) (hw : wp_R_watch xR xU xI xW a1 a2 post postX) : vx_Met l y_R_watch w_R_watch ({ frames := 7, cells := 1, slots := 6, locals := 124 } : Room) (va_Pc [.ref (qR 0), .int a1, .int a2] (fun U => xP (dC, dI) vwCl [(cI, .int), (cZ, .boolean), (cL, .long)] (wd_RUIW qR qU qI qW cI cZ cL xR xU xI xW) sz U ∧ xE "ReleaseRows" xTx sa (va_A (wd_RUIW qR qU qI qW cI cZ cL xR xU xI xW) sz) U.heap U)) (va_Qv post (xB (dC, dI) vwCl [(cI, .int), (cZ, .boolean), (cL, .long)] (va_A (wd_RUIW qR qU qI qW cI cZ cL xR xU xI xW) sz) (fun u => (wd_RUIW qR qU qI qW cI cZ cL u.1 u.2.1 u.2.2.1 u.2.2.2))) (va_A (wd_RUIW qR qU qI qW cI cZ cL xR xU xI xW) sz)) (vx_X (fun _ => True) (xBX (dC, dI) vwCl (va_A (wd_RUIW qR qU qI qW cI cZ cL xR xU xI xW) sz) postX (fun u => (wd_RUIW qR qU qI qW cI cZ cL u.1 u.2.1 u.2.2.1 u.2.2.2))) (va_A (wd_RUIW qR qU qI qW cI cZ cL xR xU xI xW) sz)) 1 6 (va_A (wd_RUIW qR qU qI qW cI cZ cL xR xU xI xW) sz) := by
  refine x_ofXV (cc := b_R_watch) (maxL := 3) (by decide) rfl (Nat.le_of_ble_eq_true rfl) (fun p e s m below meth c A Q hx hb hml hts hown hlocks hex hK hA hP hD hS hE hQ hret hthr ls hl => ?_)
  have hl : lv_has ls 3 [(0, .ref (qR 0)), (1, .int a1), (2, .int a2)] := hl
  unfold wp_R_watch at hw
  refine lv_aload_n hx hb d_R_watch_0 rfl (lv_at hl 0 rfl) ?_
  refine va_get (D := (dC, dI)) (ci := 3) (v := .ref (qI 0)) (C := "ReleaseRows") (T := T_R) (N := 6) hx hb hts in_R hown hK hP 0 rfl rfl 1 (by decide) (hts _ k_158) (fun _ h9 => h9) rfl d_R_watch_1 ?_
  refine lv_iload_n hx hb d_R_watch_4 rfl (lv_at hl 1 rfl) ?_
  refine x_ci (w2 := fun _ => (wd_RUIW qR qU qI qW cI cZ cL xR xU xI xW)) [13, 14, 15, 16, 17, 18, 19, 20, 21, 22] [0, 1, 2, 3, 4, 5, 6, 7, 8, 9, 10, 11, 12, 23, 24] [0, 1, 2, 3, 4, 5, 6, 7, 8, 9, 10, 11, 12, 15, 16, 17, 18, 19, 20, 21, 22, 23, 24, 13, 14] (va_runV (As := [.int a1]) (rest := []) ⟨hx, hb, hml, hown, hts⟩ (c_I_has l dC dI cI cZ cL qI _ xI a1 _ hw) (cwV 1 hts (x_gV k_430 k_431 k_432 k_28 k_433) rfl rfl rfl (by decide +kernel) ⟨Nat.le_of_ble_eq_true rfl, Nat.le_of_ble_eq_true rfl⟩) ⟨x_blind, va_recv hK hP (ci := 0) (q0 := 13) rfl rfl, fun U hU hW => x_pre (isC := [13, 14, 15, 16, 17, 18, 19, 20, 21, 22]) hK hP hD rfl rfl hU hW⟩ rfl rfl hl.1 rfl (lv_room (Nat.le_of_ble_eq_true rfl)) d_R_watch_5 ⟨Nat.le_of_ble_eq_true rfl, Nat.le_of_ble_eq_true rfl⟩) hP hD hS hA rfl rfl rfl (by decide) (fun _ => rfl) rfl (fun r5 _ H locs hw hP hD hS => ?_)
  by_cases hg8 : ¬ r5 = 0
  · have hw := hw.1 hg8
    refine x_cv (w2 := fun _ => (wd_RUIW qR qU qI qW cI cZ cL xR xU xI xW)) [] [0, 1, 2, 3, 4, 5, 6, 7, 8, 9, 10, 11, 12, 13, 14, 15, 16, 17, 18, 19, 20, 21, 22, 23, 24] [0, 1, 2, 3, 4, 5, 6, 7, 8, 9, 10, 11, 12, 13, 14, 15, 16, 17, 18, 19, 20, 21, 22, 23, 24] (va_runS (As := [.int r5]) (rest := []) ⟨hx, hb, hml, hown, hts⟩ (c_R_needKnown l dC dI cI cZ cL  _ r5 (fun _ => True) (g_needKnown hg8)) (cwS 1 hts (x_gS k_368 k_369 k_26 k_370) rfl rfl rfl (by decide +kernel) ⟨Nat.le_of_ble_eq_true rfl, Nat.le_of_ble_eq_true rfl⟩) ⟨x_blind, fun U hU hW => x_pre (isC := []) hK hP hD rfl rfl hU hW⟩ rfl rfl hl.1 rfl (lv_room (Nat.le_of_ble_eq_true rfl)) d_R_watch_8 ⟨Nat.le_of_ble_eq_true rfl, Nat.le_of_ble_eq_true rfl⟩) hP hD hS hA rfl rfl rfl (by decide) (fun _ => rfl) rfl (fun _ H locs _ hP hD hS => ?_)
    refine lv_iload_n hx hb d_R_watch_11 rfl (lv_at hl 2 rfl) ?_
    refine lv_iconst (v := (-1 : Int32)) hx hb d_R_watch_12 (by decide) ?_
    refine lv_ldc (v := (999999 : Int32)) hx hb hown (hts _ k_518) d_R_watch_13 ?_
    by_cases hg15 : ¬ a2 < (-1 : Int32) ∧ a2 ≤ (999999 : Int32)
    · have hw := hw.1 hg15
      refine x_cv (w2 := fun _ => (wd_RUIW qR qU qI qW cI cZ cL xR xU xI xW)) [] [0, 1, 2, 3, 4, 5, 6, 7, 8, 9, 10, 11, 12, 13, 14, 15, 16, 17, 18, 19, 20, 21, 22, 23, 24] [0, 1, 2, 3, 4, 5, 6, 7, 8, 9, 10, 11, 12, 13, 14, 15, 16, 17, 18, 19, 20, 21, 22, 23, 24] (va_runS (As := [.int a2, .int (-1 : Int32), .int (999999 : Int32)]) (rest := []) ⟨hx, hb, hml, hown, hts⟩ (c_R_needRange l dC dI cI cZ cL  _ a2 (-1 : Int32) (999999 : Int32) (fun _ => True) (g_needRange hg15)) (cwS 3 hts (x_gS k_186 k_187 k_26 k_188) rfl rfl rfl (by decide +kernel) ⟨Nat.le_of_ble_eq_true rfl, Nat.le_of_ble_eq_true rfl⟩) ⟨x_blind, fun U hU hW => x_pre (isC := []) hK hP hD rfl rfl hU hW⟩ rfl rfl hl.1 rfl (lv_room (Nat.le_of_ble_eq_true rfl)) d_R_watch_15 ⟨Nat.le_of_ble_eq_true rfl, Nat.le_of_ble_eq_true rfl⟩) hP hD hS hA rfl rfl rfl (by decide) (fun _ => rfl) rfl (fun _ H locs _ hP hD hS => ?_)
      refine lv_aload_n hx hb d_R_watch_18 rfl (lv_at hl 0 rfl) ?_
      refine va_get (D := (dC, dI)) (ci := 3) (v := .ref (qI 0)) (C := "ReleaseRows") (T := T_R) (N := 6) hx hb hts in_R hown hK hP 0 rfl rfl 1 (by decide) (hts _ k_158) (fun _ h9 => h9) rfl d_R_watch_19 ?_
      refine va_get (D := (dC, dI)) (ci := 0) (v := .ref (qI 2)) (C := "ReleaseRows$IncidentRows") (T := T_I) (N := 10) hx hb hts in_I hown hK hP 13 rfl rfl 1 (by decide) (hts _ k_104) (fun _ h9 => h9) rfl d_R_watch_22 ?_
      refine lv_iload_n hx hb d_R_watch_25 rfl (lv_at hl 1 rfl) ?_
      obtain ⟨h26, hw⟩ := hw
      refine va_zald hx hb hK hP 15 1 rfl rfl h26 d_R_watch_26 ?_
      by_cases hg27 : ¬ (xI.1 1 a1.toNatClampNeg) = 0
      · have hw := hw.1 hg27
        refine x_cv (w2 := fun _ => (wd_RUIW qR qU qI qW cI cZ cL xR xU xI xW)) [] [0, 1, 2, 3, 4, 5, 6, 7, 8, 9, 10, 11, 12, 13, 14, 15, 16, 17, 18, 19, 20, 21, 22, 23, 24] [0, 1, 2, 3, 4, 5, 6, 7, 8, 9, 10, 11, 12, 13, 14, 15, 16, 17, 18, 19, 20, 21, 22, 23, 24] (va_runS (As := [.int (xI.1 1 a1.toNatClampNeg)]) (rest := []) ⟨hx, hb, hml, hown, hts⟩ (c_R_needState l dC dI cI cZ cL  _ (xI.1 1 a1.toNatClampNeg) (fun _ => True) (g_needState hg27)) (cwS 1 hts (x_gS k_434 k_435 k_26 k_436) rfl rfl rfl (by decide +kernel) ⟨Nat.le_of_ble_eq_true rfl, Nat.le_of_ble_eq_true rfl⟩) ⟨x_blind, fun U hU hW => x_pre (isC := []) hK hP hD rfl rfl hU hW⟩ rfl rfl hl.1 rfl (lv_room (Nat.le_of_ble_eq_true rfl)) d_R_watch_27 ⟨Nat.le_of_ble_eq_true rfl, Nat.le_of_ble_eq_true rfl⟩) hP hD hS hA rfl rfl rfl (by decide) (fun _ => rfl) rfl (fun _ H locs _ hP hD hS => ?_)
        refine lv_aload_n hx hb d_R_watch_30 rfl (lv_at hl 0 rfl) ?_
        refine va_get (D := (dC, dI)) (ci := 3) (v := .ref (qI 0)) (C := "ReleaseRows") (T := T_R) (N := 6) hx hb hts in_R hown hK hP 0 rfl rfl 1 (by decide) (hts _ k_158) (fun _ h9 => h9) rfl d_R_watch_31 ?_
        refine va_get (D := (dC, dI)) (ci := 0) (v := .ref (qI 6)) (C := "ReleaseRows$IncidentRows") (T := T_I) (N := 10) hx hb hts in_I hown hK hP 13 rfl rfl 5 (by decide) (hts _ k_112) (fun _ h9 => h9) rfl d_R_watch_34 ?_
        refine lv_iload_n hx hb d_R_watch_37 rfl (lv_at hl 1 rfl) ?_
        refine lv_iload_n hx hb d_R_watch_38 rfl (lv_at hl 2 rfl) ?_
        obtain ⟨h39, hw⟩ := hw
        refine va_iast hx hb hK hP hD hS 19 0 rfl rfl h39 d_R_watch_39 (fun H locs hP hD hS => ?_)
        have hP := wsP_RUIW_I5 hP
        have hD := wsD_RUIW_I5 hD
        refine lv_aload_n hx hb d_R_watch_40 rfl (lv_at hl 0 rfl) ?_
        refine x_ci (w2 := fun u41 => (wd_RUIW qR qU qI qW cI cZ cL u41.1 u41.2.1 u41.2.2.1 u41.2.2.2)) [0, 1, 2, 3, 4, 5, 6, 7, 8, 9, 10, 11, 12, 13, 14, 15, 16, 17, 18, 19, 20, 21, 22, 23, 24] [] [0, 1, 2, 3, 4, 5, 6, 7, 8, 9, 10, 11, 12, 13, 14, 15, 16, 17, 18, 19, 20, 21, 22, 23, 24] (va_runV (As := []) (rest := []) ⟨hx, hb, hml, hown, hts⟩ (c_R_settle l dC dI cI cZ cL qR qU qI qW _ xR xU (sA xI 5 a1.toNatClampNeg a2) xW _ hw) (cwV 0 hts (x_gV k_289 k_291 k_1 k_26 k_292) rfl rfl rfl (by decide +kernel) ⟨Nat.le_of_ble_eq_true rfl, Nat.le_of_ble_eq_true rfl⟩) ⟨x_blind, va_recv hK hP (ci := 3) (q0 := 0) rfl rfl, fun U hU hW => x_pre (isC := [0, 1, 2, 3, 4, 5, 6, 7, 8, 9, 10, 11, 12, 13, 14, 15, 16, 17, 18, 19, 20, 21, 22, 23, 24]) hK hP hD rfl rfl hU hW⟩ rfl rfl hl.1 rfl (lv_room (Nat.le_of_ble_eq_true rfl)) d_R_watch_41 ⟨Nat.le_of_ble_eq_true rfl, Nat.le_of_ble_eq_true rfl⟩) hP hD hS hA rfl rfl rfl (by decide) (fun _ => rfl) rfl (fun r41 u41 H locs hw hP hD hS => ?_)
        refine lv_pop hx hb d_R_watch_44 rfl ?_
        exact hret (u41.1, u41.2.1, u41.2.2.1, u41.2.2.2) _ _ _ _ _ _ hw hP hD hS (Nat.le_of_ble_eq_true rfl) (Nat.le_of_ble_eq_true rfl) d_R_watch_45
      · have hw := hw.2 hg27
        refine x_cxv (w2 := fun _ => (wd_RUIW qR qU qI qW cI cZ cL xR xU xI xW)) (v2 := fun _ => (wd_RUIW qR qU qI qW cI cZ cL xR xU xI xW)) [] [0, 1, 2, 3, 4, 5, 6, 7, 8, 9, 10, 11, 12, 13, 14, 15, 16, 17, 18, 19, 20, 21, 22, 23, 24] [0, 1, 2, 3, 4, 5, 6, 7, 8, 9, 10, 11, 12, 13, 14, 15, 16, 17, 18, 19, 20, 21, 22, 23, 24] (vx_runS (As := [.int (xI.1 1 a1.toNatClampNeg)]) (rest := []) ⟨hx, hb, hml, hown, hts⟩ (c_R_needStateX l hl9 sa dC dI cI cZ cL  _ (xI.1 1 a1.toNatClampNeg) (fun _ => False) (fun E _ => E = "java/lang/IllegalStateException") (g_needStateX hg27)) (cwS 1 hts (x_gS k_434 k_435 k_26 k_436) rfl rfl rfl (by decide +kernel) ⟨Nat.le_of_ble_eq_true rfl, Nat.le_of_ble_eq_true rfl⟩) ⟨x_blindX, fun U hU hW => x_preX (isC := []) hK hP hD hS hA hE rfl rfl hU hW⟩ rfl rfl hl.1 rfl (lv_room (Nat.le_of_ble_eq_true rfl)) d_R_watch_27 ⟨Nat.le_of_ble_eq_true rfl, Nat.le_of_ble_eq_true rfl⟩) hP hD hS hA rfl rfl rfl (by decide) (fun _ => rfl) (fun _ => rfl) rfl (fun E _ ce q9 H locs hpx hP hD hS h1 h2 h3 => hthr E (xR, xU, xI, xW) ce q9 H locs _ _ _ _ _ (hpx ▸ hw) hP hD hS h1 h2 h3 (Nat.le_of_ble_eq_true rfl) (Nat.le_of_ble_eq_true rfl)) (fun _ H locs hf _ _ _ => hf.elim)
    · have hw := hw.2 hg15
      refine x_cxv (w2 := fun _ => (wd_RUIW qR qU qI qW cI cZ cL xR xU xI xW)) (v2 := fun _ => (wd_RUIW qR qU qI qW cI cZ cL xR xU xI xW)) [] [0, 1, 2, 3, 4, 5, 6, 7, 8, 9, 10, 11, 12, 13, 14, 15, 16, 17, 18, 19, 20, 21, 22, 23, 24] [0, 1, 2, 3, 4, 5, 6, 7, 8, 9, 10, 11, 12, 13, 14, 15, 16, 17, 18, 19, 20, 21, 22, 23, 24] (vx_runS (As := [.int a2, .int (-1 : Int32), .int (999999 : Int32)]) (rest := []) ⟨hx, hb, hml, hown, hts⟩ (c_R_needRangeX l hl9 sa dC dI cI cZ cL  _ a2 (-1 : Int32) (999999 : Int32) (fun _ => False) (fun E _ => E = "java/lang/IndexOutOfBoundsException") (g_needRangeX hg15)) (cwS 3 hts (x_gS k_186 k_187 k_26 k_188) rfl rfl rfl (by decide +kernel) ⟨Nat.le_of_ble_eq_true rfl, Nat.le_of_ble_eq_true rfl⟩) ⟨x_blindX, fun U hU hW => x_preX (isC := []) hK hP hD hS hA hE rfl rfl hU hW⟩ rfl rfl hl.1 rfl (lv_room (Nat.le_of_ble_eq_true rfl)) d_R_watch_15 ⟨Nat.le_of_ble_eq_true rfl, Nat.le_of_ble_eq_true rfl⟩) hP hD hS hA rfl rfl rfl (by decide) (fun _ => rfl) (fun _ => rfl) rfl (fun E _ ce q9 H locs hpx hP hD hS h1 h2 h3 => hthr E (xR, xU, xI, xW) ce q9 H locs _ _ _ _ _ (hpx ▸ hw) hP hD hS h1 h2 h3 (Nat.le_of_ble_eq_true rfl) (Nat.le_of_ble_eq_true rfl)) (fun _ H locs hf _ _ _ => hf.elim)
  · have hw := hw.2 hg8
    refine x_cxv (w2 := fun _ => (wd_RUIW qR qU qI qW cI cZ cL xR xU xI xW)) (v2 := fun _ => (wd_RUIW qR qU qI qW cI cZ cL xR xU xI xW)) [] [0, 1, 2, 3, 4, 5, 6, 7, 8, 9, 10, 11, 12, 13, 14, 15, 16, 17, 18, 19, 20, 21, 22, 23, 24] [0, 1, 2, 3, 4, 5, 6, 7, 8, 9, 10, 11, 12, 13, 14, 15, 16, 17, 18, 19, 20, 21, 22, 23, 24] (vx_runS (As := [.int r5]) (rest := []) ⟨hx, hb, hml, hown, hts⟩ (c_R_needKnownX l hl9 sa dC dI cI cZ cL  _ r5 (fun _ => False) (fun E _ => E = "java/lang/IllegalArgumentException") (g_needKnownX hg8)) (cwS 1 hts (x_gS k_368 k_369 k_26 k_370) rfl rfl rfl (by decide +kernel) ⟨Nat.le_of_ble_eq_true rfl, Nat.le_of_ble_eq_true rfl⟩) ⟨x_blindX, fun U hU hW => x_preX (isC := []) hK hP hD hS hA hE rfl rfl hU hW⟩ rfl rfl hl.1 rfl (lv_room (Nat.le_of_ble_eq_true rfl)) d_R_watch_8 ⟨Nat.le_of_ble_eq_true rfl, Nat.le_of_ble_eq_true rfl⟩) hP hD hS hA rfl rfl rfl (by decide) (fun _ => rfl) (fun _ => rfl) rfl (fun E _ ce q9 H locs hpx hP hD hS h1 h2 h3 => hthr E (xR, xU, xI, xW) ce q9 H locs _ _ _ _ _ (hpx ▸ hw) hP hD hS h1 h2 h3 (Nat.le_of_ble_eq_true rfl) (Nat.le_of_ble_eq_true rfl)) (fun _ H locs hf _ _ _ => hf.elim)

def wj_R_tick_68 (xR : St) (xU : St) (xI : St) (xW : St) (a1 : Int32) (post : Int32 → (St × St × St × St) → Prop) (postX : String → (St × St × St × St) → Prop) (xR_ : St) (xU_ : St) (xI_ : St) (xW_ : St) (v3_ : Int32) : Prop := post v3_ (xR_, xU_, xI_, xW_)
def wl_R_tick_32 (xR : St) (xU : St) (xI : St) (xW : St) (a1 : Int32) (post : Int32 → (St × St × St × St) → Prop) (postX : String → (St × St × St × St) → Prop) : Nat → St → St → St → St → Int32 → Int32 → Int32 → Prop
  | 0 => fun _ _ _ _ _ _ _ => False
  | n9 + 1 => fun xR_ xU_ xI_ xW_ v2_ v3_ v4_ => (a1 ≤ v4_ → (wj_R_tick_68 xR xU xI xW a1 post postX xR_ xU_ xI_ xW_ v3_)) ∧ (¬ a1 ≤ v4_ → ((v2_ ≤ (xR_.2 4) → (wj_R_tick_68 xR xU xI xW a1 post postX xR_ xU_ xI_ xW_ v3_)) ∧ (¬ v2_ ≤ (xR_.2 4) → (wp_R_nextChange xR_ xU_ xI_ xW_ v2_ (fun r49 _ => (wp_R_settle (sF xR_ 4 r49) xU_ xI_ xW_ (fun r57 u57 => (∀ v3_61 : Int32, v3_61 = (v3_ + r57) → (∀ v4_62 : Int32, v4_62 = v4_ + 1 → ((wl_R_tick_32 xR xU xI xW a1 post postX n9) u57.1 u57.2.1 u57.2.2.1 u57.2.2.2 v2_ v3_61 v4_62))))))))))
def wp_R_tick (xR : St) (xU : St) (xI : St) (xW : St) (a1 : Int32) (post : Int32 → (St × St × St × St) → Prop) (postX : String → (St × St × St × St) → Prop) : Prop := (¬ a1 < (1 : Int32) ∧ a1 ≤ (5000 : Int32) → ((¬ a1 < (1 : Int32) ∧ a1 ≤ ((999999 : Int32) - (xR.2 4)) → (∀ v2_26 : Int32, v2_26 = ((xR.2 4) + a1) → (∃ k9 : Nat, wl_R_tick_32 xR xU xI xW a1 post postX k9 xR xU xI xW v2_26 (0 : Int32) (0 : Int32)))) ∧ (¬ (¬ a1 < (1 : Int32) ∧ a1 ≤ ((999999 : Int32) - (xR.2 4))) → postX "java/lang/IndexOutOfBoundsException" (xR, xU, xI, xW)))) ∧ (¬ (¬ a1 < (1 : Int32) ∧ a1 ≤ (5000 : Int32)) → postX "java/lang/IndexOutOfBoundsException" (xR, xU, xI, xW))
set_option maxHeartbeats 4000000 in
set_option maxRecDepth 100000 in
theorem c_R_tick (l : Launch) (hl9 : l.stackTraces = false) (sa : Nat → Nat) (dC : Nat → ClassId) (dI : Nat → Nat → Nat) (cI cZ cL : ClassId) (qR : Nat → Nat) (qU : Nat → Nat) (qI : Nat → Nat) (qW : Nat → Nat) (sz : Nat) (xR : St) (xU : St) (xI : St) (xW : St) (a1 : Int32) (post : Int32 → (St × St × St × St) → Prop) (postX : String → (St × St × St × St) → Prop) (hw : wp_R_tick xR xU xI xW a1 post postX) : vx_Met l y_R_tick w_R_tick ({ frames := 7, cells := 1, slots := 6, locals := 124 } : Room) (va_Pc [.ref (qR 0), .int a1] (fun U => xP (dC, dI) vwCl [(cI, .int), (cZ, .boolean), (cL, .long)] (wd_RUIW qR qU qI qW cI cZ cL xR xU xI xW) sz U ∧ xE "ReleaseRows" xTx sa (va_A (wd_RUIW qR qU qI qW cI cZ cL xR xU xI xW) sz) U.heap U)) (va_Qi post (xB (dC, dI) vwCl [(cI, .int), (cZ, .boolean), (cL, .long)] (va_A (wd_RUIW qR qU qI qW cI cZ cL xR xU xI xW) sz) (fun u => (wd_RUIW qR qU qI qW cI cZ cL u.1 u.2.1 u.2.2.1 u.2.2.2))) (va_A (wd_RUIW qR qU qI qW cI cZ cL xR xU xI xW) sz)) (vx_X (fun _ => True) (xBX (dC, dI) vwCl (va_A (wd_RUIW qR qU qI qW cI cZ cL xR xU xI xW) sz) postX (fun u => (wd_RUIW qR qU qI qW cI cZ cL u.1 u.2.1 u.2.2.1 u.2.2.2))) (va_A (wd_RUIW qR qU qI qW cI cZ cL xR xU xI xW) sz)) 1 6 (va_A (wd_RUIW qR qU qI qW cI cZ cL xR xU xI xW) sz) := by
  refine x_ofXI (cc := b_R_tick) (maxL := 5) (by decide) rfl (Nat.le_of_ble_eq_true rfl) (fun p e s m below meth c A Q hx hb hml hts hown hlocks hex hK hA hP hD hS hE hQ hret hthr ls hl => ?_)
  have hl : lv_has ls 5 [(0, .ref (qR 0)), (1, .int a1)] := hl
  have jn68 : ∀ (xR_ : St) (xU_ : St) (xI_ : St) (xW_ : St) (v3_ : Int32) (H : Heap) (locs : List Loc) (ls : Array Slot), wj_R_tick_68 xR xU xI xW a1 post postX xR_ xU_ xI_ xW_ v3_ → va_P (dC, dI) vwCl (wd_RUIW qR qU qI qW cI cZ cL xR_ xU_ xI_ xW_) H → va_D A (wd_RUIW qR qU qI qW cI cZ cL xR_ xU_ xI_ xW_) → va_S A s.heap H locs → lv_has ls 5 [(3, .int v3_)] → W p l e (headSpec w_R_tick ({ frames := 7, cells := 1, slots := 6, locals := 124 } : Room)).room s m ([.ref (qR 0), .int a1] : List Value).toArray below meth c H locs 0 0 Q (F0 m 68 ls []) := by
    intro xR_ xU_ xI_ xW_ v3_ H locs ls hw hP hD hS hl
    unfold wj_R_tick_68 at hw
    refine lv_iload_n hx hb d_R_tick_68 rfl (lv_at hl 0 rfl) ?_
    exact hret v3_ (xR_, xU_, xI_, xW_) _ _ _ _ _ _ rfl hw hP hD hS (Nat.le_of_ble_eq_true rfl) (Nat.le_of_ble_eq_true rfl) d_R_tick_69
  have lp32 : ∀ (n32 : Nat) (xR_ : St) (xU_ : St) (xI_ : St) (xW_ : St) (v2_ : Int32) (v3_ : Int32) (v4_ : Int32) (H : Heap) (locs : List Loc) (ls : Array Slot), wl_R_tick_32 xR xU xI xW a1 post postX n32 xR_ xU_ xI_ xW_ v2_ v3_ v4_ → va_P (dC, dI) vwCl (wd_RUIW qR qU qI qW cI cZ cL xR_ xU_ xI_ xW_) H → va_D A (wd_RUIW qR qU qI qW cI cZ cL xR_ xU_ xI_ xW_) → va_S A s.heap H locs → lv_has ls 5 [(0, .ref (qR 0)), (1, .int a1), (2, .int v2_), (3, .int v3_), (4, .int v4_)] → W p l e (headSpec w_R_tick ({ frames := 7, cells := 1, slots := 6, locals := 124 } : Room)).room s m ([.ref (qR 0), .int a1] : List Value).toArray below meth c H locs 0 0 Q (F0 m 32 ls []) := by
    intro n32
    induction n32 with
    | zero => intro xR_ xU_ xI_ xW_ v2_ v3_ v4_ H locs ls hw; exact hw.elim
    | succ n32 ih32 =>
      intro xR_ xU_ xI_ xW_ v2_ v3_ v4_ H locs ls hw hP hD hS hl
      unfold wl_R_tick_32 at hw
      refine lv_iload hx hb d_R_tick_32 (lv_at hl 4 rfl) ?_
      refine lv_iload_n hx hb d_R_tick_34 rfl (lv_at hl 1 rfl) ?_
      refine lv_icmp_ge (tgt := 68) hx hb d_R_tick_35 (by decide) (fun c35 => ?_) (fun c35 => ?_)
      · have hw := hw.1 c35
        exact jn68 xR_ xU_ xI_ xW_ v3_ _ _ _ hw hP hD hS (lv_sub hl [3] rfl)
      · have hw := hw.2 c35
        refine lv_aload_n hx hb d_R_tick_38 rfl (lv_at hl 0 rfl) ?_
        refine va_get (D := (dC, dI)) (ci := 3) (v := .int (xR_.2 4)) (C := "ReleaseRows") (T := T_R) (N := 6) hx hb hts in_R hown hK hP 0 rfl rfl 4 (by decide) (hts _ k_161) (fun _ h9 => h9) rfl d_R_tick_39 ?_
        refine lv_iload_n hx hb d_R_tick_42 rfl (lv_at hl 2 rfl) ?_
        refine lv_icmp_ge (tgt := 68) hx hb d_R_tick_43 (by decide) (fun c43 => ?_) (fun c43 => ?_)
        · have hw := hw.1 c43
          exact jn68 xR_ xU_ xI_ xW_ v3_ _ _ _ hw hP hD hS (lv_sub hl [3] rfl)
        · have hw := hw.2 c43
          refine lv_aload_n hx hb d_R_tick_46 rfl (lv_at hl 0 rfl) ?_
          refine lv_aload_n hx hb d_R_tick_47 rfl (lv_at hl 0 rfl) ?_
          refine lv_iload_n hx hb d_R_tick_48 rfl (lv_at hl 2 rfl) ?_
          refine x_ci (w2 := fun _ => (wd_RUIW qR qU qI qW cI cZ cL xR_ xU_ xI_ xW_)) [0, 1, 2, 3, 4, 5, 6, 7, 8, 9, 10, 11, 12, 13, 14, 15, 16, 17, 18, 19, 20, 21, 22, 23, 24] [] [0, 1, 2, 3, 4, 5, 6, 7, 8, 9, 10, 11, 12, 13, 14, 15, 16, 17, 18, 19, 20, 21, 22, 23, 24] (va_runV (As := [.int v2_]) (rest := [.ref (qR 0)]) ⟨hx, hb, hml, hown, hts⟩ (c_R_nextChange l dC dI cI cZ cL qR qU qI qW _ xR_ xU_ xI_ xW_ v2_ _ hw) (cwV 1 hts (x_gV k_526 k_528 k_8 k_26 k_529) rfl rfl rfl (by decide +kernel) ⟨Nat.le_of_ble_eq_true rfl, Nat.le_of_ble_eq_true rfl⟩) ⟨x_blind, va_recv hK hP (ci := 3) (q0 := 0) rfl rfl, fun U hU hW => x_pre (isC := [0, 1, 2, 3, 4, 5, 6, 7, 8, 9, 10, 11, 12, 13, 14, 15, 16, 17, 18, 19, 20, 21, 22, 23, 24]) hK hP hD rfl rfl hU hW⟩ rfl rfl hl.1 rfl (lv_room (Nat.le_of_ble_eq_true rfl)) d_R_tick_49 ⟨Nat.le_of_ble_eq_true rfl, Nat.le_of_ble_eq_true rfl⟩) hP hD hS hA rfl rfl rfl (by decide) (fun _ => rfl) rfl (fun r49 _ H locs hw hP hD hS => ?_)
          refine va_put (D := (dC, dI)) (ci := 3) (v := .int r49) (ty := .int) (C := "ReleaseRows") (T := T_R) (N := 6) hx hb hts in_R ty_R tyok_R nm_R hown hK hP hD hS 0 rfl rfl 4 (by decide) (hts _ k_161) (fun _ h9 => h9) rfl (by decide +kernel) rfl rfl (Nat.le_of_ble_eq_true rfl) d_R_tick_52 (fun H locs hP hD hS => ?_)
          have hP := wsP_RUIW_R4 hP
          have hD := wsD_RUIW_R4 hD
          refine lv_iload_n hx hb d_R_tick_55 rfl (lv_at hl 3 rfl) ?_
          refine lv_aload_n hx hb d_R_tick_56 rfl (lv_at hl 0 rfl) ?_
          refine x_ci (w2 := fun u57 => (wd_RUIW qR qU qI qW cI cZ cL u57.1 u57.2.1 u57.2.2.1 u57.2.2.2)) [0, 1, 2, 3, 4, 5, 6, 7, 8, 9, 10, 11, 12, 13, 14, 15, 16, 17, 18, 19, 20, 21, 22, 23, 24] [] [0, 1, 2, 3, 4, 5, 6, 7, 8, 9, 10, 11, 12, 13, 14, 15, 16, 17, 18, 19, 20, 21, 22, 23, 24] (va_runV (As := []) (rest := [.int v3_]) ⟨hx, hb, hml, hown, hts⟩ (c_R_settle l dC dI cI cZ cL qR qU qI qW _ (sF xR_ 4 r49) xU_ xI_ xW_ _ hw) (cwV 0 hts (x_gV k_289 k_291 k_1 k_26 k_292) rfl rfl rfl (by decide +kernel) ⟨Nat.le_of_ble_eq_true rfl, Nat.le_of_ble_eq_true rfl⟩) ⟨x_blind, va_recv hK hP (ci := 3) (q0 := 0) rfl rfl, fun U hU hW => x_pre (isC := [0, 1, 2, 3, 4, 5, 6, 7, 8, 9, 10, 11, 12, 13, 14, 15, 16, 17, 18, 19, 20, 21, 22, 23, 24]) hK hP hD rfl rfl hU hW⟩ rfl rfl hl.1 rfl (lv_room (Nat.le_of_ble_eq_true rfl)) d_R_tick_57 ⟨Nat.le_of_ble_eq_true rfl, Nat.le_of_ble_eq_true rfl⟩) hP hD hS hA rfl rfl rfl (by decide) (fun _ => rfl) rfl (fun r57 u57 H locs hw hP hD hS => ?_)
          refine lv_iadd hx hb d_R_tick_60 ?_
          refine lv_topi (fun v3_61 ev3_61 => ?_)
          have hw := hw v3_61 ev3_61
          refine lv_istore_n (lv' := [(3, .int v3_61), (0, .ref (qR 0)), (1, .int a1), (2, .int v2_), (4, .int v4_)]) hx hb d_R_tick_61 rfl hl (by decide) rfl (fun ls hl => ?_)
          obtain ⟨v4_62, ev4_62⟩ : ∃ y : Int32, y = v4_ + 1 := ⟨_, rfl⟩
          have hw := hw v4_62 ev4_62
          refine lv_iinc (v := v4_62) (lv' := [(4, .int v4_62), (3, .int v3_61), (0, .ref (qR 0)), (1, .int a1), (2, .int v2_)]) hx hb d_R_tick_62 hl (k := 4) rfl (by rw [ev4_62]; rfl) (by decide) rfl (fun ls hl => ?_)
          refine lv_goto (tgt := 32) hx hb d_R_tick_65 (by decide) ?_
          exact ih32 u57.1 u57.2.1 u57.2.2.1 u57.2.2.2 v2_ v3_61 v4_62 _ _ _ hw hP hD hS (lv_sub hl [2, 3, 4, 1, 0] rfl)
  unfold wp_R_tick at hw
  refine lv_iload_n hx hb d_R_tick_0 rfl (lv_at hl 1 rfl) ?_
  refine lv_iconst (v := (1 : Int32)) hx hb d_R_tick_1 (by decide) ?_
  refine lv_sipush (v := (5000 : Int32)) hx hb d_R_tick_2 (by decide) ?_
  by_cases hg5 : ¬ a1 < (1 : Int32) ∧ a1 ≤ (5000 : Int32)
  · have hw := hw.1 hg5
    refine x_cv (w2 := fun _ => (wd_RUIW qR qU qI qW cI cZ cL xR xU xI xW)) [] [0, 1, 2, 3, 4, 5, 6, 7, 8, 9, 10, 11, 12, 13, 14, 15, 16, 17, 18, 19, 20, 21, 22, 23, 24] [0, 1, 2, 3, 4, 5, 6, 7, 8, 9, 10, 11, 12, 13, 14, 15, 16, 17, 18, 19, 20, 21, 22, 23, 24] (va_runS (As := [.int a1, .int (1 : Int32), .int (5000 : Int32)]) (rest := []) ⟨hx, hb, hml, hown, hts⟩ (c_R_needRange l dC dI cI cZ cL  _ a1 (1 : Int32) (5000 : Int32) (fun _ => True) (g_needRange hg5)) (cwS 3 hts (x_gS k_186 k_187 k_26 k_188) rfl rfl rfl (by decide +kernel) ⟨Nat.le_of_ble_eq_true rfl, Nat.le_of_ble_eq_true rfl⟩) ⟨x_blind, fun U hU hW => x_pre (isC := []) hK hP hD rfl rfl hU hW⟩ rfl rfl hl.1 rfl (lv_room (Nat.le_of_ble_eq_true rfl)) d_R_tick_5 ⟨Nat.le_of_ble_eq_true rfl, Nat.le_of_ble_eq_true rfl⟩) hP hD hS hA rfl rfl rfl (by decide) (fun _ => rfl) rfl (fun _ H locs _ hP hD hS => ?_)
    refine lv_iload_n hx hb d_R_tick_8 rfl (lv_at hl 1 rfl) ?_
    refine lv_iconst (v := (1 : Int32)) hx hb d_R_tick_9 (by decide) ?_
    refine lv_ldc (v := (999999 : Int32)) hx hb hown (hts _ k_518) d_R_tick_10 ?_
    refine lv_aload_n hx hb d_R_tick_12 rfl (lv_at hl 0 rfl) ?_
    refine va_get (D := (dC, dI)) (ci := 3) (v := .int (xR.2 4)) (C := "ReleaseRows") (T := T_R) (N := 6) hx hb hts in_R hown hK hP 0 rfl rfl 4 (by decide) (hts _ k_161) (fun _ h9 => h9) rfl d_R_tick_13 ?_
    refine lv_isub hx hb d_R_tick_16 ?_
    by_cases hg17 : ¬ a1 < (1 : Int32) ∧ a1 ≤ ((999999 : Int32) - (xR.2 4))
    · have hw := hw.1 hg17
      refine x_cv (w2 := fun _ => (wd_RUIW qR qU qI qW cI cZ cL xR xU xI xW)) [] [0, 1, 2, 3, 4, 5, 6, 7, 8, 9, 10, 11, 12, 13, 14, 15, 16, 17, 18, 19, 20, 21, 22, 23, 24] [0, 1, 2, 3, 4, 5, 6, 7, 8, 9, 10, 11, 12, 13, 14, 15, 16, 17, 18, 19, 20, 21, 22, 23, 24] (va_runS (As := [.int a1, .int (1 : Int32), .int ((999999 : Int32) - (xR.2 4))]) (rest := []) ⟨hx, hb, hml, hown, hts⟩ (c_R_needRange l dC dI cI cZ cL  _ a1 (1 : Int32) ((999999 : Int32) - (xR.2 4)) (fun _ => True) (g_needRange hg17)) (cwS 3 hts (x_gS k_186 k_187 k_26 k_188) rfl rfl rfl (by decide +kernel) ⟨Nat.le_of_ble_eq_true rfl, Nat.le_of_ble_eq_true rfl⟩) ⟨x_blind, fun U hU hW => x_pre (isC := []) hK hP hD rfl rfl hU hW⟩ rfl rfl hl.1 rfl (lv_room (Nat.le_of_ble_eq_true rfl)) d_R_tick_17 ⟨Nat.le_of_ble_eq_true rfl, Nat.le_of_ble_eq_true rfl⟩) hP hD hS hA rfl rfl rfl (by decide) (fun _ => rfl) rfl (fun _ H locs _ hP hD hS => ?_)
      refine lv_aload_n hx hb d_R_tick_20 rfl (lv_at hl 0 rfl) ?_
      refine va_get (D := (dC, dI)) (ci := 3) (v := .int (xR.2 4)) (C := "ReleaseRows") (T := T_R) (N := 6) hx hb hts in_R hown hK hP 0 rfl rfl 4 (by decide) (hts _ k_161) (fun _ h9 => h9) rfl d_R_tick_21 ?_
      refine lv_iload_n hx hb d_R_tick_24 rfl (lv_at hl 1 rfl) ?_
      refine lv_iadd hx hb d_R_tick_25 ?_
      refine lv_topi (fun v2_26 ev2_26 => ?_)
      have hw := hw v2_26 ev2_26
      refine lv_istore_n (lv' := [(2, .int v2_26), (0, .ref (qR 0)), (1, .int a1)]) hx hb d_R_tick_26 rfl hl (by decide) rfl (fun ls hl => ?_)
      refine lv_iconst (v := (0 : Int32)) hx hb d_R_tick_27 (by decide) ?_
      refine lv_istore_n (lv' := [(3, .int (0 : Int32)), (2, .int v2_26), (0, .ref (qR 0)), (1, .int a1)]) hx hb d_R_tick_28 rfl hl (by decide) rfl (fun ls hl => ?_)
      refine lv_iconst (v := (0 : Int32)) hx hb d_R_tick_29 (by decide) ?_
      refine lv_istore (lv' := [(4, .int (0 : Int32)), (3, .int (0 : Int32)), (2, .int v2_26), (0, .ref (qR 0)), (1, .int a1)]) hx hb d_R_tick_30 hl (by decide) rfl (fun ls hl => ?_)
      obtain ⟨n9, hw⟩ := hw
      exact lp32 n9 xR xU xI xW v2_26 (0 : Int32) (0 : Int32) _ _ _ hw hP hD hS (lv_sub hl [3, 4, 2, 1, 0] rfl)
    · have hw := hw.2 hg17
      refine x_cxv (w2 := fun _ => (wd_RUIW qR qU qI qW cI cZ cL xR xU xI xW)) (v2 := fun _ => (wd_RUIW qR qU qI qW cI cZ cL xR xU xI xW)) [] [0, 1, 2, 3, 4, 5, 6, 7, 8, 9, 10, 11, 12, 13, 14, 15, 16, 17, 18, 19, 20, 21, 22, 23, 24] [0, 1, 2, 3, 4, 5, 6, 7, 8, 9, 10, 11, 12, 13, 14, 15, 16, 17, 18, 19, 20, 21, 22, 23, 24] (vx_runS (As := [.int a1, .int (1 : Int32), .int ((999999 : Int32) - (xR.2 4))]) (rest := []) ⟨hx, hb, hml, hown, hts⟩ (c_R_needRangeX l hl9 sa dC dI cI cZ cL  _ a1 (1 : Int32) ((999999 : Int32) - (xR.2 4)) (fun _ => False) (fun E _ => E = "java/lang/IndexOutOfBoundsException") (g_needRangeX hg17)) (cwS 3 hts (x_gS k_186 k_187 k_26 k_188) rfl rfl rfl (by decide +kernel) ⟨Nat.le_of_ble_eq_true rfl, Nat.le_of_ble_eq_true rfl⟩) ⟨x_blindX, fun U hU hW => x_preX (isC := []) hK hP hD hS hA hE rfl rfl hU hW⟩ rfl rfl hl.1 rfl (lv_room (Nat.le_of_ble_eq_true rfl)) d_R_tick_17 ⟨Nat.le_of_ble_eq_true rfl, Nat.le_of_ble_eq_true rfl⟩) hP hD hS hA rfl rfl rfl (by decide) (fun _ => rfl) (fun _ => rfl) rfl (fun E _ ce q9 H locs hpx hP hD hS h1 h2 h3 => hthr E (xR, xU, xI, xW) ce q9 H locs _ _ _ _ _ (hpx ▸ hw) hP hD hS h1 h2 h3 (Nat.le_of_ble_eq_true rfl) (Nat.le_of_ble_eq_true rfl)) (fun _ H locs hf _ _ _ => hf.elim)
  · have hw := hw.2 hg5
    refine x_cxv (w2 := fun _ => (wd_RUIW qR qU qI qW cI cZ cL xR xU xI xW)) (v2 := fun _ => (wd_RUIW qR qU qI qW cI cZ cL xR xU xI xW)) [] [0, 1, 2, 3, 4, 5, 6, 7, 8, 9, 10, 11, 12, 13, 14, 15, 16, 17, 18, 19, 20, 21, 22, 23, 24] [0, 1, 2, 3, 4, 5, 6, 7, 8, 9, 10, 11, 12, 13, 14, 15, 16, 17, 18, 19, 20, 21, 22, 23, 24] (vx_runS (As := [.int a1, .int (1 : Int32), .int (5000 : Int32)]) (rest := []) ⟨hx, hb, hml, hown, hts⟩ (c_R_needRangeX l hl9 sa dC dI cI cZ cL  _ a1 (1 : Int32) (5000 : Int32) (fun _ => False) (fun E _ => E = "java/lang/IndexOutOfBoundsException") (g_needRangeX hg5)) (cwS 3 hts (x_gS k_186 k_187 k_26 k_188) rfl rfl rfl (by decide +kernel) ⟨Nat.le_of_ble_eq_true rfl, Nat.le_of_ble_eq_true rfl⟩) ⟨x_blindX, fun U hU hW => x_preX (isC := []) hK hP hD hS hA hE rfl rfl hU hW⟩ rfl rfl hl.1 rfl (lv_room (Nat.le_of_ble_eq_true rfl)) d_R_tick_5 ⟨Nat.le_of_ble_eq_true rfl, Nat.le_of_ble_eq_true rfl⟩) hP hD hS hA rfl rfl rfl (by decide) (fun _ => rfl) (fun _ => rfl) rfl (fun E _ ce q9 H locs hpx hP hD hS h1 h2 h3 => hthr E (xR, xU, xI, xW) ce q9 H locs _ _ _ _ _ (hpx ▸ hw) hP hD hS h1 h2 h3 (Nat.le_of_ble_eq_true rfl) (Nat.le_of_ble_eq_true rfl)) (fun _ H locs hf _ _ _ => hf.elim)

def wp_R_unitAt (xR : St) (xU : St) (xI : St) (xW : St) (a1 : Int32) (a2 : Int32) (post : Int32 → Unit → Prop) (postX : String → Unit → Prop) : Prop := wp_U_has xU a1 (fun r5 _ => ((¬ r5 = 0 → ((a2 = 0 → (vp_in a1 24 ∧ (post (xU.1 5 a1.toNatClampNeg) ()))) ∧ (¬ a2 = 0 → ((a2 = 1 → (vp_in a1 24 ∧ (post (xU.1 6 a1.toNatClampNeg) ()))) ∧ (¬ a2 = 1 → ((a2 = 2 → (vp_in a1 24 ∧ (post (xU.1 7 a1.toNatClampNeg) ()))) ∧ (¬ a2 = 2 → ((a2 = 3 → (vp_in a1 24 ∧ ((¬ (xU.1 5 a1.toNatClampNeg) = (5 : Int32) → (post (0 : Int32) ())) ∧ ((xU.1 5 a1.toNatClampNeg) = (5 : Int32) → (wp_U_checksToDo xU a1 (fun r96 _ => (post r96 ()))))))) ∧ (¬ a2 = 3 → ((a2 = 4 → (vp_in a1 24 ∧ (post (xU.1 8 a1.toNatClampNeg) ()))) ∧ (¬ a2 = 4 → (postX "java/lang/IllegalArgumentException" ())))))))))))) ∧ (¬ (¬ r5 = 0) → postX "java/lang/IllegalArgumentException" ())))
set_option maxHeartbeats 4000000 in
set_option maxRecDepth 100000 in
theorem c_R_unitAt (l : Launch) (hl9 : l.stackTraces = false) (sa : Nat → Nat) (dC : Nat → ClassId) (dI : Nat → Nat → Nat) (cI cZ cL : ClassId) (qR : Nat → Nat) (qU : Nat → Nat) (qI : Nat → Nat) (qW : Nat → Nat) (sz : Nat) (xR : St) (xU : St) (xI : St) (xW : St) (a1 : Int32) (a2 : Int32) (post : Int32 → Unit → Prop) (postX : String → Unit → Prop) (hw : wp_R_unitAt xR xU xI xW a1 a2 post postX) : vx_Met l y_R_unitAt w_R_unitAt ({ frames := 7, cells := 1, slots := 6, locals := 110 } : Room) (va_Pc [.ref (qR 0), .int a1, .int a2] (fun U => xP (dC, dI) vwCl [(cI, .int), (cZ, .boolean), (cL, .long)] (wd_RUIW qR qU qI qW cI cZ cL xR xU xI xW) sz U ∧ xE "ReleaseRows" xTx sa (va_A (wd_RUIW qR qU qI qW cI cZ cL xR xU xI xW) sz) U.heap U)) (va_Qi post (xB (dC, dI) vwCl [(cI, .int), (cZ, .boolean), (cL, .long)] (va_A (wd_RUIW qR qU qI qW cI cZ cL xR xU xI xW) sz) (fun _ => (wd_RUIW qR qU qI qW cI cZ cL xR xU xI xW))) (va_A (wd_RUIW qR qU qI qW cI cZ cL xR xU xI xW) sz)) (vx_X (fun _ => True) (xBX (dC, dI) vwCl (va_A (wd_RUIW qR qU qI qW cI cZ cL xR xU xI xW) sz) postX (fun _ => (wd_RUIW qR qU qI qW cI cZ cL xR xU xI xW))) (va_A (wd_RUIW qR qU qI qW cI cZ cL xR xU xI xW) sz)) 1 6 (va_A (wd_RUIW qR qU qI qW cI cZ cL xR xU xI xW) sz) := by
  refine x_ofXI (cc := b_R_unitAt) (maxL := 3) (by decide) rfl (Nat.le_of_ble_eq_true rfl) (fun p e s m below meth c A Q hx hb hml hts hown hlocks hex hK hA hP hD hS hE hQ hret hthr ls hl => ?_)
  have hl : lv_has ls 3 [(0, .ref (qR 0)), (1, .int a1), (2, .int a2)] := hl
  unfold wp_R_unitAt at hw
  refine lv_aload_n hx hb d_R_unitAt_0 rfl (lv_at hl 0 rfl) ?_
  refine va_get (D := (dC, dI)) (ci := 3) (v := .ref (qU 0)) (C := "ReleaseRows") (T := T_R) (N := 6) hx hb hts in_R hown hK hP 0 rfl rfl 0 (by decide) (hts _ k_157) (fun _ h9 => h9) rfl d_R_unitAt_1 ?_
  refine lv_iload_n hx hb d_R_unitAt_4 rfl (lv_at hl 1 rfl) ?_
  refine x_ci (w2 := fun _ => (wd_RUIW qR qU qI qW cI cZ cL xR xU xI xW)) [2, 3, 4, 5, 6, 7, 8, 9, 10, 11, 12] [0, 1, 13, 14, 15, 16, 17, 18, 19, 20, 21, 22, 23, 24] [0, 1, 14, 15, 16, 17, 18, 19, 20, 21, 22, 23, 24, 2, 3, 4, 5, 6, 7, 8, 9, 10, 11, 12, 13] (va_runV (As := [.int a1]) (rest := []) ⟨hx, hb, hml, hown, hts⟩ (c_U_has l dC dI cI cZ cL qU _ xU a1 _ hw) (cwV 1 hts (x_gV k_364 k_365 k_366 k_27 k_367) rfl rfl rfl (by decide +kernel) ⟨Nat.le_of_ble_eq_true rfl, Nat.le_of_ble_eq_true rfl⟩) ⟨x_blind, va_recv hK hP (ci := 1) (q0 := 2) rfl rfl, fun U hU hW => x_pre (isC := [2, 3, 4, 5, 6, 7, 8, 9, 10, 11, 12]) hK hP hD rfl rfl hU hW⟩ rfl rfl hl.1 rfl (lv_room (Nat.le_of_ble_eq_true rfl)) d_R_unitAt_5 ⟨Nat.le_of_ble_eq_true rfl, Nat.le_of_ble_eq_true rfl⟩) hP hD hS hA rfl rfl rfl (by decide) (fun _ => rfl) rfl (fun r5 _ H locs hw hP hD hS => ?_)
  by_cases hg8 : ¬ r5 = 0
  · have hw := hw.1 hg8
    refine x_cv (w2 := fun _ => (wd_RUIW qR qU qI qW cI cZ cL xR xU xI xW)) [] [0, 1, 2, 3, 4, 5, 6, 7, 8, 9, 10, 11, 12, 13, 14, 15, 16, 17, 18, 19, 20, 21, 22, 23, 24] [0, 1, 2, 3, 4, 5, 6, 7, 8, 9, 10, 11, 12, 13, 14, 15, 16, 17, 18, 19, 20, 21, 22, 23, 24] (va_runS (As := [.int r5]) (rest := []) ⟨hx, hb, hml, hown, hts⟩ (c_R_needKnown l dC dI cI cZ cL  _ r5 (fun _ => True) (g_needKnown hg8)) (cwS 1 hts (x_gS k_368 k_369 k_26 k_370) rfl rfl rfl (by decide +kernel) ⟨Nat.le_of_ble_eq_true rfl, Nat.le_of_ble_eq_true rfl⟩) ⟨x_blind, fun U hU hW => x_pre (isC := []) hK hP hD rfl rfl hU hW⟩ rfl rfl hl.1 rfl (lv_room (Nat.le_of_ble_eq_true rfl)) d_R_unitAt_8 ⟨Nat.le_of_ble_eq_true rfl, Nat.le_of_ble_eq_true rfl⟩) hP hD hS hA rfl rfl rfl (by decide) (fun _ => rfl) rfl (fun _ H locs _ hP hD hS => ?_)
    refine lv_iload_n hx hb d_R_unitAt_11 rfl (lv_at hl 2 rfl) ?_
    by_cases c12_0 : a2 = 0
    · have hw := hw.1 c12_0
      refine lv_tableIn (off := 36) (tgt := 48) hx hb d_R_unitAt_12 (by rw [c12_0]; decide) (by rw [c12_0]; decide) (by rw [c12_0]; decide) (by decide) ?_
      refine lv_aload_n hx hb d_R_unitAt_48 rfl (lv_at hl 0 rfl) ?_
      refine va_get (D := (dC, dI)) (ci := 3) (v := .ref (qU 0)) (C := "ReleaseRows") (T := T_R) (N := 6) hx hb hts in_R hown hK hP 0 rfl rfl 0 (by decide) (hts _ k_157) (fun _ h9 => h9) rfl d_R_unitAt_49 ?_
      refine va_get (D := (dC, dI)) (ci := 1) (v := .ref (qU 6)) (C := "ReleaseRows$UnitRows") (T := T_U) (N := 11) hx hb hts in_U hown hK hP 2 rfl rfl 5 (by decide) (hts _ k_61) (fun _ h9 => h9) rfl d_R_unitAt_52 ?_
      refine lv_iload_n hx hb d_R_unitAt_55 rfl (lv_at hl 1 rfl) ?_
      obtain ⟨h56, hw⟩ := hw
      refine va_iald hx hb hK hP 8 0 rfl rfl h56 d_R_unitAt_56 ?_
      exact hret (xU.1 5 a1.toNatClampNeg) () _ _ _ _ _ _ rfl hw hP hD hS (Nat.le_of_ble_eq_true rfl) (Nat.le_of_ble_eq_true rfl) d_R_unitAt_57
    · have hw := hw.2 c12_0
      by_cases c12_1 : a2 = 1
      · have hw := hw.1 c12_1
        refine lv_tableIn (off := 46) (tgt := 58) hx hb d_R_unitAt_12 (by rw [c12_1]; decide) (by rw [c12_1]; decide) (by rw [c12_1]; decide) (by decide) ?_
        refine lv_aload_n hx hb d_R_unitAt_58 rfl (lv_at hl 0 rfl) ?_
        refine va_get (D := (dC, dI)) (ci := 3) (v := .ref (qU 0)) (C := "ReleaseRows") (T := T_R) (N := 6) hx hb hts in_R hown hK hP 0 rfl rfl 0 (by decide) (hts _ k_157) (fun _ h9 => h9) rfl d_R_unitAt_59 ?_
        refine va_get (D := (dC, dI)) (ci := 1) (v := .ref (qU 7)) (C := "ReleaseRows$UnitRows") (T := T_U) (N := 11) hx hb hts in_U hown hK hP 2 rfl rfl 6 (by decide) (hts _ k_63) (fun _ h9 => h9) rfl d_R_unitAt_62 ?_
        refine lv_iload_n hx hb d_R_unitAt_65 rfl (lv_at hl 1 rfl) ?_
        obtain ⟨h66, hw⟩ := hw
        refine va_iald hx hb hK hP 9 0 rfl rfl h66 d_R_unitAt_66 ?_
        exact hret (xU.1 6 a1.toNatClampNeg) () _ _ _ _ _ _ rfl hw hP hD hS (Nat.le_of_ble_eq_true rfl) (Nat.le_of_ble_eq_true rfl) d_R_unitAt_67
      · have hw := hw.2 c12_1
        by_cases c12_2 : a2 = 2
        · have hw := hw.1 c12_2
          refine lv_tableIn (off := 56) (tgt := 68) hx hb d_R_unitAt_12 (by rw [c12_2]; decide) (by rw [c12_2]; decide) (by rw [c12_2]; decide) (by decide) ?_
          refine lv_aload_n hx hb d_R_unitAt_68 rfl (lv_at hl 0 rfl) ?_
          refine va_get (D := (dC, dI)) (ci := 3) (v := .ref (qU 0)) (C := "ReleaseRows") (T := T_R) (N := 6) hx hb hts in_R hown hK hP 0 rfl rfl 0 (by decide) (hts _ k_157) (fun _ h9 => h9) rfl d_R_unitAt_69 ?_
          refine va_get (D := (dC, dI)) (ci := 1) (v := .ref (qU 8)) (C := "ReleaseRows$UnitRows") (T := T_U) (N := 11) hx hb hts in_U hown hK hP 2 rfl rfl 7 (by decide) (hts _ k_65) (fun _ h9 => h9) rfl d_R_unitAt_72 ?_
          refine lv_iload_n hx hb d_R_unitAt_75 rfl (lv_at hl 1 rfl) ?_
          obtain ⟨h76, hw⟩ := hw
          refine va_iald hx hb hK hP 10 0 rfl rfl h76 d_R_unitAt_76 ?_
          exact hret (xU.1 7 a1.toNatClampNeg) () _ _ _ _ _ _ rfl hw hP hD hS (Nat.le_of_ble_eq_true rfl) (Nat.le_of_ble_eq_true rfl) d_R_unitAt_77
        · have hw := hw.2 c12_2
          by_cases c12_3 : a2 = 3
          · have hw := hw.1 c12_3
            refine lv_tableIn (off := 66) (tgt := 78) hx hb d_R_unitAt_12 (by rw [c12_3]; decide) (by rw [c12_3]; decide) (by rw [c12_3]; decide) (by decide) ?_
            refine lv_aload_n hx hb d_R_unitAt_78 rfl (lv_at hl 0 rfl) ?_
            refine va_get (D := (dC, dI)) (ci := 3) (v := .ref (qU 0)) (C := "ReleaseRows") (T := T_R) (N := 6) hx hb hts in_R hown hK hP 0 rfl rfl 0 (by decide) (hts _ k_157) (fun _ h9 => h9) rfl d_R_unitAt_79 ?_
            refine va_get (D := (dC, dI)) (ci := 1) (v := .ref (qU 6)) (C := "ReleaseRows$UnitRows") (T := T_U) (N := 11) hx hb hts in_U hown hK hP 2 rfl rfl 5 (by decide) (hts _ k_61) (fun _ h9 => h9) rfl d_R_unitAt_82 ?_
            refine lv_iload_n hx hb d_R_unitAt_85 rfl (lv_at hl 1 rfl) ?_
            obtain ⟨h86, hw⟩ := hw
            refine va_iald hx hb hK hP 8 0 rfl rfl h86 d_R_unitAt_86 ?_
            refine lv_iconst (v := (5 : Int32)) hx hb d_R_unitAt_87 (by decide) ?_
            refine lv_icmp_ne (tgt := 102) hx hb d_R_unitAt_88 (by decide) (fun c88 => ?_) (fun c88 => ?_)
            · have hw := hw.1 c88
              refine lv_iconst (v := (0 : Int32)) hx hb d_R_unitAt_102 (by decide) ?_
              exact hret (0 : Int32) () _ _ _ _ _ _ rfl hw hP hD hS (Nat.le_of_ble_eq_true rfl) (Nat.le_of_ble_eq_true rfl) d_R_unitAt_103
            · have hw := hw.2 c88
              refine lv_aload_n hx hb d_R_unitAt_91 rfl (lv_at hl 0 rfl) ?_
              refine va_get (D := (dC, dI)) (ci := 3) (v := .ref (qU 0)) (C := "ReleaseRows") (T := T_R) (N := 6) hx hb hts in_R hown hK hP 0 rfl rfl 0 (by decide) (hts _ k_157) (fun _ h9 => h9) rfl d_R_unitAt_92 ?_
              refine lv_iload_n hx hb d_R_unitAt_95 rfl (lv_at hl 1 rfl) ?_
              refine x_ci (w2 := fun _ => (wd_RUIW qR qU qI qW cI cZ cL xR xU xI xW)) [2, 3, 4, 5, 6, 7, 8, 9, 10, 11, 12] [0, 1, 13, 14, 15, 16, 17, 18, 19, 20, 21, 22, 23, 24] [0, 1, 14, 15, 16, 17, 18, 19, 20, 21, 22, 23, 24, 2, 3, 4, 5, 6, 7, 8, 9, 10, 11, 12, 13] (va_runV (As := [.int a1]) (rest := []) ⟨hx, hb, hml, hown, hts⟩ (c_U_checksToDo l dC dI cI cZ cL qU _ xU a1 _ hw) (cwV 1 hts (x_gV k_542 k_310 k_311 k_27 k_312) rfl rfl rfl (by decide +kernel) ⟨Nat.le_of_ble_eq_true rfl, Nat.le_of_ble_eq_true rfl⟩) ⟨x_blind, va_recv hK hP (ci := 1) (q0 := 2) rfl rfl, fun U hU hW => x_pre (isC := [2, 3, 4, 5, 6, 7, 8, 9, 10, 11, 12]) hK hP hD rfl rfl hU hW⟩ rfl rfl hl.1 rfl (lv_room (Nat.le_of_ble_eq_true rfl)) d_R_unitAt_96 ⟨Nat.le_of_ble_eq_true rfl, Nat.le_of_ble_eq_true rfl⟩) hP hD hS hA rfl rfl rfl (by decide) (fun _ => rfl) rfl (fun r96 _ H locs hw hP hD hS => ?_)
              refine lv_goto (tgt := 103) hx hb d_R_unitAt_99 (by decide) ?_
              exact hret r96 () _ _ _ _ _ _ rfl hw hP hD hS (Nat.le_of_ble_eq_true rfl) (Nat.le_of_ble_eq_true rfl) d_R_unitAt_103
          · have hw := hw.2 c12_3
            by_cases c12_4 : a2 = 4
            · have hw := hw.1 c12_4
              refine lv_tableIn (off := 92) (tgt := 104) hx hb d_R_unitAt_12 (by rw [c12_4]; decide) (by rw [c12_4]; decide) (by rw [c12_4]; decide) (by decide) ?_
              refine lv_aload_n hx hb d_R_unitAt_104 rfl (lv_at hl 0 rfl) ?_
              refine va_get (D := (dC, dI)) (ci := 3) (v := .ref (qU 0)) (C := "ReleaseRows") (T := T_R) (N := 6) hx hb hts in_R hown hK hP 0 rfl rfl 0 (by decide) (hts _ k_157) (fun _ h9 => h9) rfl d_R_unitAt_105 ?_
              refine va_get (D := (dC, dI)) (ci := 1) (v := .ref (qU 9)) (C := "ReleaseRows$UnitRows") (T := T_U) (N := 11) hx hb hts in_U hown hK hP 2 rfl rfl 8 (by decide) (hts _ k_67) (fun _ h9 => h9) rfl d_R_unitAt_108 ?_
              refine lv_iload_n hx hb d_R_unitAt_111 rfl (lv_at hl 1 rfl) ?_
              obtain ⟨h112, hw⟩ := hw
              refine va_iald hx hb hK hP 11 0 rfl rfl h112 d_R_unitAt_112 ?_
              exact hret (xU.1 8 a1.toNatClampNeg) () _ _ _ _ _ _ rfl hw hP hD hS (Nat.le_of_ble_eq_true rfl) (Nat.le_of_ble_eq_true rfl) d_R_unitAt_113
            · have hw := hw.2 c12_4
              refine lv_tableOut (tgt := 114) hx hb d_R_unitAt_12 (by have z0 := lv_neT (a := 0) c12_0 (by decide); have z1 := lv_neT (a := 1) c12_1 (by decide); have z2 := lv_neT (a := 2) c12_2 (by decide); have z3 := lv_neT (a := 3) c12_3 (by decide); have z4 := lv_neT (a := 4) c12_4 (by decide); omega) (by decide) ?_
              rw [hQ]
              exact vx_throwS (text := "no such what") (names := ["java/lang/RuntimeException", "java/lang/Exception"]) hx hb hl9 hown (by decide) (by decide) (hts _ k_371) (hts _ k_37) (hE.2.2.1 (153, "no such what") (by decide)) (vx_hat (fun w hw => hts w (at_151_155 w hw)) at_151_155_b (vx_c (va_Nw.use rfl (hE.2.2.2.1 _ (by decide))) (vx_c (va_Nw.use rfl (hE.2.2.2.2 _ (by decide))) (vx_c (va_Nw.use rfl (hE.2.2.2.2 _ (by decide))) (vx_c (va_Nw.use rfl (hE.2.2.2.2 _ (by decide))) vx_n))))) at_151_155_g hE.1 hE.2.1 hS (hl.1.trans hml.symm) d_R_unitAt_114 d_R_unitAt_117 d_R_unitAt_118 d_R_unitAt_120 d_R_unitAt_123 (fun x hx => (hex x hx).elim) (Nat.le_of_ble_eq_true rfl) (Nat.le_of_ble_eq_true rfl) (Nat.le_of_ble_eq_true rfl) (Nat.le_of_ble_eq_true rfl) hlocks (x_thrX (u := ()) hP hD hS hw) hS.2.2 (Nat.le_of_ble_eq_true rfl) (Nat.le_of_ble_eq_true rfl)
  · have hw := hw.2 hg8
    refine x_cxv (w2 := fun _ => (wd_RUIW qR qU qI qW cI cZ cL xR xU xI xW)) (v2 := fun _ => (wd_RUIW qR qU qI qW cI cZ cL xR xU xI xW)) [] [0, 1, 2, 3, 4, 5, 6, 7, 8, 9, 10, 11, 12, 13, 14, 15, 16, 17, 18, 19, 20, 21, 22, 23, 24] [0, 1, 2, 3, 4, 5, 6, 7, 8, 9, 10, 11, 12, 13, 14, 15, 16, 17, 18, 19, 20, 21, 22, 23, 24] (vx_runS (As := [.int r5]) (rest := []) ⟨hx, hb, hml, hown, hts⟩ (c_R_needKnownX l hl9 sa dC dI cI cZ cL  _ r5 (fun _ => False) (fun E _ => E = "java/lang/IllegalArgumentException") (g_needKnownX hg8)) (cwS 1 hts (x_gS k_368 k_369 k_26 k_370) rfl rfl rfl (by decide +kernel) ⟨Nat.le_of_ble_eq_true rfl, Nat.le_of_ble_eq_true rfl⟩) ⟨x_blindX, fun U hU hW => x_preX (isC := []) hK hP hD hS hA hE rfl rfl hU hW⟩ rfl rfl hl.1 rfl (lv_room (Nat.le_of_ble_eq_true rfl)) d_R_unitAt_8 ⟨Nat.le_of_ble_eq_true rfl, Nat.le_of_ble_eq_true rfl⟩) hP hD hS hA rfl rfl rfl (by decide) (fun _ => rfl) (fun _ => rfl) rfl (fun E _ ce q9 H locs hpx hP hD hS h1 h2 h3 => hthr E () ce q9 H locs _ _ _ _ _ (hpx ▸ hw) hP hD hS h1 h2 h3 (Nat.le_of_ble_eq_true rfl) (Nat.le_of_ble_eq_true rfl)) (fun _ H locs hf _ _ _ => hf.elim)

def wp_R_incidentAt (xR : St) (xU : St) (xI : St) (xW : St) (a1 : Int32) (a2 : Int32) (post : Int32 → Unit → Prop) (postX : String → Unit → Prop) : Prop := wp_I_has xI a1 (fun r5 _ => ((¬ r5 = 0 → ((a2 = 0 → (vp_in a1 20 ∧ (((xI.1 1 a1.toNatClampNeg) = 0 → (post (0 : Int32) ())) ∧ (¬ (xI.1 1 a1.toNatClampNeg) = 0 → (post (1 : Int32) ()))))) ∧ (¬ a2 = 0 → ((a2 = 1 → (wp_U_countAt xU a1 (fun r83 _ => (post r83 ())))) ∧ (¬ a2 = 1 → ((a2 = 2 → (wp_W_countFor xW a1 (fun r92 _ => (post r92 ())))) ∧ (¬ a2 = 2 → ((a2 = 3 → (vp_in a1 20 ∧ (post (xI.1 6 a1.toNatClampNeg) ()))) ∧ (¬ a2 = 3 → ((a2 = 4 → (vp_in a1 20 ∧ (post (xI.1 7 a1.toNatClampNeg) ()))) ∧ (¬ a2 = 4 → ((a2 = 5 → (vp_in a1 20 ∧ (post (xI.1 8 a1.toNatClampNeg) ()))) ∧ (¬ a2 = 5 → ((a2 = 6 → (vp_in a1 20 ∧ (post (xI.1 3 a1.toNatClampNeg) ()))) ∧ (¬ a2 = 6 → ((a2 = 7 → (wp_I_isOpenPastWatch xI a1 (xR.2 4) (fun r145 _ => ((r145 = 0 → (post (0 : Int32) ())) ∧ (¬ r145 = 0 → (post (1 : Int32) ())))))) ∧ (¬ a2 = 7 → (postX "java/lang/IllegalArgumentException" ())))))))))))))))))) ∧ (¬ (¬ r5 = 0) → postX "java/lang/IllegalArgumentException" ())))
set_option maxHeartbeats 4000000 in
set_option maxRecDepth 100000 in
theorem c_R_incidentAt (l : Launch) (hl9 : l.stackTraces = false) (sa : Nat → Nat) (dC : Nat → ClassId) (dI : Nat → Nat → Nat) (cI cZ cL : ClassId) (qR : Nat → Nat) (qU : Nat → Nat) (qI : Nat → Nat) (qW : Nat → Nat) (sz : Nat) (xR : St) (xU : St) (xI : St) (xW : St) (a1 : Int32) (a2 : Int32) (post : Int32 → Unit → Prop) (postX : String → Unit → Prop) (hw : wp_R_incidentAt xR xU xI xW a1 a2 post postX) : vx_Met l y_R_incidentAt w_R_incidentAt ({ frames := 7, cells := 1, slots := 6, locals := 110 } : Room) (va_Pc [.ref (qR 0), .int a1, .int a2] (fun U => xP (dC, dI) vwCl [(cI, .int), (cZ, .boolean), (cL, .long)] (wd_RUIW qR qU qI qW cI cZ cL xR xU xI xW) sz U ∧ xE "ReleaseRows" xTx sa (va_A (wd_RUIW qR qU qI qW cI cZ cL xR xU xI xW) sz) U.heap U)) (va_Qi post (xB (dC, dI) vwCl [(cI, .int), (cZ, .boolean), (cL, .long)] (va_A (wd_RUIW qR qU qI qW cI cZ cL xR xU xI xW) sz) (fun _ => (wd_RUIW qR qU qI qW cI cZ cL xR xU xI xW))) (va_A (wd_RUIW qR qU qI qW cI cZ cL xR xU xI xW) sz)) (vx_X (fun _ => True) (xBX (dC, dI) vwCl (va_A (wd_RUIW qR qU qI qW cI cZ cL xR xU xI xW) sz) postX (fun _ => (wd_RUIW qR qU qI qW cI cZ cL xR xU xI xW))) (va_A (wd_RUIW qR qU qI qW cI cZ cL xR xU xI xW) sz)) 1 6 (va_A (wd_RUIW qR qU qI qW cI cZ cL xR xU xI xW) sz) := by
  refine x_ofXI (cc := b_R_incidentAt) (maxL := 3) (by decide) rfl (Nat.le_of_ble_eq_true rfl) (fun p e s m below meth c A Q hx hb hml hts hown hlocks hex hK hA hP hD hS hE hQ hret hthr ls hl => ?_)
  have hl : lv_has ls 3 [(0, .ref (qR 0)), (1, .int a1), (2, .int a2)] := hl
  unfold wp_R_incidentAt at hw
  refine lv_aload_n hx hb d_R_incidentAt_0 rfl (lv_at hl 0 rfl) ?_
  refine va_get (D := (dC, dI)) (ci := 3) (v := .ref (qI 0)) (C := "ReleaseRows") (T := T_R) (N := 6) hx hb hts in_R hown hK hP 0 rfl rfl 1 (by decide) (hts _ k_158) (fun _ h9 => h9) rfl d_R_incidentAt_1 ?_
  refine lv_iload_n hx hb d_R_incidentAt_4 rfl (lv_at hl 1 rfl) ?_
  refine x_ci (w2 := fun _ => (wd_RUIW qR qU qI qW cI cZ cL xR xU xI xW)) [13, 14, 15, 16, 17, 18, 19, 20, 21, 22] [0, 1, 2, 3, 4, 5, 6, 7, 8, 9, 10, 11, 12, 23, 24] [0, 1, 2, 3, 4, 5, 6, 7, 8, 9, 10, 11, 12, 15, 16, 17, 18, 19, 20, 21, 22, 23, 24, 13, 14] (va_runV (As := [.int a1]) (rest := []) ⟨hx, hb, hml, hown, hts⟩ (c_I_has l dC dI cI cZ cL qI _ xI a1 _ hw) (cwV 1 hts (x_gV k_430 k_431 k_432 k_28 k_433) rfl rfl rfl (by decide +kernel) ⟨Nat.le_of_ble_eq_true rfl, Nat.le_of_ble_eq_true rfl⟩) ⟨x_blind, va_recv hK hP (ci := 0) (q0 := 13) rfl rfl, fun U hU hW => x_pre (isC := [13, 14, 15, 16, 17, 18, 19, 20, 21, 22]) hK hP hD rfl rfl hU hW⟩ rfl rfl hl.1 rfl (lv_room (Nat.le_of_ble_eq_true rfl)) d_R_incidentAt_5 ⟨Nat.le_of_ble_eq_true rfl, Nat.le_of_ble_eq_true rfl⟩) hP hD hS hA rfl rfl rfl (by decide) (fun _ => rfl) rfl (fun r5 _ H locs hw hP hD hS => ?_)
  by_cases hg8 : ¬ r5 = 0
  · have hw := hw.1 hg8
    refine x_cv (w2 := fun _ => (wd_RUIW qR qU qI qW cI cZ cL xR xU xI xW)) [] [0, 1, 2, 3, 4, 5, 6, 7, 8, 9, 10, 11, 12, 13, 14, 15, 16, 17, 18, 19, 20, 21, 22, 23, 24] [0, 1, 2, 3, 4, 5, 6, 7, 8, 9, 10, 11, 12, 13, 14, 15, 16, 17, 18, 19, 20, 21, 22, 23, 24] (va_runS (As := [.int r5]) (rest := []) ⟨hx, hb, hml, hown, hts⟩ (c_R_needKnown l dC dI cI cZ cL  _ r5 (fun _ => True) (g_needKnown hg8)) (cwS 1 hts (x_gS k_368 k_369 k_26 k_370) rfl rfl rfl (by decide +kernel) ⟨Nat.le_of_ble_eq_true rfl, Nat.le_of_ble_eq_true rfl⟩) ⟨x_blind, fun U hU hW => x_pre (isC := []) hK hP hD rfl rfl hU hW⟩ rfl rfl hl.1 rfl (lv_room (Nat.le_of_ble_eq_true rfl)) d_R_incidentAt_8 ⟨Nat.le_of_ble_eq_true rfl, Nat.le_of_ble_eq_true rfl⟩) hP hD hS hA rfl rfl rfl (by decide) (fun _ => rfl) rfl (fun _ H locs _ hP hD hS => ?_)
    refine lv_iload_n hx hb d_R_incidentAt_11 rfl (lv_at hl 2 rfl) ?_
    by_cases c12_0 : a2 = 0
    · have hw := hw.1 c12_0
      refine lv_tableIn (off := 48) (tgt := 60) hx hb d_R_incidentAt_12 (by rw [c12_0]; decide) (by rw [c12_0]; decide) (by rw [c12_0]; decide) (by decide) ?_
      refine lv_aload_n hx hb d_R_incidentAt_60 rfl (lv_at hl 0 rfl) ?_
      refine va_get (D := (dC, dI)) (ci := 3) (v := .ref (qI 0)) (C := "ReleaseRows") (T := T_R) (N := 6) hx hb hts in_R hown hK hP 0 rfl rfl 1 (by decide) (hts _ k_158) (fun _ h9 => h9) rfl d_R_incidentAt_61 ?_
      refine va_get (D := (dC, dI)) (ci := 0) (v := .ref (qI 2)) (C := "ReleaseRows$IncidentRows") (T := T_I) (N := 10) hx hb hts in_I hown hK hP 13 rfl rfl 1 (by decide) (hts _ k_104) (fun _ h9 => h9) rfl d_R_incidentAt_64 ?_
      refine lv_iload_n hx hb d_R_incidentAt_67 rfl (lv_at hl 1 rfl) ?_
      obtain ⟨h68, hw⟩ := hw
      refine va_zald hx hb hK hP 15 1 rfl rfl h68 d_R_incidentAt_68 ?_
      refine lv_if_eq (tgt := 76) hx hb d_R_incidentAt_69 (by decide) (fun c69 => ?_) (fun c69 => ?_)
      · have hw := hw.1 c69
        refine lv_iconst (v := (0 : Int32)) hx hb d_R_incidentAt_76 (by decide) ?_
        exact hret (0 : Int32) () _ _ _ _ _ _ rfl hw hP hD hS (Nat.le_of_ble_eq_true rfl) (Nat.le_of_ble_eq_true rfl) d_R_incidentAt_77
      · have hw := hw.2 c69
        refine lv_iconst (v := (1 : Int32)) hx hb d_R_incidentAt_72 (by decide) ?_
        refine lv_goto (tgt := 77) hx hb d_R_incidentAt_73 (by decide) ?_
        exact hret (1 : Int32) () _ _ _ _ _ _ rfl hw hP hD hS (Nat.le_of_ble_eq_true rfl) (Nat.le_of_ble_eq_true rfl) d_R_incidentAt_77
    · have hw := hw.2 c12_0
      by_cases c12_1 : a2 = 1
      · have hw := hw.1 c12_1
        refine lv_tableIn (off := 66) (tgt := 78) hx hb d_R_incidentAt_12 (by rw [c12_1]; decide) (by rw [c12_1]; decide) (by rw [c12_1]; decide) (by decide) ?_
        refine lv_aload_n hx hb d_R_incidentAt_78 rfl (lv_at hl 0 rfl) ?_
        refine va_get (D := (dC, dI)) (ci := 3) (v := .ref (qU 0)) (C := "ReleaseRows") (T := T_R) (N := 6) hx hb hts in_R hown hK hP 0 rfl rfl 0 (by decide) (hts _ k_157) (fun _ h9 => h9) rfl d_R_incidentAt_79 ?_
        refine lv_iload_n hx hb d_R_incidentAt_82 rfl (lv_at hl 1 rfl) ?_
        refine x_ci (w2 := fun _ => (wd_RUIW qR qU qI qW cI cZ cL xR xU xI xW)) [2, 3, 4, 5, 6, 7, 8, 9, 10, 11, 12] [0, 1, 13, 14, 15, 16, 17, 18, 19, 20, 21, 22, 23, 24] [0, 1, 14, 15, 16, 17, 18, 19, 20, 21, 22, 23, 24, 2, 3, 4, 5, 6, 7, 8, 9, 10, 11, 12, 13] (va_runV (As := [.int a1]) (rest := []) ⟨hx, hb, hml, hown, hts⟩ (c_U_countAt l dC dI cI cZ cL qU _ xU a1 _ hw) (cwV 1 hts (x_gV k_344 k_345 k_346 k_27 k_347) rfl rfl rfl (by decide +kernel) ⟨Nat.le_of_ble_eq_true rfl, Nat.le_of_ble_eq_true rfl⟩) ⟨x_blind, va_recv hK hP (ci := 1) (q0 := 2) rfl rfl, fun U hU hW => x_pre (isC := [2, 3, 4, 5, 6, 7, 8, 9, 10, 11, 12]) hK hP hD rfl rfl hU hW⟩ rfl rfl hl.1 rfl (lv_room (Nat.le_of_ble_eq_true rfl)) d_R_incidentAt_83 ⟨Nat.le_of_ble_eq_true rfl, Nat.le_of_ble_eq_true rfl⟩) hP hD hS hA rfl rfl rfl (by decide) (fun _ => rfl) rfl (fun r83 _ H locs hw hP hD hS => ?_)
        exact hret r83 () _ _ _ _ _ _ rfl hw hP hD hS (Nat.le_of_ble_eq_true rfl) (Nat.le_of_ble_eq_true rfl) d_R_incidentAt_86
      · have hw := hw.2 c12_1
        by_cases c12_2 : a2 = 2
        · have hw := hw.1 c12_2
          refine lv_tableIn (off := 75) (tgt := 87) hx hb d_R_incidentAt_12 (by rw [c12_2]; decide) (by rw [c12_2]; decide) (by rw [c12_2]; decide) (by decide) ?_
          refine lv_aload_n hx hb d_R_incidentAt_87 rfl (lv_at hl 0 rfl) ?_
          refine va_get (D := (dC, dI)) (ci := 3) (v := .ref (qW 0)) (C := "ReleaseRows") (T := T_R) (N := 6) hx hb hts in_R hown hK hP 0 rfl rfl 2 (by decide) (hts _ k_159) (fun _ h9 => h9) rfl d_R_incidentAt_88 ?_
          refine lv_iload_n hx hb d_R_incidentAt_91 rfl (lv_at hl 1 rfl) ?_
          refine x_ci (w2 := fun _ => (wd_RUIW qR qU qI qW cI cZ cL xR xU xI xW)) [23, 24] [0, 1, 2, 3, 4, 5, 6, 7, 8, 9, 10, 11, 12, 13, 14, 15, 16, 17, 18, 19, 20, 21, 22] [0, 1, 2, 3, 4, 5, 6, 7, 8, 9, 10, 11, 12, 13, 14, 15, 16, 17, 18, 19, 20, 21, 22, 23, 24] (va_runV (As := [.int a1]) (rest := []) ⟨hx, hb, hml, hown, hts⟩ (c_W_countFor l dC dI cI cZ cL qW _ xW a1 _ hw) (cwV 1 hts (x_gV k_348 k_349 k_350 k_29 k_351) rfl rfl rfl (by decide +kernel) ⟨Nat.le_of_ble_eq_true rfl, Nat.le_of_ble_eq_true rfl⟩) ⟨x_blind, va_recv hK hP (ci := 2) (q0 := 23) rfl rfl, fun U hU hW => x_pre (isC := [23, 24]) hK hP hD rfl rfl hU hW⟩ rfl rfl hl.1 rfl (lv_room (Nat.le_of_ble_eq_true rfl)) d_R_incidentAt_92 ⟨Nat.le_of_ble_eq_true rfl, Nat.le_of_ble_eq_true rfl⟩) hP hD hS hA rfl rfl rfl (by decide) (fun _ => rfl) rfl (fun r92 _ H locs hw hP hD hS => ?_)
          exact hret r92 () _ _ _ _ _ _ rfl hw hP hD hS (Nat.le_of_ble_eq_true rfl) (Nat.le_of_ble_eq_true rfl) d_R_incidentAt_95
        · have hw := hw.2 c12_2
          by_cases c12_3 : a2 = 3
          · have hw := hw.1 c12_3
            refine lv_tableIn (off := 84) (tgt := 96) hx hb d_R_incidentAt_12 (by rw [c12_3]; decide) (by rw [c12_3]; decide) (by rw [c12_3]; decide) (by decide) ?_
            refine lv_aload_n hx hb d_R_incidentAt_96 rfl (lv_at hl 0 rfl) ?_
            refine va_get (D := (dC, dI)) (ci := 3) (v := .ref (qI 0)) (C := "ReleaseRows") (T := T_R) (N := 6) hx hb hts in_R hown hK hP 0 rfl rfl 1 (by decide) (hts _ k_158) (fun _ h9 => h9) rfl d_R_incidentAt_97 ?_
            refine va_get (D := (dC, dI)) (ci := 0) (v := .ref (qI 7)) (C := "ReleaseRows$IncidentRows") (T := T_I) (N := 10) hx hb hts in_I hown hK hP 13 rfl rfl 6 (by decide) (hts _ k_114) (fun _ h9 => h9) rfl d_R_incidentAt_100 ?_
            refine lv_iload_n hx hb d_R_incidentAt_103 rfl (lv_at hl 1 rfl) ?_
            obtain ⟨h104, hw⟩ := hw
            refine va_iald hx hb hK hP 20 0 rfl rfl h104 d_R_incidentAt_104 ?_
            exact hret (xI.1 6 a1.toNatClampNeg) () _ _ _ _ _ _ rfl hw hP hD hS (Nat.le_of_ble_eq_true rfl) (Nat.le_of_ble_eq_true rfl) d_R_incidentAt_105
          · have hw := hw.2 c12_3
            by_cases c12_4 : a2 = 4
            · have hw := hw.1 c12_4
              refine lv_tableIn (off := 94) (tgt := 106) hx hb d_R_incidentAt_12 (by rw [c12_4]; decide) (by rw [c12_4]; decide) (by rw [c12_4]; decide) (by decide) ?_
              refine lv_aload_n hx hb d_R_incidentAt_106 rfl (lv_at hl 0 rfl) ?_
              refine va_get (D := (dC, dI)) (ci := 3) (v := .ref (qI 0)) (C := "ReleaseRows") (T := T_R) (N := 6) hx hb hts in_R hown hK hP 0 rfl rfl 1 (by decide) (hts _ k_158) (fun _ h9 => h9) rfl d_R_incidentAt_107 ?_
              refine va_get (D := (dC, dI)) (ci := 0) (v := .ref (qI 8)) (C := "ReleaseRows$IncidentRows") (T := T_I) (N := 10) hx hb hts in_I hown hK hP 13 rfl rfl 7 (by decide) (hts _ k_116) (fun _ h9 => h9) rfl d_R_incidentAt_110 ?_
              refine lv_iload_n hx hb d_R_incidentAt_113 rfl (lv_at hl 1 rfl) ?_
              obtain ⟨h114, hw⟩ := hw
              refine va_iald hx hb hK hP 21 0 rfl rfl h114 d_R_incidentAt_114 ?_
              exact hret (xI.1 7 a1.toNatClampNeg) () _ _ _ _ _ _ rfl hw hP hD hS (Nat.le_of_ble_eq_true rfl) (Nat.le_of_ble_eq_true rfl) d_R_incidentAt_115
            · have hw := hw.2 c12_4
              by_cases c12_5 : a2 = 5
              · have hw := hw.1 c12_5
                refine lv_tableIn (off := 104) (tgt := 116) hx hb d_R_incidentAt_12 (by rw [c12_5]; decide) (by rw [c12_5]; decide) (by rw [c12_5]; decide) (by decide) ?_
                refine lv_aload_n hx hb d_R_incidentAt_116 rfl (lv_at hl 0 rfl) ?_
                refine va_get (D := (dC, dI)) (ci := 3) (v := .ref (qI 0)) (C := "ReleaseRows") (T := T_R) (N := 6) hx hb hts in_R hown hK hP 0 rfl rfl 1 (by decide) (hts _ k_158) (fun _ h9 => h9) rfl d_R_incidentAt_117 ?_
                refine va_get (D := (dC, dI)) (ci := 0) (v := .ref (qI 9)) (C := "ReleaseRows$IncidentRows") (T := T_I) (N := 10) hx hb hts in_I hown hK hP 13 rfl rfl 8 (by decide) (hts _ k_118) (fun _ h9 => h9) rfl d_R_incidentAt_120 ?_
                refine lv_iload_n hx hb d_R_incidentAt_123 rfl (lv_at hl 1 rfl) ?_
                obtain ⟨h124, hw⟩ := hw
                refine va_iald hx hb hK hP 22 0 rfl rfl h124 d_R_incidentAt_124 ?_
                exact hret (xI.1 8 a1.toNatClampNeg) () _ _ _ _ _ _ rfl hw hP hD hS (Nat.le_of_ble_eq_true rfl) (Nat.le_of_ble_eq_true rfl) d_R_incidentAt_125
              · have hw := hw.2 c12_5
                by_cases c12_6 : a2 = 6
                · have hw := hw.1 c12_6
                  refine lv_tableIn (off := 114) (tgt := 126) hx hb d_R_incidentAt_12 (by rw [c12_6]; decide) (by rw [c12_6]; decide) (by rw [c12_6]; decide) (by decide) ?_
                  refine lv_aload_n hx hb d_R_incidentAt_126 rfl (lv_at hl 0 rfl) ?_
                  refine va_get (D := (dC, dI)) (ci := 3) (v := .ref (qI 0)) (C := "ReleaseRows") (T := T_R) (N := 6) hx hb hts in_R hown hK hP 0 rfl rfl 1 (by decide) (hts _ k_158) (fun _ h9 => h9) rfl d_R_incidentAt_127 ?_
                  refine va_get (D := (dC, dI)) (ci := 0) (v := .ref (qI 4)) (C := "ReleaseRows$IncidentRows") (T := T_I) (N := 10) hx hb hts in_I hown hK hP 13 rfl rfl 3 (by decide) (hts _ k_108) (fun _ h9 => h9) rfl d_R_incidentAt_130 ?_
                  refine lv_iload_n hx hb d_R_incidentAt_133 rfl (lv_at hl 1 rfl) ?_
                  obtain ⟨h134, hw⟩ := hw
                  refine va_iald hx hb hK hP 17 0 rfl rfl h134 d_R_incidentAt_134 ?_
                  exact hret (xI.1 3 a1.toNatClampNeg) () _ _ _ _ _ _ rfl hw hP hD hS (Nat.le_of_ble_eq_true rfl) (Nat.le_of_ble_eq_true rfl) d_R_incidentAt_135
                · have hw := hw.2 c12_6
                  by_cases c12_7 : a2 = 7
                  · have hw := hw.1 c12_7
                    refine lv_tableIn (off := 124) (tgt := 136) hx hb d_R_incidentAt_12 (by rw [c12_7]; decide) (by rw [c12_7]; decide) (by rw [c12_7]; decide) (by decide) ?_
                    refine lv_aload_n hx hb d_R_incidentAt_136 rfl (lv_at hl 0 rfl) ?_
                    refine va_get (D := (dC, dI)) (ci := 3) (v := .ref (qI 0)) (C := "ReleaseRows") (T := T_R) (N := 6) hx hb hts in_R hown hK hP 0 rfl rfl 1 (by decide) (hts _ k_158) (fun _ h9 => h9) rfl d_R_incidentAt_137 ?_
                    refine lv_iload_n hx hb d_R_incidentAt_140 rfl (lv_at hl 1 rfl) ?_
                    refine lv_aload_n hx hb d_R_incidentAt_141 rfl (lv_at hl 0 rfl) ?_
                    refine va_get (D := (dC, dI)) (ci := 3) (v := .int (xR.2 4)) (C := "ReleaseRows") (T := T_R) (N := 6) hx hb hts in_R hown hK hP 0 rfl rfl 4 (by decide) (hts _ k_161) (fun _ h9 => h9) rfl d_R_incidentAt_142 ?_
                    refine x_ci (w2 := fun _ => (wd_RUIW qR qU qI qW cI cZ cL xR xU xI xW)) [13, 14, 15, 16, 17, 18, 19, 20, 21, 22] [0, 1, 2, 3, 4, 5, 6, 7, 8, 9, 10, 11, 12, 23, 24] [0, 1, 2, 3, 4, 5, 6, 7, 8, 9, 10, 11, 12, 15, 16, 17, 18, 19, 20, 21, 22, 23, 24, 13, 14] (va_runV (As := [.int a1, .int (xR.2 4)]) (rest := []) ⟨hx, hb, hml, hown, hts⟩ (c_I_isOpenPastWatch l dC dI cI cZ cL qI _ xI a1 (xR.2 4) _ hw) (cwV 2 hts (x_gV k_551 k_552 k_553 k_28 k_554) rfl rfl rfl (by decide +kernel) ⟨Nat.le_of_ble_eq_true rfl, Nat.le_of_ble_eq_true rfl⟩) ⟨x_blind, va_recv hK hP (ci := 0) (q0 := 13) rfl rfl, fun U hU hW => x_pre (isC := [13, 14, 15, 16, 17, 18, 19, 20, 21, 22]) hK hP hD rfl rfl hU hW⟩ rfl rfl hl.1 rfl (lv_room (Nat.le_of_ble_eq_true rfl)) d_R_incidentAt_145 ⟨Nat.le_of_ble_eq_true rfl, Nat.le_of_ble_eq_true rfl⟩) hP hD hS hA rfl rfl rfl (by decide) (fun _ => rfl) rfl (fun r145 _ H locs hw hP hD hS => ?_)
                    refine lv_if_eq (tgt := 155) hx hb d_R_incidentAt_148 (by decide) (fun c148 => ?_) (fun c148 => ?_)
                    · have hw := hw.1 c148
                      refine lv_iconst (v := (0 : Int32)) hx hb d_R_incidentAt_155 (by decide) ?_
                      exact hret (0 : Int32) () _ _ _ _ _ _ rfl hw hP hD hS (Nat.le_of_ble_eq_true rfl) (Nat.le_of_ble_eq_true rfl) d_R_incidentAt_156
                    · have hw := hw.2 c148
                      refine lv_iconst (v := (1 : Int32)) hx hb d_R_incidentAt_151 (by decide) ?_
                      refine lv_goto (tgt := 156) hx hb d_R_incidentAt_152 (by decide) ?_
                      exact hret (1 : Int32) () _ _ _ _ _ _ rfl hw hP hD hS (Nat.le_of_ble_eq_true rfl) (Nat.le_of_ble_eq_true rfl) d_R_incidentAt_156
                  · have hw := hw.2 c12_7
                    refine lv_tableOut (tgt := 157) hx hb d_R_incidentAt_12 (by have z0 := lv_neT (a := 0) c12_0 (by decide); have z1 := lv_neT (a := 1) c12_1 (by decide); have z2 := lv_neT (a := 2) c12_2 (by decide); have z3 := lv_neT (a := 3) c12_3 (by decide); have z4 := lv_neT (a := 4) c12_4 (by decide); have z5 := lv_neT (a := 5) c12_5 (by decide); have z6 := lv_neT (a := 6) c12_6 (by decide); have z7 := lv_neT (a := 7) c12_7 (by decide); omega) (by decide) ?_
                    rw [hQ]
                    exact vx_throwS (text := "no such what") (names := ["java/lang/RuntimeException", "java/lang/Exception"]) hx hb hl9 hown (by decide) (by decide) (hts _ k_371) (hts _ k_37) (hE.2.2.1 (153, "no such what") (by decide)) (vx_hat (fun w hw => hts w (at_151_155 w hw)) at_151_155_b (vx_c (va_Nw.use rfl (hE.2.2.2.1 _ (by decide))) (vx_c (va_Nw.use rfl (hE.2.2.2.2 _ (by decide))) (vx_c (va_Nw.use rfl (hE.2.2.2.2 _ (by decide))) (vx_c (va_Nw.use rfl (hE.2.2.2.2 _ (by decide))) vx_n))))) at_151_155_g hE.1 hE.2.1 hS (hl.1.trans hml.symm) d_R_incidentAt_157 d_R_incidentAt_160 d_R_incidentAt_161 d_R_incidentAt_163 d_R_incidentAt_166 (fun x hx => (hex x hx).elim) (Nat.le_of_ble_eq_true rfl) (Nat.le_of_ble_eq_true rfl) (Nat.le_of_ble_eq_true rfl) (Nat.le_of_ble_eq_true rfl) hlocks (x_thrX (u := ()) hP hD hS hw) hS.2.2 (Nat.le_of_ble_eq_true rfl) (Nat.le_of_ble_eq_true rfl)
  · have hw := hw.2 hg8
    refine x_cxv (w2 := fun _ => (wd_RUIW qR qU qI qW cI cZ cL xR xU xI xW)) (v2 := fun _ => (wd_RUIW qR qU qI qW cI cZ cL xR xU xI xW)) [] [0, 1, 2, 3, 4, 5, 6, 7, 8, 9, 10, 11, 12, 13, 14, 15, 16, 17, 18, 19, 20, 21, 22, 23, 24] [0, 1, 2, 3, 4, 5, 6, 7, 8, 9, 10, 11, 12, 13, 14, 15, 16, 17, 18, 19, 20, 21, 22, 23, 24] (vx_runS (As := [.int r5]) (rest := []) ⟨hx, hb, hml, hown, hts⟩ (c_R_needKnownX l hl9 sa dC dI cI cZ cL  _ r5 (fun _ => False) (fun E _ => E = "java/lang/IllegalArgumentException") (g_needKnownX hg8)) (cwS 1 hts (x_gS k_368 k_369 k_26 k_370) rfl rfl rfl (by decide +kernel) ⟨Nat.le_of_ble_eq_true rfl, Nat.le_of_ble_eq_true rfl⟩) ⟨x_blindX, fun U hU hW => x_preX (isC := []) hK hP hD hS hA hE rfl rfl hU hW⟩ rfl rfl hl.1 rfl (lv_room (Nat.le_of_ble_eq_true rfl)) d_R_incidentAt_8 ⟨Nat.le_of_ble_eq_true rfl, Nat.le_of_ble_eq_true rfl⟩) hP hD hS hA rfl rfl rfl (by decide) (fun _ => rfl) (fun _ => rfl) rfl (fun E _ ce q9 H locs hpx hP hD hS h1 h2 h3 => hthr E () ce q9 H locs _ _ _ _ _ (hpx ▸ hw) hP hD hS h1 h2 h3 (Nat.le_of_ble_eq_true rfl) (Nat.le_of_ble_eq_true rfl)) (fun _ H locs hf _ _ _ => hf.elim)

def wj_R_count_82 (xR : St) (xU : St) (xI : St) (xW : St) (a1 : Int32) (post : Int32 → Unit → Prop) (postX : String → Unit → Prop) (s0_ : Int32) : Prop := (¬ s0_ = 0 → (vp_in (a1 - (10 : Int32)) 6 ∧ (post (xR.1 3 (a1 - (10 : Int32)).toNatClampNeg) ()))) ∧ (¬ (¬ s0_ = 0) → postX "java/lang/IllegalArgumentException" ())
def wj_R_count_81 (xR : St) (xU : St) (xI : St) (xW : St) (a1 : Int32) (post : Int32 → Unit → Prop) (postX : String → Unit → Prop)  : Prop := wj_R_count_82 xR xU xI xW a1 post postX (0 : Int32)
def wp_R_count (xR : St) (xU : St) (xI : St) (xW : St) (a1 : Int32) (post : Int32 → Unit → Prop) (postX : String → Unit → Prop) : Prop := (a1 = 0 → (post (xR.2 4) ())) ∧ (¬ a1 = 0 → ((a1 = 1 → (wp_U_countReady xU (fun r41 _ => (post r41 ())))) ∧ (¬ a1 = 1 → ((a1 = 2 → (post (xW.2 1) ())) ∧ (¬ a1 = 2 → ((a1 = 3 → (wp_I_countOpen xI (fun r57 _ => (post r57 ())))) ∧ (¬ a1 = 3 → ((a1 < (10 : Int32) → (wj_R_count_81 xR xU xI xW a1 post postX )) ∧ (¬ a1 < (10 : Int32) → (wp_R_isGood (a1 - (10 : Int32)) (fun r71 _ => ((r71 = 0 → (wj_R_count_81 xR xU xI xW a1 post postX )) ∧ (¬ r71 = 0 → (wj_R_count_82 xR xU xI xW a1 post postX (1 : Int32)))))))))))))))
set_option maxHeartbeats 4000000 in
set_option maxRecDepth 100000 in
theorem c_R_count (l : Launch) (hl9 : l.stackTraces = false) (sa : Nat → Nat) (dC : Nat → ClassId) (dI : Nat → Nat → Nat) (cI cZ cL : ClassId) (qR : Nat → Nat) (qU : Nat → Nat) (qI : Nat → Nat) (qW : Nat → Nat) (sz : Nat) (xR : St) (xU : St) (xI : St) (xW : St) (a1 : Int32) (post : Int32 → Unit → Prop) (postX : String → Unit → Prop) (hw : wp_R_count xR xU xI xW a1 post postX) : vx_Met l y_R_count w_R_count ({ frames := 7, cells := 1, slots := 6, locals := 110 } : Room) (va_Pc [.ref (qR 0), .int a1] (fun U => xP (dC, dI) vwCl [(cI, .int), (cZ, .boolean), (cL, .long)] (wd_RUIW qR qU qI qW cI cZ cL xR xU xI xW) sz U ∧ xE "ReleaseRows" xTx sa (va_A (wd_RUIW qR qU qI qW cI cZ cL xR xU xI xW) sz) U.heap U)) (va_Qi post (xB (dC, dI) vwCl [(cI, .int), (cZ, .boolean), (cL, .long)] (va_A (wd_RUIW qR qU qI qW cI cZ cL xR xU xI xW) sz) (fun _ => (wd_RUIW qR qU qI qW cI cZ cL xR xU xI xW))) (va_A (wd_RUIW qR qU qI qW cI cZ cL xR xU xI xW) sz)) (vx_X (fun _ => True) (xBX (dC, dI) vwCl (va_A (wd_RUIW qR qU qI qW cI cZ cL xR xU xI xW) sz) postX (fun _ => (wd_RUIW qR qU qI qW cI cZ cL xR xU xI xW))) (va_A (wd_RUIW qR qU qI qW cI cZ cL xR xU xI xW) sz)) 1 6 (va_A (wd_RUIW qR qU qI qW cI cZ cL xR xU xI xW) sz) := by
  refine x_ofXI (cc := b_R_count) (maxL := 2) (by decide) rfl (Nat.le_of_ble_eq_true rfl) (fun p e s m below meth c A Q hx hb hml hts hown hlocks hex hK hA hP hD hS hE hQ hret hthr ls hl => ?_)
  have hl : lv_has ls 2 [(0, .ref (qR 0)), (1, .int a1)] := hl
  have jn82 : ∀ (s0_ : Int32) (H : Heap) (locs : List Loc) (ls : Array Slot), wj_R_count_82 xR xU xI xW a1 post postX s0_ → va_P (dC, dI) vwCl (wd_RUIW qR qU qI qW cI cZ cL xR xU xI xW) H → va_D A (wd_RUIW qR qU qI qW cI cZ cL xR xU xI xW) → va_S A s.heap H locs → lv_has ls 2 [(0, .ref (qR 0)), (1, .int a1)] → W p l e (headSpec w_R_count ({ frames := 7, cells := 1, slots := 6, locals := 110 } : Room)).room s m ([.ref (qR 0), .int a1] : List Value).toArray below meth c H locs 0 0 Q (F0 m 82 ls [.int s0_]) := by
    intro s0_ H locs ls hw hP hD hS hl
    unfold wj_R_count_82 at hw
    by_cases hg82 : ¬ s0_ = 0
    · have hw := hw.1 hg82
      refine x_cv (w2 := fun _ => (wd_RUIW qR qU qI qW cI cZ cL xR xU xI xW)) [] [0, 1, 2, 3, 4, 5, 6, 7, 8, 9, 10, 11, 12, 13, 14, 15, 16, 17, 18, 19, 20, 21, 22, 23, 24] [0, 1, 2, 3, 4, 5, 6, 7, 8, 9, 10, 11, 12, 13, 14, 15, 16, 17, 18, 19, 20, 21, 22, 23, 24] (va_runS (As := [.int s0_]) (rest := []) ⟨hx, hb, hml, hown, hts⟩ (c_R_needKnown l dC dI cI cZ cL  _ s0_ (fun _ => True) (g_needKnown hg82)) (cwS 1 hts (x_gS k_368 k_369 k_26 k_370) rfl rfl rfl (by decide +kernel) ⟨Nat.le_of_ble_eq_true rfl, Nat.le_of_ble_eq_true rfl⟩) ⟨x_blind, fun U hU hW => x_pre (isC := []) hK hP hD rfl rfl hU hW⟩ rfl rfl hl.1 rfl (lv_room (Nat.le_of_ble_eq_true rfl)) d_R_count_82 ⟨Nat.le_of_ble_eq_true rfl, Nat.le_of_ble_eq_true rfl⟩) hP hD hS hA rfl rfl rfl (by decide) (fun _ => rfl) rfl (fun _ H locs _ hP hD hS => ?_)
      refine lv_aload_n hx hb d_R_count_85 rfl (lv_at hl 0 rfl) ?_
      refine va_get (D := (dC, dI)) (ci := 3) (v := .ref (qR 4)) (C := "ReleaseRows") (T := T_R) (N := 6) hx hb hts in_R hown hK hP 0 rfl rfl 3 (by decide) (hts _ k_160) (fun _ h9 => h9) rfl d_R_count_86 ?_
      refine lv_iload_n hx hb d_R_count_89 rfl (lv_at hl 1 rfl) ?_
      refine lv_bipush (v := (10 : Int32)) hx hb d_R_count_90 (by decide) ?_
      refine lv_isub hx hb d_R_count_92 ?_
      obtain ⟨h93, hw⟩ := hw
      refine va_iald hx hb hK hP 1 0 rfl rfl h93 d_R_count_93 ?_
      exact hret (xR.1 3 (a1 - (10 : Int32)).toNatClampNeg) () _ _ _ _ _ _ rfl hw hP hD hS (Nat.le_of_ble_eq_true rfl) (Nat.le_of_ble_eq_true rfl) d_R_count_94
    · have hw := hw.2 hg82
      refine x_cxv (w2 := fun _ => (wd_RUIW qR qU qI qW cI cZ cL xR xU xI xW)) (v2 := fun _ => (wd_RUIW qR qU qI qW cI cZ cL xR xU xI xW)) [] [0, 1, 2, 3, 4, 5, 6, 7, 8, 9, 10, 11, 12, 13, 14, 15, 16, 17, 18, 19, 20, 21, 22, 23, 24] [0, 1, 2, 3, 4, 5, 6, 7, 8, 9, 10, 11, 12, 13, 14, 15, 16, 17, 18, 19, 20, 21, 22, 23, 24] (vx_runS (As := [.int s0_]) (rest := []) ⟨hx, hb, hml, hown, hts⟩ (c_R_needKnownX l hl9 sa dC dI cI cZ cL  _ s0_ (fun _ => False) (fun E _ => E = "java/lang/IllegalArgumentException") (g_needKnownX hg82)) (cwS 1 hts (x_gS k_368 k_369 k_26 k_370) rfl rfl rfl (by decide +kernel) ⟨Nat.le_of_ble_eq_true rfl, Nat.le_of_ble_eq_true rfl⟩) ⟨x_blindX, fun U hU hW => x_preX (isC := []) hK hP hD hS hA hE rfl rfl hU hW⟩ rfl rfl hl.1 rfl (lv_room (Nat.le_of_ble_eq_true rfl)) d_R_count_82 ⟨Nat.le_of_ble_eq_true rfl, Nat.le_of_ble_eq_true rfl⟩) hP hD hS hA rfl rfl rfl (by decide) (fun _ => rfl) (fun _ => rfl) rfl (fun E _ ce q9 H locs hpx hP hD hS h1 h2 h3 => hthr E () ce q9 H locs _ _ _ _ _ (hpx ▸ hw) hP hD hS h1 h2 h3 (Nat.le_of_ble_eq_true rfl) (Nat.le_of_ble_eq_true rfl)) (fun _ H locs hf _ _ _ => hf.elim)
  have jn81 : ∀ (H : Heap) (locs : List Loc) (ls : Array Slot), wj_R_count_81 xR xU xI xW a1 post postX  → va_P (dC, dI) vwCl (wd_RUIW qR qU qI qW cI cZ cL xR xU xI xW) H → va_D A (wd_RUIW qR qU qI qW cI cZ cL xR xU xI xW) → va_S A s.heap H locs → lv_has ls 2 [(0, .ref (qR 0)), (1, .int a1)] → W p l e (headSpec w_R_count ({ frames := 7, cells := 1, slots := 6, locals := 110 } : Room)).room s m ([.ref (qR 0), .int a1] : List Value).toArray below meth c H locs 0 0 Q (F0 m 81 ls []) := by
    intro  H locs ls hw hP hD hS hl
    unfold wj_R_count_81 at hw
    refine lv_iconst (v := (0 : Int32)) hx hb d_R_count_81 (by decide) ?_
    exact jn82 (0 : Int32) _ _ _ hw hP hD hS hl
  unfold wp_R_count at hw
  refine lv_iload_n hx hb d_R_count_0 rfl (lv_at hl 1 rfl) ?_
  by_cases c1_0 : a1 = 0
  · have hw := hw.1 c1_0
    refine lv_tableIn (off := 31) (tgt := 32) hx hb d_R_count_1 (by rw [c1_0]; decide) (by rw [c1_0]; decide) (by rw [c1_0]; decide) (by decide) ?_
    refine lv_aload_n hx hb d_R_count_32 rfl (lv_at hl 0 rfl) ?_
    refine va_get (D := (dC, dI)) (ci := 3) (v := .int (xR.2 4)) (C := "ReleaseRows") (T := T_R) (N := 6) hx hb hts in_R hown hK hP 0 rfl rfl 4 (by decide) (hts _ k_161) (fun _ h9 => h9) rfl d_R_count_33 ?_
    exact hret (xR.2 4) () _ _ _ _ _ _ rfl hw hP hD hS (Nat.le_of_ble_eq_true rfl) (Nat.le_of_ble_eq_true rfl) d_R_count_36
  · have hw := hw.2 c1_0
    by_cases c1_1 : a1 = 1
    · have hw := hw.1 c1_1
      refine lv_tableIn (off := 36) (tgt := 37) hx hb d_R_count_1 (by rw [c1_1]; decide) (by rw [c1_1]; decide) (by rw [c1_1]; decide) (by decide) ?_
      refine lv_aload_n hx hb d_R_count_37 rfl (lv_at hl 0 rfl) ?_
      refine va_get (D := (dC, dI)) (ci := 3) (v := .ref (qU 0)) (C := "ReleaseRows") (T := T_R) (N := 6) hx hb hts in_R hown hK hP 0 rfl rfl 0 (by decide) (hts _ k_157) (fun _ h9 => h9) rfl d_R_count_38 ?_
      refine x_ci (w2 := fun _ => (wd_RUIW qR qU qI qW cI cZ cL xR xU xI xW)) [2, 3, 4, 5, 6, 7, 8, 9, 10, 11, 12] [0, 1, 13, 14, 15, 16, 17, 18, 19, 20, 21, 22, 23, 24] [0, 1, 14, 15, 16, 17, 18, 19, 20, 21, 22, 23, 24, 2, 3, 4, 5, 6, 7, 8, 9, 10, 11, 12, 13] (va_runV (As := []) (rest := []) ⟨hx, hb, hml, hown, hts⟩ (c_U_countReady l dC dI cI cZ cL qU _ xU _ hw) (cwV 0 hts (x_gV k_562 k_563 k_564 k_27 k_565) rfl rfl rfl (by decide +kernel) ⟨Nat.le_of_ble_eq_true rfl, Nat.le_of_ble_eq_true rfl⟩) ⟨x_blind, va_recv hK hP (ci := 1) (q0 := 2) rfl rfl, fun U hU hW => x_pre (isC := [2, 3, 4, 5, 6, 7, 8, 9, 10, 11, 12]) hK hP hD rfl rfl hU hW⟩ rfl rfl hl.1 rfl (lv_room (Nat.le_of_ble_eq_true rfl)) d_R_count_41 ⟨Nat.le_of_ble_eq_true rfl, Nat.le_of_ble_eq_true rfl⟩) hP hD hS hA rfl rfl rfl (by decide) (fun _ => rfl) rfl (fun r41 _ H locs hw hP hD hS => ?_)
      exact hret r41 () _ _ _ _ _ _ rfl hw hP hD hS (Nat.le_of_ble_eq_true rfl) (Nat.le_of_ble_eq_true rfl) d_R_count_44
    · have hw := hw.2 c1_1
      by_cases c1_2 : a1 = 2
      · have hw := hw.1 c1_2
        refine lv_tableIn (off := 44) (tgt := 45) hx hb d_R_count_1 (by rw [c1_2]; decide) (by rw [c1_2]; decide) (by rw [c1_2]; decide) (by decide) ?_
        refine lv_aload_n hx hb d_R_count_45 rfl (lv_at hl 0 rfl) ?_
        refine va_get (D := (dC, dI)) (ci := 3) (v := .ref (qW 0)) (C := "ReleaseRows") (T := T_R) (N := 6) hx hb hts in_R hown hK hP 0 rfl rfl 2 (by decide) (hts _ k_159) (fun _ h9 => h9) rfl d_R_count_46 ?_
        refine va_get (D := (dC, dI)) (ci := 2) (v := .int (xW.2 1)) (C := "ReleaseRows$WaitingRow") (T := T_W) (N := 2) hx hb hts in_W hown hK hP 23 rfl rfl 1 (by decide) (hts _ k_151) (fun _ h9 => h9) rfl d_R_count_49 ?_
        exact hret (xW.2 1) () _ _ _ _ _ _ rfl hw hP hD hS (Nat.le_of_ble_eq_true rfl) (Nat.le_of_ble_eq_true rfl) d_R_count_52
      · have hw := hw.2 c1_2
        by_cases c1_3 : a1 = 3
        · have hw := hw.1 c1_3
          refine lv_tableIn (off := 52) (tgt := 53) hx hb d_R_count_1 (by rw [c1_3]; decide) (by rw [c1_3]; decide) (by rw [c1_3]; decide) (by decide) ?_
          refine lv_aload_n hx hb d_R_count_53 rfl (lv_at hl 0 rfl) ?_
          refine va_get (D := (dC, dI)) (ci := 3) (v := .ref (qI 0)) (C := "ReleaseRows") (T := T_R) (N := 6) hx hb hts in_R hown hK hP 0 rfl rfl 1 (by decide) (hts _ k_158) (fun _ h9 => h9) rfl d_R_count_54 ?_
          refine x_ci (w2 := fun _ => (wd_RUIW qR qU qI qW cI cZ cL xR xU xI xW)) [13, 14, 15, 16, 17, 18, 19, 20, 21, 22] [0, 1, 2, 3, 4, 5, 6, 7, 8, 9, 10, 11, 12, 23, 24] [0, 1, 2, 3, 4, 5, 6, 7, 8, 9, 10, 11, 12, 15, 16, 17, 18, 19, 20, 21, 22, 23, 24, 13, 14] (va_runV (As := []) (rest := []) ⟨hx, hb, hml, hown, hts⟩ (c_I_countOpen l dC dI cI cZ cL qI _ xI _ hw) (cwV 0 hts (x_gV k_566 k_567 k_568 k_28 k_569) rfl rfl rfl (by decide +kernel) ⟨Nat.le_of_ble_eq_true rfl, Nat.le_of_ble_eq_true rfl⟩) ⟨x_blind, va_recv hK hP (ci := 0) (q0 := 13) rfl rfl, fun U hU hW => x_pre (isC := [13, 14, 15, 16, 17, 18, 19, 20, 21, 22]) hK hP hD rfl rfl hU hW⟩ rfl rfl hl.1 rfl (lv_room (Nat.le_of_ble_eq_true rfl)) d_R_count_57 ⟨Nat.le_of_ble_eq_true rfl, Nat.le_of_ble_eq_true rfl⟩) hP hD hS hA rfl rfl rfl (by decide) (fun _ => rfl) rfl (fun r57 _ H locs hw hP hD hS => ?_)
          exact hret r57 () _ _ _ _ _ _ rfl hw hP hD hS (Nat.le_of_ble_eq_true rfl) (Nat.le_of_ble_eq_true rfl) d_R_count_60
        · have hw := hw.2 c1_3
          refine lv_tableOut (tgt := 61) hx hb d_R_count_1 (by have z0 := lv_neT (a := 0) c1_0 (by decide); have z1 := lv_neT (a := 1) c1_1 (by decide); have z2 := lv_neT (a := 2) c1_2 (by decide); have z3 := lv_neT (a := 3) c1_3 (by decide); omega) (by decide) ?_
          refine lv_iload_n hx hb d_R_count_61 rfl (lv_at hl 1 rfl) ?_
          refine lv_bipush (v := (10 : Int32)) hx hb d_R_count_62 (by decide) ?_
          refine lv_icmp_lt (tgt := 81) hx hb d_R_count_64 (by decide) (fun c64 => ?_) (fun c64 => ?_)
          · have hw := hw.1 c64
            exact jn81 _ _ _ hw hP hD hS hl
          · have hw := hw.2 c64
            refine lv_iload_n hx hb d_R_count_67 rfl (lv_at hl 1 rfl) ?_
            refine lv_bipush (v := (10 : Int32)) hx hb d_R_count_68 (by decide) ?_
            refine lv_isub hx hb d_R_count_70 ?_
            refine x_ci (w2 := fun _ => (wd_RUIW qR qU qI qW cI cZ cL xR xU xI xW)) [] [0, 1, 2, 3, 4, 5, 6, 7, 8, 9, 10, 11, 12, 13, 14, 15, 16, 17, 18, 19, 20, 21, 22, 23, 24] [0, 1, 2, 3, 4, 5, 6, 7, 8, 9, 10, 11, 12, 13, 14, 15, 16, 17, 18, 19, 20, 21, 22, 23, 24] (va_runS (As := [.int (a1 - (10 : Int32))]) (rest := []) ⟨hx, hb, hml, hown, hts⟩ (c_R_isGood l dC dI cI cZ cL  _ (a1 - (10 : Int32)) _ hw) (cwS 1 hts (x_gS k_479 k_480 k_26 k_481) rfl rfl rfl (by decide +kernel) ⟨Nat.le_of_ble_eq_true rfl, Nat.le_of_ble_eq_true rfl⟩) ⟨x_blind, fun U hU hW => x_pre (isC := []) hK hP hD rfl rfl hU hW⟩ rfl rfl hl.1 rfl (lv_room (Nat.le_of_ble_eq_true rfl)) d_R_count_71 ⟨Nat.le_of_ble_eq_true rfl, Nat.le_of_ble_eq_true rfl⟩) hP hD hS hA rfl rfl rfl (by decide) (fun _ => rfl) rfl (fun r71 _ H locs hw hP hD hS => ?_)
            refine lv_if_eq (tgt := 81) hx hb d_R_count_74 (by decide) (fun c74 => ?_) (fun c74 => ?_)
            · have hw := hw.1 c74
              exact jn81 _ _ _ hw hP hD hS hl
            · have hw := hw.2 c74
              refine lv_iconst (v := (1 : Int32)) hx hb d_R_count_77 (by decide) ?_
              refine lv_goto (tgt := 82) hx hb d_R_count_78 (by decide) ?_
              exact jn82 (1 : Int32) _ _ _ hw hP hD hS hl

