def wj_I_has_16 (xI : St) (a1 : Int32) (post : Int32 → Unit → Prop)  : Prop := post (0 : Int32) ()
def wp_I_has (xI : St) (a1 : Int32) (post : Int32 → Unit → Prop) : Prop := (a1 < 0 → (wj_I_has_16 xI a1 post )) ∧ (¬ a1 < 0 → (((xI.2 9) ≤ a1 → (wj_I_has_16 xI a1 post )) ∧ (¬ (xI.2 9) ≤ a1 → (post (1 : Int32) ()))))
set_option maxHeartbeats 4000000 in
set_option maxRecDepth 100000 in
theorem c_I_has (l : Launch) (dC : Nat → ClassId) (dI : Nat → Nat → Nat) (cI cZ cL : ClassId) (qI : Nat → Nat) (sz : Nat) (xI : St) (a1 : Int32) (post : Int32 → Unit → Prop) (hw : wp_I_has xI a1 post) : Met l y_I_has w_I_has ({ frames := 0, cells := 0, slots := 0, locals := 0 } : Room) (va_Pc [.ref (qI 0), .int a1] (xP (dC, dI) vwCl [(cI, .int), (cZ, .boolean), (cL, .long)] (wd_I qI cI cZ cL xI) sz)) (va_Qi post (xB (dC, dI) vwCl [(cI, .int), (cZ, .boolean), (cL, .long)] (va_A (wd_I qI cI cZ cL xI) sz) (fun _ => (wd_I qI cI cZ cL xI))) (va_A (wd_I qI cI cZ cL xI) sz)) 0 0 (va_A (wd_I qI cI cZ cL xI) sz) := by
  refine x_ofI (cc := b_I_has) (maxL := 2) (by decide) rfl (Nat.le_of_ble_eq_true rfl) (fun p e s m below meth c A Q hx hb hml hts hown hK hA hP hD hS hret ls hl => ?_)
  have hl : lv_has ls 2 [(0, .ref (qI 0)), (1, .int a1)] := hl
  have jn16 : ∀ (H : Heap) (locs : List Loc) (ls : Array Slot), wj_I_has_16 xI a1 post  → va_P (dC, dI) vwCl (wd_I qI cI cZ cL xI) H → va_D A (wd_I qI cI cZ cL xI) → va_S A s.heap H locs → lv_has ls 2 [] → W p l e (headSpec w_I_has ({ frames := 0, cells := 0, slots := 0, locals := 0 } : Room)).room s m ([.ref (qI 0), .int a1] : List Value).toArray below meth c H locs 0 0 Q (F0 m 16 ls []) := by
    intro  H locs ls hw hP hD hS hl
    unfold wj_I_has_16 at hw
    refine lv_iconst (v := (0 : Int32)) hx hb d_I_has_16 (by decide) ?_
    exact hret (0 : Int32) () _ _ _ _ _ _ (by decide) hw hP hD hS (Nat.le_of_ble_eq_true rfl) (Nat.le_of_ble_eq_true rfl) d_I_has_17
  unfold wp_I_has at hw
  refine lv_iload_n hx hb d_I_has_0 rfl (lv_at hl 1 rfl) ?_
  refine lv_if_lt (tgt := 16) hx hb d_I_has_1 (by decide) (fun c1 => ?_) (fun c1 => ?_)
  · have hw := hw.1 c1
    exact jn16 _ _ _ hw hP hD hS (lv_sub hl [] rfl)
  · have hw := hw.2 c1
    refine lv_iload_n hx hb d_I_has_4 rfl (lv_at hl 1 rfl) ?_
    refine lv_aload_n hx hb d_I_has_5 rfl (lv_at hl 0 rfl) ?_
    refine va_get (D := (dC, dI)) (ci := 0) (v := .int (xI.2 9)) (C := "ReleaseRows$IncidentRows") (T := T_I) (N := 10) hx hb hts in_I hown hK hP 0 rfl rfl 9 (by decide) (hts _ k_119) (fun _ h9 => h9) rfl d_I_has_6 ?_
    refine lv_icmp_ge (tgt := 16) hx hb d_I_has_9 (by decide) (fun c9 => ?_) (fun c9 => ?_)
    · have hw := hw.1 c9
      exact jn16 _ _ _ hw hP hD hS (lv_sub hl [] rfl)
    · have hw := hw.2 c9
      refine lv_iconst (v := (1 : Int32)) hx hb d_I_has_12 (by decide) ?_
      refine lv_goto (tgt := 17) hx hb d_I_has_13 (by decide) ?_
      exact hret (1 : Int32) () _ _ _ _ _ _ (by decide) hw hP hD hS (Nat.le_of_ble_eq_true rfl) (Nat.le_of_ble_eq_true rfl) d_I_has_17

def wp_I_addIncident (xI : St) (a1 : Int32) (post : Int32 → St → Prop) : Prop := ∀ v2_4 : Int32, v2_4 = (xI.2 9) → (vp_in v2_4 20 ∧ (vp_in v2_4 20 ∧ (post v2_4 (sA (sA (sF xI 9 ((xI.2 9) + (1 : Int32))) 0 v2_4.toNatClampNeg a1) 8 v2_4.toNatClampNeg (-1 : Int32)))))
set_option maxHeartbeats 4000000 in
set_option maxRecDepth 100000 in
theorem c_I_addIncident (l : Launch) (dC : Nat → ClassId) (dI : Nat → Nat → Nat) (cI cZ cL : ClassId) (qI : Nat → Nat) (sz : Nat) (xI : St) (a1 : Int32) (post : Int32 → St → Prop) (hw : wp_I_addIncident xI a1 post) : Met l y_I_addIncident w_I_addIncident ({ frames := 0, cells := 0, slots := 0, locals := 0 } : Room) (va_Pc [.ref (qI 0), .int a1] (xP (dC, dI) vwCl [(cI, .int), (cZ, .boolean), (cL, .long)] (wd_I qI cI cZ cL xI) sz)) (va_Qi post (xB (dC, dI) vwCl [(cI, .int), (cZ, .boolean), (cL, .long)] (va_A (wd_I qI cI cZ cL xI) sz) (fun u => (wd_I qI cI cZ cL u))) (va_A (wd_I qI cI cZ cL xI) sz)) 0 0 (va_A (wd_I qI cI cZ cL xI) sz) := by
  refine x_ofI (cc := b_I_addIncident) (maxL := 3) (by decide) rfl (Nat.le_of_ble_eq_true rfl) (fun p e s m below meth c A Q hx hb hml hts hown hK hA hP hD hS hret ls hl => ?_)
  have hl : lv_has ls 3 [(0, .ref (qI 0)), (1, .int a1)] := hl
  unfold wp_I_addIncident at hw
  refine lv_aload_n hx hb d_I_addIncident_0 rfl (lv_at hl 0 rfl) ?_
  refine va_get (D := (dC, dI)) (ci := 0) (v := .int (xI.2 9)) (C := "ReleaseRows$IncidentRows") (T := T_I) (N := 10) hx hb hts in_I hown hK hP 0 rfl rfl 9 (by decide) (hts _ k_119) (fun _ h9 => h9) rfl d_I_addIncident_1 ?_
  refine lv_topi (fun v2_4 ev2_4 => ?_)
  have hw := hw v2_4 ev2_4
  refine lv_istore_n (lv' := [(2, .int v2_4), (0, .ref (qI 0)), (1, .int a1)]) hx hb d_I_addIncident_4 rfl hl (by decide) rfl (fun ls hl => ?_)
  refine lv_aload_n hx hb d_I_addIncident_5 rfl (lv_at hl 1 rfl) ?_
  refine lv_dup hx hb d_I_addIncident_6 rfl ?_
  refine va_get (D := (dC, dI)) (ci := 0) (v := .int (xI.2 9)) (C := "ReleaseRows$IncidentRows") (T := T_I) (N := 10) hx hb hts in_I hown hK hP 0 rfl rfl 9 (by decide) (hts _ k_119) (fun _ h9 => h9) rfl d_I_addIncident_7 ?_
  refine lv_iconst (v := (1 : Int32)) hx hb d_I_addIncident_10 (by decide) ?_
  refine lv_iadd hx hb d_I_addIncident_11 ?_
  refine va_put (D := (dC, dI)) (ci := 0) (v := .int ((xI.2 9) + (1 : Int32))) (ty := .int) (C := "ReleaseRows$IncidentRows") (T := T_I) (N := 10) hx hb hts in_I ty_I tyok_I nm_I hown hK hP hD hS 0 rfl rfl 9 (by decide) (hts _ k_119) (fun _ h9 => h9) rfl (by decide +kernel) rfl rfl (Nat.le_of_ble_eq_true rfl) d_I_addIncident_12 (fun H locs hP hD hS => ?_)
  have hP := wsP_I_I9 hP
  have hD := wsD_I_I9 hD
  refine lv_aload_n hx hb d_I_addIncident_15 rfl (lv_at hl 1 rfl) ?_
  refine va_get (D := (dC, dI)) (ci := 0) (v := .ref (qI 1)) (C := "ReleaseRows$IncidentRows") (T := T_I) (N := 10) hx hb hts in_I hown hK hP 0 rfl rfl 0 (by decide) (hts _ k_102) (fun _ h9 => h9) rfl d_I_addIncident_16 ?_
  refine lv_iload_n hx hb d_I_addIncident_19 rfl (lv_at hl 0 rfl) ?_
  refine lv_iload_n hx hb d_I_addIncident_20 rfl (lv_at hl 2 rfl) ?_
  obtain ⟨h21, hw⟩ := hw
  refine va_iast hx hb hK hP hD hS 1 0 rfl rfl h21 d_I_addIncident_21 (fun H locs hP hD hS => ?_)
  have hP := wsP_I_I0 hP
  have hD := wsD_I_I0 hD
  refine lv_aload_n hx hb d_I_addIncident_22 rfl (lv_at hl 1 rfl) ?_
  refine va_get (D := (dC, dI)) (ci := 0) (v := .ref (qI 9)) (C := "ReleaseRows$IncidentRows") (T := T_I) (N := 10) hx hb hts in_I hown hK hP 0 rfl rfl 8 (by decide) (hts _ k_117) (fun _ h9 => h9) rfl d_I_addIncident_23 ?_
  refine lv_iload_n hx hb d_I_addIncident_26 rfl (lv_at hl 0 rfl) ?_
  refine lv_iconst (v := (-1 : Int32)) hx hb d_I_addIncident_27 (by decide) ?_
  obtain ⟨h28, hw⟩ := hw
  refine va_iast hx hb hK hP hD hS 9 0 rfl rfl h28 d_I_addIncident_28 (fun H locs hP hD hS => ?_)
  have hP := wsP_I_I8 hP
  have hD := wsD_I_I8 hD
  refine lv_iload_n hx hb d_I_addIncident_29 rfl (lv_at hl 0 rfl) ?_
  exact hret v2_4 (sA (sA (sF xI 9 ((xI.2 9) + (1 : Int32))) 0 v2_4.toNatClampNeg a1) 8 v2_4.toNatClampNeg (-1 : Int32)) _ _ _ _ _ _ rfl hw hP hD hS (Nat.le_of_ble_eq_true rfl) (Nat.le_of_ble_eq_true rfl) d_I_addIncident_30

def wl_I_latestOf_7 (xI : St) (a1 : Int32) (post : Int32 → Unit → Prop) : Nat → Int32 → Prop
  | 0 => fun _ => False
  | n9 + 1 => fun v2_ => (v2_ < 0 → (post (-1 : Int32) ())) ∧ (¬ v2_ < 0 → (vp_in v2_ 20 ∧ ((¬ (xI.1 0 v2_.toNatClampNeg) = a1 → (∀ v2_23 : Int32, v2_23 = v2_ + (-1) → ((wl_I_latestOf_7 xI a1 post n9) v2_23))) ∧ ((xI.1 0 v2_.toNatClampNeg) = a1 → (post v2_ ())))))
def wp_I_latestOf (xI : St) (a1 : Int32) (post : Int32 → Unit → Prop) : Prop := ∀ v2_6 : Int32, v2_6 = ((xI.2 9) - (1 : Int32)) → (∃ k9 : Nat, wl_I_latestOf_7 xI a1 post k9 v2_6)
set_option maxHeartbeats 4000000 in
set_option maxRecDepth 100000 in
theorem c_I_latestOf (l : Launch) (dC : Nat → ClassId) (dI : Nat → Nat → Nat) (cI cZ cL : ClassId) (qI : Nat → Nat) (sz : Nat) (xI : St) (a1 : Int32) (post : Int32 → Unit → Prop) (hw : wp_I_latestOf xI a1 post) : Met l y_I_latestOf w_I_latestOf ({ frames := 0, cells := 0, slots := 0, locals := 0 } : Room) (va_Pc [.ref (qI 0), .int a1] (xP (dC, dI) vwCl [(cI, .int), (cZ, .boolean), (cL, .long)] (wd_I qI cI cZ cL xI) sz)) (va_Qi post (xB (dC, dI) vwCl [(cI, .int), (cZ, .boolean), (cL, .long)] (va_A (wd_I qI cI cZ cL xI) sz) (fun _ => (wd_I qI cI cZ cL xI))) (va_A (wd_I qI cI cZ cL xI) sz)) 0 0 (va_A (wd_I qI cI cZ cL xI) sz) := by
  refine x_ofI (cc := b_I_latestOf) (maxL := 3) (by decide) rfl (Nat.le_of_ble_eq_true rfl) (fun p e s m below meth c A Q hx hb hml hts hown hK hA hP hD hS hret ls hl => ?_)
  have hl : lv_has ls 3 [(0, .ref (qI 0)), (1, .int a1)] := hl
  have lp7 : ∀ (n7 : Nat) (v2_ : Int32) (H : Heap) (locs : List Loc) (ls : Array Slot), wl_I_latestOf_7 xI a1 post n7 v2_ → va_P (dC, dI) vwCl (wd_I qI cI cZ cL xI) H → va_D A (wd_I qI cI cZ cL xI) → va_S A s.heap H locs → lv_has ls 3 [(0, .ref (qI 0)), (1, .int a1), (2, .int v2_)] → W p l e (headSpec w_I_latestOf ({ frames := 0, cells := 0, slots := 0, locals := 0 } : Room)).room s m ([.ref (qI 0), .int a1] : List Value).toArray below meth c H locs 0 0 Q (F0 m 7 ls []) := by
    intro n7
    induction n7 with
    | zero => intro v2_ H locs ls hw; exact hw.elim
    | succ n7 ih7 =>
      intro v2_ H locs ls hw hP hD hS hl
      unfold wl_I_latestOf_7 at hw
      refine lv_iload_n hx hb d_I_latestOf_7 rfl (lv_at hl 2 rfl) ?_
      refine lv_if_lt (tgt := 29) hx hb d_I_latestOf_8 (by decide) (fun c8 => ?_) (fun c8 => ?_)
      · have hw := hw.1 c8
        refine lv_iconst (v := (-1 : Int32)) hx hb d_I_latestOf_29 (by decide) ?_
        exact hret (-1 : Int32) () _ _ _ _ _ _ rfl hw hP hD hS (Nat.le_of_ble_eq_true rfl) (Nat.le_of_ble_eq_true rfl) d_I_latestOf_30
      · have hw := hw.2 c8
        refine lv_aload_n hx hb d_I_latestOf_11 rfl (lv_at hl 0 rfl) ?_
        refine va_get (D := (dC, dI)) (ci := 0) (v := .ref (qI 1)) (C := "ReleaseRows$IncidentRows") (T := T_I) (N := 10) hx hb hts in_I hown hK hP 0 rfl rfl 0 (by decide) (hts _ k_102) (fun _ h9 => h9) rfl d_I_latestOf_12 ?_
        refine lv_iload_n hx hb d_I_latestOf_15 rfl (lv_at hl 2 rfl) ?_
        obtain ⟨h16, hw⟩ := hw
        refine va_iald hx hb hK hP 1 0 rfl rfl h16 d_I_latestOf_16 ?_
        refine lv_iload_n hx hb d_I_latestOf_17 rfl (lv_at hl 1 rfl) ?_
        refine lv_icmp_ne (tgt := 23) hx hb d_I_latestOf_18 (by decide) (fun c18 => ?_) (fun c18 => ?_)
        · have hw := hw.1 c18
          obtain ⟨v2_23, ev2_23⟩ : ∃ y : Int32, y = v2_ + (-1) := ⟨_, rfl⟩
          have hw := hw v2_23 ev2_23
          refine lv_iinc (v := v2_23) (lv' := [(2, .int v2_23), (0, .ref (qI 0)), (1, .int a1)]) hx hb d_I_latestOf_23 hl (k := 2) rfl (by rw [ev2_23]; rfl) (by decide) rfl (fun ls hl => ?_)
          refine lv_goto (tgt := 7) hx hb d_I_latestOf_26 (by decide) ?_
          exact ih7 v2_23 _ _ _ hw hP hD hS (lv_sub hl [1, 2, 0] rfl)
        · have hw := hw.2 c18
          refine lv_iload_n hx hb d_I_latestOf_21 rfl (lv_at hl 2 rfl) ?_
          exact hret v2_ () _ _ _ _ _ _ rfl hw hP hD hS (Nat.le_of_ble_eq_true rfl) (Nat.le_of_ble_eq_true rfl) d_I_latestOf_22
  unfold wp_I_latestOf at hw
  refine lv_aload_n hx hb d_I_latestOf_0 rfl (lv_at hl 0 rfl) ?_
  refine va_get (D := (dC, dI)) (ci := 0) (v := .int (xI.2 9)) (C := "ReleaseRows$IncidentRows") (T := T_I) (N := 10) hx hb hts in_I hown hK hP 0 rfl rfl 9 (by decide) (hts _ k_119) (fun _ h9 => h9) rfl d_I_latestOf_1 ?_
  refine lv_iconst (v := (1 : Int32)) hx hb d_I_latestOf_4 (by decide) ?_
  refine lv_isub hx hb d_I_latestOf_5 ?_
  refine lv_topi (fun v2_6 ev2_6 => ?_)
  have hw := hw v2_6 ev2_6
  refine lv_istore_n (lv' := [(2, .int v2_6), (0, .ref (qI 0)), (1, .int a1)]) hx hb d_I_latestOf_6 rfl hl (by decide) rfl (fun ls hl => ?_)
  obtain ⟨n9, hw⟩ := hw
  exact lp7 n9 v2_6 _ _ _ hw hP hD hS (lv_sub hl [1, 2, 0] rfl)

def wp_I_open (xI : St) (a1 : Int32) (post : St → Prop) : Prop := vp_in a1 20 ∧ (vp_in a1 20 ∧ (vp_in a1 20 ∧ (vp_in a1 20 ∧ (vp_in a1 20 ∧ (vp_in a1 20 ∧ (vp_in a1 20 ∧ (post (sA (sA (sA (sA (sA (sA xI 1 a1.toNatClampNeg (vp_nar .boolean (1 : Int32))) 2 a1.toNatClampNeg (vp_nar .boolean (0 : Int32))) 3 a1.toNatClampNeg (0 : Int32)) 4 a1.toNatClampNeg (0 : Int32)) 5 a1.toNatClampNeg (-1 : Int32)) 6 a1.toNatClampNeg (((sA (sA (sA (sA (sA xI 1 a1.toNatClampNeg (vp_nar .boolean (1 : Int32))) 2 a1.toNatClampNeg (vp_nar .boolean (0 : Int32))) 3 a1.toNatClampNeg (0 : Int32)) 4 a1.toNatClampNeg (0 : Int32)) 5 a1.toNatClampNeg (-1 : Int32)).1 6 a1.toNatClampNeg) + (1 : Int32))))))))))
set_option maxHeartbeats 4000000 in
set_option maxRecDepth 100000 in
theorem c_I_open (l : Launch) (dC : Nat → ClassId) (dI : Nat → Nat → Nat) (cI cZ cL : ClassId) (qI : Nat → Nat) (sz : Nat) (xI : St) (a1 : Int32) (post : St → Prop) (hw : wp_I_open xI a1 post) : Met l y_I_open w_I_open ({ frames := 0, cells := 0, slots := 0, locals := 0 } : Room) (va_Pc [.ref (qI 0), .int a1] (xP (dC, dI) vwCl [(cI, .int), (cZ, .boolean), (cL, .long)] (wd_I qI cI cZ cL xI) sz)) (va_Qv post (xB (dC, dI) vwCl [(cI, .int), (cZ, .boolean), (cL, .long)] (va_A (wd_I qI cI cZ cL xI) sz) (fun u => (wd_I qI cI cZ cL u))) (va_A (wd_I qI cI cZ cL xI) sz)) 0 0 (va_A (wd_I qI cI cZ cL xI) sz) := by
  refine x_ofV (cc := b_I_open) (maxL := 2) (by decide) rfl (Nat.le_of_ble_eq_true rfl) (fun p e s m below meth c A Q hx hb hml hts hown hin hK hA hP hD hS hret ls hl => ?_)
  have hl : lv_has ls 2 [(0, .ref (qI 0)), (1, .int a1)] := hl
  unfold wp_I_open at hw
  refine lv_aload_n hx hb d_I_open_0 rfl (lv_at hl 0 rfl) ?_
  refine va_get (D := (dC, dI)) (ci := 0) (v := .ref (qI 2)) (C := "ReleaseRows$IncidentRows") (T := T_I) (N := 10) hx hb hts in_I hown hK hP 0 rfl rfl 1 (by decide) (hts _ k_103) (fun _ h9 => h9) rfl d_I_open_1 ?_
  refine lv_iload_n hx hb d_I_open_4 rfl (lv_at hl 1 rfl) ?_
  refine lv_iconst (v := (1 : Int32)) hx hb d_I_open_5 (by decide) ?_
  obtain ⟨h6, hw⟩ := hw
  refine va_zast hx hb hK hP hD hS 2 1 rfl rfl h6 d_I_open_6 (fun H locs hP hD hS => ?_)
  have hP := wsP_I_I1 hP
  have hD := wsD_I_I1 hD
  refine lv_aload_n hx hb d_I_open_7 rfl (lv_at hl 0 rfl) ?_
  refine va_get (D := (dC, dI)) (ci := 0) (v := .ref (qI 3)) (C := "ReleaseRows$IncidentRows") (T := T_I) (N := 10) hx hb hts in_I hown hK hP 0 rfl rfl 2 (by decide) (hts _ k_105) (fun _ h9 => h9) rfl d_I_open_8 ?_
  refine lv_iload_n hx hb d_I_open_11 rfl (lv_at hl 1 rfl) ?_
  refine lv_iconst (v := (0 : Int32)) hx hb d_I_open_12 (by decide) ?_
  obtain ⟨h13, hw⟩ := hw
  refine va_zast hx hb hK hP hD hS 3 1 rfl rfl h13 d_I_open_13 (fun H locs hP hD hS => ?_)
  have hP := wsP_I_I2 hP
  have hD := wsD_I_I2 hD
  refine lv_aload_n hx hb d_I_open_14 rfl (lv_at hl 0 rfl) ?_
  refine va_get (D := (dC, dI)) (ci := 0) (v := .ref (qI 4)) (C := "ReleaseRows$IncidentRows") (T := T_I) (N := 10) hx hb hts in_I hown hK hP 0 rfl rfl 3 (by decide) (hts _ k_107) (fun _ h9 => h9) rfl d_I_open_15 ?_
  refine lv_iload_n hx hb d_I_open_18 rfl (lv_at hl 1 rfl) ?_
  refine lv_iconst (v := (0 : Int32)) hx hb d_I_open_19 (by decide) ?_
  obtain ⟨h20, hw⟩ := hw
  refine va_iast hx hb hK hP hD hS 4 0 rfl rfl h20 d_I_open_20 (fun H locs hP hD hS => ?_)
  have hP := wsP_I_I3 hP
  have hD := wsD_I_I3 hD
  refine lv_aload_n hx hb d_I_open_21 rfl (lv_at hl 0 rfl) ?_
  refine va_get (D := (dC, dI)) (ci := 0) (v := .ref (qI 5)) (C := "ReleaseRows$IncidentRows") (T := T_I) (N := 10) hx hb hts in_I hown hK hP 0 rfl rfl 4 (by decide) (hts _ k_109) (fun _ h9 => h9) rfl d_I_open_22 ?_
  refine lv_iload_n hx hb d_I_open_25 rfl (lv_at hl 1 rfl) ?_
  refine lv_iconst (v := (0 : Int32)) hx hb d_I_open_26 (by decide) ?_
  obtain ⟨h27, hw⟩ := hw
  refine va_iast hx hb hK hP hD hS 5 0 rfl rfl h27 d_I_open_27 (fun H locs hP hD hS => ?_)
  have hP := wsP_I_I4 hP
  have hD := wsD_I_I4 hD
  refine lv_aload_n hx hb d_I_open_28 rfl (lv_at hl 0 rfl) ?_
  refine va_get (D := (dC, dI)) (ci := 0) (v := .ref (qI 6)) (C := "ReleaseRows$IncidentRows") (T := T_I) (N := 10) hx hb hts in_I hown hK hP 0 rfl rfl 5 (by decide) (hts _ k_111) (fun _ h9 => h9) rfl d_I_open_29 ?_
  refine lv_iload_n hx hb d_I_open_32 rfl (lv_at hl 1 rfl) ?_
  refine lv_iconst (v := (-1 : Int32)) hx hb d_I_open_33 (by decide) ?_
  obtain ⟨h34, hw⟩ := hw
  refine va_iast hx hb hK hP hD hS 6 0 rfl rfl h34 d_I_open_34 (fun H locs hP hD hS => ?_)
  have hP := wsP_I_I5 hP
  have hD := wsD_I_I5 hD
  refine lv_aload_n hx hb d_I_open_35 rfl (lv_at hl 0 rfl) ?_
  refine va_get (D := (dC, dI)) (ci := 0) (v := .ref (qI 7)) (C := "ReleaseRows$IncidentRows") (T := T_I) (N := 10) hx hb hts in_I hown hK hP 0 rfl rfl 6 (by decide) (hts _ k_113) (fun _ h9 => h9) rfl d_I_open_36 ?_
  refine lv_iload_n hx hb d_I_open_39 rfl (lv_at hl 1 rfl) ?_
  refine lv_dup2_11 hx hb d_I_open_40 rfl rfl ?_
  obtain ⟨h41, hw⟩ := hw
  refine va_iald hx hb hK hP 7 0 rfl rfl h41 d_I_open_41 ?_
  refine lv_iconst (v := (1 : Int32)) hx hb d_I_open_42 (by decide) ?_
  refine lv_iadd hx hb d_I_open_43 ?_
  obtain ⟨h44, hw⟩ := hw
  refine va_iast hx hb hK hP hD hS 7 0 rfl rfl h44 d_I_open_44 (fun H locs hP hD hS => ?_)
  have hP := wsP_I_I6 hP
  have hD := wsD_I_I6 hD
  exact hret (sA (sA (sA (sA (sA (sA xI 1 a1.toNatClampNeg (vp_nar .boolean (1 : Int32))) 2 a1.toNatClampNeg (vp_nar .boolean (0 : Int32))) 3 a1.toNatClampNeg (0 : Int32)) 4 a1.toNatClampNeg (0 : Int32)) 5 a1.toNatClampNeg (-1 : Int32)) 6 a1.toNatClampNeg (((sA (sA (sA (sA (sA xI 1 a1.toNatClampNeg (vp_nar .boolean (1 : Int32))) 2 a1.toNatClampNeg (vp_nar .boolean (0 : Int32))) 3 a1.toNatClampNeg (0 : Int32)) 4 a1.toNatClampNeg (0 : Int32)) 5 a1.toNatClampNeg (-1 : Int32)).1 6 a1.toNatClampNeg) + (1 : Int32))) _ _ _ _ _ _ hw hP hD hS (Nat.le_of_ble_eq_true rfl) (Nat.le_of_ble_eq_true rfl) d_I_open_45

def wp_I_close (xI : St) (a1 : Int32) (a2 : Int32) (post : St → Prop) : Prop := vp_in a1 20 ∧ (vp_in a1 20 ∧ (vp_in a1 20 ∧ (vp_in a1 20 ∧ (post (sA (sA (sA xI 1 a1.toNatClampNeg (vp_nar .boolean (0 : Int32))) 7 a1.toNatClampNeg (((sA xI 1 a1.toNatClampNeg (vp_nar .boolean (0 : Int32))).1 7 a1.toNatClampNeg) + (1 : Int32))) 8 a1.toNatClampNeg a2)))))
set_option maxHeartbeats 4000000 in
set_option maxRecDepth 100000 in
theorem c_I_close (l : Launch) (dC : Nat → ClassId) (dI : Nat → Nat → Nat) (cI cZ cL : ClassId) (qI : Nat → Nat) (sz : Nat) (xI : St) (a1 : Int32) (a2 : Int32) (post : St → Prop) (hw : wp_I_close xI a1 a2 post) : Met l y_I_close w_I_close ({ frames := 0, cells := 0, slots := 0, locals := 0 } : Room) (va_Pc [.ref (qI 0), .int a1, .int a2] (xP (dC, dI) vwCl [(cI, .int), (cZ, .boolean), (cL, .long)] (wd_I qI cI cZ cL xI) sz)) (va_Qv post (xB (dC, dI) vwCl [(cI, .int), (cZ, .boolean), (cL, .long)] (va_A (wd_I qI cI cZ cL xI) sz) (fun u => (wd_I qI cI cZ cL u))) (va_A (wd_I qI cI cZ cL xI) sz)) 0 0 (va_A (wd_I qI cI cZ cL xI) sz) := by
  refine x_ofV (cc := b_I_close) (maxL := 3) (by decide) rfl (Nat.le_of_ble_eq_true rfl) (fun p e s m below meth c A Q hx hb hml hts hown hin hK hA hP hD hS hret ls hl => ?_)
  have hl : lv_has ls 3 [(0, .ref (qI 0)), (1, .int a1), (2, .int a2)] := hl
  unfold wp_I_close at hw
  refine lv_aload_n hx hb d_I_close_0 rfl (lv_at hl 0 rfl) ?_
  refine va_get (D := (dC, dI)) (ci := 0) (v := .ref (qI 2)) (C := "ReleaseRows$IncidentRows") (T := T_I) (N := 10) hx hb hts in_I hown hK hP 0 rfl rfl 1 (by decide) (hts _ k_103) (fun _ h9 => h9) rfl d_I_close_1 ?_
  refine lv_iload_n hx hb d_I_close_4 rfl (lv_at hl 1 rfl) ?_
  refine lv_iconst (v := (0 : Int32)) hx hb d_I_close_5 (by decide) ?_
  obtain ⟨h6, hw⟩ := hw
  refine va_zast hx hb hK hP hD hS 2 1 rfl rfl h6 d_I_close_6 (fun H locs hP hD hS => ?_)
  have hP := wsP_I_I1 hP
  have hD := wsD_I_I1 hD
  refine lv_aload_n hx hb d_I_close_7 rfl (lv_at hl 0 rfl) ?_
  refine va_get (D := (dC, dI)) (ci := 0) (v := .ref (qI 8)) (C := "ReleaseRows$IncidentRows") (T := T_I) (N := 10) hx hb hts in_I hown hK hP 0 rfl rfl 7 (by decide) (hts _ k_115) (fun _ h9 => h9) rfl d_I_close_8 ?_
  refine lv_iload_n hx hb d_I_close_11 rfl (lv_at hl 1 rfl) ?_
  refine lv_dup2_11 hx hb d_I_close_12 rfl rfl ?_
  obtain ⟨h13, hw⟩ := hw
  refine va_iald hx hb hK hP 8 0 rfl rfl h13 d_I_close_13 ?_
  refine lv_iconst (v := (1 : Int32)) hx hb d_I_close_14 (by decide) ?_
  refine lv_iadd hx hb d_I_close_15 ?_
  obtain ⟨h16, hw⟩ := hw
  refine va_iast hx hb hK hP hD hS 8 0 rfl rfl h16 d_I_close_16 (fun H locs hP hD hS => ?_)
  have hP := wsP_I_I7 hP
  have hD := wsD_I_I7 hD
  refine lv_aload_n hx hb d_I_close_17 rfl (lv_at hl 0 rfl) ?_
  refine va_get (D := (dC, dI)) (ci := 0) (v := .ref (qI 9)) (C := "ReleaseRows$IncidentRows") (T := T_I) (N := 10) hx hb hts in_I hown hK hP 0 rfl rfl 8 (by decide) (hts _ k_117) (fun _ h9 => h9) rfl d_I_close_18 ?_
  refine lv_iload_n hx hb d_I_close_21 rfl (lv_at hl 1 rfl) ?_
  refine lv_iload_n hx hb d_I_close_22 rfl (lv_at hl 2 rfl) ?_
  obtain ⟨h23, hw⟩ := hw
  refine va_iast hx hb hK hP hD hS 9 0 rfl rfl h23 d_I_close_23 (fun H locs hP hD hS => ?_)
  have hP := wsP_I_I8 hP
  have hD := wsD_I_I8 hD
  exact hret (sA (sA (sA xI 1 a1.toNatClampNeg (vp_nar .boolean (0 : Int32))) 7 a1.toNatClampNeg (((sA xI 1 a1.toNatClampNeg (vp_nar .boolean (0 : Int32))).1 7 a1.toNatClampNeg) + (1 : Int32))) 8 a1.toNatClampNeg a2) _ _ _ _ _ _ hw hP hD hS (Nat.le_of_ble_eq_true rfl) (Nat.le_of_ble_eq_true rfl) d_I_close_24

def wj_I_mayClose_55 (xI : St) (a1 : Int32) (a2 : Int32) (post : Int32 → Unit → Prop)  : Prop := post (0 : Int32) ()
def wp_I_mayClose (xI : St) (a1 : Int32) (a2 : Int32) (post : Int32 → Unit → Prop) : Prop := vp_in a1 20 ∧ (((xI.1 1 a1.toNatClampNeg) = 0 → (wj_I_mayClose_55 xI a1 a2 post )) ∧ (¬ (xI.1 1 a1.toNatClampNeg) = 0 → (vp_in a1 20 ∧ (((xI.1 2 a1.toNatClampNeg) = 0 → (wj_I_mayClose_55 xI a1 a2 post )) ∧ (¬ (xI.1 2 a1.toNatClampNeg) = 0 → (vp_in a1 20 ∧ ((¬ (xI.1 4 a1.toNatClampNeg) = 0 → (wj_I_mayClose_55 xI a1 a2 post )) ∧ ((xI.1 4 a1.toNatClampNeg) = 0 → (vp_in a1 20 ∧ ((¬ ((xI.1 3 a1.toNatClampNeg) &&& (7 : Int32)) = (7 : Int32) → (wj_I_mayClose_55 xI a1 a2 post )) ∧ (((xI.1 3 a1.toNatClampNeg) &&& (7 : Int32)) = (7 : Int32) → (vp_in a1 20 ∧ ((a2 < (xI.1 5 a1.toNatClampNeg) → (wj_I_mayClose_55 xI a1 a2 post )) ∧ (¬ a2 < (xI.1 5 a1.toNatClampNeg) → (post (1 : Int32) ())))))))))))))))
set_option maxHeartbeats 4000000 in
set_option maxRecDepth 100000 in
theorem c_I_mayClose (l : Launch) (dC : Nat → ClassId) (dI : Nat → Nat → Nat) (cI cZ cL : ClassId) (qI : Nat → Nat) (sz : Nat) (xI : St) (a1 : Int32) (a2 : Int32) (post : Int32 → Unit → Prop) (hw : wp_I_mayClose xI a1 a2 post) : Met l y_I_mayClose w_I_mayClose ({ frames := 0, cells := 0, slots := 0, locals := 0 } : Room) (va_Pc [.ref (qI 0), .int a1, .int a2] (xP (dC, dI) vwCl [(cI, .int), (cZ, .boolean), (cL, .long)] (wd_I qI cI cZ cL xI) sz)) (va_Qi post (xB (dC, dI) vwCl [(cI, .int), (cZ, .boolean), (cL, .long)] (va_A (wd_I qI cI cZ cL xI) sz) (fun _ => (wd_I qI cI cZ cL xI))) (va_A (wd_I qI cI cZ cL xI) sz)) 0 0 (va_A (wd_I qI cI cZ cL xI) sz) := by
  refine x_ofI (cc := b_I_mayClose) (maxL := 3) (by decide) rfl (Nat.le_of_ble_eq_true rfl) (fun p e s m below meth c A Q hx hb hml hts hown hK hA hP hD hS hret ls hl => ?_)
  have hl : lv_has ls 3 [(0, .ref (qI 0)), (1, .int a1), (2, .int a2)] := hl
  have jn55 : ∀ (H : Heap) (locs : List Loc) (ls : Array Slot), wj_I_mayClose_55 xI a1 a2 post  → va_P (dC, dI) vwCl (wd_I qI cI cZ cL xI) H → va_D A (wd_I qI cI cZ cL xI) → va_S A s.heap H locs → lv_has ls 3 [] → W p l e (headSpec w_I_mayClose ({ frames := 0, cells := 0, slots := 0, locals := 0 } : Room)).room s m ([.ref (qI 0), .int a1, .int a2] : List Value).toArray below meth c H locs 0 0 Q (F0 m 55 ls []) := by
    intro  H locs ls hw hP hD hS hl
    unfold wj_I_mayClose_55 at hw
    refine lv_iconst (v := (0 : Int32)) hx hb d_I_mayClose_55 (by decide) ?_
    exact hret (0 : Int32) () _ _ _ _ _ _ (by decide) hw hP hD hS (Nat.le_of_ble_eq_true rfl) (Nat.le_of_ble_eq_true rfl) d_I_mayClose_56
  unfold wp_I_mayClose at hw
  refine lv_aload_n hx hb d_I_mayClose_0 rfl (lv_at hl 0 rfl) ?_
  refine va_get (D := (dC, dI)) (ci := 0) (v := .ref (qI 2)) (C := "ReleaseRows$IncidentRows") (T := T_I) (N := 10) hx hb hts in_I hown hK hP 0 rfl rfl 1 (by decide) (hts _ k_103) (fun _ h9 => h9) rfl d_I_mayClose_1 ?_
  refine lv_iload_n hx hb d_I_mayClose_4 rfl (lv_at hl 1 rfl) ?_
  obtain ⟨h5, hw⟩ := hw
  refine va_zald hx hb hK hP 2 1 rfl rfl h5 d_I_mayClose_5 ?_
  refine lv_if_eq (tgt := 55) hx hb d_I_mayClose_6 (by decide) (fun c6 => ?_) (fun c6 => ?_)
  · have hw := hw.1 c6
    exact jn55 _ _ _ hw hP hD hS (lv_sub hl [] rfl)
  · have hw := hw.2 c6
    refine lv_aload_n hx hb d_I_mayClose_9 rfl (lv_at hl 0 rfl) ?_
    refine va_get (D := (dC, dI)) (ci := 0) (v := .ref (qI 3)) (C := "ReleaseRows$IncidentRows") (T := T_I) (N := 10) hx hb hts in_I hown hK hP 0 rfl rfl 2 (by decide) (hts _ k_105) (fun _ h9 => h9) rfl d_I_mayClose_10 ?_
    refine lv_iload_n hx hb d_I_mayClose_13 rfl (lv_at hl 1 rfl) ?_
    obtain ⟨h14, hw⟩ := hw
    refine va_zald hx hb hK hP 3 1 rfl rfl h14 d_I_mayClose_14 ?_
    refine lv_if_eq (tgt := 55) hx hb d_I_mayClose_15 (by decide) (fun c15 => ?_) (fun c15 => ?_)
    · have hw := hw.1 c15
      exact jn55 _ _ _ hw hP hD hS (lv_sub hl [] rfl)
    · have hw := hw.2 c15
      refine lv_aload_n hx hb d_I_mayClose_18 rfl (lv_at hl 0 rfl) ?_
      refine va_get (D := (dC, dI)) (ci := 0) (v := .ref (qI 5)) (C := "ReleaseRows$IncidentRows") (T := T_I) (N := 10) hx hb hts in_I hown hK hP 0 rfl rfl 4 (by decide) (hts _ k_109) (fun _ h9 => h9) rfl d_I_mayClose_19 ?_
      refine lv_iload_n hx hb d_I_mayClose_22 rfl (lv_at hl 1 rfl) ?_
      obtain ⟨h23, hw⟩ := hw
      refine va_iald hx hb hK hP 5 0 rfl rfl h23 d_I_mayClose_23 ?_
      refine lv_if_ne (tgt := 55) hx hb d_I_mayClose_24 (by decide) (fun c24 => ?_) (fun c24 => ?_)
      · have hw := hw.1 c24
        exact jn55 _ _ _ hw hP hD hS (lv_sub hl [] rfl)
      · have hw := hw.2 c24
        refine lv_aload_n hx hb d_I_mayClose_27 rfl (lv_at hl 0 rfl) ?_
        refine va_get (D := (dC, dI)) (ci := 0) (v := .ref (qI 4)) (C := "ReleaseRows$IncidentRows") (T := T_I) (N := 10) hx hb hts in_I hown hK hP 0 rfl rfl 3 (by decide) (hts _ k_107) (fun _ h9 => h9) rfl d_I_mayClose_28 ?_
        refine lv_iload_n hx hb d_I_mayClose_31 rfl (lv_at hl 1 rfl) ?_
        obtain ⟨h32, hw⟩ := hw
        refine va_iald hx hb hK hP 4 0 rfl rfl h32 d_I_mayClose_32 ?_
        refine lv_bipush (v := (7 : Int32)) hx hb d_I_mayClose_33 (by decide) ?_
        refine lv_iand hx hb d_I_mayClose_35 ?_
        refine lv_bipush (v := (7 : Int32)) hx hb d_I_mayClose_36 (by decide) ?_
        refine lv_icmp_ne (tgt := 55) hx hb d_I_mayClose_38 (by decide) (fun c38 => ?_) (fun c38 => ?_)
        · have hw := hw.1 c38
          exact jn55 _ _ _ hw hP hD hS (lv_sub hl [] rfl)
        · have hw := hw.2 c38
          refine lv_iload_n hx hb d_I_mayClose_41 rfl (lv_at hl 2 rfl) ?_
          refine lv_aload_n hx hb d_I_mayClose_42 rfl (lv_at hl 0 rfl) ?_
          refine va_get (D := (dC, dI)) (ci := 0) (v := .ref (qI 6)) (C := "ReleaseRows$IncidentRows") (T := T_I) (N := 10) hx hb hts in_I hown hK hP 0 rfl rfl 5 (by decide) (hts _ k_111) (fun _ h9 => h9) rfl d_I_mayClose_43 ?_
          refine lv_iload_n hx hb d_I_mayClose_46 rfl (lv_at hl 1 rfl) ?_
          obtain ⟨h47, hw⟩ := hw
          refine va_iald hx hb hK hP 6 0 rfl rfl h47 d_I_mayClose_47 ?_
          refine lv_icmp_lt (tgt := 55) hx hb d_I_mayClose_48 (by decide) (fun c48 => ?_) (fun c48 => ?_)
          · have hw := hw.1 c48
            exact jn55 _ _ _ hw hP hD hS (lv_sub hl [] rfl)
          · have hw := hw.2 c48
            refine lv_iconst (v := (1 : Int32)) hx hb d_I_mayClose_51 (by decide) ?_
            refine lv_goto (tgt := 56) hx hb d_I_mayClose_52 (by decide) ?_
            exact hret (1 : Int32) () _ _ _ _ _ _ (by decide) hw hP hD hS (Nat.le_of_ble_eq_true rfl) (Nat.le_of_ble_eq_true rfl) d_I_mayClose_56

def wj_I_isOpenPastWatch_33 (xI : St) (a1 : Int32) (a2 : Int32) (post : Int32 → Unit → Prop)  : Prop := post (0 : Int32) ()
def wp_I_isOpenPastWatch (xI : St) (a1 : Int32) (a2 : Int32) (post : Int32 → Unit → Prop) : Prop := vp_in a1 20 ∧ (((xI.1 1 a1.toNatClampNeg) = 0 → (wj_I_isOpenPastWatch_33 xI a1 a2 post )) ∧ (¬ (xI.1 1 a1.toNatClampNeg) = 0 → (vp_in a1 20 ∧ (((xI.1 5 a1.toNatClampNeg) = (-1 : Int32) → (wj_I_isOpenPastWatch_33 xI a1 a2 post )) ∧ (¬ (xI.1 5 a1.toNatClampNeg) = (-1 : Int32) → (vp_in a1 20 ∧ ((a2 < (xI.1 5 a1.toNatClampNeg) → (wj_I_isOpenPastWatch_33 xI a1 a2 post )) ∧ (¬ a2 < (xI.1 5 a1.toNatClampNeg) → (post (1 : Int32) ())))))))))
set_option maxHeartbeats 4000000 in
set_option maxRecDepth 100000 in
theorem c_I_isOpenPastWatch (l : Launch) (dC : Nat → ClassId) (dI : Nat → Nat → Nat) (cI cZ cL : ClassId) (qI : Nat → Nat) (sz : Nat) (xI : St) (a1 : Int32) (a2 : Int32) (post : Int32 → Unit → Prop) (hw : wp_I_isOpenPastWatch xI a1 a2 post) : Met l y_I_isOpenPastWatch w_I_isOpenPastWatch ({ frames := 0, cells := 0, slots := 0, locals := 0 } : Room) (va_Pc [.ref (qI 0), .int a1, .int a2] (xP (dC, dI) vwCl [(cI, .int), (cZ, .boolean), (cL, .long)] (wd_I qI cI cZ cL xI) sz)) (va_Qi post (xB (dC, dI) vwCl [(cI, .int), (cZ, .boolean), (cL, .long)] (va_A (wd_I qI cI cZ cL xI) sz) (fun _ => (wd_I qI cI cZ cL xI))) (va_A (wd_I qI cI cZ cL xI) sz)) 0 0 (va_A (wd_I qI cI cZ cL xI) sz) := by
  refine x_ofI (cc := b_I_isOpenPastWatch) (maxL := 3) (by decide) rfl (Nat.le_of_ble_eq_true rfl) (fun p e s m below meth c A Q hx hb hml hts hown hK hA hP hD hS hret ls hl => ?_)
  have hl : lv_has ls 3 [(0, .ref (qI 0)), (1, .int a1), (2, .int a2)] := hl
  have jn33 : ∀ (H : Heap) (locs : List Loc) (ls : Array Slot), wj_I_isOpenPastWatch_33 xI a1 a2 post  → va_P (dC, dI) vwCl (wd_I qI cI cZ cL xI) H → va_D A (wd_I qI cI cZ cL xI) → va_S A s.heap H locs → lv_has ls 3 [] → W p l e (headSpec w_I_isOpenPastWatch ({ frames := 0, cells := 0, slots := 0, locals := 0 } : Room)).room s m ([.ref (qI 0), .int a1, .int a2] : List Value).toArray below meth c H locs 0 0 Q (F0 m 33 ls []) := by
    intro  H locs ls hw hP hD hS hl
    unfold wj_I_isOpenPastWatch_33 at hw
    refine lv_iconst (v := (0 : Int32)) hx hb d_I_isOpenPastWatch_33 (by decide) ?_
    exact hret (0 : Int32) () _ _ _ _ _ _ (by decide) hw hP hD hS (Nat.le_of_ble_eq_true rfl) (Nat.le_of_ble_eq_true rfl) d_I_isOpenPastWatch_34
  unfold wp_I_isOpenPastWatch at hw
  refine lv_aload_n hx hb d_I_isOpenPastWatch_0 rfl (lv_at hl 0 rfl) ?_
  refine va_get (D := (dC, dI)) (ci := 0) (v := .ref (qI 2)) (C := "ReleaseRows$IncidentRows") (T := T_I) (N := 10) hx hb hts in_I hown hK hP 0 rfl rfl 1 (by decide) (hts _ k_103) (fun _ h9 => h9) rfl d_I_isOpenPastWatch_1 ?_
  refine lv_iload_n hx hb d_I_isOpenPastWatch_4 rfl (lv_at hl 1 rfl) ?_
  obtain ⟨h5, hw⟩ := hw
  refine va_zald hx hb hK hP 2 1 rfl rfl h5 d_I_isOpenPastWatch_5 ?_
  refine lv_if_eq (tgt := 33) hx hb d_I_isOpenPastWatch_6 (by decide) (fun c6 => ?_) (fun c6 => ?_)
  · have hw := hw.1 c6
    exact jn33 _ _ _ hw hP hD hS (lv_sub hl [] rfl)
  · have hw := hw.2 c6
    refine lv_aload_n hx hb d_I_isOpenPastWatch_9 rfl (lv_at hl 0 rfl) ?_
    refine va_get (D := (dC, dI)) (ci := 0) (v := .ref (qI 6)) (C := "ReleaseRows$IncidentRows") (T := T_I) (N := 10) hx hb hts in_I hown hK hP 0 rfl rfl 5 (by decide) (hts _ k_111) (fun _ h9 => h9) rfl d_I_isOpenPastWatch_10 ?_
    refine lv_iload_n hx hb d_I_isOpenPastWatch_13 rfl (lv_at hl 1 rfl) ?_
    obtain ⟨h14, hw⟩ := hw
    refine va_iald hx hb hK hP 6 0 rfl rfl h14 d_I_isOpenPastWatch_14 ?_
    refine lv_iconst (v := (-1 : Int32)) hx hb d_I_isOpenPastWatch_15 (by decide) ?_
    refine lv_icmp_eq (tgt := 33) hx hb d_I_isOpenPastWatch_16 (by decide) (fun c16 => ?_) (fun c16 => ?_)
    · have hw := hw.1 c16
      exact jn33 _ _ _ hw hP hD hS (lv_sub hl [] rfl)
    · have hw := hw.2 c16
      refine lv_iload_n hx hb d_I_isOpenPastWatch_19 rfl (lv_at hl 2 rfl) ?_
      refine lv_aload_n hx hb d_I_isOpenPastWatch_20 rfl (lv_at hl 0 rfl) ?_
      refine va_get (D := (dC, dI)) (ci := 0) (v := .ref (qI 6)) (C := "ReleaseRows$IncidentRows") (T := T_I) (N := 10) hx hb hts in_I hown hK hP 0 rfl rfl 5 (by decide) (hts _ k_111) (fun _ h9 => h9) rfl d_I_isOpenPastWatch_21 ?_
      refine lv_iload_n hx hb d_I_isOpenPastWatch_24 rfl (lv_at hl 1 rfl) ?_
      obtain ⟨h25, hw⟩ := hw
      refine va_iald hx hb hK hP 6 0 rfl rfl h25 d_I_isOpenPastWatch_25 ?_
      refine lv_icmp_lt (tgt := 33) hx hb d_I_isOpenPastWatch_26 (by decide) (fun c26 => ?_) (fun c26 => ?_)
      · have hw := hw.1 c26
        exact jn33 _ _ _ hw hP hD hS (lv_sub hl [] rfl)
      · have hw := hw.2 c26
        refine lv_iconst (v := (1 : Int32)) hx hb d_I_isOpenPastWatch_29 (by decide) ?_
        refine lv_goto (tgt := 34) hx hb d_I_isOpenPastWatch_30 (by decide) ?_
        exact hret (1 : Int32) () _ _ _ _ _ _ (by decide) hw hP hD hS (Nat.le_of_ble_eq_true rfl) (Nat.le_of_ble_eq_true rfl) d_I_isOpenPastWatch_34

def wj_I_countOpen_24 (xI : St) (post : Int32 → Unit → Prop) (rec4 : Int32 → Int32 → Prop) (v1_ : Int32) (v2_ : Int32) : Prop := ∀ v2_24 : Int32, v2_24 = v2_ + 1 → (rec4 v1_ v2_24)
def wl_I_countOpen_4 (xI : St) (post : Int32 → Unit → Prop) : Nat → Int32 → Int32 → Prop
  | 0 => fun _ _ => False
  | n9 + 1 => fun v1_ v2_ => ((xI.2 9) ≤ v2_ → (post v1_ ())) ∧ (¬ (xI.2 9) ≤ v2_ → (vp_in v2_ 20 ∧ (((xI.1 1 v2_.toNatClampNeg) = 0 → (wj_I_countOpen_24 xI post (wl_I_countOpen_4 xI post n9) v1_ v2_)) ∧ (¬ (xI.1 1 v2_.toNatClampNeg) = 0 → (∀ v1_21 : Int32, v1_21 = v1_ + 1 → (wj_I_countOpen_24 xI post (wl_I_countOpen_4 xI post n9) v1_21 v2_))))))
def wp_I_countOpen (xI : St) (post : Int32 → Unit → Prop) : Prop := ∃ k9 : Nat, wl_I_countOpen_4 xI post k9 (0 : Int32) (0 : Int32)
set_option maxHeartbeats 4000000 in
set_option maxRecDepth 100000 in
theorem c_I_countOpen (l : Launch) (dC : Nat → ClassId) (dI : Nat → Nat → Nat) (cI cZ cL : ClassId) (qI : Nat → Nat) (sz : Nat) (xI : St) (post : Int32 → Unit → Prop) (hw : wp_I_countOpen xI post) : Met l y_I_countOpen w_I_countOpen ({ frames := 0, cells := 0, slots := 0, locals := 0 } : Room) (va_Pc [.ref (qI 0)] (xP (dC, dI) vwCl [(cI, .int), (cZ, .boolean), (cL, .long)] (wd_I qI cI cZ cL xI) sz)) (va_Qi post (xB (dC, dI) vwCl [(cI, .int), (cZ, .boolean), (cL, .long)] (va_A (wd_I qI cI cZ cL xI) sz) (fun _ => (wd_I qI cI cZ cL xI))) (va_A (wd_I qI cI cZ cL xI) sz)) 0 0 (va_A (wd_I qI cI cZ cL xI) sz) := by
  refine x_ofI (cc := b_I_countOpen) (maxL := 3) (by decide) rfl (Nat.le_of_ble_eq_true rfl) (fun p e s m below meth c A Q hx hb hml hts hown hK hA hP hD hS hret ls hl => ?_)
  have hl : lv_has ls 3 [(0, .ref (qI 0))] := hl
  have lp4 : ∀ (n4 : Nat) (v1_ : Int32) (v2_ : Int32) (H : Heap) (locs : List Loc) (ls : Array Slot), wl_I_countOpen_4 xI post n4 v1_ v2_ → va_P (dC, dI) vwCl (wd_I qI cI cZ cL xI) H → va_D A (wd_I qI cI cZ cL xI) → va_S A s.heap H locs → lv_has ls 3 [(0, .ref (qI 0)), (1, .int v1_), (2, .int v2_)] → W p l e (headSpec w_I_countOpen ({ frames := 0, cells := 0, slots := 0, locals := 0 } : Room)).room s m ([.ref (qI 0)] : List Value).toArray below meth c H locs 0 0 Q (F0 m 4 ls []) := by
    intro n4
    induction n4 with
    | zero => intro v1_ v2_ H locs ls hw; exact hw.elim
    | succ n4 ih4 =>
      have jn24 : ∀ (v1_ : Int32) (v2_ : Int32) (H : Heap) (locs : List Loc) (ls : Array Slot), wj_I_countOpen_24 xI post (wl_I_countOpen_4 xI post n4) v1_ v2_ → va_P (dC, dI) vwCl (wd_I qI cI cZ cL xI) H → va_D A (wd_I qI cI cZ cL xI) → va_S A s.heap H locs → lv_has ls 3 [(0, .ref (qI 0)), (1, .int v1_), (2, .int v2_)] → W p l e (headSpec w_I_countOpen ({ frames := 0, cells := 0, slots := 0, locals := 0 } : Room)).room s m ([.ref (qI 0)] : List Value).toArray below meth c H locs 0 0 Q (F0 m 24 ls []) := by
        intro v1_ v2_ H locs ls hw hP hD hS hl
        unfold wj_I_countOpen_24 at hw
        obtain ⟨v2_24, ev2_24⟩ : ∃ y : Int32, y = v2_ + 1 := ⟨_, rfl⟩
        have hw := hw v2_24 ev2_24
        refine lv_iinc (v := v2_24) (lv' := [(2, .int v2_24), (0, .ref (qI 0)), (1, .int v1_)]) hx hb d_I_countOpen_24 hl (k := 2) rfl (by rw [ev2_24]; rfl) (by decide) rfl (fun ls hl => ?_)
        refine lv_goto (tgt := 4) hx hb d_I_countOpen_27 (by decide) ?_
        exact ih4 v1_ v2_24 _ _ _ hw hP hD hS (lv_sub hl [1, 2, 0] rfl)
      intro v1_ v2_ H locs ls hw hP hD hS hl
      unfold wl_I_countOpen_4 at hw
      refine lv_iload_n hx hb d_I_countOpen_4 rfl (lv_at hl 2 rfl) ?_
      refine lv_aload_n hx hb d_I_countOpen_5 rfl (lv_at hl 0 rfl) ?_
      refine va_get (D := (dC, dI)) (ci := 0) (v := .int (xI.2 9)) (C := "ReleaseRows$IncidentRows") (T := T_I) (N := 10) hx hb hts in_I hown hK hP 0 rfl rfl 9 (by decide) (hts _ k_119) (fun _ h9 => h9) rfl d_I_countOpen_6 ?_
      refine lv_icmp_ge (tgt := 30) hx hb d_I_countOpen_9 (by decide) (fun c9 => ?_) (fun c9 => ?_)
      · have hw := hw.1 c9
        refine lv_iload_n hx hb d_I_countOpen_30 rfl (lv_at hl 1 rfl) ?_
        exact hret v1_ () _ _ _ _ _ _ rfl hw hP hD hS (Nat.le_of_ble_eq_true rfl) (Nat.le_of_ble_eq_true rfl) d_I_countOpen_31
      · have hw := hw.2 c9
        refine lv_aload_n hx hb d_I_countOpen_12 rfl (lv_at hl 0 rfl) ?_
        refine va_get (D := (dC, dI)) (ci := 0) (v := .ref (qI 2)) (C := "ReleaseRows$IncidentRows") (T := T_I) (N := 10) hx hb hts in_I hown hK hP 0 rfl rfl 1 (by decide) (hts _ k_103) (fun _ h9 => h9) rfl d_I_countOpen_13 ?_
        refine lv_iload_n hx hb d_I_countOpen_16 rfl (lv_at hl 2 rfl) ?_
        obtain ⟨h17, hw⟩ := hw
        refine va_zald hx hb hK hP 2 1 rfl rfl h17 d_I_countOpen_17 ?_
        refine lv_if_eq (tgt := 24) hx hb d_I_countOpen_18 (by decide) (fun c18 => ?_) (fun c18 => ?_)
        · have hw := hw.1 c18
          exact jn24 v1_ v2_ _ _ _ hw hP hD hS hl
        · have hw := hw.2 c18
          obtain ⟨v1_21, ev1_21⟩ : ∃ y : Int32, y = v1_ + 1 := ⟨_, rfl⟩
          have hw := hw v1_21 ev1_21
          refine lv_iinc (v := v1_21) (lv' := [(1, .int v1_21), (0, .ref (qI 0)), (2, .int v2_)]) hx hb d_I_countOpen_21 hl (k := 1) rfl (by rw [ev1_21]; rfl) (by decide) rfl (fun ls hl => ?_)
          exact jn24 v1_21 v2_ _ _ _ hw hP hD hS (lv_sub hl [1, 0, 2] rfl)
  unfold wp_I_countOpen at hw
  refine lv_iconst (v := (0 : Int32)) hx hb d_I_countOpen_0 (by decide) ?_
  refine lv_istore_n (lv' := [(1, .int (0 : Int32)), (0, .ref (qI 0))]) hx hb d_I_countOpen_1 rfl hl (by decide) rfl (fun ls hl => ?_)
  refine lv_iconst (v := (0 : Int32)) hx hb d_I_countOpen_2 (by decide) ?_
  refine lv_istore_n (lv' := [(2, .int (0 : Int32)), (1, .int (0 : Int32)), (0, .ref (qI 0))]) hx hb d_I_countOpen_3 rfl hl (by decide) rfl (fun ls hl => ?_)
  obtain ⟨n9, hw⟩ := hw
  exact lp4 n9 (0 : Int32) (0 : Int32) _ _ _ hw hP hD hS (lv_sub hl [2, 1, 0] rfl)

def wp_W_addLast (xW : St) (a1 : Int32) (post : St → Prop) : Prop := vp_in (xW.2 1) 30 ∧ (post (sF (sA xW 0 (xW.2 1).toNatClampNeg a1) 1 (((sA xW 0 (xW.2 1).toNatClampNeg a1).2 1) + (1 : Int32))))
set_option maxHeartbeats 4000000 in
set_option maxRecDepth 100000 in
theorem c_W_addLast (l : Launch) (dC : Nat → ClassId) (dI : Nat → Nat → Nat) (cI cZ cL : ClassId) (qW : Nat → Nat) (sz : Nat) (xW : St) (a1 : Int32) (post : St → Prop) (hw : wp_W_addLast xW a1 post) : Met l y_W_addLast w_W_addLast ({ frames := 0, cells := 0, slots := 0, locals := 0 } : Room) (va_Pc [.ref (qW 0), .int a1] (xP (dC, dI) vwCl [(cI, .int), (cZ, .boolean), (cL, .long)] (wd_W qW cI cZ cL xW) sz)) (va_Qv post (xB (dC, dI) vwCl [(cI, .int), (cZ, .boolean), (cL, .long)] (va_A (wd_W qW cI cZ cL xW) sz) (fun u => (wd_W qW cI cZ cL u))) (va_A (wd_W qW cI cZ cL xW) sz)) 0 0 (va_A (wd_W qW cI cZ cL xW) sz) := by
  refine x_ofV (cc := b_W_addLast) (maxL := 2) (by decide) rfl (Nat.le_of_ble_eq_true rfl) (fun p e s m below meth c A Q hx hb hml hts hown hin hK hA hP hD hS hret ls hl => ?_)
  have hl : lv_has ls 2 [(0, .ref (qW 0)), (1, .int a1)] := hl
  unfold wp_W_addLast at hw
  refine lv_aload_n hx hb d_W_addLast_0 rfl (lv_at hl 0 rfl) ?_
  refine va_get (D := (dC, dI)) (ci := 2) (v := .ref (qW 1)) (C := "ReleaseRows$WaitingRow") (T := T_W) (N := 2) hx hb hts in_W hown hK hP 0 rfl rfl 0 (by decide) (hts _ k_149) (fun _ h9 => h9) rfl d_W_addLast_1 ?_
  refine lv_aload_n hx hb d_W_addLast_4 rfl (lv_at hl 0 rfl) ?_
  refine va_get (D := (dC, dI)) (ci := 2) (v := .int (xW.2 1)) (C := "ReleaseRows$WaitingRow") (T := T_W) (N := 2) hx hb hts in_W hown hK hP 0 rfl rfl 1 (by decide) (hts _ k_150) (fun _ h9 => h9) rfl d_W_addLast_5 ?_
  refine lv_iload_n hx hb d_W_addLast_8 rfl (lv_at hl 1 rfl) ?_
  obtain ⟨h9, hw⟩ := hw
  refine va_iast hx hb hK hP hD hS 1 0 rfl rfl h9 d_W_addLast_9 (fun H locs hP hD hS => ?_)
  have hP := wsP_W_W0 hP
  have hD := wsD_W_W0 hD
  refine lv_aload_n hx hb d_W_addLast_10 rfl (lv_at hl 0 rfl) ?_
  refine lv_dup hx hb d_W_addLast_11 rfl ?_
  refine va_get (D := (dC, dI)) (ci := 2) (v := .int ((sA xW 0 (xW.2 1).toNatClampNeg a1).2 1)) (C := "ReleaseRows$WaitingRow") (T := T_W) (N := 2) hx hb hts in_W hown hK hP 0 rfl rfl 1 (by decide) (hts _ k_150) (fun _ h9 => h9) rfl d_W_addLast_12 ?_
  refine lv_iconst (v := (1 : Int32)) hx hb d_W_addLast_15 (by decide) ?_
  refine lv_iadd hx hb d_W_addLast_16 ?_
  refine va_put (D := (dC, dI)) (ci := 2) (v := .int (((sA xW 0 (xW.2 1).toNatClampNeg a1).2 1) + (1 : Int32))) (ty := .int) (C := "ReleaseRows$WaitingRow") (T := T_W) (N := 2) hx hb hts in_W ty_W tyok_W nm_W hown hK hP hD hS 0 rfl rfl 1 (by decide) (hts _ k_150) (fun _ h9 => h9) rfl (by decide +kernel) rfl rfl (Nat.le_of_ble_eq_true rfl) d_W_addLast_17 (fun H locs hP hD hS => ?_)
  have hP := wsP_W_W1 hP
  have hD := wsD_W_W1 hD
  exact hret (sF (sA xW 0 (xW.2 1).toNatClampNeg a1) 1 (((sA xW 0 (xW.2 1).toNatClampNeg a1).2 1) + (1 : Int32))) _ _ _ _ _ _ hw hP hD hS (Nat.le_of_ble_eq_true rfl) (Nat.le_of_ble_eq_true rfl) d_W_addLast_20

def wp_W_takeFirst (xW : St) (post : Int32 → St → Prop) : Prop := vp_in (0 : Int32) 30 ∧ (∀ v1_6 : Int32, v1_6 = (xW.1 0 (0 : Int32).toNatClampNeg) → ((¬ (1 : Int32) < 0 ∧ ¬ (0 : Int32) < 0 ∧ ¬ ((sF xW 1 ((xW.2 1) - (1 : Int32))).2 1) < 0 ∧ (1 : Int32).toNatClampNeg + ((sF xW 1 ((xW.2 1) - (1 : Int32))).2 1).toNatClampNeg ≤ 30 ∧ (0 : Int32).toNatClampNeg + ((sF xW 1 ((xW.2 1) - (1 : Int32))).2 1).toNatClampNeg ≤ 30) ∧ (post v1_6 (sR (sF xW 1 ((xW.2 1) - (1 : Int32))) 0 (va_cpy ((sF xW 1 ((xW.2 1) - (1 : Int32))).1 0) ((sF xW 1 ((xW.2 1) - (1 : Int32))).1 0) (1 : Int32).toNatClampNeg (0 : Int32).toNatClampNeg ((sF xW 1 ((xW.2 1) - (1 : Int32))).2 1).toNatClampNeg)))))
set_option maxHeartbeats 4000000 in
set_option maxRecDepth 100000 in
theorem c_W_takeFirst (l : Launch) (dC : Nat → ClassId) (dI : Nat → Nat → Nat) (cI cZ cL : ClassId) (qW : Nat → Nat) (sz : Nat) (xW : St) (post : Int32 → St → Prop) (hw : wp_W_takeFirst xW post) : Met l y_W_takeFirst w_W_takeFirst ({ frames := 1, cells := 0, slots := 0, locals := 60 } : Room) (va_Pc [.ref (qW 0)] (xP (dC, dI) vwCl [(cI, .int), (cZ, .boolean), (cL, .long)] (wd_W qW cI cZ cL xW) sz)) (va_Qi post (xB (dC, dI) vwCl [(cI, .int), (cZ, .boolean), (cL, .long)] (va_A (wd_W qW cI cZ cL xW) sz) (fun u => (wd_W qW cI cZ cL u))) (va_A (wd_W qW cI cZ cL xW) sz)) 0 0 (va_A (wd_W qW cI cZ cL xW) sz) := by
  refine x_ofI (cc := b_W_takeFirst) (maxL := 2) (by decide) rfl (Nat.le_of_ble_eq_true rfl) (fun p e s m below meth c A Q hx hb hml hts hown hK hA hP hD hS hret ls hl => ?_)
  have hl : lv_has ls 2 [(0, .ref (qW 0))] := hl
  unfold wp_W_takeFirst at hw
  refine lv_aload_n hx hb d_W_takeFirst_0 rfl (lv_at hl 0 rfl) ?_
  refine va_get (D := (dC, dI)) (ci := 2) (v := .ref (qW 1)) (C := "ReleaseRows$WaitingRow") (T := T_W) (N := 2) hx hb hts in_W hown hK hP 0 rfl rfl 0 (by decide) (hts _ k_149) (fun _ h9 => h9) rfl d_W_takeFirst_1 ?_
  refine lv_iconst (v := (0 : Int32)) hx hb d_W_takeFirst_4 (by decide) ?_
  obtain ⟨h5, hw⟩ := hw
  refine va_iald hx hb hK hP 1 0 rfl rfl h5 d_W_takeFirst_5 ?_
  refine lv_topi (fun v1_6 ev1_6 => ?_)
  have hw := hw v1_6 ev1_6
  refine lv_istore_n (lv' := [(1, .int v1_6), (0, .ref (qW 0))]) hx hb d_W_takeFirst_6 rfl hl (by decide) rfl (fun ls hl => ?_)
  refine lv_aload_n hx hb d_W_takeFirst_7 rfl (lv_at hl 1 rfl) ?_
  refine lv_dup hx hb d_W_takeFirst_8 rfl ?_
  refine va_get (D := (dC, dI)) (ci := 2) (v := .int (xW.2 1)) (C := "ReleaseRows$WaitingRow") (T := T_W) (N := 2) hx hb hts in_W hown hK hP 0 rfl rfl 1 (by decide) (hts _ k_150) (fun _ h9 => h9) rfl d_W_takeFirst_9 ?_
  refine lv_iconst (v := (1 : Int32)) hx hb d_W_takeFirst_12 (by decide) ?_
  refine lv_isub hx hb d_W_takeFirst_13 ?_
  refine va_put (D := (dC, dI)) (ci := 2) (v := .int ((xW.2 1) - (1 : Int32))) (ty := .int) (C := "ReleaseRows$WaitingRow") (T := T_W) (N := 2) hx hb hts in_W ty_W tyok_W nm_W hown hK hP hD hS 0 rfl rfl 1 (by decide) (hts _ k_150) (fun _ h9 => h9) rfl (by decide +kernel) rfl rfl (Nat.le_of_ble_eq_true rfl) d_W_takeFirst_14 (fun H locs hP hD hS => ?_)
  have hP := wsP_W_W1 hP
  have hD := wsD_W_W1 hD
  refine lv_aload_n hx hb d_W_takeFirst_17 rfl (lv_at hl 1 rfl) ?_
  refine va_get (D := (dC, dI)) (ci := 2) (v := .ref (qW 1)) (C := "ReleaseRows$WaitingRow") (T := T_W) (N := 2) hx hb hts in_W hown hK hP 0 rfl rfl 0 (by decide) (hts _ k_149) (fun _ h9 => h9) rfl d_W_takeFirst_18 ?_
  refine lv_iconst (v := (1 : Int32)) hx hb d_W_takeFirst_21 (by decide) ?_
  refine lv_aload_n hx hb d_W_takeFirst_22 rfl (lv_at hl 1 rfl) ?_
  refine va_get (D := (dC, dI)) (ci := 2) (v := .ref (qW 1)) (C := "ReleaseRows$WaitingRow") (T := T_W) (N := 2) hx hb hts in_W hown hK hP 0 rfl rfl 0 (by decide) (hts _ k_149) (fun _ h9 => h9) rfl d_W_takeFirst_23 ?_
  refine lv_iconst (v := (0 : Int32)) hx hb d_W_takeFirst_26 (by decide) ?_
  refine lv_aload_n hx hb d_W_takeFirst_27 rfl (lv_at hl 1 rfl) ?_
  refine va_get (D := (dC, dI)) (ci := 2) (v := .int ((sF xW 1 ((xW.2 1) - (1 : Int32))).2 1)) (C := "ReleaseRows$WaitingRow") (T := T_W) (N := 2) hx hb hts in_W hown hK hP 0 rfl rfl 1 (by decide) (hts _ k_150) (fun _ h9 => h9) rfl d_W_takeFirst_28 ?_
  obtain ⟨⟨h311, h312, h313, h314, h315⟩, hw⟩ := hw
  refine va_copyi (sp := (1 : Int32)) (dp := (0 : Int32)) (n := ((sF xW 1 ((xW.2 1) - (1 : Int32))).2 1)) (ty := .int) hx hb (hml.trans hl.1.symm) hown (hts _ k_325) (hts _ k_327) (hts _ k_326) (hts _ k_36) hK hP hD hS 1 1 0 0 rfl rfl rfl rfl rfl h311 h312 h313 h314 h315 (fun _ _ => rfl) (Nat.le_of_ble_eq_true rfl) (Nat.le_of_ble_eq_true rfl) d_W_takeFirst_31 (fun H locs hP hD hS => ?_)
  have hP := wsP_W_W0R hP
  have hD := wsD_W_W0R hD
  refine lv_iload_n hx hb d_W_takeFirst_34 rfl (lv_at hl 0 rfl) ?_
  exact hret v1_6 (sR (sF xW 1 ((xW.2 1) - (1 : Int32))) 0 (va_cpy ((sF xW 1 ((xW.2 1) - (1 : Int32))).1 0) ((sF xW 1 ((xW.2 1) - (1 : Int32))).1 0) (1 : Int32).toNatClampNeg (0 : Int32).toNatClampNeg ((sF xW 1 ((xW.2 1) - (1 : Int32))).2 1).toNatClampNeg)) _ _ _ _ _ _ rfl hw hP hD hS (Nat.le_of_ble_eq_true rfl) (Nat.le_of_ble_eq_true rfl) d_W_takeFirst_35

def wj_W_countFor_25 (xW : St) (a1 : Int32) (post : Int32 → Unit → Prop) (rec4 : Int32 → Int32 → Prop) (v2_ : Int32) (v3_ : Int32) : Prop := ∀ v3_25 : Int32, v3_25 = v3_ + 1 → (rec4 v2_ v3_25)
def wl_W_countFor_4 (xW : St) (a1 : Int32) (post : Int32 → Unit → Prop) : Nat → Int32 → Int32 → Prop
  | 0 => fun _ _ => False
  | n9 + 1 => fun v2_ v3_ => ((xW.2 1) ≤ v3_ → (post v2_ ())) ∧ (¬ (xW.2 1) ≤ v3_ → (vp_in v3_ 30 ∧ ((¬ (xW.1 0 v3_.toNatClampNeg) = a1 → (wj_W_countFor_25 xW a1 post (wl_W_countFor_4 xW a1 post n9) v2_ v3_)) ∧ ((xW.1 0 v3_.toNatClampNeg) = a1 → (∀ v2_22 : Int32, v2_22 = v2_ + 1 → (wj_W_countFor_25 xW a1 post (wl_W_countFor_4 xW a1 post n9) v2_22 v3_))))))
def wp_W_countFor (xW : St) (a1 : Int32) (post : Int32 → Unit → Prop) : Prop := ∃ k9 : Nat, wl_W_countFor_4 xW a1 post k9 (0 : Int32) (0 : Int32)
set_option maxHeartbeats 4000000 in
set_option maxRecDepth 100000 in
theorem c_W_countFor (l : Launch) (dC : Nat → ClassId) (dI : Nat → Nat → Nat) (cI cZ cL : ClassId) (qW : Nat → Nat) (sz : Nat) (xW : St) (a1 : Int32) (post : Int32 → Unit → Prop) (hw : wp_W_countFor xW a1 post) : Met l y_W_countFor w_W_countFor ({ frames := 0, cells := 0, slots := 0, locals := 0 } : Room) (va_Pc [.ref (qW 0), .int a1] (xP (dC, dI) vwCl [(cI, .int), (cZ, .boolean), (cL, .long)] (wd_W qW cI cZ cL xW) sz)) (va_Qi post (xB (dC, dI) vwCl [(cI, .int), (cZ, .boolean), (cL, .long)] (va_A (wd_W qW cI cZ cL xW) sz) (fun _ => (wd_W qW cI cZ cL xW))) (va_A (wd_W qW cI cZ cL xW) sz)) 0 0 (va_A (wd_W qW cI cZ cL xW) sz) := by
  refine x_ofI (cc := b_W_countFor) (maxL := 4) (by decide) rfl (Nat.le_of_ble_eq_true rfl) (fun p e s m below meth c A Q hx hb hml hts hown hK hA hP hD hS hret ls hl => ?_)
  have hl : lv_has ls 4 [(0, .ref (qW 0)), (1, .int a1)] := hl
  have lp4 : ∀ (n4 : Nat) (v2_ : Int32) (v3_ : Int32) (H : Heap) (locs : List Loc) (ls : Array Slot), wl_W_countFor_4 xW a1 post n4 v2_ v3_ → va_P (dC, dI) vwCl (wd_W qW cI cZ cL xW) H → va_D A (wd_W qW cI cZ cL xW) → va_S A s.heap H locs → lv_has ls 4 [(0, .ref (qW 0)), (1, .int a1), (2, .int v2_), (3, .int v3_)] → W p l e (headSpec w_W_countFor ({ frames := 0, cells := 0, slots := 0, locals := 0 } : Room)).room s m ([.ref (qW 0), .int a1] : List Value).toArray below meth c H locs 0 0 Q (F0 m 4 ls []) := by
    intro n4
    induction n4 with
    | zero => intro v2_ v3_ H locs ls hw; exact hw.elim
    | succ n4 ih4 =>
      have jn25 : ∀ (v2_ : Int32) (v3_ : Int32) (H : Heap) (locs : List Loc) (ls : Array Slot), wj_W_countFor_25 xW a1 post (wl_W_countFor_4 xW a1 post n4) v2_ v3_ → va_P (dC, dI) vwCl (wd_W qW cI cZ cL xW) H → va_D A (wd_W qW cI cZ cL xW) → va_S A s.heap H locs → lv_has ls 4 [(0, .ref (qW 0)), (1, .int a1), (2, .int v2_), (3, .int v3_)] → W p l e (headSpec w_W_countFor ({ frames := 0, cells := 0, slots := 0, locals := 0 } : Room)).room s m ([.ref (qW 0), .int a1] : List Value).toArray below meth c H locs 0 0 Q (F0 m 25 ls []) := by
        intro v2_ v3_ H locs ls hw hP hD hS hl
        unfold wj_W_countFor_25 at hw
        obtain ⟨v3_25, ev3_25⟩ : ∃ y : Int32, y = v3_ + 1 := ⟨_, rfl⟩
        have hw := hw v3_25 ev3_25
        refine lv_iinc (v := v3_25) (lv' := [(3, .int v3_25), (0, .ref (qW 0)), (1, .int a1), (2, .int v2_)]) hx hb d_W_countFor_25 hl (k := 3) rfl (by rw [ev3_25]; rfl) (by decide) rfl (fun ls hl => ?_)
        refine lv_goto (tgt := 4) hx hb d_W_countFor_28 (by decide) ?_
        exact ih4 v2_ v3_25 _ _ _ hw hP hD hS (lv_sub hl [1, 2, 3, 0] rfl)
      intro v2_ v3_ H locs ls hw hP hD hS hl
      unfold wl_W_countFor_4 at hw
      refine lv_iload_n hx hb d_W_countFor_4 rfl (lv_at hl 3 rfl) ?_
      refine lv_aload_n hx hb d_W_countFor_5 rfl (lv_at hl 0 rfl) ?_
      refine va_get (D := (dC, dI)) (ci := 2) (v := .int (xW.2 1)) (C := "ReleaseRows$WaitingRow") (T := T_W) (N := 2) hx hb hts in_W hown hK hP 0 rfl rfl 1 (by decide) (hts _ k_150) (fun _ h9 => h9) rfl d_W_countFor_6 ?_
      refine lv_icmp_ge (tgt := 31) hx hb d_W_countFor_9 (by decide) (fun c9 => ?_) (fun c9 => ?_)
      · have hw := hw.1 c9
        refine lv_iload_n hx hb d_W_countFor_31 rfl (lv_at hl 2 rfl) ?_
        exact hret v2_ () _ _ _ _ _ _ rfl hw hP hD hS (Nat.le_of_ble_eq_true rfl) (Nat.le_of_ble_eq_true rfl) d_W_countFor_32
      · have hw := hw.2 c9
        refine lv_aload_n hx hb d_W_countFor_12 rfl (lv_at hl 0 rfl) ?_
        refine va_get (D := (dC, dI)) (ci := 2) (v := .ref (qW 1)) (C := "ReleaseRows$WaitingRow") (T := T_W) (N := 2) hx hb hts in_W hown hK hP 0 rfl rfl 0 (by decide) (hts _ k_149) (fun _ h9 => h9) rfl d_W_countFor_13 ?_
        refine lv_iload_n hx hb d_W_countFor_16 rfl (lv_at hl 3 rfl) ?_
        obtain ⟨h17, hw⟩ := hw
        refine va_iald hx hb hK hP 1 0 rfl rfl h17 d_W_countFor_17 ?_
        refine lv_iload_n hx hb d_W_countFor_18 rfl (lv_at hl 1 rfl) ?_
        refine lv_icmp_ne (tgt := 25) hx hb d_W_countFor_19 (by decide) (fun c19 => ?_) (fun c19 => ?_)
        · have hw := hw.1 c19
          exact jn25 v2_ v3_ _ _ _ hw hP hD hS hl
        · have hw := hw.2 c19
          obtain ⟨v2_22, ev2_22⟩ : ∃ y : Int32, y = v2_ + 1 := ⟨_, rfl⟩
          have hw := hw v2_22 ev2_22
          refine lv_iinc (v := v2_22) (lv' := [(2, .int v2_22), (0, .ref (qW 0)), (1, .int a1), (3, .int v3_)]) hx hb d_W_countFor_22 hl (k := 2) rfl (by rw [ev2_22]; rfl) (by decide) rfl (fun ls hl => ?_)
          exact jn25 v2_22 v3_ _ _ _ hw hP hD hS (lv_sub hl [1, 2, 0, 3] rfl)
  unfold wp_W_countFor at hw
  refine lv_iconst (v := (0 : Int32)) hx hb d_W_countFor_0 (by decide) ?_
  refine lv_istore_n (lv' := [(2, .int (0 : Int32)), (0, .ref (qW 0)), (1, .int a1)]) hx hb d_W_countFor_1 rfl hl (by decide) rfl (fun ls hl => ?_)
  refine lv_iconst (v := (0 : Int32)) hx hb d_W_countFor_2 (by decide) ?_
  refine lv_istore_n (lv' := [(3, .int (0 : Int32)), (2, .int (0 : Int32)), (0, .ref (qW 0)), (1, .int a1)]) hx hb d_W_countFor_3 rfl hl (by decide) rfl (fun ls hl => ?_)
  obtain ⟨n9, hw⟩ := hw
  exact lp4 n9 (0 : Int32) (0 : Int32) _ _ _ hw hP hD hS (lv_sub hl [2, 3, 1, 0] rfl)

