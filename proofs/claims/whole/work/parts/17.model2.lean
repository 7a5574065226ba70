def wj_M_settle_101 (xM : St) (post : Int32 → St → Prop) (rec4 : St → Int32 → Int32 → Prop) (rec53 : St → Int32 → Int32 → Int32 → Prop) (xM_ : St) (v1_ : Int32) (v2_ : Int32) (v3_ : Int32) : Prop := ∀ v3_101 : Int32, v3_101 = v3_ + 1 → (rec53 xM_ v1_ v2_ v3_101)
def wl_M_settle_53 (xM : St) (post : Int32 → St → Prop) (rec4 : St → Int32 → Int32 → Prop) : Nat → St → Int32 → Int32 → Int32 → Prop
  | 0 => fun _ _ _ _ => False
  | n9 + 1 => fun xM_ v1_ v2_ v3_ => ((xM_.2 15) ≤ v3_ → (rec4 xM_ v1_ v2_)) ∧ (¬ (xM_.2 15) ≤ v3_ → (wp_M_ends xM_ v3_ (fun r63 _ => ((r63 = 0 → (wj_M_settle_101 xM post rec4 (wl_M_settle_53 xM post rec4 n9) xM_ v1_ v2_ v3_)) ∧ (¬ r63 = 0 → (vp_in v3_ 20 ∧ (vp_in v3_ 20 ∧ (vp_in v3_ 20 ∧ (vp_in v3_ 20 ∧ (∀ v1_96 : Int32, v1_96 = v1_ + 1 → (wj_M_settle_101 xM post rec4 (wl_M_settle_53 xM post rec4 n9) (sA (sA (sA xM_ 17 v3_.toNatClampNeg (vp_nar .boolean (0 : Int32))) 23 v3_.toNatClampNeg (((sA xM_ 17 v3_.toNatClampNeg (vp_nar .boolean (0 : Int32))).1 23 v3_.toNatClampNeg) + (1 : Int32))) 24 v3_.toNatClampNeg ((sA (sA xM_ 17 v3_.toNatClampNeg (vp_nar .boolean (0 : Int32))) 23 v3_.toNatClampNeg (((sA xM_ 17 v3_.toNatClampNeg (vp_nar .boolean (0 : Int32))).1 23 v3_.toNatClampNeg) + (1 : Int32))).2 1)) v1_96 (1 : Int32) v3_)))))))))))
def wl_M_settle_39 (xM : St) (post : Int32 → St → Prop) (rec4 : St → Int32 → Int32 → Prop) : Nat → St → Int32 → Int32 → Prop
  | 0 => fun _ _ _ => False
  | n9 + 1 => fun xM_ v1_ v2_ => wp_M_serves xM_ (fun r40 u40 => ((r40 = 0 → (∃ k9 : Nat, wl_M_settle_53 xM post rec4 k9 u40 v1_ v2_ (0 : Int32))) ∧ (¬ r40 = 0 → ((wl_M_settle_39 xM post rec4 n9) u40 v1_ (1 : Int32)))))
def wl_M_settle_20 (xM : St) (post : Int32 → St → Prop) (rec4 : St → Int32 → Int32 → Prop) (rec12 : St → Int32 → Int32 → Int32 → Prop) : Nat → St → Int32 → Int32 → Int32 → Prop
  | 0 => fun _ _ _ _ => False
  | n9 + 1 => fun xM_ v1_ v2_ v3_ => wp_M_goesOn xM_ v3_ (fun r22 u22 => ((r22 = 0 → (∀ v3_33 : Int32, v3_33 = v3_ + 1 → (rec12 u22 v1_ v2_ v3_33))) ∧ (¬ r22 = 0 → ((wl_M_settle_20 xM post rec4 rec12 n9) u22 v1_ (1 : Int32) v3_))))
def wl_M_settle_12 (xM : St) (post : Int32 → St → Prop) (rec4 : St → Int32 → Int32 → Prop) : Nat → St → Int32 → Int32 → Int32 → Prop
  | 0 => fun _ _ _ _ => False
  | n9 + 1 => fun xM_ v1_ v2_ v3_ => ((xM_.2 3) ≤ v3_ → (∃ k9 : Nat, wl_M_settle_39 xM post rec4 k9 xM_ v1_ v2_)) ∧ (¬ (xM_.2 3) ≤ v3_ → (∃ k9 : Nat, wl_M_settle_20 xM post rec4 (wl_M_settle_12 xM post rec4 n9) k9 xM_ v1_ v2_ v3_))
def wl_M_settle_4 (xM : St) (post : Int32 → St → Prop) : Nat → St → Int32 → Int32 → Prop
  | 0 => fun _ _ _ => False
  | n9 + 1 => fun xM_ v1_ v2_ => (v2_ = 0 → (post v1_ xM_)) ∧ (¬ v2_ = 0 → (∃ k9 : Nat, wl_M_settle_12 xM post (wl_M_settle_4 xM post n9) k9 xM_ v1_ (0 : Int32) (0 : Int32)))
def wp_M_settle (xM : St) (post : Int32 → St → Prop) : Prop := ∃ k9 : Nat, wl_M_settle_4 xM post k9 xM (0 : Int32) (1 : Int32)
set_option maxHeartbeats 4000000 in
set_option maxRecDepth 100000 in
theorem c_M_settle (l : Launch) (dC : Nat → ClassId) (dI : Nat → Nat → Nat) (cI cZ cL : ClassId) (qM : Nat → Nat) (sz : Nat) (xM : St) (post : Int32 → St → Prop) (hw : wp_M_settle xM post) : Met l y_M_settle w_M_settle ({ frames := 3, cells := 0, slots := 0, locals := 67 } : Room) (va_Pc [.ref (qM 0)] (xP (dC, dI) vwCl [(cI, .int), (cZ, .boolean), (cL, .long)] (wd_M qM cI cZ cL xM) sz)) (va_Qi post (xB (dC, dI) vwCl [(cI, .int), (cZ, .boolean), (cL, .long)] (va_A (wd_M qM cI cZ cL xM) sz) (fun u => (wd_M qM cI cZ cL u))) (va_A (wd_M qM cI cZ cL xM) sz)) 0 0 (va_A (wd_M qM cI cZ cL xM) sz) := by
  refine x_ofI (cc := b_M_settle) (maxL := 4) (by decide) rfl (Nat.le_of_ble_eq_true rfl) (fun p e s m below meth c A Q hx hb hml hts hown hK hA hP hD hS hret ls hl => ?_)
  have hl : lv_has ls 4 [(0, .ref (qM 0))] := hl
  have lp4 : ∀ (n4 : Nat) (xM_ : St) (v1_ : Int32) (v2_ : Int32) (H : Heap) (locs : List Loc) (ls : Array Slot), wl_M_settle_4 xM post n4 xM_ v1_ v2_ → va_P (dC, dI) vwCl (wd_M qM cI cZ cL xM_) H → va_D A (wd_M qM cI cZ cL xM_) → va_S A s.heap H locs → lv_has ls 4 [(0, .ref (qM 0)), (1, .int v1_), (2, .int v2_)] → W p l e (headSpec w_M_settle ({ frames := 3, cells := 0, slots := 0, locals := 67 } : Room)).room s m ([.ref (qM 0)] : List Value).toArray below meth c H locs 0 0 Q (F0 m 4 ls []) := by
    intro n4
    induction n4 with
    | zero => intro xM_ v1_ v2_ H locs ls hw; exact hw.elim
    | succ n4 ih4 =>
      have lp53 : ∀ (n53 : Nat) (xM_ : St) (v1_ : Int32) (v2_ : Int32) (v3_ : Int32) (H : Heap) (locs : List Loc) (ls : Array Slot), wl_M_settle_53 xM post (wl_M_settle_4 xM post n4) n53 xM_ v1_ v2_ v3_ → va_P (dC, dI) vwCl (wd_M qM cI cZ cL xM_) H → va_D A (wd_M qM cI cZ cL xM_) → va_S A s.heap H locs → lv_has ls 4 [(0, .ref (qM 0)), (1, .int v1_), (2, .int v2_), (3, .int v3_)] → W p l e (headSpec w_M_settle ({ frames := 3, cells := 0, slots := 0, locals := 67 } : Room)).room s m ([.ref (qM 0)] : List Value).toArray below meth c H locs 0 0 Q (F0 m 53 ls []) := by
        intro n53
        induction n53 with
        | zero => intro xM_ v1_ v2_ v3_ H locs ls hw; exact hw.elim
        | succ n53 ih53 =>
          have jn101 : ∀ (xM_ : St) (v1_ : Int32) (v2_ : Int32) (v3_ : Int32) (H : Heap) (locs : List Loc) (ls : Array Slot), wj_M_settle_101 xM post (wl_M_settle_4 xM post n4) (wl_M_settle_53 xM post (wl_M_settle_4 xM post n4) n53) xM_ v1_ v2_ v3_ → va_P (dC, dI) vwCl (wd_M qM cI cZ cL xM_) H → va_D A (wd_M qM cI cZ cL xM_) → va_S A s.heap H locs → lv_has ls 4 [(0, .ref (qM 0)), (1, .int v1_), (2, .int v2_), (3, .int v3_)] → W p l e (headSpec w_M_settle ({ frames := 3, cells := 0, slots := 0, locals := 67 } : Room)).room s m ([.ref (qM 0)] : List Value).toArray below meth c H locs 0 0 Q (F0 m 101 ls []) := by
            intro xM_ v1_ v2_ v3_ H locs ls hw hP hD hS hl
            unfold wj_M_settle_101 at hw
            obtain ⟨v3_101, ev3_101⟩ : ∃ y : Int32, y = v3_ + 1 := ⟨_, rfl⟩
            have hw := hw v3_101 ev3_101
            refine lv_iinc (v := v3_101) (lv' := [(3, .int v3_101), (0, .ref (qM 0)), (1, .int v1_), (2, .int v2_)]) hx hb d_M_settle_101 hl (k := 3) rfl (by rw [ev3_101]; rfl) (by decide) rfl (fun ls hl => ?_)
            refine lv_goto (tgt := 53) hx hb d_M_settle_104 (by decide) ?_
            exact ih53 xM_ v1_ v2_ v3_101 _ _ _ hw hP hD hS (lv_sub hl [1, 2, 3, 0] rfl)
          intro xM_ v1_ v2_ v3_ H locs ls hw hP hD hS hl
          unfold wl_M_settle_53 at hw
          refine lv_iload_n hx hb d_M_settle_53 rfl (lv_at hl 3 rfl) ?_
          refine lv_aload_n hx hb d_M_settle_54 rfl (lv_at hl 0 rfl) ?_
          refine va_get (D := (dC, dI)) (ci := 4) (v := .int (xM_.2 15)) (C := "ReleaseRowsModel") (T := T_M) (N := 27) hx hb hts in_M hown hK hP 0 rfl rfl 15 (by decide) (hts _ k_591) (fun _ h9 => h9) rfl d_M_settle_55 ?_
          refine lv_icmp_ge (tgt := 107) hx hb d_M_settle_58 (by decide) (fun c58 => ?_) (fun c58 => ?_)
          · have hw := hw.1 c58
            refine lv_goto (tgt := 4) hx hb d_M_settle_107 (by decide) ?_
            exact ih4 xM_ v1_ v2_ _ _ _ hw hP hD hS (lv_sub hl [0, 1, 2] rfl)
          · have hw := hw.2 c58
            refine lv_aload_n hx hb d_M_settle_61 rfl (lv_at hl 0 rfl) ?_
            refine lv_iload_n hx hb d_M_settle_62 rfl (lv_at hl 3 rfl) ?_
            refine x_ci (w2 := fun _ => (wd_M qM cI cZ cL xM_)) [0, 1, 2, 3, 4, 5, 6, 7, 8, 9, 10, 11, 12, 13, 14, 15, 16, 17, 18, 19, 20, 21] [] [0, 1, 2, 3, 4, 5, 6, 7, 8, 9, 10, 11, 12, 13, 14, 15, 16, 17, 18, 19, 20, 21] (va_runV (As := [.int v3_]) (rest := []) ⟨hx, hb, hml, hown, hts⟩ (c_M_ends l dC dI cI cZ cL qM _ xM_ v3_ _ hw) (cwV 1 hts (x_gV k_702 k_704 k_18 k_30 k_705) rfl rfl rfl (by decide +kernel) ⟨Nat.le_of_ble_eq_true rfl, Nat.le_of_ble_eq_true rfl⟩) ⟨x_blind, va_recv hK hP (ci := 4) (q0 := 0) rfl rfl, fun U hU hW => x_pre (isC := [0, 1, 2, 3, 4, 5, 6, 7, 8, 9, 10, 11, 12, 13, 14, 15, 16, 17, 18, 19, 20, 21]) hK hP hD rfl rfl hU hW⟩ rfl rfl hl.1 rfl (lv_room (Nat.le_of_ble_eq_true rfl)) d_M_settle_63 ⟨Nat.le_of_ble_eq_true rfl, Nat.le_of_ble_eq_true rfl⟩) hP hD hS hA rfl rfl rfl (by decide) (fun _ => rfl) rfl (fun r63 _ H locs hw hP hD hS => ?_)
            refine lv_if_eq (tgt := 101) hx hb d_M_settle_66 (by decide) (fun c66 => ?_) (fun c66 => ?_)
            · have hw := hw.1 c66
              exact jn101 xM_ v1_ v2_ v3_ _ _ _ hw hP hD hS hl
            · have hw := hw.2 c66
              refine lv_aload_n hx hb d_M_settle_69 rfl (lv_at hl 0 rfl) ?_
              refine va_get (D := (dC, dI)) (ci := 4) (v := .ref (qM 18)) (C := "ReleaseRowsModel") (T := T_M) (N := 27) hx hb hts in_M hown hK hP 0 rfl rfl 17 (by decide) (hts _ k_593) (fun _ h9 => h9) rfl d_M_settle_70 ?_
              refine lv_iload_n hx hb d_M_settle_73 rfl (lv_at hl 3 rfl) ?_
              refine lv_iconst (v := (0 : Int32)) hx hb d_M_settle_74 (by decide) ?_
              obtain ⟨h75, hw⟩ := hw
              refine va_zast hx hb hK hP hD hS 13 1 rfl rfl h75 d_M_settle_75 (fun H locs hP hD hS => ?_)
              have hP := wsP_M_M17 hP
              have hD := wsD_M_M17 hD
              refine lv_aload_n hx hb d_M_settle_76 rfl (lv_at hl 0 rfl) ?_
              refine va_get (D := (dC, dI)) (ci := 4) (v := .ref (qM 24)) (C := "ReleaseRowsModel") (T := T_M) (N := 27) hx hb hts in_M hown hK hP 0 rfl rfl 23 (by decide) (hts _ k_599) (fun _ h9 => h9) rfl d_M_settle_77 ?_
              refine lv_iload_n hx hb d_M_settle_80 rfl (lv_at hl 3 rfl) ?_
              refine lv_dup2_11 hx hb d_M_settle_81 rfl rfl ?_
              obtain ⟨h82, hw⟩ := hw
              refine va_iald hx hb hK hP 19 0 rfl rfl h82 d_M_settle_82 ?_
              refine lv_iconst (v := (1 : Int32)) hx hb d_M_settle_83 (by decide) ?_
              refine lv_iadd hx hb d_M_settle_84 ?_
              obtain ⟨h85, hw⟩ := hw
              refine va_iast hx hb hK hP hD hS 19 0 rfl rfl h85 d_M_settle_85 (fun H locs hP hD hS => ?_)
              have hP := wsP_M_M23 hP
              have hD := wsD_M_M23 hD
              refine lv_aload_n hx hb d_M_settle_86 rfl (lv_at hl 0 rfl) ?_
              refine va_get (D := (dC, dI)) (ci := 4) (v := .ref (qM 25)) (C := "ReleaseRowsModel") (T := T_M) (N := 27) hx hb hts in_M hown hK hP 0 rfl rfl 24 (by decide) (hts _ k_600) (fun _ h9 => h9) rfl d_M_settle_87 ?_
              refine lv_iload_n hx hb d_M_settle_90 rfl (lv_at hl 3 rfl) ?_
              refine lv_aload_n hx hb d_M_settle_91 rfl (lv_at hl 0 rfl) ?_
              refine va_get (D := (dC, dI)) (ci := 4) (v := .int ((sA (sA xM_ 17 v3_.toNatClampNeg (vp_nar .boolean (0 : Int32))) 23 v3_.toNatClampNeg (((sA xM_ 17 v3_.toNatClampNeg (vp_nar .boolean (0 : Int32))).1 23 v3_.toNatClampNeg) + (1 : Int32))).2 1)) (C := "ReleaseRowsModel") (T := T_M) (N := 27) hx hb hts in_M hown hK hP 0 rfl rfl 1 (by decide) (hts _ k_577) (fun _ h9 => h9) rfl d_M_settle_92 ?_
              obtain ⟨h95, hw⟩ := hw
              refine va_iast hx hb hK hP hD hS 20 0 rfl rfl h95 d_M_settle_95 (fun H locs hP hD hS => ?_)
              have hP := wsP_M_M24 hP
              have hD := wsD_M_M24 hD
              obtain ⟨v1_96, ev1_96⟩ : ∃ y : Int32, y = v1_ + 1 := ⟨_, rfl⟩
              have hw := hw v1_96 ev1_96
              refine lv_iinc (v := v1_96) (lv' := [(1, .int v1_96), (0, .ref (qM 0)), (2, .int v2_), (3, .int v3_)]) hx hb d_M_settle_96 hl (k := 1) rfl (by rw [ev1_96]; rfl) (by decide) rfl (fun ls hl => ?_)
              refine lv_iconst (v := (1 : Int32)) hx hb d_M_settle_99 (by decide) ?_
              refine lv_istore_n (lv' := [(2, .int (1 : Int32)), (1, .int v1_96), (0, .ref (qM 0)), (3, .int v3_)]) hx hb d_M_settle_100 rfl hl (by decide) rfl (fun ls hl => ?_)
              exact jn101 (sA (sA (sA xM_ 17 v3_.toNatClampNeg (vp_nar .boolean (0 : Int32))) 23 v3_.toNatClampNeg (((sA xM_ 17 v3_.toNatClampNeg (vp_nar .boolean (0 : Int32))).1 23 v3_.toNatClampNeg) + (1 : Int32))) 24 v3_.toNatClampNeg ((sA (sA xM_ 17 v3_.toNatClampNeg (vp_nar .boolean (0 : Int32))) 23 v3_.toNatClampNeg (((sA xM_ 17 v3_.toNatClampNeg (vp_nar .boolean (0 : Int32))).1 23 v3_.toNatClampNeg) + (1 : Int32))).2 1)) v1_96 (1 : Int32) v3_ _ _ _ hw hP hD hS (lv_sub hl [2, 1, 0, 3] rfl)
      have lp39 : ∀ (n39 : Nat) (xM_ : St) (v1_ : Int32) (v2_ : Int32) (H : Heap) (locs : List Loc) (ls : Array Slot), wl_M_settle_39 xM post (wl_M_settle_4 xM post n4) n39 xM_ v1_ v2_ → va_P (dC, dI) vwCl (wd_M qM cI cZ cL xM_) H → va_D A (wd_M qM cI cZ cL xM_) → va_S A s.heap H locs → lv_has ls 4 [(0, .ref (qM 0)), (1, .int v1_), (2, .int v2_)] → W p l e (headSpec w_M_settle ({ frames := 3, cells := 0, slots := 0, locals := 67 } : Room)).room s m ([.ref (qM 0)] : List Value).toArray below meth c H locs 0 0 Q (F0 m 39 ls []) := by
        intro n39
        induction n39 with
        | zero => intro xM_ v1_ v2_ H locs ls hw; exact hw.elim
        | succ n39 ih39 =>
          intro xM_ v1_ v2_ H locs ls hw hP hD hS hl
          unfold wl_M_settle_39 at hw
          refine lv_aload_n hx hb d_M_settle_39 rfl (lv_at hl 0 rfl) ?_
          refine x_ci (w2 := fun u40 => (wd_M qM cI cZ cL u40)) [0, 1, 2, 3, 4, 5, 6, 7, 8, 9, 10, 11, 12, 13, 14, 15, 16, 17, 18, 19, 20, 21] [] [0, 1, 2, 3, 4, 5, 6, 7, 8, 9, 10, 11, 12, 13, 14, 15, 16, 17, 18, 19, 20, 21] (va_runV (As := []) (rest := []) ⟨hx, hb, hml, hown, hts⟩ (c_M_serves l dC dI cI cZ cL qM _ xM_ _ hw) (cwV 0 hts (x_gV k_690 k_692 k_15 k_30 k_693) rfl rfl rfl (by decide +kernel) ⟨Nat.le_of_ble_eq_true rfl, Nat.le_of_ble_eq_true rfl⟩) ⟨x_blind, va_recv hK hP (ci := 4) (q0 := 0) rfl rfl, fun U hU hW => x_pre (isC := [0, 1, 2, 3, 4, 5, 6, 7, 8, 9, 10, 11, 12, 13, 14, 15, 16, 17, 18, 19, 20, 21]) hK hP hD rfl rfl hU hW⟩ rfl rfl hl.1 rfl (lv_room (Nat.le_of_ble_eq_true rfl)) d_M_settle_40 ⟨Nat.le_of_ble_eq_true rfl, Nat.le_of_ble_eq_true rfl⟩) hP hD hS hA rfl rfl rfl (by decide) (fun _ => rfl) rfl (fun r40 u40 H locs hw hP hD hS => ?_)
          refine lv_if_eq (tgt := 51) hx hb d_M_settle_43 (by decide) (fun c43 => ?_) (fun c43 => ?_)
          · have hw := hw.1 c43
            refine lv_iconst (v := (0 : Int32)) hx hb d_M_settle_51 (by decide) ?_
            refine lv_istore_n (lv' := [(3, .int (0 : Int32)), (0, .ref (qM 0)), (1, .int v1_), (2, .int v2_)]) hx hb d_M_settle_52 rfl hl (by decide) rfl (fun ls hl => ?_)
            obtain ⟨n9, hw⟩ := hw
            exact lp53 n9 u40 v1_ v2_ (0 : Int32) _ _ _ hw hP hD hS (lv_sub hl [1, 2, 3, 0] rfl)
          · have hw := hw.2 c43
            refine lv_iconst (v := (1 : Int32)) hx hb d_M_settle_46 (by decide) ?_
            refine lv_istore_n (lv' := [(2, .int (1 : Int32)), (0, .ref (qM 0)), (1, .int v1_)]) hx hb d_M_settle_47 rfl hl (by decide) rfl (fun ls hl => ?_)
            refine lv_goto (tgt := 39) hx hb d_M_settle_48 (by decide) ?_
            exact ih39 u40 v1_ (1 : Int32) _ _ _ hw hP hD hS (lv_sub hl [1, 2, 0] rfl)
      have lp12 : ∀ (n12 : Nat) (xM_ : St) (v1_ : Int32) (v2_ : Int32) (v3_ : Int32) (H : Heap) (locs : List Loc) (ls : Array Slot), wl_M_settle_12 xM post (wl_M_settle_4 xM post n4) n12 xM_ v1_ v2_ v3_ → va_P (dC, dI) vwCl (wd_M qM cI cZ cL xM_) H → va_D A (wd_M qM cI cZ cL xM_) → va_S A s.heap H locs → lv_has ls 4 [(0, .ref (qM 0)), (1, .int v1_), (2, .int v2_), (3, .int v3_)] → W p l e (headSpec w_M_settle ({ frames := 3, cells := 0, slots := 0, locals := 67 } : Room)).room s m ([.ref (qM 0)] : List Value).toArray below meth c H locs 0 0 Q (F0 m 12 ls []) := by
        intro n12
        induction n12 with
        | zero => intro xM_ v1_ v2_ v3_ H locs ls hw; exact hw.elim
        | succ n12 ih12 =>
          have lp20 : ∀ (n20 : Nat) (xM_ : St) (v1_ : Int32) (v2_ : Int32) (v3_ : Int32) (H : Heap) (locs : List Loc) (ls : Array Slot), wl_M_settle_20 xM post (wl_M_settle_4 xM post n4) (wl_M_settle_12 xM post (wl_M_settle_4 xM post n4) n12) n20 xM_ v1_ v2_ v3_ → va_P (dC, dI) vwCl (wd_M qM cI cZ cL xM_) H → va_D A (wd_M qM cI cZ cL xM_) → va_S A s.heap H locs → lv_has ls 4 [(0, .ref (qM 0)), (1, .int v1_), (2, .int v2_), (3, .int v3_)] → W p l e (headSpec w_M_settle ({ frames := 3, cells := 0, slots := 0, locals := 67 } : Room)).room s m ([.ref (qM 0)] : List Value).toArray below meth c H locs 0 0 Q (F0 m 20 ls []) := by
            intro n20
            induction n20 with
            | zero => intro xM_ v1_ v2_ v3_ H locs ls hw; exact hw.elim
            | succ n20 ih20 =>
              intro xM_ v1_ v2_ v3_ H locs ls hw hP hD hS hl
              unfold wl_M_settle_20 at hw
              refine lv_aload_n hx hb d_M_settle_20 rfl (lv_at hl 0 rfl) ?_
              refine lv_iload_n hx hb d_M_settle_21 rfl (lv_at hl 3 rfl) ?_
              refine x_ci (w2 := fun u22 => (wd_M qM cI cZ cL u22)) [0, 1, 2, 3, 4, 5, 6, 7, 8, 9, 10, 11, 12, 13, 14, 15, 16, 17, 18, 19, 20, 21] [] [0, 1, 2, 3, 4, 5, 6, 7, 8, 9, 10, 11, 12, 13, 14, 15, 16, 17, 18, 19, 20, 21] (va_runV (As := [.int v3_]) (rest := []) ⟨hx, hb, hml, hown, hts⟩ (c_M_goesOn l dC dI cI cZ cL qM _ xM_ v3_ _ hw) (cwV 1 hts (x_gV k_678 k_680 k_12 k_30 k_681) rfl rfl rfl (by decide +kernel) ⟨Nat.le_of_ble_eq_true rfl, Nat.le_of_ble_eq_true rfl⟩) ⟨x_blind, va_recv hK hP (ci := 4) (q0 := 0) rfl rfl, fun U hU hW => x_pre (isC := [0, 1, 2, 3, 4, 5, 6, 7, 8, 9, 10, 11, 12, 13, 14, 15, 16, 17, 18, 19, 20, 21]) hK hP hD rfl rfl hU hW⟩ rfl rfl hl.1 rfl (lv_room (Nat.le_of_ble_eq_true rfl)) d_M_settle_22 ⟨Nat.le_of_ble_eq_true rfl, Nat.le_of_ble_eq_true rfl⟩) hP hD hS hA rfl rfl rfl (by decide) (fun _ => rfl) rfl (fun r22 u22 H locs hw hP hD hS => ?_)
              refine lv_if_eq (tgt := 33) hx hb d_M_settle_25 (by decide) (fun c25 => ?_) (fun c25 => ?_)
              · have hw := hw.1 c25
                obtain ⟨v3_33, ev3_33⟩ : ∃ y : Int32, y = v3_ + 1 := ⟨_, rfl⟩
                have hw := hw v3_33 ev3_33
                refine lv_iinc (v := v3_33) (lv' := [(3, .int v3_33), (0, .ref (qM 0)), (1, .int v1_), (2, .int v2_)]) hx hb d_M_settle_33 hl (k := 3) rfl (by rw [ev3_33]; rfl) (by decide) rfl (fun ls hl => ?_)
                refine lv_goto (tgt := 12) hx hb d_M_settle_36 (by decide) ?_
                exact ih12 u22 v1_ v2_ v3_33 _ _ _ hw hP hD hS (lv_sub hl [1, 2, 3, 0] rfl)
              · have hw := hw.2 c25
                refine lv_iconst (v := (1 : Int32)) hx hb d_M_settle_28 (by decide) ?_
                refine lv_istore_n (lv' := [(2, .int (1 : Int32)), (0, .ref (qM 0)), (1, .int v1_), (3, .int v3_)]) hx hb d_M_settle_29 rfl hl (by decide) rfl (fun ls hl => ?_)
                refine lv_goto (tgt := 20) hx hb d_M_settle_30 (by decide) ?_
                exact ih20 u22 v1_ (1 : Int32) v3_ _ _ _ hw hP hD hS (lv_sub hl [1, 2, 0, 3] rfl)
          intro xM_ v1_ v2_ v3_ H locs ls hw hP hD hS hl
          unfold wl_M_settle_12 at hw
          refine lv_iload_n hx hb d_M_settle_12 rfl (lv_at hl 3 rfl) ?_
          refine lv_aload_n hx hb d_M_settle_13 rfl (lv_at hl 0 rfl) ?_
          refine va_get (D := (dC, dI)) (ci := 4) (v := .int (xM_.2 3)) (C := "ReleaseRowsModel") (T := T_M) (N := 27) hx hb hts in_M hown hK hP 0 rfl rfl 3 (by decide) (hts _ k_579) (fun _ h9 => h9) rfl d_M_settle_14 ?_
          refine lv_icmp_ge (tgt := 39) hx hb d_M_settle_17 (by decide) (fun c17 => ?_) (fun c17 => ?_)
          · have hw := hw.1 c17
            obtain ⟨n9, hw⟩ := hw
            exact lp39 n9 xM_ v1_ v2_ _ _ _ hw hP hD hS (lv_sub hl [0, 1, 2] rfl)
          · have hw := hw.2 c17
            obtain ⟨n9, hw⟩ := hw
            exact lp20 n9 xM_ v1_ v2_ v3_ _ _ _ hw hP hD hS hl
      intro xM_ v1_ v2_ H locs ls hw hP hD hS hl
      unfold wl_M_settle_4 at hw
      refine lv_iload_n hx hb d_M_settle_4 rfl (lv_at hl 2 rfl) ?_
      refine lv_if_eq (tgt := 110) hx hb d_M_settle_5 (by decide) (fun c5 => ?_) (fun c5 => ?_)
      · have hw := hw.1 c5
        refine lv_iload_n hx hb d_M_settle_110 rfl (lv_at hl 1 rfl) ?_
        exact hret v1_ xM_ _ _ _ _ _ _ rfl hw hP hD hS (Nat.le_of_ble_eq_true rfl) (Nat.le_of_ble_eq_true rfl) d_M_settle_111
      · have hw := hw.2 c5
        refine lv_iconst (v := (0 : Int32)) hx hb d_M_settle_8 (by decide) ?_
        refine lv_istore_n (lv' := [(2, .int (0 : Int32)), (0, .ref (qM 0)), (1, .int v1_)]) hx hb d_M_settle_9 rfl hl (by decide) rfl (fun ls hl => ?_)
        refine lv_iconst (v := (0 : Int32)) hx hb d_M_settle_10 (by decide) ?_
        refine lv_istore_n (lv' := [(3, .int (0 : Int32)), (2, .int (0 : Int32)), (0, .ref (qM 0)), (1, .int v1_)]) hx hb d_M_settle_11 rfl hl (by decide) rfl (fun ls hl => ?_)
        obtain ⟨n9, hw⟩ := hw
        exact lp12 n9 xM_ v1_ (0 : Int32) (0 : Int32) _ _ _ hw hP hD hS (lv_sub hl [2, 3, 1, 0] rfl)
  unfold wp_M_settle at hw
  refine lv_iconst (v := (0 : Int32)) hx hb d_M_settle_0 (by decide) ?_
  refine lv_istore_n (lv' := [(1, .int (0 : Int32)), (0, .ref (qM 0))]) hx hb d_M_settle_1 rfl hl (by decide) rfl (fun ls hl => ?_)
  refine lv_iconst (v := (1 : Int32)) hx hb d_M_settle_2 (by decide) ?_
  refine lv_istore_n (lv' := [(2, .int (1 : Int32)), (1, .int (0 : Int32)), (0, .ref (qM 0))]) hx hb d_M_settle_3 rfl hl (by decide) rfl (fun ls hl => ?_)
  obtain ⟨n9, hw⟩ := hw
  exact lp4 n9 xM (0 : Int32) (1 : Int32) _ _ _ hw hP hD hS (lv_sub hl [2, 1, 0] rfl)

def wp_M_thrown (xM : St) (post : Int32 → Unit → Prop) : Prop := post (xM.2 0) ()
set_option maxHeartbeats 4000000 in
set_option maxRecDepth 100000 in
theorem c_M_thrown (l : Launch) (dC : Nat → ClassId) (dI : Nat → Nat → Nat) (cI cZ cL : ClassId) (qM : Nat → Nat) (sz : Nat) (xM : St) (post : Int32 → Unit → Prop) (hw : wp_M_thrown xM post) : Met l y_M_thrown w_M_thrown ({ frames := 0, cells := 0, slots := 0, locals := 0 } : Room) (va_Pc [.ref (qM 0)] (xP (dC, dI) vwCl [(cI, .int), (cZ, .boolean), (cL, .long)] (wd_M qM cI cZ cL xM) sz)) (va_Qi post (xB (dC, dI) vwCl [(cI, .int), (cZ, .boolean), (cL, .long)] (va_A (wd_M qM cI cZ cL xM) sz) (fun _ => (wd_M qM cI cZ cL xM))) (va_A (wd_M qM cI cZ cL xM) sz)) 0 0 (va_A (wd_M qM cI cZ cL xM) sz) := by
  refine x_ofI (cc := b_M_thrown) (maxL := 1) (by decide) rfl (Nat.le_of_ble_eq_true rfl) (fun p e s m below meth c A Q hx hb hml hts hown hK hA hP hD hS hret ls hl => ?_)
  have hl : lv_has ls 1 [(0, .ref (qM 0))] := hl
  unfold wp_M_thrown at hw
  refine lv_aload_n hx hb d_M_thrown_0 rfl (lv_at hl 0 rfl) ?_
  refine va_get (D := (dC, dI)) (ci := 4) (v := .int (xM.2 0)) (C := "ReleaseRowsModel") (T := T_M) (N := 27) hx hb hts in_M hown hK hP 0 rfl rfl 0 (by decide) (hts _ k_576) (fun _ h9 => h9) rfl d_M_thrown_1 ?_
  exact hret (xM.2 0) () _ _ _ _ _ _ rfl hw hP hD hS (Nat.le_of_ble_eq_true rfl) (Nat.le_of_ble_eq_true rfl) d_M_thrown_4

def wl_M_tick_43 (xM : St) (a1 : Int32) (post : Int32 → St → Prop) : Nat → St → Int32 → Int32 → Prop
  | 0 => fun _ _ _ => False
  | n9 + 1 => fun xM_ v2_ v3_ => (a1 ≤ v3_ → (post v2_ xM_)) ∧ (¬ a1 ≤ v3_ → (wp_M_settle (sF xM_ 1 ((xM_.2 1) + (1 : Int32))) (fun r60 u60 => (∀ v2_64 : Int32, v2_64 = (v2_ + r60) → (∀ v3_65 : Int32, v3_65 = v3_ + 1 → ((wl_M_tick_43 xM a1 post n9) u60 v2_64 v3_65))))))
def wj_M_tick_28 (xM : St) (a1 : Int32) (post : Int32 → St → Prop) (xM_ : St) (s0_ : Int32) : Prop := wp_M_throwing xM_ s0_ (0 : Int32) (0 : Int32) (0 : Int32) (fun r31 u31 => ((r31 = 0 → (∃ k9 : Nat, wl_M_tick_43 xM a1 post k9 u31 (0 : Int32) (0 : Int32))) ∧ (¬ r31 = 0 → (post (0 : Int32) u31))))
def wj_M_tick_23 (xM : St) (a1 : Int32) (post : Int32 → St → Prop) (xM_ : St) : Prop := wj_M_tick_28 xM a1 post xM_ (1 : Int32)
def wp_M_tick (xM : St) (a1 : Int32) (post : Int32 → St → Prop) : Prop := wp_M_in a1 (1 : Int32) (5000 : Int32) (fun r6 _ => ((r6 = 0 → (wj_M_tick_23 xM a1 post xM)) ∧ (¬ r6 = 0 → ((((xM.2 1) + a1) ≤ (999999 : Int32) → (wj_M_tick_28 xM a1 post xM (0 : Int32))) ∧ (¬ ((xM.2 1) + a1) ≤ (999999 : Int32) → (wj_M_tick_23 xM a1 post xM))))))
set_option maxHeartbeats 4000000 in
set_option maxRecDepth 100000 in
theorem c_M_tick (l : Launch) (dC : Nat → ClassId) (dI : Nat → Nat → Nat) (cI cZ cL : ClassId) (qM : Nat → Nat) (sz : Nat) (xM : St) (a1 : Int32) (post : Int32 → St → Prop) (hw : wp_M_tick xM a1 post) : Met l y_M_tick w_M_tick ({ frames := 4, cells := 0, slots := 0, locals := 90 } : Room) (va_Pc [.ref (qM 0), .int a1] (xP (dC, dI) vwCl [(cI, .int), (cZ, .boolean), (cL, .long)] (wd_M qM cI cZ cL xM) sz)) (va_Qi post (xB (dC, dI) vwCl [(cI, .int), (cZ, .boolean), (cL, .long)] (va_A (wd_M qM cI cZ cL xM) sz) (fun u => (wd_M qM cI cZ cL u))) (va_A (wd_M qM cI cZ cL xM) sz)) 0 0 (va_A (wd_M qM cI cZ cL xM) sz) := by
  refine x_ofI (cc := b_M_tick) (maxL := 4) (by decide) rfl (Nat.le_of_ble_eq_true rfl) (fun p e s m below meth c A Q hx hb hml hts hown hK hA hP hD hS hret ls hl => ?_)
  have hl : lv_has ls 4 [(0, .ref (qM 0)), (1, .int a1)] := hl
  have lp43 : ∀ (n43 : Nat) (xM_ : St) (v2_ : Int32) (v3_ : Int32) (H : Heap) (locs : List Loc) (ls : Array Slot), wl_M_tick_43 xM a1 post n43 xM_ v2_ v3_ → va_P (dC, dI) vwCl (wd_M qM cI cZ cL xM_) H → va_D A (wd_M qM cI cZ cL xM_) → va_S A s.heap H locs → lv_has ls 4 [(0, .ref (qM 0)), (1, .int a1), (2, .int v2_), (3, .int v3_)] → W p l e (headSpec w_M_tick ({ frames := 4, cells := 0, slots := 0, locals := 90 } : Room)).room s m ([.ref (qM 0), .int a1] : List Value).toArray below meth c H locs 0 0 Q (F0 m 43 ls []) := by
    intro n43
    induction n43 with
    | zero => intro xM_ v2_ v3_ H locs ls hw; exact hw.elim
    | succ n43 ih43 =>
      intro xM_ v2_ v3_ H locs ls hw hP hD hS hl
      unfold wl_M_tick_43 at hw
      refine lv_iload_n hx hb d_M_tick_43 rfl (lv_at hl 3 rfl) ?_
      refine lv_iload_n hx hb d_M_tick_44 rfl (lv_at hl 1 rfl) ?_
      refine lv_icmp_ge (tgt := 71) hx hb d_M_tick_45 (by decide) (fun c45 => ?_) (fun c45 => ?_)
      · have hw := hw.1 c45
        refine lv_iload_n hx hb d_M_tick_71 rfl (lv_at hl 2 rfl) ?_
        exact hret v2_ xM_ _ _ _ _ _ _ rfl hw hP hD hS (Nat.le_of_ble_eq_true rfl) (Nat.le_of_ble_eq_true rfl) d_M_tick_72
      · have hw := hw.2 c45
        refine lv_aload_n hx hb d_M_tick_48 rfl (lv_at hl 0 rfl) ?_
        refine lv_dup hx hb d_M_tick_49 rfl ?_
        refine va_get (D := (dC, dI)) (ci := 4) (v := .int (xM_.2 1)) (C := "ReleaseRowsModel") (T := T_M) (N := 27) hx hb hts in_M hown hK hP 0 rfl rfl 1 (by decide) (hts _ k_577) (fun _ h9 => h9) rfl d_M_tick_50 ?_
        refine lv_iconst (v := (1 : Int32)) hx hb d_M_tick_53 (by decide) ?_
        refine lv_iadd hx hb d_M_tick_54 ?_
        refine va_put (D := (dC, dI)) (ci := 4) (v := .int ((xM_.2 1) + (1 : Int32))) (ty := .int) (C := "ReleaseRowsModel") (T := T_M) (N := 27) hx hb hts in_M ty_M tyok_M nm_M hown hK hP hD hS 0 rfl rfl 1 (by decide) (hts _ k_577) (fun _ h9 => h9) rfl (by decide +kernel) rfl rfl (Nat.le_of_ble_eq_true rfl) d_M_tick_55 (fun H locs hP hD hS => ?_)
        have hP := wsP_M_M1 hP
        have hD := wsD_M_M1 hD
        refine lv_iload_n hx hb d_M_tick_58 rfl (lv_at hl 2 rfl) ?_
        refine lv_aload_n hx hb d_M_tick_59 rfl (lv_at hl 0 rfl) ?_
        refine x_ci (w2 := fun u60 => (wd_M qM cI cZ cL u60)) [0, 1, 2, 3, 4, 5, 6, 7, 8, 9, 10, 11, 12, 13, 14, 15, 16, 17, 18, 19, 20, 21] [] [0, 1, 2, 3, 4, 5, 6, 7, 8, 9, 10, 11, 12, 13, 14, 15, 16, 17, 18, 19, 20, 21] (va_runV (As := []) (rest := [.int v2_]) ⟨hx, hb, hml, hown, hts⟩ (c_M_settle l dC dI cI cZ cL qM _ (sF xM_ 1 ((xM_.2 1) + (1 : Int32))) _ hw) (cwV 0 hts (x_gV k_674 k_676 k_11 k_30 k_677) rfl rfl rfl (by decide +kernel) ⟨Nat.le_of_ble_eq_true rfl, Nat.le_of_ble_eq_true rfl⟩) ⟨x_blind, va_recv hK hP (ci := 4) (q0 := 0) rfl rfl, fun U hU hW => x_pre (isC := [0, 1, 2, 3, 4, 5, 6, 7, 8, 9, 10, 11, 12, 13, 14, 15, 16, 17, 18, 19, 20, 21]) hK hP hD rfl rfl hU hW⟩ rfl rfl hl.1 rfl (lv_room (Nat.le_of_ble_eq_true rfl)) d_M_tick_60 ⟨Nat.le_of_ble_eq_true rfl, Nat.le_of_ble_eq_true rfl⟩) hP hD hS hA rfl rfl rfl (by decide) (fun _ => rfl) rfl (fun r60 u60 H locs hw hP hD hS => ?_)
        refine lv_iadd hx hb d_M_tick_63 ?_
        refine lv_topi (fun v2_64 ev2_64 => ?_)
        have hw := hw v2_64 ev2_64
        refine lv_istore_n (lv' := [(2, .int v2_64), (0, .ref (qM 0)), (1, .int a1), (3, .int v3_)]) hx hb d_M_tick_64 rfl hl (by decide) rfl (fun ls hl => ?_)
        obtain ⟨v3_65, ev3_65⟩ : ∃ y : Int32, y = v3_ + 1 := ⟨_, rfl⟩
        have hw := hw v3_65 ev3_65
        refine lv_iinc (v := v3_65) (lv' := [(3, .int v3_65), (2, .int v2_64), (0, .ref (qM 0)), (1, .int a1)]) hx hb d_M_tick_65 hl (k := 3) rfl (by rw [ev3_65]; rfl) (by decide) rfl (fun ls hl => ?_)
        refine lv_goto (tgt := 43) hx hb d_M_tick_68 (by decide) ?_
        exact ih43 u60 v2_64 v3_65 _ _ _ hw hP hD hS (lv_sub hl [2, 3, 1, 0] rfl)
  have jn28 : ∀ (xM_ : St) (s0_ : Int32) (H : Heap) (locs : List Loc) (ls : Array Slot), wj_M_tick_28 xM a1 post xM_ s0_ → va_P (dC, dI) vwCl (wd_M qM cI cZ cL xM_) H → va_D A (wd_M qM cI cZ cL xM_) → va_S A s.heap H locs → lv_has ls 4 [(0, .ref (qM 0)), (1, .int a1)] → W p l e (headSpec w_M_tick ({ frames := 4, cells := 0, slots := 0, locals := 90 } : Room)).room s m ([.ref (qM 0), .int a1] : List Value).toArray below meth c H locs 0 0 Q (F0 m 28 ls [.int s0_, .ref (qM 0)]) := by
    intro xM_ s0_ H locs ls hw hP hD hS hl
    unfold wj_M_tick_28 at hw
    refine lv_iconst (v := (0 : Int32)) hx hb d_M_tick_28 (by decide) ?_
    refine lv_iconst (v := (0 : Int32)) hx hb d_M_tick_29 (by decide) ?_
    refine lv_iconst (v := (0 : Int32)) hx hb d_M_tick_30 (by decide) ?_
    refine x_ci (w2 := fun u31 => (wd_M qM cI cZ cL u31)) [0, 1, 2, 3, 4, 5, 6, 7, 8, 9, 10, 11, 12, 13, 14, 15, 16, 17, 18, 19, 20, 21] [] [0, 1, 2, 3, 4, 5, 6, 7, 8, 9, 10, 11, 12, 13, 14, 15, 16, 17, 18, 19, 20, 21] (va_runV (As := [.int s0_, .int (0 : Int32), .int (0 : Int32), .int (0 : Int32)]) (rest := []) ⟨hx, hb, hml, hown, hts⟩ (c_M_throwing l dC dI cI cZ cL qM _ xM_ s0_ (0 : Int32) (0 : Int32) (0 : Int32) _ hw) (cwV 4 hts (x_gV k_670 k_672 k_10 k_30 k_673) rfl rfl rfl (by decide +kernel) ⟨Nat.le_of_ble_eq_true rfl, Nat.le_of_ble_eq_true rfl⟩) ⟨x_blind, va_recv hK hP (ci := 4) (q0 := 0) rfl rfl, fun U hU hW => x_pre (isC := [0, 1, 2, 3, 4, 5, 6, 7, 8, 9, 10, 11, 12, 13, 14, 15, 16, 17, 18, 19, 20, 21]) hK hP hD rfl rfl hU hW⟩ rfl rfl hl.1 rfl (lv_room (Nat.le_of_ble_eq_true rfl)) d_M_tick_31 ⟨Nat.le_of_ble_eq_true rfl, Nat.le_of_ble_eq_true rfl⟩) hP hD hS hA rfl rfl rfl (by decide) (fun _ => rfl) rfl (fun r31 u31 H locs hw hP hD hS => ?_)
    refine lv_if_eq (tgt := 39) hx hb d_M_tick_34 (by decide) (fun c34 => ?_) (fun c34 => ?_)
    · have hw := hw.1 c34
      refine lv_iconst (v := (0 : Int32)) hx hb d_M_tick_39 (by decide) ?_
      refine lv_istore_n (lv' := [(2, .int (0 : Int32)), (0, .ref (qM 0)), (1, .int a1)]) hx hb d_M_tick_40 rfl hl (by decide) rfl (fun ls hl => ?_)
      refine lv_iconst (v := (0 : Int32)) hx hb d_M_tick_41 (by decide) ?_
      refine lv_istore_n (lv' := [(3, .int (0 : Int32)), (2, .int (0 : Int32)), (0, .ref (qM 0)), (1, .int a1)]) hx hb d_M_tick_42 rfl hl (by decide) rfl (fun ls hl => ?_)
      obtain ⟨n9, hw⟩ := hw
      exact lp43 n9 u31 (0 : Int32) (0 : Int32) _ _ _ hw hP hD hS (lv_sub hl [2, 3, 1, 0] rfl)
    · have hw := hw.2 c34
      refine lv_iconst (v := (0 : Int32)) hx hb d_M_tick_37 (by decide) ?_
      exact hret (0 : Int32) u31 _ _ _ _ _ _ rfl hw hP hD hS (Nat.le_of_ble_eq_true rfl) (Nat.le_of_ble_eq_true rfl) d_M_tick_38
  have jn23 : ∀ (xM_ : St) (H : Heap) (locs : List Loc) (ls : Array Slot), wj_M_tick_23 xM a1 post xM_ → va_P (dC, dI) vwCl (wd_M qM cI cZ cL xM_) H → va_D A (wd_M qM cI cZ cL xM_) → va_S A s.heap H locs → lv_has ls 4 [(0, .ref (qM 0)), (1, .int a1)] → W p l e (headSpec w_M_tick ({ frames := 4, cells := 0, slots := 0, locals := 90 } : Room)).room s m ([.ref (qM 0), .int a1] : List Value).toArray below meth c H locs 0 0 Q (F0 m 23 ls [.ref (qM 0)]) := by
    intro xM_ H locs ls hw hP hD hS hl
    unfold wj_M_tick_23 at hw
    refine lv_iconst (v := (1 : Int32)) hx hb d_M_tick_23 (by decide) ?_
    refine lv_goto (tgt := 28) hx hb d_M_tick_24 (by decide) ?_
    exact jn28 xM_ (1 : Int32) _ _ _ hw hP hD hS hl
  unfold wp_M_tick at hw
  refine lv_aload_n hx hb d_M_tick_0 rfl (lv_at hl 0 rfl) ?_
  refine lv_iload_n hx hb d_M_tick_1 rfl (lv_at hl 1 rfl) ?_
  refine lv_iconst (v := (1 : Int32)) hx hb d_M_tick_2 (by decide) ?_
  refine lv_sipush (v := (5000 : Int32)) hx hb d_M_tick_3 (by decide) ?_
  refine x_ci (w2 := fun _ => (wd_M qM cI cZ cL xM)) [] [0, 1, 2, 3, 4, 5, 6, 7, 8, 9, 10, 11, 12, 13, 14, 15, 16, 17, 18, 19, 20, 21] [0, 1, 2, 3, 4, 5, 6, 7, 8, 9, 10, 11, 12, 13, 14, 15, 16, 17, 18, 19, 20, 21] (va_runS (As := [.int a1, .int (1 : Int32), .int (5000 : Int32)]) (rest := [.ref (qM 0)]) ⟨hx, hb, hml, hown, hts⟩ (c_M_in l dC dI cI cZ cL  _ a1 (1 : Int32) (5000 : Int32) _ hw) (cwS 3 hts (x_gS k_667 k_668 k_30 k_669) rfl rfl rfl (by decide +kernel) ⟨Nat.le_of_ble_eq_true rfl, Nat.le_of_ble_eq_true rfl⟩) ⟨x_blind, fun U hU hW => x_pre (isC := []) hK hP hD rfl rfl hU hW⟩ rfl rfl hl.1 rfl (lv_room (Nat.le_of_ble_eq_true rfl)) d_M_tick_6 ⟨Nat.le_of_ble_eq_true rfl, Nat.le_of_ble_eq_true rfl⟩) hP hD hS hA rfl rfl rfl (by decide) (fun _ => rfl) rfl (fun r6 _ H locs hw hP hD hS => ?_)
  refine lv_if_eq (tgt := 23) hx hb d_M_tick_9 (by decide) (fun c9 => ?_) (fun c9 => ?_)
  · have hw := hw.1 c9
    exact jn23 xM _ _ _ hw hP hD hS hl
  · have hw := hw.2 c9
    refine lv_aload_n hx hb d_M_tick_12 rfl (lv_at hl 0 rfl) ?_
    refine va_get (D := (dC, dI)) (ci := 4) (v := .int (xM.2 1)) (C := "ReleaseRowsModel") (T := T_M) (N := 27) hx hb hts in_M hown hK hP 0 rfl rfl 1 (by decide) (hts _ k_577) (fun _ h9 => h9) rfl d_M_tick_13 ?_
    refine lv_iload_n hx hb d_M_tick_16 rfl (lv_at hl 1 rfl) ?_
    refine lv_iadd hx hb d_M_tick_17 ?_
    refine lv_ldc (v := (999999 : Int32)) hx hb hown (hts _ k_731) d_M_tick_18 ?_
    refine lv_icmp_le (tgt := 27) hx hb d_M_tick_20 (by decide) (fun c20 => ?_) (fun c20 => ?_)
    · have hw := hw.1 c20
      refine lv_iconst (v := (0 : Int32)) hx hb d_M_tick_27 (by decide) ?_
      exact jn28 xM (0 : Int32) _ _ _ hw hP hD hS hl
    · have hw := hw.2 c20
      exact jn23 xM _ _ _ hw hP hD hS hl

def wj_M_found_98 (xM : St) (a1 : Int32) (a2 : Int32) (post : Int32 → Unit → Prop) (rec5 : Int32 → Int32 → Prop) (v3_ : Int32) (v4_ : Int32) : Prop := ∀ v4_98 : Int32, v4_98 = v4_ + 1 → (rec5 v3_ v4_98)
def wj_M_found_95 (xM : St) (a1 : Int32) (a2 : Int32) (post : Int32 → Unit → Prop) (rec5 : Int32 → Int32 → Prop) (v4_ : Int32) : Prop := wj_M_found_98 xM a1 a2 post rec5 v4_ v4_
def wj_M_found_64 (xM : St) (a1 : Int32) (a2 : Int32) (post : Int32 → Unit → Prop) (rec5 : Int32 → Int32 → Prop) (s0_ : Int32) (v3_ : Int32) (v4_ : Int32) : Prop := (s0_ = 0 → (wj_M_found_98 xM a1 a2 post rec5 v3_ v4_)) ∧ (¬ s0_ = 0 → ((v3_ < 0 → (wj_M_found_95 xM a1 a2 post rec5 v4_)) ∧ (¬ v3_ < 0 → ((¬ a2 = 0 → (wj_M_found_95 xM a1 a2 post rec5 v4_)) ∧ (a2 = 0 → (vp_in v4_ 20 ∧ (vp_in v3_ 20 ∧ (((xM.1 24 v4_.toNatClampNeg) < (xM.1 24 v3_.toNatClampNeg) → (wj_M_found_98 xM a1 a2 post rec5 v3_ v4_)) ∧ (¬ (xM.1 24 v4_.toNatClampNeg) < (xM.1 24 v3_.toNatClampNeg) → (wj_M_found_95 xM a1 a2 post rec5 v4_))))))))))
def wj_M_found_63 (xM : St) (a1 : Int32) (a2 : Int32) (post : Int32 → Unit → Prop) (rec5 : Int32 → Int32 → Prop) (v3_ : Int32) (v4_ : Int32) : Prop := wj_M_found_64 xM a1 a2 post rec5 (0 : Int32) v3_ v4_
def wj_M_found_59 (xM : St) (a1 : Int32) (a2 : Int32) (post : Int32 → Unit → Prop) (rec5 : Int32 → Int32 → Prop) (v3_ : Int32) (v4_ : Int32) : Prop := wj_M_found_64 xM a1 a2 post rec5 (1 : Int32) v3_ v4_
def wl_M_found_5 (xM : St) (a1 : Int32) (a2 : Int32) (post : Int32 → Unit → Prop) : Nat → Int32 → Int32 → Prop
  | 0 => fun _ _ => False
  | n9 + 1 => fun v3_ v4_ => ((xM.2 15) ≤ v4_ → (post v3_ ())) ∧ (¬ (xM.2 15) ≤ v4_ → (vp_in v4_ 20 ∧ ((¬ (xM.1 16 v4_.toNatClampNeg) = a1 → (wj_M_found_63 xM a1 a2 post (wl_M_found_5 xM a1 a2 post n9) v3_ v4_)) ∧ ((xM.1 16 v4_.toNatClampNeg) = a1 → (vp_in v4_ 20 ∧ ((¬ (xM.1 17 v4_.toNatClampNeg) = a2 → (wj_M_found_63 xM a1 a2 post (wl_M_found_5 xM a1 a2 post n9) v3_ v4_)) ∧ ((xM.1 17 v4_.toNatClampNeg) = a2 → ((¬ a2 = 0 → (wj_M_found_59 xM a1 a2 post (wl_M_found_5 xM a1 a2 post n9) v3_ v4_)) ∧ (a2 = 0 → (vp_in v4_ 20 ∧ (((xM.2 2) < ((xM.2 1) - (xM.1 24 v4_.toNatClampNeg)) → (wj_M_found_63 xM a1 a2 post (wl_M_found_5 xM a1 a2 post n9) v3_ v4_)) ∧ (¬ (xM.2 2) < ((xM.2 1) - (xM.1 24 v4_.toNatClampNeg)) → (wj_M_found_59 xM a1 a2 post (wl_M_found_5 xM a1 a2 post n9) v3_ v4_)))))))))))))
def wp_M_found (xM : St) (a1 : Int32) (a2 : Int32) (post : Int32 → Unit → Prop) : Prop := ∃ k9 : Nat, wl_M_found_5 xM a1 a2 post k9 (-1 : Int32) (0 : Int32)
set_option maxHeartbeats 4000000 in
set_option maxRecDepth 100000 in
theorem c_M_found (l : Launch) (dC : Nat → ClassId) (dI : Nat → Nat → Nat) (cI cZ cL : ClassId) (qM : Nat → Nat) (sz : Nat) (xM : St) (a1 : Int32) (a2 : Int32) (post : Int32 → Unit → Prop) (hw : wp_M_found xM a1 a2 post) : Met l y_M_found w_M_found ({ frames := 0, cells := 0, slots := 0, locals := 0 } : Room) (va_Pc [.ref (qM 0), .int a1, .int a2] (xP (dC, dI) vwCl [(cI, .int), (cZ, .boolean), (cL, .long)] (wd_M qM cI cZ cL xM) sz)) (va_Qi post (xB (dC, dI) vwCl [(cI, .int), (cZ, .boolean), (cL, .long)] (va_A (wd_M qM cI cZ cL xM) sz) (fun _ => (wd_M qM cI cZ cL xM))) (va_A (wd_M qM cI cZ cL xM) sz)) 0 0 (va_A (wd_M qM cI cZ cL xM) sz) := by
  refine x_ofI (cc := b_M_found) (maxL := 6) (by decide) rfl (Nat.le_of_ble_eq_true rfl) (fun p e s m below meth c A Q hx hb hml hts hown hK hA hP hD hS hret ls hl => ?_)
  have hl : lv_has ls 6 [(0, .ref (qM 0)), (1, .int a1), (2, .int a2)] := hl
  have lp5 : ∀ (n5 : Nat) (v3_ : Int32) (v4_ : Int32) (H : Heap) (locs : List Loc) (ls : Array Slot), wl_M_found_5 xM a1 a2 post n5 v3_ v4_ → va_P (dC, dI) vwCl (wd_M qM cI cZ cL xM) H → va_D A (wd_M qM cI cZ cL xM) → va_S A s.heap H locs → lv_has ls 6 [(0, .ref (qM 0)), (1, .int a1), (2, .int a2), (3, .int v3_), (4, .int v4_)] → W p l e (headSpec w_M_found ({ frames := 0, cells := 0, slots := 0, locals := 0 } : Room)).room s m ([.ref (qM 0), .int a1, .int a2] : List Value).toArray below meth c H locs 0 0 Q (F0 m 5 ls []) := by
    intro n5
    induction n5 with
    | zero => intro v3_ v4_ H locs ls hw; exact hw.elim
    | succ n5 ih5 =>
      have jn98 : ∀ (v3_ : Int32) (v4_ : Int32) (H : Heap) (locs : List Loc) (ls : Array Slot), wj_M_found_98 xM a1 a2 post (wl_M_found_5 xM a1 a2 post n5) v3_ v4_ → va_P (dC, dI) vwCl (wd_M qM cI cZ cL xM) H → va_D A (wd_M qM cI cZ cL xM) → va_S A s.heap H locs → lv_has ls 6 [(0, .ref (qM 0)), (1, .int a1), (2, .int a2), (3, .int v3_), (4, .int v4_)] → W p l e (headSpec w_M_found ({ frames := 0, cells := 0, slots := 0, locals := 0 } : Room)).room s m ([.ref (qM 0), .int a1, .int a2] : List Value).toArray below meth c H locs 0 0 Q (F0 m 98 ls []) := by
        intro v3_ v4_ H locs ls hw hP hD hS hl
        unfold wj_M_found_98 at hw
        obtain ⟨v4_98, ev4_98⟩ : ∃ y : Int32, y = v4_ + 1 := ⟨_, rfl⟩
        have hw := hw v4_98 ev4_98
        refine lv_iinc (v := v4_98) (lv' := [(4, .int v4_98), (0, .ref (qM 0)), (1, .int a1), (2, .int a2), (3, .int v3_)]) hx hb d_M_found_98 hl (k := 4) rfl (by rw [ev4_98]; rfl) (by decide) rfl (fun ls hl => ?_)
        refine lv_goto (tgt := 5) hx hb d_M_found_101 (by decide) ?_
        exact ih5 v3_ v4_98 _ _ _ hw hP hD hS (lv_sub hl [1, 2, 3, 4, 0] rfl)
      have jn95 : ∀ (v4_ : Int32) (H : Heap) (locs : List Loc) (ls : Array Slot), wj_M_found_95 xM a1 a2 post (wl_M_found_5 xM a1 a2 post n5) v4_ → va_P (dC, dI) vwCl (wd_M qM cI cZ cL xM) H → va_D A (wd_M qM cI cZ cL xM) → va_S A s.heap H locs → lv_has ls 6 [(0, .ref (qM 0)), (1, .int a1), (2, .int a2), (4, .int v4_)] → W p l e (headSpec w_M_found ({ frames := 0, cells := 0, slots := 0, locals := 0 } : Room)).room s m ([.ref (qM 0), .int a1, .int a2] : List Value).toArray below meth c H locs 0 0 Q (F0 m 95 ls []) := by
        intro v4_ H locs ls hw hP hD hS hl
        unfold wj_M_found_95 at hw
        refine lv_iload hx hb d_M_found_95 (lv_at hl 3 rfl) ?_
        refine lv_istore_n (lv' := [(3, .int v4_), (0, .ref (qM 0)), (1, .int a1), (2, .int a2), (4, .int v4_)]) hx hb d_M_found_97 rfl hl (by decide) rfl (fun ls hl => ?_)
        exact jn98 v4_ v4_ _ _ _ hw hP hD hS (lv_sub hl [1, 2, 3, 0, 4] rfl)
      have jn64 : ∀ (s0_ : Int32) (v3_ : Int32) (v4_ : Int32) (H : Heap) (locs : List Loc) (ls : Array Slot), wj_M_found_64 xM a1 a2 post (wl_M_found_5 xM a1 a2 post n5) s0_ v3_ v4_ → va_P (dC, dI) vwCl (wd_M qM cI cZ cL xM) H → va_D A (wd_M qM cI cZ cL xM) → va_S A s.heap H locs → lv_has ls 6 [(0, .ref (qM 0)), (1, .int a1), (2, .int a2), (3, .int v3_), (4, .int v4_)] → W p l e (headSpec w_M_found ({ frames := 0, cells := 0, slots := 0, locals := 0 } : Room)).room s m ([.ref (qM 0), .int a1, .int a2] : List Value).toArray below meth c H locs 0 0 Q (F0 m 64 ls [.int s0_]) := by
        intro s0_ v3_ v4_ H locs ls hw hP hD hS hl
        unfold wj_M_found_64 at hw
        refine lv_istore (lv' := [(5, .int s0_), (0, .ref (qM 0)), (1, .int a1), (2, .int a2), (3, .int v3_), (4, .int v4_)]) hx hb d_M_found_64 hl (by decide) rfl (fun ls hl => ?_)
        refine lv_iload hx hb d_M_found_66 (lv_at hl 0 rfl) ?_
        refine lv_if_eq (tgt := 98) hx hb d_M_found_68 (by decide) (fun c68 => ?_) (fun c68 => ?_)
        · have hw := hw.1 c68
          exact jn98 v3_ v4_ _ _ _ hw hP hD hS (lv_sub hl [1, 2, 3, 4, 5] rfl)
        · have hw := hw.2 c68
          refine lv_iload_n hx hb d_M_found_71 rfl (lv_at hl 4 rfl) ?_
          refine lv_if_lt (tgt := 95) hx hb d_M_found_72 (by decide) (fun c72 => ?_) (fun c72 => ?_)
          · have hw := hw.1 c72
            exact jn95 v4_ _ _ _ hw hP hD hS (lv_sub hl [1, 2, 3, 5] rfl)
          · have hw := hw.2 c72
            refine lv_iload_n hx hb d_M_found_75 rfl (lv_at hl 3 rfl) ?_
            refine lv_if_ne (tgt := 95) hx hb d_M_found_76 (by decide) (fun c76 => ?_) (fun c76 => ?_)
            · have hw := hw.1 c76
              exact jn95 v4_ _ _ _ hw hP hD hS (lv_sub hl [1, 2, 3, 5] rfl)
            · have hw := hw.2 c76
              refine lv_aload_n hx hb d_M_found_79 rfl (lv_at hl 1 rfl) ?_
              refine va_get (D := (dC, dI)) (ci := 4) (v := .ref (qM 25)) (C := "ReleaseRowsModel") (T := T_M) (N := 27) hx hb hts in_M hown hK hP 0 rfl rfl 24 (by decide) (hts _ k_600) (fun _ h9 => h9) rfl d_M_found_80 ?_
              refine lv_iload hx hb d_M_found_83 (lv_at hl 5 rfl) ?_
              obtain ⟨h85, hw⟩ := hw
              refine va_iald hx hb hK hP 20 0 rfl rfl h85 d_M_found_85 ?_
              refine lv_aload_n hx hb d_M_found_86 rfl (lv_at hl 1 rfl) ?_
              refine va_get (D := (dC, dI)) (ci := 4) (v := .ref (qM 25)) (C := "ReleaseRowsModel") (T := T_M) (N := 27) hx hb hts in_M hown hK hP 0 rfl rfl 24 (by decide) (hts _ k_600) (fun _ h9 => h9) rfl d_M_found_87 ?_
              refine lv_iload_n hx hb d_M_found_90 rfl (lv_at hl 4 rfl) ?_
              obtain ⟨h91, hw⟩ := hw
              refine va_iald hx hb hK hP 20 0 rfl rfl h91 d_M_found_91 ?_
              refine lv_icmp_lt (tgt := 98) hx hb d_M_found_92 (by decide) (fun c92 => ?_) (fun c92 => ?_)
              · have hw := hw.1 c92
                exact jn98 v3_ v4_ _ _ _ hw hP hD hS (lv_sub hl [1, 2, 3, 4, 5] rfl)
              · have hw := hw.2 c92
                exact jn95 v4_ _ _ _ hw hP hD hS (lv_sub hl [1, 2, 3, 5] rfl)
      have jn63 : ∀ (v3_ : Int32) (v4_ : Int32) (H : Heap) (locs : List Loc) (ls : Array Slot), wj_M_found_63 xM a1 a2 post (wl_M_found_5 xM a1 a2 post n5) v3_ v4_ → va_P (dC, dI) vwCl (wd_M qM cI cZ cL xM) H → va_D A (wd_M qM cI cZ cL xM) → va_S A s.heap H locs → lv_has ls 6 [(0, .ref (qM 0)), (1, .int a1), (2, .int a2), (3, .int v3_), (4, .int v4_)] → W p l e (headSpec w_M_found ({ frames := 0, cells := 0, slots := 0, locals := 0 } : Room)).room s m ([.ref (qM 0), .int a1, .int a2] : List Value).toArray below meth c H locs 0 0 Q (F0 m 63 ls []) := by
        intro v3_ v4_ H locs ls hw hP hD hS hl
        unfold wj_M_found_63 at hw
        refine lv_iconst (v := (0 : Int32)) hx hb d_M_found_63 (by decide) ?_
        exact jn64 (0 : Int32) v3_ v4_ _ _ _ hw hP hD hS hl
      have jn59 : ∀ (v3_ : Int32) (v4_ : Int32) (H : Heap) (locs : List Loc) (ls : Array Slot), wj_M_found_59 xM a1 a2 post (wl_M_found_5 xM a1 a2 post n5) v3_ v4_ → va_P (dC, dI) vwCl (wd_M qM cI cZ cL xM) H → va_D A (wd_M qM cI cZ cL xM) → va_S A s.heap H locs → lv_has ls 6 [(0, .ref (qM 0)), (1, .int a1), (2, .int a2), (3, .int v3_), (4, .int v4_)] → W p l e (headSpec w_M_found ({ frames := 0, cells := 0, slots := 0, locals := 0 } : Room)).room s m ([.ref (qM 0), .int a1, .int a2] : List Value).toArray below meth c H locs 0 0 Q (F0 m 59 ls []) := by
        intro v3_ v4_ H locs ls hw hP hD hS hl
        unfold wj_M_found_59 at hw
        refine lv_iconst (v := (1 : Int32)) hx hb d_M_found_59 (by decide) ?_
        refine lv_goto (tgt := 64) hx hb d_M_found_60 (by decide) ?_
        exact jn64 (1 : Int32) v3_ v4_ _ _ _ hw hP hD hS hl
      intro v3_ v4_ H locs ls hw hP hD hS hl
      unfold wl_M_found_5 at hw
      refine lv_iload hx hb d_M_found_5 (lv_at hl 4 rfl) ?_
      refine lv_aload_n hx hb d_M_found_7 rfl (lv_at hl 0 rfl) ?_
      refine va_get (D := (dC, dI)) (ci := 4) (v := .int (xM.2 15)) (C := "ReleaseRowsModel") (T := T_M) (N := 27) hx hb hts in_M hown hK hP 0 rfl rfl 15 (by decide) (hts _ k_591) (fun _ h9 => h9) rfl d_M_found_8 ?_
      refine lv_icmp_ge (tgt := 104) hx hb d_M_found_11 (by decide) (fun c11 => ?_) (fun c11 => ?_)
      · have hw := hw.1 c11
        refine lv_iload_n hx hb d_M_found_104 rfl (lv_at hl 3 rfl) ?_
        exact hret v3_ () _ _ _ _ _ _ rfl hw hP hD hS (Nat.le_of_ble_eq_true rfl) (Nat.le_of_ble_eq_true rfl) d_M_found_105
      · have hw := hw.2 c11
        refine lv_aload_n hx hb d_M_found_14 rfl (lv_at hl 0 rfl) ?_
        refine va_get (D := (dC, dI)) (ci := 4) (v := .ref (qM 17)) (C := "ReleaseRowsModel") (T := T_M) (N := 27) hx hb hts in_M hown hK hP 0 rfl rfl 16 (by decide) (hts _ k_592) (fun _ h9 => h9) rfl d_M_found_15 ?_
        refine lv_iload hx hb d_M_found_18 (lv_at hl 4 rfl) ?_
        obtain ⟨h20, hw⟩ := hw
        refine va_iald hx hb hK hP 12 0 rfl rfl h20 d_M_found_20 ?_
        refine lv_iload_n hx hb d_M_found_21 rfl (lv_at hl 1 rfl) ?_
        refine lv_icmp_ne (tgt := 63) hx hb d_M_found_22 (by decide) (fun c22 => ?_) (fun c22 => ?_)
        · have hw := hw.1 c22
          exact jn63 v3_ v4_ _ _ _ hw hP hD hS hl
        · have hw := hw.2 c22
          refine lv_aload_n hx hb d_M_found_25 rfl (lv_at hl 0 rfl) ?_
          refine va_get (D := (dC, dI)) (ci := 4) (v := .ref (qM 18)) (C := "ReleaseRowsModel") (T := T_M) (N := 27) hx hb hts in_M hown hK hP 0 rfl rfl 17 (by decide) (hts _ k_593) (fun _ h9 => h9) rfl d_M_found_26 ?_
          refine lv_iload hx hb d_M_found_29 (lv_at hl 4 rfl) ?_
          obtain ⟨h31, hw⟩ := hw
          refine va_zald hx hb hK hP 13 1 rfl rfl h31 d_M_found_31 ?_
          refine lv_iload_n hx hb d_M_found_32 rfl (lv_at hl 2 rfl) ?_
          refine lv_icmp_ne (tgt := 63) hx hb d_M_found_33 (by decide) (fun c33 => ?_) (fun c33 => ?_)
          · have hw := hw.1 c33
            exact jn63 v3_ v4_ _ _ _ hw hP hD hS hl
          · have hw := hw.2 c33
            refine lv_iload_n hx hb d_M_found_36 rfl (lv_at hl 2 rfl) ?_
            refine lv_if_ne (tgt := 59) hx hb d_M_found_37 (by decide) (fun c37 => ?_) (fun c37 => ?_)
            · have hw := hw.1 c37
              exact jn59 v3_ v4_ _ _ _ hw hP hD hS hl
            · have hw := hw.2 c37
              refine lv_aload_n hx hb d_M_found_40 rfl (lv_at hl 0 rfl) ?_
              refine va_get (D := (dC, dI)) (ci := 4) (v := .int (xM.2 1)) (C := "ReleaseRowsModel") (T := T_M) (N := 27) hx hb hts in_M hown hK hP 0 rfl rfl 1 (by decide) (hts _ k_577) (fun _ h9 => h9) rfl d_M_found_41 ?_
              refine lv_aload_n hx hb d_M_found_44 rfl (lv_at hl 0 rfl) ?_
              refine va_get (D := (dC, dI)) (ci := 4) (v := .ref (qM 25)) (C := "ReleaseRowsModel") (T := T_M) (N := 27) hx hb hts in_M hown hK hP 0 rfl rfl 24 (by decide) (hts _ k_600) (fun _ h9 => h9) rfl d_M_found_45 ?_
              refine lv_iload hx hb d_M_found_48 (lv_at hl 4 rfl) ?_
              obtain ⟨h50, hw⟩ := hw
              refine va_iald hx hb hK hP 20 0 rfl rfl h50 d_M_found_50 ?_
              refine lv_isub hx hb d_M_found_51 ?_
              refine lv_aload_n hx hb d_M_found_52 rfl (lv_at hl 0 rfl) ?_
              refine va_get (D := (dC, dI)) (ci := 4) (v := .int (xM.2 2)) (C := "ReleaseRowsModel") (T := T_M) (N := 27) hx hb hts in_M hown hK hP 0 rfl rfl 2 (by decide) (hts _ k_578) (fun _ h9 => h9) rfl d_M_found_53 ?_
              refine lv_icmp_gt (tgt := 63) hx hb d_M_found_56 (by decide) (fun c56 => ?_) (fun c56 => ?_)
              · have hw := hw.1 c56
                exact jn63 v3_ v4_ _ _ _ hw hP hD hS hl
              · have hw := hw.2 c56
                exact jn59 v3_ v4_ _ _ _ hw hP hD hS hl
  unfold wp_M_found at hw
  refine lv_iconst (v := (-1 : Int32)) hx hb d_M_found_0 (by decide) ?_
  refine lv_istore_n (lv' := [(3, .int (-1 : Int32)), (0, .ref (qM 0)), (1, .int a1), (2, .int a2)]) hx hb d_M_found_1 rfl hl (by decide) rfl (fun ls hl => ?_)
  refine lv_iconst (v := (0 : Int32)) hx hb d_M_found_2 (by decide) ?_
  refine lv_istore (lv' := [(4, .int (0 : Int32)), (3, .int (-1 : Int32)), (0, .ref (qM 0)), (1, .int a1), (2, .int a2)]) hx hb d_M_found_3 hl (by decide) rfl (fun ls hl => ?_)
  obtain ⟨n9, hw⟩ := hw
  exact lp5 n9 (-1 : Int32) (0 : Int32) _ _ _ hw hP hD hS (lv_sub hl [2, 3, 4, 1, 0] rfl)

def wj_M_call_230 (xM : St) (a1 : Int32) (a2 : Int32) (post : Int32 → St → Prop) (xM_ : St) (v4_ : Int32) : Prop := wp_M_settle xM_ (fun r231 u231 => (post v4_ u231))
def wj_M_call_205 (xM : St) (a1 : Int32) (a2 : Int32) (post : Int32 → St → Prop) (xM_ : St) (v4_ : Int32) : Prop := (a2 = 0 → (wj_M_call_230 xM a1 a2 post xM_ v4_)) ∧ (¬ a2 = 0 → (vp_in (xM_.2 25) 30 ∧ (wj_M_call_230 xM a1 a2 post (sF (sA xM_ 26 (xM_.2 25).toNatClampNeg v4_) 25 (((sA xM_ 26 (xM_.2 25).toNatClampNeg v4_).2 25) + (1 : Int32))) v4_)))
def wj_M_call_154 (xM : St) (a1 : Int32) (a2 : Int32) (post : Int32 → St → Prop) (xM_ : St) (v4_ : Int32) : Prop := vp_in v4_ 20 ∧ (vp_in v4_ 20 ∧ (vp_in v4_ 20 ∧ (vp_in v4_ 20 ∧ (vp_in v4_ 20 ∧ (vp_in v4_ 20 ∧ (vp_in v4_ 20 ∧ (wj_M_call_205 xM a1 a2 post (sA (sA (sA (sA (sA (sA xM_ 17 v4_.toNatClampNeg (vp_nar .boolean (1 : Int32))) 18 v4_.toNatClampNeg (vp_nar .boolean (0 : Int32))) 19 v4_.toNatClampNeg (0 : Int32)) 20 v4_.toNatClampNeg (0 : Int32)) 21 v4_.toNatClampNeg (-1 : Int32)) 22 v4_.toNatClampNeg (((sA (sA (sA (sA (sA xM_ 17 v4_.toNatClampNeg (vp_nar .boolean (1 : Int32))) 18 v4_.toNatClampNeg (vp_nar .boolean (0 : Int32))) 19 v4_.toNatClampNeg (0 : Int32)) 20 v4_.toNatClampNeg (0 : Int32)) 21 v4_.toNatClampNeg (-1 : Int32)).1 22 v4_.toNatClampNeg) + (1 : Int32))) v4_)))))))
def wj_M_call_121 (xM : St) (a1 : Int32) (a2 : Int32) (post : Int32 → St → Prop) (xM_ : St) (s0_ : Int32) (v5_ : Int32) : Prop := (0 ≤ v5_ → (wj_M_call_154 xM a1 a2 post xM_ s0_)) ∧ (¬ 0 ≤ v5_ → (vp_in s0_ 20 ∧ (vp_in s0_ 20 ∧ (wj_M_call_154 xM a1 a2 post (sF (sA (sA xM_ 16 s0_.toNatClampNeg a1) 24 s0_.toNatClampNeg (-1 : Int32)) 15 (((sA (sA xM_ 16 s0_.toNatClampNeg a1) 24 s0_.toNatClampNeg (-1 : Int32)).2 15) + (1 : Int32))) s0_))))
def wj_M_call_92 (xM : St) (a1 : Int32) (a2 : Int32) (post : Int32 → St → Prop) (xM_ : St) (s0_ : Int32) (s1_ : Int32) (v4_ : Int32) (v5_ : Int32) : Prop := wp_M_throwing xM_ s1_ s0_ (0 : Int32) (0 : Int32) (fun r94 u94 => ((r94 = 0 → ((0 ≤ v4_ → (wj_M_call_205 xM a1 a2 post u94 v4_)) ∧ (¬ 0 ≤ v4_ → ((v5_ < 0 → (wj_M_call_121 xM a1 a2 post u94 (u94.2 15) v5_)) ∧ (¬ v5_ < 0 → (wj_M_call_121 xM a1 a2 post u94 v5_ v5_)))))) ∧ (¬ r94 = 0 → (post (0 : Int32) u94))))
def wj_M_call_91 (xM : St) (a1 : Int32) (a2 : Int32) (post : Int32 → St → Prop) (xM_ : St) (s0_ : Int32) (v4_ : Int32) (v5_ : Int32) : Prop := wj_M_call_92 xM a1 a2 post xM_ (0 : Int32) s0_ v4_ v5_
def wj_M_call_87 (xM : St) (a1 : Int32) (a2 : Int32) (post : Int32 → St → Prop) (xM_ : St) (s0_ : Int32) (v4_ : Int32) (v5_ : Int32) : Prop := wj_M_call_92 xM a1 a2 post xM_ (1 : Int32) s0_ v4_ v5_
def wj_M_call_65 (xM : St) (a1 : Int32) (a2 : Int32) (post : Int32 → St → Prop) (xM_ : St) (s0_ : Int32) (v3_ : Int32) (v4_ : Int32) (v5_ : Int32) : Prop := (s0_ = 0 → (wj_M_call_87 xM a1 a2 post xM_ v3_ v4_ v5_)) ∧ (¬ s0_ = 0 → ((a2 = 0 → (wj_M_call_91 xM a1 a2 post xM_ v3_ v4_ v5_)) ∧ (¬ a2 = 0 → ((¬ (xM_.2 25) = (30 : Int32) → (wj_M_call_91 xM a1 a2 post xM_ v3_ v4_ v5_)) ∧ ((xM_.2 25) = (30 : Int32) → (wj_M_call_87 xM a1 a2 post xM_ v3_ v4_ v5_))))))
def wj_M_call_60 (xM : St) (a1 : Int32) (a2 : Int32) (post : Int32 → St → Prop) (xM_ : St) (v3_ : Int32) (v4_ : Int32) (v5_ : Int32) : Prop := wj_M_call_65 xM a1 a2 post xM_ (1 : Int32) v3_ v4_ v5_
def wj_M_call_39 (xM : St) (a1 : Int32) (a2 : Int32) (post : Int32 → St → Prop) (xM_ : St) (s0_ : Int32) (v3_ : Int32) (v4_ : Int32) : Prop := (0 ≤ v4_ → (wj_M_call_60 xM a1 a2 post xM_ v3_ v4_ s0_)) ∧ (¬ 0 ≤ v4_ → ((0 ≤ s0_ → (wj_M_call_60 xM a1 a2 post xM_ v3_ v4_ s0_)) ∧ (¬ 0 ≤ s0_ → (((20 : Int32) ≤ (xM_.2 15) → (wj_M_call_65 xM a1 a2 post xM_ (0 : Int32) v3_ v4_ s0_)) ∧ (¬ (20 : Int32) ≤ (xM_.2 15) → (wj_M_call_60 xM a1 a2 post xM_ v3_ v4_ s0_))))))
def wj_M_call_15 (xM : St) (a1 : Int32) (a2 : Int32) (post : Int32 → St → Prop) (xM_ : St) (s0_ : Int32) : Prop := wp_M_found xM_ a1 (1 : Int32) (fun r19 _ => ((0 ≤ r19 → (wj_M_call_39 xM a1 a2 post xM_ (-1 : Int32) s0_ r19)) ∧ (¬ 0 ≤ r19 → (wp_M_found xM_ a1 (0 : Int32) (fun r32 _ => (wj_M_call_39 xM a1 a2 post xM_ r32 s0_ r19))))))
def wp_M_call (xM : St) (a1 : Int32) (a2 : Int32) (post : Int32 → St → Prop) : Prop := wp_M_in a1 (0 : Int32) (99 : Int32) (fun r4 _ => ((¬ r4 = 0 → (wj_M_call_15 xM a1 a2 post xM (0 : Int32))) ∧ (r4 = 0 → (wj_M_call_15 xM a1 a2 post xM (1 : Int32)))))
set_option maxHeartbeats 4000000 in
set_option maxRecDepth 100000 in
theorem c_M_call (l : Launch) (dC : Nat → ClassId) (dI : Nat → Nat → Nat) (cI cZ cL : ClassId) (qM : Nat → Nat) (sz : Nat) (xM : St) (a1 : Int32) (a2 : Int32) (post : Int32 → St → Prop) (hw : wp_M_call xM a1 a2 post) : Met l y_M_call w_M_call ({ frames := 4, cells := 0, slots := 0, locals := 90 } : Room) (va_Pc [.ref (qM 0), .int a1, .int a2] (xP (dC, dI) vwCl [(cI, .int), (cZ, .boolean), (cL, .long)] (wd_M qM cI cZ cL xM) sz)) (va_Qi post (xB (dC, dI) vwCl [(cI, .int), (cZ, .boolean), (cL, .long)] (va_A (wd_M qM cI cZ cL xM) sz) (fun u => (wd_M qM cI cZ cL u))) (va_A (wd_M qM cI cZ cL xM) sz)) 0 0 (va_A (wd_M qM cI cZ cL xM) sz) := by
  refine x_ofI (cc := b_M_call) (maxL := 7) (by decide) rfl (Nat.le_of_ble_eq_true rfl) (fun p e s m below meth c A Q hx hb hml hts hown hK hA hP hD hS hret ls hl => ?_)
  have hl : lv_has ls 7 [(0, .ref (qM 0)), (1, .int a1), (2, .int a2)] := hl
  have jn230 : ∀ (xM_ : St) (v4_ : Int32) (H : Heap) (locs : List Loc) (ls : Array Slot), wj_M_call_230 xM a1 a2 post xM_ v4_ → va_P (dC, dI) vwCl (wd_M qM cI cZ cL xM_) H → va_D A (wd_M qM cI cZ cL xM_) → va_S A s.heap H locs → lv_has ls 7 [(0, .ref (qM 0)), (4, .int v4_)] → W p l e (headSpec w_M_call ({ frames := 4, cells := 0, slots := 0, locals := 90 } : Room)).room s m ([.ref (qM 0), .int a1, .int a2] : List Value).toArray below meth c H locs 0 0 Q (F0 m 230 ls []) := by
    intro xM_ v4_ H locs ls hw hP hD hS hl
    unfold wj_M_call_230 at hw
    refine lv_aload_n hx hb d_M_call_230 rfl (lv_at hl 0 rfl) ?_
    refine x_ci (w2 := fun u231 => (wd_M qM cI cZ cL u231)) [0, 1, 2, 3, 4, 5, 6, 7, 8, 9, 10, 11, 12, 13, 14, 15, 16, 17, 18, 19, 20, 21] [] [0, 1, 2, 3, 4, 5, 6, 7, 8, 9, 10, 11, 12, 13, 14, 15, 16, 17, 18, 19, 20, 21] (va_runV (As := []) (rest := []) ⟨hx, hb, hml, hown, hts⟩ (c_M_settle l dC dI cI cZ cL qM _ xM_ _ hw) (cwV 0 hts (x_gV k_674 k_676 k_11 k_30 k_677) rfl rfl rfl (by decide +kernel) ⟨Nat.le_of_ble_eq_true rfl, Nat.le_of_ble_eq_true rfl⟩) ⟨x_blind, va_recv hK hP (ci := 4) (q0 := 0) rfl rfl, fun U hU hW => x_pre (isC := [0, 1, 2, 3, 4, 5, 6, 7, 8, 9, 10, 11, 12, 13, 14, 15, 16, 17, 18, 19, 20, 21]) hK hP hD rfl rfl hU hW⟩ rfl rfl hl.1 rfl (lv_room (Nat.le_of_ble_eq_true rfl)) d_M_call_231 ⟨Nat.le_of_ble_eq_true rfl, Nat.le_of_ble_eq_true rfl⟩) hP hD hS hA rfl rfl rfl (by decide) (fun _ => rfl) rfl (fun r231 u231 H locs hw hP hD hS => ?_)
    refine lv_pop hx hb d_M_call_234 rfl ?_
    refine lv_iload hx hb d_M_call_235 (lv_at hl 1 rfl) ?_
    exact hret v4_ u231 _ _ _ _ _ _ rfl hw hP hD hS (Nat.le_of_ble_eq_true rfl) (Nat.le_of_ble_eq_true rfl) d_M_call_237
  have jn205 : ∀ (xM_ : St) (v4_ : Int32) (H : Heap) (locs : List Loc) (ls : Array Slot), wj_M_call_205 xM a1 a2 post xM_ v4_ → va_P (dC, dI) vwCl (wd_M qM cI cZ cL xM_) H → va_D A (wd_M qM cI cZ cL xM_) → va_S A s.heap H locs → lv_has ls 7 [(0, .ref (qM 0)), (2, .int a2), (4, .int v4_)] → W p l e (headSpec w_M_call ({ frames := 4, cells := 0, slots := 0, locals := 90 } : Room)).room s m ([.ref (qM 0), .int a1, .int a2] : List Value).toArray below meth c H locs 0 0 Q (F0 m 205 ls []) := by
    intro xM_ v4_ H locs ls hw hP hD hS hl
    unfold wj_M_call_205 at hw
    refine lv_iload_n hx hb d_M_call_205 rfl (lv_at hl 1 rfl) ?_
    refine lv_if_eq (tgt := 230) hx hb d_M_call_206 (by decide) (fun c206 => ?_) (fun c206 => ?_)
    · have hw := hw.1 c206
      exact jn230 xM_ v4_ _ _ _ hw hP hD hS (lv_sub hl [0, 2] rfl)
    · have hw := hw.2 c206
      refine lv_aload_n hx hb d_M_call_209 rfl (lv_at hl 0 rfl) ?_
      refine va_get (D := (dC, dI)) (ci := 4) (v := .ref (qM 27)) (C := "ReleaseRowsModel") (T := T_M) (N := 27) hx hb hts in_M hown hK hP 0 rfl rfl 26 (by decide) (hts _ k_602) (fun _ h9 => h9) rfl d_M_call_210 ?_
      refine lv_aload_n hx hb d_M_call_213 rfl (lv_at hl 0 rfl) ?_
      refine va_get (D := (dC, dI)) (ci := 4) (v := .int (xM_.2 25)) (C := "ReleaseRowsModel") (T := T_M) (N := 27) hx hb hts in_M hown hK hP 0 rfl rfl 25 (by decide) (hts _ k_601) (fun _ h9 => h9) rfl d_M_call_214 ?_
      refine lv_iload hx hb d_M_call_217 (lv_at hl 2 rfl) ?_
      obtain ⟨h219, hw⟩ := hw
      refine va_iast hx hb hK hP hD hS 21 0 rfl rfl h219 d_M_call_219 (fun H locs hP hD hS => ?_)
      have hP := wsP_M_M26 hP
      have hD := wsD_M_M26 hD
      refine lv_aload_n hx hb d_M_call_220 rfl (lv_at hl 0 rfl) ?_
      refine lv_dup hx hb d_M_call_221 rfl ?_
      refine va_get (D := (dC, dI)) (ci := 4) (v := .int ((sA xM_ 26 (xM_.2 25).toNatClampNeg v4_).2 25)) (C := "ReleaseRowsModel") (T := T_M) (N := 27) hx hb hts in_M hown hK hP 0 rfl rfl 25 (by decide) (hts _ k_601) (fun _ h9 => h9) rfl d_M_call_222 ?_
      refine lv_iconst (v := (1 : Int32)) hx hb d_M_call_225 (by decide) ?_
      refine lv_iadd hx hb d_M_call_226 ?_
      refine va_put (D := (dC, dI)) (ci := 4) (v := .int (((sA xM_ 26 (xM_.2 25).toNatClampNeg v4_).2 25) + (1 : Int32))) (ty := .int) (C := "ReleaseRowsModel") (T := T_M) (N := 27) hx hb hts in_M ty_M tyok_M nm_M hown hK hP hD hS 0 rfl rfl 25 (by decide) (hts _ k_601) (fun _ h9 => h9) rfl (by decide +kernel) rfl rfl (Nat.le_of_ble_eq_true rfl) d_M_call_227 (fun H locs hP hD hS => ?_)
      have hP := wsP_M_M25 hP
      have hD := wsD_M_M25 hD
      exact jn230 (sF (sA xM_ 26 (xM_.2 25).toNatClampNeg v4_) 25 (((sA xM_ 26 (xM_.2 25).toNatClampNeg v4_).2 25) + (1 : Int32))) v4_ _ _ _ hw hP hD hS (lv_sub hl [0, 2] rfl)
  have jn154 : ∀ (xM_ : St) (v4_ : Int32) (H : Heap) (locs : List Loc) (ls : Array Slot), wj_M_call_154 xM a1 a2 post xM_ v4_ → va_P (dC, dI) vwCl (wd_M qM cI cZ cL xM_) H → va_D A (wd_M qM cI cZ cL xM_) → va_S A s.heap H locs → lv_has ls 7 [(0, .ref (qM 0)), (2, .int a2), (4, .int v4_)] → W p l e (headSpec w_M_call ({ frames := 4, cells := 0, slots := 0, locals := 90 } : Room)).room s m ([.ref (qM 0), .int a1, .int a2] : List Value).toArray below meth c H locs 0 0 Q (F0 m 154 ls []) := by
    intro xM_ v4_ H locs ls hw hP hD hS hl
    unfold wj_M_call_154 at hw
    refine lv_aload_n hx hb d_M_call_154 rfl (lv_at hl 0 rfl) ?_
    refine va_get (D := (dC, dI)) (ci := 4) (v := .ref (qM 18)) (C := "ReleaseRowsModel") (T := T_M) (N := 27) hx hb hts in_M hown hK hP 0 rfl rfl 17 (by decide) (hts _ k_593) (fun _ h9 => h9) rfl d_M_call_155 ?_
    refine lv_iload hx hb d_M_call_158 (lv_at hl 2 rfl) ?_
    refine lv_iconst (v := (1 : Int32)) hx hb d_M_call_160 (by decide) ?_
    obtain ⟨h161, hw⟩ := hw
    refine va_zast hx hb hK hP hD hS 13 1 rfl rfl h161 d_M_call_161 (fun H locs hP hD hS => ?_)
    have hP := wsP_M_M17 hP
    have hD := wsD_M_M17 hD
    refine lv_aload_n hx hb d_M_call_162 rfl (lv_at hl 0 rfl) ?_
    refine va_get (D := (dC, dI)) (ci := 4) (v := .ref (qM 19)) (C := "ReleaseRowsModel") (T := T_M) (N := 27) hx hb hts in_M hown hK hP 0 rfl rfl 18 (by decide) (hts _ k_594) (fun _ h9 => h9) rfl d_M_call_163 ?_
    refine lv_iload hx hb d_M_call_166 (lv_at hl 2 rfl) ?_
    refine lv_iconst (v := (0 : Int32)) hx hb d_M_call_168 (by decide) ?_
    obtain ⟨h169, hw⟩ := hw
    refine va_zast hx hb hK hP hD hS 14 1 rfl rfl h169 d_M_call_169 (fun H locs hP hD hS => ?_)
    have hP := wsP_M_M18 hP
    have hD := wsD_M_M18 hD
    refine lv_aload_n hx hb d_M_call_170 rfl (lv_at hl 0 rfl) ?_
    refine va_get (D := (dC, dI)) (ci := 4) (v := .ref (qM 20)) (C := "ReleaseRowsModel") (T := T_M) (N := 27) hx hb hts in_M hown hK hP 0 rfl rfl 19 (by decide) (hts _ k_595) (fun _ h9 => h9) rfl d_M_call_171 ?_
    refine lv_iload hx hb d_M_call_174 (lv_at hl 2 rfl) ?_
    refine lv_iconst (v := (0 : Int32)) hx hb d_M_call_176 (by decide) ?_
    obtain ⟨h177, hw⟩ := hw
    refine va_iast hx hb hK hP hD hS 15 0 rfl rfl h177 d_M_call_177 (fun H locs hP hD hS => ?_)
    have hP := wsP_M_M19 hP
    have hD := wsD_M_M19 hD
    refine lv_aload_n hx hb d_M_call_178 rfl (lv_at hl 0 rfl) ?_
    refine va_get (D := (dC, dI)) (ci := 4) (v := .ref (qM 21)) (C := "ReleaseRowsModel") (T := T_M) (N := 27) hx hb hts in_M hown hK hP 0 rfl rfl 20 (by decide) (hts _ k_596) (fun _ h9 => h9) rfl d_M_call_179 ?_
    refine lv_iload hx hb d_M_call_182 (lv_at hl 2 rfl) ?_
    refine lv_iconst (v := (0 : Int32)) hx hb d_M_call_184 (by decide) ?_
    obtain ⟨h185, hw⟩ := hw
    refine va_iast hx hb hK hP hD hS 16 0 rfl rfl h185 d_M_call_185 (fun H locs hP hD hS => ?_)
    have hP := wsP_M_M20 hP
    have hD := wsD_M_M20 hD
    refine lv_aload_n hx hb d_M_call_186 rfl (lv_at hl 0 rfl) ?_
    refine va_get (D := (dC, dI)) (ci := 4) (v := .ref (qM 22)) (C := "ReleaseRowsModel") (T := T_M) (N := 27) hx hb hts in_M hown hK hP 0 rfl rfl 21 (by decide) (hts _ k_597) (fun _ h9 => h9) rfl d_M_call_187 ?_
    refine lv_iload hx hb d_M_call_190 (lv_at hl 2 rfl) ?_
    refine lv_iconst (v := (-1 : Int32)) hx hb d_M_call_192 (by decide) ?_
    obtain ⟨h193, hw⟩ := hw
    refine va_iast hx hb hK hP hD hS 17 0 rfl rfl h193 d_M_call_193 (fun H locs hP hD hS => ?_)
    have hP := wsP_M_M21 hP
    have hD := wsD_M_M21 hD
    refine lv_aload_n hx hb d_M_call_194 rfl (lv_at hl 0 rfl) ?_
    refine va_get (D := (dC, dI)) (ci := 4) (v := .ref (qM 23)) (C := "ReleaseRowsModel") (T := T_M) (N := 27) hx hb hts in_M hown hK hP 0 rfl rfl 22 (by decide) (hts _ k_598) (fun _ h9 => h9) rfl d_M_call_195 ?_
    refine lv_iload hx hb d_M_call_198 (lv_at hl 2 rfl) ?_
    refine lv_dup2_11 hx hb d_M_call_200 rfl rfl ?_
    obtain ⟨h201, hw⟩ := hw
    refine va_iald hx hb hK hP 18 0 rfl rfl h201 d_M_call_201 ?_
    refine lv_iconst (v := (1 : Int32)) hx hb d_M_call_202 (by decide) ?_
    refine lv_iadd hx hb d_M_call_203 ?_
    obtain ⟨h204, hw⟩ := hw
    refine va_iast hx hb hK hP hD hS 18 0 rfl rfl h204 d_M_call_204 (fun H locs hP hD hS => ?_)
    have hP := wsP_M_M22 hP
    have hD := wsD_M_M22 hD
    exact jn205 (sA (sA (sA (sA (sA (sA xM_ 17 v4_.toNatClampNeg (vp_nar .boolean (1 : Int32))) 18 v4_.toNatClampNeg (vp_nar .boolean (0 : Int32))) 19 v4_.toNatClampNeg (0 : Int32)) 20 v4_.toNatClampNeg (0 : Int32)) 21 v4_.toNatClampNeg (-1 : Int32)) 22 v4_.toNatClampNeg (((sA (sA (sA (sA (sA xM_ 17 v4_.toNatClampNeg (vp_nar .boolean (1 : Int32))) 18 v4_.toNatClampNeg (vp_nar .boolean (0 : Int32))) 19 v4_.toNatClampNeg (0 : Int32)) 20 v4_.toNatClampNeg (0 : Int32)) 21 v4_.toNatClampNeg (-1 : Int32)).1 22 v4_.toNatClampNeg) + (1 : Int32))) v4_ _ _ _ hw hP hD hS hl
  have jn121 : ∀ (xM_ : St) (s0_ : Int32) (v5_ : Int32) (H : Heap) (locs : List Loc) (ls : Array Slot), wj_M_call_121 xM a1 a2 post xM_ s0_ v5_ → va_P (dC, dI) vwCl (wd_M qM cI cZ cL xM_) H → va_D A (wd_M qM cI cZ cL xM_) → va_S A s.heap H locs → lv_has ls 7 [(0, .ref (qM 0)), (1, .int a1), (2, .int a2), (5, .int v5_)] → W p l e (headSpec w_M_call ({ frames := 4, cells := 0, slots := 0, locals := 90 } : Room)).room s m ([.ref (qM 0), .int a1, .int a2] : List Value).toArray below meth c H locs 0 0 Q (F0 m 121 ls [.int s0_]) := by
    intro xM_ s0_ v5_ H locs ls hw hP hD hS hl
    unfold wj_M_call_121 at hw
    refine lv_istore (lv' := [(4, .int s0_), (0, .ref (qM 0)), (1, .int a1), (2, .int a2), (5, .int v5_)]) hx hb d_M_call_121 hl (by decide) rfl (fun ls hl => ?_)
    refine lv_iload hx hb d_M_call_123 (lv_at hl 4 rfl) ?_
    refine lv_if_ge (tgt := 154) hx hb d_M_call_125 (by decide) (fun c125 => ?_) (fun c125 => ?_)
    · have hw := hw.1 c125
      exact jn154 xM_ s0_ _ _ _ hw hP hD hS (lv_sub hl [1, 3, 0] rfl)
    · have hw := hw.2 c125
      refine lv_aload_n hx hb d_M_call_128 rfl (lv_at hl 1 rfl) ?_
      refine va_get (D := (dC, dI)) (ci := 4) (v := .ref (qM 17)) (C := "ReleaseRowsModel") (T := T_M) (N := 27) hx hb hts in_M hown hK hP 0 rfl rfl 16 (by decide) (hts _ k_592) (fun _ h9 => h9) rfl d_M_call_129 ?_
      refine lv_iload hx hb d_M_call_132 (lv_at hl 0 rfl) ?_
      refine lv_iload_n hx hb d_M_call_134 rfl (lv_at hl 2 rfl) ?_
      obtain ⟨h135, hw⟩ := hw
      refine va_iast hx hb hK hP hD hS 12 0 rfl rfl h135 d_M_call_135 (fun H locs hP hD hS => ?_)
      have hP := wsP_M_M16 hP
      have hD := wsD_M_M16 hD
      refine lv_aload_n hx hb d_M_call_136 rfl (lv_at hl 1 rfl) ?_
      refine va_get (D := (dC, dI)) (ci := 4) (v := .ref (qM 25)) (C := "ReleaseRowsModel") (T := T_M) (N := 27) hx hb hts in_M hown hK hP 0 rfl rfl 24 (by decide) (hts _ k_600) (fun _ h9 => h9) rfl d_M_call_137 ?_
      refine lv_iload hx hb d_M_call_140 (lv_at hl 0 rfl) ?_
      refine lv_iconst (v := (-1 : Int32)) hx hb d_M_call_142 (by decide) ?_
      obtain ⟨h143, hw⟩ := hw
      refine va_iast hx hb hK hP hD hS 20 0 rfl rfl h143 d_M_call_143 (fun H locs hP hD hS => ?_)
      have hP := wsP_M_M24 hP
      have hD := wsD_M_M24 hD
      refine lv_aload_n hx hb d_M_call_144 rfl (lv_at hl 1 rfl) ?_
      refine lv_dup hx hb d_M_call_145 rfl ?_
      refine va_get (D := (dC, dI)) (ci := 4) (v := .int ((sA (sA xM_ 16 s0_.toNatClampNeg a1) 24 s0_.toNatClampNeg (-1 : Int32)).2 15)) (C := "ReleaseRowsModel") (T := T_M) (N := 27) hx hb hts in_M hown hK hP 0 rfl rfl 15 (by decide) (hts _ k_591) (fun _ h9 => h9) rfl d_M_call_146 ?_
      refine lv_iconst (v := (1 : Int32)) hx hb d_M_call_149 (by decide) ?_
      refine lv_iadd hx hb d_M_call_150 ?_
      refine va_put (D := (dC, dI)) (ci := 4) (v := .int (((sA (sA xM_ 16 s0_.toNatClampNeg a1) 24 s0_.toNatClampNeg (-1 : Int32)).2 15) + (1 : Int32))) (ty := .int) (C := "ReleaseRowsModel") (T := T_M) (N := 27) hx hb hts in_M ty_M tyok_M nm_M hown hK hP hD hS 0 rfl rfl 15 (by decide) (hts _ k_591) (fun _ h9 => h9) rfl (by decide +kernel) rfl rfl (Nat.le_of_ble_eq_true rfl) d_M_call_151 (fun H locs hP hD hS => ?_)
      have hP := wsP_M_M15 hP
      have hD := wsD_M_M15 hD
      exact jn154 (sF (sA (sA xM_ 16 s0_.toNatClampNeg a1) 24 s0_.toNatClampNeg (-1 : Int32)) 15 (((sA (sA xM_ 16 s0_.toNatClampNeg a1) 24 s0_.toNatClampNeg (-1 : Int32)).2 15) + (1 : Int32))) s0_ _ _ _ hw hP hD hS (lv_sub hl [1, 3, 0] rfl)
  have jn92 : ∀ (xM_ : St) (s0_ : Int32) (s1_ : Int32) (v4_ : Int32) (v5_ : Int32) (H : Heap) (locs : List Loc) (ls : Array Slot), wj_M_call_92 xM a1 a2 post xM_ s0_ s1_ v4_ v5_ → va_P (dC, dI) vwCl (wd_M qM cI cZ cL xM_) H → va_D A (wd_M qM cI cZ cL xM_) → va_S A s.heap H locs → lv_has ls 7 [(0, .ref (qM 0)), (1, .int a1), (2, .int a2), (4, .int v4_), (5, .int v5_)] → W p l e (headSpec w_M_call ({ frames := 4, cells := 0, slots := 0, locals := 90 } : Room)).room s m ([.ref (qM 0), .int a1, .int a2] : List Value).toArray below meth c H locs 0 0 Q (F0 m 92 ls [.int s0_, .int s1_, .ref (qM 0)]) := by
    intro xM_ s0_ s1_ v4_ v5_ H locs ls hw hP hD hS hl
    unfold wj_M_call_92 at hw
    refine lv_iconst (v := (0 : Int32)) hx hb d_M_call_92 (by decide) ?_
    refine lv_iconst (v := (0 : Int32)) hx hb d_M_call_93 (by decide) ?_
    refine x_ci (w2 := fun u94 => (wd_M qM cI cZ cL u94)) [0, 1, 2, 3, 4, 5, 6, 7, 8, 9, 10, 11, 12, 13, 14, 15, 16, 17, 18, 19, 20, 21] [] [0, 1, 2, 3, 4, 5, 6, 7, 8, 9, 10, 11, 12, 13, 14, 15, 16, 17, 18, 19, 20, 21] (va_runV (As := [.int s1_, .int s0_, .int (0 : Int32), .int (0 : Int32)]) (rest := []) ⟨hx, hb, hml, hown, hts⟩ (c_M_throwing l dC dI cI cZ cL qM _ xM_ s1_ s0_ (0 : Int32) (0 : Int32) _ hw) (cwV 4 hts (x_gV k_670 k_672 k_10 k_30 k_673) rfl rfl rfl (by decide +kernel) ⟨Nat.le_of_ble_eq_true rfl, Nat.le_of_ble_eq_true rfl⟩) ⟨x_blind, va_recv hK hP (ci := 4) (q0 := 0) rfl rfl, fun U hU hW => x_pre (isC := [0, 1, 2, 3, 4, 5, 6, 7, 8, 9, 10, 11, 12, 13, 14, 15, 16, 17, 18, 19, 20, 21]) hK hP hD rfl rfl hU hW⟩ rfl rfl hl.1 rfl (lv_room (Nat.le_of_ble_eq_true rfl)) d_M_call_94 ⟨Nat.le_of_ble_eq_true rfl, Nat.le_of_ble_eq_true rfl⟩) hP hD hS hA rfl rfl rfl (by decide) (fun _ => rfl) rfl (fun r94 u94 H locs hw hP hD hS => ?_)
    refine lv_if_eq (tgt := 102) hx hb d_M_call_97 (by decide) (fun c97 => ?_) (fun c97 => ?_)
    · have hw := hw.1 c97
      refine lv_iload hx hb d_M_call_102 (lv_at hl 3 rfl) ?_
      refine lv_if_ge (tgt := 205) hx hb d_M_call_104 (by decide) (fun c104 => ?_) (fun c104 => ?_)
      · have hw := hw.1 c104
        exact jn205 u94 v4_ _ _ _ hw hP hD hS (lv_sub hl [0, 2, 3] rfl)
      · have hw := hw.2 c104
        refine lv_iload hx hb d_M_call_107 (lv_at hl 4 rfl) ?_
        refine lv_if_lt (tgt := 117) hx hb d_M_call_109 (by decide) (fun c109 => ?_) (fun c109 => ?_)
        · have hw := hw.1 c109
          refine lv_aload_n hx hb d_M_call_117 rfl (lv_at hl 0 rfl) ?_
          refine va_get (D := (dC, dI)) (ci := 4) (v := .int (u94.2 15)) (C := "ReleaseRowsModel") (T := T_M) (N := 27) hx hb hts in_M hown hK hP 0 rfl rfl 15 (by decide) (hts _ k_591) (fun _ h9 => h9) rfl d_M_call_118 ?_
          exact jn121 u94 (u94.2 15) v5_ _ _ _ hw hP hD hS (lv_sub hl [0, 1, 2, 4] rfl)
        · have hw := hw.2 c109
          refine lv_iload hx hb d_M_call_112 (lv_at hl 4 rfl) ?_
          refine lv_goto (tgt := 121) hx hb d_M_call_114 (by decide) ?_
          exact jn121 u94 v5_ v5_ _ _ _ hw hP hD hS (lv_sub hl [0, 1, 2, 4] rfl)
    · have hw := hw.2 c97
      refine lv_iconst (v := (0 : Int32)) hx hb d_M_call_100 (by decide) ?_
      exact hret (0 : Int32) u94 _ _ _ _ _ _ rfl hw hP hD hS (Nat.le_of_ble_eq_true rfl) (Nat.le_of_ble_eq_true rfl) d_M_call_101
  have jn91 : ∀ (xM_ : St) (s0_ : Int32) (v4_ : Int32) (v5_ : Int32) (H : Heap) (locs : List Loc) (ls : Array Slot), wj_M_call_91 xM a1 a2 post xM_ s0_ v4_ v5_ → va_P (dC, dI) vwCl (wd_M qM cI cZ cL xM_) H → va_D A (wd_M qM cI cZ cL xM_) → va_S A s.heap H locs → lv_has ls 7 [(0, .ref (qM 0)), (1, .int a1), (2, .int a2), (4, .int v4_), (5, .int v5_)] → W p l e (headSpec w_M_call ({ frames := 4, cells := 0, slots := 0, locals := 90 } : Room)).room s m ([.ref (qM 0), .int a1, .int a2] : List Value).toArray below meth c H locs 0 0 Q (F0 m 91 ls [.int s0_, .ref (qM 0)]) := by
    intro xM_ s0_ v4_ v5_ H locs ls hw hP hD hS hl
    unfold wj_M_call_91 at hw
    refine lv_iconst (v := (0 : Int32)) hx hb d_M_call_91 (by decide) ?_
    exact jn92 xM_ (0 : Int32) s0_ v4_ v5_ _ _ _ hw hP hD hS hl
  have jn87 : ∀ (xM_ : St) (s0_ : Int32) (v4_ : Int32) (v5_ : Int32) (H : Heap) (locs : List Loc) (ls : Array Slot), wj_M_call_87 xM a1 a2 post xM_ s0_ v4_ v5_ → va_P (dC, dI) vwCl (wd_M qM cI cZ cL xM_) H → va_D A (wd_M qM cI cZ cL xM_) → va_S A s.heap H locs → lv_has ls 7 [(0, .ref (qM 0)), (1, .int a1), (2, .int a2), (4, .int v4_), (5, .int v5_)] → W p l e (headSpec w_M_call ({ frames := 4, cells := 0, slots := 0, locals := 90 } : Room)).room s m ([.ref (qM 0), .int a1, .int a2] : List Value).toArray below meth c H locs 0 0 Q (F0 m 87 ls [.int s0_, .ref (qM 0)]) := by
    intro xM_ s0_ v4_ v5_ H locs ls hw hP hD hS hl
    unfold wj_M_call_87 at hw
    refine lv_iconst (v := (1 : Int32)) hx hb d_M_call_87 (by decide) ?_
    refine lv_goto (tgt := 92) hx hb d_M_call_88 (by decide) ?_
    exact jn92 xM_ (1 : Int32) s0_ v4_ v5_ _ _ _ hw hP hD hS hl
  have jn65 : ∀ (xM_ : St) (s0_ : Int32) (v3_ : Int32) (v4_ : Int32) (v5_ : Int32) (H : Heap) (locs : List Loc) (ls : Array Slot), wj_M_call_65 xM a1 a2 post xM_ s0_ v3_ v4_ v5_ → va_P (dC, dI) vwCl (wd_M qM cI cZ cL xM_) H → va_D A (wd_M qM cI cZ cL xM_) → va_S A s.heap H locs → lv_has ls 7 [(0, .ref (qM 0)), (1, .int a1), (2, .int a2), (3, .int v3_), (4, .int v4_), (5, .int v5_)] → W p l e (headSpec w_M_call ({ frames := 4, cells := 0, slots := 0, locals := 90 } : Room)).room s m ([.ref (qM 0), .int a1, .int a2] : List Value).toArray below meth c H locs 0 0 Q (F0 m 65 ls [.int s0_]) := by
    intro xM_ s0_ v3_ v4_ v5_ H locs ls hw hP hD hS hl
    unfold wj_M_call_65 at hw
    refine lv_istore (lv' := [(6, .int s0_), (0, .ref (qM 0)), (1, .int a1), (2, .int a2), (3, .int v3_), (4, .int v4_), (5, .int v5_)]) hx hb d_M_call_65 hl (by decide) rfl (fun ls hl => ?_)
    refine lv_aload_n hx hb d_M_call_67 rfl (lv_at hl 1 rfl) ?_
    refine lv_iload_n hx hb d_M_call_68 rfl (lv_at hl 4 rfl) ?_
    refine lv_iload hx hb d_M_call_69 (lv_at hl 0 rfl) ?_
    refine lv_if_eq (tgt := 87) hx hb d_M_call_71 (by decide) (fun c71 => ?_) (fun c71 => ?_)
    · have hw := hw.1 c71
      exact jn87 xM_ v3_ v4_ v5_ _ _ _ hw hP hD hS (lv_sub hl [1, 2, 3, 5, 6] rfl)
    · have hw := hw.2 c71
      refine lv_iload_n hx hb d_M_call_74 rfl (lv_at hl 3 rfl) ?_
      refine lv_if_eq (tgt := 91) hx hb d_M_call_75 (by decide) (fun c75 => ?_) (fun c75 => ?_)
      · have hw := hw.1 c75
        exact jn91 xM_ v3_ v4_ v5_ _ _ _ hw hP hD hS (lv_sub hl [1, 2, 3, 5, 6] rfl)
      · have hw := hw.2 c75
        refine lv_aload_n hx hb d_M_call_78 rfl (lv_at hl 1 rfl) ?_
        refine va_get (D := (dC, dI)) (ci := 4) (v := .int (xM_.2 25)) (C := "ReleaseRowsModel") (T := T_M) (N := 27) hx hb hts in_M hown hK hP 0 rfl rfl 25 (by decide) (hts _ k_601) (fun _ h9 => h9) rfl d_M_call_79 ?_
        refine lv_bipush (v := (30 : Int32)) hx hb d_M_call_82 (by decide) ?_
        refine lv_icmp_ne (tgt := 91) hx hb d_M_call_84 (by decide) (fun c84 => ?_) (fun c84 => ?_)
        · have hw := hw.1 c84
          exact jn91 xM_ v3_ v4_ v5_ _ _ _ hw hP hD hS (lv_sub hl [1, 2, 3, 5, 6] rfl)
        · have hw := hw.2 c84
          exact jn87 xM_ v3_ v4_ v5_ _ _ _ hw hP hD hS (lv_sub hl [1, 2, 3, 5, 6] rfl)
  have jn60 : ∀ (xM_ : St) (v3_ : Int32) (v4_ : Int32) (v5_ : Int32) (H : Heap) (locs : List Loc) (ls : Array Slot), wj_M_call_60 xM a1 a2 post xM_ v3_ v4_ v5_ → va_P (dC, dI) vwCl (wd_M qM cI cZ cL xM_) H → va_D A (wd_M qM cI cZ cL xM_) → va_S A s.heap H locs → lv_has ls 7 [(0, .ref (qM 0)), (1, .int a1), (2, .int a2), (3, .int v3_), (4, .int v4_), (5, .int v5_)] → W p l e (headSpec w_M_call ({ frames := 4, cells := 0, slots := 0, locals := 90 } : Room)).room s m ([.ref (qM 0), .int a1, .int a2] : List Value).toArray below meth c H locs 0 0 Q (F0 m 60 ls []) := by
    intro xM_ v3_ v4_ v5_ H locs ls hw hP hD hS hl
    unfold wj_M_call_60 at hw
    refine lv_iconst (v := (1 : Int32)) hx hb d_M_call_60 (by decide) ?_
    refine lv_goto (tgt := 65) hx hb d_M_call_61 (by decide) ?_
    exact jn65 xM_ (1 : Int32) v3_ v4_ v5_ _ _ _ hw hP hD hS hl
  have jn39 : ∀ (xM_ : St) (s0_ : Int32) (v3_ : Int32) (v4_ : Int32) (H : Heap) (locs : List Loc) (ls : Array Slot), wj_M_call_39 xM a1 a2 post xM_ s0_ v3_ v4_ → va_P (dC, dI) vwCl (wd_M qM cI cZ cL xM_) H → va_D A (wd_M qM cI cZ cL xM_) → va_S A s.heap H locs → lv_has ls 7 [(0, .ref (qM 0)), (1, .int a1), (2, .int a2), (3, .int v3_), (4, .int v4_)] → W p l e (headSpec w_M_call ({ frames := 4, cells := 0, slots := 0, locals := 90 } : Room)).room s m ([.ref (qM 0), .int a1, .int a2] : List Value).toArray below meth c H locs 0 0 Q (F0 m 39 ls [.int s0_]) := by
    intro xM_ s0_ v3_ v4_ H locs ls hw hP hD hS hl
    unfold wj_M_call_39 at hw
    refine lv_istore (lv' := [(5, .int s0_), (0, .ref (qM 0)), (1, .int a1), (2, .int a2), (3, .int v3_), (4, .int v4_)]) hx hb d_M_call_39 hl (by decide) rfl (fun ls hl => ?_)
    refine lv_iload hx hb d_M_call_41 (lv_at hl 5 rfl) ?_
    refine lv_if_ge (tgt := 60) hx hb d_M_call_43 (by decide) (fun c43 => ?_) (fun c43 => ?_)
    · have hw := hw.1 c43
      exact jn60 xM_ v3_ v4_ s0_ _ _ _ hw hP hD hS (lv_sub hl [1, 2, 3, 4, 5, 0] rfl)
    · have hw := hw.2 c43
      refine lv_iload hx hb d_M_call_46 (lv_at hl 0 rfl) ?_
      refine lv_if_ge (tgt := 60) hx hb d_M_call_48 (by decide) (fun c48 => ?_) (fun c48 => ?_)
      · have hw := hw.1 c48
        exact jn60 xM_ v3_ v4_ s0_ _ _ _ hw hP hD hS (lv_sub hl [1, 2, 3, 4, 5, 0] rfl)
      · have hw := hw.2 c48
        refine lv_aload_n hx hb d_M_call_51 rfl (lv_at hl 1 rfl) ?_
        refine va_get (D := (dC, dI)) (ci := 4) (v := .int (xM_.2 15)) (C := "ReleaseRowsModel") (T := T_M) (N := 27) hx hb hts in_M hown hK hP 0 rfl rfl 15 (by decide) (hts _ k_591) (fun _ h9 => h9) rfl d_M_call_52 ?_
        refine lv_bipush (v := (20 : Int32)) hx hb d_M_call_55 (by decide) ?_
        refine lv_icmp_ge (tgt := 64) hx hb d_M_call_57 (by decide) (fun c57 => ?_) (fun c57 => ?_)
        · have hw := hw.1 c57
          refine lv_iconst (v := (0 : Int32)) hx hb d_M_call_64 (by decide) ?_
          exact jn65 xM_ (0 : Int32) v3_ v4_ s0_ _ _ _ hw hP hD hS (lv_sub hl [1, 2, 3, 4, 5, 0] rfl)
        · have hw := hw.2 c57
          exact jn60 xM_ v3_ v4_ s0_ _ _ _ hw hP hD hS (lv_sub hl [1, 2, 3, 4, 5, 0] rfl)
  have jn15 : ∀ (xM_ : St) (s0_ : Int32) (H : Heap) (locs : List Loc) (ls : Array Slot), wj_M_call_15 xM a1 a2 post xM_ s0_ → va_P (dC, dI) vwCl (wd_M qM cI cZ cL xM_) H → va_D A (wd_M qM cI cZ cL xM_) → va_S A s.heap H locs → lv_has ls 7 [(0, .ref (qM 0)), (1, .int a1), (2, .int a2)] → W p l e (headSpec w_M_call ({ frames := 4, cells := 0, slots := 0, locals := 90 } : Room)).room s m ([.ref (qM 0), .int a1, .int a2] : List Value).toArray below meth c H locs 0 0 Q (F0 m 15 ls [.int s0_]) := by
    intro xM_ s0_ H locs ls hw hP hD hS hl
    unfold wj_M_call_15 at hw
    refine lv_istore_n (lv' := [(3, .int s0_), (0, .ref (qM 0)), (1, .int a1), (2, .int a2)]) hx hb d_M_call_15 rfl hl (by decide) rfl (fun ls hl => ?_)
    refine lv_aload_n hx hb d_M_call_16 rfl (lv_at hl 1 rfl) ?_
    refine lv_iload_n hx hb d_M_call_17 rfl (lv_at hl 2 rfl) ?_
    refine lv_iconst (v := (1 : Int32)) hx hb d_M_call_18 (by decide) ?_
    refine x_ci (w2 := fun _ => (wd_M qM cI cZ cL xM_)) [0, 1, 2, 3, 4, 5, 6, 7, 8, 9, 10, 11, 12, 13, 14, 15, 16, 17, 18, 19, 20, 21] [] [0, 1, 2, 3, 4, 5, 6, 7, 8, 9, 10, 11, 12, 13, 14, 15, 16, 17, 18, 19, 20, 21] (va_runV (As := [.int a1, .int (1 : Int32)]) (rest := []) ⟨hx, hb, hml, hown, hts⟩ (c_M_found l dC dI cI cZ cL qM _ xM_ a1 (1 : Int32) _ hw) (cwV 2 hts (x_gV k_736 k_738 k_22 k_30 k_739) rfl rfl rfl (by decide +kernel) ⟨Nat.le_of_ble_eq_true rfl, Nat.le_of_ble_eq_true rfl⟩) ⟨x_blind, va_recv hK hP (ci := 4) (q0 := 0) rfl rfl, fun U hU hW => x_pre (isC := [0, 1, 2, 3, 4, 5, 6, 7, 8, 9, 10, 11, 12, 13, 14, 15, 16, 17, 18, 19, 20, 21]) hK hP hD rfl rfl hU hW⟩ rfl rfl hl.1 rfl (lv_room (Nat.le_of_ble_eq_true rfl)) d_M_call_19 ⟨Nat.le_of_ble_eq_true rfl, Nat.le_of_ble_eq_true rfl⟩) hP hD hS hA rfl rfl rfl (by decide) (fun _ => rfl) rfl (fun r19 _ H locs hw hP hD hS => ?_)
    refine lv_istore (lv' := [(4, .int r19), (3, .int s0_), (0, .ref (qM 0)), (1, .int a1), (2, .int a2)]) hx hb d_M_call_22 hl (by decide) rfl (fun ls hl => ?_)
    refine lv_iload hx hb d_M_call_24 (lv_at hl 0 rfl) ?_
    refine lv_if_ge (tgt := 38) hx hb d_M_call_26 (by decide) (fun c26 => ?_) (fun c26 => ?_)
    · have hw := hw.1 c26
      refine lv_iconst (v := (-1 : Int32)) hx hb d_M_call_38 (by decide) ?_
      exact jn39 xM_ (-1 : Int32) s0_ r19 _ _ _ hw hP hD hS (lv_sub hl [2, 3, 4, 1, 0] rfl)
    · have hw := hw.2 c26
      refine lv_aload_n hx hb d_M_call_29 rfl (lv_at hl 2 rfl) ?_
      refine lv_iload_n hx hb d_M_call_30 rfl (lv_at hl 3 rfl) ?_
      refine lv_iconst (v := (0 : Int32)) hx hb d_M_call_31 (by decide) ?_
      refine x_ci (w2 := fun _ => (wd_M qM cI cZ cL xM_)) [0, 1, 2, 3, 4, 5, 6, 7, 8, 9, 10, 11, 12, 13, 14, 15, 16, 17, 18, 19, 20, 21] [] [0, 1, 2, 3, 4, 5, 6, 7, 8, 9, 10, 11, 12, 13, 14, 15, 16, 17, 18, 19, 20, 21] (va_runV (As := [.int a1, .int (0 : Int32)]) (rest := []) ⟨hx, hb, hml, hown, hts⟩ (c_M_found l dC dI cI cZ cL qM _ xM_ a1 (0 : Int32) _ hw) (cwV 2 hts (x_gV k_736 k_738 k_22 k_30 k_739) rfl rfl rfl (by decide +kernel) ⟨Nat.le_of_ble_eq_true rfl, Nat.le_of_ble_eq_true rfl⟩) ⟨x_blind, va_recv hK hP (ci := 4) (q0 := 0) rfl rfl, fun U hU hW => x_pre (isC := [0, 1, 2, 3, 4, 5, 6, 7, 8, 9, 10, 11, 12, 13, 14, 15, 16, 17, 18, 19, 20, 21]) hK hP hD rfl rfl hU hW⟩ rfl rfl hl.1 rfl (lv_room (Nat.le_of_ble_eq_true rfl)) d_M_call_32 ⟨Nat.le_of_ble_eq_true rfl, Nat.le_of_ble_eq_true rfl⟩) hP hD hS hA rfl rfl rfl (by decide) (fun _ => rfl) rfl (fun r32 _ H locs hw hP hD hS => ?_)
      refine lv_goto (tgt := 39) hx hb d_M_call_35 (by decide) ?_
      exact jn39 xM_ r32 s0_ r19 _ _ _ hw hP hD hS (lv_sub hl [2, 3, 4, 1, 0] rfl)
  unfold wp_M_call at hw
  refine lv_iload_n hx hb d_M_call_0 rfl (lv_at hl 1 rfl) ?_
  refine lv_iconst (v := (0 : Int32)) hx hb d_M_call_1 (by decide) ?_
  refine lv_bipush (v := (99 : Int32)) hx hb d_M_call_2 (by decide) ?_
  refine x_ci (w2 := fun _ => (wd_M qM cI cZ cL xM)) [] [0, 1, 2, 3, 4, 5, 6, 7, 8, 9, 10, 11, 12, 13, 14, 15, 16, 17, 18, 19, 20, 21] [0, 1, 2, 3, 4, 5, 6, 7, 8, 9, 10, 11, 12, 13, 14, 15, 16, 17, 18, 19, 20, 21] (va_runS (As := [.int a1, .int (0 : Int32), .int (99 : Int32)]) (rest := []) ⟨hx, hb, hml, hown, hts⟩ (c_M_in l dC dI cI cZ cL  _ a1 (0 : Int32) (99 : Int32) _ hw) (cwS 3 hts (x_gS k_667 k_668 k_30 k_669) rfl rfl rfl (by decide +kernel) ⟨Nat.le_of_ble_eq_true rfl, Nat.le_of_ble_eq_true rfl⟩) ⟨x_blind, fun U hU hW => x_pre (isC := []) hK hP hD rfl rfl hU hW⟩ rfl rfl hl.1 rfl (lv_room (Nat.le_of_ble_eq_true rfl)) d_M_call_4 ⟨Nat.le_of_ble_eq_true rfl, Nat.le_of_ble_eq_true rfl⟩) hP hD hS hA rfl rfl rfl (by decide) (fun _ => rfl) rfl (fun r4 _ H locs hw hP hD hS => ?_)
  refine lv_if_ne (tgt := 14) hx hb d_M_call_7 (by decide) (fun c7 => ?_) (fun c7 => ?_)
  · have hw := hw.1 c7
    refine lv_iconst (v := (0 : Int32)) hx hb d_M_call_14 (by decide) ?_
    exact jn15 xM (0 : Int32) _ _ _ hw hP hD hS hl
  · have hw := hw.2 c7
    refine lv_iconst (v := (1 : Int32)) hx hb d_M_call_10 (by decide) ?_
    refine lv_goto (tgt := 15) hx hb d_M_call_11 (by decide) ?_
    exact jn15 xM (1 : Int32) _ _ _ hw hP hD hS hl

